section m1
variable {g : zG} {h hh : zH} {F : Nat → Nat} {S : Int64} {z : Nat → Nat} {A : Nat → Nat → Nat} {X : Nat → Int32}
theorem bAl_le {s : Nat} {K : Nat → Nat} {f t : Nat} (hs : s ≤ 3) : bAl s K f t ≤ 3 := by unfold bAl; (repeat' split) <;> omega
theorem m_measure  {b c f t : Nat} (hb : b < 168) (h6 : A 6 b = c) (h7 : A 7 b = f) (h8 : A 8 b = t) (hB : mBlk z c f t) (hzb : ∀ j, z j < 1000) (h4 : A 4 c ≤ 3) (hg : 1 ≤ F 10) (hg8 : F 10 ≤ 8) (hlw : F 9 ≤ 20) (hpd : F 8 ≤ 8) : Zx g zX10_measure [.ref 50, .int (nI b)] (mhp h F S z A X) none (mhp h F S z (va_up (va_up (va_up (va_up A 9 (va_up (A 9) b (bAl (A 4 c) (mK z c) f t))) 11 (va_up (A 11) b (bPart (bAl (A 4 c) (mK z c) f t) (mK z c) (mN z c) (mH z c) f t))) 10 (va_up (A 10) b (bCont (bAl (A 4 c) (mK z c) f t) (mK z c) (mN z c) (mH z c) f t))) 12 (va_up (A 12) b (bWid (bCont (bAl (A 4 c) (mK z c) f t) (mK z c) (mN z c) (mH z c) f t) (F 9) (F 8) (F 10)))) X) := by
  obtain ⟨b1, b2, b3, b4, b5⟩ := id hB
  have hal : bAl (A 4 c) (mK z c) f t ≤ 3 := bAl_le h4
  show Zn g zX10_measure 0 [some (.ref 50), some (.int (nI b)), none, none, none, none, none] [] (mhp h F S z A X) 0 0 _
  refine zn_aload_n (pc := 0) rfl rfl ?_
  refine zn_get (pc := 1) (v := .ref 57) rfl rfl rfl ?_
  refine zn_iload_n (pc := 4) rfl rfl ?_
  refine zm_ldA (pc := 5) (i := 6) (n := 168) (Z := (A 6)) (j := b) rfl (by decide) (by decide) rfl mln6 rfl (by omega) (Nat.le_of_ble_eq_true rfl) ?_
  refine zn_top (v' := .int (nI c)) (by rw [h6]) ?_
  refine zn_istore_n (pc := 6) (L' := [some (.ref 50), some (.int (nI b)), some (.int (nI c)), none, none, none, none]) rfl (by decide) rfl ?_
  refine zn_iconstN (pc := 7) 0 rfl rfl ?_
  refine zn_istore_n (pc := 8) (L' := [some (.ref 50), some (.int (nI b)), some (.int (nI c)), some (.int (nI 0)), none, none, none]) rfl (by decide) rfl ?_
  refine zn_iconstN (pc := 9) 0 rfl rfl ?_
  refine zn_istore (pc := 10) (L' := [some (.ref 50), some (.int (nI b)), some (.int (nI c)), some (.int (nI 0)), some (.int (nI 0)), none, none]) rfl (by decide) rfl ?_
  refine zn_aload_n (pc := 12) rfl rfl ?_
  refine zn_get (pc := 13) (v := .ref 60) rfl rfl rfl ?_
  refine zn_iload_n (pc := 16) rfl rfl ?_
  refine zn_joinV (v := .int (nI (bAl (A 4 c) (mK z c) f t))) (pj := 49) ?_ (fun K1 => ?_)
  · refine zm_stA (pc := 49) (i := 9) (n := 168) (j := b) (v := (bAl (A 4 c) (mK z c) f t)) rfl (by decide) (by decide) rfl mln9 (by omega) (Nat.le_of_ble_eq_true rfl) ?_
    refine zn_aload_n (pc := 50) rfl rfl ?_
    refine zn_get (pc := 51) (v := .ref 62) rfl rfl rfl ?_
    refine zn_iload_n (pc := 54) rfl rfl ?_
    refine zn_iconstN (pc := 55) 0 rfl rfl ?_
    refine zm_stA (pc := 56) (i := 11) (n := 168) (j := b) (v := 0) rfl (by decide) (by decide) rfl mln11 (by omega) (Nat.le_of_ble_eq_true rfl) ?_
    refine zn_aload_n (pc := 57) rfl rfl ?_
    refine zn_get (pc := 58) (v := .ref 58) rfl rfl rfl ?_
    refine zn_iload_n (pc := 61) rfl rfl ?_
    refine zm_ldA (pc := 62) (i := 7) (n := 168) (Z := (A 7)) (j := b) rfl (by decide) (by decide) rfl mln7 ((va_upN (by decide)).trans (va_upN (by decide))) (by omega) (Nat.le_of_ble_eq_true rfl) ?_
    refine zn_top (v' := .int (nI f)) (by rw [h7]) ?_
    refine zn_istore (pc := 63) (L' := [some (.ref 50), some (.int (nI b)), some (.int (nI c)), some (.int (nI 0)), some (.int (nI 0)), some (.int (nI f)), none]) rfl (by decide) rfl ?_
    exact m_measure_l hb h6 h7 h8 hB hzb h4 hg hg8 hlw hpd hal (t + 1 - f) f 0 0 0 (by omega) (by omega) rfl rfl rfl (by omega) (by omega) (by omega)
  · refine zn_aload_n (pc := 17) rfl rfl ?_
    refine zn_get (pc := 18) (v := .ref 55) rfl rfl rfl ?_
    refine zn_iload_n (pc := 21) rfl rfl ?_
    refine zm_ldA (pc := 22) (i := 4) (n := 7) (Z := (A 4)) (j := c) rfl (by decide) (by decide) rfl mln4 rfl (by omega) (Nat.le_of_ble_eq_true rfl) ?_
    refine zn_iconstN (pc := 23) 3 rfl rfl ?_
    refine zn_icmp_geN (pc := 24) (tgt := 36) (x := ((A 4) c)) (y := 3) rfl rfl (by omega) (by omega) (fun c2 => ?_) (fun c2 => ?_)
    · refine zn_aload_n (pc := 36) rfl rfl ?_
      refine zn_iload_n (pc := 37) rfl rfl ?_
      refine zn_callVx (pc := 38) (J := zX10_isDecimal) (o := 50) (as := [.int (nI b)]) (rest := [.int (nI b), .ref 60]) rfl rfl rfl rfl rfl rfl rfl rfl (Nat.le_of_ble_eq_true rfl) (Nat.le_of_ble_eq_true rfl) (Nat.le_of_ble_eq_true rfl) (Nat.le_of_ble_eq_true rfl) (m_isDecimal hb h6 h7 h8 hB hzb) ?_
      refine zn_if_eqB (pc := 41) (tgt := 48) rfl rfl (fun c3 => ?_) (fun c3 => ?_)
      · refine zn_iconstN (pc := 48) 0 rfl rfl ?_
        exact zn_top (v' := .int (nI (bAl (A 4 c) (mK z c) f t))) (by congr 2; unfold bAl; rw [if_neg (by omega), if_neg (by assumption)]) K1
      · refine zn_iconstN (pc := 44) 3 rfl rfl ?_
        refine zn_goto (pc := 45) (tgt := 49) rfl rfl ?_
        exact zn_top (v' := .int (nI (bAl (A 4 c) (mK z c) f t))) (by congr 2; unfold bAl; rw [if_neg (by omega), if_pos (by assumption)]) K1
    · refine zn_aload_n (pc := 27) rfl rfl ?_
      refine zn_get (pc := 28) (v := .ref 55) rfl rfl rfl ?_
      refine zn_iload_n (pc := 31) rfl rfl ?_
      refine zm_ldA (pc := 32) (i := 4) (n := 7) (Z := (A 4)) (j := c) rfl (by decide) (by decide) rfl mln4 rfl (by omega) (Nat.le_of_ble_eq_true rfl) ?_
      refine zn_goto (pc := 33) (tgt := 49) rfl rfl ?_
      exact zn_top (v' := .int (nI (bAl (A 4 c) (mK z c) f t))) (by congr 2; unfold bAl; rw [if_pos (by omega)]) K1
abbrev mEnd (z : Nat → Nat) (x : Int32) (c : Nat) : Prop := zin x (z 0) ∧ c + 1 < z (1 + x.toNatClampNeg)
/-- cell c of line l is ended by a tab -/
abbrev mE (z : Nat → Nat) (c l : Nat) : Prop := l < z 0 ∧ c + 1 < z (1 + l)
theorem m_isEnded  (hz : mOK z) (x : Int32) {c : Nat} (hc : c < 8) : Zx g zX10_isEnded [.ref 50, .int x, .int (nI c)] (mhp h F S z A X) (some (.int (zb (mEnd z x c)))) (mhp h F S z A X) := by
  have h0 := hz.1
  have h1 := hz.2.1
  show Zn g zX10_isEnded 0 [some (.ref 50), some (.int x), some (.int (nI c))] [] (mhp h F S z A X) 0 0 _
  refine zn_aload_n (pc := 0) rfl rfl ?_
  refine zn_iload_n (pc := 1) rfl rfl ?_
  refine zn_callVx (pc := 2) (J := zX10_isLine) (o := 50) (as := [.int x]) (rest := []) rfl rfl rfl rfl rfl rfl rfl rfl (Nat.le_of_ble_eq_true rfl) (Nat.le_of_ble_eq_true rfl) (Nat.le_of_ble_eq_true rfl) (Nat.le_of_ble_eq_true rfl) (m_isLine (by omega) (by omega) x) ?_
  refine zn_if_eqB (pc := 5) (tgt := 23) rfl rfl (fun c1 => ?_) (fun c1 => ?_)
  · refine zn_iconstN (pc := 23) 0 rfl rfl ?_
    exact zx_z (pc := 24) rfl rfl (by decide) (by rw [zb_f (by exact fun q => c1 q.1)]; rfl) rfl
  · obtain ⟨l, hl, rfl⟩ := zin_ex c1 (by omega)
    have el := nI_clamp (n := l) (by omega)
    have hzl := hz.2.2.1 l hl
    refine zn_iload_n (pc := 8) rfl rfl ?_
    refine zn_iconstN (pc := 9) 1 rfl rfl ?_
    refine zn_iaddN (pc := 10) (x := c) (y := 1) rfl ?_
    refine zn_aload_n (pc := 11) rfl rfl ?_
    refine zn_iload_n (pc := 12) rfl rfl ?_
    refine zn_callVx (pc := 13) (J := zX10_cells) (o := 50) (as := [.int (nI l)]) (rest := [.int (nI (c + 1))]) rfl rfl rfl rfl rfl rfl rfl rfl (Nat.le_of_ble_eq_true rfl) (Nat.le_of_ble_eq_true rfl) (Nat.le_of_ble_eq_true rfl) (Nat.le_of_ble_eq_true rfl) (m_cells (l := l) (by omega)) ?_
    refine zn_icmp_geN (pc := 16) (tgt := 23) (x := (c + 1)) (y := (z (1 + l))) rfl rfl (by omega) (by omega) (fun c2 => ?_) (fun c2 => ?_)
    · refine zn_iconstN (pc := 23) 0 rfl rfl ?_
      exact zx_z (pc := 24) rfl rfl (by decide) (by rw [zb_f (by unfold mEnd; rw [el]; omega)]; rfl) rfl
    · refine zn_iconstN (pc := 19) 1 rfl rfl ?_
      refine zn_goto (pc := 20) (tgt := 24) rfl rfl ?_
      exact zx_z (pc := 24) rfl rfl (by decide) (by rw [zb_t (by unfold mEnd; rw [el]; exact ⟨c1, by omega⟩)]; rfl) rfl
theorem m_isEndedN (hz : mOK z) {l c : Nat} (hl : l < 2 ^ 31) (hc : c < 8) : Zx g zX10_isEnded [.ref 50, .int (nI l), .int (nI c)] (mhp h F S z A X) (some (.int (zb (mE z c l)))) (mhp h F S z A X) := by
  have := m_isEnded (g := g) (h := h) (F := F) (S := S) (A := A) (X := X) hz (nI l) hc
  rwa [zb_iff (show mEnd z (nI l) c ↔ mE z c l by unfold mEnd; rw [nI_clamp hl, zin_nI hl])] at this
theorem m_isEndedP (hz : mOK z) {l c : Nat} (hl : l < 2 ^ 30) (hc : c < 8) : Zx g zX10_isEnded [.ref 50, .int (nI l - 1), .int (nI c)] (mhp h F S z A X) (some (.int (zb (0 < l ∧ mE z c (l - 1))))) (mhp h F S z A X) := by
  cases l with
  | zero =>
    have := m_isEnded (g := g) (h := h) (F := F) (S := S) (A := A) (X := X) hz (nI 0 - 1) hc
    rwa [zb_iff (show mEnd z (nI 0 - 1) c ↔ (0 < 0 ∧ mE z c (0 - 1)) from ⟨fun q => absurd q.1.1 (by decide +kernel), fun q => absurd q.1 (by omega)⟩)] at this
  | succ k =>
    have := m_isEndedN (g := g) (h := h) (F := F) (S := S) (A := A) (X := X) hz (l := k) (c := c) (by omega) hc
    rw [nI_pred, zb_iff (show (0 < k + 1 ∧ mE z c (k + 1 - 1)) ↔ mE z c k from ⟨fun q => q.2, fun q => ⟨by omega, q⟩⟩)]
    exact this
/-- the last line of the run that has line l, at most m further -/
def bRun (z : Nat → Nat) (c : Nat) : Nat → Nat → Nat
  | 0, l => l
  | m + 1, l => if mE z c (l + 1) then bRun z c m (l + 1) else l
theorem bRun_ok {z : Nat → Nat} {c : Nat} : ∀ (m l : Nat), mE z c l → l ≤ bRun z c m l ∧ ∀ i, l ≤ i → i ≤ bRun z c m l → mE z c i
  | 0, l, h => ⟨Nat.le_refl _, fun i h1 h2 => by simp only [bRun] at h2; rw [show i = l by omega]; exact h⟩
  | m + 1, l, h => by
    simp only [bRun]
    split
    · rename_i h1
      have := bRun_ok m (l + 1) h1
      refine ⟨by omega, fun i h2 h3 => ?_⟩
      rcases Nat.lt_or_ge l i with q | q
      · exact this.2 i q h3
      · rw [show i = l by omega]; exact h
    · refine ⟨Nat.le_refl _, fun i h2 h3 => ?_⟩
      rw [show i = l by omega]; exact h
abbrev bBeg (z : Nat → Nat) (c l : Nat) : Prop := mE z c l ∧ ¬ (0 < l ∧ mE z c (l - 1))
/-- the blocks of column c that begin above line l -/
def bUp (z : Nat → Nat) (c : Nat) : Nat → List (Nat × Nat × Nat)
  | 0 => []
  | l + 1 => bUp z c l ++ if bBeg z c l then [(c, l, bRun z c (z 0) l)] else []
/-- the blocks of the columns before c -/
def bAll (z : Nat → Nat) : Nat → List (Nat × Nat × Nat)
  | 0 => []
  | c + 1 => bAll z c ++ bUp z c (z 0)
theorem bUp_len (z : Nat → Nat) (c : Nat) : ∀ l, (bUp z c l).length ≤ l
  | 0 => by simp [bUp]
  | l + 1 => by
    simp only [bUp, List.length_append]
    have := bUp_len z c l
    split <;> simp <;> omega
theorem bAll_len (z : Nat → Nat) : ∀ c, (bAll z c).length ≤ c * z 0
  | 0 => by simp [bAll]
  | c + 1 => by
    simp only [bAll, List.length_append]
    have h1 := bAll_len z c
    have h2 := bUp_len z c (z 0)
    rw [Nat.succ_mul]
    omega
/-- what the rows of the reference hold for the blocks P -/
def mHold (F z : Nat → Nat) (A A1 : Nat → Nat → Nat) (P : List (Nat × Nat × Nat)) : Prop :=
  (∀ j, j < 6 ∨ 12 < j → A1 j = A j) ∧ ∀ (i c f t : Nat), P[i]? = some (c, f, t) → A1 6 i = c ∧ A1 7 i = f ∧ A1 8 i = t ∧ A1 9 i = bAl (A 4 c) (mK z c) f t ∧ A1 11 i = bPart (bAl (A 4 c) (mK z c) f t) (mK z c) (mN z c) (mH z c) f t ∧
    A1 10 i = bCont (bAl (A 4 c) (mK z c) f t) (mK z c) (mN z c) (mH z c) f t ∧ A1 12 i = bWid (bCont (bAl (A 4 c) (mK z c) f t) (mK z c) (mN z c) (mH z c) f t) (F 9) (F 8) (F 10)
/-- the rows with one block more -/
def mAdd (F z : Nat → Nat) (A1 : Nat → Nat → Nat) (n c f t s : Nat) : Nat → Nat → Nat :=
  va_up (va_up (va_up (va_up (va_up (va_up (va_up A1 6 (va_up (A1 6) n c)) 7 (va_up (A1 7) n f)) 8 (va_up (A1 8) n t)) 9 (va_up (A1 9) n (bAl s (mK z c) f t))) 11 (va_up (A1 11) n (bPart (bAl s (mK z c) f t) (mK z c) (mN z c) (mH z c) f t))) 10 (va_up (A1 10) n (bCont (bAl s (mK z c) f t) (mK z c) (mN z c) (mH z c) f t))) 12 (va_up (A1 12) n (bWid (bCont (bAl s (mK z c) f t) (mK z c) (mN z c) (mH z c) f t) (F 9) (F 8) (F 10)))
theorem mHold_add {A1 : Nat → Nat → Nat} {P : List (Nat × Nat × Nat)} {c f t : Nat} (hh9 : mHold F z A A1 P) : mHold F z A (mAdd F z A1 P.length c f t (A 4 c)) (P ++ [(c, f, t)]) := by
  obtain ⟨h1, h2⟩ := hh9
  refine ⟨fun j hj => ?_, fun i c' f' t' hi => ?_⟩
  · rw [← h1 j hj]
    unfold mAdd
    rw [va_upN (by omega), va_upN (by omega), va_upN (by omega), va_upN (by omega), va_upN (by omega), va_upN (by omega), va_upN (by omega)]
  · have e6 : mAdd F z A1 P.length c f t (A 4 c) 6 = va_up (A1 6) P.length c := by unfold mAdd; simp only [va_up]; rfl
    have e7 : mAdd F z A1 P.length c f t (A 4 c) 7 = va_up (A1 7) P.length f := by unfold mAdd; simp only [va_up]; rfl
    have e8 : mAdd F z A1 P.length c f t (A 4 c) 8 = va_up (A1 8) P.length t := by unfold mAdd; simp only [va_up]; rfl
    have e9 : mAdd F z A1 P.length c f t (A 4 c) 9 = va_up (A1 9) P.length (bAl (A 4 c) (mK z c) f t) := by unfold mAdd; simp only [va_up]; rfl
    have e10 : mAdd F z A1 P.length c f t (A 4 c) 10 = va_up (A1 10) P.length (bCont (bAl (A 4 c) (mK z c) f t) (mK z c) (mN z c) (mH z c) f t) := by unfold mAdd; simp only [va_up]; rfl
    have e11 : mAdd F z A1 P.length c f t (A 4 c) 11 = va_up (A1 11) P.length (bPart (bAl (A 4 c) (mK z c) f t) (mK z c) (mN z c) (mH z c) f t) := by unfold mAdd; simp only [va_up]; rfl
    have e12 : mAdd F z A1 P.length c f t (A 4 c) 12 = va_up (A1 12) P.length (bWid (bCont (bAl (A 4 c) (mK z c) f t) (mK z c) (mN z c) (mH z c) f t) (F 9) (F 8) (F 10)) := by unfold mAdd; simp only [va_up]; rfl
    rw [e6, e7, e8, e9, e10, e11, e12]
    by_cases hl : i < P.length
    · rw [List.getElem?_append_left hl] at hi
      rw [va_upN (by omega), va_upN (by omega), va_upN (by omega), va_upN (by omega), va_upN (by omega), va_upN (by omega), va_upN (by omega)]
      exact h2 i c' f' t' hi
    · rw [List.getElem?_append_right (by omega)] at hi
      have hz9 : i - P.length < 1 := (List.getElem?_eq_some_iff.mp hi).1
      obtain rfl : i = P.length := by omega
      rw [Nat.sub_self] at hi
      cases hi
      simp only [va_upS]
      trivial
end m1
