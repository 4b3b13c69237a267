section m1
variable {g : zG} {h hh : zH} {F : Nat → Nat} {S : Int64} {z : Nat → Nat} {A : Nat → Nat → Nat} {X : Nat → Int32}
theorem c_alignment  {pd lw gr : Nat} {al : Nat → Nat} (hf4 : hh.1 4 = some (.inr (2, [.ref 5, .int (nI pd), .int (nI lw), .int (nI gr)]))) (hf5 : hh.1 5 = some (mNA 7 al)) (hpd : pd ≤ 8) (hlw : lw ≤ 20) (hg : 1 ≤ gr) (hg8 : gr ≤ 8) (hal : ∀ j, al j ≤ 3) {c : Nat} (hc : c < 7) : Zx g zX2_alignment [.ref 4, .int (nI c)] (hh) (some (.int (nI (al c)))) (hh) := by
  show Zn g zX2_alignment 0 [some (.ref 4), some (.int (nI c))] [] (hh) 0 0 _
  refine zn_iload_n (pc := 0) rfl rfl ?_
  refine zn_if_ltN (pc := 1) (tgt := 22) (x := c) rfl rfl (by omega) ?_
  refine zn_iload_n (pc := 4) rfl rfl ?_
  refine zn_aload_n (pc := 5) rfl rfl ?_
  refine zn_get (pc := 6) (v := .ref 5) rfl hf4 rfl ?_
  refine zn_alenN (pc := 9) (n := 7) rfl hf5 ?_
  refine zn_icmp_geN (pc := 10) (tgt := 22) (x := c) (y := 7) rfl rfl (by omega) (by omega) (fun c2 => ?_) (fun c2 => ?_)
  · exfalso; omega
  · refine zn_aload_n (pc := 13) rfl rfl ?_
    refine zn_get (pc := 14) (v := .ref 5) rfl hf4 rfl ?_
    refine zn_iload_n (pc := 17) rfl rfl ?_
    refine zn_naLd (pc := 18) (o := 5) (n := 7) (Z := al) (j := c) rfl hf5 (by omega) (Nat.le_of_ble_eq_true rfl) ?_
    refine zn_goto (pc := 19) (tgt := 23) rfl rfl ?_
    exact zx_i (pc := 23) rfl rfl rfl rfl
theorem c_padding  {pd lw gr : Nat} {al : Nat → Nat} (hf4 : hh.1 4 = some (.inr (2, [.ref 5, .int (nI pd), .int (nI lw), .int (nI gr)]))) (hf5 : hh.1 5 = some (mNA 7 al)) (hpd : pd ≤ 8) (hlw : lw ≤ 20) (hg : 1 ≤ gr) (hg8 : gr ≤ 8) (hal : ∀ j, al j ≤ 3) : Zx g zX2_padding [.ref 4] (hh) (some (.int (nI pd))) (hh) := by
  show Zn g zX2_padding 0 [some (.ref 4)] [] (hh) 0 0 _
  refine zn_aload_n (pc := 0) rfl rfl ?_
  refine zn_get (pc := 1) (v := .int (nI pd)) rfl hf4 rfl ?_
  exact zx_i (pc := 4) rfl rfl rfl rfl
theorem c_widthFor  {pd lw gr : Nat} {al : Nat → Nat} (hf4 : hh.1 4 = some (.inr (2, [.ref 5, .int (nI pd), .int (nI lw), .int (nI gr)]))) (hf5 : hh.1 5 = some (mNA 7 al)) (hpd : pd ≤ 8) (hlw : lw ≤ 20) (hg : 1 ≤ gr) (hg8 : gr ≤ 8) (hal : ∀ j, al j ≤ 3) {k : Nat} (hk : k ≤ 100) : Zx g zX2_widthFor [.ref 4, .int (nI k)] (hh) (some (.int (nI (bWid k lw pd gr)))) (hh) := by
  show Zn g zX2_widthFor 0 [some (.ref 4), some (.int (nI k)), none] [] (hh) 0 0 _
  refine zn_iload_n (pc := 0) rfl rfl ?_
  refine zn_aload_n (pc := 1) rfl rfl ?_
  refine zn_get (pc := 2) (v := .int (nI lw)) rfl hf4 rfl ?_
  refine zn_maxN (pc := 5) (x := k) (y := lw) rfl (Nat.le_of_ble_eq_true rfl) (Nat.le_of_ble_eq_true rfl) (by omega) (by omega) ?_
  refine zn_aload_n (pc := 8) rfl rfl ?_
  refine zn_get (pc := 9) (v := .int (nI pd)) rfl hf4 rfl ?_
  refine zn_iaddN (pc := 12) (x := (max k lw)) (y := pd) rfl ?_
  refine zn_istore_n (pc := 13) (L' := [some (.ref 4), some (.int (nI k)), some (.int (nI (max k lw + pd)))]) rfl (by decide) rfl ?_
  refine zn_aload_n (pc := 14) rfl rfl ?_
  refine zn_get (pc := 15) (v := .int (nI gr)) rfl hf4 rfl ?_
  refine zn_iconstN (pc := 18) 1 rfl rfl ?_
  refine zn_icmp_gtN (pc := 19) (tgt := 24) (x := gr) (y := 1) rfl rfl (by omega) (by omega) (fun c1 => ?_) (fun c1 => ?_)
  · refine zn_iload_n (pc := 24) rfl rfl ?_
    refine zn_aload_n (pc := 25) rfl rfl ?_
    refine zn_get (pc := 26) (v := .int (nI gr)) rfl hf4 rfl ?_
    refine zn_iaddN (pc := 29) (x := (max k lw + pd)) (y := gr) rfl ?_
    refine zn_iconstN (pc := 30) 1 rfl rfl ?_
    refine zn_isubN (pc := 31) (x := (max k lw + pd + gr)) (y := 1) rfl (by omega) ?_
    refine zn_aload_n (pc := 32) rfl rfl ?_
    refine zn_get (pc := 33) (v := .int (nI gr)) rfl hf4 rfl ?_
    refine zn_idivN (pc := 36) (x := ((max k lw + pd + gr) - 1)) (y := gr) rfl (by omega) (by omega) (by omega) ?_
    refine zn_aload_n (pc := 37) rfl rfl ?_
    refine zn_get (pc := 38) (v := .int (nI gr)) rfl hf4 rfl ?_
    refine zn_imulN (pc := 41) (x := (((max k lw + pd + gr) - 1) / gr)) (y := gr) rfl ?_
    exact zx_i (pc := 42) rfl rfl (by unfold bWid; rfl) rfl
  · refine zn_iload_n (pc := 22) rfl rfl ?_
    exact zx_i (pc := 23) rfl rfl (by unfold bWid; congr 3; rw [show gr = 1 by omega, Nat.div_one, Nat.mul_one]; omega) rfl
theorem bMax_eq {v w : Nat → Nat} : ∀ (m l a : Nat), (∀ j, l ≤ j → j < l + m → v j = w j) → bMax v m l a = bMax w m l a
  | 0, l, a, _ => rfl
  | m + 1, l, a, h => by
    simp only [bMax]
    rw [h l (by omega) (by omega)]
    exact bMax_eq m (l + 1) _ (fun j h1 h2 => h j (by omega) (by omega))
theorem bMax_0 : ∀ (m l : Nat), bMax (fun _ => 0) m l 0 = 0
  | 0, l => rfl
  | m + 1, l => by simp only [bMax]; exact bMax_0 m (l + 1)
theorem bPart_n {al : Nat} (K N H : Nat → Nat) (f t : Nat) (h : al ≠ 3) : bPart al K N H f t = 0 := by
  unfold bPart
  rw [bMax_eq (w := fun _ => 0) _ _ _ (fun j _ _ => if_neg (fun q => h q.1)), bMax_0]
theorem bCont_n {al : Nat} (K N H : Nat → Nat) (f t : Nat) (h : al ≠ 3) : bCont al K N H f t = bMax N (t + 1 - f) f 0 := by
  unfold bCont
  rw [bPart_n K N H f t h, bMax_eq (w := fun _ => 0) _ _ _ (fun j _ _ => if_neg (fun q => h q.1)), bMax_0, bMax_eq (w := N) _ _ _ (fun j _ _ => if_neg (fun q => h q.1))]
  omega
theorem bNum_1 {K : Nat → Nat} : ∀ (m l : Nat), 0 < bNum K m l → ∃ j, l ≤ j ∧ j < l + m ∧ K j = 1
  | 0, l, h => by simp [bNum] at h
  | m + 1, l, h => by
    simp only [bNum] at h
    by_cases q : K l = 1
    · exact ⟨l, by omega, by omega, q⟩
    · rw [if_neg q] at h
      obtain ⟨j, h1, h2, h3⟩ := bNum_1 (K := K) m (l + 1) (by omega)
      exact ⟨j, by omega, by omega, h3⟩
/-- decimal: as the class asks it -/
theorem bDec_iff {K : Nat → Nat} {f t : Nat} (hft : f ≤ t) (hK : ∀ l, K l ≤ 2) : ((∀ l, f < l → l < t + 1 → K l ≠ 2) ∧ 0 < bNum K (t + 1 - f) f) ↔ bDec K f t := by
  constructor
  · rintro ⟨h1, h2⟩
    refine ⟨h2, fun l q1 q2 => ?_⟩
    by_cases e : l = f
    · by_cases r : f < t
      · exact Or.inl ⟨e, r⟩
      · obtain ⟨j, r1, r2, r3⟩ := bNum_1 _ _ h2
        have : j = l := by omega
        subst this
        exact Or.inr (by omega)
    · have := h1 l (by omega) q1
      have := hK l
      exact Or.inr (by omega)
  · rintro ⟨h1, h2⟩
    refine ⟨fun l q1 q2 => ?_, h1⟩
    rcases h2 l q2 (by omega) with r | r <;> omega
theorem bUp_len2 (z : Nat → Nat) (c : Nat) : ∀ l, 2 * (bUp z c l).length ≤ l + 1 ∧ (¬ (0 < l ∧ mE z c (l - 1)) → 2 * (bUp z c l).length ≤ l)
  | 0 => by simp [bUp]
  | l + 1 => by
    have ih := bUp_len2 z c l
    simp only [bUp, List.length_append]
    by_cases hb : bBeg z c l
    · rw [if_pos hb]
      have := ih.2 hb.2
      simp only [List.length_singleton]
      exact ⟨by omega, fun q => absurd ⟨by omega, by rw [Nat.add_sub_cancel]; exact hb.1⟩ q⟩
    · rw [if_neg hb]
      simp only [List.length_nil]
      refine ⟨by omega, fun _ => by omega⟩
theorem bAll_len2 (hz : z 0 ≤ 24) : ∀ c, (bAll z c).length ≤ 12 * c
  | 0 => by simp [bAll]
  | c + 1 => by
    have h1 := bAll_len2 hz c
    have h2 := (bUp_len2 z c (z 0)).1
    simp only [bAll, List.length_append]
    omega
/-- what the class's rows hold for the blocks P -/
def cHold (z al : Nat → Nat) (pd lw gr : Nat) (D : Nat → Nat → Nat) (W : Nat → Int64) (P : List (Nat × Nat × Nat)) : Prop :=
  ∀ (i c f t : Nat), P[i]? = some (c, f, t) → D 0 i = c ∧ D 1 i = f ∧ D 2 i = t ∧ D 3 i = bWid (bCont (bAl (al c) (mK z c) f t) (mK z c) (mN z c) (mH z c) f t) lw pd gr ∧ D 4 i = bAl (al c) (mK z c) f t ∧ D 5 i = bCont (bAl (al c) (mK z c) f t) (mK z c) (mN z c) (mH z c) f t ∧ D 6 i = bNum (mK z c) (t + 1 - f) f ∧ D 7 i = bPart (bAl (al c) (mK z c) f t) (mK z c) (mN z c) (mH z c) f t ∧ W i = bSum z c f t
theorem c_lastLine_l10 (hz : mOK z) (hk : cOK hh 10 z) {c f : Nat} (hc : c < 8) : ∀ (n : Nat) (l R : Nat), z 0 ≤ l + n → l < 24 → R = bRun z c n l → Zn g zX0_lastLine 2 [some (.ref 11), some (.int (nI c)), some (.int (nI f)), some (.int (nI l))] [] (hh) 0 0 (fun r' h' => r' = .inl (some (.int (nI R))) ∧ h' = (hh)) := by
  intro n
  induction n with
  | zero =>
    intro l R hn0 hn1 hn2
    have h1 := hz.2.1
    obtain ⟨C, V, o1, -⟩ := id hk
    refine zn_iload_n (pc := 2) rfl rfl ?_
    refine zn_iconstN (pc := 3) 1 rfl rfl ?_
    refine zn_iaddN (pc := 4) (x := l) (y := 1) rfl ?_
    refine zn_aload_n (pc := 5) rfl rfl ?_
    refine zn_callVx (pc := 6) (J := zX1_lines) (o := 11) (as := []) (rest := [.int (nI (l + 1))]) rfl rfl rfl rfl o1 rfl rfl rfl (Nat.le_of_ble_eq_true rfl) (Nat.le_of_ble_eq_true rfl) (Nat.le_of_ble_eq_true rfl) (Nat.le_of_ble_eq_true rfl) (c_linesK_10 hk) ?_
    refine zn_icmp_geN (pc := 9) (tgt := 29) (x := (l + 1)) (y := (z 0)) rfl rfl (by omega) (by omega) (fun c1 => ?_) (fun c1 => ?_)
    · refine zn_iload_n (pc := 29) rfl rfl ?_
      exact zx_i (pc := 30) rfl rfl (by rw [hn2]; simp only [bRun]) rfl
    · exfalso; omega
  | succ n ih =>
    intro l R hn0 hn1 hn2
    have h1 := hz.2.1
    obtain ⟨C, V, o1, -⟩ := id hk
    refine zn_iload_n (pc := 2) rfl rfl ?_
    refine zn_iconstN (pc := 3) 1 rfl rfl ?_
    refine zn_iaddN (pc := 4) (x := l) (y := 1) rfl ?_
    refine zn_aload_n (pc := 5) rfl rfl ?_
    refine zn_callVx (pc := 6) (J := zX1_lines) (o := 11) (as := []) (rest := [.int (nI (l + 1))]) rfl rfl rfl rfl o1 rfl rfl rfl (Nat.le_of_ble_eq_true rfl) (Nat.le_of_ble_eq_true rfl) (Nat.le_of_ble_eq_true rfl) (Nat.le_of_ble_eq_true rfl) (c_linesK_10 hk) ?_
    refine zn_icmp_geN (pc := 9) (tgt := 29) (x := (l + 1)) (y := (z 0)) rfl rfl (by omega) (by omega) (fun c1 => ?_) (fun c1 => ?_)
    · refine zn_iload_n (pc := 29) rfl rfl ?_
      exact zx_i (pc := 30) rfl rfl (by rw [hn2]; simp only [bRun]; rw [if_neg (by first | assumption | (intro q9; have := q9.1; omega))]) rfl
    · refine zn_aload_n (pc := 12) rfl rfl ?_
      refine zn_iload_n (pc := 13) rfl rfl ?_
      refine zn_iconstN (pc := 14) 1 rfl rfl ?_
      refine zn_iaddN (pc := 15) (x := l) (y := 1) rfl ?_
      refine zn_iload_n (pc := 16) rfl rfl ?_
      refine zn_callVx (pc := 17) (J := zX1_endsWithTab) (o := 11) (as := [.int (nI (l + 1)), .int (nI c)]) (rest := []) rfl rfl rfl rfl o1 rfl rfl rfl (Nat.le_of_ble_eq_true rfl) (Nat.le_of_ble_eq_true rfl) (Nat.le_of_ble_eq_true rfl) (Nat.le_of_ble_eq_true rfl) (c_endsN_10 hz hk (l := (l + 1)) (c := c) (by omega) (by omega)) ?_
      refine zn_if_eqB (pc := 20) (tgt := 29) rfl rfl (fun c2 => ?_) (fun c2 => ?_)
      · refine zn_iload_n (pc := 29) rfl rfl ?_
        exact zx_i (pc := 30) rfl rfl (by rw [hn2]; simp only [bRun]; rw [if_neg (by first | assumption | (intro q9; have := q9.1; omega))]) rfl
      · refine zn_iincN (pc := 23) (L' := [some (.ref 11), some (.int (nI c)), some (.int (nI f)), some (.int (nI (l + 1)))]) 1 rfl rfl rfl (by decide) rfl ?_
        refine zn_goto (pc := 26) (tgt := 2) rfl rfl ?_
        exact ih (l + 1) R (by omega) (by omega) (by rw [hn2]; simp only [bRun]; rw [if_pos (by assumption)])
theorem c_lastLine_10  (hz : mOK z) (hk : cOK hh 10 z) {c f : Nat} (hc : c < 8) (hf : f < z 0) : Zx g zX0_lastLine [.ref 11, .int (nI c), .int (nI f)] (hh) (some (.int (nI (bRun z c (z 0) f)))) (hh) := by
  have h1 := hz.2.1
  show Zn g zX0_lastLine 0 [some (.ref 11), some (.int (nI c)), some (.int (nI f)), none] [] (hh) 0 0 _
  refine zn_iload_n (pc := 0) rfl rfl ?_
  refine zn_istore_n (pc := 1) (L' := [some (.ref 11), some (.int (nI c)), some (.int (nI f)), some (.int (nI f))]) rfl (by decide) rfl ?_
  exact c_lastLine_l10 hz hk hc (z 0) f _ (by omega) (by omega) rfl
theorem c_addNumbers_l10 {m : Nat} {C D : Nat → Nat → Nat} {V W : Nat → Int64} {Xs : Nat → Nat} {Bn : Nat → Int32} (hz : mOK z) (hcel : cCel z C V) {b c f t : Nat} (hb : b < 84) (d0 : D 0 b = c) (d1 : D 1 b = f) (d2 : D 2 b = t) (hc7 : c < 7) (hft : f ≤ t) (ht : t < 24) (hE : ∀ l, f ≤ l → l ≤ t → mE z c l) : ∀ (n : Nat) (l s : Nat) (v : Int64), l + n = t + 1 → f ≤ l → bNum (mK z c) (t + 1 - f) f = s + bNum (mK z c) n l → bSum z c f t = bSm z c n l v → Zn g zX0_addNumbers 21 [some (.ref 18), some (.int (nI b)), some (.ref 11), some (.int (nI l))] [] (lhp 10 h (z 0) C V m (va_up D 6 (va_up (D 6) b s)) (va_up W b v) Xs Bn) 0 0 (fun r' h' => r' = .inl none ∧ h' = (lhp 10 h (z 0) C V m (va_up D 6 (va_up (D 6) b (bNum (mK z c) (t + 1 - f) f))) (va_up W b (bSum z c f t)) Xs Bn)) := by
  intro n
  induction n with
  | zero =>
    intro l s v hn0 hn1 hn2 hn3
    refine zn_iload_n (pc := 21) rfl rfl ?_
    refine zn_aload_n (pc := 22) rfl rfl ?_
    refine zn_get (pc := 23) (v := .ref 21) rfl rfl rfl ?_
    refine zn_iload_n (pc := 26) rfl rfl ?_
    refine zl_ldD (pc := 27) (i := 2) (Z := (D 2)) (j := b) rfl (by decide) rfl (va_upN (by decide)) (by omega) ?_
    refine zn_top (v' := .int (nI t)) (by rw [d2]) ?_
    refine zn_icmp_gtN (pc := 28) (tgt := 82) (x := l) (y := t) rfl rfl (by omega) (by omega) (fun c1 => ?_) (fun c1 => ?_)
    · rw [hn2, hn3]
      simp only [bNum, bSm, Nat.add_zero]
      exact zx_v (pc := 82) rfl rfl rfl rfl
    · exfalso; omega
  | succ n ih =>
    intro l s v hn0 hn1 hn2 hn3
    refine zn_iload_n (pc := 21) rfl rfl ?_
    refine zn_aload_n (pc := 22) rfl rfl ?_
    refine zn_get (pc := 23) (v := .ref 21) rfl rfl rfl ?_
    refine zn_iload_n (pc := 26) rfl rfl ?_
    refine zl_ldD (pc := 27) (i := 2) (Z := (D 2)) (j := b) rfl (by decide) rfl (va_upN (by decide)) (by omega) ?_
    refine zn_top (v' := .int (nI t)) (by rw [d2]) ?_
    refine zn_icmp_gtN (pc := 28) (tgt := 82) (x := l) (y := t) rfl rfl (by omega) (by omega) (fun c1 => ?_) (fun c1 => ?_)
    · exfalso; omega
    · have hEl := hE l (by omega) (by omega)
      have hE1 := hEl.1
      have hE2 := hEl.2
      have k2 : mK z c l ≤ 2 := skind_le _ _
      have q16 := hz.2.2.2 l c hEl.1 (by omega)
      have hw2 : mH z c l ≤ z (25 + 8 * l + c) := Nat.le_trans (swh_le _ _ _) (by omega)
      have hN9 : mN z c l = z (25 + 8 * l + c) := rfl
      refine zn_aload_n (pc := 31) rfl rfl ?_
      refine zn_iload_n (pc := 32) rfl rfl ?_
      refine zn_aload_n (pc := 33) rfl rfl ?_
      refine zn_get (pc := 34) (v := .ref 19) rfl rfl rfl ?_
      refine zn_iload_n (pc := 37) rfl rfl ?_
      refine zl_ldD (pc := 38) (i := 0) (Z := (D 0)) (j := b) rfl (by decide) rfl (va_upN (by decide)) (by omega) ?_
      refine zn_top (v' := .int (nI c)) (by rw [d0]) ?_
      refine zn_callVx (pc := 39) (J := zX1_kind) (o := 11) (as := [.int (nI l), .int (nI c)]) (rest := []) rfl rfl rfl rfl rfl rfl rfl rfl (Nat.le_of_ble_eq_true rfl) (Nat.le_of_ble_eq_true rfl) (Nat.le_of_ble_eq_true rfl) (Nat.le_of_ble_eq_true rfl) (c_kind_10 hz (cOK_l hcel) (l := l) (c := c) (by omega) (by omega)) ?_
      refine zn_iconstN (pc := 42) 1 rfl rfl ?_
      refine zn_icmp_neN (pc := 43) (tgt := 76) (x := (mK z c l)) (y := 1) rfl rfl (by omega) (by omega) (fun c2 => ?_) (fun c2 => ?_)
      · refine zn_iincN (pc := 76) (L' := [some (.ref 18), some (.int (nI b)), some (.ref 11), some (.int (nI (l + 1)))]) 1 rfl rfl rfl (by decide) rfl ?_
        refine zn_goto (pc := 79) (tgt := 21) rfl rfl ?_
        exact ih (l + 1) s v (by omega) (by omega) (by rw [hn2]; simp only [bNum]; rw [if_neg (by assumption)]; omega) (by rw [hn3]; simp only [bSm]; rw [if_neg (by assumption), Int64.add_zero])
      · refine zn_aload_n (pc := 46) rfl rfl ?_
        refine zn_get (pc := 47) (v := .ref 25) rfl rfl rfl ?_
        refine zn_iload_n (pc := 50) rfl rfl ?_
        refine zn_dup2 (pc := 51) rfl rfl rfl ?_
        refine zl_ldD (pc := 52) (i := 6) (Z := (va_up (D 6) b s)) (j := b) rfl (by decide) rfl (va_upS _ _ _) (by omega) ?_
        refine zn_top (v' := .int (nI s)) (by rw [va_upS]) ?_
        refine zn_iconstN (pc := 53) 1 rfl rfl ?_
        refine zn_iaddN (pc := 54) (x := s) (y := 1) rfl ?_
        refine zl_stD (pc := 55) (i := 6) (j := b) (v := (s + 1)) rfl (by decide) rfl (by omega) ?_
        refine zn_aload_n (pc := 56) rfl rfl ?_
        refine zn_get (pc := 57) (v := .ref 27) rfl rfl rfl ?_
        refine zn_iload_n (pc := 60) rfl rfl ?_
        refine zn_dup2 (pc := 61) rfl rfl rfl ?_
        refine zl_ldW (pc := 62) (j := b) rfl rfl (by omega) ?_
        refine zn_top (v' := .long v) (by rw [va_upS]) ?_
        refine zn_aload_n (pc := 63) rfl rfl ?_
        refine zn_iload_n (pc := 64) rfl rfl ?_
        refine zn_aload_n (pc := 65) rfl rfl ?_
        refine zn_get (pc := 66) (v := .ref 19) rfl rfl rfl ?_
        refine zn_iload_n (pc := 69) rfl rfl ?_
        refine zl_ldD (pc := 70) (i := 0) (Z := (D 0)) (j := b) rfl (by decide) rfl ((va_upN (by decide)).trans (va_upN (by decide))) (by omega) ?_
        refine zn_top (v' := .int (nI c)) (by rw [d0]) ?_
        refine zn_callVx (pc := 71) (J := zX1_value) (o := 11) (as := [.int (nI l), .int (nI c)]) (rest := [.long v, .int (nI b), .ref 27]) rfl rfl rfl rfl rfl rfl rfl rfl (Nat.le_of_ble_eq_true rfl) (Nat.le_of_ble_eq_true rfl) (Nat.le_of_ble_eq_true rfl) (Nat.le_of_ble_eq_true rfl) (c_value_10 hz (cOK_l hcel) (l := l) (c := c) (by omega) (by omega)) ?_
        refine zn_ladd (pc := 74) rfl ?_
        refine zl_stW (pc := 75) (j := b) rfl rfl (by omega) ?_
        refine zn_iincN (pc := 76) (L' := [some (.ref 18), some (.int (nI b)), some (.ref 11), some (.int (nI (l + 1)))]) 1 rfl rfl rfl (by decide) rfl ?_
        refine zn_goto (pc := 79) (tgt := 21) rfl rfl ?_
        refine zn_heq (h' := lhp 10 h (z 0) C V m (va_up D 6 (va_up (D 6) b (s + 1))) (va_up W b (v + (if mK z c l = 1 then sVal (mf z l c) (mN z c l) else 0))) Xs Bn) ?_ (ih (l + 1) (s + 1) (v + (if mK z c l = 1 then sVal (mf z l c) (mN z c l) else 0)) (by omega) (by omega) (by rw [hn2]; simp only [bNum]; rw [if_pos (by assumption)]; omega) (by rw [hn3]; simp only [bSm]))
        simp only [bx_uu, va_upS]
theorem c_addNumbers_10  {m : Nat} {C D : Nat → Nat → Nat} {V W : Nat → Int64} {Xs : Nat → Nat} {Bn : Nat → Int32} (hz : mOK z) (hcel : cCel z C V) {b c f t : Nat} (hb : b < 84) (d0 : D 0 b = c) (d1 : D 1 b = f) (d2 : D 2 b = t) (hc7 : c < 7) (hft : f ≤ t) (ht : t < 24) (hE : ∀ l, f ≤ l → l ≤ t → mE z c l) : Zx g zX0_addNumbers [.ref 18, .int (nI b), .ref 11] (lhp 10 h (z 0) C V m D W Xs Bn) none (lhp 10 h (z 0) C V m (va_up D 6 (va_up (D 6) b (bNum (mK z c) (t + 1 - f) f))) (va_up W b (bSum z c f t)) Xs Bn) := by
  show Zn g zX0_addNumbers 0 [some (.ref 18), some (.int (nI b)), some (.ref 11), none] [] (lhp 10 h (z 0) C V m D W Xs Bn) 0 0 _
  refine zn_aload_n (pc := 0) rfl rfl ?_
  refine zn_get (pc := 1) (v := .ref 25) rfl rfl rfl ?_
  refine zn_iload_n (pc := 4) rfl rfl ?_
  refine zn_iconstN (pc := 5) 0 rfl rfl ?_
  refine zl_stD (pc := 6) (i := 6) (j := b) (v := 0) rfl (by decide) rfl (by omega) ?_
  refine zn_aload_n (pc := 7) rfl rfl ?_
  refine zn_get (pc := 8) (v := .ref 27) rfl rfl rfl ?_
  refine zn_iload_n (pc := 11) rfl rfl ?_
  refine zn_lconst (pc := 12) 0 rfl rfl ?_
  refine zl_stW (pc := 13) (j := b) rfl rfl (by omega) ?_
  refine zn_aload_n (pc := 14) rfl rfl ?_
  refine zn_get (pc := 15) (v := .ref 20) rfl rfl rfl ?_
  refine zn_iload_n (pc := 18) rfl rfl ?_
  refine zl_ldD (pc := 19) (i := 1) (Z := (D 1)) (j := b) rfl (by decide) rfl (va_upN (by decide)) (by omega) ?_
  refine zn_top (v' := .int (nI f)) (by rw [d1]) ?_
  refine zn_istore_n (pc := 20) (L' := [some (.ref 18), some (.int (nI b)), some (.ref 11), some (.int (nI f))]) rfl (by decide) rfl ?_
  exact c_addNumbers_l10 hz hcel hb d0 d1 d2 hc7 hft ht hE (t + 1 - f) f 0 0 (by omega) (by omega) (by omega) rfl
theorem c_isDecimal_l10 {m : Nat} {C D : Nat → Nat → Nat} {V W : Nat → Int64} {Xs : Nat → Nat} {Bn : Nat → Int32} (hz : mOK z) (hcel : cCel z C V) {b c f t : Nat} (hb : b < 84) (d0 : D 0 b = c) (d1 : D 1 b = f) (d2 : D 2 b = t) (hc7 : c < 7) (hft : f ≤ t) (ht : t < 24) (hE : ∀ l, f ≤ l → l ≤ t → mE z c l) (d6 : D 6 b = bNum (mK z c) (t + 1 - f) f) : ∀ (n : Nat) (l : Nat), l + n = t + 1 → f < l → (∀ i, f < i ∧ i < l → mK z c i ≠ 2) → Zn g zX0_isDecimal 9 [some (.ref 18), some (.int (nI b)), some (.ref 11), some (.int (nI l))] [] (lhp 10 h (z 0) C V m D W Xs Bn) 0 0 (fun r' h' => r' = .inl (some (.int (zb (bDec (mK z c) f t)))) ∧ h' = (lhp 10 h (z 0) C V m D W Xs Bn)) := by
  intro n
  induction n with
  | zero =>
    intro l hn0 hn1 hn2
    have hnb := bNum_le (mK z c) (t + 1 - f) f
    refine zn_iload_n (pc := 9) rfl rfl ?_
    refine zn_aload_n (pc := 10) rfl rfl ?_
    refine zn_get (pc := 11) (v := .ref 21) rfl rfl rfl ?_
    refine zn_iload_n (pc := 14) rfl rfl ?_
    refine zl_ldD (pc := 15) (i := 2) (Z := (D 2)) (j := b) rfl (by decide) rfl rfl (by omega) ?_
    refine zn_top (v' := .int (nI t)) (by rw [d2]) ?_
    refine zn_icmp_gtN (pc := 16) (tgt := 42) (x := l) (y := t) rfl rfl (by omega) (by omega) (fun c1 => ?_) (fun c1 => ?_)
    · refine zn_aload_n (pc := 42) rfl rfl ?_
      refine zn_get (pc := 43) (v := .ref 25) rfl rfl rfl ?_
      refine zn_iload_n (pc := 46) rfl rfl ?_
      refine zl_ldD (pc := 47) (i := 6) (Z := (D 6)) (j := b) rfl (by decide) rfl rfl (by omega) ?_
      refine zn_top (v' := .int (nI (bNum (mK z c) (t + 1 - f) f))) (by rw [d6]) ?_
      refine zn_if_leN (pc := 48) (tgt := 55) (x := (bNum (mK z c) (t + 1 - f) f)) rfl rfl (by omega) (fun c2 => ?_) (fun c2 => ?_)
      · refine zn_iconstN (pc := 55) 0 rfl rfl ?_
        exact zx_z (pc := 56) rfl rfl (by decide) (by rw [zb_f (fun q9 => by have := ((bDec_iff hft (fun l => skind_le _ _)).mpr q9).2; omega)]; rfl) rfl
      · refine zn_iconstN (pc := 51) 1 rfl rfl ?_
        refine zn_goto (pc := 52) (tgt := 56) rfl rfl ?_
        exact zx_z (pc := 56) rfl rfl (by decide) (by rw [zb_t ((bDec_iff hft (fun l => skind_le _ _)).mp ⟨fun i q1 q2 => hn2 i ⟨q1, by omega⟩, by omega⟩)]; rfl) rfl
    · exfalso; omega
  | succ n ih =>
    intro l hn0 hn1 hn2
    have hnb := bNum_le (mK z c) (t + 1 - f) f
    refine zn_iload_n (pc := 9) rfl rfl ?_
    refine zn_aload_n (pc := 10) rfl rfl ?_
    refine zn_get (pc := 11) (v := .ref 21) rfl rfl rfl ?_
    refine zn_iload_n (pc := 14) rfl rfl ?_
    refine zl_ldD (pc := 15) (i := 2) (Z := (D 2)) (j := b) rfl (by decide) rfl rfl (by omega) ?_
    refine zn_top (v' := .int (nI t)) (by rw [d2]) ?_
    refine zn_icmp_gtN (pc := 16) (tgt := 42) (x := l) (y := t) rfl rfl (by omega) (by omega) (fun c1 => ?_) (fun c1 => ?_)
    · refine zn_aload_n (pc := 42) rfl rfl ?_
      refine zn_get (pc := 43) (v := .ref 25) rfl rfl rfl ?_
      refine zn_iload_n (pc := 46) rfl rfl ?_
      refine zl_ldD (pc := 47) (i := 6) (Z := (D 6)) (j := b) rfl (by decide) rfl rfl (by omega) ?_
      refine zn_top (v' := .int (nI (bNum (mK z c) (t + 1 - f) f))) (by rw [d6]) ?_
      refine zn_if_leN (pc := 48) (tgt := 55) (x := (bNum (mK z c) (t + 1 - f) f)) rfl rfl (by omega) (fun c2 => ?_) (fun c2 => ?_)
      · refine zn_iconstN (pc := 55) 0 rfl rfl ?_
        exact zx_z (pc := 56) rfl rfl (by decide) (by rw [zb_f (fun q9 => by have := ((bDec_iff hft (fun l => skind_le _ _)).mpr q9).2; omega)]; rfl) rfl
      · refine zn_iconstN (pc := 51) 1 rfl rfl ?_
        refine zn_goto (pc := 52) (tgt := 56) rfl rfl ?_
        exact zx_z (pc := 56) rfl rfl (by decide) (by rw [zb_t ((bDec_iff hft (fun l => skind_le _ _)).mp ⟨fun i q1 q2 => hn2 i ⟨q1, by omega⟩, by omega⟩)]; rfl) rfl
    · have hEl := hE l (by omega) (by omega)
      have hE1 := hEl.1
      have hE2 := hEl.2
      have k2 : mK z c l ≤ 2 := skind_le _ _
      have q16 := hz.2.2.2 l c hEl.1 (by omega)
      have hw2 : mH z c l ≤ z (25 + 8 * l + c) := Nat.le_trans (swh_le _ _ _) (by omega)
      have hN9 : mN z c l = z (25 + 8 * l + c) := rfl
      refine zn_aload_n (pc := 19) rfl rfl ?_
      refine zn_iload_n (pc := 20) rfl rfl ?_
      refine zn_aload_n (pc := 21) rfl rfl ?_
      refine zn_get (pc := 22) (v := .ref 19) rfl rfl rfl ?_
      refine zn_iload_n (pc := 25) rfl rfl ?_
      refine zl_ldD (pc := 26) (i := 0) (Z := (D 0)) (j := b) rfl (by decide) rfl rfl (by omega) ?_
      refine zn_top (v' := .int (nI c)) (by rw [d0]) ?_
      refine zn_callVx (pc := 27) (J := zX1_kind) (o := 11) (as := [.int (nI l), .int (nI c)]) (rest := []) rfl rfl rfl rfl rfl rfl rfl rfl (Nat.le_of_ble_eq_true rfl) (Nat.le_of_ble_eq_true rfl) (Nat.le_of_ble_eq_true rfl) (Nat.le_of_ble_eq_true rfl) (c_kind_10 hz (cOK_l hcel) (l := l) (c := c) (by omega) (by omega)) ?_
      refine zn_iconstN (pc := 30) 2 rfl rfl ?_
      refine zn_icmp_neN (pc := 31) (tgt := 36) (x := (mK z c l)) (y := 2) rfl rfl (by omega) (by omega) (fun c3 => ?_) (fun c3 => ?_)
      · refine zn_iincN (pc := 36) (L' := [some (.ref 18), some (.int (nI b)), some (.ref 11), some (.int (nI (l + 1)))]) 1 rfl rfl rfl (by decide) rfl ?_
        refine zn_goto (pc := 39) (tgt := 9) rfl rfl ?_
        refine ih (l + 1) (by omega) (by omega) (fun i q => ?_)
        rcases Nat.lt_or_ge i l with r | r
        · exact hn2 i ⟨q.1, r⟩
        · rw [show i = l by omega]; assumption
      · refine zn_iconstN (pc := 34) 0 rfl rfl ?_
        exact zx_z (pc := 35) rfl rfl (by decide) (by rw [zb_f (fun q9 => absurd (by assumption) (((bDec_iff hft (fun l => skind_le _ _)).mpr q9).1 l (by omega) (by omega)))]; rfl) rfl
theorem c_isDecimal_10  {m : Nat} {C D : Nat → Nat → Nat} {V W : Nat → Int64} {Xs : Nat → Nat} {Bn : Nat → Int32} (hz : mOK z) (hcel : cCel z C V) {b c f t : Nat} (hb : b < 84) (d0 : D 0 b = c) (d1 : D 1 b = f) (d2 : D 2 b = t) (hc7 : c < 7) (hft : f ≤ t) (ht : t < 24) (hE : ∀ l, f ≤ l → l ≤ t → mE z c l) (d6 : D 6 b = bNum (mK z c) (t + 1 - f) f) : Zx g zX0_isDecimal [.ref 18, .int (nI b), .ref 11] (lhp 10 h (z 0) C V m D W Xs Bn) (some (.int (zb (bDec (mK z c) f t)))) (lhp 10 h (z 0) C V m D W Xs Bn) := by
  show Zn g zX0_isDecimal 0 [some (.ref 18), some (.int (nI b)), some (.ref 11), none] [] (lhp 10 h (z 0) C V m D W Xs Bn) 0 0 _
  refine zn_aload_n (pc := 0) rfl rfl ?_
  refine zn_get (pc := 1) (v := .ref 20) rfl rfl rfl ?_
  refine zn_iload_n (pc := 4) rfl rfl ?_
  refine zl_ldD (pc := 5) (i := 1) (Z := (D 1)) (j := b) rfl (by decide) rfl rfl (by omega) ?_
  refine zn_top (v' := .int (nI f)) (by rw [d1]) ?_
  refine zn_iconstN (pc := 6) 1 rfl rfl ?_
  refine zn_iaddN (pc := 7) (x := f) (y := 1) rfl ?_
  refine zn_istore_n (pc := 8) (L' := [some (.ref 18), some (.int (nI b)), some (.ref 11), some (.int (nI (f + 1)))]) rfl (by decide) rfl ?_
  exact c_isDecimal_l10 hz hcel hb d0 d1 d2 hc7 hft ht hE d6 (t - f) (f + 1) (by omega) (by omega) (fun i q => absurd q.1 (by omega))
theorem c_measureDecimal_l10 {m : Nat} {C D : Nat → Nat → Nat} {V W : Nat → Int64} {Xs : Nat → Nat} {Bn : Nat → Int32} (hz : mOK z) (hcel : cCel z C V) {b c f t : Nat} (hb : b < 84) (d0 : D 0 b = c) (d1 : D 1 b = f) (d2 : D 2 b = t) (hc7 : c < 7) (hft : f ≤ t) (ht : t < 24) (hE : ∀ l, f ≤ l → l ≤ t → mE z c l) {al9 : Nat} (h3 : al9 = 3) : ∀ (n : Nat) (l w p o : Nat), l + n = t + 1 → f ≤ l → bMax (fun l => if al9 = 3 ∧ mK z c l = 1 then mH z c l else 0) (t + 1 - f) f 0 = bMax (fun l => if al9 = 3 ∧ mK z c l = 1 then mH z c l else 0) n l w → bMax (fun l => if al9 = 3 ∧ mK z c l = 1 then mN z c l - mH z c l else 0) (t + 1 - f) f 0 = bMax (fun l => if al9 = 3 ∧ mK z c l = 1 then mN z c l - mH z c l else 0) n l p → bMax (fun l => if al9 = 3 ∧ mK z c l = 1 then 0 else mN z c l) (t + 1 - f) f 0 = bMax (fun l => if al9 = 3 ∧ mK z c l = 1 then 0 else mN z c l) n l o → w ≤ 16 → p ≤ 16 → o ≤ 16 → Zn g zX0_measureDecimal 24 [some (.ref 18), some (.int (nI b)), some (.ref 11), some (.int (nI c)), some (.int (nI w)), some (.int (nI p)), some (.int (nI o)), some (.int (nI l)), none] [] (lhp 10 h (z 0) C V m D W Xs Bn) 0 0 (fun r' h' => r' = .inl none ∧ h' = (lhp 10 h (z 0) C V m (va_up (va_up D 7 (va_up (D 7) b (bPart al9 (mK z c) (mN z c) (mH z c) f t))) 5 (va_up (D 5) b (bCont al9 (mK z c) (mN z c) (mH z c) f t))) W Xs Bn)) := by
  intro n
  induction n with
  | zero =>
    intro l w p o hn0 hn1 hn2 hn3 hn4 hn5 hn6 hn7
    refine zn_iload (pc := 24) rfl rfl ?_
    refine zn_aload_n (pc := 26) rfl rfl ?_
    refine zn_get (pc := 27) (v := .ref 21) rfl rfl rfl ?_
    refine zn_iload_n (pc := 30) rfl rfl ?_
    refine zl_ldD (pc := 31) (i := 2) (Z := (D 2)) (j := b) rfl (by decide) rfl rfl (by omega) ?_
    refine zn_top (v' := .int (nI t)) (by rw [d2]) ?_
    refine zn_icmp_gtN (pc := 32) (tgt := 104) (x := l) (y := t) rfl rfl (by first | omega | (split <;> omega)) (by first | omega | (split <;> omega)) (fun c1 => ?_) (fun c1 => ?_)
    · refine zn_aload_n (pc := 104) rfl rfl ?_
      refine zn_get (pc := 105) (v := .ref 26) rfl rfl rfl ?_
      refine zn_iload_n (pc := 108) rfl rfl ?_
      refine zn_iload (pc := 109) rfl rfl ?_
      refine zl_stD (pc := 111) (i := 7) (j := b) (v := p) rfl (by decide) rfl (by omega) ?_
      refine zn_aload_n (pc := 112) rfl rfl ?_
      refine zn_get (pc := 113) (v := .ref 24) rfl rfl rfl ?_
      refine zn_iload_n (pc := 116) rfl rfl ?_
      refine zn_iload (pc := 117) rfl rfl ?_
      refine zn_iload (pc := 119) rfl rfl ?_
      refine zn_iaddN (pc := 121) (x := w) (y := p) rfl ?_
      refine zn_iload (pc := 122) rfl rfl ?_
      refine zn_maxN (pc := 124) (x := (w + p)) (y := o) rfl (Nat.le_of_ble_eq_true rfl) (Nat.le_of_ble_eq_true rfl) (by first | omega | (split <;> omega)) (by first | omega | (split <;> omega)) ?_
      refine zl_stD (pc := 127) (i := 5) (j := b) (v := (max (w + p) o)) rfl (by decide) rfl (by omega) ?_
      have e1 : bPart al9 (mK z c) (mN z c) (mH z c) f t = p := by unfold bPart; rw [hn3]; simp only [bMax]
      have e2 : bCont al9 (mK z c) (mN z c) (mH z c) f t = max (w + p) o := by unfold bCont; rw [e1, hn2, hn4]; simp only [bMax]
      rw [e1, e2]
      exact zx_v (pc := 128) rfl rfl rfl rfl
    · exfalso; omega
  | succ n ih =>
    intro l w p o hn0 hn1 hn2 hn3 hn4 hn5 hn6 hn7
    refine zn_iload (pc := 24) rfl rfl ?_
    refine zn_aload_n (pc := 26) rfl rfl ?_
    refine zn_get (pc := 27) (v := .ref 21) rfl rfl rfl ?_
    refine zn_iload_n (pc := 30) rfl rfl ?_
    refine zl_ldD (pc := 31) (i := 2) (Z := (D 2)) (j := b) rfl (by decide) rfl rfl (by omega) ?_
    refine zn_top (v' := .int (nI t)) (by rw [d2]) ?_
    refine zn_icmp_gtN (pc := 32) (tgt := 104) (x := l) (y := t) rfl rfl (by first | omega | (split <;> omega)) (by first | omega | (split <;> omega)) (fun c1 => ?_) (fun c1 => ?_)
    · refine zn_aload_n (pc := 104) rfl rfl ?_
      refine zn_get (pc := 105) (v := .ref 26) rfl rfl rfl ?_
      refine zn_iload_n (pc := 108) rfl rfl ?_
      refine zn_iload (pc := 109) rfl rfl ?_
      refine zl_stD (pc := 111) (i := 7) (j := b) (v := p) rfl (by decide) rfl (by omega) ?_
      refine zn_aload_n (pc := 112) rfl rfl ?_
      refine zn_get (pc := 113) (v := .ref 24) rfl rfl rfl ?_
      refine zn_iload_n (pc := 116) rfl rfl ?_
      refine zn_iload (pc := 117) rfl rfl ?_
      refine zn_iload (pc := 119) rfl rfl ?_
      refine zn_iaddN (pc := 121) (x := w) (y := p) rfl ?_
      refine zn_iload (pc := 122) rfl rfl ?_
      refine zn_maxN (pc := 124) (x := (w + p)) (y := o) rfl (Nat.le_of_ble_eq_true rfl) (Nat.le_of_ble_eq_true rfl) (by first | omega | (split <;> omega)) (by first | omega | (split <;> omega)) ?_
      refine zl_stD (pc := 127) (i := 5) (j := b) (v := (max (w + p) o)) rfl (by decide) rfl (by omega) ?_
      exfalso; omega
    · have hEl := hE l (by omega) (by omega)
      have hE1 := hEl.1
      have hE2 := hEl.2
      have k2 : mK z c l ≤ 2 := skind_le _ _
      have q16 := hz.2.2.2 l c hEl.1 (by omega)
      have hw2 : mH z c l ≤ z (25 + 8 * l + c) := Nat.le_trans (swh_le _ _ _) (by omega)
      have hN9 : mN z c l = z (25 + 8 * l + c) := rfl
      refine zn_aload_n (pc := 35) rfl rfl ?_
      refine zn_iload (pc := 36) rfl rfl ?_
      refine zn_iload_n (pc := 38) rfl rfl ?_
      refine zn_callVx (pc := 39) (J := zX1_length) (o := 11) (as := [.int (nI l), .int (nI c)]) (rest := []) rfl rfl rfl rfl rfl rfl rfl rfl (Nat.le_of_ble_eq_true rfl) (Nat.le_of_ble_eq_true rfl) (Nat.le_of_ble_eq_true rfl) (Nat.le_of_ble_eq_true rfl) (c_length_10 hz (cOK_l hcel) (l := l) (c := c) (by omega) (by omega)) ?_
      refine zn_istore (pc := 42) (L' := [some (.ref 18), some (.int (nI b)), some (.ref 11), some (.int (nI c)), some (.int (nI w)), some (.int (nI p)), some (.int (nI o)), some (.int (nI l)), some (.int (nI (z (25 + 8 * l + c))))]) rfl (by decide) rfl ?_
      refine zn_aload_n (pc := 44) rfl rfl ?_
      refine zn_iload (pc := 45) rfl rfl ?_
      refine zn_iload_n (pc := 47) rfl rfl ?_
      refine zn_callVx (pc := 48) (J := zX1_kind) (o := 11) (as := [.int (nI l), .int (nI c)]) (rest := []) rfl rfl rfl rfl rfl rfl rfl rfl (Nat.le_of_ble_eq_true rfl) (Nat.le_of_ble_eq_true rfl) (Nat.le_of_ble_eq_true rfl) (Nat.le_of_ble_eq_true rfl) (c_kind_10 hz (cOK_l hcel) (l := l) (c := c) (by omega) (by omega)) ?_
      refine zn_iconstN (pc := 51) 1 rfl rfl ?_
      refine zn_icmp_neN (pc := 52) (tgt := 89) (x := (mK z c l)) (y := 1) rfl rfl (by first | omega | (split <;> omega)) (by first | omega | (split <;> omega)) (fun c2 => ?_) (fun c2 => ?_)
      · refine zn_iload (pc := 89) rfl rfl ?_
        refine zn_iload (pc := 91) rfl rfl ?_
        refine zn_maxN (pc := 93) (x := o) (y := (z (25 + 8 * l + c))) rfl (Nat.le_of_ble_eq_true rfl) (Nat.le_of_ble_eq_true rfl) (by first | omega | (split <;> omega)) (by first | omega | (split <;> omega)) ?_
        refine zn_istore (pc := 96) (L' := [some (.ref 18), some (.int (nI b)), some (.ref 11), some (.int (nI c)), some (.int (nI w)), some (.int (nI p)), some (.int (nI (max o (z (25 + 8 * l + c))))), some (.int (nI l)), some (.int (nI (z (25 + 8 * l + c))))]) rfl (by decide) rfl ?_
        refine zn_iincN (pc := 98) (L' := [some (.ref 18), some (.int (nI b)), some (.ref 11), some (.int (nI c)), some (.int (nI w)), some (.int (nI p)), some (.int (nI (max o (z (25 + 8 * l + c))))), some (.int (nI (l + 1))), some (.int (nI (z (25 + 8 * l + c))))]) 1 rfl rfl rfl (by decide) rfl ?_
        refine zn_goto (pc := 101) (tgt := 24) rfl rfl ?_
        refine zn_sub (L' := [some (.ref 18), some (.int (nI b)), some (.ref 11), some (.int (nI c)), some (.int (nI (max w ((fun l => if al9 = 3 ∧ mK z c l = 1 then mH z c l else 0) l)))), some (.int (nI (max p ((fun l => if al9 = 3 ∧ mK z c l = 1 then mN z c l - mH z c l else 0) l)))), some (.int (nI (max o ((fun l => if al9 = 3 ∧ mK z c l = 1 then 0 else mN z c l) l)))), some (.int (nI (l + 1))), none]) ⟨rfl, rfl, rfl, rfl, ?_, ?_, ?_, rfl, trivial⟩ (ih (l + 1) _ _ _ (by omega) (by omega) (by rw [hn2]; simp only [bMax]) (by rw [hn3]; simp only [bMax]) (by rw [hn4]; simp only [bMax]) (by simp only; split <;> omega) (by simp only; split <;> omega) (by simp only; split <;> omega))
        · simp only; rw [if_neg (fun q => absurd q.2 (by assumption)), Nat.max_eq_left (Nat.zero_le _)]
        · simp only; rw [if_neg (fun q => absurd q.2 (by assumption)), Nat.max_eq_left (Nat.zero_le _)]
        · simp only; rw [if_neg (fun q => absurd q.2 (by assumption))]
      · refine zn_iload (pc := 55) rfl rfl ?_
        refine zn_aload_n (pc := 57) rfl rfl ?_
        refine zn_iload (pc := 58) rfl rfl ?_
        refine zn_iload_n (pc := 60) rfl rfl ?_
        refine zn_callVx (pc := 61) (J := zX1_whole) (o := 11) (as := [.int (nI l), .int (nI c)]) (rest := [.int (nI w)]) rfl rfl rfl rfl rfl rfl rfl rfl (Nat.le_of_ble_eq_true rfl) (Nat.le_of_ble_eq_true rfl) (Nat.le_of_ble_eq_true rfl) (Nat.le_of_ble_eq_true rfl) (c_whole_10 hz (cOK_l hcel) (l := l) (c := c) (by omega) (by omega)) ?_
        refine zn_maxN (pc := 64) (x := w) (y := (if mK z c l = 1 then mH z c l else 0)) rfl (Nat.le_of_ble_eq_true rfl) (Nat.le_of_ble_eq_true rfl) (by first | omega | (split <;> omega)) (by first | omega | (split <;> omega)) ?_
        refine zn_istore (pc := 67) (L' := [some (.ref 18), some (.int (nI b)), some (.ref 11), some (.int (nI c)), some (.int (nI (max w (if mK z c l = 1 then mH z c l else 0)))), some (.int (nI p)), some (.int (nI o)), some (.int (nI l)), some (.int (nI (z (25 + 8 * l + c))))]) rfl (by decide) rfl ?_
        refine zn_iload (pc := 69) rfl rfl ?_
        refine zn_iload (pc := 71) rfl rfl ?_
        refine zn_aload_n (pc := 73) rfl rfl ?_
        refine zn_iload (pc := 74) rfl rfl ?_
        refine zn_iload_n (pc := 76) rfl rfl ?_
        refine zn_callVx (pc := 77) (J := zX1_whole) (o := 11) (as := [.int (nI l), .int (nI c)]) (rest := [.int (nI (z (25 + 8 * l + c))), .int (nI p)]) rfl rfl rfl rfl rfl rfl rfl rfl (Nat.le_of_ble_eq_true rfl) (Nat.le_of_ble_eq_true rfl) (Nat.le_of_ble_eq_true rfl) (Nat.le_of_ble_eq_true rfl) (c_whole_10 hz (cOK_l hcel) (l := l) (c := c) (by omega) (by omega)) ?_
        refine zn_isubN (pc := 80) (x := (z (25 + 8 * l + c))) (y := (if mK z c l = 1 then mH z c l else 0)) rfl (by split <;> omega) ?_
        refine zn_maxN (pc := 81) (x := p) (y := ((z (25 + 8 * l + c)) - (if mK z c l = 1 then mH z c l else 0))) rfl (Nat.le_of_ble_eq_true rfl) (Nat.le_of_ble_eq_true rfl) (by first | omega | (split <;> omega)) (by first | omega | (split <;> omega)) ?_
        refine zn_istore (pc := 84) (L' := [some (.ref 18), some (.int (nI b)), some (.ref 11), some (.int (nI c)), some (.int (nI (max w (if mK z c l = 1 then mH z c l else 0)))), some (.int (nI (max p ((z (25 + 8 * l + c)) - (if mK z c l = 1 then mH z c l else 0))))), some (.int (nI o)), some (.int (nI l)), some (.int (nI (z (25 + 8 * l + c))))]) rfl (by decide) rfl ?_
        refine zn_goto (pc := 86) (tgt := 98) rfl rfl ?_
        refine zn_iincN (pc := 98) (L' := [some (.ref 18), some (.int (nI b)), some (.ref 11), some (.int (nI c)), some (.int (nI (max w (if mK z c l = 1 then mH z c l else 0)))), some (.int (nI (max p ((z (25 + 8 * l + c)) - (if mK z c l = 1 then mH z c l else 0))))), some (.int (nI o)), some (.int (nI (l + 1))), some (.int (nI (z (25 + 8 * l + c))))]) 1 rfl rfl rfl (by decide) rfl ?_
        refine zn_goto (pc := 101) (tgt := 24) rfl rfl ?_
        refine zn_sub (L' := [some (.ref 18), some (.int (nI b)), some (.ref 11), some (.int (nI c)), some (.int (nI (max w ((fun l => if al9 = 3 ∧ mK z c l = 1 then mH z c l else 0) l)))), some (.int (nI (max p ((fun l => if al9 = 3 ∧ mK z c l = 1 then mN z c l - mH z c l else 0) l)))), some (.int (nI (max o ((fun l => if al9 = 3 ∧ mK z c l = 1 then 0 else mN z c l) l)))), some (.int (nI (l + 1))), none]) ⟨rfl, rfl, rfl, rfl, ?_, ?_, ?_, rfl, trivial⟩ (ih (l + 1) _ _ _ (by omega) (by omega) (by rw [hn2]; simp only [bMax]) (by rw [hn3]; simp only [bMax]) (by rw [hn4]; simp only [bMax]) (by simp only; split <;> omega) (by simp only; split <;> omega) (by simp only; split <;> omega))
        · simp only; rw [if_pos (show mK z c l = 1 by assumption), if_pos (show al9 = 3 ∧ mK z c l = 1 from ⟨h3, by assumption⟩)]
        · simp only; rw [if_pos (show mK z c l = 1 by assumption), if_pos (show al9 = 3 ∧ mK z c l = 1 from ⟨h3, by assumption⟩)]
        · simp only; rw [if_pos ⟨h3, by assumption⟩, Nat.max_eq_left (Nat.zero_le _)]
theorem c_lastLine_l30 (hz : mOK z) (hk : cOK hh 30 z) {c f : Nat} (hc : c < 8) : ∀ (n : Nat) (l R : Nat), z 0 ≤ l + n → l < 24 → R = bRun z c n l → Zn g zX0_lastLine 2 [some (.ref 31), some (.int (nI c)), some (.int (nI f)), some (.int (nI l))] [] (hh) 0 0 (fun r' h' => r' = .inl (some (.int (nI R))) ∧ h' = (hh)) := by
  intro n
  induction n with
  | zero =>
    intro l R hn0 hn1 hn2
    have h1 := hz.2.1
    obtain ⟨C, V, o1, -⟩ := id hk
    refine zn_iload_n (pc := 2) rfl rfl ?_
    refine zn_iconstN (pc := 3) 1 rfl rfl ?_
    refine zn_iaddN (pc := 4) (x := l) (y := 1) rfl ?_
    refine zn_aload_n (pc := 5) rfl rfl ?_
    refine zn_callVx (pc := 6) (J := zX1_lines) (o := 31) (as := []) (rest := [.int (nI (l + 1))]) rfl rfl rfl rfl o1 rfl rfl rfl (Nat.le_of_ble_eq_true rfl) (Nat.le_of_ble_eq_true rfl) (Nat.le_of_ble_eq_true rfl) (Nat.le_of_ble_eq_true rfl) (c_linesK_30 hk) ?_
    refine zn_icmp_geN (pc := 9) (tgt := 29) (x := (l + 1)) (y := (z 0)) rfl rfl (by omega) (by omega) (fun c1 => ?_) (fun c1 => ?_)
    · refine zn_iload_n (pc := 29) rfl rfl ?_
      exact zx_i (pc := 30) rfl rfl (by rw [hn2]; simp only [bRun]) rfl
    · exfalso; omega
  | succ n ih =>
    intro l R hn0 hn1 hn2
    have h1 := hz.2.1
    obtain ⟨C, V, o1, -⟩ := id hk
    refine zn_iload_n (pc := 2) rfl rfl ?_
    refine zn_iconstN (pc := 3) 1 rfl rfl ?_
    refine zn_iaddN (pc := 4) (x := l) (y := 1) rfl ?_
    refine zn_aload_n (pc := 5) rfl rfl ?_
    refine zn_callVx (pc := 6) (J := zX1_lines) (o := 31) (as := []) (rest := [.int (nI (l + 1))]) rfl rfl rfl rfl o1 rfl rfl rfl (Nat.le_of_ble_eq_true rfl) (Nat.le_of_ble_eq_true rfl) (Nat.le_of_ble_eq_true rfl) (Nat.le_of_ble_eq_true rfl) (c_linesK_30 hk) ?_
    refine zn_icmp_geN (pc := 9) (tgt := 29) (x := (l + 1)) (y := (z 0)) rfl rfl (by omega) (by omega) (fun c1 => ?_) (fun c1 => ?_)
    · refine zn_iload_n (pc := 29) rfl rfl ?_
      exact zx_i (pc := 30) rfl rfl (by rw [hn2]; simp only [bRun]; rw [if_neg (by first | assumption | (intro q9; have := q9.1; omega))]) rfl
    · refine zn_aload_n (pc := 12) rfl rfl ?_
      refine zn_iload_n (pc := 13) rfl rfl ?_
      refine zn_iconstN (pc := 14) 1 rfl rfl ?_
      refine zn_iaddN (pc := 15) (x := l) (y := 1) rfl ?_
      refine zn_iload_n (pc := 16) rfl rfl ?_
      refine zn_callVx (pc := 17) (J := zX1_endsWithTab) (o := 31) (as := [.int (nI (l + 1)), .int (nI c)]) (rest := []) rfl rfl rfl rfl o1 rfl rfl rfl (Nat.le_of_ble_eq_true rfl) (Nat.le_of_ble_eq_true rfl) (Nat.le_of_ble_eq_true rfl) (Nat.le_of_ble_eq_true rfl) (c_endsN_30 hz hk (l := (l + 1)) (c := c) (by omega) (by omega)) ?_
      refine zn_if_eqB (pc := 20) (tgt := 29) rfl rfl (fun c2 => ?_) (fun c2 => ?_)
      · refine zn_iload_n (pc := 29) rfl rfl ?_
        exact zx_i (pc := 30) rfl rfl (by rw [hn2]; simp only [bRun]; rw [if_neg (by first | assumption | (intro q9; have := q9.1; omega))]) rfl
      · refine zn_iincN (pc := 23) (L' := [some (.ref 31), some (.int (nI c)), some (.int (nI f)), some (.int (nI (l + 1)))]) 1 rfl rfl rfl (by decide) rfl ?_
        refine zn_goto (pc := 26) (tgt := 2) rfl rfl ?_
        exact ih (l + 1) R (by omega) (by omega) (by rw [hn2]; simp only [bRun]; rw [if_pos (by assumption)])
theorem c_lastLine_30  (hz : mOK z) (hk : cOK hh 30 z) {c f : Nat} (hc : c < 8) (hf : f < z 0) : Zx g zX0_lastLine [.ref 31, .int (nI c), .int (nI f)] (hh) (some (.int (nI (bRun z c (z 0) f)))) (hh) := by
  have h1 := hz.2.1
  show Zn g zX0_lastLine 0 [some (.ref 31), some (.int (nI c)), some (.int (nI f)), none] [] (hh) 0 0 _
  refine zn_iload_n (pc := 0) rfl rfl ?_
  refine zn_istore_n (pc := 1) (L' := [some (.ref 31), some (.int (nI c)), some (.int (nI f)), some (.int (nI f))]) rfl (by decide) rfl ?_
  exact c_lastLine_l30 hz hk hc (z 0) f _ (by omega) (by omega) rfl
theorem c_addNumbers_l30 {m : Nat} {C D : Nat → Nat → Nat} {V W : Nat → Int64} {Xs : Nat → Nat} {Bn : Nat → Int32} (hz : mOK z) (hcel : cCel z C V) {b c f t : Nat} (hb : b < 84) (d0 : D 0 b = c) (d1 : D 1 b = f) (d2 : D 2 b = t) (hc7 : c < 7) (hft : f ≤ t) (ht : t < 24) (hE : ∀ l, f ≤ l → l ≤ t → mE z c l) : ∀ (n : Nat) (l s : Nat) (v : Int64), l + n = t + 1 → f ≤ l → bNum (mK z c) (t + 1 - f) f = s + bNum (mK z c) n l → bSum z c f t = bSm z c n l v → Zn g zX0_addNumbers 21 [some (.ref 38), some (.int (nI b)), some (.ref 31), some (.int (nI l))] [] (lhp 30 h (z 0) C V m (va_up D 6 (va_up (D 6) b s)) (va_up W b v) Xs Bn) 0 0 (fun r' h' => r' = .inl none ∧ h' = (lhp 30 h (z 0) C V m (va_up D 6 (va_up (D 6) b (bNum (mK z c) (t + 1 - f) f))) (va_up W b (bSum z c f t)) Xs Bn)) := by
  intro n
  induction n with
  | zero =>
    intro l s v hn0 hn1 hn2 hn3
    refine zn_iload_n (pc := 21) rfl rfl ?_
    refine zn_aload_n (pc := 22) rfl rfl ?_
    refine zn_get (pc := 23) (v := .ref 41) rfl rfl rfl ?_
    refine zn_iload_n (pc := 26) rfl rfl ?_
    refine zl_ldD (pc := 27) (i := 2) (Z := (D 2)) (j := b) rfl (by decide) rfl (va_upN (by decide)) (by omega) ?_
    refine zn_top (v' := .int (nI t)) (by rw [d2]) ?_
    refine zn_icmp_gtN (pc := 28) (tgt := 82) (x := l) (y := t) rfl rfl (by omega) (by omega) (fun c1 => ?_) (fun c1 => ?_)
    · rw [hn2, hn3]
      simp only [bNum, bSm, Nat.add_zero]
      exact zx_v (pc := 82) rfl rfl rfl rfl
    · exfalso; omega
  | succ n ih =>
    intro l s v hn0 hn1 hn2 hn3
    refine zn_iload_n (pc := 21) rfl rfl ?_
    refine zn_aload_n (pc := 22) rfl rfl ?_
    refine zn_get (pc := 23) (v := .ref 41) rfl rfl rfl ?_
    refine zn_iload_n (pc := 26) rfl rfl ?_
    refine zl_ldD (pc := 27) (i := 2) (Z := (D 2)) (j := b) rfl (by decide) rfl (va_upN (by decide)) (by omega) ?_
    refine zn_top (v' := .int (nI t)) (by rw [d2]) ?_
    refine zn_icmp_gtN (pc := 28) (tgt := 82) (x := l) (y := t) rfl rfl (by omega) (by omega) (fun c1 => ?_) (fun c1 => ?_)
    · exfalso; omega
    · have hEl := hE l (by omega) (by omega)
      have hE1 := hEl.1
      have hE2 := hEl.2
      have k2 : mK z c l ≤ 2 := skind_le _ _
      have q16 := hz.2.2.2 l c hEl.1 (by omega)
      have hw2 : mH z c l ≤ z (25 + 8 * l + c) := Nat.le_trans (swh_le _ _ _) (by omega)
      have hN9 : mN z c l = z (25 + 8 * l + c) := rfl
      refine zn_aload_n (pc := 31) rfl rfl ?_
      refine zn_iload_n (pc := 32) rfl rfl ?_
      refine zn_aload_n (pc := 33) rfl rfl ?_
      refine zn_get (pc := 34) (v := .ref 39) rfl rfl rfl ?_
      refine zn_iload_n (pc := 37) rfl rfl ?_
      refine zl_ldD (pc := 38) (i := 0) (Z := (D 0)) (j := b) rfl (by decide) rfl (va_upN (by decide)) (by omega) ?_
      refine zn_top (v' := .int (nI c)) (by rw [d0]) ?_
      refine zn_callVx (pc := 39) (J := zX1_kind) (o := 31) (as := [.int (nI l), .int (nI c)]) (rest := []) rfl rfl rfl rfl rfl rfl rfl rfl (Nat.le_of_ble_eq_true rfl) (Nat.le_of_ble_eq_true rfl) (Nat.le_of_ble_eq_true rfl) (Nat.le_of_ble_eq_true rfl) (c_kind_30 hz (cOK_l hcel) (l := l) (c := c) (by omega) (by omega)) ?_
      refine zn_iconstN (pc := 42) 1 rfl rfl ?_
      refine zn_icmp_neN (pc := 43) (tgt := 76) (x := (mK z c l)) (y := 1) rfl rfl (by omega) (by omega) (fun c2 => ?_) (fun c2 => ?_)
      · refine zn_iincN (pc := 76) (L' := [some (.ref 38), some (.int (nI b)), some (.ref 31), some (.int (nI (l + 1)))]) 1 rfl rfl rfl (by decide) rfl ?_
        refine zn_goto (pc := 79) (tgt := 21) rfl rfl ?_
        exact ih (l + 1) s v (by omega) (by omega) (by rw [hn2]; simp only [bNum]; rw [if_neg (by assumption)]; omega) (by rw [hn3]; simp only [bSm]; rw [if_neg (by assumption), Int64.add_zero])
      · refine zn_aload_n (pc := 46) rfl rfl ?_
        refine zn_get (pc := 47) (v := .ref 45) rfl rfl rfl ?_
        refine zn_iload_n (pc := 50) rfl rfl ?_
        refine zn_dup2 (pc := 51) rfl rfl rfl ?_
        refine zl_ldD (pc := 52) (i := 6) (Z := (va_up (D 6) b s)) (j := b) rfl (by decide) rfl (va_upS _ _ _) (by omega) ?_
        refine zn_top (v' := .int (nI s)) (by rw [va_upS]) ?_
        refine zn_iconstN (pc := 53) 1 rfl rfl ?_
        refine zn_iaddN (pc := 54) (x := s) (y := 1) rfl ?_
        refine zl_stD (pc := 55) (i := 6) (j := b) (v := (s + 1)) rfl (by decide) rfl (by omega) ?_
        refine zn_aload_n (pc := 56) rfl rfl ?_
        refine zn_get (pc := 57) (v := .ref 47) rfl rfl rfl ?_
        refine zn_iload_n (pc := 60) rfl rfl ?_
        refine zn_dup2 (pc := 61) rfl rfl rfl ?_
        refine zl_ldW (pc := 62) (j := b) rfl rfl (by omega) ?_
        refine zn_top (v' := .long v) (by rw [va_upS]) ?_
        refine zn_aload_n (pc := 63) rfl rfl ?_
        refine zn_iload_n (pc := 64) rfl rfl ?_
        refine zn_aload_n (pc := 65) rfl rfl ?_
        refine zn_get (pc := 66) (v := .ref 39) rfl rfl rfl ?_
        refine zn_iload_n (pc := 69) rfl rfl ?_
        refine zl_ldD (pc := 70) (i := 0) (Z := (D 0)) (j := b) rfl (by decide) rfl ((va_upN (by decide)).trans (va_upN (by decide))) (by omega) ?_
        refine zn_top (v' := .int (nI c)) (by rw [d0]) ?_
        refine zn_callVx (pc := 71) (J := zX1_value) (o := 31) (as := [.int (nI l), .int (nI c)]) (rest := [.long v, .int (nI b), .ref 47]) rfl rfl rfl rfl rfl rfl rfl rfl (Nat.le_of_ble_eq_true rfl) (Nat.le_of_ble_eq_true rfl) (Nat.le_of_ble_eq_true rfl) (Nat.le_of_ble_eq_true rfl) (c_value_30 hz (cOK_l hcel) (l := l) (c := c) (by omega) (by omega)) ?_
        refine zn_ladd (pc := 74) rfl ?_
        refine zl_stW (pc := 75) (j := b) rfl rfl (by omega) ?_
        refine zn_iincN (pc := 76) (L' := [some (.ref 38), some (.int (nI b)), some (.ref 31), some (.int (nI (l + 1)))]) 1 rfl rfl rfl (by decide) rfl ?_
        refine zn_goto (pc := 79) (tgt := 21) rfl rfl ?_
        refine zn_heq (h' := lhp 30 h (z 0) C V m (va_up D 6 (va_up (D 6) b (s + 1))) (va_up W b (v + (if mK z c l = 1 then sVal (mf z l c) (mN z c l) else 0))) Xs Bn) ?_ (ih (l + 1) (s + 1) (v + (if mK z c l = 1 then sVal (mf z l c) (mN z c l) else 0)) (by omega) (by omega) (by rw [hn2]; simp only [bNum]; rw [if_pos (by assumption)]; omega) (by rw [hn3]; simp only [bSm]))
        simp only [bx_uu, va_upS]
theorem c_addNumbers_30  {m : Nat} {C D : Nat → Nat → Nat} {V W : Nat → Int64} {Xs : Nat → Nat} {Bn : Nat → Int32} (hz : mOK z) (hcel : cCel z C V) {b c f t : Nat} (hb : b < 84) (d0 : D 0 b = c) (d1 : D 1 b = f) (d2 : D 2 b = t) (hc7 : c < 7) (hft : f ≤ t) (ht : t < 24) (hE : ∀ l, f ≤ l → l ≤ t → mE z c l) : Zx g zX0_addNumbers [.ref 38, .int (nI b), .ref 31] (lhp 30 h (z 0) C V m D W Xs Bn) none (lhp 30 h (z 0) C V m (va_up D 6 (va_up (D 6) b (bNum (mK z c) (t + 1 - f) f))) (va_up W b (bSum z c f t)) Xs Bn) := by
  show Zn g zX0_addNumbers 0 [some (.ref 38), some (.int (nI b)), some (.ref 31), none] [] (lhp 30 h (z 0) C V m D W Xs Bn) 0 0 _
  refine zn_aload_n (pc := 0) rfl rfl ?_
  refine zn_get (pc := 1) (v := .ref 45) rfl rfl rfl ?_
  refine zn_iload_n (pc := 4) rfl rfl ?_
  refine zn_iconstN (pc := 5) 0 rfl rfl ?_
  refine zl_stD (pc := 6) (i := 6) (j := b) (v := 0) rfl (by decide) rfl (by omega) ?_
  refine zn_aload_n (pc := 7) rfl rfl ?_
  refine zn_get (pc := 8) (v := .ref 47) rfl rfl rfl ?_
  refine zn_iload_n (pc := 11) rfl rfl ?_
  refine zn_lconst (pc := 12) 0 rfl rfl ?_
  refine zl_stW (pc := 13) (j := b) rfl rfl (by omega) ?_
  refine zn_aload_n (pc := 14) rfl rfl ?_
  refine zn_get (pc := 15) (v := .ref 40) rfl rfl rfl ?_
  refine zn_iload_n (pc := 18) rfl rfl ?_
  refine zl_ldD (pc := 19) (i := 1) (Z := (D 1)) (j := b) rfl (by decide) rfl (va_upN (by decide)) (by omega) ?_
  refine zn_top (v' := .int (nI f)) (by rw [d1]) ?_
  refine zn_istore_n (pc := 20) (L' := [some (.ref 38), some (.int (nI b)), some (.ref 31), some (.int (nI f))]) rfl (by decide) rfl ?_
  exact c_addNumbers_l30 hz hcel hb d0 d1 d2 hc7 hft ht hE (t + 1 - f) f 0 0 (by omega) (by omega) (by omega) rfl
theorem c_isDecimal_l30 {m : Nat} {C D : Nat → Nat → Nat} {V W : Nat → Int64} {Xs : Nat → Nat} {Bn : Nat → Int32} (hz : mOK z) (hcel : cCel z C V) {b c f t : Nat} (hb : b < 84) (d0 : D 0 b = c) (d1 : D 1 b = f) (d2 : D 2 b = t) (hc7 : c < 7) (hft : f ≤ t) (ht : t < 24) (hE : ∀ l, f ≤ l → l ≤ t → mE z c l) (d6 : D 6 b = bNum (mK z c) (t + 1 - f) f) : ∀ (n : Nat) (l : Nat), l + n = t + 1 → f < l → (∀ i, f < i ∧ i < l → mK z c i ≠ 2) → Zn g zX0_isDecimal 9 [some (.ref 38), some (.int (nI b)), some (.ref 31), some (.int (nI l))] [] (lhp 30 h (z 0) C V m D W Xs Bn) 0 0 (fun r' h' => r' = .inl (some (.int (zb (bDec (mK z c) f t)))) ∧ h' = (lhp 30 h (z 0) C V m D W Xs Bn)) := by
  intro n
  induction n with
  | zero =>
    intro l hn0 hn1 hn2
    have hnb := bNum_le (mK z c) (t + 1 - f) f
    refine zn_iload_n (pc := 9) rfl rfl ?_
    refine zn_aload_n (pc := 10) rfl rfl ?_
    refine zn_get (pc := 11) (v := .ref 41) rfl rfl rfl ?_
    refine zn_iload_n (pc := 14) rfl rfl ?_
    refine zl_ldD (pc := 15) (i := 2) (Z := (D 2)) (j := b) rfl (by decide) rfl rfl (by omega) ?_
    refine zn_top (v' := .int (nI t)) (by rw [d2]) ?_
    refine zn_icmp_gtN (pc := 16) (tgt := 42) (x := l) (y := t) rfl rfl (by omega) (by omega) (fun c1 => ?_) (fun c1 => ?_)
    · refine zn_aload_n (pc := 42) rfl rfl ?_
      refine zn_get (pc := 43) (v := .ref 45) rfl rfl rfl ?_
      refine zn_iload_n (pc := 46) rfl rfl ?_
      refine zl_ldD (pc := 47) (i := 6) (Z := (D 6)) (j := b) rfl (by decide) rfl rfl (by omega) ?_
      refine zn_top (v' := .int (nI (bNum (mK z c) (t + 1 - f) f))) (by rw [d6]) ?_
      refine zn_if_leN (pc := 48) (tgt := 55) (x := (bNum (mK z c) (t + 1 - f) f)) rfl rfl (by omega) (fun c2 => ?_) (fun c2 => ?_)
      · refine zn_iconstN (pc := 55) 0 rfl rfl ?_
        exact zx_z (pc := 56) rfl rfl (by decide) (by rw [zb_f (fun q9 => by have := ((bDec_iff hft (fun l => skind_le _ _)).mpr q9).2; omega)]; rfl) rfl
      · refine zn_iconstN (pc := 51) 1 rfl rfl ?_
        refine zn_goto (pc := 52) (tgt := 56) rfl rfl ?_
        exact zx_z (pc := 56) rfl rfl (by decide) (by rw [zb_t ((bDec_iff hft (fun l => skind_le _ _)).mp ⟨fun i q1 q2 => hn2 i ⟨q1, by omega⟩, by omega⟩)]; rfl) rfl
    · exfalso; omega
  | succ n ih =>
    intro l hn0 hn1 hn2
    have hnb := bNum_le (mK z c) (t + 1 - f) f
    refine zn_iload_n (pc := 9) rfl rfl ?_
    refine zn_aload_n (pc := 10) rfl rfl ?_
    refine zn_get (pc := 11) (v := .ref 41) rfl rfl rfl ?_
    refine zn_iload_n (pc := 14) rfl rfl ?_
    refine zl_ldD (pc := 15) (i := 2) (Z := (D 2)) (j := b) rfl (by decide) rfl rfl (by omega) ?_
    refine zn_top (v' := .int (nI t)) (by rw [d2]) ?_
    refine zn_icmp_gtN (pc := 16) (tgt := 42) (x := l) (y := t) rfl rfl (by omega) (by omega) (fun c1 => ?_) (fun c1 => ?_)
    · refine zn_aload_n (pc := 42) rfl rfl ?_
      refine zn_get (pc := 43) (v := .ref 45) rfl rfl rfl ?_
      refine zn_iload_n (pc := 46) rfl rfl ?_
      refine zl_ldD (pc := 47) (i := 6) (Z := (D 6)) (j := b) rfl (by decide) rfl rfl (by omega) ?_
      refine zn_top (v' := .int (nI (bNum (mK z c) (t + 1 - f) f))) (by rw [d6]) ?_
      refine zn_if_leN (pc := 48) (tgt := 55) (x := (bNum (mK z c) (t + 1 - f) f)) rfl rfl (by omega) (fun c2 => ?_) (fun c2 => ?_)
      · refine zn_iconstN (pc := 55) 0 rfl rfl ?_
        exact zx_z (pc := 56) rfl rfl (by decide) (by rw [zb_f (fun q9 => by have := ((bDec_iff hft (fun l => skind_le _ _)).mpr q9).2; omega)]; rfl) rfl
      · refine zn_iconstN (pc := 51) 1 rfl rfl ?_
        refine zn_goto (pc := 52) (tgt := 56) rfl rfl ?_
        exact zx_z (pc := 56) rfl rfl (by decide) (by rw [zb_t ((bDec_iff hft (fun l => skind_le _ _)).mp ⟨fun i q1 q2 => hn2 i ⟨q1, by omega⟩, by omega⟩)]; rfl) rfl
    · have hEl := hE l (by omega) (by omega)
      have hE1 := hEl.1
      have hE2 := hEl.2
      have k2 : mK z c l ≤ 2 := skind_le _ _
      have q16 := hz.2.2.2 l c hEl.1 (by omega)
      have hw2 : mH z c l ≤ z (25 + 8 * l + c) := Nat.le_trans (swh_le _ _ _) (by omega)
      have hN9 : mN z c l = z (25 + 8 * l + c) := rfl
      refine zn_aload_n (pc := 19) rfl rfl ?_
      refine zn_iload_n (pc := 20) rfl rfl ?_
      refine zn_aload_n (pc := 21) rfl rfl ?_
      refine zn_get (pc := 22) (v := .ref 39) rfl rfl rfl ?_
      refine zn_iload_n (pc := 25) rfl rfl ?_
      refine zl_ldD (pc := 26) (i := 0) (Z := (D 0)) (j := b) rfl (by decide) rfl rfl (by omega) ?_
      refine zn_top (v' := .int (nI c)) (by rw [d0]) ?_
      refine zn_callVx (pc := 27) (J := zX1_kind) (o := 31) (as := [.int (nI l), .int (nI c)]) (rest := []) rfl rfl rfl rfl rfl rfl rfl rfl (Nat.le_of_ble_eq_true rfl) (Nat.le_of_ble_eq_true rfl) (Nat.le_of_ble_eq_true rfl) (Nat.le_of_ble_eq_true rfl) (c_kind_30 hz (cOK_l hcel) (l := l) (c := c) (by omega) (by omega)) ?_
      refine zn_iconstN (pc := 30) 2 rfl rfl ?_
      refine zn_icmp_neN (pc := 31) (tgt := 36) (x := (mK z c l)) (y := 2) rfl rfl (by omega) (by omega) (fun c3 => ?_) (fun c3 => ?_)
      · refine zn_iincN (pc := 36) (L' := [some (.ref 38), some (.int (nI b)), some (.ref 31), some (.int (nI (l + 1)))]) 1 rfl rfl rfl (by decide) rfl ?_
        refine zn_goto (pc := 39) (tgt := 9) rfl rfl ?_
        refine ih (l + 1) (by omega) (by omega) (fun i q => ?_)
        rcases Nat.lt_or_ge i l with r | r
        · exact hn2 i ⟨q.1, r⟩
        · rw [show i = l by omega]; assumption
      · refine zn_iconstN (pc := 34) 0 rfl rfl ?_
        exact zx_z (pc := 35) rfl rfl (by decide) (by rw [zb_f (fun q9 => absurd (by assumption) (((bDec_iff hft (fun l => skind_le _ _)).mpr q9).1 l (by omega) (by omega)))]; rfl) rfl
theorem c_isDecimal_30  {m : Nat} {C D : Nat → Nat → Nat} {V W : Nat → Int64} {Xs : Nat → Nat} {Bn : Nat → Int32} (hz : mOK z) (hcel : cCel z C V) {b c f t : Nat} (hb : b < 84) (d0 : D 0 b = c) (d1 : D 1 b = f) (d2 : D 2 b = t) (hc7 : c < 7) (hft : f ≤ t) (ht : t < 24) (hE : ∀ l, f ≤ l → l ≤ t → mE z c l) (d6 : D 6 b = bNum (mK z c) (t + 1 - f) f) : Zx g zX0_isDecimal [.ref 38, .int (nI b), .ref 31] (lhp 30 h (z 0) C V m D W Xs Bn) (some (.int (zb (bDec (mK z c) f t)))) (lhp 30 h (z 0) C V m D W Xs Bn) := by
  show Zn g zX0_isDecimal 0 [some (.ref 38), some (.int (nI b)), some (.ref 31), none] [] (lhp 30 h (z 0) C V m D W Xs Bn) 0 0 _
  refine zn_aload_n (pc := 0) rfl rfl ?_
  refine zn_get (pc := 1) (v := .ref 40) rfl rfl rfl ?_
  refine zn_iload_n (pc := 4) rfl rfl ?_
  refine zl_ldD (pc := 5) (i := 1) (Z := (D 1)) (j := b) rfl (by decide) rfl rfl (by omega) ?_
  refine zn_top (v' := .int (nI f)) (by rw [d1]) ?_
  refine zn_iconstN (pc := 6) 1 rfl rfl ?_
  refine zn_iaddN (pc := 7) (x := f) (y := 1) rfl ?_
  refine zn_istore_n (pc := 8) (L' := [some (.ref 38), some (.int (nI b)), some (.ref 31), some (.int (nI (f + 1)))]) rfl (by decide) rfl ?_
  exact c_isDecimal_l30 hz hcel hb d0 d1 d2 hc7 hft ht hE d6 (t - f) (f + 1) (by omega) (by omega) (fun i q => absurd q.1 (by omega))
theorem c_measureDecimal_l30 {m : Nat} {C D : Nat → Nat → Nat} {V W : Nat → Int64} {Xs : Nat → Nat} {Bn : Nat → Int32} (hz : mOK z) (hcel : cCel z C V) {b c f t : Nat} (hb : b < 84) (d0 : D 0 b = c) (d1 : D 1 b = f) (d2 : D 2 b = t) (hc7 : c < 7) (hft : f ≤ t) (ht : t < 24) (hE : ∀ l, f ≤ l → l ≤ t → mE z c l) {al9 : Nat} (h3 : al9 = 3) : ∀ (n : Nat) (l w p o : Nat), l + n = t + 1 → f ≤ l → bMax (fun l => if al9 = 3 ∧ mK z c l = 1 then mH z c l else 0) (t + 1 - f) f 0 = bMax (fun l => if al9 = 3 ∧ mK z c l = 1 then mH z c l else 0) n l w → bMax (fun l => if al9 = 3 ∧ mK z c l = 1 then mN z c l - mH z c l else 0) (t + 1 - f) f 0 = bMax (fun l => if al9 = 3 ∧ mK z c l = 1 then mN z c l - mH z c l else 0) n l p → bMax (fun l => if al9 = 3 ∧ mK z c l = 1 then 0 else mN z c l) (t + 1 - f) f 0 = bMax (fun l => if al9 = 3 ∧ mK z c l = 1 then 0 else mN z c l) n l o → w ≤ 16 → p ≤ 16 → o ≤ 16 → Zn g zX0_measureDecimal 24 [some (.ref 38), some (.int (nI b)), some (.ref 31), some (.int (nI c)), some (.int (nI w)), some (.int (nI p)), some (.int (nI o)), some (.int (nI l)), none] [] (lhp 30 h (z 0) C V m D W Xs Bn) 0 0 (fun r' h' => r' = .inl none ∧ h' = (lhp 30 h (z 0) C V m (va_up (va_up D 7 (va_up (D 7) b (bPart al9 (mK z c) (mN z c) (mH z c) f t))) 5 (va_up (D 5) b (bCont al9 (mK z c) (mN z c) (mH z c) f t))) W Xs Bn)) := by
  intro n
  induction n with
  | zero =>
    intro l w p o hn0 hn1 hn2 hn3 hn4 hn5 hn6 hn7
    refine zn_iload (pc := 24) rfl rfl ?_
    refine zn_aload_n (pc := 26) rfl rfl ?_
    refine zn_get (pc := 27) (v := .ref 41) rfl rfl rfl ?_
    refine zn_iload_n (pc := 30) rfl rfl ?_
    refine zl_ldD (pc := 31) (i := 2) (Z := (D 2)) (j := b) rfl (by decide) rfl rfl (by omega) ?_
    refine zn_top (v' := .int (nI t)) (by rw [d2]) ?_
    refine zn_icmp_gtN (pc := 32) (tgt := 104) (x := l) (y := t) rfl rfl (by first | omega | (split <;> omega)) (by first | omega | (split <;> omega)) (fun c1 => ?_) (fun c1 => ?_)
    · refine zn_aload_n (pc := 104) rfl rfl ?_
      refine zn_get (pc := 105) (v := .ref 46) rfl rfl rfl ?_
      refine zn_iload_n (pc := 108) rfl rfl ?_
      refine zn_iload (pc := 109) rfl rfl ?_
      refine zl_stD (pc := 111) (i := 7) (j := b) (v := p) rfl (by decide) rfl (by omega) ?_
      refine zn_aload_n (pc := 112) rfl rfl ?_
      refine zn_get (pc := 113) (v := .ref 44) rfl rfl rfl ?_
      refine zn_iload_n (pc := 116) rfl rfl ?_
      refine zn_iload (pc := 117) rfl rfl ?_
      refine zn_iload (pc := 119) rfl rfl ?_
      refine zn_iaddN (pc := 121) (x := w) (y := p) rfl ?_
      refine zn_iload (pc := 122) rfl rfl ?_
      refine zn_maxN (pc := 124) (x := (w + p)) (y := o) rfl (Nat.le_of_ble_eq_true rfl) (Nat.le_of_ble_eq_true rfl) (by first | omega | (split <;> omega)) (by first | omega | (split <;> omega)) ?_
      refine zl_stD (pc := 127) (i := 5) (j := b) (v := (max (w + p) o)) rfl (by decide) rfl (by omega) ?_
      have e1 : bPart al9 (mK z c) (mN z c) (mH z c) f t = p := by unfold bPart; rw [hn3]; simp only [bMax]
      have e2 : bCont al9 (mK z c) (mN z c) (mH z c) f t = max (w + p) o := by unfold bCont; rw [e1, hn2, hn4]; simp only [bMax]
      rw [e1, e2]
      exact zx_v (pc := 128) rfl rfl rfl rfl
    · exfalso; omega
  | succ n ih =>
    intro l w p o hn0 hn1 hn2 hn3 hn4 hn5 hn6 hn7
    refine zn_iload (pc := 24) rfl rfl ?_
    refine zn_aload_n (pc := 26) rfl rfl ?_
    refine zn_get (pc := 27) (v := .ref 41) rfl rfl rfl ?_
    refine zn_iload_n (pc := 30) rfl rfl ?_
    refine zl_ldD (pc := 31) (i := 2) (Z := (D 2)) (j := b) rfl (by decide) rfl rfl (by omega) ?_
    refine zn_top (v' := .int (nI t)) (by rw [d2]) ?_
    refine zn_icmp_gtN (pc := 32) (tgt := 104) (x := l) (y := t) rfl rfl (by first | omega | (split <;> omega)) (by first | omega | (split <;> omega)) (fun c1 => ?_) (fun c1 => ?_)
    · refine zn_aload_n (pc := 104) rfl rfl ?_
      refine zn_get (pc := 105) (v := .ref 46) rfl rfl rfl ?_
      refine zn_iload_n (pc := 108) rfl rfl ?_
      refine zn_iload (pc := 109) rfl rfl ?_
      refine zl_stD (pc := 111) (i := 7) (j := b) (v := p) rfl (by decide) rfl (by omega) ?_
      refine zn_aload_n (pc := 112) rfl rfl ?_
      refine zn_get (pc := 113) (v := .ref 44) rfl rfl rfl ?_
      refine zn_iload_n (pc := 116) rfl rfl ?_
      refine zn_iload (pc := 117) rfl rfl ?_
      refine zn_iload (pc := 119) rfl rfl ?_
      refine zn_iaddN (pc := 121) (x := w) (y := p) rfl ?_
      refine zn_iload (pc := 122) rfl rfl ?_
      refine zn_maxN (pc := 124) (x := (w + p)) (y := o) rfl (Nat.le_of_ble_eq_true rfl) (Nat.le_of_ble_eq_true rfl) (by first | omega | (split <;> omega)) (by first | omega | (split <;> omega)) ?_
      refine zl_stD (pc := 127) (i := 5) (j := b) (v := (max (w + p) o)) rfl (by decide) rfl (by omega) ?_
      exfalso; omega
    · have hEl := hE l (by omega) (by omega)
      have hE1 := hEl.1
      have hE2 := hEl.2
      have k2 : mK z c l ≤ 2 := skind_le _ _
      have q16 := hz.2.2.2 l c hEl.1 (by omega)
      have hw2 : mH z c l ≤ z (25 + 8 * l + c) := Nat.le_trans (swh_le _ _ _) (by omega)
      have hN9 : mN z c l = z (25 + 8 * l + c) := rfl
      refine zn_aload_n (pc := 35) rfl rfl ?_
      refine zn_iload (pc := 36) rfl rfl ?_
      refine zn_iload_n (pc := 38) rfl rfl ?_
      refine zn_callVx (pc := 39) (J := zX1_length) (o := 31) (as := [.int (nI l), .int (nI c)]) (rest := []) rfl rfl rfl rfl rfl rfl rfl rfl (Nat.le_of_ble_eq_true rfl) (Nat.le_of_ble_eq_true rfl) (Nat.le_of_ble_eq_true rfl) (Nat.le_of_ble_eq_true rfl) (c_length_30 hz (cOK_l hcel) (l := l) (c := c) (by omega) (by omega)) ?_
      refine zn_istore (pc := 42) (L' := [some (.ref 38), some (.int (nI b)), some (.ref 31), some (.int (nI c)), some (.int (nI w)), some (.int (nI p)), some (.int (nI o)), some (.int (nI l)), some (.int (nI (z (25 + 8 * l + c))))]) rfl (by decide) rfl ?_
      refine zn_aload_n (pc := 44) rfl rfl ?_
      refine zn_iload (pc := 45) rfl rfl ?_
      refine zn_iload_n (pc := 47) rfl rfl ?_
      refine zn_callVx (pc := 48) (J := zX1_kind) (o := 31) (as := [.int (nI l), .int (nI c)]) (rest := []) rfl rfl rfl rfl rfl rfl rfl rfl (Nat.le_of_ble_eq_true rfl) (Nat.le_of_ble_eq_true rfl) (Nat.le_of_ble_eq_true rfl) (Nat.le_of_ble_eq_true rfl) (c_kind_30 hz (cOK_l hcel) (l := l) (c := c) (by omega) (by omega)) ?_
      refine zn_iconstN (pc := 51) 1 rfl rfl ?_
      refine zn_icmp_neN (pc := 52) (tgt := 89) (x := (mK z c l)) (y := 1) rfl rfl (by first | omega | (split <;> omega)) (by first | omega | (split <;> omega)) (fun c2 => ?_) (fun c2 => ?_)
      · refine zn_iload (pc := 89) rfl rfl ?_
        refine zn_iload (pc := 91) rfl rfl ?_
        refine zn_maxN (pc := 93) (x := o) (y := (z (25 + 8 * l + c))) rfl (Nat.le_of_ble_eq_true rfl) (Nat.le_of_ble_eq_true rfl) (by first | omega | (split <;> omega)) (by first | omega | (split <;> omega)) ?_
        refine zn_istore (pc := 96) (L' := [some (.ref 38), some (.int (nI b)), some (.ref 31), some (.int (nI c)), some (.int (nI w)), some (.int (nI p)), some (.int (nI (max o (z (25 + 8 * l + c))))), some (.int (nI l)), some (.int (nI (z (25 + 8 * l + c))))]) rfl (by decide) rfl ?_
        refine zn_iincN (pc := 98) (L' := [some (.ref 38), some (.int (nI b)), some (.ref 31), some (.int (nI c)), some (.int (nI w)), some (.int (nI p)), some (.int (nI (max o (z (25 + 8 * l + c))))), some (.int (nI (l + 1))), some (.int (nI (z (25 + 8 * l + c))))]) 1 rfl rfl rfl (by decide) rfl ?_
        refine zn_goto (pc := 101) (tgt := 24) rfl rfl ?_
        refine zn_sub (L' := [some (.ref 38), some (.int (nI b)), some (.ref 31), some (.int (nI c)), some (.int (nI (max w ((fun l => if al9 = 3 ∧ mK z c l = 1 then mH z c l else 0) l)))), some (.int (nI (max p ((fun l => if al9 = 3 ∧ mK z c l = 1 then mN z c l - mH z c l else 0) l)))), some (.int (nI (max o ((fun l => if al9 = 3 ∧ mK z c l = 1 then 0 else mN z c l) l)))), some (.int (nI (l + 1))), none]) ⟨rfl, rfl, rfl, rfl, ?_, ?_, ?_, rfl, trivial⟩ (ih (l + 1) _ _ _ (by omega) (by omega) (by rw [hn2]; simp only [bMax]) (by rw [hn3]; simp only [bMax]) (by rw [hn4]; simp only [bMax]) (by simp only; split <;> omega) (by simp only; split <;> omega) (by simp only; split <;> omega))
        · simp only; rw [if_neg (fun q => absurd q.2 (by assumption)), Nat.max_eq_left (Nat.zero_le _)]
        · simp only; rw [if_neg (fun q => absurd q.2 (by assumption)), Nat.max_eq_left (Nat.zero_le _)]
        · simp only; rw [if_neg (fun q => absurd q.2 (by assumption))]
      · refine zn_iload (pc := 55) rfl rfl ?_
        refine zn_aload_n (pc := 57) rfl rfl ?_
        refine zn_iload (pc := 58) rfl rfl ?_
        refine zn_iload_n (pc := 60) rfl rfl ?_
        refine zn_callVx (pc := 61) (J := zX1_whole) (o := 31) (as := [.int (nI l), .int (nI c)]) (rest := [.int (nI w)]) rfl rfl rfl rfl rfl rfl rfl rfl (Nat.le_of_ble_eq_true rfl) (Nat.le_of_ble_eq_true rfl) (Nat.le_of_ble_eq_true rfl) (Nat.le_of_ble_eq_true rfl) (c_whole_30 hz (cOK_l hcel) (l := l) (c := c) (by omega) (by omega)) ?_
        refine zn_maxN (pc := 64) (x := w) (y := (if mK z c l = 1 then mH z c l else 0)) rfl (Nat.le_of_ble_eq_true rfl) (Nat.le_of_ble_eq_true rfl) (by first | omega | (split <;> omega)) (by first | omega | (split <;> omega)) ?_
        refine zn_istore (pc := 67) (L' := [some (.ref 38), some (.int (nI b)), some (.ref 31), some (.int (nI c)), some (.int (nI (max w (if mK z c l = 1 then mH z c l else 0)))), some (.int (nI p)), some (.int (nI o)), some (.int (nI l)), some (.int (nI (z (25 + 8 * l + c))))]) rfl (by decide) rfl ?_
        refine zn_iload (pc := 69) rfl rfl ?_
        refine zn_iload (pc := 71) rfl rfl ?_
        refine zn_aload_n (pc := 73) rfl rfl ?_
        refine zn_iload (pc := 74) rfl rfl ?_
        refine zn_iload_n (pc := 76) rfl rfl ?_
        refine zn_callVx (pc := 77) (J := zX1_whole) (o := 31) (as := [.int (nI l), .int (nI c)]) (rest := [.int (nI (z (25 + 8 * l + c))), .int (nI p)]) rfl rfl rfl rfl rfl rfl rfl rfl (Nat.le_of_ble_eq_true rfl) (Nat.le_of_ble_eq_true rfl) (Nat.le_of_ble_eq_true rfl) (Nat.le_of_ble_eq_true rfl) (c_whole_30 hz (cOK_l hcel) (l := l) (c := c) (by omega) (by omega)) ?_
        refine zn_isubN (pc := 80) (x := (z (25 + 8 * l + c))) (y := (if mK z c l = 1 then mH z c l else 0)) rfl (by split <;> omega) ?_
        refine zn_maxN (pc := 81) (x := p) (y := ((z (25 + 8 * l + c)) - (if mK z c l = 1 then mH z c l else 0))) rfl (Nat.le_of_ble_eq_true rfl) (Nat.le_of_ble_eq_true rfl) (by first | omega | (split <;> omega)) (by first | omega | (split <;> omega)) ?_
        refine zn_istore (pc := 84) (L' := [some (.ref 38), some (.int (nI b)), some (.ref 31), some (.int (nI c)), some (.int (nI (max w (if mK z c l = 1 then mH z c l else 0)))), some (.int (nI (max p ((z (25 + 8 * l + c)) - (if mK z c l = 1 then mH z c l else 0))))), some (.int (nI o)), some (.int (nI l)), some (.int (nI (z (25 + 8 * l + c))))]) rfl (by decide) rfl ?_
        refine zn_goto (pc := 86) (tgt := 98) rfl rfl ?_
        refine zn_iincN (pc := 98) (L' := [some (.ref 38), some (.int (nI b)), some (.ref 31), some (.int (nI c)), some (.int (nI (max w (if mK z c l = 1 then mH z c l else 0)))), some (.int (nI (max p ((z (25 + 8 * l + c)) - (if mK z c l = 1 then mH z c l else 0))))), some (.int (nI o)), some (.int (nI (l + 1))), some (.int (nI (z (25 + 8 * l + c))))]) 1 rfl rfl rfl (by decide) rfl ?_
        refine zn_goto (pc := 101) (tgt := 24) rfl rfl ?_
        refine zn_sub (L' := [some (.ref 38), some (.int (nI b)), some (.ref 31), some (.int (nI c)), some (.int (nI (max w ((fun l => if al9 = 3 ∧ mK z c l = 1 then mH z c l else 0) l)))), some (.int (nI (max p ((fun l => if al9 = 3 ∧ mK z c l = 1 then mN z c l - mH z c l else 0) l)))), some (.int (nI (max o ((fun l => if al9 = 3 ∧ mK z c l = 1 then 0 else mN z c l) l)))), some (.int (nI (l + 1))), none]) ⟨rfl, rfl, rfl, rfl, ?_, ?_, ?_, rfl, trivial⟩ (ih (l + 1) _ _ _ (by omega) (by omega) (by rw [hn2]; simp only [bMax]) (by rw [hn3]; simp only [bMax]) (by rw [hn4]; simp only [bMax]) (by simp only; split <;> omega) (by simp only; split <;> omega) (by simp only; split <;> omega))
        · simp only; rw [if_pos (show mK z c l = 1 by assumption), if_pos (show al9 = 3 ∧ mK z c l = 1 from ⟨h3, by assumption⟩)]
        · simp only; rw [if_pos (show mK z c l = 1 by assumption), if_pos (show al9 = 3 ∧ mK z c l = 1 from ⟨h3, by assumption⟩)]
        · simp only; rw [if_pos ⟨h3, by assumption⟩, Nat.max_eq_left (Nat.zero_le _)]
end m1
