section m1
variable {g : zG} {h hh : zH} {F : Nat → Nat} {S : Int64} {z : Nat → Nat} {A : Nat → Nat → Nat} {X : Nat → Int32}
theorem bUp_mem {z : Nat → Nat} {c : Nat} : ∀ {l : Nat} {p : Nat × Nat × Nat}, p ∈ bUp z c l → p.1 = c ∧ p.2.1 < l ∧ bBeg z c p.2.1 ∧ p.2.2 = bRun z c (z 0) p.2.1
  | 0, p, h => by simp [bUp] at h
  | l + 1, p, h => by
    simp only [bUp, List.mem_append] at h
    rcases h with h | h
    · have := bUp_mem h
      exact ⟨this.1, by omega, this.2.2⟩
    · by_cases hb : bBeg z c l
      · rw [if_pos hb] at h
        simp only [List.mem_singleton] at h
        subst h
        exact ⟨rfl, by simp only; omega, hb, rfl⟩
      · rw [if_neg hb] at h
        simp at h
theorem bAll_mem {z : Nat → Nat} : ∀ {c : Nat} {p : Nat × Nat × Nat}, p ∈ bAll z c → p.1 < c ∧ p.2.1 < z 0 ∧ bBeg z p.1 p.2.1 ∧ p.2.2 = bRun z p.1 (z 0) p.2.1
  | 0, p, h => by simp [bAll] at h
  | c + 1, p, h => by
    simp only [bAll, List.mem_append] at h
    rcases h with h | h
    · have := bAll_mem h
      exact ⟨by omega, this.2⟩
    · have := bUp_mem h
      rw [this.1]
      exact ⟨by omega, this.2.1, this.2.2.1, this.2.2.2⟩
theorem bAll_get {b c f t : Nat} (hz : mOK z) (hP : (bAll z 7)[b]? = some (c, f, t)) : b < (bAll z 7).length ∧ mBlk z c f t ∧ ∀ l, f ≤ l → l ≤ t → mE z c l := by
  have h1 := List.getElem?_eq_some_iff.mp hP
  have h2 := bAll_mem (List.mem_of_getElem? hP)
  obtain ⟨h3, h4, h5, h6⟩ := h2
  simp only at h3 h4 h5 h6
  subst h6
  exact ⟨h1.1, bRun_blk hz h3 h5.1, (bRun_ok (z 0) f h5.1).2⟩
theorem m_sort_1  (hz : mOK z) (hzb : ∀ j, z j < 1000) (h4 : ∀ j, A 4 j ≤ 3) (hg : 1 ≤ F 10) (hg8 : F 10 ≤ 8) (hlw : F 9 ≤ 20) (hpd : F 8 ≤ 8) (x y : Int32) {d : Nat} (hx : ¬ zin x (bAll z 7).length) : Zx g zX10_sort [.ref 50, .int x, .int y, .int (nI d)] (mhp h F S z A X) (some (.int (nI 0))) (mhp h (va_up (va_up F 13 (bAll z 7).length) 0 1) S z (mL F z A (bAll z 7)) X) := by
  show Zn g zX10_sort 0 [some (.ref 50), some (.int x), some (.int y), some (.int (nI d)), none] [] (mhp h F S z A X) 0 0 _
  refine zn_aload_n (pc := 0) rfl rfl ?_
  refine zn_iload_n (pc := 1) rfl rfl ?_
  refine zn_callVx (pc := 2) (J := zX10_isBlock) (o := 50) (as := [.int x]) (rest := []) rfl rfl rfl rfl rfl rfl rfl rfl (Nat.le_of_ble_eq_true rfl) (Nat.le_of_ble_eq_true rfl) (Nat.le_of_ble_eq_true rfl) (Nat.le_of_ble_eq_true rfl) (m_isBlock hz hzb h4 hg hg8 hlw hpd x) ?_
  refine zn_istore (pc := 5) (L' := [some (.ref 50), some (.int x), some (.int y), some (.int (nI d)), some (.int (zb (zin x (bAll z 7).length)))]) rfl (by decide) rfl ?_
  refine zn_aload_n (pc := 7) rfl rfl ?_
  refine zn_iload (pc := 8) rfl rfl ?_
  refine zn_if_neB (pc := 10) (tgt := 17) rfl rfl (fun c1 => ?_) (fun c1 => ?_)
  · exact absurd c1 hx
  · refine zn_iconstN (pc := 13) 1 rfl rfl ?_
    refine zn_goto (pc := 14) (tgt := 45) rfl rfl ?_
    refine zm_putI (pc := 45) (k := 0) (v := 1) rfl (by decide) rfl rfl ?_
    refine zn_aload_n (pc := 48) rfl rfl ?_
    refine zn_get (pc := 49) (v := .int (nI 1)) rfl rfl rfl ?_
    refine zn_if_leN (pc := 52) (tgt := 57) (x := 1) rfl rfl (by omega) (fun c2 => ?_) (fun c2 => ?_)
    · exfalso; omega
    · refine zn_iconstN (pc := 55) 0 rfl rfl ?_
      exact zx_i (pc := 56) rfl rfl rfl rfl
theorem m_sort_2  (hz : mOK z) (hzb : ∀ j, z j < 1000) (h4 : ∀ j, A 4 j ≤ 3) (hg : 1 ≤ F 10) (hg8 : F 10 ≤ 8) (hlw : F 9 ≤ 20) (hpd : F 8 ≤ 8) {b c f t : Nat} (hP : (bAll z 7)[b]? = some (c, f, t)) (y : Int32) {d : Nat} (hy : ¬ (nI 0 ≤ y ∧ y ≤ nI (t - f + 1))) : Zx g zX10_sort [.ref 50, .int (nI b), .int y, .int (nI d)] (mhp h F S z A X) (some (.int (nI 0))) (mhp h (va_up (va_up F 13 (bAll z 7).length) 0 2) S z (mL F z A (bAll z 7)) X) := by
  have h1 := hz.2.1
  have hl0 := bAll_len z 7
  obtain ⟨hb, ⟨b1, b2, b3, b4, b5⟩, hE⟩ := bAll_get hz hP
  obtain ⟨g6, g7, g8, g9, g11, g10, g12⟩ := (mL_hold (F := F) (z := z) (A := A) (bAll z 7)).2 b c f t hP
  have hib : zin (nI b) (bAll z 7).length := (zin_nI (by omega)).mpr hb
  show Zn g zX10_sort 0 [some (.ref 50), some (.int (nI b)), some (.int y), some (.int (nI d)), none] [] (mhp h F S z A X) 0 0 _
  refine zn_aload_n (pc := 0) rfl rfl ?_
  refine zn_iload_n (pc := 1) rfl rfl ?_
  refine zn_callVx (pc := 2) (J := zX10_isBlock) (o := 50) (as := [.int (nI b)]) (rest := []) rfl rfl rfl rfl rfl rfl rfl rfl (Nat.le_of_ble_eq_true rfl) (Nat.le_of_ble_eq_true rfl) (Nat.le_of_ble_eq_true rfl) (Nat.le_of_ble_eq_true rfl) (m_isBlock hz hzb h4 hg hg8 hlw hpd (nI b)) ?_
  refine zn_istore (pc := 5) (L' := [some (.ref 50), some (.int (nI b)), some (.int y), some (.int (nI d)), some (.int (zb (zin (nI b) (bAll z 7).length)))]) rfl (by decide) rfl ?_
  refine zn_aload_n (pc := 7) rfl rfl ?_
  refine zn_iload (pc := 8) rfl rfl ?_
  refine zn_if_neB (pc := 10) (tgt := 17) rfl rfl (fun c1 => ?_) (fun c1 => ?_)
  · refine zn_iload_n (pc := 17) rfl rfl ?_
    refine zn_iconstN (pc := 18) 0 rfl rfl ?_
    refine zn_aload_n (pc := 19) rfl rfl ?_
    refine zn_get (pc := 20) (v := .ref 59) rfl rfl rfl ?_
    refine zn_iload_n (pc := 23) rfl rfl ?_
    refine zm_ldA (pc := 24) (i := 8) (n := 168) (Z := ((mL F z A (bAll z 7)) 8)) (j := b) rfl (by decide) (by decide) rfl mln8 rfl (by omega) (Nat.le_of_ble_eq_true rfl) ?_
    refine zn_top (v' := .int (nI t)) (by rw [g8]) ?_
    refine zn_aload_n (pc := 25) rfl rfl ?_
    refine zn_get (pc := 26) (v := .ref 58) rfl rfl rfl ?_
    refine zn_iload_n (pc := 29) rfl rfl ?_
    refine zm_ldA (pc := 30) (i := 7) (n := 168) (Z := ((mL F z A (bAll z 7)) 7)) (j := b) rfl (by decide) (by decide) rfl mln7 rfl (by omega) (Nat.le_of_ble_eq_true rfl) ?_
    refine zn_top (v' := .int (nI f)) (by rw [g7]) ?_
    refine zn_isubN (pc := 31) (x := t) (y := f) rfl (by omega) ?_
    refine zn_iconstN (pc := 32) 1 rfl rfl ?_
    refine zn_iaddN (pc := 33) (x := (t - f)) (y := 1) rfl ?_
    refine zn_callSx (pc := 34) (J := zX10_within) (as := [.int y, .int (nI 0), .int (nI ((t - f) + 1))]) (rest := [.ref 50]) rfl (by decide) rfl rfl rfl rfl (Nat.le_of_ble_eq_true rfl) (Nat.le_of_ble_eq_true rfl) (Nat.le_of_ble_eq_true rfl) (Nat.le_of_ble_eq_true rfl) (m_within y (nI 0) (nI ((t - f) + 1))) ?_
    refine zn_if_eqB (pc := 37) (tgt := 44) rfl rfl (fun c2 => ?_) (fun c2 => ?_)
    · refine zn_iconstN (pc := 44) 2 rfl rfl ?_
      refine zm_putI (pc := 45) (k := 0) (v := 2) rfl (by decide) rfl rfl ?_
      refine zn_aload_n (pc := 48) rfl rfl ?_
      refine zn_get (pc := 49) (v := .int (nI 2)) rfl rfl rfl ?_
      refine zn_if_leN (pc := 52) (tgt := 57) (x := 2) rfl rfl (by omega) (fun c3 => ?_) (fun c3 => ?_)
      · exfalso; omega
      · refine zn_iconstN (pc := 55) 0 rfl rfl ?_
        exact zx_i (pc := 56) rfl rfl rfl rfl
    · exact absurd c2 hy
  · exact absurd hib c1
theorem m_sort_0  (hz : mOK z) (hzb : ∀ j, z j < 1000) (h4 : ∀ j, A 4 j ≤ 3) (hg : 1 ≤ F 10) (hg8 : F 10 ≤ 8) (hlw : F 9 ≤ 20) (hpd : F 8 ≤ 8) (hu : F 5 ≤ 10) {b c f t : Nat} (hP : (bAll z 7)[b]? = some (c, f, t)) {s d : Nat} (hd : d ≤ 1) (hs : s ≤ t - f + 1) : Zx g zX10_sort [.ref 50, .int (nI b), .int (nI s), .int (nI d)] (mhp h F S z A X) (some (.int (nI (mMv (mOrd (mBh z c d) (f + s) ((va_up (mL F z A (bAll z 7)) 2 (msave ((mL F z A (bAll z 7)) 2) z (F 5))) 13) (t + 1 - (f + s))) (f + s) (t + 1 - (f + s)))))) (mhp h (va_up (va_up (va_up (va_up F 13 (bAll z 7).length) 0 0) 5 (min (F 5) 9 + 1)) 6 0) S (mTk z (msd ((va_up (mL F z A (bAll z 7)) 2 (msave ((mL F z A (bAll z 7)) 2) z (F 5))) 1) z 3289) (mOrd (mBh z c d) (f + s) ((va_up (mL F z A (bAll z 7)) 2 (msave ((mL F z A (bAll z 7)) 2) z (F 5))) 13) (t + 1 - (f + s))) (f + s) (t + 1 - (f + s))) (va_up (va_up (va_up (mL F z A (bAll z 7)) 2 (msave ((mL F z A (bAll z 7)) 2) z (F 5))) 13 (mOrd (mBh z c d) (f + s) ((va_up (mL F z A (bAll z 7)) 2 (msave ((mL F z A (bAll z 7)) 2) z (F 5))) 13) (t + 1 - (f + s)))) 1 (msd ((va_up (mL F z A (bAll z 7)) 2 (msave ((mL F z A (bAll z 7)) 2) z (F 5))) 1) z 3289)) X) := by
  have h1 := hz.2.1
  have hl0 := bAll_len z 7
  obtain ⟨hb, ⟨b1, b2, b3, b4, b5⟩, hE⟩ := bAll_get hz hP
  obtain ⟨g6, g7, g8, g9, g11, g10, g12⟩ := (mL_hold (F := F) (z := z) (A := A) (bAll z 7)).2 b c f t hP
  have hib : zin (nI b) (bAll z 7).length := (zin_nI (by omega)).mpr hb
  show Zn g zX10_sort 0 [some (.ref 50), some (.int (nI b)), some (.int (nI s)), some (.int (nI d)), none] [] (mhp h F S z A X) 0 0 _
  refine zn_aload_n (pc := 0) rfl rfl ?_
  refine zn_iload_n (pc := 1) rfl rfl ?_
  refine zn_callVx (pc := 2) (J := zX10_isBlock) (o := 50) (as := [.int (nI b)]) (rest := []) rfl rfl rfl rfl rfl rfl rfl rfl (Nat.le_of_ble_eq_true rfl) (Nat.le_of_ble_eq_true rfl) (Nat.le_of_ble_eq_true rfl) (Nat.le_of_ble_eq_true rfl) (m_isBlock hz hzb h4 hg hg8 hlw hpd (nI b)) ?_
  refine zn_istore (pc := 5) (L' := [some (.ref 50), some (.int (nI b)), some (.int (nI s)), some (.int (nI d)), some (.int (zb (zin (nI b) (bAll z 7).length)))]) rfl (by decide) rfl ?_
  refine zn_aload_n (pc := 7) rfl rfl ?_
  refine zn_iload (pc := 8) rfl rfl ?_
  refine zn_if_neB (pc := 10) (tgt := 17) rfl rfl (fun c1 => ?_) (fun c1 => ?_)
  · refine zn_iload_n (pc := 17) rfl rfl ?_
    refine zn_iconstN (pc := 18) 0 rfl rfl ?_
    refine zn_aload_n (pc := 19) rfl rfl ?_
    refine zn_get (pc := 20) (v := .ref 59) rfl rfl rfl ?_
    refine zn_iload_n (pc := 23) rfl rfl ?_
    refine zm_ldA (pc := 24) (i := 8) (n := 168) (Z := ((mL F z A (bAll z 7)) 8)) (j := b) rfl (by decide) (by decide) rfl mln8 rfl (by omega) (Nat.le_of_ble_eq_true rfl) ?_
    refine zn_top (v' := .int (nI t)) (by rw [g8]) ?_
    refine zn_aload_n (pc := 25) rfl rfl ?_
    refine zn_get (pc := 26) (v := .ref 58) rfl rfl rfl ?_
    refine zn_iload_n (pc := 29) rfl rfl ?_
    refine zm_ldA (pc := 30) (i := 7) (n := 168) (Z := ((mL F z A (bAll z 7)) 7)) (j := b) rfl (by decide) (by decide) rfl mln7 rfl (by omega) (Nat.le_of_ble_eq_true rfl) ?_
    refine zn_top (v' := .int (nI f)) (by rw [g7]) ?_
    refine zn_isubN (pc := 31) (x := t) (y := f) rfl (by omega) ?_
    refine zn_iconstN (pc := 32) 1 rfl rfl ?_
    refine zn_iaddN (pc := 33) (x := (t - f)) (y := 1) rfl ?_
    refine zn_callSx (pc := 34) (J := zX10_within) (as := [.int (nI s), .int (nI 0), .int (nI ((t - f) + 1))]) (rest := [.ref 50]) rfl (by decide) rfl rfl rfl rfl (Nat.le_of_ble_eq_true rfl) (Nat.le_of_ble_eq_true rfl) (Nat.le_of_ble_eq_true rfl) (Nat.le_of_ble_eq_true rfl) (m_withinN (v := s) (a := 0) (b := ((t - f) + 1)) (by omega) (by omega) (by omega)) ?_
    refine zn_if_eqB (pc := 37) (tgt := 44) rfl rfl (fun c2 => ?_) (fun c2 => ?_)
    · exact absurd ⟨by omega, by omega⟩ c2
    · refine zn_iconstN (pc := 40) 0 rfl rfl ?_
      refine zn_goto (pc := 41) (tgt := 45) rfl rfl ?_
      refine zm_putI (pc := 45) (k := 0) (v := 0) rfl (by decide) rfl rfl ?_
      refine zn_aload_n (pc := 48) rfl rfl ?_
      refine zn_get (pc := 49) (v := .int (nI 0)) rfl rfl rfl ?_
      refine zn_if_leN (pc := 52) (tgt := 57) (x := 0) rfl rfl (by omega) (fun c3 => ?_) (fun c3 => ?_)
      · refine zn_aload_n (pc := 57) rfl rfl ?_
        refine zn_callVx (pc := 58) (J := zX10_save) (o := 50) (as := []) (rest := []) rfl rfl rfl rfl rfl rfl rfl rfl (Nat.le_of_ble_eq_true rfl) (Nat.le_of_ble_eq_true rfl) (Nat.le_of_ble_eq_true rfl) (Nat.le_of_ble_eq_true rfl) (m_save (n := (F 5)) rfl (by omega)) ?_
        refine zn_aload_n (pc := 61) rfl rfl ?_
        refine zn_iload_n (pc := 62) rfl rfl ?_
        refine zn_aload_n (pc := 63) rfl rfl ?_
        refine zn_get (pc := 64) (v := .ref 58) rfl rfl rfl ?_
        refine zn_iload_n (pc := 67) rfl rfl ?_
        refine zm_ldA (pc := 68) (i := 7) (n := 168) (Z := ((mL F z A (bAll z 7)) 7)) (j := b) rfl (by decide) (by decide) rfl mln7 (va_upN (by decide)) (by omega) (Nat.le_of_ble_eq_true rfl) ?_
        refine zn_top (v' := .int (nI f)) (by rw [g7]) ?_
        refine zn_iload_n (pc := 69) rfl rfl ?_
        refine zn_iaddN (pc := 70) (x := f) (y := s) rfl ?_
        refine zn_iload_n (pc := 71) rfl rfl ?_
        refine zn_callVx (pc := 72) (J := zX10_sortNow) (o := 50) (as := [.int (nI b), .int (nI (f + s)), .int (nI d)]) (rest := []) rfl rfl rfl rfl rfl rfl rfl rfl (Nat.le_of_ble_eq_true rfl) (Nat.le_of_ble_eq_true rfl) (Nat.le_of_ble_eq_true rfl) (Nat.le_of_ble_eq_true rfl) (m_sortNow (b := b) (c := c) (t := t) (fr := f + s) (m := t + 1 - (f + s)) (by omega) g6 hd (by omega) (by omega) g8 (by omega) (fun l q1 q2 => b5 l (by omega) q2) hzb) ?_
        exact zx_i (pc := 75) rfl rfl rfl rfl
      · exfalso; omega
  · exact absurd hib c1
abbrev bRoom (z : Nat → Nat) (f k : Nat) : Prop := ∀ l, l < k → f ≤ l → z (1 + l) < 8
theorem bRoom_s {z : Nat → Nat} {f k : Nat} (hk : f ≤ k) : bRoom z f (k + 1) ↔ bRoom z f k ∧ z (1 + k) < 8 := by
  constructor
  · exact fun h => ⟨fun l h1 h2 => h l (by omega) h2, h k (by omega) hk⟩
  · intro h l h1 h2
    rcases Nat.lt_or_ge l k with q | q
    · exact h.1 l q h2
    · rw [show l = k by omega]; exact h.2
theorem m_hasRoom_l {b f t : Nat} (hb : b < 168) (h7 : A 7 b = f) (h8 : A 8 b = t) (hft : f ≤ t) (ht : t < 24) (hzb : ∀ j, z j < 1000) : ∀ (n : Nat) (l : Nat), l + n = t + 1 → f ≤ l → Zn g zX10_hasRoom 9 [some (.ref 50), some (.int (nI b)), some (.int (zb (bRoom z f l))), some (.int (nI l))] [] (mhp h F S z A X) 0 0 (fun r' h' => r' = .inl (some (.int (zb (bRoom z f (t + 1))))) ∧ h' = (mhp h F S z A X)) := by
  intro n
  induction n with
  | zero =>
    intro l hn0 hn1
    refine zn_iload_n (pc := 9) rfl rfl ?_
    refine zn_aload_n (pc := 10) rfl rfl ?_
    refine zn_get (pc := 11) (v := .ref 59) rfl rfl rfl ?_
    refine zn_iload_n (pc := 14) rfl rfl ?_
    refine zm_ldA (pc := 15) (i := 8) (n := 168) (Z := (A 8)) (j := b) rfl (by decide) (by decide) rfl mln8 rfl (by omega) (Nat.le_of_ble_eq_true rfl) ?_
    refine zn_top (v' := .int (nI t)) (by rw [h8]) ?_
    refine zn_icmp_gtN (pc := 16) (tgt := 45) (x := l) (y := t) rfl rfl (by have := hzb (1 + l); omega) (by have := hzb (1 + l); omega) (fun c1 => ?_) (fun c1 => ?_)
    · refine zn_iload_n (pc := 45) rfl rfl ?_
      obtain rfl : l = t + 1 := by omega
      exact zx_z (pc := 46) rfl rfl (zb_and _) rfl rfl
    · exfalso; omega
  | succ n ih =>
    intro l hn0 hn1
    refine zn_iload_n (pc := 9) rfl rfl ?_
    refine zn_aload_n (pc := 10) rfl rfl ?_
    refine zn_get (pc := 11) (v := .ref 59) rfl rfl rfl ?_
    refine zn_iload_n (pc := 14) rfl rfl ?_
    refine zm_ldA (pc := 15) (i := 8) (n := 168) (Z := (A 8)) (j := b) rfl (by decide) (by decide) rfl mln8 rfl (by omega) (Nat.le_of_ble_eq_true rfl) ?_
    refine zn_top (v' := .int (nI t)) (by rw [h8]) ?_
    refine zn_icmp_gtN (pc := 16) (tgt := 45) (x := l) (y := t) rfl rfl (by have := hzb (1 + l); omega) (by have := hzb (1 + l); omega) (fun c1 => ?_) (fun c1 => ?_)
    · refine zn_iload_n (pc := 45) rfl rfl ?_
      obtain rfl : l = t + 1 := by omega
      exact zx_z (pc := 46) rfl rfl (zb_and _) rfl rfl
    · refine zn_joinV (v := .int (zb (bRoom z f (l + 1)))) (pj := 38) ?_ (fun K2 => ?_)
      · refine zn_istore_n (pc := 38) (L' := [some (.ref 50), some (.int (nI b)), some (.int (zb (bRoom z f (l + 1)))), some (.int (nI l))]) rfl (by decide) rfl ?_
        refine zn_iincN (pc := 39) (L' := [some (.ref 50), some (.int (nI b)), some (.int (zb (bRoom z f (l + 1)))), some (.int (nI (l + 1)))]) 1 rfl rfl rfl (by decide) rfl ?_
        refine zn_goto (pc := 42) (tgt := 9) rfl rfl ?_
        exact ih (l + 1) (by omega) (by omega)
      · refine zn_iload_n (pc := 19) rfl rfl ?_
        refine zn_if_eqB (pc := 20) (tgt := 37) rfl rfl (fun c3 => ?_) (fun c3 => ?_)
        · refine zn_iconstN (pc := 37) 0 rfl rfl ?_
          exact zn_top (v' := .int (zb (bRoom z f (l + 1)))) (by rw [zb_f (by rw [bRoom_s hn1]; intro q; first | exact absurd q.1 (by assumption) | exact absurd q.2 (by omega))]; rfl) K2
        · refine zn_aload_n (pc := 23) rfl rfl ?_
          refine zn_iload_n (pc := 24) rfl rfl ?_
          refine zn_callVx (pc := 25) (J := zX10_cells) (o := 50) (as := [.int (nI l)]) (rest := []) rfl rfl rfl rfl rfl rfl rfl rfl (Nat.le_of_ble_eq_true rfl) (Nat.le_of_ble_eq_true rfl) (Nat.le_of_ble_eq_true rfl) (Nat.le_of_ble_eq_true rfl) (m_cells (l := l) (by omega)) ?_
          refine zn_bipushN (pc := 28) 8 rfl rfl ?_
          refine zn_icmp_geN (pc := 30) (tgt := 37) (x := (z (1 + l))) (y := 8) rfl rfl (by have := hzb (1 + l); omega) (by have := hzb (1 + l); omega) (fun c4 => ?_) (fun c4 => ?_)
          · refine zn_iconstN (pc := 37) 0 rfl rfl ?_
            exact zn_top (v' := .int (zb (bRoom z f (l + 1)))) (by rw [zb_f (by rw [bRoom_s hn1]; intro q; first | exact absurd q.1 (by assumption) | exact absurd q.2 (by omega))]; rfl) K2
          · refine zn_iconstN (pc := 33) 1 rfl rfl ?_
            refine zn_goto (pc := 34) (tgt := 38) rfl rfl ?_
            exact zn_top (v' := .int (zb (bRoom z f (l + 1)))) (by rw [zb_t (by rw [bRoom_s hn1]; exact ⟨by assumption, by omega⟩)]; rfl) K2
theorem m_hasRoom  {b f t : Nat} (hb : b < 168) (h7 : A 7 b = f) (h8 : A 8 b = t) (hft : f ≤ t) (ht : t < 24) (hzb : ∀ j, z j < 1000) : Zx g zX10_hasRoom [.ref 50, .int (nI b)] (mhp h F S z A X) (some (.int (zb (bRoom z f (t + 1))))) (mhp h F S z A X) := by
  show Zn g zX10_hasRoom 0 [some (.ref 50), some (.int (nI b)), none, none] [] (mhp h F S z A X) 0 0 _
  refine zn_iconstN (pc := 0) 1 rfl rfl ?_
  refine zn_istore_n (pc := 1) (L' := [some (.ref 50), some (.int (nI b)), some (.int (nI 1)), none]) rfl (by decide) rfl ?_
  refine zn_aload_n (pc := 2) rfl rfl ?_
  refine zn_get (pc := 3) (v := .ref 58) rfl rfl rfl ?_
  refine zn_iload_n (pc := 6) rfl rfl ?_
  refine zm_ldA (pc := 7) (i := 7) (n := 168) (Z := (A 7)) (j := b) rfl (by decide) (by decide) rfl mln7 rfl (by omega) (Nat.le_of_ble_eq_true rfl) ?_
  refine zn_top (v' := .int (nI f)) (by rw [h7]) ?_
  refine zn_istore_n (pc := 8) (L' := [some (.ref 50), some (.int (nI b)), some (.int (nI 1)), some (.int (nI f))]) rfl (by decide) rfl ?_
  exact zn_sub (L' := [some (.ref 50), some (.int (nI b)), some (.int (zb (bRoom z f f))), some (.int (nI f))]) ⟨rfl, rfl, by rw [zb_t (fun l q1 q2 => absurd q1 (by omega))]; rfl, rfl, trivial⟩ (m_hasRoom_l hb h7 h8 hft ht hzb (t + 1 - f) f (by omega) (by omega))
/-- the rows of line l -/
abbrev mIn (l j : Nat) : Prop := j = 1 + l ∨ (25 + 8 * l ≤ j ∧ j < 25 + 8 * l + 8) ∨ (217 + 128 * l ≤ j ∧ j < 217 + 128 * l + 128)
theorem mopc_o {l c j : Nat} (h8 : z (1 + l) < 8) (hc : c < 8) (hj : ¬ mIn l j) : mopc z l c j = z j := by
  simp only [mIn, not_or] at hj
  simp only [mopc, mshc, va_up]
  rw [if_neg (by omega), if_neg (by omega), if_neg (by omega), if_neg (by omega)]
theorem mclc_o {l c j : Nat} (h8 : z (1 + l) ≤ 8) (hc : c < 8) (hj : ¬ mIn l j) : mclc z l c j = z j := by
  simp only [mIn, not_or] at hj
  simp only [mclc, mbcc, va_up]
  rw [if_neg (by omega), if_neg (by omega), if_neg (by omega)]
theorem mclc_b {l c : Nat} (hb : ∀ j, z j < 1000) (j : Nat) : mclc z l c j < 1000 := by
  simp only [mclc, mbcc, va_up]
  have := hb (1 + l)
  repeat' split
  all_goals first | exact hb _ | omega
def mOpcs (z : Nat → Nat) (c f : Nat) : Nat → Nat → Nat
  | 0 => z
  | k + 1 => mopc (mOpcs z c f k) (f + k) c
def mClcs (z : Nat → Nat) (c f : Nat) : Nat → Nat → Nat
  | 0 => z
  | k + 1 => mclc (mClcs z c f k) (f + k) c
theorem mOpcs_o {z : Nat → Nat} {c f t : Nat} (hc : c < 8) (h8 : ∀ l, f ≤ l → l ≤ t → z (1 + l) < 8) (ht : t < 24) : ∀ (k : Nat), f + k ≤ t + 1 → ∀ j, (∀ l, f ≤ l → l < f + k → ¬ mIn l j) → mOpcs z c f k j = z j
  | 0, _, j, _ => rfl
  | k + 1, hk, j, hj => by
    have ih := mOpcs_o hc h8 ht k (by omega)
    have e : mOpcs z c f k (1 + (f + k)) = z (1 + (f + k)) := ih _ (fun l h1 h2 => by simp only [mIn]; omega)
    show mopc (mOpcs z c f k) (f + k) c j = z j
    rw [mopc_o (by rw [e]; exact h8 _ (by omega) (by omega)) hc (hj _ (by omega) (by omega))]
    exact ih j (fun l h1 h2 => hj l h1 (by omega))
theorem mClcs_o {z : Nat → Nat} {c f t : Nat} (hc : c < 8) (h8 : ∀ l, f ≤ l → l ≤ t → z (1 + l) ≤ 8) (ht : t < 24) : ∀ (k : Nat), f + k ≤ t + 1 → ∀ j, (∀ l, f ≤ l → l < f + k → ¬ mIn l j) → mClcs z c f k j = z j
  | 0, _, j, _ => rfl
  | k + 1, hk, j, hj => by
    have ih := mClcs_o hc h8 ht k (by omega)
    have e : mClcs z c f k (1 + (f + k)) = z (1 + (f + k)) := ih _ (fun l h1 h2 => by simp only [mIn]; omega)
    show mclc (mClcs z c f k) (f + k) c j = z j
    rw [mclc_o (by rw [e]; exact h8 _ (by omega) (by omega)) hc (hj _ (by omega) (by omega))]
    exact ih j (fun l h1 h2 => hj l h1 (by omega))
theorem mClcs_b {z : Nat → Nat} {c f : Nat} (hb : ∀ j, z j < 1000) : ∀ (k j : Nat), mClcs z c f k j < 1000
  | 0, j => hb j
  | k + 1, j => mclc_b (fun j => mClcs_b hb k j) j
/-- how many cells that aren't blank were taken out -/
def mRc (z : Nat → Nat) (c f : Nat) : Nat → Nat
  | 0 => 0
  | k + 1 => mRc z c f k + if sBlank (mf (mClcs z c f k) (f + k) c) (mClcs z c f k (25 + 8 * (f + k) + c)) then 0 else 1
theorem m_insertColumn_l {b c f t : Nat} (hb : b < 168) (h6 : A 6 b = c) (h7 : A 7 b = f) (h8 : A 8 b = t) (hft : f ≤ t) (ht : t < 24) (hc : c < 8) (hr : ∀ l, f ≤ l → l ≤ t → c + 1 < z (1 + l) ∧ z (1 + l) < 8) : ∀ (n : Nat) (k : Nat), k + n = t + 1 - f → Zn g zX10_insertColumn 49 [some (.ref 50), some (.int (nI b)), some (.int (nI (f + k)))] [] (mhp h F S (mOpcs z c f k) A X) 0 0 (fun r' h' => r' = .inl (some (.int (nI (t - f + 1)))) ∧ h' = (mhp h F S (mOpcs z c f (t + 1 - f)) A X)) := by
  intro n
  induction n with
  | zero =>
    intro k hn0
    refine zn_iload_n (pc := 49) rfl rfl ?_
    refine zn_aload_n (pc := 50) rfl rfl ?_
    refine zn_get (pc := 51) (v := .ref 59) rfl rfl rfl ?_
    refine zn_iload_n (pc := 54) rfl rfl ?_
    refine zm_ldA (pc := 55) (i := 8) (n := 168) (Z := (A 8)) (j := b) rfl (by decide) (by decide) rfl mln8 rfl (by omega) (Nat.le_of_ble_eq_true rfl) ?_
    refine zn_top (v' := .int (nI t)) (by rw [h8]) ?_
    refine zn_icmp_gtN (pc := 56) (tgt := 76) (x := (f + k)) (y := t) rfl rfl (by omega) (by omega) (fun c1 => ?_) (fun c1 => ?_)
    · refine zn_aload_n (pc := 76) rfl rfl ?_
      refine zn_get (pc := 77) (v := .ref 59) rfl rfl rfl ?_
      refine zn_iload_n (pc := 80) rfl rfl ?_
      refine zm_ldA (pc := 81) (i := 8) (n := 168) (Z := (A 8)) (j := b) rfl (by decide) (by decide) rfl mln8 rfl (by omega) (Nat.le_of_ble_eq_true rfl) ?_
      refine zn_top (v' := .int (nI t)) (by rw [h8]) ?_
      refine zn_aload_n (pc := 82) rfl rfl ?_
      refine zn_get (pc := 83) (v := .ref 58) rfl rfl rfl ?_
      refine zn_iload_n (pc := 86) rfl rfl ?_
      refine zm_ldA (pc := 87) (i := 7) (n := 168) (Z := (A 7)) (j := b) rfl (by decide) (by decide) rfl mln7 rfl (by omega) (Nat.le_of_ble_eq_true rfl) ?_
      refine zn_top (v' := .int (nI f)) (by rw [h7]) ?_
      refine zn_isubN (pc := 88) (x := t) (y := f) rfl (by omega) ?_
      refine zn_iconstN (pc := 89) 1 rfl rfl ?_
      refine zn_iaddN (pc := 90) (x := (t - f)) (y := 1) rfl ?_
      obtain rfl : k = t + 1 - f := by omega
      exact zx_i (pc := 91) rfl rfl rfl rfl
    · exfalso; omega
  | succ n ih =>
    intro k hn0
    refine zn_iload_n (pc := 49) rfl rfl ?_
    refine zn_aload_n (pc := 50) rfl rfl ?_
    refine zn_get (pc := 51) (v := .ref 59) rfl rfl rfl ?_
    refine zn_iload_n (pc := 54) rfl rfl ?_
    refine zm_ldA (pc := 55) (i := 8) (n := 168) (Z := (A 8)) (j := b) rfl (by decide) (by decide) rfl mln8 rfl (by omega) (Nat.le_of_ble_eq_true rfl) ?_
    refine zn_top (v' := .int (nI t)) (by rw [h8]) ?_
    refine zn_icmp_gtN (pc := 56) (tgt := 76) (x := (f + k)) (y := t) rfl rfl (by omega) (by omega) (fun c1 => ?_) (fun c1 => ?_)
    · refine zn_aload_n (pc := 76) rfl rfl ?_
      refine zn_get (pc := 77) (v := .ref 59) rfl rfl rfl ?_
      refine zn_iload_n (pc := 80) rfl rfl ?_
      refine zm_ldA (pc := 81) (i := 8) (n := 168) (Z := (A 8)) (j := b) rfl (by decide) (by decide) rfl mln8 rfl (by omega) (Nat.le_of_ble_eq_true rfl) ?_
      refine zn_top (v' := .int (nI t)) (by rw [h8]) ?_
      refine zn_aload_n (pc := 82) rfl rfl ?_
      refine zn_get (pc := 83) (v := .ref 58) rfl rfl rfl ?_
      refine zn_iload_n (pc := 86) rfl rfl ?_
      refine zm_ldA (pc := 87) (i := 7) (n := 168) (Z := (A 7)) (j := b) rfl (by decide) (by decide) rfl mln7 rfl (by omega) (Nat.le_of_ble_eq_true rfl) ?_
      refine zn_top (v' := .int (nI f)) (by rw [h7]) ?_
      refine zn_isubN (pc := 88) (x := t) (y := f) rfl (by omega) ?_
      refine zn_iconstN (pc := 89) 1 rfl rfl ?_
      refine zn_iaddN (pc := 90) (x := (t - f)) (y := 1) rfl ?_
      obtain rfl : k = t + 1 - f := by omega
      exact zx_i (pc := 91) rfl rfl rfl rfl
    · have q1 := hr (f + k) (by omega) (by omega)
      have q2 : mOpcs z c f k (1 + (f + k)) = z (1 + (f + k)) := mOpcs_o (t := t) hc (fun l h1 h2 => (hr l h1 h2).2) ht k (by omega) _ (fun l h1 h2 => by simp only [mIn]; omega)
      refine zn_aload_n (pc := 59) rfl rfl ?_
      refine zn_iload_n (pc := 60) rfl rfl ?_
      refine zn_aload_n (pc := 61) rfl rfl ?_
      refine zn_get (pc := 62) (v := .ref 57) rfl rfl rfl ?_
      refine zn_iload_n (pc := 65) rfl rfl ?_
      refine zm_ldA (pc := 66) (i := 6) (n := 168) (Z := (A 6)) (j := b) rfl (by decide) (by decide) rfl mln6 rfl (by omega) (Nat.le_of_ble_eq_true rfl) ?_
      refine zn_top (v' := .int (nI c)) (by rw [h6]) ?_
      refine zn_callVx (pc := 67) (J := zX10_openCell) (o := 50) (as := [.int (nI (f + k)), .int (nI c)]) (rest := []) rfl rfl rfl rfl rfl rfl rfl rfl (Nat.le_of_ble_eq_true rfl) (Nat.le_of_ble_eq_true rfl) (Nat.le_of_ble_eq_true rfl) (Nat.le_of_ble_eq_true rfl) (m_openCell (l := (f + k)) (c := c) (by omega) (by omega) (by omega)) ?_
      refine zn_iincN (pc := 70) (L' := [some (.ref 50), some (.int (nI b)), some (.int (nI (f + k + 1)))]) 1 rfl rfl rfl (by decide) rfl ?_
      refine zn_goto (pc := 73) (tgt := 49) rfl rfl ?_
      exact ih (k + 1) (by omega)
theorem m_insertColumn_1  (hz : mOK z) (hzb : ∀ j, z j < 1000) (h4 : ∀ j, A 4 j ≤ 3) (hg : 1 ≤ F 10) (hg8 : F 10 ≤ 8) (hlw : F 9 ≤ 20) (hpd : F 8 ≤ 8) (x : Int32) (hx : ¬ zin x (bAll z 7).length) : Zx g zX10_insertColumn [.ref 50, .int x] (mhp h F S z A X) (some (.int (nI 0))) (mhp h (va_up (va_up F 13 (bAll z 7).length) 0 1) S z (mL F z A (bAll z 7)) X) := by
  show Zn g zX10_insertColumn 0 [some (.ref 50), some (.int x), none] [] (mhp h F S z A X) 0 0 _
  refine zn_aload_n (pc := 0) rfl rfl ?_
  refine zn_aload_n (pc := 1) rfl rfl ?_
  refine zn_iload_n (pc := 2) rfl rfl ?_
  refine zn_callVx (pc := 3) (J := zX10_isBlock) (o := 50) (as := [.int x]) (rest := [.ref 50]) rfl rfl rfl rfl rfl rfl rfl rfl (Nat.le_of_ble_eq_true rfl) (Nat.le_of_ble_eq_true rfl) (Nat.le_of_ble_eq_true rfl) (Nat.le_of_ble_eq_true rfl) (m_isBlock hz hzb h4 hg hg8 hlw hpd x) ?_
  refine zn_if_neB (pc := 6) (tgt := 13) rfl rfl (fun c1 => ?_) (fun c1 => ?_)
  · exact absurd c1 hx
  · refine zn_iconstN (pc := 9) 1 rfl rfl ?_
    refine zn_goto (pc := 10) (tgt := 26) rfl rfl ?_
    refine zm_putI (pc := 26) (k := 0) (v := 1) rfl (by decide) rfl rfl ?_
    refine zn_aload_n (pc := 29) rfl rfl ?_
    refine zn_get (pc := 30) (v := .int (nI 1)) rfl rfl rfl ?_
    refine zn_if_leN (pc := 33) (tgt := 38) (x := 1) rfl rfl (by omega) (fun c2 => ?_) (fun c2 => ?_)
    · exfalso; omega
    · refine zn_iconstN (pc := 36) 0 rfl rfl ?_
      exact zx_i (pc := 37) rfl rfl rfl rfl
theorem m_insertColumn_2  (hz : mOK z) (hzb : ∀ j, z j < 1000) (h4 : ∀ j, A 4 j ≤ 3) (hg : 1 ≤ F 10) (hg8 : F 10 ≤ 8) (hlw : F 9 ≤ 20) (hpd : F 8 ≤ 8) {b c f t : Nat} (hP : (bAll z 7)[b]? = some (c, f, t)) (hr : ¬ bRoom z f (t + 1)) : Zx g zX10_insertColumn [.ref 50, .int (nI b)] (mhp h F S z A X) (some (.int (nI 0))) (mhp h (va_up (va_up F 13 (bAll z 7).length) 0 2) S z (mL F z A (bAll z 7)) X) := by
  have h1 := hz.2.1
  have hl0 := bAll_len z 7
  obtain ⟨hb, ⟨b1, b2, b3, b4, b5⟩, hE⟩ := bAll_get hz hP
  obtain ⟨g6, g7, g8, g9, g11, g10, g12⟩ := (mL_hold (F := F) (z := z) (A := A) (bAll z 7)).2 b c f t hP
  have hib : zin (nI b) (bAll z 7).length := (zin_nI (by omega)).mpr hb
  show Zn g zX10_insertColumn 0 [some (.ref 50), some (.int (nI b)), none] [] (mhp h F S z A X) 0 0 _
  refine zn_aload_n (pc := 0) rfl rfl ?_
  refine zn_aload_n (pc := 1) rfl rfl ?_
  refine zn_iload_n (pc := 2) rfl rfl ?_
  refine zn_callVx (pc := 3) (J := zX10_isBlock) (o := 50) (as := [.int (nI b)]) (rest := [.ref 50]) rfl rfl rfl rfl rfl rfl rfl rfl (Nat.le_of_ble_eq_true rfl) (Nat.le_of_ble_eq_true rfl) (Nat.le_of_ble_eq_true rfl) (Nat.le_of_ble_eq_true rfl) (m_isBlock hz hzb h4 hg hg8 hlw hpd (nI b)) ?_
  refine zn_if_neB (pc := 6) (tgt := 13) rfl rfl (fun c1 => ?_) (fun c1 => ?_)
  · refine zn_aload_n (pc := 13) rfl rfl ?_
    refine zn_iload_n (pc := 14) rfl rfl ?_
    refine zn_callVx (pc := 15) (J := zX10_hasRoom) (o := 50) (as := [.int (nI b)]) (rest := [.ref 50]) rfl rfl rfl rfl rfl rfl rfl rfl (Nat.le_of_ble_eq_true rfl) (Nat.le_of_ble_eq_true rfl) (Nat.le_of_ble_eq_true rfl) (Nat.le_of_ble_eq_true rfl) (m_hasRoom (by omega) g7 g8 b2 (by omega) hzb) ?_
    refine zn_if_eqB (pc := 18) (tgt := 25) rfl rfl (fun c2 => ?_) (fun c2 => ?_)
    · refine zn_iconstN (pc := 25) 2 rfl rfl ?_
      refine zm_putI (pc := 26) (k := 0) (v := 2) rfl (by decide) rfl rfl ?_
      refine zn_aload_n (pc := 29) rfl rfl ?_
      refine zn_get (pc := 30) (v := .int (nI 2)) rfl rfl rfl ?_
      refine zn_if_leN (pc := 33) (tgt := 38) (x := 2) rfl rfl (by omega) (fun c3 => ?_) (fun c3 => ?_)
      · exfalso; omega
      · refine zn_iconstN (pc := 36) 0 rfl rfl ?_
        exact zx_i (pc := 37) rfl rfl rfl rfl
    · exact absurd c2 hr
  · exact absurd hib c1
theorem m_insertColumn_0  (hz : mOK z) (hzb : ∀ j, z j < 1000) (h4 : ∀ j, A 4 j ≤ 3) (hg : 1 ≤ F 10) (hg8 : F 10 ≤ 8) (hlw : F 9 ≤ 20) (hpd : F 8 ≤ 8) (hu : F 5 ≤ 10) {b c f t : Nat} (hP : (bAll z 7)[b]? = some (c, f, t)) (hr : bRoom z f (t + 1)) : Zx g zX10_insertColumn [.ref 50, .int (nI b)] (mhp h F S z A X) (some (.int (nI (t - f + 1)))) (mhp h (va_up (va_up (va_up (va_up F 13 (bAll z 7).length) 0 0) 5 (min (F 5) 9 + 1)) 6 0) S (mOpcs z c f (t + 1 - f)) (va_up (mL F z A (bAll z 7)) 2 (msave ((mL F z A (bAll z 7)) 2) z (F 5))) X) := by
  have h1 := hz.2.1
  have hl0 := bAll_len z 7
  obtain ⟨hb, ⟨b1, b2, b3, b4, b5⟩, hE⟩ := bAll_get hz hP
  obtain ⟨g6, g7, g8, g9, g11, g10, g12⟩ := (mL_hold (F := F) (z := z) (A := A) (bAll z 7)).2 b c f t hP
  have hib : zin (nI b) (bAll z 7).length := (zin_nI (by omega)).mpr hb
  show Zn g zX10_insertColumn 0 [some (.ref 50), some (.int (nI b)), none] [] (mhp h F S z A X) 0 0 _
  refine zn_aload_n (pc := 0) rfl rfl ?_
  refine zn_aload_n (pc := 1) rfl rfl ?_
  refine zn_iload_n (pc := 2) rfl rfl ?_
  refine zn_callVx (pc := 3) (J := zX10_isBlock) (o := 50) (as := [.int (nI b)]) (rest := [.ref 50]) rfl rfl rfl rfl rfl rfl rfl rfl (Nat.le_of_ble_eq_true rfl) (Nat.le_of_ble_eq_true rfl) (Nat.le_of_ble_eq_true rfl) (Nat.le_of_ble_eq_true rfl) (m_isBlock hz hzb h4 hg hg8 hlw hpd (nI b)) ?_
  refine zn_if_neB (pc := 6) (tgt := 13) rfl rfl (fun c1 => ?_) (fun c1 => ?_)
  · refine zn_aload_n (pc := 13) rfl rfl ?_
    refine zn_iload_n (pc := 14) rfl rfl ?_
    refine zn_callVx (pc := 15) (J := zX10_hasRoom) (o := 50) (as := [.int (nI b)]) (rest := [.ref 50]) rfl rfl rfl rfl rfl rfl rfl rfl (Nat.le_of_ble_eq_true rfl) (Nat.le_of_ble_eq_true rfl) (Nat.le_of_ble_eq_true rfl) (Nat.le_of_ble_eq_true rfl) (m_hasRoom (by omega) g7 g8 b2 (by omega) hzb) ?_
    refine zn_if_eqB (pc := 18) (tgt := 25) rfl rfl (fun c2 => ?_) (fun c2 => ?_)
    · exact absurd hr c2
    · refine zn_iconstN (pc := 21) 0 rfl rfl ?_
      refine zn_goto (pc := 22) (tgt := 26) rfl rfl ?_
      refine zm_putI (pc := 26) (k := 0) (v := 0) rfl (by decide) rfl rfl ?_
      refine zn_aload_n (pc := 29) rfl rfl ?_
      refine zn_get (pc := 30) (v := .int (nI 0)) rfl rfl rfl ?_
      refine zn_if_leN (pc := 33) (tgt := 38) (x := 0) rfl rfl (by omega) (fun c3 => ?_) (fun c3 => ?_)
      · refine zn_aload_n (pc := 38) rfl rfl ?_
        refine zn_callVx (pc := 39) (J := zX10_save) (o := 50) (as := []) (rest := []) rfl rfl rfl rfl rfl rfl rfl rfl (Nat.le_of_ble_eq_true rfl) (Nat.le_of_ble_eq_true rfl) (Nat.le_of_ble_eq_true rfl) (Nat.le_of_ble_eq_true rfl) (m_save (n := (F 5)) rfl (by omega)) ?_
        refine zn_aload_n (pc := 42) rfl rfl ?_
        refine zn_get (pc := 43) (v := .ref 58) rfl rfl rfl ?_
        refine zn_iload_n (pc := 46) rfl rfl ?_
        refine zm_ldA (pc := 47) (i := 7) (n := 168) (Z := ((mL F z A (bAll z 7)) 7)) (j := b) rfl (by decide) (by decide) rfl mln7 (va_upN (by decide)) (by omega) (Nat.le_of_ble_eq_true rfl) ?_
        refine zn_top (v' := .int (nI f)) (by rw [g7]) ?_
        refine zn_istore_n (pc := 48) (L' := [some (.ref 50), some (.int (nI b)), some (.int (nI f))]) rfl (by decide) rfl ?_
        exact m_insertColumn_l (z := z) (A := va_up (mL F z A (bAll z 7)) 2 (msave ((mL F z A (bAll z 7)) 2) z (F 5))) (by omega) g6 g7 g8 b2 (by omega) (by omega) (fun l q1 q2 => ⟨(hE l q1 q2).2, hr l (by omega) q1⟩) (t + 1 - f) 0 (by omega)
      · exfalso; omega
  · exact absurd hib c1
theorem m_removeColumn_l {b c f t : Nat} (hb : b < 168) (h6 : A 6 b = c) (h7 : A 7 b = f) (h8 : A 8 b = t) (hft : f ≤ t) (ht : t < 24) (hc : c < 8) (hr : ∀ l, f ≤ l → l ≤ t → c + 1 < z (1 + l) ∧ z (1 + l) ≤ 8 ∧ z (25 + 8 * l + c) ≤ 16) (hzb : ∀ j, z j < 1000) : ∀ (n : Nat) (k : Nat), k + n = t + 1 - f → Zn g zX10_removeColumn 39 [some (.ref 50), some (.int (nI b)), some (.int (nI (mRc z c f k))), some (.int (nI (f + k)))] [] (mhp h F S (mClcs z c f k) A X) 0 0 (fun r' h' => r' = .inl (some (.int (nI (mRc z c f (t + 1 - f))))) ∧ h' = (mhp h F S (mClcs z c f (t + 1 - f)) A X)) := by
  intro n
  induction n with
  | zero =>
    intro k hn0
    refine zn_iload_n (pc := 39) rfl rfl ?_
    refine zn_aload_n (pc := 40) rfl rfl ?_
    refine zn_get (pc := 41) (v := .ref 59) rfl rfl rfl ?_
    refine zn_iload_n (pc := 44) rfl rfl ?_
    refine zm_ldA (pc := 45) (i := 8) (n := 168) (Z := (A 8)) (j := b) rfl (by decide) (by decide) rfl mln8 rfl (by omega) (Nat.le_of_ble_eq_true rfl) ?_
    refine zn_top (v' := .int (nI t)) (by rw [h8]) ?_
    refine zn_icmp_gtN (pc := 46) (tgt := 88) (x := (f + k)) (y := t) rfl rfl (by omega) (by omega) (fun c1 => ?_) (fun c1 => ?_)
    · refine zn_iload_n (pc := 88) rfl rfl ?_
      obtain rfl : k = t + 1 - f := by omega
      exact zx_i (pc := 89) rfl rfl rfl rfl
    · exfalso; omega
  | succ n ih =>
    intro k hn0
    refine zn_iload_n (pc := 39) rfl rfl ?_
    refine zn_aload_n (pc := 40) rfl rfl ?_
    refine zn_get (pc := 41) (v := .ref 59) rfl rfl rfl ?_
    refine zn_iload_n (pc := 44) rfl rfl ?_
    refine zm_ldA (pc := 45) (i := 8) (n := 168) (Z := (A 8)) (j := b) rfl (by decide) (by decide) rfl mln8 rfl (by omega) (Nat.le_of_ble_eq_true rfl) ?_
    refine zn_top (v' := .int (nI t)) (by rw [h8]) ?_
    refine zn_icmp_gtN (pc := 46) (tgt := 88) (x := (f + k)) (y := t) rfl rfl (by omega) (by omega) (fun c1 => ?_) (fun c1 => ?_)
    · refine zn_iload_n (pc := 88) rfl rfl ?_
      obtain rfl : k = t + 1 - f := by omega
      exact zx_i (pc := 89) rfl rfl rfl rfl
    · have q1 := hr (f + k) (by omega) (by omega)
      have q0 := mClcs_o (z := z) (t := t) (f := f) hc (fun l h1 h2 => (hr l h1 h2).2.1) ht k (by omega)
      have q2 : mClcs z c f k (1 + (f + k)) = z (1 + (f + k)) := q0 _ (fun l h1 h2 => by simp only [mIn]; omega)
      have q3 : mClcs z c f k (25 + 8 * (f + k) + c) = z (25 + 8 * (f + k) + c) := q0 _ (fun l h1 h2 => by simp only [mIn]; omega)
      refine zn_iload_n (pc := 49) rfl rfl ?_
      refine zn_joinV (v := .int (nI (if sBlank (mf (mClcs z c f k) (f + k) c) (mClcs z c f k (25 + 8 * (f + k) + c)) then 0 else 1))) (pj := 69) ?_ (fun K2 => ?_)
      · refine zn_iaddN (pc := 69) (x := (mRc z c f k)) (y := (if sBlank (mf (mClcs z c f k) (f + k) c) (mClcs z c f k (25 + 8 * (f + k) + c)) then 0 else 1)) rfl ?_
        refine zn_istore_n (pc := 70) (L' := [some (.ref 50), some (.int (nI b)), some (.int (nI (mRc z c f k + (if sBlank (mf (mClcs z c f k) (f + k) c) (mClcs z c f k (25 + 8 * (f + k) + c)) then 0 else 1)))), some (.int (nI (f + k)))]) rfl (by decide) rfl ?_
        refine zn_aload_n (pc := 71) rfl rfl ?_
        refine zn_iload_n (pc := 72) rfl rfl ?_
        refine zn_aload_n (pc := 73) rfl rfl ?_
        refine zn_get (pc := 74) (v := .ref 57) rfl rfl rfl ?_
        refine zn_iload_n (pc := 77) rfl rfl ?_
        refine zm_ldA (pc := 78) (i := 6) (n := 168) (Z := (A 6)) (j := b) rfl (by decide) (by decide) rfl mln6 rfl (by omega) (Nat.le_of_ble_eq_true rfl) ?_
        refine zn_top (v' := .int (nI c)) (by rw [h6]) ?_
        refine zn_callVx (pc := 79) (J := zX10_closeCell) (o := 50) (as := [.int (nI (f + k)), .int (nI c)]) (rest := []) rfl rfl rfl rfl rfl rfl rfl rfl (Nat.le_of_ble_eq_true rfl) (Nat.le_of_ble_eq_true rfl) (Nat.le_of_ble_eq_true rfl) (Nat.le_of_ble_eq_true rfl) (m_closeCell (l := (f + k)) (c := c) (by omega) (by omega) (by omega)) ?_
        refine zn_iincN (pc := 82) (L' := [some (.ref 50), some (.int (nI b)), some (.int (nI (mRc z c f k + (if sBlank (mf (mClcs z c f k) (f + k) c) (mClcs z c f k (25 + 8 * (f + k) + c)) then 0 else 1)))), some (.int (nI (f + k + 1)))]) 1 rfl rfl rfl (by decide) rfl ?_
        refine zn_goto (pc := 85) (tgt := 39) rfl rfl ?_
        exact ih (k + 1) (by omega)
      · refine zn_aload_n (pc := 50) rfl rfl ?_
        refine zn_iload_n (pc := 51) rfl rfl ?_
        refine zn_aload_n (pc := 52) rfl rfl ?_
        refine zn_get (pc := 53) (v := .ref 57) rfl rfl rfl ?_
        refine zn_iload_n (pc := 56) rfl rfl ?_
        refine zm_ldA (pc := 57) (i := 6) (n := 168) (Z := (A 6)) (j := b) rfl (by decide) (by decide) rfl mln6 rfl (by omega) (Nat.le_of_ble_eq_true rfl) ?_
        refine zn_top (v' := .int (nI c)) (by rw [h6]) ?_
        refine zn_callVx (pc := 58) (J := zX10_isBlank) (o := 50) (as := [.int (nI (f + k)), .int (nI c)]) (rest := [.int (nI (mRc z c f k))]) rfl rfl rfl rfl rfl rfl rfl rfl (Nat.le_of_ble_eq_true rfl) (Nat.le_of_ble_eq_true rfl) (Nat.le_of_ble_eq_true rfl) (Nat.le_of_ble_eq_true rfl) (m_isBlank (l := (f + k)) (c := c) (by omega) (by omega) (by omega) (mClcs_b hzb k)) ?_
        refine zn_if_eqB (pc := 61) (tgt := 68) rfl rfl (fun c3 => ?_) (fun c3 => ?_)
        · refine zn_iconstN (pc := 68) 1 rfl rfl ?_
          exact zn_top (v' := .int (nI (if sBlank (mf (mClcs z c f k) (f + k) c) (mClcs z c f k (25 + 8 * (f + k) + c)) then 0 else 1))) (by rw [if_neg (by assumption)]) K2
        · refine zn_iconstN (pc := 64) 0 rfl rfl ?_
          refine zn_goto (pc := 65) (tgt := 69) rfl rfl ?_
          exact zn_top (v' := .int (nI (if sBlank (mf (mClcs z c f k) (f + k) c) (mClcs z c f k (25 + 8 * (f + k) + c)) then 0 else 1))) (by rw [if_pos (by assumption)]) K2
theorem m_removeColumn_1  (hz : mOK z) (hzb : ∀ j, z j < 1000) (h4 : ∀ j, A 4 j ≤ 3) (hg : 1 ≤ F 10) (hg8 : F 10 ≤ 8) (hlw : F 9 ≤ 20) (hpd : F 8 ≤ 8) (x : Int32) (hx : ¬ zin x (bAll z 7).length) : Zx g zX10_removeColumn [.ref 50, .int x] (mhp h F S z A X) (some (.int (nI 0))) (mhp h (va_up (va_up F 13 (bAll z 7).length) 0 1) S z (mL F z A (bAll z 7)) X) := by
  show Zn g zX10_removeColumn 0 [some (.ref 50), some (.int x), none, none] [] (mhp h F S z A X) 0 0 _
  refine zn_aload_n (pc := 0) rfl rfl ?_
  refine zn_aload_n (pc := 1) rfl rfl ?_
  refine zn_iload_n (pc := 2) rfl rfl ?_
  refine zn_callVx (pc := 3) (J := zX10_isBlock) (o := 50) (as := [.int x]) (rest := [.ref 50]) rfl rfl rfl rfl rfl rfl rfl rfl (Nat.le_of_ble_eq_true rfl) (Nat.le_of_ble_eq_true rfl) (Nat.le_of_ble_eq_true rfl) (Nat.le_of_ble_eq_true rfl) (m_isBlock hz hzb h4 hg hg8 hlw hpd x) ?_
  refine zn_if_eqB (pc := 6) (tgt := 13) rfl rfl (fun c1 => ?_) (fun c1 => ?_)
  · refine zn_iconstN (pc := 13) 1 rfl rfl ?_
    refine zm_putI (pc := 14) (k := 0) (v := 1) rfl (by decide) rfl rfl ?_
    refine zn_aload_n (pc := 17) rfl rfl ?_
    refine zn_get (pc := 18) (v := .int (nI 1)) rfl rfl rfl ?_
    refine zn_if_leN (pc := 21) (tgt := 26) (x := 1) rfl rfl (by omega) (fun c2 => ?_) (fun c2 => ?_)
    · exfalso; omega
    · refine zn_iconstN (pc := 24) 0 rfl rfl ?_
      exact zx_i (pc := 25) rfl rfl rfl rfl
  · exact absurd c1 hx
theorem m_removeColumn_0  (hz : mOK z) (hzb : ∀ j, z j < 1000) (h4 : ∀ j, A 4 j ≤ 3) (hg : 1 ≤ F 10) (hg8 : F 10 ≤ 8) (hlw : F 9 ≤ 20) (hpd : F 8 ≤ 8) (hu : F 5 ≤ 10) {b c f t : Nat} (hP : (bAll z 7)[b]? = some (c, f, t)) : Zx g zX10_removeColumn [.ref 50, .int (nI b)] (mhp h F S z A X) (some (.int (nI (mRc z c f (t + 1 - f))))) (mhp h (va_up (va_up (va_up (va_up F 13 (bAll z 7).length) 0 0) 5 (min (F 5) 9 + 1)) 6 0) S (mClcs z c f (t + 1 - f)) (va_up (mL F z A (bAll z 7)) 2 (msave ((mL F z A (bAll z 7)) 2) z (F 5))) X) := by
  have h1 := hz.2.1
  have hl0 := bAll_len z 7
  obtain ⟨hb, ⟨b1, b2, b3, b4, b5⟩, hE⟩ := bAll_get hz hP
  obtain ⟨g6, g7, g8, g9, g11, g10, g12⟩ := (mL_hold (F := F) (z := z) (A := A) (bAll z 7)).2 b c f t hP
  have hib : zin (nI b) (bAll z 7).length := (zin_nI (by omega)).mpr hb
  show Zn g zX10_removeColumn 0 [some (.ref 50), some (.int (nI b)), none, none] [] (mhp h F S z A X) 0 0 _
  refine zn_aload_n (pc := 0) rfl rfl ?_
  refine zn_aload_n (pc := 1) rfl rfl ?_
  refine zn_iload_n (pc := 2) rfl rfl ?_
  refine zn_callVx (pc := 3) (J := zX10_isBlock) (o := 50) (as := [.int (nI b)]) (rest := [.ref 50]) rfl rfl rfl rfl rfl rfl rfl rfl (Nat.le_of_ble_eq_true rfl) (Nat.le_of_ble_eq_true rfl) (Nat.le_of_ble_eq_true rfl) (Nat.le_of_ble_eq_true rfl) (m_isBlock hz hzb h4 hg hg8 hlw hpd (nI b)) ?_
  refine zn_if_eqB (pc := 6) (tgt := 13) rfl rfl (fun c1 => ?_) (fun c1 => ?_)
  · exact absurd hib c1
  · refine zn_iconstN (pc := 9) 0 rfl rfl ?_
    refine zn_goto (pc := 10) (tgt := 14) rfl rfl ?_
    refine zm_putI (pc := 14) (k := 0) (v := 0) rfl (by decide) rfl rfl ?_
    refine zn_aload_n (pc := 17) rfl rfl ?_
    refine zn_get (pc := 18) (v := .int (nI 0)) rfl rfl rfl ?_
    refine zn_if_leN (pc := 21) (tgt := 26) (x := 0) rfl rfl (by omega) (fun c2 => ?_) (fun c2 => ?_)
    · refine zn_aload_n (pc := 26) rfl rfl ?_
      refine zn_callVx (pc := 27) (J := zX10_save) (o := 50) (as := []) (rest := []) rfl rfl rfl rfl rfl rfl rfl rfl (Nat.le_of_ble_eq_true rfl) (Nat.le_of_ble_eq_true rfl) (Nat.le_of_ble_eq_true rfl) (Nat.le_of_ble_eq_true rfl) (m_save (n := (F 5)) rfl (by omega)) ?_
      refine zn_iconstN (pc := 30) 0 rfl rfl ?_
      refine zn_istore_n (pc := 31) (L' := [some (.ref 50), some (.int (nI b)), some (.int (nI 0)), none]) rfl (by decide) rfl ?_
      refine zn_aload_n (pc := 32) rfl rfl ?_
      refine zn_get (pc := 33) (v := .ref 58) rfl rfl rfl ?_
      refine zn_iload_n (pc := 36) rfl rfl ?_
      refine zm_ldA (pc := 37) (i := 7) (n := 168) (Z := ((mL F z A (bAll z 7)) 7)) (j := b) rfl (by decide) (by decide) rfl mln7 (va_upN (by decide)) (by omega) (Nat.le_of_ble_eq_true rfl) ?_
      refine zn_top (v' := .int (nI f)) (by rw [g7]) ?_
      refine zn_istore_n (pc := 38) (L' := [some (.ref 50), some (.int (nI b)), some (.int (nI 0)), some (.int (nI f))]) rfl (by decide) rfl ?_
      exact m_removeColumn_l (z := z) (A := va_up (mL F z A (bAll z 7)) 2 (msave ((mL F z A (bAll z 7)) 2) z (F 5))) (by omega) g6 g7 g8 b2 (by omega) (by omega) (fun l q1 q2 => ⟨(hE l q1 q2).2, (hz.2.2.1 l (hE l q1 q2).1).2, b5 l q1 q2⟩) hzb (t + 1 - f) 0 (by omega)
    · exfalso; omega
end m1
