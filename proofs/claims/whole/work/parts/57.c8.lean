section m1
variable {g : zG} {h hh : zH} {F : Nat → Nat} {S : Int64} {z : Nat → Nat} {A : Nat → Nat → Nat} {X : Nat → Int32}
/-- the class's rows with one block more -/
def cAdd (z : Nat → Nat) (D : Nat → Nat → Nat) (n c f t a wd : Nat) : Nat → Nat → Nat :=
  va_up (va_up (va_up (va_up (va_up (va_up (va_up (va_up D 0 (va_up (D 0) n c)) 1 (va_up (D 1) n f)) 2 (va_up (D 2) n t)) 6 (va_up (D 6) n (bNum (mK z c) (t + 1 - f) f))) 4 (va_up (D 4) n a)) 7 (va_up (D 7) n (bPart a (mK z c) (mN z c) (mH z c) f t))) 5 (va_up (D 5) n (bCont a (mK z c) (mN z c) (mH z c) f t))) 3 (va_up (D 3) n wd)
theorem cHold_add {al : Nat → Nat} {pd lw gr : Nat} {D : Nat → Nat → Nat} {W : Nat → Int64} {P : List (Nat × Nat × Nat)} {c f t : Nat} (h9 : cHold z al pd lw gr D W P) : cHold z al pd lw gr (cAdd z D P.length c f t (bAl (al c) (mK z c) f t) (bWid (bCont (bAl (al c) (mK z c) f t) (mK z c) (mN z c) (mH z c) f t) lw pd gr)) (va_up W P.length (bSum z c f t)) (P ++ [(c, f, t)]) := by
  intro i c' f' t' hi
  have e0 : ∀ a wd, cAdd z D P.length c f t a wd 0 = va_up (D 0) P.length c := fun a wd => by unfold cAdd; simp only [va_up]; rfl
  have e1 : ∀ a wd, cAdd z D P.length c f t a wd 1 = va_up (D 1) P.length f := fun a wd => by unfold cAdd; simp only [va_up]; rfl
  have e2 : ∀ a wd, cAdd z D P.length c f t a wd 2 = va_up (D 2) P.length t := fun a wd => by unfold cAdd; simp only [va_up]; rfl
  have e3 : ∀ a wd, cAdd z D P.length c f t a wd 3 = va_up (D 3) P.length wd := fun a wd => by unfold cAdd; simp only [va_up]; rfl
  have e4 : ∀ a wd, cAdd z D P.length c f t a wd 4 = va_up (D 4) P.length a := fun a wd => by unfold cAdd; simp only [va_up]; rfl
  have e5 : ∀ a wd, cAdd z D P.length c f t a wd 5 = va_up (D 5) P.length (bCont a (mK z c) (mN z c) (mH z c) f t) := fun a wd => by unfold cAdd; simp only [va_up]; rfl
  have e6 : ∀ a wd, cAdd z D P.length c f t a wd 6 = va_up (D 6) P.length (bNum (mK z c) (t + 1 - f) f) := fun a wd => by unfold cAdd; simp only [va_up]; rfl
  have e7 : ∀ a wd, cAdd z D P.length c f t a wd 7 = va_up (D 7) P.length (bPart a (mK z c) (mN z c) (mH z c) f t) := fun a wd => by unfold cAdd; simp only [va_up]; rfl
  rw [e0, e1, e2, e3, e4, e5, e6, e7]
  by_cases hl : i < P.length
  · rw [List.getElem?_append_left hl] at hi
    rw [va_upN (by omega), va_upN (by omega), va_upN (by omega), va_upN (by omega), va_upN (by omega), va_upN (by omega), va_upN (by omega), va_upN (by omega), va_upN (by omega)]
    exact h9 i c' f' t' hi
  · rw [List.getElem?_append_right (by omega)] at hi
    have hz9 : i - P.length < 1 := (List.getElem?_eq_some_iff.mp hi).1
    obtain rfl : i = P.length := by omega
    rw [Nat.sub_self] at hi
    cases hi
    simp only [va_upS]
    trivial
theorem c_measureDecimal_10  {m : Nat} {C D : Nat → Nat → Nat} {V W : Nat → Int64} {Xs : Nat → Nat} {Bn : Nat → Int32} (hz : mOK z) (hcel : cCel z C V) {b c f t : Nat} (hb : b < 84) (d0 : D 0 b = c) (d1 : D 1 b = f) (d2 : D 2 b = t) (hc7 : c < 7) (hft : f ≤ t) (ht : t < 24) (hE : ∀ l, f ≤ l → l ≤ t → mE z c l) {al9 : Nat} (h3 : al9 = 3) : Zx g zX0_measureDecimal [.ref 18, .int (nI b), .ref 11] (lhp 10 h (z 0) C V m D W Xs Bn) none (lhp 10 h (z 0) C V m (va_up (va_up D 7 (va_up (D 7) b (bPart al9 (mK z c) (mN z c) (mH z c) f t))) 5 (va_up (D 5) b (bCont al9 (mK z c) (mN z c) (mH z c) f t))) W Xs Bn) := by
  show Zn g zX0_measureDecimal 0 [some (.ref 18), some (.int (nI b)), some (.ref 11), none, none, none, none, none, none] [] (lhp 10 h (z 0) C V m D W Xs Bn) 0 0 _
  refine zn_aload_n (pc := 0) rfl rfl ?_
  refine zn_get (pc := 1) (v := .ref 19) rfl rfl rfl ?_
  refine zn_iload_n (pc := 4) rfl rfl ?_
  refine zl_ldD (pc := 5) (i := 0) (Z := (D 0)) (j := b) rfl (by decide) rfl rfl (by omega) ?_
  refine zn_top (v' := .int (nI c)) (by rw [d0]) ?_
  refine zn_istore_n (pc := 6) (L' := [some (.ref 18), some (.int (nI b)), some (.ref 11), some (.int (nI c)), none, none, none, none, none]) rfl (by decide) rfl ?_
  refine zn_iconstN (pc := 7) 0 rfl rfl ?_
  refine zn_istore (pc := 8) (L' := [some (.ref 18), some (.int (nI b)), some (.ref 11), some (.int (nI c)), some (.int (nI 0)), none, none, none, none]) rfl (by decide) rfl ?_
  refine zn_iconstN (pc := 10) 0 rfl rfl ?_
  refine zn_istore (pc := 11) (L' := [some (.ref 18), some (.int (nI b)), some (.ref 11), some (.int (nI c)), some (.int (nI 0)), some (.int (nI 0)), none, none, none]) rfl (by decide) rfl ?_
  refine zn_iconstN (pc := 13) 0 rfl rfl ?_
  refine zn_istore (pc := 14) (L' := [some (.ref 18), some (.int (nI b)), some (.ref 11), some (.int (nI c)), some (.int (nI 0)), some (.int (nI 0)), some (.int (nI 0)), none, none]) rfl (by decide) rfl ?_
  refine zn_aload_n (pc := 16) rfl rfl ?_
  refine zn_get (pc := 17) (v := .ref 20) rfl rfl rfl ?_
  refine zn_iload_n (pc := 20) rfl rfl ?_
  refine zl_ldD (pc := 21) (i := 1) (Z := (D 1)) (j := b) rfl (by decide) rfl rfl (by omega) ?_
  refine zn_top (v' := .int (nI f)) (by rw [d1]) ?_
  refine zn_istore (pc := 22) (L' := [some (.ref 18), some (.int (nI b)), some (.ref 11), some (.int (nI c)), some (.int (nI 0)), some (.int (nI 0)), some (.int (nI 0)), some (.int (nI f)), none]) rfl (by decide) rfl ?_
  exact c_measureDecimal_l10 hz hcel hb d0 d1 d2 hc7 hft ht hE h3 (t + 1 - f) f 0 0 0 (by omega) (by omega) rfl rfl rfl (by omega) (by omega) (by omega)
theorem c_measurePlain_l10 {m : Nat} {C D : Nat → Nat → Nat} {V W : Nat → Int64} {Xs : Nat → Nat} {Bn : Nat → Int32} (hz : mOK z) (hcel : cCel z C V) {b c f t : Nat} (hb : b < 84) (d0 : D 0 b = c) (d1 : D 1 b = f) (d2 : D 2 b = t) (hc7 : c < 7) (hft : f ≤ t) (ht : t < 24) (hE : ∀ l, f ≤ l → l ≤ t → mE z c l) {al9 : Nat} (h3 : al9 ≠ 3) : ∀ (n : Nat) (l w : Nat), l + n = t + 1 → f ≤ l → bMax (mN z c) (t + 1 - f) f 0 = bMax (mN z c) n l w → w ≤ 16 → Zn g zX0_measurePlain 10 [some (.ref 18), some (.int (nI b)), some (.ref 11), some (.int (nI w)), some (.int (nI l))] [] (lhp 10 h (z 0) C V m D W Xs Bn) 0 0 (fun r' h' => r' = .inl none ∧ h' = (lhp 10 h (z 0) C V m (va_up (va_up D 7 (va_up (D 7) b (bPart al9 (mK z c) (mN z c) (mH z c) f t))) 5 (va_up (D 5) b (bCont al9 (mK z c) (mN z c) (mH z c) f t))) W Xs Bn)) := by
  intro n
  induction n with
  | zero =>
    intro l w hn0 hn1 hn2 hn3
    refine zn_iload (pc := 10) rfl rfl ?_
    refine zn_aload_n (pc := 12) rfl rfl ?_
    refine zn_get (pc := 13) (v := .ref 21) rfl rfl rfl ?_
    refine zn_iload_n (pc := 16) rfl rfl ?_
    refine zl_ldD (pc := 17) (i := 2) (Z := (D 2)) (j := b) rfl (by decide) rfl rfl (by omega) ?_
    refine zn_top (v' := .int (nI t)) (by rw [d2]) ?_
    refine zn_icmp_gtN (pc := 18) (tgt := 44) (x := l) (y := t) rfl rfl (by omega) (by omega) (fun c1 => ?_) (fun c1 => ?_)
    · refine zn_aload_n (pc := 44) rfl rfl ?_
      refine zn_get (pc := 45) (v := .ref 26) rfl rfl rfl ?_
      refine zn_iload_n (pc := 48) rfl rfl ?_
      refine zn_iconstN (pc := 49) 0 rfl rfl ?_
      refine zl_stD (pc := 50) (i := 7) (j := b) (v := 0) rfl (by decide) rfl (by omega) ?_
      refine zn_aload_n (pc := 51) rfl rfl ?_
      refine zn_get (pc := 52) (v := .ref 24) rfl rfl rfl ?_
      refine zn_iload_n (pc := 55) rfl rfl ?_
      refine zn_iload_n (pc := 56) rfl rfl ?_
      refine zl_stD (pc := 57) (i := 5) (j := b) (v := w) rfl (by decide) rfl (by omega) ?_
      rw [bPart_n _ _ _ _ _ h3, bCont_n _ _ _ _ _ h3, hn2]
      simp only [bMax]
      exact zx_v (pc := 58) rfl rfl rfl rfl
    · exfalso; omega
  | succ n ih =>
    intro l w hn0 hn1 hn2 hn3
    refine zn_iload (pc := 10) rfl rfl ?_
    refine zn_aload_n (pc := 12) rfl rfl ?_
    refine zn_get (pc := 13) (v := .ref 21) rfl rfl rfl ?_
    refine zn_iload_n (pc := 16) rfl rfl ?_
    refine zl_ldD (pc := 17) (i := 2) (Z := (D 2)) (j := b) rfl (by decide) rfl rfl (by omega) ?_
    refine zn_top (v' := .int (nI t)) (by rw [d2]) ?_
    refine zn_icmp_gtN (pc := 18) (tgt := 44) (x := l) (y := t) rfl rfl (by omega) (by omega) (fun c1 => ?_) (fun c1 => ?_)
    · refine zn_aload_n (pc := 44) rfl rfl ?_
      refine zn_get (pc := 45) (v := .ref 26) rfl rfl rfl ?_
      refine zn_iload_n (pc := 48) rfl rfl ?_
      refine zn_iconstN (pc := 49) 0 rfl rfl ?_
      refine zl_stD (pc := 50) (i := 7) (j := b) (v := 0) rfl (by decide) rfl (by omega) ?_
      refine zn_aload_n (pc := 51) rfl rfl ?_
      refine zn_get (pc := 52) (v := .ref 24) rfl rfl rfl ?_
      refine zn_iload_n (pc := 55) rfl rfl ?_
      refine zn_iload_n (pc := 56) rfl rfl ?_
      refine zl_stD (pc := 57) (i := 5) (j := b) (v := w) rfl (by decide) rfl (by omega) ?_
      exfalso; omega
    · have hEl := hE l (by omega) (by omega)
      have hE1 := hEl.1
      have hE2 := hEl.2
      have k2 : mK z c l ≤ 2 := skind_le _ _
      have q16 := hz.2.2.2 l c hEl.1 (by omega)
      have hw2 : mH z c l ≤ z (25 + 8 * l + c) := Nat.le_trans (swh_le _ _ _) (by omega)
      have hN9 : mN z c l = z (25 + 8 * l + c) := rfl
      refine zn_iload_n (pc := 21) rfl rfl ?_
      refine zn_aload_n (pc := 22) rfl rfl ?_
      refine zn_iload (pc := 23) rfl rfl ?_
      refine zn_aload_n (pc := 25) rfl rfl ?_
      refine zn_get (pc := 26) (v := .ref 19) rfl rfl rfl ?_
      refine zn_iload_n (pc := 29) rfl rfl ?_
      refine zl_ldD (pc := 30) (i := 0) (Z := (D 0)) (j := b) rfl (by decide) rfl rfl (by omega) ?_
      refine zn_top (v' := .int (nI c)) (by rw [d0]) ?_
      refine zn_callVx (pc := 31) (J := zX1_length) (o := 11) (as := [.int (nI l), .int (nI c)]) (rest := [.int (nI w)]) rfl rfl rfl rfl rfl rfl rfl rfl (Nat.le_of_ble_eq_true rfl) (Nat.le_of_ble_eq_true rfl) (Nat.le_of_ble_eq_true rfl) (Nat.le_of_ble_eq_true rfl) (c_length_10 hz (cOK_l hcel) (l := l) (c := c) (by omega) (by omega)) ?_
      refine zn_maxN (pc := 34) (x := w) (y := (z (25 + 8 * l + c))) rfl (Nat.le_of_ble_eq_true rfl) (Nat.le_of_ble_eq_true rfl) (by omega) (by omega) ?_
      refine zn_istore_n (pc := 37) (L' := [some (.ref 18), some (.int (nI b)), some (.ref 11), some (.int (nI (max w (z (25 + 8 * l + c))))), some (.int (nI l))]) rfl (by decide) rfl ?_
      refine zn_iincN (pc := 38) (L' := [some (.ref 18), some (.int (nI b)), some (.ref 11), some (.int (nI (max w (z (25 + 8 * l + c))))), some (.int (nI (l + 1)))]) 1 rfl rfl rfl (by decide) rfl ?_
      refine zn_goto (pc := 41) (tgt := 10) rfl rfl ?_
      exact ih (l + 1) (max w (mN z c l)) (by omega) (by omega) (by rw [hn2]; simp only [bMax]) (by omega)
theorem c_measurePlain_10  {m : Nat} {C D : Nat → Nat → Nat} {V W : Nat → Int64} {Xs : Nat → Nat} {Bn : Nat → Int32} (hz : mOK z) (hcel : cCel z C V) {b c f t : Nat} (hb : b < 84) (d0 : D 0 b = c) (d1 : D 1 b = f) (d2 : D 2 b = t) (hc7 : c < 7) (hft : f ≤ t) (ht : t < 24) (hE : ∀ l, f ≤ l → l ≤ t → mE z c l) {al9 : Nat} (h3 : al9 ≠ 3) : Zx g zX0_measurePlain [.ref 18, .int (nI b), .ref 11] (lhp 10 h (z 0) C V m D W Xs Bn) none (lhp 10 h (z 0) C V m (va_up (va_up D 7 (va_up (D 7) b (bPart al9 (mK z c) (mN z c) (mH z c) f t))) 5 (va_up (D 5) b (bCont al9 (mK z c) (mN z c) (mH z c) f t))) W Xs Bn) := by
  show Zn g zX0_measurePlain 0 [some (.ref 18), some (.int (nI b)), some (.ref 11), none, none] [] (lhp 10 h (z 0) C V m D W Xs Bn) 0 0 _
  refine zn_iconstN (pc := 0) 0 rfl rfl ?_
  refine zn_istore_n (pc := 1) (L' := [some (.ref 18), some (.int (nI b)), some (.ref 11), some (.int (nI 0)), none]) rfl (by decide) rfl ?_
  refine zn_aload_n (pc := 2) rfl rfl ?_
  refine zn_get (pc := 3) (v := .ref 20) rfl rfl rfl ?_
  refine zn_iload_n (pc := 6) rfl rfl ?_
  refine zl_ldD (pc := 7) (i := 1) (Z := (D 1)) (j := b) rfl (by decide) rfl rfl (by omega) ?_
  refine zn_top (v' := .int (nI f)) (by rw [d1]) ?_
  refine zn_istore (pc := 8) (L' := [some (.ref 18), some (.int (nI b)), some (.ref 11), some (.int (nI 0)), some (.int (nI f))]) rfl (by decide) rfl ?_
  exact c_measurePlain_l10 hz hcel hb d0 d1 d2 hc7 hft ht hE h3 (t + 1 - f) f 0 (by omega) (by omega) rfl (by omega)
theorem c_measureBlock_10d  {m : Nat} {C D : Nat → Nat → Nat} {V W : Nat → Int64} {Xs : Nat → Nat} {Bn : Nat → Int32} (hz : mOK z) (hcel : cCel z C V) {pd lw gr : Nat} {al : Nat → Nat} (hf4 : h.1 4 = some (.inr (2, [.ref 5, .int (nI pd), .int (nI lw), .int (nI gr)]))) (hf5 : h.1 5 = some (mNA 7 al)) (hpd : pd ≤ 8) (hlw : lw ≤ 20) (hg : 1 ≤ gr) (hg8 : gr ≤ 8) (hal : ∀ j, al j ≤ 3) {b c f t : Nat} (hb : b < 84) (d0 : D 0 b = c) (d1 : D 1 b = f) (d2 : D 2 b = t) (hc7 : c < 7) (hft : f ≤ t) (ht : t < 24) (hE : ∀ l, f ≤ l → l ≤ t → mE z c l) (ha3 : al c = 3) (hd : bDec (mK z c) f t) : Zx g zX0_measureBlock [.ref 18, .int (nI b), .ref 11, .ref 4] (lhp 10 h (z 0) C V m D W Xs Bn) none (lhp 10 h (z 0) C V m (va_up (va_up (va_up (va_up (va_up D 6 (va_up (D 6) b (bNum (mK z c) (t + 1 - f) f))) 4 (va_up (D 4) b (bAl (al c) (mK z c) f t))) 7 (va_up (D 7) b (bPart (bAl (al c) (mK z c) f t) (mK z c) (mN z c) (mH z c) f t))) 5 (va_up (D 5) b (bCont (bAl (al c) (mK z c) f t) (mK z c) (mN z c) (mH z c) f t))) 3 (va_up (D 3) b (bWid (bCont (bAl (al c) (mK z c) f t) (mK z c) (mN z c) (mH z c) f t) lw pd gr))) (va_up W b (bSum z c f t)) Xs Bn) := by
  have hB9 : mBlk z c f t := ⟨hc7, hft, (hE t (by omega) (by omega)).1, hz.2.1, fun l q1 q2 => hz.2.2.2 l c (hE l q1 q2).1 (by have := (hE l q1 q2).2; omega)⟩
  have hala := hal c
  have e9 : bAl (al c) (mK z c) f t = 3 := by unfold bAl; rw [if_neg (by omega), if_pos hd]
  rw [e9]
  have hct := bCont_le (al := 3) hB9
  have hg9 := hg
  show Zn g zX0_measureBlock 0 [some (.ref 18), some (.int (nI b)), some (.ref 11), some (.ref 4), none] [] (lhp 10 h (z 0) C V m D W Xs Bn) 0 0 _
  refine zn_aload_n (pc := 0) rfl rfl ?_
  refine zn_iload_n (pc := 1) rfl rfl ?_
  refine zn_aload_n (pc := 2) rfl rfl ?_
  refine zn_callVx (pc := 3) (J := zX0_addNumbers) (o := 18) (as := [.int (nI b), .ref 11]) (rest := []) rfl rfl rfl rfl rfl rfl rfl rfl (Nat.le_of_ble_eq_true rfl) (Nat.le_of_ble_eq_true rfl) (Nat.le_of_ble_eq_true rfl) (Nat.le_of_ble_eq_true rfl) (c_addNumbers_10 (D := D) (W := W) hz hcel hb d0 d1 d2 hc7 hft ht hE) ?_
  refine zn_aload_n (pc := 6) rfl rfl ?_
  refine zn_aload_n (pc := 7) rfl rfl ?_
  refine zn_get (pc := 8) (v := .ref 19) rfl rfl rfl ?_
  refine zn_iload_n (pc := 11) rfl rfl ?_
  refine zl_ldD (pc := 12) (i := 0) (Z := (D 0)) (j := b) rfl (by decide) rfl (va_upN (by decide)) (by omega) ?_
  refine zn_top (v' := .int (nI c)) (by rw [d0]) ?_
  refine zn_callVx (pc := 13) (J := zX2_alignment) (o := 4) (as := [.int (nI c)]) (rest := []) rfl rfl rfl rfl ((ov_o (by omega)).trans hf4) rfl rfl rfl (Nat.le_of_ble_eq_true rfl) (Nat.le_of_ble_eq_true rfl) (Nat.le_of_ble_eq_true rfl) (Nat.le_of_ble_eq_true rfl) (c_alignment ((ov_o (by omega)).trans hf4) ((ov_o (by omega)).trans hf5) hpd hlw hg hg8 hal (c := c) (by omega)) ?_
  refine zn_istore (pc := 16) (L' := [some (.ref 18), some (.int (nI b)), some (.ref 11), some (.ref 4), some (.int (nI (al c)))]) rfl (by decide) rfl ?_
  refine zn_iload (pc := 18) rfl rfl ?_
  refine zn_iconstN (pc := 20) 3 rfl rfl ?_
  refine zn_icmp_neN (pc := 21) (tgt := 49) (x := (al c)) (y := 3) rfl rfl (by omega) (by omega) (fun c1 => ?_) (fun c1 => ?_)
  · exfalso; omega
  · refine zn_aload_n (pc := 24) rfl rfl ?_
    refine zn_iload_n (pc := 25) rfl rfl ?_
    refine zn_aload_n (pc := 26) rfl rfl ?_
    refine zn_callVx (pc := 27) (J := zX0_isDecimal) (o := 18) (as := [.int (nI b), .ref 11]) (rest := []) rfl rfl rfl rfl rfl rfl rfl rfl (Nat.le_of_ble_eq_true rfl) (Nat.le_of_ble_eq_true rfl) (Nat.le_of_ble_eq_true rfl) (Nat.le_of_ble_eq_true rfl) (c_isDecimal_10 (D := va_up D 6 (va_up (D 6) b (bNum (mK z c) (t + 1 - f) f))) (W := va_up W b (bSum z c f t)) hz hcel hb d0 d1 d2 hc7 hft ht hE (va_upS _ _ _)) ?_
    refine zn_if_eqB (pc := 30) (tgt := 49) rfl rfl (fun c2 => ?_) (fun c2 => ?_)
    · exact absurd hd c2
    · refine zn_aload_n (pc := 33) rfl rfl ?_
      refine zn_get (pc := 34) (v := .ref 23) rfl rfl rfl ?_
      refine zn_iload_n (pc := 37) rfl rfl ?_
      refine zn_iconstN (pc := 38) 3 rfl rfl ?_
      refine zl_stD (pc := 39) (i := 4) (j := b) (v := 3) rfl (by decide) rfl (by omega) ?_
      refine zn_aload_n (pc := 40) rfl rfl ?_
      refine zn_iload_n (pc := 41) rfl rfl ?_
      refine zn_aload_n (pc := 42) rfl rfl ?_
      refine zn_callVx (pc := 43) (J := zX0_measureDecimal) (o := 18) (as := [.int (nI b), .ref 11]) (rest := []) rfl rfl rfl rfl rfl rfl rfl rfl (Nat.le_of_ble_eq_true rfl) (Nat.le_of_ble_eq_true rfl) (Nat.le_of_ble_eq_true rfl) (Nat.le_of_ble_eq_true rfl) (c_measureDecimal_10 (D := va_up (va_up D 6 (va_up (D 6) b (bNum (mK z c) (t + 1 - f) f))) 4 (va_up (D 4) b 3)) (W := va_up W b (bSum z c f t)) hz hcel hb d0 d1 d2 hc7 hft ht hE (al9 := 3) rfl) ?_
      refine zn_goto (pc := 46) (tgt := 73) rfl rfl ?_
      refine zn_aload_n (pc := 73) rfl rfl ?_
      refine zn_get (pc := 74) (v := .ref 22) rfl rfl rfl ?_
      refine zn_iload_n (pc := 77) rfl rfl ?_
      refine zn_aload_n (pc := 78) rfl rfl ?_
      refine zn_aload_n (pc := 79) rfl rfl ?_
      refine zn_get (pc := 80) (v := .ref 24) rfl rfl rfl ?_
      refine zn_iload_n (pc := 83) rfl rfl ?_
      refine zl_ldD (pc := 84) (i := 5) (Z := (va_up (D 5) b (bCont 3 (mK z c) (mN z c) (mH z c) f t))) (j := b) rfl (by decide) rfl (va_upS _ _ _) (by omega) ?_
      refine zn_top (v' := .int (nI (bCont 3 (mK z c) (mN z c) (mH z c) f t))) (by rw [va_upS]) ?_
      refine zn_callVx (pc := 85) (J := zX2_widthFor) (o := 4) (as := [.int (nI (bCont 3 (mK z c) (mN z c) (mH z c) f t))]) (rest := [.int (nI b), .ref 22]) rfl rfl rfl rfl ((ov_o (by omega)).trans hf4) rfl rfl rfl (Nat.le_of_ble_eq_true rfl) (Nat.le_of_ble_eq_true rfl) (Nat.le_of_ble_eq_true rfl) (Nat.le_of_ble_eq_true rfl) (c_widthFor ((ov_o (by omega)).trans hf4) ((ov_o (by omega)).trans hf5) hpd hlw hg hg8 hal (k := (bCont 3 (mK z c) (mN z c) (mH z c) f t)) (by omega)) ?_
      refine zl_stD (pc := 88) (i := 3) (j := b) (v := (bWid (bCont 3 (mK z c) (mN z c) (mH z c) f t) lw pd gr)) rfl (by decide) rfl (by omega) ?_
      exact zx_v (pc := 89) rfl rfl rfl rfl
theorem c_measureBlock_10n  {m : Nat} {C D : Nat → Nat → Nat} {V W : Nat → Int64} {Xs : Nat → Nat} {Bn : Nat → Int32} (hz : mOK z) (hcel : cCel z C V) {pd lw gr : Nat} {al : Nat → Nat} (hf4 : h.1 4 = some (.inr (2, [.ref 5, .int (nI pd), .int (nI lw), .int (nI gr)]))) (hf5 : h.1 5 = some (mNA 7 al)) (hpd : pd ≤ 8) (hlw : lw ≤ 20) (hg : 1 ≤ gr) (hg8 : gr ≤ 8) (hal : ∀ j, al j ≤ 3) {b c f t : Nat} (hb : b < 84) (d0 : D 0 b = c) (d1 : D 1 b = f) (d2 : D 2 b = t) (hc7 : c < 7) (hft : f ≤ t) (ht : t < 24) (hE : ∀ l, f ≤ l → l ≤ t → mE z c l) (ha3 : al c = 3) (hd : ¬ bDec (mK z c) f t) : Zx g zX0_measureBlock [.ref 18, .int (nI b), .ref 11, .ref 4] (lhp 10 h (z 0) C V m D W Xs Bn) none (lhp 10 h (z 0) C V m (va_up (va_up (va_up (va_up (va_up D 6 (va_up (D 6) b (bNum (mK z c) (t + 1 - f) f))) 4 (va_up (D 4) b (bAl (al c) (mK z c) f t))) 7 (va_up (D 7) b (bPart (bAl (al c) (mK z c) f t) (mK z c) (mN z c) (mH z c) f t))) 5 (va_up (D 5) b (bCont (bAl (al c) (mK z c) f t) (mK z c) (mN z c) (mH z c) f t))) 3 (va_up (D 3) b (bWid (bCont (bAl (al c) (mK z c) f t) (mK z c) (mN z c) (mH z c) f t) lw pd gr))) (va_up W b (bSum z c f t)) Xs Bn) := by
  have hB9 : mBlk z c f t := ⟨hc7, hft, (hE t (by omega) (by omega)).1, hz.2.1, fun l q1 q2 => hz.2.2.2 l c (hE l q1 q2).1 (by have := (hE l q1 q2).2; omega)⟩
  have hala := hal c
  have e9 : bAl (al c) (mK z c) f t = 0 := by unfold bAl; rw [if_neg (by omega), if_neg hd]
  rw [e9]
  have hct := bCont_le (al := 0) hB9
  have hg9 := hg
  show Zn g zX0_measureBlock 0 [some (.ref 18), some (.int (nI b)), some (.ref 11), some (.ref 4), none] [] (lhp 10 h (z 0) C V m D W Xs Bn) 0 0 _
  refine zn_aload_n (pc := 0) rfl rfl ?_
  refine zn_iload_n (pc := 1) rfl rfl ?_
  refine zn_aload_n (pc := 2) rfl rfl ?_
  refine zn_callVx (pc := 3) (J := zX0_addNumbers) (o := 18) (as := [.int (nI b), .ref 11]) (rest := []) rfl rfl rfl rfl rfl rfl rfl rfl (Nat.le_of_ble_eq_true rfl) (Nat.le_of_ble_eq_true rfl) (Nat.le_of_ble_eq_true rfl) (Nat.le_of_ble_eq_true rfl) (c_addNumbers_10 (D := D) (W := W) hz hcel hb d0 d1 d2 hc7 hft ht hE) ?_
  refine zn_aload_n (pc := 6) rfl rfl ?_
  refine zn_aload_n (pc := 7) rfl rfl ?_
  refine zn_get (pc := 8) (v := .ref 19) rfl rfl rfl ?_
  refine zn_iload_n (pc := 11) rfl rfl ?_
  refine zl_ldD (pc := 12) (i := 0) (Z := (D 0)) (j := b) rfl (by decide) rfl (va_upN (by decide)) (by omega) ?_
  refine zn_top (v' := .int (nI c)) (by rw [d0]) ?_
  refine zn_callVx (pc := 13) (J := zX2_alignment) (o := 4) (as := [.int (nI c)]) (rest := []) rfl rfl rfl rfl ((ov_o (by omega)).trans hf4) rfl rfl rfl (Nat.le_of_ble_eq_true rfl) (Nat.le_of_ble_eq_true rfl) (Nat.le_of_ble_eq_true rfl) (Nat.le_of_ble_eq_true rfl) (c_alignment ((ov_o (by omega)).trans hf4) ((ov_o (by omega)).trans hf5) hpd hlw hg hg8 hal (c := c) (by omega)) ?_
  refine zn_istore (pc := 16) (L' := [some (.ref 18), some (.int (nI b)), some (.ref 11), some (.ref 4), some (.int (nI (al c)))]) rfl (by decide) rfl ?_
  refine zn_iload (pc := 18) rfl rfl ?_
  refine zn_iconstN (pc := 20) 3 rfl rfl ?_
  refine zn_icmp_neN (pc := 21) (tgt := 49) (x := (al c)) (y := 3) rfl rfl (by omega) (by omega) (fun c1 => ?_) (fun c1 => ?_)
  · exfalso; omega
  · refine zn_aload_n (pc := 24) rfl rfl ?_
    refine zn_iload_n (pc := 25) rfl rfl ?_
    refine zn_aload_n (pc := 26) rfl rfl ?_
    refine zn_callVx (pc := 27) (J := zX0_isDecimal) (o := 18) (as := [.int (nI b), .ref 11]) (rest := []) rfl rfl rfl rfl rfl rfl rfl rfl (Nat.le_of_ble_eq_true rfl) (Nat.le_of_ble_eq_true rfl) (Nat.le_of_ble_eq_true rfl) (Nat.le_of_ble_eq_true rfl) (c_isDecimal_10 (D := va_up D 6 (va_up (D 6) b (bNum (mK z c) (t + 1 - f) f))) (W := va_up W b (bSum z c f t)) hz hcel hb d0 d1 d2 hc7 hft ht hE (va_upS _ _ _)) ?_
    refine zn_if_eqB (pc := 30) (tgt := 49) rfl rfl (fun c2 => ?_) (fun c2 => ?_)
    · refine zn_aload_n (pc := 49) rfl rfl ?_
      refine zn_get (pc := 50) (v := .ref 23) rfl rfl rfl ?_
      refine zn_iload_n (pc := 53) rfl rfl ?_
      refine zn_iload (pc := 54) rfl rfl ?_
      refine zn_iconstN (pc := 56) 3 rfl rfl ?_
      refine zn_icmp_neN (pc := 57) (tgt := 64) (x := (al c)) (y := 3) rfl rfl (by omega) (by omega) (fun c3 => ?_) (fun c3 => ?_)
      · exfalso; omega
      · refine zn_iconstN (pc := 60) 0 rfl rfl ?_
        refine zn_goto (pc := 61) (tgt := 66) rfl rfl ?_
        refine zl_stD (pc := 66) (i := 4) (j := b) (v := 0) rfl (by decide) rfl (by omega) ?_
        refine zn_aload_n (pc := 67) rfl rfl ?_
        refine zn_iload_n (pc := 68) rfl rfl ?_
        refine zn_aload_n (pc := 69) rfl rfl ?_
        refine zn_callVx (pc := 70) (J := zX0_measurePlain) (o := 18) (as := [.int (nI b), .ref 11]) (rest := []) rfl rfl rfl rfl rfl rfl rfl rfl (Nat.le_of_ble_eq_true rfl) (Nat.le_of_ble_eq_true rfl) (Nat.le_of_ble_eq_true rfl) (Nat.le_of_ble_eq_true rfl) (c_measurePlain_10 (D := va_up (va_up D 6 (va_up (D 6) b (bNum (mK z c) (t + 1 - f) f))) 4 (va_up (D 4) b 0)) (W := va_up W b (bSum z c f t)) hz hcel hb d0 d1 d2 hc7 hft ht hE (al9 := 0) (by omega)) ?_
        refine zn_aload_n (pc := 73) rfl rfl ?_
        refine zn_get (pc := 74) (v := .ref 22) rfl rfl rfl ?_
        refine zn_iload_n (pc := 77) rfl rfl ?_
        refine zn_aload_n (pc := 78) rfl rfl ?_
        refine zn_aload_n (pc := 79) rfl rfl ?_
        refine zn_get (pc := 80) (v := .ref 24) rfl rfl rfl ?_
        refine zn_iload_n (pc := 83) rfl rfl ?_
        refine zl_ldD (pc := 84) (i := 5) (Z := (va_up (D 5) b (bCont 0 (mK z c) (mN z c) (mH z c) f t))) (j := b) rfl (by decide) rfl (va_upS _ _ _) (by omega) ?_
        refine zn_top (v' := .int (nI (bCont 0 (mK z c) (mN z c) (mH z c) f t))) (by rw [va_upS]) ?_
        refine zn_callVx (pc := 85) (J := zX2_widthFor) (o := 4) (as := [.int (nI (bCont 0 (mK z c) (mN z c) (mH z c) f t))]) (rest := [.int (nI b), .ref 22]) rfl rfl rfl rfl ((ov_o (by omega)).trans hf4) rfl rfl rfl (Nat.le_of_ble_eq_true rfl) (Nat.le_of_ble_eq_true rfl) (Nat.le_of_ble_eq_true rfl) (Nat.le_of_ble_eq_true rfl) (c_widthFor ((ov_o (by omega)).trans hf4) ((ov_o (by omega)).trans hf5) hpd hlw hg hg8 hal (k := (bCont 0 (mK z c) (mN z c) (mH z c) f t)) (by omega)) ?_
        refine zl_stD (pc := 88) (i := 3) (j := b) (v := (bWid (bCont 0 (mK z c) (mN z c) (mH z c) f t) lw pd gr)) rfl (by decide) rfl (by omega) ?_
        exact zx_v (pc := 89) rfl rfl rfl rfl
    · exact absurd c2 hd
theorem c_measureBlock_10p  {m : Nat} {C D : Nat → Nat → Nat} {V W : Nat → Int64} {Xs : Nat → Nat} {Bn : Nat → Int32} (hz : mOK z) (hcel : cCel z C V) {pd lw gr : Nat} {al : Nat → Nat} (hf4 : h.1 4 = some (.inr (2, [.ref 5, .int (nI pd), .int (nI lw), .int (nI gr)]))) (hf5 : h.1 5 = some (mNA 7 al)) (hpd : pd ≤ 8) (hlw : lw ≤ 20) (hg : 1 ≤ gr) (hg8 : gr ≤ 8) (hal : ∀ j, al j ≤ 3) {b c f t : Nat} (hb : b < 84) (d0 : D 0 b = c) (d1 : D 1 b = f) (d2 : D 2 b = t) (hc7 : c < 7) (hft : f ≤ t) (ht : t < 24) (hE : ∀ l, f ≤ l → l ≤ t → mE z c l) (ha3 : al c < 3) : Zx g zX0_measureBlock [.ref 18, .int (nI b), .ref 11, .ref 4] (lhp 10 h (z 0) C V m D W Xs Bn) none (lhp 10 h (z 0) C V m (va_up (va_up (va_up (va_up (va_up D 6 (va_up (D 6) b (bNum (mK z c) (t + 1 - f) f))) 4 (va_up (D 4) b (bAl (al c) (mK z c) f t))) 7 (va_up (D 7) b (bPart (bAl (al c) (mK z c) f t) (mK z c) (mN z c) (mH z c) f t))) 5 (va_up (D 5) b (bCont (bAl (al c) (mK z c) f t) (mK z c) (mN z c) (mH z c) f t))) 3 (va_up (D 3) b (bWid (bCont (bAl (al c) (mK z c) f t) (mK z c) (mN z c) (mH z c) f t) lw pd gr))) (va_up W b (bSum z c f t)) Xs Bn) := by
  have hB9 : mBlk z c f t := ⟨hc7, hft, (hE t (by omega) (by omega)).1, hz.2.1, fun l q1 q2 => hz.2.2.2 l c (hE l q1 q2).1 (by have := (hE l q1 q2).2; omega)⟩
  have hala := hal c
  have e9 : bAl (al c) (mK z c) f t = al c := by unfold bAl; rw [if_pos ha3]
  rw [e9]
  have hct := bCont_le (al := al c) hB9
  have hg9 := hg
  show Zn g zX0_measureBlock 0 [some (.ref 18), some (.int (nI b)), some (.ref 11), some (.ref 4), none] [] (lhp 10 h (z 0) C V m D W Xs Bn) 0 0 _
  refine zn_aload_n (pc := 0) rfl rfl ?_
  refine zn_iload_n (pc := 1) rfl rfl ?_
  refine zn_aload_n (pc := 2) rfl rfl ?_
  refine zn_callVx (pc := 3) (J := zX0_addNumbers) (o := 18) (as := [.int (nI b), .ref 11]) (rest := []) rfl rfl rfl rfl rfl rfl rfl rfl (Nat.le_of_ble_eq_true rfl) (Nat.le_of_ble_eq_true rfl) (Nat.le_of_ble_eq_true rfl) (Nat.le_of_ble_eq_true rfl) (c_addNumbers_10 (D := D) (W := W) hz hcel hb d0 d1 d2 hc7 hft ht hE) ?_
  refine zn_aload_n (pc := 6) rfl rfl ?_
  refine zn_aload_n (pc := 7) rfl rfl ?_
  refine zn_get (pc := 8) (v := .ref 19) rfl rfl rfl ?_
  refine zn_iload_n (pc := 11) rfl rfl ?_
  refine zl_ldD (pc := 12) (i := 0) (Z := (D 0)) (j := b) rfl (by decide) rfl (va_upN (by decide)) (by omega) ?_
  refine zn_top (v' := .int (nI c)) (by rw [d0]) ?_
  refine zn_callVx (pc := 13) (J := zX2_alignment) (o := 4) (as := [.int (nI c)]) (rest := []) rfl rfl rfl rfl ((ov_o (by omega)).trans hf4) rfl rfl rfl (Nat.le_of_ble_eq_true rfl) (Nat.le_of_ble_eq_true rfl) (Nat.le_of_ble_eq_true rfl) (Nat.le_of_ble_eq_true rfl) (c_alignment ((ov_o (by omega)).trans hf4) ((ov_o (by omega)).trans hf5) hpd hlw hg hg8 hal (c := c) (by omega)) ?_
  refine zn_istore (pc := 16) (L' := [some (.ref 18), some (.int (nI b)), some (.ref 11), some (.ref 4), some (.int (nI (al c)))]) rfl (by decide) rfl ?_
  refine zn_iload (pc := 18) rfl rfl ?_
  refine zn_iconstN (pc := 20) 3 rfl rfl ?_
  refine zn_icmp_neN (pc := 21) (tgt := 49) (x := (al c)) (y := 3) rfl rfl (by omega) (by omega) (fun c1 => ?_) (fun c1 => ?_)
  · refine zn_aload_n (pc := 49) rfl rfl ?_
    refine zn_get (pc := 50) (v := .ref 23) rfl rfl rfl ?_
    refine zn_iload_n (pc := 53) rfl rfl ?_
    refine zn_iload (pc := 54) rfl rfl ?_
    refine zn_iconstN (pc := 56) 3 rfl rfl ?_
    refine zn_icmp_neN (pc := 57) (tgt := 64) (x := (al c)) (y := 3) rfl rfl (by omega) (by omega) (fun c2 => ?_) (fun c2 => ?_)
    · refine zn_iload (pc := 64) rfl rfl ?_
      refine zl_stD (pc := 66) (i := 4) (j := b) (v := (al c)) rfl (by decide) rfl (by omega) ?_
      refine zn_aload_n (pc := 67) rfl rfl ?_
      refine zn_iload_n (pc := 68) rfl rfl ?_
      refine zn_aload_n (pc := 69) rfl rfl ?_
      refine zn_callVx (pc := 70) (J := zX0_measurePlain) (o := 18) (as := [.int (nI b), .ref 11]) (rest := []) rfl rfl rfl rfl rfl rfl rfl rfl (Nat.le_of_ble_eq_true rfl) (Nat.le_of_ble_eq_true rfl) (Nat.le_of_ble_eq_true rfl) (Nat.le_of_ble_eq_true rfl) (c_measurePlain_10 (D := va_up (va_up D 6 (va_up (D 6) b (bNum (mK z c) (t + 1 - f) f))) 4 (va_up (D 4) b (al c))) (W := va_up W b (bSum z c f t)) hz hcel hb d0 d1 d2 hc7 hft ht hE (al9 := (al c)) (by omega)) ?_
      refine zn_aload_n (pc := 73) rfl rfl ?_
      refine zn_get (pc := 74) (v := .ref 22) rfl rfl rfl ?_
      refine zn_iload_n (pc := 77) rfl rfl ?_
      refine zn_aload_n (pc := 78) rfl rfl ?_
      refine zn_aload_n (pc := 79) rfl rfl ?_
      refine zn_get (pc := 80) (v := .ref 24) rfl rfl rfl ?_
      refine zn_iload_n (pc := 83) rfl rfl ?_
      refine zl_ldD (pc := 84) (i := 5) (Z := (va_up (D 5) b (bCont (al c) (mK z c) (mN z c) (mH z c) f t))) (j := b) rfl (by decide) rfl (va_upS _ _ _) (by omega) ?_
      refine zn_top (v' := .int (nI (bCont (al c) (mK z c) (mN z c) (mH z c) f t))) (by rw [va_upS]) ?_
      refine zn_callVx (pc := 85) (J := zX2_widthFor) (o := 4) (as := [.int (nI (bCont (al c) (mK z c) (mN z c) (mH z c) f t))]) (rest := [.int (nI b), .ref 22]) rfl rfl rfl rfl ((ov_o (by omega)).trans hf4) rfl rfl rfl (Nat.le_of_ble_eq_true rfl) (Nat.le_of_ble_eq_true rfl) (Nat.le_of_ble_eq_true rfl) (Nat.le_of_ble_eq_true rfl) (c_widthFor ((ov_o (by omega)).trans hf4) ((ov_o (by omega)).trans hf5) hpd hlw hg hg8 hal (k := (bCont (al c) (mK z c) (mN z c) (mH z c) f t)) (by omega)) ?_
      refine zl_stD (pc := 88) (i := 3) (j := b) (v := (bWid (bCont (al c) (mK z c) (mN z c) (mH z c) f t) lw pd gr)) rfl (by decide) rfl (by omega) ?_
      exact zx_v (pc := 89) rfl rfl rfl rfl
    · exfalso; omega
  · exfalso; omega
theorem c_measureBlock_10 {m : Nat} {C D : Nat → Nat → Nat} {V W : Nat → Int64} {Xs : Nat → Nat} {Bn : Nat → Int32} (hz : mOK z) (hcel : cCel z C V) {pd lw gr : Nat} {al : Nat → Nat} (hf4 : h.1 4 = some (.inr (2, [.ref 5, .int (nI pd), .int (nI lw), .int (nI gr)]))) (hf5 : h.1 5 = some (mNA 7 al)) (hpd : pd ≤ 8) (hlw : lw ≤ 20) (hg : 1 ≤ gr) (hg8 : gr ≤ 8) (hal : ∀ j, al j ≤ 3) {b c f t : Nat} (hb : b < 84) (d0 : D 0 b = c) (d1 : D 1 b = f) (d2 : D 2 b = t) (hc7 : c < 7) (hft : f ≤ t) (ht : t < 24) (hE : ∀ l, f ≤ l → l ≤ t → mE z c l) : Zx g zX0_measureBlock [.ref 18, .int (nI b), .ref 11, .ref 4] (lhp 10 h (z 0) C V m D W Xs Bn) none (lhp 10 h (z 0) C V m (va_up (va_up (va_up (va_up (va_up D 6 (va_up (D 6) b (bNum (mK z c) (t + 1 - f) f))) 4 (va_up (D 4) b (bAl (al c) (mK z c) f t))) 7 (va_up (D 7) b (bPart (bAl (al c) (mK z c) f t) (mK z c) (mN z c) (mH z c) f t))) 5 (va_up (D 5) b (bCont (bAl (al c) (mK z c) f t) (mK z c) (mN z c) (mH z c) f t))) 3 (va_up (D 3) b (bWid (bCont (bAl (al c) (mK z c) f t) (mK z c) (mN z c) (mH z c) f t) lw pd gr))) (va_up W b (bSum z c f t)) Xs Bn) := by
  have hala := hal c
  by_cases ha3 : al c = 3
  · by_cases hd : bDec (mK z c) f t
    · exact c_measureBlock_10d hz hcel hf4 hf5 hpd hlw hg hg8 hal hb d0 d1 d2 hc7 hft ht hE ha3 hd
    · exact c_measureBlock_10n hz hcel hf4 hf5 hpd hlw hg hg8 hal hb d0 d1 d2 hc7 hft ht hE ha3 hd
  · exact c_measureBlock_10p hz hcel hf4 hf5 hpd hlw hg hg8 hal hb d0 d1 d2 hc7 hft ht hE (by omega)
theorem c_measureDecimal_30  {m : Nat} {C D : Nat → Nat → Nat} {V W : Nat → Int64} {Xs : Nat → Nat} {Bn : Nat → Int32} (hz : mOK z) (hcel : cCel z C V) {b c f t : Nat} (hb : b < 84) (d0 : D 0 b = c) (d1 : D 1 b = f) (d2 : D 2 b = t) (hc7 : c < 7) (hft : f ≤ t) (ht : t < 24) (hE : ∀ l, f ≤ l → l ≤ t → mE z c l) {al9 : Nat} (h3 : al9 = 3) : Zx g zX0_measureDecimal [.ref 38, .int (nI b), .ref 31] (lhp 30 h (z 0) C V m D W Xs Bn) none (lhp 30 h (z 0) C V m (va_up (va_up D 7 (va_up (D 7) b (bPart al9 (mK z c) (mN z c) (mH z c) f t))) 5 (va_up (D 5) b (bCont al9 (mK z c) (mN z c) (mH z c) f t))) W Xs Bn) := by
  show Zn g zX0_measureDecimal 0 [some (.ref 38), some (.int (nI b)), some (.ref 31), none, none, none, none, none, none] [] (lhp 30 h (z 0) C V m D W Xs Bn) 0 0 _
  refine zn_aload_n (pc := 0) rfl rfl ?_
  refine zn_get (pc := 1) (v := .ref 39) rfl rfl rfl ?_
  refine zn_iload_n (pc := 4) rfl rfl ?_
  refine zl_ldD (pc := 5) (i := 0) (Z := (D 0)) (j := b) rfl (by decide) rfl rfl (by omega) ?_
  refine zn_top (v' := .int (nI c)) (by rw [d0]) ?_
  refine zn_istore_n (pc := 6) (L' := [some (.ref 38), some (.int (nI b)), some (.ref 31), some (.int (nI c)), none, none, none, none, none]) rfl (by decide) rfl ?_
  refine zn_iconstN (pc := 7) 0 rfl rfl ?_
  refine zn_istore (pc := 8) (L' := [some (.ref 38), some (.int (nI b)), some (.ref 31), some (.int (nI c)), some (.int (nI 0)), none, none, none, none]) rfl (by decide) rfl ?_
  refine zn_iconstN (pc := 10) 0 rfl rfl ?_
  refine zn_istore (pc := 11) (L' := [some (.ref 38), some (.int (nI b)), some (.ref 31), some (.int (nI c)), some (.int (nI 0)), some (.int (nI 0)), none, none, none]) rfl (by decide) rfl ?_
  refine zn_iconstN (pc := 13) 0 rfl rfl ?_
  refine zn_istore (pc := 14) (L' := [some (.ref 38), some (.int (nI b)), some (.ref 31), some (.int (nI c)), some (.int (nI 0)), some (.int (nI 0)), some (.int (nI 0)), none, none]) rfl (by decide) rfl ?_
  refine zn_aload_n (pc := 16) rfl rfl ?_
  refine zn_get (pc := 17) (v := .ref 40) rfl rfl rfl ?_
  refine zn_iload_n (pc := 20) rfl rfl ?_
  refine zl_ldD (pc := 21) (i := 1) (Z := (D 1)) (j := b) rfl (by decide) rfl rfl (by omega) ?_
  refine zn_top (v' := .int (nI f)) (by rw [d1]) ?_
  refine zn_istore (pc := 22) (L' := [some (.ref 38), some (.int (nI b)), some (.ref 31), some (.int (nI c)), some (.int (nI 0)), some (.int (nI 0)), some (.int (nI 0)), some (.int (nI f)), none]) rfl (by decide) rfl ?_
  exact c_measureDecimal_l30 hz hcel hb d0 d1 d2 hc7 hft ht hE h3 (t + 1 - f) f 0 0 0 (by omega) (by omega) rfl rfl rfl (by omega) (by omega) (by omega)
theorem c_measurePlain_l30 {m : Nat} {C D : Nat → Nat → Nat} {V W : Nat → Int64} {Xs : Nat → Nat} {Bn : Nat → Int32} (hz : mOK z) (hcel : cCel z C V) {b c f t : Nat} (hb : b < 84) (d0 : D 0 b = c) (d1 : D 1 b = f) (d2 : D 2 b = t) (hc7 : c < 7) (hft : f ≤ t) (ht : t < 24) (hE : ∀ l, f ≤ l → l ≤ t → mE z c l) {al9 : Nat} (h3 : al9 ≠ 3) : ∀ (n : Nat) (l w : Nat), l + n = t + 1 → f ≤ l → bMax (mN z c) (t + 1 - f) f 0 = bMax (mN z c) n l w → w ≤ 16 → Zn g zX0_measurePlain 10 [some (.ref 38), some (.int (nI b)), some (.ref 31), some (.int (nI w)), some (.int (nI l))] [] (lhp 30 h (z 0) C V m D W Xs Bn) 0 0 (fun r' h' => r' = .inl none ∧ h' = (lhp 30 h (z 0) C V m (va_up (va_up D 7 (va_up (D 7) b (bPart al9 (mK z c) (mN z c) (mH z c) f t))) 5 (va_up (D 5) b (bCont al9 (mK z c) (mN z c) (mH z c) f t))) W Xs Bn)) := by
  intro n
  induction n with
  | zero =>
    intro l w hn0 hn1 hn2 hn3
    refine zn_iload (pc := 10) rfl rfl ?_
    refine zn_aload_n (pc := 12) rfl rfl ?_
    refine zn_get (pc := 13) (v := .ref 41) rfl rfl rfl ?_
    refine zn_iload_n (pc := 16) rfl rfl ?_
    refine zl_ldD (pc := 17) (i := 2) (Z := (D 2)) (j := b) rfl (by decide) rfl rfl (by omega) ?_
    refine zn_top (v' := .int (nI t)) (by rw [d2]) ?_
    refine zn_icmp_gtN (pc := 18) (tgt := 44) (x := l) (y := t) rfl rfl (by omega) (by omega) (fun c1 => ?_) (fun c1 => ?_)
    · refine zn_aload_n (pc := 44) rfl rfl ?_
      refine zn_get (pc := 45) (v := .ref 46) rfl rfl rfl ?_
      refine zn_iload_n (pc := 48) rfl rfl ?_
      refine zn_iconstN (pc := 49) 0 rfl rfl ?_
      refine zl_stD (pc := 50) (i := 7) (j := b) (v := 0) rfl (by decide) rfl (by omega) ?_
      refine zn_aload_n (pc := 51) rfl rfl ?_
      refine zn_get (pc := 52) (v := .ref 44) rfl rfl rfl ?_
      refine zn_iload_n (pc := 55) rfl rfl ?_
      refine zn_iload_n (pc := 56) rfl rfl ?_
      refine zl_stD (pc := 57) (i := 5) (j := b) (v := w) rfl (by decide) rfl (by omega) ?_
      rw [bPart_n _ _ _ _ _ h3, bCont_n _ _ _ _ _ h3, hn2]
      simp only [bMax]
      exact zx_v (pc := 58) rfl rfl rfl rfl
    · exfalso; omega
  | succ n ih =>
    intro l w hn0 hn1 hn2 hn3
    refine zn_iload (pc := 10) rfl rfl ?_
    refine zn_aload_n (pc := 12) rfl rfl ?_
    refine zn_get (pc := 13) (v := .ref 41) rfl rfl rfl ?_
    refine zn_iload_n (pc := 16) rfl rfl ?_
    refine zl_ldD (pc := 17) (i := 2) (Z := (D 2)) (j := b) rfl (by decide) rfl rfl (by omega) ?_
    refine zn_top (v' := .int (nI t)) (by rw [d2]) ?_
    refine zn_icmp_gtN (pc := 18) (tgt := 44) (x := l) (y := t) rfl rfl (by omega) (by omega) (fun c1 => ?_) (fun c1 => ?_)
    · refine zn_aload_n (pc := 44) rfl rfl ?_
      refine zn_get (pc := 45) (v := .ref 46) rfl rfl rfl ?_
      refine zn_iload_n (pc := 48) rfl rfl ?_
      refine zn_iconstN (pc := 49) 0 rfl rfl ?_
      refine zl_stD (pc := 50) (i := 7) (j := b) (v := 0) rfl (by decide) rfl (by omega) ?_
      refine zn_aload_n (pc := 51) rfl rfl ?_
      refine zn_get (pc := 52) (v := .ref 44) rfl rfl rfl ?_
      refine zn_iload_n (pc := 55) rfl rfl ?_
      refine zn_iload_n (pc := 56) rfl rfl ?_
      refine zl_stD (pc := 57) (i := 5) (j := b) (v := w) rfl (by decide) rfl (by omega) ?_
      exfalso; omega
    · have hEl := hE l (by omega) (by omega)
      have hE1 := hEl.1
      have hE2 := hEl.2
      have k2 : mK z c l ≤ 2 := skind_le _ _
      have q16 := hz.2.2.2 l c hEl.1 (by omega)
      have hw2 : mH z c l ≤ z (25 + 8 * l + c) := Nat.le_trans (swh_le _ _ _) (by omega)
      have hN9 : mN z c l = z (25 + 8 * l + c) := rfl
      refine zn_iload_n (pc := 21) rfl rfl ?_
      refine zn_aload_n (pc := 22) rfl rfl ?_
      refine zn_iload (pc := 23) rfl rfl ?_
      refine zn_aload_n (pc := 25) rfl rfl ?_
      refine zn_get (pc := 26) (v := .ref 39) rfl rfl rfl ?_
      refine zn_iload_n (pc := 29) rfl rfl ?_
      refine zl_ldD (pc := 30) (i := 0) (Z := (D 0)) (j := b) rfl (by decide) rfl rfl (by omega) ?_
      refine zn_top (v' := .int (nI c)) (by rw [d0]) ?_
      refine zn_callVx (pc := 31) (J := zX1_length) (o := 31) (as := [.int (nI l), .int (nI c)]) (rest := [.int (nI w)]) rfl rfl rfl rfl rfl rfl rfl rfl (Nat.le_of_ble_eq_true rfl) (Nat.le_of_ble_eq_true rfl) (Nat.le_of_ble_eq_true rfl) (Nat.le_of_ble_eq_true rfl) (c_length_30 hz (cOK_l hcel) (l := l) (c := c) (by omega) (by omega)) ?_
      refine zn_maxN (pc := 34) (x := w) (y := (z (25 + 8 * l + c))) rfl (Nat.le_of_ble_eq_true rfl) (Nat.le_of_ble_eq_true rfl) (by omega) (by omega) ?_
      refine zn_istore_n (pc := 37) (L' := [some (.ref 38), some (.int (nI b)), some (.ref 31), some (.int (nI (max w (z (25 + 8 * l + c))))), some (.int (nI l))]) rfl (by decide) rfl ?_
      refine zn_iincN (pc := 38) (L' := [some (.ref 38), some (.int (nI b)), some (.ref 31), some (.int (nI (max w (z (25 + 8 * l + c))))), some (.int (nI (l + 1)))]) 1 rfl rfl rfl (by decide) rfl ?_
      refine zn_goto (pc := 41) (tgt := 10) rfl rfl ?_
      exact ih (l + 1) (max w (mN z c l)) (by omega) (by omega) (by rw [hn2]; simp only [bMax]) (by omega)
theorem c_measurePlain_30  {m : Nat} {C D : Nat → Nat → Nat} {V W : Nat → Int64} {Xs : Nat → Nat} {Bn : Nat → Int32} (hz : mOK z) (hcel : cCel z C V) {b c f t : Nat} (hb : b < 84) (d0 : D 0 b = c) (d1 : D 1 b = f) (d2 : D 2 b = t) (hc7 : c < 7) (hft : f ≤ t) (ht : t < 24) (hE : ∀ l, f ≤ l → l ≤ t → mE z c l) {al9 : Nat} (h3 : al9 ≠ 3) : Zx g zX0_measurePlain [.ref 38, .int (nI b), .ref 31] (lhp 30 h (z 0) C V m D W Xs Bn) none (lhp 30 h (z 0) C V m (va_up (va_up D 7 (va_up (D 7) b (bPart al9 (mK z c) (mN z c) (mH z c) f t))) 5 (va_up (D 5) b (bCont al9 (mK z c) (mN z c) (mH z c) f t))) W Xs Bn) := by
  show Zn g zX0_measurePlain 0 [some (.ref 38), some (.int (nI b)), some (.ref 31), none, none] [] (lhp 30 h (z 0) C V m D W Xs Bn) 0 0 _
  refine zn_iconstN (pc := 0) 0 rfl rfl ?_
  refine zn_istore_n (pc := 1) (L' := [some (.ref 38), some (.int (nI b)), some (.ref 31), some (.int (nI 0)), none]) rfl (by decide) rfl ?_
  refine zn_aload_n (pc := 2) rfl rfl ?_
  refine zn_get (pc := 3) (v := .ref 40) rfl rfl rfl ?_
  refine zn_iload_n (pc := 6) rfl rfl ?_
  refine zl_ldD (pc := 7) (i := 1) (Z := (D 1)) (j := b) rfl (by decide) rfl rfl (by omega) ?_
  refine zn_top (v' := .int (nI f)) (by rw [d1]) ?_
  refine zn_istore (pc := 8) (L' := [some (.ref 38), some (.int (nI b)), some (.ref 31), some (.int (nI 0)), some (.int (nI f))]) rfl (by decide) rfl ?_
  exact c_measurePlain_l30 hz hcel hb d0 d1 d2 hc7 hft ht hE h3 (t + 1 - f) f 0 (by omega) (by omega) rfl (by omega)
theorem c_measureBlock_30d  {m : Nat} {C D : Nat → Nat → Nat} {V W : Nat → Int64} {Xs : Nat → Nat} {Bn : Nat → Int32} (hz : mOK z) (hcel : cCel z C V) {pd lw gr : Nat} {al : Nat → Nat} (hf4 : h.1 4 = some (.inr (2, [.ref 5, .int (nI pd), .int (nI lw), .int (nI gr)]))) (hf5 : h.1 5 = some (mNA 7 al)) (hpd : pd ≤ 8) (hlw : lw ≤ 20) (hg : 1 ≤ gr) (hg8 : gr ≤ 8) (hal : ∀ j, al j ≤ 3) {b c f t : Nat} (hb : b < 84) (d0 : D 0 b = c) (d1 : D 1 b = f) (d2 : D 2 b = t) (hc7 : c < 7) (hft : f ≤ t) (ht : t < 24) (hE : ∀ l, f ≤ l → l ≤ t → mE z c l) (ha3 : al c = 3) (hd : bDec (mK z c) f t) : Zx g zX0_measureBlock [.ref 38, .int (nI b), .ref 31, .ref 4] (lhp 30 h (z 0) C V m D W Xs Bn) none (lhp 30 h (z 0) C V m (va_up (va_up (va_up (va_up (va_up D 6 (va_up (D 6) b (bNum (mK z c) (t + 1 - f) f))) 4 (va_up (D 4) b (bAl (al c) (mK z c) f t))) 7 (va_up (D 7) b (bPart (bAl (al c) (mK z c) f t) (mK z c) (mN z c) (mH z c) f t))) 5 (va_up (D 5) b (bCont (bAl (al c) (mK z c) f t) (mK z c) (mN z c) (mH z c) f t))) 3 (va_up (D 3) b (bWid (bCont (bAl (al c) (mK z c) f t) (mK z c) (mN z c) (mH z c) f t) lw pd gr))) (va_up W b (bSum z c f t)) Xs Bn) := by
  have hB9 : mBlk z c f t := ⟨hc7, hft, (hE t (by omega) (by omega)).1, hz.2.1, fun l q1 q2 => hz.2.2.2 l c (hE l q1 q2).1 (by have := (hE l q1 q2).2; omega)⟩
  have hala := hal c
  have e9 : bAl (al c) (mK z c) f t = 3 := by unfold bAl; rw [if_neg (by omega), if_pos hd]
  rw [e9]
  have hct := bCont_le (al := 3) hB9
  have hg9 := hg
  show Zn g zX0_measureBlock 0 [some (.ref 38), some (.int (nI b)), some (.ref 31), some (.ref 4), none] [] (lhp 30 h (z 0) C V m D W Xs Bn) 0 0 _
  refine zn_aload_n (pc := 0) rfl rfl ?_
  refine zn_iload_n (pc := 1) rfl rfl ?_
  refine zn_aload_n (pc := 2) rfl rfl ?_
  refine zn_callVx (pc := 3) (J := zX0_addNumbers) (o := 38) (as := [.int (nI b), .ref 31]) (rest := []) rfl rfl rfl rfl rfl rfl rfl rfl (Nat.le_of_ble_eq_true rfl) (Nat.le_of_ble_eq_true rfl) (Nat.le_of_ble_eq_true rfl) (Nat.le_of_ble_eq_true rfl) (c_addNumbers_30 (D := D) (W := W) hz hcel hb d0 d1 d2 hc7 hft ht hE) ?_
  refine zn_aload_n (pc := 6) rfl rfl ?_
  refine zn_aload_n (pc := 7) rfl rfl ?_
  refine zn_get (pc := 8) (v := .ref 39) rfl rfl rfl ?_
  refine zn_iload_n (pc := 11) rfl rfl ?_
  refine zl_ldD (pc := 12) (i := 0) (Z := (D 0)) (j := b) rfl (by decide) rfl (va_upN (by decide)) (by omega) ?_
  refine zn_top (v' := .int (nI c)) (by rw [d0]) ?_
  refine zn_callVx (pc := 13) (J := zX2_alignment) (o := 4) (as := [.int (nI c)]) (rest := []) rfl rfl rfl rfl ((ov_o (by omega)).trans hf4) rfl rfl rfl (Nat.le_of_ble_eq_true rfl) (Nat.le_of_ble_eq_true rfl) (Nat.le_of_ble_eq_true rfl) (Nat.le_of_ble_eq_true rfl) (c_alignment ((ov_o (by omega)).trans hf4) ((ov_o (by omega)).trans hf5) hpd hlw hg hg8 hal (c := c) (by omega)) ?_
  refine zn_istore (pc := 16) (L' := [some (.ref 38), some (.int (nI b)), some (.ref 31), some (.ref 4), some (.int (nI (al c)))]) rfl (by decide) rfl ?_
  refine zn_iload (pc := 18) rfl rfl ?_
  refine zn_iconstN (pc := 20) 3 rfl rfl ?_
  refine zn_icmp_neN (pc := 21) (tgt := 49) (x := (al c)) (y := 3) rfl rfl (by omega) (by omega) (fun c1 => ?_) (fun c1 => ?_)
  · exfalso; omega
  · refine zn_aload_n (pc := 24) rfl rfl ?_
    refine zn_iload_n (pc := 25) rfl rfl ?_
    refine zn_aload_n (pc := 26) rfl rfl ?_
    refine zn_callVx (pc := 27) (J := zX0_isDecimal) (o := 38) (as := [.int (nI b), .ref 31]) (rest := []) rfl rfl rfl rfl rfl rfl rfl rfl (Nat.le_of_ble_eq_true rfl) (Nat.le_of_ble_eq_true rfl) (Nat.le_of_ble_eq_true rfl) (Nat.le_of_ble_eq_true rfl) (c_isDecimal_30 (D := va_up D 6 (va_up (D 6) b (bNum (mK z c) (t + 1 - f) f))) (W := va_up W b (bSum z c f t)) hz hcel hb d0 d1 d2 hc7 hft ht hE (va_upS _ _ _)) ?_
    refine zn_if_eqB (pc := 30) (tgt := 49) rfl rfl (fun c2 => ?_) (fun c2 => ?_)
    · exact absurd hd c2
    · refine zn_aload_n (pc := 33) rfl rfl ?_
      refine zn_get (pc := 34) (v := .ref 43) rfl rfl rfl ?_
      refine zn_iload_n (pc := 37) rfl rfl ?_
      refine zn_iconstN (pc := 38) 3 rfl rfl ?_
      refine zl_stD (pc := 39) (i := 4) (j := b) (v := 3) rfl (by decide) rfl (by omega) ?_
      refine zn_aload_n (pc := 40) rfl rfl ?_
      refine zn_iload_n (pc := 41) rfl rfl ?_
      refine zn_aload_n (pc := 42) rfl rfl ?_
      refine zn_callVx (pc := 43) (J := zX0_measureDecimal) (o := 38) (as := [.int (nI b), .ref 31]) (rest := []) rfl rfl rfl rfl rfl rfl rfl rfl (Nat.le_of_ble_eq_true rfl) (Nat.le_of_ble_eq_true rfl) (Nat.le_of_ble_eq_true rfl) (Nat.le_of_ble_eq_true rfl) (c_measureDecimal_30 (D := va_up (va_up D 6 (va_up (D 6) b (bNum (mK z c) (t + 1 - f) f))) 4 (va_up (D 4) b 3)) (W := va_up W b (bSum z c f t)) hz hcel hb d0 d1 d2 hc7 hft ht hE (al9 := 3) rfl) ?_
      refine zn_goto (pc := 46) (tgt := 73) rfl rfl ?_
      refine zn_aload_n (pc := 73) rfl rfl ?_
      refine zn_get (pc := 74) (v := .ref 42) rfl rfl rfl ?_
      refine zn_iload_n (pc := 77) rfl rfl ?_
      refine zn_aload_n (pc := 78) rfl rfl ?_
      refine zn_aload_n (pc := 79) rfl rfl ?_
      refine zn_get (pc := 80) (v := .ref 44) rfl rfl rfl ?_
      refine zn_iload_n (pc := 83) rfl rfl ?_
      refine zl_ldD (pc := 84) (i := 5) (Z := (va_up (D 5) b (bCont 3 (mK z c) (mN z c) (mH z c) f t))) (j := b) rfl (by decide) rfl (va_upS _ _ _) (by omega) ?_
      refine zn_top (v' := .int (nI (bCont 3 (mK z c) (mN z c) (mH z c) f t))) (by rw [va_upS]) ?_
      refine zn_callVx (pc := 85) (J := zX2_widthFor) (o := 4) (as := [.int (nI (bCont 3 (mK z c) (mN z c) (mH z c) f t))]) (rest := [.int (nI b), .ref 42]) rfl rfl rfl rfl ((ov_o (by omega)).trans hf4) rfl rfl rfl (Nat.le_of_ble_eq_true rfl) (Nat.le_of_ble_eq_true rfl) (Nat.le_of_ble_eq_true rfl) (Nat.le_of_ble_eq_true rfl) (c_widthFor ((ov_o (by omega)).trans hf4) ((ov_o (by omega)).trans hf5) hpd hlw hg hg8 hal (k := (bCont 3 (mK z c) (mN z c) (mH z c) f t)) (by omega)) ?_
      refine zl_stD (pc := 88) (i := 3) (j := b) (v := (bWid (bCont 3 (mK z c) (mN z c) (mH z c) f t) lw pd gr)) rfl (by decide) rfl (by omega) ?_
      exact zx_v (pc := 89) rfl rfl rfl rfl
theorem c_measureBlock_30n  {m : Nat} {C D : Nat → Nat → Nat} {V W : Nat → Int64} {Xs : Nat → Nat} {Bn : Nat → Int32} (hz : mOK z) (hcel : cCel z C V) {pd lw gr : Nat} {al : Nat → Nat} (hf4 : h.1 4 = some (.inr (2, [.ref 5, .int (nI pd), .int (nI lw), .int (nI gr)]))) (hf5 : h.1 5 = some (mNA 7 al)) (hpd : pd ≤ 8) (hlw : lw ≤ 20) (hg : 1 ≤ gr) (hg8 : gr ≤ 8) (hal : ∀ j, al j ≤ 3) {b c f t : Nat} (hb : b < 84) (d0 : D 0 b = c) (d1 : D 1 b = f) (d2 : D 2 b = t) (hc7 : c < 7) (hft : f ≤ t) (ht : t < 24) (hE : ∀ l, f ≤ l → l ≤ t → mE z c l) (ha3 : al c = 3) (hd : ¬ bDec (mK z c) f t) : Zx g zX0_measureBlock [.ref 38, .int (nI b), .ref 31, .ref 4] (lhp 30 h (z 0) C V m D W Xs Bn) none (lhp 30 h (z 0) C V m (va_up (va_up (va_up (va_up (va_up D 6 (va_up (D 6) b (bNum (mK z c) (t + 1 - f) f))) 4 (va_up (D 4) b (bAl (al c) (mK z c) f t))) 7 (va_up (D 7) b (bPart (bAl (al c) (mK z c) f t) (mK z c) (mN z c) (mH z c) f t))) 5 (va_up (D 5) b (bCont (bAl (al c) (mK z c) f t) (mK z c) (mN z c) (mH z c) f t))) 3 (va_up (D 3) b (bWid (bCont (bAl (al c) (mK z c) f t) (mK z c) (mN z c) (mH z c) f t) lw pd gr))) (va_up W b (bSum z c f t)) Xs Bn) := by
  have hB9 : mBlk z c f t := ⟨hc7, hft, (hE t (by omega) (by omega)).1, hz.2.1, fun l q1 q2 => hz.2.2.2 l c (hE l q1 q2).1 (by have := (hE l q1 q2).2; omega)⟩
  have hala := hal c
  have e9 : bAl (al c) (mK z c) f t = 0 := by unfold bAl; rw [if_neg (by omega), if_neg hd]
  rw [e9]
  have hct := bCont_le (al := 0) hB9
  have hg9 := hg
  show Zn g zX0_measureBlock 0 [some (.ref 38), some (.int (nI b)), some (.ref 31), some (.ref 4), none] [] (lhp 30 h (z 0) C V m D W Xs Bn) 0 0 _
  refine zn_aload_n (pc := 0) rfl rfl ?_
  refine zn_iload_n (pc := 1) rfl rfl ?_
  refine zn_aload_n (pc := 2) rfl rfl ?_
  refine zn_callVx (pc := 3) (J := zX0_addNumbers) (o := 38) (as := [.int (nI b), .ref 31]) (rest := []) rfl rfl rfl rfl rfl rfl rfl rfl (Nat.le_of_ble_eq_true rfl) (Nat.le_of_ble_eq_true rfl) (Nat.le_of_ble_eq_true rfl) (Nat.le_of_ble_eq_true rfl) (c_addNumbers_30 (D := D) (W := W) hz hcel hb d0 d1 d2 hc7 hft ht hE) ?_
  refine zn_aload_n (pc := 6) rfl rfl ?_
  refine zn_aload_n (pc := 7) rfl rfl ?_
  refine zn_get (pc := 8) (v := .ref 39) rfl rfl rfl ?_
  refine zn_iload_n (pc := 11) rfl rfl ?_
  refine zl_ldD (pc := 12) (i := 0) (Z := (D 0)) (j := b) rfl (by decide) rfl (va_upN (by decide)) (by omega) ?_
  refine zn_top (v' := .int (nI c)) (by rw [d0]) ?_
  refine zn_callVx (pc := 13) (J := zX2_alignment) (o := 4) (as := [.int (nI c)]) (rest := []) rfl rfl rfl rfl ((ov_o (by omega)).trans hf4) rfl rfl rfl (Nat.le_of_ble_eq_true rfl) (Nat.le_of_ble_eq_true rfl) (Nat.le_of_ble_eq_true rfl) (Nat.le_of_ble_eq_true rfl) (c_alignment ((ov_o (by omega)).trans hf4) ((ov_o (by omega)).trans hf5) hpd hlw hg hg8 hal (c := c) (by omega)) ?_
  refine zn_istore (pc := 16) (L' := [some (.ref 38), some (.int (nI b)), some (.ref 31), some (.ref 4), some (.int (nI (al c)))]) rfl (by decide) rfl ?_
  refine zn_iload (pc := 18) rfl rfl ?_
  refine zn_iconstN (pc := 20) 3 rfl rfl ?_
  refine zn_icmp_neN (pc := 21) (tgt := 49) (x := (al c)) (y := 3) rfl rfl (by omega) (by omega) (fun c1 => ?_) (fun c1 => ?_)
  · exfalso; omega
  · refine zn_aload_n (pc := 24) rfl rfl ?_
    refine zn_iload_n (pc := 25) rfl rfl ?_
    refine zn_aload_n (pc := 26) rfl rfl ?_
    refine zn_callVx (pc := 27) (J := zX0_isDecimal) (o := 38) (as := [.int (nI b), .ref 31]) (rest := []) rfl rfl rfl rfl rfl rfl rfl rfl (Nat.le_of_ble_eq_true rfl) (Nat.le_of_ble_eq_true rfl) (Nat.le_of_ble_eq_true rfl) (Nat.le_of_ble_eq_true rfl) (c_isDecimal_30 (D := va_up D 6 (va_up (D 6) b (bNum (mK z c) (t + 1 - f) f))) (W := va_up W b (bSum z c f t)) hz hcel hb d0 d1 d2 hc7 hft ht hE (va_upS _ _ _)) ?_
    refine zn_if_eqB (pc := 30) (tgt := 49) rfl rfl (fun c2 => ?_) (fun c2 => ?_)
    · refine zn_aload_n (pc := 49) rfl rfl ?_
      refine zn_get (pc := 50) (v := .ref 43) rfl rfl rfl ?_
      refine zn_iload_n (pc := 53) rfl rfl ?_
      refine zn_iload (pc := 54) rfl rfl ?_
      refine zn_iconstN (pc := 56) 3 rfl rfl ?_
      refine zn_icmp_neN (pc := 57) (tgt := 64) (x := (al c)) (y := 3) rfl rfl (by omega) (by omega) (fun c3 => ?_) (fun c3 => ?_)
      · exfalso; omega
      · refine zn_iconstN (pc := 60) 0 rfl rfl ?_
        refine zn_goto (pc := 61) (tgt := 66) rfl rfl ?_
        refine zl_stD (pc := 66) (i := 4) (j := b) (v := 0) rfl (by decide) rfl (by omega) ?_
        refine zn_aload_n (pc := 67) rfl rfl ?_
        refine zn_iload_n (pc := 68) rfl rfl ?_
        refine zn_aload_n (pc := 69) rfl rfl ?_
        refine zn_callVx (pc := 70) (J := zX0_measurePlain) (o := 38) (as := [.int (nI b), .ref 31]) (rest := []) rfl rfl rfl rfl rfl rfl rfl rfl (Nat.le_of_ble_eq_true rfl) (Nat.le_of_ble_eq_true rfl) (Nat.le_of_ble_eq_true rfl) (Nat.le_of_ble_eq_true rfl) (c_measurePlain_30 (D := va_up (va_up D 6 (va_up (D 6) b (bNum (mK z c) (t + 1 - f) f))) 4 (va_up (D 4) b 0)) (W := va_up W b (bSum z c f t)) hz hcel hb d0 d1 d2 hc7 hft ht hE (al9 := 0) (by omega)) ?_
        refine zn_aload_n (pc := 73) rfl rfl ?_
        refine zn_get (pc := 74) (v := .ref 42) rfl rfl rfl ?_
        refine zn_iload_n (pc := 77) rfl rfl ?_
        refine zn_aload_n (pc := 78) rfl rfl ?_
        refine zn_aload_n (pc := 79) rfl rfl ?_
        refine zn_get (pc := 80) (v := .ref 44) rfl rfl rfl ?_
        refine zn_iload_n (pc := 83) rfl rfl ?_
        refine zl_ldD (pc := 84) (i := 5) (Z := (va_up (D 5) b (bCont 0 (mK z c) (mN z c) (mH z c) f t))) (j := b) rfl (by decide) rfl (va_upS _ _ _) (by omega) ?_
        refine zn_top (v' := .int (nI (bCont 0 (mK z c) (mN z c) (mH z c) f t))) (by rw [va_upS]) ?_
        refine zn_callVx (pc := 85) (J := zX2_widthFor) (o := 4) (as := [.int (nI (bCont 0 (mK z c) (mN z c) (mH z c) f t))]) (rest := [.int (nI b), .ref 42]) rfl rfl rfl rfl ((ov_o (by omega)).trans hf4) rfl rfl rfl (Nat.le_of_ble_eq_true rfl) (Nat.le_of_ble_eq_true rfl) (Nat.le_of_ble_eq_true rfl) (Nat.le_of_ble_eq_true rfl) (c_widthFor ((ov_o (by omega)).trans hf4) ((ov_o (by omega)).trans hf5) hpd hlw hg hg8 hal (k := (bCont 0 (mK z c) (mN z c) (mH z c) f t)) (by omega)) ?_
        refine zl_stD (pc := 88) (i := 3) (j := b) (v := (bWid (bCont 0 (mK z c) (mN z c) (mH z c) f t) lw pd gr)) rfl (by decide) rfl (by omega) ?_
        exact zx_v (pc := 89) rfl rfl rfl rfl
    · exact absurd c2 hd
theorem c_measureBlock_30p  {m : Nat} {C D : Nat → Nat → Nat} {V W : Nat → Int64} {Xs : Nat → Nat} {Bn : Nat → Int32} (hz : mOK z) (hcel : cCel z C V) {pd lw gr : Nat} {al : Nat → Nat} (hf4 : h.1 4 = some (.inr (2, [.ref 5, .int (nI pd), .int (nI lw), .int (nI gr)]))) (hf5 : h.1 5 = some (mNA 7 al)) (hpd : pd ≤ 8) (hlw : lw ≤ 20) (hg : 1 ≤ gr) (hg8 : gr ≤ 8) (hal : ∀ j, al j ≤ 3) {b c f t : Nat} (hb : b < 84) (d0 : D 0 b = c) (d1 : D 1 b = f) (d2 : D 2 b = t) (hc7 : c < 7) (hft : f ≤ t) (ht : t < 24) (hE : ∀ l, f ≤ l → l ≤ t → mE z c l) (ha3 : al c < 3) : Zx g zX0_measureBlock [.ref 38, .int (nI b), .ref 31, .ref 4] (lhp 30 h (z 0) C V m D W Xs Bn) none (lhp 30 h (z 0) C V m (va_up (va_up (va_up (va_up (va_up D 6 (va_up (D 6) b (bNum (mK z c) (t + 1 - f) f))) 4 (va_up (D 4) b (bAl (al c) (mK z c) f t))) 7 (va_up (D 7) b (bPart (bAl (al c) (mK z c) f t) (mK z c) (mN z c) (mH z c) f t))) 5 (va_up (D 5) b (bCont (bAl (al c) (mK z c) f t) (mK z c) (mN z c) (mH z c) f t))) 3 (va_up (D 3) b (bWid (bCont (bAl (al c) (mK z c) f t) (mK z c) (mN z c) (mH z c) f t) lw pd gr))) (va_up W b (bSum z c f t)) Xs Bn) := by
  have hB9 : mBlk z c f t := ⟨hc7, hft, (hE t (by omega) (by omega)).1, hz.2.1, fun l q1 q2 => hz.2.2.2 l c (hE l q1 q2).1 (by have := (hE l q1 q2).2; omega)⟩
  have hala := hal c
  have e9 : bAl (al c) (mK z c) f t = al c := by unfold bAl; rw [if_pos ha3]
  rw [e9]
  have hct := bCont_le (al := al c) hB9
  have hg9 := hg
  show Zn g zX0_measureBlock 0 [some (.ref 38), some (.int (nI b)), some (.ref 31), some (.ref 4), none] [] (lhp 30 h (z 0) C V m D W Xs Bn) 0 0 _
  refine zn_aload_n (pc := 0) rfl rfl ?_
  refine zn_iload_n (pc := 1) rfl rfl ?_
  refine zn_aload_n (pc := 2) rfl rfl ?_
  refine zn_callVx (pc := 3) (J := zX0_addNumbers) (o := 38) (as := [.int (nI b), .ref 31]) (rest := []) rfl rfl rfl rfl rfl rfl rfl rfl (Nat.le_of_ble_eq_true rfl) (Nat.le_of_ble_eq_true rfl) (Nat.le_of_ble_eq_true rfl) (Nat.le_of_ble_eq_true rfl) (c_addNumbers_30 (D := D) (W := W) hz hcel hb d0 d1 d2 hc7 hft ht hE) ?_
  refine zn_aload_n (pc := 6) rfl rfl ?_
  refine zn_aload_n (pc := 7) rfl rfl ?_
  refine zn_get (pc := 8) (v := .ref 39) rfl rfl rfl ?_
  refine zn_iload_n (pc := 11) rfl rfl ?_
  refine zl_ldD (pc := 12) (i := 0) (Z := (D 0)) (j := b) rfl (by decide) rfl (va_upN (by decide)) (by omega) ?_
  refine zn_top (v' := .int (nI c)) (by rw [d0]) ?_
  refine zn_callVx (pc := 13) (J := zX2_alignment) (o := 4) (as := [.int (nI c)]) (rest := []) rfl rfl rfl rfl ((ov_o (by omega)).trans hf4) rfl rfl rfl (Nat.le_of_ble_eq_true rfl) (Nat.le_of_ble_eq_true rfl) (Nat.le_of_ble_eq_true rfl) (Nat.le_of_ble_eq_true rfl) (c_alignment ((ov_o (by omega)).trans hf4) ((ov_o (by omega)).trans hf5) hpd hlw hg hg8 hal (c := c) (by omega)) ?_
  refine zn_istore (pc := 16) (L' := [some (.ref 38), some (.int (nI b)), some (.ref 31), some (.ref 4), some (.int (nI (al c)))]) rfl (by decide) rfl ?_
  refine zn_iload (pc := 18) rfl rfl ?_
  refine zn_iconstN (pc := 20) 3 rfl rfl ?_
  refine zn_icmp_neN (pc := 21) (tgt := 49) (x := (al c)) (y := 3) rfl rfl (by omega) (by omega) (fun c1 => ?_) (fun c1 => ?_)
  · refine zn_aload_n (pc := 49) rfl rfl ?_
    refine zn_get (pc := 50) (v := .ref 43) rfl rfl rfl ?_
    refine zn_iload_n (pc := 53) rfl rfl ?_
    refine zn_iload (pc := 54) rfl rfl ?_
    refine zn_iconstN (pc := 56) 3 rfl rfl ?_
    refine zn_icmp_neN (pc := 57) (tgt := 64) (x := (al c)) (y := 3) rfl rfl (by omega) (by omega) (fun c2 => ?_) (fun c2 => ?_)
    · refine zn_iload (pc := 64) rfl rfl ?_
      refine zl_stD (pc := 66) (i := 4) (j := b) (v := (al c)) rfl (by decide) rfl (by omega) ?_
      refine zn_aload_n (pc := 67) rfl rfl ?_
      refine zn_iload_n (pc := 68) rfl rfl ?_
      refine zn_aload_n (pc := 69) rfl rfl ?_
      refine zn_callVx (pc := 70) (J := zX0_measurePlain) (o := 38) (as := [.int (nI b), .ref 31]) (rest := []) rfl rfl rfl rfl rfl rfl rfl rfl (Nat.le_of_ble_eq_true rfl) (Nat.le_of_ble_eq_true rfl) (Nat.le_of_ble_eq_true rfl) (Nat.le_of_ble_eq_true rfl) (c_measurePlain_30 (D := va_up (va_up D 6 (va_up (D 6) b (bNum (mK z c) (t + 1 - f) f))) 4 (va_up (D 4) b (al c))) (W := va_up W b (bSum z c f t)) hz hcel hb d0 d1 d2 hc7 hft ht hE (al9 := (al c)) (by omega)) ?_
      refine zn_aload_n (pc := 73) rfl rfl ?_
      refine zn_get (pc := 74) (v := .ref 42) rfl rfl rfl ?_
      refine zn_iload_n (pc := 77) rfl rfl ?_
      refine zn_aload_n (pc := 78) rfl rfl ?_
      refine zn_aload_n (pc := 79) rfl rfl ?_
      refine zn_get (pc := 80) (v := .ref 44) rfl rfl rfl ?_
      refine zn_iload_n (pc := 83) rfl rfl ?_
      refine zl_ldD (pc := 84) (i := 5) (Z := (va_up (D 5) b (bCont (al c) (mK z c) (mN z c) (mH z c) f t))) (j := b) rfl (by decide) rfl (va_upS _ _ _) (by omega) ?_
      refine zn_top (v' := .int (nI (bCont (al c) (mK z c) (mN z c) (mH z c) f t))) (by rw [va_upS]) ?_
      refine zn_callVx (pc := 85) (J := zX2_widthFor) (o := 4) (as := [.int (nI (bCont (al c) (mK z c) (mN z c) (mH z c) f t))]) (rest := [.int (nI b), .ref 42]) rfl rfl rfl rfl ((ov_o (by omega)).trans hf4) rfl rfl rfl (Nat.le_of_ble_eq_true rfl) (Nat.le_of_ble_eq_true rfl) (Nat.le_of_ble_eq_true rfl) (Nat.le_of_ble_eq_true rfl) (c_widthFor ((ov_o (by omega)).trans hf4) ((ov_o (by omega)).trans hf5) hpd hlw hg hg8 hal (k := (bCont (al c) (mK z c) (mN z c) (mH z c) f t)) (by omega)) ?_
      refine zl_stD (pc := 88) (i := 3) (j := b) (v := (bWid (bCont (al c) (mK z c) (mN z c) (mH z c) f t) lw pd gr)) rfl (by decide) rfl (by omega) ?_
      exact zx_v (pc := 89) rfl rfl rfl rfl
    · exfalso; omega
  · exfalso; omega
theorem c_measureBlock_30 {m : Nat} {C D : Nat → Nat → Nat} {V W : Nat → Int64} {Xs : Nat → Nat} {Bn : Nat → Int32} (hz : mOK z) (hcel : cCel z C V) {pd lw gr : Nat} {al : Nat → Nat} (hf4 : h.1 4 = some (.inr (2, [.ref 5, .int (nI pd), .int (nI lw), .int (nI gr)]))) (hf5 : h.1 5 = some (mNA 7 al)) (hpd : pd ≤ 8) (hlw : lw ≤ 20) (hg : 1 ≤ gr) (hg8 : gr ≤ 8) (hal : ∀ j, al j ≤ 3) {b c f t : Nat} (hb : b < 84) (d0 : D 0 b = c) (d1 : D 1 b = f) (d2 : D 2 b = t) (hc7 : c < 7) (hft : f ≤ t) (ht : t < 24) (hE : ∀ l, f ≤ l → l ≤ t → mE z c l) : Zx g zX0_measureBlock [.ref 38, .int (nI b), .ref 31, .ref 4] (lhp 30 h (z 0) C V m D W Xs Bn) none (lhp 30 h (z 0) C V m (va_up (va_up (va_up (va_up (va_up D 6 (va_up (D 6) b (bNum (mK z c) (t + 1 - f) f))) 4 (va_up (D 4) b (bAl (al c) (mK z c) f t))) 7 (va_up (D 7) b (bPart (bAl (al c) (mK z c) f t) (mK z c) (mN z c) (mH z c) f t))) 5 (va_up (D 5) b (bCont (bAl (al c) (mK z c) f t) (mK z c) (mN z c) (mH z c) f t))) 3 (va_up (D 3) b (bWid (bCont (bAl (al c) (mK z c) f t) (mK z c) (mN z c) (mH z c) f t) lw pd gr))) (va_up W b (bSum z c f t)) Xs Bn) := by
  have hala := hal c
  by_cases ha3 : al c = 3
  · by_cases hd : bDec (mK z c) f t
    · exact c_measureBlock_30d hz hcel hf4 hf5 hpd hlw hg hg8 hal hb d0 d1 d2 hc7 hft ht hE ha3 hd
    · exact c_measureBlock_30n hz hcel hf4 hf5 hpd hlw hg hg8 hal hb d0 d1 d2 hc7 hft ht hE ha3 hd
  · exact c_measureBlock_30p hz hcel hf4 hf5 hpd hlw hg hg8 hal hb d0 d1 d2 hc7 hft ht hE (by omega)
end m1
