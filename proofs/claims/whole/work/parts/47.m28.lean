section m1
variable {g : zG} {h hh : zH} {F : Nat → Nat} {S : Int64} {z : Nat → Nat} {A : Nat → Nat → Nat} {X : Nat → Int32}
theorem m_changedX_t_  (hz : mOK z) (hzb : ∀ j, z j < 1000) (h4 : ∀ j, A 4 j ≤ 3) (hg : 1 ≤ F 10) (hg8 : F 10 ≤ 8) (hlw : F 9 ≤ 20) (hpd : F 8 ≤ 8) (ha : ∀ i j, A i j < 2 ^ 20) {l c q : Nat} (hl : l < 24) (h8 : z (1 + l) < 8) (hc : c < z (1 + l)) (hq : q ≤ z (25 + 8 * l + c)) (h16 : z (25 + 8 * l + c) ≤ 16) (hz2 : mOK (mptb z l c q)) (hzb2 : ∀ j, (mptb z l c q) j < 1000) : Zx g zX10_changedX [.ref 50, .int (nI l), .int (nI c), .int (nI q), .int (nI 9)] (mhp h F S z A X) (some (.int (nI (mCx (mOx (mL F z A (bAll z 7)) z (bAll z 7).length X (8 * z 0)) (mL (va_up F 13 (bAll z 7).length) (mptb z l c q) (va_up (mL F z A (bAll z 7)) 1 (msd (mL F z A (bAll z 7) 1) z 3289)) (bAll (mptb z l c q) 7)) (mptb z l c q) (bAll (mptb z l c q) 7).length (z 0))))) (mhp h (va_up (va_up F 13 (bAll z 7).length) 13 (bAll (mptb z l c q) 7).length) S (msd (mptb z l c q) (msd (mL F z A (bAll z 7) 1) z 3289) 3289) (mL (va_up F 13 (bAll z 7).length) (mptb z l c q) (va_up (mL F z A (bAll z 7)) 1 (msd (mL F z A (bAll z 7) 1) z 3289)) (bAll (mptb z l c q) 7)) (mOx (mL F z A (bAll z 7)) z (bAll z 7).length X (8 * z 0))) := by
  have h168 : (bAll z 7).length ≤ 168 := bAll_168 hz
  have ha1 : ∀ i j, (mL F z A (bAll z 7)) i j < 2 ^ 20 := mL_b hz h4 hg8 hlw hpd ha
  have hv1 : mCov (mL F z A (bAll z 7)) z (bAll z 7).length := mL_cov hz
  have h42 : ∀ j, (va_up (mL F z A (bAll z 7)) 1 (msd (mL F z A (bAll z 7) 1) z 3289)) 4 j ≤ 3 := fun j => by show mL F z A (bAll z 7) 4 j ≤ 3; rw [mL_lo _ (Or.inl (by decide))]; exact h4 j
  have ha2 : ∀ i j, (va_up (mL F z A (bAll z 7)) 1 (msd (mL F z A (bAll z 7) 1) z 3289)) i j < 2 ^ 20 := va_b ha1 (msd_b (ha1 1) (fun j => Nat.lt_trans (hzb j) (by decide)))
  have h168b : (bAll (mptb z l c q) 7).length ≤ 168 := bAll_168 hz2
  have ha3 : ∀ i j, (mL (va_up F 13 (bAll z 7).length) (mptb z l c q) (va_up (mL F z A (bAll z 7)) 1 (msd (mL F z A (bAll z 7) 1) z 3289)) (bAll (mptb z l c q) 7)) i j < 2 ^ 20 := mL_b (F := va_up F 13 (bAll z 7).length) (A := va_up (mL F z A (bAll z 7)) 1 (msd (mL F z A (bAll z 7) 1) z 3289)) hz2 h42 hg8 hlw hpd ha2
  have hv3 : mCov (mL (va_up F 13 (bAll z 7).length) (mptb z l c q) (va_up (mL F z A (bAll z 7)) 1 (msd (mL F z A (bAll z 7) 1) z 3289)) (bAll (mptb z l c q) 7)) (mptb z l c q) (bAll (mptb z l c q) 7).length := mL_cov hz2
  have hu : (mL (va_up F 13 (bAll z 7).length) (mptb z l c q) (va_up (mL F z A (bAll z 7)) 1 (msd (mL F z A (bAll z 7) 1) z 3289)) (bAll (mptb z l c q) 7)) 1 = msd (mL F z A (bAll z 7) 1) z 3289 := (mL_lo _ (Or.inl (by decide))).trans (va_upS _ _ _)
  show Zn g zX10_changedX 0 [some (.ref 50), some (.int (nI l)), some (.int (nI c)), some (.int (nI q)), some (.int (nI 9)), none, none, none, none, none] [] (mhp h F S z A X) 0 0 _
  refine zn_aload_n (pc := 0) rfl rfl ?_
  refine zn_callVx (pc := 1) (J := zX10_layBlocks) (o := 50) (as := []) (rest := []) rfl rfl rfl rfl rfl rfl rfl rfl (Nat.le_of_ble_eq_true rfl) (Nat.le_of_ble_eq_true rfl) (Nat.le_of_ble_eq_true rfl) (Nat.le_of_ble_eq_true rfl) (m_layBlocks hz hzb h4 hg hg8 hlw hpd) ?_
  refine zn_pop (pc := 4) rfl rfl ?_
  refine zn_iconstN (pc := 5) 0 rfl rfl ?_
  refine zn_istore (pc := 6) (L' := [some (.ref 50), some (.int (nI l)), some (.int (nI c)), some (.int (nI q)), some (.int (nI 9)), some (.int (nI 0)), none, none, none, none]) rfl (by decide) rfl ?_
  refine zn_heq (h' := mhp h (va_up F 13 (bAll z 7).length) S z (mL F z A (bAll z 7)) (mOx (mL F z A (bAll z 7)) z (bAll z 7).length X (8 * 0))) (mx_eq ?_) (m_changedX_1 (F := va_up F 13 (bAll z 7).length) (A := mL F z A (bAll z 7)) hz h168 ha1 hv1 hzb (l0 := l) (c0 := c) (q0 := q) (v0 := 9) ?_ (z 0) 0 (by omega))
  · funext j; simp only [mOx]; rw [if_neg (by omega)]
  refine zn_aload_n (pc := 77) rfl rfl ?_
  refine zn_get (pc := 78) (v := .ref 51) rfl rfl rfl ?_
  refine zn_iconstN (pc := 81) 0 rfl rfl ?_
  refine zn_naLd (pc := 82) (o := 51) (n := 3289) (Z := z) (j := 0) rfl rfl (by omega) (Nat.le_of_ble_eq_true rfl) ?_
  refine zn_istore (pc := 83) (L' := [some (.ref 50), some (.int (nI l)), some (.int (nI c)), some (.int (nI q)), some (.int (nI 9)), some (.int (nI (z 0))), none, none, none, none]) rfl (by decide) rfl ?_
  refine zn_aload_n (pc := 85) rfl rfl ?_
  refine zn_callVx (pc := 86) (J := zX10_setAside) (o := 50) (as := []) (rest := []) rfl rfl rfl rfl rfl rfl rfl rfl (Nat.le_of_ble_eq_true rfl) (Nat.le_of_ble_eq_true rfl) (Nat.le_of_ble_eq_true rfl) (Nat.le_of_ble_eq_true rfl) m_setAside ?_
  refine zn_aload_n (pc := 89) rfl rfl ?_
  refine zn_iload_n (pc := 90) rfl rfl ?_
  refine zn_iload_n (pc := 91) rfl rfl ?_
  refine zn_iload_n (pc := 92) rfl rfl ?_
  refine zn_iload (pc := 93) rfl rfl ?_
  refine zn_callVx (pc := 95) (J := zX10_put) (o := 50) (as := [.int (nI l), .int (nI c), .int (nI q), .int (nI 9)]) (rest := []) rfl rfl rfl rfl rfl rfl rfl rfl (Nat.le_of_ble_eq_true rfl) (Nat.le_of_ble_eq_true rfl) (Nat.le_of_ble_eq_true rfl) (Nat.le_of_ble_eq_true rfl) (m_put_t (l := l) (c := c) (q := q) (by omega) (by omega) (by omega) (by omega) (by omega) ) ?_
  refine zn_pop (pc := 98) rfl rfl ?_
  refine zn_aload_n (pc := 99) rfl rfl ?_
  refine zn_callVx (pc := 100) (J := zX10_layBlocks) (o := 50) (as := []) (rest := []) rfl rfl rfl rfl rfl rfl rfl rfl (Nat.le_of_ble_eq_true rfl) (Nat.le_of_ble_eq_true rfl) (Nat.le_of_ble_eq_true rfl) (Nat.le_of_ble_eq_true rfl) (m_layBlocks hz2 hzb2 h42 hg hg8 hlw hpd) ?_
  refine zn_pop (pc := 103) rfl rfl ?_
  refine zn_iconstN (pc := 104) 0 rfl rfl ?_
  refine zn_istore (pc := 105) (L' := [some (.ref 50), some (.int (nI l)), some (.int (nI c)), some (.int (nI q)), some (.int (nI 9)), some (.int (nI (z 0))), some (.int (nI 0)), none, none, none]) rfl (by decide) rfl ?_
  refine zn_iconstN (pc := 107) 0 rfl rfl ?_
  refine zn_istore (pc := 108) (L' := [some (.ref 50), some (.int (nI l)), some (.int (nI c)), some (.int (nI q)), some (.int (nI 9)), some (.int (nI (z 0))), some (.int (nI 0)), some (.int (nI 0)), none, none]) rfl (by decide) rfl ?_
  refine zn_sub (L' := [some (.ref 50), some (.int (nI l)), some (.int (nI c)), some (.int (nI q)), some (.int (nI 9)), some (.int (nI (z 0))), some (.int (nI 0)), some (.int (nI 0)), none, none]) ⟨rfl, rfl, rfl, rfl, rfl, rfl, rfl, rfl, trivial⟩ (m_changedX_2 (F := va_up (va_up F 13 (bAll z 7).length) 13 (bAll (mptb z l c q) 7).length) (A := mL (va_up F 13 (bAll z 7).length) (mptb z l c q) (va_up (mL F z A (bAll z 7)) 1 (msd (mL F z A (bAll z 7) 1) z 3289)) (bAll (mptb z l c q) 7)) (z := mptb z l c q) (X := mOx (mL F z A (bAll z 7)) z (bAll z 7).length X (8 * z 0)) hz2 h168b ha3 hv3 hzb2 (l0 := l) (c0 := c) (q0 := q) (v0 := 9) (m := z 0) hz.2.1 ?_ (min (z 0) ((mptb z l c q) 0)) 0 (by omega))
  refine zn_iconstN (pc := 198) 0 rfl rfl ?_
  refine zn_istore (pc := 199) (L' := [some (.ref 50), some (.int (nI l)), some (.int (nI c)), some (.int (nI q)), some (.int (nI 9)), none, some (.int (nI (mCx (mOx (mL F z A (bAll z 7)) z (bAll z 7).length X (8 * z 0)) (mL (va_up F 13 (bAll z 7).length) (mptb z l c q) (va_up (mL F z A (bAll z 7)) 1 (msd (mL F z A (bAll z 7) 1) z 3289)) (bAll (mptb z l c q) 7)) (mptb z l c q) (bAll (mptb z l c q) 7).length (z 0)))), some (.int (nI 0)), none, none]) rfl (by decide) rfl ?_
  refine zn_heq (h' := mhp h (va_up (va_up F 13 (bAll z 7).length) 13 (bAll (mptb z l c q) 7).length) S (msd (mptb z l c q) (msd (mL F z A (bAll z 7) 1) z 3289) 0) (mL (va_up F 13 (bAll z 7).length) (mptb z l c q) (va_up (mL F z A (bAll z 7)) 1 (msd (mL F z A (bAll z 7) 1) z 3289)) (bAll (mptb z l c q) 7)) (mOx (mL F z A (bAll z 7)) z (bAll z 7).length X (8 * z 0))) (congrArg (fun w => mhp h (va_up (va_up F 13 (bAll z 7).length) 13 (bAll (mptb z l c q) 7).length) S w (mL (va_up F 13 (bAll z 7).length) (mptb z l c q) (va_up (mL F z A (bAll z 7)) 1 (msd (mL F z A (bAll z 7) 1) z 3289)) (bAll (mptb z l c q) 7)) (mOx (mL F z A (bAll z 7)) z (bAll z 7).length X (8 * z 0))) ?_) (m_changedX_3 hu (l0 := l) (c0 := c) (q0 := q) (v0 := 9) 3289 0 (by omega))
  · funext j; simp only [msd]; rw [if_neg (by omega)]
theorem m_ifTyped_t  (hz : mOK z) (hzb : ∀ j, z j < 1000) (h4 : ∀ j, A 4 j ≤ 3) (hg : 1 ≤ F 10) (hg8 : F 10 ≤ 8) (hlw : F 9 ≤ 20) (hpd : F 8 ≤ 8) (ha : ∀ i j, A i j < 2 ^ 20) {l c q : Nat} (hl : l < 24) (h8 : z (1 + l) < 8) (hc : c < z (1 + l)) (hq : q ≤ z (25 + 8 * l + c)) (h16 : z (25 + 8 * l + c) ≤ 16) (hz2 : mOK (mptb z l c q)) (hzb2 : ∀ j, (mptb z l c q) j < 1000) (hp : mtyp z (nI l) (nI c) (nI q) (nI 9) = 0) : Zx g zX10_ifTyped [.ref 50, .int (nI l), .int (nI c), .int (nI q), .int (nI 9)] (mhp h F S z A X) (some (.int (nI (mCx (mOx (mL (va_up F 0 0) z A (bAll z 7)) z (bAll z 7).length X (8 * z 0)) (mL (va_up (va_up F 0 0) 13 (bAll z 7).length) (mptb z l c q) (va_up (mL (va_up F 0 0) z A (bAll z 7)) 1 (msd (mL (va_up F 0 0) z A (bAll z 7) 1) z 3289)) (bAll (mptb z l c q) 7)) (mptb z l c q) (bAll (mptb z l c q) 7).length (z 0))))) (mhp h (va_up (va_up (va_up F 0 0) 13 (bAll z 7).length) 13 (bAll (mptb z l c q) 7).length) S (msd (mptb z l c q) (msd (mL (va_up F 0 0) z A (bAll z 7) 1) z 3289) 3289) (mL (va_up (va_up F 0 0) 13 (bAll z 7).length) (mptb z l c q) (va_up (mL (va_up F 0 0) z A (bAll z 7)) 1 (msd (mL (va_up F 0 0) z A (bAll z 7) 1) z 3289)) (bAll (mptb z l c q) 7)) (mOx (mL (va_up F 0 0) z A (bAll z 7)) z (bAll z 7).length X (8 * z 0))) := by
  show Zn g zX10_ifTyped 0 [some (.ref 50), some (.int (nI l)), some (.int (nI c)), some (.int (nI q)), some (.int (nI 9))] [] (mhp h F S z A X) 0 0 _
  refine zn_aload_n (pc := 0) rfl rfl ?_
  refine zn_aload_n (pc := 1) rfl rfl ?_
  refine zn_iload_n (pc := 2) rfl rfl ?_
  refine zn_iload_n (pc := 3) rfl rfl ?_
  refine zn_iload_n (pc := 4) rfl rfl ?_
  refine zn_iload (pc := 5) rfl rfl ?_
  refine zn_callVx (pc := 7) (J := zX10_typing) (o := 50) (as := [.int (nI l), .int (nI c), .int (nI q), .int (nI 9)]) (rest := [.ref 50]) rfl rfl rfl rfl rfl rfl rfl rfl (Nat.le_of_ble_eq_true rfl) (Nat.le_of_ble_eq_true rfl) (Nat.le_of_ble_eq_true rfl) (Nat.le_of_ble_eq_true rfl) (m_typing hz (nI l) (nI c) (nI q) (nI 9)) ?_
  refine zn_top (v' := .int (nI 0)) (by rw [hp]) ?_
  refine zm_putI (pc := 10) (k := 0) (v := 0) rfl (by decide) rfl rfl ?_
  refine zn_aload_n (pc := 13) rfl rfl ?_
  refine zn_get (pc := 14) (v := .int (nI 0)) rfl rfl rfl ?_
  refine zn_if_leN (pc := 17) (tgt := 24) (x := 0) rfl rfl (by omega) (fun c1 => ?_) (fun c1 => ?_)
  · refine zn_aload_n (pc := 24) rfl rfl ?_
    refine zn_iload_n (pc := 25) rfl rfl ?_
    refine zn_iload_n (pc := 26) rfl rfl ?_
    refine zn_iload_n (pc := 27) rfl rfl ?_
    refine zn_iload (pc := 28) rfl rfl ?_
    refine zn_callVx (pc := 30) (J := zX10_changedX) (o := 50) (as := [.int (nI l), .int (nI c), .int (nI q), .int (nI 9)]) (rest := []) rfl rfl rfl rfl rfl rfl rfl rfl (Nat.le_of_ble_eq_true rfl) (Nat.le_of_ble_eq_true rfl) (Nat.le_of_ble_eq_true rfl) (Nat.le_of_ble_eq_true rfl) (m_changedX_t_ (F := va_up F 0 0) hz hzb h4 hg hg8 hlw hpd ha hl h8 hc hq h16 hz2 hzb2) ?_
    exact zx_i (pc := 33) rfl rfl rfl rfl
  · exfalso; omega
theorem m_changedX_e_  (hz : mOK z) (hzb : ∀ j, z j < 1000) (h4 : ∀ j, A 4 j ≤ 3) (hg : 1 ≤ F 10) (hg8 : F 10 ≤ 8) (hlw : F 9 ≤ 20) (hpd : F 8 ≤ 8) (ha : ∀ i j, A i j < 2 ^ 20) {l c q : Nat} (hl : l < z 0) (h24 : z 0 < 24) (h8 : z (1 + l) ≤ 8) (hc : c < z (1 + l)) (hq : q ≤ z (25 + 8 * l + c)) (h16 : z (25 + 8 * l + c) ≤ 16) (hz2 : mOK (mpen z l c q)) (hzb2 : ∀ j, (mpen z l c q) j < 1000) : Zx g zX10_changedX [.ref 50, .int (nI l), .int (nI c), .int (nI q), .int (nI 10)] (mhp h F S z A X) (some (.int (nI (mCx (mOx (mL F z A (bAll z 7)) z (bAll z 7).length X (8 * z 0)) (mL (va_up F 13 (bAll z 7).length) (mpen z l c q) (va_up (mL F z A (bAll z 7)) 1 (msd (mL F z A (bAll z 7) 1) z 3289)) (bAll (mpen z l c q) 7)) (mpen z l c q) (bAll (mpen z l c q) 7).length (z 0))))) (mhp h (va_up (va_up F 13 (bAll z 7).length) 13 (bAll (mpen z l c q) 7).length) S (msd (mpen z l c q) (msd (mL F z A (bAll z 7) 1) z 3289) 3289) (mL (va_up F 13 (bAll z 7).length) (mpen z l c q) (va_up (mL F z A (bAll z 7)) 1 (msd (mL F z A (bAll z 7) 1) z 3289)) (bAll (mpen z l c q) 7)) (mOx (mL F z A (bAll z 7)) z (bAll z 7).length X (8 * z 0))) := by
  have h168 : (bAll z 7).length ≤ 168 := bAll_168 hz
  have ha1 : ∀ i j, (mL F z A (bAll z 7)) i j < 2 ^ 20 := mL_b hz h4 hg8 hlw hpd ha
  have hv1 : mCov (mL F z A (bAll z 7)) z (bAll z 7).length := mL_cov hz
  have h42 : ∀ j, (va_up (mL F z A (bAll z 7)) 1 (msd (mL F z A (bAll z 7) 1) z 3289)) 4 j ≤ 3 := fun j => by show mL F z A (bAll z 7) 4 j ≤ 3; rw [mL_lo _ (Or.inl (by decide))]; exact h4 j
  have ha2 : ∀ i j, (va_up (mL F z A (bAll z 7)) 1 (msd (mL F z A (bAll z 7) 1) z 3289)) i j < 2 ^ 20 := va_b ha1 (msd_b (ha1 1) (fun j => Nat.lt_trans (hzb j) (by decide)))
  have h168b : (bAll (mpen z l c q) 7).length ≤ 168 := bAll_168 hz2
  have ha3 : ∀ i j, (mL (va_up F 13 (bAll z 7).length) (mpen z l c q) (va_up (mL F z A (bAll z 7)) 1 (msd (mL F z A (bAll z 7) 1) z 3289)) (bAll (mpen z l c q) 7)) i j < 2 ^ 20 := mL_b (F := va_up F 13 (bAll z 7).length) (A := va_up (mL F z A (bAll z 7)) 1 (msd (mL F z A (bAll z 7) 1) z 3289)) hz2 h42 hg8 hlw hpd ha2
  have hv3 : mCov (mL (va_up F 13 (bAll z 7).length) (mpen z l c q) (va_up (mL F z A (bAll z 7)) 1 (msd (mL F z A (bAll z 7) 1) z 3289)) (bAll (mpen z l c q) 7)) (mpen z l c q) (bAll (mpen z l c q) 7).length := mL_cov hz2
  have hu : (mL (va_up F 13 (bAll z 7).length) (mpen z l c q) (va_up (mL F z A (bAll z 7)) 1 (msd (mL F z A (bAll z 7) 1) z 3289)) (bAll (mpen z l c q) 7)) 1 = msd (mL F z A (bAll z 7) 1) z 3289 := (mL_lo _ (Or.inl (by decide))).trans (va_upS _ _ _)
  show Zn g zX10_changedX 0 [some (.ref 50), some (.int (nI l)), some (.int (nI c)), some (.int (nI q)), some (.int (nI 10)), none, none, none, none, none] [] (mhp h F S z A X) 0 0 _
  refine zn_aload_n (pc := 0) rfl rfl ?_
  refine zn_callVx (pc := 1) (J := zX10_layBlocks) (o := 50) (as := []) (rest := []) rfl rfl rfl rfl rfl rfl rfl rfl (Nat.le_of_ble_eq_true rfl) (Nat.le_of_ble_eq_true rfl) (Nat.le_of_ble_eq_true rfl) (Nat.le_of_ble_eq_true rfl) (m_layBlocks hz hzb h4 hg hg8 hlw hpd) ?_
  refine zn_pop (pc := 4) rfl rfl ?_
  refine zn_iconstN (pc := 5) 0 rfl rfl ?_
  refine zn_istore (pc := 6) (L' := [some (.ref 50), some (.int (nI l)), some (.int (nI c)), some (.int (nI q)), some (.int (nI 10)), some (.int (nI 0)), none, none, none, none]) rfl (by decide) rfl ?_
  refine zn_heq (h' := mhp h (va_up F 13 (bAll z 7).length) S z (mL F z A (bAll z 7)) (mOx (mL F z A (bAll z 7)) z (bAll z 7).length X (8 * 0))) (mx_eq ?_) (m_changedX_1 (F := va_up F 13 (bAll z 7).length) (A := mL F z A (bAll z 7)) hz h168 ha1 hv1 hzb (l0 := l) (c0 := c) (q0 := q) (v0 := 10) ?_ (z 0) 0 (by omega))
  · funext j; simp only [mOx]; rw [if_neg (by omega)]
  refine zn_aload_n (pc := 77) rfl rfl ?_
  refine zn_get (pc := 78) (v := .ref 51) rfl rfl rfl ?_
  refine zn_iconstN (pc := 81) 0 rfl rfl ?_
  refine zn_naLd (pc := 82) (o := 51) (n := 3289) (Z := z) (j := 0) rfl rfl (by omega) (Nat.le_of_ble_eq_true rfl) ?_
  refine zn_istore (pc := 83) (L' := [some (.ref 50), some (.int (nI l)), some (.int (nI c)), some (.int (nI q)), some (.int (nI 10)), some (.int (nI (z 0))), none, none, none, none]) rfl (by decide) rfl ?_
  refine zn_aload_n (pc := 85) rfl rfl ?_
  refine zn_callVx (pc := 86) (J := zX10_setAside) (o := 50) (as := []) (rest := []) rfl rfl rfl rfl rfl rfl rfl rfl (Nat.le_of_ble_eq_true rfl) (Nat.le_of_ble_eq_true rfl) (Nat.le_of_ble_eq_true rfl) (Nat.le_of_ble_eq_true rfl) m_setAside ?_
  refine zn_aload_n (pc := 89) rfl rfl ?_
  refine zn_iload_n (pc := 90) rfl rfl ?_
  refine zn_iload_n (pc := 91) rfl rfl ?_
  refine zn_iload_n (pc := 92) rfl rfl ?_
  refine zn_iload (pc := 93) rfl rfl ?_
  refine zn_callVx (pc := 95) (J := zX10_put) (o := 50) (as := [.int (nI l), .int (nI c), .int (nI q), .int (nI 10)]) (rest := []) rfl rfl rfl rfl rfl rfl rfl rfl (Nat.le_of_ble_eq_true rfl) (Nat.le_of_ble_eq_true rfl) (Nat.le_of_ble_eq_true rfl) (Nat.le_of_ble_eq_true rfl) (m_put_e (l := l) (c := c) (q := q) (by omega) (by omega) (by omega) (by omega) (by omega) (by omega) ) ?_
  refine zn_pop (pc := 98) rfl rfl ?_
  refine zn_aload_n (pc := 99) rfl rfl ?_
  refine zn_callVx (pc := 100) (J := zX10_layBlocks) (o := 50) (as := []) (rest := []) rfl rfl rfl rfl rfl rfl rfl rfl (Nat.le_of_ble_eq_true rfl) (Nat.le_of_ble_eq_true rfl) (Nat.le_of_ble_eq_true rfl) (Nat.le_of_ble_eq_true rfl) (m_layBlocks hz2 hzb2 h42 hg hg8 hlw hpd) ?_
  refine zn_pop (pc := 103) rfl rfl ?_
  refine zn_iconstN (pc := 104) 0 rfl rfl ?_
  refine zn_istore (pc := 105) (L' := [some (.ref 50), some (.int (nI l)), some (.int (nI c)), some (.int (nI q)), some (.int (nI 10)), some (.int (nI (z 0))), some (.int (nI 0)), none, none, none]) rfl (by decide) rfl ?_
  refine zn_iconstN (pc := 107) 0 rfl rfl ?_
  refine zn_istore (pc := 108) (L' := [some (.ref 50), some (.int (nI l)), some (.int (nI c)), some (.int (nI q)), some (.int (nI 10)), some (.int (nI (z 0))), some (.int (nI 0)), some (.int (nI 0)), none, none]) rfl (by decide) rfl ?_
  refine zn_sub (L' := [some (.ref 50), some (.int (nI l)), some (.int (nI c)), some (.int (nI q)), some (.int (nI 10)), some (.int (nI (z 0))), some (.int (nI 0)), some (.int (nI 0)), none, none]) ⟨rfl, rfl, rfl, rfl, rfl, rfl, rfl, rfl, trivial⟩ (m_changedX_2 (F := va_up (va_up F 13 (bAll z 7).length) 13 (bAll (mpen z l c q) 7).length) (A := mL (va_up F 13 (bAll z 7).length) (mpen z l c q) (va_up (mL F z A (bAll z 7)) 1 (msd (mL F z A (bAll z 7) 1) z 3289)) (bAll (mpen z l c q) 7)) (z := mpen z l c q) (X := mOx (mL F z A (bAll z 7)) z (bAll z 7).length X (8 * z 0)) hz2 h168b ha3 hv3 hzb2 (l0 := l) (c0 := c) (q0 := q) (v0 := 10) (m := z 0) hz.2.1 ?_ (min (z 0) ((mpen z l c q) 0)) 0 (by omega))
  refine zn_iconstN (pc := 198) 0 rfl rfl ?_
  refine zn_istore (pc := 199) (L' := [some (.ref 50), some (.int (nI l)), some (.int (nI c)), some (.int (nI q)), some (.int (nI 10)), none, some (.int (nI (mCx (mOx (mL F z A (bAll z 7)) z (bAll z 7).length X (8 * z 0)) (mL (va_up F 13 (bAll z 7).length) (mpen z l c q) (va_up (mL F z A (bAll z 7)) 1 (msd (mL F z A (bAll z 7) 1) z 3289)) (bAll (mpen z l c q) 7)) (mpen z l c q) (bAll (mpen z l c q) 7).length (z 0)))), some (.int (nI 0)), none, none]) rfl (by decide) rfl ?_
  refine zn_heq (h' := mhp h (va_up (va_up F 13 (bAll z 7).length) 13 (bAll (mpen z l c q) 7).length) S (msd (mpen z l c q) (msd (mL F z A (bAll z 7) 1) z 3289) 0) (mL (va_up F 13 (bAll z 7).length) (mpen z l c q) (va_up (mL F z A (bAll z 7)) 1 (msd (mL F z A (bAll z 7) 1) z 3289)) (bAll (mpen z l c q) 7)) (mOx (mL F z A (bAll z 7)) z (bAll z 7).length X (8 * z 0))) (congrArg (fun w => mhp h (va_up (va_up F 13 (bAll z 7).length) 13 (bAll (mpen z l c q) 7).length) S w (mL (va_up F 13 (bAll z 7).length) (mpen z l c q) (va_up (mL F z A (bAll z 7)) 1 (msd (mL F z A (bAll z 7) 1) z 3289)) (bAll (mpen z l c q) 7)) (mOx (mL F z A (bAll z 7)) z (bAll z 7).length X (8 * z 0))) ?_) (m_changedX_3 hu (l0 := l) (c0 := c) (q0 := q) (v0 := 10) 3289 0 (by omega))
  · funext j; simp only [msd]; rw [if_neg (by omega)]
theorem m_ifTyped_e  (hz : mOK z) (hzb : ∀ j, z j < 1000) (h4 : ∀ j, A 4 j ≤ 3) (hg : 1 ≤ F 10) (hg8 : F 10 ≤ 8) (hlw : F 9 ≤ 20) (hpd : F 8 ≤ 8) (ha : ∀ i j, A i j < 2 ^ 20) {l c q : Nat} (hl : l < z 0) (h24 : z 0 < 24) (h8 : z (1 + l) ≤ 8) (hc : c < z (1 + l)) (hq : q ≤ z (25 + 8 * l + c)) (h16 : z (25 + 8 * l + c) ≤ 16) (hz2 : mOK (mpen z l c q)) (hzb2 : ∀ j, (mpen z l c q) j < 1000) (hp : mtyp z (nI l) (nI c) (nI q) (nI 10) = 0) : Zx g zX10_ifTyped [.ref 50, .int (nI l), .int (nI c), .int (nI q), .int (nI 10)] (mhp h F S z A X) (some (.int (nI (mCx (mOx (mL (va_up F 0 0) z A (bAll z 7)) z (bAll z 7).length X (8 * z 0)) (mL (va_up (va_up F 0 0) 13 (bAll z 7).length) (mpen z l c q) (va_up (mL (va_up F 0 0) z A (bAll z 7)) 1 (msd (mL (va_up F 0 0) z A (bAll z 7) 1) z 3289)) (bAll (mpen z l c q) 7)) (mpen z l c q) (bAll (mpen z l c q) 7).length (z 0))))) (mhp h (va_up (va_up (va_up F 0 0) 13 (bAll z 7).length) 13 (bAll (mpen z l c q) 7).length) S (msd (mpen z l c q) (msd (mL (va_up F 0 0) z A (bAll z 7) 1) z 3289) 3289) (mL (va_up (va_up F 0 0) 13 (bAll z 7).length) (mpen z l c q) (va_up (mL (va_up F 0 0) z A (bAll z 7)) 1 (msd (mL (va_up F 0 0) z A (bAll z 7) 1) z 3289)) (bAll (mpen z l c q) 7)) (mOx (mL (va_up F 0 0) z A (bAll z 7)) z (bAll z 7).length X (8 * z 0))) := by
  show Zn g zX10_ifTyped 0 [some (.ref 50), some (.int (nI l)), some (.int (nI c)), some (.int (nI q)), some (.int (nI 10))] [] (mhp h F S z A X) 0 0 _
  refine zn_aload_n (pc := 0) rfl rfl ?_
  refine zn_aload_n (pc := 1) rfl rfl ?_
  refine zn_iload_n (pc := 2) rfl rfl ?_
  refine zn_iload_n (pc := 3) rfl rfl ?_
  refine zn_iload_n (pc := 4) rfl rfl ?_
  refine zn_iload (pc := 5) rfl rfl ?_
  refine zn_callVx (pc := 7) (J := zX10_typing) (o := 50) (as := [.int (nI l), .int (nI c), .int (nI q), .int (nI 10)]) (rest := [.ref 50]) rfl rfl rfl rfl rfl rfl rfl rfl (Nat.le_of_ble_eq_true rfl) (Nat.le_of_ble_eq_true rfl) (Nat.le_of_ble_eq_true rfl) (Nat.le_of_ble_eq_true rfl) (m_typing hz (nI l) (nI c) (nI q) (nI 10)) ?_
  refine zn_top (v' := .int (nI 0)) (by rw [hp]) ?_
  refine zm_putI (pc := 10) (k := 0) (v := 0) rfl (by decide) rfl rfl ?_
  refine zn_aload_n (pc := 13) rfl rfl ?_
  refine zn_get (pc := 14) (v := .int (nI 0)) rfl rfl rfl ?_
  refine zn_if_leN (pc := 17) (tgt := 24) (x := 0) rfl rfl (by omega) (fun c1 => ?_) (fun c1 => ?_)
  · refine zn_aload_n (pc := 24) rfl rfl ?_
    refine zn_iload_n (pc := 25) rfl rfl ?_
    refine zn_iload_n (pc := 26) rfl rfl ?_
    refine zn_iload_n (pc := 27) rfl rfl ?_
    refine zn_iload (pc := 28) rfl rfl ?_
    refine zn_callVx (pc := 30) (J := zX10_changedX) (o := 50) (as := [.int (nI l), .int (nI c), .int (nI q), .int (nI 10)]) (rest := []) rfl rfl rfl rfl rfl rfl rfl rfl (Nat.le_of_ble_eq_true rfl) (Nat.le_of_ble_eq_true rfl) (Nat.le_of_ble_eq_true rfl) (Nat.le_of_ble_eq_true rfl) (m_changedX_e_ (F := va_up F 0 0) hz hzb h4 hg hg8 hlw hpd ha hl h24 h8 hc hq h16 hz2 hzb2) ?_
    exact zx_i (pc := 33) rfl rfl rfl rfl
  · exfalso; omega
theorem m_changedX_s_  (hz : mOK z) (hzb : ∀ j, z j < 1000) (h4 : ∀ j, A 4 j ≤ 3) (hg : 1 ≤ F 10) (hg8 : F 10 ≤ 8) (hlw : F 9 ≤ 20) (hpd : F 8 ≤ 8) (ha : ∀ i j, A i j < 2 ^ 20) {l c q v : Nat} (hl : l < 24) (hc : c < 8) (hq : q ≤ z (25 + 8 * l + c)) (h16 : z (25 + 8 * l + c) < 16) (h9 : v ≠ 9) (h10 : v ≠ 10) (hv : v < 1000) (hz2 : mOK (mpsg z l c q v)) (hzb2 : ∀ j, (mpsg z l c q v) j < 1000) : Zx g zX10_changedX [.ref 50, .int (nI l), .int (nI c), .int (nI q), .int (nI v)] (mhp h F S z A X) (some (.int (nI (mCx (mOx (mL F z A (bAll z 7)) z (bAll z 7).length X (8 * z 0)) (mL (va_up F 13 (bAll z 7).length) (mpsg z l c q v) (va_up (mL F z A (bAll z 7)) 1 (msd (mL F z A (bAll z 7) 1) z 3289)) (bAll (mpsg z l c q v) 7)) (mpsg z l c q v) (bAll (mpsg z l c q v) 7).length (z 0))))) (mhp h (va_up (va_up F 13 (bAll z 7).length) 13 (bAll (mpsg z l c q v) 7).length) S (msd (mpsg z l c q v) (msd (mL F z A (bAll z 7) 1) z 3289) 3289) (mL (va_up F 13 (bAll z 7).length) (mpsg z l c q v) (va_up (mL F z A (bAll z 7)) 1 (msd (mL F z A (bAll z 7) 1) z 3289)) (bAll (mpsg z l c q v) 7)) (mOx (mL F z A (bAll z 7)) z (bAll z 7).length X (8 * z 0))) := by
  have h168 : (bAll z 7).length ≤ 168 := bAll_168 hz
  have ha1 : ∀ i j, (mL F z A (bAll z 7)) i j < 2 ^ 20 := mL_b hz h4 hg8 hlw hpd ha
  have hv1 : mCov (mL F z A (bAll z 7)) z (bAll z 7).length := mL_cov hz
  have h42 : ∀ j, (va_up (mL F z A (bAll z 7)) 1 (msd (mL F z A (bAll z 7) 1) z 3289)) 4 j ≤ 3 := fun j => by show mL F z A (bAll z 7) 4 j ≤ 3; rw [mL_lo _ (Or.inl (by decide))]; exact h4 j
  have ha2 : ∀ i j, (va_up (mL F z A (bAll z 7)) 1 (msd (mL F z A (bAll z 7) 1) z 3289)) i j < 2 ^ 20 := va_b ha1 (msd_b (ha1 1) (fun j => Nat.lt_trans (hzb j) (by decide)))
  have h168b : (bAll (mpsg z l c q v) 7).length ≤ 168 := bAll_168 hz2
  have ha3 : ∀ i j, (mL (va_up F 13 (bAll z 7).length) (mpsg z l c q v) (va_up (mL F z A (bAll z 7)) 1 (msd (mL F z A (bAll z 7) 1) z 3289)) (bAll (mpsg z l c q v) 7)) i j < 2 ^ 20 := mL_b (F := va_up F 13 (bAll z 7).length) (A := va_up (mL F z A (bAll z 7)) 1 (msd (mL F z A (bAll z 7) 1) z 3289)) hz2 h42 hg8 hlw hpd ha2
  have hv3 : mCov (mL (va_up F 13 (bAll z 7).length) (mpsg z l c q v) (va_up (mL F z A (bAll z 7)) 1 (msd (mL F z A (bAll z 7) 1) z 3289)) (bAll (mpsg z l c q v) 7)) (mpsg z l c q v) (bAll (mpsg z l c q v) 7).length := mL_cov hz2
  have hu : (mL (va_up F 13 (bAll z 7).length) (mpsg z l c q v) (va_up (mL F z A (bAll z 7)) 1 (msd (mL F z A (bAll z 7) 1) z 3289)) (bAll (mpsg z l c q v) 7)) 1 = msd (mL F z A (bAll z 7) 1) z 3289 := (mL_lo _ (Or.inl (by decide))).trans (va_upS _ _ _)
  show Zn g zX10_changedX 0 [some (.ref 50), some (.int (nI l)), some (.int (nI c)), some (.int (nI q)), some (.int (nI v)), none, none, none, none, none] [] (mhp h F S z A X) 0 0 _
  refine zn_aload_n (pc := 0) rfl rfl ?_
  refine zn_callVx (pc := 1) (J := zX10_layBlocks) (o := 50) (as := []) (rest := []) rfl rfl rfl rfl rfl rfl rfl rfl (Nat.le_of_ble_eq_true rfl) (Nat.le_of_ble_eq_true rfl) (Nat.le_of_ble_eq_true rfl) (Nat.le_of_ble_eq_true rfl) (m_layBlocks hz hzb h4 hg hg8 hlw hpd) ?_
  refine zn_pop (pc := 4) rfl rfl ?_
  refine zn_iconstN (pc := 5) 0 rfl rfl ?_
  refine zn_istore (pc := 6) (L' := [some (.ref 50), some (.int (nI l)), some (.int (nI c)), some (.int (nI q)), some (.int (nI v)), some (.int (nI 0)), none, none, none, none]) rfl (by decide) rfl ?_
  refine zn_heq (h' := mhp h (va_up F 13 (bAll z 7).length) S z (mL F z A (bAll z 7)) (mOx (mL F z A (bAll z 7)) z (bAll z 7).length X (8 * 0))) (mx_eq ?_) (m_changedX_1 (F := va_up F 13 (bAll z 7).length) (A := mL F z A (bAll z 7)) hz h168 ha1 hv1 hzb (l0 := l) (c0 := c) (q0 := q) (v0 := v) ?_ (z 0) 0 (by omega))
  · funext j; simp only [mOx]; rw [if_neg (by omega)]
  refine zn_aload_n (pc := 77) rfl rfl ?_
  refine zn_get (pc := 78) (v := .ref 51) rfl rfl rfl ?_
  refine zn_iconstN (pc := 81) 0 rfl rfl ?_
  refine zn_naLd (pc := 82) (o := 51) (n := 3289) (Z := z) (j := 0) rfl rfl (by omega) (Nat.le_of_ble_eq_true rfl) ?_
  refine zn_istore (pc := 83) (L' := [some (.ref 50), some (.int (nI l)), some (.int (nI c)), some (.int (nI q)), some (.int (nI v)), some (.int (nI (z 0))), none, none, none, none]) rfl (by decide) rfl ?_
  refine zn_aload_n (pc := 85) rfl rfl ?_
  refine zn_callVx (pc := 86) (J := zX10_setAside) (o := 50) (as := []) (rest := []) rfl rfl rfl rfl rfl rfl rfl rfl (Nat.le_of_ble_eq_true rfl) (Nat.le_of_ble_eq_true rfl) (Nat.le_of_ble_eq_true rfl) (Nat.le_of_ble_eq_true rfl) m_setAside ?_
  refine zn_aload_n (pc := 89) rfl rfl ?_
  refine zn_iload_n (pc := 90) rfl rfl ?_
  refine zn_iload_n (pc := 91) rfl rfl ?_
  refine zn_iload_n (pc := 92) rfl rfl ?_
  refine zn_iload (pc := 93) rfl rfl ?_
  refine zn_callVx (pc := 95) (J := zX10_put) (o := 50) (as := [.int (nI l), .int (nI c), .int (nI q), .int (nI v)]) (rest := []) rfl rfl rfl rfl rfl rfl rfl rfl (Nat.le_of_ble_eq_true rfl) (Nat.le_of_ble_eq_true rfl) (Nat.le_of_ble_eq_true rfl) (Nat.le_of_ble_eq_true rfl) (m_put_s (l := l) (c := c) (q := q) (v := v) (by omega) (by omega) (by omega) (by omega) (by omega) (by omega) (by omega) ) ?_
  refine zn_pop (pc := 98) rfl rfl ?_
  refine zn_aload_n (pc := 99) rfl rfl ?_
  refine zn_callVx (pc := 100) (J := zX10_layBlocks) (o := 50) (as := []) (rest := []) rfl rfl rfl rfl rfl rfl rfl rfl (Nat.le_of_ble_eq_true rfl) (Nat.le_of_ble_eq_true rfl) (Nat.le_of_ble_eq_true rfl) (Nat.le_of_ble_eq_true rfl) (m_layBlocks hz2 hzb2 h42 hg hg8 hlw hpd) ?_
  refine zn_pop (pc := 103) rfl rfl ?_
  refine zn_iconstN (pc := 104) 0 rfl rfl ?_
  refine zn_istore (pc := 105) (L' := [some (.ref 50), some (.int (nI l)), some (.int (nI c)), some (.int (nI q)), some (.int (nI v)), some (.int (nI (z 0))), some (.int (nI 0)), none, none, none]) rfl (by decide) rfl ?_
  refine zn_iconstN (pc := 107) 0 rfl rfl ?_
  refine zn_istore (pc := 108) (L' := [some (.ref 50), some (.int (nI l)), some (.int (nI c)), some (.int (nI q)), some (.int (nI v)), some (.int (nI (z 0))), some (.int (nI 0)), some (.int (nI 0)), none, none]) rfl (by decide) rfl ?_
  refine zn_sub (L' := [some (.ref 50), some (.int (nI l)), some (.int (nI c)), some (.int (nI q)), some (.int (nI v)), some (.int (nI (z 0))), some (.int (nI 0)), some (.int (nI 0)), none, none]) ⟨rfl, rfl, rfl, rfl, rfl, rfl, rfl, rfl, trivial⟩ (m_changedX_2 (F := va_up (va_up F 13 (bAll z 7).length) 13 (bAll (mpsg z l c q v) 7).length) (A := mL (va_up F 13 (bAll z 7).length) (mpsg z l c q v) (va_up (mL F z A (bAll z 7)) 1 (msd (mL F z A (bAll z 7) 1) z 3289)) (bAll (mpsg z l c q v) 7)) (z := mpsg z l c q v) (X := mOx (mL F z A (bAll z 7)) z (bAll z 7).length X (8 * z 0)) hz2 h168b ha3 hv3 hzb2 (l0 := l) (c0 := c) (q0 := q) (v0 := v) (m := z 0) hz.2.1 ?_ (min (z 0) ((mpsg z l c q v) 0)) 0 (by omega))
  refine zn_iconstN (pc := 198) 0 rfl rfl ?_
  refine zn_istore (pc := 199) (L' := [some (.ref 50), some (.int (nI l)), some (.int (nI c)), some (.int (nI q)), some (.int (nI v)), none, some (.int (nI (mCx (mOx (mL F z A (bAll z 7)) z (bAll z 7).length X (8 * z 0)) (mL (va_up F 13 (bAll z 7).length) (mpsg z l c q v) (va_up (mL F z A (bAll z 7)) 1 (msd (mL F z A (bAll z 7) 1) z 3289)) (bAll (mpsg z l c q v) 7)) (mpsg z l c q v) (bAll (mpsg z l c q v) 7).length (z 0)))), some (.int (nI 0)), none, none]) rfl (by decide) rfl ?_
  refine zn_heq (h' := mhp h (va_up (va_up F 13 (bAll z 7).length) 13 (bAll (mpsg z l c q v) 7).length) S (msd (mpsg z l c q v) (msd (mL F z A (bAll z 7) 1) z 3289) 0) (mL (va_up F 13 (bAll z 7).length) (mpsg z l c q v) (va_up (mL F z A (bAll z 7)) 1 (msd (mL F z A (bAll z 7) 1) z 3289)) (bAll (mpsg z l c q v) 7)) (mOx (mL F z A (bAll z 7)) z (bAll z 7).length X (8 * z 0))) (congrArg (fun w => mhp h (va_up (va_up F 13 (bAll z 7).length) 13 (bAll (mpsg z l c q v) 7).length) S w (mL (va_up F 13 (bAll z 7).length) (mpsg z l c q v) (va_up (mL F z A (bAll z 7)) 1 (msd (mL F z A (bAll z 7) 1) z 3289)) (bAll (mpsg z l c q v) 7)) (mOx (mL F z A (bAll z 7)) z (bAll z 7).length X (8 * z 0))) ?_) (m_changedX_3 hu (l0 := l) (c0 := c) (q0 := q) (v0 := v) 3289 0 (by omega))
  · funext j; simp only [msd]; rw [if_neg (by omega)]
theorem m_ifTyped_s  (hz : mOK z) (hzb : ∀ j, z j < 1000) (h4 : ∀ j, A 4 j ≤ 3) (hg : 1 ≤ F 10) (hg8 : F 10 ≤ 8) (hlw : F 9 ≤ 20) (hpd : F 8 ≤ 8) (ha : ∀ i j, A i j < 2 ^ 20) {l c q v : Nat} (hl : l < 24) (hc : c < 8) (hq : q ≤ z (25 + 8 * l + c)) (h16 : z (25 + 8 * l + c) < 16) (h9 : v ≠ 9) (h10 : v ≠ 10) (hv : v < 1000) (hz2 : mOK (mpsg z l c q v)) (hzb2 : ∀ j, (mpsg z l c q v) j < 1000) (hp : mtyp z (nI l) (nI c) (nI q) (nI v) = 0) : Zx g zX10_ifTyped [.ref 50, .int (nI l), .int (nI c), .int (nI q), .int (nI v)] (mhp h F S z A X) (some (.int (nI (mCx (mOx (mL (va_up F 0 0) z A (bAll z 7)) z (bAll z 7).length X (8 * z 0)) (mL (va_up (va_up F 0 0) 13 (bAll z 7).length) (mpsg z l c q v) (va_up (mL (va_up F 0 0) z A (bAll z 7)) 1 (msd (mL (va_up F 0 0) z A (bAll z 7) 1) z 3289)) (bAll (mpsg z l c q v) 7)) (mpsg z l c q v) (bAll (mpsg z l c q v) 7).length (z 0))))) (mhp h (va_up (va_up (va_up F 0 0) 13 (bAll z 7).length) 13 (bAll (mpsg z l c q v) 7).length) S (msd (mpsg z l c q v) (msd (mL (va_up F 0 0) z A (bAll z 7) 1) z 3289) 3289) (mL (va_up (va_up F 0 0) 13 (bAll z 7).length) (mpsg z l c q v) (va_up (mL (va_up F 0 0) z A (bAll z 7)) 1 (msd (mL (va_up F 0 0) z A (bAll z 7) 1) z 3289)) (bAll (mpsg z l c q v) 7)) (mOx (mL (va_up F 0 0) z A (bAll z 7)) z (bAll z 7).length X (8 * z 0))) := by
  show Zn g zX10_ifTyped 0 [some (.ref 50), some (.int (nI l)), some (.int (nI c)), some (.int (nI q)), some (.int (nI v))] [] (mhp h F S z A X) 0 0 _
  refine zn_aload_n (pc := 0) rfl rfl ?_
  refine zn_aload_n (pc := 1) rfl rfl ?_
  refine zn_iload_n (pc := 2) rfl rfl ?_
  refine zn_iload_n (pc := 3) rfl rfl ?_
  refine zn_iload_n (pc := 4) rfl rfl ?_
  refine zn_iload (pc := 5) rfl rfl ?_
  refine zn_callVx (pc := 7) (J := zX10_typing) (o := 50) (as := [.int (nI l), .int (nI c), .int (nI q), .int (nI v)]) (rest := [.ref 50]) rfl rfl rfl rfl rfl rfl rfl rfl (Nat.le_of_ble_eq_true rfl) (Nat.le_of_ble_eq_true rfl) (Nat.le_of_ble_eq_true rfl) (Nat.le_of_ble_eq_true rfl) (m_typing hz (nI l) (nI c) (nI q) (nI v)) ?_
  refine zn_top (v' := .int (nI 0)) (by rw [hp]) ?_
  refine zm_putI (pc := 10) (k := 0) (v := 0) rfl (by decide) rfl rfl ?_
  refine zn_aload_n (pc := 13) rfl rfl ?_
  refine zn_get (pc := 14) (v := .int (nI 0)) rfl rfl rfl ?_
  refine zn_if_leN (pc := 17) (tgt := 24) (x := 0) rfl rfl (by omega) (fun c1 => ?_) (fun c1 => ?_)
  · refine zn_aload_n (pc := 24) rfl rfl ?_
    refine zn_iload_n (pc := 25) rfl rfl ?_
    refine zn_iload_n (pc := 26) rfl rfl ?_
    refine zn_iload_n (pc := 27) rfl rfl ?_
    refine zn_iload (pc := 28) rfl rfl ?_
    refine zn_callVx (pc := 30) (J := zX10_changedX) (o := 50) (as := [.int (nI l), .int (nI c), .int (nI q), .int (nI v)]) (rest := []) rfl rfl rfl rfl rfl rfl rfl rfl (Nat.le_of_ble_eq_true rfl) (Nat.le_of_ble_eq_true rfl) (Nat.le_of_ble_eq_true rfl) (Nat.le_of_ble_eq_true rfl) (m_changedX_s_ (F := va_up F 0 0) hz hzb h4 hg hg8 hlw hpd ha hl hc hq h16 h9 h10 hv hz2 hzb2) ?_
    exact zx_i (pc := 33) rfl rfl rfl rfl
  · exfalso; omega
theorem m_ifTyped_1  (hz : mOK z) (x y k cd : Int32) (hp : 0 < mtyp z x y k cd) : Zx g zX10_ifTyped [.ref 50, .int x, .int y, .int k, .int cd] (mhp h F S z A X) (some (.int (nI 0))) (mhp h (va_up F 0 (mtyp z x y k cd)) S z A X) := by
  show Zn g zX10_ifTyped 0 [some (.ref 50), some (.int x), some (.int y), some (.int k), some (.int cd)] [] (mhp h F S z A X) 0 0 _
  refine zn_aload_n (pc := 0) rfl rfl ?_
  refine zn_aload_n (pc := 1) rfl rfl ?_
  refine zn_iload_n (pc := 2) rfl rfl ?_
  refine zn_iload_n (pc := 3) rfl rfl ?_
  refine zn_iload_n (pc := 4) rfl rfl ?_
  refine zn_iload (pc := 5) rfl rfl ?_
  refine zn_callVx (pc := 7) (J := zX10_typing) (o := 50) (as := [.int x, .int y, .int k, .int cd]) (rest := [.ref 50]) rfl rfl rfl rfl rfl rfl rfl rfl (Nat.le_of_ble_eq_true rfl) (Nat.le_of_ble_eq_true rfl) (Nat.le_of_ble_eq_true rfl) (Nat.le_of_ble_eq_true rfl) (m_typing hz x y k cd) ?_
  refine zm_putI (pc := 10) (k := 0) (v := (mtyp z x y k cd)) rfl (by decide) rfl rfl ?_
  refine zn_aload_n (pc := 13) rfl rfl ?_
  refine zn_get (pc := 14) (v := .int (nI (mtyp z x y k cd))) rfl rfl rfl ?_
  refine zn_if_leN (pc := 17) (tgt := 24) (x := (mtyp z x y k cd)) rfl rfl (by unfold mtyp; (repeat' split) <;> omega) (fun c1 => ?_) (fun c1 => ?_)
  · exfalso; omega
  · refine zn_iconstN (pc := 20) 0 rfl rfl ?_
    refine zn_goto (pc := 21) (tgt := 33) rfl rfl ?_
    exact zx_i (pc := 33) rfl rfl rfl rfl
end m1
