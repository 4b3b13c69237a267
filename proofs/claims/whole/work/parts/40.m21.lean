section m1
variable {g : zG} {h hh : zH} {F : Nat → Nat} {S : Int64} {z : Nat → Nat} {A : Nat → Nat → Nat} {X : Nat → Int32}
theorem m_retab_1  (hz : mOK z) (x y : Int32) (hp : ¬ zin x (z 0)) : Zx g zX10_retab [.ref 50, .int x, .int y] (mhp h F S z A X) (some (.int (nI 0))) (mhp h (va_up F 0 1) S z A X) := by
  have h0 := hz.1
  have h1 := hz.2.1
  show Zn g zX10_retab 0 [some (.ref 50), some (.int x), some (.int y), none] [] (mhp h F S z A X) 0 0 _
  refine zn_aload_n (pc := 0) rfl rfl ?_
  refine zn_aload_n (pc := 1) rfl rfl ?_
  refine zn_iload_n (pc := 2) rfl rfl ?_
  refine zn_callVx (pc := 3) (J := zX10_isLine) (o := 50) (as := [.int x]) (rest := [.ref 50]) rfl rfl rfl rfl rfl rfl rfl rfl (Nat.le_of_ble_eq_true rfl) (Nat.le_of_ble_eq_true rfl) (Nat.le_of_ble_eq_true rfl) (Nat.le_of_ble_eq_true rfl) (m_isLine (by omega) (by omega) x) ?_
  refine zn_if_neB (pc := 6) (tgt := 13) rfl rfl (fun c1 => ?_) (fun c1 => ?_)
  · exact absurd c1 hp
  · refine zn_iconstN (pc := 9) 1 rfl rfl ?_
    refine zn_goto (pc := 10) (tgt := 49) rfl rfl ?_
    refine zm_putI (pc := 49) (k := 0) (v := 1) rfl (by decide) rfl rfl ?_
    refine zn_aload_n (pc := 52) rfl rfl ?_
    refine zn_get (pc := 53) (v := .int (nI 1)) rfl rfl rfl ?_
    refine zn_if_leN (pc := 56) (tgt := 61) (x := 1) rfl rfl (by omega) (fun c2 => ?_) (fun c2 => ?_)
    · exfalso; omega
    · refine zn_iconstN (pc := 59) 0 rfl rfl ?_
      exact zx_i (pc := 60) rfl rfl rfl rfl
theorem m_retab_2  (hz : mOK z) {l : Nat} (hl : l < z 0) (y : Int32) (hy : ¬ (nI 1 ≤ y ∧ y ≤ nI 16)) : Zx g zX10_retab [.ref 50, .int (nI l), .int y] (mhp h F S z A X) (some (.int (nI 0))) (mhp h (va_up F 0 2) S z A X) := by
  have h0 := hz.1
  have h1 := hz.2.1
  have hzl := hz.2.2.1 l hl
  have hp : zin (nI l) (z 0) := (zin_nI (by omega)).mpr hl
  show Zn g zX10_retab 0 [some (.ref 50), some (.int (nI l)), some (.int y), none] [] (mhp h F S z A X) 0 0 _
  refine zn_aload_n (pc := 0) rfl rfl ?_
  refine zn_aload_n (pc := 1) rfl rfl ?_
  refine zn_iload_n (pc := 2) rfl rfl ?_
  refine zn_callVx (pc := 3) (J := zX10_isLine) (o := 50) (as := [.int (nI l)]) (rest := [.ref 50]) rfl rfl rfl rfl rfl rfl rfl rfl (Nat.le_of_ble_eq_true rfl) (Nat.le_of_ble_eq_true rfl) (Nat.le_of_ble_eq_true rfl) (Nat.le_of_ble_eq_true rfl) (m_isLine (by omega) (by omega) (nI l)) ?_
  refine zn_if_neB (pc := 6) (tgt := 13) rfl rfl (fun c1 => ?_) (fun c1 => ?_)
  · refine zn_iload_n (pc := 13) rfl rfl ?_
    refine zn_iconstN (pc := 14) 1 rfl rfl ?_
    refine zn_bipushN (pc := 15) 16 rfl rfl ?_
    refine zn_callSx (pc := 17) (J := zX10_within) (as := [.int y, .int (nI 1), .int (nI 16)]) (rest := [.ref 50]) rfl (by decide) rfl rfl rfl rfl (Nat.le_of_ble_eq_true rfl) (Nat.le_of_ble_eq_true rfl) (Nat.le_of_ble_eq_true rfl) (Nat.le_of_ble_eq_true rfl) (m_within y (nI 1) (nI 16)) ?_
    refine zn_if_neB (pc := 20) (tgt := 27) rfl rfl (fun c2 => ?_) (fun c2 => ?_)
    · exact absurd c2 hy
    · refine zn_iconstN (pc := 23) 2 rfl rfl ?_
      refine zn_goto (pc := 24) (tgt := 49) rfl rfl ?_
      refine zm_putI (pc := 49) (k := 0) (v := 2) rfl (by decide) rfl rfl ?_
      refine zn_aload_n (pc := 52) rfl rfl ?_
      refine zn_get (pc := 53) (v := .int (nI 2)) rfl rfl rfl ?_
      refine zn_if_leN (pc := 56) (tgt := 61) (x := 2) rfl rfl (by omega) (fun c3 => ?_) (fun c3 => ?_)
      · exfalso; omega
      · refine zn_iconstN (pc := 59) 0 rfl rfl ?_
        exact zx_i (pc := 60) rfl rfl rfl rfl
  · exact absurd hp c1
theorem m_retab_3  (hz : mOK z) {l : Nat} (hl : l < z 0) (hzb : ∀ j, z j < 1000) {q : Nat} (hq : 1 ≤ q ∧ q ≤ 16) (hr : 8 < z (1 + l) + mRs z l q (z (1 + l))) : Zx g zX10_retab [.ref 50, .int (nI l), .int (nI q)] (mhp h F S z A X) (some (.int (nI 0))) (mhp h (va_up F 0 3) S z A X) := by
  have h0 := hz.1
  have h1 := hz.2.1
  have hzl := hz.2.2.1 l hl
  have hp : zin (nI l) (z 0) := (zin_nI (by omega)).mpr hl
  have hrs := mRs_le (z := z) (l := l) (g := q) (c := z (1 + l)) (fun i hi => hz.2.2.2 l i hl hi)
  show Zn g zX10_retab 0 [some (.ref 50), some (.int (nI l)), some (.int (nI q)), none] [] (mhp h F S z A X) 0 0 _
  refine zn_aload_n (pc := 0) rfl rfl ?_
  refine zn_aload_n (pc := 1) rfl rfl ?_
  refine zn_iload_n (pc := 2) rfl rfl ?_
  refine zn_callVx (pc := 3) (J := zX10_isLine) (o := 50) (as := [.int (nI l)]) (rest := [.ref 50]) rfl rfl rfl rfl rfl rfl rfl rfl (Nat.le_of_ble_eq_true rfl) (Nat.le_of_ble_eq_true rfl) (Nat.le_of_ble_eq_true rfl) (Nat.le_of_ble_eq_true rfl) (m_isLine (by omega) (by omega) (nI l)) ?_
  refine zn_if_neB (pc := 6) (tgt := 13) rfl rfl (fun c1 => ?_) (fun c1 => ?_)
  · refine zn_iload_n (pc := 13) rfl rfl ?_
    refine zn_iconstN (pc := 14) 1 rfl rfl ?_
    refine zn_bipushN (pc := 15) 16 rfl rfl ?_
    refine zn_callSx (pc := 17) (J := zX10_within) (as := [.int (nI q), .int (nI 1), .int (nI 16)]) (rest := [.ref 50]) rfl (by decide) rfl rfl rfl rfl (Nat.le_of_ble_eq_true rfl) (Nat.le_of_ble_eq_true rfl) (Nat.le_of_ble_eq_true rfl) (Nat.le_of_ble_eq_true rfl) (m_withinN (v := q) (a := 1) (b := 16) (by omega) (by omega) (by omega)) ?_
    refine zn_if_neB (pc := 20) (tgt := 27) rfl rfl (fun c2 => ?_) (fun c2 => ?_)
    · refine zn_aload_n (pc := 27) rfl rfl ?_
      refine zn_iload_n (pc := 28) rfl rfl ?_
      refine zn_callVx (pc := 29) (J := zX10_cells) (o := 50) (as := [.int (nI l)]) (rest := [.ref 50]) rfl rfl rfl rfl rfl rfl rfl rfl (Nat.le_of_ble_eq_true rfl) (Nat.le_of_ble_eq_true rfl) (Nat.le_of_ble_eq_true rfl) (Nat.le_of_ble_eq_true rfl) (m_cells (l := l) (by omega)) ?_
      refine zn_aload_n (pc := 32) rfl rfl ?_
      refine zn_iload_n (pc := 33) rfl rfl ?_
      refine zn_iload_n (pc := 34) rfl rfl ?_
      refine zn_callVx (pc := 35) (J := zX10_runs) (o := 50) (as := [.int (nI l), .int (nI q)]) (rest := [.int (nI (z (1 + l))), .ref 50]) rfl rfl rfl rfl rfl rfl rfl rfl (Nat.le_of_ble_eq_true rfl) (Nat.le_of_ble_eq_true rfl) (Nat.le_of_ble_eq_true rfl) (Nat.le_of_ble_eq_true rfl) (m_runs (l := l) (g := q) hz (by omega) (by omega) hzb) ?_
      refine zn_iaddN (pc := 38) (x := (z (1 + l))) (y := (mRs z l q (z (1 + l)))) rfl ?_
      refine zn_bipushN (pc := 39) 8 rfl rfl ?_
      refine zn_icmp_gtN (pc := 41) (tgt := 48) (x := ((z (1 + l)) + (mRs z l q (z (1 + l))))) (y := 8) rfl rfl (by omega) (by omega) (fun c3 => ?_) (fun c3 => ?_)
      · refine zn_iconstN (pc := 48) 3 rfl rfl ?_
        refine zm_putI (pc := 49) (k := 0) (v := 3) rfl (by decide) rfl rfl ?_
        refine zn_aload_n (pc := 52) rfl rfl ?_
        refine zn_get (pc := 53) (v := .int (nI 3)) rfl rfl rfl ?_
        refine zn_if_leN (pc := 56) (tgt := 61) (x := 3) rfl rfl (by omega) (fun c4 => ?_) (fun c4 => ?_)
        · exfalso; omega
        · refine zn_iconstN (pc := 59) 0 rfl rfl ?_
          exact zx_i (pc := 60) rfl rfl rfl rfl
      · exfalso; omega
    · exact absurd hq c2
  · exact absurd hp c1
theorem m_retab_0  (hz : mOK z) {l : Nat} (hl : l < z 0) (hzb : ∀ j, z j < 1000) {q m : Nat} {R : Nat → Nat} (hu : F 5 ≤ 10) (hq : 1 ≤ q ∧ q ≤ 16) (hr : z (1 + l) + mRs z l q (z (1 + l)) ≤ 8) (hm : mMt l q m 0 0 z = some R) : Zx g zX10_retab [.ref 50, .int (nI l), .int (nI q)] (mhp h F S z A X) (some (.int (nI (mRs z l q (z (1 + l)))))) (mhp h (va_up (va_up (va_up F 0 0) 5 (min (F 5) 9 + 1)) 6 0) S R (va_up A 2 (msave (A 2) z (F 5))) X) := by
  have h0 := hz.1
  have h1 := hz.2.1
  have hzl := hz.2.2.1 l hl
  have hp : zin (nI l) (z 0) := (zin_nI (by omega)).mpr hl
  have hrs := mRs_le (z := z) (l := l) (g := q) (c := z (1 + l)) (fun i hi => hz.2.2.2 l i hl hi)
  show Zn g zX10_retab 0 [some (.ref 50), some (.int (nI l)), some (.int (nI q)), none] [] (mhp h F S z A X) 0 0 _
  refine zn_aload_n (pc := 0) rfl rfl ?_
  refine zn_aload_n (pc := 1) rfl rfl ?_
  refine zn_iload_n (pc := 2) rfl rfl ?_
  refine zn_callVx (pc := 3) (J := zX10_isLine) (o := 50) (as := [.int (nI l)]) (rest := [.ref 50]) rfl rfl rfl rfl rfl rfl rfl rfl (Nat.le_of_ble_eq_true rfl) (Nat.le_of_ble_eq_true rfl) (Nat.le_of_ble_eq_true rfl) (Nat.le_of_ble_eq_true rfl) (m_isLine (by omega) (by omega) (nI l)) ?_
  refine zn_if_neB (pc := 6) (tgt := 13) rfl rfl (fun c1 => ?_) (fun c1 => ?_)
  · refine zn_iload_n (pc := 13) rfl rfl ?_
    refine zn_iconstN (pc := 14) 1 rfl rfl ?_
    refine zn_bipushN (pc := 15) 16 rfl rfl ?_
    refine zn_callSx (pc := 17) (J := zX10_within) (as := [.int (nI q), .int (nI 1), .int (nI 16)]) (rest := [.ref 50]) rfl (by decide) rfl rfl rfl rfl (Nat.le_of_ble_eq_true rfl) (Nat.le_of_ble_eq_true rfl) (Nat.le_of_ble_eq_true rfl) (Nat.le_of_ble_eq_true rfl) (m_withinN (v := q) (a := 1) (b := 16) (by omega) (by omega) (by omega)) ?_
    refine zn_if_neB (pc := 20) (tgt := 27) rfl rfl (fun c2 => ?_) (fun c2 => ?_)
    · refine zn_aload_n (pc := 27) rfl rfl ?_
      refine zn_iload_n (pc := 28) rfl rfl ?_
      refine zn_callVx (pc := 29) (J := zX10_cells) (o := 50) (as := [.int (nI l)]) (rest := [.ref 50]) rfl rfl rfl rfl rfl rfl rfl rfl (Nat.le_of_ble_eq_true rfl) (Nat.le_of_ble_eq_true rfl) (Nat.le_of_ble_eq_true rfl) (Nat.le_of_ble_eq_true rfl) (m_cells (l := l) (by omega)) ?_
      refine zn_aload_n (pc := 32) rfl rfl ?_
      refine zn_iload_n (pc := 33) rfl rfl ?_
      refine zn_iload_n (pc := 34) rfl rfl ?_
      refine zn_callVx (pc := 35) (J := zX10_runs) (o := 50) (as := [.int (nI l), .int (nI q)]) (rest := [.int (nI (z (1 + l))), .ref 50]) rfl rfl rfl rfl rfl rfl rfl rfl (Nat.le_of_ble_eq_true rfl) (Nat.le_of_ble_eq_true rfl) (Nat.le_of_ble_eq_true rfl) (Nat.le_of_ble_eq_true rfl) (m_runs (l := l) (g := q) hz (by omega) (by omega) hzb) ?_
      refine zn_iaddN (pc := 38) (x := (z (1 + l))) (y := (mRs z l q (z (1 + l)))) rfl ?_
      refine zn_bipushN (pc := 39) 8 rfl rfl ?_
      refine zn_icmp_gtN (pc := 41) (tgt := 48) (x := ((z (1 + l)) + (mRs z l q (z (1 + l))))) (y := 8) rfl rfl (by omega) (by omega) (fun c3 => ?_) (fun c3 => ?_)
      · exfalso; omega
      · refine zn_iconstN (pc := 44) 0 rfl rfl ?_
        refine zn_goto (pc := 45) (tgt := 49) rfl rfl ?_
        refine zm_putI (pc := 49) (k := 0) (v := 0) rfl (by decide) rfl rfl ?_
        refine zn_aload_n (pc := 52) rfl rfl ?_
        refine zn_get (pc := 53) (v := .int (nI 0)) rfl rfl rfl ?_
        refine zn_if_leN (pc := 56) (tgt := 61) (x := 0) rfl rfl (by omega) (fun c4 => ?_) (fun c4 => ?_)
        · refine zn_aload_n (pc := 61) rfl rfl ?_
          refine zn_callVx (pc := 62) (J := zX10_save) (o := 50) (as := []) (rest := []) rfl rfl rfl rfl rfl rfl rfl rfl (Nat.le_of_ble_eq_true rfl) (Nat.le_of_ble_eq_true rfl) (Nat.le_of_ble_eq_true rfl) (Nat.le_of_ble_eq_true rfl) (m_save (n := (F 5)) rfl (by omega)) ?_
          refine zn_aload_n (pc := 65) rfl rfl ?_
          refine zn_iload_n (pc := 66) rfl rfl ?_
          refine zn_iload_n (pc := 67) rfl rfl ?_
          refine zn_callVx (pc := 68) (J := zX10_runs) (o := 50) (as := [.int (nI l), .int (nI q)]) (rest := []) rfl rfl rfl rfl rfl rfl rfl rfl (Nat.le_of_ble_eq_true rfl) (Nat.le_of_ble_eq_true rfl) (Nat.le_of_ble_eq_true rfl) (Nat.le_of_ble_eq_true rfl) (m_runs (l := l) (g := q) hz (by omega) (by omega) hzb) ?_
          refine zn_istore_n (pc := 71) (L' := [some (.ref 50), some (.int (nI l)), some (.int (nI q)), some (.int (nI (mRs z l q (z (1 + l)))))]) rfl (by decide) rfl ?_
          refine zn_aload_n (pc := 72) rfl rfl ?_
          refine zn_iload_n (pc := 73) rfl rfl ?_
          refine zn_iload_n (pc := 74) rfl rfl ?_
          refine zn_callVx (pc := 75) (J := zX10_makeTabs) (o := 50) (as := [.int (nI l), .int (nI q)]) (rest := []) rfl rfl rfl rfl rfl rfl rfl rfl (Nat.le_of_ble_eq_true rfl) (Nat.le_of_ble_eq_true rfl) (Nat.le_of_ble_eq_true rfl) (Nat.le_of_ble_eq_true rfl) (m_makeTabs (m := m) (by omega) (by omega) hzb hm) ?_
          refine zn_iload_n (pc := 78) rfl rfl ?_
          exact zx_i (pc := 79) rfl rfl rfl rfl
        · exfalso; omega
    · exact absurd hq c2
  · exact absurd hp c1
theorem m_setAlignment_1  (x y : Int32) (hp : ¬ ((nI 0 ≤ x ∧ x ≤ nI 6) ∧ (nI 0 ≤ y ∧ y ≤ nI 3))) : Zx g zX10_setAlignment [.ref 50, .int x, .int y] (mhp h F S z A X) (some (.int (nI 0))) (mhp h (va_up F 0 1) S z A X) := by
  show Zn g zX10_setAlignment 0 [some (.ref 50), some (.int x), some (.int y), none] [] (mhp h F S z A X) 0 0 _
  refine zn_aload_n (pc := 0) rfl rfl ?_
  refine zn_iload_n (pc := 1) rfl rfl ?_
  refine zn_iconstN (pc := 2) 0 rfl rfl ?_
  refine zn_bipushN (pc := 3) 6 rfl rfl ?_
  refine zn_callSx (pc := 5) (J := zX10_within) (as := [.int x, .int (nI 0), .int (nI 6)]) (rest := [.ref 50]) rfl (by decide) rfl rfl rfl rfl (Nat.le_of_ble_eq_true rfl) (Nat.le_of_ble_eq_true rfl) (Nat.le_of_ble_eq_true rfl) (Nat.le_of_ble_eq_true rfl) (m_within x (nI 0) (nI 6)) ?_
  refine zn_if_eqB (pc := 8) (tgt := 24) rfl rfl (fun c1 => ?_) (fun c1 => ?_)
  · refine zn_iconstN (pc := 24) 1 rfl rfl ?_
    refine zm_putI (pc := 25) (k := 0) (v := 1) rfl (by decide) rfl rfl ?_
    refine zn_aload_n (pc := 28) rfl rfl ?_
    refine zn_get (pc := 29) (v := .int (nI 1)) rfl rfl rfl ?_
    refine zn_if_leN (pc := 32) (tgt := 37) (x := 1) rfl rfl (by omega) (fun c2 => ?_) (fun c2 => ?_)
    · exfalso; omega
    · refine zn_iconstN (pc := 35) 0 rfl rfl ?_
      exact zx_i (pc := 36) rfl rfl rfl rfl
  · refine zn_iload_n (pc := 11) rfl rfl ?_
    refine zn_iconstN (pc := 12) 0 rfl rfl ?_
    refine zn_iconstN (pc := 13) 3 rfl rfl ?_
    refine zn_callSx (pc := 14) (J := zX10_within) (as := [.int y, .int (nI 0), .int (nI 3)]) (rest := [.ref 50]) rfl (by decide) rfl rfl rfl rfl (Nat.le_of_ble_eq_true rfl) (Nat.le_of_ble_eq_true rfl) (Nat.le_of_ble_eq_true rfl) (Nat.le_of_ble_eq_true rfl) (m_within y (nI 0) (nI 3)) ?_
    refine zn_if_eqB (pc := 17) (tgt := 24) rfl rfl (fun c3 => ?_) (fun c3 => ?_)
    · refine zn_iconstN (pc := 24) 1 rfl rfl ?_
      refine zm_putI (pc := 25) (k := 0) (v := 1) rfl (by decide) rfl rfl ?_
      refine zn_aload_n (pc := 28) rfl rfl ?_
      refine zn_get (pc := 29) (v := .int (nI 1)) rfl rfl rfl ?_
      refine zn_if_leN (pc := 32) (tgt := 37) (x := 1) rfl rfl (by omega) (fun c4 => ?_) (fun c4 => ?_)
      · exfalso; omega
      · refine zn_iconstN (pc := 35) 0 rfl rfl ?_
        exact zx_i (pc := 36) rfl rfl rfl rfl
    · exact absurd ⟨by assumption, by assumption⟩ hp
theorem m_setAlignment_0  {c a : Nat} (hc : c ≤ 6) (ha : a ≤ 3) : Zx g zX10_setAlignment [.ref 50, .int (nI c), .int (nI a)] (mhp h F S z A X) (some (.int (nI (A 4 c)))) (mhp h (va_up F 0 0) S z (va_up A 4 (va_up (A 4) c a)) X) := by
  have q1 : 0 ≤ c ∧ c ≤ 6 := by omega
  have q2 : 0 ≤ a ∧ a ≤ 3 := by omega
  show Zn g zX10_setAlignment 0 [some (.ref 50), some (.int (nI c)), some (.int (nI a)), none] [] (mhp h F S z A X) 0 0 _
  refine zn_aload_n (pc := 0) rfl rfl ?_
  refine zn_iload_n (pc := 1) rfl rfl ?_
  refine zn_iconstN (pc := 2) 0 rfl rfl ?_
  refine zn_bipushN (pc := 3) 6 rfl rfl ?_
  refine zn_callSx (pc := 5) (J := zX10_within) (as := [.int (nI c), .int (nI 0), .int (nI 6)]) (rest := [.ref 50]) rfl (by decide) rfl rfl rfl rfl (Nat.le_of_ble_eq_true rfl) (Nat.le_of_ble_eq_true rfl) (Nat.le_of_ble_eq_true rfl) (Nat.le_of_ble_eq_true rfl) (m_withinN (v := c) (a := 0) (b := 6) (by omega) (by omega) (by omega)) ?_
  refine zn_if_eqB (pc := 8) (tgt := 24) rfl rfl (fun c1 => ?_) (fun c1 => ?_)
  · exact absurd q1 c1
  · refine zn_iload_n (pc := 11) rfl rfl ?_
    refine zn_iconstN (pc := 12) 0 rfl rfl ?_
    refine zn_iconstN (pc := 13) 3 rfl rfl ?_
    refine zn_callSx (pc := 14) (J := zX10_within) (as := [.int (nI a), .int (nI 0), .int (nI 3)]) (rest := [.ref 50]) rfl (by decide) rfl rfl rfl rfl (Nat.le_of_ble_eq_true rfl) (Nat.le_of_ble_eq_true rfl) (Nat.le_of_ble_eq_true rfl) (Nat.le_of_ble_eq_true rfl) (m_withinN (v := a) (a := 0) (b := 3) (by omega) (by omega) (by omega)) ?_
    refine zn_if_eqB (pc := 17) (tgt := 24) rfl rfl (fun c2 => ?_) (fun c2 => ?_)
    · exact absurd q2 c2
    · refine zn_iconstN (pc := 20) 0 rfl rfl ?_
      refine zn_goto (pc := 21) (tgt := 25) rfl rfl ?_
      refine zm_putI (pc := 25) (k := 0) (v := 0) rfl (by decide) rfl rfl ?_
      refine zn_aload_n (pc := 28) rfl rfl ?_
      refine zn_get (pc := 29) (v := .int (nI 0)) rfl rfl rfl ?_
      refine zn_if_leN (pc := 32) (tgt := 37) (x := 0) rfl rfl (by omega) (fun c3 => ?_) (fun c3 => ?_)
      · refine zn_aload_n (pc := 37) rfl rfl ?_
        refine zn_get (pc := 38) (v := .ref 55) rfl rfl rfl ?_
        refine zn_iload_n (pc := 41) rfl rfl ?_
        refine zm_ldA (pc := 42) (i := 4) (n := 7) (Z := (A 4)) (j := c) rfl (by decide) (by decide) rfl mln4 rfl (by omega) (Nat.le_of_ble_eq_true rfl) ?_
        refine zn_istore_n (pc := 43) (L' := [some (.ref 50), some (.int (nI c)), some (.int (nI a)), some (.int (nI ((A 4) c)))]) rfl (by decide) rfl ?_
        refine zn_aload_n (pc := 44) rfl rfl ?_
        refine zn_get (pc := 45) (v := .ref 55) rfl rfl rfl ?_
        refine zn_iload_n (pc := 48) rfl rfl ?_
        refine zn_iload_n (pc := 49) rfl rfl ?_
        refine zm_stA (pc := 50) (i := 4) (n := 7) (j := c) (v := a) rfl (by decide) (by decide) rfl mln4 (by omega) (Nat.le_of_ble_eq_true rfl) ?_
        refine zn_iload_n (pc := 51) rfl rfl ?_
        exact zx_i (pc := 52) rfl rfl rfl rfl
      · exfalso; omega
abbrev mSpc (x y : Int32) : Prop := (x = nI 0 ∧ nI 0 ≤ y ∧ y ≤ nI 8) ∨ (x = nI 1 ∧ nI 0 ≤ y ∧ y ≤ nI 20) ∨ (x = nI 2 ∧ nI 1 ≤ y ∧ y ≤ nI 8)
theorem m_setSpacing_1  (x y : Int32) (hp : ¬ mSpc x y) : Zx g zX10_setSpacing [.ref 50, .int x, .int y] (mhp h F S z A X) (some (.int (nI 0))) (mhp h (va_up F 0 1) S z A X) := by
  show Zn g zX10_setSpacing 0 [some (.ref 50), some (.int x), some (.int y), none, none] [] (mhp h F S z A X) 0 0 _
  refine zn_joinV (v := .int (zb (mSpc x y))) (pj := 49) ?_ (fun K1 => ?_)
  · refine zn_istore_n (pc := 49) (L' := [some (.ref 50), some (.int x), some (.int y), some (.int (zb (mSpc x y))), none]) rfl (by decide) rfl ?_
    refine zn_aload_n (pc := 50) rfl rfl ?_
    refine zn_iload_n (pc := 51) rfl rfl ?_
    refine zn_if_eqB (pc := 52) (tgt := 59) rfl rfl (fun c2 => ?_) (fun c2 => ?_)
    · refine zn_iconstN (pc := 59) 1 rfl rfl ?_
      refine zm_putI (pc := 60) (k := 0) (v := 1) rfl (by decide) rfl rfl ?_
      refine zn_aload_n (pc := 63) rfl rfl ?_
      refine zn_get (pc := 64) (v := .int (nI 1)) rfl rfl rfl ?_
      refine zn_if_leN (pc := 67) (tgt := 72) (x := 1) rfl rfl (by omega) (fun c3 => ?_) (fun c3 => ?_)
      · exfalso; omega
      · refine zn_iconstN (pc := 70) 0 rfl rfl ?_
        exact zx_i (pc := 71) rfl rfl rfl rfl
    · exact absurd c2 hp
  · refine zn_iload_n (pc := 0) rfl rfl ?_
    refine zn_if_ne (pc := 1) (tgt := 14) (x := x) rfl rfl (fun c4 => ?_) (fun c4 => ?_)
    · refine zn_iload_n (pc := 14) rfl rfl ?_
      refine zn_iconstN (pc := 15) 1 rfl rfl ?_
      refine zn_icmp_ne (pc := 16) (tgt := 29) (x := x) (y := (nI 1)) rfl rfl (fun c5 => ?_) (fun c5 => ?_)
      · refine zn_iload_n (pc := 29) rfl rfl ?_
        refine zn_iconstN (pc := 30) 2 rfl rfl ?_
        refine zn_icmp_ne (pc := 31) (tgt := 48) (x := x) (y := (nI 2)) rfl rfl (fun c6 => ?_) (fun c6 => ?_)
        · refine zn_iconstN (pc := 48) 0 rfl rfl ?_
          exact zn_top (v' := .int (zb (mSpc x y))) (by rw [zb_f (by intro q; rcases q with q | q | q; exact absurd q.1 (by assumption); exact absurd q.1 (by assumption); first | exact absurd q.1 (by assumption) | exact absurd q.2 (by assumption))]; rfl) K1
        · refine zn_iload_n (pc := 34) rfl rfl ?_
          refine zn_iconstN (pc := 35) 1 rfl rfl ?_
          refine zn_bipushN (pc := 36) 8 rfl rfl ?_
          refine zn_callSx (pc := 38) (J := zX10_within) (as := [.int y, .int (nI 1), .int (nI 8)]) (rest := []) rfl (by decide) rfl rfl rfl rfl (Nat.le_of_ble_eq_true rfl) (Nat.le_of_ble_eq_true rfl) (Nat.le_of_ble_eq_true rfl) (Nat.le_of_ble_eq_true rfl) (m_within y (nI 1) (nI 8)) ?_
          refine zn_if_eqB (pc := 41) (tgt := 48) rfl rfl (fun c7 => ?_) (fun c7 => ?_)
          · refine zn_iconstN (pc := 48) 0 rfl rfl ?_
            exact zn_top (v' := .int (zb (mSpc x y))) (by rw [zb_f (by intro q; rcases q with q | q | q; exact absurd q.1 (by assumption); exact absurd q.1 (by assumption); first | exact absurd q.1 (by assumption) | exact absurd q.2 (by assumption))]; rfl) K1
          · refine zn_iconstN (pc := 44) 1 rfl rfl ?_
            refine zn_goto (pc := 45) (tgt := 49) rfl rfl ?_
            exact zn_top (v' := .int (zb (mSpc x y))) (by rw [zb_t (Or.inr (Or.inr ⟨by assumption, by assumption⟩))]; rfl) K1
      · refine zn_iload_n (pc := 19) rfl rfl ?_
        refine zn_iconstN (pc := 20) 0 rfl rfl ?_
        refine zn_bipushN (pc := 21) 20 rfl rfl ?_
        refine zn_callSx (pc := 23) (J := zX10_within) (as := [.int y, .int (nI 0), .int (nI 20)]) (rest := []) rfl (by decide) rfl rfl rfl rfl (Nat.le_of_ble_eq_true rfl) (Nat.le_of_ble_eq_true rfl) (Nat.le_of_ble_eq_true rfl) (Nat.le_of_ble_eq_true rfl) (m_within y (nI 0) (nI 20)) ?_
        refine zn_goto (pc := 26) (tgt := 49) rfl rfl ?_
        exact zn_top (v' := .int (zb (mSpc x y))) (by rw [zb_iff (show ((nI 0) ≤ y ∧ y ≤ (nI 20)) ↔ mSpc x y from ⟨fun q => by first | exact Or.inl ⟨by assumption, q⟩ | exact Or.inr (Or.inl ⟨by assumption, q⟩), fun q => by unfold mSpc at q; rcases q with q | q | q <;> first | exact q.2 | (exfalso; first | exact absurd q.1 (by assumption) | (have e9 := q.1; simp_all; done) | (simp_all; revert q; decide +kernel))⟩)]) K1
    · refine zn_iload_n (pc := 4) rfl rfl ?_
      refine zn_iconstN (pc := 5) 0 rfl rfl ?_
      refine zn_bipushN (pc := 6) 8 rfl rfl ?_
      refine zn_callSx (pc := 8) (J := zX10_within) (as := [.int y, .int (nI 0), .int (nI 8)]) (rest := []) rfl (by decide) rfl rfl rfl rfl (Nat.le_of_ble_eq_true rfl) (Nat.le_of_ble_eq_true rfl) (Nat.le_of_ble_eq_true rfl) (Nat.le_of_ble_eq_true rfl) (m_within y (nI 0) (nI 8)) ?_
      refine zn_goto (pc := 11) (tgt := 49) rfl rfl ?_
      exact zn_top (v' := .int (zb (mSpc x y))) (by rw [zb_iff (show ((nI 0) ≤ y ∧ y ≤ (nI 8)) ↔ mSpc x y from ⟨fun q => by first | exact Or.inl ⟨by assumption, q⟩ | exact Or.inr (Or.inl ⟨by assumption, q⟩), fun q => by unfold mSpc at q; rcases q with q | q | q <;> first | exact q.2 | (exfalso; first | exact absurd q.1 (by assumption) | (have e9 := q.1; simp_all; done) | (simp_all; revert q; decide +kernel))⟩)]) K1
theorem m_setSpacing_00  {v : Nat} (hv : 0 ≤ v ∧ v ≤ 8) : Zx g zX10_setSpacing [.ref 50, .int (nI 0), .int (nI v)] (mhp h F S z A X) (some (.int (nI (F 8)))) (mhp h (va_up (va_up (va_up (va_up F 0 0) 8 v) 9 (F 9)) 10 (F 10)) S z A X) := by
  show Zn g zX10_setSpacing 0 [some (.ref 50), some (.int (nI 0)), some (.int (nI v)), none, none] [] (mhp h F S z A X) 0 0 _
  refine zn_iload_n (pc := 0) rfl rfl ?_
  refine zn_if_neN (pc := 1) (tgt := 14) (x := 0) rfl rfl (by omega) (fun c1 => ?_) (fun c1 => ?_)
  · exfalso; omega
  · refine zn_iload_n (pc := 4) rfl rfl ?_
    refine zn_iconstN (pc := 5) 0 rfl rfl ?_
    refine zn_bipushN (pc := 6) 8 rfl rfl ?_
    refine zn_callSx (pc := 8) (J := zX10_within) (as := [.int (nI v), .int (nI 0), .int (nI 8)]) (rest := []) rfl (by decide) rfl rfl rfl rfl (Nat.le_of_ble_eq_true rfl) (Nat.le_of_ble_eq_true rfl) (Nat.le_of_ble_eq_true rfl) (Nat.le_of_ble_eq_true rfl) (m_withinN (v := v) (a := 0) (b := 8) (by omega) (by omega) (by omega)) ?_
    refine zn_goto (pc := 11) (tgt := 49) rfl rfl ?_
    refine zn_istore_n (pc := 49) (L' := [some (.ref 50), some (.int (nI 0)), some (.int (nI v)), some (.int (zb (0 ≤ v ∧ v ≤ 8))), none]) rfl (by decide) rfl ?_
    refine zn_aload_n (pc := 50) rfl rfl ?_
    refine zn_iload_n (pc := 51) rfl rfl ?_
    refine zn_if_eqB (pc := 52) (tgt := 59) rfl rfl (fun c2 => ?_) (fun c2 => ?_)
    · exact absurd hv c2
    · refine zn_iconstN (pc := 55) 0 rfl rfl ?_
      refine zn_goto (pc := 56) (tgt := 60) rfl rfl ?_
      refine zm_putI (pc := 60) (k := 0) (v := 0) rfl (by decide) rfl rfl ?_
      refine zn_aload_n (pc := 63) rfl rfl ?_
      refine zn_get (pc := 64) (v := .int (nI 0)) rfl rfl rfl ?_
      refine zn_if_leN (pc := 67) (tgt := 72) (x := 0) rfl rfl (by omega) (fun c3 => ?_) (fun c3 => ?_)
      · refine zn_iload_n (pc := 72) rfl rfl ?_
        refine zn_if_neN (pc := 73) (tgt := 83) (x := 0) rfl rfl (by omega) (fun c4 => ?_) (fun c4 => ?_)
        · exfalso; omega
        · refine zn_aload_n (pc := 76) rfl rfl ?_
          refine zn_get (pc := 77) (v := .int (nI (F 8))) rfl rfl rfl ?_
          refine zn_goto (pc := 80) (tgt := 99) rfl rfl ?_
          refine zn_istore (pc := 99) (L' := [some (.ref 50), some (.int (nI 0)), some (.int (nI v)), some (.int (zb (0 ≤ v ∧ v ≤ 8))), some (.int (nI (F 8)))]) rfl (by decide) rfl ?_
          refine zn_aload_n (pc := 101) rfl rfl ?_
          refine zn_iload_n (pc := 102) rfl rfl ?_
          refine zn_if_neN (pc := 103) (tgt := 110) (x := 0) rfl rfl (by omega) (fun c5 => ?_) (fun c5 => ?_)
          · exfalso; omega
          · refine zn_iload_n (pc := 106) rfl rfl ?_
            refine zn_goto (pc := 107) (tgt := 114) rfl rfl ?_
            refine zm_putI (pc := 114) (k := 8) (v := v) rfl (by decide) rfl rfl ?_
            refine zn_aload_n (pc := 117) rfl rfl ?_
            refine zn_iload_n (pc := 118) rfl rfl ?_
            refine zn_iconstN (pc := 119) 1 rfl rfl ?_
            refine zn_icmp_neN (pc := 120) (tgt := 127) (x := 0) (y := 1) rfl rfl (by omega) (by omega) (fun c6 => ?_) (fun c6 => ?_)
            · refine zn_aload_n (pc := 127) rfl rfl ?_
              refine zn_get (pc := 128) (v := .int (nI (F 9))) rfl rfl rfl ?_
              refine zm_putI (pc := 131) (k := 9) (v := (F 9)) rfl (by decide) rfl rfl ?_
              refine zn_aload_n (pc := 134) rfl rfl ?_
              refine zn_iload_n (pc := 135) rfl rfl ?_
              refine zn_iconstN (pc := 136) 2 rfl rfl ?_
              refine zn_icmp_neN (pc := 137) (tgt := 144) (x := 0) (y := 2) rfl rfl (by omega) (by omega) (fun c7 => ?_) (fun c7 => ?_)
              · refine zn_aload_n (pc := 144) rfl rfl ?_
                refine zn_get (pc := 145) (v := .int (nI (F 10))) rfl rfl rfl ?_
                refine zm_putI (pc := 148) (k := 10) (v := (F 10)) rfl (by decide) rfl rfl ?_
                refine zn_iload (pc := 151) rfl rfl ?_
                exact zx_i (pc := 153) rfl rfl rfl rfl
              · exfalso; omega
            · exfalso; omega
      · exfalso; omega
theorem m_setSpacing_01  {v : Nat} (hv : 0 ≤ v ∧ v ≤ 20) : Zx g zX10_setSpacing [.ref 50, .int (nI 1), .int (nI v)] (mhp h F S z A X) (some (.int (nI (F 9)))) (mhp h (va_up (va_up (va_up (va_up F 0 0) 8 (F 8)) 9 v) 10 (F 10)) S z A X) := by
  show Zn g zX10_setSpacing 0 [some (.ref 50), some (.int (nI 1)), some (.int (nI v)), none, none] [] (mhp h F S z A X) 0 0 _
  refine zn_iload_n (pc := 0) rfl rfl ?_
  refine zn_if_neN (pc := 1) (tgt := 14) (x := 1) rfl rfl (by omega) (fun c1 => ?_) (fun c1 => ?_)
  · refine zn_iload_n (pc := 14) rfl rfl ?_
    refine zn_iconstN (pc := 15) 1 rfl rfl ?_
    refine zn_icmp_neN (pc := 16) (tgt := 29) (x := 1) (y := 1) rfl rfl (by omega) (by omega) (fun c2 => ?_) (fun c2 => ?_)
    · exfalso; omega
    · refine zn_iload_n (pc := 19) rfl rfl ?_
      refine zn_iconstN (pc := 20) 0 rfl rfl ?_
      refine zn_bipushN (pc := 21) 20 rfl rfl ?_
      refine zn_callSx (pc := 23) (J := zX10_within) (as := [.int (nI v), .int (nI 0), .int (nI 20)]) (rest := []) rfl (by decide) rfl rfl rfl rfl (Nat.le_of_ble_eq_true rfl) (Nat.le_of_ble_eq_true rfl) (Nat.le_of_ble_eq_true rfl) (Nat.le_of_ble_eq_true rfl) (m_withinN (v := v) (a := 0) (b := 20) (by omega) (by omega) (by omega)) ?_
      refine zn_goto (pc := 26) (tgt := 49) rfl rfl ?_
      refine zn_istore_n (pc := 49) (L' := [some (.ref 50), some (.int (nI 1)), some (.int (nI v)), some (.int (zb (0 ≤ v ∧ v ≤ 20))), none]) rfl (by decide) rfl ?_
      refine zn_aload_n (pc := 50) rfl rfl ?_
      refine zn_iload_n (pc := 51) rfl rfl ?_
      refine zn_if_eqB (pc := 52) (tgt := 59) rfl rfl (fun c3 => ?_) (fun c3 => ?_)
      · exact absurd hv c3
      · refine zn_iconstN (pc := 55) 0 rfl rfl ?_
        refine zn_goto (pc := 56) (tgt := 60) rfl rfl ?_
        refine zm_putI (pc := 60) (k := 0) (v := 0) rfl (by decide) rfl rfl ?_
        refine zn_aload_n (pc := 63) rfl rfl ?_
        refine zn_get (pc := 64) (v := .int (nI 0)) rfl rfl rfl ?_
        refine zn_if_leN (pc := 67) (tgt := 72) (x := 0) rfl rfl (by omega) (fun c4 => ?_) (fun c4 => ?_)
        · refine zn_iload_n (pc := 72) rfl rfl ?_
          refine zn_if_neN (pc := 73) (tgt := 83) (x := 1) rfl rfl (by omega) (fun c5 => ?_) (fun c5 => ?_)
          · refine zn_iload_n (pc := 83) rfl rfl ?_
            refine zn_iconstN (pc := 84) 1 rfl rfl ?_
            refine zn_icmp_neN (pc := 85) (tgt := 95) (x := 1) (y := 1) rfl rfl (by omega) (by omega) (fun c6 => ?_) (fun c6 => ?_)
            · exfalso; omega
            · refine zn_aload_n (pc := 88) rfl rfl ?_
              refine zn_get (pc := 89) (v := .int (nI (F 9))) rfl rfl rfl ?_
              refine zn_goto (pc := 92) (tgt := 99) rfl rfl ?_
              refine zn_istore (pc := 99) (L' := [some (.ref 50), some (.int (nI 1)), some (.int (nI v)), some (.int (zb (0 ≤ v ∧ v ≤ 20))), some (.int (nI (F 9)))]) rfl (by decide) rfl ?_
              refine zn_aload_n (pc := 101) rfl rfl ?_
              refine zn_iload_n (pc := 102) rfl rfl ?_
              refine zn_if_neN (pc := 103) (tgt := 110) (x := 1) rfl rfl (by omega) (fun c7 => ?_) (fun c7 => ?_)
              · refine zn_aload_n (pc := 110) rfl rfl ?_
                refine zn_get (pc := 111) (v := .int (nI (F 8))) rfl rfl rfl ?_
                refine zm_putI (pc := 114) (k := 8) (v := (F 8)) rfl (by decide) rfl rfl ?_
                refine zn_aload_n (pc := 117) rfl rfl ?_
                refine zn_iload_n (pc := 118) rfl rfl ?_
                refine zn_iconstN (pc := 119) 1 rfl rfl ?_
                refine zn_icmp_neN (pc := 120) (tgt := 127) (x := 1) (y := 1) rfl rfl (by omega) (by omega) (fun c8 => ?_) (fun c8 => ?_)
                · exfalso; omega
                · refine zn_iload_n (pc := 123) rfl rfl ?_
                  refine zn_goto (pc := 124) (tgt := 131) rfl rfl ?_
                  refine zm_putI (pc := 131) (k := 9) (v := v) rfl (by decide) rfl rfl ?_
                  refine zn_aload_n (pc := 134) rfl rfl ?_
                  refine zn_iload_n (pc := 135) rfl rfl ?_
                  refine zn_iconstN (pc := 136) 2 rfl rfl ?_
                  refine zn_icmp_neN (pc := 137) (tgt := 144) (x := 1) (y := 2) rfl rfl (by omega) (by omega) (fun c9 => ?_) (fun c9 => ?_)
                  · refine zn_aload_n (pc := 144) rfl rfl ?_
                    refine zn_get (pc := 145) (v := .int (nI (F 10))) rfl rfl rfl ?_
                    refine zm_putI (pc := 148) (k := 10) (v := (F 10)) rfl (by decide) rfl rfl ?_
                    refine zn_iload (pc := 151) rfl rfl ?_
                    exact zx_i (pc := 153) rfl rfl rfl rfl
                  · exfalso; omega
              · exfalso; omega
          · exfalso; omega
        · exfalso; omega
  · exfalso; omega
theorem m_setSpacing_02  {v : Nat} (hv : 1 ≤ v ∧ v ≤ 8) : Zx g zX10_setSpacing [.ref 50, .int (nI 2), .int (nI v)] (mhp h F S z A X) (some (.int (nI (F 10)))) (mhp h (va_up (va_up (va_up (va_up F 0 0) 8 (F 8)) 9 (F 9)) 10 v) S z A X) := by
  show Zn g zX10_setSpacing 0 [some (.ref 50), some (.int (nI 2)), some (.int (nI v)), none, none] [] (mhp h F S z A X) 0 0 _
  refine zn_iload_n (pc := 0) rfl rfl ?_
  refine zn_if_neN (pc := 1) (tgt := 14) (x := 2) rfl rfl (by omega) (fun c1 => ?_) (fun c1 => ?_)
  · refine zn_iload_n (pc := 14) rfl rfl ?_
    refine zn_iconstN (pc := 15) 1 rfl rfl ?_
    refine zn_icmp_neN (pc := 16) (tgt := 29) (x := 2) (y := 1) rfl rfl (by omega) (by omega) (fun c2 => ?_) (fun c2 => ?_)
    · refine zn_iload_n (pc := 29) rfl rfl ?_
      refine zn_iconstN (pc := 30) 2 rfl rfl ?_
      refine zn_icmp_neN (pc := 31) (tgt := 48) (x := 2) (y := 2) rfl rfl (by omega) (by omega) (fun c3 => ?_) (fun c3 => ?_)
      · exfalso; omega
      · refine zn_iload_n (pc := 34) rfl rfl ?_
        refine zn_iconstN (pc := 35) 1 rfl rfl ?_
        refine zn_bipushN (pc := 36) 8 rfl rfl ?_
        refine zn_callSx (pc := 38) (J := zX10_within) (as := [.int (nI v), .int (nI 1), .int (nI 8)]) (rest := []) rfl (by decide) rfl rfl rfl rfl (Nat.le_of_ble_eq_true rfl) (Nat.le_of_ble_eq_true rfl) (Nat.le_of_ble_eq_true rfl) (Nat.le_of_ble_eq_true rfl) (m_withinN (v := v) (a := 1) (b := 8) (by omega) (by omega) (by omega)) ?_
        refine zn_if_eqB (pc := 41) (tgt := 48) rfl rfl (fun c4 => ?_) (fun c4 => ?_)
        · exact absurd hv c4
        · refine zn_iconstN (pc := 44) 1 rfl rfl ?_
          refine zn_goto (pc := 45) (tgt := 49) rfl rfl ?_
          refine zn_istore_n (pc := 49) (L' := [some (.ref 50), some (.int (nI 2)), some (.int (nI v)), some (.int (nI 1)), none]) rfl (by decide) rfl ?_
          refine zn_aload_n (pc := 50) rfl rfl ?_
          refine zn_iload_n (pc := 51) rfl rfl ?_
          refine zn_if_eqN (pc := 52) (tgt := 59) (x := 1) rfl rfl (by omega) (fun c5 => ?_) (fun c5 => ?_)
          · exfalso; omega
          · refine zn_iconstN (pc := 55) 0 rfl rfl ?_
            refine zn_goto (pc := 56) (tgt := 60) rfl rfl ?_
            refine zm_putI (pc := 60) (k := 0) (v := 0) rfl (by decide) rfl rfl ?_
            refine zn_aload_n (pc := 63) rfl rfl ?_
            refine zn_get (pc := 64) (v := .int (nI 0)) rfl rfl rfl ?_
            refine zn_if_leN (pc := 67) (tgt := 72) (x := 0) rfl rfl (by omega) (fun c6 => ?_) (fun c6 => ?_)
            · refine zn_iload_n (pc := 72) rfl rfl ?_
              refine zn_if_neN (pc := 73) (tgt := 83) (x := 2) rfl rfl (by omega) (fun c7 => ?_) (fun c7 => ?_)
              · refine zn_iload_n (pc := 83) rfl rfl ?_
                refine zn_iconstN (pc := 84) 1 rfl rfl ?_
                refine zn_icmp_neN (pc := 85) (tgt := 95) (x := 2) (y := 1) rfl rfl (by omega) (by omega) (fun c8 => ?_) (fun c8 => ?_)
                · refine zn_aload_n (pc := 95) rfl rfl ?_
                  refine zn_get (pc := 96) (v := .int (nI (F 10))) rfl rfl rfl ?_
                  refine zn_istore (pc := 99) (L' := [some (.ref 50), some (.int (nI 2)), some (.int (nI v)), some (.int (nI 1)), some (.int (nI (F 10)))]) rfl (by decide) rfl ?_
                  refine zn_aload_n (pc := 101) rfl rfl ?_
                  refine zn_iload_n (pc := 102) rfl rfl ?_
                  refine zn_if_neN (pc := 103) (tgt := 110) (x := 2) rfl rfl (by omega) (fun c9 => ?_) (fun c9 => ?_)
                  · refine zn_aload_n (pc := 110) rfl rfl ?_
                    refine zn_get (pc := 111) (v := .int (nI (F 8))) rfl rfl rfl ?_
                    refine zm_putI (pc := 114) (k := 8) (v := (F 8)) rfl (by decide) rfl rfl ?_
                    refine zn_aload_n (pc := 117) rfl rfl ?_
                    refine zn_iload_n (pc := 118) rfl rfl ?_
                    refine zn_iconstN (pc := 119) 1 rfl rfl ?_
                    refine zn_icmp_neN (pc := 120) (tgt := 127) (x := 2) (y := 1) rfl rfl (by omega) (by omega) (fun c10 => ?_) (fun c10 => ?_)
                    · refine zn_aload_n (pc := 127) rfl rfl ?_
                      refine zn_get (pc := 128) (v := .int (nI (F 9))) rfl rfl rfl ?_
                      refine zm_putI (pc := 131) (k := 9) (v := (F 9)) rfl (by decide) rfl rfl ?_
                      refine zn_aload_n (pc := 134) rfl rfl ?_
                      refine zn_iload_n (pc := 135) rfl rfl ?_
                      refine zn_iconstN (pc := 136) 2 rfl rfl ?_
                      refine zn_icmp_neN (pc := 137) (tgt := 144) (x := 2) (y := 2) rfl rfl (by omega) (by omega) (fun c11 => ?_) (fun c11 => ?_)
                      · exfalso; omega
                      · refine zn_iload_n (pc := 140) rfl rfl ?_
                        refine zn_goto (pc := 141) (tgt := 148) rfl rfl ?_
                        refine zm_putI (pc := 148) (k := 10) (v := v) rfl (by decide) rfl rfl ?_
                        refine zn_iload (pc := 151) rfl rfl ?_
                        exact zx_i (pc := 153) rfl rfl rfl rfl
                    · exfalso; omega
                  · exfalso; omega
                · exfalso; omega
              · exfalso; omega
            · exfalso; omega
    · exfalso; omega
  · exfalso; omega
end m1
