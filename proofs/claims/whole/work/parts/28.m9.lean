section m1
variable {g : zG} {h hh : zH} {F : Nat → Nat} {S : Int64} {z : Nat → Nat} {A : Nat → Nat → Nat} {X : Nat → Int32}
theorem mPlace_nI {l c q : Nat} (hz : mOK z) (hl : l < z 0) (hc : c < z (1 + l)) (hq : q ≤ z (25 + 8 * l + c)) : mPlace z (nI l) (nI c) (nI q) := by
  have h1 := hz.2.1
  have hzl := hz.2.2.1 l hl
  have hzc := hz.2.2.2 l c hl hc
  refine ⟨⟨(zin_nI (by omega)).mpr hl, ?_⟩, ?_⟩
  · rw [nI_clamp (by omega)]; exact (zin_nI (by omega)).mpr hc
  · rw [nI_clamp (by omega), nI_clamp (by omega)]; exact (zin_nI (by omega)).mpr (by omega)
theorem mCell_nI {l c : Nat} (hz : mOK z) (hl : l < z 0) (hc : c < z (1 + l)) : mCell z (nI l) (nI c) := by
  have h1 := hz.2.1
  have hzl := hz.2.2.1 l hl
  refine ⟨(zin_nI (by omega)).mpr hl, ?_⟩
  rw [nI_clamp (by omega)]; exact (zin_nI (by omega)).mpr hc
theorem mbeh_9 {l c q : Nat} (hv : q < z (25 + 8 * l + c) → z (217 + 16 * (8 * l + c) + q) ≠ 9 ∧ z (217 + 16 * (8 * l + c) + q) ≠ 10 ∧ z (217 + 16 * (8 * l + c) + q) < 1000) (h : mbeh z l c q = nI 9) : c + 1 < z (1 + l) := by
  unfold mbeh at h
  by_cases c1 : q < z (25 + 8 * l + c)
  · rw [if_pos c1] at h
    have := hv c1
    exact absurd ((nI_eq (by omega) (by omega)).mp h) this.1
  · rw [if_neg c1] at h
    by_cases c2 : c + 1 < z (1 + l)
    · exact c2
    · rw [if_neg c2] at h
      split at h <;> exact absurd h (by decide +kernel)
theorem mbeh_10 {l c q : Nat} (hv : q < z (25 + 8 * l + c) → z (217 + 16 * (8 * l + c) + q) ≠ 9 ∧ z (217 + 16 * (8 * l + c) + q) ≠ 10 ∧ z (217 + 16 * (8 * l + c) + q) < 1000) (h : mbeh z l c q = nI 10) : l + 1 < z 0 := by
  unfold mbeh at h
  by_cases c1 : q < z (25 + 8 * l + c)
  · rw [if_pos c1] at h
    have := hv c1
    exact absurd ((nI_eq (by omega) (by omega)).mp h) this.2.1
  · rw [if_neg c1] at h
    by_cases c2 : c + 1 < z (1 + l)
    · rw [if_pos c2] at h
      exact absurd h (by decide +kernel)
    · rw [if_neg c2] at h
      by_cases c3 : l + 1 < z 0
      · exact c3
      · rw [if_neg c3] at h
        exact absurd h (by decide +kernel)
theorem m_erase_1  (hz : mOK z) (x y k : Int32) (hp : ¬ mPlace z x y k) : Zx g zX10_erase [.ref 50, .int x, .int y, .int k] (mhp h F S z A X) (some (.int (nI 0))) (mhp h (va_up F 0 1) S z A X) := by
  show Zn g zX10_erase 0 [some (.ref 50), some (.int x), some (.int y), some (.int k), none, none] [] (mhp h F S z A X) 0 0 _
  refine zn_aload_n (pc := 0) rfl rfl ?_
  refine zn_iload_n (pc := 1) rfl rfl ?_
  refine zn_iload_n (pc := 2) rfl rfl ?_
  refine zn_iload_n (pc := 3) rfl rfl ?_
  refine zn_callVx (pc := 4) (J := zX10_isPlace) (o := 50) (as := [.int x, .int y, .int k]) (rest := []) rfl rfl rfl rfl rfl rfl rfl rfl (Nat.le_of_ble_eq_true rfl) (Nat.le_of_ble_eq_true rfl) (Nat.le_of_ble_eq_true rfl) (Nat.le_of_ble_eq_true rfl) (m_isPlace hz x y k) ?_
  refine zn_istore (pc := 7) (L' := [some (.ref 50), some (.int x), some (.int y), some (.int k), some (.int (zb (mPlace z x y k))), none]) rfl (by decide) rfl ?_
  refine zn_iload (pc := 9) rfl rfl ?_
  refine zn_if_eqB (pc := 11) (tgt := 24) rfl rfl (fun c1 => ?_) (fun c1 => ?_)
  · refine zn_iconst (pc := 24) (-1) rfl rfl ?_
    refine zn_istore (pc := 25) (L' := [some (.ref 50), some (.int x), some (.int y), some (.int k), some (.int (zb (mPlace z x y k))), some (.int (-1))]) rfl (by decide) rfl ?_
    refine zn_aload_n (pc := 27) rfl rfl ?_
    refine zn_iload (pc := 28) rfl rfl ?_
    refine zn_if_neB (pc := 30) (tgt := 37) rfl rfl (fun c2 => ?_) (fun c2 => ?_)
    · exact absurd c2 hp
    · refine zn_iconstN (pc := 33) 1 rfl rfl ?_
      refine zn_goto (pc := 34) (tgt := 53) rfl rfl ?_
      refine zm_putI (pc := 53) (k := 0) (v := 1) rfl (by decide) rfl rfl ?_
      refine zn_aload_n (pc := 56) rfl rfl ?_
      refine zn_get (pc := 57) (v := .int (nI 1)) rfl rfl rfl ?_
      refine zn_if_leN (pc := 60) (tgt := 65) (x := 1) rfl rfl (by omega) (fun c3 => ?_) (fun c3 => ?_)
      · exfalso; omega
      · refine zn_iconstN (pc := 63) 0 rfl rfl ?_
        exact zx_i (pc := 64) rfl rfl rfl rfl
  · exact absurd c1 hp
theorem m_erase_t  (hz : mOK z) {l c q : Nat} (hl : l < z 0) (hc : c < z (1 + l)) (hq : q ≤ z (25 + 8 * l + c)) (hu : F 5 ≤ 10) (hqe : q = z (25 + 8 * l + c)) (hc1 : c + 1 < z (1 + l)) (hs : z (25 + 8 * l + c) + z (25 + 8 * l + (c + 1)) ≤ 16) : Zx g zX10_erase [.ref 50, .int (nI l), .int (nI c), .int (nI q)] (mhp h F S z A X) (some (.int (nI 9))) (mhp h (va_up (va_up (va_up F 0 0) 5 (min (F 5) 9 + 1)) 6 0) S (mclc (mgt z l (c + 1) 0 l c) l (c + 1)) (va_up A 2 (msave (A 2) z (F 5))) X) := by
  have h0 := hz.1
  have h1 := hz.2.1
  have hzl := hz.2.2.1 l hl
  have hzc := hz.2.2.2 l c hl hc
  have hp := mPlace_nI hz hl hc (show q ≤ z (25 + 8 * l + c) by omega)
  have hb : mbeh z l c q = nI 9 := by unfold mbeh; rw [if_neg (by omega), if_pos hc1]
  have hz9 := hz.2.2.2 l (c + 1) hl hc1
  have g1 : mgt z l (c + 1) 0 l c (1 + l) = z (1 + l) := mgt_lo (by omega) (by omega) (by omega)
  show Zn g zX10_erase 0 [some (.ref 50), some (.int (nI l)), some (.int (nI c)), some (.int (nI q)), none, none] [] (mhp h F S z A X) 0 0 _
  refine zn_aload_n (pc := 0) rfl rfl ?_
  refine zn_iload_n (pc := 1) rfl rfl ?_
  refine zn_iload_n (pc := 2) rfl rfl ?_
  refine zn_iload_n (pc := 3) rfl rfl ?_
  refine zn_callVx (pc := 4) (J := zX10_isPlace) (o := 50) (as := [.int (nI l), .int (nI c), .int (nI q)]) (rest := []) rfl rfl rfl rfl rfl rfl rfl rfl (Nat.le_of_ble_eq_true rfl) (Nat.le_of_ble_eq_true rfl) (Nat.le_of_ble_eq_true rfl) (Nat.le_of_ble_eq_true rfl) (m_isPlace hz (nI l) (nI c) (nI q)) ?_
  refine zn_istore (pc := 7) (L' := [some (.ref 50), some (.int (nI l)), some (.int (nI c)), some (.int (nI q)), some (.int (zb (mPlace z (nI l) (nI c) (nI q)))), none]) rfl (by decide) rfl ?_
  refine zn_iload (pc := 9) rfl rfl ?_
  refine zn_if_eqB (pc := 11) (tgt := 24) rfl rfl (fun c1 => ?_) (fun c1 => ?_)
  · exact absurd hp c1
  · refine zn_aload_n (pc := 14) rfl rfl ?_
    refine zn_iload_n (pc := 15) rfl rfl ?_
    refine zn_iload_n (pc := 16) rfl rfl ?_
    refine zn_iload_n (pc := 17) rfl rfl ?_
    refine zn_callVx (pc := 18) (J := zX10_behind) (o := 50) (as := [.int (nI l), .int (nI c), .int (nI q)]) (rest := []) rfl rfl rfl rfl rfl rfl rfl rfl (Nat.le_of_ble_eq_true rfl) (Nat.le_of_ble_eq_true rfl) (Nat.le_of_ble_eq_true rfl) (Nat.le_of_ble_eq_true rfl) (m_behind hz (l := l) (c := c) (q := q) (by omega) (by omega) (by omega)) ?_
    refine zn_top (v' := .int (nI 9)) (by rw [hb]) ?_
    refine zn_goto (pc := 21) (tgt := 25) rfl rfl ?_
    refine zn_istore (pc := 25) (L' := [some (.ref 50), some (.int (nI l)), some (.int (nI c)), some (.int (nI q)), some (.int (zb (mPlace z (nI l) (nI c) (nI q)))), some (.int (nI 9))]) rfl (by decide) rfl ?_
    refine zn_aload_n (pc := 27) rfl rfl ?_
    refine zn_iload (pc := 28) rfl rfl ?_
    refine zn_if_neB (pc := 30) (tgt := 37) rfl rfl (fun c2 => ?_) (fun c2 => ?_)
    · refine zn_aload_n (pc := 37) rfl rfl ?_
      refine zn_iload_n (pc := 38) rfl rfl ?_
      refine zn_iload_n (pc := 39) rfl rfl ?_
      refine zn_iload (pc := 40) rfl rfl ?_
      refine zn_callVx (pc := 42) (J := zX10_mayErase) (o := 50) (as := [.int (nI l), .int (nI c), .int (nI 9)]) (rest := [.ref 50]) rfl rfl rfl rfl rfl rfl rfl rfl (Nat.le_of_ble_eq_true rfl) (Nat.le_of_ble_eq_true rfl) (Nat.le_of_ble_eq_true rfl) (Nat.le_of_ble_eq_true rfl) (m_mayErase hz (l := l) (c := c) (by omega) (by omega) (nI 9) (fun _ => hc1) (fun q9 => absurd q9 (nI_ne (by omega) (by omega) (by omega)))) ?_
      refine zn_if_eqB (pc := 45) (tgt := 52) rfl rfl (fun c3 => ?_) (fun c3 => ?_)
      · exact absurd (Or.inl ⟨rfl, hs⟩) c3
      · refine zn_iconstN (pc := 48) 0 rfl rfl ?_
        refine zn_goto (pc := 49) (tgt := 53) rfl rfl ?_
        refine zm_putI (pc := 53) (k := 0) (v := 0) rfl (by decide) rfl rfl ?_
        refine zn_aload_n (pc := 56) rfl rfl ?_
        refine zn_get (pc := 57) (v := .int (nI 0)) rfl rfl rfl ?_
        refine zn_if_leN (pc := 60) (tgt := 65) (x := 0) rfl rfl (by omega) (fun c4 => ?_) (fun c4 => ?_)
        · refine zn_aload_n (pc := 65) rfl rfl ?_
          refine zn_callVx (pc := 66) (J := zX10_save) (o := 50) (as := []) (rest := []) rfl rfl rfl rfl rfl rfl rfl rfl (Nat.le_of_ble_eq_true rfl) (Nat.le_of_ble_eq_true rfl) (Nat.le_of_ble_eq_true rfl) (Nat.le_of_ble_eq_true rfl) (m_save (n := (F 5)) rfl (by omega)) ?_
          refine zn_iload (pc := 69) rfl rfl ?_
          refine zn_bipushN (pc := 71) 9 rfl rfl ?_
          refine zn_icmp_neN (pc := 73) (tgt := 98) (x := 9) (y := 9) rfl rfl (by omega) (by omega) (fun c5 => ?_) (fun c5 => ?_)
          · exfalso; omega
          · refine zn_aload_n (pc := 76) rfl rfl ?_
            refine zn_iload_n (pc := 77) rfl rfl ?_
            refine zn_iload_n (pc := 78) rfl rfl ?_
            refine zn_iconstN (pc := 79) 1 rfl rfl ?_
            refine zn_iaddN (pc := 80) (x := c) (y := 1) rfl ?_
            refine zn_iconstN (pc := 81) 0 rfl rfl ?_
            refine zn_iload_n (pc := 82) rfl rfl ?_
            refine zn_iload_n (pc := 83) rfl rfl ?_
            refine zn_callVx (pc := 84) (J := zX10_giveTail) (o := 50) (as := [.int (nI l), .int (nI (c + 1)), .int (nI 0), .int (nI l), .int (nI c)]) (rest := []) rfl rfl rfl rfl rfl rfl rfl rfl (Nat.le_of_ble_eq_true rfl) (Nat.le_of_ble_eq_true rfl) (Nat.le_of_ble_eq_true rfl) (Nat.le_of_ble_eq_true rfl) (m_giveTail (l := l) (c := (c + 1)) (f := 0) (t := l) (u := c) (by omega) (by omega) (by omega) (by omega) (by omega) (by omega) (by omega) (by omega)) ?_
            refine zn_aload_n (pc := 87) rfl rfl ?_
            refine zn_iload_n (pc := 88) rfl rfl ?_
            refine zn_iload_n (pc := 89) rfl rfl ?_
            refine zn_iconstN (pc := 90) 1 rfl rfl ?_
            refine zn_iaddN (pc := 91) (x := c) (y := 1) rfl ?_
            refine zn_callVx (pc := 92) (J := zX10_closeCell) (o := 50) (as := [.int (nI l), .int (nI (c + 1))]) (rest := []) rfl rfl rfl rfl rfl rfl rfl rfl (Nat.le_of_ble_eq_true rfl) (Nat.le_of_ble_eq_true rfl) (Nat.le_of_ble_eq_true rfl) (Nat.le_of_ble_eq_true rfl) (m_closeCell (l := l) (c := (c + 1)) (by omega) (by omega) (by omega)) ?_
            refine zn_goto (pc := 95) (tgt := 121) rfl rfl ?_
            refine zn_iload (pc := 121) rfl rfl ?_
            exact zx_i (pc := 123) rfl rfl rfl rfl
        · exfalso; omega
    · exact absurd hp c2
theorem m_erase_e  (hz : mOK z) {l c q : Nat} (hl : l < z 0) (hc : c < z (1 + l)) (hq : q ≤ z (25 + 8 * l + c)) (hu : F 5 ≤ 10) (hqe : q = z (25 + 8 * l + c)) (hc1 : c + 1 = z (1 + l)) (hl1 : l + 1 < z 0) (hs : z (25 + 8 * l + c) + z (25 + 8 * (l + 1) + 0) ≤ 16) (h8 : z (1 + l) + z (1 + (l + 1)) ≤ 9) : Zx g zX10_erase [.ref 50, .int (nI l), .int (nI c), .int (nI q)] (mhp h F S z A X) (some (.int (nI 10))) (mhp h (va_up (va_up (va_up F 0 0) 5 (min (F 5) 9 + 1)) 6 0) S (mtke z l c) (va_up A 2 (msave (A 2) z (F 5))) X) := by
  have h0 := hz.1
  have h1 := hz.2.1
  have hzl := hz.2.2.1 l hl
  have hzc := hz.2.2.2 l c hl hc
  have hp := mPlace_nI hz hl hc (show q ≤ z (25 + 8 * l + c) by omega)
  have hb : mbeh z l c q = nI 10 := by unfold mbeh; rw [if_neg (by omega), if_neg (by omega), if_pos hl1]
  have hz10 := hz.2.2.1 (l + 1) hl1
  show Zn g zX10_erase 0 [some (.ref 50), some (.int (nI l)), some (.int (nI c)), some (.int (nI q)), none, none] [] (mhp h F S z A X) 0 0 _
  refine zn_aload_n (pc := 0) rfl rfl ?_
  refine zn_iload_n (pc := 1) rfl rfl ?_
  refine zn_iload_n (pc := 2) rfl rfl ?_
  refine zn_iload_n (pc := 3) rfl rfl ?_
  refine zn_callVx (pc := 4) (J := zX10_isPlace) (o := 50) (as := [.int (nI l), .int (nI c), .int (nI q)]) (rest := []) rfl rfl rfl rfl rfl rfl rfl rfl (Nat.le_of_ble_eq_true rfl) (Nat.le_of_ble_eq_true rfl) (Nat.le_of_ble_eq_true rfl) (Nat.le_of_ble_eq_true rfl) (m_isPlace hz (nI l) (nI c) (nI q)) ?_
  refine zn_istore (pc := 7) (L' := [some (.ref 50), some (.int (nI l)), some (.int (nI c)), some (.int (nI q)), some (.int (zb (mPlace z (nI l) (nI c) (nI q)))), none]) rfl (by decide) rfl ?_
  refine zn_iload (pc := 9) rfl rfl ?_
  refine zn_if_eqB (pc := 11) (tgt := 24) rfl rfl (fun c1 => ?_) (fun c1 => ?_)
  · exact absurd hp c1
  · refine zn_aload_n (pc := 14) rfl rfl ?_
    refine zn_iload_n (pc := 15) rfl rfl ?_
    refine zn_iload_n (pc := 16) rfl rfl ?_
    refine zn_iload_n (pc := 17) rfl rfl ?_
    refine zn_callVx (pc := 18) (J := zX10_behind) (o := 50) (as := [.int (nI l), .int (nI c), .int (nI q)]) (rest := []) rfl rfl rfl rfl rfl rfl rfl rfl (Nat.le_of_ble_eq_true rfl) (Nat.le_of_ble_eq_true rfl) (Nat.le_of_ble_eq_true rfl) (Nat.le_of_ble_eq_true rfl) (m_behind hz (l := l) (c := c) (q := q) (by omega) (by omega) (by omega)) ?_
    refine zn_top (v' := .int (nI 10)) (by rw [hb]) ?_
    refine zn_goto (pc := 21) (tgt := 25) rfl rfl ?_
    refine zn_istore (pc := 25) (L' := [some (.ref 50), some (.int (nI l)), some (.int (nI c)), some (.int (nI q)), some (.int (zb (mPlace z (nI l) (nI c) (nI q)))), some (.int (nI 10))]) rfl (by decide) rfl ?_
    refine zn_aload_n (pc := 27) rfl rfl ?_
    refine zn_iload (pc := 28) rfl rfl ?_
    refine zn_if_neB (pc := 30) (tgt := 37) rfl rfl (fun c2 => ?_) (fun c2 => ?_)
    · refine zn_aload_n (pc := 37) rfl rfl ?_
      refine zn_iload_n (pc := 38) rfl rfl ?_
      refine zn_iload_n (pc := 39) rfl rfl ?_
      refine zn_iload (pc := 40) rfl rfl ?_
      refine zn_callVx (pc := 42) (J := zX10_mayErase) (o := 50) (as := [.int (nI l), .int (nI c), .int (nI 10)]) (rest := [.ref 50]) rfl rfl rfl rfl rfl rfl rfl rfl (Nat.le_of_ble_eq_true rfl) (Nat.le_of_ble_eq_true rfl) (Nat.le_of_ble_eq_true rfl) (Nat.le_of_ble_eq_true rfl) (m_mayErase hz (l := l) (c := c) (by omega) (by omega) (nI 10) (fun q9 => absurd q9 (nI_ne (by omega) (by omega) (by omega))) (fun _ => hl1)) ?_
      refine zn_if_eqB (pc := 45) (tgt := 52) rfl rfl (fun c3 => ?_) (fun c3 => ?_)
      · exact absurd (Or.inr (Or.inl ⟨nI_ne (by omega) (by omega) (by omega), rfl, hs, by omega⟩)) c3
      · refine zn_iconstN (pc := 48) 0 rfl rfl ?_
        refine zn_goto (pc := 49) (tgt := 53) rfl rfl ?_
        refine zm_putI (pc := 53) (k := 0) (v := 0) rfl (by decide) rfl rfl ?_
        refine zn_aload_n (pc := 56) rfl rfl ?_
        refine zn_get (pc := 57) (v := .int (nI 0)) rfl rfl rfl ?_
        refine zn_if_leN (pc := 60) (tgt := 65) (x := 0) rfl rfl (by omega) (fun c4 => ?_) (fun c4 => ?_)
        · refine zn_aload_n (pc := 65) rfl rfl ?_
          refine zn_callVx (pc := 66) (J := zX10_save) (o := 50) (as := []) (rest := []) rfl rfl rfl rfl rfl rfl rfl rfl (Nat.le_of_ble_eq_true rfl) (Nat.le_of_ble_eq_true rfl) (Nat.le_of_ble_eq_true rfl) (Nat.le_of_ble_eq_true rfl) (m_save (n := (F 5)) rfl (by omega)) ?_
          refine zn_iload (pc := 69) rfl rfl ?_
          refine zn_bipushN (pc := 71) 9 rfl rfl ?_
          refine zn_icmp_neN (pc := 73) (tgt := 98) (x := 10) (y := 9) rfl rfl (by omega) (by omega) (fun c5 => ?_) (fun c5 => ?_)
          · refine zn_iload (pc := 98) rfl rfl ?_
            refine zn_bipushN (pc := 100) 10 rfl rfl ?_
            refine zn_icmp_neN (pc := 102) (tgt := 114) (x := 10) (y := 10) rfl rfl (by omega) (by omega) (fun c6 => ?_) (fun c6 => ?_)
            · exfalso; omega
            · refine zn_aload_n (pc := 105) rfl rfl ?_
              refine zn_iload_n (pc := 106) rfl rfl ?_
              refine zn_iload_n (pc := 107) rfl rfl ?_
              refine zn_callVx (pc := 108) (J := zX10_takeEnd) (o := 50) (as := [.int (nI l), .int (nI c)]) (rest := []) rfl rfl rfl rfl rfl rfl rfl rfl (Nat.le_of_ble_eq_true rfl) (Nat.le_of_ble_eq_true rfl) (Nat.le_of_ble_eq_true rfl) (Nat.le_of_ble_eq_true rfl) (m_takeEnd (l := l) (c := c) (by omega) (by omega) (by omega) (by omega) (by omega) (by omega)) ?_
              refine zn_goto (pc := 111) (tgt := 121) rfl rfl ?_
              refine zn_iload (pc := 121) rfl rfl ?_
              exact zx_i (pc := 123) rfl rfl rfl rfl
          · exfalso; omega
        · exfalso; omega
    · exact absurd hp c2
theorem m_erase_s  (hz : mOK z) {l c q : Nat} (hl : l < z 0) (hc : c < z (1 + l)) (hq : q ≤ z (25 + 8 * l + c)) (hu : F 5 ≤ 10) {v : Nat} (hql : q < z (25 + 8 * l + c)) (hv : z (217 + 16 * (8 * l + c) + q) = v) (h9 : v ≠ 9) (h10 : v ≠ 10) (hv1 : v < 1000) : Zx g zX10_erase [.ref 50, .int (nI l), .int (nI c), .int (nI q)] (mhp h F S z A X) (some (.int (nI v))) (mhp h (va_up (va_up (va_up F 0 0) 5 (min (F 5) 9 + 1)) 6 0) S (mtks z l c q) (va_up A 2 (msave (A 2) z (F 5))) X) := by
  have h0 := hz.1
  have h1 := hz.2.1
  have hzl := hz.2.2.1 l hl
  have hzc := hz.2.2.2 l c hl hc
  have hp := mPlace_nI hz hl hc (show q ≤ z (25 + 8 * l + c) by omega)
  have hb : mbeh z l c q = nI v := by unfold mbeh; rw [if_pos hql, hv]
  show Zn g zX10_erase 0 [some (.ref 50), some (.int (nI l)), some (.int (nI c)), some (.int (nI q)), none, none] [] (mhp h F S z A X) 0 0 _
  refine zn_aload_n (pc := 0) rfl rfl ?_
  refine zn_iload_n (pc := 1) rfl rfl ?_
  refine zn_iload_n (pc := 2) rfl rfl ?_
  refine zn_iload_n (pc := 3) rfl rfl ?_
  refine zn_callVx (pc := 4) (J := zX10_isPlace) (o := 50) (as := [.int (nI l), .int (nI c), .int (nI q)]) (rest := []) rfl rfl rfl rfl rfl rfl rfl rfl (Nat.le_of_ble_eq_true rfl) (Nat.le_of_ble_eq_true rfl) (Nat.le_of_ble_eq_true rfl) (Nat.le_of_ble_eq_true rfl) (m_isPlace hz (nI l) (nI c) (nI q)) ?_
  refine zn_istore (pc := 7) (L' := [some (.ref 50), some (.int (nI l)), some (.int (nI c)), some (.int (nI q)), some (.int (zb (mPlace z (nI l) (nI c) (nI q)))), none]) rfl (by decide) rfl ?_
  refine zn_iload (pc := 9) rfl rfl ?_
  refine zn_if_eqB (pc := 11) (tgt := 24) rfl rfl (fun c1 => ?_) (fun c1 => ?_)
  · exact absurd hp c1
  · refine zn_aload_n (pc := 14) rfl rfl ?_
    refine zn_iload_n (pc := 15) rfl rfl ?_
    refine zn_iload_n (pc := 16) rfl rfl ?_
    refine zn_iload_n (pc := 17) rfl rfl ?_
    refine zn_callVx (pc := 18) (J := zX10_behind) (o := 50) (as := [.int (nI l), .int (nI c), .int (nI q)]) (rest := []) rfl rfl rfl rfl rfl rfl rfl rfl (Nat.le_of_ble_eq_true rfl) (Nat.le_of_ble_eq_true rfl) (Nat.le_of_ble_eq_true rfl) (Nat.le_of_ble_eq_true rfl) (m_behind hz (l := l) (c := c) (q := q) (by omega) (by omega) (by omega)) ?_
    refine zn_top (v' := .int (nI v)) (by rw [hb]) ?_
    refine zn_goto (pc := 21) (tgt := 25) rfl rfl ?_
    refine zn_istore (pc := 25) (L' := [some (.ref 50), some (.int (nI l)), some (.int (nI c)), some (.int (nI q)), some (.int (zb (mPlace z (nI l) (nI c) (nI q)))), some (.int (nI v))]) rfl (by decide) rfl ?_
    refine zn_aload_n (pc := 27) rfl rfl ?_
    refine zn_iload (pc := 28) rfl rfl ?_
    refine zn_if_neB (pc := 30) (tgt := 37) rfl rfl (fun c2 => ?_) (fun c2 => ?_)
    · refine zn_aload_n (pc := 37) rfl rfl ?_
      refine zn_iload_n (pc := 38) rfl rfl ?_
      refine zn_iload_n (pc := 39) rfl rfl ?_
      refine zn_iload (pc := 40) rfl rfl ?_
      refine zn_callVx (pc := 42) (J := zX10_mayErase) (o := 50) (as := [.int (nI l), .int (nI c), .int (nI v)]) (rest := [.ref 50]) rfl rfl rfl rfl rfl rfl rfl rfl (Nat.le_of_ble_eq_true rfl) (Nat.le_of_ble_eq_true rfl) (Nat.le_of_ble_eq_true rfl) (Nat.le_of_ble_eq_true rfl) (m_mayErase hz (l := l) (c := c) (by omega) (by omega) (nI v) (fun q9 => absurd q9 (nI_ne (by omega) (by omega) (by omega))) (fun q9 => absurd q9 (nI_ne (by omega) (by omega) (by omega)))) ?_
      refine zn_if_eqB (pc := 45) (tgt := 52) rfl rfl (fun c3 => ?_) (fun c3 => ?_)
      · exact absurd (Or.inr (Or.inr ⟨nI_ne (by omega) (by omega) (by omega), nI_ne (by omega) (by omega) (by omega), fun q9 => nI_pos (show v < 2 ^ 31 by omega) (by rw [q9]; decide)⟩)) c3
      · refine zn_iconstN (pc := 48) 0 rfl rfl ?_
        refine zn_goto (pc := 49) (tgt := 53) rfl rfl ?_
        refine zm_putI (pc := 53) (k := 0) (v := 0) rfl (by decide) rfl rfl ?_
        refine zn_aload_n (pc := 56) rfl rfl ?_
        refine zn_get (pc := 57) (v := .int (nI 0)) rfl rfl rfl ?_
        refine zn_if_leN (pc := 60) (tgt := 65) (x := 0) rfl rfl (by omega) (fun c4 => ?_) (fun c4 => ?_)
        · refine zn_aload_n (pc := 65) rfl rfl ?_
          refine zn_callVx (pc := 66) (J := zX10_save) (o := 50) (as := []) (rest := []) rfl rfl rfl rfl rfl rfl rfl rfl (Nat.le_of_ble_eq_true rfl) (Nat.le_of_ble_eq_true rfl) (Nat.le_of_ble_eq_true rfl) (Nat.le_of_ble_eq_true rfl) (m_save (n := (F 5)) rfl (by omega)) ?_
          refine zn_iload (pc := 69) rfl rfl ?_
          refine zn_bipushN (pc := 71) 9 rfl rfl ?_
          refine zn_icmp_neN (pc := 73) (tgt := 98) (x := v) (y := 9) rfl rfl (by omega) (by omega) (fun c5 => ?_) (fun c5 => ?_)
          · refine zn_iload (pc := 98) rfl rfl ?_
            refine zn_bipushN (pc := 100) 10 rfl rfl ?_
            refine zn_icmp_neN (pc := 102) (tgt := 114) (x := v) (y := 10) rfl rfl (by omega) (by omega) (fun c6 => ?_) (fun c6 => ?_)
            · refine zn_aload_n (pc := 114) rfl rfl ?_
              refine zn_iload_n (pc := 115) rfl rfl ?_
              refine zn_iload_n (pc := 116) rfl rfl ?_
              refine zn_iload_n (pc := 117) rfl rfl ?_
              refine zn_callVx (pc := 118) (J := zX10_takeSign) (o := 50) (as := [.int (nI l), .int (nI c), .int (nI q)]) (rest := []) rfl rfl rfl rfl rfl rfl rfl rfl (Nat.le_of_ble_eq_true rfl) (Nat.le_of_ble_eq_true rfl) (Nat.le_of_ble_eq_true rfl) (Nat.le_of_ble_eq_true rfl) (m_takeSign (l := l) (c := c) (q := q) (by omega) (by omega) (by omega) (by omega)) ?_
              refine zn_iload (pc := 121) rfl rfl ?_
              exact zx_i (pc := 123) rfl rfl rfl rfl
            · exfalso; omega
          · exfalso; omega
        · exfalso; omega
    · exact absurd hp c2
theorem m_erase_2  (hz : mOK z) {l c q : Nat} (hl : l < z 0) (hc : c < z (1 + l)) (hq : q ≤ z (25 + 8 * l + c)) (hv : q < z (25 + 8 * l + c) → z (217 + 16 * (8 * l + c) + q) ≠ 9 ∧ z (217 + 16 * (8 * l + c) + q) ≠ 10 ∧ z (217 + 16 * (8 * l + c) + q) < 1000) (hm : ¬ mmay z l c (mbeh z l c q)) : Zx g zX10_erase [.ref 50, .int (nI l), .int (nI c), .int (nI q)] (mhp h F S z A X) (some (.int (nI 0))) (mhp h (va_up F 0 2) S z A X) := by
  have h0 := hz.1
  have h1 := hz.2.1
  have hzl := hz.2.2.1 l hl
  have hzc := hz.2.2.2 l c hl hc
  have hp := mPlace_nI hz hl hc (show q ≤ z (25 + 8 * l + c) by omega)
  have hb : mbeh z l c q = mbeh z l c q := rfl
  show Zn g zX10_erase 0 [some (.ref 50), some (.int (nI l)), some (.int (nI c)), some (.int (nI q)), none, none] [] (mhp h F S z A X) 0 0 _
  refine zn_aload_n (pc := 0) rfl rfl ?_
  refine zn_iload_n (pc := 1) rfl rfl ?_
  refine zn_iload_n (pc := 2) rfl rfl ?_
  refine zn_iload_n (pc := 3) rfl rfl ?_
  refine zn_callVx (pc := 4) (J := zX10_isPlace) (o := 50) (as := [.int (nI l), .int (nI c), .int (nI q)]) (rest := []) rfl rfl rfl rfl rfl rfl rfl rfl (Nat.le_of_ble_eq_true rfl) (Nat.le_of_ble_eq_true rfl) (Nat.le_of_ble_eq_true rfl) (Nat.le_of_ble_eq_true rfl) (m_isPlace hz (nI l) (nI c) (nI q)) ?_
  refine zn_istore (pc := 7) (L' := [some (.ref 50), some (.int (nI l)), some (.int (nI c)), some (.int (nI q)), some (.int (zb (mPlace z (nI l) (nI c) (nI q)))), none]) rfl (by decide) rfl ?_
  refine zn_iload (pc := 9) rfl rfl ?_
  refine zn_if_eqB (pc := 11) (tgt := 24) rfl rfl (fun c1 => ?_) (fun c1 => ?_)
  · exact absurd hp c1
  · refine zn_aload_n (pc := 14) rfl rfl ?_
    refine zn_iload_n (pc := 15) rfl rfl ?_
    refine zn_iload_n (pc := 16) rfl rfl ?_
    refine zn_iload_n (pc := 17) rfl rfl ?_
    refine zn_callVx (pc := 18) (J := zX10_behind) (o := 50) (as := [.int (nI l), .int (nI c), .int (nI q)]) (rest := []) rfl rfl rfl rfl rfl rfl rfl rfl (Nat.le_of_ble_eq_true rfl) (Nat.le_of_ble_eq_true rfl) (Nat.le_of_ble_eq_true rfl) (Nat.le_of_ble_eq_true rfl) (m_behind hz (l := l) (c := c) (q := q) (by omega) (by omega) (by omega)) ?_
    refine zn_top (v' := .int (mbeh z l c q)) (by rw [hb]) ?_
    refine zn_goto (pc := 21) (tgt := 25) rfl rfl ?_
    refine zn_istore (pc := 25) (L' := [some (.ref 50), some (.int (nI l)), some (.int (nI c)), some (.int (nI q)), some (.int (zb (mPlace z (nI l) (nI c) (nI q)))), some (.int (mbeh z l c q))]) rfl (by decide) rfl ?_
    refine zn_aload_n (pc := 27) rfl rfl ?_
    refine zn_iload (pc := 28) rfl rfl ?_
    refine zn_if_neB (pc := 30) (tgt := 37) rfl rfl (fun c2 => ?_) (fun c2 => ?_)
    · refine zn_aload_n (pc := 37) rfl rfl ?_
      refine zn_iload_n (pc := 38) rfl rfl ?_
      refine zn_iload_n (pc := 39) rfl rfl ?_
      refine zn_iload (pc := 40) rfl rfl ?_
      refine zn_callVx (pc := 42) (J := zX10_mayErase) (o := 50) (as := [.int (nI l), .int (nI c), .int (mbeh z l c q)]) (rest := [.ref 50]) rfl rfl rfl rfl rfl rfl rfl rfl (Nat.le_of_ble_eq_true rfl) (Nat.le_of_ble_eq_true rfl) (Nat.le_of_ble_eq_true rfl) (Nat.le_of_ble_eq_true rfl) (m_mayErase hz (l := l) (c := c) (by omega) (by omega) (mbeh z l c q) (mbeh_9 hv) (mbeh_10 hv)) ?_
      refine zn_if_eqB (pc := 45) (tgt := 52) rfl rfl (fun c3 => ?_) (fun c3 => ?_)
      · refine zn_iconstN (pc := 52) 2 rfl rfl ?_
        refine zm_putI (pc := 53) (k := 0) (v := 2) rfl (by decide) rfl rfl ?_
        refine zn_aload_n (pc := 56) rfl rfl ?_
        refine zn_get (pc := 57) (v := .int (nI 2)) rfl rfl rfl ?_
        refine zn_if_leN (pc := 60) (tgt := 65) (x := 2) rfl rfl (by omega) (fun c4 => ?_) (fun c4 => ?_)
        · exfalso; omega
        · refine zn_iconstN (pc := 63) 0 rfl rfl ?_
          exact zx_i (pc := 64) rfl rfl rfl rfl
      · exact absurd c3 hm
    · exact absurd hp c2
theorem m_setCell_1  (hz : mOK z) (x y : Int32) (hp : ¬ mCell z x y) : Zx g zX10_setCell [.ref 50, .int x, .int y] (mhp h F S z A X) (some (.int (nI 0))) (mhp h (va_up F 0 1) S z A X) := by
  show Zn g zX10_setCell 0 [some (.ref 50), some (.int x), some (.int y), none, none] [] (mhp h F S z A X) 0 0 _
  refine zn_aload_n (pc := 0) rfl rfl ?_
  refine zn_aload_n (pc := 1) rfl rfl ?_
  refine zn_iload_n (pc := 2) rfl rfl ?_
  refine zn_iload_n (pc := 3) rfl rfl ?_
  refine zn_callVx (pc := 4) (J := zX10_isCell) (o := 50) (as := [.int x, .int y]) (rest := [.ref 50]) rfl rfl rfl rfl rfl rfl rfl rfl (Nat.le_of_ble_eq_true rfl) (Nat.le_of_ble_eq_true rfl) (Nat.le_of_ble_eq_true rfl) (Nat.le_of_ble_eq_true rfl) (m_isCell hz x y) ?_
  refine zn_if_neB (pc := 7) (tgt := 14) rfl rfl (fun c1 => ?_) (fun c1 => ?_)
  · exact absurd c1 hp
  · refine zn_iconstN (pc := 10) 1 rfl rfl ?_
    refine zn_goto (pc := 11) (tgt := 27) rfl rfl ?_
    refine zm_putI (pc := 27) (k := 0) (v := 1) rfl (by decide) rfl rfl ?_
    refine zn_aload_n (pc := 30) rfl rfl ?_
    refine zn_get (pc := 31) (v := .int (nI 1)) rfl rfl rfl ?_
    refine zn_if_leN (pc := 34) (tgt := 39) (x := 1) rfl rfl (by omega) (fun c2 => ?_) (fun c2 => ?_)
    · exfalso; omega
    · refine zn_iconstN (pc := 37) 0 rfl rfl ?_
      exact zx_i (pc := 38) rfl rfl rfl rfl
theorem m_setCell_2  (hz : mOK z) {l c : Nat} (hl : l < z 0) (hc : c < z (1 + l)) (hs : F 11 ≤ 120) (hb : ∀ j, A 5 j < 1000) (hr : ¬ mrl (A 5) 0 (F 11) 0 0 0 0 = F 11) : Zx g zX10_setCell [.ref 50, .int (nI l), .int (nI c)] (mhp h F S z A X) (some (.int (nI 0))) (mhp h (va_up F 0 2) S z A X) := by
  have h0 := hz.1
  have h1 := hz.2.1
  have hzl := hz.2.2.1 l hl
  have hzc := hz.2.2.2 l c hl hc
  have hp := mCell_nI hz hl hc
  show Zn g zX10_setCell 0 [some (.ref 50), some (.int (nI l)), some (.int (nI c)), none, none] [] (mhp h F S z A X) 0 0 _
  refine zn_aload_n (pc := 0) rfl rfl ?_
  refine zn_aload_n (pc := 1) rfl rfl ?_
  refine zn_iload_n (pc := 2) rfl rfl ?_
  refine zn_iload_n (pc := 3) rfl rfl ?_
  refine zn_callVx (pc := 4) (J := zX10_isCell) (o := 50) (as := [.int (nI l), .int (nI c)]) (rest := [.ref 50]) rfl rfl rfl rfl rfl rfl rfl rfl (Nat.le_of_ble_eq_true rfl) (Nat.le_of_ble_eq_true rfl) (Nat.le_of_ble_eq_true rfl) (Nat.le_of_ble_eq_true rfl) (m_isCell hz (nI l) (nI c)) ?_
  refine zn_if_neB (pc := 7) (tgt := 14) rfl rfl (fun c1 => ?_) (fun c1 => ?_)
  · refine zn_aload_n (pc := 14) rfl rfl ?_
    refine zn_iconstN (pc := 15) 0 rfl rfl ?_
    refine zn_callVx (pc := 16) (J := zX10_isRight) (o := 50) (as := [.int (nI 0)]) (rest := [.ref 50]) rfl rfl rfl rfl rfl rfl rfl rfl (Nat.le_of_ble_eq_true rfl) (Nat.le_of_ble_eq_true rfl) (Nat.le_of_ble_eq_true rfl) (Nat.le_of_ble_eq_true rfl) (m_isRight (kd := 0) (by omega) hs hb) ?_
    refine zn_if_eqB (pc := 19) (tgt := 26) rfl rfl (fun c2 => ?_) (fun c2 => ?_)
    · refine zn_iconstN (pc := 26) 2 rfl rfl ?_
      refine zm_putI (pc := 27) (k := 0) (v := 2) rfl (by decide) rfl rfl ?_
      refine zn_aload_n (pc := 30) rfl rfl ?_
      refine zn_get (pc := 31) (v := .int (nI 2)) rfl rfl rfl ?_
      refine zn_if_leN (pc := 34) (tgt := 39) (x := 2) rfl rfl (by omega) (fun c3 => ?_) (fun c3 => ?_)
      · exfalso; omega
      · refine zn_iconstN (pc := 37) 0 rfl rfl ?_
        exact zx_i (pc := 38) rfl rfl rfl rfl
    · exact absurd c2 hr
  · exact absurd hp c1
theorem mrl0_le (f : Nat → Nat) : ∀ n k s b e, mrl f 0 n k s b e = k + n → s ≤ 16 → s + n ≤ 16
  | 0, k, s, b, e, h, hs => by omega
  | n + 1, k, s, b, e, h, hs => by
    by_cases h1 : f k = 124
    · have := mrl_bar h h1; omega
    · by_cases h2 : f k = 47
      · have := mrl_end h h2; omega
      · have h3 := mrl_sgn h h1 h2
        have := mrl0_le f n (k + 1) (s + 1) b e h3.2.2 (by omega)
        omega
/-- the first k codes of f stand in cell (l, c) -/
def mwr (z f : Nat → Nat) (l c k : Nat) : Nat → Nat := fun j => if 217 + 16 * (8 * l + c) ≤ j ∧ j < 217 + 16 * (8 * l + c) + k then f (j - (217 + 16 * (8 * l + c))) else z j
theorem m_setCell_l {l c m : Nat} (hl : l < 24) (hc : c < 8) (h16 : F 11 ≤ 16) : ∀ (n : Nat) (k : Nat), k + n = F 11 → Zn g zX10_setCell 53 [some (.ref 50), some (.int (nI l)), some (.int (nI c)), some (.int (nI m)), some (.int (nI k))] [] (mhp h F S (mwr z (A 5) l c k) A X) 0 0 (fun r' h' => r' = .inl (some (.int (nI m))) ∧ h' = (mhp h (va_up F 11 0) S (va_up (mwr z (A 5) l c (F 11)) (25 + 8 * l + c) (F 11)) A X)) := by
  intro n
  induction n with
  | zero =>
    intro k hn0
    refine zn_iload (pc := 53) rfl rfl ?_
    refine zn_aload_n (pc := 55) rfl rfl ?_
    refine zn_get (pc := 56) (v := .int (nI (F 11))) rfl rfl rfl ?_
    refine zn_icmp_geN (pc := 59) (tgt := 87) (x := k) (y := (F 11)) rfl rfl (by omega) (by omega) (fun c1 => ?_) (fun c1 => ?_)
    · refine zn_aload_n (pc := 87) rfl rfl ?_
      refine zn_iload_n (pc := 88) rfl rfl ?_
      refine zn_iload_n (pc := 89) rfl rfl ?_
      refine zn_aload_n (pc := 90) rfl rfl ?_
      refine zn_get (pc := 91) (v := .int (nI (F 11))) rfl rfl rfl ?_
      refine zn_callVx (pc := 94) (J := zX10_setLength) (o := 50) (as := [.int (nI l), .int (nI c), .int (nI (F 11))]) (rest := []) rfl rfl rfl rfl rfl rfl rfl rfl (Nat.le_of_ble_eq_true rfl) (Nat.le_of_ble_eq_true rfl) (Nat.le_of_ble_eq_true rfl) (Nat.le_of_ble_eq_true rfl) (m_setLength (l := l) (c := c) (n := (F 11)) (by omega) (by omega)) ?_
      refine zn_aload_n (pc := 97) rfl rfl ?_
      refine zn_iconstN (pc := 98) 0 rfl rfl ?_
      refine zm_putI (pc := 99) (k := 11) (v := 0) rfl (by decide) rfl rfl ?_
      refine zn_iload_n (pc := 102) rfl rfl ?_
      obtain rfl : k = F 11 := by omega
      exact zx_i (pc := 103) rfl rfl rfl rfl
    · exfalso; omega
  | succ n ih =>
    intro k hn0
    refine zn_iload (pc := 53) rfl rfl ?_
    refine zn_aload_n (pc := 55) rfl rfl ?_
    refine zn_get (pc := 56) (v := .int (nI (F 11))) rfl rfl rfl ?_
    refine zn_icmp_geN (pc := 59) (tgt := 87) (x := k) (y := (F 11)) rfl rfl (by omega) (by omega) (fun c1 => ?_) (fun c1 => ?_)
    · refine zn_aload_n (pc := 87) rfl rfl ?_
      refine zn_iload_n (pc := 88) rfl rfl ?_
      refine zn_iload_n (pc := 89) rfl rfl ?_
      refine zn_aload_n (pc := 90) rfl rfl ?_
      refine zn_get (pc := 91) (v := .int (nI (F 11))) rfl rfl rfl ?_
      refine zn_callVx (pc := 94) (J := zX10_setLength) (o := 50) (as := [.int (nI l), .int (nI c), .int (nI (F 11))]) (rest := []) rfl rfl rfl rfl rfl rfl rfl rfl (Nat.le_of_ble_eq_true rfl) (Nat.le_of_ble_eq_true rfl) (Nat.le_of_ble_eq_true rfl) (Nat.le_of_ble_eq_true rfl) (m_setLength (l := l) (c := c) (n := (F 11)) (by omega) (by omega)) ?_
      refine zn_aload_n (pc := 97) rfl rfl ?_
      refine zn_iconstN (pc := 98) 0 rfl rfl ?_
      refine zm_putI (pc := 99) (k := 11) (v := 0) rfl (by decide) rfl rfl ?_
      refine zn_iload_n (pc := 102) rfl rfl ?_
      obtain rfl : k = F 11 := by omega
      exact zx_i (pc := 103) rfl rfl rfl rfl
    · refine zn_aload_n (pc := 62) rfl rfl ?_
      refine zn_get (pc := 63) (v := .ref 51) rfl rfl rfl ?_
      refine zn_iload_n (pc := 66) rfl rfl ?_
      refine zn_iload_n (pc := 67) rfl rfl ?_
      refine zn_iload (pc := 68) rfl rfl ?_
      refine zn_callSx (pc := 70) (J := zX10_place) (as := [.int (nI l), .int (nI c), .int (nI k)]) (rest := [.ref 51]) rfl (by decide) rfl rfl rfl rfl (Nat.le_of_ble_eq_true rfl) (Nat.le_of_ble_eq_true rfl) (Nat.le_of_ble_eq_true rfl) (Nat.le_of_ble_eq_true rfl) (m_place l c k) ?_
      refine zn_aload_n (pc := 73) rfl rfl ?_
      refine zn_get (pc := 74) (v := .ref 56) rfl rfl rfl ?_
      refine zn_iload (pc := 77) rfl rfl ?_
      refine zm_ldA (pc := 79) (i := 5) (n := 120) (Z := (A 5)) (j := k) rfl (by decide) (by decide) rfl mln5 rfl (by omega) (Nat.le_of_ble_eq_true rfl) ?_
      refine zm_stz (pc := 80) (j := (217 + 16 * (8 * l + c) + k)) (v := ((A 5) k)) rfl (by omega) ?_
      refine zn_iincN (pc := 81) (L' := [some (.ref 50), some (.int (nI l)), some (.int (nI c)), some (.int (nI m)), some (.int (nI (k + 1)))]) 1 rfl rfl rfl (by decide) rfl ?_
      refine zn_goto (pc := 84) (tgt := 53) rfl rfl ?_
      refine zn_heq (h' := mhp h F S (mwr z (A 5) l c (k + 1)) A X) (congrArg (fun w => mhp h F S w A X) ?_) (ih (k + 1) (by omega))
      · funext j
        simp only [va_up, mwr]
        repeat' split
        all_goals first | omega | exact congrArg (A 5) (by omega)
theorem m_setCell_0  (hz : mOK z) {l c : Nat} (hl : l < z 0) (hc : c < z (1 + l)) (hu : F 5 ≤ 10) (hs : F 11 ≤ 120) (hb : ∀ j, A 5 j < 1000) (hr : mrl (A 5) 0 (F 11) 0 0 0 0 = F 11) : Zx g zX10_setCell [.ref 50, .int (nI l), .int (nI c)] (mhp h F S z A X) (some (.int (nI (z (25 + 8 * l + c))))) (mhp h (va_up (va_up (va_up (va_up F 0 0) 5 (min (F 5) 9 + 1)) 6 0) 11 0) S (va_up (mwr z (A 5) l c (F 11)) (25 + 8 * l + c) (F 11)) (va_up A 2 (msave (A 2) z (F 5))) X) := by
  have h0 := hz.1
  have h1 := hz.2.1
  have hzl := hz.2.2.1 l hl
  have hzc := hz.2.2.2 l c hl hc
  have hp := mCell_nI hz hl hc
  have h16 := mrl0_le (A 5) (F 11) 0 0 0 0 (by omega) (by omega)
  show Zn g zX10_setCell 0 [some (.ref 50), some (.int (nI l)), some (.int (nI c)), none, none] [] (mhp h F S z A X) 0 0 _
  refine zn_aload_n (pc := 0) rfl rfl ?_
  refine zn_aload_n (pc := 1) rfl rfl ?_
  refine zn_iload_n (pc := 2) rfl rfl ?_
  refine zn_iload_n (pc := 3) rfl rfl ?_
  refine zn_callVx (pc := 4) (J := zX10_isCell) (o := 50) (as := [.int (nI l), .int (nI c)]) (rest := [.ref 50]) rfl rfl rfl rfl rfl rfl rfl rfl (Nat.le_of_ble_eq_true rfl) (Nat.le_of_ble_eq_true rfl) (Nat.le_of_ble_eq_true rfl) (Nat.le_of_ble_eq_true rfl) (m_isCell hz (nI l) (nI c)) ?_
  refine zn_if_neB (pc := 7) (tgt := 14) rfl rfl (fun c1 => ?_) (fun c1 => ?_)
  · refine zn_aload_n (pc := 14) rfl rfl ?_
    refine zn_iconstN (pc := 15) 0 rfl rfl ?_
    refine zn_callVx (pc := 16) (J := zX10_isRight) (o := 50) (as := [.int (nI 0)]) (rest := [.ref 50]) rfl rfl rfl rfl rfl rfl rfl rfl (Nat.le_of_ble_eq_true rfl) (Nat.le_of_ble_eq_true rfl) (Nat.le_of_ble_eq_true rfl) (Nat.le_of_ble_eq_true rfl) (m_isRight (kd := 0) (by omega) hs hb) ?_
    refine zn_if_eqB (pc := 19) (tgt := 26) rfl rfl (fun c2 => ?_) (fun c2 => ?_)
    · exact absurd hr c2
    · refine zn_iconstN (pc := 22) 0 rfl rfl ?_
      refine zn_goto (pc := 23) (tgt := 27) rfl rfl ?_
      refine zm_putI (pc := 27) (k := 0) (v := 0) rfl (by decide) rfl rfl ?_
      refine zn_aload_n (pc := 30) rfl rfl ?_
      refine zn_get (pc := 31) (v := .int (nI 0)) rfl rfl rfl ?_
      refine zn_if_leN (pc := 34) (tgt := 39) (x := 0) rfl rfl (by omega) (fun c3 => ?_) (fun c3 => ?_)
      · refine zn_aload_n (pc := 39) rfl rfl ?_
        refine zn_callVx (pc := 40) (J := zX10_save) (o := 50) (as := []) (rest := []) rfl rfl rfl rfl rfl rfl rfl rfl (Nat.le_of_ble_eq_true rfl) (Nat.le_of_ble_eq_true rfl) (Nat.le_of_ble_eq_true rfl) (Nat.le_of_ble_eq_true rfl) (m_save (n := (F 5)) rfl (by omega)) ?_
        refine zn_aload_n (pc := 43) rfl rfl ?_
        refine zn_iload_n (pc := 44) rfl rfl ?_
        refine zn_iload_n (pc := 45) rfl rfl ?_
        refine zn_callVx (pc := 46) (J := zX10_lengthOf) (o := 50) (as := [.int (nI l), .int (nI c)]) (rest := []) rfl rfl rfl rfl rfl rfl rfl rfl (Nat.le_of_ble_eq_true rfl) (Nat.le_of_ble_eq_true rfl) (Nat.le_of_ble_eq_true rfl) (Nat.le_of_ble_eq_true rfl) (m_lengthOf (l := l) (c := c) (by omega) (by omega)) ?_
        refine zn_istore_n (pc := 49) (L' := [some (.ref 50), some (.int (nI l)), some (.int (nI c)), some (.int (nI (z (25 + 8 * l + c)))), none]) rfl (by decide) rfl ?_
        refine zn_iconstN (pc := 50) 0 rfl rfl ?_
        refine zn_istore (pc := 51) (L' := [some (.ref 50), some (.int (nI l)), some (.int (nI c)), some (.int (nI (z (25 + 8 * l + c)))), some (.int (nI 0))]) rfl (by decide) rfl ?_
        refine zn_heq (h' := mhp h (va_up (va_up (va_up F 0 0) 5 (min (F 5) 9 + 1)) 6 0) S (mwr z (A 5) l c 0) (va_up A 2 (msave (A 2) z (F 5))) X) (congrArg (fun w => mhp h (va_up (va_up (va_up F 0 0) 5 (min (F 5) 9 + 1)) 6 0) S w (va_up A 2 (msave (A 2) z (F 5))) X) ?_) (m_setCell_l (F := va_up (va_up (va_up F 0 0) 5 (min (F 5) 9 + 1)) 6 0) (A := va_up A 2 (msave (A 2) z (F 5))) (by omega) (by omega) (show F 11 ≤ 16 by omega) (F 11) 0 (show 0 + F 11 = F 11 by omega))
        · funext j
          simp only [mwr]
          rw [if_neg (by omega)]
      · exfalso; omega
  · exact absurd hp c1
theorem m_removeLine_1  (h0 : 1 ≤ z 0) (h1 : z 0 ≤ 24) (x : Int32) (hp : ¬ zin x (z 0)) : Zx g zX10_removeLine [.ref 50, .int x] (mhp h F S z A X) (some (.int (nI 0))) (mhp h (va_up F 0 1) S z A X) := by
  show Zn g zX10_removeLine 0 [some (.ref 50), some (.int x)] [] (mhp h F S z A X) 0 0 _
  refine zn_aload_n (pc := 0) rfl rfl ?_
  refine zn_aload_n (pc := 1) rfl rfl ?_
  refine zn_iload_n (pc := 2) rfl rfl ?_
  refine zn_callVx (pc := 3) (J := zX10_isLine) (o := 50) (as := [.int x]) (rest := [.ref 50]) rfl rfl rfl rfl rfl rfl rfl rfl (Nat.le_of_ble_eq_true rfl) (Nat.le_of_ble_eq_true rfl) (Nat.le_of_ble_eq_true rfl) (Nat.le_of_ble_eq_true rfl) (m_isLine (by omega) (by omega) x) ?_
  refine zn_if_neB (pc := 6) (tgt := 13) rfl rfl (fun c1 => ?_) (fun c1 => ?_)
  · exact absurd c1 hp
  · refine zn_iconstN (pc := 9) 1 rfl rfl ?_
    refine zn_goto (pc := 10) (tgt := 28) rfl rfl ?_
    refine zm_putI (pc := 28) (k := 0) (v := 1) rfl (by decide) rfl rfl ?_
    refine zn_aload_n (pc := 31) rfl rfl ?_
    refine zn_get (pc := 32) (v := .int (nI 1)) rfl rfl rfl ?_
    refine zn_if_leN (pc := 35) (tgt := 40) (x := 1) rfl rfl (by omega) (fun c2 => ?_) (fun c2 => ?_)
    · exfalso; omega
    · refine zn_iconstN (pc := 38) 0 rfl rfl ?_
      exact zx_i (pc := 39) rfl rfl rfl rfl
theorem m_removeLine_2  (h0 : 1 ≤ z 0) (h1 : z 0 ≤ 24) {l : Nat} (hl : l < z 0) (hs : z 0 ≤ 1) : Zx g zX10_removeLine [.ref 50, .int (nI l)] (mhp h F S z A X) (some (.int (nI 0))) (mhp h (va_up F 0 2) S z A X) := by
  have hp : zin (nI l) (z 0) := (zin_nI (by omega)).mpr hl
  show Zn g zX10_removeLine 0 [some (.ref 50), some (.int (nI l))] [] (mhp h F S z A X) 0 0 _
  refine zn_aload_n (pc := 0) rfl rfl ?_
  refine zn_aload_n (pc := 1) rfl rfl ?_
  refine zn_iload_n (pc := 2) rfl rfl ?_
  refine zn_callVx (pc := 3) (J := zX10_isLine) (o := 50) (as := [.int (nI l)]) (rest := [.ref 50]) rfl rfl rfl rfl rfl rfl rfl rfl (Nat.le_of_ble_eq_true rfl) (Nat.le_of_ble_eq_true rfl) (Nat.le_of_ble_eq_true rfl) (Nat.le_of_ble_eq_true rfl) (m_isLine (by omega) (by omega) (nI l)) ?_
  refine zn_if_neB (pc := 6) (tgt := 13) rfl rfl (fun c1 => ?_) (fun c1 => ?_)
  · refine zn_aload_n (pc := 13) rfl rfl ?_
    refine zn_get (pc := 14) (v := .ref 51) rfl rfl rfl ?_
    refine zn_iconstN (pc := 17) 0 rfl rfl ?_
    refine zn_naLd (pc := 18) (o := 51) (n := 3289) (Z := z) (j := 0) rfl rfl (by omega) (Nat.le_of_ble_eq_true rfl) ?_
    refine zn_iconstN (pc := 19) 1 rfl rfl ?_
    refine zn_icmp_leN (pc := 20) (tgt := 27) (x := (z 0)) (y := 1) rfl rfl (by omega) (by omega) (fun c2 => ?_) (fun c2 => ?_)
    · refine zn_iconstN (pc := 27) 2 rfl rfl ?_
      refine zm_putI (pc := 28) (k := 0) (v := 2) rfl (by decide) rfl rfl ?_
      refine zn_aload_n (pc := 31) rfl rfl ?_
      refine zn_get (pc := 32) (v := .int (nI 2)) rfl rfl rfl ?_
      refine zn_if_leN (pc := 35) (tgt := 40) (x := 2) rfl rfl (by omega) (fun c3 => ?_) (fun c3 => ?_)
      · exfalso; omega
      · refine zn_iconstN (pc := 38) 0 rfl rfl ?_
        exact zx_i (pc := 39) rfl rfl rfl rfl
    · exfalso; omega
  · exact absurd hp c1
theorem m_removeLine_0  (h0 : 1 ≤ z 0) (h1 : z 0 ≤ 24) {l : Nat} (hl : l < z 0) (hu : F 5 ≤ 10) (hs : 1 < z 0) : Zx g zX10_removeLine [.ref 50, .int (nI l)] (mhp h F S z A X) (some (.int (nI (z 0 - 1)))) (mhp h (va_up (va_up (va_up F 0 0) 5 (min (F 5) 9 + 1)) 6 0) S (mcll z l) (va_up A 2 (msave (A 2) z (F 5))) X) := by
  have hp : zin (nI l) (z 0) := (zin_nI (by omega)).mpr hl
  show Zn g zX10_removeLine 0 [some (.ref 50), some (.int (nI l))] [] (mhp h F S z A X) 0 0 _
  refine zn_aload_n (pc := 0) rfl rfl ?_
  refine zn_aload_n (pc := 1) rfl rfl ?_
  refine zn_iload_n (pc := 2) rfl rfl ?_
  refine zn_callVx (pc := 3) (J := zX10_isLine) (o := 50) (as := [.int (nI l)]) (rest := [.ref 50]) rfl rfl rfl rfl rfl rfl rfl rfl (Nat.le_of_ble_eq_true rfl) (Nat.le_of_ble_eq_true rfl) (Nat.le_of_ble_eq_true rfl) (Nat.le_of_ble_eq_true rfl) (m_isLine (by omega) (by omega) (nI l)) ?_
  refine zn_if_neB (pc := 6) (tgt := 13) rfl rfl (fun c1 => ?_) (fun c1 => ?_)
  · refine zn_aload_n (pc := 13) rfl rfl ?_
    refine zn_get (pc := 14) (v := .ref 51) rfl rfl rfl ?_
    refine zn_iconstN (pc := 17) 0 rfl rfl ?_
    refine zn_naLd (pc := 18) (o := 51) (n := 3289) (Z := z) (j := 0) rfl rfl (by omega) (Nat.le_of_ble_eq_true rfl) ?_
    refine zn_iconstN (pc := 19) 1 rfl rfl ?_
    refine zn_icmp_leN (pc := 20) (tgt := 27) (x := (z 0)) (y := 1) rfl rfl (by omega) (by omega) (fun c2 => ?_) (fun c2 => ?_)
    · exfalso; omega
    · refine zn_iconstN (pc := 23) 0 rfl rfl ?_
      refine zn_goto (pc := 24) (tgt := 28) rfl rfl ?_
      refine zm_putI (pc := 28) (k := 0) (v := 0) rfl (by decide) rfl rfl ?_
      refine zn_aload_n (pc := 31) rfl rfl ?_
      refine zn_get (pc := 32) (v := .int (nI 0)) rfl rfl rfl ?_
      refine zn_if_leN (pc := 35) (tgt := 40) (x := 0) rfl rfl (by omega) (fun c3 => ?_) (fun c3 => ?_)
      · refine zn_aload_n (pc := 40) rfl rfl ?_
        refine zn_callVx (pc := 41) (J := zX10_save) (o := 50) (as := []) (rest := []) rfl rfl rfl rfl rfl rfl rfl rfl (Nat.le_of_ble_eq_true rfl) (Nat.le_of_ble_eq_true rfl) (Nat.le_of_ble_eq_true rfl) (Nat.le_of_ble_eq_true rfl) (m_save (n := (F 5)) rfl (by omega)) ?_
        refine zn_aload_n (pc := 44) rfl rfl ?_
        refine zn_iload_n (pc := 45) rfl rfl ?_
        refine zn_callVx (pc := 46) (J := zX10_closeLine) (o := 50) (as := [.int (nI l)]) (rest := []) rfl rfl rfl rfl rfl rfl rfl rfl (Nat.le_of_ble_eq_true rfl) (Nat.le_of_ble_eq_true rfl) (Nat.le_of_ble_eq_true rfl) (Nat.le_of_ble_eq_true rfl) (m_closeLine (l := l) (by omega) (by omega) (by omega)) ?_
        refine zn_aload_n (pc := 49) rfl rfl ?_
        refine zn_get (pc := 50) (v := .ref 51) rfl rfl rfl ?_
        refine zn_iconstN (pc := 53) 0 rfl rfl ?_
        refine zn_naLd (pc := 54) (o := 51) (n := 3289) (Z := (mcll z l)) (j := 0) rfl rfl (by omega) (Nat.le_of_ble_eq_true rfl) ?_
        refine zn_top (v' := .int (nI (z 0 - 1))) (by congr 2) ?_
        exact zx_i (pc := 55) rfl rfl rfl rfl
      · exfalso; omega
  · exact absurd hp c1
theorem m_insertLine_1  (x : Int32) (hp : ¬ (nI 0 ≤ x ∧ x ≤ nI (z 0))) : Zx g zX10_insertLine [.ref 50, .int x] (mhp h F S z A X) (some (.int (nI 0))) (mhp h (va_up F 0 1) S z A X) := by
  show Zn g zX10_insertLine 0 [some (.ref 50), some (.int x)] [] (mhp h F S z A X) 0 0 _
  refine zn_aload_n (pc := 0) rfl rfl ?_
  refine zn_iload_n (pc := 1) rfl rfl ?_
  refine zn_iconstN (pc := 2) 0 rfl rfl ?_
  refine zn_aload_n (pc := 3) rfl rfl ?_
  refine zn_get (pc := 4) (v := .ref 51) rfl rfl rfl ?_
  refine zn_iconstN (pc := 7) 0 rfl rfl ?_
  refine zn_naLd (pc := 8) (o := 51) (n := 3289) (Z := z) (j := 0) rfl rfl (by omega) (Nat.le_of_ble_eq_true rfl) ?_
  refine zn_callSx (pc := 9) (J := zX10_within) (as := [.int x, .int (nI 0), .int (nI (z 0))]) (rest := [.ref 50]) rfl (by decide) rfl rfl rfl rfl (Nat.le_of_ble_eq_true rfl) (Nat.le_of_ble_eq_true rfl) (Nat.le_of_ble_eq_true rfl) (Nat.le_of_ble_eq_true rfl) (m_within x (nI 0) (nI (z 0))) ?_
  refine zn_if_neB (pc := 12) (tgt := 19) rfl rfl (fun c1 => ?_) (fun c1 => ?_)
  · exact absurd c1 hp
  · refine zn_iconstN (pc := 15) 1 rfl rfl ?_
    refine zn_goto (pc := 16) (tgt := 43) rfl rfl ?_
    refine zm_putI (pc := 43) (k := 0) (v := 1) rfl (by decide) rfl rfl ?_
    refine zn_aload_n (pc := 46) rfl rfl ?_
    refine zn_get (pc := 47) (v := .int (nI 1)) rfl rfl rfl ?_
    refine zn_if_leN (pc := 50) (tgt := 55) (x := 1) rfl rfl (by omega) (fun c2 => ?_) (fun c2 => ?_)
    · exfalso; omega
    · refine zn_iconstN (pc := 53) 0 rfl rfl ?_
      exact zx_i (pc := 54) rfl rfl rfl rfl
theorem m_insertLine_2  (h0 : 1 ≤ z 0) (h1 : z 0 ≤ 24) {l : Nat} (hl : l ≤ z 0) (hs : F 11 ≤ 120) (hb : ∀ j, A 5 j < 1000) (hr : ¬ (mrl (A 5) 1 (F 11) 0 0 0 0 = F 11 ∧ z 0 < 24)) : Zx g zX10_insertLine [.ref 50, .int (nI l)] (mhp h F S z A X) (some (.int (nI 0))) (mhp h (va_up F 0 2) S z A X) := by
  have hp : nI 0 ≤ nI l ∧ nI l ≤ nI (z 0) := ⟨(nI_leI (by omega) (by omega)).mpr (by omega), (nI_leI (by omega) (by omega)).mpr hl⟩
  show Zn g zX10_insertLine 0 [some (.ref 50), some (.int (nI l))] [] (mhp h F S z A X) 0 0 _
  refine zn_aload_n (pc := 0) rfl rfl ?_
  refine zn_iload_n (pc := 1) rfl rfl ?_
  refine zn_iconstN (pc := 2) 0 rfl rfl ?_
  refine zn_aload_n (pc := 3) rfl rfl ?_
  refine zn_get (pc := 4) (v := .ref 51) rfl rfl rfl ?_
  refine zn_iconstN (pc := 7) 0 rfl rfl ?_
  refine zn_naLd (pc := 8) (o := 51) (n := 3289) (Z := z) (j := 0) rfl rfl (by omega) (Nat.le_of_ble_eq_true rfl) ?_
  refine zn_callSx (pc := 9) (J := zX10_within) (as := [.int (nI l), .int (nI 0), .int (nI (z 0))]) (rest := [.ref 50]) rfl (by decide) rfl rfl rfl rfl (Nat.le_of_ble_eq_true rfl) (Nat.le_of_ble_eq_true rfl) (Nat.le_of_ble_eq_true rfl) (Nat.le_of_ble_eq_true rfl) (m_within (nI l) (nI 0) (nI (z 0))) ?_
  refine zn_if_neB (pc := 12) (tgt := 19) rfl rfl (fun c1 => ?_) (fun c1 => ?_)
  · refine zn_aload_n (pc := 19) rfl rfl ?_
    refine zn_iconstN (pc := 20) 1 rfl rfl ?_
    refine zn_callVx (pc := 21) (J := zX10_isRight) (o := 50) (as := [.int (nI 1)]) (rest := [.ref 50]) rfl rfl rfl rfl rfl rfl rfl rfl (Nat.le_of_ble_eq_true rfl) (Nat.le_of_ble_eq_true rfl) (Nat.le_of_ble_eq_true rfl) (Nat.le_of_ble_eq_true rfl) (m_isRight (kd := 1) (by omega) hs hb) ?_
    refine zn_if_eqB (pc := 24) (tgt := 42) rfl rfl (fun c2 => ?_) (fun c2 => ?_)
    · refine zn_iconstN (pc := 42) 2 rfl rfl ?_
      refine zm_putI (pc := 43) (k := 0) (v := 2) rfl (by decide) rfl rfl ?_
      refine zn_aload_n (pc := 46) rfl rfl ?_
      refine zn_get (pc := 47) (v := .int (nI 2)) rfl rfl rfl ?_
      refine zn_if_leN (pc := 50) (tgt := 55) (x := 2) rfl rfl (by omega) (fun c3 => ?_) (fun c3 => ?_)
      · exfalso; omega
      · refine zn_iconstN (pc := 53) 0 rfl rfl ?_
        exact zx_i (pc := 54) rfl rfl rfl rfl
    · refine zn_aload_n (pc := 27) rfl rfl ?_
      refine zn_get (pc := 28) (v := .ref 51) rfl rfl rfl ?_
      refine zn_iconstN (pc := 31) 0 rfl rfl ?_
      refine zn_naLd (pc := 32) (o := 51) (n := 3289) (Z := z) (j := 0) rfl rfl (by omega) (Nat.le_of_ble_eq_true rfl) ?_
      refine zn_bipushN (pc := 33) 24 rfl rfl ?_
      refine zn_icmp_geN (pc := 35) (tgt := 42) (x := (z 0)) (y := 24) rfl rfl (by omega) (by omega) (fun c4 => ?_) (fun c4 => ?_)
      · refine zn_iconstN (pc := 42) 2 rfl rfl ?_
        refine zm_putI (pc := 43) (k := 0) (v := 2) rfl (by decide) rfl rfl ?_
        refine zn_aload_n (pc := 46) rfl rfl ?_
        refine zn_get (pc := 47) (v := .int (nI 2)) rfl rfl rfl ?_
        refine zn_if_leN (pc := 50) (tgt := 55) (x := 2) rfl rfl (by omega) (fun c5 => ?_) (fun c5 => ?_)
        · exfalso; omega
        · refine zn_iconstN (pc := 53) 0 rfl rfl ?_
          exact zx_i (pc := 54) rfl rfl rfl rfl
      · exact absurd ⟨by assumption, by omega⟩ hr
  · exact absurd hp c1
theorem m_insertLine_0  (h0 : 1 ≤ z 0) (h1 : z 0 ≤ 24) {l : Nat} (hl : l ≤ z 0) (hs : F 11 ≤ 120) (hb : ∀ j, A 5 j < 1000) (hu : F 5 ≤ 10) (h24 : z 0 < 24) (hr : mrl (A 5) 1 (F 11) 0 0 0 0 = F 11) : Zx g zX10_insertLine [.ref 50, .int (nI l)] (mhp h F S z A X) (some (.int (nI (mlay (A 5) (F 11) 0 l (mopl z l) 0)))) (mhp h (va_up (va_up (va_up (va_up F 0 0) 5 (min (F 5) 9 + 1)) 6 0) 11 0) S (mlay (A 5) (F 11) 0 l (mopl z l)) (va_up A 2 (msave (A 2) z (F 5))) X) := by
  have hp : nI 0 ≤ nI l ∧ nI l ≤ nI (z 0) := ⟨(nI_leI (by omega) (by omega)).mpr (by omega), (nI_leI (by omega) (by omega)).mpr hl⟩
  show Zn g zX10_insertLine 0 [some (.ref 50), some (.int (nI l))] [] (mhp h F S z A X) 0 0 _
  refine zn_aload_n (pc := 0) rfl rfl ?_
  refine zn_iload_n (pc := 1) rfl rfl ?_
  refine zn_iconstN (pc := 2) 0 rfl rfl ?_
  refine zn_aload_n (pc := 3) rfl rfl ?_
  refine zn_get (pc := 4) (v := .ref 51) rfl rfl rfl ?_
  refine zn_iconstN (pc := 7) 0 rfl rfl ?_
  refine zn_naLd (pc := 8) (o := 51) (n := 3289) (Z := z) (j := 0) rfl rfl (by omega) (Nat.le_of_ble_eq_true rfl) ?_
  refine zn_callSx (pc := 9) (J := zX10_within) (as := [.int (nI l), .int (nI 0), .int (nI (z 0))]) (rest := [.ref 50]) rfl (by decide) rfl rfl rfl rfl (Nat.le_of_ble_eq_true rfl) (Nat.le_of_ble_eq_true rfl) (Nat.le_of_ble_eq_true rfl) (Nat.le_of_ble_eq_true rfl) (m_within (nI l) (nI 0) (nI (z 0))) ?_
  refine zn_if_neB (pc := 12) (tgt := 19) rfl rfl (fun c1 => ?_) (fun c1 => ?_)
  · refine zn_aload_n (pc := 19) rfl rfl ?_
    refine zn_iconstN (pc := 20) 1 rfl rfl ?_
    refine zn_callVx (pc := 21) (J := zX10_isRight) (o := 50) (as := [.int (nI 1)]) (rest := [.ref 50]) rfl rfl rfl rfl rfl rfl rfl rfl (Nat.le_of_ble_eq_true rfl) (Nat.le_of_ble_eq_true rfl) (Nat.le_of_ble_eq_true rfl) (Nat.le_of_ble_eq_true rfl) (m_isRight (kd := 1) (by omega) hs hb) ?_
    refine zn_if_eqB (pc := 24) (tgt := 42) rfl rfl (fun c2 => ?_) (fun c2 => ?_)
    · exact absurd hr c2
    · refine zn_aload_n (pc := 27) rfl rfl ?_
      refine zn_get (pc := 28) (v := .ref 51) rfl rfl rfl ?_
      refine zn_iconstN (pc := 31) 0 rfl rfl ?_
      refine zn_naLd (pc := 32) (o := 51) (n := 3289) (Z := z) (j := 0) rfl rfl (by omega) (Nat.le_of_ble_eq_true rfl) ?_
      refine zn_bipushN (pc := 33) 24 rfl rfl ?_
      refine zn_icmp_geN (pc := 35) (tgt := 42) (x := (z 0)) (y := 24) rfl rfl (by omega) (by omega) (fun c3 => ?_) (fun c3 => ?_)
      · exfalso; omega
      · refine zn_iconstN (pc := 38) 0 rfl rfl ?_
        refine zn_goto (pc := 39) (tgt := 43) rfl rfl ?_
        refine zm_putI (pc := 43) (k := 0) (v := 0) rfl (by decide) rfl rfl ?_
        refine zn_aload_n (pc := 46) rfl rfl ?_
        refine zn_get (pc := 47) (v := .int (nI 0)) rfl rfl rfl ?_
        refine zn_if_leN (pc := 50) (tgt := 55) (x := 0) rfl rfl (by omega) (fun c4 => ?_) (fun c4 => ?_)
        · refine zn_aload_n (pc := 55) rfl rfl ?_
          refine zn_callVx (pc := 56) (J := zX10_save) (o := 50) (as := []) (rest := []) rfl rfl rfl rfl rfl rfl rfl rfl (Nat.le_of_ble_eq_true rfl) (Nat.le_of_ble_eq_true rfl) (Nat.le_of_ble_eq_true rfl) (Nat.le_of_ble_eq_true rfl) (m_save (n := (F 5)) rfl (by omega)) ?_
          refine zn_aload_n (pc := 59) rfl rfl ?_
          refine zn_iload_n (pc := 60) rfl rfl ?_
          refine zn_callVx (pc := 61) (J := zX10_openLine) (o := 50) (as := [.int (nI l)]) (rest := []) rfl rfl rfl rfl rfl rfl rfl rfl (Nat.le_of_ble_eq_true rfl) (Nat.le_of_ble_eq_true rfl) (Nat.le_of_ble_eq_true rfl) (Nat.le_of_ble_eq_true rfl) (m_openLine (l := l) (by omega) (by omega) (by omega)) ?_
          refine zn_aload_n (pc := 64) rfl rfl ?_
          refine zn_iload_n (pc := 65) rfl rfl ?_
          refine zn_callVx (pc := 66) (J := zX10_layBuffer) (o := 50) (as := [.int (nI l)]) (rest := []) rfl rfl rfl rfl rfl rfl rfl rfl (Nat.le_of_ble_eq_true rfl) (Nat.le_of_ble_eq_true rfl) (Nat.le_of_ble_eq_true rfl) (Nat.le_of_ble_eq_true rfl) (m_layBuffer (kd := 1) (line := l) hs hb hr (by simp [mopl, va_up]; omega) (by simp [mopl, va_up]) (by omega) (by omega)) ?_
          refine zn_aload_n (pc := 69) rfl rfl ?_
          refine zn_get (pc := 70) (v := .ref 51) rfl rfl rfl ?_
          refine zn_iconstN (pc := 73) 0 rfl rfl ?_
          refine zn_naLd (pc := 74) (o := 51) (n := 3289) (Z := (mlay (A 5) (F 11) 0 l (mopl z l))) (j := 0) rfl rfl (by omega) (Nat.le_of_ble_eq_true rfl) ?_
          exact zx_i (pc := 75) rfl rfl rfl rfl
        · exfalso; omega
  · exact absurd hp c1
end m1
