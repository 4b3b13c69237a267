section m1
variable {g : zG} {h hh : zH} {F : Nat → Nat} {S : Int64} {z : Nat → Nat} {A : Nat → Nat → Nat} {X : Nat → Int32}
theorem m_load_1  (hs : F 11 ≤ 120) (hb : ∀ j, A 5 j < 1000) (hr : ¬ mrl (A 5) 2 (F 11) 0 0 0 0 = F 11) : Zx g zX10_load [.ref 50] (mhp h F S z A X) (some (.int (nI 0))) (mhp h (va_up F 0 1) S z A X) := by
  show Zn g zX10_load 0 [some (.ref 50)] [] (mhp h F S z A X) 0 0 _
  refine zn_aload_n (pc := 0) rfl rfl ?_
  refine zn_aload_n (pc := 1) rfl rfl ?_
  refine zn_iconstN (pc := 2) 2 rfl rfl ?_
  refine zn_callVx (pc := 3) (J := zX10_isRight) (o := 50) (as := [.int (nI 2)]) (rest := [.ref 50]) rfl rfl rfl rfl rfl rfl rfl rfl (Nat.le_of_ble_eq_true rfl) (Nat.le_of_ble_eq_true rfl) (Nat.le_of_ble_eq_true rfl) (Nat.le_of_ble_eq_true rfl) (m_isRight (kd := 2) (by omega) hs hb) ?_
  refine zn_if_eqB (pc := 6) (tgt := 13) rfl rfl (fun c1 => ?_) (fun c1 => ?_)
  · refine zn_iconstN (pc := 13) 1 rfl rfl ?_
    refine zm_putI (pc := 14) (k := 0) (v := 1) rfl (by decide) rfl rfl ?_
    refine zn_aload_n (pc := 17) rfl rfl ?_
    refine zn_get (pc := 18) (v := .int (nI 1)) rfl rfl rfl ?_
    refine zn_if_leN (pc := 21) (tgt := 26) (x := 1) rfl rfl (by omega) (fun c2 => ?_) (fun c2 => ?_)
    · exfalso; omega
    · refine zn_iconstN (pc := 24) 0 rfl rfl ?_
      exact zx_i (pc := 25) rfl rfl rfl rfl
  · exact absurd c1 hr
theorem m_load_0  (hu : F 5 ≤ 10) (hs : F 11 ≤ 120) (hb : ∀ j, A 5 j < 1000) (hr : mrl (A 5) 2 (F 11) 0 0 0 0 = F 11) : Zx g zX10_load [.ref 50] (mhp h F S z A X) (some (.int (nI ((mlay (A 5) (F 11) 0 0 (va_up (va_up (va_up z 0 1) 1 1) (25 + 8 * 0 + 0) 0)) 0)))) (mhp h (va_up (va_up (va_up (va_up F 0 0) 5 (min (F 5) 9 + 1)) 6 0) 11 0) S (mlay (A 5) (F 11) 0 0 (va_up (va_up (va_up z 0 1) 1 1) (25 + 8 * 0 + 0) 0)) (va_up A 2 (msave (A 2) z (F 5))) X) := by
  show Zn g zX10_load 0 [some (.ref 50)] [] (mhp h F S z A X) 0 0 _
  refine zn_aload_n (pc := 0) rfl rfl ?_
  refine zn_aload_n (pc := 1) rfl rfl ?_
  refine zn_iconstN (pc := 2) 2 rfl rfl ?_
  refine zn_callVx (pc := 3) (J := zX10_isRight) (o := 50) (as := [.int (nI 2)]) (rest := [.ref 50]) rfl rfl rfl rfl rfl rfl rfl rfl (Nat.le_of_ble_eq_true rfl) (Nat.le_of_ble_eq_true rfl) (Nat.le_of_ble_eq_true rfl) (Nat.le_of_ble_eq_true rfl) (m_isRight (kd := 2) (by omega) hs hb) ?_
  refine zn_if_eqB (pc := 6) (tgt := 13) rfl rfl (fun c1 => ?_) (fun c1 => ?_)
  · exact absurd hr c1
  · refine zn_iconstN (pc := 9) 0 rfl rfl ?_
    refine zn_goto (pc := 10) (tgt := 14) rfl rfl ?_
    refine zm_putI (pc := 14) (k := 0) (v := 0) rfl (by decide) rfl rfl ?_
    refine zn_aload_n (pc := 17) rfl rfl ?_
    refine zn_get (pc := 18) (v := .int (nI 0)) rfl rfl rfl ?_
    refine zn_if_leN (pc := 21) (tgt := 26) (x := 0) rfl rfl (by omega) (fun c2 => ?_) (fun c2 => ?_)
    · refine zn_aload_n (pc := 26) rfl rfl ?_
      refine zn_callVx (pc := 27) (J := zX10_save) (o := 50) (as := []) (rest := []) rfl rfl rfl rfl rfl rfl rfl rfl (Nat.le_of_ble_eq_true rfl) (Nat.le_of_ble_eq_true rfl) (Nat.le_of_ble_eq_true rfl) (Nat.le_of_ble_eq_true rfl) (m_save (n := (F 5)) rfl (by omega)) ?_
      refine zn_aload_n (pc := 30) rfl rfl ?_
      refine zn_get (pc := 31) (v := .ref 51) rfl rfl rfl ?_
      refine zn_iconstN (pc := 34) 0 rfl rfl ?_
      refine zn_iconstN (pc := 35) 1 rfl rfl ?_
      refine zm_stz (pc := 36) (j := 0) (v := 1) rfl (by omega) ?_
      refine zn_aload_n (pc := 37) rfl rfl ?_
      refine zn_get (pc := 38) (v := .ref 51) rfl rfl rfl ?_
      refine zn_iconstN (pc := 41) 1 rfl rfl ?_
      refine zn_iconstN (pc := 42) 1 rfl rfl ?_
      refine zm_stz (pc := 43) (j := 1) (v := 1) rfl (by omega) ?_
      refine zn_aload_n (pc := 44) rfl rfl ?_
      refine zn_iconstN (pc := 45) 0 rfl rfl ?_
      refine zn_iconstN (pc := 46) 0 rfl rfl ?_
      refine zn_iconstN (pc := 47) 0 rfl rfl ?_
      refine zn_callVx (pc := 48) (J := zX10_setLength) (o := 50) (as := [.int (nI 0), .int (nI 0), .int (nI 0)]) (rest := []) rfl rfl rfl rfl rfl rfl rfl rfl (Nat.le_of_ble_eq_true rfl) (Nat.le_of_ble_eq_true rfl) (Nat.le_of_ble_eq_true rfl) (Nat.le_of_ble_eq_true rfl) (m_setLength (l := 0) (c := 0) (n := 0) (by omega) (by omega)) ?_
      refine zn_aload_n (pc := 51) rfl rfl ?_
      refine zn_iconstN (pc := 52) 0 rfl rfl ?_
      refine zn_callVx (pc := 53) (J := zX10_layBuffer) (o := 50) (as := [.int (nI 0)]) (rest := []) rfl rfl rfl rfl rfl rfl rfl rfl (Nat.le_of_ble_eq_true rfl) (Nat.le_of_ble_eq_true rfl) (Nat.le_of_ble_eq_true rfl) (Nat.le_of_ble_eq_true rfl) (m_layBuffer (kd := 2) (line := 0) hs hb hr (by simp [va_up]) (by simp [va_up]) (by omega) (by omega)) ?_
      refine zn_aload_n (pc := 56) rfl rfl ?_
      refine zn_get (pc := 57) (v := .ref 51) rfl rfl rfl ?_
      refine zn_iconstN (pc := 60) 0 rfl rfl ?_
      refine zn_naLd (pc := 61) (o := 51) (n := 3289) (Z := (mlay (A 5) (F 11) 0 0 (va_up (va_up (va_up z 0 1) 1 1) (25 + 8 * 0 + 0) 0))) (j := 0) rfl rfl (by omega) (Nat.le_of_ble_eq_true rfl) ?_
      exact zx_i (pc := 62) rfl rfl rfl rfl
    · exfalso; omega
/-- what stands behind a place: a sign, a tab, an end, or nothing -/
def mbeh (z : Nat → Nat) (l c q : Nat) : Int32 := if q < z (25 + 8 * l + c) then nI (z (217 + 16 * (8 * l + c) + q)) else if c + 1 < z (1 + l) then nI 9 else if l + 1 < z 0 then nI 10 else -1
theorem m_behind  (hz : mOK z) {l c q : Nat} (hl : l < z 0) (hc : c < z (1 + l)) (hq : q ≤ z (25 + 8 * l + c)) : Zx g zX10_behind [.ref 50, .int (nI l), .int (nI c), .int (nI q)] (mhp h F S z A X) (some (.int (mbeh z l c q))) (mhp h F S z A X) := by
  have h0 := hz.1
  have h1 := hz.2.1
  have hzl := hz.2.2.1 l hl
  have hzc := hz.2.2.2 l c hl hc
  show Zn g zX10_behind 0 [some (.ref 50), some (.int (nI l)), some (.int (nI c)), some (.int (nI q))] [] (mhp h F S z A X) 0 0 _
  refine zn_iload_n (pc := 0) rfl rfl ?_
  refine zn_aload_n (pc := 1) rfl rfl ?_
  refine zn_iload_n (pc := 2) rfl rfl ?_
  refine zn_iload_n (pc := 3) rfl rfl ?_
  refine zn_callVx (pc := 4) (J := zX10_lengthOf) (o := 50) (as := [.int (nI l), .int (nI c)]) (rest := [.int (nI q)]) rfl rfl rfl rfl rfl rfl rfl rfl (Nat.le_of_ble_eq_true rfl) (Nat.le_of_ble_eq_true rfl) (Nat.le_of_ble_eq_true rfl) (Nat.le_of_ble_eq_true rfl) (m_lengthOf (l := l) (c := c) (by omega) (by omega)) ?_
  refine zn_icmp_geN (pc := 7) (tgt := 20) (x := q) (y := (z (25 + 8 * l + c))) rfl rfl (by omega) (by omega) (fun c1 => ?_) (fun c1 => ?_)
  · refine zn_iload_n (pc := 20) rfl rfl ?_
    refine zn_iconstN (pc := 21) 1 rfl rfl ?_
    refine zn_iaddN (pc := 22) (x := c) (y := 1) rfl ?_
    refine zn_aload_n (pc := 23) rfl rfl ?_
    refine zn_iload_n (pc := 24) rfl rfl ?_
    refine zn_callVx (pc := 25) (J := zX10_cells) (o := 50) (as := [.int (nI l)]) (rest := [.int (nI (c + 1))]) rfl rfl rfl rfl rfl rfl rfl rfl (Nat.le_of_ble_eq_true rfl) (Nat.le_of_ble_eq_true rfl) (Nat.le_of_ble_eq_true rfl) (Nat.le_of_ble_eq_true rfl) (m_cells (l := l) (by omega)) ?_
    refine zn_icmp_geN (pc := 28) (tgt := 36) (x := (c + 1)) (y := (z (1 + l))) rfl rfl (by omega) (by omega) (fun c2 => ?_) (fun c2 => ?_)
    · refine zn_iload_n (pc := 36) rfl rfl ?_
      refine zn_iconstN (pc := 37) 1 rfl rfl ?_
      refine zn_iaddN (pc := 38) (x := l) (y := 1) rfl ?_
      refine zn_aload_n (pc := 39) rfl rfl ?_
      refine zn_get (pc := 40) (v := .ref 51) rfl rfl rfl ?_
      refine zn_iconstN (pc := 43) 0 rfl rfl ?_
      refine zn_naLd (pc := 44) (o := 51) (n := 3289) (Z := z) (j := 0) rfl rfl (by omega) (Nat.le_of_ble_eq_true rfl) ?_
      refine zn_icmp_geN (pc := 45) (tgt := 53) (x := (l + 1)) (y := (z 0)) rfl rfl (by omega) (by omega) (fun c3 => ?_) (fun c3 => ?_)
      · refine zn_iconst (pc := 53) (-1) rfl rfl ?_
        exact zx_i (pc := 54) rfl rfl (by unfold mbeh; rw [if_neg (by omega), if_neg (by omega), if_neg (by omega)]) rfl
      · refine zn_bipushN (pc := 48) 10 rfl rfl ?_
        refine zn_goto (pc := 50) (tgt := 54) rfl rfl ?_
        exact zx_i (pc := 54) rfl rfl (by unfold mbeh; rw [if_neg (by omega), if_neg (by omega), if_pos (by omega)]) rfl
    · refine zn_bipushN (pc := 31) 9 rfl rfl ?_
      refine zn_goto (pc := 33) (tgt := 54) rfl rfl ?_
      exact zx_i (pc := 54) rfl rfl (by unfold mbeh; rw [if_neg (by omega), if_pos (by omega)]) rfl
  · refine zn_aload_n (pc := 10) rfl rfl ?_
    refine zn_iload_n (pc := 11) rfl rfl ?_
    refine zn_iload_n (pc := 12) rfl rfl ?_
    refine zn_iload_n (pc := 13) rfl rfl ?_
    refine zn_callVx (pc := 14) (J := zX10_signOf) (o := 50) (as := [.int (nI l), .int (nI c), .int (nI q)]) (rest := []) rfl rfl rfl rfl rfl rfl rfl rfl (Nat.le_of_ble_eq_true rfl) (Nat.le_of_ble_eq_true rfl) (Nat.le_of_ble_eq_true rfl) (Nat.le_of_ble_eq_true rfl) (m_signOf (l := l) (c := c) (k := q) (by omega) (by omega) (by omega)) ?_
    refine zn_goto (pc := 17) (tgt := 54) rfl rfl ?_
    exact zx_i (pc := 54) rfl rfl (by unfold mbeh; rw [if_pos (by omega)]) rfl
abbrev mmay (z : Nat → Nat) (l c : Nat) (x : Int32) : Prop := (x = nI 9 ∧ z (25 + 8 * l + c) + z (25 + 8 * l + (c + 1)) ≤ 16) ∨ (x ≠ nI 9 ∧ x = nI 10 ∧ z (25 + 8 * l + c) + z (25 + 8 * (l + 1) + 0) ≤ 16 ∧ z (1 + l) + z (1 + (l + 1)) - 1 ≤ 8) ∨ (x ≠ nI 9 ∧ x ≠ nI 10 ∧ x ≠ -1)
theorem nI_ne {a b : Nat} (ha : a < 2 ^ 31) (hb : b < 2 ^ 31) (h : a ≠ b) : nI a ≠ nI b := fun q => h ((nI_eq ha hb).mp q)
theorem m_mayErase  (hz : mOK z) {l c : Nat} (hl : l < z 0) (hc : c < z (1 + l)) (x : Int32) (h9 : x = nI 9 → c + 1 < z (1 + l)) (h10 : x = nI 10 → l + 1 < z 0) : Zx g zX10_mayErase [.ref 50, .int (nI l), .int (nI c), .int x] (mhp h F S z A X) (some (.int (zb (mmay z l c x)))) (mhp h F S z A X) := by
  have h0 := hz.1
  have h1 := hz.2.1
  have hzl := hz.2.2.1 l hl
  have hzc := hz.2.2.2 l c hl hc
  show Zn g zX10_mayErase 0 [some (.ref 50), some (.int (nI l)), some (.int (nI c)), some (.int x)] [] (mhp h F S z A X) 0 0 _
  refine zn_iload_n (pc := 0) rfl rfl ?_
  refine zn_bipushN (pc := 1) 9 rfl rfl ?_
  refine zn_icmp_ne (pc := 3) (tgt := 32) (x := x) (y := (nI 9)) rfl rfl (fun c1 => ?_) (fun c1 => ?_)
  · refine zn_iload_n (pc := 32) rfl rfl ?_
    refine zn_bipushN (pc := 33) 10 rfl rfl ?_
    refine zn_icmp_ne (pc := 35) (tgt := 84) (x := x) (y := (nI 10)) rfl rfl (fun c2 => ?_) (fun c2 => ?_)
    · refine zn_iload_n (pc := 84) rfl rfl ?_
      refine zn_iconst (pc := 85) (-1) rfl rfl ?_
      refine zn_icmp_eq (pc := 86) (tgt := 93) (x := x) (y := (-1)) rfl rfl (fun c3 => ?_) (fun c3 => ?_)
      · refine zn_iconstN (pc := 93) 0 rfl rfl ?_
        exact zx_z (pc := 94) rfl rfl (by decide) (by rw [zb_f (by unfold mmay; (first | (simp_all; done) | (simp_all; omega)))]; rfl) rfl
      · refine zn_iconstN (pc := 89) 1 rfl rfl ?_
        refine zn_goto (pc := 90) (tgt := 94) rfl rfl ?_
        exact zx_z (pc := 94) rfl rfl (by decide) (by rw [zb_t (by unfold mmay; (first | (simp_all; done) | (simp_all; omega)))]; rfl) rfl
    · have q10 := h10 c2
      have hz10 := hz.2.2.1 (l + 1) q10
      have hz11 := hz.2.2.2 (l + 1) 0 q10 (by omega)
      refine zn_aload_n (pc := 38) rfl rfl ?_
      refine zn_iload_n (pc := 39) rfl rfl ?_
      refine zn_iload_n (pc := 40) rfl rfl ?_
      refine zn_callVx (pc := 41) (J := zX10_lengthOf) (o := 50) (as := [.int (nI l), .int (nI c)]) (rest := []) rfl rfl rfl rfl rfl rfl rfl rfl (Nat.le_of_ble_eq_true rfl) (Nat.le_of_ble_eq_true rfl) (Nat.le_of_ble_eq_true rfl) (Nat.le_of_ble_eq_true rfl) (m_lengthOf (l := l) (c := c) (by omega) (by omega)) ?_
      refine zn_aload_n (pc := 44) rfl rfl ?_
      refine zn_iload_n (pc := 45) rfl rfl ?_
      refine zn_iconstN (pc := 46) 1 rfl rfl ?_
      refine zn_iaddN (pc := 47) (x := l) (y := 1) rfl ?_
      refine zn_iconstN (pc := 48) 0 rfl rfl ?_
      refine zn_callVx (pc := 49) (J := zX10_lengthOf) (o := 50) (as := [.int (nI (l + 1)), .int (nI 0)]) (rest := [.int (nI (z (25 + 8 * l + c)))]) rfl rfl rfl rfl rfl rfl rfl rfl (Nat.le_of_ble_eq_true rfl) (Nat.le_of_ble_eq_true rfl) (Nat.le_of_ble_eq_true rfl) (Nat.le_of_ble_eq_true rfl) (m_lengthOf (l := (l + 1)) (c := 0) (by omega) (by omega)) ?_
      refine zn_iaddN (pc := 52) (x := (z (25 + 8 * l + c))) (y := (z (25 + 8 * (l + 1) + 0))) rfl ?_
      refine zn_bipushN (pc := 53) 16 rfl rfl ?_
      refine zn_icmp_gtN (pc := 55) (tgt := 82) (x := ((z (25 + 8 * l + c)) + (z (25 + 8 * (l + 1) + 0)))) (y := 16) rfl rfl (by omega) (by omega) (fun c4 => ?_) (fun c4 => ?_)
      · refine zn_iconstN (pc := 82) 0 rfl rfl ?_
        exact zx_z (pc := 83) rfl rfl (by decide) (by rw [zb_f (by unfold mmay; (first | (simp_all; done) | (simp_all; omega)))]; rfl) rfl
      · refine zn_aload_n (pc := 58) rfl rfl ?_
        refine zn_iload_n (pc := 59) rfl rfl ?_
        refine zn_callVx (pc := 60) (J := zX10_cells) (o := 50) (as := [.int (nI l)]) (rest := []) rfl rfl rfl rfl rfl rfl rfl rfl (Nat.le_of_ble_eq_true rfl) (Nat.le_of_ble_eq_true rfl) (Nat.le_of_ble_eq_true rfl) (Nat.le_of_ble_eq_true rfl) (m_cells (l := l) (by omega)) ?_
        refine zn_aload_n (pc := 63) rfl rfl ?_
        refine zn_iload_n (pc := 64) rfl rfl ?_
        refine zn_iconstN (pc := 65) 1 rfl rfl ?_
        refine zn_iaddN (pc := 66) (x := l) (y := 1) rfl ?_
        refine zn_callVx (pc := 67) (J := zX10_cells) (o := 50) (as := [.int (nI (l + 1))]) (rest := [.int (nI (z (1 + l)))]) rfl rfl rfl rfl rfl rfl rfl rfl (Nat.le_of_ble_eq_true rfl) (Nat.le_of_ble_eq_true rfl) (Nat.le_of_ble_eq_true rfl) (Nat.le_of_ble_eq_true rfl) (m_cells (l := (l + 1)) (by omega)) ?_
        refine zn_iaddN (pc := 70) (x := (z (1 + l))) (y := (z (1 + (l + 1)))) rfl ?_
        refine zn_iconstN (pc := 71) 1 rfl rfl ?_
        refine zn_isubN (pc := 72) (x := ((z (1 + l)) + (z (1 + (l + 1))))) (y := 1) rfl (by omega) ?_
        refine zn_bipushN (pc := 73) 8 rfl rfl ?_
        refine zn_icmp_gtN (pc := 75) (tgt := 82) (x := (((z (1 + l)) + (z (1 + (l + 1)))) - 1)) (y := 8) rfl rfl (by omega) (by omega) (fun c5 => ?_) (fun c5 => ?_)
        · refine zn_iconstN (pc := 82) 0 rfl rfl ?_
          exact zx_z (pc := 83) rfl rfl (by decide) (by rw [zb_f (by unfold mmay; (first | (simp_all; done) | (simp_all; omega)))]; rfl) rfl
        · refine zn_iconstN (pc := 78) 1 rfl rfl ?_
          refine zn_goto (pc := 79) (tgt := 83) rfl rfl ?_
          exact zx_z (pc := 83) rfl rfl (by decide) (by rw [zb_t (by unfold mmay; (first | (simp_all; done) | (simp_all; omega)))]; rfl) rfl
  · have q9 := h9 c1
    have hz9 := hz.2.2.2 l (c + 1) hl q9
    refine zn_aload_n (pc := 6) rfl rfl ?_
    refine zn_iload_n (pc := 7) rfl rfl ?_
    refine zn_iload_n (pc := 8) rfl rfl ?_
    refine zn_callVx (pc := 9) (J := zX10_lengthOf) (o := 50) (as := [.int (nI l), .int (nI c)]) (rest := []) rfl rfl rfl rfl rfl rfl rfl rfl (Nat.le_of_ble_eq_true rfl) (Nat.le_of_ble_eq_true rfl) (Nat.le_of_ble_eq_true rfl) (Nat.le_of_ble_eq_true rfl) (m_lengthOf (l := l) (c := c) (by omega) (by omega)) ?_
    refine zn_aload_n (pc := 12) rfl rfl ?_
    refine zn_iload_n (pc := 13) rfl rfl ?_
    refine zn_iload_n (pc := 14) rfl rfl ?_
    refine zn_iconstN (pc := 15) 1 rfl rfl ?_
    refine zn_iaddN (pc := 16) (x := c) (y := 1) rfl ?_
    refine zn_callVx (pc := 17) (J := zX10_lengthOf) (o := 50) (as := [.int (nI l), .int (nI (c + 1))]) (rest := [.int (nI (z (25 + 8 * l + c)))]) rfl rfl rfl rfl rfl rfl rfl rfl (Nat.le_of_ble_eq_true rfl) (Nat.le_of_ble_eq_true rfl) (Nat.le_of_ble_eq_true rfl) (Nat.le_of_ble_eq_true rfl) (m_lengthOf (l := l) (c := (c + 1)) (by omega) (by omega)) ?_
    refine zn_iaddN (pc := 20) (x := (z (25 + 8 * l + c))) (y := (z (25 + 8 * l + (c + 1)))) rfl ?_
    refine zn_bipushN (pc := 21) 16 rfl rfl ?_
    refine zn_icmp_gtN (pc := 23) (tgt := 30) (x := ((z (25 + 8 * l + c)) + (z (25 + 8 * l + (c + 1))))) (y := 16) rfl rfl (by omega) (by omega) (fun c6 => ?_) (fun c6 => ?_)
    · refine zn_iconstN (pc := 30) 0 rfl rfl ?_
      exact zx_z (pc := 31) rfl rfl (by decide) (by rw [zb_f (by unfold mmay; (first | (simp_all; done) | (simp_all; omega)))]; rfl) rfl
    · refine zn_iconstN (pc := 26) 1 rfl rfl ?_
      refine zn_goto (pc := 27) (tgt := 31) rfl rfl ?_
      exact zx_z (pc := 31) rfl rfl (by decide) (by rw [zb_t (by unfold mmay; (first | (simp_all; done) | (simp_all; omega)))]; rfl) rfl
def mbks (z : Nat → Nat) (l c q k : Nat) : Nat → Nat := fun j => if 217 + 16 * (8 * l + c) + q ≤ j ∧ j < 217 + 16 * (8 * l + c) + k then z (j + 1) else z j
def mtks (z : Nat → Nat) (l c q : Nat) : Nat → Nat := va_up (mbks z l c q (z (25 + 8 * l + c) - 1)) (25 + 8 * l + c) (z (25 + 8 * l + c) - 1)
theorem m_takeSign_l {l c q : Nat} (hl : l < 24) (hc : c < 8) (hq : q < z (25 + 8 * l + c)) (h16 : z (25 + 8 * l + c) ≤ 16) : ∀ (n : Nat) (k : Nat), k + 1 + n = z (25 + 8 * l + c) → q ≤ k → Zn g zX10_takeSign 3 [some (.ref 50), some (.int (nI l)), some (.int (nI c)), some (.int (nI q)), some (.int (nI k))] [] (mhp h F S (mbks z l c q k) A X) 0 0 (fun r' h' => r' = .inl none ∧ h' = (mhp h F S (mtks z l c q) A X)) := by
  intro n
  induction n with
  | zero =>
    intro k hn0 hn1
    refine zn_iload (pc := 3) rfl rfl ?_
    refine zn_iconstN (pc := 5) 1 rfl rfl ?_
    refine zn_iaddN (pc := 6) (x := k) (y := 1) rfl ?_
    refine zn_aload_n (pc := 7) rfl rfl ?_
    refine zn_iload_n (pc := 8) rfl rfl ?_
    refine zn_iload_n (pc := 9) rfl rfl ?_
    refine zn_callVx (pc := 10) (J := zX10_lengthOf) (o := 50) (as := [.int (nI l), .int (nI c)]) (rest := [.int (nI (k + 1))]) rfl rfl rfl rfl rfl rfl rfl rfl (Nat.le_of_ble_eq_true rfl) (Nat.le_of_ble_eq_true rfl) (Nat.le_of_ble_eq_true rfl) (Nat.le_of_ble_eq_true rfl) (m_lengthOf (l := l) (c := c) (by omega) (by omega)) ?_
    refine zn_top (v' := .int (nI (z (25 + 8 * l + c)))) (by congr 2; simp only [mbks]; rw [if_neg (by omega)]) ?_
    refine zn_icmp_geN (pc := 13) (tgt := 44) (x := (k + 1)) (y := (z (25 + 8 * l + c))) rfl rfl (by omega) (by omega) (fun c1 => ?_) (fun c1 => ?_)
    · refine zn_aload_n (pc := 44) rfl rfl ?_
      refine zn_iload_n (pc := 45) rfl rfl ?_
      refine zn_iload_n (pc := 46) rfl rfl ?_
      refine zn_aload_n (pc := 47) rfl rfl ?_
      refine zn_iload_n (pc := 48) rfl rfl ?_
      refine zn_iload_n (pc := 49) rfl rfl ?_
      refine zn_callVx (pc := 50) (J := zX10_lengthOf) (o := 50) (as := [.int (nI l), .int (nI c)]) (rest := [.int (nI c), .int (nI l), .ref 50]) rfl rfl rfl rfl rfl rfl rfl rfl (Nat.le_of_ble_eq_true rfl) (Nat.le_of_ble_eq_true rfl) (Nat.le_of_ble_eq_true rfl) (Nat.le_of_ble_eq_true rfl) (m_lengthOf (l := l) (c := c) (by omega) (by omega)) ?_
      refine zn_top (v' := .int (nI (z (25 + 8 * l + c)))) (by congr 2; simp only [mbks]; rw [if_neg (by omega)]) ?_
      refine zn_iconstN (pc := 53) 1 rfl rfl ?_
      refine zn_isubN (pc := 54) (x := (z (25 + 8 * l + c))) (y := 1) rfl (by omega) ?_
      refine zn_callVx (pc := 55) (J := zX10_setLength) (o := 50) (as := [.int (nI l), .int (nI c), .int (nI ((z (25 + 8 * l + c)) - 1))]) (rest := []) rfl rfl rfl rfl rfl rfl rfl rfl (Nat.le_of_ble_eq_true rfl) (Nat.le_of_ble_eq_true rfl) (Nat.le_of_ble_eq_true rfl) (Nat.le_of_ble_eq_true rfl) (m_setLength (l := l) (c := c) (n := ((z (25 + 8 * l + c)) - 1)) (by omega) (by omega)) ?_
      obtain rfl : k = z (25 + 8 * l + c) - 1 := by omega
      exact zx_v (pc := 58) rfl rfl rfl rfl
    · exfalso; omega
  | succ n ih =>
    intro k hn0 hn1
    refine zn_iload (pc := 3) rfl rfl ?_
    refine zn_iconstN (pc := 5) 1 rfl rfl ?_
    refine zn_iaddN (pc := 6) (x := k) (y := 1) rfl ?_
    refine zn_aload_n (pc := 7) rfl rfl ?_
    refine zn_iload_n (pc := 8) rfl rfl ?_
    refine zn_iload_n (pc := 9) rfl rfl ?_
    refine zn_callVx (pc := 10) (J := zX10_lengthOf) (o := 50) (as := [.int (nI l), .int (nI c)]) (rest := [.int (nI (k + 1))]) rfl rfl rfl rfl rfl rfl rfl rfl (Nat.le_of_ble_eq_true rfl) (Nat.le_of_ble_eq_true rfl) (Nat.le_of_ble_eq_true rfl) (Nat.le_of_ble_eq_true rfl) (m_lengthOf (l := l) (c := c) (by omega) (by omega)) ?_
    refine zn_top (v' := .int (nI (z (25 + 8 * l + c)))) (by congr 2; simp only [mbks]; rw [if_neg (by omega)]) ?_
    refine zn_icmp_geN (pc := 13) (tgt := 44) (x := (k + 1)) (y := (z (25 + 8 * l + c))) rfl rfl (by omega) (by omega) (fun c1 => ?_) (fun c1 => ?_)
    · refine zn_aload_n (pc := 44) rfl rfl ?_
      refine zn_iload_n (pc := 45) rfl rfl ?_
      refine zn_iload_n (pc := 46) rfl rfl ?_
      refine zn_aload_n (pc := 47) rfl rfl ?_
      refine zn_iload_n (pc := 48) rfl rfl ?_
      refine zn_iload_n (pc := 49) rfl rfl ?_
      refine zn_callVx (pc := 50) (J := zX10_lengthOf) (o := 50) (as := [.int (nI l), .int (nI c)]) (rest := [.int (nI c), .int (nI l), .ref 50]) rfl rfl rfl rfl rfl rfl rfl rfl (Nat.le_of_ble_eq_true rfl) (Nat.le_of_ble_eq_true rfl) (Nat.le_of_ble_eq_true rfl) (Nat.le_of_ble_eq_true rfl) (m_lengthOf (l := l) (c := c) (by omega) (by omega)) ?_
      refine zn_top (v' := .int (nI (z (25 + 8 * l + c)))) (by congr 2; simp only [mbks]; rw [if_neg (by omega)]) ?_
      refine zn_iconstN (pc := 53) 1 rfl rfl ?_
      refine zn_isubN (pc := 54) (x := (z (25 + 8 * l + c))) (y := 1) rfl (by omega) ?_
      refine zn_callVx (pc := 55) (J := zX10_setLength) (o := 50) (as := [.int (nI l), .int (nI c), .int (nI ((z (25 + 8 * l + c)) - 1))]) (rest := []) rfl rfl rfl rfl rfl rfl rfl rfl (Nat.le_of_ble_eq_true rfl) (Nat.le_of_ble_eq_true rfl) (Nat.le_of_ble_eq_true rfl) (Nat.le_of_ble_eq_true rfl) (m_setLength (l := l) (c := c) (n := ((z (25 + 8 * l + c)) - 1)) (by omega) (by omega)) ?_
      obtain rfl : k = z (25 + 8 * l + c) - 1 := by omega
      exact zx_v (pc := 58) rfl rfl rfl rfl
    · refine zn_aload_n (pc := 16) rfl rfl ?_
      refine zn_get (pc := 17) (v := .ref 51) rfl rfl rfl ?_
      refine zn_iload_n (pc := 20) rfl rfl ?_
      refine zn_iload_n (pc := 21) rfl rfl ?_
      refine zn_iload (pc := 22) rfl rfl ?_
      refine zn_callSx (pc := 24) (J := zX10_place) (as := [.int (nI l), .int (nI c), .int (nI k)]) (rest := [.ref 51]) rfl (by decide) rfl rfl rfl rfl (Nat.le_of_ble_eq_true rfl) (Nat.le_of_ble_eq_true rfl) (Nat.le_of_ble_eq_true rfl) (Nat.le_of_ble_eq_true rfl) (m_place l c k) ?_
      refine zn_aload_n (pc := 27) rfl rfl ?_
      refine zn_iload_n (pc := 28) rfl rfl ?_
      refine zn_iload_n (pc := 29) rfl rfl ?_
      refine zn_iload (pc := 30) rfl rfl ?_
      refine zn_iconstN (pc := 32) 1 rfl rfl ?_
      refine zn_iaddN (pc := 33) (x := k) (y := 1) rfl ?_
      refine zn_callVx (pc := 34) (J := zX10_signOf) (o := 50) (as := [.int (nI l), .int (nI c), .int (nI (k + 1))]) (rest := [.int (nI (217 + 16 * (8 * l + c) + k)), .ref 51]) rfl rfl rfl rfl rfl rfl rfl rfl (Nat.le_of_ble_eq_true rfl) (Nat.le_of_ble_eq_true rfl) (Nat.le_of_ble_eq_true rfl) (Nat.le_of_ble_eq_true rfl) (m_signOf (l := l) (c := c) (k := (k + 1)) (by omega) (by omega) (by omega)) ?_
      refine zm_stz (pc := 37) (j := (217 + 16 * (8 * l + c) + k)) (v := ((mbks z l c q k) (217 + 16 * (8 * l + c) + (k + 1)))) rfl (by omega) ?_
      refine zn_iincN (pc := 38) (L' := [some (.ref 50), some (.int (nI l)), some (.int (nI c)), some (.int (nI q)), some (.int (nI (k + 1)))]) 1 rfl rfl rfl (by decide) rfl ?_
      refine zn_goto (pc := 41) (tgt := 3) rfl rfl ?_
      refine zn_heq (h' := mhp h F S (mbks z l c q (k + 1)) A X) (congrArg (fun w => mhp h F S w A X) ?_) (ih (k + 1) (by omega) (by omega))
      · funext j
        simp only [va_up, mbks]
        repeat' split
        all_goals first | omega | exact congrArg z (by omega)
theorem m_takeSign  {l c q : Nat} (hl : l < 24) (hc : c < 8) (hq : q < z (25 + 8 * l + c)) (h16 : z (25 + 8 * l + c) ≤ 16) : Zx g zX10_takeSign [.ref 50, .int (nI l), .int (nI c), .int (nI q)] (mhp h F S z A X) none (mhp h F S (mtks z l c q) A X) := by
  show Zn g zX10_takeSign 0 [some (.ref 50), some (.int (nI l)), some (.int (nI c)), some (.int (nI q)), none] [] (mhp h F S z A X) 0 0 _
  refine zn_iload_n (pc := 0) rfl rfl ?_
  refine zn_istore (pc := 1) (L' := [some (.ref 50), some (.int (nI l)), some (.int (nI c)), some (.int (nI q)), some (.int (nI q))]) rfl (by decide) rfl ?_
  refine zn_heq (h' := mhp h F S (mbks z l c q q) A X) (congrArg (fun w => mhp h F S w A X) ?_) (m_takeSign_l hl hc hq h16 (z (25 + 8 * l + c) - 1 - q) q (by omega) (by omega))
  · funext j
    simp only [va_up, mbks]
    repeat' split
    all_goals first | omega | exact congrArg z (by omega)
/-- cells 1 .. k - 1 of line l + 1 stand behind cell c of line l -/
def mte (z : Nat → Nat) (l c k : Nat) : Nat → Nat := fun j => if 25 + 8 * l + c + 1 ≤ j ∧ j < 25 + 8 * l + c + k then z (j + 8 - c) else if 217 + 16 * (8 * l + c + 1) ≤ j ∧ j < 217 + 16 * (8 * l + c + k) then z (j + 128 - 16 * c) else z j
def mtke (z : Nat → Nat) (l c : Nat) : Nat → Nat := mcll (va_up (mte (mgt z (l + 1) 0 0 l c) l c (z (1 + (l + 1)))) (1 + l) (z (1 + l) + (z (1 + (l + 1)) - 1))) (l + 1)
theorem m_takeEnd_l {l c m r : Nat} (hl : l + 1 < z 0) (h24 : z 0 ≤ 24) (hr : z (1 + l) = r) (hm : z (1 + (l + 1)) = m) (h1 : 1 ≤ m) (hc : c + 1 = r) (h8 : r + m ≤ 9) : ∀ (n : Nat) (k : Nat), k + n = m → 1 ≤ k → Zn g zX10_takeEnd 13 [some (.ref 50), some (.int (nI l)), some (.int (nI c)), some (.int (nI k))] [] (mhp h F S (mte z l c k) A X) 0 0 (fun r' h' => r' = .inl none ∧ h' = (mhp h F S (mcll (va_up (mte z l c m) (1 + l) (r + (m - 1))) (l + 1)) A X)) := by
  intro n
  induction n with
  | zero =>
    intro k hn0 hn1
    refine zn_iload_n (pc := 13) rfl rfl ?_
    refine zn_aload_n (pc := 14) rfl rfl ?_
    refine zn_iload_n (pc := 15) rfl rfl ?_
    refine zn_iconstN (pc := 16) 1 rfl rfl ?_
    refine zn_iaddN (pc := 17) (x := l) (y := 1) rfl ?_
    refine zn_callVx (pc := 18) (J := zX10_cells) (o := 50) (as := [.int (nI (l + 1))]) (rest := [.int (nI k)]) rfl rfl rfl rfl rfl rfl rfl rfl (Nat.le_of_ble_eq_true rfl) (Nat.le_of_ble_eq_true rfl) (Nat.le_of_ble_eq_true rfl) (Nat.le_of_ble_eq_true rfl) (m_cells (l := (l + 1)) (by omega)) ?_
    refine zn_top (v' := .int (nI m)) (by congr 2; rw [← hm]; simp only [mte]; rw [if_neg (by omega), if_neg (by omega)]) ?_
    refine zn_icmp_geN (pc := 21) (tgt := 42) (x := k) (y := m) rfl rfl (by omega) (by omega) (fun c1 => ?_) (fun c1 => ?_)
    · have e0 : va_up (mte z l c k) (1 + l) (r + (m - 1)) 0 = z 0 := by simp only [va_up, mte]; rw [if_neg (by omega), if_neg (by omega), if_neg (by omega)]
      refine zn_aload_n (pc := 42) rfl rfl ?_
      refine zn_get (pc := 43) (v := .ref 51) rfl rfl rfl ?_
      refine zn_iconstN (pc := 46) 1 rfl rfl ?_
      refine zn_iload_n (pc := 47) rfl rfl ?_
      refine zn_iaddN (pc := 48) (x := 1) (y := l) rfl ?_
      refine zn_dup2 (pc := 49) rfl rfl rfl ?_
      refine zn_naLd (pc := 50) (o := 51) (n := 3289) (Z := (mte z l c k)) (j := (1 + l)) rfl rfl (by omega) (Nat.le_of_ble_eq_true rfl) ?_
      refine zn_top (v' := .int (nI r)) (by congr 2; rw [← hr]; simp only [mte]; rw [if_neg (by omega), if_neg (by omega)]) ?_
      refine zn_aload_n (pc := 51) rfl rfl ?_
      refine zn_iload_n (pc := 52) rfl rfl ?_
      refine zn_iconstN (pc := 53) 1 rfl rfl ?_
      refine zn_iaddN (pc := 54) (x := l) (y := 1) rfl ?_
      refine zn_callVx (pc := 55) (J := zX10_cells) (o := 50) (as := [.int (nI (l + 1))]) (rest := [.int (nI r), .int (nI (1 + l)), .ref 51]) rfl rfl rfl rfl rfl rfl rfl rfl (Nat.le_of_ble_eq_true rfl) (Nat.le_of_ble_eq_true rfl) (Nat.le_of_ble_eq_true rfl) (Nat.le_of_ble_eq_true rfl) (m_cells (l := (l + 1)) (by omega)) ?_
      refine zn_top (v' := .int (nI m)) (by congr 2; rw [← hm]; simp only [mte]; rw [if_neg (by omega), if_neg (by omega)]) ?_
      refine zn_iconstN (pc := 58) 1 rfl rfl ?_
      refine zn_isubN (pc := 59) (x := m) (y := 1) rfl (by omega) ?_
      refine zn_iaddN (pc := 60) (x := r) (y := (m - 1)) rfl ?_
      refine zm_stz (pc := 61) (j := (1 + l)) (v := (r + (m - 1))) rfl (by omega) ?_
      refine zn_aload_n (pc := 62) rfl rfl ?_
      refine zn_iload_n (pc := 63) rfl rfl ?_
      refine zn_iconstN (pc := 64) 1 rfl rfl ?_
      refine zn_iaddN (pc := 65) (x := l) (y := 1) rfl ?_
      refine zn_callVx (pc := 66) (J := zX10_closeLine) (o := 50) (as := [.int (nI (l + 1))]) (rest := []) rfl rfl rfl rfl rfl rfl rfl rfl (Nat.le_of_ble_eq_true rfl) (Nat.le_of_ble_eq_true rfl) (Nat.le_of_ble_eq_true rfl) (Nat.le_of_ble_eq_true rfl) (m_closeLine (l := (l + 1)) (by omega) (by omega) (by omega)) ?_
      obtain rfl : k = m := by omega
      exact zx_v (pc := 69) rfl rfl rfl rfl
    · exfalso; omega
  | succ n ih =>
    intro k hn0 hn1
    refine zn_iload_n (pc := 13) rfl rfl ?_
    refine zn_aload_n (pc := 14) rfl rfl ?_
    refine zn_iload_n (pc := 15) rfl rfl ?_
    refine zn_iconstN (pc := 16) 1 rfl rfl ?_
    refine zn_iaddN (pc := 17) (x := l) (y := 1) rfl ?_
    refine zn_callVx (pc := 18) (J := zX10_cells) (o := 50) (as := [.int (nI (l + 1))]) (rest := [.int (nI k)]) rfl rfl rfl rfl rfl rfl rfl rfl (Nat.le_of_ble_eq_true rfl) (Nat.le_of_ble_eq_true rfl) (Nat.le_of_ble_eq_true rfl) (Nat.le_of_ble_eq_true rfl) (m_cells (l := (l + 1)) (by omega)) ?_
    refine zn_top (v' := .int (nI m)) (by congr 2; rw [← hm]; simp only [mte]; rw [if_neg (by omega), if_neg (by omega)]) ?_
    refine zn_icmp_geN (pc := 21) (tgt := 42) (x := k) (y := m) rfl rfl (by omega) (by omega) (fun c1 => ?_) (fun c1 => ?_)
    · have e0 : va_up (mte z l c k) (1 + l) (r + (m - 1)) 0 = z 0 := by simp only [va_up, mte]; rw [if_neg (by omega), if_neg (by omega), if_neg (by omega)]
      refine zn_aload_n (pc := 42) rfl rfl ?_
      refine zn_get (pc := 43) (v := .ref 51) rfl rfl rfl ?_
      refine zn_iconstN (pc := 46) 1 rfl rfl ?_
      refine zn_iload_n (pc := 47) rfl rfl ?_
      refine zn_iaddN (pc := 48) (x := 1) (y := l) rfl ?_
      refine zn_dup2 (pc := 49) rfl rfl rfl ?_
      refine zn_naLd (pc := 50) (o := 51) (n := 3289) (Z := (mte z l c k)) (j := (1 + l)) rfl rfl (by omega) (Nat.le_of_ble_eq_true rfl) ?_
      refine zn_top (v' := .int (nI r)) (by congr 2; rw [← hr]; simp only [mte]; rw [if_neg (by omega), if_neg (by omega)]) ?_
      refine zn_aload_n (pc := 51) rfl rfl ?_
      refine zn_iload_n (pc := 52) rfl rfl ?_
      refine zn_iconstN (pc := 53) 1 rfl rfl ?_
      refine zn_iaddN (pc := 54) (x := l) (y := 1) rfl ?_
      refine zn_callVx (pc := 55) (J := zX10_cells) (o := 50) (as := [.int (nI (l + 1))]) (rest := [.int (nI r), .int (nI (1 + l)), .ref 51]) rfl rfl rfl rfl rfl rfl rfl rfl (Nat.le_of_ble_eq_true rfl) (Nat.le_of_ble_eq_true rfl) (Nat.le_of_ble_eq_true rfl) (Nat.le_of_ble_eq_true rfl) (m_cells (l := (l + 1)) (by omega)) ?_
      refine zn_top (v' := .int (nI m)) (by congr 2; rw [← hm]; simp only [mte]; rw [if_neg (by omega), if_neg (by omega)]) ?_
      refine zn_iconstN (pc := 58) 1 rfl rfl ?_
      refine zn_isubN (pc := 59) (x := m) (y := 1) rfl (by omega) ?_
      refine zn_iaddN (pc := 60) (x := r) (y := (m - 1)) rfl ?_
      refine zm_stz (pc := 61) (j := (1 + l)) (v := (r + (m - 1))) rfl (by omega) ?_
      refine zn_aload_n (pc := 62) rfl rfl ?_
      refine zn_iload_n (pc := 63) rfl rfl ?_
      refine zn_iconstN (pc := 64) 1 rfl rfl ?_
      refine zn_iaddN (pc := 65) (x := l) (y := 1) rfl ?_
      refine zn_callVx (pc := 66) (J := zX10_closeLine) (o := 50) (as := [.int (nI (l + 1))]) (rest := []) rfl rfl rfl rfl rfl rfl rfl rfl (Nat.le_of_ble_eq_true rfl) (Nat.le_of_ble_eq_true rfl) (Nat.le_of_ble_eq_true rfl) (Nat.le_of_ble_eq_true rfl) (m_closeLine (l := (l + 1)) (by omega) (by omega) (by omega)) ?_
      obtain rfl : k = m := by omega
      exact zx_v (pc := 69) rfl rfl rfl rfl
    · refine zn_aload_n (pc := 24) rfl rfl ?_
      refine zn_iload_n (pc := 25) rfl rfl ?_
      refine zn_iload_n (pc := 26) rfl rfl ?_
      refine zn_iload_n (pc := 27) rfl rfl ?_
      refine zn_iaddN (pc := 28) (x := c) (y := k) rfl ?_
      refine zn_iload_n (pc := 29) rfl rfl ?_
      refine zn_iconstN (pc := 30) 1 rfl rfl ?_
      refine zn_iaddN (pc := 31) (x := l) (y := 1) rfl ?_
      refine zn_iload_n (pc := 32) rfl rfl ?_
      refine zn_callVx (pc := 33) (J := zX10_copyCell) (o := 50) (as := [.int (nI l), .int (nI (c + k)), .int (nI (l + 1)), .int (nI k)]) (rest := []) rfl rfl rfl rfl rfl rfl rfl rfl (Nat.le_of_ble_eq_true rfl) (Nat.le_of_ble_eq_true rfl) (Nat.le_of_ble_eq_true rfl) (Nat.le_of_ble_eq_true rfl) (m_copyCell (t := l) (u := (c + k)) (l := (l + 1)) (c := k) (by omega) (by omega) (by omega) (by omega) (by omega)) ?_
      refine zn_iincN (pc := 36) (L' := [some (.ref 50), some (.int (nI l)), some (.int (nI c)), some (.int (nI (k + 1)))]) 1 rfl rfl rfl (by decide) rfl ?_
      refine zn_goto (pc := 39) (tgt := 13) rfl rfl ?_
      refine zn_heq (h' := mhp h F S (mte z l c (k + 1)) A X) (congrArg (fun w => mhp h F S w A X) ?_) (ih (k + 1) (by omega) (by omega))
      · funext j
        simp only [va_up, mte, mcpc]
        repeat' split
        all_goals first | omega | exact congrArg z (by omega)
theorem m_takeEnd  {l c : Nat} (hl : l + 1 < z 0) (h24 : z 0 ≤ 24) (h1 : 1 ≤ z (1 + (l + 1))) (hc : c + 1 = z (1 + l)) (h8 : z (1 + l) + z (1 + (l + 1)) ≤ 9) (h16 : z (25 + 8 * l + c) + z (25 + 8 * (l + 1) + 0) ≤ 16) : Zx g zX10_takeEnd [.ref 50, .int (nI l), .int (nI c)] (mhp h F S z A X) none (mhp h F S (mtke z l c) A X) := by
  have e3 : ∀ j, j < 25 → mgt z (l + 1) 0 0 l c j = z j := fun j hj => mgt_lo (by omega) (by omega) (by omega)
  show Zn g zX10_takeEnd 0 [some (.ref 50), some (.int (nI l)), some (.int (nI c)), none] [] (mhp h F S z A X) 0 0 _
  refine zn_aload_n (pc := 0) rfl rfl ?_
  refine zn_iload_n (pc := 1) rfl rfl ?_
  refine zn_iconstN (pc := 2) 1 rfl rfl ?_
  refine zn_iaddN (pc := 3) (x := l) (y := 1) rfl ?_
  refine zn_iconstN (pc := 4) 0 rfl rfl ?_
  refine zn_iconstN (pc := 5) 0 rfl rfl ?_
  refine zn_iload_n (pc := 6) rfl rfl ?_
  refine zn_iload_n (pc := 7) rfl rfl ?_
  refine zn_callVx (pc := 8) (J := zX10_giveTail) (o := 50) (as := [.int (nI (l + 1)), .int (nI 0), .int (nI 0), .int (nI l), .int (nI c)]) (rest := []) rfl rfl rfl rfl rfl rfl rfl rfl (Nat.le_of_ble_eq_true rfl) (Nat.le_of_ble_eq_true rfl) (Nat.le_of_ble_eq_true rfl) (Nat.le_of_ble_eq_true rfl) (m_giveTail (l := (l + 1)) (c := 0) (f := 0) (t := l) (u := c) (by omega) (by omega) (by omega) (by omega) (by omega) (by omega) (by omega) (by omega)) ?_
  refine zn_iconstN (pc := 11) 1 rfl rfl ?_
  refine zn_istore_n (pc := 12) (L' := [some (.ref 50), some (.int (nI l)), some (.int (nI c)), some (.int (nI 1))]) rfl (by decide) rfl ?_
  refine zn_heq (h' := mhp h F S (mte (mgt z (l + 1) 0 0 l c) l c 1) A X) (congrArg (fun w => mhp h F S w A X) ?_) (m_takeEnd_l (z := mgt z (l + 1) 0 0 l c) (m := z (1 + (l + 1))) (r := z (1 + l)) (by rw [e3 0 (by omega)]; exact hl) (by rw [e3 0 (by omega)]; exact h24) (e3 _ (by omega)) (e3 _ (by omega)) h1 hc (by omega) (z (1 + (l + 1)) - 1) 1 (by omega) (by omega))
  · funext j
    simp only [mte]
    rw [if_neg (by omega), if_neg (by omega)]
end m1
