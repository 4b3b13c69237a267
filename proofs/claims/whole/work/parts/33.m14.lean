section m1
variable {g : zG} {h hh : zH} {F : Nat → Nat} {S : Int64} {z : Nat → Nat} {A : Nat → Nat → Nat} {X : Nat → Int32}
theorem m_valueOf_2 {l c : Nat} (hl : l < 24) (hc : c < 8) (h16 : z (25 + 8 * l + c) ≤ 16) (hzb : ∀ j, z j < 1000) : ∀ (n : Nat) (k : Nat) (v W : Int64), n = 4 - k → k < 100 → W = smul n v → Zn g zX10_valueOf 110 [some (.ref 50), some (.int (nI l)), some (.int (nI c)), some (.long v), none, none, none, some (.int (nI k)), none] [] (mhp h F S z A X) 0 0 (fun r' h' => r' = .inl (some (.long (if z (217 + 16 * (8 * l + c) + 0) = 45 then - W else W))) ∧ h' = (mhp h F S z A X)) := by
  intro n
  induction n with
  | zero =>
    intro k v W hn0 hn1 hn2
    refine zn_iload (pc := 110) rfl rfl ?_
    refine zn_iconstN (pc := 112) 4 rfl rfl ?_
    refine zn_icmp_geN (pc := 113) (tgt := 128) (x := k) (y := 4) rfl rfl (by have := hzb (217 + 16 * (8 * l + c) + k); have := hzb (217 + 16 * (8 * l + c) + 0); omega) (by have := hzb (217 + 16 * (8 * l + c) + k); have := hzb (217 + 16 * (8 * l + c) + 0); omega) (fun c1 => ?_) (fun c1 => ?_)
    · refine zn_aload_n (pc := 128) rfl rfl ?_
      refine zn_iload_n (pc := 129) rfl rfl ?_
      refine zn_iload_n (pc := 130) rfl rfl ?_
      refine zn_iconstN (pc := 131) 0 rfl rfl ?_
      refine zn_callVx (pc := 132) (J := zX10_signOf) (o := 50) (as := [.int (nI l), .int (nI c), .int (nI 0)]) (rest := []) rfl rfl rfl rfl rfl rfl rfl rfl (Nat.le_of_ble_eq_true rfl) (Nat.le_of_ble_eq_true rfl) (Nat.le_of_ble_eq_true rfl) (Nat.le_of_ble_eq_true rfl) (m_signOf (l := l) (c := c) (k := 0) (by omega) (by omega) (by omega)) ?_
      refine zn_bipushN (pc := 135) 45 rfl rfl ?_
      refine zn_icmp_neN (pc := 137) (tgt := 145) (x := (z (217 + 16 * (8 * l + c) + 0))) (y := 45) rfl rfl (by have := hzb (217 + 16 * (8 * l + c) + k); have := hzb (217 + 16 * (8 * l + c) + 0); omega) (by have := hzb (217 + 16 * (8 * l + c) + k); have := hzb (217 + 16 * (8 * l + c) + 0); omega) (fun c2 => ?_) (fun c2 => ?_)
      · refine zn_lload_n (pc := 145) rfl rfl ?_
        exact zx_l (pc := 146) rfl rfl (by rw [if_neg (by assumption), hn2]; simp only [smul]) rfl
      · refine zn_lload_n (pc := 140) rfl rfl ?_
        refine zn_lneg (pc := 141) rfl ?_
        refine zn_goto (pc := 142) (tgt := 146) rfl rfl ?_
        exact zx_l (pc := 146) rfl rfl (by rw [if_pos (by assumption), hn2]; simp only [smul]) rfl
    · exfalso; omega
  | succ n ih =>
    intro k v W hn0 hn1 hn2
    refine zn_iload (pc := 110) rfl rfl ?_
    refine zn_iconstN (pc := 112) 4 rfl rfl ?_
    refine zn_icmp_geN (pc := 113) (tgt := 128) (x := k) (y := 4) rfl rfl (by have := hzb (217 + 16 * (8 * l + c) + k); have := hzb (217 + 16 * (8 * l + c) + 0); omega) (by have := hzb (217 + 16 * (8 * l + c) + k); have := hzb (217 + 16 * (8 * l + c) + 0); omega) (fun c1 => ?_) (fun c1 => ?_)
    · refine zn_aload_n (pc := 128) rfl rfl ?_
      refine zn_iload_n (pc := 129) rfl rfl ?_
      refine zn_iload_n (pc := 130) rfl rfl ?_
      refine zn_iconstN (pc := 131) 0 rfl rfl ?_
      refine zn_callVx (pc := 132) (J := zX10_signOf) (o := 50) (as := [.int (nI l), .int (nI c), .int (nI 0)]) (rest := []) rfl rfl rfl rfl rfl rfl rfl rfl (Nat.le_of_ble_eq_true rfl) (Nat.le_of_ble_eq_true rfl) (Nat.le_of_ble_eq_true rfl) (Nat.le_of_ble_eq_true rfl) (m_signOf (l := l) (c := c) (k := 0) (by omega) (by omega) (by omega)) ?_
      refine zn_bipushN (pc := 135) 45 rfl rfl ?_
      refine zn_icmp_neN (pc := 137) (tgt := 145) (x := (z (217 + 16 * (8 * l + c) + 0))) (y := 45) rfl rfl (by have := hzb (217 + 16 * (8 * l + c) + k); have := hzb (217 + 16 * (8 * l + c) + 0); omega) (by have := hzb (217 + 16 * (8 * l + c) + k); have := hzb (217 + 16 * (8 * l + c) + 0); omega) (fun c2 => ?_) (fun c2 => ?_)
      · refine zn_lload_n (pc := 145) rfl rfl ?_
        exfalso; omega
      · refine zn_lload_n (pc := 140) rfl rfl ?_
        refine zn_lneg (pc := 141) rfl ?_
        refine zn_goto (pc := 142) (tgt := 146) rfl rfl ?_
        exfalso; omega
    · refine zn_lload_n (pc := 116) rfl rfl ?_
      refine zn_ldc2 (pc := 117) (v := 10) rfl ?_
      refine zn_lmul (pc := 120) rfl ?_
      refine zn_lstore_n (pc := 121) (L' := [some (.ref 50), some (.int (nI l)), some (.int (nI c)), some (.long (v * (lN 10))), none, none, none, some (.int (nI k)), none]) rfl (by decide) rfl ?_
      refine zn_iincN (pc := 122) (L' := [some (.ref 50), some (.int (nI l)), some (.int (nI c)), some (.long (v * (lN 10))), none, none, none, some (.int (nI (k + 1))), none]) 1 rfl rfl rfl (by decide) rfl ?_
      refine zn_goto (pc := 125) (tgt := 110) rfl rfl ?_
      exact ih (k + 1) (v * lN 10) W (by omega) (by omega) (by rw [hn2]; simp only [smul])
theorem m_valueOf_1 {l c : Nat} (hl : l < 24) (hc : c < 8) (h16 : z (25 + 8 * l + c) ≤ 16) (hzb : ∀ j, z j < 1000) : ∀ (n : Nat) (k a b : Nat) (v : Int64) (R : Int64 × Nat), k + n = z (25 + 8 * l + c) → R = sval (mf z l c) n k v a b → a ≤ k → b ≤ 1 → Zn g zX10_valueOf 11 [some (.ref 50), some (.int (nI l)), some (.int (nI c)), some (.long v), none, some (.int (nI a)), some (.int (nI b)), some (.int (nI k)), none] [] (mhp h F S z A X) 0 0 (fun r' h' => r' = .inl (some (.long (if z (217 + 16 * (8 * l + c) + 0) = 45 then - smul (4 - R.2) R.1 else smul (4 - R.2) R.1))) ∧ h' = (mhp h F S z A X)) := by
  intro n
  induction n with
  | zero =>
    intro k a b v R hn0 hn1 hn2 hn3
    refine zn_iload (pc := 11) rfl rfl ?_
    refine zn_aload_n (pc := 13) rfl rfl ?_
    refine zn_iload_n (pc := 14) rfl rfl ?_
    refine zn_iload_n (pc := 15) rfl rfl ?_
    refine zn_callVx (pc := 16) (J := zX10_lengthOf) (o := 50) (as := [.int (nI l), .int (nI c)]) (rest := [.int (nI k)]) rfl rfl rfl rfl rfl rfl rfl rfl (Nat.le_of_ble_eq_true rfl) (Nat.le_of_ble_eq_true rfl) (Nat.le_of_ble_eq_true rfl) (Nat.le_of_ble_eq_true rfl) (m_lengthOf (l := l) (c := c) (by omega) (by omega)) ?_
    refine zn_icmp_geN (pc := 19) (tgt := 106) (x := k) (y := (z (25 + 8 * l + c))) rfl rfl (by have := hzb (217 + 16 * (8 * l + c) + k); omega) (by have := hzb (217 + 16 * (8 * l + c) + k); omega) (fun c1 => ?_) (fun c1 => ?_)
    · refine zn_iload (pc := 106) rfl rfl ?_
      refine zn_istore (pc := 108) (L' := [some (.ref 50), some (.int (nI l)), some (.int (nI c)), some (.long v), none, some (.int (nI a)), some (.int (nI b)), some (.int (nI a)), none]) rfl (by decide) rfl ?_
      have hR : R = (v, a) := by rw [hn1]; simp only [sval]
      rw [hR]
      exact zn_sub (L' := [some (.ref 50), some (.int (nI l)), some (.int (nI c)), some (.long v), none, none, none, some (.int (nI a)), none]) ⟨rfl, rfl, rfl, rfl, rfl, trivial⟩ (m_valueOf_2 hl hc h16 hzb (4 - a) a v _ (by omega) (by omega) rfl)
    · exfalso; omega
  | succ n ih =>
    intro k a b v R hn0 hn1 hn2 hn3
    refine zn_iload (pc := 11) rfl rfl ?_
    refine zn_aload_n (pc := 13) rfl rfl ?_
    refine zn_iload_n (pc := 14) rfl rfl ?_
    refine zn_iload_n (pc := 15) rfl rfl ?_
    refine zn_callVx (pc := 16) (J := zX10_lengthOf) (o := 50) (as := [.int (nI l), .int (nI c)]) (rest := [.int (nI k)]) rfl rfl rfl rfl rfl rfl rfl rfl (Nat.le_of_ble_eq_true rfl) (Nat.le_of_ble_eq_true rfl) (Nat.le_of_ble_eq_true rfl) (Nat.le_of_ble_eq_true rfl) (m_lengthOf (l := l) (c := c) (by omega) (by omega)) ?_
    refine zn_icmp_geN (pc := 19) (tgt := 106) (x := k) (y := (z (25 + 8 * l + c))) rfl rfl (by have := hzb (217 + 16 * (8 * l + c) + k); omega) (by have := hzb (217 + 16 * (8 * l + c) + k); omega) (fun c1 => ?_) (fun c1 => ?_)
    · refine zn_iload (pc := 106) rfl rfl ?_
      refine zn_istore (pc := 108) (L' := [some (.ref 50), some (.int (nI l)), some (.int (nI c)), some (.long v), none, some (.int (nI a)), some (.int (nI b)), some (.int (nI a)), none]) rfl (by decide) rfl ?_
      exfalso; omega
    · refine zn_aload_n (pc := 22) rfl rfl ?_
      refine zn_iload_n (pc := 23) rfl rfl ?_
      refine zn_iload_n (pc := 24) rfl rfl ?_
      refine zn_iload (pc := 25) rfl rfl ?_
      refine zn_callVx (pc := 27) (J := zX10_signOf) (o := 50) (as := [.int (nI l), .int (nI c), .int (nI k)]) (rest := []) rfl rfl rfl rfl rfl rfl rfl rfl (Nat.le_of_ble_eq_true rfl) (Nat.le_of_ble_eq_true rfl) (Nat.le_of_ble_eq_true rfl) (Nat.le_of_ble_eq_true rfl) (m_signOf (l := l) (c := c) (k := k) (by omega) (by omega) (by omega)) ?_
      refine zn_istore (pc := 30) (L' := [some (.ref 50), some (.int (nI l)), some (.int (nI c)), some (.long v), none, some (.int (nI a)), some (.int (nI b)), some (.int (nI k)), some (.int (nI (z (217 + 16 * (8 * l + c) + k))))]) rfl (by decide) rfl ?_
      refine zn_joinV (v := .long (if sDig (z (217 + 16 * (8 * l + c) + k)) then lN 10 * v + (nI (z (217 + 16 * (8 * l + c) + k))).toInt64 - lN 48 else v)) (pj := 57) ?_ (fun K2 => ?_)
      · refine zn_lstore_n (pc := 57) (L' := [some (.ref 50), some (.int (nI l)), some (.int (nI c)), some (.long (if sDig (z (217 + 16 * (8 * l + c) + k)) then lN 10 * v + (nI (z (217 + 16 * (8 * l + c) + k))).toInt64 - lN 48 else v)), none, some (.int (nI a)), some (.int (nI b)), some (.int (nI k)), some (.int (nI (z (217 + 16 * (8 * l + c) + k))))]) rfl (by decide) rfl ?_
        refine zn_iload (pc := 58) rfl rfl ?_
        refine zn_joinV (v := .int (nI (if 0 < b ∧ sDig (z (217 + 16 * (8 * l + c) + k)) then 1 else 0))) (pj := 78) ?_ (fun K3 => ?_)
        · refine zn_iaddN (pc := 78) (x := a) (y := (if 0 < b ∧ sDig (z (217 + 16 * (8 * l + c) + k)) then 1 else 0)) rfl ?_
          refine zn_istore (pc := 79) (L' := [some (.ref 50), some (.int (nI l)), some (.int (nI c)), some (.long (if sDig (z (217 + 16 * (8 * l + c) + k)) then lN 10 * v + (nI (z (217 + 16 * (8 * l + c) + k))).toInt64 - lN 48 else v)), none, some (.int (nI (a + (if 0 < b ∧ sDig (z (217 + 16 * (8 * l + c) + k)) then 1 else 0)))), some (.int (nI b)), some (.int (nI k)), some (.int (nI (z (217 + 16 * (8 * l + c) + k))))]) rfl (by decide) rfl ?_
          refine zn_joinV (v := .int (nI (if 0 < b ∨ z (217 + 16 * (8 * l + c) + k) = 46 then 1 else 0))) (pj := 98) ?_ (fun K4 => ?_)
          · refine zn_istore (pc := 98) (L' := [some (.ref 50), some (.int (nI l)), some (.int (nI c)), some (.long (if sDig (z (217 + 16 * (8 * l + c) + k)) then lN 10 * v + (nI (z (217 + 16 * (8 * l + c) + k))).toInt64 - lN 48 else v)), none, some (.int (nI (a + (if 0 < b ∧ sDig (z (217 + 16 * (8 * l + c) + k)) then 1 else 0)))), some (.int (nI (if 0 < b ∨ z (217 + 16 * (8 * l + c) + k) = 46 then 1 else 0))), some (.int (nI k)), some (.int (nI (z (217 + 16 * (8 * l + c) + k))))]) rfl (by decide) rfl ?_
            refine zn_iincN (pc := 100) (L' := [some (.ref 50), some (.int (nI l)), some (.int (nI c)), some (.long (if sDig (z (217 + 16 * (8 * l + c) + k)) then lN 10 * v + (nI (z (217 + 16 * (8 * l + c) + k))).toInt64 - lN 48 else v)), none, some (.int (nI (a + (if 0 < b ∧ sDig (z (217 + 16 * (8 * l + c) + k)) then 1 else 0)))), some (.int (nI (if 0 < b ∨ z (217 + 16 * (8 * l + c) + k) = 46 then 1 else 0))), some (.int (nI (k + 1))), some (.int (nI (z (217 + 16 * (8 * l + c) + k))))]) 1 rfl rfl rfl (by decide) rfl ?_
            refine zn_goto (pc := 103) (tgt := 11) rfl rfl ?_
            refine zn_sub (L' := [some (.ref 50), some (.int (nI l)), some (.int (nI c)), some (.long (if sDig (z (217 + 16 * (8 * l + c) + k)) then lN 10 * v + (nI (z (217 + 16 * (8 * l + c) + k))).toInt64 - lN 48 else v)), none, some (.int (nI (a + (if 0 < b ∧ sDig (z (217 + 16 * (8 * l + c) + k)) then 1 else 0)))), some (.int (nI (if 0 < b ∨ z (217 + 16 * (8 * l + c) + k) = 46 then 1 else 0))), some (.int (nI (k + 1))), none]) ⟨rfl, rfl, rfl, rfl, rfl, rfl, rfl, trivial⟩ (ih (k + 1) (a + (if 0 < b ∧ sDig (z (217 + 16 * (8 * l + c) + k)) then 1 else 0)) (if 0 < b ∨ z (217 + 16 * (8 * l + c) + k) = 46 then 1 else 0) (if sDig (z (217 + 16 * (8 * l + c) + k)) then lN 10 * v + (nI (z (217 + 16 * (8 * l + c) + k))).toInt64 - lN 48 else v) R (by omega) (by rw [hn1]; simp only [sval]) (by split <;> omega) (by split <;> omega))
          · refine zn_iload (pc := 81) rfl rfl ?_
            refine zn_if_neN (pc := 83) (tgt := 93) (x := b) rfl rfl (by have := hzb (217 + 16 * (8 * l + c) + k); omega) (fun c5 => ?_) (fun c5 => ?_)
            · refine zn_iconstN (pc := 93) 1 rfl rfl ?_
              refine zn_goto (pc := 94) (tgt := 98) rfl rfl ?_
              exact zn_top (v' := .int (nI (if 0 < b ∨ z (217 + 16 * (8 * l + c) + k) = 46 then 1 else 0))) (by rw [if_pos (by omega)]) K4
            · refine zn_iload (pc := 86) rfl rfl ?_
              refine zn_bipushN (pc := 88) 46 rfl rfl ?_
              refine zn_icmp_neN (pc := 90) (tgt := 97) (x := (z (217 + 16 * (8 * l + c) + k))) (y := 46) rfl rfl (by have := hzb (217 + 16 * (8 * l + c) + k); omega) (by have := hzb (217 + 16 * (8 * l + c) + k); omega) (fun c6 => ?_) (fun c6 => ?_)
              · refine zn_iconstN (pc := 97) 0 rfl rfl ?_
                exact zn_top (v' := .int (nI (if 0 < b ∨ z (217 + 16 * (8 * l + c) + k) = 46 then 1 else 0))) (by rw [if_neg (by omega)]) K4
              · refine zn_iconstN (pc := 93) 1 rfl rfl ?_
                refine zn_goto (pc := 94) (tgt := 98) rfl rfl ?_
                exact zn_top (v' := .int (nI (if 0 < b ∨ z (217 + 16 * (8 * l + c) + k) = 46 then 1 else 0))) (by rw [if_pos (by omega)]) K4
        · refine zn_iload (pc := 60) rfl rfl ?_
          refine zn_if_eqN (pc := 62) (tgt := 77) (x := b) rfl rfl (by have := hzb (217 + 16 * (8 * l + c) + k); omega) (fun c7 => ?_) (fun c7 => ?_)
          · refine zn_iconstN (pc := 77) 0 rfl rfl ?_
            exact zn_top (v' := .int (nI (if 0 < b ∧ sDig (z (217 + 16 * (8 * l + c) + k)) then 1 else 0))) (by rw [if_neg (by intro q; first | exact absurd q.1 (by omega) | exact absurd q.2 (by assumption))]) K3
          · refine zn_iload (pc := 65) rfl rfl ?_
            refine zn_callSx (pc := 67) (J := zX10_isFigure) (as := [.int (nI (z (217 + 16 * (8 * l + c) + k)))]) (rest := [.int (nI a)]) rfl (by decide) rfl rfl rfl rfl (Nat.le_of_ble_eq_true rfl) (Nat.le_of_ble_eq_true rfl) (Nat.le_of_ble_eq_true rfl) (Nat.le_of_ble_eq_true rfl) (m_isFigureN (c := (z (217 + 16 * (8 * l + c) + k))) (by have := hzb (217 + 16 * (8 * l + c) + k); omega)) ?_
            refine zn_if_eqB (pc := 70) (tgt := 77) rfl rfl (fun c8 => ?_) (fun c8 => ?_)
            · refine zn_iconstN (pc := 77) 0 rfl rfl ?_
              exact zn_top (v' := .int (nI (if 0 < b ∧ sDig (z (217 + 16 * (8 * l + c) + k)) then 1 else 0))) (by rw [if_neg (by intro q; first | exact absurd q.1 (by omega) | exact absurd q.2 (by assumption))]) K3
            · refine zn_iconstN (pc := 73) 1 rfl rfl ?_
              refine zn_goto (pc := 74) (tgt := 78) rfl rfl ?_
              exact zn_top (v' := .int (nI (if 0 < b ∧ sDig (z (217 + 16 * (8 * l + c) + k)) then 1 else 0))) (by rw [if_pos ⟨by omega, by assumption⟩]) K3
      · refine zn_iload (pc := 32) rfl rfl ?_
        refine zn_callSx (pc := 34) (J := zX10_isFigure) (as := [.int (nI (z (217 + 16 * (8 * l + c) + k)))]) (rest := []) rfl (by decide) rfl rfl rfl rfl (Nat.le_of_ble_eq_true rfl) (Nat.le_of_ble_eq_true rfl) (Nat.le_of_ble_eq_true rfl) (Nat.le_of_ble_eq_true rfl) (m_isFigureN (c := (z (217 + 16 * (8 * l + c) + k))) (by have := hzb (217 + 16 * (8 * l + c) + k); omega)) ?_
        refine zn_if_eqB (pc := 37) (tgt := 56) rfl rfl (fun c9 => ?_) (fun c9 => ?_)
        · refine zn_lload_n (pc := 56) rfl rfl ?_
          exact zn_top (v' := .long (if sDig (z (217 + 16 * (8 * l + c) + k)) then lN 10 * v + (nI (z (217 + 16 * (8 * l + c) + k))).toInt64 - lN 48 else v)) (by rw [if_neg (by assumption)]) K2
        · refine zn_ldc2 (pc := 40) (v := 10) rfl ?_
          refine zn_lload_n (pc := 43) rfl rfl ?_
          refine zn_lmul (pc := 44) rfl ?_
          refine zn_iload (pc := 45) rfl rfl ?_
          refine zn_i2l (pc := 47) rfl ?_
          refine zn_ladd (pc := 48) rfl ?_
          refine zn_ldc2 (pc := 49) (v := 48) rfl ?_
          refine zn_lsub (pc := 52) rfl ?_
          refine zn_goto (pc := 53) (tgt := 57) rfl rfl ?_
          exact zn_top (v' := .long (if sDig (z (217 + 16 * (8 * l + c) + k)) then lN 10 * v + (nI (z (217 + 16 * (8 * l + c) + k))).toInt64 - lN 48 else v)) (by rw [if_pos (by assumption)]) K2
theorem m_valueOf  {l c : Nat} (hl : l < 24) (hc : c < 8) (h16 : z (25 + 8 * l + c) ≤ 16) (hzb : ∀ j, z j < 1000) : Zx g zX10_valueOf [.ref 50, .int (nI l), .int (nI c)] (mhp h F S z A X) (some (.long (sVal (mf z l c) (z (25 + 8 * l + c))))) (mhp h F S z A X) := by
  show Zn g zX10_valueOf 0 [some (.ref 50), some (.int (nI l)), some (.int (nI c)), none, none, none, none, none, none] [] (mhp h F S z A X) 0 0 _
  refine zn_lconst (pc := 0) 0 rfl rfl ?_
  refine zn_lstore_n (pc := 1) (L' := [some (.ref 50), some (.int (nI l)), some (.int (nI c)), some (.long 0), none, none, none, none, none]) rfl (by decide) rfl ?_
  refine zn_iconstN (pc := 2) 0 rfl rfl ?_
  refine zn_istore (pc := 3) (L' := [some (.ref 50), some (.int (nI l)), some (.int (nI c)), some (.long 0), none, some (.int (nI 0)), none, none, none]) rfl (by decide) rfl ?_
  refine zn_iconstN (pc := 5) 0 rfl rfl ?_
  refine zn_istore (pc := 6) (L' := [some (.ref 50), some (.int (nI l)), some (.int (nI c)), some (.long 0), none, some (.int (nI 0)), some (.int (nI 0)), none, none]) rfl (by decide) rfl ?_
  refine zn_iconstN (pc := 8) 0 rfl rfl ?_
  refine zn_istore (pc := 9) (L' := [some (.ref 50), some (.int (nI l)), some (.int (nI c)), some (.long 0), none, some (.int (nI 0)), some (.int (nI 0)), some (.int (nI 0)), none]) rfl (by decide) rfl ?_
  exact zn_sub (L' := [some (.ref 50), some (.int (nI l)), some (.int (nI c)), some (.long 0), none, some (.int (nI 0)), some (.int (nI 0)), some (.int (nI 0)), none]) ⟨rfl, rfl, rfl, rfl, rfl, rfl, rfl, trivial⟩ (m_valueOf_1 hl hc h16 hzb (z (25 + 8 * l + c)) 0 0 0 0 _ (by omega) rfl (by omega) (by omega))
/-- the last block before n that has line l of column c -/
def bOf (A : Nat → Nat → Nat) (l c : Nat) : Nat → Option Nat
  | 0 => none
  | n + 1 => if A 6 n = c ∧ A 7 n ≤ l ∧ l ≤ A 8 n then some n else bOf A l c n
def oI : Option Nat → Int32
  | none => -1
  | some b => nI b
def mOf (A : Nat → Nat → Nat) (z : Nat → Nat) (l c n : Nat) : Option Nat := if mE z c l then bOf A l c n else none
theorem mOf_s (A : Nat → Nat → Nat) (z : Nat → Nat) (l c n : Nat) : mOf A z l c (n + 1) = if mE z c l ∧ A 6 n = c ∧ A 7 n ≤ l ∧ l ≤ A 8 n then some n else mOf A z l c n := by
  unfold mOf
  simp only [bOf]
  by_cases h1 : mE z c l
  · rw [if_pos h1, if_pos h1]
    by_cases h2 : A 6 n = c ∧ A 7 n ≤ l ∧ l ≤ A 8 n
    · rw [if_pos h2, if_pos ⟨h1, h2⟩]
    · rw [if_neg h2, if_neg (fun q => h2 q.2)]
  · rw [if_neg h1, if_neg h1, if_neg (fun q => h1 q.1)]
theorem m_blockOf_l {l c : Nat} (hz : mOK z) (hl : l < 2 ^ 20) (hc : c < 8) (h168 : F 13 ≤ 168) (ha : ∀ i j, A i j < 2 ^ 20) : ∀ (n : Nat) (k : Nat), k + n = F 13 → Zn g zX10_blockOf 5 [some (.ref 50), some (.int (nI l)), some (.int (nI c)), some (.int (oI (mOf A z l c k))), some (.int (nI k))] [] (mhp h F S z A X) 0 0 (fun r' h' => r' = .inl (some (.int (oI (mOf A z l c (F 13))))) ∧ h' = (mhp h F S z A X)) := by
  intro n
  induction n with
  | zero =>
    intro k hn0
    refine zn_iload (pc := 5) rfl rfl ?_
    refine zn_aload_n (pc := 7) rfl rfl ?_
    refine zn_get (pc := 8) (v := .int (nI (F 13))) rfl rfl rfl ?_
    refine zn_icmp_geN (pc := 11) (tgt := 68) (x := k) (y := (F 13)) rfl rfl (by have := ha 6 k; have := ha 7 k; have := ha 8 k; omega) (by have := ha 6 k; have := ha 7 k; have := ha 8 k; omega) (fun c1 => ?_) (fun c1 => ?_)
    · refine zn_iload_n (pc := 68) rfl rfl ?_
      obtain rfl : k = F 13 := by omega
      exact zx_i (pc := 69) rfl rfl rfl rfl
    · exfalso; omega
  | succ n ih =>
    intro k hn0
    refine zn_iload (pc := 5) rfl rfl ?_
    refine zn_aload_n (pc := 7) rfl rfl ?_
    refine zn_get (pc := 8) (v := .int (nI (F 13))) rfl rfl rfl ?_
    refine zn_icmp_geN (pc := 11) (tgt := 68) (x := k) (y := (F 13)) rfl rfl (by have := ha 6 k; have := ha 7 k; have := ha 8 k; omega) (by have := ha 6 k; have := ha 7 k; have := ha 8 k; omega) (fun c1 => ?_) (fun c1 => ?_)
    · refine zn_iload_n (pc := 68) rfl rfl ?_
      obtain rfl : k = F 13 := by omega
      exact zx_i (pc := 69) rfl rfl rfl rfl
    · refine zn_joinV (v := .int (oI (mOf A z l c (k + 1)))) (pj := 61) ?_ (fun K2 => ?_)
      · refine zn_istore_n (pc := 61) (L' := [some (.ref 50), some (.int (nI l)), some (.int (nI c)), some (.int (oI (mOf A z l c (k + 1)))), some (.int (nI k))]) rfl (by decide) rfl ?_
        refine zn_iincN (pc := 62) (L' := [some (.ref 50), some (.int (nI l)), some (.int (nI c)), some (.int (oI (mOf A z l c (k + 1)))), some (.int (nI (k + 1)))]) 1 rfl rfl rfl (by decide) rfl ?_
        refine zn_goto (pc := 65) (tgt := 5) rfl rfl ?_
        exact ih (k + 1) (by omega)
      · refine zn_aload_n (pc := 14) rfl rfl ?_
        refine zn_iload_n (pc := 15) rfl rfl ?_
        refine zn_iload_n (pc := 16) rfl rfl ?_
        refine zn_callVx (pc := 17) (J := zX10_isEnded) (o := 50) (as := [.int (nI l), .int (nI c)]) (rest := []) rfl rfl rfl rfl rfl rfl rfl rfl (Nat.le_of_ble_eq_true rfl) (Nat.le_of_ble_eq_true rfl) (Nat.le_of_ble_eq_true rfl) (Nat.le_of_ble_eq_true rfl) (m_isEndedN hz (l := l) (c := c) (by omega) (by omega)) ?_
        refine zn_if_eqB (pc := 20) (tgt := 60) rfl rfl (fun c3 => ?_) (fun c3 => ?_)
        · refine zn_iload_n (pc := 60) rfl rfl ?_
          exact zn_top (v' := .int (oI (mOf A z l c (k + 1)))) (by rw [mOf_s, if_neg (by intro q; first | exact absurd q.1 (by assumption) | exact absurd q.2.1 (by assumption) | exact absurd q.2.2 (by assumption))]) K2
        · refine zn_aload_n (pc := 23) rfl rfl ?_
          refine zn_get (pc := 24) (v := .ref 57) rfl rfl rfl ?_
          refine zn_iload (pc := 27) rfl rfl ?_
          refine zm_ldA (pc := 29) (i := 6) (n := 168) (Z := (A 6)) (j := k) rfl (by decide) (by decide) rfl mln6 rfl (by omega) (Nat.le_of_ble_eq_true rfl) ?_
          refine zn_iload_n (pc := 30) rfl rfl ?_
          refine zn_icmp_neN (pc := 31) (tgt := 60) (x := ((A 6) k)) (y := c) rfl rfl (by have := ha 6 k; have := ha 7 k; have := ha 8 k; omega) (by have := ha 6 k; have := ha 7 k; have := ha 8 k; omega) (fun c4 => ?_) (fun c4 => ?_)
          · refine zn_iload_n (pc := 60) rfl rfl ?_
            exact zn_top (v' := .int (oI (mOf A z l c (k + 1)))) (by rw [mOf_s, if_neg (by intro q; first | exact absurd q.1 (by assumption) | exact absurd q.2.1 (by assumption) | exact absurd q.2.2 (by assumption))]) K2
          · refine zn_iload_n (pc := 34) rfl rfl ?_
            refine zn_aload_n (pc := 35) rfl rfl ?_
            refine zn_get (pc := 36) (v := .ref 58) rfl rfl rfl ?_
            refine zn_iload (pc := 39) rfl rfl ?_
            refine zm_ldA (pc := 41) (i := 7) (n := 168) (Z := (A 7)) (j := k) rfl (by decide) (by decide) rfl mln7 rfl (by omega) (Nat.le_of_ble_eq_true rfl) ?_
            refine zn_aload_n (pc := 42) rfl rfl ?_
            refine zn_get (pc := 43) (v := .ref 59) rfl rfl rfl ?_
            refine zn_iload (pc := 46) rfl rfl ?_
            refine zm_ldA (pc := 48) (i := 8) (n := 168) (Z := (A 8)) (j := k) rfl (by decide) (by decide) rfl mln8 rfl (by omega) (Nat.le_of_ble_eq_true rfl) ?_
            refine zn_callSx (pc := 49) (J := zX10_within) (as := [.int (nI l), .int (nI ((A 7) k)), .int (nI ((A 8) k))]) (rest := []) rfl (by decide) rfl rfl rfl rfl (Nat.le_of_ble_eq_true rfl) (Nat.le_of_ble_eq_true rfl) (Nat.le_of_ble_eq_true rfl) (Nat.le_of_ble_eq_true rfl) (m_withinN (v := l) (a := ((A 7) k)) (b := ((A 8) k)) (by have := ha 6 k; have := ha 7 k; have := ha 8 k; omega) (by have := ha 6 k; have := ha 7 k; have := ha 8 k; omega) (by have := ha 6 k; have := ha 7 k; have := ha 8 k; omega)) ?_
            refine zn_if_eqB (pc := 52) (tgt := 60) rfl rfl (fun c5 => ?_) (fun c5 => ?_)
            · refine zn_iload_n (pc := 60) rfl rfl ?_
              exact zn_top (v' := .int (oI (mOf A z l c (k + 1)))) (by rw [mOf_s, if_neg (by intro q; first | exact absurd q.1 (by assumption) | exact absurd q.2.1 (by assumption) | exact absurd q.2.2 (by assumption))]) K2
            · refine zn_iload (pc := 55) rfl rfl ?_
              refine zn_goto (pc := 57) (tgt := 61) rfl rfl ?_
              exact zn_top (v' := .int (oI (mOf A z l c (k + 1)))) (by rw [mOf_s, if_pos ⟨by assumption, by assumption, by assumption⟩]; rfl) K2
theorem m_blockOf  {l c : Nat} (hz : mOK z) (hl : l < 2 ^ 20) (hc : c < 8) (h168 : F 13 ≤ 168) (ha : ∀ i j, A i j < 2 ^ 20) : Zx g zX10_blockOf [.ref 50, .int (nI l), .int (nI c)] (mhp h F S z A X) (some (.int (oI (mOf A z l c (F 13))))) (mhp h F S z A X) := by
  show Zn g zX10_blockOf 0 [some (.ref 50), some (.int (nI l)), some (.int (nI c)), none, none] [] (mhp h F S z A X) 0 0 _
  refine zn_iconst (pc := 0) (-1) rfl rfl ?_
  refine zn_istore_n (pc := 1) (L' := [some (.ref 50), some (.int (nI l)), some (.int (nI c)), some (.int (-1)), none]) rfl (by decide) rfl ?_
  refine zn_iconstN (pc := 2) 0 rfl rfl ?_
  refine zn_istore (pc := 3) (L' := [some (.ref 50), some (.int (nI l)), some (.int (nI c)), some (.int (-1)), some (.int (nI 0))]) rfl (by decide) rfl ?_
  exact zn_sub (L' := [some (.ref 50), some (.int (nI l)), some (.int (nI c)), some (.int (oI (mOf A z l c 0))), some (.int (nI 0))]) ⟨rfl, rfl, rfl, by unfold mOf; (split <;> rfl), rfl, trivial⟩ (m_blockOf_l hz hl hc h168 ha (F 13) 0 (by omega))
end m1
