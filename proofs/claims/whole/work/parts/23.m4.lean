section m1
variable {g : zG} {h hh : zH} {F : Nat → Nat} {S : Int64} {z : Nat → Nat} {A : Nat → Nat → Nat} {X : Nat → Int32}
abbrev mPt (x : Int32) : Prop := x = nI 46 ∨ x = nI 44 ∨ x = nI 45 ∨ x = nI 43 ∨ x = nI 58 ∨ x = nI 37 ∨ x = nI 40 ∨ x = nI 41
abbrev mSg (x : Int32) : Prop := (nI 97 ≤ x ∧ x ≤ nI 122) ∨ (nI 65 ≤ x ∧ x ≤ nI 90) ∨ (nI 48 ≤ x ∧ x ≤ nI 57) ∨ x = nI 32 ∨ mPt x
/-- the first fault of the buffer from k on: n places left, s signs of the cell, b bars of the line, e ends -/
def mrl (f : Nat → Nat) (kd : Nat) : Nat → Nat → Nat → Nat → Nat → Nat
  | 0, k, _, _, _ => k
  | n + 1, k, s, b, e => if f k = 124 ∧ 0 < kd ∧ b < 7 then mrl f kd n (k + 1) 0 (b + 1) e else if f k = 47 ∧ 1 < kd ∧ e < 23 then mrl f kd n (k + 1) 0 0 (e + 1) else if mSg (nI (f k)) ∧ s < 16 then mrl f kd n (k + 1) (s + 1) b e else k
theorem m_isSign  (x : Int32) : Zx g zX10_isSign [.int x] hh (some (.int (zb (mSg x)))) hh := by
  show Zn g zX10_isSign 0 [some (.int x), none] [] hh 0 0 _
  refine zn_joinV (v := .int (zb (mPt x))) (pj := 53) ?_ (fun K1 => ?_)
  · refine zn_istore_n (pc := 53) (L' := [some (.int x), some (.int (zb (mPt x)))]) rfl (by decide) rfl ?_
    refine zn_iload_n (pc := 54) rfl rfl ?_
    refine zn_bipushN (pc := 55) 97 rfl rfl ?_
    refine zn_bipushN (pc := 57) 122 rfl rfl ?_
    refine zn_callSx (pc := 59) (J := zX10_within) (as := [.int x, .int (nI 97), .int (nI 122)]) (rest := []) rfl (by decide) rfl rfl rfl rfl (Nat.le_of_ble_eq_true rfl) (Nat.le_of_ble_eq_true rfl) (Nat.le_of_ble_eq_true rfl) (Nat.le_of_ble_eq_true rfl) (m_within x (nI 97) (nI 122)) ?_
    refine zn_if_neB (pc := 62) (tgt := 93) rfl rfl (fun c2 => ?_) (fun c2 => ?_)
    · refine zn_iconstN (pc := 93) 1 rfl rfl ?_
      refine zn_goto (pc := 94) (tgt := 98) rfl rfl ?_
      exact zx_z (pc := 98) rfl rfl (by decide) (by rw [zb_t (by simp_all [mSg])]; rfl) rfl
    · refine zn_iload_n (pc := 65) rfl rfl ?_
      refine zn_bipushN (pc := 66) 65 rfl rfl ?_
      refine zn_bipushN (pc := 68) 90 rfl rfl ?_
      refine zn_callSx (pc := 70) (J := zX10_within) (as := [.int x, .int (nI 65), .int (nI 90)]) (rest := []) rfl (by decide) rfl rfl rfl rfl (Nat.le_of_ble_eq_true rfl) (Nat.le_of_ble_eq_true rfl) (Nat.le_of_ble_eq_true rfl) (Nat.le_of_ble_eq_true rfl) (m_within x (nI 65) (nI 90)) ?_
      refine zn_if_neB (pc := 73) (tgt := 93) rfl rfl (fun c3 => ?_) (fun c3 => ?_)
      · refine zn_iconstN (pc := 93) 1 rfl rfl ?_
        refine zn_goto (pc := 94) (tgt := 98) rfl rfl ?_
        exact zx_z (pc := 98) rfl rfl (by decide) (by rw [zb_t (by simp_all [mSg])]; rfl) rfl
      · refine zn_iload_n (pc := 76) rfl rfl ?_
        refine zn_callSx (pc := 77) (J := zX10_isFigure) (as := [.int x]) (rest := []) rfl (by decide) rfl rfl rfl rfl (Nat.le_of_ble_eq_true rfl) (Nat.le_of_ble_eq_true rfl) (Nat.le_of_ble_eq_true rfl) (Nat.le_of_ble_eq_true rfl) (m_isFigure x) ?_
        refine zn_if_neB (pc := 80) (tgt := 93) rfl rfl (fun c4 => ?_) (fun c4 => ?_)
        · refine zn_iconstN (pc := 93) 1 rfl rfl ?_
          refine zn_goto (pc := 94) (tgt := 98) rfl rfl ?_
          exact zx_z (pc := 98) rfl rfl (by decide) (by rw [zb_t (by simp_all [mSg])]; rfl) rfl
        · refine zn_iload_n (pc := 83) rfl rfl ?_
          refine zn_bipushN (pc := 84) 32 rfl rfl ?_
          refine zn_icmp_eq (pc := 86) (tgt := 93) (x := x) (y := (nI 32)) rfl rfl (fun c5 => ?_) (fun c5 => ?_)
          · refine zn_iconstN (pc := 93) 1 rfl rfl ?_
            refine zn_goto (pc := 94) (tgt := 98) rfl rfl ?_
            exact zx_z (pc := 98) rfl rfl (by decide) (by rw [zb_t (by simp_all [mSg])]; rfl) rfl
          · refine zn_iload_n (pc := 89) rfl rfl ?_
            refine zn_if_eqB (pc := 90) (tgt := 97) rfl rfl (fun c6 => ?_) (fun c6 => ?_)
            · refine zn_iconstN (pc := 97) 0 rfl rfl ?_
              exact zx_z (pc := 98) rfl rfl (by decide) (by rw [zb_f (by simp_all [mSg])]; rfl) rfl
            · refine zn_iconstN (pc := 93) 1 rfl rfl ?_
              refine zn_goto (pc := 94) (tgt := 98) rfl rfl ?_
              exact zx_z (pc := 98) rfl rfl (by decide) (by rw [zb_t (by simp_all [mSg])]; rfl) rfl
  · refine zn_iload_n (pc := 0) rfl rfl ?_
    refine zn_bipushN (pc := 1) 46 rfl rfl ?_
    refine zn_icmp_eq (pc := 3) (tgt := 48) (x := x) (y := (nI 46)) rfl rfl (fun c7 => ?_) (fun c7 => ?_)
    · refine zn_iconstN (pc := 48) 1 rfl rfl ?_
      refine zn_goto (pc := 49) (tgt := 53) rfl rfl ?_
      exact zn_top (v' := .int (zb (mPt x))) (by rw [zb_t (by simp_all [mPt])]; rfl) K1
    · refine zn_iload_n (pc := 6) rfl rfl ?_
      refine zn_bipushN (pc := 7) 44 rfl rfl ?_
      refine zn_icmp_eq (pc := 9) (tgt := 48) (x := x) (y := (nI 44)) rfl rfl (fun c8 => ?_) (fun c8 => ?_)
      · refine zn_iconstN (pc := 48) 1 rfl rfl ?_
        refine zn_goto (pc := 49) (tgt := 53) rfl rfl ?_
        exact zn_top (v' := .int (zb (mPt x))) (by rw [zb_t (by simp_all [mPt])]; rfl) K1
      · refine zn_iload_n (pc := 12) rfl rfl ?_
        refine zn_bipushN (pc := 13) 45 rfl rfl ?_
        refine zn_icmp_eq (pc := 15) (tgt := 48) (x := x) (y := (nI 45)) rfl rfl (fun c9 => ?_) (fun c9 => ?_)
        · refine zn_iconstN (pc := 48) 1 rfl rfl ?_
          refine zn_goto (pc := 49) (tgt := 53) rfl rfl ?_
          exact zn_top (v' := .int (zb (mPt x))) (by rw [zb_t (by simp_all [mPt])]; rfl) K1
        · refine zn_iload_n (pc := 18) rfl rfl ?_
          refine zn_bipushN (pc := 19) 43 rfl rfl ?_
          refine zn_icmp_eq (pc := 21) (tgt := 48) (x := x) (y := (nI 43)) rfl rfl (fun c10 => ?_) (fun c10 => ?_)
          · refine zn_iconstN (pc := 48) 1 rfl rfl ?_
            refine zn_goto (pc := 49) (tgt := 53) rfl rfl ?_
            exact zn_top (v' := .int (zb (mPt x))) (by rw [zb_t (by simp_all [mPt])]; rfl) K1
          · refine zn_iload_n (pc := 24) rfl rfl ?_
            refine zn_bipushN (pc := 25) 58 rfl rfl ?_
            refine zn_icmp_eq (pc := 27) (tgt := 48) (x := x) (y := (nI 58)) rfl rfl (fun c11 => ?_) (fun c11 => ?_)
            · refine zn_iconstN (pc := 48) 1 rfl rfl ?_
              refine zn_goto (pc := 49) (tgt := 53) rfl rfl ?_
              exact zn_top (v' := .int (zb (mPt x))) (by rw [zb_t (by simp_all [mPt])]; rfl) K1
            · refine zn_iload_n (pc := 30) rfl rfl ?_
              refine zn_bipushN (pc := 31) 37 rfl rfl ?_
              refine zn_icmp_eq (pc := 33) (tgt := 48) (x := x) (y := (nI 37)) rfl rfl (fun c12 => ?_) (fun c12 => ?_)
              · refine zn_iconstN (pc := 48) 1 rfl rfl ?_
                refine zn_goto (pc := 49) (tgt := 53) rfl rfl ?_
                exact zn_top (v' := .int (zb (mPt x))) (by rw [zb_t (by simp_all [mPt])]; rfl) K1
              · refine zn_iload_n (pc := 36) rfl rfl ?_
                refine zn_bipushN (pc := 37) 40 rfl rfl ?_
                refine zn_icmp_eq (pc := 39) (tgt := 48) (x := x) (y := (nI 40)) rfl rfl (fun c13 => ?_) (fun c13 => ?_)
                · refine zn_iconstN (pc := 48) 1 rfl rfl ?_
                  refine zn_goto (pc := 49) (tgt := 53) rfl rfl ?_
                  exact zn_top (v' := .int (zb (mPt x))) (by rw [zb_t (by simp_all [mPt])]; rfl) K1
                · refine zn_iload_n (pc := 42) rfl rfl ?_
                  refine zn_bipushN (pc := 43) 41 rfl rfl ?_
                  refine zn_icmp_ne (pc := 45) (tgt := 52) (x := x) (y := (nI 41)) rfl rfl (fun c14 => ?_) (fun c14 => ?_)
                  · refine zn_iconstN (pc := 52) 0 rfl rfl ?_
                    exact zn_top (v' := .int (zb (mPt x))) (by rw [zb_f (by simp_all [mPt])]; rfl) K1
                  · refine zn_iconstN (pc := 48) 1 rfl rfl ?_
                    refine zn_goto (pc := 49) (tgt := 53) rfl rfl ?_
                    exact zn_top (v' := .int (zb (mPt x))) (by rw [zb_t (by simp_all [mPt])]; rfl) K1
theorem m_rightLength_l {kd : Nat} (hk : kd ≤ 2) (hs : F 11 ≤ 120) (hb : ∀ j, A 5 j < 1000) : ∀ (n : Nat) (k s b e R : Nat), k + n = F 11 → R = mrl (A 5) kd n k s b e → s + b + e ≤ 3 * k → Zn g zX10_rightLength 13 [some (.ref 50), some (.int (nI kd)), some (.int (nI s)), some (.int (nI b)), some (.int (nI e)), some (.int (nI k)), some (.int (nI 1)), none, none, none] [] (mhp h F S z A X) 0 0 (fun r' h' => r' = .inl (some (.int (nI R))) ∧ h' = (mhp h F S z A X)) := by
  intro n
  induction n with
  | zero =>
    intro k s b e R hn0 hn1 hn2
    refine zn_iload (pc := 13) rfl rfl ?_
    refine zn_aload_n (pc := 15) rfl rfl ?_
    refine zn_get (pc := 16) (v := .int (nI (F 11))) rfl rfl rfl ?_
    refine zn_icmp_geN (pc := 19) (tgt := 190) (x := k) (y := (F 11)) rfl rfl (by have := hb k; omega) (by have := hb k; omega) (fun c1 => ?_) (fun c1 => ?_)
    · refine zn_iload (pc := 190) rfl rfl ?_
      have hR : R = k := by rw [hn1]; simp only [mrl]
      exact zx_i (pc := 192) rfl rfl (by rw [hR]) rfl
    · exfalso; omega
  | succ n ih =>
    intro k s b e R hn0 hn1 hn2
    refine zn_iload (pc := 13) rfl rfl ?_
    refine zn_aload_n (pc := 15) rfl rfl ?_
    refine zn_get (pc := 16) (v := .int (nI (F 11))) rfl rfl rfl ?_
    refine zn_icmp_geN (pc := 19) (tgt := 190) (x := k) (y := (F 11)) rfl rfl (by have := hb k; omega) (by have := hb k; omega) (fun c1 => ?_) (fun c1 => ?_)
    · refine zn_iload (pc := 190) rfl rfl ?_
      exfalso; omega
    · refine zn_iload (pc := 22) rfl rfl ?_
      refine zn_if_eqN (pc := 24) (tgt := 190) (x := 1) rfl rfl (by have := hb k; omega) (fun c2 => ?_) (fun c2 => ?_)
      · exfalso; omega
      · refine zn_aload_n (pc := 27) rfl rfl ?_
        refine zn_get (pc := 28) (v := .ref 56) rfl rfl rfl ?_
        refine zn_iload (pc := 31) rfl rfl ?_
        refine zm_ldA (pc := 33) (i := 5) (n := 120) (Z := (A 5)) (j := k) rfl (by decide) (by decide) rfl mln5 rfl (by omega) (Nat.le_of_ble_eq_true rfl) ?_
        refine zn_istore (pc := 34) (L' := [some (.ref 50), some (.int (nI kd)), some (.int (nI s)), some (.int (nI b)), some (.int (nI e)), some (.int (nI k)), some (.int (nI 1)), some (.int (nI ((A 5) k))), none, none]) rfl (by decide) rfl ?_
        refine zn_joinV (v := .int (zb (A 5 k = 124 ∧ 0 < kd ∧ b < 7))) (pj := 58) ?_ (fun K3 => ?_)
        · refine zn_istore (pc := 58) (L' := [some (.ref 50), some (.int (nI kd)), some (.int (nI s)), some (.int (nI b)), some (.int (nI e)), some (.int (nI k)), some (.int (nI 1)), some (.int (nI ((A 5) k))), some (.int (zb (A 5 k = 124 ∧ 0 < kd ∧ b < 7))), none]) rfl (by decide) rfl ?_
          refine zn_joinV (v := .int (zb (A 5 k = 47 ∧ 1 < kd ∧ e < 23))) (pj := 84) ?_ (fun K4 => ?_)
          · refine zn_istore (pc := 84) (L' := [some (.ref 50), some (.int (nI kd)), some (.int (nI s)), some (.int (nI b)), some (.int (nI e)), some (.int (nI k)), some (.int (nI 1)), some (.int (nI ((A 5) k))), some (.int (zb (A 5 k = 124 ∧ 0 < kd ∧ b < 7))), some (.int (zb (A 5 k = 47 ∧ 1 < kd ∧ e < 23)))]) rfl (by decide) rfl ?_
            refine zn_joinV (v := .int (zb ((A 5 k = 124 ∧ 0 < kd ∧ b < 7) ∨ (A 5 k = 47 ∧ 1 < kd ∧ e < 23) ∨ (mSg (nI (A 5 k)) ∧ s < 16)))) (pj := 115) ?_ (fun K5 => ?_)
            · refine zn_istore (pc := 115) (L' := [some (.ref 50), some (.int (nI kd)), some (.int (nI s)), some (.int (nI b)), some (.int (nI e)), some (.int (nI k)), some (.int (zb ((A 5 k = 124 ∧ 0 < kd ∧ b < 7) ∨ (A 5 k = 47 ∧ 1 < kd ∧ e < 23) ∨ (mSg (nI (A 5 k)) ∧ s < 16)))), some (.int (nI ((A 5) k))), some (.int (zb (A 5 k = 124 ∧ 0 < kd ∧ b < 7))), some (.int (zb (A 5 k = 47 ∧ 1 < kd ∧ e < 23)))]) rfl (by decide) rfl ?_
              refine zn_joinV (v := .int (nI (if (A 5 k = 124 ∧ 0 < kd ∧ b < 7) ∨ (A 5 k = 47 ∧ 1 < kd ∧ e < 23) then 0 else s + 1))) (pj := 134) ?_ (fun K6 => ?_)
              · refine zn_istore_n (pc := 134) (L' := [some (.ref 50), some (.int (nI kd)), some (.int (nI (if (A 5 k = 124 ∧ 0 < kd ∧ b < 7) ∨ (A 5 k = 47 ∧ 1 < kd ∧ e < 23) then 0 else s + 1))), some (.int (nI b)), some (.int (nI e)), some (.int (nI k)), some (.int (zb ((A 5 k = 124 ∧ 0 < kd ∧ b < 7) ∨ (A 5 k = 47 ∧ 1 < kd ∧ e < 23) ∨ (mSg (nI (A 5 k)) ∧ s < 16)))), some (.int (nI ((A 5) k))), some (.int (zb (A 5 k = 124 ∧ 0 < kd ∧ b < 7))), some (.int (zb (A 5 k = 47 ∧ 1 < kd ∧ e < 23)))]) rfl (by decide) rfl ?_
                refine zn_joinV (v := .int (nI (if A 5 k = 47 ∧ 1 < kd ∧ e < 23 then 0 else if A 5 k = 124 ∧ 0 < kd ∧ b < 7 then b + 1 else b))) (pj := 156) ?_ (fun K7 => ?_)
                · refine zn_istore_n (pc := 156) (L' := [some (.ref 50), some (.int (nI kd)), some (.int (nI (if (A 5 k = 124 ∧ 0 < kd ∧ b < 7) ∨ (A 5 k = 47 ∧ 1 < kd ∧ e < 23) then 0 else s + 1))), some (.int (nI (if A 5 k = 47 ∧ 1 < kd ∧ e < 23 then 0 else if A 5 k = 124 ∧ 0 < kd ∧ b < 7 then b + 1 else b))), some (.int (nI e)), some (.int (nI k)), some (.int (zb ((A 5 k = 124 ∧ 0 < kd ∧ b < 7) ∨ (A 5 k = 47 ∧ 1 < kd ∧ e < 23) ∨ (mSg (nI (A 5 k)) ∧ s < 16)))), some (.int (nI ((A 5) k))), some (.int (zb (A 5 k = 124 ∧ 0 < kd ∧ b < 7))), some (.int (zb (A 5 k = 47 ∧ 1 < kd ∧ e < 23)))]) rfl (by decide) rfl ?_
                  refine zn_iload (pc := 157) rfl rfl ?_
                  refine zn_joinV (v := .int (nI (if A 5 k = 47 ∧ 1 < kd ∧ e < 23 then 1 else 0))) (pj := 169) ?_ (fun K8 => ?_)
                  · refine zn_iaddN (pc := 169) (x := e) (y := (if A 5 k = 47 ∧ 1 < kd ∧ e < 23 then 1 else 0)) rfl ?_
                    refine zn_istore (pc := 170) (L' := [some (.ref 50), some (.int (nI kd)), some (.int (nI (if (A 5 k = 124 ∧ 0 < kd ∧ b < 7) ∨ (A 5 k = 47 ∧ 1 < kd ∧ e < 23) then 0 else s + 1))), some (.int (nI (if A 5 k = 47 ∧ 1 < kd ∧ e < 23 then 0 else if A 5 k = 124 ∧ 0 < kd ∧ b < 7 then b + 1 else b))), some (.int (nI (e + (if A 5 k = 47 ∧ 1 < kd ∧ e < 23 then 1 else 0)))), some (.int (nI k)), some (.int (zb ((A 5 k = 124 ∧ 0 < kd ∧ b < 7) ∨ (A 5 k = 47 ∧ 1 < kd ∧ e < 23) ∨ (mSg (nI (A 5 k)) ∧ s < 16)))), some (.int (nI ((A 5) k))), some (.int (zb (A 5 k = 124 ∧ 0 < kd ∧ b < 7))), some (.int (zb (A 5 k = 47 ∧ 1 < kd ∧ e < 23)))]) rfl (by decide) rfl ?_
                    refine zn_iload (pc := 172) rfl rfl ?_
                    refine zn_joinV (v := .int (nI (if (A 5 k = 124 ∧ 0 < kd ∧ b < 7) ∨ (A 5 k = 47 ∧ 1 < kd ∧ e < 23) ∨ (mSg (nI (A 5 k)) ∧ s < 16) then 1 else 0))) (pj := 184) ?_ (fun K9 => ?_)
                    · refine zn_iaddN (pc := 184) (x := k) (y := (if (A 5 k = 124 ∧ 0 < kd ∧ b < 7) ∨ (A 5 k = 47 ∧ 1 < kd ∧ e < 23) ∨ (mSg (nI (A 5 k)) ∧ s < 16) then 1 else 0)) rfl ?_
                      refine zn_istore (pc := 185) (L' := [some (.ref 50), some (.int (nI kd)), some (.int (nI (if (A 5 k = 124 ∧ 0 < kd ∧ b < 7) ∨ (A 5 k = 47 ∧ 1 < kd ∧ e < 23) then 0 else s + 1))), some (.int (nI (if A 5 k = 47 ∧ 1 < kd ∧ e < 23 then 0 else if A 5 k = 124 ∧ 0 < kd ∧ b < 7 then b + 1 else b))), some (.int (nI (e + (if A 5 k = 47 ∧ 1 < kd ∧ e < 23 then 1 else 0)))), some (.int (nI (k + (if (A 5 k = 124 ∧ 0 < kd ∧ b < 7) ∨ (A 5 k = 47 ∧ 1 < kd ∧ e < 23) ∨ (mSg (nI (A 5 k)) ∧ s < 16) then 1 else 0)))), some (.int (zb ((A 5 k = 124 ∧ 0 < kd ∧ b < 7) ∨ (A 5 k = 47 ∧ 1 < kd ∧ e < 23) ∨ (mSg (nI (A 5 k)) ∧ s < 16)))), some (.int (nI ((A 5) k))), some (.int (zb (A 5 k = 124 ∧ 0 < kd ∧ b < 7))), some (.int (zb (A 5 k = 47 ∧ 1 < kd ∧ e < 23)))]) rfl (by decide) rfl ?_
                      refine zn_goto (pc := 187) (tgt := 13) rfl rfl ?_
                      by_cases hg : (A 5 k = 124 ∧ 0 < kd ∧ b < 7) ∨ (A 5 k = 47 ∧ 1 < kd ∧ e < 23) ∨ (mSg (nI (A 5 k)) ∧ s < 16)
                      · by_cases hB : A 5 k = 124 ∧ 0 < kd ∧ b < 7
                        · have hE : ¬ (A 5 k = 47 ∧ 1 < kd ∧ e < 23) := by omega
                          refine zn_sub (L' := [some (.ref 50), some (.int (nI kd)), some (.int (nI 0)), some (.int (nI (b + 1))), some (.int (nI e)), some (.int (nI (k + 1))), some (.int (nI 1)), none, none, none]) ⟨rfl, rfl, by rw [if_pos (Or.inl hB)], by rw [if_neg hE, if_pos hB], by rw [if_neg hE]; rfl, by rw [if_pos hg], by rw [zb_t hg]; rfl, trivial⟩ (ih (k + 1) 0 (b + 1) e _ (by omega) (by rw [hn1]; simp only [mrl]; rw [if_pos hB]) (by omega))
                        · by_cases hE : A 5 k = 47 ∧ 1 < kd ∧ e < 23
                          · refine zn_sub (L' := [some (.ref 50), some (.int (nI kd)), some (.int (nI 0)), some (.int (nI 0)), some (.int (nI (e + 1))), some (.int (nI (k + 1))), some (.int (nI 1)), none, none, none]) ⟨rfl, rfl, by rw [if_pos (Or.inr hE)], by rw [if_pos hE], by rw [if_pos hE], by rw [if_pos hg], by rw [zb_t hg]; rfl, trivial⟩ (ih (k + 1) 0 0 (e + 1) _ (by omega) (by rw [hn1]; simp only [mrl]; rw [if_neg hB, if_pos hE]) (by omega))
                          · have hS : mSg (nI (A 5 k)) ∧ s < 16 := by rcases hg with q | q | q; exact absurd q hB; exact absurd q hE; exact q
                            refine zn_sub (L' := [some (.ref 50), some (.int (nI kd)), some (.int (nI (s + 1))), some (.int (nI b)), some (.int (nI e)), some (.int (nI (k + 1))), some (.int (nI 1)), none, none, none]) ⟨rfl, rfl, by rw [if_neg (fun q => q.elim hB hE)], by rw [if_neg hE, if_neg hB], by rw [if_neg hE]; rfl, by rw [if_pos hg], by rw [zb_t hg]; rfl, trivial⟩ (ih (k + 1) (s + 1) b e _ (by omega) (by rw [hn1]; simp only [mrl]; rw [if_neg hB, if_neg hE, if_pos hS]) (by omega))
                      · refine zn_sub (L' := [some (.ref 50), some (.int (nI kd)), none, none, none, some (.int (nI k)), some (.int (nI 0)), none, none, none]) ⟨rfl, rfl, by rw [if_neg hg]; rfl, by rw [zb_f hg]; rfl, trivial⟩ ?_
                        refine zn_iload (pc := 13) rfl rfl ?_
                        refine zn_aload_n (pc := 15) rfl rfl ?_
                        refine zn_get (pc := 16) (v := .int (nI (F 11))) rfl rfl rfl ?_
                        refine zn_icmp_geN (pc := 19) (tgt := 190) (x := k) (y := (F 11)) rfl rfl (by have := hb k; omega) (by have := hb k; omega) (fun c51 => ?_) (fun c51 => ?_)
                        · refine zn_iload (pc := 190) rfl rfl ?_
                          have hR : R = k := by rw [hn1]; simp only [mrl]; rw [if_neg (fun q => hg (Or.inl q)), if_neg (fun q => hg (Or.inr (Or.inl q))), if_neg (fun q => hg (Or.inr (Or.inr q)))]
                          exact zx_i (pc := 192) rfl rfl (by rw [hR]) rfl
                        · refine zn_iload (pc := 22) rfl rfl ?_
                          refine zn_if_eqN (pc := 24) (tgt := 190) (x := 0) rfl rfl (by have := hb k; omega) (fun c52 => ?_) (fun c52 => ?_)
                          · refine zn_iload (pc := 190) rfl rfl ?_
                            have hR : R = k := by rw [hn1]; simp only [mrl]; rw [if_neg (fun q => hg (Or.inl q)), if_neg (fun q => hg (Or.inr (Or.inl q))), if_neg (fun q => hg (Or.inr (Or.inr q)))]
                            exact zx_i (pc := 192) rfl rfl (by rw [hR]) rfl
                          · exfalso; omega
                    · refine zn_iload (pc := 174) rfl rfl ?_
                      refine zn_if_eqB (pc := 176) (tgt := 183) rfl rfl (fun c10 => ?_) (fun c10 => ?_)
                      · refine zn_iconstN (pc := 183) 0 rfl rfl ?_
                        exact zn_top (v' := .int (nI (if (A 5 k = 124 ∧ 0 < kd ∧ b < 7) ∨ (A 5 k = 47 ∧ 1 < kd ∧ e < 23) ∨ (mSg (nI (A 5 k)) ∧ s < 16) then 1 else 0))) (by rw [if_neg (by assumption)]) K9
                      · refine zn_iconstN (pc := 179) 1 rfl rfl ?_
                        refine zn_goto (pc := 180) (tgt := 184) rfl rfl ?_
                        exact zn_top (v' := .int (nI (if (A 5 k = 124 ∧ 0 < kd ∧ b < 7) ∨ (A 5 k = 47 ∧ 1 < kd ∧ e < 23) ∨ (mSg (nI (A 5 k)) ∧ s < 16) then 1 else 0))) (by rw [if_pos (by assumption)]) K9
                  · refine zn_iload (pc := 159) rfl rfl ?_
                    refine zn_if_eqB (pc := 161) (tgt := 168) rfl rfl (fun c11 => ?_) (fun c11 => ?_)
                    · refine zn_iconstN (pc := 168) 0 rfl rfl ?_
                      exact zn_top (v' := .int (nI (if A 5 k = 47 ∧ 1 < kd ∧ e < 23 then 1 else 0))) (by rw [if_neg (by assumption)]) K8
                    · refine zn_iconstN (pc := 164) 1 rfl rfl ?_
                      refine zn_goto (pc := 165) (tgt := 169) rfl rfl ?_
                      exact zn_top (v' := .int (nI (if A 5 k = 47 ∧ 1 < kd ∧ e < 23 then 1 else 0))) (by rw [if_pos (by assumption)]) K8
                · refine zn_iload (pc := 135) rfl rfl ?_
                  refine zn_if_eqB (pc := 137) (tgt := 144) rfl rfl (fun c12 => ?_) (fun c12 => ?_)
                  · refine zn_iload (pc := 144) rfl rfl ?_
                    refine zn_if_eqB (pc := 146) (tgt := 155) rfl rfl (fun c13 => ?_) (fun c13 => ?_)
                    · refine zn_iload_n (pc := 155) rfl rfl ?_
                      exact zn_top (v' := .int (nI (if A 5 k = 47 ∧ 1 < kd ∧ e < 23 then 0 else if A 5 k = 124 ∧ 0 < kd ∧ b < 7 then b + 1 else b))) (by rw [if_neg (by assumption), if_neg (by assumption)]) K7
                    · refine zn_iload_n (pc := 149) rfl rfl ?_
                      refine zn_iconstN (pc := 150) 1 rfl rfl ?_
                      refine zn_iaddN (pc := 151) (x := b) (y := 1) rfl ?_
                      refine zn_goto (pc := 152) (tgt := 156) rfl rfl ?_
                      exact zn_top (v' := .int (nI (if A 5 k = 47 ∧ 1 < kd ∧ e < 23 then 0 else if A 5 k = 124 ∧ 0 < kd ∧ b < 7 then b + 1 else b))) (by rw [if_neg (by assumption), if_pos (by assumption)]) K7
                  · refine zn_iconstN (pc := 140) 0 rfl rfl ?_
                    refine zn_goto (pc := 141) (tgt := 156) rfl rfl ?_
                    exact zn_top (v' := .int (nI (if A 5 k = 47 ∧ 1 < kd ∧ e < 23 then 0 else if A 5 k = 124 ∧ 0 < kd ∧ b < 7 then b + 1 else b))) (by rw [if_pos (by assumption)]) K7
              · refine zn_iload (pc := 117) rfl rfl ?_
                refine zn_if_neB (pc := 119) (tgt := 127) rfl rfl (fun c14 => ?_) (fun c14 => ?_)
                · refine zn_iconstN (pc := 127) 0 rfl rfl ?_
                  refine zn_goto (pc := 128) (tgt := 134) rfl rfl ?_
                  exact zn_top (v' := .int (nI (if (A 5 k = 124 ∧ 0 < kd ∧ b < 7) ∨ (A 5 k = 47 ∧ 1 < kd ∧ e < 23) then 0 else s + 1))) (by rw [if_pos (by simp_all)]) K6
                · refine zn_iload (pc := 122) rfl rfl ?_
                  refine zn_if_eqB (pc := 124) (tgt := 131) rfl rfl (fun c15 => ?_) (fun c15 => ?_)
                  · refine zn_iload_n (pc := 131) rfl rfl ?_
                    refine zn_iconstN (pc := 132) 1 rfl rfl ?_
                    refine zn_iaddN (pc := 133) (x := s) (y := 1) rfl ?_
                    exact zn_top (v' := .int (nI (if (A 5 k = 124 ∧ 0 < kd ∧ b < 7) ∨ (A 5 k = 47 ∧ 1 < kd ∧ e < 23) then 0 else s + 1))) (by rw [if_neg (by simp_all)]) K6
                  · refine zn_iconstN (pc := 127) 0 rfl rfl ?_
                    refine zn_goto (pc := 128) (tgt := 134) rfl rfl ?_
                    exact zn_top (v' := .int (nI (if (A 5 k = 124 ∧ 0 < kd ∧ b < 7) ∨ (A 5 k = 47 ∧ 1 < kd ∧ e < 23) then 0 else s + 1))) (by rw [if_pos (by simp_all)]) K6
            · refine zn_iload (pc := 86) rfl rfl ?_
              refine zn_if_neB (pc := 88) (tgt := 110) rfl rfl (fun c16 => ?_) (fun c16 => ?_)
              · refine zn_iconstN (pc := 110) 1 rfl rfl ?_
                refine zn_goto (pc := 111) (tgt := 115) rfl rfl ?_
                exact zn_top (v' := .int (zb ((A 5 k = 124 ∧ 0 < kd ∧ b < 7) ∨ (A 5 k = 47 ∧ 1 < kd ∧ e < 23) ∨ (mSg (nI (A 5 k)) ∧ s < 16)))) (by rw [zb_t (by first | exact Or.inl (by assumption) | exact Or.inr (Or.inl (by assumption)) | exact Or.inr (Or.inr ⟨by assumption, by omega⟩))]; rfl) K5
              · refine zn_iload (pc := 91) rfl rfl ?_
                refine zn_if_neB (pc := 93) (tgt := 110) rfl rfl (fun c17 => ?_) (fun c17 => ?_)
                · refine zn_iconstN (pc := 110) 1 rfl rfl ?_
                  refine zn_goto (pc := 111) (tgt := 115) rfl rfl ?_
                  exact zn_top (v' := .int (zb ((A 5 k = 124 ∧ 0 < kd ∧ b < 7) ∨ (A 5 k = 47 ∧ 1 < kd ∧ e < 23) ∨ (mSg (nI (A 5 k)) ∧ s < 16)))) (by rw [zb_t (by first | exact Or.inl (by assumption) | exact Or.inr (Or.inl (by assumption)) | exact Or.inr (Or.inr ⟨by assumption, by omega⟩))]; rfl) K5
                · refine zn_iload (pc := 96) rfl rfl ?_
                  refine zn_callSx (pc := 98) (J := zX10_isSign) (as := [.int (nI ((A 5) k))]) (rest := []) rfl (by decide) rfl rfl rfl rfl (Nat.le_of_ble_eq_true rfl) (Nat.le_of_ble_eq_true rfl) (Nat.le_of_ble_eq_true rfl) (Nat.le_of_ble_eq_true rfl) (m_isSign (nI ((A 5) k))) ?_
                  refine zn_if_eqB (pc := 101) (tgt := 114) rfl rfl (fun c18 => ?_) (fun c18 => ?_)
                  · refine zn_iconstN (pc := 114) 0 rfl rfl ?_
                    exact zn_top (v' := .int (zb ((A 5 k = 124 ∧ 0 < kd ∧ b < 7) ∨ (A 5 k = 47 ∧ 1 < kd ∧ e < 23) ∨ (mSg (nI (A 5 k)) ∧ s < 16)))) (by rw [zb_f (by intro q; rcases q with q | q | ⟨q, q2⟩ <;> first | contradiction | omega)]; rfl) K5
                  · refine zn_iload_n (pc := 104) rfl rfl ?_
                    refine zn_bipushN (pc := 105) 16 rfl rfl ?_
                    refine zn_icmp_geN (pc := 107) (tgt := 114) (x := s) (y := 16) rfl rfl (by have := hb k; omega) (by have := hb k; omega) (fun c19 => ?_) (fun c19 => ?_)
                    · refine zn_iconstN (pc := 114) 0 rfl rfl ?_
                      exact zn_top (v' := .int (zb ((A 5 k = 124 ∧ 0 < kd ∧ b < 7) ∨ (A 5 k = 47 ∧ 1 < kd ∧ e < 23) ∨ (mSg (nI (A 5 k)) ∧ s < 16)))) (by rw [zb_f (by intro q; rcases q with q | q | ⟨q, q2⟩ <;> first | contradiction | omega)]; rfl) K5
                    · refine zn_iconstN (pc := 110) 1 rfl rfl ?_
                      refine zn_goto (pc := 111) (tgt := 115) rfl rfl ?_
                      exact zn_top (v' := .int (zb ((A 5 k = 124 ∧ 0 < kd ∧ b < 7) ∨ (A 5 k = 47 ∧ 1 < kd ∧ e < 23) ∨ (mSg (nI (A 5 k)) ∧ s < 16)))) (by rw [zb_t (by first | exact Or.inl (by assumption) | exact Or.inr (Or.inl (by assumption)) | exact Or.inr (Or.inr ⟨by assumption, by omega⟩))]; rfl) K5
          · refine zn_iload (pc := 60) rfl rfl ?_
            refine zn_bipushN (pc := 62) 47 rfl rfl ?_
            refine zn_icmp_neN (pc := 64) (tgt := 83) (x := ((A 5) k)) (y := 47) rfl rfl (by have := hb k; omega) (by have := hb k; omega) (fun c20 => ?_) (fun c20 => ?_)
            · refine zn_iconstN (pc := 83) 0 rfl rfl ?_
              exact zn_top (v' := .int (zb (A 5 k = 47 ∧ 1 < kd ∧ e < 23))) (by rw [zb_f (by omega)]; rfl) K4
            · refine zn_iload_n (pc := 67) rfl rfl ?_
              refine zn_iconstN (pc := 68) 1 rfl rfl ?_
              refine zn_icmp_leN (pc := 69) (tgt := 83) (x := kd) (y := 1) rfl rfl (by have := hb k; omega) (by have := hb k; omega) (fun c21 => ?_) (fun c21 => ?_)
              · refine zn_iconstN (pc := 83) 0 rfl rfl ?_
                exact zn_top (v' := .int (zb (A 5 k = 47 ∧ 1 < kd ∧ e < 23))) (by rw [zb_f (by omega)]; rfl) K4
              · refine zn_iload (pc := 72) rfl rfl ?_
                refine zn_bipushN (pc := 74) 23 rfl rfl ?_
                refine zn_icmp_geN (pc := 76) (tgt := 83) (x := e) (y := 23) rfl rfl (by have := hb k; omega) (by have := hb k; omega) (fun c22 => ?_) (fun c22 => ?_)
                · refine zn_iconstN (pc := 83) 0 rfl rfl ?_
                  exact zn_top (v' := .int (zb (A 5 k = 47 ∧ 1 < kd ∧ e < 23))) (by rw [zb_f (by omega)]; rfl) K4
                · refine zn_iconstN (pc := 79) 1 rfl rfl ?_
                  refine zn_goto (pc := 80) (tgt := 84) rfl rfl ?_
                  exact zn_top (v' := .int (zb (A 5 k = 47 ∧ 1 < kd ∧ e < 23))) (by rw [zb_t (by omega)]; rfl) K4
        · refine zn_iload (pc := 36) rfl rfl ?_
          refine zn_bipushN (pc := 38) 124 rfl rfl ?_
          refine zn_icmp_neN (pc := 40) (tgt := 57) (x := ((A 5) k)) (y := 124) rfl rfl (by have := hb k; omega) (by have := hb k; omega) (fun c23 => ?_) (fun c23 => ?_)
          · refine zn_iconstN (pc := 57) 0 rfl rfl ?_
            exact zn_top (v' := .int (zb (A 5 k = 124 ∧ 0 < kd ∧ b < 7))) (by rw [zb_f (by omega)]; rfl) K3
          · refine zn_iload_n (pc := 43) rfl rfl ?_
            refine zn_if_leN (pc := 44) (tgt := 57) (x := kd) rfl rfl (by have := hb k; omega) (fun c24 => ?_) (fun c24 => ?_)
            · refine zn_iconstN (pc := 57) 0 rfl rfl ?_
              exact zn_top (v' := .int (zb (A 5 k = 124 ∧ 0 < kd ∧ b < 7))) (by rw [zb_f (by omega)]; rfl) K3
            · refine zn_iload_n (pc := 47) rfl rfl ?_
              refine zn_bipushN (pc := 48) 7 rfl rfl ?_
              refine zn_icmp_geN (pc := 50) (tgt := 57) (x := b) (y := 7) rfl rfl (by have := hb k; omega) (by have := hb k; omega) (fun c25 => ?_) (fun c25 => ?_)
              · refine zn_iconstN (pc := 57) 0 rfl rfl ?_
                exact zn_top (v' := .int (zb (A 5 k = 124 ∧ 0 < kd ∧ b < 7))) (by rw [zb_f (by omega)]; rfl) K3
              · refine zn_iconstN (pc := 53) 1 rfl rfl ?_
                refine zn_goto (pc := 54) (tgt := 58) rfl rfl ?_
                exact zn_top (v' := .int (zb (A 5 k = 124 ∧ 0 < kd ∧ b < 7))) (by rw [zb_t (by omega)]; rfl) K3
theorem m_rightLength  {kd : Nat} (hk : kd ≤ 2) (hs : F 11 ≤ 120) (hb : ∀ j, A 5 j < 1000) : Zx g zX10_rightLength [.ref 50, .int (nI kd)] (mhp h F S z A X) (some (.int (nI (mrl (A 5) kd (F 11) 0 0 0 0)))) (mhp h F S z A X) := by
  show Zn g zX10_rightLength 0 [some (.ref 50), some (.int (nI kd)), none, none, none, none, none, none, none, none] [] (mhp h F S z A X) 0 0 _
  refine zn_iconstN (pc := 0) 0 rfl rfl ?_
  refine zn_istore_n (pc := 1) (L' := [some (.ref 50), some (.int (nI kd)), some (.int (nI 0)), none, none, none, none, none, none, none]) rfl (by decide) rfl ?_
  refine zn_iconstN (pc := 2) 0 rfl rfl ?_
  refine zn_istore_n (pc := 3) (L' := [some (.ref 50), some (.int (nI kd)), some (.int (nI 0)), some (.int (nI 0)), none, none, none, none, none, none]) rfl (by decide) rfl ?_
  refine zn_iconstN (pc := 4) 0 rfl rfl ?_
  refine zn_istore (pc := 5) (L' := [some (.ref 50), some (.int (nI kd)), some (.int (nI 0)), some (.int (nI 0)), some (.int (nI 0)), none, none, none, none, none]) rfl (by decide) rfl ?_
  refine zn_iconstN (pc := 7) 0 rfl rfl ?_
  refine zn_istore (pc := 8) (L' := [some (.ref 50), some (.int (nI kd)), some (.int (nI 0)), some (.int (nI 0)), some (.int (nI 0)), some (.int (nI 0)), none, none, none, none]) rfl (by decide) rfl ?_
  refine zn_iconstN (pc := 10) 1 rfl rfl ?_
  refine zn_istore (pc := 11) (L' := [some (.ref 50), some (.int (nI kd)), some (.int (nI 0)), some (.int (nI 0)), some (.int (nI 0)), some (.int (nI 0)), some (.int (nI 1)), none, none, none]) rfl (by decide) rfl ?_
  exact m_rightLength_l hk hs hb (F 11) 0 0 0 0 _ (by omega) rfl (by omega)
end m1
