section m1
variable {g : zG} {h hh : zH} {F : Nat → Nat} {S : Int64} {z : Nat → Nat} {A : Nat → Nat → Nat} {X : Nat → Int32}
/-- how far two texts are alike -/
def sCk (f g : Nat → Nat) (n m : Nat) : Nat → Nat → Nat
  | 0, k => k
  | q + 1, k => if k < n ∧ k < m ∧ f k = g k then sCk f g n m q (k + 1) else k
theorem sCk_le (f g : Nat → Nat) (n m : Nat) : ∀ q k, sCk f g n m q k ≤ k + q
  | 0, k => by simp [sCk]
  | q + 1, k => by
    simp only [sCk]
    have := sCk_le f g n m q (k + 1)
    split <;> omega
def sCq (f g : Nat → Nat) (n m k : Nat) : Int32 := if k = n ∨ k = m then nI (if k = n then 0 else 1) - nI (if k = m then 0 else 1) else nI (f k) - nI (g k)
def sCmp (f g : Nat → Nat) (n m : Nat) : Int32 := sCq f g n m (sCk f g n m n 0)
def sRank (k : Nat) : Nat := if k = 1 then 0 else if k = 2 then 1 else 2
theorem sRank_le (k : Nat) : sRank k ≤ 2 := by unfold sRank; (repeat' split) <;> omega
abbrev mR (z : Nat → Nat) (c l : Nat) : Nat := sRank (mK z c l)
def mBy (z : Nat → Nat) (c l o : Nat) : Int64 := if mR z c l = 0 then sVal (mf z l c) (mN z c l) - sVal (mf z o c) (mN z c o) else (sCmp (mf z l c) (mf z o c) (mN z c l) (mN z c o)).toInt64
abbrev mBh (z : Nat → Nat) (c d l o : Nat) : Prop := ((mR z c l ≠ mR z c o ∨ mR z c l = 2) ∧ mR z c o < mR z c l) ∨ (¬ (mR z c l ≠ mR z c o ∨ mR z c l = 2) ∧ ((d ≠ 0 ∧ ¬ 0 ≤ lg_cmp (mBy z c l o) 0) ∨ (d = 0 ∧ ¬ lg_cmp (mBy z c l o) 0 ≤ 0)))
theorem m_comparedWords_e {l o c : Nat} (hl : l < 24) (ho : o < 24) (hc : c < 8) (h16 : z (25 + 8 * l + c) ≤ 16) (h16o : z (25 + 8 * o + c) ≤ 16) (hzb : ∀ j, z j < 1000) {k : Nat} (hk : k ≤ z (25 + 8 * l + c)) : Zn g zX10_comparedWords 50 [some (.ref 50), some (.int (nI l)), some (.int (nI o)), some (.int (nI c)), some (.int (nI k)), none, none] [] (mhp h F S z A X) 0 0 (fun r' h' => r' = .inl (some (.int (sCq (mf z l c) (mf z o c) (z (25 + 8 * l + c)) (z (25 + 8 * o + c)) k))) ∧ h' = (mhp h F S z A X)) := by
  refine zn_iload (pc := 50) rfl rfl ?_
  refine zn_aload_n (pc := 52) rfl rfl ?_
  refine zn_iload_n (pc := 53) rfl rfl ?_
  refine zn_iload_n (pc := 54) rfl rfl ?_
  refine zn_callVx (pc := 55) (J := zX10_lengthOf) (o := 50) (as := [.int (nI l), .int (nI c)]) (rest := [.int (nI k)]) rfl rfl rfl rfl rfl rfl rfl rfl (Nat.le_of_ble_eq_true rfl) (Nat.le_of_ble_eq_true rfl) (Nat.le_of_ble_eq_true rfl) (Nat.le_of_ble_eq_true rfl) (m_lengthOf (l := l) (c := c) (by omega) (by omega)) ?_
  refine zn_icmp_neN (pc := 58) (tgt := 65) (x := k) (y := (z (25 + 8 * l + c))) rfl rfl (by have := hzb (217 + 16 * (8 * l + c) + k); have := hzb (217 + 16 * (8 * o + c) + k); omega) (by have := hzb (217 + 16 * (8 * l + c) + k); have := hzb (217 + 16 * (8 * o + c) + k); omega) (fun c1 => ?_) (fun c1 => ?_)
  · refine zn_iconstN (pc := 65) 0 rfl rfl ?_
    refine zn_istore (pc := 66) (L' := [some (.ref 50), some (.int (nI l)), some (.int (nI o)), some (.int (nI c)), some (.int (nI k)), some (.int (nI 0)), none]) rfl (by decide) rfl ?_
    refine zn_iload (pc := 68) rfl rfl ?_
    refine zn_aload_n (pc := 70) rfl rfl ?_
    refine zn_iload_n (pc := 71) rfl rfl ?_
    refine zn_iload_n (pc := 72) rfl rfl ?_
    refine zn_callVx (pc := 73) (J := zX10_lengthOf) (o := 50) (as := [.int (nI o), .int (nI c)]) (rest := [.int (nI k)]) rfl rfl rfl rfl rfl rfl rfl rfl (Nat.le_of_ble_eq_true rfl) (Nat.le_of_ble_eq_true rfl) (Nat.le_of_ble_eq_true rfl) (Nat.le_of_ble_eq_true rfl) (m_lengthOf (l := o) (c := c) (by omega) (by omega)) ?_
    refine zn_icmp_neN (pc := 76) (tgt := 83) (x := k) (y := (z (25 + 8 * o + c))) rfl rfl (by have := hzb (217 + 16 * (8 * l + c) + k); have := hzb (217 + 16 * (8 * o + c) + k); omega) (by have := hzb (217 + 16 * (8 * l + c) + k); have := hzb (217 + 16 * (8 * o + c) + k); omega) (fun c2 => ?_) (fun c2 => ?_)
    · refine zn_iconstN (pc := 83) 0 rfl rfl ?_
      refine zn_istore (pc := 84) (L' := [some (.ref 50), some (.int (nI l)), some (.int (nI o)), some (.int (nI c)), some (.int (nI k)), some (.int (nI 0)), some (.int (nI 0))]) rfl (by decide) rfl ?_
      refine zn_iload (pc := 86) rfl rfl ?_
      refine zn_if_neN (pc := 88) (tgt := 96) (x := 0) rfl rfl (by have := hzb (217 + 16 * (8 * l + c) + k); have := hzb (217 + 16 * (8 * o + c) + k); omega) (fun c3 => ?_) (fun c3 => ?_)
      · exact absurd c3 (by decide)
      · refine zn_iload (pc := 91) rfl rfl ?_
        refine zn_if_eqN (pc := 93) (tgt := 120) (x := 0) rfl rfl (by have := hzb (217 + 16 * (8 * l + c) + k); have := hzb (217 + 16 * (8 * o + c) + k); omega) (fun c4 => ?_) (fun c4 => ?_)
        · refine zn_aload_n (pc := 120) rfl rfl ?_
          refine zn_iload_n (pc := 121) rfl rfl ?_
          refine zn_iload_n (pc := 122) rfl rfl ?_
          refine zn_iload (pc := 123) rfl rfl ?_
          refine zn_callVx (pc := 125) (J := zX10_signOf) (o := 50) (as := [.int (nI l), .int (nI c), .int (nI k)]) (rest := []) rfl rfl rfl rfl rfl rfl rfl rfl (Nat.le_of_ble_eq_true rfl) (Nat.le_of_ble_eq_true rfl) (Nat.le_of_ble_eq_true rfl) (Nat.le_of_ble_eq_true rfl) (m_signOf (l := l) (c := c) (k := k) (by omega) (by omega) (by omega)) ?_
          refine zn_aload_n (pc := 128) rfl rfl ?_
          refine zn_iload_n (pc := 129) rfl rfl ?_
          refine zn_iload_n (pc := 130) rfl rfl ?_
          refine zn_iload (pc := 131) rfl rfl ?_
          refine zn_callVx (pc := 133) (J := zX10_signOf) (o := 50) (as := [.int (nI o), .int (nI c), .int (nI k)]) (rest := [.int (nI (z (217 + 16 * (8 * l + c) + k)))]) rfl rfl rfl rfl rfl rfl rfl rfl (Nat.le_of_ble_eq_true rfl) (Nat.le_of_ble_eq_true rfl) (Nat.le_of_ble_eq_true rfl) (Nat.le_of_ble_eq_true rfl) (m_signOf (l := o) (c := c) (k := k) (by omega) (by omega) (by omega)) ?_
          refine zn_isub (pc := 136) rfl ?_
          exact zx_i (pc := 137) rfl rfl (by unfold sCq; first | (rw [if_pos (by omega), if_pos (by omega), if_pos (by omega)]; done) | (rw [if_pos (by omega), if_pos (by omega), if_neg (by omega)]; done) | (rw [if_pos (by omega), if_neg (by omega), if_pos (by omega)]; done) | (rw [if_neg (by omega)]; done)) rfl
        · exact absurd c4 (by decide)
    · refine zn_iconstN (pc := 79) 1 rfl rfl ?_
      refine zn_goto (pc := 80) (tgt := 84) rfl rfl ?_
      refine zn_istore (pc := 84) (L' := [some (.ref 50), some (.int (nI l)), some (.int (nI o)), some (.int (nI c)), some (.int (nI k)), some (.int (nI 0)), some (.int (nI 1))]) rfl (by decide) rfl ?_
      refine zn_iload (pc := 86) rfl rfl ?_
      refine zn_if_neN (pc := 88) (tgt := 96) (x := 0) rfl rfl (by have := hzb (217 + 16 * (8 * l + c) + k); have := hzb (217 + 16 * (8 * o + c) + k); omega) (fun c5 => ?_) (fun c5 => ?_)
      · exact absurd c5 (by decide)
      · refine zn_iload (pc := 91) rfl rfl ?_
        refine zn_if_eqN (pc := 93) (tgt := 120) (x := 1) rfl rfl (by have := hzb (217 + 16 * (8 * l + c) + k); have := hzb (217 + 16 * (8 * o + c) + k); omega) (fun c6 => ?_) (fun c6 => ?_)
        · exact absurd c6 (by decide)
        · refine zn_iload (pc := 96) rfl rfl ?_
          refine zn_if_eqN (pc := 98) (tgt := 105) (x := 0) rfl rfl (by have := hzb (217 + 16 * (8 * l + c) + k); have := hzb (217 + 16 * (8 * o + c) + k); omega) (fun c7 => ?_) (fun c7 => ?_)
          · refine zn_iconstN (pc := 105) 1 rfl rfl ?_
            refine zn_iload (pc := 106) rfl rfl ?_
            refine zn_if_eqN (pc := 108) (tgt := 115) (x := 1) rfl rfl (by have := hzb (217 + 16 * (8 * l + c) + k); have := hzb (217 + 16 * (8 * o + c) + k); omega) (fun c8 => ?_) (fun c8 => ?_)
            · exact absurd c8 (by decide)
            · refine zn_iconstN (pc := 111) 0 rfl rfl ?_
              refine zn_goto (pc := 112) (tgt := 116) rfl rfl ?_
              refine zn_isub (pc := 116) rfl ?_
              refine zn_goto (pc := 117) (tgt := 137) rfl rfl ?_
              exact zx_i (pc := 137) rfl rfl (by unfold sCq; first | (rw [if_pos (by omega), if_pos (by omega), if_pos (by omega)]; done) | (rw [if_pos (by omega), if_pos (by omega), if_neg (by omega)]; done) | (rw [if_pos (by omega), if_neg (by omega), if_pos (by omega)]; done) | (rw [if_neg (by omega)]; done)) rfl
          · exact absurd c7 (by decide)
  · refine zn_iconstN (pc := 61) 1 rfl rfl ?_
    refine zn_goto (pc := 62) (tgt := 66) rfl rfl ?_
    refine zn_istore (pc := 66) (L' := [some (.ref 50), some (.int (nI l)), some (.int (nI o)), some (.int (nI c)), some (.int (nI k)), some (.int (nI 1)), none]) rfl (by decide) rfl ?_
    refine zn_iload (pc := 68) rfl rfl ?_
    refine zn_aload_n (pc := 70) rfl rfl ?_
    refine zn_iload_n (pc := 71) rfl rfl ?_
    refine zn_iload_n (pc := 72) rfl rfl ?_
    refine zn_callVx (pc := 73) (J := zX10_lengthOf) (o := 50) (as := [.int (nI o), .int (nI c)]) (rest := [.int (nI k)]) rfl rfl rfl rfl rfl rfl rfl rfl (Nat.le_of_ble_eq_true rfl) (Nat.le_of_ble_eq_true rfl) (Nat.le_of_ble_eq_true rfl) (Nat.le_of_ble_eq_true rfl) (m_lengthOf (l := o) (c := c) (by omega) (by omega)) ?_
    refine zn_icmp_neN (pc := 76) (tgt := 83) (x := k) (y := (z (25 + 8 * o + c))) rfl rfl (by have := hzb (217 + 16 * (8 * l + c) + k); have := hzb (217 + 16 * (8 * o + c) + k); omega) (by have := hzb (217 + 16 * (8 * l + c) + k); have := hzb (217 + 16 * (8 * o + c) + k); omega) (fun c9 => ?_) (fun c9 => ?_)
    · refine zn_iconstN (pc := 83) 0 rfl rfl ?_
      refine zn_istore (pc := 84) (L' := [some (.ref 50), some (.int (nI l)), some (.int (nI o)), some (.int (nI c)), some (.int (nI k)), some (.int (nI 1)), some (.int (nI 0))]) rfl (by decide) rfl ?_
      refine zn_iload (pc := 86) rfl rfl ?_
      refine zn_if_neN (pc := 88) (tgt := 96) (x := 1) rfl rfl (by have := hzb (217 + 16 * (8 * l + c) + k); have := hzb (217 + 16 * (8 * o + c) + k); omega) (fun c10 => ?_) (fun c10 => ?_)
      · refine zn_iload (pc := 96) rfl rfl ?_
        refine zn_if_eqN (pc := 98) (tgt := 105) (x := 1) rfl rfl (by have := hzb (217 + 16 * (8 * l + c) + k); have := hzb (217 + 16 * (8 * o + c) + k); omega) (fun c11 => ?_) (fun c11 => ?_)
        · exact absurd c11 (by decide)
        · refine zn_iconstN (pc := 101) 0 rfl rfl ?_
          refine zn_goto (pc := 102) (tgt := 106) rfl rfl ?_
          refine zn_iload (pc := 106) rfl rfl ?_
          refine zn_if_eqN (pc := 108) (tgt := 115) (x := 0) rfl rfl (by have := hzb (217 + 16 * (8 * l + c) + k); have := hzb (217 + 16 * (8 * o + c) + k); omega) (fun c12 => ?_) (fun c12 => ?_)
          · refine zn_iconstN (pc := 115) 1 rfl rfl ?_
            refine zn_isub (pc := 116) rfl ?_
            refine zn_goto (pc := 117) (tgt := 137) rfl rfl ?_
            exact zx_i (pc := 137) rfl rfl (by unfold sCq; first | (rw [if_pos (by omega), if_pos (by omega), if_pos (by omega)]; done) | (rw [if_pos (by omega), if_pos (by omega), if_neg (by omega)]; done) | (rw [if_pos (by omega), if_neg (by omega), if_pos (by omega)]; done) | (rw [if_neg (by omega)]; done)) rfl
          · exact absurd c12 (by decide)
      · exact absurd c10 (by decide)
    · refine zn_iconstN (pc := 79) 1 rfl rfl ?_
      refine zn_goto (pc := 80) (tgt := 84) rfl rfl ?_
      refine zn_istore (pc := 84) (L' := [some (.ref 50), some (.int (nI l)), some (.int (nI o)), some (.int (nI c)), some (.int (nI k)), some (.int (nI 1)), some (.int (nI 1))]) rfl (by decide) rfl ?_
      refine zn_iload (pc := 86) rfl rfl ?_
      refine zn_if_neN (pc := 88) (tgt := 96) (x := 1) rfl rfl (by have := hzb (217 + 16 * (8 * l + c) + k); have := hzb (217 + 16 * (8 * o + c) + k); omega) (fun c13 => ?_) (fun c13 => ?_)
      · refine zn_iload (pc := 96) rfl rfl ?_
        refine zn_if_eqN (pc := 98) (tgt := 105) (x := 1) rfl rfl (by have := hzb (217 + 16 * (8 * l + c) + k); have := hzb (217 + 16 * (8 * o + c) + k); omega) (fun c14 => ?_) (fun c14 => ?_)
        · exact absurd c14 (by decide)
        · refine zn_iconstN (pc := 101) 0 rfl rfl ?_
          refine zn_goto (pc := 102) (tgt := 106) rfl rfl ?_
          refine zn_iload (pc := 106) rfl rfl ?_
          refine zn_if_eqN (pc := 108) (tgt := 115) (x := 1) rfl rfl (by have := hzb (217 + 16 * (8 * l + c) + k); have := hzb (217 + 16 * (8 * o + c) + k); omega) (fun c15 => ?_) (fun c15 => ?_)
          · exact absurd c15 (by decide)
          · refine zn_iconstN (pc := 111) 0 rfl rfl ?_
            refine zn_goto (pc := 112) (tgt := 116) rfl rfl ?_
            refine zn_isub (pc := 116) rfl ?_
            refine zn_goto (pc := 117) (tgt := 137) rfl rfl ?_
            exact zx_i (pc := 137) rfl rfl (by unfold sCq; first | (rw [if_pos (by omega), if_pos (by omega), if_pos (by omega)]; done) | (rw [if_pos (by omega), if_pos (by omega), if_neg (by omega)]; done) | (rw [if_pos (by omega), if_neg (by omega), if_pos (by omega)]; done) | (rw [if_neg (by omega)]; done)) rfl
      · exact absurd c13 (by decide)
theorem m_comparedWords_l {l o c : Nat} (hl : l < 24) (ho : o < 24) (hc : c < 8) (h16 : z (25 + 8 * l + c) ≤ 16) (h16o : z (25 + 8 * o + c) ≤ 16) (hzb : ∀ j, z j < 1000) : ∀ (n : Nat) (k R : Nat), k + n = z (25 + 8 * l + c) → R = sCk (mf z l c) (mf z o c) (z (25 + 8 * l + c)) (z (25 + 8 * o + c)) n k → Zn g zX10_comparedWords 3 [some (.ref 50), some (.int (nI l)), some (.int (nI o)), some (.int (nI c)), some (.int (nI k)), none, none] [] (mhp h F S z A X) 0 0 (fun r' h' => r' = .inl (some (.int (sCq (mf z l c) (mf z o c) (z (25 + 8 * l + c)) (z (25 + 8 * o + c)) R))) ∧ h' = (mhp h F S z A X)) := by
  intro n
  induction n with
  | zero =>
    intro k R hn0 hn1
    have e1 : mf z l c k = z (217 + 16 * (8 * l + c) + k) := rfl
    have e2 : mf z o c k = z (217 + 16 * (8 * o + c) + k) := rfl
    refine zn_iload (pc := 3) rfl rfl ?_
    refine zn_aload_n (pc := 5) rfl rfl ?_
    refine zn_iload_n (pc := 6) rfl rfl ?_
    refine zn_iload_n (pc := 7) rfl rfl ?_
    refine zn_callVx (pc := 8) (J := zX10_lengthOf) (o := 50) (as := [.int (nI l), .int (nI c)]) (rest := [.int (nI k)]) rfl rfl rfl rfl rfl rfl rfl rfl (Nat.le_of_ble_eq_true rfl) (Nat.le_of_ble_eq_true rfl) (Nat.le_of_ble_eq_true rfl) (Nat.le_of_ble_eq_true rfl) (m_lengthOf (l := l) (c := c) (by omega) (by omega)) ?_
    refine zn_icmp_geN (pc := 11) (tgt := 50) (x := k) (y := (z (25 + 8 * l + c))) rfl rfl (by have := hzb (217 + 16 * (8 * l + c) + k); have := hzb (217 + 16 * (8 * o + c) + k); omega) (by have := hzb (217 + 16 * (8 * l + c) + k); have := hzb (217 + 16 * (8 * o + c) + k); omega) (fun c1 => ?_) (fun c1 => ?_)
    · have hR : R = k := by rw [hn1]; simp only [sCk]
      rw [hR]
      exact m_comparedWords_e hl ho hc h16 h16o hzb (by omega)
    · exfalso; omega
  | succ n ih =>
    intro k R hn0 hn1
    have e1 : mf z l c k = z (217 + 16 * (8 * l + c) + k) := rfl
    have e2 : mf z o c k = z (217 + 16 * (8 * o + c) + k) := rfl
    refine zn_iload (pc := 3) rfl rfl ?_
    refine zn_aload_n (pc := 5) rfl rfl ?_
    refine zn_iload_n (pc := 6) rfl rfl ?_
    refine zn_iload_n (pc := 7) rfl rfl ?_
    refine zn_callVx (pc := 8) (J := zX10_lengthOf) (o := 50) (as := [.int (nI l), .int (nI c)]) (rest := [.int (nI k)]) rfl rfl rfl rfl rfl rfl rfl rfl (Nat.le_of_ble_eq_true rfl) (Nat.le_of_ble_eq_true rfl) (Nat.le_of_ble_eq_true rfl) (Nat.le_of_ble_eq_true rfl) (m_lengthOf (l := l) (c := c) (by omega) (by omega)) ?_
    refine zn_icmp_geN (pc := 11) (tgt := 50) (x := k) (y := (z (25 + 8 * l + c))) rfl rfl (by have := hzb (217 + 16 * (8 * l + c) + k); have := hzb (217 + 16 * (8 * o + c) + k); omega) (by have := hzb (217 + 16 * (8 * l + c) + k); have := hzb (217 + 16 * (8 * o + c) + k); omega) (fun c1 => ?_) (fun c1 => ?_)
    · have hR : R = k := by rw [hn1]; simp only [sCk]; rw [if_neg (by omega)]
      rw [hR]
      exact m_comparedWords_e hl ho hc h16 h16o hzb (by omega)
    · refine zn_iload (pc := 14) rfl rfl ?_
      refine zn_aload_n (pc := 16) rfl rfl ?_
      refine zn_iload_n (pc := 17) rfl rfl ?_
      refine zn_iload_n (pc := 18) rfl rfl ?_
      refine zn_callVx (pc := 19) (J := zX10_lengthOf) (o := 50) (as := [.int (nI o), .int (nI c)]) (rest := [.int (nI k)]) rfl rfl rfl rfl rfl rfl rfl rfl (Nat.le_of_ble_eq_true rfl) (Nat.le_of_ble_eq_true rfl) (Nat.le_of_ble_eq_true rfl) (Nat.le_of_ble_eq_true rfl) (m_lengthOf (l := o) (c := c) (by omega) (by omega)) ?_
      refine zn_icmp_geN (pc := 22) (tgt := 50) (x := k) (y := (z (25 + 8 * o + c))) rfl rfl (by have := hzb (217 + 16 * (8 * l + c) + k); have := hzb (217 + 16 * (8 * o + c) + k); omega) (by have := hzb (217 + 16 * (8 * l + c) + k); have := hzb (217 + 16 * (8 * o + c) + k); omega) (fun c2 => ?_) (fun c2 => ?_)
      · have hR : R = k := by rw [hn1]; simp only [sCk]; rw [if_neg (by omega)]
        rw [hR]
        exact m_comparedWords_e hl ho hc h16 h16o hzb (by omega)
      · refine zn_aload_n (pc := 25) rfl rfl ?_
        refine zn_iload_n (pc := 26) rfl rfl ?_
        refine zn_iload_n (pc := 27) rfl rfl ?_
        refine zn_iload (pc := 28) rfl rfl ?_
        refine zn_callVx (pc := 30) (J := zX10_signOf) (o := 50) (as := [.int (nI l), .int (nI c), .int (nI k)]) (rest := []) rfl rfl rfl rfl rfl rfl rfl rfl (Nat.le_of_ble_eq_true rfl) (Nat.le_of_ble_eq_true rfl) (Nat.le_of_ble_eq_true rfl) (Nat.le_of_ble_eq_true rfl) (m_signOf (l := l) (c := c) (k := k) (by omega) (by omega) (by omega)) ?_
        refine zn_aload_n (pc := 33) rfl rfl ?_
        refine zn_iload_n (pc := 34) rfl rfl ?_
        refine zn_iload_n (pc := 35) rfl rfl ?_
        refine zn_iload (pc := 36) rfl rfl ?_
        refine zn_callVx (pc := 38) (J := zX10_signOf) (o := 50) (as := [.int (nI o), .int (nI c), .int (nI k)]) (rest := [.int (nI (z (217 + 16 * (8 * l + c) + k)))]) rfl rfl rfl rfl rfl rfl rfl rfl (Nat.le_of_ble_eq_true rfl) (Nat.le_of_ble_eq_true rfl) (Nat.le_of_ble_eq_true rfl) (Nat.le_of_ble_eq_true rfl) (m_signOf (l := o) (c := c) (k := k) (by omega) (by omega) (by omega)) ?_
        refine zn_icmp_neN (pc := 41) (tgt := 50) (x := (z (217 + 16 * (8 * l + c) + k))) (y := (z (217 + 16 * (8 * o + c) + k))) rfl rfl (by have := hzb (217 + 16 * (8 * l + c) + k); have := hzb (217 + 16 * (8 * o + c) + k); omega) (by have := hzb (217 + 16 * (8 * l + c) + k); have := hzb (217 + 16 * (8 * o + c) + k); omega) (fun c3 => ?_) (fun c3 => ?_)
        · have hR : R = k := by rw [hn1]; simp only [sCk]; rw [if_neg (by omega)]
          rw [hR]
          exact m_comparedWords_e hl ho hc h16 h16o hzb (by omega)
        · refine zn_iincN (pc := 44) (L' := [some (.ref 50), some (.int (nI l)), some (.int (nI o)), some (.int (nI c)), some (.int (nI (k + 1))), none, none]) 1 rfl rfl rfl (by decide) rfl ?_
          refine zn_goto (pc := 47) (tgt := 3) rfl rfl ?_
          exact ih (k + 1) R (by omega) (by rw [hn1]; simp only [sCk]; rw [if_pos (by omega)])
theorem m_comparedWords  {l o c : Nat} (hl : l < 24) (ho : o < 24) (hc : c < 8) (h16 : z (25 + 8 * l + c) ≤ 16) (h16o : z (25 + 8 * o + c) ≤ 16) (hzb : ∀ j, z j < 1000) : Zx g zX10_comparedWords [.ref 50, .int (nI l), .int (nI o), .int (nI c)] (mhp h F S z A X) (some (.int (sCmp (mf z l c) (mf z o c) (z (25 + 8 * l + c)) (z (25 + 8 * o + c))))) (mhp h F S z A X) := by
  show Zn g zX10_comparedWords 0 [some (.ref 50), some (.int (nI l)), some (.int (nI o)), some (.int (nI c)), none, none, none] [] (mhp h F S z A X) 0 0 _
  refine zn_iconstN (pc := 0) 0 rfl rfl ?_
  refine zn_istore (pc := 1) (L' := [some (.ref 50), some (.int (nI l)), some (.int (nI o)), some (.int (nI c)), some (.int (nI 0)), none, none]) rfl (by decide) rfl ?_
  exact m_comparedWords_l hl ho hc h16 h16o hzb (z (25 + 8 * l + c)) 0 _ (by omega) rfl
theorem m_rankOf  {k : Nat} (hk : k ≤ 2) : Zx g zX10_rankOf [.int (nI k)] hh (some (.int (nI (sRank k)))) hh := by
  show Zn g zX10_rankOf 0 [some (.int (nI k))] [] hh 0 0 _
  refine zn_iload_n (pc := 0) rfl rfl ?_
  refine zn_iconstN (pc := 1) 1 rfl rfl ?_
  refine zn_icmp_neN (pc := 2) (tgt := 9) (x := k) (y := 1) rfl rfl (by omega) (by omega) (fun c1 => ?_) (fun c1 => ?_)
  · refine zn_iload_n (pc := 9) rfl rfl ?_
    refine zn_iconstN (pc := 10) 2 rfl rfl ?_
    refine zn_icmp_neN (pc := 11) (tgt := 18) (x := k) (y := 2) rfl rfl (by omega) (by omega) (fun c2 => ?_) (fun c2 => ?_)
    · refine zn_iconstN (pc := 18) 2 rfl rfl ?_
      exact zx_i (pc := 19) rfl rfl (by unfold sRank; rw [if_neg (by omega), if_neg (by omega)]) rfl
    · refine zn_iconstN (pc := 14) 1 rfl rfl ?_
      refine zn_goto (pc := 15) (tgt := 19) rfl rfl ?_
      exact zx_i (pc := 19) rfl rfl (by unfold sRank; rw [if_neg (by omega), if_pos (by omega)]) rfl
  · refine zn_iconstN (pc := 5) 0 rfl rfl ?_
    refine zn_goto (pc := 6) (tgt := 19) rfl rfl ?_
    exact zx_i (pc := 19) rfl rfl (by unfold sRank; rw [if_pos (by omega)]) rfl
theorem m_isBehind  {l o c : Nat} (hl : l < 24) (ho : o < 24) (hc : c < 8) (h16 : z (25 + 8 * l + c) ≤ 16) (h16o : z (25 + 8 * o + c) ≤ 16) (hzb : ∀ j, z j < 1000) {d : Nat} (hd : d ≤ 1) : Zx g zX10_isBehind [.ref 50, .int (nI l), .int (nI o), .int (nI c), .int (nI d)] (mhp h F S z A X) (some (.int (zb (mBh z c d l o)))) (mhp h F S z A X) := by
  have r1 : mR z c l ≤ 2 := sRank_le (mK z c l)
  have r2 : mR z c o ≤ 2 := sRank_le (mK z c o)
  show Zn g zX10_isBehind 0 [some (.ref 50), some (.int (nI l)), some (.int (nI o)), some (.int (nI c)), some (.int (nI d)), none, none, none, none] [] (mhp h F S z A X) 0 0 _
  refine zn_aload_n (pc := 0) rfl rfl ?_
  refine zn_iload_n (pc := 1) rfl rfl ?_
  refine zn_iload_n (pc := 2) rfl rfl ?_
  refine zn_callVx (pc := 3) (J := zX10_kindOf) (o := 50) (as := [.int (nI l), .int (nI c)]) (rest := []) rfl rfl rfl rfl rfl rfl rfl rfl (Nat.le_of_ble_eq_true rfl) (Nat.le_of_ble_eq_true rfl) (Nat.le_of_ble_eq_true rfl) (Nat.le_of_ble_eq_true rfl) (m_kindOf (l := l) (c := c) (by omega) (by omega) (by omega) hzb) ?_
  refine zn_callSx (pc := 6) (J := zX10_rankOf) (as := [.int (nI (skind (mf z l c) (z (25 + 8 * l + c))))]) (rest := []) rfl (by decide) rfl rfl rfl rfl (Nat.le_of_ble_eq_true rfl) (Nat.le_of_ble_eq_true rfl) (Nat.le_of_ble_eq_true rfl) (Nat.le_of_ble_eq_true rfl) (m_rankOf (k := (skind (mf z l c) (z (25 + 8 * l + c)))) (skind_le _ _)) ?_
  refine zn_top (v' := .int (nI (mR z c l))) rfl ?_
  refine zn_istore (pc := 9) (L' := [some (.ref 50), some (.int (nI l)), some (.int (nI o)), some (.int (nI c)), some (.int (nI d)), some (.int (nI (mR z c l))), none, none, none]) rfl (by decide) rfl ?_
  refine zn_aload_n (pc := 11) rfl rfl ?_
  refine zn_iload_n (pc := 12) rfl rfl ?_
  refine zn_iload_n (pc := 13) rfl rfl ?_
  refine zn_callVx (pc := 14) (J := zX10_kindOf) (o := 50) (as := [.int (nI o), .int (nI c)]) (rest := []) rfl rfl rfl rfl rfl rfl rfl rfl (Nat.le_of_ble_eq_true rfl) (Nat.le_of_ble_eq_true rfl) (Nat.le_of_ble_eq_true rfl) (Nat.le_of_ble_eq_true rfl) (m_kindOf (l := o) (c := c) (by omega) (by omega) (by omega) hzb) ?_
  refine zn_callSx (pc := 17) (J := zX10_rankOf) (as := [.int (nI (skind (mf z o c) (z (25 + 8 * o + c))))]) (rest := []) rfl (by decide) rfl rfl rfl rfl (Nat.le_of_ble_eq_true rfl) (Nat.le_of_ble_eq_true rfl) (Nat.le_of_ble_eq_true rfl) (Nat.le_of_ble_eq_true rfl) (m_rankOf (k := (skind (mf z o c) (z (25 + 8 * o + c)))) (skind_le _ _)) ?_
  refine zn_top (v' := .int (nI (mR z c o))) rfl ?_
  refine zn_istore (pc := 20) (L' := [some (.ref 50), some (.int (nI l)), some (.int (nI o)), some (.int (nI c)), some (.int (nI d)), some (.int (nI (mR z c l))), some (.int (nI (mR z c o))), none, none]) rfl (by decide) rfl ?_
  refine zn_iload (pc := 22) rfl rfl ?_
  refine zn_iload (pc := 24) rfl rfl ?_
  refine zn_icmp_neN (pc := 26) (tgt := 35) (x := (mR z c l)) (y := (mR z c o)) rfl rfl (by omega) (by omega) (fun c1 => ?_) (fun c1 => ?_)
  · have hr9 : mR z c l ≠ mR z c o ∨ mR z c l = 2 := Or.inl c1
    refine zn_iload (pc := 35) rfl rfl ?_
    refine zn_iload (pc := 37) rfl rfl ?_
    refine zn_icmp_leN (pc := 39) (tgt := 46) (x := (mR z c l)) (y := (mR z c o)) rfl rfl (by omega) (by omega) (fun c2 => ?_) (fun c2 => ?_)
    · refine zn_iconstN (pc := 46) 0 rfl rfl ?_
      exact zx_z (pc := 47) rfl rfl (by decide) (by rw [zb_f (by intro q; rcases q with q | q; exact absurd q.2 (by omega); exact absurd (by assumption) q.1)]; rfl) rfl
    · refine zn_iconstN (pc := 42) 1 rfl rfl ?_
      refine zn_goto (pc := 43) (tgt := 47) rfl rfl ?_
      exact zx_z (pc := 47) rfl rfl (by decide) (by rw [zb_t (Or.inl ⟨by assumption, by omega⟩)]; rfl) rfl
  · refine zn_iload (pc := 29) rfl rfl ?_
    refine zn_iconstN (pc := 31) 2 rfl rfl ?_
    refine zn_icmp_neN (pc := 32) (tgt := 48) (x := (mR z c l)) (y := 2) rfl rfl (by omega) (by omega) (fun c3 => ?_) (fun c3 => ?_)
    · have hr9 : ¬ (mR z c l ≠ mR z c o ∨ mR z c l = 2) := by omega
      refine zn_joinV (v := .long (mBy z c l o)) (pj := 77) ?_ (fun K4 => ?_)
      · refine zn_lstore (pc := 77) (L' := [some (.ref 50), some (.int (nI l)), some (.int (nI o)), some (.int (nI c)), some (.int (nI d)), some (.int (nI (mR z c l))), some (.int (nI (mR z c o))), some (.long (mBy z c l o)), none]) rfl (by decide) rfl ?_
        refine zn_iload (pc := 79) rfl rfl ?_
        refine zn_if_eqN (pc := 81) (tgt := 99) (x := d) rfl rfl (by omega) (fun c5 => ?_) (fun c5 => ?_)
        · refine zn_lload (pc := 99) rfl rfl ?_
          refine zn_lconst (pc := 101) 0 rfl rfl ?_
          refine zn_lcmp (pc := 102) rfl ?_
          refine zn_if_le (pc := 103) (tgt := 110) (x := (lg_cmp (mBy z c l o) 0)) rfl rfl (fun c6 => ?_) (fun c6 => ?_)
          · refine zn_iconstN (pc := 110) 0 rfl rfl ?_
            exact zx_z (pc := 111) rfl rfl (by decide) (by rw [zb_f (by intro q; rcases q with q | q; exact absurd q.1 (by assumption); rcases q.2 with q | q; exact absurd (by assumption) q.1; exact absurd (by assumption) q.2)]; rfl) rfl
          · refine zn_iconstN (pc := 106) 1 rfl rfl ?_
            refine zn_goto (pc := 107) (tgt := 111) rfl rfl ?_
            exact zx_z (pc := 111) rfl rfl (by decide) (by rw [zb_t (Or.inr ⟨by assumption, Or.inr ⟨by assumption, by assumption⟩⟩)]; rfl) rfl
        · refine zn_lload (pc := 84) rfl rfl ?_
          refine zn_lconst (pc := 86) 0 rfl rfl ?_
          refine zn_lcmp (pc := 87) rfl ?_
          refine zn_if_ge (pc := 88) (tgt := 95) (x := (lg_cmp (mBy z c l o) 0)) rfl rfl (fun c7 => ?_) (fun c7 => ?_)
          · refine zn_iconstN (pc := 95) 0 rfl rfl ?_
            refine zn_goto (pc := 96) (tgt := 111) rfl rfl ?_
            exact zx_z (pc := 111) rfl rfl (by decide) (by rw [zb_f (by intro q; rcases q with q | q; exact absurd q.1 (by assumption); rcases q.2 with q | q; exact absurd (by assumption) q.2; exact absurd q.1 (by assumption))]; rfl) rfl
          · refine zn_iconstN (pc := 91) 1 rfl rfl ?_
            refine zn_goto (pc := 92) (tgt := 111) rfl rfl ?_
            exact zx_z (pc := 111) rfl rfl (by decide) (by rw [zb_t (Or.inr ⟨by assumption, Or.inl ⟨by assumption, by assumption⟩⟩)]; rfl) rfl
      · refine zn_iload (pc := 48) rfl rfl ?_
        refine zn_if_neN (pc := 50) (tgt := 69) (x := (mR z c l)) rfl rfl (by omega) (fun c8 => ?_) (fun c8 => ?_)
        · refine zn_aload_n (pc := 69) rfl rfl ?_
          refine zn_iload_n (pc := 70) rfl rfl ?_
          refine zn_iload_n (pc := 71) rfl rfl ?_
          refine zn_iload_n (pc := 72) rfl rfl ?_
          refine zn_callVx (pc := 73) (J := zX10_comparedWords) (o := 50) (as := [.int (nI l), .int (nI o), .int (nI c)]) (rest := []) rfl rfl rfl rfl rfl rfl rfl rfl (Nat.le_of_ble_eq_true rfl) (Nat.le_of_ble_eq_true rfl) (Nat.le_of_ble_eq_true rfl) (Nat.le_of_ble_eq_true rfl) (m_comparedWords (l := l) (o := o) (c := c) (by omega) (by omega) (by omega) (by omega) (by omega) hzb) ?_
          refine zn_i2l (pc := 76) rfl ?_
          exact zn_top (v' := .long (mBy z c l o)) (by unfold mBy; rw [if_neg (by assumption)]) K4
        · refine zn_aload_n (pc := 53) rfl rfl ?_
          refine zn_iload_n (pc := 54) rfl rfl ?_
          refine zn_iload_n (pc := 55) rfl rfl ?_
          refine zn_callVx (pc := 56) (J := zX10_valueOf) (o := 50) (as := [.int (nI l), .int (nI c)]) (rest := []) rfl rfl rfl rfl rfl rfl rfl rfl (Nat.le_of_ble_eq_true rfl) (Nat.le_of_ble_eq_true rfl) (Nat.le_of_ble_eq_true rfl) (Nat.le_of_ble_eq_true rfl) (m_valueOf (l := l) (c := c) (by omega) (by omega) (by omega) hzb) ?_
          refine zn_aload_n (pc := 59) rfl rfl ?_
          refine zn_iload_n (pc := 60) rfl rfl ?_
          refine zn_iload_n (pc := 61) rfl rfl ?_
          refine zn_callVx (pc := 62) (J := zX10_valueOf) (o := 50) (as := [.int (nI o), .int (nI c)]) (rest := [.long (sVal (mf z l c) (z (25 + 8 * l + c)))]) rfl rfl rfl rfl rfl rfl rfl rfl (Nat.le_of_ble_eq_true rfl) (Nat.le_of_ble_eq_true rfl) (Nat.le_of_ble_eq_true rfl) (Nat.le_of_ble_eq_true rfl) (m_valueOf (l := o) (c := c) (by omega) (by omega) (by omega) hzb) ?_
          refine zn_lsub (pc := 65) rfl ?_
          refine zn_goto (pc := 66) (tgt := 77) rfl rfl ?_
          exact zn_top (v' := .long (mBy z c l o)) (by unfold mBy; rw [if_pos (by assumption)]) K4
    · have hr9 : mR z c l ≠ mR z c o ∨ mR z c l = 2 := Or.inr c3
      refine zn_iload (pc := 35) rfl rfl ?_
      refine zn_iload (pc := 37) rfl rfl ?_
      refine zn_icmp_leN (pc := 39) (tgt := 46) (x := (mR z c l)) (y := (mR z c o)) rfl rfl (by omega) (by omega) (fun c9 => ?_) (fun c9 => ?_)
      · refine zn_iconstN (pc := 46) 0 rfl rfl ?_
        exact zx_z (pc := 47) rfl rfl (by decide) (by rw [zb_f (by intro q; rcases q with q | q; exact absurd q.2 (by omega); exact absurd (by assumption) q.1)]; rfl) rfl
      · refine zn_iconstN (pc := 42) 1 rfl rfl ?_
        refine zn_goto (pc := 43) (tgt := 47) rfl rfl ?_
        exact zx_z (pc := 47) rfl rfl (by decide) (by rw [zb_t (Or.inl ⟨by assumption, by omega⟩)]; rfl) rfl
end m1
