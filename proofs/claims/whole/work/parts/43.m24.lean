section m1
variable {g : zG} {h hh : zH} {F : Nat → Nat} {S : Int64} {z : Nat → Nat} {A : Nat → Nat → Nat} {X : Nat → Int32}
theorem zx_d {I : zI} {pc a b : Nat} {L : zL} {mc ms : Nat} {h1 : zH} {v : UInt64} {r : Option Value} (hf : zF I pc = some (.dreturn, 1, a, b)) (hr : zRt I = some .double) (hv : r = some (.double v)) (hh9 : h = h1) : Zn g I pc L [.double v] h mc ms (fun r' h' => r' = .inl r ∧ h' = h1) := zn_dret hf hr ⟨by rw [hv], hh9⟩
theorem dm_iff {a l : Nat} (ha : a < 2 ^ 30) (hl : l < 2 ^ 30) : (nI a < nI l - 1) ↔ a + 1 < l := by
  cases l with
  | zero => exact ⟨fun q => absurd q (by rw [Int32.lt_iff_toInt_lt, nI_toInt (by omega), show (nI 0 - 1).toInt = -1 by decide +kernel]; omega), fun q => by omega⟩
  | succ k => rw [nI_pred, nI_ltI (by omega) (by omega)]; omega
/-- the place of column x in cell c -/
def mAt (F : Nat → Nat) (A : Nat → Nat → Nat) (z : Nat → Nat) (l : Nat) (x : Int32) (c : Nat) : Int32 := x - nI (mX A z (F 13) l c) - mSh F A z l c (mOf A z l c (F 13))
def mSw (F : Nat → Nat) (A : Nat → Nat → Nat) (z : Nat → Nat) (l : Nat) (x : Int32) : Nat → Nat
  | 0 => 32
  | c + 1 => if zin (mAt F A z l x c) (z (25 + 8 * l + c)) then z (217 + 16 * (8 * l + c) + (mAt F A z l x c).toNatClampNeg) else mSw F A z l x c
def mHt (A : Nat → Nat → Nat) (z : Nat → Nat) (n l q : Nat) : Nat → Nat
  | 0 => 0
  | c + 1 => if mX A z n l c ≤ q then c else mHt A z n l q c
theorem m_shownNow_l (hz : mOK z) (h168 : F 13 ≤ 168) (ha : ∀ i j, A i j < 2 ^ 20) (hv : mCov A z (F 13)) (hzb : ∀ j, z j < 1000) {l : Nat} (hl : l < z 0) (x : Int32) : ∀ (n : Nat) (c : Nat), c + n = z (1 + l) → Zn g zX10_shownNow 6 [some (.ref 50), some (.int (nI l)), some (.int x), some (.int (nI (mSw F A z l x c))), some (.int (nI c)), none] [] (mhp h F S z A X) 0 0 (fun r' h' => r' = .inl (some (.int (nI (mSw F A z l x (z (1 + l)))))) ∧ h' = (mhp h F S z A X)) := by
  intro n
  induction n with
  | zero =>
    intro c hn0
    have h0 := hz.1
    have h1 := hz.2.1
    have hzl := hz.2.2.1 l hl
    refine zn_iload (pc := 6) rfl rfl ?_
    refine zn_aload_n (pc := 8) rfl rfl ?_
    refine zn_iload_n (pc := 9) rfl rfl ?_
    refine zn_callVx (pc := 10) (J := zX10_cells) (o := 50) (as := [.int (nI l)]) (rest := [.int (nI c)]) rfl rfl rfl rfl rfl rfl rfl rfl (Nat.le_of_ble_eq_true rfl) (Nat.le_of_ble_eq_true rfl) (Nat.le_of_ble_eq_true rfl) (Nat.le_of_ble_eq_true rfl) (m_cells (l := l) (by omega)) ?_
    refine zn_icmp_geN (pc := 13) (tgt := 73) (x := c) (y := (z (1 + l))) rfl rfl (by omega) (by omega) (fun c1 => ?_) (fun c1 => ?_)
    · refine zn_iload_n (pc := 73) rfl rfl ?_
      have e8 : c = z (1 + l) := by omega
      exact zx_i (pc := 74) rfl rfl (by rw [e8]) rfl
    · exfalso; omega
  | succ n ih =>
    intro c hn0
    have h0 := hz.1
    have h1 := hz.2.1
    have hzl := hz.2.2.1 l hl
    refine zn_iload (pc := 6) rfl rfl ?_
    refine zn_aload_n (pc := 8) rfl rfl ?_
    refine zn_iload_n (pc := 9) rfl rfl ?_
    refine zn_callVx (pc := 10) (J := zX10_cells) (o := 50) (as := [.int (nI l)]) (rest := [.int (nI c)]) rfl rfl rfl rfl rfl rfl rfl rfl (Nat.le_of_ble_eq_true rfl) (Nat.le_of_ble_eq_true rfl) (Nat.le_of_ble_eq_true rfl) (Nat.le_of_ble_eq_true rfl) (m_cells (l := l) (by omega)) ?_
    refine zn_icmp_geN (pc := 13) (tgt := 73) (x := c) (y := (z (1 + l))) rfl rfl (by omega) (by omega) (fun c1 => ?_) (fun c1 => ?_)
    · refine zn_iload_n (pc := 73) rfl rfl ?_
      have e8 : c = z (1 + l) := by omega
      exact zx_i (pc := 74) rfl rfl (by rw [e8]) rfl
    · have h16 := hz.2.2.2 l c hl (by omega)
      refine zn_iload_n (pc := 16) rfl rfl ?_
      refine zn_aload_n (pc := 17) rfl rfl ?_
      refine zn_iload_n (pc := 18) rfl rfl ?_
      refine zn_iload (pc := 19) rfl rfl ?_
      refine zn_callVx (pc := 21) (J := zX10_xOf) (o := 50) (as := [.int (nI l), .int (nI c)]) (rest := [.int x]) rfl rfl rfl rfl rfl rfl rfl rfl (Nat.le_of_ble_eq_true rfl) (Nat.le_of_ble_eq_true rfl) (Nat.le_of_ble_eq_true rfl) (Nat.le_of_ble_eq_true rfl) (m_xOf hz h168 ha hv (l := l) (c := c) (by omega) (by omega)) ?_
      refine zn_isub (pc := 24) rfl ?_
      refine zn_aload_n (pc := 25) rfl rfl ?_
      refine zn_iload_n (pc := 26) rfl rfl ?_
      refine zn_iload (pc := 27) rfl rfl ?_
      refine zn_callVx (pc := 29) (J := zX10_shiftOf) (o := 50) (as := [.int (nI l), .int (nI c)]) (rest := [.int (x - (nI (mX A z (F 13) l c)))]) rfl rfl rfl rfl rfl rfl rfl rfl (Nat.le_of_ble_eq_true rfl) (Nat.le_of_ble_eq_true rfl) (Nat.le_of_ble_eq_true rfl) (Nat.le_of_ble_eq_true rfl) (m_shiftOf hz (l := l) (c := c) (by omega) (by omega) hzb h168 ha) ?_
      refine zn_isub (pc := 32) rfl ?_
      refine zn_top (v' := .int (mAt F A z l x c)) rfl ?_
      refine zn_istore (pc := 33) (L' := [some (.ref 50), some (.int (nI l)), some (.int x), some (.int (nI (mSw F A z l x c))), some (.int (nI c)), some (.int (mAt F A z l x c))]) rfl (by decide) rfl ?_
      refine zn_joinV (v := .int (nI (mSw F A z l x (c + 1)))) (pj := 66) ?_ (fun K2 => ?_)
      · refine zn_istore_n (pc := 66) (L' := [some (.ref 50), some (.int (nI l)), some (.int x), some (.int (nI (mSw F A z l x (c + 1)))), some (.int (nI c)), some (.int (mAt F A z l x c))]) rfl (by decide) rfl ?_
        refine zn_iincN (pc := 67) (L' := [some (.ref 50), some (.int (nI l)), some (.int x), some (.int (nI (mSw F A z l x (c + 1)))), some (.int (nI (c + 1))), some (.int (mAt F A z l x c))]) 1 rfl rfl rfl (by decide) rfl ?_
        refine zn_goto (pc := 70) (tgt := 6) rfl rfl ?_
        exact zn_sub (L' := [some (.ref 50), some (.int (nI l)), some (.int x), some (.int (nI (mSw F A z l x (c + 1)))), some (.int (nI (c + 1))), none]) ⟨rfl, rfl, rfl, rfl, rfl, trivial⟩ (ih (c + 1) (by omega))
      · refine zn_iload (pc := 35) rfl rfl ?_
        refine zn_iconstN (pc := 37) 0 rfl rfl ?_
        refine zn_aload_n (pc := 38) rfl rfl ?_
        refine zn_iload_n (pc := 39) rfl rfl ?_
        refine zn_iload (pc := 40) rfl rfl ?_
        refine zn_callVx (pc := 42) (J := zX10_lengthOf) (o := 50) (as := [.int (nI l), .int (nI c)]) (rest := [.int (nI 0), .int (mAt F A z l x c)]) rfl rfl rfl rfl rfl rfl rfl rfl (Nat.le_of_ble_eq_true rfl) (Nat.le_of_ble_eq_true rfl) (Nat.le_of_ble_eq_true rfl) (Nat.le_of_ble_eq_true rfl) (m_lengthOf (l := l) (c := c) (by omega) (by omega)) ?_
        refine zn_iconstN (pc := 45) 1 rfl rfl ?_
        refine zn_isub (pc := 46) rfl ?_
        refine zn_callSx (pc := 47) (J := zX10_within) (as := [.int (mAt F A z l x c), .int (nI 0), .int (nI (z (25 + 8 * l + c)) - 1)]) (rest := []) rfl (by decide) rfl rfl rfl rfl (Nat.le_of_ble_eq_true rfl) (Nat.le_of_ble_eq_true rfl) (Nat.le_of_ble_eq_true rfl) (Nat.le_of_ble_eq_true rfl) (m_within (mAt F A z l x c) (nI 0) (nI (z (25 + 8 * l + c)) - 1)) ?_
        refine zn_if_eqB (pc := 50) (tgt := 65) rfl rfl (fun c3 => ?_) (fun c3 => ?_)
        · refine zn_iload_n (pc := 65) rfl rfl ?_
          exact zn_top (v' := .int (nI (mSw F A z l x (c + 1)))) (by simp only [mSw]; rw [if_neg (fun q9 => absurd ((zin_w0 (by omega)).mpr q9) (by assumption))]) K2
        · obtain ⟨q, hq, e9⟩ := zin_ex ((zin_w0 (by omega)).mp c3) (by omega)
          rw [e9] at K2 ⊢
          refine zn_aload_n (pc := 53) rfl rfl ?_
          refine zn_iload_n (pc := 54) rfl rfl ?_
          refine zn_iload (pc := 55) rfl rfl ?_
          refine zn_iload (pc := 57) rfl rfl ?_
          refine zn_callVx (pc := 59) (J := zX10_signOf) (o := 50) (as := [.int (nI l), .int (nI c), .int (nI q)]) (rest := []) rfl rfl rfl rfl rfl rfl rfl rfl (Nat.le_of_ble_eq_true rfl) (Nat.le_of_ble_eq_true rfl) (Nat.le_of_ble_eq_true rfl) (Nat.le_of_ble_eq_true rfl) (m_signOf (l := l) (c := c) (k := q) (by omega) (by omega) (by omega)) ?_
          refine zn_goto (pc := 62) (tgt := 66) rfl rfl ?_
          exact zn_top (v' := .int (nI (mSw F A z l x (c + 1)))) (by simp only [mSw]; rw [if_pos (by rw [e9]; exact (zin_nI (by omega)).mpr hq), e9, nI_clamp (by omega)]) K2
theorem m_shownNow  (hz : mOK z) (h168 : F 13 ≤ 168) (ha : ∀ i j, A i j < 2 ^ 20) (hv : mCov A z (F 13)) (hzb : ∀ j, z j < 1000) {l : Nat} (hl : l < z 0) (x : Int32) : Zx g zX10_shownNow [.ref 50, .int (nI l), .int x] (mhp h F S z A X) (some (.int (nI (mSw F A z l x (z (1 + l)))))) (mhp h F S z A X) := by
  show Zn g zX10_shownNow 0 [some (.ref 50), some (.int (nI l)), some (.int x), none, none, none] [] (mhp h F S z A X) 0 0 _
  refine zn_bipushN (pc := 0) 32 rfl rfl ?_
  refine zn_istore_n (pc := 2) (L' := [some (.ref 50), some (.int (nI l)), some (.int x), some (.int (nI 32)), none, none]) rfl (by decide) rfl ?_
  refine zn_iconstN (pc := 3) 0 rfl rfl ?_
  refine zn_istore (pc := 4) (L' := [some (.ref 50), some (.int (nI l)), some (.int x), some (.int (nI 32)), some (.int (nI 0)), none]) rfl (by decide) rfl ?_
  exact m_shownNow_l hz h168 ha hv hzb hl x (z (1 + l)) 0 (by omega)
theorem m_shown_1  (hz : mOK z) (hzb : ∀ j, z j < 1000) (h4 : ∀ j, A 4 j ≤ 3) (hg : 1 ≤ F 10) (hg8 : F 10 ≤ 8) (hlw : F 9 ≤ 20) (hpd : F 8 ≤ 8) (x y : Int32) (hp : ¬ (zin x (z 0) ∧ ¬ y < 0)) : Zx g zX10_shown [.ref 50, .int x, .int y] (mhp h F S z A X) (some (.int (nI 0))) (mhp h (va_up (va_up F 0 1) 13 (bAll z 7).length) S z (mL (va_up F 0 1) z A (bAll z 7)) X) := by
  have h0 := hz.1
  have h1 := hz.2.1
  show Zn g zX10_shown 0 [some (.ref 50), some (.int x), some (.int y)] [] (mhp h F S z A X) 0 0 _
  refine zn_aload_n (pc := 0) rfl rfl ?_
  refine zn_aload_n (pc := 1) rfl rfl ?_
  refine zn_iload_n (pc := 2) rfl rfl ?_
  refine zn_callVx (pc := 3) (J := zX10_isLine) (o := 50) (as := [.int x]) (rest := [.ref 50]) rfl rfl rfl rfl rfl rfl rfl rfl (Nat.le_of_ble_eq_true rfl) (Nat.le_of_ble_eq_true rfl) (Nat.le_of_ble_eq_true rfl) (Nat.le_of_ble_eq_true rfl) (m_isLine (by omega) (by omega) x) ?_
  refine zn_if_eqB (pc := 6) (tgt := 17) rfl rfl (fun c1 => ?_) (fun c1 => ?_)
  · refine zn_iconstN (pc := 17) 1 rfl rfl ?_
    refine zm_putI (pc := 18) (k := 0) (v := 1) rfl (by decide) rfl rfl ?_
    refine zn_aload_n (pc := 21) rfl rfl ?_
    refine zn_callVx (pc := 22) (J := zX10_layBlocks) (o := 50) (as := []) (rest := []) rfl rfl rfl rfl rfl rfl rfl rfl (Nat.le_of_ble_eq_true rfl) (Nat.le_of_ble_eq_true rfl) (Nat.le_of_ble_eq_true rfl) (Nat.le_of_ble_eq_true rfl) (m_layBlocks hz hzb h4 hg hg8 hlw hpd) ?_
    refine zn_pop (pc := 25) rfl rfl ?_
    refine zn_aload_n (pc := 26) rfl rfl ?_
    refine zn_get (pc := 27) (v := .int (nI 1)) rfl rfl rfl ?_
    refine zn_if_leN (pc := 30) (tgt := 37) (x := 1) rfl rfl (by omega) (fun c2 => ?_) (fun c2 => ?_)
    · exfalso; omega
    · refine zn_iconstN (pc := 33) 0 rfl rfl ?_
      refine zn_goto (pc := 34) (tgt := 43) rfl rfl ?_
      exact zx_i (pc := 43) rfl rfl rfl rfl
  · refine zn_iload_n (pc := 9) rfl rfl ?_
    refine zn_if_lt (pc := 10) (tgt := 17) (x := y) rfl rfl (fun c3 => ?_) (fun c3 => ?_)
    · refine zn_iconstN (pc := 17) 1 rfl rfl ?_
      refine zm_putI (pc := 18) (k := 0) (v := 1) rfl (by decide) rfl rfl ?_
      refine zn_aload_n (pc := 21) rfl rfl ?_
      refine zn_callVx (pc := 22) (J := zX10_layBlocks) (o := 50) (as := []) (rest := []) rfl rfl rfl rfl rfl rfl rfl rfl (Nat.le_of_ble_eq_true rfl) (Nat.le_of_ble_eq_true rfl) (Nat.le_of_ble_eq_true rfl) (Nat.le_of_ble_eq_true rfl) (m_layBlocks hz hzb h4 hg hg8 hlw hpd) ?_
      refine zn_pop (pc := 25) rfl rfl ?_
      refine zn_aload_n (pc := 26) rfl rfl ?_
      refine zn_get (pc := 27) (v := .int (nI 1)) rfl rfl rfl ?_
      refine zn_if_leN (pc := 30) (tgt := 37) (x := 1) rfl rfl (by omega) (fun c4 => ?_) (fun c4 => ?_)
      · exfalso; omega
      · refine zn_iconstN (pc := 33) 0 rfl rfl ?_
        refine zn_goto (pc := 34) (tgt := 43) rfl rfl ?_
        exact zx_i (pc := 43) rfl rfl rfl rfl
    · exact absurd ⟨by assumption, c3⟩ hp
theorem m_shown_0  (hz : mOK z) (hzb : ∀ j, z j < 1000) (h4 : ∀ j, A 4 j ≤ 3) (hg : 1 ≤ F 10) (hg8 : F 10 ≤ 8) (hlw : F 9 ≤ 20) (hpd : F 8 ≤ 8) (ha : ∀ i j, A i j < 2 ^ 20) {l q : Nat} (hl : l < z 0) (hq : q < 2 ^ 31) : Zx g zX10_shown [.ref 50, .int (nI l), .int (nI q)] (mhp h F S z A X) (some (.int (nI (mSw (va_up (va_up F 0 0) 13 (bAll z 7).length) (mL (va_up F 0 0) z A (bAll z 7)) z l (nI q) (z (1 + l)))))) (mhp h (va_up (va_up F 0 0) 13 (bAll z 7).length) S z (mL (va_up F 0 0) z A (bAll z 7)) X) := by
  have h0 := hz.1
  have h1 := hz.2.1
  have hzl := hz.2.2.1 l hl
  have hp : zin (nI l) (z 0) := (zin_nI (by omega)).mpr hl
  have h168 : (bAll z 7).length ≤ 168 := bAll_168 hz
  have ha2 : ∀ i j, mL (va_up F 0 0) z A (bAll z 7) i j < 2 ^ 20 := mL_b (F := va_up F 0 0) hz h4 hg8 hlw hpd ha
  have hv2 : mCov (mL (va_up F 0 0) z A (bAll z 7)) z (bAll z 7).length := mL_cov hz
  show Zn g zX10_shown 0 [some (.ref 50), some (.int (nI l)), some (.int (nI q))] [] (mhp h F S z A X) 0 0 _
  refine zn_aload_n (pc := 0) rfl rfl ?_
  refine zn_aload_n (pc := 1) rfl rfl ?_
  refine zn_iload_n (pc := 2) rfl rfl ?_
  refine zn_callVx (pc := 3) (J := zX10_isLine) (o := 50) (as := [.int (nI l)]) (rest := [.ref 50]) rfl rfl rfl rfl rfl rfl rfl rfl (Nat.le_of_ble_eq_true rfl) (Nat.le_of_ble_eq_true rfl) (Nat.le_of_ble_eq_true rfl) (Nat.le_of_ble_eq_true rfl) (m_isLine (by omega) (by omega) (nI l)) ?_
  refine zn_if_eqB (pc := 6) (tgt := 17) rfl rfl (fun c1 => ?_) (fun c1 => ?_)
  · exact absurd hp c1
  · refine zn_iload_n (pc := 9) rfl rfl ?_
    refine zn_if_ltN (pc := 10) (tgt := 17) (x := q) rfl rfl (by omega) ?_
    refine zn_iconstN (pc := 13) 0 rfl rfl ?_
    refine zn_goto (pc := 14) (tgt := 18) rfl rfl ?_
    refine zm_putI (pc := 18) (k := 0) (v := 0) rfl (by decide) rfl rfl ?_
    refine zn_aload_n (pc := 21) rfl rfl ?_
    refine zn_callVx (pc := 22) (J := zX10_layBlocks) (o := 50) (as := []) (rest := []) rfl rfl rfl rfl rfl rfl rfl rfl (Nat.le_of_ble_eq_true rfl) (Nat.le_of_ble_eq_true rfl) (Nat.le_of_ble_eq_true rfl) (Nat.le_of_ble_eq_true rfl) (m_layBlocks hz hzb h4 hg hg8 hlw hpd) ?_
    refine zn_pop (pc := 25) rfl rfl ?_
    refine zn_aload_n (pc := 26) rfl rfl ?_
    refine zn_get (pc := 27) (v := .int (nI 0)) rfl rfl rfl ?_
    refine zn_if_leN (pc := 30) (tgt := 37) (x := 0) rfl rfl (by omega) (fun c3 => ?_) (fun c3 => ?_)
    · refine zn_aload_n (pc := 37) rfl rfl ?_
      refine zn_iload_n (pc := 38) rfl rfl ?_
      refine zn_iload_n (pc := 39) rfl rfl ?_
      refine zn_callVx (pc := 40) (J := zX10_shownNow) (o := 50) (as := [.int (nI l), .int (nI q)]) (rest := []) rfl rfl rfl rfl rfl rfl rfl rfl (Nat.le_of_ble_eq_true rfl) (Nat.le_of_ble_eq_true rfl) (Nat.le_of_ble_eq_true rfl) (Nat.le_of_ble_eq_true rfl) (m_shownNow hz h168 ha2 hv2 hzb (l := l) (by omega) (nI q)) ?_
      exact zx_i (pc := 43) rfl rfl rfl rfl
    · exfalso; omega
theorem m_hit_l (hz : mOK z) (h168 : F 13 ≤ 168) (ha : ∀ i j, A i j < 2 ^ 20) (hv : mCov A z (F 13)) (hzb : ∀ j, z j < 1000) {l q : Nat} (hl : l < z 0) (hq : q < 2 ^ 31) (h0 : F 0 = 0) : ∀ (n : Nat) (c : Nat), c + n = z (1 + l) → Zn g zX10_hit 31 [some (.ref 50), some (.int (nI l)), some (.int (nI q)), some (.int (nI (mHt A z (F 13) l q c))), some (.int (nI c))] [] (mhp h F S z A X) 0 0 (fun r' h' => r' = .inl (some (.int (nI (mHt A z (F 13) l q (z (1 + l)))))) ∧ h' = (mhp h F S z A X)) := by
  intro n
  induction n with
  | zero =>
    intro c hn0
    have h00 := hz.1
    have h1 := hz.2.1
    have hzl := hz.2.2.1 l hl
    have q1 := mX_le (z := z) (n := F 13) (l := l) ha c
    refine zn_aload_n (pc := 31) rfl rfl ?_
    refine zn_get (pc := 32) (v := .int (nI (F 0))) rfl rfl rfl ?_
    refine zn_top (v' := .int (nI 0)) (by rw [h0]) ?_
    refine zn_if_neN (pc := 35) (tgt := 72) (x := 0) rfl rfl (by omega) (fun c1 => ?_) (fun c1 => ?_)
    · exfalso; omega
    · refine zn_iload (pc := 38) rfl rfl ?_
      refine zn_aload_n (pc := 40) rfl rfl ?_
      refine zn_iload_n (pc := 41) rfl rfl ?_
      refine zn_callVx (pc := 42) (J := zX10_cells) (o := 50) (as := [.int (nI l)]) (rest := [.int (nI c)]) rfl rfl rfl rfl rfl rfl rfl rfl (Nat.le_of_ble_eq_true rfl) (Nat.le_of_ble_eq_true rfl) (Nat.le_of_ble_eq_true rfl) (Nat.le_of_ble_eq_true rfl) (m_cells (l := l) (by omega)) ?_
      refine zn_icmp_geN (pc := 45) (tgt := 72) (x := c) (y := (z (1 + l))) rfl rfl (by omega) (by omega) (fun c2 => ?_) (fun c2 => ?_)
      · refine zn_iload_n (pc := 72) rfl rfl ?_
        have e8 : c = z (1 + l) := by omega
        exact zx_i (pc := 73) rfl rfl (by rw [e8]) rfl
      · exfalso; omega
  | succ n ih =>
    intro c hn0
    have h00 := hz.1
    have h1 := hz.2.1
    have hzl := hz.2.2.1 l hl
    have q1 := mX_le (z := z) (n := F 13) (l := l) ha c
    refine zn_aload_n (pc := 31) rfl rfl ?_
    refine zn_get (pc := 32) (v := .int (nI (F 0))) rfl rfl rfl ?_
    refine zn_top (v' := .int (nI 0)) (by rw [h0]) ?_
    refine zn_if_neN (pc := 35) (tgt := 72) (x := 0) rfl rfl (by omega) (fun c1 => ?_) (fun c1 => ?_)
    · exfalso; omega
    · refine zn_iload (pc := 38) rfl rfl ?_
      refine zn_aload_n (pc := 40) rfl rfl ?_
      refine zn_iload_n (pc := 41) rfl rfl ?_
      refine zn_callVx (pc := 42) (J := zX10_cells) (o := 50) (as := [.int (nI l)]) (rest := [.int (nI c)]) rfl rfl rfl rfl rfl rfl rfl rfl (Nat.le_of_ble_eq_true rfl) (Nat.le_of_ble_eq_true rfl) (Nat.le_of_ble_eq_true rfl) (Nat.le_of_ble_eq_true rfl) (m_cells (l := l) (by omega)) ?_
      refine zn_icmp_geN (pc := 45) (tgt := 72) (x := c) (y := (z (1 + l))) rfl rfl (by omega) (by omega) (fun c2 => ?_) (fun c2 => ?_)
      · refine zn_iload_n (pc := 72) rfl rfl ?_
        have e8 : c = z (1 + l) := by omega
        exact zx_i (pc := 73) rfl rfl (by rw [e8]) rfl
      · refine zn_joinV (v := .int (nI (mHt A z (F 13) l q (c + 1)))) (pj := 65) ?_ (fun K3 => ?_)
        · refine zn_istore_n (pc := 65) (L' := [some (.ref 50), some (.int (nI l)), some (.int (nI q)), some (.int (nI (mHt A z (F 13) l q (c + 1)))), some (.int (nI c))]) rfl (by decide) rfl ?_
          refine zn_iincN (pc := 66) (L' := [some (.ref 50), some (.int (nI l)), some (.int (nI q)), some (.int (nI (mHt A z (F 13) l q (c + 1)))), some (.int (nI (c + 1)))]) 1 rfl rfl rfl (by decide) rfl ?_
          refine zn_goto (pc := 69) (tgt := 31) rfl rfl ?_
          exact ih (c + 1) (by omega)
        · refine zn_aload_n (pc := 48) rfl rfl ?_
          refine zn_iload_n (pc := 49) rfl rfl ?_
          refine zn_iload (pc := 50) rfl rfl ?_
          refine zn_callVx (pc := 52) (J := zX10_xOf) (o := 50) (as := [.int (nI l), .int (nI c)]) (rest := []) rfl rfl rfl rfl rfl rfl rfl rfl (Nat.le_of_ble_eq_true rfl) (Nat.le_of_ble_eq_true rfl) (Nat.le_of_ble_eq_true rfl) (Nat.le_of_ble_eq_true rfl) (m_xOf hz h168 ha hv (l := l) (c := c) (by omega) (by omega)) ?_
          refine zn_iload_n (pc := 55) rfl rfl ?_
          refine zn_icmp_gtN (pc := 56) (tgt := 64) (x := (mX A z (F 13) l c)) (y := q) rfl rfl (by omega) (by omega) (fun c4 => ?_) (fun c4 => ?_)
          · refine zn_iload_n (pc := 64) rfl rfl ?_
            exact zn_top (v' := .int (nI (mHt A z (F 13) l q (c + 1)))) (by simp only [mHt]; rw [if_neg (by omega)]) K3
          · refine zn_iload (pc := 59) rfl rfl ?_
            refine zn_goto (pc := 61) (tgt := 65) rfl rfl ?_
            exact zn_top (v' := .int (nI (mHt A z (F 13) l q (c + 1)))) (by simp only [mHt]; rw [if_pos (by omega)]) K3
theorem m_hit_1  (hz : mOK z) (hzb : ∀ j, z j < 1000) (h4 : ∀ j, A 4 j ≤ 3) (hg : 1 ≤ F 10) (hg8 : F 10 ≤ 8) (hlw : F 9 ≤ 20) (hpd : F 8 ≤ 8) (x y : Int32) (hp : ¬ (zin x (z 0) ∧ ¬ y < 0)) : Zx g zX10_hit [.ref 50, .int x, .int y] (mhp h F S z A X) (some (.int (nI 0))) (mhp h (va_up (va_up F 0 1) 13 (bAll z 7).length) S z (mL (va_up F 0 1) z A (bAll z 7)) X) := by
  have h0 := hz.1
  have h1 := hz.2.1
  show Zn g zX10_hit 0 [some (.ref 50), some (.int x), some (.int y), none, none] [] (mhp h F S z A X) 0 0 _
  refine zn_aload_n (pc := 0) rfl rfl ?_
  refine zn_aload_n (pc := 1) rfl rfl ?_
  refine zn_iload_n (pc := 2) rfl rfl ?_
  refine zn_callVx (pc := 3) (J := zX10_isLine) (o := 50) (as := [.int x]) (rest := [.ref 50]) rfl rfl rfl rfl rfl rfl rfl rfl (Nat.le_of_ble_eq_true rfl) (Nat.le_of_ble_eq_true rfl) (Nat.le_of_ble_eq_true rfl) (Nat.le_of_ble_eq_true rfl) (m_isLine (by omega) (by omega) x) ?_
  refine zn_if_eqB (pc := 6) (tgt := 17) rfl rfl (fun c1 => ?_) (fun c1 => ?_)
  · refine zn_iconstN (pc := 17) 1 rfl rfl ?_
    refine zm_putI (pc := 18) (k := 0) (v := 1) rfl (by decide) rfl rfl ?_
    refine zn_aload_n (pc := 21) rfl rfl ?_
    refine zn_callVx (pc := 22) (J := zX10_layBlocks) (o := 50) (as := []) (rest := []) rfl rfl rfl rfl rfl rfl rfl rfl (Nat.le_of_ble_eq_true rfl) (Nat.le_of_ble_eq_true rfl) (Nat.le_of_ble_eq_true rfl) (Nat.le_of_ble_eq_true rfl) (m_layBlocks hz hzb h4 hg hg8 hlw hpd) ?_
    refine zn_pop (pc := 25) rfl rfl ?_
    refine zn_iconstN (pc := 26) 0 rfl rfl ?_
    refine zn_istore_n (pc := 27) (L' := [some (.ref 50), some (.int x), some (.int y), some (.int (nI 0)), none]) rfl (by decide) rfl ?_
    refine zn_iconstN (pc := 28) 0 rfl rfl ?_
    refine zn_istore (pc := 29) (L' := [some (.ref 50), some (.int x), some (.int y), some (.int (nI 0)), some (.int (nI 0))]) rfl (by decide) rfl ?_
    refine zn_aload_n (pc := 31) rfl rfl ?_
    refine zn_get (pc := 32) (v := .int (nI 1)) rfl rfl rfl ?_
    refine zn_if_neN (pc := 35) (tgt := 72) (x := 1) rfl rfl (by omega) (fun c2 => ?_) (fun c2 => ?_)
    · refine zn_iload_n (pc := 72) rfl rfl ?_
      exact zx_i (pc := 73) rfl rfl rfl rfl
    · exfalso; omega
  · refine zn_iload_n (pc := 9) rfl rfl ?_
    refine zn_if_lt (pc := 10) (tgt := 17) (x := y) rfl rfl (fun c3 => ?_) (fun c3 => ?_)
    · refine zn_iconstN (pc := 17) 1 rfl rfl ?_
      refine zm_putI (pc := 18) (k := 0) (v := 1) rfl (by decide) rfl rfl ?_
      refine zn_aload_n (pc := 21) rfl rfl ?_
      refine zn_callVx (pc := 22) (J := zX10_layBlocks) (o := 50) (as := []) (rest := []) rfl rfl rfl rfl rfl rfl rfl rfl (Nat.le_of_ble_eq_true rfl) (Nat.le_of_ble_eq_true rfl) (Nat.le_of_ble_eq_true rfl) (Nat.le_of_ble_eq_true rfl) (m_layBlocks hz hzb h4 hg hg8 hlw hpd) ?_
      refine zn_pop (pc := 25) rfl rfl ?_
      refine zn_iconstN (pc := 26) 0 rfl rfl ?_
      refine zn_istore_n (pc := 27) (L' := [some (.ref 50), some (.int x), some (.int y), some (.int (nI 0)), none]) rfl (by decide) rfl ?_
      refine zn_iconstN (pc := 28) 0 rfl rfl ?_
      refine zn_istore (pc := 29) (L' := [some (.ref 50), some (.int x), some (.int y), some (.int (nI 0)), some (.int (nI 0))]) rfl (by decide) rfl ?_
      refine zn_aload_n (pc := 31) rfl rfl ?_
      refine zn_get (pc := 32) (v := .int (nI 1)) rfl rfl rfl ?_
      refine zn_if_neN (pc := 35) (tgt := 72) (x := 1) rfl rfl (by omega) (fun c4 => ?_) (fun c4 => ?_)
      · refine zn_iload_n (pc := 72) rfl rfl ?_
        exact zx_i (pc := 73) rfl rfl rfl rfl
      · exfalso; omega
    · exact absurd ⟨by assumption, c3⟩ hp
theorem m_hit_0  (hz : mOK z) (hzb : ∀ j, z j < 1000) (h4 : ∀ j, A 4 j ≤ 3) (hg : 1 ≤ F 10) (hg8 : F 10 ≤ 8) (hlw : F 9 ≤ 20) (hpd : F 8 ≤ 8) (ha : ∀ i j, A i j < 2 ^ 20) {l q : Nat} (hl : l < z 0) (hq : q < 2 ^ 31) : Zx g zX10_hit [.ref 50, .int (nI l), .int (nI q)] (mhp h F S z A X) (some (.int (nI (mHt (mL (va_up F 0 0) z A (bAll z 7)) z (bAll z 7).length l q (z (1 + l)))))) (mhp h (va_up (va_up F 0 0) 13 (bAll z 7).length) S z (mL (va_up F 0 0) z A (bAll z 7)) X) := by
  have h0 := hz.1
  have h1 := hz.2.1
  have hzl := hz.2.2.1 l hl
  have hp : zin (nI l) (z 0) := (zin_nI (by omega)).mpr hl
  have h168 : (bAll z 7).length ≤ 168 := bAll_168 hz
  have ha2 : ∀ i j, mL (va_up F 0 0) z A (bAll z 7) i j < 2 ^ 20 := mL_b (F := va_up F 0 0) hz h4 hg8 hlw hpd ha
  have hv2 : mCov (mL (va_up F 0 0) z A (bAll z 7)) z (bAll z 7).length := mL_cov hz
  show Zn g zX10_hit 0 [some (.ref 50), some (.int (nI l)), some (.int (nI q)), none, none] [] (mhp h F S z A X) 0 0 _
  refine zn_aload_n (pc := 0) rfl rfl ?_
  refine zn_aload_n (pc := 1) rfl rfl ?_
  refine zn_iload_n (pc := 2) rfl rfl ?_
  refine zn_callVx (pc := 3) (J := zX10_isLine) (o := 50) (as := [.int (nI l)]) (rest := [.ref 50]) rfl rfl rfl rfl rfl rfl rfl rfl (Nat.le_of_ble_eq_true rfl) (Nat.le_of_ble_eq_true rfl) (Nat.le_of_ble_eq_true rfl) (Nat.le_of_ble_eq_true rfl) (m_isLine (by omega) (by omega) (nI l)) ?_
  refine zn_if_eqB (pc := 6) (tgt := 17) rfl rfl (fun c1 => ?_) (fun c1 => ?_)
  · exact absurd hp c1
  · refine zn_iload_n (pc := 9) rfl rfl ?_
    refine zn_if_ltN (pc := 10) (tgt := 17) (x := q) rfl rfl (by omega) ?_
    refine zn_iconstN (pc := 13) 0 rfl rfl ?_
    refine zn_goto (pc := 14) (tgt := 18) rfl rfl ?_
    refine zm_putI (pc := 18) (k := 0) (v := 0) rfl (by decide) rfl rfl ?_
    refine zn_aload_n (pc := 21) rfl rfl ?_
    refine zn_callVx (pc := 22) (J := zX10_layBlocks) (o := 50) (as := []) (rest := []) rfl rfl rfl rfl rfl rfl rfl rfl (Nat.le_of_ble_eq_true rfl) (Nat.le_of_ble_eq_true rfl) (Nat.le_of_ble_eq_true rfl) (Nat.le_of_ble_eq_true rfl) (m_layBlocks hz hzb h4 hg hg8 hlw hpd) ?_
    refine zn_pop (pc := 25) rfl rfl ?_
    refine zn_iconstN (pc := 26) 0 rfl rfl ?_
    refine zn_istore_n (pc := 27) (L' := [some (.ref 50), some (.int (nI l)), some (.int (nI q)), some (.int (nI 0)), none]) rfl (by decide) rfl ?_
    refine zn_iconstN (pc := 28) 0 rfl rfl ?_
    refine zn_istore (pc := 29) (L' := [some (.ref 50), some (.int (nI l)), some (.int (nI q)), some (.int (nI 0)), some (.int (nI 0))]) rfl (by decide) rfl ?_
    exact m_hit_l (F := va_up (va_up F 0 0) 13 (bAll z 7).length) hz h168 ha2 hv2 hzb hl hq rfl (z (1 + l)) 0 (by omega)
abbrev sEq (z : Nat → Nat) (B : Nat → Nat) (m l c k : Nat) : Prop := z (25 + 8 * l + c) = m ∧ ∀ j, j < k → z (217 + 16 * (8 * l + c) + j) = B j
theorem sEq_s {z B : Nat → Nat} {m l c k : Nat} : sEq z B m l c (k + 1) ↔ sEq z B m l c k ∧ z (217 + 16 * (8 * l + c) + k) = B k := by
  constructor
  · exact fun h => ⟨⟨h.1, fun j hj => h.2 j (by omega)⟩, h.2 k (by omega)⟩
  · intro h
    refine ⟨h.1.1, fun j hj => ?_⟩
    rcases Nat.lt_or_ge j k with q | q
    · exact h.1.2 j q
    · rw [show j = k by omega]; exact h.2
theorem m_isBuffer_l {l c : Nat} (hl : l < 24) (hc : c < 8) (h16 : z (25 + 8 * l + c) ≤ 16) (hzb : ∀ j, z j < 1000) (hs : F 11 ≤ 120) (hb : ∀ j, A 5 j < 1000) : ∀ (n : Nat) (k : Nat), k + n = F 11 → Zn g zX10_isBuffer 22 [some (.ref 50), some (.int (nI l)), some (.int (nI c)), some (.int (zb (sEq z (A 5) (F 11) l c (k)))), some (.int (nI k))] [] (mhp h F S z A X) 0 0 (fun r' h' => r' = .inl (some (.int (zb (sEq z (A 5) (F 11) l c (F 11))))) ∧ h' = (mhp h F S z A X)) := by
  intro n
  induction n with
  | zero =>
    intro k hn0
    refine zn_iload (pc := 22) rfl rfl ?_
    refine zn_aload_n (pc := 24) rfl rfl ?_
    refine zn_get (pc := 25) (v := .int (nI (F 11))) rfl rfl rfl ?_
    refine zn_icmp_geN (pc := 28) (tgt := 65) (x := k) (y := (F 11)) rfl rfl (by have := hzb (217 + 16 * (8 * l + c) + k); have := hb k; have := hzb (25 + 8 * l + c); omega) (by have := hzb (217 + 16 * (8 * l + c) + k); have := hb k; have := hzb (25 + 8 * l + c); omega) (fun c1 => ?_) (fun c1 => ?_)
    · refine zn_iload_n (pc := 65) rfl rfl ?_
      exact zx_z (pc := 66) rfl rfl (zb_and _) (by rw [zb_iff (show sEq z (A 5) (F 11) l c (F 11) ↔ sEq z (A 5) (F 11) l c (k) by first | (rw [show k = F 11 by omega]) | exact ⟨fun q => ⟨q.1, fun j hj => q.2 j (by omega)⟩, fun q => absurd q (by assumption)⟩)]) rfl
    · exfalso; omega
  | succ n ih =>
    intro k hn0
    refine zn_iload (pc := 22) rfl rfl ?_
    refine zn_aload_n (pc := 24) rfl rfl ?_
    refine zn_get (pc := 25) (v := .int (nI (F 11))) rfl rfl rfl ?_
    refine zn_icmp_geN (pc := 28) (tgt := 65) (x := k) (y := (F 11)) rfl rfl (by have := hzb (217 + 16 * (8 * l + c) + k); have := hb k; have := hzb (25 + 8 * l + c); omega) (by have := hzb (217 + 16 * (8 * l + c) + k); have := hb k; have := hzb (25 + 8 * l + c); omega) (fun c1 => ?_) (fun c1 => ?_)
    · refine zn_iload_n (pc := 65) rfl rfl ?_
      exact zx_z (pc := 66) rfl rfl (zb_and _) (by rw [zb_iff (show sEq z (A 5) (F 11) l c (F 11) ↔ sEq z (A 5) (F 11) l c (k) by first | (rw [show k = F 11 by omega]) | exact ⟨fun q => ⟨q.1, fun j hj => q.2 j (by omega)⟩, fun q => absurd q (by assumption)⟩)]) rfl
    · have q16 : k < 120 := by omega
      refine zn_iload_n (pc := 31) rfl rfl ?_
      refine zn_if_eqB (pc := 32) (tgt := 65) rfl rfl (fun c2 => ?_) (fun c2 => ?_)
      · refine zn_iload_n (pc := 65) rfl rfl ?_
        exact zx_z (pc := 66) rfl rfl (zb_and _) (by rw [zb_iff (show sEq z (A 5) (F 11) l c (F 11) ↔ sEq z (A 5) (F 11) l c (k) by first | (rw [show k = F 11 by omega]) | exact ⟨fun q => ⟨q.1, fun j hj => q.2 j (by omega)⟩, fun q => absurd q (by assumption)⟩)]) rfl
      · have q17 := (c2).1
        refine zn_joinV (v := .int (zb (sEq z (A 5) (F 11) l c (k + 1)))) (pj := 58) ?_ (fun K3 => ?_)
        · refine zn_istore_n (pc := 58) (L' := [some (.ref 50), some (.int (nI l)), some (.int (nI c)), some (.int (zb (sEq z (A 5) (F 11) l c (k + 1)))), some (.int (nI k))]) rfl (by decide) rfl ?_
          refine zn_iincN (pc := 59) (L' := [some (.ref 50), some (.int (nI l)), some (.int (nI c)), some (.int (zb (sEq z (A 5) (F 11) l c (k + 1)))), some (.int (nI (k + 1)))]) 1 rfl rfl rfl (by decide) rfl ?_
          refine zn_goto (pc := 62) (tgt := 22) rfl rfl ?_
          exact ih (k + 1) (by omega)
        · refine zn_aload_n (pc := 35) rfl rfl ?_
          refine zn_iload_n (pc := 36) rfl rfl ?_
          refine zn_iload_n (pc := 37) rfl rfl ?_
          refine zn_iload (pc := 38) rfl rfl ?_
          refine zn_callVx (pc := 40) (J := zX10_signOf) (o := 50) (as := [.int (nI l), .int (nI c), .int (nI k)]) (rest := []) rfl rfl rfl rfl rfl rfl rfl rfl (Nat.le_of_ble_eq_true rfl) (Nat.le_of_ble_eq_true rfl) (Nat.le_of_ble_eq_true rfl) (Nat.le_of_ble_eq_true rfl) (m_signOf (l := l) (c := c) (k := k) (by omega) (by omega) (by omega)) ?_
          refine zn_aload_n (pc := 43) rfl rfl ?_
          refine zn_get (pc := 44) (v := .ref 56) rfl rfl rfl ?_
          refine zn_iload (pc := 47) rfl rfl ?_
          refine zm_ldA (pc := 49) (i := 5) (n := 120) (Z := (A 5)) (j := k) rfl (by decide) (by decide) rfl mln5 rfl (by omega) (Nat.le_of_ble_eq_true rfl) ?_
          refine zn_icmp_neN (pc := 50) (tgt := 57) (x := (z (217 + 16 * (8 * l + c) + k))) (y := ((A 5) k)) rfl rfl (by have := hzb (217 + 16 * (8 * l + c) + k); have := hb k; have := hzb (25 + 8 * l + c); omega) (by have := hzb (217 + 16 * (8 * l + c) + k); have := hb k; have := hzb (25 + 8 * l + c); omega) (fun c4 => ?_) (fun c4 => ?_)
          · refine zn_iconstN (pc := 57) 0 rfl rfl ?_
            exact zn_top (v' := .int (zb (sEq z (A 5) (F 11) l c (k + 1)))) (by rw [zb_f (by rw [sEq_s]; exact fun q => absurd q.2 (by assumption))]; rfl) K3
          · refine zn_iconstN (pc := 53) 1 rfl rfl ?_
            refine zn_goto (pc := 54) (tgt := 58) rfl rfl ?_
            exact zn_top (v' := .int (zb (sEq z (A 5) (F 11) l c (k + 1)))) (by rw [zb_t (by rw [sEq_s]; exact ⟨by assumption, by assumption⟩)]; rfl) K3
theorem m_isBuffer  {l c : Nat} (hl : l < 24) (hc : c < 8) (h16 : z (25 + 8 * l + c) ≤ 16) (hzb : ∀ j, z j < 1000) (hs : F 11 ≤ 120) (hb : ∀ j, A 5 j < 1000) : Zx g zX10_isBuffer [.ref 50, .int (nI l), .int (nI c)] (mhp h F S z A X) (some (.int (zb (sEq z (A 5) (F 11) l c (F 11))))) (mhp h F S z A X) := by
  show Zn g zX10_isBuffer 0 [some (.ref 50), some (.int (nI l)), some (.int (nI c)), none, none] [] (mhp h F S z A X) 0 0 _
  refine zn_joinV (v := .int (zb (sEq z (A 5) (F 11) l c (0)))) (pj := 18) ?_ (fun K1 => ?_)
  · refine zn_istore_n (pc := 18) (L' := [some (.ref 50), some (.int (nI l)), some (.int (nI c)), some (.int (zb (sEq z (A 5) (F 11) l c (0)))), none]) rfl (by decide) rfl ?_
    refine zn_iconstN (pc := 19) 0 rfl rfl ?_
    refine zn_istore (pc := 20) (L' := [some (.ref 50), some (.int (nI l)), some (.int (nI c)), some (.int (zb (sEq z (A 5) (F 11) l c (0)))), some (.int (nI 0))]) rfl (by decide) rfl ?_
    exact m_isBuffer_l hl hc h16 hzb hs hb (F 11) 0 (by omega)
  · refine zn_aload_n (pc := 0) rfl rfl ?_
    refine zn_iload_n (pc := 1) rfl rfl ?_
    refine zn_iload_n (pc := 2) rfl rfl ?_
    refine zn_callVx (pc := 3) (J := zX10_lengthOf) (o := 50) (as := [.int (nI l), .int (nI c)]) (rest := []) rfl rfl rfl rfl rfl rfl rfl rfl (Nat.le_of_ble_eq_true rfl) (Nat.le_of_ble_eq_true rfl) (Nat.le_of_ble_eq_true rfl) (Nat.le_of_ble_eq_true rfl) (m_lengthOf (l := l) (c := c) (by omega) (by omega)) ?_
    refine zn_aload_n (pc := 6) rfl rfl ?_
    refine zn_get (pc := 7) (v := .int (nI (F 11))) rfl rfl rfl ?_
    refine zn_icmp_neN (pc := 10) (tgt := 17) (x := (z (25 + 8 * l + c))) (y := (F 11)) rfl rfl (by have := hzb (25 + 8 * l + c); omega) (by have := hzb (25 + 8 * l + c); omega) (fun c2 => ?_) (fun c2 => ?_)
    · refine zn_iconstN (pc := 17) 0 rfl rfl ?_
      exact zn_top (v' := .int (zb (sEq z (A 5) (F 11) l c (0)))) (by rw [zb_f (fun q => absurd q.1 (by assumption))]; rfl) K1
    · refine zn_iconstN (pc := 13) 1 rfl rfl ?_
      refine zn_goto (pc := 14) (tgt := 18) rfl rfl ?_
      exact zn_top (v' := .int (zb (sEq z (A 5) (F 11) l c (0)))) (by rw [zb_t ⟨by assumption, fun j hj => absurd hj (by omega)⟩]; rfl) K1
end m1
