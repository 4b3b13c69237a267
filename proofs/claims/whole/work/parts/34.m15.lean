section m1
variable {g : zG} {h hh : zH} {F : Nat → Nat} {S : Int64} {z : Nat → Nat} {A : Nat → Nat → Nat} {X : Nat → Int32}
theorem bOf_lt {A : Nat → Nat → Nat} {l c : Nat} : ∀ {n b : Nat}, bOf A l c n = some b → b < n
  | 0, b, h => by simp [bOf] at h
  | n + 1, b, h => by
    simp only [bOf] at h
    split at h
    · cases h; omega
    · have := bOf_lt h; omega
def bG (o : Option Nat) : Nat := o.getD 0
/-- every ended cell is in a block -/
abbrev mCov (A : Nat → Nat → Nat) (z : Nat → Nat) (n : Nat) : Prop := ∀ l c, mE z c l → ∃ b, bOf A l c n = some b
theorem mCov_of {n l c : Nat} (hv : mCov A z n) (he : mE z c l) : oI (mOf A z l c n) = nI (bG (mOf A z l c n)) ∧ bG (mOf A z l c n) < n := by
  obtain ⟨b, hb⟩ := hv l c he
  have e : mOf A z l c n = some b := by unfold mOf; rw [if_pos he, hb]
  rw [e]
  exact ⟨rfl, bOf_lt hb⟩
/-- where cell c of line l begins -/
def mX (A : Nat → Nat → Nat) (z : Nat → Nat) (n l : Nat) : Nat → Nat
  | 0 => 0
  | c + 1 => mX A z n l c + A 12 (bG (mOf A z l c n))
def mLg (A : Nat → Nat → Nat) (z : Nat → Nat) (n l : Nat) : Nat := mX A z n l (z (1 + l) - 1) + z (25 + 8 * l + (z (1 + l) - 1))
def mSh (F : Nat → Nat) (A : Nat → Nat → Nat) (z : Nat → Nat) (l c : Nat) : Option Nat → Int32
  | none => nI 0
  | some b => if A 9 b = 0 then nI 0 else if A 9 b = 3 ∧ mK z c l = 1 then nI (A 12 b) - nI (F 8) - nI (A 11 b) - nI (mH z c l) else if A 9 b = 2 then (nI (A 12 b) - nI (F 8) - nI (z (25 + 8 * l + c))) / nI 2 else nI (A 12 b) - nI (F 8) - nI (z (25 + 8 * l + c))
theorem zin_w0 {x : Int32} {n : Nat} (hn : n < 2 ^ 30) : (nI 0 ≤ x ∧ x ≤ nI n - 1) ↔ zin x n := by
  cases n with
  | zero =>
    rw [Int32.le_iff_toInt_le, Int32.le_iff_toInt_le, nI_toInt (by omega), show (nI 0 - 1).toInt = -1 by decide +kernel]
    unfold zin
    omega
  | succ k =>
    rw [nI_pred]
    exact zin_le (by omega)
theorem m_xOf_l (hz : mOK z) (h168 : F 13 ≤ 168) (ha : ∀ i j, A i j < 2 ^ 20) (hv : mCov A z (F 13)) {l c : Nat} (hl : l < z 0) (hc : c < z (1 + l)) : ∀ (n : Nat) (k : Nat), k + n = c → Zn g zX10_xOf 5 [some (.ref 50), some (.int (nI l)), some (.int (nI c)), some (.int (nI (mX A z (F 13) l k))), some (.int (nI k))] [] (mhp h F S z A X) 0 0 (fun r' h' => r' = .inl (some (.int (nI (mX A z (F 13) l c)))) ∧ h' = (mhp h F S z A X)) := by
  intro n
  induction n with
  | zero =>
    intro k hn0
    have h1 := hz.2.1
    have hzl := hz.2.2.1 l hl
    refine zn_iload (pc := 5) rfl rfl ?_
    refine zn_iload_n (pc := 7) rfl rfl ?_
    refine zn_icmp_geN (pc := 8) (tgt := 32) (x := k) (y := c) rfl rfl (by omega) (by omega) (fun c1 => ?_) (fun c1 => ?_)
    · refine zn_iload_n (pc := 32) rfl rfl ?_
      obtain rfl : k = c := by omega
      exact zx_i (pc := 33) rfl rfl rfl rfl
    · exfalso; omega
  | succ n ih =>
    intro k hn0
    have h1 := hz.2.1
    have hzl := hz.2.2.1 l hl
    refine zn_iload (pc := 5) rfl rfl ?_
    refine zn_iload_n (pc := 7) rfl rfl ?_
    refine zn_icmp_geN (pc := 8) (tgt := 32) (x := k) (y := c) rfl rfl (by omega) (by omega) (fun c1 => ?_) (fun c1 => ?_)
    · refine zn_iload_n (pc := 32) rfl rfl ?_
      obtain rfl : k = c := by omega
      exact zx_i (pc := 33) rfl rfl rfl rfl
    · have hq := mCov_of hv (show mE z k l from ⟨hl, by omega⟩)
      have hq2 := hq.2
      refine zn_iload_n (pc := 11) rfl rfl ?_
      refine zn_aload_n (pc := 12) rfl rfl ?_
      refine zn_get (pc := 13) (v := .ref 63) rfl rfl rfl ?_
      refine zn_aload_n (pc := 16) rfl rfl ?_
      refine zn_iload_n (pc := 17) rfl rfl ?_
      refine zn_iload (pc := 18) rfl rfl ?_
      refine zn_callVx (pc := 20) (J := zX10_blockOf) (o := 50) (as := [.int (nI l), .int (nI k)]) (rest := [.ref 63, .int (nI (mX A z (F 13) l k))]) rfl rfl rfl rfl rfl rfl rfl rfl (Nat.le_of_ble_eq_true rfl) (Nat.le_of_ble_eq_true rfl) (Nat.le_of_ble_eq_true rfl) (Nat.le_of_ble_eq_true rfl) (m_blockOf (l := l) (c := k) hz (by omega) (by omega) h168 ha) ?_
      refine zn_top (v' := .int (nI (bG (mOf A z l k (F 13))))) (by rw [hq.1]) ?_
      refine zm_ldA (pc := 23) (i := 12) (n := 168) (Z := (A 12)) (j := (bG (mOf A z l k (F 13)))) rfl (by decide) (by decide) rfl mln12 rfl (by omega) (Nat.le_of_ble_eq_true rfl) ?_
      refine zn_iaddN (pc := 24) (x := (mX A z (F 13) l k)) (y := ((A 12) (bG (mOf A z l k (F 13))))) rfl ?_
      refine zn_istore_n (pc := 25) (L' := [some (.ref 50), some (.int (nI l)), some (.int (nI c)), some (.int (nI ((mX A z (F 13) l k) + ((A 12) (bG (mOf A z l k (F 13))))))), some (.int (nI k))]) rfl (by decide) rfl ?_
      refine zn_iincN (pc := 26) (L' := [some (.ref 50), some (.int (nI l)), some (.int (nI c)), some (.int (nI ((mX A z (F 13) l k) + ((A 12) (bG (mOf A z l k (F 13))))))), some (.int (nI (k + 1)))]) 1 rfl rfl rfl (by decide) rfl ?_
      refine zn_goto (pc := 29) (tgt := 5) rfl rfl ?_
      exact ih (k + 1) (by omega)
theorem m_xOf  (hz : mOK z) (h168 : F 13 ≤ 168) (ha : ∀ i j, A i j < 2 ^ 20) (hv : mCov A z (F 13)) {l c : Nat} (hl : l < z 0) (hc : c < z (1 + l)) : Zx g zX10_xOf [.ref 50, .int (nI l), .int (nI c)] (mhp h F S z A X) (some (.int (nI (mX A z (F 13) l c)))) (mhp h F S z A X) := by
  show Zn g zX10_xOf 0 [some (.ref 50), some (.int (nI l)), some (.int (nI c)), none, none] [] (mhp h F S z A X) 0 0 _
  refine zn_iconstN (pc := 0) 0 rfl rfl ?_
  refine zn_istore_n (pc := 1) (L' := [some (.ref 50), some (.int (nI l)), some (.int (nI c)), some (.int (nI 0)), none]) rfl (by decide) rfl ?_
  refine zn_iconstN (pc := 2) 0 rfl rfl ?_
  refine zn_istore (pc := 3) (L' := [some (.ref 50), some (.int (nI l)), some (.int (nI c)), some (.int (nI 0)), some (.int (nI 0))]) rfl (by decide) rfl ?_
  exact m_xOf_l hz h168 ha hv hl hc c 0 (by omega)
theorem m_shownLength  (hz : mOK z) (h168 : F 13 ≤ 168) (ha : ∀ i j, A i j < 2 ^ 20) (hv : mCov A z (F 13)) {l : Nat} (hl : l < z 0) : Zx g zX10_shownLength [.ref 50, .int (nI l)] (mhp h F S z A X) (some (.int (nI (mLg A z (F 13) l)))) (mhp h F S z A X) := by
  have h1 := hz.2.1
  have hzl := hz.2.2.1 l hl
  show Zn g zX10_shownLength 0 [some (.ref 50), some (.int (nI l))] [] (mhp h F S z A X) 0 0 _
  refine zn_aload_n (pc := 0) rfl rfl ?_
  refine zn_iload_n (pc := 1) rfl rfl ?_
  refine zn_aload_n (pc := 2) rfl rfl ?_
  refine zn_iload_n (pc := 3) rfl rfl ?_
  refine zn_callVx (pc := 4) (J := zX10_cells) (o := 50) (as := [.int (nI l)]) (rest := [.int (nI l), .ref 50]) rfl rfl rfl rfl rfl rfl rfl rfl (Nat.le_of_ble_eq_true rfl) (Nat.le_of_ble_eq_true rfl) (Nat.le_of_ble_eq_true rfl) (Nat.le_of_ble_eq_true rfl) (m_cells (l := l) (by omega)) ?_
  refine zn_iconstN (pc := 7) 1 rfl rfl ?_
  refine zn_isubN (pc := 8) (x := (z (1 + l))) (y := 1) rfl (by omega) ?_
  refine zn_callVx (pc := 9) (J := zX10_xOf) (o := 50) (as := [.int (nI l), .int (nI ((z (1 + l)) - 1))]) (rest := []) rfl rfl rfl rfl rfl rfl rfl rfl (Nat.le_of_ble_eq_true rfl) (Nat.le_of_ble_eq_true rfl) (Nat.le_of_ble_eq_true rfl) (Nat.le_of_ble_eq_true rfl) (m_xOf hz h168 ha hv (l := l) (c := ((z (1 + l)) - 1)) (by omega) (by omega)) ?_
  refine zn_aload_n (pc := 12) rfl rfl ?_
  refine zn_iload_n (pc := 13) rfl rfl ?_
  refine zn_aload_n (pc := 14) rfl rfl ?_
  refine zn_iload_n (pc := 15) rfl rfl ?_
  refine zn_callVx (pc := 16) (J := zX10_cells) (o := 50) (as := [.int (nI l)]) (rest := [.int (nI l), .ref 50, .int (nI (mX A z (F 13) l ((z (1 + l)) - 1)))]) rfl rfl rfl rfl rfl rfl rfl rfl (Nat.le_of_ble_eq_true rfl) (Nat.le_of_ble_eq_true rfl) (Nat.le_of_ble_eq_true rfl) (Nat.le_of_ble_eq_true rfl) (m_cells (l := l) (by omega)) ?_
  refine zn_iconstN (pc := 19) 1 rfl rfl ?_
  refine zn_isubN (pc := 20) (x := (z (1 + l))) (y := 1) rfl (by omega) ?_
  refine zn_callVx (pc := 21) (J := zX10_lengthOf) (o := 50) (as := [.int (nI l), .int (nI ((z (1 + l)) - 1))]) (rest := [.int (nI (mX A z (F 13) l ((z (1 + l)) - 1)))]) rfl rfl rfl rfl rfl rfl rfl rfl (Nat.le_of_ble_eq_true rfl) (Nat.le_of_ble_eq_true rfl) (Nat.le_of_ble_eq_true rfl) (Nat.le_of_ble_eq_true rfl) (m_lengthOf (l := l) (c := ((z (1 + l)) - 1)) (by omega) (by omega)) ?_
  refine zn_iaddN (pc := 24) (x := (mX A z (F 13) l ((z (1 + l)) - 1))) (y := (z (25 + 8 * l + ((z (1 + l)) - 1)))) rfl ?_
  exact zx_i (pc := 25) rfl rfl rfl rfl
theorem m_shiftOf_n  (hz : mOK z) {l c : Nat} (hl : l < z 0) (hc : c < z (1 + l)) (hzb : ∀ j, z j < 1000) (h168 : F 13 ≤ 168) (ha : ∀ i j, A i j < 2 ^ 20) (hb : mOf A z l c (F 13) = none) : Zx g zX10_shiftOf [.ref 50, .int (nI l), .int (nI c)] (mhp h F S z A X) (some (.int (nI 0))) (mhp h F S z A X) := by
  have h0 := hz.1
  have h1 := hz.2.1
  have hzl := hz.2.2.1 l hl
  have hzc := hz.2.2.2 l c hl hc
  show Zn g zX10_shiftOf 0 [some (.ref 50), some (.int (nI l)), some (.int (nI c)), none, none] [] (mhp h F S z A X) 0 0 _
  refine zn_aload_n (pc := 0) rfl rfl ?_
  refine zn_iload_n (pc := 1) rfl rfl ?_
  refine zn_iload_n (pc := 2) rfl rfl ?_
  refine zn_callVx (pc := 3) (J := zX10_blockOf) (o := 50) (as := [.int (nI l), .int (nI c)]) (rest := []) rfl rfl rfl rfl rfl rfl rfl rfl (Nat.le_of_ble_eq_true rfl) (Nat.le_of_ble_eq_true rfl) (Nat.le_of_ble_eq_true rfl) (Nat.le_of_ble_eq_true rfl) (m_blockOf (l := l) (c := c) hz (by omega) (by omega) h168 ha) ?_
  refine zn_top (v' := .int (-1)) (by rw [hb]; rfl) ?_
  refine zn_istore_n (pc := 6) (L' := [some (.ref 50), some (.int (nI l)), some (.int (nI c)), some (.int (-1)), none]) rfl (by decide) rfl ?_
  refine zn_iload_n (pc := 7) rfl rfl ?_
  refine zn_iconst (pc := 8) (-1) rfl rfl ?_
  refine zn_icmp_eq (pc := 9) (tgt := 21) (x := (-1)) (y := (-1)) rfl rfl (fun c1 => ?_) (fun c1 => ?_)
  · refine zn_iconstN (pc := 21) 0 rfl rfl ?_
    exact zx_i (pc := 22) rfl rfl rfl rfl
  · exact absurd rfl c1
theorem m_shiftOf_s  (hz : mOK z) {l c : Nat} (hl : l < z 0) (hc : c < z (1 + l)) (hzb : ∀ j, z j < 1000) (h168 : F 13 ≤ 168) (ha : ∀ i j, A i j < 2 ^ 20) {b : Nat} (hb : mOf A z l c (F 13) = some b) (hb2 : b < 168) : Zx g zX10_shiftOf [.ref 50, .int (nI l), .int (nI c)] (mhp h F S z A X) (some (.int (mSh F A z l c (some b)))) (mhp h F S z A X) := by
  have h0 := hz.1
  have h1 := hz.2.1
  have hzl := hz.2.2.1 l hl
  have hzc := hz.2.2.2 l c hl hc
  have a9 := ha 9 b
  have k2 := skind_le (mf z l c) (z (25 + 8 * l + c))
  show Zn g zX10_shiftOf 0 [some (.ref 50), some (.int (nI l)), some (.int (nI c)), none, none] [] (mhp h F S z A X) 0 0 _
  refine zn_aload_n (pc := 0) rfl rfl ?_
  refine zn_iload_n (pc := 1) rfl rfl ?_
  refine zn_iload_n (pc := 2) rfl rfl ?_
  refine zn_callVx (pc := 3) (J := zX10_blockOf) (o := 50) (as := [.int (nI l), .int (nI c)]) (rest := []) rfl rfl rfl rfl rfl rfl rfl rfl (Nat.le_of_ble_eq_true rfl) (Nat.le_of_ble_eq_true rfl) (Nat.le_of_ble_eq_true rfl) (Nat.le_of_ble_eq_true rfl) (m_blockOf (l := l) (c := c) hz (by omega) (by omega) h168 ha) ?_
  refine zn_top (v' := .int (nI b)) (by rw [hb]; rfl) ?_
  refine zn_istore_n (pc := 6) (L' := [some (.ref 50), some (.int (nI l)), some (.int (nI c)), some (.int (nI b)), none]) rfl (by decide) rfl ?_
  refine zn_iload_n (pc := 7) rfl rfl ?_
  refine zn_iconst (pc := 8) (-1) rfl rfl ?_
  refine zn_icmp_eq (pc := 9) (tgt := 21) (x := (nI b)) (y := (-1)) rfl rfl (fun c1 => ?_) (fun c1 => ?_)
  · exact absurd (show nI b = -1 from c1) (fun q => nI_pos (show b < 2 ^ 31 by omega) (by rw [q]; decide))
  · refine zn_aload_n (pc := 12) rfl rfl ?_
    refine zn_get (pc := 13) (v := .ref 60) rfl rfl rfl ?_
    refine zn_iload_n (pc := 16) rfl rfl ?_
    refine zm_ldA (pc := 17) (i := 9) (n := 168) (Z := (A 9)) (j := b) rfl (by decide) (by decide) rfl mln9 rfl (by omega) (Nat.le_of_ble_eq_true rfl) ?_
    refine zn_if_neN (pc := 18) (tgt := 23) (x := ((A 9) b)) rfl rfl (by omega) (fun c2 => ?_) (fun c2 => ?_)
    · refine zn_aload_n (pc := 23) rfl rfl ?_
      refine zn_get (pc := 24) (v := .ref 63) rfl rfl rfl ?_
      refine zn_iload_n (pc := 27) rfl rfl ?_
      refine zm_ldA (pc := 28) (i := 12) (n := 168) (Z := (A 12)) (j := b) rfl (by decide) (by decide) rfl mln12 rfl (by omega) (Nat.le_of_ble_eq_true rfl) ?_
      refine zn_aload_n (pc := 29) rfl rfl ?_
      refine zn_get (pc := 30) (v := .int (nI (F 8))) rfl rfl rfl ?_
      refine zn_isub (pc := 33) rfl ?_
      refine zn_istore (pc := 34) (L' := [some (.ref 50), some (.int (nI l)), some (.int (nI c)), some (.int (nI b)), some (.int (nI ((A 12) b) - nI (F 8)))]) rfl (by decide) rfl ?_
      refine zn_aload_n (pc := 36) rfl rfl ?_
      refine zn_get (pc := 37) (v := .ref 60) rfl rfl rfl ?_
      refine zn_iload_n (pc := 40) rfl rfl ?_
      refine zm_ldA (pc := 41) (i := 9) (n := 168) (Z := (A 9)) (j := b) rfl (by decide) (by decide) rfl mln9 rfl (by omega) (Nat.le_of_ble_eq_true rfl) ?_
      refine zn_iconstN (pc := 42) 3 rfl rfl ?_
      refine zn_icmp_neN (pc := 43) (tgt := 73) (x := ((A 9) b)) (y := 3) rfl rfl (by omega) (by omega) (fun c3 => ?_) (fun c3 => ?_)
      · refine zn_aload_n (pc := 73) rfl rfl ?_
        refine zn_get (pc := 74) (v := .ref 60) rfl rfl rfl ?_
        refine zn_iload_n (pc := 77) rfl rfl ?_
        refine zm_ldA (pc := 78) (i := 9) (n := 168) (Z := (A 9)) (j := b) rfl (by decide) (by decide) rfl mln9 rfl (by omega) (Nat.le_of_ble_eq_true rfl) ?_
        refine zn_iconstN (pc := 79) 2 rfl rfl ?_
        refine zn_icmp_neN (pc := 80) (tgt := 97) (x := ((A 9) b)) (y := 2) rfl rfl (by omega) (by omega) (fun c4 => ?_) (fun c4 => ?_)
        · refine zn_iload (pc := 97) rfl rfl ?_
          refine zn_aload_n (pc := 99) rfl rfl ?_
          refine zn_iload_n (pc := 100) rfl rfl ?_
          refine zn_iload_n (pc := 101) rfl rfl ?_
          refine zn_callVx (pc := 102) (J := zX10_lengthOf) (o := 50) (as := [.int (nI l), .int (nI c)]) (rest := [.int (nI ((A 12) b) - nI (F 8))]) rfl rfl rfl rfl rfl rfl rfl rfl (Nat.le_of_ble_eq_true rfl) (Nat.le_of_ble_eq_true rfl) (Nat.le_of_ble_eq_true rfl) (Nat.le_of_ble_eq_true rfl) (m_lengthOf (l := l) (c := c) (by omega) (by omega)) ?_
          refine zn_isub (pc := 105) rfl ?_
          exact zx_i (pc := 106) rfl rfl (by simp only [mSh]; rw [if_neg (by omega), if_neg (by first | omega | exact fun q => absurd q.2 (by assumption)), if_neg (by omega)]; try rfl) rfl
        · refine zn_iload (pc := 83) rfl rfl ?_
          refine zn_aload_n (pc := 85) rfl rfl ?_
          refine zn_iload_n (pc := 86) rfl rfl ?_
          refine zn_iload_n (pc := 87) rfl rfl ?_
          refine zn_callVx (pc := 88) (J := zX10_lengthOf) (o := 50) (as := [.int (nI l), .int (nI c)]) (rest := [.int (nI ((A 12) b) - nI (F 8))]) rfl rfl rfl rfl rfl rfl rfl rfl (Nat.le_of_ble_eq_true rfl) (Nat.le_of_ble_eq_true rfl) (Nat.le_of_ble_eq_true rfl) (Nat.le_of_ble_eq_true rfl) (m_lengthOf (l := l) (c := c) (by omega) (by omega)) ?_
          refine zn_isub (pc := 91) rfl ?_
          refine zn_iconstN (pc := 92) 2 rfl rfl ?_
          refine zn_idiv (pc := 93) rfl (by decide) ?_
          refine zn_goto (pc := 94) (tgt := 106) rfl rfl ?_
          exact zx_i (pc := 106) rfl rfl (by simp only [mSh]; rw [if_neg (by omega), if_neg (by first | omega | exact fun q => absurd q.2 (by assumption)), if_pos (by omega)]; try rfl) rfl
      · refine zn_aload_n (pc := 46) rfl rfl ?_
        refine zn_iload_n (pc := 47) rfl rfl ?_
        refine zn_iload_n (pc := 48) rfl rfl ?_
        refine zn_callVx (pc := 49) (J := zX10_kindOf) (o := 50) (as := [.int (nI l), .int (nI c)]) (rest := []) rfl rfl rfl rfl rfl rfl rfl rfl (Nat.le_of_ble_eq_true rfl) (Nat.le_of_ble_eq_true rfl) (Nat.le_of_ble_eq_true rfl) (Nat.le_of_ble_eq_true rfl) (m_kindOf (l := l) (c := c) (by omega) (by omega) (by omega) hzb) ?_
        refine zn_iconstN (pc := 52) 1 rfl rfl ?_
        refine zn_icmp_neN (pc := 53) (tgt := 73) (x := (skind (mf z l c) (z (25 + 8 * l + c)))) (y := 1) rfl rfl (by omega) (by omega) (fun c5 => ?_) (fun c5 => ?_)
        · refine zn_aload_n (pc := 73) rfl rfl ?_
          refine zn_get (pc := 74) (v := .ref 60) rfl rfl rfl ?_
          refine zn_iload_n (pc := 77) rfl rfl ?_
          refine zm_ldA (pc := 78) (i := 9) (n := 168) (Z := (A 9)) (j := b) rfl (by decide) (by decide) rfl mln9 rfl (by omega) (Nat.le_of_ble_eq_true rfl) ?_
          refine zn_iconstN (pc := 79) 2 rfl rfl ?_
          refine zn_icmp_neN (pc := 80) (tgt := 97) (x := ((A 9) b)) (y := 2) rfl rfl (by omega) (by omega) (fun c6 => ?_) (fun c6 => ?_)
          · refine zn_iload (pc := 97) rfl rfl ?_
            refine zn_aload_n (pc := 99) rfl rfl ?_
            refine zn_iload_n (pc := 100) rfl rfl ?_
            refine zn_iload_n (pc := 101) rfl rfl ?_
            refine zn_callVx (pc := 102) (J := zX10_lengthOf) (o := 50) (as := [.int (nI l), .int (nI c)]) (rest := [.int (nI ((A 12) b) - nI (F 8))]) rfl rfl rfl rfl rfl rfl rfl rfl (Nat.le_of_ble_eq_true rfl) (Nat.le_of_ble_eq_true rfl) (Nat.le_of_ble_eq_true rfl) (Nat.le_of_ble_eq_true rfl) (m_lengthOf (l := l) (c := c) (by omega) (by omega)) ?_
            refine zn_isub (pc := 105) rfl ?_
            exact zx_i (pc := 106) rfl rfl (by simp only [mSh]; rw [if_neg (by omega), if_neg (by first | omega | exact fun q => absurd q.2 (by assumption)), if_neg (by omega)]; try rfl) rfl
          · refine zn_iload (pc := 83) rfl rfl ?_
            refine zn_aload_n (pc := 85) rfl rfl ?_
            refine zn_iload_n (pc := 86) rfl rfl ?_
            refine zn_iload_n (pc := 87) rfl rfl ?_
            refine zn_callVx (pc := 88) (J := zX10_lengthOf) (o := 50) (as := [.int (nI l), .int (nI c)]) (rest := [.int (nI ((A 12) b) - nI (F 8))]) rfl rfl rfl rfl rfl rfl rfl rfl (Nat.le_of_ble_eq_true rfl) (Nat.le_of_ble_eq_true rfl) (Nat.le_of_ble_eq_true rfl) (Nat.le_of_ble_eq_true rfl) (m_lengthOf (l := l) (c := c) (by omega) (by omega)) ?_
            refine zn_isub (pc := 91) rfl ?_
            refine zn_iconstN (pc := 92) 2 rfl rfl ?_
            refine zn_idiv (pc := 93) rfl (by decide) ?_
            refine zn_goto (pc := 94) (tgt := 106) rfl rfl ?_
            exact zx_i (pc := 106) rfl rfl (by simp only [mSh]; rw [if_neg (by omega), if_neg (by first | omega | exact fun q => absurd q.2 (by assumption)), if_pos (by omega)]; try rfl) rfl
        · refine zn_iload (pc := 56) rfl rfl ?_
          refine zn_aload_n (pc := 58) rfl rfl ?_
          refine zn_get (pc := 59) (v := .ref 62) rfl rfl rfl ?_
          refine zn_iload_n (pc := 62) rfl rfl ?_
          refine zm_ldA (pc := 63) (i := 11) (n := 168) (Z := (A 11)) (j := b) rfl (by decide) (by decide) rfl mln11 rfl (by omega) (Nat.le_of_ble_eq_true rfl) ?_
          refine zn_isub (pc := 64) rfl ?_
          refine zn_aload_n (pc := 65) rfl rfl ?_
          refine zn_iload_n (pc := 66) rfl rfl ?_
          refine zn_iload_n (pc := 67) rfl rfl ?_
          refine zn_callVx (pc := 68) (J := zX10_wholeLength) (o := 50) (as := [.int (nI l), .int (nI c)]) (rest := [.int ((nI ((A 12) b) - nI (F 8)) - (nI ((A 11) b)))]) rfl rfl rfl rfl rfl rfl rfl rfl (Nat.le_of_ble_eq_true rfl) (Nat.le_of_ble_eq_true rfl) (Nat.le_of_ble_eq_true rfl) (Nat.le_of_ble_eq_true rfl) (m_wholeLength (l := l) (c := c) (by omega) (by omega) (by omega) hzb) ?_
          refine zn_isub (pc := 71) rfl ?_
          exact zx_i (pc := 72) rfl rfl (by simp only [mSh]; rw [if_neg (by omega), if_pos ⟨by omega, by assumption⟩]; try rfl) rfl
    · refine zn_iconstN (pc := 21) 0 rfl rfl ?_
      exact zx_i (pc := 22) rfl rfl (by simp only [mSh]; rw [if_pos (by omega)]; try rfl) rfl
theorem m_shiftOf (hz : mOK z) {l c : Nat} (hl : l < z 0) (hc : c < z (1 + l)) (hzb : ∀ j, z j < 1000) (h168 : F 13 ≤ 168) (ha : ∀ i j, A i j < 2 ^ 20) : Zx g zX10_shiftOf [.ref 50, .int (nI l), .int (nI c)] (mhp h F S z A X) (some (.int (mSh F A z l c (mOf A z l c (F 13))))) (mhp h F S z A X) := by
  cases hb : mOf A z l c (F 13) with
  | none => exact m_shiftOf_n hz hl hc hzb h168 ha hb
  | some b =>
    refine m_shiftOf_s hz hl hc hzb h168 ha hb ?_
    unfold mOf at hb
    split at hb
    · have := bOf_lt hb; omega
    · cases hb
theorem m_isBlock  (hz : mOK z) (hzb : ∀ j, z j < 1000) (h4 : ∀ j, A 4 j ≤ 3) (hg : 1 ≤ F 10) (hg8 : F 10 ≤ 8) (hlw : F 9 ≤ 20) (hpd : F 8 ≤ 8) (x : Int32) : Zx g zX10_isBlock [.ref 50, .int x] (mhp h F S z A X) (some (.int (zb (zin x (bAll z 7).length)))) (mhp h (va_up F 13 (bAll z 7).length) S z (mL F z A (bAll z 7)) X) := by
  have h1 := hz.2.1
  have hP := bAll_len z 7
  show Zn g zX10_isBlock 0 [some (.ref 50), some (.int x)] [] (mhp h F S z A X) 0 0 _
  refine zn_iload_n (pc := 0) rfl rfl ?_
  refine zn_iconstN (pc := 1) 0 rfl rfl ?_
  refine zn_aload_n (pc := 2) rfl rfl ?_
  refine zn_callVx (pc := 3) (J := zX10_layBlocks) (o := 50) (as := []) (rest := [.int (nI 0), .int x]) rfl rfl rfl rfl rfl rfl rfl rfl (Nat.le_of_ble_eq_true rfl) (Nat.le_of_ble_eq_true rfl) (Nat.le_of_ble_eq_true rfl) (Nat.le_of_ble_eq_true rfl) (m_layBlocks hz hzb h4 hg hg8 hlw hpd) ?_
  refine zn_iconstN (pc := 6) 1 rfl rfl ?_
  refine zn_isub (pc := 7) rfl ?_
  refine zn_callSx (pc := 8) (J := zX10_within) (as := [.int x, .int (nI 0), .int (nI ((bAll z 7).length) - 1)]) (rest := []) rfl (by decide) rfl rfl rfl rfl (Nat.le_of_ble_eq_true rfl) (Nat.le_of_ble_eq_true rfl) (Nat.le_of_ble_eq_true rfl) (Nat.le_of_ble_eq_true rfl) (m_within x (nI 0) (nI ((bAll z 7).length) - 1)) ?_
  exact zx_z (pc := 11) rfl rfl (zb_and _) (by rw [zb_iff (zin_w0 (by omega))]) rfl
end m1
