section m1
variable {g : zG} {h hh : zH} {F : Nat → Nat} {S : Int64} {z : Nat → Nat} {A : Nat → Nat → Nat} {X : Nat → Int32}
theorem m_place  (l c k : Nat) : Zx g zX10_place [.int (nI l), .int (nI c), .int (nI k)] hh (some (.int (nI (217 + 16 * (8 * l + c) + k)))) hh := by
  show Zn g zX10_place 0 [some (.int (nI l)), some (.int (nI c)), some (.int (nI k))] [] hh 0 0 _
  refine zn_sipushN (pc := 0) 217 rfl rfl ?_
  refine zn_bipushN (pc := 3) 16 rfl rfl ?_
  refine zn_bipushN (pc := 5) 8 rfl rfl ?_
  refine zn_iload_n (pc := 7) rfl rfl ?_
  refine zn_imulN (pc := 8) (x := 8) (y := l) rfl ?_
  refine zn_iload_n (pc := 9) rfl rfl ?_
  refine zn_iaddN (pc := 10) (x := (8 * l)) (y := c) rfl ?_
  refine zn_imulN (pc := 11) (x := 16) (y := ((8 * l) + c)) rfl ?_
  refine zn_iaddN (pc := 12) (x := 217) (y := (16 * ((8 * l) + c))) rfl ?_
  refine zn_iload_n (pc := 13) rfl rfl ?_
  refine zn_iaddN (pc := 14) (x := (217 + (16 * ((8 * l) + c)))) (y := k) rfl ?_
  exact zx_i (pc := 15) rfl rfl rfl rfl
theorem m_within  (v lo hi : Int32) : Zx g zX10_within [.int v, .int lo, .int hi] hh (some (.int (zb (lo ≤ v ∧ v ≤ hi)))) hh := by
  show Zn g zX10_within 0 [some (.int v), some (.int lo), some (.int hi)] [] hh 0 0 _
  refine zn_iload_n (pc := 0) rfl rfl ?_
  refine zn_iload_n (pc := 1) rfl rfl ?_
  refine zn_icmp_lt (pc := 2) (tgt := 14) (x := v) (y := lo) rfl rfl (fun c1 => ?_) (fun c1 => ?_)
  · refine zn_iconstN (pc := 14) 0 rfl rfl ?_
    exact zx_z (pc := 15) rfl rfl (by decide) (by rw [zb_f (by simp only [← Int32.toInt_inj, Int32.lt_iff_toInt_lt, Int32.le_iff_toInt_le] at *; omega)]; rfl) rfl
  · refine zn_iload_n (pc := 5) rfl rfl ?_
    refine zn_iload_n (pc := 6) rfl rfl ?_
    refine zn_icmp_gt (pc := 7) (tgt := 14) (x := v) (y := hi) rfl rfl (fun c2 => ?_) (fun c2 => ?_)
    · refine zn_iconstN (pc := 14) 0 rfl rfl ?_
      exact zx_z (pc := 15) rfl rfl (by decide) (by rw [zb_f (by simp only [← Int32.toInt_inj, Int32.lt_iff_toInt_lt, Int32.le_iff_toInt_le] at *; omega)]; rfl) rfl
    · refine zn_iconstN (pc := 10) 1 rfl rfl ?_
      refine zn_goto (pc := 11) (tgt := 15) rfl rfl ?_
      exact zx_z (pc := 15) rfl rfl (by decide) (by rw [zb_t (by simp only [← Int32.toInt_inj, Int32.lt_iff_toInt_lt, Int32.le_iff_toInt_le] at *; omega)]; rfl) rfl
theorem m_thrown   : Zx g zX10_thrown [.ref 50] (mhp h F S z A X) (some (.int (nI (F 0)))) (mhp h F S z A X) := by
  show Zn g zX10_thrown 0 [some (.ref 50)] [] (mhp h F S z A X) 0 0 _
  refine zn_aload_n (pc := 0) rfl rfl ?_
  refine zn_get (pc := 1) (v := .int (nI (F 0))) rfl rfl rfl ?_
  exact zx_i (pc := 4) rfl rfl rfl rfl
theorem m_cells  {l : Nat} (hl : l < 24) : Zx g zX10_cells [.ref 50, .int (nI l)] (mhp h F S z A X) (some (.int (nI (z (1 + l))))) (mhp h F S z A X) := by
  show Zn g zX10_cells 0 [some (.ref 50), some (.int (nI l))] [] (mhp h F S z A X) 0 0 _
  refine zn_aload_n (pc := 0) rfl rfl ?_
  refine zn_get (pc := 1) (v := .ref 51) rfl rfl rfl ?_
  refine zn_iconstN (pc := 4) 1 rfl rfl ?_
  refine zn_iload_n (pc := 5) rfl rfl ?_
  refine zn_iaddN (pc := 6) (x := 1) (y := l) rfl ?_
  refine zn_naLd (pc := 7) (o := 51) (n := 3289) (Z := z) (j := (1 + l)) rfl rfl (by omega) (by decide) ?_
  exact zx_i (pc := 8) rfl rfl rfl rfl
theorem m_lengthOf  {l c : Nat} (hl : l < 24) (hc : c < 8) : Zx g zX10_lengthOf [.ref 50, .int (nI l), .int (nI c)] (mhp h F S z A X) (some (.int (nI (z (25 + 8 * l + c))))) (mhp h F S z A X) := by
  show Zn g zX10_lengthOf 0 [some (.ref 50), some (.int (nI l)), some (.int (nI c))] [] (mhp h F S z A X) 0 0 _
  refine zn_aload_n (pc := 0) rfl rfl ?_
  refine zn_get (pc := 1) (v := .ref 51) rfl rfl rfl ?_
  refine zn_bipushN (pc := 4) 25 rfl rfl ?_
  refine zn_bipushN (pc := 6) 8 rfl rfl ?_
  refine zn_iload_n (pc := 8) rfl rfl ?_
  refine zn_imulN (pc := 9) (x := 8) (y := l) rfl ?_
  refine zn_iaddN (pc := 10) (x := 25) (y := (8 * l)) rfl ?_
  refine zn_iload_n (pc := 11) rfl rfl ?_
  refine zn_iaddN (pc := 12) (x := (25 + (8 * l))) (y := c) rfl ?_
  refine zn_naLd (pc := 13) (o := 51) (n := 3289) (Z := z) (j := ((25 + (8 * l)) + c)) rfl rfl (by omega) (by decide) ?_
  exact zx_i (pc := 14) rfl rfl rfl rfl
theorem m_setLength  {l c n : Nat} (hl : l < 24) (hc : c < 8) : Zx g zX10_setLength [.ref 50, .int (nI l), .int (nI c), .int (nI n)] (mhp h F S z A X) none (mhp h F S (va_up z (25 + 8 * l + c) n) A X) := by
  show Zn g zX10_setLength 0 [some (.ref 50), some (.int (nI l)), some (.int (nI c)), some (.int (nI n))] [] (mhp h F S z A X) 0 0 _
  refine zn_aload_n (pc := 0) rfl rfl ?_
  refine zn_get (pc := 1) (v := .ref 51) rfl rfl rfl ?_
  refine zn_bipushN (pc := 4) 25 rfl rfl ?_
  refine zn_bipushN (pc := 6) 8 rfl rfl ?_
  refine zn_iload_n (pc := 8) rfl rfl ?_
  refine zn_imulN (pc := 9) (x := 8) (y := l) rfl ?_
  refine zn_iaddN (pc := 10) (x := 25) (y := (8 * l)) rfl ?_
  refine zn_iload_n (pc := 11) rfl rfl ?_
  refine zn_iaddN (pc := 12) (x := (25 + (8 * l))) (y := c) rfl ?_
  refine zn_iload_n (pc := 13) rfl rfl ?_
  refine zm_stz (pc := 14) (j := ((25 + (8 * l)) + c)) (v := n) rfl (by omega) ?_
  exact zx_v (pc := 15) rfl rfl rfl rfl
theorem m_signOf  {l c k : Nat} (hl : l < 24) (hc : c < 8) (hk : k < 16) : Zx g zX10_signOf [.ref 50, .int (nI l), .int (nI c), .int (nI k)] (mhp h F S z A X) (some (.int (nI (z (217 + 16 * (8 * l + c) + k))))) (mhp h F S z A X) := by
  show Zn g zX10_signOf 0 [some (.ref 50), some (.int (nI l)), some (.int (nI c)), some (.int (nI k))] [] (mhp h F S z A X) 0 0 _
  refine zn_aload_n (pc := 0) rfl rfl ?_
  refine zn_get (pc := 1) (v := .ref 51) rfl rfl rfl ?_
  refine zn_iload_n (pc := 4) rfl rfl ?_
  refine zn_iload_n (pc := 5) rfl rfl ?_
  refine zn_iload_n (pc := 6) rfl rfl ?_
  refine zn_callSx (pc := 7) (J := zX10_place) (as := [.int (nI l), .int (nI c), .int (nI k)]) (rest := [.ref 51]) rfl (by decide) rfl rfl rfl rfl (Nat.le_of_ble_eq_true rfl) (Nat.le_of_ble_eq_true rfl) (Nat.le_of_ble_eq_true rfl) (Nat.le_of_ble_eq_true rfl) (m_place l c k) ?_
  refine zn_naLd (pc := 10) (o := 51) (n := 3289) (Z := z) (j := (217 + 16 * (8 * l + c) + k)) rfl rfl (by omega) (by decide) ?_
  exact zx_i (pc := 11) rfl rfl rfl rfl
/-- the text's numbers are in their limits -/
def mOK (z : Nat → Nat) : Prop := 1 ≤ z 0 ∧ z 0 ≤ 24 ∧ (∀ l, l < z 0 → 1 ≤ z (1 + l) ∧ z (1 + l) ≤ 8) ∧ (∀ l c, l < z 0 → c < z (1 + l) → z (25 + 8 * l + c) ≤ 16)
theorem m_isLine  (h0 : 1 ≤ z 0) (h1 : z 0 ≤ 24) (x : Int32) : Zx g zX10_isLine [.ref 50, .int x] (mhp h F S z A X) (some (.int (zb (zin x (z 0))))) (mhp h F S z A X) := by
  show Zn g zX10_isLine 0 [some (.ref 50), some (.int x)] [] (mhp h F S z A X) 0 0 _
  refine zn_iload_n (pc := 0) rfl rfl ?_
  refine zn_iconstN (pc := 1) 0 rfl rfl ?_
  refine zn_aload_n (pc := 2) rfl rfl ?_
  refine zn_get (pc := 3) (v := .ref 51) rfl rfl rfl ?_
  refine zn_iconstN (pc := 6) 0 rfl rfl ?_
  refine zn_naLd (pc := 7) (o := 51) (n := 3289) (Z := z) (j := 0) rfl rfl (by omega) (by decide) ?_
  refine zn_iconstN (pc := 8) 1 rfl rfl ?_
  refine zn_isubN (pc := 9) (x := (z 0)) (y := 1) rfl (by omega) ?_
  refine zn_callSx (pc := 10) (J := zX10_within) (as := [.int x, .int (nI 0), .int (nI ((z 0) - 1))]) (rest := []) rfl (by decide) rfl rfl rfl rfl (Nat.le_of_ble_eq_true rfl) (Nat.le_of_ble_eq_true rfl) (Nat.le_of_ble_eq_true rfl) (Nat.le_of_ble_eq_true rfl) (m_within x (nI 0) (nI ((z 0) - 1))) ?_
  exact zx_z (pc := 13) rfl rfl (zb_and _) (by rw [zb_iff (zin_w h0 (by omega))]) rfl
abbrev mCell (z : Nat → Nat) (x y : Int32) : Prop := zin x (z 0) ∧ zin y (z (1 + x.toNatClampNeg))
abbrev mPlace (z : Nat → Nat) (x y k : Int32) : Prop := mCell z x y ∧ zin k (z (25 + 8 * x.toNatClampNeg + y.toNatClampNeg) + 1)
theorem m_isCell  (hz : mOK z) (x y : Int32) : Zx g zX10_isCell [.ref 50, .int x, .int y] (mhp h F S z A X) (some (.int (zb (mCell z x y)))) (mhp h F S z A X) := by
  have h0 := hz.1
  have h1 := hz.2.1
  show Zn g zX10_isCell 0 [some (.ref 50), some (.int x), some (.int y)] [] (mhp h F S z A X) 0 0 _
  refine zn_aload_n (pc := 0) rfl rfl ?_
  refine zn_iload_n (pc := 1) rfl rfl ?_
  refine zn_callVx (pc := 2) (J := zX10_isLine) (o := 50) (as := [.int x]) (rest := []) rfl rfl rfl rfl rfl rfl rfl rfl (Nat.le_of_ble_eq_true rfl) (Nat.le_of_ble_eq_true rfl) (Nat.le_of_ble_eq_true rfl) (Nat.le_of_ble_eq_true rfl) (m_isLine (by omega) (by omega) x) ?_
  refine zn_if_eqB (pc := 5) (tgt := 27) rfl rfl (fun c1 => ?_) (fun c1 => ?_)
  · refine zn_iconstN (pc := 27) 0 rfl rfl ?_
    exact zx_z (pc := 28) rfl rfl (by decide) (by rw [zb_f (by exact fun q => c1 q.1)]; rfl) rfl
  · obtain ⟨l, hl, rfl⟩ := zin_ex c1 (by omega)
    have hzl := hz.2.2.1 l hl
    refine zn_iload_n (pc := 8) rfl rfl ?_
    refine zn_iconstN (pc := 9) 0 rfl rfl ?_
    refine zn_aload_n (pc := 10) rfl rfl ?_
    refine zn_iload_n (pc := 11) rfl rfl ?_
    refine zn_callVx (pc := 12) (J := zX10_cells) (o := 50) (as := [.int (nI l)]) (rest := [.int (nI 0), .int y]) rfl rfl rfl rfl rfl rfl rfl rfl (Nat.le_of_ble_eq_true rfl) (Nat.le_of_ble_eq_true rfl) (Nat.le_of_ble_eq_true rfl) (Nat.le_of_ble_eq_true rfl) (m_cells (l := l) (by omega)) ?_
    refine zn_iconstN (pc := 15) 1 rfl rfl ?_
    refine zn_isubN (pc := 16) (x := (z (1 + l))) (y := 1) rfl (by omega) ?_
    refine zn_callSx (pc := 17) (J := zX10_within) (as := [.int y, .int (nI 0), .int (nI ((z (1 + l)) - 1))]) (rest := []) rfl (by decide) rfl rfl rfl rfl (Nat.le_of_ble_eq_true rfl) (Nat.le_of_ble_eq_true rfl) (Nat.le_of_ble_eq_true rfl) (Nat.le_of_ble_eq_true rfl) (m_within y (nI 0) (nI ((z (1 + l)) - 1))) ?_
    refine zn_if_eqB (pc := 20) (tgt := 27) rfl rfl (fun c2 => ?_) (fun c2 => ?_)
    · refine zn_iconstN (pc := 27) 0 rfl rfl ?_
      exact zx_z (pc := 28) rfl rfl (by decide) (by rw [zb_f (by have e := nI_clamp (n := l) (by omega); unfold mCell; rw [e]; exact fun q => ‹¬ _› ((zin_w hzl.1 (by omega)).mpr q.2))]; rfl) rfl
    · refine zn_iconstN (pc := 23) 1 rfl rfl ?_
      refine zn_goto (pc := 24) (tgt := 28) rfl rfl ?_
      exact zx_z (pc := 28) rfl rfl (by decide) (by rw [zb_t (by have e := nI_clamp (n := l) (by omega); unfold mCell; rw [e]; exact ⟨(zin_nI (by omega)).mpr hl, (zin_w hzl.1 (by omega)).mp ‹_›⟩)]; rfl) rfl
end m1
