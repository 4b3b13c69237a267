section m1
variable {g : zG} {h hh : zH} {F : Nat → Nat} {S : Int64} {z : Nat → Nat} {A : Nat → Nat → Nat} {X : Nat → Int32}
theorem m_place  (l c k : Nat) : Zx g zX10_place [.int (nI l), .int (nI c), .int (nI k)] hh (some (.int (nI (217 + 16 * (8 * l + c) + k)))) hh := by
  show Zn g zX10_place 0 [some (.int (nI l)), some (.int (nI c)), some (.int (nI k))] [] hh 0 0 _
  refine zn_sipushN (pc := 0) 217 rfl rfl ?_
  refine zn_bipushN (pc := 3) 16 rfl rfl ?_
  refine zn_bipushN (pc := 5) 8 rfl rfl ?_
  refine zn_iload_n (pc := 7) rfl rfl ?_
  refine zn_imulN (pc := 8) (x := 8) (y := l) rfl ?_
  refine zn_iload_n (pc := 9) rfl rfl ?_
  refine zn_iaddN (pc := 10) (x := (8 * l)) (y := c) rfl ?_
  refine zn_imulN (pc := 11) (x := 16) (y := ((8 * l) + c)) rfl ?_
  refine zn_iaddN (pc := 12) (x := 217) (y := (16 * ((8 * l) + c))) rfl ?_
  refine zn_iload_n (pc := 13) rfl rfl ?_
  refine zn_iaddN (pc := 14) (x := (217 + (16 * ((8 * l) + c)))) (y := k) rfl ?_
  exact zx_i (pc := 15) rfl rfl rfl rfl
theorem m_within  (v lo hi : Int32) : Zx g zX10_within [.int v, .int lo, .int hi] hh (some (.int (zb (lo ≤ v ∧ v ≤ hi)))) hh := by
  show Zn g zX10_within 0 [some (.int v), some (.int lo), some (.int hi)] [] hh 0 0 _
  refine zn_iload_n (pc := 0) rfl rfl ?_
  refine zn_iload_n (pc := 1) rfl rfl ?_
  refine zn_icmp_lt (pc := 2) (tgt := 14) (x := v) (y := lo) rfl rfl (fun c1 => ?_) (fun c1 => ?_)
  · refine zn_iconstN (pc := 14) 0 rfl rfl ?_
    exact zx_z (pc := 15) rfl rfl (by decide) (by rw [zb_f (by simp only [← Int32.toInt_inj, Int32.lt_iff_toInt_lt, Int32.le_iff_toInt_le] at *; omega)]; rfl) rfl
  · refine zn_iload_n (pc := 5) rfl rfl ?_
    refine zn_iload_n (pc := 6) rfl rfl ?_
    refine zn_icmp_gt (pc := 7) (tgt := 14) (x := v) (y := hi) rfl rfl (fun c2 => ?_) (fun c2 => ?_)
    · refine zn_iconstN (pc := 14) 0 rfl rfl ?_
      exact zx_z (pc := 15) rfl rfl (by decide) (by rw [zb_f (by simp only [← Int32.toInt_inj, Int32.lt_iff_toInt_lt, Int32.le_iff_toInt_le] at *; omega)]; rfl) rfl
    · refine zn_iconstN (pc := 10) 1 rfl rfl ?_
      refine zn_goto (pc := 11) (tgt := 15) rfl rfl ?_
      exact zx_z (pc := 15) rfl rfl (by decide) (by rw [zb_t (by simp only [← Int32.toInt_inj, Int32.lt_iff_toInt_lt, Int32.le_iff_toInt_le] at *; omega)]; rfl) rfl
theorem m_thrown   : Zx g zX10_thrown [.ref 50] (mhp h F S z A X) (some (.int (nI (F 0)))) (mhp h F S z A X) := by
  show Zn g zX10_thrown 0 [some (.ref 50)] [] (mhp h F S z A X) 0 0 _
  refine zn_aload_n (pc := 0) rfl rfl ?_
  refine zn_get (pc := 1) (v := .int (nI (F 0))) rfl rfl rfl ?_
  exact zx_i (pc := 4) rfl rfl rfl rfl
theorem m_cells  {l : Nat} (hl : l < 24) : Zx g zX10_cells [.ref 50, .int (nI l)] (mhp h F S z A X) (some (.int (nI (z (1 + l))))) (mhp h F S z A X) := by
  show Zn g zX10_cells 0 [some (.ref 50), some (.int (nI l))] [] (mhp h F S z A X) 0 0 _
  refine zn_aload_n (pc := 0) rfl rfl ?_
  refine zn_get (pc := 1) (v := .ref 51) rfl rfl rfl ?_
  refine zn_iconstN (pc := 4) 1 rfl rfl ?_
  refine zn_iload_n (pc := 5) rfl rfl ?_
  refine zn_iaddN (pc := 6) (x := 1) (y := l) rfl ?_
  refine zn_naLd (pc := 7) (o := 51) (n := 3289) (Z := z) (j := (1 + l)) rfl rfl (by omega) (Nat.le_of_ble_eq_true rfl) ?_
  exact zx_i (pc := 8) rfl rfl rfl rfl
theorem m_lengthOf  {l c : Nat} (hl : l < 24) (hc : c < 8) : Zx g zX10_lengthOf [.ref 50, .int (nI l), .int (nI c)] (mhp h F S z A X) (some (.int (nI (z (25 + 8 * l + c))))) (mhp h F S z A X) := by
  show Zn g zX10_lengthOf 0 [some (.ref 50), some (.int (nI l)), some (.int (nI c))] [] (mhp h F S z A X) 0 0 _
  refine zn_aload_n (pc := 0) rfl rfl ?_
  refine zn_get (pc := 1) (v := .ref 51) rfl rfl rfl ?_
  refine zn_bipushN (pc := 4) 25 rfl rfl ?_
  refine zn_bipushN (pc := 6) 8 rfl rfl ?_
  refine zn_iload_n (pc := 8) rfl rfl ?_
  refine zn_imulN (pc := 9) (x := 8) (y := l) rfl ?_
  refine zn_iaddN (pc := 10) (x := 25) (y := (8 * l)) rfl ?_
  refine zn_iload_n (pc := 11) rfl rfl ?_
  refine zn_iaddN (pc := 12) (x := (25 + (8 * l))) (y := c) rfl ?_
  refine zn_naLd (pc := 13) (o := 51) (n := 3289) (Z := z) (j := ((25 + (8 * l)) + c)) rfl rfl (by omega) (Nat.le_of_ble_eq_true rfl) ?_
  exact zx_i (pc := 14) rfl rfl rfl rfl
theorem m_setLength  {l c n : Nat} (hl : l < 24) (hc : c < 8) : Zx g zX10_setLength [.ref 50, .int (nI l), .int (nI c), .int (nI n)] (mhp h F S z A X) none (mhp h F S (va_up z (25 + 8 * l + c) n) A X) := by
  show Zn g zX10_setLength 0 [some (.ref 50), some (.int (nI l)), some (.int (nI c)), some (.int (nI n))] [] (mhp h F S z A X) 0 0 _
  refine zn_aload_n (pc := 0) rfl rfl ?_
  refine zn_get (pc := 1) (v := .ref 51) rfl rfl rfl ?_
  refine zn_bipushN (pc := 4) 25 rfl rfl ?_
  refine zn_bipushN (pc := 6) 8 rfl rfl ?_
  refine zn_iload_n (pc := 8) rfl rfl ?_
  refine zn_imulN (pc := 9) (x := 8) (y := l) rfl ?_
  refine zn_iaddN (pc := 10) (x := 25) (y := (8 * l)) rfl ?_
  refine zn_iload_n (pc := 11) rfl rfl ?_
  refine zn_iaddN (pc := 12) (x := (25 + (8 * l))) (y := c) rfl ?_
  refine zn_iload_n (pc := 13) rfl rfl ?_
  refine zm_stz (pc := 14) (j := ((25 + (8 * l)) + c)) (v := n) rfl (by omega) ?_
  exact zx_v (pc := 15) rfl rfl rfl rfl
theorem m_signOf  {l c k : Nat} (hl : l < 24) (hc : c < 8) (hk : k < 16) : Zx g zX10_signOf [.ref 50, .int (nI l), .int (nI c), .int (nI k)] (mhp h F S z A X) (some (.int (nI (z (217 + 16 * (8 * l + c) + k))))) (mhp h F S z A X) := by
  show Zn g zX10_signOf 0 [some (.ref 50), some (.int (nI l)), some (.int (nI c)), some (.int (nI k))] [] (mhp h F S z A X) 0 0 _
  refine zn_aload_n (pc := 0) rfl rfl ?_
  refine zn_get (pc := 1) (v := .ref 51) rfl rfl rfl ?_
  refine zn_iload_n (pc := 4) rfl rfl ?_
  refine zn_iload_n (pc := 5) rfl rfl ?_
  refine zn_iload_n (pc := 6) rfl rfl ?_
  refine zn_callSx (pc := 7) (J := zX10_place) (as := [.int (nI l), .int (nI c), .int (nI k)]) (rest := [.ref 51]) rfl (by decide) rfl rfl rfl rfl (Nat.le_of_ble_eq_true rfl) (Nat.le_of_ble_eq_true rfl) (Nat.le_of_ble_eq_true rfl) (Nat.le_of_ble_eq_true rfl) (m_place l c k) ?_
  refine zn_naLd (pc := 10) (o := 51) (n := 3289) (Z := z) (j := (217 + 16 * (8 * l + c) + k)) rfl rfl (by omega) (Nat.le_of_ble_eq_true rfl) ?_
  exact zx_i (pc := 11) rfl rfl rfl rfl
/-- the text's numbers are in their limits -/
def mOK (z : Nat → Nat) : Prop := 1 ≤ z 0 ∧ z 0 ≤ 24 ∧ (∀ l, l < z 0 → 1 ≤ z (1 + l) ∧ z (1 + l) ≤ 8) ∧ (∀ l c, l < z 0 → c < z (1 + l) → z (25 + 8 * l + c) ≤ 16)
theorem m_isLine  (h0 : 1 ≤ z 0) (h1 : z 0 ≤ 24) (x : Int32) : Zx g zX10_isLine [.ref 50, .int x] (mhp h F S z A X) (some (.int (zb (zin x (z 0))))) (mhp h F S z A X) := by
  show Zn g zX10_isLine 0 [some (.ref 50), some (.int x)] [] (mhp h F S z A X) 0 0 _
  refine zn_iload_n (pc := 0) rfl rfl ?_
  refine zn_iconstN (pc := 1) 0 rfl rfl ?_
  refine zn_aload_n (pc := 2) rfl rfl ?_
  refine zn_get (pc := 3) (v := .ref 51) rfl rfl rfl ?_
  refine zn_iconstN (pc := 6) 0 rfl rfl ?_
  refine zn_naLd (pc := 7) (o := 51) (n := 3289) (Z := z) (j := 0) rfl rfl (by omega) (Nat.le_of_ble_eq_true rfl) ?_
  refine zn_iconstN (pc := 8) 1 rfl rfl ?_
  refine zn_isubN (pc := 9) (x := (z 0)) (y := 1) rfl (by omega) ?_
  refine zn_callSx (pc := 10) (J := zX10_within) (as := [.int x, .int (nI 0), .int (nI ((z 0) - 1))]) (rest := []) rfl (by decide) rfl rfl rfl rfl (Nat.le_of_ble_eq_true rfl) (Nat.le_of_ble_eq_true rfl) (Nat.le_of_ble_eq_true rfl) (Nat.le_of_ble_eq_true rfl) (m_within x (nI 0) (nI ((z 0) - 1))) ?_
  exact zx_z (pc := 13) rfl rfl (zb_and _) (by rw [zb_iff (zin_w h0 (by omega))]) rfl
abbrev mCell (z : Nat → Nat) (x y : Int32) : Prop := zin x (z 0) ∧ zin y (z (1 + x.toNatClampNeg))
abbrev mPlace (z : Nat → Nat) (x y k : Int32) : Prop := mCell z x y ∧ zin k (z (25 + 8 * x.toNatClampNeg + y.toNatClampNeg) + 1)
theorem m_isCell  (hz : mOK z) (x y : Int32) : Zx g zX10_isCell [.ref 50, .int x, .int y] (mhp h F S z A X) (some (.int (zb (mCell z x y)))) (mhp h F S z A X) := by
  have h0 := hz.1
  have h1 := hz.2.1
  show Zn g zX10_isCell 0 [some (.ref 50), some (.int x), some (.int y)] [] (mhp h F S z A X) 0 0 _
  refine zn_aload_n (pc := 0) rfl rfl ?_
  refine zn_iload_n (pc := 1) rfl rfl ?_
  refine zn_callVx (pc := 2) (J := zX10_isLine) (o := 50) (as := [.int x]) (rest := []) rfl rfl rfl rfl rfl rfl rfl rfl (Nat.le_of_ble_eq_true rfl) (Nat.le_of_ble_eq_true rfl) (Nat.le_of_ble_eq_true rfl) (Nat.le_of_ble_eq_true rfl) (m_isLine (by omega) (by omega) x) ?_
  refine zn_if_eqB (pc := 5) (tgt := 27) rfl rfl (fun c1 => ?_) (fun c1 => ?_)
  · refine zn_iconstN (pc := 27) 0 rfl rfl ?_
    exact zx_z (pc := 28) rfl rfl (by decide) (by rw [zb_f (by exact fun q => c1 q.1)]; rfl) rfl
  · obtain ⟨l, hl, rfl⟩ := zin_ex c1 (by omega)
    have hzl := hz.2.2.1 l hl
    refine zn_iload_n (pc := 8) rfl rfl ?_
    refine zn_iconstN (pc := 9) 0 rfl rfl ?_
    refine zn_aload_n (pc := 10) rfl rfl ?_
    refine zn_iload_n (pc := 11) rfl rfl ?_
    refine zn_callVx (pc := 12) (J := zX10_cells) (o := 50) (as := [.int (nI l)]) (rest := [.int (nI 0), .int y]) rfl rfl rfl rfl rfl rfl rfl rfl (Nat.le_of_ble_eq_true rfl) (Nat.le_of_ble_eq_true rfl) (Nat.le_of_ble_eq_true rfl) (Nat.le_of_ble_eq_true rfl) (m_cells (l := l) (by omega)) ?_
    refine zn_iconstN (pc := 15) 1 rfl rfl ?_
    refine zn_isubN (pc := 16) (x := (z (1 + l))) (y := 1) rfl (by omega) ?_
    refine zn_callSx (pc := 17) (J := zX10_within) (as := [.int y, .int (nI 0), .int (nI ((z (1 + l)) - 1))]) (rest := []) rfl (by decide) rfl rfl rfl rfl (Nat.le_of_ble_eq_true rfl) (Nat.le_of_ble_eq_true rfl) (Nat.le_of_ble_eq_true rfl) (Nat.le_of_ble_eq_true rfl) (m_within y (nI 0) (nI ((z (1 + l)) - 1))) ?_
    refine zn_if_eqB (pc := 20) (tgt := 27) rfl rfl (fun c2 => ?_) (fun c2 => ?_)
    · refine zn_iconstN (pc := 27) 0 rfl rfl ?_
      exact zx_z (pc := 28) rfl rfl (by decide) (by rw [zb_f (by have e := nI_clamp (n := l) (by omega); unfold mCell; rw [e]; exact fun q => ‹¬ _› ((zin_w hzl.1 (by omega)).mpr q.2))]; rfl) rfl
    · refine zn_iconstN (pc := 23) 1 rfl rfl ?_
      refine zn_goto (pc := 24) (tgt := 28) rfl rfl ?_
      exact zx_z (pc := 28) rfl rfl (by decide) (by rw [zb_t (by have e := nI_clamp (n := l) (by omega); unfold mCell; rw [e]; exact ⟨(zin_nI (by omega)).mpr hl, (zin_w hzl.1 (by omega)).mp ‹_›⟩)]; rfl) rfl
theorem zn_top {I : zI} {pc : Nat} {L : zL} {st : List Value} {mc ms : Nat} {Q : zR → zH → Prop} {v v' : Value} (e : v = v') (K : Zn g I pc L (v' :: st) hh mc ms Q) : Zn g I pc L (v :: st) hh mc ms Q := by rw [e]; exact K
theorem dm_dec (x : Int32) : x + Int32.ofInt (-1) = x - 1 := by
  rw [Int32.sub_eq_add_neg]; rfl
/-- counting down: the counter is m - 1 -/
theorem dm_lt {m l : Nat} (hm : m < 2 ^ 30) (hl : l < 2 ^ 30) (c : nI m - 1 < nI l) : m ≤ l := by
  cases m with
  | zero => omega
  | succ k =>
    rw [nI_pred] at c
    have := (nI_ltI (show k < 2 ^ 31 by omega) (show l < 2 ^ 31 by omega)).mp c
    omega
theorem dm_ge {m l : Nat} (hm : m < 2 ^ 30) (hl : l < 2 ^ 30) (c : ¬ nI m - 1 < nI l) : ∃ k, m = k + 1 ∧ l ≤ k := by
  cases m with
  | zero => exact absurd (show nI 0 - 1 < nI l by
      rw [Int32.lt_iff_toInt_lt, nI_toInt (by omega), show (nI 0 - 1).toInt = -1 by decide +kernel]; omega) c
  | succ k =>
    rw [nI_pred] at c
    refine ⟨k, rfl, ?_⟩
    rcases Nat.lt_or_ge k l with q | q
    · exact absurd ((nI_ltI (by omega) (by omega)).mpr q) c
    · exact q
/-- cell (t, u) becomes cell (l, c), n of its signs -/
def mcpc (z : Nat → Nat) (t u l c n : Nat) : Nat → Nat := fun j => if j = 25 + 8 * t + u then z (25 + 8 * l + c) else if 217 + 16 * (8 * t + u) ≤ j ∧ j < 217 + 16 * (8 * t + u) + n then z (217 + 16 * (8 * l + c) + (j - (217 + 16 * (8 * t + u)))) else z j
/-- line t becomes line l, n of its cells -/
def mcpl (z : Nat → Nat) (t l n : Nat) : Nat → Nat := fun j => if j = 1 + t then z (1 + l) else if 25 + 8 * t ≤ j ∧ j < 25 + 8 * t + n then z (25 + 8 * l + (j - (25 + 8 * t))) else if 217 + 128 * t ≤ j ∧ j < 217 + 128 * t + 16 * n then z (217 + 128 * l + (j - (217 + 128 * t))) else z j
/-- the lines from m on go one further (there are n) -/
def mshf (z : Nat → Nat) (n m : Nat) : Nat → Nat := fun j => if 1 + m < j ∧ j ≤ 1 + n then z (j - 1) else if 25 + 8 * (m + 1) ≤ j ∧ j < 25 + 8 * (n + 1) then z (j - 8) else if 217 + 128 * (m + 1) ≤ j ∧ j < 217 + 128 * (n + 1) then z (j - 128) else z j
def mopl (z : Nat → Nat) (l : Nat) : Nat → Nat := va_up (va_up (va_up (mshf z (z 0) l) 0 (z 0 + 1)) (1 + l) 1) (25 + 8 * l + 0) 0
/-- the lines behind l come one nearer, up to k -/
def mbck (z : Nat → Nat) (l k : Nat) : Nat → Nat := fun j => if 1 + l ≤ j ∧ j < 1 + k then z (j + 1) else if 25 + 8 * l ≤ j ∧ j < 25 + 8 * k then z (j + 8) else if 217 + 128 * l ≤ j ∧ j < 217 + 128 * k then z (j + 128) else z j
def mcll (z : Nat → Nat) (l : Nat) : Nat → Nat := va_up (mbck z l (z 0 - 1)) 0 (z 0 - 1)
/-- the cells of line l from m on go one further (there are n) -/
def mshc (z : Nat → Nat) (l n m : Nat) : Nat → Nat := fun j => if 25 + 8 * l + m < j ∧ j ≤ 25 + 8 * l + n then z (j - 1) else if 217 + 16 * (8 * l + m + 1) ≤ j ∧ j < 217 + 16 * (8 * l + n + 1) then z (j - 16) else z j
def mopc (z : Nat → Nat) (l c : Nat) : Nat → Nat := va_up (va_up (mshc z l (z (1 + l)) c) (1 + l) (z (1 + l) + 1)) (25 + 8 * l + c) 0
/-- the cells of line l behind c come one nearer, up to k -/
def mbcc (z : Nat → Nat) (l c k : Nat) : Nat → Nat := fun j => if 25 + 8 * l + c ≤ j ∧ j < 25 + 8 * l + k then z (j + 1) else if 217 + 16 * (8 * l + c) ≤ j ∧ j < 217 + 16 * (8 * l + k) then z (j + 16) else z j
def mclc (z : Nat → Nat) (l c : Nat) : Nat → Nat := va_up (mbcc z l c (z (1 + l) - 1)) (1 + l) (z (1 + l) - 1)
/-- n signs of cell (l, c), from f on, behind what cell (t, u) has -/
def mtail (z : Nat → Nat) (l c f t u n : Nat) : Nat → Nat := fun j => if 217 + 16 * (8 * t + u) + z (25 + 8 * t + u) ≤ j ∧ j < 217 + 16 * (8 * t + u) + z (25 + 8 * t + u) + n then z (217 + 16 * (8 * l + c) + f + (j - (217 + 16 * (8 * t + u) + z (25 + 8 * t + u)))) else z j
def mgt (z : Nat → Nat) (l c f t u : Nat) : Nat → Nat := va_up (va_up (mtail z l c f t u (z (25 + 8 * l + c) - f)) (25 + 8 * t + u) (z (25 + 8 * t + u) + (z (25 + 8 * l + c) - f))) (25 + 8 * l + c) f
theorem m_copyCell_l {t u l c : Nat} (ht : t < 24) (hu : u < 8) (hl : l < 24) (hc : c < 8) (hne : 8 * t + u ≠ 8 * l + c) : ∀ (n : Nat) (k : Nat), k + n = 16 → Zn g zX10_copyCell 16 [some (.ref 50), some (.int (nI t)), some (.int (nI u)), some (.int (nI l)), some (.int (nI c)), some (.int (nI k))] [] (mhp h F S (mcpc z t u l c k) A X) 0 0 (fun r' h' => r' = .inl none ∧ h' = (mhp h F S (mcpc z t u l c 16) A X)) := by
  intro n
  induction n with
  | zero =>
    intro k hn0
    refine zn_iload (pc := 16) rfl rfl ?_
    refine zn_bipushN (pc := 18) 16 rfl rfl ?_
    refine zn_icmp_geN (pc := 20) (tgt := 50) (x := k) (y := 16) rfl rfl (by omega) (by omega) (fun c1 => ?_) (fun c1 => ?_)
    · obtain rfl : k = 16 := by omega
      exact zx_v (pc := 50) rfl rfl rfl rfl
    · refine zn_aload_n (pc := 23) rfl rfl ?_
      refine zn_get (pc := 24) (v := .ref 51) rfl rfl rfl ?_
      refine zn_iload_n (pc := 27) rfl rfl ?_
      refine zn_iload_n (pc := 28) rfl rfl ?_
      refine zn_iload (pc := 29) rfl rfl ?_
      refine zn_callSx (pc := 31) (J := zX10_place) (as := [.int (nI t), .int (nI u), .int (nI k)]) (rest := [.ref 51]) rfl (by decide) rfl rfl rfl rfl (Nat.le_of_ble_eq_true rfl) (Nat.le_of_ble_eq_true rfl) (Nat.le_of_ble_eq_true rfl) (Nat.le_of_ble_eq_true rfl) (m_place t u k) ?_
      refine zn_aload_n (pc := 34) rfl rfl ?_
      refine zn_iload_n (pc := 35) rfl rfl ?_
      refine zn_iload (pc := 36) rfl rfl ?_
      refine zn_iload (pc := 38) rfl rfl ?_
      refine zn_callVx (pc := 40) (J := zX10_signOf) (o := 50) (as := [.int (nI l), .int (nI c), .int (nI k)]) (rest := [.int (nI (217 + 16 * (8 * t + u) + k)), .ref 51]) rfl rfl rfl rfl rfl rfl rfl rfl (Nat.le_of_ble_eq_true rfl) (Nat.le_of_ble_eq_true rfl) (Nat.le_of_ble_eq_true rfl) (Nat.le_of_ble_eq_true rfl) (m_signOf (l := l) (c := c) (k := k) (by omega) (by omega) (by omega)) ?_
      refine zm_stz (pc := 43) (j := (217 + 16 * (8 * t + u) + k)) (v := ((mcpc z t u l c k) (217 + 16 * (8 * l + c) + k))) rfl (by omega) ?_
      refine zn_iincN (pc := 44) (L' := [some (.ref 50), some (.int (nI t)), some (.int (nI u)), some (.int (nI l)), some (.int (nI c)), some (.int (nI (k + 1)))]) 1 rfl rfl rfl (by decide) rfl ?_
      refine zn_goto (pc := 47) (tgt := 16) rfl rfl ?_
      exfalso; omega
  | succ n ih =>
    intro k hn0
    refine zn_iload (pc := 16) rfl rfl ?_
    refine zn_bipushN (pc := 18) 16 rfl rfl ?_
    refine zn_icmp_geN (pc := 20) (tgt := 50) (x := k) (y := 16) rfl rfl (by omega) (by omega) (fun c1 => ?_) (fun c1 => ?_)
    · obtain rfl : k = 16 := by omega
      exact zx_v (pc := 50) rfl rfl rfl rfl
    · refine zn_aload_n (pc := 23) rfl rfl ?_
      refine zn_get (pc := 24) (v := .ref 51) rfl rfl rfl ?_
      refine zn_iload_n (pc := 27) rfl rfl ?_
      refine zn_iload_n (pc := 28) rfl rfl ?_
      refine zn_iload (pc := 29) rfl rfl ?_
      refine zn_callSx (pc := 31) (J := zX10_place) (as := [.int (nI t), .int (nI u), .int (nI k)]) (rest := [.ref 51]) rfl (by decide) rfl rfl rfl rfl (Nat.le_of_ble_eq_true rfl) (Nat.le_of_ble_eq_true rfl) (Nat.le_of_ble_eq_true rfl) (Nat.le_of_ble_eq_true rfl) (m_place t u k) ?_
      refine zn_aload_n (pc := 34) rfl rfl ?_
      refine zn_iload_n (pc := 35) rfl rfl ?_
      refine zn_iload (pc := 36) rfl rfl ?_
      refine zn_iload (pc := 38) rfl rfl ?_
      refine zn_callVx (pc := 40) (J := zX10_signOf) (o := 50) (as := [.int (nI l), .int (nI c), .int (nI k)]) (rest := [.int (nI (217 + 16 * (8 * t + u) + k)), .ref 51]) rfl rfl rfl rfl rfl rfl rfl rfl (Nat.le_of_ble_eq_true rfl) (Nat.le_of_ble_eq_true rfl) (Nat.le_of_ble_eq_true rfl) (Nat.le_of_ble_eq_true rfl) (m_signOf (l := l) (c := c) (k := k) (by omega) (by omega) (by omega)) ?_
      refine zm_stz (pc := 43) (j := (217 + 16 * (8 * t + u) + k)) (v := ((mcpc z t u l c k) (217 + 16 * (8 * l + c) + k))) rfl (by omega) ?_
      refine zn_iincN (pc := 44) (L' := [some (.ref 50), some (.int (nI t)), some (.int (nI u)), some (.int (nI l)), some (.int (nI c)), some (.int (nI (k + 1)))]) 1 rfl rfl rfl (by decide) rfl ?_
      refine zn_goto (pc := 47) (tgt := 16) rfl rfl ?_
      refine zn_heq (h' := mhp h F S (mcpc z t u l c (k + 1)) A X) (congrArg (fun w => mhp h F S w A X) ?_) (ih (k + 1) (by omega))
      · funext j
        simp only [va_up, mcpc]
        repeat' split
        all_goals first | omega | exact congrArg z (by omega)
theorem m_copyCell  {t u l c : Nat} (ht : t < 24) (hu : u < 8) (hl : l < 24) (hc : c < 8) (hne : 8 * t + u ≠ 8 * l + c) : Zx g zX10_copyCell [.ref 50, .int (nI t), .int (nI u), .int (nI l), .int (nI c)] (mhp h F S z A X) none (mhp h F S (mcpc z t u l c 16) A X) := by
  show Zn g zX10_copyCell 0 [some (.ref 50), some (.int (nI t)), some (.int (nI u)), some (.int (nI l)), some (.int (nI c)), none] [] (mhp h F S z A X) 0 0 _
  refine zn_aload_n (pc := 0) rfl rfl ?_
  refine zn_iload_n (pc := 1) rfl rfl ?_
  refine zn_iload_n (pc := 2) rfl rfl ?_
  refine zn_aload_n (pc := 3) rfl rfl ?_
  refine zn_iload_n (pc := 4) rfl rfl ?_
  refine zn_iload (pc := 5) rfl rfl ?_
  refine zn_callVx (pc := 7) (J := zX10_lengthOf) (o := 50) (as := [.int (nI l), .int (nI c)]) (rest := [.int (nI u), .int (nI t), .ref 50]) rfl rfl rfl rfl rfl rfl rfl rfl (Nat.le_of_ble_eq_true rfl) (Nat.le_of_ble_eq_true rfl) (Nat.le_of_ble_eq_true rfl) (Nat.le_of_ble_eq_true rfl) (m_lengthOf (l := l) (c := c) (by omega) (by omega)) ?_
  refine zn_callVx (pc := 10) (J := zX10_setLength) (o := 50) (as := [.int (nI t), .int (nI u), .int (nI (z (25 + 8 * l + c)))]) (rest := []) rfl rfl rfl rfl rfl rfl rfl rfl (Nat.le_of_ble_eq_true rfl) (Nat.le_of_ble_eq_true rfl) (Nat.le_of_ble_eq_true rfl) (Nat.le_of_ble_eq_true rfl) (m_setLength (l := t) (c := u) (n := (z (25 + 8 * l + c))) (by omega) (by omega)) ?_
  refine zn_iconstN (pc := 13) 0 rfl rfl ?_
  refine zn_istore (pc := 14) (L' := [some (.ref 50), some (.int (nI t)), some (.int (nI u)), some (.int (nI l)), some (.int (nI c)), some (.int (nI 0))]) rfl (by decide) rfl ?_
  refine zn_heq (h' := mhp h F S (mcpc z t u l c 0) A X) (congrArg (fun w => mhp h F S w A X) ?_) (m_copyCell_l ht hu hl hc hne 16 0 (by omega))
  · funext j
    simp only [va_up, mcpc]
    repeat' split
    all_goals first | omega | exact congrArg z (by omega)
theorem m_copyLine_l {t l : Nat} (ht : t < 24) (hl : l < 24) (hne : t ≠ l) : ∀ (n : Nat) (k : Nat), k + n = 8 → Zn g zX10_copyLine 15 [some (.ref 50), some (.int (nI t)), some (.int (nI l)), some (.int (nI k))] [] (mhp h F S (mcpl z t l k) A X) 0 0 (fun r' h' => r' = .inl none ∧ h' = (mhp h F S (mcpl z t l 8) A X)) := by
  intro n
  induction n with
  | zero =>
    intro k hn0
    refine zn_iload_n (pc := 15) rfl rfl ?_
    refine zn_bipushN (pc := 16) 8 rfl rfl ?_
    refine zn_icmp_geN (pc := 18) (tgt := 35) (x := k) (y := 8) rfl rfl (by omega) (by omega) (fun c1 => ?_) (fun c1 => ?_)
    · obtain rfl : k = 8 := by omega
      exact zx_v (pc := 35) rfl rfl rfl rfl
    · refine zn_aload_n (pc := 21) rfl rfl ?_
      refine zn_iload_n (pc := 22) rfl rfl ?_
      refine zn_iload_n (pc := 23) rfl rfl ?_
      refine zn_iload_n (pc := 24) rfl rfl ?_
      refine zn_iload_n (pc := 25) rfl rfl ?_
      refine zn_callVx (pc := 26) (J := zX10_copyCell) (o := 50) (as := [.int (nI t), .int (nI k), .int (nI l), .int (nI k)]) (rest := []) rfl rfl rfl rfl rfl rfl rfl rfl (Nat.le_of_ble_eq_true rfl) (Nat.le_of_ble_eq_true rfl) (Nat.le_of_ble_eq_true rfl) (Nat.le_of_ble_eq_true rfl) (m_copyCell (t := t) (u := k) (l := l) (c := k) (by omega) (by omega) (by omega) (by omega) (by omega)) ?_
      refine zn_iincN (pc := 29) (L' := [some (.ref 50), some (.int (nI t)), some (.int (nI l)), some (.int (nI (k + 1)))]) 1 rfl rfl rfl (by decide) rfl ?_
      refine zn_goto (pc := 32) (tgt := 15) rfl rfl ?_
      exfalso; omega
  | succ n ih =>
    intro k hn0
    refine zn_iload_n (pc := 15) rfl rfl ?_
    refine zn_bipushN (pc := 16) 8 rfl rfl ?_
    refine zn_icmp_geN (pc := 18) (tgt := 35) (x := k) (y := 8) rfl rfl (by omega) (by omega) (fun c1 => ?_) (fun c1 => ?_)
    · obtain rfl : k = 8 := by omega
      exact zx_v (pc := 35) rfl rfl rfl rfl
    · refine zn_aload_n (pc := 21) rfl rfl ?_
      refine zn_iload_n (pc := 22) rfl rfl ?_
      refine zn_iload_n (pc := 23) rfl rfl ?_
      refine zn_iload_n (pc := 24) rfl rfl ?_
      refine zn_iload_n (pc := 25) rfl rfl ?_
      refine zn_callVx (pc := 26) (J := zX10_copyCell) (o := 50) (as := [.int (nI t), .int (nI k), .int (nI l), .int (nI k)]) (rest := []) rfl rfl rfl rfl rfl rfl rfl rfl (Nat.le_of_ble_eq_true rfl) (Nat.le_of_ble_eq_true rfl) (Nat.le_of_ble_eq_true rfl) (Nat.le_of_ble_eq_true rfl) (m_copyCell (t := t) (u := k) (l := l) (c := k) (by omega) (by omega) (by omega) (by omega) (by omega)) ?_
      refine zn_iincN (pc := 29) (L' := [some (.ref 50), some (.int (nI t)), some (.int (nI l)), some (.int (nI (k + 1)))]) 1 rfl rfl rfl (by decide) rfl ?_
      refine zn_goto (pc := 32) (tgt := 15) rfl rfl ?_
      refine zn_heq (h' := mhp h F S (mcpl z t l (k + 1)) A X) (congrArg (fun w => mhp h F S w A X) ?_) (ih (k + 1) (by omega))
      · funext j
        simp only [va_up, mcpl, mcpc]
        repeat' split
        all_goals first | omega | exact congrArg z (by omega)
theorem m_copyLine  {t l : Nat} (ht : t < 24) (hl : l < 24) (hne : t ≠ l) : Zx g zX10_copyLine [.ref 50, .int (nI t), .int (nI l)] (mhp h F S z A X) none (mhp h F S (mcpl z t l 8) A X) := by
  show Zn g zX10_copyLine 0 [some (.ref 50), some (.int (nI t)), some (.int (nI l)), none] [] (mhp h F S z A X) 0 0 _
  refine zn_aload_n (pc := 0) rfl rfl ?_
  refine zn_get (pc := 1) (v := .ref 51) rfl rfl rfl ?_
  refine zn_iconstN (pc := 4) 1 rfl rfl ?_
  refine zn_iload_n (pc := 5) rfl rfl ?_
  refine zn_iaddN (pc := 6) (x := 1) (y := t) rfl ?_
  refine zn_aload_n (pc := 7) rfl rfl ?_
  refine zn_iload_n (pc := 8) rfl rfl ?_
  refine zn_callVx (pc := 9) (J := zX10_cells) (o := 50) (as := [.int (nI l)]) (rest := [.int (nI (1 + t)), .ref 51]) rfl rfl rfl rfl rfl rfl rfl rfl (Nat.le_of_ble_eq_true rfl) (Nat.le_of_ble_eq_true rfl) (Nat.le_of_ble_eq_true rfl) (Nat.le_of_ble_eq_true rfl) (m_cells (l := l) (by omega)) ?_
  refine zm_stz (pc := 12) (j := (1 + t)) (v := (z (1 + l))) rfl (by omega) ?_
  refine zn_iconstN (pc := 13) 0 rfl rfl ?_
  refine zn_istore_n (pc := 14) (L' := [some (.ref 50), some (.int (nI t)), some (.int (nI l)), some (.int (nI 0))]) rfl (by decide) rfl ?_
  refine zn_heq (h' := mhp h F S (mcpl z t l 0) A X) (congrArg (fun w => mhp h F S w A X) ?_) (m_copyLine_l ht hl hne 8 0 (by omega))
  · funext j
    simp only [va_up, mcpl]
    repeat' split
    all_goals first | omega | exact congrArg z (by omega)
theorem m_openLine_l {l : Nat} (h0 : 0 ≤ z 0) (h1 : z 0 < 24) (hl : l ≤ z 0) : ∀ (n : Nat) (m : Nat), m = l + n → m ≤ z 0 → Zn g zX10_openLine 9 [some (.ref 50), some (.int (nI l)), some (.int (nI m - 1))] [] (mhp h F S (mshf z (z 0) m) A X) 0 0 (fun r' h' => r' = .inl none ∧ h' = (mhp h F S (mopl z l) A X)) := by
  intro n
  induction n with
  | zero =>
    intro m hn0 hn1
    refine zn_iload_n (pc := 9) rfl rfl ?_
    refine zn_iload_n (pc := 10) rfl rfl ?_
    refine zn_icmp_lt (pc := 11) (tgt := 28) (x := (nI m - 1)) (y := (nI l)) rfl rfl (fun c1 => ?_) (fun c1 => ?_)
    · have hm9 := dm_lt (by omega) (by omega) c1
      refine zn_aload_n (pc := 28) rfl rfl ?_
      refine zn_get (pc := 29) (v := .ref 51) rfl rfl rfl ?_
      refine zn_iconstN (pc := 32) 0 rfl rfl ?_
      refine zn_dup2 (pc := 33) rfl rfl rfl ?_
      refine zn_naLd (pc := 34) (o := 51) (n := 3289) (Z := (mshf z (z 0) m)) (j := 0) rfl rfl (by omega) (Nat.le_of_ble_eq_true rfl) ?_
      refine zn_iconstN (pc := 35) 1 rfl rfl ?_
      refine zn_iaddN (pc := 36) (x := ((mshf z (z 0) m) 0)) (y := 1) rfl ?_
      refine zm_stz (pc := 37) (j := 0) (v := (((mshf z (z 0) m) 0) + 1)) rfl (by omega) ?_
      refine zn_aload_n (pc := 38) rfl rfl ?_
      refine zn_get (pc := 39) (v := .ref 51) rfl rfl rfl ?_
      refine zn_iconstN (pc := 42) 1 rfl rfl ?_
      refine zn_iload_n (pc := 43) rfl rfl ?_
      refine zn_iaddN (pc := 44) (x := 1) (y := l) rfl ?_
      refine zn_iconstN (pc := 45) 1 rfl rfl ?_
      refine zm_stz (pc := 46) (j := (1 + l)) (v := 1) rfl (by omega) ?_
      refine zn_aload_n (pc := 47) rfl rfl ?_
      refine zn_iload_n (pc := 48) rfl rfl ?_
      refine zn_iconstN (pc := 49) 0 rfl rfl ?_
      refine zn_iconstN (pc := 50) 0 rfl rfl ?_
      refine zn_callVx (pc := 51) (J := zX10_setLength) (o := 50) (as := [.int (nI l), .int (nI 0), .int (nI 0)]) (rest := []) rfl rfl rfl rfl rfl rfl rfl rfl (Nat.le_of_ble_eq_true rfl) (Nat.le_of_ble_eq_true rfl) (Nat.le_of_ble_eq_true rfl) (Nat.le_of_ble_eq_true rfl) (m_setLength (l := l) (c := 0) (n := 0) (by omega) (by omega)) ?_
      obtain rfl : m = l := by omega
      exact zx_v (pc := 54) rfl rfl rfl (congrArg (fun w => mhp h F S w A X) (by unfold mopl; rw [show mshf z (z 0) m 0 = z 0 by simp [mshf]]))
    · obtain ⟨k, rfl, hk9⟩ := dm_ge (by omega) (by omega) c1
      refine zn_sub (L' := [some (.ref 50), some (.int (nI l)), some (.int (nI k))]) ?_ ?_
      · exact ⟨rfl, rfl, by rw [nI_pred], trivial⟩
      refine zn_aload_n (pc := 14) rfl rfl ?_
      refine zn_iload_n (pc := 15) rfl rfl ?_
      refine zn_iconstN (pc := 16) 1 rfl rfl ?_
      refine zn_iaddN (pc := 17) (x := k) (y := 1) rfl ?_
      refine zn_iload_n (pc := 18) rfl rfl ?_
      refine zn_callVx (pc := 19) (J := zX10_copyLine) (o := 50) (as := [.int (nI (k + 1)), .int (nI k)]) (rest := []) rfl rfl rfl rfl rfl rfl rfl rfl (Nat.le_of_ble_eq_true rfl) (Nat.le_of_ble_eq_true rfl) (Nat.le_of_ble_eq_true rfl) (Nat.le_of_ble_eq_true rfl) (m_copyLine (t := (k + 1)) (l := k) (by omega) (by omega) (by omega)) ?_
      refine zn_iinc (pc := 22) (L' := [some (.ref 50), some (.int (nI l)), some (.int (nI k - 1))]) (v := nI k - 1) rfl rfl (dm_dec _) (by decide) rfl ?_
      refine zn_goto (pc := 25) (tgt := 9) rfl rfl ?_
      exfalso; omega
  | succ n ih =>
    intro m hn0 hn1
    refine zn_iload_n (pc := 9) rfl rfl ?_
    refine zn_iload_n (pc := 10) rfl rfl ?_
    refine zn_icmp_lt (pc := 11) (tgt := 28) (x := (nI m - 1)) (y := (nI l)) rfl rfl (fun c1 => ?_) (fun c1 => ?_)
    · have hm9 := dm_lt (by omega) (by omega) c1
      refine zn_aload_n (pc := 28) rfl rfl ?_
      refine zn_get (pc := 29) (v := .ref 51) rfl rfl rfl ?_
      refine zn_iconstN (pc := 32) 0 rfl rfl ?_
      refine zn_dup2 (pc := 33) rfl rfl rfl ?_
      refine zn_naLd (pc := 34) (o := 51) (n := 3289) (Z := (mshf z (z 0) m)) (j := 0) rfl rfl (by omega) (Nat.le_of_ble_eq_true rfl) ?_
      refine zn_iconstN (pc := 35) 1 rfl rfl ?_
      refine zn_iaddN (pc := 36) (x := ((mshf z (z 0) m) 0)) (y := 1) rfl ?_
      refine zm_stz (pc := 37) (j := 0) (v := (((mshf z (z 0) m) 0) + 1)) rfl (by omega) ?_
      refine zn_aload_n (pc := 38) rfl rfl ?_
      refine zn_get (pc := 39) (v := .ref 51) rfl rfl rfl ?_
      refine zn_iconstN (pc := 42) 1 rfl rfl ?_
      refine zn_iload_n (pc := 43) rfl rfl ?_
      refine zn_iaddN (pc := 44) (x := 1) (y := l) rfl ?_
      refine zn_iconstN (pc := 45) 1 rfl rfl ?_
      refine zm_stz (pc := 46) (j := (1 + l)) (v := 1) rfl (by omega) ?_
      refine zn_aload_n (pc := 47) rfl rfl ?_
      refine zn_iload_n (pc := 48) rfl rfl ?_
      refine zn_iconstN (pc := 49) 0 rfl rfl ?_
      refine zn_iconstN (pc := 50) 0 rfl rfl ?_
      refine zn_callVx (pc := 51) (J := zX10_setLength) (o := 50) (as := [.int (nI l), .int (nI 0), .int (nI 0)]) (rest := []) rfl rfl rfl rfl rfl rfl rfl rfl (Nat.le_of_ble_eq_true rfl) (Nat.le_of_ble_eq_true rfl) (Nat.le_of_ble_eq_true rfl) (Nat.le_of_ble_eq_true rfl) (m_setLength (l := l) (c := 0) (n := 0) (by omega) (by omega)) ?_
      obtain rfl : m = l := by omega
      exact zx_v (pc := 54) rfl rfl rfl (congrArg (fun w => mhp h F S w A X) (by unfold mopl; rw [show mshf z (z 0) m 0 = z 0 by simp [mshf]]))
    · obtain ⟨k, rfl, hk9⟩ := dm_ge (by omega) (by omega) c1
      refine zn_sub (L' := [some (.ref 50), some (.int (nI l)), some (.int (nI k))]) ?_ ?_
      · exact ⟨rfl, rfl, by rw [nI_pred], trivial⟩
      refine zn_aload_n (pc := 14) rfl rfl ?_
      refine zn_iload_n (pc := 15) rfl rfl ?_
      refine zn_iconstN (pc := 16) 1 rfl rfl ?_
      refine zn_iaddN (pc := 17) (x := k) (y := 1) rfl ?_
      refine zn_iload_n (pc := 18) rfl rfl ?_
      refine zn_callVx (pc := 19) (J := zX10_copyLine) (o := 50) (as := [.int (nI (k + 1)), .int (nI k)]) (rest := []) rfl rfl rfl rfl rfl rfl rfl rfl (Nat.le_of_ble_eq_true rfl) (Nat.le_of_ble_eq_true rfl) (Nat.le_of_ble_eq_true rfl) (Nat.le_of_ble_eq_true rfl) (m_copyLine (t := (k + 1)) (l := k) (by omega) (by omega) (by omega)) ?_
      refine zn_iinc (pc := 22) (L' := [some (.ref 50), some (.int (nI l)), some (.int (nI k - 1))]) (v := nI k - 1) rfl rfl (dm_dec _) (by decide) rfl ?_
      refine zn_goto (pc := 25) (tgt := 9) rfl rfl ?_
      refine zn_heq (h' := mhp h F S (mshf z (z 0) k) A X) (congrArg (fun w => mhp h F S w A X) ?_) (ih k (by omega) (by omega))
      · funext j
        simp only [va_up, mshf, mcpl]
        repeat' split
        all_goals first | omega | exact congrArg z (by omega)
theorem m_openLine  {l : Nat} (h0 : 0 ≤ z 0) (h1 : z 0 < 24) (hl : l ≤ z 0) : Zx g zX10_openLine [.ref 50, .int (nI l)] (mhp h F S z A X) none (mhp h F S (mopl z l) A X) := by
  show Zn g zX10_openLine 0 [some (.ref 50), some (.int (nI l)), none] [] (mhp h F S z A X) 0 0 _
  refine zn_aload_n (pc := 0) rfl rfl ?_
  refine zn_get (pc := 1) (v := .ref 51) rfl rfl rfl ?_
  refine zn_iconstN (pc := 4) 0 rfl rfl ?_
  refine zn_naLd (pc := 5) (o := 51) (n := 3289) (Z := z) (j := 0) rfl rfl (by omega) (Nat.le_of_ble_eq_true rfl) ?_
  refine zn_iconstN (pc := 6) 1 rfl rfl ?_
  refine zn_isub (pc := 7) rfl ?_
  refine zn_istore_n (pc := 8) (L' := [some (.ref 50), some (.int (nI l)), some (.int (nI (z 0) - 1))]) rfl (by decide) rfl ?_
  refine zn_heq (h' := mhp h F S (mshf z (z 0) (z 0)) A X) (congrArg (fun w => mhp h F S w A X) ?_) (m_openLine_l h0 h1 hl (z 0 - l) (z 0) (by omega) (by omega))
  · funext j
    simp only [va_up, mshf]
    repeat' split
    all_goals first | omega | exact congrArg z (by omega)
theorem m_closeLine_l {l : Nat} (h0 : 1 ≤ z 0) (h1 : z 0 ≤ 24) (hl : l < z 0) : ∀ (n : Nat) (k : Nat), k + 1 + n = z 0 → l ≤ k → Zn g zX10_closeLine 2 [some (.ref 50), some (.int (nI l)), some (.int (nI k))] [] (mhp h F S (mbck z l k) A X) 0 0 (fun r' h' => r' = .inl none ∧ h' = (mhp h F S (mcll z l) A X)) := by
  intro n
  induction n with
  | zero =>
    intro k hn0 hn1
    refine zn_iload_n (pc := 2) rfl rfl ?_
    refine zn_iconstN (pc := 3) 1 rfl rfl ?_
    refine zn_iaddN (pc := 4) (x := k) (y := 1) rfl ?_
    refine zn_aload_n (pc := 5) rfl rfl ?_
    refine zn_get (pc := 6) (v := .ref 51) rfl rfl rfl ?_
    refine zn_iconstN (pc := 9) 0 rfl rfl ?_
    refine zn_naLd (pc := 10) (o := 51) (n := 3289) (Z := (mbck z l k)) (j := 0) rfl rfl (by omega) (Nat.le_of_ble_eq_true rfl) ?_
    refine zn_top (v' := .int (nI (z 0))) (by rw [show mbck z l k 0 = z 0 by simp [mbck]]) ?_
    refine zn_icmp_geN (pc := 11) (tgt := 28) (x := (k + 1)) (y := (z 0)) rfl rfl (by omega) (by omega) (fun c1 => ?_) (fun c1 => ?_)
    · refine zn_aload_n (pc := 28) rfl rfl ?_
      refine zn_get (pc := 29) (v := .ref 51) rfl rfl rfl ?_
      refine zn_iconstN (pc := 32) 0 rfl rfl ?_
      refine zn_dup2 (pc := 33) rfl rfl rfl ?_
      refine zn_naLd (pc := 34) (o := 51) (n := 3289) (Z := (mbck z l k)) (j := 0) rfl rfl (by omega) (Nat.le_of_ble_eq_true rfl) ?_
      refine zn_top (v' := .int (nI (z 0))) (by rw [show mbck z l k 0 = z 0 by simp [mbck]]) ?_
      refine zn_iconstN (pc := 35) 1 rfl rfl ?_
      refine zn_isubN (pc := 36) (x := (z 0)) (y := 1) rfl (by omega) ?_
      refine zm_stz (pc := 37) (j := 0) (v := ((z 0) - 1)) rfl (by omega) ?_
      obtain rfl : k = z 0 - 1 := by omega
      exact zx_v (pc := 38) rfl rfl rfl rfl
    · refine zn_aload_n (pc := 14) rfl rfl ?_
      refine zn_iload_n (pc := 15) rfl rfl ?_
      refine zn_iload_n (pc := 16) rfl rfl ?_
      refine zn_iconstN (pc := 17) 1 rfl rfl ?_
      refine zn_iaddN (pc := 18) (x := k) (y := 1) rfl ?_
      refine zn_callVx (pc := 19) (J := zX10_copyLine) (o := 50) (as := [.int (nI k), .int (nI (k + 1))]) (rest := []) rfl rfl rfl rfl rfl rfl rfl rfl (Nat.le_of_ble_eq_true rfl) (Nat.le_of_ble_eq_true rfl) (Nat.le_of_ble_eq_true rfl) (Nat.le_of_ble_eq_true rfl) (m_copyLine (t := k) (l := (k + 1)) (by omega) (by omega) (by omega)) ?_
      refine zn_iincN (pc := 22) (L' := [some (.ref 50), some (.int (nI l)), some (.int (nI (k + 1)))]) 1 rfl rfl rfl (by decide) rfl ?_
      refine zn_goto (pc := 25) (tgt := 2) rfl rfl ?_
      exfalso; omega
  | succ n ih =>
    intro k hn0 hn1
    refine zn_iload_n (pc := 2) rfl rfl ?_
    refine zn_iconstN (pc := 3) 1 rfl rfl ?_
    refine zn_iaddN (pc := 4) (x := k) (y := 1) rfl ?_
    refine zn_aload_n (pc := 5) rfl rfl ?_
    refine zn_get (pc := 6) (v := .ref 51) rfl rfl rfl ?_
    refine zn_iconstN (pc := 9) 0 rfl rfl ?_
    refine zn_naLd (pc := 10) (o := 51) (n := 3289) (Z := (mbck z l k)) (j := 0) rfl rfl (by omega) (Nat.le_of_ble_eq_true rfl) ?_
    refine zn_top (v' := .int (nI (z 0))) (by rw [show mbck z l k 0 = z 0 by simp [mbck]]) ?_
    refine zn_icmp_geN (pc := 11) (tgt := 28) (x := (k + 1)) (y := (z 0)) rfl rfl (by omega) (by omega) (fun c1 => ?_) (fun c1 => ?_)
    · refine zn_aload_n (pc := 28) rfl rfl ?_
      refine zn_get (pc := 29) (v := .ref 51) rfl rfl rfl ?_
      refine zn_iconstN (pc := 32) 0 rfl rfl ?_
      refine zn_dup2 (pc := 33) rfl rfl rfl ?_
      refine zn_naLd (pc := 34) (o := 51) (n := 3289) (Z := (mbck z l k)) (j := 0) rfl rfl (by omega) (Nat.le_of_ble_eq_true rfl) ?_
      refine zn_top (v' := .int (nI (z 0))) (by rw [show mbck z l k 0 = z 0 by simp [mbck]]) ?_
      refine zn_iconstN (pc := 35) 1 rfl rfl ?_
      refine zn_isubN (pc := 36) (x := (z 0)) (y := 1) rfl (by omega) ?_
      refine zm_stz (pc := 37) (j := 0) (v := ((z 0) - 1)) rfl (by omega) ?_
      obtain rfl : k = z 0 - 1 := by omega
      exact zx_v (pc := 38) rfl rfl rfl rfl
    · refine zn_aload_n (pc := 14) rfl rfl ?_
      refine zn_iload_n (pc := 15) rfl rfl ?_
      refine zn_iload_n (pc := 16) rfl rfl ?_
      refine zn_iconstN (pc := 17) 1 rfl rfl ?_
      refine zn_iaddN (pc := 18) (x := k) (y := 1) rfl ?_
      refine zn_callVx (pc := 19) (J := zX10_copyLine) (o := 50) (as := [.int (nI k), .int (nI (k + 1))]) (rest := []) rfl rfl rfl rfl rfl rfl rfl rfl (Nat.le_of_ble_eq_true rfl) (Nat.le_of_ble_eq_true rfl) (Nat.le_of_ble_eq_true rfl) (Nat.le_of_ble_eq_true rfl) (m_copyLine (t := k) (l := (k + 1)) (by omega) (by omega) (by omega)) ?_
      refine zn_iincN (pc := 22) (L' := [some (.ref 50), some (.int (nI l)), some (.int (nI (k + 1)))]) 1 rfl rfl rfl (by decide) rfl ?_
      refine zn_goto (pc := 25) (tgt := 2) rfl rfl ?_
      refine zn_heq (h' := mhp h F S (mbck z l (k + 1)) A X) (congrArg (fun w => mhp h F S w A X) ?_) (ih (k + 1) (by omega) (by omega))
      · funext j
        simp only [va_up, mbck, mcpl]
        repeat' split
        all_goals first | omega | exact congrArg z (by omega)
theorem m_closeLine  {l : Nat} (h0 : 1 ≤ z 0) (h1 : z 0 ≤ 24) (hl : l < z 0) : Zx g zX10_closeLine [.ref 50, .int (nI l)] (mhp h F S z A X) none (mhp h F S (mcll z l) A X) := by
  show Zn g zX10_closeLine 0 [some (.ref 50), some (.int (nI l)), none] [] (mhp h F S z A X) 0 0 _
  refine zn_iload_n (pc := 0) rfl rfl ?_
  refine zn_istore_n (pc := 1) (L' := [some (.ref 50), some (.int (nI l)), some (.int (nI l))]) rfl (by decide) rfl ?_
  refine zn_heq (h' := mhp h F S (mbck z l l) A X) (congrArg (fun w => mhp h F S w A X) ?_) (m_closeLine_l h0 h1 hl (z 0 - 1 - l) l (by omega) (by omega))
  · funext j
    simp only [va_up, mbck]
    repeat' split
    all_goals first | omega | exact congrArg z (by omega)
theorem m_openCell_l {l c : Nat} (hl : l < 24) (h1 : z (1 + l) < 8) (hc : c ≤ z (1 + l)) : ∀ (n : Nat) (m : Nat), m = c + n → m ≤ z (1 + l) → Zn g zX10_openCell 8 [some (.ref 50), some (.int (nI l)), some (.int (nI c)), some (.int (nI m - 1))] [] (mhp h F S (mshc z l (z (1 + l)) m) A X) 0 0 (fun r' h' => r' = .inl none ∧ h' = (mhp h F S (mopc z l c) A X)) := by
  intro n
  induction n with
  | zero =>
    intro m hn0 hn1
    refine zn_iload_n (pc := 8) rfl rfl ?_
    refine zn_iload_n (pc := 9) rfl rfl ?_
    refine zn_icmp_lt (pc := 10) (tgt := 29) (x := (nI m - 1)) (y := (nI c)) rfl rfl (fun c1 => ?_) (fun c1 => ?_)
    · have hm9 := dm_lt (by omega) (by omega) c1
      refine zn_aload_n (pc := 29) rfl rfl ?_
      refine zn_get (pc := 30) (v := .ref 51) rfl rfl rfl ?_
      refine zn_iconstN (pc := 33) 1 rfl rfl ?_
      refine zn_iload_n (pc := 34) rfl rfl ?_
      refine zn_iaddN (pc := 35) (x := 1) (y := l) rfl ?_
      refine zn_dup2 (pc := 36) rfl rfl rfl ?_
      refine zn_naLd (pc := 37) (o := 51) (n := 3289) (Z := (mshc z l (z (1 + l)) m)) (j := (1 + l)) rfl rfl (by omega) (Nat.le_of_ble_eq_true rfl) ?_
      refine zn_top (v' := .int (nI (z (1 + l)))) (by rw [show mshc z l (z (1 + l)) m (1 + l) = z (1 + l) by unfold mshc; rw [if_neg (by omega), if_neg (by omega)]]) ?_
      refine zn_iconstN (pc := 38) 1 rfl rfl ?_
      refine zn_iaddN (pc := 39) (x := (z (1 + l))) (y := 1) rfl ?_
      refine zm_stz (pc := 40) (j := (1 + l)) (v := ((z (1 + l)) + 1)) rfl (by omega) ?_
      refine zn_aload_n (pc := 41) rfl rfl ?_
      refine zn_iload_n (pc := 42) rfl rfl ?_
      refine zn_iload_n (pc := 43) rfl rfl ?_
      refine zn_iconstN (pc := 44) 0 rfl rfl ?_
      refine zn_callVx (pc := 45) (J := zX10_setLength) (o := 50) (as := [.int (nI l), .int (nI c), .int (nI 0)]) (rest := []) rfl rfl rfl rfl rfl rfl rfl rfl (Nat.le_of_ble_eq_true rfl) (Nat.le_of_ble_eq_true rfl) (Nat.le_of_ble_eq_true rfl) (Nat.le_of_ble_eq_true rfl) (m_setLength (l := l) (c := c) (n := 0) (by omega) (by omega)) ?_
      obtain rfl : m = c := by omega
      exact zx_v (pc := 48) rfl rfl rfl rfl
    · obtain ⟨k, rfl, hk9⟩ := dm_ge (by omega) (by omega) c1
      refine zn_sub (L' := [some (.ref 50), some (.int (nI l)), some (.int (nI c)), some (.int (nI k))]) ?_ ?_
      · exact ⟨rfl, rfl, rfl, by rw [nI_pred], trivial⟩
      refine zn_aload_n (pc := 13) rfl rfl ?_
      refine zn_iload_n (pc := 14) rfl rfl ?_
      refine zn_iload_n (pc := 15) rfl rfl ?_
      refine zn_iconstN (pc := 16) 1 rfl rfl ?_
      refine zn_iaddN (pc := 17) (x := k) (y := 1) rfl ?_
      refine zn_iload_n (pc := 18) rfl rfl ?_
      refine zn_iload_n (pc := 19) rfl rfl ?_
      refine zn_callVx (pc := 20) (J := zX10_copyCell) (o := 50) (as := [.int (nI l), .int (nI (k + 1)), .int (nI l), .int (nI k)]) (rest := []) rfl rfl rfl rfl rfl rfl rfl rfl (Nat.le_of_ble_eq_true rfl) (Nat.le_of_ble_eq_true rfl) (Nat.le_of_ble_eq_true rfl) (Nat.le_of_ble_eq_true rfl) (m_copyCell (t := l) (u := (k + 1)) (l := l) (c := k) (by omega) (by omega) (by omega) (by omega) (by omega)) ?_
      refine zn_iinc (pc := 23) (L' := [some (.ref 50), some (.int (nI l)), some (.int (nI c)), some (.int (nI k - 1))]) (v := nI k - 1) rfl rfl (dm_dec _) (by decide) rfl ?_
      refine zn_goto (pc := 26) (tgt := 8) rfl rfl ?_
      exfalso; omega
  | succ n ih =>
    intro m hn0 hn1
    refine zn_iload_n (pc := 8) rfl rfl ?_
    refine zn_iload_n (pc := 9) rfl rfl ?_
    refine zn_icmp_lt (pc := 10) (tgt := 29) (x := (nI m - 1)) (y := (nI c)) rfl rfl (fun c1 => ?_) (fun c1 => ?_)
    · have hm9 := dm_lt (by omega) (by omega) c1
      refine zn_aload_n (pc := 29) rfl rfl ?_
      refine zn_get (pc := 30) (v := .ref 51) rfl rfl rfl ?_
      refine zn_iconstN (pc := 33) 1 rfl rfl ?_
      refine zn_iload_n (pc := 34) rfl rfl ?_
      refine zn_iaddN (pc := 35) (x := 1) (y := l) rfl ?_
      refine zn_dup2 (pc := 36) rfl rfl rfl ?_
      refine zn_naLd (pc := 37) (o := 51) (n := 3289) (Z := (mshc z l (z (1 + l)) m)) (j := (1 + l)) rfl rfl (by omega) (Nat.le_of_ble_eq_true rfl) ?_
      refine zn_top (v' := .int (nI (z (1 + l)))) (by rw [show mshc z l (z (1 + l)) m (1 + l) = z (1 + l) by unfold mshc; rw [if_neg (by omega), if_neg (by omega)]]) ?_
      refine zn_iconstN (pc := 38) 1 rfl rfl ?_
      refine zn_iaddN (pc := 39) (x := (z (1 + l))) (y := 1) rfl ?_
      refine zm_stz (pc := 40) (j := (1 + l)) (v := ((z (1 + l)) + 1)) rfl (by omega) ?_
      refine zn_aload_n (pc := 41) rfl rfl ?_
      refine zn_iload_n (pc := 42) rfl rfl ?_
      refine zn_iload_n (pc := 43) rfl rfl ?_
      refine zn_iconstN (pc := 44) 0 rfl rfl ?_
      refine zn_callVx (pc := 45) (J := zX10_setLength) (o := 50) (as := [.int (nI l), .int (nI c), .int (nI 0)]) (rest := []) rfl rfl rfl rfl rfl rfl rfl rfl (Nat.le_of_ble_eq_true rfl) (Nat.le_of_ble_eq_true rfl) (Nat.le_of_ble_eq_true rfl) (Nat.le_of_ble_eq_true rfl) (m_setLength (l := l) (c := c) (n := 0) (by omega) (by omega)) ?_
      obtain rfl : m = c := by omega
      exact zx_v (pc := 48) rfl rfl rfl rfl
    · obtain ⟨k, rfl, hk9⟩ := dm_ge (by omega) (by omega) c1
      refine zn_sub (L' := [some (.ref 50), some (.int (nI l)), some (.int (nI c)), some (.int (nI k))]) ?_ ?_
      · exact ⟨rfl, rfl, rfl, by rw [nI_pred], trivial⟩
      refine zn_aload_n (pc := 13) rfl rfl ?_
      refine zn_iload_n (pc := 14) rfl rfl ?_
      refine zn_iload_n (pc := 15) rfl rfl ?_
      refine zn_iconstN (pc := 16) 1 rfl rfl ?_
      refine zn_iaddN (pc := 17) (x := k) (y := 1) rfl ?_
      refine zn_iload_n (pc := 18) rfl rfl ?_
      refine zn_iload_n (pc := 19) rfl rfl ?_
      refine zn_callVx (pc := 20) (J := zX10_copyCell) (o := 50) (as := [.int (nI l), .int (nI (k + 1)), .int (nI l), .int (nI k)]) (rest := []) rfl rfl rfl rfl rfl rfl rfl rfl (Nat.le_of_ble_eq_true rfl) (Nat.le_of_ble_eq_true rfl) (Nat.le_of_ble_eq_true rfl) (Nat.le_of_ble_eq_true rfl) (m_copyCell (t := l) (u := (k + 1)) (l := l) (c := k) (by omega) (by omega) (by omega) (by omega) (by omega)) ?_
      refine zn_iinc (pc := 23) (L' := [some (.ref 50), some (.int (nI l)), some (.int (nI c)), some (.int (nI k - 1))]) (v := nI k - 1) rfl rfl (dm_dec _) (by decide) rfl ?_
      refine zn_goto (pc := 26) (tgt := 8) rfl rfl ?_
      refine zn_heq (h' := mhp h F S (mshc z l (z (1 + l)) k) A X) (congrArg (fun w => mhp h F S w A X) ?_) (ih k (by omega) (by omega))
      · funext j
        simp only [va_up, mshc, mcpc]
        repeat' split
        all_goals first | omega | exact congrArg z (by omega)
theorem m_openCell  {l c : Nat} (hl : l < 24) (h1 : z (1 + l) < 8) (hc : c ≤ z (1 + l)) : Zx g zX10_openCell [.ref 50, .int (nI l), .int (nI c)] (mhp h F S z A X) none (mhp h F S (mopc z l c) A X) := by
  show Zn g zX10_openCell 0 [some (.ref 50), some (.int (nI l)), some (.int (nI c)), none] [] (mhp h F S z A X) 0 0 _
  refine zn_aload_n (pc := 0) rfl rfl ?_
  refine zn_iload_n (pc := 1) rfl rfl ?_
  refine zn_callVx (pc := 2) (J := zX10_cells) (o := 50) (as := [.int (nI l)]) (rest := []) rfl rfl rfl rfl rfl rfl rfl rfl (Nat.le_of_ble_eq_true rfl) (Nat.le_of_ble_eq_true rfl) (Nat.le_of_ble_eq_true rfl) (Nat.le_of_ble_eq_true rfl) (m_cells (l := l) (by omega)) ?_
  refine zn_iconstN (pc := 5) 1 rfl rfl ?_
  refine zn_isub (pc := 6) rfl ?_
  refine zn_istore_n (pc := 7) (L' := [some (.ref 50), some (.int (nI l)), some (.int (nI c)), some (.int (nI (z (1 + l)) - 1))]) rfl (by decide) rfl ?_
  refine zn_heq (h' := mhp h F S (mshc z l (z (1 + l)) (z (1 + l))) A X) (congrArg (fun w => mhp h F S w A X) ?_) (m_openCell_l hl h1 hc (z (1 + l) - c) (z (1 + l)) (by omega) (by omega))
  · funext j
    simp only [va_up, mshc]
    repeat' split
    all_goals first | omega | exact congrArg z (by omega)
theorem m_closeCell_l {l c : Nat} (hl : l < 24) (h1 : z (1 + l) ≤ 8) (hc : c < z (1 + l)) : ∀ (n : Nat) (k : Nat), k + 1 + n = z (1 + l) → c ≤ k → Zn g zX10_closeCell 2 [some (.ref 50), some (.int (nI l)), some (.int (nI c)), some (.int (nI k))] [] (mhp h F S (mbcc z l c k) A X) 0 0 (fun r' h' => r' = .inl none ∧ h' = (mhp h F S (mclc z l c) A X)) := by
  intro n
  induction n with
  | zero =>
    intro k hn0 hn1
    refine zn_iload_n (pc := 2) rfl rfl ?_
    refine zn_iconstN (pc := 3) 1 rfl rfl ?_
    refine zn_iaddN (pc := 4) (x := k) (y := 1) rfl ?_
    refine zn_aload_n (pc := 5) rfl rfl ?_
    refine zn_iload_n (pc := 6) rfl rfl ?_
    refine zn_callVx (pc := 7) (J := zX10_cells) (o := 50) (as := [.int (nI l)]) (rest := [.int (nI (k + 1))]) rfl rfl rfl rfl rfl rfl rfl rfl (Nat.le_of_ble_eq_true rfl) (Nat.le_of_ble_eq_true rfl) (Nat.le_of_ble_eq_true rfl) (Nat.le_of_ble_eq_true rfl) (m_cells (l := l) (by omega)) ?_
    refine zn_top (v' := .int (nI (z (1 + l)))) (by rw [show mbcc z l c k (1 + l) = z (1 + l) by unfold mbcc; rw [if_neg (by omega), if_neg (by omega)]]) ?_
    refine zn_icmp_geN (pc := 10) (tgt := 29) (x := (k + 1)) (y := (z (1 + l))) rfl rfl (by omega) (by omega) (fun c1 => ?_) (fun c1 => ?_)
    · refine zn_aload_n (pc := 29) rfl rfl ?_
      refine zn_get (pc := 30) (v := .ref 51) rfl rfl rfl ?_
      refine zn_iconstN (pc := 33) 1 rfl rfl ?_
      refine zn_iload_n (pc := 34) rfl rfl ?_
      refine zn_iaddN (pc := 35) (x := 1) (y := l) rfl ?_
      refine zn_dup2 (pc := 36) rfl rfl rfl ?_
      refine zn_naLd (pc := 37) (o := 51) (n := 3289) (Z := (mbcc z l c k)) (j := (1 + l)) rfl rfl (by omega) (Nat.le_of_ble_eq_true rfl) ?_
      refine zn_top (v' := .int (nI (z (1 + l)))) (by rw [show mbcc z l c k (1 + l) = z (1 + l) by unfold mbcc; rw [if_neg (by omega), if_neg (by omega)]]) ?_
      refine zn_iconstN (pc := 38) 1 rfl rfl ?_
      refine zn_isubN (pc := 39) (x := (z (1 + l))) (y := 1) rfl (by omega) ?_
      refine zm_stz (pc := 40) (j := (1 + l)) (v := ((z (1 + l)) - 1)) rfl (by omega) ?_
      obtain rfl : k = z (1 + l) - 1 := by omega
      exact zx_v (pc := 41) rfl rfl rfl rfl
    · refine zn_aload_n (pc := 13) rfl rfl ?_
      refine zn_iload_n (pc := 14) rfl rfl ?_
      refine zn_iload_n (pc := 15) rfl rfl ?_
      refine zn_iload_n (pc := 16) rfl rfl ?_
      refine zn_iload_n (pc := 17) rfl rfl ?_
      refine zn_iconstN (pc := 18) 1 rfl rfl ?_
      refine zn_iaddN (pc := 19) (x := k) (y := 1) rfl ?_
      refine zn_callVx (pc := 20) (J := zX10_copyCell) (o := 50) (as := [.int (nI l), .int (nI k), .int (nI l), .int (nI (k + 1))]) (rest := []) rfl rfl rfl rfl rfl rfl rfl rfl (Nat.le_of_ble_eq_true rfl) (Nat.le_of_ble_eq_true rfl) (Nat.le_of_ble_eq_true rfl) (Nat.le_of_ble_eq_true rfl) (m_copyCell (t := l) (u := k) (l := l) (c := (k + 1)) (by omega) (by omega) (by omega) (by omega) (by omega)) ?_
      refine zn_iincN (pc := 23) (L' := [some (.ref 50), some (.int (nI l)), some (.int (nI c)), some (.int (nI (k + 1)))]) 1 rfl rfl rfl (by decide) rfl ?_
      refine zn_goto (pc := 26) (tgt := 2) rfl rfl ?_
      exfalso; omega
  | succ n ih =>
    intro k hn0 hn1
    refine zn_iload_n (pc := 2) rfl rfl ?_
    refine zn_iconstN (pc := 3) 1 rfl rfl ?_
    refine zn_iaddN (pc := 4) (x := k) (y := 1) rfl ?_
    refine zn_aload_n (pc := 5) rfl rfl ?_
    refine zn_iload_n (pc := 6) rfl rfl ?_
    refine zn_callVx (pc := 7) (J := zX10_cells) (o := 50) (as := [.int (nI l)]) (rest := [.int (nI (k + 1))]) rfl rfl rfl rfl rfl rfl rfl rfl (Nat.le_of_ble_eq_true rfl) (Nat.le_of_ble_eq_true rfl) (Nat.le_of_ble_eq_true rfl) (Nat.le_of_ble_eq_true rfl) (m_cells (l := l) (by omega)) ?_
    refine zn_top (v' := .int (nI (z (1 + l)))) (by rw [show mbcc z l c k (1 + l) = z (1 + l) by unfold mbcc; rw [if_neg (by omega), if_neg (by omega)]]) ?_
    refine zn_icmp_geN (pc := 10) (tgt := 29) (x := (k + 1)) (y := (z (1 + l))) rfl rfl (by omega) (by omega) (fun c1 => ?_) (fun c1 => ?_)
    · refine zn_aload_n (pc := 29) rfl rfl ?_
      refine zn_get (pc := 30) (v := .ref 51) rfl rfl rfl ?_
      refine zn_iconstN (pc := 33) 1 rfl rfl ?_
      refine zn_iload_n (pc := 34) rfl rfl ?_
      refine zn_iaddN (pc := 35) (x := 1) (y := l) rfl ?_
      refine zn_dup2 (pc := 36) rfl rfl rfl ?_
      refine zn_naLd (pc := 37) (o := 51) (n := 3289) (Z := (mbcc z l c k)) (j := (1 + l)) rfl rfl (by omega) (Nat.le_of_ble_eq_true rfl) ?_
      refine zn_top (v' := .int (nI (z (1 + l)))) (by rw [show mbcc z l c k (1 + l) = z (1 + l) by unfold mbcc; rw [if_neg (by omega), if_neg (by omega)]]) ?_
      refine zn_iconstN (pc := 38) 1 rfl rfl ?_
      refine zn_isubN (pc := 39) (x := (z (1 + l))) (y := 1) rfl (by omega) ?_
      refine zm_stz (pc := 40) (j := (1 + l)) (v := ((z (1 + l)) - 1)) rfl (by omega) ?_
      obtain rfl : k = z (1 + l) - 1 := by omega
      exact zx_v (pc := 41) rfl rfl rfl rfl
    · refine zn_aload_n (pc := 13) rfl rfl ?_
      refine zn_iload_n (pc := 14) rfl rfl ?_
      refine zn_iload_n (pc := 15) rfl rfl ?_
      refine zn_iload_n (pc := 16) rfl rfl ?_
      refine zn_iload_n (pc := 17) rfl rfl ?_
      refine zn_iconstN (pc := 18) 1 rfl rfl ?_
      refine zn_iaddN (pc := 19) (x := k) (y := 1) rfl ?_
      refine zn_callVx (pc := 20) (J := zX10_copyCell) (o := 50) (as := [.int (nI l), .int (nI k), .int (nI l), .int (nI (k + 1))]) (rest := []) rfl rfl rfl rfl rfl rfl rfl rfl (Nat.le_of_ble_eq_true rfl) (Nat.le_of_ble_eq_true rfl) (Nat.le_of_ble_eq_true rfl) (Nat.le_of_ble_eq_true rfl) (m_copyCell (t := l) (u := k) (l := l) (c := (k + 1)) (by omega) (by omega) (by omega) (by omega) (by omega)) ?_
      refine zn_iincN (pc := 23) (L' := [some (.ref 50), some (.int (nI l)), some (.int (nI c)), some (.int (nI (k + 1)))]) 1 rfl rfl rfl (by decide) rfl ?_
      refine zn_goto (pc := 26) (tgt := 2) rfl rfl ?_
      refine zn_heq (h' := mhp h F S (mbcc z l c (k + 1)) A X) (congrArg (fun w => mhp h F S w A X) ?_) (ih (k + 1) (by omega) (by omega))
      · funext j
        simp only [va_up, mbcc, mcpc]
        repeat' split
        all_goals first | omega | exact congrArg z (by omega)
theorem m_closeCell  {l c : Nat} (hl : l < 24) (h1 : z (1 + l) ≤ 8) (hc : c < z (1 + l)) : Zx g zX10_closeCell [.ref 50, .int (nI l), .int (nI c)] (mhp h F S z A X) none (mhp h F S (mclc z l c) A X) := by
  show Zn g zX10_closeCell 0 [some (.ref 50), some (.int (nI l)), some (.int (nI c)), none] [] (mhp h F S z A X) 0 0 _
  refine zn_iload_n (pc := 0) rfl rfl ?_
  refine zn_istore_n (pc := 1) (L' := [some (.ref 50), some (.int (nI l)), some (.int (nI c)), some (.int (nI c))]) rfl (by decide) rfl ?_
  refine zn_heq (h' := mhp h F S (mbcc z l c c) A X) (congrArg (fun w => mhp h F S w A X) ?_) (m_closeCell_l hl h1 hc (z (1 + l) - 1 - c) c (by omega) (by omega))
  · funext j
    simp only [va_up, mbcc]
    repeat' split
    all_goals first | omega | exact congrArg z (by omega)
theorem m_giveTail_l {l c f t u : Nat} (hl : l < 24) (hc : c < 8) (ht : t < 24) (hu : u < 8) (hne : 8 * t + u ≠ 8 * l + c) (hf : f ≤ z (25 + 8 * l + c)) (h16 : z (25 + 8 * l + c) ≤ 16) (hs : z (25 + 8 * t + u) + (z (25 + 8 * l + c) - f) ≤ 16) : ∀ (n : Nat) (d : Nat), f + d + n = z (25 + 8 * l + c) → Zn g zX10_giveTail 13 [some (.ref 50), some (.int (nI l)), some (.int (nI c)), some (.int (nI f)), some (.int (nI t)), some (.int (nI u)), some (.int (nI (z (25 + 8 * t + u) + d))), some (.int (nI (f + d)))] [] (mhp h F S (mtail z l c f t u d) A X) 0 0 (fun r' h' => r' = .inl none ∧ h' = (mhp h F S (mgt z l c f t u) A X)) := by
  intro n
  induction n with
  | zero =>
    intro d hn0
    refine zn_iload (pc := 13) rfl rfl ?_
    refine zn_aload_n (pc := 15) rfl rfl ?_
    refine zn_iload_n (pc := 16) rfl rfl ?_
    refine zn_iload_n (pc := 17) rfl rfl ?_
    refine zn_callVx (pc := 18) (J := zX10_lengthOf) (o := 50) (as := [.int (nI l), .int (nI c)]) (rest := [.int (nI (f + d))]) rfl rfl rfl rfl rfl rfl rfl rfl (Nat.le_of_ble_eq_true rfl) (Nat.le_of_ble_eq_true rfl) (Nat.le_of_ble_eq_true rfl) (Nat.le_of_ble_eq_true rfl) (m_lengthOf (l := l) (c := c) (by omega) (by omega)) ?_
    refine zn_top (v' := .int (nI (z (25 + 8 * l + c)))) (by rw [show mtail z l c f t u d (25 + 8 * l + c) = z (25 + 8 * l + c) by unfold mtail; rw [if_neg (by omega)]]) ?_
    refine zn_icmp_geN (pc := 21) (tgt := 55) (x := (f + d)) (y := (z (25 + 8 * l + c))) rfl rfl (by omega) (by omega) (fun c1 => ?_) (fun c1 => ?_)
    · refine zn_aload_n (pc := 55) rfl rfl ?_
      refine zn_iload (pc := 56) rfl rfl ?_
      refine zn_iload (pc := 58) rfl rfl ?_
      refine zn_iload (pc := 60) rfl rfl ?_
      refine zn_callVx (pc := 62) (J := zX10_setLength) (o := 50) (as := [.int (nI t), .int (nI u), .int (nI (z (25 + 8 * t + u) + d))]) (rest := []) rfl rfl rfl rfl rfl rfl rfl rfl (Nat.le_of_ble_eq_true rfl) (Nat.le_of_ble_eq_true rfl) (Nat.le_of_ble_eq_true rfl) (Nat.le_of_ble_eq_true rfl) (m_setLength (l := t) (c := u) (n := (z (25 + 8 * t + u) + d)) (by omega) (by omega)) ?_
      refine zn_aload_n (pc := 65) rfl rfl ?_
      refine zn_iload_n (pc := 66) rfl rfl ?_
      refine zn_iload_n (pc := 67) rfl rfl ?_
      refine zn_iload_n (pc := 68) rfl rfl ?_
      refine zn_callVx (pc := 69) (J := zX10_setLength) (o := 50) (as := [.int (nI l), .int (nI c), .int (nI f)]) (rest := []) rfl rfl rfl rfl rfl rfl rfl rfl (Nat.le_of_ble_eq_true rfl) (Nat.le_of_ble_eq_true rfl) (Nat.le_of_ble_eq_true rfl) (Nat.le_of_ble_eq_true rfl) (m_setLength (l := l) (c := c) (n := f) (by omega) (by omega)) ?_
      obtain rfl : d = z (25 + 8 * l + c) - f := by omega
      exact zx_v (pc := 72) rfl rfl rfl rfl
    · refine zn_aload_n (pc := 24) rfl rfl ?_
      refine zn_get (pc := 25) (v := .ref 51) rfl rfl rfl ?_
      refine zn_iload (pc := 28) rfl rfl ?_
      refine zn_iload (pc := 30) rfl rfl ?_
      refine zn_iload (pc := 32) rfl rfl ?_
      refine zn_callSx (pc := 34) (J := zX10_place) (as := [.int (nI t), .int (nI u), .int (nI (z (25 + 8 * t + u) + d))]) (rest := [.ref 51]) rfl (by decide) rfl rfl rfl rfl (Nat.le_of_ble_eq_true rfl) (Nat.le_of_ble_eq_true rfl) (Nat.le_of_ble_eq_true rfl) (Nat.le_of_ble_eq_true rfl) (m_place t u (z (25 + 8 * t + u) + d)) ?_
      refine zn_aload_n (pc := 37) rfl rfl ?_
      refine zn_iload_n (pc := 38) rfl rfl ?_
      refine zn_iload_n (pc := 39) rfl rfl ?_
      refine zn_iload (pc := 40) rfl rfl ?_
      refine zn_callVx (pc := 42) (J := zX10_signOf) (o := 50) (as := [.int (nI l), .int (nI c), .int (nI (f + d))]) (rest := [.int (nI (217 + 16 * (8 * t + u) + (z (25 + 8 * t + u) + d))), .ref 51]) rfl rfl rfl rfl rfl rfl rfl rfl (Nat.le_of_ble_eq_true rfl) (Nat.le_of_ble_eq_true rfl) (Nat.le_of_ble_eq_true rfl) (Nat.le_of_ble_eq_true rfl) (m_signOf (l := l) (c := c) (k := (f + d)) (by omega) (by omega) (by omega)) ?_
      refine zm_stz (pc := 45) (j := (217 + 16 * (8 * t + u) + (z (25 + 8 * t + u) + d))) (v := ((mtail z l c f t u d) (217 + 16 * (8 * l + c) + (f + d)))) rfl (by omega) ?_
      refine zn_iincN (pc := 46) (L' := [some (.ref 50), some (.int (nI l)), some (.int (nI c)), some (.int (nI f)), some (.int (nI t)), some (.int (nI u)), some (.int (nI ((z (25 + 8 * t + u) + d) + 1))), some (.int (nI (f + d)))]) 1 rfl rfl rfl (by decide) rfl ?_
      refine zn_iincN (pc := 49) (L' := [some (.ref 50), some (.int (nI l)), some (.int (nI c)), some (.int (nI f)), some (.int (nI t)), some (.int (nI u)), some (.int (nI ((z (25 + 8 * t + u) + d) + 1))), some (.int (nI (f + d + 1)))]) 1 rfl rfl rfl (by decide) rfl ?_
      refine zn_goto (pc := 52) (tgt := 13) rfl rfl ?_
      exfalso; omega
  | succ n ih =>
    intro d hn0
    refine zn_iload (pc := 13) rfl rfl ?_
    refine zn_aload_n (pc := 15) rfl rfl ?_
    refine zn_iload_n (pc := 16) rfl rfl ?_
    refine zn_iload_n (pc := 17) rfl rfl ?_
    refine zn_callVx (pc := 18) (J := zX10_lengthOf) (o := 50) (as := [.int (nI l), .int (nI c)]) (rest := [.int (nI (f + d))]) rfl rfl rfl rfl rfl rfl rfl rfl (Nat.le_of_ble_eq_true rfl) (Nat.le_of_ble_eq_true rfl) (Nat.le_of_ble_eq_true rfl) (Nat.le_of_ble_eq_true rfl) (m_lengthOf (l := l) (c := c) (by omega) (by omega)) ?_
    refine zn_top (v' := .int (nI (z (25 + 8 * l + c)))) (by rw [show mtail z l c f t u d (25 + 8 * l + c) = z (25 + 8 * l + c) by unfold mtail; rw [if_neg (by omega)]]) ?_
    refine zn_icmp_geN (pc := 21) (tgt := 55) (x := (f + d)) (y := (z (25 + 8 * l + c))) rfl rfl (by omega) (by omega) (fun c1 => ?_) (fun c1 => ?_)
    · refine zn_aload_n (pc := 55) rfl rfl ?_
      refine zn_iload (pc := 56) rfl rfl ?_
      refine zn_iload (pc := 58) rfl rfl ?_
      refine zn_iload (pc := 60) rfl rfl ?_
      refine zn_callVx (pc := 62) (J := zX10_setLength) (o := 50) (as := [.int (nI t), .int (nI u), .int (nI (z (25 + 8 * t + u) + d))]) (rest := []) rfl rfl rfl rfl rfl rfl rfl rfl (Nat.le_of_ble_eq_true rfl) (Nat.le_of_ble_eq_true rfl) (Nat.le_of_ble_eq_true rfl) (Nat.le_of_ble_eq_true rfl) (m_setLength (l := t) (c := u) (n := (z (25 + 8 * t + u) + d)) (by omega) (by omega)) ?_
      refine zn_aload_n (pc := 65) rfl rfl ?_
      refine zn_iload_n (pc := 66) rfl rfl ?_
      refine zn_iload_n (pc := 67) rfl rfl ?_
      refine zn_iload_n (pc := 68) rfl rfl ?_
      refine zn_callVx (pc := 69) (J := zX10_setLength) (o := 50) (as := [.int (nI l), .int (nI c), .int (nI f)]) (rest := []) rfl rfl rfl rfl rfl rfl rfl rfl (Nat.le_of_ble_eq_true rfl) (Nat.le_of_ble_eq_true rfl) (Nat.le_of_ble_eq_true rfl) (Nat.le_of_ble_eq_true rfl) (m_setLength (l := l) (c := c) (n := f) (by omega) (by omega)) ?_
      obtain rfl : d = z (25 + 8 * l + c) - f := by omega
      exact zx_v (pc := 72) rfl rfl rfl rfl
    · refine zn_aload_n (pc := 24) rfl rfl ?_
      refine zn_get (pc := 25) (v := .ref 51) rfl rfl rfl ?_
      refine zn_iload (pc := 28) rfl rfl ?_
      refine zn_iload (pc := 30) rfl rfl ?_
      refine zn_iload (pc := 32) rfl rfl ?_
      refine zn_callSx (pc := 34) (J := zX10_place) (as := [.int (nI t), .int (nI u), .int (nI (z (25 + 8 * t + u) + d))]) (rest := [.ref 51]) rfl (by decide) rfl rfl rfl rfl (Nat.le_of_ble_eq_true rfl) (Nat.le_of_ble_eq_true rfl) (Nat.le_of_ble_eq_true rfl) (Nat.le_of_ble_eq_true rfl) (m_place t u (z (25 + 8 * t + u) + d)) ?_
      refine zn_aload_n (pc := 37) rfl rfl ?_
      refine zn_iload_n (pc := 38) rfl rfl ?_
      refine zn_iload_n (pc := 39) rfl rfl ?_
      refine zn_iload (pc := 40) rfl rfl ?_
      refine zn_callVx (pc := 42) (J := zX10_signOf) (o := 50) (as := [.int (nI l), .int (nI c), .int (nI (f + d))]) (rest := [.int (nI (217 + 16 * (8 * t + u) + (z (25 + 8 * t + u) + d))), .ref 51]) rfl rfl rfl rfl rfl rfl rfl rfl (Nat.le_of_ble_eq_true rfl) (Nat.le_of_ble_eq_true rfl) (Nat.le_of_ble_eq_true rfl) (Nat.le_of_ble_eq_true rfl) (m_signOf (l := l) (c := c) (k := (f + d)) (by omega) (by omega) (by omega)) ?_
      refine zm_stz (pc := 45) (j := (217 + 16 * (8 * t + u) + (z (25 + 8 * t + u) + d))) (v := ((mtail z l c f t u d) (217 + 16 * (8 * l + c) + (f + d)))) rfl (by omega) ?_
      refine zn_iincN (pc := 46) (L' := [some (.ref 50), some (.int (nI l)), some (.int (nI c)), some (.int (nI f)), some (.int (nI t)), some (.int (nI u)), some (.int (nI ((z (25 + 8 * t + u) + d) + 1))), some (.int (nI (f + d)))]) 1 rfl rfl rfl (by decide) rfl ?_
      refine zn_iincN (pc := 49) (L' := [some (.ref 50), some (.int (nI l)), some (.int (nI c)), some (.int (nI f)), some (.int (nI t)), some (.int (nI u)), some (.int (nI ((z (25 + 8 * t + u) + d) + 1))), some (.int (nI (f + d + 1)))]) 1 rfl rfl rfl (by decide) rfl ?_
      refine zn_goto (pc := 52) (tgt := 13) rfl rfl ?_
      refine zn_heq (h' := mhp h F S (mtail z l c f t u (d + 1)) A X) (congrArg (fun w => mhp h F S w A X) ?_) (ih (d + 1) (by omega))
      · funext j
        simp only [va_up, mtail]
        repeat' split
        all_goals first | omega | exact congrArg z (by omega)
theorem m_giveTail  {l c f t u : Nat} (hl : l < 24) (hc : c < 8) (ht : t < 24) (hu : u < 8) (hne : 8 * t + u ≠ 8 * l + c) (hf : f ≤ z (25 + 8 * l + c)) (h16 : z (25 + 8 * l + c) ≤ 16) (hs : z (25 + 8 * t + u) + (z (25 + 8 * l + c) - f) ≤ 16) : Zx g zX10_giveTail [.ref 50, .int (nI l), .int (nI c), .int (nI f), .int (nI t), .int (nI u)] (mhp h F S z A X) none (mhp h F S (mgt z l c f t u) A X) := by
  show Zn g zX10_giveTail 0 [some (.ref 50), some (.int (nI l)), some (.int (nI c)), some (.int (nI f)), some (.int (nI t)), some (.int (nI u)), none, none] [] (mhp h F S z A X) 0 0 _
  refine zn_aload_n (pc := 0) rfl rfl ?_
  refine zn_iload (pc := 1) rfl rfl ?_
  refine zn_iload (pc := 3) rfl rfl ?_
  refine zn_callVx (pc := 5) (J := zX10_lengthOf) (o := 50) (as := [.int (nI t), .int (nI u)]) (rest := []) rfl rfl rfl rfl rfl rfl rfl rfl (Nat.le_of_ble_eq_true rfl) (Nat.le_of_ble_eq_true rfl) (Nat.le_of_ble_eq_true rfl) (Nat.le_of_ble_eq_true rfl) (m_lengthOf (l := t) (c := u) (by omega) (by omega)) ?_
  refine zn_istore (pc := 8) (L' := [some (.ref 50), some (.int (nI l)), some (.int (nI c)), some (.int (nI f)), some (.int (nI t)), some (.int (nI u)), some (.int (nI (z (25 + 8 * t + u)))), none]) rfl (by decide) rfl ?_
  refine zn_iload_n (pc := 10) rfl rfl ?_
  refine zn_istore (pc := 11) (L' := [some (.ref 50), some (.int (nI l)), some (.int (nI c)), some (.int (nI f)), some (.int (nI t)), some (.int (nI u)), some (.int (nI (z (25 + 8 * t + u)))), some (.int (nI f))]) rfl (by decide) rfl ?_
  refine zn_heq (h' := mhp h F S (mtail z l c f t u 0) A X) (congrArg (fun w => mhp h F S w A X) ?_) (m_giveTail_l hl hc ht hu hne hf h16 hs (z (25 + 8 * l + c) - f) 0 (by omega))
  · funext j
    simp only [va_up, mtail]
    repeat' split
    all_goals first | omega | exact congrArg z (by omega)
end m1
