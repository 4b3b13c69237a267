section m1
variable {g : zG} {h hh : zH} {F : Nat → Nat} {S : Int64} {z : Nat → Nat} {A : Nat → Nat → Nat} {X : Nat → Int32}
theorem mgt_lo {l c f t u j : Nat} (hj : j < 217) (h1 : j ≠ 25 + 8 * l + c) (h2 : j ≠ 25 + 8 * t + u) : mgt z l c f t u j = z j := by
  unfold mgt mtail
  simp only [va_up]
  rw [if_neg h1, if_neg h2, if_neg (by omega)]
theorem mopl_0 {l : Nat} : mopl z l 0 = z 0 + 1 := by
  unfold mopl mshf
  simp only [va_up]
  rw [if_neg (by omega), if_neg (by omega), if_pos trivial]
theorem mopl_c {l k : Nat} (hk : k < l) : mopl z l (1 + k) = z (1 + k) := by
  unfold mopl mshf
  simp only [va_up]
  rw [if_neg (by omega), if_neg (by omega), if_neg (by omega), if_neg (by omega), if_neg (by omega), if_neg (by omega)]
theorem mopc_c {l c : Nat} : mopc z l c (1 + l) = z (1 + l) + 1 := by
  unfold mopc
  simp only [va_up]
  rw [if_neg (by omega), if_pos trivial]
theorem m_putTab  {l c q : Nat} (hl : l < 24) (h8 : z (1 + l) < 8) (hc : c < z (1 + l)) (hq : q ≤ z (25 + 8 * l + c)) (h16 : z (25 + 8 * l + c) ≤ 16) : Zx g zX10_putTab [.ref 50, .int (nI l), .int (nI c), .int (nI q)] (mhp h F S z A X) (some (.int (nI (z (1 + l) + 1)))) (mhp h F S (mptb z l c q) A X) := by
  have e1 : mopc z l (c + 1) (25 + 8 * l + c) = z (25 + 8 * l + c) := by simp only [va_up, ↓reduceIte, mopc, mshc] <;> (repeat' split) <;> first | omega | exact congrArg z (by omega)
  have e2 : mopc z l (c + 1) (25 + 8 * l + (c + 1)) = 0 := by simp only [va_up, ↓reduceIte, mopc, mshc] <;> (repeat' split) <;> first | omega | exact congrArg z (by omega)
  show Zn g zX10_putTab 0 [some (.ref 50), some (.int (nI l)), some (.int (nI c)), some (.int (nI q))] [] (mhp h F S z A X) 0 0 _
  refine zn_aload_n (pc := 0) rfl rfl ?_
  refine zn_iload_n (pc := 1) rfl rfl ?_
  refine zn_iload_n (pc := 2) rfl rfl ?_
  refine zn_iconstN (pc := 3) 1 rfl rfl ?_
  refine zn_iaddN (pc := 4) (x := c) (y := 1) rfl ?_
  refine zn_callVx (pc := 5) (J := zX10_openCell) (o := 50) (as := [.int (nI l), .int (nI (c + 1))]) (rest := []) rfl rfl rfl rfl rfl rfl rfl rfl (Nat.le_of_ble_eq_true rfl) (Nat.le_of_ble_eq_true rfl) (Nat.le_of_ble_eq_true rfl) (Nat.le_of_ble_eq_true rfl) (m_openCell (l := l) (c := (c + 1)) (by omega) (by omega) (by omega)) ?_
  refine zn_aload_n (pc := 8) rfl rfl ?_
  refine zn_iload_n (pc := 9) rfl rfl ?_
  refine zn_iload_n (pc := 10) rfl rfl ?_
  refine zn_iload_n (pc := 11) rfl rfl ?_
  refine zn_iload_n (pc := 12) rfl rfl ?_
  refine zn_iload_n (pc := 13) rfl rfl ?_
  refine zn_iconstN (pc := 14) 1 rfl rfl ?_
  refine zn_iaddN (pc := 15) (x := c) (y := 1) rfl ?_
  refine zn_callVx (pc := 16) (J := zX10_giveTail) (o := 50) (as := [.int (nI l), .int (nI c), .int (nI q), .int (nI l), .int (nI (c + 1))]) (rest := []) rfl rfl rfl rfl rfl rfl rfl rfl (Nat.le_of_ble_eq_true rfl) (Nat.le_of_ble_eq_true rfl) (Nat.le_of_ble_eq_true rfl) (Nat.le_of_ble_eq_true rfl) (m_giveTail (l := l) (c := c) (f := q) (t := l) (u := (c + 1)) (by omega) (by omega) (by omega) (by omega) (by omega) (by omega) (by omega) (by omega)) ?_
  refine zn_aload_n (pc := 19) rfl rfl ?_
  refine zn_iload_n (pc := 20) rfl rfl ?_
  refine zn_callVx (pc := 21) (J := zX10_cells) (o := 50) (as := [.int (nI l)]) (rest := []) rfl rfl rfl rfl rfl rfl rfl rfl (Nat.le_of_ble_eq_true rfl) (Nat.le_of_ble_eq_true rfl) (Nat.le_of_ble_eq_true rfl) (Nat.le_of_ble_eq_true rfl) (m_cells (l := l) (by omega)) ?_
  refine zn_top (v' := .int (nI (z (1 + l) + 1))) (by rw [mgt_lo (by omega) (by omega) (by omega), mopc_c]) ?_
  exact zx_i (pc := 24) rfl rfl rfl rfl
/-- the cells of line l behind c, up to k, stand in line l + 1 -/
def mpe (z : Nat → Nat) (l c k : Nat) : Nat → Nat := fun j => if 25 + 8 * (l + 1) + 1 ≤ j ∧ j < 25 + 8 * (l + 1) + (k - c) then z (j - 8 + c) else if 217 + 16 * (8 * (l + 1) + 1) ≤ j ∧ j < 217 + 16 * (8 * (l + 1) + (k - c)) then z (j - 128 + 16 * c) else z j
def mpen (z : Nat → Nat) (l c q : Nat) : Nat → Nat := va_up (va_up (mpe (mgt (mopl z (l + 1)) l c q (l + 1) 0) l c (z (1 + l))) (2 + l) (z (1 + l) - c)) (1 + l) (c + 1)
theorem m_putEnd_l {l c q : Nat} {m : Nat} (hl : l < 23) (hm : z (1 + l) = m) (h8 : m ≤ 8) (hc : c < m) : ∀ (n : Nat) (k : Nat), k + n = m → c + 1 ≤ k → Zn g zX10_putEnd 23 [some (.ref 50), some (.int (nI l)), some (.int (nI c)), some (.int (nI q)), some (.int (nI k))] [] (mhp h F S (mpe z l c k) A X) 0 0 (fun r' h' => r' = .inl (some (.int (nI (z 0)))) ∧ h' = (mhp h F S (va_up (va_up (mpe z l c m) (2 + l) (m - c)) (1 + l) (c + 1)) A X)) := by
  intro n
  induction n with
  | zero =>
    intro k hn0 hn1
    refine zn_iload (pc := 23) rfl rfl ?_
    refine zn_aload_n (pc := 25) rfl rfl ?_
    refine zn_iload_n (pc := 26) rfl rfl ?_
    refine zn_callVx (pc := 27) (J := zX10_cells) (o := 50) (as := [.int (nI l)]) (rest := [.int (nI k)]) rfl rfl rfl rfl rfl rfl rfl rfl (Nat.le_of_ble_eq_true rfl) (Nat.le_of_ble_eq_true rfl) (Nat.le_of_ble_eq_true rfl) (Nat.le_of_ble_eq_true rfl) (m_cells (l := l) (by omega)) ?_
    refine zn_top (v' := .int (nI m)) (by congr 2; rw [← hm]; simp only [va_up, ↓reduceIte, mpe] <;> (repeat' split) <;> first | omega | exact congrArg z (by omega)) ?_
    refine zn_icmp_geN (pc := 30) (tgt := 53) (x := k) (y := m) rfl rfl (by omega) (by omega) (fun c1 => ?_) (fun c1 => ?_)
    · refine zn_aload_n (pc := 53) rfl rfl ?_
      refine zn_get (pc := 54) (v := .ref 51) rfl rfl rfl ?_
      refine zn_iconstN (pc := 57) 2 rfl rfl ?_
      refine zn_iload_n (pc := 58) rfl rfl ?_
      refine zn_iaddN (pc := 59) (x := 2) (y := l) rfl ?_
      refine zn_aload_n (pc := 60) rfl rfl ?_
      refine zn_iload_n (pc := 61) rfl rfl ?_
      refine zn_callVx (pc := 62) (J := zX10_cells) (o := 50) (as := [.int (nI l)]) (rest := [.int (nI (2 + l)), .ref 51]) rfl rfl rfl rfl rfl rfl rfl rfl (Nat.le_of_ble_eq_true rfl) (Nat.le_of_ble_eq_true rfl) (Nat.le_of_ble_eq_true rfl) (Nat.le_of_ble_eq_true rfl) (m_cells (l := l) (by omega)) ?_
      refine zn_top (v' := .int (nI m)) (by congr 2; rw [← hm]; simp only [va_up, ↓reduceIte, mpe] <;> (repeat' split) <;> first | omega | exact congrArg z (by omega)) ?_
      refine zn_iload_n (pc := 65) rfl rfl ?_
      refine zn_isubN (pc := 66) (x := m) (y := c) rfl (by omega) ?_
      refine zm_stz (pc := 67) (j := (2 + l)) (v := (m - c)) rfl (by omega) ?_
      refine zn_aload_n (pc := 68) rfl rfl ?_
      refine zn_get (pc := 69) (v := .ref 51) rfl rfl rfl ?_
      refine zn_iconstN (pc := 72) 1 rfl rfl ?_
      refine zn_iload_n (pc := 73) rfl rfl ?_
      refine zn_iaddN (pc := 74) (x := 1) (y := l) rfl ?_
      refine zn_iload_n (pc := 75) rfl rfl ?_
      refine zn_iconstN (pc := 76) 1 rfl rfl ?_
      refine zn_iaddN (pc := 77) (x := c) (y := 1) rfl ?_
      refine zm_stz (pc := 78) (j := (1 + l)) (v := (c + 1)) rfl (by omega) ?_
      refine zn_aload_n (pc := 79) rfl rfl ?_
      refine zn_get (pc := 80) (v := .ref 51) rfl rfl rfl ?_
      refine zn_iconstN (pc := 83) 0 rfl rfl ?_
      refine zn_naLd (pc := 84) (o := 51) (n := 3289) (Z := (va_up (va_up (mpe z l c k) (2 + l) (m - c)) (1 + l) (c + 1))) (j := 0) rfl rfl (by omega) (Nat.le_of_ble_eq_true rfl) ?_
      refine zn_top (v' := .int (nI (z 0))) (by congr 2; simp only [va_up, ↓reduceIte, mpe] <;> (repeat' split) <;> first | omega | exact congrArg z (by omega)) ?_
      obtain rfl : k = m := by omega
      exact zx_i (pc := 85) rfl rfl rfl rfl
    · exfalso; omega
  | succ n ih =>
    intro k hn0 hn1
    refine zn_iload (pc := 23) rfl rfl ?_
    refine zn_aload_n (pc := 25) rfl rfl ?_
    refine zn_iload_n (pc := 26) rfl rfl ?_
    refine zn_callVx (pc := 27) (J := zX10_cells) (o := 50) (as := [.int (nI l)]) (rest := [.int (nI k)]) rfl rfl rfl rfl rfl rfl rfl rfl (Nat.le_of_ble_eq_true rfl) (Nat.le_of_ble_eq_true rfl) (Nat.le_of_ble_eq_true rfl) (Nat.le_of_ble_eq_true rfl) (m_cells (l := l) (by omega)) ?_
    refine zn_top (v' := .int (nI m)) (by congr 2; rw [← hm]; simp only [va_up, ↓reduceIte, mpe] <;> (repeat' split) <;> first | omega | exact congrArg z (by omega)) ?_
    refine zn_icmp_geN (pc := 30) (tgt := 53) (x := k) (y := m) rfl rfl (by omega) (by omega) (fun c1 => ?_) (fun c1 => ?_)
    · refine zn_aload_n (pc := 53) rfl rfl ?_
      refine zn_get (pc := 54) (v := .ref 51) rfl rfl rfl ?_
      refine zn_iconstN (pc := 57) 2 rfl rfl ?_
      refine zn_iload_n (pc := 58) rfl rfl ?_
      refine zn_iaddN (pc := 59) (x := 2) (y := l) rfl ?_
      refine zn_aload_n (pc := 60) rfl rfl ?_
      refine zn_iload_n (pc := 61) rfl rfl ?_
      refine zn_callVx (pc := 62) (J := zX10_cells) (o := 50) (as := [.int (nI l)]) (rest := [.int (nI (2 + l)), .ref 51]) rfl rfl rfl rfl rfl rfl rfl rfl (Nat.le_of_ble_eq_true rfl) (Nat.le_of_ble_eq_true rfl) (Nat.le_of_ble_eq_true rfl) (Nat.le_of_ble_eq_true rfl) (m_cells (l := l) (by omega)) ?_
      refine zn_top (v' := .int (nI m)) (by congr 2; rw [← hm]; simp only [va_up, ↓reduceIte, mpe] <;> (repeat' split) <;> first | omega | exact congrArg z (by omega)) ?_
      refine zn_iload_n (pc := 65) rfl rfl ?_
      refine zn_isubN (pc := 66) (x := m) (y := c) rfl (by omega) ?_
      refine zm_stz (pc := 67) (j := (2 + l)) (v := (m - c)) rfl (by omega) ?_
      refine zn_aload_n (pc := 68) rfl rfl ?_
      refine zn_get (pc := 69) (v := .ref 51) rfl rfl rfl ?_
      refine zn_iconstN (pc := 72) 1 rfl rfl ?_
      refine zn_iload_n (pc := 73) rfl rfl ?_
      refine zn_iaddN (pc := 74) (x := 1) (y := l) rfl ?_
      refine zn_iload_n (pc := 75) rfl rfl ?_
      refine zn_iconstN (pc := 76) 1 rfl rfl ?_
      refine zn_iaddN (pc := 77) (x := c) (y := 1) rfl ?_
      refine zm_stz (pc := 78) (j := (1 + l)) (v := (c + 1)) rfl (by omega) ?_
      refine zn_aload_n (pc := 79) rfl rfl ?_
      refine zn_get (pc := 80) (v := .ref 51) rfl rfl rfl ?_
      refine zn_iconstN (pc := 83) 0 rfl rfl ?_
      refine zn_naLd (pc := 84) (o := 51) (n := 3289) (Z := (va_up (va_up (mpe z l c k) (2 + l) (m - c)) (1 + l) (c + 1))) (j := 0) rfl rfl (by omega) (Nat.le_of_ble_eq_true rfl) ?_
      refine zn_top (v' := .int (nI (z 0))) (by congr 2; simp only [va_up, ↓reduceIte, mpe] <;> (repeat' split) <;> first | omega | exact congrArg z (by omega)) ?_
      obtain rfl : k = m := by omega
      exact zx_i (pc := 85) rfl rfl rfl rfl
    · refine zn_aload_n (pc := 33) rfl rfl ?_
      refine zn_iload_n (pc := 34) rfl rfl ?_
      refine zn_iconstN (pc := 35) 1 rfl rfl ?_
      refine zn_iaddN (pc := 36) (x := l) (y := 1) rfl ?_
      refine zn_iload (pc := 37) rfl rfl ?_
      refine zn_iload_n (pc := 39) rfl rfl ?_
      refine zn_isubN (pc := 40) (x := k) (y := c) rfl (by omega) ?_
      refine zn_iload_n (pc := 41) rfl rfl ?_
      refine zn_iload (pc := 42) rfl rfl ?_
      refine zn_callVx (pc := 44) (J := zX10_copyCell) (o := 50) (as := [.int (nI (l + 1)), .int (nI (k - c)), .int (nI l), .int (nI k)]) (rest := []) rfl rfl rfl rfl rfl rfl rfl rfl (Nat.le_of_ble_eq_true rfl) (Nat.le_of_ble_eq_true rfl) (Nat.le_of_ble_eq_true rfl) (Nat.le_of_ble_eq_true rfl) (m_copyCell (t := (l + 1)) (u := (k - c)) (l := l) (c := k) (by omega) (by omega) (by omega) (by omega) (by omega)) ?_
      refine zn_iincN (pc := 47) (L' := [some (.ref 50), some (.int (nI l)), some (.int (nI c)), some (.int (nI q)), some (.int (nI (k + 1)))]) 1 rfl rfl rfl (by decide) rfl ?_
      refine zn_goto (pc := 50) (tgt := 23) rfl rfl ?_
      refine zn_heq (h' := mhp h F S (mpe z l c (k + 1)) A X) (congrArg (fun w => mhp h F S w A X) ?_) (ih (k + 1) (by omega) (by omega))
      · funext j
        simp only [va_up, mpe, mcpc]
        repeat' split
        all_goals first | omega | exact congrArg z (by omega)
theorem m_putEnd  {l c q : Nat} (hl : l < z 0) (h24 : z 0 < 24) (h8 : z (1 + l) ≤ 8) (hc : c < z (1 + l)) (hq : q ≤ z (25 + 8 * l + c)) (h16 : z (25 + 8 * l + c) ≤ 16) : Zx g zX10_putEnd [.ref 50, .int (nI l), .int (nI c), .int (nI q)] (mhp h F S z A X) (some (.int (nI (z 0 + 1)))) (mhp h F S (mpen z l c q) A X) := by
  have e1 : mopl z (l + 1) (25 + 8 * l + c) = z (25 + 8 * l + c) := by simp only [va_up, ↓reduceIte, mopl, mshf] <;> (repeat' split) <;> first | omega | exact congrArg z (by omega)
  have e2 : mopl z (l + 1) (25 + 8 * (l + 1) + 0) = 0 := by simp only [va_up, ↓reduceIte, mopl, mshf] <;> (repeat' split) <;> first | omega | exact congrArg z (by omega)
  have e3 : mgt (mopl z (l + 1)) l c q (l + 1) 0 (1 + l) = z (1 + l) := (mgt_lo (by omega) (by omega) (by omega)).trans (mopl_c (by omega))
  have e4 : mgt (mopl z (l + 1)) l c q (l + 1) 0 0 = z 0 + 1 := (mgt_lo (by omega) (by omega) (by omega)).trans mopl_0
  show Zn g zX10_putEnd 0 [some (.ref 50), some (.int (nI l)), some (.int (nI c)), some (.int (nI q)), none] [] (mhp h F S z A X) 0 0 _
  refine zn_aload_n (pc := 0) rfl rfl ?_
  refine zn_iload_n (pc := 1) rfl rfl ?_
  refine zn_iconstN (pc := 2) 1 rfl rfl ?_
  refine zn_iaddN (pc := 3) (x := l) (y := 1) rfl ?_
  refine zn_callVx (pc := 4) (J := zX10_openLine) (o := 50) (as := [.int (nI (l + 1))]) (rest := []) rfl rfl rfl rfl rfl rfl rfl rfl (Nat.le_of_ble_eq_true rfl) (Nat.le_of_ble_eq_true rfl) (Nat.le_of_ble_eq_true rfl) (Nat.le_of_ble_eq_true rfl) (m_openLine (l := (l + 1)) (by omega) (by omega) (by omega)) ?_
  refine zn_aload_n (pc := 7) rfl rfl ?_
  refine zn_iload_n (pc := 8) rfl rfl ?_
  refine zn_iload_n (pc := 9) rfl rfl ?_
  refine zn_iload_n (pc := 10) rfl rfl ?_
  refine zn_iload_n (pc := 11) rfl rfl ?_
  refine zn_iconstN (pc := 12) 1 rfl rfl ?_
  refine zn_iaddN (pc := 13) (x := l) (y := 1) rfl ?_
  refine zn_iconstN (pc := 14) 0 rfl rfl ?_
  refine zn_callVx (pc := 15) (J := zX10_giveTail) (o := 50) (as := [.int (nI l), .int (nI c), .int (nI q), .int (nI (l + 1)), .int (nI 0)]) (rest := []) rfl rfl rfl rfl rfl rfl rfl rfl (Nat.le_of_ble_eq_true rfl) (Nat.le_of_ble_eq_true rfl) (Nat.le_of_ble_eq_true rfl) (Nat.le_of_ble_eq_true rfl) (m_giveTail (l := l) (c := c) (f := q) (t := (l + 1)) (u := 0) (by omega) (by omega) (by omega) (by omega) (by omega) (by omega) (by omega) (by omega)) ?_
  refine zn_iload_n (pc := 18) rfl rfl ?_
  refine zn_iconstN (pc := 19) 1 rfl rfl ?_
  refine zn_iaddN (pc := 20) (x := c) (y := 1) rfl ?_
  refine zn_istore (pc := 21) (L' := [some (.ref 50), some (.int (nI l)), some (.int (nI c)), some (.int (nI q)), some (.int (nI (c + 1)))]) rfl (by decide) rfl ?_
  rw [show (z 0 + 1) = mgt (mopl z (l + 1)) l c q (l + 1) 0 0 from e4.symm]
  refine zn_heq (h' := mhp h F S (mpe (mgt (mopl z (l + 1)) l c q (l + 1) 0) l c (c + 1)) A X) (congrArg (fun w => mhp h F S w A X) ?_) (m_putEnd_l (z := mgt (mopl z (l + 1)) l c q (l + 1) 0) (m := z (1 + l)) (by omega) e3 h8 hc (z (1 + l) - (c + 1)) (c + 1) (by omega) (by omega))
  · funext j
    simp only [mpe]
    rw [if_neg (by omega), if_neg (by omega)]
theorem m_put_t  {l c q : Nat} (hl : l < 24) (h8 : z (1 + l) < 8) (hc : c < z (1 + l)) (hq : q ≤ z (25 + 8 * l + c)) (h16 : z (25 + 8 * l + c) ≤ 16) : Zx g zX10_put [.ref 50, .int (nI l), .int (nI c), .int (nI q), .int (nI 9)] (mhp h F S z A X) (some (.int (nI (z (1 + l) + 1)))) (mhp h F S (mptb z l c q) A X) := by
  show Zn g zX10_put 0 [some (.ref 50), some (.int (nI l)), some (.int (nI c)), some (.int (nI q)), some (.int (nI 9))] [] (mhp h F S z A X) 0 0 _
  refine zn_iload (pc := 0) rfl rfl ?_
  refine zn_bipushN (pc := 2) 9 rfl rfl ?_
  refine zn_icmp_neN (pc := 4) (tgt := 17) (x := 9) (y := 9) rfl rfl (by omega) (by omega) (fun c1 => ?_) (fun c1 => ?_)
  · exfalso; omega
  · refine zn_aload_n (pc := 7) rfl rfl ?_
    refine zn_iload_n (pc := 8) rfl rfl ?_
    refine zn_iload_n (pc := 9) rfl rfl ?_
    refine zn_iload_n (pc := 10) rfl rfl ?_
    refine zn_callVx (pc := 11) (J := zX10_putTab) (o := 50) (as := [.int (nI l), .int (nI c), .int (nI q)]) (rest := []) rfl rfl rfl rfl rfl rfl rfl rfl (Nat.le_of_ble_eq_true rfl) (Nat.le_of_ble_eq_true rfl) (Nat.le_of_ble_eq_true rfl) (Nat.le_of_ble_eq_true rfl) (m_putTab (l := l) (c := c) (q := q) (by omega) (by omega) (by omega) (by omega) (by omega)) ?_
    refine zn_goto (pc := 14) (tgt := 43) rfl rfl ?_
    exact zx_i (pc := 43) rfl rfl rfl rfl
theorem m_put_e  {l c q : Nat} (hl : l < z 0) (h24 : z 0 < 24) (h8 : z (1 + l) ≤ 8) (hc : c < z (1 + l)) (hq : q ≤ z (25 + 8 * l + c)) (h16 : z (25 + 8 * l + c) ≤ 16) : Zx g zX10_put [.ref 50, .int (nI l), .int (nI c), .int (nI q), .int (nI 10)] (mhp h F S z A X) (some (.int (nI (z 0 + 1)))) (mhp h F S (mpen z l c q) A X) := by
  show Zn g zX10_put 0 [some (.ref 50), some (.int (nI l)), some (.int (nI c)), some (.int (nI q)), some (.int (nI 10))] [] (mhp h F S z A X) 0 0 _
  refine zn_iload (pc := 0) rfl rfl ?_
  refine zn_bipushN (pc := 2) 9 rfl rfl ?_
  refine zn_icmp_neN (pc := 4) (tgt := 17) (x := 10) (y := 9) rfl rfl (by omega) (by omega) (fun c1 => ?_) (fun c1 => ?_)
  · refine zn_iload (pc := 17) rfl rfl ?_
    refine zn_bipushN (pc := 19) 10 rfl rfl ?_
    refine zn_icmp_neN (pc := 21) (tgt := 34) (x := 10) (y := 10) rfl rfl (by omega) (by omega) (fun c2 => ?_) (fun c2 => ?_)
    · exfalso; omega
    · refine zn_aload_n (pc := 24) rfl rfl ?_
      refine zn_iload_n (pc := 25) rfl rfl ?_
      refine zn_iload_n (pc := 26) rfl rfl ?_
      refine zn_iload_n (pc := 27) rfl rfl ?_
      refine zn_callVx (pc := 28) (J := zX10_putEnd) (o := 50) (as := [.int (nI l), .int (nI c), .int (nI q)]) (rest := []) rfl rfl rfl rfl rfl rfl rfl rfl (Nat.le_of_ble_eq_true rfl) (Nat.le_of_ble_eq_true rfl) (Nat.le_of_ble_eq_true rfl) (Nat.le_of_ble_eq_true rfl) (m_putEnd (l := l) (c := c) (q := q) (by omega) (by omega) (by omega) (by omega) (by omega) (by omega)) ?_
      refine zn_goto (pc := 31) (tgt := 43) rfl rfl ?_
      exact zx_i (pc := 43) rfl rfl rfl rfl
  · exfalso; omega
theorem m_put_s  {l c q v : Nat} (hl : l < 24) (hc : c < 8) (hq : q ≤ z (25 + 8 * l + c)) (h16 : z (25 + 8 * l + c) < 16) (h9 : v ≠ 9) (h10 : v ≠ 10) (hv : v < 1000) : Zx g zX10_put [.ref 50, .int (nI l), .int (nI c), .int (nI q), .int (nI v)] (mhp h F S z A X) (some (.int (nI (z (25 + 8 * l + c) + 1)))) (mhp h F S (mpsg z l c q v) A X) := by
  show Zn g zX10_put 0 [some (.ref 50), some (.int (nI l)), some (.int (nI c)), some (.int (nI q)), some (.int (nI v))] [] (mhp h F S z A X) 0 0 _
  refine zn_iload (pc := 0) rfl rfl ?_
  refine zn_bipushN (pc := 2) 9 rfl rfl ?_
  refine zn_icmp_neN (pc := 4) (tgt := 17) (x := v) (y := 9) rfl rfl (by omega) (by omega) (fun c1 => ?_) (fun c1 => ?_)
  · refine zn_iload (pc := 17) rfl rfl ?_
    refine zn_bipushN (pc := 19) 10 rfl rfl ?_
    refine zn_icmp_neN (pc := 21) (tgt := 34) (x := v) (y := 10) rfl rfl (by omega) (by omega) (fun c2 => ?_) (fun c2 => ?_)
    · refine zn_aload_n (pc := 34) rfl rfl ?_
      refine zn_iload_n (pc := 35) rfl rfl ?_
      refine zn_iload_n (pc := 36) rfl rfl ?_
      refine zn_iload_n (pc := 37) rfl rfl ?_
      refine zn_iload (pc := 38) rfl rfl ?_
      refine zn_callVx (pc := 40) (J := zX10_putSign) (o := 50) (as := [.int (nI l), .int (nI c), .int (nI q), .int (nI v)]) (rest := []) rfl rfl rfl rfl rfl rfl rfl rfl (Nat.le_of_ble_eq_true rfl) (Nat.le_of_ble_eq_true rfl) (Nat.le_of_ble_eq_true rfl) (Nat.le_of_ble_eq_true rfl) (m_putSign (l := l) (c := c) (q := q) (v := v) (by omega) (by omega) (by omega) (by omega)) ?_
      exact zx_i (pc := 43) rfl rfl rfl rfl
    · exfalso; omega
  · exfalso; omega
theorem m_type_1  (hz : mOK z) (x y k cd : Int32) (hp : 0 < mtyp z x y k cd) : Zx g zX10_type [.ref 50, .int x, .int y, .int k, .int cd] (mhp h F S z A X) (some (.int (nI 0))) (mhp h (va_up F 0 (mtyp z x y k cd)) S z A X) := by
  show Zn g zX10_type 0 [some (.ref 50), some (.int x), some (.int y), some (.int k), some (.int cd)] [] (mhp h F S z A X) 0 0 _
  refine zn_aload_n (pc := 0) rfl rfl ?_
  refine zn_aload_n (pc := 1) rfl rfl ?_
  refine zn_iload_n (pc := 2) rfl rfl ?_
  refine zn_iload_n (pc := 3) rfl rfl ?_
  refine zn_iload_n (pc := 4) rfl rfl ?_
  refine zn_iload (pc := 5) rfl rfl ?_
  refine zn_callVx (pc := 7) (J := zX10_typing) (o := 50) (as := [.int x, .int y, .int k, .int cd]) (rest := [.ref 50]) rfl rfl rfl rfl rfl rfl rfl rfl (Nat.le_of_ble_eq_true rfl) (Nat.le_of_ble_eq_true rfl) (Nat.le_of_ble_eq_true rfl) (Nat.le_of_ble_eq_true rfl) (m_typing hz x y k cd) ?_
  refine zm_putI (pc := 10) (k := 0) (v := (mtyp z x y k cd)) rfl (by decide) rfl rfl ?_
  refine zn_aload_n (pc := 13) rfl rfl ?_
  refine zn_get (pc := 14) (v := .int (nI (mtyp z x y k cd))) rfl rfl rfl ?_
  refine zn_if_leN (pc := 17) (tgt := 22) (x := (mtyp z x y k cd)) rfl rfl (by unfold mtyp; (repeat' split) <;> omega) (fun c1 => ?_) (fun c1 => ?_)
  · exfalso; omega
  · refine zn_iconstN (pc := 20) 0 rfl rfl ?_
    exact zx_i (pc := 21) rfl rfl rfl rfl
theorem m_type_t  (hz : mOK z) (hu : F 5 ≤ 10) {l c q : Nat} (hl : l < 24) (h8 : z (1 + l) < 8) (hc : c < z (1 + l)) (hq : q ≤ z (25 + 8 * l + c)) (h16 : z (25 + 8 * l + c) ≤ 16) (hp : mtyp z (nI l) (nI c) (nI q) (nI 9) = 0) : Zx g zX10_type [.ref 50, .int (nI l), .int (nI c), .int (nI q), .int (nI 9)] (mhp h F S z A X) (some (.int (nI (z (1 + l) + 1)))) (mhp h (va_up (va_up (va_up F 0 0) 5 (min (F 5) 9 + 1)) 6 0) S (mptb z l c q) (va_up A 2 (msave (A 2) z (F 5))) X) := by
  show Zn g zX10_type 0 [some (.ref 50), some (.int (nI l)), some (.int (nI c)), some (.int (nI q)), some (.int (nI 9))] [] (mhp h F S z A X) 0 0 _
  refine zn_aload_n (pc := 0) rfl rfl ?_
  refine zn_aload_n (pc := 1) rfl rfl ?_
  refine zn_iload_n (pc := 2) rfl rfl ?_
  refine zn_iload_n (pc := 3) rfl rfl ?_
  refine zn_iload_n (pc := 4) rfl rfl ?_
  refine zn_iload (pc := 5) rfl rfl ?_
  refine zn_callVx (pc := 7) (J := zX10_typing) (o := 50) (as := [.int (nI l), .int (nI c), .int (nI q), .int (nI 9)]) (rest := [.ref 50]) rfl rfl rfl rfl rfl rfl rfl rfl (Nat.le_of_ble_eq_true rfl) (Nat.le_of_ble_eq_true rfl) (Nat.le_of_ble_eq_true rfl) (Nat.le_of_ble_eq_true rfl) (m_typing hz (nI l) (nI c) (nI q) (nI 9)) ?_
  refine zn_top (v' := .int (nI 0)) (by rw [hp]) ?_
  refine zm_putI (pc := 10) (k := 0) (v := 0) rfl (by decide) rfl rfl ?_
  refine zn_aload_n (pc := 13) rfl rfl ?_
  refine zn_get (pc := 14) (v := .int (nI 0)) rfl rfl rfl ?_
  refine zn_if_leN (pc := 17) (tgt := 22) (x := 0) rfl rfl (by omega) (fun c1 => ?_) (fun c1 => ?_)
  · refine zn_aload_n (pc := 22) rfl rfl ?_
    refine zn_callVx (pc := 23) (J := zX10_save) (o := 50) (as := []) (rest := []) rfl rfl rfl rfl rfl rfl rfl rfl (Nat.le_of_ble_eq_true rfl) (Nat.le_of_ble_eq_true rfl) (Nat.le_of_ble_eq_true rfl) (Nat.le_of_ble_eq_true rfl) (m_save (n := (F 5)) rfl (by omega)) ?_
    refine zn_aload_n (pc := 26) rfl rfl ?_
    refine zn_iload_n (pc := 27) rfl rfl ?_
    refine zn_iload_n (pc := 28) rfl rfl ?_
    refine zn_iload_n (pc := 29) rfl rfl ?_
    refine zn_iload (pc := 30) rfl rfl ?_
    refine zn_callVx (pc := 32) (J := zX10_put) (o := 50) (as := [.int (nI l), .int (nI c), .int (nI q), .int (nI 9)]) (rest := []) rfl rfl rfl rfl rfl rfl rfl rfl (Nat.le_of_ble_eq_true rfl) (Nat.le_of_ble_eq_true rfl) (Nat.le_of_ble_eq_true rfl) (Nat.le_of_ble_eq_true rfl) (m_put_t (l := l) (c := c) (q := q) (by omega) (by omega) (by omega) (by omega) (by omega) ) ?_
    exact zx_i (pc := 35) rfl rfl rfl rfl
  · exfalso; omega
theorem m_type_e  (hz : mOK z) (hu : F 5 ≤ 10) {l c q : Nat} (hl : l < z 0) (h24 : z 0 < 24) (h8 : z (1 + l) ≤ 8) (hc : c < z (1 + l)) (hq : q ≤ z (25 + 8 * l + c)) (h16 : z (25 + 8 * l + c) ≤ 16) (hp : mtyp z (nI l) (nI c) (nI q) (nI 10) = 0) : Zx g zX10_type [.ref 50, .int (nI l), .int (nI c), .int (nI q), .int (nI 10)] (mhp h F S z A X) (some (.int (nI (z 0 + 1)))) (mhp h (va_up (va_up (va_up F 0 0) 5 (min (F 5) 9 + 1)) 6 0) S (mpen z l c q) (va_up A 2 (msave (A 2) z (F 5))) X) := by
  show Zn g zX10_type 0 [some (.ref 50), some (.int (nI l)), some (.int (nI c)), some (.int (nI q)), some (.int (nI 10))] [] (mhp h F S z A X) 0 0 _
  refine zn_aload_n (pc := 0) rfl rfl ?_
  refine zn_aload_n (pc := 1) rfl rfl ?_
  refine zn_iload_n (pc := 2) rfl rfl ?_
  refine zn_iload_n (pc := 3) rfl rfl ?_
  refine zn_iload_n (pc := 4) rfl rfl ?_
  refine zn_iload (pc := 5) rfl rfl ?_
  refine zn_callVx (pc := 7) (J := zX10_typing) (o := 50) (as := [.int (nI l), .int (nI c), .int (nI q), .int (nI 10)]) (rest := [.ref 50]) rfl rfl rfl rfl rfl rfl rfl rfl (Nat.le_of_ble_eq_true rfl) (Nat.le_of_ble_eq_true rfl) (Nat.le_of_ble_eq_true rfl) (Nat.le_of_ble_eq_true rfl) (m_typing hz (nI l) (nI c) (nI q) (nI 10)) ?_
  refine zn_top (v' := .int (nI 0)) (by rw [hp]) ?_
  refine zm_putI (pc := 10) (k := 0) (v := 0) rfl (by decide) rfl rfl ?_
  refine zn_aload_n (pc := 13) rfl rfl ?_
  refine zn_get (pc := 14) (v := .int (nI 0)) rfl rfl rfl ?_
  refine zn_if_leN (pc := 17) (tgt := 22) (x := 0) rfl rfl (by omega) (fun c1 => ?_) (fun c1 => ?_)
  · refine zn_aload_n (pc := 22) rfl rfl ?_
    refine zn_callVx (pc := 23) (J := zX10_save) (o := 50) (as := []) (rest := []) rfl rfl rfl rfl rfl rfl rfl rfl (Nat.le_of_ble_eq_true rfl) (Nat.le_of_ble_eq_true rfl) (Nat.le_of_ble_eq_true rfl) (Nat.le_of_ble_eq_true rfl) (m_save (n := (F 5)) rfl (by omega)) ?_
    refine zn_aload_n (pc := 26) rfl rfl ?_
    refine zn_iload_n (pc := 27) rfl rfl ?_
    refine zn_iload_n (pc := 28) rfl rfl ?_
    refine zn_iload_n (pc := 29) rfl rfl ?_
    refine zn_iload (pc := 30) rfl rfl ?_
    refine zn_callVx (pc := 32) (J := zX10_put) (o := 50) (as := [.int (nI l), .int (nI c), .int (nI q), .int (nI 10)]) (rest := []) rfl rfl rfl rfl rfl rfl rfl rfl (Nat.le_of_ble_eq_true rfl) (Nat.le_of_ble_eq_true rfl) (Nat.le_of_ble_eq_true rfl) (Nat.le_of_ble_eq_true rfl) (m_put_e (l := l) (c := c) (q := q) (by omega) (by omega) (by omega) (by omega) (by omega) (by omega) ) ?_
    exact zx_i (pc := 35) rfl rfl rfl rfl
  · exfalso; omega
theorem m_type_s  (hz : mOK z) (hu : F 5 ≤ 10) {l c q v : Nat} (hl : l < 24) (hc : c < 8) (hq : q ≤ z (25 + 8 * l + c)) (h16 : z (25 + 8 * l + c) < 16) (h9 : v ≠ 9) (h10 : v ≠ 10) (hv : v < 1000) (hp : mtyp z (nI l) (nI c) (nI q) (nI v) = 0) : Zx g zX10_type [.ref 50, .int (nI l), .int (nI c), .int (nI q), .int (nI v)] (mhp h F S z A X) (some (.int (nI (z (25 + 8 * l + c) + 1)))) (mhp h (va_up (va_up (va_up F 0 0) 5 (min (F 5) 9 + 1)) 6 0) S (mpsg z l c q v) (va_up A 2 (msave (A 2) z (F 5))) X) := by
  show Zn g zX10_type 0 [some (.ref 50), some (.int (nI l)), some (.int (nI c)), some (.int (nI q)), some (.int (nI v))] [] (mhp h F S z A X) 0 0 _
  refine zn_aload_n (pc := 0) rfl rfl ?_
  refine zn_aload_n (pc := 1) rfl rfl ?_
  refine zn_iload_n (pc := 2) rfl rfl ?_
  refine zn_iload_n (pc := 3) rfl rfl ?_
  refine zn_iload_n (pc := 4) rfl rfl ?_
  refine zn_iload (pc := 5) rfl rfl ?_
  refine zn_callVx (pc := 7) (J := zX10_typing) (o := 50) (as := [.int (nI l), .int (nI c), .int (nI q), .int (nI v)]) (rest := [.ref 50]) rfl rfl rfl rfl rfl rfl rfl rfl (Nat.le_of_ble_eq_true rfl) (Nat.le_of_ble_eq_true rfl) (Nat.le_of_ble_eq_true rfl) (Nat.le_of_ble_eq_true rfl) (m_typing hz (nI l) (nI c) (nI q) (nI v)) ?_
  refine zn_top (v' := .int (nI 0)) (by rw [hp]) ?_
  refine zm_putI (pc := 10) (k := 0) (v := 0) rfl (by decide) rfl rfl ?_
  refine zn_aload_n (pc := 13) rfl rfl ?_
  refine zn_get (pc := 14) (v := .int (nI 0)) rfl rfl rfl ?_
  refine zn_if_leN (pc := 17) (tgt := 22) (x := 0) rfl rfl (by omega) (fun c1 => ?_) (fun c1 => ?_)
  · refine zn_aload_n (pc := 22) rfl rfl ?_
    refine zn_callVx (pc := 23) (J := zX10_save) (o := 50) (as := []) (rest := []) rfl rfl rfl rfl rfl rfl rfl rfl (Nat.le_of_ble_eq_true rfl) (Nat.le_of_ble_eq_true rfl) (Nat.le_of_ble_eq_true rfl) (Nat.le_of_ble_eq_true rfl) (m_save (n := (F 5)) rfl (by omega)) ?_
    refine zn_aload_n (pc := 26) rfl rfl ?_
    refine zn_iload_n (pc := 27) rfl rfl ?_
    refine zn_iload_n (pc := 28) rfl rfl ?_
    refine zn_iload_n (pc := 29) rfl rfl ?_
    refine zn_iload (pc := 30) rfl rfl ?_
    refine zn_callVx (pc := 32) (J := zX10_put) (o := 50) (as := [.int (nI l), .int (nI c), .int (nI q), .int (nI v)]) (rest := []) rfl rfl rfl rfl rfl rfl rfl rfl (Nat.le_of_ble_eq_true rfl) (Nat.le_of_ble_eq_true rfl) (Nat.le_of_ble_eq_true rfl) (Nat.le_of_ble_eq_true rfl) (m_put_s (l := l) (c := c) (q := q) (v := v) (by omega) (by omega) (by omega) (by omega) (by omega) (by omega) (by omega) ) ?_
    exact zx_i (pc := 35) rfl rfl rfl rfl
  · exfalso; omega
end m1
