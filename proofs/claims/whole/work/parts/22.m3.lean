section m1
variable {g : zG} {h hh : zH} {F : Nat → Nat} {S : Int64} {z : Nat → Nat} {A : Nat → Nat → Nat} {X : Nat → Int32}
def mzr (z u : Nat → Nat) (b k : Nat) : Nat → Nat := fun j => if j < k then u (b + j) else z j
theorem m_undo_l {u : Nat} (hu : u + F 6 ≤ 9) : ∀ (n : Nat) (k : Nat), k + n = 3289 → Zn g zX10_undo 37 [some (.ref 50), some (.int (nI k))] [] (mhp h (va_up (va_up F 0 0) 5 u) S (mzr z (A 2) (3289 * u) k) (va_up A 3 (mrow (A 3) z (3289 * F 6) k)) X) 0 0 (fun r' h' => r' = .inl (some (.int (nI u))) ∧ h' = (mhp h (va_up (va_up (va_up F 0 0) 5 u) 6 (F 6 + 1)) S (mzr z (A 2) (3289 * u) 3289) (va_up A 3 (mrow (A 3) z (3289 * F 6) 3289)) X)) := by
  intro n
  induction n with
  | zero =>
    intro k hn0
    refine zn_iload_n (pc := 37) rfl rfl ?_
    refine zn_sipushN (pc := 38) 3289 rfl rfl ?_
    refine zn_icmp_geN (pc := 41) (tgt := 92) (x := k) (y := 3289) rfl rfl (by omega) (by omega) (fun c1 => ?_) (fun c1 => ?_)
    · refine zn_aload_n (pc := 92) rfl rfl ?_
      refine zn_dup (pc := 93) rfl rfl ?_
      refine zn_get (pc := 94) (v := .int (nI (F 6))) rfl rfl rfl ?_
      refine zn_iconstN (pc := 97) 1 rfl rfl ?_
      refine zn_iaddN (pc := 98) (x := (F 6)) (y := 1) rfl ?_
      refine zm_putI (pc := 99) (k := 6) (v := (F 6 + 1)) rfl (by decide) rfl rfl ?_
      refine zn_aload_n (pc := 102) rfl rfl ?_
      refine zn_get (pc := 103) (v := .int (nI u)) rfl rfl rfl ?_
      obtain rfl : k = 3289 := by omega
      exact zx_i (pc := 106) rfl rfl rfl rfl
    · refine zn_aload_n (pc := 44) rfl rfl ?_
      refine zn_get (pc := 45) (v := .ref 54) rfl rfl rfl ?_
      refine zn_sipushN (pc := 48) 3289 rfl rfl ?_
      refine zn_aload_n (pc := 51) rfl rfl ?_
      refine zn_get (pc := 52) (v := .int (nI (F 6))) rfl rfl rfl ?_
      refine zn_imulN (pc := 55) (x := 3289) (y := (F 6)) rfl ?_
      refine zn_iload_n (pc := 56) rfl rfl ?_
      refine zn_iaddN (pc := 57) (x := (3289 * (F 6))) (y := k) rfl ?_
      refine zn_aload_n (pc := 58) rfl rfl ?_
      refine zn_get (pc := 59) (v := .ref 51) rfl rfl rfl ?_
      refine zn_iload_n (pc := 62) rfl rfl ?_
      refine zn_naLd (pc := 63) (o := 51) (n := 3289) (Z := (mzr z (A 2) (3289 * u) k)) (j := k) rfl rfl (by omega) (Nat.le_of_ble_eq_true rfl) ?_
      refine zn_top (v' := .int (nI (z k))) (by rw [show mzr z (A 2) (3289 * u) k k = z k by simp [mzr]]) ?_
      refine zm_stA (pc := 64) (i := 3) (n := 32890) (j := ((3289 * (F 6)) + k)) (v := (z k)) rfl (by decide) (by decide) rfl mln3 (by omega) (Nat.le_of_ble_eq_true rfl) ?_
      refine zn_aload_n (pc := 65) rfl rfl ?_
      refine zn_get (pc := 66) (v := .ref 51) rfl rfl rfl ?_
      refine zn_iload_n (pc := 69) rfl rfl ?_
      refine zn_aload_n (pc := 70) rfl rfl ?_
      refine zn_get (pc := 71) (v := .ref 53) rfl rfl rfl ?_
      refine zn_sipushN (pc := 74) 3289 rfl rfl ?_
      refine zn_aload_n (pc := 77) rfl rfl ?_
      refine zn_get (pc := 78) (v := .int (nI u)) rfl rfl rfl ?_
      refine zn_imulN (pc := 81) (x := 3289) (y := u) rfl ?_
      refine zn_iload_n (pc := 82) rfl rfl ?_
      refine zn_iaddN (pc := 83) (x := (3289 * u)) (y := k) rfl ?_
      refine zm_ldA (pc := 84) (i := 2) (n := 32890) (Z := (A 2)) (j := ((3289 * u) + k)) rfl (by decide) (by decide) rfl mln2 ((va_upN (by decide)).trans (va_upN (by decide))) (by omega) (Nat.le_of_ble_eq_true rfl) ?_
      refine zm_stz (pc := 85) (j := k) (v := ((A 2) ((3289 * u) + k))) rfl (by omega) ?_
      refine zn_iincN (pc := 86) (L' := [some (.ref 50), some (.int (nI (k + 1)))]) 1 rfl rfl rfl (by decide) rfl ?_
      refine zn_goto (pc := 89) (tgt := 37) rfl rfl ?_
      exfalso; omega
  | succ n ih =>
    intro k hn0
    refine zn_iload_n (pc := 37) rfl rfl ?_
    refine zn_sipushN (pc := 38) 3289 rfl rfl ?_
    refine zn_icmp_geN (pc := 41) (tgt := 92) (x := k) (y := 3289) rfl rfl (by omega) (by omega) (fun c1 => ?_) (fun c1 => ?_)
    · refine zn_aload_n (pc := 92) rfl rfl ?_
      refine zn_dup (pc := 93) rfl rfl ?_
      refine zn_get (pc := 94) (v := .int (nI (F 6))) rfl rfl rfl ?_
      refine zn_iconstN (pc := 97) 1 rfl rfl ?_
      refine zn_iaddN (pc := 98) (x := (F 6)) (y := 1) rfl ?_
      refine zm_putI (pc := 99) (k := 6) (v := (F 6 + 1)) rfl (by decide) rfl rfl ?_
      refine zn_aload_n (pc := 102) rfl rfl ?_
      refine zn_get (pc := 103) (v := .int (nI u)) rfl rfl rfl ?_
      obtain rfl : k = 3289 := by omega
      exact zx_i (pc := 106) rfl rfl rfl rfl
    · refine zn_aload_n (pc := 44) rfl rfl ?_
      refine zn_get (pc := 45) (v := .ref 54) rfl rfl rfl ?_
      refine zn_sipushN (pc := 48) 3289 rfl rfl ?_
      refine zn_aload_n (pc := 51) rfl rfl ?_
      refine zn_get (pc := 52) (v := .int (nI (F 6))) rfl rfl rfl ?_
      refine zn_imulN (pc := 55) (x := 3289) (y := (F 6)) rfl ?_
      refine zn_iload_n (pc := 56) rfl rfl ?_
      refine zn_iaddN (pc := 57) (x := (3289 * (F 6))) (y := k) rfl ?_
      refine zn_aload_n (pc := 58) rfl rfl ?_
      refine zn_get (pc := 59) (v := .ref 51) rfl rfl rfl ?_
      refine zn_iload_n (pc := 62) rfl rfl ?_
      refine zn_naLd (pc := 63) (o := 51) (n := 3289) (Z := (mzr z (A 2) (3289 * u) k)) (j := k) rfl rfl (by omega) (Nat.le_of_ble_eq_true rfl) ?_
      refine zn_top (v' := .int (nI (z k))) (by rw [show mzr z (A 2) (3289 * u) k k = z k by simp [mzr]]) ?_
      refine zm_stA (pc := 64) (i := 3) (n := 32890) (j := ((3289 * (F 6)) + k)) (v := (z k)) rfl (by decide) (by decide) rfl mln3 (by omega) (Nat.le_of_ble_eq_true rfl) ?_
      refine zn_aload_n (pc := 65) rfl rfl ?_
      refine zn_get (pc := 66) (v := .ref 51) rfl rfl rfl ?_
      refine zn_iload_n (pc := 69) rfl rfl ?_
      refine zn_aload_n (pc := 70) rfl rfl ?_
      refine zn_get (pc := 71) (v := .ref 53) rfl rfl rfl ?_
      refine zn_sipushN (pc := 74) 3289 rfl rfl ?_
      refine zn_aload_n (pc := 77) rfl rfl ?_
      refine zn_get (pc := 78) (v := .int (nI u)) rfl rfl rfl ?_
      refine zn_imulN (pc := 81) (x := 3289) (y := u) rfl ?_
      refine zn_iload_n (pc := 82) rfl rfl ?_
      refine zn_iaddN (pc := 83) (x := (3289 * u)) (y := k) rfl ?_
      refine zm_ldA (pc := 84) (i := 2) (n := 32890) (Z := (A 2)) (j := ((3289 * u) + k)) rfl (by decide) (by decide) rfl mln2 ((va_upN (by decide)).trans (va_upN (by decide))) (by omega) (Nat.le_of_ble_eq_true rfl) ?_
      refine zm_stz (pc := 85) (j := k) (v := ((A 2) ((3289 * u) + k))) rfl (by omega) ?_
      refine zn_iincN (pc := 86) (L' := [some (.ref 50), some (.int (nI (k + 1)))]) 1 rfl rfl rfl (by decide) rfl ?_
      refine zn_goto (pc := 89) (tgt := 37) rfl rfl ?_
      refine zn_heq (h' := mhp h (va_up (va_up F 0 0) 5 u) S (mzr z (A 2) (3289 * u) (k + 1)) (va_up A 3 (mrow (A 3) z (3289 * F 6) (k + 1))) X) (mh_eq rfl ?_ ?_) (ih (k + 1) (by omega))
      · funext j
        simp only [va_up, mzr]
        repeat' split
        all_goals first | omega | exact congrArg (A 2) (by omega)
      · rw [bx_uu]
        refine congrArg (va_up A 3) ?_
        funext j
        simp only [va_up, ↓reduceIte, mrow]
        repeat' split
        all_goals first | omega | exact congrArg z (by omega) | exact congrArg (A 3) (by omega)
theorem m_undo_1  (h0 : F 5 = 0) : Zx g zX10_undo [.ref 50] (mhp h F S z A X) (some (.int (nI 0))) (mhp h (va_up F 0 1) S z A X) := by
  show Zn g zX10_undo 0 [some (.ref 50), none] [] (mhp h F S z A X) 0 0 _
  refine zn_aload_n (pc := 0) rfl rfl ?_
  refine zn_aload_n (pc := 1) rfl rfl ?_
  refine zn_get (pc := 2) (v := .int (nI (F 5))) rfl rfl rfl ?_
  refine zn_if_leN (pc := 5) (tgt := 12) (x := (F 5)) rfl rfl (by omega) (fun c1 => ?_) (fun c1 => ?_)
  · refine zn_iconstN (pc := 12) 1 rfl rfl ?_
    refine zm_putI (pc := 13) (k := 0) (v := 1) rfl (by decide) rfl rfl ?_
    refine zn_aload_n (pc := 16) rfl rfl ?_
    refine zn_get (pc := 17) (v := .int (nI 1)) rfl rfl rfl ?_
    refine zn_if_leN (pc := 20) (tgt := 25) (x := 1) rfl rfl (by omega) (fun c2 => ?_) (fun c2 => ?_)
    · exfalso; omega
    · refine zn_iconstN (pc := 23) 0 rfl rfl ?_
      exact zx_i (pc := 24) rfl rfl rfl rfl
  · exfalso; omega
theorem m_undo_0  {u : Nat} (h0 : F 5 = u + 1) (hu : u + F 6 ≤ 9) : Zx g zX10_undo [.ref 50] (mhp h F S z A X) (some (.int (nI u))) (mhp h (va_up (va_up (va_up F 0 0) 5 u) 6 (F 6 + 1)) S (mzr z (A 2) (3289 * u) 3289) (va_up A 3 (mrow (A 3) z (3289 * F 6) 3289)) X) := by
  show Zn g zX10_undo 0 [some (.ref 50), none] [] (mhp h F S z A X) 0 0 _
  refine zn_aload_n (pc := 0) rfl rfl ?_
  refine zn_aload_n (pc := 1) rfl rfl ?_
  refine zn_get (pc := 2) (v := .int (nI (F 5))) rfl rfl rfl ?_
  refine zn_if_leN (pc := 5) (tgt := 12) (x := (F 5)) rfl rfl (by omega) (fun c1 => ?_) (fun c1 => ?_)
  · exfalso; omega
  · refine zn_iconstN (pc := 8) 0 rfl rfl ?_
    refine zn_goto (pc := 9) (tgt := 13) rfl rfl ?_
    refine zm_putI (pc := 13) (k := 0) (v := 0) rfl (by decide) rfl rfl ?_
    refine zn_aload_n (pc := 16) rfl rfl ?_
    refine zn_get (pc := 17) (v := .int (nI 0)) rfl rfl rfl ?_
    refine zn_if_leN (pc := 20) (tgt := 25) (x := 0) rfl rfl (by omega) (fun c2 => ?_) (fun c2 => ?_)
    · refine zn_aload_n (pc := 25) rfl rfl ?_
      refine zn_dup (pc := 26) rfl rfl ?_
      refine zn_get (pc := 27) (v := .int (nI (F 5))) rfl rfl rfl ?_
      refine zn_iconstN (pc := 30) 1 rfl rfl ?_
      refine zn_isubN (pc := 31) (x := (F 5)) (y := 1) rfl (by omega) ?_
      refine zm_putI (pc := 32) (k := 5) (v := ((F 5) - 1)) rfl (by decide) rfl rfl ?_
      refine zn_iconstN (pc := 35) 0 rfl rfl ?_
      refine zn_istore_n (pc := 36) (L' := [some (.ref 50), some (.int (nI 0))]) rfl (by decide) rfl ?_
      refine zn_heq (h' := mhp h (va_up (va_up F 0 0) 5 u) S (mzr z (A 2) (3289 * u) 0) (va_up A 3 (mrow (A 3) z (3289 * F 6) 0)) X) (mh_eq (by rw [h0]; rfl) ?_ ?_) (m_undo_l hu 3289 0 (by omega))
      · funext j; simp [mzr]
      · rw [show mrow (A 3) z (3289 * F 6) 0 = A 3 by funext j; simp only [mrow]; split; omega; rfl, va_self]
    · exfalso; omega
theorem m_redo_l {u : Nat} (hu : u + F 5 ≤ 9) : ∀ (n : Nat) (k : Nat), k + n = 3289 → Zn g zX10_redo 37 [some (.ref 50), some (.int (nI k))] [] (mhp h (va_up (va_up F 0 0) 6 u) S (mzr z (A 3) (3289 * u) k) (va_up A 2 (mrow (A 2) z (3289 * F 5) k)) X) 0 0 (fun r' h' => r' = .inl (some (.int (nI u))) ∧ h' = (mhp h (va_up (va_up (va_up F 0 0) 6 u) 5 (F 5 + 1)) S (mzr z (A 3) (3289 * u) 3289) (va_up A 2 (mrow (A 2) z (3289 * F 5) 3289)) X)) := by
  intro n
  induction n with
  | zero =>
    intro k hn0
    refine zn_iload_n (pc := 37) rfl rfl ?_
    refine zn_sipushN (pc := 38) 3289 rfl rfl ?_
    refine zn_icmp_geN (pc := 41) (tgt := 92) (x := k) (y := 3289) rfl rfl (by omega) (by omega) (fun c1 => ?_) (fun c1 => ?_)
    · refine zn_aload_n (pc := 92) rfl rfl ?_
      refine zn_dup (pc := 93) rfl rfl ?_
      refine zn_get (pc := 94) (v := .int (nI (F 5))) rfl rfl rfl ?_
      refine zn_iconstN (pc := 97) 1 rfl rfl ?_
      refine zn_iaddN (pc := 98) (x := (F 5)) (y := 1) rfl ?_
      refine zm_putI (pc := 99) (k := 5) (v := (F 5 + 1)) rfl (by decide) rfl rfl ?_
      refine zn_aload_n (pc := 102) rfl rfl ?_
      refine zn_get (pc := 103) (v := .int (nI u)) rfl rfl rfl ?_
      obtain rfl : k = 3289 := by omega
      exact zx_i (pc := 106) rfl rfl rfl rfl
    · refine zn_aload_n (pc := 44) rfl rfl ?_
      refine zn_get (pc := 45) (v := .ref 53) rfl rfl rfl ?_
      refine zn_sipushN (pc := 48) 3289 rfl rfl ?_
      refine zn_aload_n (pc := 51) rfl rfl ?_
      refine zn_get (pc := 52) (v := .int (nI (F 5))) rfl rfl rfl ?_
      refine zn_imulN (pc := 55) (x := 3289) (y := (F 5)) rfl ?_
      refine zn_iload_n (pc := 56) rfl rfl ?_
      refine zn_iaddN (pc := 57) (x := (3289 * (F 5))) (y := k) rfl ?_
      refine zn_aload_n (pc := 58) rfl rfl ?_
      refine zn_get (pc := 59) (v := .ref 51) rfl rfl rfl ?_
      refine zn_iload_n (pc := 62) rfl rfl ?_
      refine zn_naLd (pc := 63) (o := 51) (n := 3289) (Z := (mzr z (A 3) (3289 * u) k)) (j := k) rfl rfl (by omega) (Nat.le_of_ble_eq_true rfl) ?_
      refine zn_top (v' := .int (nI (z k))) (by rw [show mzr z (A 3) (3289 * u) k k = z k by simp [mzr]]) ?_
      refine zm_stA (pc := 64) (i := 2) (n := 32890) (j := ((3289 * (F 5)) + k)) (v := (z k)) rfl (by decide) (by decide) rfl mln2 (by omega) (Nat.le_of_ble_eq_true rfl) ?_
      refine zn_aload_n (pc := 65) rfl rfl ?_
      refine zn_get (pc := 66) (v := .ref 51) rfl rfl rfl ?_
      refine zn_iload_n (pc := 69) rfl rfl ?_
      refine zn_aload_n (pc := 70) rfl rfl ?_
      refine zn_get (pc := 71) (v := .ref 54) rfl rfl rfl ?_
      refine zn_sipushN (pc := 74) 3289 rfl rfl ?_
      refine zn_aload_n (pc := 77) rfl rfl ?_
      refine zn_get (pc := 78) (v := .int (nI u)) rfl rfl rfl ?_
      refine zn_imulN (pc := 81) (x := 3289) (y := u) rfl ?_
      refine zn_iload_n (pc := 82) rfl rfl ?_
      refine zn_iaddN (pc := 83) (x := (3289 * u)) (y := k) rfl ?_
      refine zm_ldA (pc := 84) (i := 3) (n := 32890) (Z := (A 3)) (j := ((3289 * u) + k)) rfl (by decide) (by decide) rfl mln3 ((va_upN (by decide)).trans (va_upN (by decide))) (by omega) (Nat.le_of_ble_eq_true rfl) ?_
      refine zm_stz (pc := 85) (j := k) (v := ((A 3) ((3289 * u) + k))) rfl (by omega) ?_
      refine zn_iincN (pc := 86) (L' := [some (.ref 50), some (.int (nI (k + 1)))]) 1 rfl rfl rfl (by decide) rfl ?_
      refine zn_goto (pc := 89) (tgt := 37) rfl rfl ?_
      exfalso; omega
  | succ n ih =>
    intro k hn0
    refine zn_iload_n (pc := 37) rfl rfl ?_
    refine zn_sipushN (pc := 38) 3289 rfl rfl ?_
    refine zn_icmp_geN (pc := 41) (tgt := 92) (x := k) (y := 3289) rfl rfl (by omega) (by omega) (fun c1 => ?_) (fun c1 => ?_)
    · refine zn_aload_n (pc := 92) rfl rfl ?_
      refine zn_dup (pc := 93) rfl rfl ?_
      refine zn_get (pc := 94) (v := .int (nI (F 5))) rfl rfl rfl ?_
      refine zn_iconstN (pc := 97) 1 rfl rfl ?_
      refine zn_iaddN (pc := 98) (x := (F 5)) (y := 1) rfl ?_
      refine zm_putI (pc := 99) (k := 5) (v := (F 5 + 1)) rfl (by decide) rfl rfl ?_
      refine zn_aload_n (pc := 102) rfl rfl ?_
      refine zn_get (pc := 103) (v := .int (nI u)) rfl rfl rfl ?_
      obtain rfl : k = 3289 := by omega
      exact zx_i (pc := 106) rfl rfl rfl rfl
    · refine zn_aload_n (pc := 44) rfl rfl ?_
      refine zn_get (pc := 45) (v := .ref 53) rfl rfl rfl ?_
      refine zn_sipushN (pc := 48) 3289 rfl rfl ?_
      refine zn_aload_n (pc := 51) rfl rfl ?_
      refine zn_get (pc := 52) (v := .int (nI (F 5))) rfl rfl rfl ?_
      refine zn_imulN (pc := 55) (x := 3289) (y := (F 5)) rfl ?_
      refine zn_iload_n (pc := 56) rfl rfl ?_
      refine zn_iaddN (pc := 57) (x := (3289 * (F 5))) (y := k) rfl ?_
      refine zn_aload_n (pc := 58) rfl rfl ?_
      refine zn_get (pc := 59) (v := .ref 51) rfl rfl rfl ?_
      refine zn_iload_n (pc := 62) rfl rfl ?_
      refine zn_naLd (pc := 63) (o := 51) (n := 3289) (Z := (mzr z (A 3) (3289 * u) k)) (j := k) rfl rfl (by omega) (Nat.le_of_ble_eq_true rfl) ?_
      refine zn_top (v' := .int (nI (z k))) (by rw [show mzr z (A 3) (3289 * u) k k = z k by simp [mzr]]) ?_
      refine zm_stA (pc := 64) (i := 2) (n := 32890) (j := ((3289 * (F 5)) + k)) (v := (z k)) rfl (by decide) (by decide) rfl mln2 (by omega) (Nat.le_of_ble_eq_true rfl) ?_
      refine zn_aload_n (pc := 65) rfl rfl ?_
      refine zn_get (pc := 66) (v := .ref 51) rfl rfl rfl ?_
      refine zn_iload_n (pc := 69) rfl rfl ?_
      refine zn_aload_n (pc := 70) rfl rfl ?_
      refine zn_get (pc := 71) (v := .ref 54) rfl rfl rfl ?_
      refine zn_sipushN (pc := 74) 3289 rfl rfl ?_
      refine zn_aload_n (pc := 77) rfl rfl ?_
      refine zn_get (pc := 78) (v := .int (nI u)) rfl rfl rfl ?_
      refine zn_imulN (pc := 81) (x := 3289) (y := u) rfl ?_
      refine zn_iload_n (pc := 82) rfl rfl ?_
      refine zn_iaddN (pc := 83) (x := (3289 * u)) (y := k) rfl ?_
      refine zm_ldA (pc := 84) (i := 3) (n := 32890) (Z := (A 3)) (j := ((3289 * u) + k)) rfl (by decide) (by decide) rfl mln3 ((va_upN (by decide)).trans (va_upN (by decide))) (by omega) (Nat.le_of_ble_eq_true rfl) ?_
      refine zm_stz (pc := 85) (j := k) (v := ((A 3) ((3289 * u) + k))) rfl (by omega) ?_
      refine zn_iincN (pc := 86) (L' := [some (.ref 50), some (.int (nI (k + 1)))]) 1 rfl rfl rfl (by decide) rfl ?_
      refine zn_goto (pc := 89) (tgt := 37) rfl rfl ?_
      refine zn_heq (h' := mhp h (va_up (va_up F 0 0) 6 u) S (mzr z (A 3) (3289 * u) (k + 1)) (va_up A 2 (mrow (A 2) z (3289 * F 5) (k + 1))) X) (mh_eq rfl ?_ ?_) (ih (k + 1) (by omega))
      · funext j
        simp only [va_up, mzr]
        repeat' split
        all_goals first | omega | exact congrArg (A 3) (by omega)
      · rw [bx_uu]
        refine congrArg (va_up A 2) ?_
        funext j
        simp only [va_up, ↓reduceIte, mrow]
        repeat' split
        all_goals first | omega | exact congrArg z (by omega) | exact congrArg (A 2) (by omega)
theorem m_redo_1  (h0 : F 6 = 0) : Zx g zX10_redo [.ref 50] (mhp h F S z A X) (some (.int (nI 0))) (mhp h (va_up F 0 1) S z A X) := by
  show Zn g zX10_redo 0 [some (.ref 50), none] [] (mhp h F S z A X) 0 0 _
  refine zn_aload_n (pc := 0) rfl rfl ?_
  refine zn_aload_n (pc := 1) rfl rfl ?_
  refine zn_get (pc := 2) (v := .int (nI (F 6))) rfl rfl rfl ?_
  refine zn_if_leN (pc := 5) (tgt := 12) (x := (F 6)) rfl rfl (by omega) (fun c1 => ?_) (fun c1 => ?_)
  · refine zn_iconstN (pc := 12) 1 rfl rfl ?_
    refine zm_putI (pc := 13) (k := 0) (v := 1) rfl (by decide) rfl rfl ?_
    refine zn_aload_n (pc := 16) rfl rfl ?_
    refine zn_get (pc := 17) (v := .int (nI 1)) rfl rfl rfl ?_
    refine zn_if_leN (pc := 20) (tgt := 25) (x := 1) rfl rfl (by omega) (fun c2 => ?_) (fun c2 => ?_)
    · exfalso; omega
    · refine zn_iconstN (pc := 23) 0 rfl rfl ?_
      exact zx_i (pc := 24) rfl rfl rfl rfl
  · exfalso; omega
theorem m_redo_0  {u : Nat} (h0 : F 6 = u + 1) (hu : u + F 5 ≤ 9) : Zx g zX10_redo [.ref 50] (mhp h F S z A X) (some (.int (nI u))) (mhp h (va_up (va_up (va_up F 0 0) 6 u) 5 (F 5 + 1)) S (mzr z (A 3) (3289 * u) 3289) (va_up A 2 (mrow (A 2) z (3289 * F 5) 3289)) X) := by
  show Zn g zX10_redo 0 [some (.ref 50), none] [] (mhp h F S z A X) 0 0 _
  refine zn_aload_n (pc := 0) rfl rfl ?_
  refine zn_aload_n (pc := 1) rfl rfl ?_
  refine zn_get (pc := 2) (v := .int (nI (F 6))) rfl rfl rfl ?_
  refine zn_if_leN (pc := 5) (tgt := 12) (x := (F 6)) rfl rfl (by omega) (fun c1 => ?_) (fun c1 => ?_)
  · exfalso; omega
  · refine zn_iconstN (pc := 8) 0 rfl rfl ?_
    refine zn_goto (pc := 9) (tgt := 13) rfl rfl ?_
    refine zm_putI (pc := 13) (k := 0) (v := 0) rfl (by decide) rfl rfl ?_
    refine zn_aload_n (pc := 16) rfl rfl ?_
    refine zn_get (pc := 17) (v := .int (nI 0)) rfl rfl rfl ?_
    refine zn_if_leN (pc := 20) (tgt := 25) (x := 0) rfl rfl (by omega) (fun c2 => ?_) (fun c2 => ?_)
    · refine zn_aload_n (pc := 25) rfl rfl ?_
      refine zn_dup (pc := 26) rfl rfl ?_
      refine zn_get (pc := 27) (v := .int (nI (F 6))) rfl rfl rfl ?_
      refine zn_iconstN (pc := 30) 1 rfl rfl ?_
      refine zn_isubN (pc := 31) (x := (F 6)) (y := 1) rfl (by omega) ?_
      refine zm_putI (pc := 32) (k := 6) (v := ((F 6) - 1)) rfl (by decide) rfl rfl ?_
      refine zn_iconstN (pc := 35) 0 rfl rfl ?_
      refine zn_istore_n (pc := 36) (L' := [some (.ref 50), some (.int (nI 0))]) rfl (by decide) rfl ?_
      refine zn_heq (h' := mhp h (va_up (va_up F 0 0) 6 u) S (mzr z (A 3) (3289 * u) 0) (va_up A 2 (mrow (A 2) z (3289 * F 5) 0)) X) (mh_eq (by rw [h0]; rfl) ?_ ?_) (m_redo_l hu 3289 0 (by omega))
      · funext j; simp [mzr]
      · rw [show mrow (A 2) z (3289 * F 5) 0 = A 2 by funext j; simp only [mrow]; split; omega; rfl, va_self]
    · exfalso; omega
theorem m_clearInput   : Zx g zX10_clearInput [.ref 50] (mhp h F S z A X) (some (.int (nI (F 11)))) (mhp h (va_up (va_up F 0 0) 11 0) S z A X) := by
  show Zn g zX10_clearInput 0 [some (.ref 50), none] [] (mhp h F S z A X) 0 0 _
  refine zn_aload_n (pc := 0) rfl rfl ?_
  refine zn_iconstN (pc := 1) 0 rfl rfl ?_
  refine zm_putI (pc := 2) (k := 0) (v := 0) rfl (by decide) rfl rfl ?_
  refine zn_aload_n (pc := 5) rfl rfl ?_
  refine zn_get (pc := 6) (v := .int (nI (F 11))) rfl rfl rfl ?_
  refine zn_istore_n (pc := 9) (L' := [some (.ref 50), some (.int (nI (F 11)))]) rfl (by decide) rfl ?_
  refine zn_aload_n (pc := 10) rfl rfl ?_
  refine zn_iconstN (pc := 11) 0 rfl rfl ?_
  refine zm_putI (pc := 12) (k := 11) (v := 0) rfl (by decide) rfl rfl ?_
  refine zn_iload_n (pc := 15) rfl rfl ?_
  exact zx_i (pc := 16) rfl rfl rfl rfl
theorem m_isFigure  (x : Int32) : Zx g zX10_isFigure [.int x] hh (some (.int (zb (nI 48 ≤ x ∧ x ≤ nI 57)))) hh := by
  show Zn g zX10_isFigure 0 [some (.int x)] [] hh 0 0 _
  refine zn_iload_n (pc := 0) rfl rfl ?_
  refine zn_bipushN (pc := 1) 48 rfl rfl ?_
  refine zn_bipushN (pc := 3) 57 rfl rfl ?_
  refine zn_callSx (pc := 5) (J := zX10_within) (as := [.int x, .int (nI 48), .int (nI 57)]) (rest := []) rfl (by decide) rfl rfl rfl rfl (Nat.le_of_ble_eq_true rfl) (Nat.le_of_ble_eq_true rfl) (Nat.le_of_ble_eq_true rfl) (Nat.le_of_ble_eq_true rfl) (m_within x (nI 48) (nI 57)) ?_
  exact zx_z (pc := 8) rfl rfl (zb_and _) rfl rfl
theorem m_append_1  (x : Int32) (hx : ¬ (nI 32 ≤ x ∧ x ≤ nI 126)) : Zx g zX10_append [.ref 50, .int x] (mhp h F S z A X) (some (.int (nI 0))) (mhp h (va_up F 0 1) S z A X) := by
  show Zn g zX10_append 0 [some (.ref 50), some (.int x)] [] (mhp h F S z A X) 0 0 _
  refine zn_aload_n (pc := 0) rfl rfl ?_
  refine zn_iload_n (pc := 1) rfl rfl ?_
  refine zn_bipushN (pc := 2) 32 rfl rfl ?_
  refine zn_bipushN (pc := 4) 126 rfl rfl ?_
  refine zn_callSx (pc := 6) (J := zX10_within) (as := [.int x, .int (nI 32), .int (nI 126)]) (rest := [.ref 50]) rfl (by decide) rfl rfl rfl rfl (Nat.le_of_ble_eq_true rfl) (Nat.le_of_ble_eq_true rfl) (Nat.le_of_ble_eq_true rfl) (Nat.le_of_ble_eq_true rfl) (m_within x (nI 32) (nI 126)) ?_
  refine zn_if_neB (pc := 9) (tgt := 16) rfl rfl (fun c1 => ?_) (fun c1 => ?_)
  · exact absurd c1 hx
  · refine zn_iconstN (pc := 12) 1 rfl rfl ?_
    refine zn_goto (pc := 13) (tgt := 30) rfl rfl ?_
    refine zm_putI (pc := 30) (k := 0) (v := 1) rfl (by decide) rfl rfl ?_
    refine zn_aload_n (pc := 33) rfl rfl ?_
    refine zn_get (pc := 34) (v := .int (nI 1)) rfl rfl rfl ?_
    refine zn_if_leN (pc := 37) (tgt := 42) (x := 1) rfl rfl (by omega) (fun c2 => ?_) (fun c2 => ?_)
    · exfalso; omega
    · refine zn_iconstN (pc := 40) 0 rfl rfl ?_
      exact zx_i (pc := 41) rfl rfl rfl rfl
theorem m_append_2  (x : Int32) (hx : nI 32 ≤ x ∧ x ≤ nI 126) (hs : F 11 = 120) : Zx g zX10_append [.ref 50, .int x] (mhp h F S z A X) (some (.int (nI 0))) (mhp h (va_up F 0 2) S z A X) := by
  show Zn g zX10_append 0 [some (.ref 50), some (.int x)] [] (mhp h F S z A X) 0 0 _
  refine zn_aload_n (pc := 0) rfl rfl ?_
  refine zn_iload_n (pc := 1) rfl rfl ?_
  refine zn_bipushN (pc := 2) 32 rfl rfl ?_
  refine zn_bipushN (pc := 4) 126 rfl rfl ?_
  refine zn_callSx (pc := 6) (J := zX10_within) (as := [.int x, .int (nI 32), .int (nI 126)]) (rest := [.ref 50]) rfl (by decide) rfl rfl rfl rfl (Nat.le_of_ble_eq_true rfl) (Nat.le_of_ble_eq_true rfl) (Nat.le_of_ble_eq_true rfl) (Nat.le_of_ble_eq_true rfl) (m_within x (nI 32) (nI 126)) ?_
  refine zn_if_neB (pc := 9) (tgt := 16) rfl rfl (fun c1 => ?_) (fun c1 => ?_)
  · refine zn_aload_n (pc := 16) rfl rfl ?_
    refine zn_get (pc := 17) (v := .int (nI (F 11))) rfl rfl rfl ?_
    refine zn_bipushN (pc := 20) 120 rfl rfl ?_
    refine zn_icmp_neN (pc := 22) (tgt := 29) (x := (F 11)) (y := 120) rfl rfl (by omega) (by omega) (fun c2 => ?_) (fun c2 => ?_)
    · exfalso; omega
    · refine zn_iconstN (pc := 25) 2 rfl rfl ?_
      refine zn_goto (pc := 26) (tgt := 30) rfl rfl ?_
      refine zm_putI (pc := 30) (k := 0) (v := 2) rfl (by decide) rfl rfl ?_
      refine zn_aload_n (pc := 33) rfl rfl ?_
      refine zn_get (pc := 34) (v := .int (nI 2)) rfl rfl rfl ?_
      refine zn_if_leN (pc := 37) (tgt := 42) (x := 2) rfl rfl (by omega) (fun c3 => ?_) (fun c3 => ?_)
      · exfalso; omega
      · refine zn_iconstN (pc := 40) 0 rfl rfl ?_
        exact zx_i (pc := 41) rfl rfl rfl rfl
  · exact absurd hx c1
theorem m_append_0  {c : Nat} (hx : nI 32 ≤ nI c ∧ nI c ≤ nI 126) (hs : F 11 < 120) : Zx g zX10_append [.ref 50, .int (nI c)] (mhp h F S z A X) (some (.int (nI (F 11 + 1)))) (mhp h (va_up (va_up F 0 0) 11 (F 11 + 1)) S z (va_up A 5 (va_up (A 5) (F 11) c)) X) := by
  show Zn g zX10_append 0 [some (.ref 50), some (.int (nI c))] [] (mhp h F S z A X) 0 0 _
  refine zn_aload_n (pc := 0) rfl rfl ?_
  refine zn_iload_n (pc := 1) rfl rfl ?_
  refine zn_bipushN (pc := 2) 32 rfl rfl ?_
  refine zn_bipushN (pc := 4) 126 rfl rfl ?_
  refine zn_callSx (pc := 6) (J := zX10_within) (as := [.int (nI c), .int (nI 32), .int (nI 126)]) (rest := [.ref 50]) rfl (by decide) rfl rfl rfl rfl (Nat.le_of_ble_eq_true rfl) (Nat.le_of_ble_eq_true rfl) (Nat.le_of_ble_eq_true rfl) (Nat.le_of_ble_eq_true rfl) (m_within (nI c) (nI 32) (nI 126)) ?_
  refine zn_if_neB (pc := 9) (tgt := 16) rfl rfl (fun c1 => ?_) (fun c1 => ?_)
  · refine zn_aload_n (pc := 16) rfl rfl ?_
    refine zn_get (pc := 17) (v := .int (nI (F 11))) rfl rfl rfl ?_
    refine zn_bipushN (pc := 20) 120 rfl rfl ?_
    refine zn_icmp_neN (pc := 22) (tgt := 29) (x := (F 11)) (y := 120) rfl rfl (by omega) (by omega) (fun c2 => ?_) (fun c2 => ?_)
    · refine zn_iconstN (pc := 29) 0 rfl rfl ?_
      refine zm_putI (pc := 30) (k := 0) (v := 0) rfl (by decide) rfl rfl ?_
      refine zn_aload_n (pc := 33) rfl rfl ?_
      refine zn_get (pc := 34) (v := .int (nI 0)) rfl rfl rfl ?_
      refine zn_if_leN (pc := 37) (tgt := 42) (x := 0) rfl rfl (by omega) (fun c3 => ?_) (fun c3 => ?_)
      · refine zn_aload_n (pc := 42) rfl rfl ?_
        refine zn_get (pc := 43) (v := .ref 56) rfl rfl rfl ?_
        refine zn_aload_n (pc := 46) rfl rfl ?_
        refine zn_get (pc := 47) (v := .int (nI (F 11))) rfl rfl rfl ?_
        refine zn_iload_n (pc := 50) rfl rfl ?_
        refine zm_stA (pc := 51) (i := 5) (n := 120) (j := (F 11)) (v := c) rfl (by decide) (by decide) rfl mln5 (by omega) (Nat.le_of_ble_eq_true rfl) ?_
        refine zn_aload_n (pc := 52) rfl rfl ?_
        refine zn_dup (pc := 53) rfl rfl ?_
        refine zn_get (pc := 54) (v := .int (nI (F 11))) rfl rfl rfl ?_
        refine zn_iconstN (pc := 57) 1 rfl rfl ?_
        refine zn_iaddN (pc := 58) (x := (F 11)) (y := 1) rfl ?_
        refine zm_putI (pc := 59) (k := 11) (v := (F 11 + 1)) rfl (by decide) rfl rfl ?_
        refine zn_aload_n (pc := 62) rfl rfl ?_
        refine zn_get (pc := 63) (v := .int (nI (F 11 + 1))) rfl rfl rfl ?_
        exact zx_i (pc := 66) rfl rfl rfl rfl
      · exfalso; omega
    · exfalso; omega
  · exact absurd hx c1
end m1
