section m1
variable {g : zG} {h hh : zH} {F : Nat → Nat} {S : Int64} {z : Nat → Nat} {A : Nat → Nat → Nat} {X : Nat → Int32}
def msd (u z : Nat → Nat) (k : Nat) : Nat → Nat := fun j => if j < k then z j else u j
/-- n cells and m signs of line l of u stand in line t of z -/
def mtkp (z u : Nat → Nat) (t l n m : Nat) : Nat → Nat := fun j => if j = 1 + t then u (1 + l) else if 25 + 8 * t ≤ j ∧ j < 25 + 8 * t + n then u (25 + 8 * l + (j - (25 + 8 * t))) else if 217 + 128 * t ≤ j ∧ j < 217 + 128 * t + m then u (217 + 128 * l + (j - (217 + 128 * t))) else z j
abbrev mtk (z u : Nat → Nat) (t l : Nat) : Nat → Nat := mtkp z u t l 8 128
theorem m_setAside_l {u : Nat → Nat} : ∀ (n : Nat) (k : Nat), k + n = 3289 → Zn g zX10_setAside 2 [some (.ref 50), some (.int (nI k))] [] (mhp h F S z (va_up A 1 (msd u z k)) X) 0 0 (fun r' h' => r' = .inl none ∧ h' = (mhp h F S z (va_up A 1 (msd u z 3289)) X)) := by
  intro n
  induction n with
  | zero =>
    intro k hn0
    refine zn_iload_n (pc := 2) rfl rfl ?_
    refine zn_sipushN (pc := 3) 3289 rfl rfl ?_
    refine zn_icmp_geN (pc := 6) (tgt := 27) (x := k) (y := 3289) rfl rfl (by omega) (by omega) (fun c1 => ?_) (fun c1 => ?_)
    · obtain rfl : k = 3289 := by omega
      exact zx_v (pc := 27) rfl rfl rfl rfl
    · exfalso; omega
  | succ n ih =>
    intro k hn0
    refine zn_iload_n (pc := 2) rfl rfl ?_
    refine zn_sipushN (pc := 3) 3289 rfl rfl ?_
    refine zn_icmp_geN (pc := 6) (tgt := 27) (x := k) (y := 3289) rfl rfl (by omega) (by omega) (fun c1 => ?_) (fun c1 => ?_)
    · obtain rfl : k = 3289 := by omega
      exact zx_v (pc := 27) rfl rfl rfl rfl
    · refine zn_aload_n (pc := 9) rfl rfl ?_
      refine zn_get (pc := 10) (v := .ref 52) rfl rfl rfl ?_
      refine zn_iload_n (pc := 13) rfl rfl ?_
      refine zn_aload_n (pc := 14) rfl rfl ?_
      refine zn_get (pc := 15) (v := .ref 51) rfl rfl rfl ?_
      refine zn_iload_n (pc := 18) rfl rfl ?_
      refine zn_naLd (pc := 19) (o := 51) (n := 3289) (Z := z) (j := k) rfl rfl (by omega) (Nat.le_of_ble_eq_true rfl) ?_
      refine zm_stA (pc := 20) (i := 1) (n := 3289) (j := k) (v := (z k)) rfl (by decide) (by decide) rfl mln1 (by omega) (Nat.le_of_ble_eq_true rfl) ?_
      refine zn_iincN (pc := 21) (L' := [some (.ref 50), some (.int (nI (k + 1)))]) 1 rfl rfl rfl (by decide) rfl ?_
      refine zn_goto (pc := 24) (tgt := 2) rfl rfl ?_
      refine zn_heq (h' := mhp h F S z (va_up A 1 (msd u z (k + 1))) X) (mh_eq rfl rfl ?_) (ih (k + 1) (by omega))
      · rw [bx_uu]
        refine congrArg (va_up A 1) ?_
        funext j
        simp only [va_up, ↓reduceIte, msd]
        repeat' split
        all_goals first | omega | rfl | (exact congrArg z (by omega))
theorem m_setAside   : Zx g zX10_setAside [.ref 50] (mhp h F S z A X) none (mhp h F S z (va_up A 1 (msd (A 1) z 3289)) X) := by
  show Zn g zX10_setAside 0 [some (.ref 50), none] [] (mhp h F S z A X) 0 0 _
  refine zn_iconstN (pc := 0) 0 rfl rfl ?_
  refine zn_istore_n (pc := 1) (L' := [some (.ref 50), some (.int (nI 0))]) rfl (by decide) rfl ?_
  refine zn_heq (h' := mhp h F S z (va_up A 1 (msd (A 1) z 0)) X) (mh_eq rfl rfl ?_) (m_setAside_l (u := A 1) 3289 0 (by omega))
  · rw [show msd (A 1) z 0 = A 1 by funext j; simp [msd], va_self]
theorem m_takeAside_2 {t l : Nat} {u : Nat → Nat} (ht : t < 24) (hl : l < 24) (hu : A 1 = u) : ∀ (n : Nat) (k : Nat), k + n = 128 → Zn g zX10_takeAside 60 [some (.ref 50), some (.int (nI t)), some (.int (nI l)), some (.int (nI k))] [] (mhp h F S (mtkp z u t l 8 k) A X) 0 0 (fun r' h' => r' = .inl none ∧ h' = (mhp h F S (mtkp z u t l 8 128) A X)) := by
  intro n
  induction n with
  | zero =>
    intro k hn0
    refine zn_iload_n (pc := 60) rfl rfl ?_
    refine zn_sipushN (pc := 61) 128 rfl rfl ?_
    refine zn_icmp_geN (pc := 64) (tgt := 95) (x := k) (y := 128) rfl rfl (by omega) (by omega) (fun c1 => ?_) (fun c1 => ?_)
    · obtain rfl : k = 128 := by omega
      exact zx_v (pc := 95) rfl rfl rfl rfl
    · exfalso; omega
  | succ n ih =>
    intro k hn0
    refine zn_iload_n (pc := 60) rfl rfl ?_
    refine zn_sipushN (pc := 61) 128 rfl rfl ?_
    refine zn_icmp_geN (pc := 64) (tgt := 95) (x := k) (y := 128) rfl rfl (by omega) (by omega) (fun c1 => ?_) (fun c1 => ?_)
    · obtain rfl : k = 128 := by omega
      exact zx_v (pc := 95) rfl rfl rfl rfl
    · refine zn_aload_n (pc := 67) rfl rfl ?_
      refine zn_get (pc := 68) (v := .ref 51) rfl rfl rfl ?_
      refine zn_iload_n (pc := 71) rfl rfl ?_
      refine zn_iconstN (pc := 72) 0 rfl rfl ?_
      refine zn_iload_n (pc := 73) rfl rfl ?_
      refine zn_callSx (pc := 74) (J := zX10_place) (as := [.int (nI t), .int (nI 0), .int (nI k)]) (rest := [.ref 51]) rfl (by decide) rfl rfl rfl rfl (Nat.le_of_ble_eq_true rfl) (Nat.le_of_ble_eq_true rfl) (Nat.le_of_ble_eq_true rfl) (Nat.le_of_ble_eq_true rfl) (m_place t 0 k) ?_
      refine zn_aload_n (pc := 77) rfl rfl ?_
      refine zn_get (pc := 78) (v := .ref 52) rfl rfl rfl ?_
      refine zn_iload_n (pc := 81) rfl rfl ?_
      refine zn_iconstN (pc := 82) 0 rfl rfl ?_
      refine zn_iload_n (pc := 83) rfl rfl ?_
      refine zn_callSx (pc := 84) (J := zX10_place) (as := [.int (nI l), .int (nI 0), .int (nI k)]) (rest := [.ref 52, .int (nI (217 + 16 * (8 * t + 0) + k)), .ref 51]) rfl (by decide) rfl rfl rfl rfl (Nat.le_of_ble_eq_true rfl) (Nat.le_of_ble_eq_true rfl) (Nat.le_of_ble_eq_true rfl) (Nat.le_of_ble_eq_true rfl) (m_place l 0 k) ?_
      refine zm_ldA (pc := 87) (i := 1) (n := 3289) (Z := (A 1)) (j := (217 + 16 * (8 * l + 0) + k)) rfl (by decide) (by decide) rfl mln1 rfl (by omega) (Nat.le_of_ble_eq_true rfl) ?_
      refine zn_top (v' := .int (nI (u (217 + 16 * (8 * l + 0) + k)))) (by rw [hu]) ?_
      refine zm_stz (pc := 88) (j := (217 + 16 * (8 * t + 0) + k)) (v := (u (217 + 16 * (8 * l + 0) + k))) rfl (by omega) ?_
      refine zn_iincN (pc := 89) (L' := [some (.ref 50), some (.int (nI t)), some (.int (nI l)), some (.int (nI (k + 1)))]) 1 rfl rfl rfl (by decide) rfl ?_
      refine zn_goto (pc := 92) (tgt := 60) rfl rfl ?_
      refine zn_heq (h' := mhp h F S (mtkp z u t l 8 (k + 1)) A X) (congrArg (fun w => mhp h F S w A X) ?_) (ih (k + 1) (by omega))
      · funext j
        simp only [va_up, mtkp]
        repeat' split
        all_goals first | omega | rfl | exact congrArg u (by omega) | exact congrArg z (by omega)
theorem m_takeAside_1 {t l : Nat} {u : Nat → Nat} (ht : t < 24) (hl : l < 24) (hu : A 1 = u) : ∀ (n : Nat) (k : Nat), k + n = 8 → Zn g zX10_takeAside 18 [some (.ref 50), some (.int (nI t)), some (.int (nI l)), some (.int (nI k))] [] (mhp h F S (mtkp z u t l k 0) A X) 0 0 (fun r' h' => r' = .inl none ∧ h' = (mhp h F S (mtkp z u t l 8 128) A X)) := by
  intro n
  induction n with
  | zero =>
    intro k hn0
    refine zn_iload_n (pc := 18) rfl rfl ?_
    refine zn_bipushN (pc := 19) 8 rfl rfl ?_
    refine zn_icmp_geN (pc := 21) (tgt := 58) (x := k) (y := 8) rfl rfl (by omega) (by omega) (fun c1 => ?_) (fun c1 => ?_)
    · refine zn_iconstN (pc := 58) 0 rfl rfl ?_
      refine zn_istore_n (pc := 59) (L' := [some (.ref 50), some (.int (nI t)), some (.int (nI l)), some (.int (nI 0))]) rfl (by decide) rfl ?_
      obtain rfl : k = 8 := by omega
      exact m_takeAside_2 ht hl hu 128 0 (by omega)
    · exfalso; omega
  | succ n ih =>
    intro k hn0
    refine zn_iload_n (pc := 18) rfl rfl ?_
    refine zn_bipushN (pc := 19) 8 rfl rfl ?_
    refine zn_icmp_geN (pc := 21) (tgt := 58) (x := k) (y := 8) rfl rfl (by omega) (by omega) (fun c1 => ?_) (fun c1 => ?_)
    · refine zn_iconstN (pc := 58) 0 rfl rfl ?_
      refine zn_istore_n (pc := 59) (L' := [some (.ref 50), some (.int (nI t)), some (.int (nI l)), some (.int (nI 0))]) rfl (by decide) rfl ?_
      obtain rfl : k = 8 := by omega
      exact m_takeAside_2 ht hl hu 128 0 (by omega)
    · refine zn_aload_n (pc := 24) rfl rfl ?_
      refine zn_get (pc := 25) (v := .ref 51) rfl rfl rfl ?_
      refine zn_bipushN (pc := 28) 25 rfl rfl ?_
      refine zn_bipushN (pc := 30) 8 rfl rfl ?_
      refine zn_iload_n (pc := 32) rfl rfl ?_
      refine zn_imulN (pc := 33) (x := 8) (y := t) rfl ?_
      refine zn_iaddN (pc := 34) (x := 25) (y := (8 * t)) rfl ?_
      refine zn_iload_n (pc := 35) rfl rfl ?_
      refine zn_iaddN (pc := 36) (x := (25 + (8 * t))) (y := k) rfl ?_
      refine zn_aload_n (pc := 37) rfl rfl ?_
      refine zn_get (pc := 38) (v := .ref 52) rfl rfl rfl ?_
      refine zn_bipushN (pc := 41) 25 rfl rfl ?_
      refine zn_bipushN (pc := 43) 8 rfl rfl ?_
      refine zn_iload_n (pc := 45) rfl rfl ?_
      refine zn_imulN (pc := 46) (x := 8) (y := l) rfl ?_
      refine zn_iaddN (pc := 47) (x := 25) (y := (8 * l)) rfl ?_
      refine zn_iload_n (pc := 48) rfl rfl ?_
      refine zn_iaddN (pc := 49) (x := (25 + (8 * l))) (y := k) rfl ?_
      refine zm_ldA (pc := 50) (i := 1) (n := 3289) (Z := (A 1)) (j := ((25 + (8 * l)) + k)) rfl (by decide) (by decide) rfl mln1 rfl (by omega) (Nat.le_of_ble_eq_true rfl) ?_
      refine zn_top (v' := .int (nI (u ((25 + (8 * l)) + k)))) (by rw [hu]) ?_
      refine zm_stz (pc := 51) (j := ((25 + (8 * t)) + k)) (v := (u ((25 + (8 * l)) + k))) rfl (by omega) ?_
      refine zn_iincN (pc := 52) (L' := [some (.ref 50), some (.int (nI t)), some (.int (nI l)), some (.int (nI (k + 1)))]) 1 rfl rfl rfl (by decide) rfl ?_
      refine zn_goto (pc := 55) (tgt := 18) rfl rfl ?_
      refine zn_heq (h' := mhp h F S (mtkp z u t l (k + 1) 0) A X) (congrArg (fun w => mhp h F S w A X) ?_) (ih (k + 1) (by omega))
      · funext j
        simp only [va_up, mtkp]
        repeat' split
        all_goals first | omega | rfl | exact congrArg u (by omega) | exact congrArg z (by omega)
theorem m_takeAside  {t l : Nat} {u : Nat → Nat} (ht : t < 24) (hl : l < 24) (hu : A 1 = u) : Zx g zX10_takeAside [.ref 50, .int (nI t), .int (nI l)] (mhp h F S z A X) none (mhp h F S (mtk z u t l) A X) := by
  show Zn g zX10_takeAside 0 [some (.ref 50), some (.int (nI t)), some (.int (nI l)), none] [] (mhp h F S z A X) 0 0 _
  refine zn_aload_n (pc := 0) rfl rfl ?_
  refine zn_get (pc := 1) (v := .ref 51) rfl rfl rfl ?_
  refine zn_iconstN (pc := 4) 1 rfl rfl ?_
  refine zn_iload_n (pc := 5) rfl rfl ?_
  refine zn_iaddN (pc := 6) (x := 1) (y := t) rfl ?_
  refine zn_aload_n (pc := 7) rfl rfl ?_
  refine zn_get (pc := 8) (v := .ref 52) rfl rfl rfl ?_
  refine zn_iconstN (pc := 11) 1 rfl rfl ?_
  refine zn_iload_n (pc := 12) rfl rfl ?_
  refine zn_iaddN (pc := 13) (x := 1) (y := l) rfl ?_
  refine zm_ldA (pc := 14) (i := 1) (n := 3289) (Z := (A 1)) (j := (1 + l)) rfl (by decide) (by decide) rfl mln1 rfl (by omega) (Nat.le_of_ble_eq_true rfl) ?_
  refine zn_top (v' := .int (nI (u (1 + l)))) (by rw [hu]) ?_
  refine zm_stz (pc := 15) (j := (1 + t)) (v := (u (1 + l))) rfl (by omega) ?_
  refine zn_iconstN (pc := 16) 0 rfl rfl ?_
  refine zn_istore_n (pc := 17) (L' := [some (.ref 50), some (.int (nI t)), some (.int (nI l)), some (.int (nI 0))]) rfl (by decide) rfl ?_
  refine zn_heq (h' := mhp h F S (mtkp z u t l 0 0) A X) (congrArg (fun w => mhp h F S w A X) ?_) (m_takeAside_1 ht hl hu 8 0 (by omega))
  · funext j
    simp only [va_up, mtkp]
    repeat' split
    all_goals first | omega | rfl | exact congrArg u (by omega) | exact congrArg z (by omega)
theorem m_moveLine_1  (h0 : 1 ≤ z 0) (h1 : z 0 ≤ 24) (x y : Int32) (hp : ¬ (zin x (z 0) ∧ zin y (z 0))) : Zx g zX10_moveLine [.ref 50, .int x, .int y] (mhp h F S z A X) (some (.int (nI 0))) (mhp h (va_up F 0 1) S z A X) := by
  show Zn g zX10_moveLine 0 [some (.ref 50), some (.int x), some (.int y)] [] (mhp h F S z A X) 0 0 _
  refine zn_aload_n (pc := 0) rfl rfl ?_
  refine zn_aload_n (pc := 1) rfl rfl ?_
  refine zn_iload_n (pc := 2) rfl rfl ?_
  refine zn_callVx (pc := 3) (J := zX10_isLine) (o := 50) (as := [.int x]) (rest := [.ref 50]) rfl rfl rfl rfl rfl rfl rfl rfl (Nat.le_of_ble_eq_true rfl) (Nat.le_of_ble_eq_true rfl) (Nat.le_of_ble_eq_true rfl) (Nat.le_of_ble_eq_true rfl) (m_isLine (by omega) (by omega) x) ?_
  refine zn_if_eqB (pc := 6) (tgt := 21) rfl rfl (fun c1 => ?_) (fun c1 => ?_)
  · refine zn_iconstN (pc := 21) 1 rfl rfl ?_
    refine zm_putI (pc := 22) (k := 0) (v := 1) rfl (by decide) rfl rfl ?_
    refine zn_aload_n (pc := 25) rfl rfl ?_
    refine zn_get (pc := 26) (v := .int (nI 1)) rfl rfl rfl ?_
    refine zn_if_leN (pc := 29) (tgt := 34) (x := 1) rfl rfl (by omega) (fun c2 => ?_) (fun c2 => ?_)
    · exfalso; omega
    · refine zn_iconstN (pc := 32) 0 rfl rfl ?_
      exact zx_i (pc := 33) rfl rfl rfl rfl
  · refine zn_aload_n (pc := 9) rfl rfl ?_
    refine zn_iload_n (pc := 10) rfl rfl ?_
    refine zn_callVx (pc := 11) (J := zX10_isLine) (o := 50) (as := [.int y]) (rest := [.ref 50]) rfl rfl rfl rfl rfl rfl rfl rfl (Nat.le_of_ble_eq_true rfl) (Nat.le_of_ble_eq_true rfl) (Nat.le_of_ble_eq_true rfl) (Nat.le_of_ble_eq_true rfl) (m_isLine (by omega) (by omega) y) ?_
    refine zn_if_eqB (pc := 14) (tgt := 21) rfl rfl (fun c3 => ?_) (fun c3 => ?_)
    · refine zn_iconstN (pc := 21) 1 rfl rfl ?_
      refine zm_putI (pc := 22) (k := 0) (v := 1) rfl (by decide) rfl rfl ?_
      refine zn_aload_n (pc := 25) rfl rfl ?_
      refine zn_get (pc := 26) (v := .int (nI 1)) rfl rfl rfl ?_
      refine zn_if_leN (pc := 29) (tgt := 34) (x := 1) rfl rfl (by omega) (fun c4 => ?_) (fun c4 => ?_)
      · exfalso; omega
      · refine zn_iconstN (pc := 32) 0 rfl rfl ?_
        exact zx_i (pc := 33) rfl rfl rfl rfl
    · exact absurd ⟨by assumption, by assumption⟩ hp
def mmv (z u : Nat → Nat) (l t : Nat) : Nat → Nat := mtk (mopl (mcll z l) t) u t l
theorem m_moveLine_0  (hz : mOK z) {l t : Nat} (hl : l < z 0) (ht : t < z 0) (hu : F 5 ≤ 10) (hz2 : mOK (mmv z (msd (A 1) z 3289) l t)) (hzb2 : ∀ j, mmv z (msd (A 1) z 3289) l t j < 1000) (h4 : ∀ j, A 4 j ≤ 3) (hg : 1 ≤ F 10) (hg8 : F 10 ≤ 8) (hlw : F 9 ≤ 20) (hpd : F 8 ≤ 8) : Zx g zX10_moveLine [.ref 50, .int (nI l), .int (nI t)] (mhp h F S z A X) (some (.int (nI ((bAll (mmv z (msd (A 1) z 3289) l t) 7).length)))) (mhp h (va_up (va_up (va_up (va_up F 0 0) 5 (min (F 5) 9 + 1)) 6 0) 13 (bAll (mmv z (msd (A 1) z 3289) l t) 7).length) S (mmv z (msd (A 1) z 3289) l t) (mL (va_up (va_up (va_up F 0 0) 5 (min (F 5) 9 + 1)) 6 0) (mmv z (msd (A 1) z 3289) l t) (va_up (va_up A 2 (msave (A 2) z (F 5))) 1 (msd (A 1) z 3289)) (bAll (mmv z (msd (A 1) z 3289) l t) 7)) X) := by
  have h0 := hz.1
  have h1 := hz.2.1
  have hp : zin (nI l) (z 0) := (zin_nI (by omega)).mpr hl
  have hq : zin (nI t) (z 0) := (zin_nI (by omega)).mpr ht
  have e0 : mcll z l 0 = z 0 - 1 := va_upS _ _ _
  show Zn g zX10_moveLine 0 [some (.ref 50), some (.int (nI l)), some (.int (nI t))] [] (mhp h F S z A X) 0 0 _
  refine zn_aload_n (pc := 0) rfl rfl ?_
  refine zn_aload_n (pc := 1) rfl rfl ?_
  refine zn_iload_n (pc := 2) rfl rfl ?_
  refine zn_callVx (pc := 3) (J := zX10_isLine) (o := 50) (as := [.int (nI l)]) (rest := [.ref 50]) rfl rfl rfl rfl rfl rfl rfl rfl (Nat.le_of_ble_eq_true rfl) (Nat.le_of_ble_eq_true rfl) (Nat.le_of_ble_eq_true rfl) (Nat.le_of_ble_eq_true rfl) (m_isLine (by omega) (by omega) (nI l)) ?_
  refine zn_if_eqB (pc := 6) (tgt := 21) rfl rfl (fun c1 => ?_) (fun c1 => ?_)
  · exact absurd hp c1
  · refine zn_aload_n (pc := 9) rfl rfl ?_
    refine zn_iload_n (pc := 10) rfl rfl ?_
    refine zn_callVx (pc := 11) (J := zX10_isLine) (o := 50) (as := [.int (nI t)]) (rest := [.ref 50]) rfl rfl rfl rfl rfl rfl rfl rfl (Nat.le_of_ble_eq_true rfl) (Nat.le_of_ble_eq_true rfl) (Nat.le_of_ble_eq_true rfl) (Nat.le_of_ble_eq_true rfl) (m_isLine (by omega) (by omega) (nI t)) ?_
    refine zn_if_eqB (pc := 14) (tgt := 21) rfl rfl (fun c2 => ?_) (fun c2 => ?_)
    · exact absurd hq c2
    · refine zn_iconstN (pc := 17) 0 rfl rfl ?_
      refine zn_goto (pc := 18) (tgt := 22) rfl rfl ?_
      refine zm_putI (pc := 22) (k := 0) (v := 0) rfl (by decide) rfl rfl ?_
      refine zn_aload_n (pc := 25) rfl rfl ?_
      refine zn_get (pc := 26) (v := .int (nI 0)) rfl rfl rfl ?_
      refine zn_if_leN (pc := 29) (tgt := 34) (x := 0) rfl rfl (by omega) (fun c3 => ?_) (fun c3 => ?_)
      · refine zn_aload_n (pc := 34) rfl rfl ?_
        refine zn_callVx (pc := 35) (J := zX10_save) (o := 50) (as := []) (rest := []) rfl rfl rfl rfl rfl rfl rfl rfl (Nat.le_of_ble_eq_true rfl) (Nat.le_of_ble_eq_true rfl) (Nat.le_of_ble_eq_true rfl) (Nat.le_of_ble_eq_true rfl) (m_save (n := (F 5)) rfl (by omega)) ?_
        refine zn_aload_n (pc := 38) rfl rfl ?_
        refine zn_callVx (pc := 39) (J := zX10_setAside) (o := 50) (as := []) (rest := []) rfl rfl rfl rfl rfl rfl rfl rfl (Nat.le_of_ble_eq_true rfl) (Nat.le_of_ble_eq_true rfl) (Nat.le_of_ble_eq_true rfl) (Nat.le_of_ble_eq_true rfl) m_setAside ?_
        refine zn_aload_n (pc := 42) rfl rfl ?_
        refine zn_iload_n (pc := 43) rfl rfl ?_
        refine zn_callVx (pc := 44) (J := zX10_closeLine) (o := 50) (as := [.int (nI l)]) (rest := []) rfl rfl rfl rfl rfl rfl rfl rfl (Nat.le_of_ble_eq_true rfl) (Nat.le_of_ble_eq_true rfl) (Nat.le_of_ble_eq_true rfl) (Nat.le_of_ble_eq_true rfl) (m_closeLine (l := l) (by omega) (by omega) (by omega)) ?_
        refine zn_aload_n (pc := 47) rfl rfl ?_
        refine zn_iload_n (pc := 48) rfl rfl ?_
        refine zn_callVx (pc := 49) (J := zX10_openLine) (o := 50) (as := [.int (nI t)]) (rest := []) rfl rfl rfl rfl rfl rfl rfl rfl (Nat.le_of_ble_eq_true rfl) (Nat.le_of_ble_eq_true rfl) (Nat.le_of_ble_eq_true rfl) (Nat.le_of_ble_eq_true rfl) (m_openLine (l := t) (by omega) (by omega) (by omega)) ?_
        refine zn_aload_n (pc := 52) rfl rfl ?_
        refine zn_iload_n (pc := 53) rfl rfl ?_
        refine zn_iload_n (pc := 54) rfl rfl ?_
        refine zn_callVx (pc := 55) (J := zX10_takeAside) (o := 50) (as := [.int (nI t), .int (nI l)]) (rest := []) rfl rfl rfl rfl rfl rfl rfl rfl (Nat.le_of_ble_eq_true rfl) (Nat.le_of_ble_eq_true rfl) (Nat.le_of_ble_eq_true rfl) (Nat.le_of_ble_eq_true rfl) (m_takeAside (t := t) (l := l) (u := (msd (A 1) z 3289)) (by omega) (by omega) rfl) ?_
        refine zn_aload_n (pc := 58) rfl rfl ?_
        refine zn_callVx (pc := 59) (J := zX10_layBlocks) (o := 50) (as := []) (rest := []) rfl rfl rfl rfl rfl rfl rfl rfl (Nat.le_of_ble_eq_true rfl) (Nat.le_of_ble_eq_true rfl) (Nat.le_of_ble_eq_true rfl) (Nat.le_of_ble_eq_true rfl) (m_layBlocks hz2 hzb2 h4 hg hg8 hlw hpd) ?_
        exact zx_i (pc := 62) rfl rfl rfl rfl
      · exfalso; omega
end m1
