section wj
variable {g : zG}
/-! the start: the class's objects after its constructor, told by the reference's rows -/
def s_F : Nat → Nat := fun k => if k = 8 then 2 else if k = 10 then 1 else 0
def s_z : Nat → Nat := va_up (va_up (fun _ => 0) 0 1) 1 1
def s_a : Nat → Nat := (va_up (va_up (va_up (va_up (va_up (va_up (va_up (fun _ => 0) 0 3) 1 3) 2 3) 3 3) 4 3) 5 3) 6 3)
def s_A : Nat → Nat → Nat := fun i => if i = 4 then s_a else fun _ => 0
def s_p : Nat → Option Nat := va_up (fun _ => none) 0 (some 8)
def o_T : List zO := (.inr (8, [.ref 2, .ref 4, .ref 6, .ref 10, .ref 30]) :: ((((([] ++ o_X4_2) ++ o_X2_4) ++ o_X3_6) ++ o_X5_10) ++ o_X5_30))
abbrev s_h (b : Nat → Option zO) : zH := hy 50 1 b o_T
theorem s_T {b : Nat → Option zO} : TOb (s_h b) := hy_at (k := 0) rfl
theorem s_aL (j : Nat) : s_a j ≤ 3 := by
  unfold s_a va_up
  (repeat' split) <;> first | omega | exact Nat.zero_le _ | exact Nat.zero_lt_succ _
theorem s_IO {b : Nat → Option zO} : IOb (s_h b) s_F s_A := ⟨hy_at (k := 1) rfl, hy_at (k := 2) rfl, Nat.le_of_ble_eq_true rfl, fun j => by show (0 : Nat) < 1000; omega⟩
theorem s_FO {b : Nat → Option zO} : FOb (s_h b) s_F s_A := ⟨hy_at (k := 3) rfl, hy_at (k := 4) rfl, Nat.le_of_ble_eq_true rfl, Nat.le_of_ble_eq_true rfl, Nat.le_of_ble_eq_true rfl, Nat.le_of_ble_eq_true rfl, fun j => s_aL j⟩
theorem s_zb (j : Nat) : s_z j < 1000 := by
  unfold s_z va_up
  (repeat' split) <;> first | omega | exact Nat.zero_le _ | exact Nat.zero_lt_succ _
theorem s_z0 : s_z 0 = 1 := rfl
theorem s_z1 : s_z 1 = 1 := rfl
theorem s_zn {j : Nat} (h : 2 ≤ j) : s_z j = 0 := by
  unfold s_z va_up
  rw [if_neg (by omega), if_neg (by omega)]
theorem s_mOK : mOK s_z := by
  refine ⟨by rw [s_z0]; omega, by rw [s_z0]; omega, fun l hl => ?_, fun l c hl hc => ?_⟩
  · rw [s_z0] at hl
    obtain rfl : l = 0 := by omega
    rw [show s_z (1 + 0) = 1 from rfl]
    omega
  · rw [s_zn (by omega)]
    omega
theorem s_tOK : tOK s_z := ⟨s_mOK, s_zb, fun l c k hl hc hk => by rw [s_zn (by omega)] at hk; omega⟩
theorem s_FL : FL s_z (fun _ => 0) 0 := rfl
theorem s_PGe {b : Nat → Option zO} : PGe (s_h b) 8 (fun _ => 0) 0 := ⟨hy_at (k := 7) rfl, hy_at (k := 8) rfl, Nat.zero_le _, fun _ => by show (0 : Nat) < 1000; omega, Or.inl rfl⟩
theorem s_Pg {b : Nat → Option zO} : Pg (s_h b) 8 s_z := ⟨_, _, s_PGe, s_FL, s_tOK⟩
theorem s_pe {i p : Nat} (h : s_p i = some p) : i = 0 ∧ p = 8 := by
  unfold s_p va_up at h
  by_cases e : i = 0
  · rw [if_pos e] at h
    exact ⟨e, (Option.some.inj h).symm⟩
  · rw [if_neg e] at h
    cases h
theorem s_H {b : Nat → Option zO} : HIq (s_h b) s_z (kU s_F s_A) (kV s_F s_A) (s_F 5) (s_F 6) s_p 0 8 := by
  refine ⟨hy_at (k := 5) rfl, hy_at (k := 6) rfl, Nat.zero_le _, Nat.le_of_ble_eq_true rfl, rfl, fun i p' hi hp => ?_, fun i j p' hi hj h1 h2 => ?_, s_Pg, fun d hd => absurd hd (Nat.not_lt_zero d), fun d hd => absurd hd (Nat.not_lt_zero d)⟩
  · rw [(s_pe hp).2]
    exact ⟨_, _, s_PGe⟩
  · rw [(s_pe h1).1, (s_pe h2).1]
theorem s_L10 {b : Nat → Option zO} : LSh (s_h b) 10 := ⟨0, fun _ _ => 0, fun _ => 0, 0, fun _ _ => 0, fun _ => 0, fun _ => 0, fun _ => nI 0, fun k hk => by
  match k, hk with
  | 0, _ => exact hy_at (k := 9) rfl
  | 1, _ => exact hy_at (k := 10) rfl
  | 2, _ => exact hy_at (k := 11) rfl
  | 3, _ => exact hy_at (k := 12) rfl
  | 4, _ => exact hy_at (k := 13) rfl
  | 5, _ => exact hy_at (k := 14) rfl
  | 6, _ => exact hy_at (k := 15) rfl
  | 7, _ => exact hy_at (k := 16) rfl
  | 8, _ => exact hy_at (k := 17) rfl
  | 9, _ => exact hy_at (k := 18) rfl
  | 10, _ => exact hy_at (k := 19) rfl
  | 11, _ => exact hy_at (k := 20) rfl
  | 12, _ => exact hy_at (k := 21) rfl
  | 13, _ => exact hy_at (k := 22) rfl
  | 14, _ => exact hy_at (k := 23) rfl
  | 15, _ => exact hy_at (k := 24) rfl
  | 16, _ => exact hy_at (k := 25) rfl
  | 17, _ => exact hy_at (k := 26) rfl
  | 18, _ => exact hy_at (k := 27) rfl
  | 19, _ => exact hy_at (k := 28) rfl
  | k + 20, h => exact absurd h (by omega)⟩
theorem s_L30 {b : Nat → Option zO} : LSh (s_h b) 30 := ⟨0, fun _ _ => 0, fun _ => 0, 0, fun _ _ => 0, fun _ => 0, fun _ => 0, fun _ => nI 0, fun k hk => by
  match k, hk with
  | 0, _ => exact hy_at (k := 29) rfl
  | 1, _ => exact hy_at (k := 30) rfl
  | 2, _ => exact hy_at (k := 31) rfl
  | 3, _ => exact hy_at (k := 32) rfl
  | 4, _ => exact hy_at (k := 33) rfl
  | 5, _ => exact hy_at (k := 34) rfl
  | 6, _ => exact hy_at (k := 35) rfl
  | 7, _ => exact hy_at (k := 36) rfl
  | 8, _ => exact hy_at (k := 37) rfl
  | 9, _ => exact hy_at (k := 38) rfl
  | 10, _ => exact hy_at (k := 39) rfl
  | 11, _ => exact hy_at (k := 40) rfl
  | 12, _ => exact hy_at (k := 41) rfl
  | 13, _ => exact hy_at (k := 42) rfl
  | 14, _ => exact hy_at (k := 43) rfl
  | 15, _ => exact hy_at (k := 44) rfl
  | 16, _ => exact hy_at (k := 45) rfl
  | 17, _ => exact hy_at (k := 46) rfl
  | 18, _ => exact hy_at (k := 47) rfl
  | 19, _ => exact hy_at (k := 48) rfl
  | k + 20, h => exact absurd h (by omega)⟩
theorem k_X9 {b : Nat → Option zO} : Zm g zX9_init [.ref 1] (hy 2 1 b [.inr (8, [.null, .null, .null, .null, .null])]) 48 7705 (fun r h' => r = .inl none ∧ MF 10 (s_h b) h' ∧ LSh h' 10 ∧ LK h' 10 s_z (pRR s_F s_z s_A) (nbb s_z)) := by
  show Zn g zX9_init 0 [some (.ref 1)] [] (hy 2 1 b [.inr (8, [.null, .null, .null, .null, .null])]) 48 7705 _
  refine zn_aload_n (pc := 0) rfl rfl ?_
  refine zn_obj (pc := 1) rfl (Nat.le_of_ble_eq_true rfl) (Nat.le_of_ble_eq_true rfl) ?_
  refine zn_aload_n (pc := 4) rfl rfl ?_
  refine zn_nw4 (pc := 5) (mc := 47) (ms := 7703) rfl ?_
  refine zn_heq (h' := hy 3 1 b [.inr (8, [.null, .null, .null, .null, .null]), .inr (4, [.null, .int 0])]) (hy_new rfl rfl rfl) ?_
  refine zn_dup (pc := 8) rfl rfl ?_
  refine zn_heq (h' := hy 3 2 (hy 2 1 b [.inr (8, [.null, .null, .null, .null, .null])]).1 [.inr (4, [.null, .int 0])]) (hy_spl rfl rfl) ?_
  refine zn_callIm (pc := 9) (J := zX4_init) (o := 2) (as := []) (rest := [.ref 2, .ref 1]) (mc1 := 1) (ms1 := 120) (mc := 46) (ms := 7583) rfl (by decide) rfl rfl rfl (Nat.le_of_ble_eq_true rfl) (Nat.le_of_ble_eq_true rfl) (Nat.le_of_ble_eq_true rfl) (Nat.le_of_ble_eq_true rfl) (fun E h9 q => by cases q.1) k_X4_2 ?_
  rintro v9 h9 ⟨e1, e2⟩
  cases e1
  subst e2
  refine zn_heq (h' := hy 4 1 b (.inr (8, [.null, .null, .null, .null, .null]) :: ([] ++ o_X4_2))) (hy_app rfl rfl) ?_
  refine zf_putR (pc := 12) (o := 1) (v := 2) (fs := [.null, .null, .null, .null, .null]) (fs' := [.ref 2, .null, .null, .null, .null]) rfl (hy_at (k := 0) rfl) (Nat.le_of_ble_eq_true rfl) rfl rfl ?_
  refine zn_heq (h' := hy 4 1 b (.inr (8, [.ref 2, .null, .null, .null, .null]) :: ([] ++ o_X4_2))) (hy_up (k := 0) rfl (Nat.le_of_ble_eq_true rfl) rfl) ?_
  refine zn_aload_n (pc := 15) rfl rfl ?_
  refine zn_nw2 (pc := 16) (mc := 45) (ms := 7579) rfl ?_
  refine zn_heq (h' := hy 5 1 b (.inr (8, [.ref 2, .null, .null, .null, .null]) :: (([] ++ o_X4_2) ++ [.inr (2, [.null, .int 0, .int 0, .int 0])]))) (hy_new rfl rfl rfl) ?_
  refine zn_dup (pc := 19) rfl rfl ?_
  refine zn_heq (h' := hy 5 4 (hy 4 1 b (.inr (8, [.ref 2, .null, .null, .null, .null]) :: ([] ++ o_X4_2))).1 [.inr (2, [.null, .int 0, .int 0, .int 0])]) (hy_spl rfl rfl) ?_
  refine zn_callIm (pc := 20) (J := zX2_init) (o := 4) (as := []) (rest := [.ref 4, .ref 1]) (mc1 := 1) (ms1 := 7) (mc := 44) (ms := 7572) rfl (by decide) rfl rfl rfl (Nat.le_of_ble_eq_true rfl) (Nat.le_of_ble_eq_true rfl) (Nat.le_of_ble_eq_true rfl) (Nat.le_of_ble_eq_true rfl) (fun E h9 q => by cases q.1) k_X2_4 ?_
  rintro v9 h9 ⟨e1, e2⟩
  cases e1
  subst e2
  refine zn_heq (h' := hy 6 1 b (.inr (8, [.ref 2, .null, .null, .null, .null]) :: (([] ++ o_X4_2) ++ o_X2_4))) (hy_app rfl rfl) ?_
  refine zf_putR (pc := 23) (o := 1) (v := 4) (fs := [.ref 2, .null, .null, .null, .null]) (fs' := [.ref 2, .ref 4, .null, .null, .null]) rfl (hy_at (k := 0) rfl) (Nat.le_of_ble_eq_true rfl) rfl rfl ?_
  refine zn_heq (h' := hy 6 1 b (.inr (8, [.ref 2, .ref 4, .null, .null, .null]) :: (([] ++ o_X4_2) ++ o_X2_4))) (hy_up (k := 0) rfl (Nat.le_of_ble_eq_true rfl) rfl) ?_
  refine zn_aload_n (pc := 26) rfl rfl ?_
  refine zn_nw3 (pc := 27) (mc := 43) (ms := 7567) rfl ?_
  refine zn_heq (h' := hy 7 1 b (.inr (8, [.ref 2, .ref 4, .null, .null, .null]) :: ((([] ++ o_X4_2) ++ o_X2_4) ++ [.inr (3, [.null, .null, .int 0, .int 0, .int 0])]))) (hy_new rfl rfl rfl) ?_
  refine zn_dup (pc := 30) rfl rfl ?_
  refine zn_heq (h' := hy 7 6 (hy 6 1 b (.inr (8, [.ref 2, .ref 4, .null, .null, .null]) :: (([] ++ o_X4_2) ++ o_X2_4))).1 [.inr (3, [.null, .null, .int 0, .int 0, .int 0])]) (hy_spl rfl rfl) ?_
  refine zn_callIm (pc := 31) (J := zX3_init) (o := 6) (as := []) (rest := [.ref 6, .ref 1]) (mc1 := 3) (ms1 := 3277) (mc := 40) (ms := 4290) rfl (by decide) rfl rfl rfl (Nat.le_of_ble_eq_true rfl) (Nat.le_of_ble_eq_true rfl) (Nat.le_of_ble_eq_true rfl) (Nat.le_of_ble_eq_true rfl) (fun E h9 q => by cases q.1) k_X3_6 ?_
  rintro v9 h9 ⟨e1, e2⟩
  cases e1
  subst e2
  refine zn_heq (h' := hy 10 1 b (.inr (8, [.ref 2, .ref 4, .null, .null, .null]) :: ((([] ++ o_X4_2) ++ o_X2_4) ++ o_X3_6))) (hy_app rfl rfl) ?_
  refine zf_putR (pc := 34) (o := 1) (v := 6) (fs := [.ref 2, .ref 4, .null, .null, .null]) (fs' := [.ref 2, .ref 4, .ref 6, .null, .null]) rfl (hy_at (k := 0) rfl) (Nat.le_of_ble_eq_true rfl) rfl rfl ?_
  refine zn_heq (h' := hy 10 1 b (.inr (8, [.ref 2, .ref 4, .ref 6, .null, .null]) :: ((([] ++ o_X4_2) ++ o_X2_4) ++ o_X3_6))) (hy_up (k := 0) rfl (Nat.le_of_ble_eq_true rfl) rfl) ?_
  refine zn_aload_n (pc := 37) rfl rfl ?_
  refine zn_nw5 (pc := 38) (mc := 39) (ms := 4286) rfl ?_
  refine zn_heq (h' := hy 11 1 b (.inr (8, [.ref 2, .ref 4, .ref 6, .null, .null]) :: (((([] ++ o_X4_2) ++ o_X2_4) ++ o_X3_6) ++ [.inr (5, [.null, .null, .null, .null])]))) (hy_new rfl rfl rfl) ?_
  refine zn_dup (pc := 41) rfl rfl ?_
  refine zn_heq (h' := hy 11 10 (hy 10 1 b (.inr (8, [.ref 2, .ref 4, .ref 6, .null, .null]) :: ((([] ++ o_X4_2) ++ o_X2_4) ++ o_X3_6))).1 [.inr (5, [.null, .null, .null, .null])]) (hy_spl rfl rfl) ?_
  refine zn_callIm (pc := 42) (J := zX5_init) (o := 10) (as := []) (rest := [.ref 10, .ref 1]) (mc1 := 19) (ms1 := 2141) (mc := 20) (ms := 2145) rfl (by decide) rfl rfl rfl (Nat.le_of_ble_eq_true rfl) (Nat.le_of_ble_eq_true rfl) (Nat.le_of_ble_eq_true rfl) (Nat.le_of_ble_eq_true rfl) (fun E h9 q => by cases q.1) k_X5_10 ?_
  rintro v9 h9 ⟨e1, e2⟩
  cases e1
  subst e2
  refine zn_heq (h' := hy 30 1 b (.inr (8, [.ref 2, .ref 4, .ref 6, .null, .null]) :: (((([] ++ o_X4_2) ++ o_X2_4) ++ o_X3_6) ++ o_X5_10))) (hy_app rfl rfl) ?_
  refine zf_putR (pc := 45) (o := 1) (v := 10) (fs := [.ref 2, .ref 4, .ref 6, .null, .null]) (fs' := [.ref 2, .ref 4, .ref 6, .ref 10, .null]) rfl (hy_at (k := 0) rfl) (Nat.le_of_ble_eq_true rfl) rfl rfl ?_
  refine zn_heq (h' := hy 30 1 b (.inr (8, [.ref 2, .ref 4, .ref 6, .ref 10, .null]) :: (((([] ++ o_X4_2) ++ o_X2_4) ++ o_X3_6) ++ o_X5_10))) (hy_up (k := 0) rfl (Nat.le_of_ble_eq_true rfl) rfl) ?_
  refine zn_aload_n (pc := 48) rfl rfl ?_
  refine zn_nw5 (pc := 49) (mc := 19) (ms := 2141) rfl ?_
  refine zn_heq (h' := hy 31 1 b (.inr (8, [.ref 2, .ref 4, .ref 6, .ref 10, .null]) :: ((((([] ++ o_X4_2) ++ o_X2_4) ++ o_X3_6) ++ o_X5_10) ++ [.inr (5, [.null, .null, .null, .null])]))) (hy_new rfl rfl rfl) ?_
  refine zn_dup (pc := 52) rfl rfl ?_
  refine zn_heq (h' := hy 31 30 (hy 30 1 b (.inr (8, [.ref 2, .ref 4, .ref 6, .ref 10, .null]) :: (((([] ++ o_X4_2) ++ o_X2_4) ++ o_X3_6) ++ o_X5_10))).1 [.inr (5, [.null, .null, .null, .null])]) (hy_spl rfl rfl) ?_
  refine zn_callIm (pc := 53) (J := zX5_init) (o := 30) (as := []) (rest := [.ref 30, .ref 1]) (mc1 := 19) (ms1 := 2141) (mc := 0) (ms := 0) rfl (by decide) rfl rfl rfl (Nat.le_of_ble_eq_true rfl) (Nat.le_of_ble_eq_true rfl) (Nat.le_of_ble_eq_true rfl) (Nat.le_of_ble_eq_true rfl) (fun E h9 q => by cases q.1) k_X5_30 ?_
  rintro v9 h9 ⟨e1, e2⟩
  cases e1
  subst e2
  refine zn_heq (h' := hy 50 1 b (.inr (8, [.ref 2, .ref 4, .ref 6, .ref 10, .null]) :: ((((([] ++ o_X4_2) ++ o_X2_4) ++ o_X3_6) ++ o_X5_10) ++ o_X5_30))) (hy_app rfl rfl) ?_
  refine zf_putR (pc := 56) (o := 1) (v := 30) (fs := [.ref 2, .ref 4, .ref 6, .ref 10, .null]) (fs' := [.ref 2, .ref 4, .ref 6, .ref 10, .ref 30]) rfl (hy_at (k := 0) rfl) (Nat.le_of_ble_eq_true rfl) rfl rfl ?_
  refine zn_heq (h' := hy 50 1 b (.inr (8, [.ref 2, .ref 4, .ref 6, .ref 10, .ref 30]) :: ((((([] ++ o_X4_2) ++ o_X2_4) ++ o_X3_6) ++ o_X5_10) ++ o_X5_30))) (hy_up (k := 0) rfl (Nat.le_of_ble_eq_true rfl) rfl) ?_
  refine zn_heq (h' := s_h b) rfl ?_
  refine zn_aload_n (pc := 59) rfl rfl ?_
  refine zn_aload_n (pc := 60) rfl rfl ?_
  refine zn_get (pc := 61) (o := 1) (fs := [.ref 2, .ref 4, .ref 6, .ref 10, .ref 30]) (v := .ref 10) rfl s_T rfl ?_
  refine zn_callVm (pc := 64) (mc1 := 0) (ms1 := 0) (mc := 0) (ms := 0) (J := zX9_measure) (o := 1) (ci := 8) (fs := [.ref 2, .ref 4, .ref 6, .ref 10, .ref 30]) (as := [.ref 10]) (rest := []) rfl rfl rfl rfl s_T rfl rfl rfl (Nat.le_of_ble_eq_true rfl) (Nat.le_of_ble_eq_true rfl) (Nat.le_of_ble_eq_true rfl) (Nat.le_of_ble_eq_true rfl) (q_meas_0 s_Pg s_T s_FO s_H s_L10) (fun E h9 q9 => by cases q9.1) ?_
  rintro v9 h9 ⟨e1, mf, ls, lk⟩
  cases e1
  exact zn_vret (pc := 67) rfl rfl ⟨rfl, mf, ls, lk⟩
end wj
