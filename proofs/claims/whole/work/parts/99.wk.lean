section wk
variable {g : zG} {n : Nat} {f : Nat → Int32}
/-! the law from its entry to its loop, and its end -/
abbrev s_b (n : Nat) (f : Nat → Int32) : zH := hy 1 0 (fun _ => none) [.inl (n, .inl f)]
def o_M : List zO := o_X10_50 ++ [oL (fun _ => 0), oD (fun _ => 0)]
theorem s_AB : AB s_A := by
  intro i j
  unfold s_A
  split
  · have := s_aL j; omega
  · show (0 : Nat) < 2 ^ 20; omega
theorem s_M {n B : Nat} {b : Nat → Option zO} (k : Nat) (hk : k < 16) : (hy n 50 b o_M).1 (50 + k) = (mhp (hy n 50 b o_M) s_F 0 s_z s_A (fun _ => nI 0)).1 (50 + k) := by
  match k, hk with
  | 0, _ => exact hy_at (k := 0) rfl
  | 1, _ => exact hy_at (k := 1) rfl
  | 2, _ => exact hy_at (k := 2) rfl
  | 3, _ => exact hy_at (k := 3) rfl
  | 4, _ => exact hy_at (k := 4) rfl
  | 5, _ => exact hy_at (k := 5) rfl
  | 6, _ => exact hy_at (k := 6) rfl
  | 7, _ => exact hy_at (k := 7) rfl
  | 8, _ => exact hy_at (k := 8) rfl
  | 9, _ => exact hy_at (k := 9) rfl
  | 10, _ => exact hy_at (k := 10) rfl
  | 11, _ => exact hy_at (k := 11) rfl
  | 12, _ => exact hy_at (k := 12) rfl
  | 13, _ => exact hy_at (k := 13) rfl
  | 14, _ => exact hy_at (k := 14) rfl
  | 15, _ => exact hy_at (k := 15) rfl
  | k + 16, h => exact absurd h (by omega)
theorem s_J {h9 : zH} (mf : MF 10 (s_h (s_b n f).1) h9) (ls : LSh h9 10) (lk : LK h9 10 s_z (pRR s_F s_z s_A) (nbb s_z)) : Jk n f 0 (hy 68 50 h9.1 o_M) := by
  have lo : ∀ i, i < 50 → (hy 68 50 h9.1 o_M).1 i = h9.1 i := fun i hi => hy_lo hi
  have no : ∀ i, 68 ≤ i → (hy 68 50 h9.1 o_M).1 i = none := fun i hi => hy_no (by show 50 + 18 ≤ i; omega)
  have no0 : ∀ i, 50 ≤ i → (s_h (s_b n f).1).1 i = none := fun i hi => hy_no (by show 1 + 49 ≤ i; omega)
  have sm : ∀ i, i < 50 → (i < 10 ∨ 30 ≤ i) → (hy 68 50 h9.1 o_M).1 i = (s_h (s_b n f).1).1 i := fun i hi h => (lo i hi).trans (mf.2 i (by omega))
  refine ⟨s_F, 0, s_z, s_A, fun _ => nI 0, ⟨?_, ⟨s_p, 0, 8, ⟨?_, ⟨Nat.le_refl _, no⟩, ?_, ?_, ?_, ?_, ?_⟩, ?_⟩, s_AB, ?_, ⟨_, hy_at (k := 16) rfl⟩, ⟨_, hy_at (k := 17) rfl⟩⟩, rfl⟩
  · refine mhp_of (hh := hy 68 50 h9.1 o_M) (fun i h1 h2 => ?_)
    obtain ⟨k, rfl⟩ : ∃ k, i = 50 + k := ⟨i - 50, by omega⟩
    exact s_M (B := 0) k (by omega)
  · exact s_T.fr (sm 1 (by omega) (by omega))
  · exact s_IO.fr (fun i a b => sm i (by omega) (by omega))
  · exact s_FO.fr (fun i a b => sm i (by omega) (by omega))
  · refine (s_H (b := (s_b n f).1)).fr (fun i h => ?_)
    rcases h with h | h
    · exact sm i (by omega) (by omega)
    · rw [no i h, no0 i (by omega)]
  · exact ls.fr (fun i a b => lo i (by omega))
  · exact s_L30.fr (fun i a b => sm i (by omega) (by omega))
  · exact lk.fr (fun i a b => lo i (by omega))
  · rw [sm 0 (by omega) (by omega)]
    exact (hy_lo (by omega)).trans (hy_at (k := 0) rfl)
theorem lw_go (hn : n ≤ 2560) : Zm g zL_law [.ref 0] (s_b n f) 2627 1771213 (fun r _ => r = .inl (some (.int (nI 1)))) := by
  show Zn g zL_law 0 [some (.ref 0), none, none, none, none, none, none, none, none] [] (s_b n f) 2627 1771213 _
  refine zn_nw8 (pc := 0) (mc := 2626) (ms := 1771208) (sk_0 (by decide) rfl) ?_
  refine zn_heq (h' := hy 2 1 (s_b n f).1 [.inr (8, [.null, .null, .null, .null, .null])]) (hy_of rfl rfl (fun i hi => hy_no (by show 0 + 1 ≤ i; omega))) ?_
  refine zn_dup (pc := 3) (sk_0 (by decide) rfl) rfl ?_
  refine zn_callIm (pc := 4) (J := zX9_init) (o := 1) (as := []) (rest := [.ref 1]) (mc1 := 48) (ms1 := 7705) (mc := 2578) (ms := 1763503) (sk_0 (by decide) rfl) (by decide) rfl rfl rfl (Nat.le_of_ble_eq_true rfl) (Nat.le_of_ble_eq_true rfl) (Nat.le_of_ble_eq_true rfl) (Nat.le_of_ble_eq_true rfl) (fun E h9 q => by cases q.1) k_X9 ?_
  rintro v9 h9 ⟨e1, mf, ls, lk⟩
  cases e1
  have h92 : h9.2 = 50 := mf.1
  have no9 : ∀ i, 50 ≤ i → h9.1 i = none := fun i hi => (mf.2 i (by omega)).trans (hy_no (by show 1 + 49 ≤ i; omega))
  refine zn_astore_n (pc := 7) (L' := [some (.ref 0), some (.ref 1), none, none, none, none, none, none, none]) (sk_0 (by decide) rfl) (by decide) rfl ?_
  refine zn_nw9 (pc := 8) (mc := 2577) (ms := 1763479) (sk_0 (by decide) rfl) ?_
  refine zn_top (v' := .ref 50) (by rw [h92]) ?_
  refine zn_heq (h' := hy 51 50 h9.1 [.inr (9, [.int 0, .null, .null, .null, .null, .int 0, .int 0, .null, .int 0, .int 0, .int 0, .int 0, .null, .int 0, .null, .null, .null, .null, .null, .null, .null, .null, .null, .long 0])]) (hy_of h92 rfl no9) ?_
  refine zn_dup (pc := 11) (sk_0 (by decide) rfl) rfl ?_
  refine zn_callIm (pc := 12) (J := zX10_init) (o := 50) (as := []) (rest := [.ref 50]) (mc1 := 15) (ms1 := 73877) (mc := 2562) (ms := 1689602) (sk_0 (by decide) rfl) (by decide) rfl rfl rfl (Nat.le_of_ble_eq_true rfl) (Nat.le_of_ble_eq_true rfl) (Nat.le_of_ble_eq_true rfl) (Nat.le_of_ble_eq_true rfl) (fun E h9 q => by cases q.1) k_X10_50 ?_
  rintro v8 h8 ⟨e1, e2⟩
  cases e1
  subst e2
  refine zn_heq (h' := hy 66 50 h9.1 o_X10_50) rfl ?_
  refine zn_astore_n (pc := 15) (L' := [some (.ref 0), some (.ref 1), some (.ref 50), none, none, none, none, none, none]) (sk_0 (by decide) rfl) (by decide) rfl ?_
  refine zn_iconstN (pc := 16) 1 (sk_0 (by decide) rfl) rfl ?_
  refine zn_newL (pc := 17) (N := 1) (mc := 2561) (ms := 1689601) (sk_0 (by decide) rfl) (by decide) ?_
  refine zn_heq (h' := hy 67 50 h9.1 (o_X10_50 ++ [oL (fun _ => 0)])) (hy_new rfl rfl rfl) ?_
  refine zn_astore_n (pc := 19) (L' := [some (.ref 0), some (.ref 1), some (.ref 50), some (.ref 66), none, none, none, none, none]) (sk_0 (by decide) rfl) (by decide) rfl ?_
  refine zn_iconstN (pc := 20) 1 (sk_0 (by decide) rfl) rfl ?_
  refine zn_newD (pc := 21) (N := 1) (mc := 2560) (ms := 1689600) (sk_0 (by decide) rfl) (by decide) ?_
  refine zn_heq (h' := hy 68 50 h9.1 o_M) (hy_new rfl rfl rfl) ?_
  refine zn_astore (pc := 23) (L' := [some (.ref 0), some (.ref 1), some (.ref 50), some (.ref 66), some (.ref 67), none, none, none, none]) (sk_0 (by decide) rfl) (by decide) rfl ?_
  refine zn_iconstN (pc := 25) 0 (sk_0 (by decide) rfl) rfl ?_
  refine zn_istore (pc := 26) (L' := LO 0) (sk_0 (by decide) rfl) (by decide) rfl ?_
  exact zn_mono (lw_loop (by omega) 512 0 (hy 68 50 h9.1 o_M) 0 (by omega) (Nat.zero_le _) (s_J mf ls lk)) (Nat.le_of_ble_eq_true rfl) (Nat.le_of_ble_eq_true rfl) (fun _ _ q => q)
end wk
