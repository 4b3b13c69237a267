section wi
variable {g : zG} {h : zH} {n : Nat} {f : Nat → Int32}
theorem k_X4 (l : List zO) (hl : l.length = 2) : Zm g zX4_init [.ref 2] (hs (l ++ [.inr (4, [.null, .int 0])])) 1 120 (fun r h' => r = .inl none ∧ h' = hs (l ++ [.inr (4, [.ref 3, .int (nI 0)]), mNA 120 (fun _ => 0)])) := by
  match l, hl with
  | [a0, a1], _ =>
    show Zn g zX4_init 0 [some (.ref 2)] [] (hs [a0, a1, .inr (4, [.null, .int 0])]) (0 + 1) (0 + 120) _
    refine zn_aload_n (pc := 0) rfl rfl ?_
    refine zn_obj (pc := 1) rfl (Nat.le_of_ble_eq_true rfl) (Nat.le_of_ble_eq_true rfl) ?_
    refine zn_aload_n (pc := 4) rfl rfl ?_
    refine zn_bipushN (pc := 5) 120 rfl rfl ?_
    refine zn_newI (pc := 7) rfl (by decide) ?_
    refine zn_heq (hs_new _ _) ?_
    refine zn_put (pc := 9) (o := 2) (fs := [.null, .int 0]) (v := .ref 3) rfl rfl (by decide) rfl ?_
    refine zn_heq (hs_up _ _ (Nat.le_of_ble_eq_true rfl)) ?_
    refine zn_aload_n (pc := 12) rfl rfl ?_
    refine zn_iconstN (pc := 13) 0 rfl rfl ?_
    refine zn_put (pc := 14) (o := 2) (fs := [.ref 3, .int 0]) (v := .int (nI 0)) rfl rfl (by decide) rfl ?_
    refine zn_heq (hs_up _ _ (Nat.le_of_ble_eq_true rfl)) ?_
    exact zn_vret (pc := 17) rfl rfl ⟨rfl, rfl⟩
end wi
