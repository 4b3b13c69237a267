section m1
variable {g : zG} {h hh : zH} {F : Nat → Nat} {S : Int64} {z : Nat → Nat} {A : Nat → Nat → Nat} {X : Nat → Int32}
/-! other places of cells -/
def cOx (z z2 : Nat → Nat) (R R2 : Nat → Nat → Nat) (nb nb2 l c : Nat) : Nat := if l < z2 0 ∧ c < z2 (1 + l) ∧ mX R2 z2 nb2 l c ≠ mX R z nb l c then 1 else 0
theorem cOx_le {z2 : Nat → Nat} {R R2 : Nat → Nat → Nat} {nb nb2 l c : Nat} : cOx z z2 R R2 nb nb2 l c ≤ 1 := by unfold cOx; split <;> omega
theorem mCell_iff {l c : Nat} (hl : l < 2 ^ 31) (hc : c < 2 ^ 31) : mCell z (nI l) (nI c) ↔ l < z 0 ∧ c < z (1 + l) := by
  unfold mCell
  rw [zin_nI hl, nI_clamp hl, zin_nI hc]
theorem c_ox_i {z2 : Nat → Nat} {R R2 : Nat → Nat → Nat} {nb nb2 : Nat} (hL : LK hh 10 z R nb) (hL2 : LK hh 30 z2 R2 nb2) {l : Nat} {Q : zR → zH → Prop} (hl : l < z 0) : ∀ (n : Nat) (c s : Nat), c + n = z (1 + l) → Zn g zX5_countOtherX 4 [some (.ref 10), some (.ref 30), some (.int (nI (s + vS (cOx z z2 R R2 nb nb2 l) (z (1 + l))))), some (.int (nI (l + 1))), none, none] [] hh 0 0 Q → s + 8 ≤ 200 → Zn g zX5_countOtherX 18 [some (.ref 10), some (.ref 30), some (.int (nI (s + vS (cOx z z2 R R2 nb nb2 l) c))), some (.int (nI l)), some (.int (nI c)), none] [] (hh) 0 0 Q := by
  intro n
  induction n with
  | zero =>
    intro c s hn0 hn1 hn2
    have h24 := hL.ok.2.1
    have ho11 : hh.1 11 = some (.inr (1, [.int (nI (z 0)), .ref 12, .ref 13, .ref 14, .ref 15, .ref 16, .ref 17])) := by obtain ⟨C9, V9, r9, -⟩ := hL.c; exact r9
    have ho31 : hh.1 31 = some (.inr (1, [.int (nI (z2 0)), .ref 32, .ref 33, .ref 34, .ref 35, .ref 36, .ref 37])) := by obtain ⟨C9, V9, r9, -⟩ := hL2.c; exact r9
    have h8 := (hL.ok.2.2.1 l hl).2
    have hle := vS_le (f := cOx z z2 R R2 nb nb2 l) (B := 1) (n := c) (fun i _ => cOx_le)
    refine zn_iload (pc := 18) rfl rfl ?_
    refine zn_aload_n (pc := 20) rfl rfl ?_
    refine zn_get (pc := 21) (v := .ref 11) rfl hL.lo rfl ?_
    refine zn_iload_n (pc := 24) rfl rfl ?_
    refine zn_callVx (pc := 25) (J := zX1_cellsOf) (o := 11) (as := [.int (nI l)]) (rest := [.int (nI c)]) rfl rfl rfl rfl ho11 rfl rfl rfl (Nat.le_of_ble_eq_true rfl) (Nat.le_of_ble_eq_true rfl) (Nat.le_of_ble_eq_true rfl) (Nat.le_of_ble_eq_true rfl) (c_cellsOf_10 hL.ok hL.c (l := l) (by omega)) ?_
    refine zn_icmp_geN (pc := 28) (tgt := 87) (x := c) (y := (z (1 + l))) rfl rfl (by have := mX_le (z := z) (n := nb) (l := l) hL.r.bd c; have := mX_le (z := z2) (n := nb2) (l := l) hL2.r.bd c; have := cOx_le (z := z) (z2 := z2) (R := R) (R2 := R2) (nb := nb) (nb2 := nb2) (l := l) (c := c); omega) (by have := mX_le (z := z) (n := nb) (l := l) hL.r.bd c; have := mX_le (z := z2) (n := nb2) (l := l) hL2.r.bd c; have := cOx_le (z := z) (z2 := z2) (R := R) (R2 := R2) (nb := nb) (nb2 := nb2) (l := l) (c := c); omega) (fun c1 => ?_) (fun c1 => ?_)
    · refine zn_iincN (pc := 87) (L' := [some (.ref 10), some (.ref 30), some (.int (nI (s + vS (cOx z z2 R R2 nb nb2 l) c))), some (.int (nI (l + 1))), some (.int (nI c)), none]) 1 rfl rfl rfl (by decide) rfl ?_
      refine zn_goto (pc := 90) (tgt := 4) rfl rfl ?_
      have e8 : c = z (1 + l) := by omega
      subst e8
      exact zn_sub (L' := [some (.ref 10), some (.ref 30), some (.int (nI (s + vS (cOx z z2 R R2 nb nb2 l) (z (1 + l))))), some (.int (nI (l + 1))), none, none]) ⟨rfl, rfl, rfl, rfl, trivial⟩ hn1
    · exfalso; omega
  | succ n ih =>
    intro c s hn0 hn1 hn2
    have h24 := hL.ok.2.1
    have ho11 : hh.1 11 = some (.inr (1, [.int (nI (z 0)), .ref 12, .ref 13, .ref 14, .ref 15, .ref 16, .ref 17])) := by obtain ⟨C9, V9, r9, -⟩ := hL.c; exact r9
    have ho31 : hh.1 31 = some (.inr (1, [.int (nI (z2 0)), .ref 32, .ref 33, .ref 34, .ref 35, .ref 36, .ref 37])) := by obtain ⟨C9, V9, r9, -⟩ := hL2.c; exact r9
    have h8 := (hL.ok.2.2.1 l hl).2
    have hle := vS_le (f := cOx z z2 R R2 nb nb2 l) (B := 1) (n := c) (fun i _ => cOx_le)
    refine zn_iload (pc := 18) rfl rfl ?_
    refine zn_aload_n (pc := 20) rfl rfl ?_
    refine zn_get (pc := 21) (v := .ref 11) rfl hL.lo rfl ?_
    refine zn_iload_n (pc := 24) rfl rfl ?_
    refine zn_callVx (pc := 25) (J := zX1_cellsOf) (o := 11) (as := [.int (nI l)]) (rest := [.int (nI c)]) rfl rfl rfl rfl ho11 rfl rfl rfl (Nat.le_of_ble_eq_true rfl) (Nat.le_of_ble_eq_true rfl) (Nat.le_of_ble_eq_true rfl) (Nat.le_of_ble_eq_true rfl) (c_cellsOf_10 hL.ok hL.c (l := l) (by omega)) ?_
    refine zn_icmp_geN (pc := 28) (tgt := 87) (x := c) (y := (z (1 + l))) rfl rfl (by have := mX_le (z := z) (n := nb) (l := l) hL.r.bd c; have := mX_le (z := z2) (n := nb2) (l := l) hL2.r.bd c; have := cOx_le (z := z) (z2 := z2) (R := R) (R2 := R2) (nb := nb) (nb2 := nb2) (l := l) (c := c); omega) (by have := mX_le (z := z) (n := nb) (l := l) hL.r.bd c; have := mX_le (z := z2) (n := nb2) (l := l) hL2.r.bd c; have := cOx_le (z := z) (z2 := z2) (R := R) (R2 := R2) (nb := nb) (nb2 := nb2) (l := l) (c := c); omega) (fun c1 => ?_) (fun c1 => ?_)
    · refine zn_iincN (pc := 87) (L' := [some (.ref 10), some (.ref 30), some (.int (nI (s + vS (cOx z z2 R R2 nb nb2 l) c))), some (.int (nI (l + 1))), some (.int (nI c)), none]) 1 rfl rfl rfl (by decide) rfl ?_
      refine zn_goto (pc := 90) (tgt := 4) rfl rfl ?_
      exfalso; omega
    · refine zn_joinV (v := .int (nI (cOx z z2 R R2 nb nb2 l c))) (pj := 66) ?_ (fun K2 => ?_)
      · refine zn_istore (pc := 66) (L' := [some (.ref 10), some (.ref 30), some (.int (nI (s + vS (cOx z z2 R R2 nb nb2 l) c))), some (.int (nI l)), some (.int (nI c)), some (.int (nI (cOx z z2 R R2 nb nb2 l c)))]) rfl (by decide) rfl ?_
        refine zn_iload_n (pc := 68) rfl rfl ?_
        refine zn_joinV (v := .int (nI (cOx z z2 R R2 nb nb2 l c))) (pj := 79) ?_ (fun K3 => ?_)
        · refine zn_iaddN (pc := 79) (x := (s + vS (cOx z z2 R R2 nb nb2 l) c)) (y := (cOx z z2 R R2 nb nb2 l c)) rfl ?_
          refine zn_istore_n (pc := 80) (L' := [some (.ref 10), some (.ref 30), some (.int (nI ((s + vS (cOx z z2 R R2 nb nb2 l) c) + (cOx z z2 R R2 nb nb2 l c)))), some (.int (nI l)), some (.int (nI c)), some (.int (nI (cOx z z2 R R2 nb nb2 l c)))]) rfl (by decide) rfl ?_
          refine zn_iincN (pc := 81) (L' := [some (.ref 10), some (.ref 30), some (.int (nI ((s + vS (cOx z z2 R R2 nb nb2 l) c) + (cOx z z2 R R2 nb nb2 l c)))), some (.int (nI l)), some (.int (nI (c + 1))), some (.int (nI (cOx z z2 R R2 nb nb2 l c)))]) 1 rfl rfl rfl (by decide) rfl ?_
          refine zn_goto (pc := 84) (tgt := 18) rfl rfl ?_
          exact zn_sub (L' := [some (.ref 10), some (.ref 30), some (.int (nI (s + vS (cOx z z2 R R2 nb nb2 l) (c + 1)))), some (.int (nI l)), some (.int (nI (c + 1))), none]) ⟨rfl, rfl, by show some (Value.int (nI (s + vS (cOx z z2 R R2 nb nb2 l) c + cOx z z2 R R2 nb nb2 l c))) = some (Value.int (nI (s + (vS (cOx z z2 R R2 nb nb2 l) c + cOx z z2 R R2 nb nb2 l c)))); rw [Nat.add_assoc], rfl, rfl, trivial⟩ (ih (c + 1) s (by omega) hn1 hn2)
        · refine zn_iload (pc := 69) rfl rfl ?_
          refine zn_if_eqN (pc := 71) (tgt := 78) (x := (cOx z z2 R R2 nb nb2 l c)) rfl rfl (by have := mX_le (z := z) (n := nb) (l := l) hL.r.bd c; have := mX_le (z := z2) (n := nb2) (l := l) hL2.r.bd c; have := cOx_le (z := z) (z2 := z2) (R := R) (R2 := R2) (nb := nb) (nb2 := nb2) (l := l) (c := c); omega) (fun c4 => ?_) (fun c4 => ?_)
          · refine zn_iconstN (pc := 78) 0 rfl rfl ?_
            exact zn_top (v' := .int (nI (cOx z z2 R R2 nb nb2 l c))) (congrArg (fun x => Value.int (nI x)) (show 0 = cOx z z2 R R2 nb nb2 l c by have := cOx_le (z := z) (z2 := z2) (R := R) (R2 := R2) (nb := nb) (nb2 := nb2) (l := l) (c := c); omega)) K3
          · refine zn_iconstN (pc := 74) 1 rfl rfl ?_
            refine zn_goto (pc := 75) (tgt := 79) rfl rfl ?_
            exact zn_top (v' := .int (nI (cOx z z2 R R2 nb nb2 l c))) (congrArg (fun x => Value.int (nI x)) (show 1 = cOx z z2 R R2 nb nb2 l c by have := cOx_le (z := z) (z2 := z2) (R := R) (R2 := R2) (nb := nb) (nb2 := nb2) (l := l) (c := c); omega)) K3
      · refine zn_aload_n (pc := 31) rfl rfl ?_
        refine zn_get (pc := 32) (v := .ref 31) rfl hL2.lo rfl ?_
        refine zn_iload_n (pc := 35) rfl rfl ?_
        refine zn_iload (pc := 36) rfl rfl ?_
        refine zn_callVx (pc := 38) (J := zX1_hasCell) (o := 31) (as := [.int (nI l), .int (nI c)]) (rest := []) rfl rfl rfl rfl ho31 rfl rfl rfl (Nat.le_of_ble_eq_true rfl) (Nat.le_of_ble_eq_true rfl) (Nat.le_of_ble_eq_true rfl) (Nat.le_of_ble_eq_true rfl) (c_hasCell_30 hL2.ok hL2.c (nI l) (nI c)) ?_
        refine zn_if_eqB (pc := 41) (tgt := 65) rfl rfl (fun c5 => ?_) (fun c5 => ?_)
        · have nm2 := fun q9 => c5 ((mCell_iff (z := z2) (l := l) (c := c) (by omega) (by omega)).mpr q9)
          refine zn_iconstN (pc := 65) 0 rfl rfl ?_
          exact zn_top (v' := .int (nI (cOx z z2 R R2 nb nb2 l c))) (by unfold cOx; rw [if_neg (by first | omega | (intro q9; exact absurd (And.intro q9.1 q9.2.1) nm2))]) K2
        · have hm2 := (mCell_iff (z := z2) (l := l) (c := c) (by omega) (by omega)).mp c5
          refine zn_aload_n (pc := 44) rfl rfl ?_
          refine zn_iload_n (pc := 45) rfl rfl ?_
          refine zn_iload (pc := 46) rfl rfl ?_
          refine zn_callVx (pc := 48) (J := zX5_x) (o := 30) (as := [.int (nI l), .int (nI c)]) (rest := []) rfl rfl rfl rfl hL2.lo rfl rfl rfl (Nat.le_of_ble_eq_true rfl) (Nat.le_of_ble_eq_true rfl) (Nat.le_of_ble_eq_true rfl) (Nat.le_of_ble_eq_true rfl) (c_x_30 hL2 (l := l) (c := c) (by omega) (by omega)) ?_
          refine zn_aload_n (pc := 51) rfl rfl ?_
          refine zn_iload_n (pc := 52) rfl rfl ?_
          refine zn_iload (pc := 53) rfl rfl ?_
          refine zn_callVx (pc := 55) (J := zX5_x) (o := 10) (as := [.int (nI l), .int (nI c)]) (rest := [.int (nI (mX R2 z2 nb2 l c))]) rfl rfl rfl rfl hL.lo rfl rfl rfl (Nat.le_of_ble_eq_true rfl) (Nat.le_of_ble_eq_true rfl) (Nat.le_of_ble_eq_true rfl) (Nat.le_of_ble_eq_true rfl) (c_x_10 hL (l := l) (c := c) (by omega) (by omega)) ?_
          refine zn_icmp_eqN (pc := 58) (tgt := 65) (x := (mX R2 z2 nb2 l c)) (y := (mX R z nb l c)) rfl rfl (by have := mX_le (z := z) (n := nb) (l := l) hL.r.bd c; have := mX_le (z := z2) (n := nb2) (l := l) hL2.r.bd c; have := cOx_le (z := z) (z2 := z2) (R := R) (R2 := R2) (nb := nb) (nb2 := nb2) (l := l) (c := c); omega) (by have := mX_le (z := z) (n := nb) (l := l) hL.r.bd c; have := mX_le (z := z2) (n := nb2) (l := l) hL2.r.bd c; have := cOx_le (z := z) (z2 := z2) (R := R) (R2 := R2) (nb := nb) (nb2 := nb2) (l := l) (c := c); omega) (fun c6 => ?_) (fun c6 => ?_)
          · refine zn_iconstN (pc := 65) 0 rfl rfl ?_
            exact zn_top (v' := .int (nI (cOx z z2 R R2 nb nb2 l c))) (by unfold cOx; rw [if_neg (by first | omega | (intro q9; exact absurd (And.intro q9.1 q9.2.1) nm2))]) K2
          · refine zn_iconstN (pc := 61) 1 rfl rfl ?_
            refine zn_goto (pc := 62) (tgt := 66) rfl rfl ?_
            exact zn_top (v' := .int (nI (cOx z z2 R R2 nb nb2 l c))) (by unfold cOx; rw [if_pos ⟨hm2.1, hm2.2, by omega⟩]) K2
theorem c_ox_o {z2 : Nat → Nat} {R R2 : Nat → Nat → Nat} {nb nb2 : Nat} (hL : LK hh 10 z R nb) (hL2 : LK hh 30 z2 R2 nb2) : ∀ (n : Nat) (l : Nat), l + n = z 0 → Zn g zX5_countOtherX 4 [some (.ref 10), some (.ref 30), some (.int (nI (vS (fun l => vS (cOx z z2 R R2 nb nb2 l) (z (1 + l))) l))), some (.int (nI l)), none, none] [] (hh) 0 0 (fun r' h' => r' = .inl (some (.int (nI (vS (fun l => vS (cOx z z2 R R2 nb nb2 l) (z (1 + l))) (z 0))))) ∧ h' = (hh)) := by
  intro n
  induction n with
  | zero =>
    intro l hn0
    have h24 := hL.ok.2.1
    have ho11 : hh.1 11 = some (.inr (1, [.int (nI (z 0)), .ref 12, .ref 13, .ref 14, .ref 15, .ref 16, .ref 17])) := by obtain ⟨C9, V9, r9, -⟩ := hL.c; exact r9
    have ho31 : hh.1 31 = some (.inr (1, [.int (nI (z2 0)), .ref 32, .ref 33, .ref 34, .ref 35, .ref 36, .ref 37])) := by obtain ⟨C9, V9, r9, -⟩ := hL2.c; exact r9
    have hle := vS_le (f := fun l => vS (cOx z z2 R R2 nb nb2 l) (z (1 + l))) (B := 8) (n := l) (fun i hi => Nat.le_trans (vS_le (B := 1) (fun j _ => cOx_le)) (by have := (hL.ok.2.2.1 i (by omega)).2; omega))
    refine zn_iload_n (pc := 4) rfl rfl ?_
    refine zn_aload_n (pc := 5) rfl rfl ?_
    refine zn_get (pc := 6) (v := .ref 11) rfl hL.lo rfl ?_
    refine zn_callVx (pc := 9) (J := zX1_lines) (o := 11) (as := []) (rest := [.int (nI l)]) rfl rfl rfl rfl ho11 rfl rfl rfl (Nat.le_of_ble_eq_true rfl) (Nat.le_of_ble_eq_true rfl) (Nat.le_of_ble_eq_true rfl) (Nat.le_of_ble_eq_true rfl) (c_linesK_10 hL.c) ?_
    refine zn_icmp_geN (pc := 12) (tgt := 93) (x := l) (y := (z 0)) rfl rfl (by omega) (by omega) (fun c1 => ?_) (fun c1 => ?_)
    · refine zn_iload_n (pc := 93) rfl rfl ?_
      have e8 : l = z 0 := by omega
      exact zx_i (pc := 94) rfl rfl (by rw [e8]) rfl
    · exfalso; omega
  | succ n ih =>
    intro l hn0
    have h24 := hL.ok.2.1
    have ho11 : hh.1 11 = some (.inr (1, [.int (nI (z 0)), .ref 12, .ref 13, .ref 14, .ref 15, .ref 16, .ref 17])) := by obtain ⟨C9, V9, r9, -⟩ := hL.c; exact r9
    have ho31 : hh.1 31 = some (.inr (1, [.int (nI (z2 0)), .ref 32, .ref 33, .ref 34, .ref 35, .ref 36, .ref 37])) := by obtain ⟨C9, V9, r9, -⟩ := hL2.c; exact r9
    have hle := vS_le (f := fun l => vS (cOx z z2 R R2 nb nb2 l) (z (1 + l))) (B := 8) (n := l) (fun i hi => Nat.le_trans (vS_le (B := 1) (fun j _ => cOx_le)) (by have := (hL.ok.2.2.1 i (by omega)).2; omega))
    refine zn_iload_n (pc := 4) rfl rfl ?_
    refine zn_aload_n (pc := 5) rfl rfl ?_
    refine zn_get (pc := 6) (v := .ref 11) rfl hL.lo rfl ?_
    refine zn_callVx (pc := 9) (J := zX1_lines) (o := 11) (as := []) (rest := [.int (nI l)]) rfl rfl rfl rfl ho11 rfl rfl rfl (Nat.le_of_ble_eq_true rfl) (Nat.le_of_ble_eq_true rfl) (Nat.le_of_ble_eq_true rfl) (Nat.le_of_ble_eq_true rfl) (c_linesK_10 hL.c) ?_
    refine zn_icmp_geN (pc := 12) (tgt := 93) (x := l) (y := (z 0)) rfl rfl (by omega) (by omega) (fun c1 => ?_) (fun c1 => ?_)
    · refine zn_iload_n (pc := 93) rfl rfl ?_
      have e8 : l = z 0 := by omega
      exact zx_i (pc := 94) rfl rfl (by rw [e8]) rfl
    · refine zn_iconstN (pc := 15) 0 rfl rfl ?_
      refine zn_istore (pc := 16) (L' := [some (.ref 10), some (.ref 30), some (.int (nI (vS (fun l => vS (cOx z z2 R R2 nb nb2 l) (z (1 + l))) l))), some (.int (nI l)), some (.int (nI 0)), none]) rfl (by decide) rfl ?_
      exact zn_sub (L' := [some (.ref 10), some (.ref 30), some (.int (nI (vS (fun l => vS (cOx z z2 R R2 nb nb2 l) (z (1 + l))) l + vS (cOx z z2 R R2 nb nb2 l) 0))), some (.int (nI l)), some (.int (nI 0)), none]) ⟨rfl, rfl, rfl, rfl, rfl, trivial⟩ (c_ox_i hL hL2 (by omega) (z (1 + l)) 0 _ (by omega) (ih (l + 1) (by omega)) (by omega))
theorem c_ox  {z2 : Nat → Nat} {R R2 : Nat → Nat → Nat} {nb nb2 : Nat} (hL : LK hh 10 z R nb) (hL2 : LK hh 30 z2 R2 nb2) : Zx g zX5_countOtherX [.ref 10, .ref 30] (hh) (some (.int (nI (vS (fun l => vS (cOx z z2 R R2 nb nb2 l) (z (1 + l))) (z 0))))) (hh) := by
  have h24 := hL.ok.2.1
  have ho11 : hh.1 11 = some (.inr (1, [.int (nI (z 0)), .ref 12, .ref 13, .ref 14, .ref 15, .ref 16, .ref 17])) := by obtain ⟨C9, V9, r9, -⟩ := hL.c; exact r9
  have ho31 : hh.1 31 = some (.inr (1, [.int (nI (z2 0)), .ref 32, .ref 33, .ref 34, .ref 35, .ref 36, .ref 37])) := by obtain ⟨C9, V9, r9, -⟩ := hL2.c; exact r9
  show Zn g zX5_countOtherX 0 [some (.ref 10), some (.ref 30), none, none, none, none] [] (hh) 0 0 _
  refine zn_iconstN (pc := 0) 0 rfl rfl ?_
  refine zn_istore_n (pc := 1) (L' := [some (.ref 10), some (.ref 30), some (.int (nI 0)), none, none, none]) rfl (by decide) rfl ?_
  refine zn_iconstN (pc := 2) 0 rfl rfl ?_
  refine zn_istore_n (pc := 3) (L' := [some (.ref 10), some (.ref 30), some (.int (nI 0)), some (.int (nI 0)), none, none]) rfl (by decide) rfl ?_
  exact c_ox_o hL hL2 (z 0) 0 (by omega)
end m1
