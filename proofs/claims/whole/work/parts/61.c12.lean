section m1
variable {g : zG} {h hh : zH} {F : Nat → Nat} {S : Int64} {z : Nat → Nat} {A : Nat → Nat → Nat} {X : Nat → Int32}
def pXl (R : Nat → Nat → Nat) (z : Nat → Nat) (nb l : Nat) (X0 : Nat → Nat) (c : Nat) : Nat → Nat := fun j => if 8 * l ≤ j ∧ j < 8 * l + c then mX R z nb l (j - 8 * l) else X0 j
theorem lx_eq {B n m : Nat} {C D : Nat → Nat → Nat} {V W : Nat → Int64} {Xs Xs' : Nat → Nat} {Bn : Nat → Int32} (e : Xs = Xs') : lhp B h n C V m D W Xs Bn = lhp B h n C V m D W Xs' Bn := by rw [e]
theorem c_placeCellsOf_l10 {C D : Nat → Nat → Nat} {V W : Nat → Int64} (hz : mOK z) (hcel : cCel z C V) {R : Nat → Nat → Nat} {nb : Nat} (hr : rOK z R nb) (hd : ∀ b, b < nb → D 0 b = R 6 b ∧ D 1 b = R 7 b ∧ D 2 b = R 8 b ∧ D 3 b = R 12 b ∧ D 4 b = R 9 b ∧ D 5 b = R 10 b ∧ D 6 b = bNum (mK z (R 6 b)) (R 8 b + 1 - R 7 b) (R 7 b) ∧ D 7 b = R 11 b ∧ W b = bSum z (R 6 b) (R 7 b) (R 8 b)) {Bn : Nat → Int32} (hbn : pBn z R nb Bn) {X0 : Nat → Nat} {l : Nat} (hl : l < z 0) : ∀ (n : Nat) (c : Nat), c + n + 1 = z (1 + l) → Zn g zX5_placeCellsOf 4 [some (.ref 10), some (.int (nI l)), some (.int (nI (mX R z nb l c))), some (.int (nI c)), none] [] (lhp 10 h (z 0) C V nb D W (pXl R z nb l X0 (c)) Bn) 0 0 (fun r' h' => r' = .inl none ∧ h' = (lhp 10 h (z 0) C V nb D W (pXl R z nb l X0 (z (1 + l))) Bn)) := by
  intro n
  induction n with
  | zero =>
    intro c hn0
    have h0 := hz.1
    have h1 := hz.2.1
    have hzl := hz.2.2.1 l hl
    refine zn_iload_n (pc := 4) rfl rfl ?_
    refine zn_aload_n (pc := 5) rfl rfl ?_
    refine zn_get (pc := 6) (v := .ref 11) rfl rfl rfl ?_
    refine zn_iload_n (pc := 9) rfl rfl ?_
    refine zn_callVx (pc := 10) (J := zX1_cellsOf) (o := 11) (as := [.int (nI l)]) (rest := [.int (nI c)]) rfl rfl rfl rfl rfl rfl rfl rfl (Nat.le_of_ble_eq_true rfl) (Nat.le_of_ble_eq_true rfl) (Nat.le_of_ble_eq_true rfl) (Nat.le_of_ble_eq_true rfl) (c_cellsOf_10 hz (cOK_l hcel) (l := l) (by omega)) ?_
    refine zn_icmp_geN (pc := 13) (tgt := 54) (x := c) (y := (z (1 + l))) rfl rfl (by omega) (by omega) (fun c1 => ?_) (fun c1 => ?_)
    · exfalso; omega
    · refine zn_iload_n (pc := 16) rfl rfl ?_
      refine zn_iload_n (pc := 17) rfl rfl ?_
      refine zn_callSx (pc := 18) (J := zX1_slot) (as := [.int (nI l), .int (nI c)]) (rest := []) rfl (by decide) rfl rfl rfl rfl (Nat.le_of_ble_eq_true rfl) (Nat.le_of_ble_eq_true rfl) (Nat.le_of_ble_eq_true rfl) (Nat.le_of_ble_eq_true rfl) (c_slot (l := l) (c := c)) ?_
      refine zn_istore (pc := 21) (L' := [some (.ref 10), some (.int (nI l)), some (.int (nI (mX R z nb l c))), some (.int (nI c)), some (.int (nI (8 * l + c)))]) rfl (by decide) rfl ?_
      refine zn_aload_n (pc := 23) rfl rfl ?_
      refine zn_get (pc := 24) (v := .ref 28) rfl rfl rfl ?_
      refine zn_iload (pc := 27) rfl rfl ?_
      refine zn_iload_n (pc := 29) rfl rfl ?_
      refine zl_stX (pc := 30) (j := (8 * l + c)) (v := (mX R z nb l c)) rfl rfl (by omega) ?_
      refine zn_iload_n (pc := 31) rfl rfl ?_
      refine zn_aload_n (pc := 32) rfl rfl ?_
      refine zn_get (pc := 33) (v := .ref 18) rfl rfl rfl ?_
      refine zn_aload_n (pc := 36) rfl rfl ?_
      refine zn_get (pc := 37) (v := .ref 29) rfl rfl rfl ?_
      refine zn_iload (pc := 40) rfl rfl ?_
      refine zl_ldB (pc := 42) (j := (8 * l + c)) rfl rfl (by omega) ?_
      refine zn_top (v' := .int (-1)) (by rw [hbn l c hl (by omega)]; unfold mOf; rw [if_neg (by unfold mE; omega)]; rfl) ?_
      refine zn_callVx (pc := 43) (J := zX0_width) (o := 18) (as := [.int (-1)]) (rest := [.int (nI (mX R z nb l c))]) rfl rfl rfl rfl rfl rfl rfl rfl (Nat.le_of_ble_eq_true rfl) (Nat.le_of_ble_eq_true rfl) (Nat.le_of_ble_eq_true rfl) (Nat.le_of_ble_eq_true rfl) (c_width_10n (bOK_l hd) hr.le) ?_
      refine zn_iaddN (pc := 46) (x := (mX R z nb l c)) (y := 0) rfl ?_
      refine zn_istore_n (pc := 47) (L' := [some (.ref 10), some (.int (nI l)), some (.int (nI (mX R z nb l c + 0))), some (.int (nI c)), some (.int (nI (8 * l + c)))]) rfl (by decide) rfl ?_
      refine zn_iincN (pc := 48) (L' := [some (.ref 10), some (.int (nI l)), some (.int (nI (mX R z nb l c + 0))), some (.int (nI (c + 1))), some (.int (nI (8 * l + c)))]) 1 rfl rfl rfl (by decide) rfl ?_
      refine zn_goto (pc := 51) (tgt := 4) rfl rfl ?_
      refine zn_heq (h' := lhp 10 h (z 0) C V nb D W (pXl R z nb l X0 (c + 1)) Bn) (lx_eq ?_) ?_
      · funext j
        simp only [va_up, pXl]
        by_cases e : j = 8 * l + c
        · rw [if_pos e, if_pos (by omega), show j - 8 * l = c by omega]
        · rw [if_neg e]
          by_cases q : 8 * l ≤ j ∧ j < 8 * l + c
          · rw [if_pos q, if_pos (by omega)]
          · rw [if_neg q, if_neg (by omega)]
      refine zn_iload_n (pc := 4) rfl rfl ?_
      refine zn_aload_n (pc := 5) rfl rfl ?_
      refine zn_get (pc := 6) (v := .ref 11) rfl rfl rfl ?_
      refine zn_iload_n (pc := 9) rfl rfl ?_
      refine zn_callVx (pc := 10) (J := zX1_cellsOf) (o := 11) (as := [.int (nI l)]) (rest := [.int (nI (c + 1))]) rfl rfl rfl rfl rfl rfl rfl rfl (Nat.le_of_ble_eq_true rfl) (Nat.le_of_ble_eq_true rfl) (Nat.le_of_ble_eq_true rfl) (Nat.le_of_ble_eq_true rfl) (c_cellsOf_10 hz (cOK_l hcel) (l := l) (by omega)) ?_
      refine zn_icmp_geN (pc := 13) (tgt := 54) (x := (c + 1)) (y := (z (1 + l))) rfl rfl (by omega) (by omega) (fun c2 => ?_) (fun c2 => ?_)
      · have e8 : c + 1 = z (1 + l) := by omega
        rw [e8]
        exact zx_v (pc := 54) rfl rfl rfl rfl
      · exfalso; omega
  | succ n ih =>
    intro c hn0
    have h0 := hz.1
    have h1 := hz.2.1
    have hzl := hz.2.2.1 l hl
    refine zn_iload_n (pc := 4) rfl rfl ?_
    refine zn_aload_n (pc := 5) rfl rfl ?_
    refine zn_get (pc := 6) (v := .ref 11) rfl rfl rfl ?_
    refine zn_iload_n (pc := 9) rfl rfl ?_
    refine zn_callVx (pc := 10) (J := zX1_cellsOf) (o := 11) (as := [.int (nI l)]) (rest := [.int (nI c)]) rfl rfl rfl rfl rfl rfl rfl rfl (Nat.le_of_ble_eq_true rfl) (Nat.le_of_ble_eq_true rfl) (Nat.le_of_ble_eq_true rfl) (Nat.le_of_ble_eq_true rfl) (c_cellsOf_10 hz (cOK_l hcel) (l := l) (by omega)) ?_
    refine zn_icmp_geN (pc := 13) (tgt := 54) (x := c) (y := (z (1 + l))) rfl rfl (by omega) (by omega) (fun c1 => ?_) (fun c1 => ?_)
    · exfalso; omega
    · have hq9 := mCov_of hr.cov (show mE z c l from ⟨hl, by omega⟩)
      refine zn_iload_n (pc := 16) rfl rfl ?_
      refine zn_iload_n (pc := 17) rfl rfl ?_
      refine zn_callSx (pc := 18) (J := zX1_slot) (as := [.int (nI l), .int (nI c)]) (rest := []) rfl (by decide) rfl rfl rfl rfl (Nat.le_of_ble_eq_true rfl) (Nat.le_of_ble_eq_true rfl) (Nat.le_of_ble_eq_true rfl) (Nat.le_of_ble_eq_true rfl) (c_slot (l := l) (c := c)) ?_
      refine zn_istore (pc := 21) (L' := [some (.ref 10), some (.int (nI l)), some (.int (nI (mX R z nb l c))), some (.int (nI c)), some (.int (nI (8 * l + c)))]) rfl (by decide) rfl ?_
      refine zn_aload_n (pc := 23) rfl rfl ?_
      refine zn_get (pc := 24) (v := .ref 28) rfl rfl rfl ?_
      refine zn_iload (pc := 27) rfl rfl ?_
      refine zn_iload_n (pc := 29) rfl rfl ?_
      refine zl_stX (pc := 30) (j := (8 * l + c)) (v := (mX R z nb l c)) rfl rfl (by omega) ?_
      refine zn_iload_n (pc := 31) rfl rfl ?_
      refine zn_aload_n (pc := 32) rfl rfl ?_
      refine zn_get (pc := 33) (v := .ref 18) rfl rfl rfl ?_
      refine zn_aload_n (pc := 36) rfl rfl ?_
      refine zn_get (pc := 37) (v := .ref 29) rfl rfl rfl ?_
      refine zn_iload (pc := 40) rfl rfl ?_
      refine zl_ldB (pc := 42) (j := (8 * l + c)) rfl rfl (by omega) ?_
      refine zn_top (v' := .int (nI (bG (mOf R z l c nb)))) (by rw [hbn l c hl (by omega), hq9.1]) ?_
      refine zn_callVx (pc := 43) (J := zX0_width) (o := 18) (as := [.int (nI (bG (mOf R z l c nb)))]) (rest := [.int (nI (mX R z nb l c))]) rfl rfl rfl rfl rfl rfl rfl rfl (Nat.le_of_ble_eq_true rfl) (Nat.le_of_ble_eq_true rfl) (Nat.le_of_ble_eq_true rfl) (Nat.le_of_ble_eq_true rfl) (c_width_10b (bOK_l hd) hr.le (b := (bG (mOf R z l c nb))) hq9.2) ?_
      refine zn_iaddN (pc := 46) (x := (mX R z nb l c)) (y := (R 12 (bG (mOf R z l c nb)))) rfl ?_
      refine zn_istore_n (pc := 47) (L' := [some (.ref 10), some (.int (nI l)), some (.int (nI (mX R z nb l c + (R 12 (bG (mOf R z l c nb)))))), some (.int (nI c)), some (.int (nI (8 * l + c)))]) rfl (by decide) rfl ?_
      refine zn_iincN (pc := 48) (L' := [some (.ref 10), some (.int (nI l)), some (.int (nI (mX R z nb l c + (R 12 (bG (mOf R z l c nb)))))), some (.int (nI (c + 1))), some (.int (nI (8 * l + c)))]) 1 rfl rfl rfl (by decide) rfl ?_
      refine zn_goto (pc := 51) (tgt := 4) rfl rfl ?_
      refine zn_heq (h' := lhp 10 h (z 0) C V nb D W (pXl R z nb l X0 (c + 1)) Bn) (lx_eq ?_) ?_
      · funext j
        simp only [va_up, pXl]
        by_cases e : j = 8 * l + c
        · rw [if_pos e, if_pos (by omega), show j - 8 * l = c by omega]
        · rw [if_neg e]
          by_cases q : 8 * l ≤ j ∧ j < 8 * l + c
          · rw [if_pos q, if_pos (by omega)]
          · rw [if_neg q, if_neg (by omega)]
      exact zn_sub (L' := [some (.ref 10), some (.int (nI l)), some (.int (nI (mX R z nb l (c + 1)))), some (.int (nI (c + 1))), none]) ⟨rfl, rfl, rfl, rfl, trivial⟩ (ih (c + 1) (by omega))
theorem c_placeCellsOf_10  {C D : Nat → Nat → Nat} {V W : Nat → Int64} (hz : mOK z) (hcel : cCel z C V) {R : Nat → Nat → Nat} {nb : Nat} (hr : rOK z R nb) (hd : ∀ b, b < nb → D 0 b = R 6 b ∧ D 1 b = R 7 b ∧ D 2 b = R 8 b ∧ D 3 b = R 12 b ∧ D 4 b = R 9 b ∧ D 5 b = R 10 b ∧ D 6 b = bNum (mK z (R 6 b)) (R 8 b + 1 - R 7 b) (R 7 b) ∧ D 7 b = R 11 b ∧ W b = bSum z (R 6 b) (R 7 b) (R 8 b)) {Bn : Nat → Int32} (hbn : pBn z R nb Bn) {Xs : Nat → Nat} {l : Nat} (hl : l < z 0) : Zx g zX5_placeCellsOf [.ref 10, .int (nI l)] (lhp 10 h (z 0) C V nb D W Xs Bn) none (lhp 10 h (z 0) C V nb D W (pXl R z nb l Xs (z (1 + l))) Bn) := by
  have h0 := hz.1
  have h1 := hz.2.1
  have hzl := hz.2.2.1 l hl
  show Zn g zX5_placeCellsOf 0 [some (.ref 10), some (.int (nI l)), none, none, none] [] (lhp 10 h (z 0) C V nb D W Xs Bn) 0 0 _
  refine zn_iconstN (pc := 0) 0 rfl rfl ?_
  refine zn_istore_n (pc := 1) (L' := [some (.ref 10), some (.int (nI l)), some (.int (nI 0)), none, none]) rfl (by decide) rfl ?_
  refine zn_iconstN (pc := 2) 0 rfl rfl ?_
  refine zn_istore_n (pc := 3) (L' := [some (.ref 10), some (.int (nI l)), some (.int (nI 0)), some (.int (nI 0)), none]) rfl (by decide) rfl ?_
  refine zn_heq (h' := lhp 10 h (z 0) C V nb D W (pXl R z nb l Xs 0) Bn) (lx_eq ?_) (c_placeCellsOf_l10 hz hcel hr hd hbn hl (z (1 + l) - 1) 0 (by omega))
  · funext j; simp only [pXl]; rw [if_neg (by omega)]
theorem c_placeCells_310 {C D : Nat → Nat → Nat} {V W : Nat → Int64} (hz : mOK z) (hcel : cCel z C V) {R : Nat → Nat → Nat} {nb : Nat} (hr : rOK z R nb) (hd : ∀ b, b < nb → D 0 b = R 6 b ∧ D 1 b = R 7 b ∧ D 2 b = R 8 b ∧ D 3 b = R 12 b ∧ D 4 b = R 9 b ∧ D 5 b = R 10 b ∧ D 6 b = bNum (mK z (R 6 b)) (R 8 b + 1 - R 7 b) (R 7 b) ∧ D 7 b = R 11 b ∧ W b = bSum z (R 6 b) (R 7 b) (R 8 b)) {Bn : Nat → Int32} (hbn : pBn z R nb Bn) : ∀ (n : Nat) (l : Nat) (Xs : Nat → Nat), l + n = z 0 → pXs z R nb l Xs → Zn g zX5_placeCells 116 [some (.ref 10), some (.int (nI l)), none] [] (lhp 10 h (z 0) C V nb D W Xs Bn) 0 0 (fun r' h' => r' = .inl none ∧ ∃ Xs' Bn', h' = lhp 10 h (z 0) C V nb D W Xs' Bn' ∧ pXs z R nb (z 0) Xs' ∧ pBn z R nb Bn') := by
  intro n
  induction n with
  | zero =>
    intro l Xs hn0 hn1
    have h0 := hz.1
    have h1 := hz.2.1
    refine zn_iload_n (pc := 116) rfl rfl ?_
    refine zn_aload_n (pc := 117) rfl rfl ?_
    refine zn_get (pc := 118) (v := .ref 11) rfl rfl rfl ?_
    refine zn_callVx (pc := 121) (J := zX1_lines) (o := 11) (as := []) (rest := [.int (nI l)]) rfl rfl rfl rfl rfl rfl rfl rfl (Nat.le_of_ble_eq_true rfl) (Nat.le_of_ble_eq_true rfl) (Nat.le_of_ble_eq_true rfl) (Nat.le_of_ble_eq_true rfl) (c_linesK_10 (cOK_l hcel)) ?_
    refine zn_icmp_geN (pc := 124) (tgt := 138) (x := l) (y := (z 0)) rfl rfl (by omega) (by omega) (fun c1 => ?_) (fun c1 => ?_)
    · have e8 : l = z 0 := by omega
      rw [e8] at hn1
      exact zn_vret (pc := 138) rfl rfl ⟨rfl, Xs, Bn, rfl, hn1, hbn⟩
    · exfalso; omega
  | succ n ih =>
    intro l Xs hn0 hn1
    have h0 := hz.1
    have h1 := hz.2.1
    refine zn_iload_n (pc := 116) rfl rfl ?_
    refine zn_aload_n (pc := 117) rfl rfl ?_
    refine zn_get (pc := 118) (v := .ref 11) rfl rfl rfl ?_
    refine zn_callVx (pc := 121) (J := zX1_lines) (o := 11) (as := []) (rest := [.int (nI l)]) rfl rfl rfl rfl rfl rfl rfl rfl (Nat.le_of_ble_eq_true rfl) (Nat.le_of_ble_eq_true rfl) (Nat.le_of_ble_eq_true rfl) (Nat.le_of_ble_eq_true rfl) (c_linesK_10 (cOK_l hcel)) ?_
    refine zn_icmp_geN (pc := 124) (tgt := 138) (x := l) (y := (z 0)) rfl rfl (by omega) (by omega) (fun c1 => ?_) (fun c1 => ?_)
    · have e8 : l = z 0 := by omega
      rw [e8] at hn1
      exact zn_vret (pc := 138) rfl rfl ⟨rfl, Xs, Bn, rfl, hn1, hbn⟩
    · refine zn_aload_n (pc := 127) rfl rfl ?_
      refine zn_iload_n (pc := 128) rfl rfl ?_
      refine zn_callVx (pc := 129) (J := zX5_placeCellsOf) (o := 10) (as := [.int (nI l)]) (rest := []) rfl rfl rfl rfl rfl rfl rfl rfl (Nat.le_of_ble_eq_true rfl) (Nat.le_of_ble_eq_true rfl) (Nat.le_of_ble_eq_true rfl) (Nat.le_of_ble_eq_true rfl) (c_placeCellsOf_10 hz hcel hr hd hbn (l := l) (by omega)) ?_
      refine zn_iincN (pc := 132) (L' := [some (.ref 10), some (.int (nI (l + 1))), none]) 1 rfl rfl rfl (by decide) rfl ?_
      refine zn_goto (pc := 135) (tgt := 116) rfl rfl ?_
      refine ih (l + 1) _ (by omega) (fun i c q1 q2 => ?_)
      have q8 := (hz.2.2.1 i (by omega)).2
      simp only [pXl]
      by_cases e : i = l
      · subst e
        rw [if_pos (by omega), show 8 * i + c - 8 * i = c by omega]
      · rw [if_neg (by have := (hz.2.2.1 l (by omega)).2; omega)]
        exact hn1 i c (by omega) q2
theorem c_placeCells_10 {C D : Nat → Nat → Nat} {V W : Nat → Int64} (hz : mOK z) (hcel : cCel z C V) {R : Nat → Nat → Nat} {nb : Nat} (hr : rOK z R nb) (hd : ∀ b, b < nb → D 0 b = R 6 b ∧ D 1 b = R 7 b ∧ D 2 b = R 8 b ∧ D 3 b = R 12 b ∧ D 4 b = R 9 b ∧ D 5 b = R 10 b ∧ D 6 b = bNum (mK z (R 6 b)) (R 8 b + 1 - R 7 b) (R 7 b) ∧ D 7 b = R 11 b ∧ W b = bSum z (R 6 b) (R 7 b) (R 8 b)) {Xs : Nat → Nat} {Bn : Nat → Int32} : Zm g zX5_placeCells [.ref 10] (lhp 10 h (z 0) C V nb D W Xs Bn) 0 0 (fun r' h' => r' = .inl none ∧ ∃ Xs' Bn', h' = lhp 10 h (z 0) C V nb D W Xs' Bn' ∧ pXs z R nb (z 0) Xs' ∧ pBn z R nb Bn') := by
  show Zn g zX5_placeCells 0 [some (.ref 10), none, none] [] (lhp 10 h (z 0) C V nb D W Xs Bn) 0 0 _
  refine zn_iconstN (pc := 0) 0 rfl rfl ?_
  refine zn_istore_n (pc := 1) (L' := [some (.ref 10), some (.int (nI 0)), none]) rfl (by decide) rfl ?_
  refine zn_sub (L' := [some (.ref 10), some (.int (nI 0)), none]) ⟨rfl, rfl, trivial⟩ (c_placeCells_110 hz hcel hr hd (fun Bn2 hb2 => ?_) (z 0) 0 Bn (by omega) (fun i j q => absurd q.2.2 (by omega)))
  refine zn_iconstN (pc := 50) 0 rfl rfl ?_
  refine zn_istore_n (pc := 51) (L' := [some (.ref 10), some (.int (nI 0)), none]) rfl (by decide) rfl ?_
  refine zn_sub (L' := [some (.ref 10), some (.int (nI 0)), none]) ⟨rfl, rfl, trivial⟩ (c_placeCells_210 hz hcel hr hd (fun Bn3 hb3 => ?_) nb 0 Bn2 (by omega) hb2)
  refine zn_iconstN (pc := 114) 0 rfl rfl ?_
  refine zn_istore_n (pc := 115) (L' := [some (.ref 10), some (.int (nI 0)), none]) rfl (by decide) rfl ?_
  exact zn_sub (L' := [some (.ref 10), some (.int (nI 0)), none]) ⟨rfl, rfl, trivial⟩ (c_placeCells_310 hz hcel hr hd hb3 (z 0) 0 Xs (by omega) (fun l c q1 q2 => absurd q1 (by omega)))
theorem c_placeCellsOf_l30 {C D : Nat → Nat → Nat} {V W : Nat → Int64} (hz : mOK z) (hcel : cCel z C V) {R : Nat → Nat → Nat} {nb : Nat} (hr : rOK z R nb) (hd : ∀ b, b < nb → D 0 b = R 6 b ∧ D 1 b = R 7 b ∧ D 2 b = R 8 b ∧ D 3 b = R 12 b ∧ D 4 b = R 9 b ∧ D 5 b = R 10 b ∧ D 6 b = bNum (mK z (R 6 b)) (R 8 b + 1 - R 7 b) (R 7 b) ∧ D 7 b = R 11 b ∧ W b = bSum z (R 6 b) (R 7 b) (R 8 b)) {Bn : Nat → Int32} (hbn : pBn z R nb Bn) {X0 : Nat → Nat} {l : Nat} (hl : l < z 0) : ∀ (n : Nat) (c : Nat), c + n + 1 = z (1 + l) → Zn g zX5_placeCellsOf 4 [some (.ref 30), some (.int (nI l)), some (.int (nI (mX R z nb l c))), some (.int (nI c)), none] [] (lhp 30 h (z 0) C V nb D W (pXl R z nb l X0 (c)) Bn) 0 0 (fun r' h' => r' = .inl none ∧ h' = (lhp 30 h (z 0) C V nb D W (pXl R z nb l X0 (z (1 + l))) Bn)) := by
  intro n
  induction n with
  | zero =>
    intro c hn0
    have h0 := hz.1
    have h1 := hz.2.1
    have hzl := hz.2.2.1 l hl
    refine zn_iload_n (pc := 4) rfl rfl ?_
    refine zn_aload_n (pc := 5) rfl rfl ?_
    refine zn_get (pc := 6) (v := .ref 31) rfl rfl rfl ?_
    refine zn_iload_n (pc := 9) rfl rfl ?_
    refine zn_callVx (pc := 10) (J := zX1_cellsOf) (o := 31) (as := [.int (nI l)]) (rest := [.int (nI c)]) rfl rfl rfl rfl rfl rfl rfl rfl (Nat.le_of_ble_eq_true rfl) (Nat.le_of_ble_eq_true rfl) (Nat.le_of_ble_eq_true rfl) (Nat.le_of_ble_eq_true rfl) (c_cellsOf_30 hz (cOK_l hcel) (l := l) (by omega)) ?_
    refine zn_icmp_geN (pc := 13) (tgt := 54) (x := c) (y := (z (1 + l))) rfl rfl (by omega) (by omega) (fun c1 => ?_) (fun c1 => ?_)
    · exfalso; omega
    · refine zn_iload_n (pc := 16) rfl rfl ?_
      refine zn_iload_n (pc := 17) rfl rfl ?_
      refine zn_callSx (pc := 18) (J := zX1_slot) (as := [.int (nI l), .int (nI c)]) (rest := []) rfl (by decide) rfl rfl rfl rfl (Nat.le_of_ble_eq_true rfl) (Nat.le_of_ble_eq_true rfl) (Nat.le_of_ble_eq_true rfl) (Nat.le_of_ble_eq_true rfl) (c_slot (l := l) (c := c)) ?_
      refine zn_istore (pc := 21) (L' := [some (.ref 30), some (.int (nI l)), some (.int (nI (mX R z nb l c))), some (.int (nI c)), some (.int (nI (8 * l + c)))]) rfl (by decide) rfl ?_
      refine zn_aload_n (pc := 23) rfl rfl ?_
      refine zn_get (pc := 24) (v := .ref 48) rfl rfl rfl ?_
      refine zn_iload (pc := 27) rfl rfl ?_
      refine zn_iload_n (pc := 29) rfl rfl ?_
      refine zl_stX (pc := 30) (j := (8 * l + c)) (v := (mX R z nb l c)) rfl rfl (by omega) ?_
      refine zn_iload_n (pc := 31) rfl rfl ?_
      refine zn_aload_n (pc := 32) rfl rfl ?_
      refine zn_get (pc := 33) (v := .ref 38) rfl rfl rfl ?_
      refine zn_aload_n (pc := 36) rfl rfl ?_
      refine zn_get (pc := 37) (v := .ref 49) rfl rfl rfl ?_
      refine zn_iload (pc := 40) rfl rfl ?_
      refine zl_ldB (pc := 42) (j := (8 * l + c)) rfl rfl (by omega) ?_
      refine zn_top (v' := .int (-1)) (by rw [hbn l c hl (by omega)]; unfold mOf; rw [if_neg (by unfold mE; omega)]; rfl) ?_
      refine zn_callVx (pc := 43) (J := zX0_width) (o := 38) (as := [.int (-1)]) (rest := [.int (nI (mX R z nb l c))]) rfl rfl rfl rfl rfl rfl rfl rfl (Nat.le_of_ble_eq_true rfl) (Nat.le_of_ble_eq_true rfl) (Nat.le_of_ble_eq_true rfl) (Nat.le_of_ble_eq_true rfl) (c_width_30n (bOK_l hd) hr.le) ?_
      refine zn_iaddN (pc := 46) (x := (mX R z nb l c)) (y := 0) rfl ?_
      refine zn_istore_n (pc := 47) (L' := [some (.ref 30), some (.int (nI l)), some (.int (nI (mX R z nb l c + 0))), some (.int (nI c)), some (.int (nI (8 * l + c)))]) rfl (by decide) rfl ?_
      refine zn_iincN (pc := 48) (L' := [some (.ref 30), some (.int (nI l)), some (.int (nI (mX R z nb l c + 0))), some (.int (nI (c + 1))), some (.int (nI (8 * l + c)))]) 1 rfl rfl rfl (by decide) rfl ?_
      refine zn_goto (pc := 51) (tgt := 4) rfl rfl ?_
      refine zn_heq (h' := lhp 30 h (z 0) C V nb D W (pXl R z nb l X0 (c + 1)) Bn) (lx_eq ?_) ?_
      · funext j
        simp only [va_up, pXl]
        by_cases e : j = 8 * l + c
        · rw [if_pos e, if_pos (by omega), show j - 8 * l = c by omega]
        · rw [if_neg e]
          by_cases q : 8 * l ≤ j ∧ j < 8 * l + c
          · rw [if_pos q, if_pos (by omega)]
          · rw [if_neg q, if_neg (by omega)]
      refine zn_iload_n (pc := 4) rfl rfl ?_
      refine zn_aload_n (pc := 5) rfl rfl ?_
      refine zn_get (pc := 6) (v := .ref 31) rfl rfl rfl ?_
      refine zn_iload_n (pc := 9) rfl rfl ?_
      refine zn_callVx (pc := 10) (J := zX1_cellsOf) (o := 31) (as := [.int (nI l)]) (rest := [.int (nI (c + 1))]) rfl rfl rfl rfl rfl rfl rfl rfl (Nat.le_of_ble_eq_true rfl) (Nat.le_of_ble_eq_true rfl) (Nat.le_of_ble_eq_true rfl) (Nat.le_of_ble_eq_true rfl) (c_cellsOf_30 hz (cOK_l hcel) (l := l) (by omega)) ?_
      refine zn_icmp_geN (pc := 13) (tgt := 54) (x := (c + 1)) (y := (z (1 + l))) rfl rfl (by omega) (by omega) (fun c2 => ?_) (fun c2 => ?_)
      · have e8 : c + 1 = z (1 + l) := by omega
        rw [e8]
        exact zx_v (pc := 54) rfl rfl rfl rfl
      · exfalso; omega
  | succ n ih =>
    intro c hn0
    have h0 := hz.1
    have h1 := hz.2.1
    have hzl := hz.2.2.1 l hl
    refine zn_iload_n (pc := 4) rfl rfl ?_
    refine zn_aload_n (pc := 5) rfl rfl ?_
    refine zn_get (pc := 6) (v := .ref 31) rfl rfl rfl ?_
    refine zn_iload_n (pc := 9) rfl rfl ?_
    refine zn_callVx (pc := 10) (J := zX1_cellsOf) (o := 31) (as := [.int (nI l)]) (rest := [.int (nI c)]) rfl rfl rfl rfl rfl rfl rfl rfl (Nat.le_of_ble_eq_true rfl) (Nat.le_of_ble_eq_true rfl) (Nat.le_of_ble_eq_true rfl) (Nat.le_of_ble_eq_true rfl) (c_cellsOf_30 hz (cOK_l hcel) (l := l) (by omega)) ?_
    refine zn_icmp_geN (pc := 13) (tgt := 54) (x := c) (y := (z (1 + l))) rfl rfl (by omega) (by omega) (fun c1 => ?_) (fun c1 => ?_)
    · exfalso; omega
    · have hq9 := mCov_of hr.cov (show mE z c l from ⟨hl, by omega⟩)
      refine zn_iload_n (pc := 16) rfl rfl ?_
      refine zn_iload_n (pc := 17) rfl rfl ?_
      refine zn_callSx (pc := 18) (J := zX1_slot) (as := [.int (nI l), .int (nI c)]) (rest := []) rfl (by decide) rfl rfl rfl rfl (Nat.le_of_ble_eq_true rfl) (Nat.le_of_ble_eq_true rfl) (Nat.le_of_ble_eq_true rfl) (Nat.le_of_ble_eq_true rfl) (c_slot (l := l) (c := c)) ?_
      refine zn_istore (pc := 21) (L' := [some (.ref 30), some (.int (nI l)), some (.int (nI (mX R z nb l c))), some (.int (nI c)), some (.int (nI (8 * l + c)))]) rfl (by decide) rfl ?_
      refine zn_aload_n (pc := 23) rfl rfl ?_
      refine zn_get (pc := 24) (v := .ref 48) rfl rfl rfl ?_
      refine zn_iload (pc := 27) rfl rfl ?_
      refine zn_iload_n (pc := 29) rfl rfl ?_
      refine zl_stX (pc := 30) (j := (8 * l + c)) (v := (mX R z nb l c)) rfl rfl (by omega) ?_
      refine zn_iload_n (pc := 31) rfl rfl ?_
      refine zn_aload_n (pc := 32) rfl rfl ?_
      refine zn_get (pc := 33) (v := .ref 38) rfl rfl rfl ?_
      refine zn_aload_n (pc := 36) rfl rfl ?_
      refine zn_get (pc := 37) (v := .ref 49) rfl rfl rfl ?_
      refine zn_iload (pc := 40) rfl rfl ?_
      refine zl_ldB (pc := 42) (j := (8 * l + c)) rfl rfl (by omega) ?_
      refine zn_top (v' := .int (nI (bG (mOf R z l c nb)))) (by rw [hbn l c hl (by omega), hq9.1]) ?_
      refine zn_callVx (pc := 43) (J := zX0_width) (o := 38) (as := [.int (nI (bG (mOf R z l c nb)))]) (rest := [.int (nI (mX R z nb l c))]) rfl rfl rfl rfl rfl rfl rfl rfl (Nat.le_of_ble_eq_true rfl) (Nat.le_of_ble_eq_true rfl) (Nat.le_of_ble_eq_true rfl) (Nat.le_of_ble_eq_true rfl) (c_width_30b (bOK_l hd) hr.le (b := (bG (mOf R z l c nb))) hq9.2) ?_
      refine zn_iaddN (pc := 46) (x := (mX R z nb l c)) (y := (R 12 (bG (mOf R z l c nb)))) rfl ?_
      refine zn_istore_n (pc := 47) (L' := [some (.ref 30), some (.int (nI l)), some (.int (nI (mX R z nb l c + (R 12 (bG (mOf R z l c nb)))))), some (.int (nI c)), some (.int (nI (8 * l + c)))]) rfl (by decide) rfl ?_
      refine zn_iincN (pc := 48) (L' := [some (.ref 30), some (.int (nI l)), some (.int (nI (mX R z nb l c + (R 12 (bG (mOf R z l c nb)))))), some (.int (nI (c + 1))), some (.int (nI (8 * l + c)))]) 1 rfl rfl rfl (by decide) rfl ?_
      refine zn_goto (pc := 51) (tgt := 4) rfl rfl ?_
      refine zn_heq (h' := lhp 30 h (z 0) C V nb D W (pXl R z nb l X0 (c + 1)) Bn) (lx_eq ?_) ?_
      · funext j
        simp only [va_up, pXl]
        by_cases e : j = 8 * l + c
        · rw [if_pos e, if_pos (by omega), show j - 8 * l = c by omega]
        · rw [if_neg e]
          by_cases q : 8 * l ≤ j ∧ j < 8 * l + c
          · rw [if_pos q, if_pos (by omega)]
          · rw [if_neg q, if_neg (by omega)]
      exact zn_sub (L' := [some (.ref 30), some (.int (nI l)), some (.int (nI (mX R z nb l (c + 1)))), some (.int (nI (c + 1))), none]) ⟨rfl, rfl, rfl, rfl, trivial⟩ (ih (c + 1) (by omega))
theorem c_placeCellsOf_30  {C D : Nat → Nat → Nat} {V W : Nat → Int64} (hz : mOK z) (hcel : cCel z C V) {R : Nat → Nat → Nat} {nb : Nat} (hr : rOK z R nb) (hd : ∀ b, b < nb → D 0 b = R 6 b ∧ D 1 b = R 7 b ∧ D 2 b = R 8 b ∧ D 3 b = R 12 b ∧ D 4 b = R 9 b ∧ D 5 b = R 10 b ∧ D 6 b = bNum (mK z (R 6 b)) (R 8 b + 1 - R 7 b) (R 7 b) ∧ D 7 b = R 11 b ∧ W b = bSum z (R 6 b) (R 7 b) (R 8 b)) {Bn : Nat → Int32} (hbn : pBn z R nb Bn) {Xs : Nat → Nat} {l : Nat} (hl : l < z 0) : Zx g zX5_placeCellsOf [.ref 30, .int (nI l)] (lhp 30 h (z 0) C V nb D W Xs Bn) none (lhp 30 h (z 0) C V nb D W (pXl R z nb l Xs (z (1 + l))) Bn) := by
  have h0 := hz.1
  have h1 := hz.2.1
  have hzl := hz.2.2.1 l hl
  show Zn g zX5_placeCellsOf 0 [some (.ref 30), some (.int (nI l)), none, none, none] [] (lhp 30 h (z 0) C V nb D W Xs Bn) 0 0 _
  refine zn_iconstN (pc := 0) 0 rfl rfl ?_
  refine zn_istore_n (pc := 1) (L' := [some (.ref 30), some (.int (nI l)), some (.int (nI 0)), none, none]) rfl (by decide) rfl ?_
  refine zn_iconstN (pc := 2) 0 rfl rfl ?_
  refine zn_istore_n (pc := 3) (L' := [some (.ref 30), some (.int (nI l)), some (.int (nI 0)), some (.int (nI 0)), none]) rfl (by decide) rfl ?_
  refine zn_heq (h' := lhp 30 h (z 0) C V nb D W (pXl R z nb l Xs 0) Bn) (lx_eq ?_) (c_placeCellsOf_l30 hz hcel hr hd hbn hl (z (1 + l) - 1) 0 (by omega))
  · funext j; simp only [pXl]; rw [if_neg (by omega)]
theorem c_placeCells_330 {C D : Nat → Nat → Nat} {V W : Nat → Int64} (hz : mOK z) (hcel : cCel z C V) {R : Nat → Nat → Nat} {nb : Nat} (hr : rOK z R nb) (hd : ∀ b, b < nb → D 0 b = R 6 b ∧ D 1 b = R 7 b ∧ D 2 b = R 8 b ∧ D 3 b = R 12 b ∧ D 4 b = R 9 b ∧ D 5 b = R 10 b ∧ D 6 b = bNum (mK z (R 6 b)) (R 8 b + 1 - R 7 b) (R 7 b) ∧ D 7 b = R 11 b ∧ W b = bSum z (R 6 b) (R 7 b) (R 8 b)) {Bn : Nat → Int32} (hbn : pBn z R nb Bn) : ∀ (n : Nat) (l : Nat) (Xs : Nat → Nat), l + n = z 0 → pXs z R nb l Xs → Zn g zX5_placeCells 116 [some (.ref 30), some (.int (nI l)), none] [] (lhp 30 h (z 0) C V nb D W Xs Bn) 0 0 (fun r' h' => r' = .inl none ∧ ∃ Xs' Bn', h' = lhp 30 h (z 0) C V nb D W Xs' Bn' ∧ pXs z R nb (z 0) Xs' ∧ pBn z R nb Bn') := by
  intro n
  induction n with
  | zero =>
    intro l Xs hn0 hn1
    have h0 := hz.1
    have h1 := hz.2.1
    refine zn_iload_n (pc := 116) rfl rfl ?_
    refine zn_aload_n (pc := 117) rfl rfl ?_
    refine zn_get (pc := 118) (v := .ref 31) rfl rfl rfl ?_
    refine zn_callVx (pc := 121) (J := zX1_lines) (o := 31) (as := []) (rest := [.int (nI l)]) rfl rfl rfl rfl rfl rfl rfl rfl (Nat.le_of_ble_eq_true rfl) (Nat.le_of_ble_eq_true rfl) (Nat.le_of_ble_eq_true rfl) (Nat.le_of_ble_eq_true rfl) (c_linesK_30 (cOK_l hcel)) ?_
    refine zn_icmp_geN (pc := 124) (tgt := 138) (x := l) (y := (z 0)) rfl rfl (by omega) (by omega) (fun c1 => ?_) (fun c1 => ?_)
    · have e8 : l = z 0 := by omega
      rw [e8] at hn1
      exact zn_vret (pc := 138) rfl rfl ⟨rfl, Xs, Bn, rfl, hn1, hbn⟩
    · exfalso; omega
  | succ n ih =>
    intro l Xs hn0 hn1
    have h0 := hz.1
    have h1 := hz.2.1
    refine zn_iload_n (pc := 116) rfl rfl ?_
    refine zn_aload_n (pc := 117) rfl rfl ?_
    refine zn_get (pc := 118) (v := .ref 31) rfl rfl rfl ?_
    refine zn_callVx (pc := 121) (J := zX1_lines) (o := 31) (as := []) (rest := [.int (nI l)]) rfl rfl rfl rfl rfl rfl rfl rfl (Nat.le_of_ble_eq_true rfl) (Nat.le_of_ble_eq_true rfl) (Nat.le_of_ble_eq_true rfl) (Nat.le_of_ble_eq_true rfl) (c_linesK_30 (cOK_l hcel)) ?_
    refine zn_icmp_geN (pc := 124) (tgt := 138) (x := l) (y := (z 0)) rfl rfl (by omega) (by omega) (fun c1 => ?_) (fun c1 => ?_)
    · have e8 : l = z 0 := by omega
      rw [e8] at hn1
      exact zn_vret (pc := 138) rfl rfl ⟨rfl, Xs, Bn, rfl, hn1, hbn⟩
    · refine zn_aload_n (pc := 127) rfl rfl ?_
      refine zn_iload_n (pc := 128) rfl rfl ?_
      refine zn_callVx (pc := 129) (J := zX5_placeCellsOf) (o := 30) (as := [.int (nI l)]) (rest := []) rfl rfl rfl rfl rfl rfl rfl rfl (Nat.le_of_ble_eq_true rfl) (Nat.le_of_ble_eq_true rfl) (Nat.le_of_ble_eq_true rfl) (Nat.le_of_ble_eq_true rfl) (c_placeCellsOf_30 hz hcel hr hd hbn (l := l) (by omega)) ?_
      refine zn_iincN (pc := 132) (L' := [some (.ref 30), some (.int (nI (l + 1))), none]) 1 rfl rfl rfl (by decide) rfl ?_
      refine zn_goto (pc := 135) (tgt := 116) rfl rfl ?_
      refine ih (l + 1) _ (by omega) (fun i c q1 q2 => ?_)
      have q8 := (hz.2.2.1 i (by omega)).2
      simp only [pXl]
      by_cases e : i = l
      · subst e
        rw [if_pos (by omega), show 8 * i + c - 8 * i = c by omega]
      · rw [if_neg (by have := (hz.2.2.1 l (by omega)).2; omega)]
        exact hn1 i c (by omega) q2
theorem c_placeCells_30 {C D : Nat → Nat → Nat} {V W : Nat → Int64} (hz : mOK z) (hcel : cCel z C V) {R : Nat → Nat → Nat} {nb : Nat} (hr : rOK z R nb) (hd : ∀ b, b < nb → D 0 b = R 6 b ∧ D 1 b = R 7 b ∧ D 2 b = R 8 b ∧ D 3 b = R 12 b ∧ D 4 b = R 9 b ∧ D 5 b = R 10 b ∧ D 6 b = bNum (mK z (R 6 b)) (R 8 b + 1 - R 7 b) (R 7 b) ∧ D 7 b = R 11 b ∧ W b = bSum z (R 6 b) (R 7 b) (R 8 b)) {Xs : Nat → Nat} {Bn : Nat → Int32} : Zm g zX5_placeCells [.ref 30] (lhp 30 h (z 0) C V nb D W Xs Bn) 0 0 (fun r' h' => r' = .inl none ∧ ∃ Xs' Bn', h' = lhp 30 h (z 0) C V nb D W Xs' Bn' ∧ pXs z R nb (z 0) Xs' ∧ pBn z R nb Bn') := by
  show Zn g zX5_placeCells 0 [some (.ref 30), none, none] [] (lhp 30 h (z 0) C V nb D W Xs Bn) 0 0 _
  refine zn_iconstN (pc := 0) 0 rfl rfl ?_
  refine zn_istore_n (pc := 1) (L' := [some (.ref 30), some (.int (nI 0)), none]) rfl (by decide) rfl ?_
  refine zn_sub (L' := [some (.ref 30), some (.int (nI 0)), none]) ⟨rfl, rfl, trivial⟩ (c_placeCells_130 hz hcel hr hd (fun Bn2 hb2 => ?_) (z 0) 0 Bn (by omega) (fun i j q => absurd q.2.2 (by omega)))
  refine zn_iconstN (pc := 50) 0 rfl rfl ?_
  refine zn_istore_n (pc := 51) (L' := [some (.ref 30), some (.int (nI 0)), none]) rfl (by decide) rfl ?_
  refine zn_sub (L' := [some (.ref 30), some (.int (nI 0)), none]) ⟨rfl, rfl, trivial⟩ (c_placeCells_230 hz hcel hr hd (fun Bn3 hb3 => ?_) nb 0 Bn2 (by omega) hb2)
  refine zn_iconstN (pc := 114) 0 rfl rfl ?_
  refine zn_istore_n (pc := 115) (L' := [some (.ref 30), some (.int (nI 0)), none]) rfl (by decide) rfl ?_
  exact zn_sub (L' := [some (.ref 30), some (.int (nI 0)), none]) ⟨rfl, rfl, trivial⟩ (c_placeCells_330 hz hcel hr hd hb3 (z 0) 0 Xs (by omega) (fun l c q1 q2 => absurd q1 (by omega)))
end m1
