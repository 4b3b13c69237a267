section m1
variable {g : zG} {h hh : zH} {F : Nat → Nat} {S : Int64} {z : Nat → Nat} {A : Nat → Nat → Nat} {X : Nat → Int32}
/-- the numbers of the blocks stand in Bn when the first b blocks are entered -/
abbrev pBn (z : Nat → Nat) (R : Nat → Nat → Nat) (b : Nat) (Bn : Nat → Int32) : Prop := ∀ l c, l < z 0 → c < z (1 + l) → Bn (8 * l + c) = oI (mOf R z l c b)
abbrev pXs (z : Nat → Nat) (R : Nat → Nat → Nat) (n k : Nat) (Xs : Nat → Nat) : Prop := ∀ l c, l < k → c < z (1 + l) → Xs (8 * l + c) = mX R z n l c
theorem pBn_step {R : Nat → Nat → Nat} {nb b : Nat} {Bn Bn' : Nat → Int32} (hz : mOK z) (hr : rOK z R nb) (hb : b < nb) (h0 : pBn z R b Bn) (h1 : ∀ j, Bn' j = if R 7 b ≤ j / 8 ∧ j / 8 < R 8 b + 1 ∧ j % 8 = R 6 b then nI b else Bn j) : pBn z R (b + 1) Bn' := by
  intro l c hl hc
  have hb9 := hr.blk b hb
  have h8 := (hz.2.2.1 l hl).2
  have h24 := hz.2.1
  have hc7 := hb9.1.1
  rw [h1, mOf_s]
  by_cases q : mE z c l ∧ R 6 b = c ∧ R 7 b ≤ l ∧ l ≤ R 8 b
  · rw [if_pos q, if_pos (by have := q.2; omega)]
    rfl
  · rw [if_neg q, if_neg]
    · exact h0 l c hl hc
    · rintro ⟨e2, e3, e4⟩
      have e5 : R 6 b = c := by omega
      have e6 : (8 * l + c) / 8 = l := by omega
      rw [e6] at e2 e3
      exact q ⟨by rw [← e5]; exact hb9.2 l e2 (by omega), e5, e2, by omega⟩
theorem c_placeCells_1i10 {C D : Nat → Nat → Nat} {V W : Nat → Int64} (hz : mOK z) (hcel : cCel z C V) {R : Nat → Nat → Nat} {nb : Nat} (hr : rOK z R nb) (hd : ∀ b, b < nb → D 0 b = R 6 b ∧ D 1 b = R 7 b ∧ D 2 b = R 8 b ∧ D 3 b = R 12 b ∧ D 4 b = R 9 b ∧ D 5 b = R 10 b ∧ D 6 b = bNum (mK z (R 6 b)) (R 8 b + 1 - R 7 b) (R 7 b) ∧ D 7 b = R 11 b ∧ W b = bSum z (R 6 b) (R 7 b) (R 8 b)) {Xs : Nat → Nat} {l : Nat} {Q : zR → zH → Prop} (hl : l < z 0) (K : ∀ Bn : Nat → Int32, (∀ i j, i < z 0 ∧ j < z (1 + i) ∧ i < l + 1 → Bn (8 * i + j) = -1) → Zn g zX5_placeCells 2 [some (.ref 10), some (.int (nI (l + 1))), none] [] (lhp 10 h (z 0) C V nb D W Xs Bn) 0 0 Q) : ∀ (n : Nat) (c : Nat) (Bn : Nat → Int32), c + n = z (1 + l) → (∀ i j, i < z 0 ∧ j < z (1 + i) ∧ (i < l ∨ (i = l ∧ j < c)) → Bn (8 * i + j) = -1) → Zn g zX5_placeCells 15 [some (.ref 10), some (.int (nI l)), some (.int (nI c))] [] (lhp 10 h (z 0) C V nb D W Xs Bn) 0 0 Q := by
  intro n
  induction n with
  | zero =>
    intro c Bn hn0 hn1
    have h0 := hz.1
    have h1 := hz.2.1
    have hzl := hz.2.2.1 l hl
    refine zn_iload_n (pc := 15) rfl rfl ?_
    refine zn_aload_n (pc := 16) rfl rfl ?_
    refine zn_get (pc := 17) (v := .ref 11) rfl rfl rfl ?_
    refine zn_iload_n (pc := 20) rfl rfl ?_
    refine zn_callVx (pc := 21) (J := zX1_cellsOf) (o := 11) (as := [.int (nI l)]) (rest := [.int (nI c)]) rfl rfl rfl rfl rfl rfl rfl rfl (Nat.le_of_ble_eq_true rfl) (Nat.le_of_ble_eq_true rfl) (Nat.le_of_ble_eq_true rfl) (Nat.le_of_ble_eq_true rfl) (c_cellsOf_10 hz (cOK_l hcel) (l := l) (by omega)) ?_
    refine zn_icmp_geN (pc := 24) (tgt := 44) (x := c) (y := (z (1 + l))) rfl rfl (by omega) (by omega) (fun c1 => ?_) (fun c1 => ?_)
    · refine zn_iincN (pc := 44) (L' := [some (.ref 10), some (.int (nI (l + 1))), some (.int (nI c))]) 1 rfl rfl rfl (by decide) rfl ?_
      refine zn_goto (pc := 47) (tgt := 2) rfl rfl ?_
      exact zn_sub (L' := [some (.ref 10), some (.int (nI (l + 1))), none]) ⟨rfl, rfl, trivial⟩ (K Bn (fun i j q => hn1 i j ⟨q.1, q.2.1, (Nat.lt_or_ge i l).elim Or.inl (fun r => Or.inr ⟨by omega, by have := q.2.1; rw [show i = l by omega] at this; omega⟩)⟩))
    · exfalso; omega
  | succ n ih =>
    intro c Bn hn0 hn1
    have h0 := hz.1
    have h1 := hz.2.1
    have hzl := hz.2.2.1 l hl
    refine zn_iload_n (pc := 15) rfl rfl ?_
    refine zn_aload_n (pc := 16) rfl rfl ?_
    refine zn_get (pc := 17) (v := .ref 11) rfl rfl rfl ?_
    refine zn_iload_n (pc := 20) rfl rfl ?_
    refine zn_callVx (pc := 21) (J := zX1_cellsOf) (o := 11) (as := [.int (nI l)]) (rest := [.int (nI c)]) rfl rfl rfl rfl rfl rfl rfl rfl (Nat.le_of_ble_eq_true rfl) (Nat.le_of_ble_eq_true rfl) (Nat.le_of_ble_eq_true rfl) (Nat.le_of_ble_eq_true rfl) (c_cellsOf_10 hz (cOK_l hcel) (l := l) (by omega)) ?_
    refine zn_icmp_geN (pc := 24) (tgt := 44) (x := c) (y := (z (1 + l))) rfl rfl (by omega) (by omega) (fun c1 => ?_) (fun c1 => ?_)
    · refine zn_iincN (pc := 44) (L' := [some (.ref 10), some (.int (nI (l + 1))), some (.int (nI c))]) 1 rfl rfl rfl (by decide) rfl ?_
      refine zn_goto (pc := 47) (tgt := 2) rfl rfl ?_
      exact zn_sub (L' := [some (.ref 10), some (.int (nI (l + 1))), none]) ⟨rfl, rfl, trivial⟩ (K Bn (fun i j q => hn1 i j ⟨q.1, q.2.1, (Nat.lt_or_ge i l).elim Or.inl (fun r => Or.inr ⟨by omega, by have := q.2.1; rw [show i = l by omega] at this; omega⟩)⟩))
    · refine zn_aload_n (pc := 27) rfl rfl ?_
      refine zn_get (pc := 28) (v := .ref 29) rfl rfl rfl ?_
      refine zn_iload_n (pc := 31) rfl rfl ?_
      refine zn_iload_n (pc := 32) rfl rfl ?_
      refine zn_callSx (pc := 33) (J := zX1_slot) (as := [.int (nI l), .int (nI c)]) (rest := [.ref 29]) rfl (by decide) rfl rfl rfl rfl (Nat.le_of_ble_eq_true rfl) (Nat.le_of_ble_eq_true rfl) (Nat.le_of_ble_eq_true rfl) (Nat.le_of_ble_eq_true rfl) (c_slot (l := l) (c := c)) ?_
      refine zn_iconst (pc := 36) (-1) rfl rfl ?_
      refine zl_stB (pc := 37) (j := (8 * l + c)) (v := (-1)) rfl rfl (by omega) ?_
      refine zn_iincN (pc := 38) (L' := [some (.ref 10), some (.int (nI l)), some (.int (nI (c + 1)))]) 1 rfl rfl rfl (by decide) rfl ?_
      refine zn_goto (pc := 41) (tgt := 15) rfl rfl ?_
      refine ih (c + 1) _ (by omega) (fun i j q => ?_)
      by_cases e : 8 * i + j = 8 * l + c
      · simp only [upd, e, ↓reduceIte]; try rfl
      · simp only [upd, e, ↓reduceIte]
        exact hn1 i j ⟨q.1, q.2.1, by have := (hz.2.2.1 i q.1).2; omega⟩
theorem c_placeCells_110 {C D : Nat → Nat → Nat} {V W : Nat → Int64} (hz : mOK z) (hcel : cCel z C V) {R : Nat → Nat → Nat} {nb : Nat} (hr : rOK z R nb) (hd : ∀ b, b < nb → D 0 b = R 6 b ∧ D 1 b = R 7 b ∧ D 2 b = R 8 b ∧ D 3 b = R 12 b ∧ D 4 b = R 9 b ∧ D 5 b = R 10 b ∧ D 6 b = bNum (mK z (R 6 b)) (R 8 b + 1 - R 7 b) (R 7 b) ∧ D 7 b = R 11 b ∧ W b = bSum z (R 6 b) (R 7 b) (R 8 b)) {Xs : Nat → Nat} {Q : zR → zH → Prop} (K : ∀ Bn : Nat → Int32, pBn z R 0 Bn → Zn g zX5_placeCells 50 [some (.ref 10), none, none] [] (lhp 10 h (z 0) C V nb D W Xs Bn) 0 0 Q) : ∀ (n : Nat) (l : Nat) (Bn : Nat → Int32), l + n = z 0 → (∀ i j, i < z 0 ∧ j < z (1 + i) ∧ i < l → Bn (8 * i + j) = -1) → Zn g zX5_placeCells 2 [some (.ref 10), some (.int (nI l)), none] [] (lhp 10 h (z 0) C V nb D W Xs Bn) 0 0 Q := by
  intro n
  induction n with
  | zero =>
    intro l Bn hn0 hn1
    have h0 := hz.1
    have h1 := hz.2.1
    refine zn_iload_n (pc := 2) rfl rfl ?_
    refine zn_aload_n (pc := 3) rfl rfl ?_
    refine zn_get (pc := 4) (v := .ref 11) rfl rfl rfl ?_
    refine zn_callVx (pc := 7) (J := zX1_lines) (o := 11) (as := []) (rest := [.int (nI l)]) rfl rfl rfl rfl rfl rfl rfl rfl (Nat.le_of_ble_eq_true rfl) (Nat.le_of_ble_eq_true rfl) (Nat.le_of_ble_eq_true rfl) (Nat.le_of_ble_eq_true rfl) (c_linesK_10 (cOK_l hcel)) ?_
    refine zn_icmp_geN (pc := 10) (tgt := 50) (x := l) (y := (z 0)) rfl rfl (by omega) (by omega) (fun c1 => ?_) (fun c1 => ?_)
    · exact zn_sub (L' := [some (.ref 10), none, none]) ⟨rfl, trivial⟩ (K Bn (fun i j q1 q2 => by rw [hn1 i j ⟨q1, q2, by omega⟩]; unfold mOf; (split <;> rfl)))
    · exfalso; omega
  | succ n ih =>
    intro l Bn hn0 hn1
    have h0 := hz.1
    have h1 := hz.2.1
    refine zn_iload_n (pc := 2) rfl rfl ?_
    refine zn_aload_n (pc := 3) rfl rfl ?_
    refine zn_get (pc := 4) (v := .ref 11) rfl rfl rfl ?_
    refine zn_callVx (pc := 7) (J := zX1_lines) (o := 11) (as := []) (rest := [.int (nI l)]) rfl rfl rfl rfl rfl rfl rfl rfl (Nat.le_of_ble_eq_true rfl) (Nat.le_of_ble_eq_true rfl) (Nat.le_of_ble_eq_true rfl) (Nat.le_of_ble_eq_true rfl) (c_linesK_10 (cOK_l hcel)) ?_
    refine zn_icmp_geN (pc := 10) (tgt := 50) (x := l) (y := (z 0)) rfl rfl (by omega) (by omega) (fun c1 => ?_) (fun c1 => ?_)
    · exact zn_sub (L' := [some (.ref 10), none, none]) ⟨rfl, trivial⟩ (K Bn (fun i j q1 q2 => by rw [hn1 i j ⟨q1, q2, by omega⟩]; unfold mOf; (split <;> rfl)))
    · refine zn_iconstN (pc := 13) 0 rfl rfl ?_
      refine zn_istore_n (pc := 14) (L' := [some (.ref 10), some (.int (nI l)), some (.int (nI 0))]) rfl (by decide) rfl ?_
      exact zn_sub (L' := [some (.ref 10), some (.int (nI l)), some (.int (nI 0))]) ⟨rfl, rfl, rfl, trivial⟩ (c_placeCells_1i10 hz hcel hr hd (by omega) (fun Bn' q => ih (l + 1) Bn' (by omega) q) (z (1 + l)) 0 Bn (by omega) (fun i j q => hn1 i j ⟨q.1, q.2.1, by omega⟩))
theorem c_placeCells_2i10 {C D : Nat → Nat → Nat} {V W : Nat → Int64} (hz : mOK z) (hcel : cCel z C V) {R : Nat → Nat → Nat} {nb : Nat} (hr : rOK z R nb) (hd : ∀ b, b < nb → D 0 b = R 6 b ∧ D 1 b = R 7 b ∧ D 2 b = R 8 b ∧ D 3 b = R 12 b ∧ D 4 b = R 9 b ∧ D 5 b = R 10 b ∧ D 6 b = bNum (mK z (R 6 b)) (R 8 b + 1 - R 7 b) (R 7 b) ∧ D 7 b = R 11 b ∧ W b = bSum z (R 6 b) (R 7 b) (R 8 b)) {Xs : Nat → Nat} {B0 : Nat → Int32} {b : Nat} {Q : zR → zH → Prop} (hb : b < nb) (K : ∀ Bn : Nat → Int32, (∀ j, Bn j = if R 7 b ≤ j / 8 ∧ j / 8 < R 8 b + 1 ∧ j % 8 = R 6 b then nI b else B0 j) → Zn g zX5_placeCells 52 [some (.ref 10), some (.int (nI (b + 1))), none] [] (lhp 10 h (z 0) C V nb D W Xs Bn) 0 0 Q) : ∀ (n : Nat) (l : Nat) (Bn : Nat → Int32), l + n = R 8 b + 1 → R 7 b ≤ l → (∀ j, Bn j = if R 7 b ≤ j / 8 ∧ j / 8 < l ∧ j % 8 = R 6 b then nI b else B0 j) → Zn g zX5_placeCells 72 [some (.ref 10), some (.int (nI b)), some (.int (nI l))] [] (lhp 10 h (z 0) C V nb D W Xs Bn) 0 0 Q := by
  intro n
  induction n with
  | zero =>
    intro l Bn hn0 hn1 hn2
    have hb9 := hr.blk b hb
    obtain ⟨⟨b1, b2, b3, b4, b5⟩, hE9⟩ := hb9
    have hle := hr.le
    refine zn_iload_n (pc := 72) rfl rfl ?_
    refine zn_aload_n (pc := 73) rfl rfl ?_
    refine zn_get (pc := 74) (v := .ref 18) rfl rfl rfl ?_
    refine zn_iload_n (pc := 77) rfl rfl ?_
    refine zn_callVx (pc := 78) (J := zX0_last) (o := 18) (as := [.int (nI b)]) (rest := [.int (nI l)]) rfl rfl rfl rfl rfl rfl rfl rfl (Nat.le_of_ble_eq_true rfl) (Nat.le_of_ble_eq_true rfl) (Nat.le_of_ble_eq_true rfl) (Nat.le_of_ble_eq_true rfl) (c_last_10b (bOK_l hd) hr.le (b := b) (by omega)) ?_
    refine zn_icmp_gtN (pc := 81) (tgt := 108) (x := l) (y := (R 8 b)) rfl rfl (by omega) (by omega) (fun c1 => ?_) (fun c1 => ?_)
    · refine zn_iincN (pc := 108) (L' := [some (.ref 10), some (.int (nI (b + 1))), some (.int (nI l))]) 1 rfl rfl rfl (by decide) rfl ?_
      refine zn_goto (pc := 111) (tgt := 52) rfl rfl ?_
      have e8 : l = R 8 b + 1 := by omega
      rw [e8] at hn2
      exact zn_sub (L' := [some (.ref 10), some (.int (nI (b + 1))), none]) ⟨rfl, rfl, trivial⟩ (K Bn hn2)
    · exfalso; omega
  | succ n ih =>
    intro l Bn hn0 hn1 hn2
    have hb9 := hr.blk b hb
    obtain ⟨⟨b1, b2, b3, b4, b5⟩, hE9⟩ := hb9
    have hle := hr.le
    refine zn_iload_n (pc := 72) rfl rfl ?_
    refine zn_aload_n (pc := 73) rfl rfl ?_
    refine zn_get (pc := 74) (v := .ref 18) rfl rfl rfl ?_
    refine zn_iload_n (pc := 77) rfl rfl ?_
    refine zn_callVx (pc := 78) (J := zX0_last) (o := 18) (as := [.int (nI b)]) (rest := [.int (nI l)]) rfl rfl rfl rfl rfl rfl rfl rfl (Nat.le_of_ble_eq_true rfl) (Nat.le_of_ble_eq_true rfl) (Nat.le_of_ble_eq_true rfl) (Nat.le_of_ble_eq_true rfl) (c_last_10b (bOK_l hd) hr.le (b := b) (by omega)) ?_
    refine zn_icmp_gtN (pc := 81) (tgt := 108) (x := l) (y := (R 8 b)) rfl rfl (by omega) (by omega) (fun c1 => ?_) (fun c1 => ?_)
    · refine zn_iincN (pc := 108) (L' := [some (.ref 10), some (.int (nI (b + 1))), some (.int (nI l))]) 1 rfl rfl rfl (by decide) rfl ?_
      refine zn_goto (pc := 111) (tgt := 52) rfl rfl ?_
      have e8 : l = R 8 b + 1 := by omega
      rw [e8] at hn2
      exact zn_sub (L' := [some (.ref 10), some (.int (nI (b + 1))), none]) ⟨rfl, rfl, trivial⟩ (K Bn hn2)
    · refine zn_aload_n (pc := 84) rfl rfl ?_
      refine zn_get (pc := 85) (v := .ref 29) rfl rfl rfl ?_
      refine zn_iload_n (pc := 88) rfl rfl ?_
      refine zn_aload_n (pc := 89) rfl rfl ?_
      refine zn_get (pc := 90) (v := .ref 18) rfl rfl rfl ?_
      refine zn_iload_n (pc := 93) rfl rfl ?_
      refine zn_callVx (pc := 94) (J := zX0_column) (o := 18) (as := [.int (nI b)]) (rest := [.int (nI l), .ref 29]) rfl rfl rfl rfl rfl rfl rfl rfl (Nat.le_of_ble_eq_true rfl) (Nat.le_of_ble_eq_true rfl) (Nat.le_of_ble_eq_true rfl) (Nat.le_of_ble_eq_true rfl) (c_column_10b (bOK_l hd) hr.le (b := b) (by omega)) ?_
      refine zn_callSx (pc := 97) (J := zX1_slot) (as := [.int (nI l), .int (nI (R 6 b))]) (rest := [.ref 29]) rfl (by decide) rfl rfl rfl rfl (Nat.le_of_ble_eq_true rfl) (Nat.le_of_ble_eq_true rfl) (Nat.le_of_ble_eq_true rfl) (Nat.le_of_ble_eq_true rfl) (c_slot (l := l) (c := (R 6 b))) ?_
      refine zn_iload_n (pc := 100) rfl rfl ?_
      refine zl_stB (pc := 101) (j := (8 * l + (R 6 b))) (v := (nI b)) rfl rfl (by omega) ?_
      refine zn_iincN (pc := 102) (L' := [some (.ref 10), some (.int (nI b)), some (.int (nI (l + 1)))]) 1 rfl rfl rfl (by decide) rfl ?_
      refine zn_goto (pc := 105) (tgt := 72) rfl rfl ?_
      refine ih (l + 1) _ (by omega) (by omega) (fun j => ?_)
      by_cases e : j = 8 * l + R 6 b
      · rw [if_pos (by omega)]
        simp only [upd, e, ↓reduceIte]
      · simp only [upd, e, ↓reduceIte]
        rw [hn2 j]
        by_cases q : R 7 b ≤ j / 8 ∧ j / 8 < l ∧ j % 8 = R 6 b
        · rw [if_pos q, if_pos (by omega)]
        · rw [if_neg q, if_neg (by omega)]
theorem c_placeCells_210 {C D : Nat → Nat → Nat} {V W : Nat → Int64} (hz : mOK z) (hcel : cCel z C V) {R : Nat → Nat → Nat} {nb : Nat} (hr : rOK z R nb) (hd : ∀ b, b < nb → D 0 b = R 6 b ∧ D 1 b = R 7 b ∧ D 2 b = R 8 b ∧ D 3 b = R 12 b ∧ D 4 b = R 9 b ∧ D 5 b = R 10 b ∧ D 6 b = bNum (mK z (R 6 b)) (R 8 b + 1 - R 7 b) (R 7 b) ∧ D 7 b = R 11 b ∧ W b = bSum z (R 6 b) (R 7 b) (R 8 b)) {Xs : Nat → Nat} {Q : zR → zH → Prop} (K : ∀ Bn : Nat → Int32, pBn z R nb Bn → Zn g zX5_placeCells 114 [some (.ref 10), none, none] [] (lhp 10 h (z 0) C V nb D W Xs Bn) 0 0 Q) : ∀ (n : Nat) (b : Nat) (Bn : Nat → Int32), b + n = nb → pBn z R b Bn → Zn g zX5_placeCells 52 [some (.ref 10), some (.int (nI b)), none] [] (lhp 10 h (z 0) C V nb D W Xs Bn) 0 0 Q := by
  intro n
  induction n with
  | zero =>
    intro b Bn hn0 hn1
    have h0 := hz.1
    have h1 := hz.2.1
    have hle := hr.le
    refine zn_iload_n (pc := 52) rfl rfl ?_
    refine zn_aload_n (pc := 53) rfl rfl ?_
    refine zn_get (pc := 54) (v := .ref 18) rfl rfl rfl ?_
    refine zn_callVx (pc := 57) (J := zX0_size) (o := 18) (as := []) (rest := [.int (nI b)]) rfl rfl rfl rfl rfl rfl rfl rfl (Nat.le_of_ble_eq_true rfl) (Nat.le_of_ble_eq_true rfl) (Nat.le_of_ble_eq_true rfl) (Nat.le_of_ble_eq_true rfl) (c_size_10 (bOK_l hd) hr.le) ?_
    refine zn_icmp_geN (pc := 60) (tgt := 114) (x := b) (y := nb) rfl rfl (by omega) (by omega) (fun c1 => ?_) (fun c1 => ?_)
    · have e8 : b = nb := by omega
      subst e8
      exact zn_sub (L' := [some (.ref 10), none, none]) ⟨rfl, trivial⟩ (K Bn hn1)
    · exfalso; omega
  | succ n ih =>
    intro b Bn hn0 hn1
    have h0 := hz.1
    have h1 := hz.2.1
    have hle := hr.le
    refine zn_iload_n (pc := 52) rfl rfl ?_
    refine zn_aload_n (pc := 53) rfl rfl ?_
    refine zn_get (pc := 54) (v := .ref 18) rfl rfl rfl ?_
    refine zn_callVx (pc := 57) (J := zX0_size) (o := 18) (as := []) (rest := [.int (nI b)]) rfl rfl rfl rfl rfl rfl rfl rfl (Nat.le_of_ble_eq_true rfl) (Nat.le_of_ble_eq_true rfl) (Nat.le_of_ble_eq_true rfl) (Nat.le_of_ble_eq_true rfl) (c_size_10 (bOK_l hd) hr.le) ?_
    refine zn_icmp_geN (pc := 60) (tgt := 114) (x := b) (y := nb) rfl rfl (by omega) (by omega) (fun c1 => ?_) (fun c1 => ?_)
    · have e8 : b = nb := by omega
      subst e8
      exact zn_sub (L' := [some (.ref 10), none, none]) ⟨rfl, trivial⟩ (K Bn hn1)
    · obtain ⟨⟨b1, b2, b3, b4, b5⟩, hE9⟩ := hr.blk b (by omega)
      refine zn_aload_n (pc := 63) rfl rfl ?_
      refine zn_get (pc := 64) (v := .ref 18) rfl rfl rfl ?_
      refine zn_iload_n (pc := 67) rfl rfl ?_
      refine zn_callVx (pc := 68) (J := zX0_first) (o := 18) (as := [.int (nI b)]) (rest := []) rfl rfl rfl rfl rfl rfl rfl rfl (Nat.le_of_ble_eq_true rfl) (Nat.le_of_ble_eq_true rfl) (Nat.le_of_ble_eq_true rfl) (Nat.le_of_ble_eq_true rfl) (c_first_10b (bOK_l hd) hr.le (b := b) (by omega)) ?_
      refine zn_istore_n (pc := 71) (L' := [some (.ref 10), some (.int (nI b)), some (.int (nI (R 7 b)))]) rfl (by decide) rfl ?_
      exact c_placeCells_2i10 hz hcel hr hd (B0 := Bn) (by omega) (fun Bn' q => ih (b + 1) Bn' (by omega) (pBn_step hz hr (by omega) hn1 q)) (R 8 b + 1 - R 7 b) (R 7 b) Bn (by omega) (by omega) (fun j => by rw [if_neg (by omega)])
theorem c_placeCells_1i30 {C D : Nat → Nat → Nat} {V W : Nat → Int64} (hz : mOK z) (hcel : cCel z C V) {R : Nat → Nat → Nat} {nb : Nat} (hr : rOK z R nb) (hd : ∀ b, b < nb → D 0 b = R 6 b ∧ D 1 b = R 7 b ∧ D 2 b = R 8 b ∧ D 3 b = R 12 b ∧ D 4 b = R 9 b ∧ D 5 b = R 10 b ∧ D 6 b = bNum (mK z (R 6 b)) (R 8 b + 1 - R 7 b) (R 7 b) ∧ D 7 b = R 11 b ∧ W b = bSum z (R 6 b) (R 7 b) (R 8 b)) {Xs : Nat → Nat} {l : Nat} {Q : zR → zH → Prop} (hl : l < z 0) (K : ∀ Bn : Nat → Int32, (∀ i j, i < z 0 ∧ j < z (1 + i) ∧ i < l + 1 → Bn (8 * i + j) = -1) → Zn g zX5_placeCells 2 [some (.ref 30), some (.int (nI (l + 1))), none] [] (lhp 30 h (z 0) C V nb D W Xs Bn) 0 0 Q) : ∀ (n : Nat) (c : Nat) (Bn : Nat → Int32), c + n = z (1 + l) → (∀ i j, i < z 0 ∧ j < z (1 + i) ∧ (i < l ∨ (i = l ∧ j < c)) → Bn (8 * i + j) = -1) → Zn g zX5_placeCells 15 [some (.ref 30), some (.int (nI l)), some (.int (nI c))] [] (lhp 30 h (z 0) C V nb D W Xs Bn) 0 0 Q := by
  intro n
  induction n with
  | zero =>
    intro c Bn hn0 hn1
    have h0 := hz.1
    have h1 := hz.2.1
    have hzl := hz.2.2.1 l hl
    refine zn_iload_n (pc := 15) rfl rfl ?_
    refine zn_aload_n (pc := 16) rfl rfl ?_
    refine zn_get (pc := 17) (v := .ref 31) rfl rfl rfl ?_
    refine zn_iload_n (pc := 20) rfl rfl ?_
    refine zn_callVx (pc := 21) (J := zX1_cellsOf) (o := 31) (as := [.int (nI l)]) (rest := [.int (nI c)]) rfl rfl rfl rfl rfl rfl rfl rfl (Nat.le_of_ble_eq_true rfl) (Nat.le_of_ble_eq_true rfl) (Nat.le_of_ble_eq_true rfl) (Nat.le_of_ble_eq_true rfl) (c_cellsOf_30 hz (cOK_l hcel) (l := l) (by omega)) ?_
    refine zn_icmp_geN (pc := 24) (tgt := 44) (x := c) (y := (z (1 + l))) rfl rfl (by omega) (by omega) (fun c1 => ?_) (fun c1 => ?_)
    · refine zn_iincN (pc := 44) (L' := [some (.ref 30), some (.int (nI (l + 1))), some (.int (nI c))]) 1 rfl rfl rfl (by decide) rfl ?_
      refine zn_goto (pc := 47) (tgt := 2) rfl rfl ?_
      exact zn_sub (L' := [some (.ref 30), some (.int (nI (l + 1))), none]) ⟨rfl, rfl, trivial⟩ (K Bn (fun i j q => hn1 i j ⟨q.1, q.2.1, (Nat.lt_or_ge i l).elim Or.inl (fun r => Or.inr ⟨by omega, by have := q.2.1; rw [show i = l by omega] at this; omega⟩)⟩))
    · exfalso; omega
  | succ n ih =>
    intro c Bn hn0 hn1
    have h0 := hz.1
    have h1 := hz.2.1
    have hzl := hz.2.2.1 l hl
    refine zn_iload_n (pc := 15) rfl rfl ?_
    refine zn_aload_n (pc := 16) rfl rfl ?_
    refine zn_get (pc := 17) (v := .ref 31) rfl rfl rfl ?_
    refine zn_iload_n (pc := 20) rfl rfl ?_
    refine zn_callVx (pc := 21) (J := zX1_cellsOf) (o := 31) (as := [.int (nI l)]) (rest := [.int (nI c)]) rfl rfl rfl rfl rfl rfl rfl rfl (Nat.le_of_ble_eq_true rfl) (Nat.le_of_ble_eq_true rfl) (Nat.le_of_ble_eq_true rfl) (Nat.le_of_ble_eq_true rfl) (c_cellsOf_30 hz (cOK_l hcel) (l := l) (by omega)) ?_
    refine zn_icmp_geN (pc := 24) (tgt := 44) (x := c) (y := (z (1 + l))) rfl rfl (by omega) (by omega) (fun c1 => ?_) (fun c1 => ?_)
    · refine zn_iincN (pc := 44) (L' := [some (.ref 30), some (.int (nI (l + 1))), some (.int (nI c))]) 1 rfl rfl rfl (by decide) rfl ?_
      refine zn_goto (pc := 47) (tgt := 2) rfl rfl ?_
      exact zn_sub (L' := [some (.ref 30), some (.int (nI (l + 1))), none]) ⟨rfl, rfl, trivial⟩ (K Bn (fun i j q => hn1 i j ⟨q.1, q.2.1, (Nat.lt_or_ge i l).elim Or.inl (fun r => Or.inr ⟨by omega, by have := q.2.1; rw [show i = l by omega] at this; omega⟩)⟩))
    · refine zn_aload_n (pc := 27) rfl rfl ?_
      refine zn_get (pc := 28) (v := .ref 49) rfl rfl rfl ?_
      refine zn_iload_n (pc := 31) rfl rfl ?_
      refine zn_iload_n (pc := 32) rfl rfl ?_
      refine zn_callSx (pc := 33) (J := zX1_slot) (as := [.int (nI l), .int (nI c)]) (rest := [.ref 49]) rfl (by decide) rfl rfl rfl rfl (Nat.le_of_ble_eq_true rfl) (Nat.le_of_ble_eq_true rfl) (Nat.le_of_ble_eq_true rfl) (Nat.le_of_ble_eq_true rfl) (c_slot (l := l) (c := c)) ?_
      refine zn_iconst (pc := 36) (-1) rfl rfl ?_
      refine zl_stB (pc := 37) (j := (8 * l + c)) (v := (-1)) rfl rfl (by omega) ?_
      refine zn_iincN (pc := 38) (L' := [some (.ref 30), some (.int (nI l)), some (.int (nI (c + 1)))]) 1 rfl rfl rfl (by decide) rfl ?_
      refine zn_goto (pc := 41) (tgt := 15) rfl rfl ?_
      refine ih (c + 1) _ (by omega) (fun i j q => ?_)
      by_cases e : 8 * i + j = 8 * l + c
      · simp only [upd, e, ↓reduceIte]; try rfl
      · simp only [upd, e, ↓reduceIte]
        exact hn1 i j ⟨q.1, q.2.1, by have := (hz.2.2.1 i q.1).2; omega⟩
theorem c_placeCells_130 {C D : Nat → Nat → Nat} {V W : Nat → Int64} (hz : mOK z) (hcel : cCel z C V) {R : Nat → Nat → Nat} {nb : Nat} (hr : rOK z R nb) (hd : ∀ b, b < nb → D 0 b = R 6 b ∧ D 1 b = R 7 b ∧ D 2 b = R 8 b ∧ D 3 b = R 12 b ∧ D 4 b = R 9 b ∧ D 5 b = R 10 b ∧ D 6 b = bNum (mK z (R 6 b)) (R 8 b + 1 - R 7 b) (R 7 b) ∧ D 7 b = R 11 b ∧ W b = bSum z (R 6 b) (R 7 b) (R 8 b)) {Xs : Nat → Nat} {Q : zR → zH → Prop} (K : ∀ Bn : Nat → Int32, pBn z R 0 Bn → Zn g zX5_placeCells 50 [some (.ref 30), none, none] [] (lhp 30 h (z 0) C V nb D W Xs Bn) 0 0 Q) : ∀ (n : Nat) (l : Nat) (Bn : Nat → Int32), l + n = z 0 → (∀ i j, i < z 0 ∧ j < z (1 + i) ∧ i < l → Bn (8 * i + j) = -1) → Zn g zX5_placeCells 2 [some (.ref 30), some (.int (nI l)), none] [] (lhp 30 h (z 0) C V nb D W Xs Bn) 0 0 Q := by
  intro n
  induction n with
  | zero =>
    intro l Bn hn0 hn1
    have h0 := hz.1
    have h1 := hz.2.1
    refine zn_iload_n (pc := 2) rfl rfl ?_
    refine zn_aload_n (pc := 3) rfl rfl ?_
    refine zn_get (pc := 4) (v := .ref 31) rfl rfl rfl ?_
    refine zn_callVx (pc := 7) (J := zX1_lines) (o := 31) (as := []) (rest := [.int (nI l)]) rfl rfl rfl rfl rfl rfl rfl rfl (Nat.le_of_ble_eq_true rfl) (Nat.le_of_ble_eq_true rfl) (Nat.le_of_ble_eq_true rfl) (Nat.le_of_ble_eq_true rfl) (c_linesK_30 (cOK_l hcel)) ?_
    refine zn_icmp_geN (pc := 10) (tgt := 50) (x := l) (y := (z 0)) rfl rfl (by omega) (by omega) (fun c1 => ?_) (fun c1 => ?_)
    · exact zn_sub (L' := [some (.ref 30), none, none]) ⟨rfl, trivial⟩ (K Bn (fun i j q1 q2 => by rw [hn1 i j ⟨q1, q2, by omega⟩]; unfold mOf; (split <;> rfl)))
    · exfalso; omega
  | succ n ih =>
    intro l Bn hn0 hn1
    have h0 := hz.1
    have h1 := hz.2.1
    refine zn_iload_n (pc := 2) rfl rfl ?_
    refine zn_aload_n (pc := 3) rfl rfl ?_
    refine zn_get (pc := 4) (v := .ref 31) rfl rfl rfl ?_
    refine zn_callVx (pc := 7) (J := zX1_lines) (o := 31) (as := []) (rest := [.int (nI l)]) rfl rfl rfl rfl rfl rfl rfl rfl (Nat.le_of_ble_eq_true rfl) (Nat.le_of_ble_eq_true rfl) (Nat.le_of_ble_eq_true rfl) (Nat.le_of_ble_eq_true rfl) (c_linesK_30 (cOK_l hcel)) ?_
    refine zn_icmp_geN (pc := 10) (tgt := 50) (x := l) (y := (z 0)) rfl rfl (by omega) (by omega) (fun c1 => ?_) (fun c1 => ?_)
    · exact zn_sub (L' := [some (.ref 30), none, none]) ⟨rfl, trivial⟩ (K Bn (fun i j q1 q2 => by rw [hn1 i j ⟨q1, q2, by omega⟩]; unfold mOf; (split <;> rfl)))
    · refine zn_iconstN (pc := 13) 0 rfl rfl ?_
      refine zn_istore_n (pc := 14) (L' := [some (.ref 30), some (.int (nI l)), some (.int (nI 0))]) rfl (by decide) rfl ?_
      exact zn_sub (L' := [some (.ref 30), some (.int (nI l)), some (.int (nI 0))]) ⟨rfl, rfl, rfl, trivial⟩ (c_placeCells_1i30 hz hcel hr hd (by omega) (fun Bn' q => ih (l + 1) Bn' (by omega) q) (z (1 + l)) 0 Bn (by omega) (fun i j q => hn1 i j ⟨q.1, q.2.1, by omega⟩))
theorem c_placeCells_2i30 {C D : Nat → Nat → Nat} {V W : Nat → Int64} (hz : mOK z) (hcel : cCel z C V) {R : Nat → Nat → Nat} {nb : Nat} (hr : rOK z R nb) (hd : ∀ b, b < nb → D 0 b = R 6 b ∧ D 1 b = R 7 b ∧ D 2 b = R 8 b ∧ D 3 b = R 12 b ∧ D 4 b = R 9 b ∧ D 5 b = R 10 b ∧ D 6 b = bNum (mK z (R 6 b)) (R 8 b + 1 - R 7 b) (R 7 b) ∧ D 7 b = R 11 b ∧ W b = bSum z (R 6 b) (R 7 b) (R 8 b)) {Xs : Nat → Nat} {B0 : Nat → Int32} {b : Nat} {Q : zR → zH → Prop} (hb : b < nb) (K : ∀ Bn : Nat → Int32, (∀ j, Bn j = if R 7 b ≤ j / 8 ∧ j / 8 < R 8 b + 1 ∧ j % 8 = R 6 b then nI b else B0 j) → Zn g zX5_placeCells 52 [some (.ref 30), some (.int (nI (b + 1))), none] [] (lhp 30 h (z 0) C V nb D W Xs Bn) 0 0 Q) : ∀ (n : Nat) (l : Nat) (Bn : Nat → Int32), l + n = R 8 b + 1 → R 7 b ≤ l → (∀ j, Bn j = if R 7 b ≤ j / 8 ∧ j / 8 < l ∧ j % 8 = R 6 b then nI b else B0 j) → Zn g zX5_placeCells 72 [some (.ref 30), some (.int (nI b)), some (.int (nI l))] [] (lhp 30 h (z 0) C V nb D W Xs Bn) 0 0 Q := by
  intro n
  induction n with
  | zero =>
    intro l Bn hn0 hn1 hn2
    have hb9 := hr.blk b hb
    obtain ⟨⟨b1, b2, b3, b4, b5⟩, hE9⟩ := hb9
    have hle := hr.le
    refine zn_iload_n (pc := 72) rfl rfl ?_
    refine zn_aload_n (pc := 73) rfl rfl ?_
    refine zn_get (pc := 74) (v := .ref 38) rfl rfl rfl ?_
    refine zn_iload_n (pc := 77) rfl rfl ?_
    refine zn_callVx (pc := 78) (J := zX0_last) (o := 38) (as := [.int (nI b)]) (rest := [.int (nI l)]) rfl rfl rfl rfl rfl rfl rfl rfl (Nat.le_of_ble_eq_true rfl) (Nat.le_of_ble_eq_true rfl) (Nat.le_of_ble_eq_true rfl) (Nat.le_of_ble_eq_true rfl) (c_last_30b (bOK_l hd) hr.le (b := b) (by omega)) ?_
    refine zn_icmp_gtN (pc := 81) (tgt := 108) (x := l) (y := (R 8 b)) rfl rfl (by omega) (by omega) (fun c1 => ?_) (fun c1 => ?_)
    · refine zn_iincN (pc := 108) (L' := [some (.ref 30), some (.int (nI (b + 1))), some (.int (nI l))]) 1 rfl rfl rfl (by decide) rfl ?_
      refine zn_goto (pc := 111) (tgt := 52) rfl rfl ?_
      have e8 : l = R 8 b + 1 := by omega
      rw [e8] at hn2
      exact zn_sub (L' := [some (.ref 30), some (.int (nI (b + 1))), none]) ⟨rfl, rfl, trivial⟩ (K Bn hn2)
    · exfalso; omega
  | succ n ih =>
    intro l Bn hn0 hn1 hn2
    have hb9 := hr.blk b hb
    obtain ⟨⟨b1, b2, b3, b4, b5⟩, hE9⟩ := hb9
    have hle := hr.le
    refine zn_iload_n (pc := 72) rfl rfl ?_
    refine zn_aload_n (pc := 73) rfl rfl ?_
    refine zn_get (pc := 74) (v := .ref 38) rfl rfl rfl ?_
    refine zn_iload_n (pc := 77) rfl rfl ?_
    refine zn_callVx (pc := 78) (J := zX0_last) (o := 38) (as := [.int (nI b)]) (rest := [.int (nI l)]) rfl rfl rfl rfl rfl rfl rfl rfl (Nat.le_of_ble_eq_true rfl) (Nat.le_of_ble_eq_true rfl) (Nat.le_of_ble_eq_true rfl) (Nat.le_of_ble_eq_true rfl) (c_last_30b (bOK_l hd) hr.le (b := b) (by omega)) ?_
    refine zn_icmp_gtN (pc := 81) (tgt := 108) (x := l) (y := (R 8 b)) rfl rfl (by omega) (by omega) (fun c1 => ?_) (fun c1 => ?_)
    · refine zn_iincN (pc := 108) (L' := [some (.ref 30), some (.int (nI (b + 1))), some (.int (nI l))]) 1 rfl rfl rfl (by decide) rfl ?_
      refine zn_goto (pc := 111) (tgt := 52) rfl rfl ?_
      have e8 : l = R 8 b + 1 := by omega
      rw [e8] at hn2
      exact zn_sub (L' := [some (.ref 30), some (.int (nI (b + 1))), none]) ⟨rfl, rfl, trivial⟩ (K Bn hn2)
    · refine zn_aload_n (pc := 84) rfl rfl ?_
      refine zn_get (pc := 85) (v := .ref 49) rfl rfl rfl ?_
      refine zn_iload_n (pc := 88) rfl rfl ?_
      refine zn_aload_n (pc := 89) rfl rfl ?_
      refine zn_get (pc := 90) (v := .ref 38) rfl rfl rfl ?_
      refine zn_iload_n (pc := 93) rfl rfl ?_
      refine zn_callVx (pc := 94) (J := zX0_column) (o := 38) (as := [.int (nI b)]) (rest := [.int (nI l), .ref 49]) rfl rfl rfl rfl rfl rfl rfl rfl (Nat.le_of_ble_eq_true rfl) (Nat.le_of_ble_eq_true rfl) (Nat.le_of_ble_eq_true rfl) (Nat.le_of_ble_eq_true rfl) (c_column_30b (bOK_l hd) hr.le (b := b) (by omega)) ?_
      refine zn_callSx (pc := 97) (J := zX1_slot) (as := [.int (nI l), .int (nI (R 6 b))]) (rest := [.ref 49]) rfl (by decide) rfl rfl rfl rfl (Nat.le_of_ble_eq_true rfl) (Nat.le_of_ble_eq_true rfl) (Nat.le_of_ble_eq_true rfl) (Nat.le_of_ble_eq_true rfl) (c_slot (l := l) (c := (R 6 b))) ?_
      refine zn_iload_n (pc := 100) rfl rfl ?_
      refine zl_stB (pc := 101) (j := (8 * l + (R 6 b))) (v := (nI b)) rfl rfl (by omega) ?_
      refine zn_iincN (pc := 102) (L' := [some (.ref 30), some (.int (nI b)), some (.int (nI (l + 1)))]) 1 rfl rfl rfl (by decide) rfl ?_
      refine zn_goto (pc := 105) (tgt := 72) rfl rfl ?_
      refine ih (l + 1) _ (by omega) (by omega) (fun j => ?_)
      by_cases e : j = 8 * l + R 6 b
      · rw [if_pos (by omega)]
        simp only [upd, e, ↓reduceIte]
      · simp only [upd, e, ↓reduceIte]
        rw [hn2 j]
        by_cases q : R 7 b ≤ j / 8 ∧ j / 8 < l ∧ j % 8 = R 6 b
        · rw [if_pos q, if_pos (by omega)]
        · rw [if_neg q, if_neg (by omega)]
theorem c_placeCells_230 {C D : Nat → Nat → Nat} {V W : Nat → Int64} (hz : mOK z) (hcel : cCel z C V) {R : Nat → Nat → Nat} {nb : Nat} (hr : rOK z R nb) (hd : ∀ b, b < nb → D 0 b = R 6 b ∧ D 1 b = R 7 b ∧ D 2 b = R 8 b ∧ D 3 b = R 12 b ∧ D 4 b = R 9 b ∧ D 5 b = R 10 b ∧ D 6 b = bNum (mK z (R 6 b)) (R 8 b + 1 - R 7 b) (R 7 b) ∧ D 7 b = R 11 b ∧ W b = bSum z (R 6 b) (R 7 b) (R 8 b)) {Xs : Nat → Nat} {Q : zR → zH → Prop} (K : ∀ Bn : Nat → Int32, pBn z R nb Bn → Zn g zX5_placeCells 114 [some (.ref 30), none, none] [] (lhp 30 h (z 0) C V nb D W Xs Bn) 0 0 Q) : ∀ (n : Nat) (b : Nat) (Bn : Nat → Int32), b + n = nb → pBn z R b Bn → Zn g zX5_placeCells 52 [some (.ref 30), some (.int (nI b)), none] [] (lhp 30 h (z 0) C V nb D W Xs Bn) 0 0 Q := by
  intro n
  induction n with
  | zero =>
    intro b Bn hn0 hn1
    have h0 := hz.1
    have h1 := hz.2.1
    have hle := hr.le
    refine zn_iload_n (pc := 52) rfl rfl ?_
    refine zn_aload_n (pc := 53) rfl rfl ?_
    refine zn_get (pc := 54) (v := .ref 38) rfl rfl rfl ?_
    refine zn_callVx (pc := 57) (J := zX0_size) (o := 38) (as := []) (rest := [.int (nI b)]) rfl rfl rfl rfl rfl rfl rfl rfl (Nat.le_of_ble_eq_true rfl) (Nat.le_of_ble_eq_true rfl) (Nat.le_of_ble_eq_true rfl) (Nat.le_of_ble_eq_true rfl) (c_size_30 (bOK_l hd) hr.le) ?_
    refine zn_icmp_geN (pc := 60) (tgt := 114) (x := b) (y := nb) rfl rfl (by omega) (by omega) (fun c1 => ?_) (fun c1 => ?_)
    · have e8 : b = nb := by omega
      subst e8
      exact zn_sub (L' := [some (.ref 30), none, none]) ⟨rfl, trivial⟩ (K Bn hn1)
    · exfalso; omega
  | succ n ih =>
    intro b Bn hn0 hn1
    have h0 := hz.1
    have h1 := hz.2.1
    have hle := hr.le
    refine zn_iload_n (pc := 52) rfl rfl ?_
    refine zn_aload_n (pc := 53) rfl rfl ?_
    refine zn_get (pc := 54) (v := .ref 38) rfl rfl rfl ?_
    refine zn_callVx (pc := 57) (J := zX0_size) (o := 38) (as := []) (rest := [.int (nI b)]) rfl rfl rfl rfl rfl rfl rfl rfl (Nat.le_of_ble_eq_true rfl) (Nat.le_of_ble_eq_true rfl) (Nat.le_of_ble_eq_true rfl) (Nat.le_of_ble_eq_true rfl) (c_size_30 (bOK_l hd) hr.le) ?_
    refine zn_icmp_geN (pc := 60) (tgt := 114) (x := b) (y := nb) rfl rfl (by omega) (by omega) (fun c1 => ?_) (fun c1 => ?_)
    · have e8 : b = nb := by omega
      subst e8
      exact zn_sub (L' := [some (.ref 30), none, none]) ⟨rfl, trivial⟩ (K Bn hn1)
    · obtain ⟨⟨b1, b2, b3, b4, b5⟩, hE9⟩ := hr.blk b (by omega)
      refine zn_aload_n (pc := 63) rfl rfl ?_
      refine zn_get (pc := 64) (v := .ref 38) rfl rfl rfl ?_
      refine zn_iload_n (pc := 67) rfl rfl ?_
      refine zn_callVx (pc := 68) (J := zX0_first) (o := 38) (as := [.int (nI b)]) (rest := []) rfl rfl rfl rfl rfl rfl rfl rfl (Nat.le_of_ble_eq_true rfl) (Nat.le_of_ble_eq_true rfl) (Nat.le_of_ble_eq_true rfl) (Nat.le_of_ble_eq_true rfl) (c_first_30b (bOK_l hd) hr.le (b := b) (by omega)) ?_
      refine zn_istore_n (pc := 71) (L' := [some (.ref 30), some (.int (nI b)), some (.int (nI (R 7 b)))]) rfl (by decide) rfl ?_
      exact c_placeCells_2i30 hz hcel hr hd (B0 := Bn) (by omega) (fun Bn' q => ih (b + 1) Bn' (by omega) (pBn_step hz hr (by omega) hn1 q)) (R 8 b + 1 - R 7 b) (R 7 b) Bn (by omega) (by omega) (fun j => by rw [if_neg (by omega)])
end m1
