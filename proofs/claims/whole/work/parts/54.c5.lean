section m1
variable {g : zG} {h hh : zH} {F : Nat → Nat} {S : Int64} {z : Nat → Nat} {A : Nat → Nat → Nat} {X : Nat → Int32}
def rcC (C : Nat → Nat → Nat) (f : Nat → Nat) (l c a m : Nat) : Nat → Nat → Nat :=
  va_up (va_up (va_up (va_up (va_up C 1 (va_up (C 1) (8 * l + c) a)) 2 (va_up (C 2) (8 * l + c) m)) 3 (va_up (C 3) (8 * l + c) (skind f m))) 4 (va_up (C 4) (8 * l + c) (if skind f m = 1 then swh f m 0 else 0))) 0 (va_up (C 0) l (c + 1))
def rcV (V : Nat → Int64) (f : Nat → Nat) (l c m : Nat) : Nat → Int64 := va_up V (8 * l + c) (if skind f m = 1 then sVal f m else 0)
/-- what read leaves: r rounds from place at on; line l, cell c that began at a -/
def cRd (Z : Nat → Nat) (sz : Nat) : Nat → Nat → Nat → Nat → Nat → Nat → (Nat → Nat → Nat) → (Nat → Int64) → Option (Nat × (Nat → Nat → Nat) × (Nat → Int64))
  | 0, _, _, _, _, n, C, V => some (n, C, V)
  | r + 1, t, l, c, a, n, C, V => if t < sz ∧ Z t = 9 then (if l < 24 ∧ c < 8 then cRd Z sz r (t + 1) l (c + 1) (t + 1) (l + 1) (rcC C (zf Z a) l c a (t - a)) (rcV V (zf Z a) l c (t - a)) else none)
    else if ¬ t < sz ∨ Z t = 10 ∨ Z t = 0 then (if l < 24 ∧ c < 8 then cRd Z sz r (t + 1) (l + 1) 0 (t + 1) (l + 1) (rcC C (zf Z a) l c a (t - a)) (rcV V (zf Z a) l c (t - a)) else none)
    else cRd Z sz r (t + 1) l c a n C V
theorem c_readCell_10  {n m : Nat} {C D : Nat → Nat → Nat} {V W : Nat → Int64} {Xs : Nat → Nat} {Bn : Nat → Int32} {p q sz : Nat} {Z : Nat → Nat} (hp : h.1 p = some (.inr (7, [.ref q, .int (nI sz)]))) (hq : h.1 q = some (mNA 3264 Z)) (hn : sz ≤ 3264) (hZ : ∀ j, Z j < 1000) (hpo : p < 10 ∨ 10 + 20 ≤ p) (hqo : q < 10 ∨ 10 + 20 ≤ q) {l c a m9 : Nat} (hm : a + m9 ≤ sz) (hl : l < 24) (hc : c < 8) : Zx g zX1_readCell [.ref 11, .ref p, .int (nI l), .int (nI c), .int (nI a), .int (nI (a + m9))] (lhp 10 h n C V m D W Xs Bn) none (lhp 10 h (l + 1) (rcC C (zf Z a) l c a m9) (rcV V (zf Z a) l c m9) m D W Xs Bn) := by
  have k2 := skind_le (zf Z a) m9
  show Zn g zX1_readCell 0 [some (.ref 11), some (.ref p), some (.int (nI l)), some (.int (nI c)), some (.int (nI a)), some (.int (nI (a + m9))), none, none] [] (lhp 10 h n C V m D W Xs Bn) 0 0 _
  refine zn_iload_n (pc := 0) rfl rfl ?_
  refine zn_bipushN (pc := 1) 24 rfl rfl ?_
  refine zn_icmp_geN (pc := 3) (tgt := 12) (x := l) (y := 24) rfl rfl (by omega) (by omega) (fun c1 => ?_) (fun c1 => ?_)
  · exfalso; omega
  · refine zn_iload_n (pc := 6) rfl rfl ?_
    refine zn_bipushN (pc := 7) 8 rfl rfl ?_
    refine zn_icmp_ltN (pc := 9) (tgt := 13) (x := c) (y := 8) rfl rfl (by omega) (by omega) (fun c2 => ?_) (fun c2 => ?_)
    · refine zn_iload_n (pc := 13) rfl rfl ?_
      refine zn_iload_n (pc := 14) rfl rfl ?_
      refine zn_callSx (pc := 15) (J := zX1_slot) (as := [.int (nI l), .int (nI c)]) (rest := []) rfl (by decide) rfl rfl rfl rfl (Nat.le_of_ble_eq_true rfl) (Nat.le_of_ble_eq_true rfl) (Nat.le_of_ble_eq_true rfl) (Nat.le_of_ble_eq_true rfl) (c_slot (l := l) (c := c)) ?_
      refine zn_istore (pc := 18) (L' := [some (.ref 11), some (.ref p), some (.int (nI l)), some (.int (nI c)), some (.int (nI a)), some (.int (nI (a + m9))), some (.int (nI (8 * l + c))), none]) rfl (by decide) rfl ?_
      refine zn_aload_n (pc := 20) rfl rfl ?_
      refine zn_iload (pc := 21) rfl rfl ?_
      refine zn_iload (pc := 23) rfl rfl ?_
      refine zn_callSx (pc := 25) (J := zX8_kindOf) (as := [.ref p, .int (nI a), .int (nI (a + m9))]) (rest := []) rfl (by decide) rfl rfl rfl rfl (Nat.le_of_ble_eq_true rfl) (Nat.le_of_ble_eq_true rfl) (Nat.le_of_ble_eq_true rfl) (Nat.le_of_ble_eq_true rfl) (c_kindOf ((ov_o hpo).trans hp) ((ov_o hqo).trans hq) hn hZ (a := a) (m := m9) hm) ?_
      refine zn_istore (pc := 28) (L' := [some (.ref 11), some (.ref p), some (.int (nI l)), some (.int (nI c)), some (.int (nI a)), some (.int (nI (a + m9))), some (.int (nI (8 * l + c))), some (.int (nI (skind (zf Z a) m9)))]) rfl (by decide) rfl ?_
      refine zn_aload_n (pc := 30) rfl rfl ?_
      refine zn_get (pc := 31) (v := .ref 13) rfl rfl rfl ?_
      refine zn_iload (pc := 34) rfl rfl ?_
      refine zn_iload (pc := 36) rfl rfl ?_
      refine zl_stC (pc := 38) (i := 1) (k := 192) (j := (8 * l + c)) (v := a) rfl (by decide) (by decide) rfl rfl (by omega) (Nat.le_of_ble_eq_true rfl) ?_
      refine zn_aload_n (pc := 39) rfl rfl ?_
      refine zn_get (pc := 40) (v := .ref 14) rfl rfl rfl ?_
      refine zn_iload (pc := 43) rfl rfl ?_
      refine zn_iload (pc := 45) rfl rfl ?_
      refine zn_iload (pc := 47) rfl rfl ?_
      refine zn_isubN (pc := 49) (x := (a + m9)) (y := a) rfl (by omega) ?_
      refine zn_top (v' := .int (nI m9)) (by congr 2; omega) ?_
      refine zl_stC (pc := 50) (i := 2) (k := 192) (j := (8 * l + c)) (v := m9) rfl (by decide) (by decide) rfl rfl (by omega) (Nat.le_of_ble_eq_true rfl) ?_
      refine zn_aload_n (pc := 51) rfl rfl ?_
      refine zn_get (pc := 52) (v := .ref 15) rfl rfl rfl ?_
      refine zn_iload (pc := 55) rfl rfl ?_
      refine zn_iload (pc := 57) rfl rfl ?_
      refine zl_stC (pc := 59) (i := 3) (k := 192) (j := (8 * l + c)) (v := (skind (zf Z a) m9)) rfl (by decide) (by decide) rfl rfl (by omega) (Nat.le_of_ble_eq_true rfl) ?_
      refine zn_aload_n (pc := 60) rfl rfl ?_
      refine zn_get (pc := 61) (v := .ref 16) rfl rfl rfl ?_
      refine zn_iload (pc := 64) rfl rfl ?_
      refine zn_joinV (v := .int (nI (if skind (zf Z a) m9 = 1 then swh (zf Z a) m9 0 else 0))) (pj := 84) ?_ (fun K3 => ?_)
      · refine zl_stC (pc := 84) (i := 4) (k := 192) (j := (8 * l + c)) (v := (if skind (zf Z a) m9 = 1 then swh (zf Z a) m9 0 else 0)) rfl (by decide) (by decide) rfl rfl (by omega) (Nat.le_of_ble_eq_true rfl) ?_
        refine zn_aload_n (pc := 85) rfl rfl ?_
        refine zn_get (pc := 86) (v := .ref 17) rfl rfl rfl ?_
        refine zn_iload (pc := 89) rfl rfl ?_
        refine zn_joinV (v := .long (if skind (zf Z a) m9 = 1 then sVal (zf Z a) m9 else 0)) (pj := 109) ?_ (fun K4 => ?_)
        · refine zl_stV (pc := 109) (j := (8 * l + c)) rfl rfl (by omega) ?_
          refine zn_aload_n (pc := 110) rfl rfl ?_
          refine zn_get (pc := 111) (v := .ref 12) rfl rfl rfl ?_
          refine zn_iload_n (pc := 114) rfl rfl ?_
          refine zn_iload_n (pc := 115) rfl rfl ?_
          refine zn_iconstN (pc := 116) 1 rfl rfl ?_
          refine zn_iaddN (pc := 117) (x := c) (y := 1) rfl ?_
          refine zl_stC (pc := 118) (i := 0) (k := 24) (j := l) (v := (c + 1)) rfl (by decide) (by decide) rfl rfl (by omega) (Nat.le_of_ble_eq_true rfl) ?_
          refine zn_aload_n (pc := 119) rfl rfl ?_
          refine zn_iload_n (pc := 120) rfl rfl ?_
          refine zn_iconstN (pc := 121) 1 rfl rfl ?_
          refine zn_iaddN (pc := 122) (x := l) (y := 1) rfl ?_
          refine zl_putn (pc := 123) (v := (l + 1)) rfl rfl ?_
          exact zx_v (pc := 126) rfl rfl rfl rfl
        · refine zn_iload (pc := 91) rfl rfl ?_
          refine zn_iconstN (pc := 93) 1 rfl rfl ?_
          refine zn_icmp_neN (pc := 94) (tgt := 108) (x := (skind (zf Z a) m9)) (y := 1) rfl rfl (by omega) (by omega) (fun c5 => ?_) (fun c5 => ?_)
          · refine zn_lconst (pc := 108) 0 rfl rfl ?_
            exact zn_top (v' := .long (if skind (zf Z a) m9 = 1 then sVal (zf Z a) m9 else 0)) (by rw [if_neg (by omega)]) K4
          · refine zn_aload_n (pc := 97) rfl rfl ?_
            refine zn_iload (pc := 98) rfl rfl ?_
            refine zn_iload (pc := 100) rfl rfl ?_
            refine zn_callSx (pc := 102) (J := zX8_valueOf) (as := [.ref p, .int (nI a), .int (nI (a + m9))]) (rest := [.int (nI (8 * l + c)), .ref 17]) rfl (by decide) rfl rfl rfl rfl (Nat.le_of_ble_eq_true rfl) (Nat.le_of_ble_eq_true rfl) (Nat.le_of_ble_eq_true rfl) (Nat.le_of_ble_eq_true rfl) (c_valueOfS ((ov_o hpo).trans hp) ((ov_o hqo).trans hq) hn hZ (a := a) (m := m9) hm (by omega)) ?_
            refine zn_goto (pc := 105) (tgt := 109) rfl rfl ?_
            exact zn_top (v' := .long (if skind (zf Z a) m9 = 1 then sVal (zf Z a) m9 else 0)) (by rw [if_pos (by omega)]) K4
      · refine zn_iload (pc := 66) rfl rfl ?_
        refine zn_iconstN (pc := 68) 1 rfl rfl ?_
        refine zn_icmp_neN (pc := 69) (tgt := 83) (x := (skind (zf Z a) m9)) (y := 1) rfl rfl (by omega) (by omega) (fun c6 => ?_) (fun c6 => ?_)
        · refine zn_iconstN (pc := 83) 0 rfl rfl ?_
          exact zn_top (v' := .int (nI (if skind (zf Z a) m9 = 1 then swh (zf Z a) m9 0 else 0))) (by rw [if_neg (by omega)]) K3
        · refine zn_aload_n (pc := 72) rfl rfl ?_
          refine zn_iload (pc := 73) rfl rfl ?_
          refine zn_iload (pc := 75) rfl rfl ?_
          refine zn_callSx (pc := 77) (J := zX8_wholeLength) (as := [.ref p, .int (nI a), .int (nI (a + m9))]) (rest := [.int (nI (8 * l + c)), .ref 16]) rfl (by decide) rfl rfl rfl rfl (Nat.le_of_ble_eq_true rfl) (Nat.le_of_ble_eq_true rfl) (Nat.le_of_ble_eq_true rfl) (Nat.le_of_ble_eq_true rfl) (c_wholeLength ((ov_o hpo).trans hp) ((ov_o hqo).trans hq) hn hZ (a := a) (m := m9) hm) ?_
          refine zn_goto (pc := 80) (tgt := 84) rfl rfl ?_
          exact zn_top (v' := .int (nI (if skind (zf Z a) m9 = 1 then swh (zf Z a) m9 0 else 0))) (by rw [if_pos (by omega)]) K3
    · exfalso; omega
theorem c_readCellT_10 {n m : Nat} {C D : Nat → Nat → Nat} {V W : Nat → Int64} {Xs : Nat → Nat} {Bn : Nat → Int32} {p q sz : Nat} {Z : Nat → Nat} (hp : h.1 p = some (.inr (7, [.ref q, .int (nI sz)]))) (hq : h.1 q = some (mNA 3264 Z)) (hn : sz ≤ 3264) (hZ : ∀ j, Z j < 1000) (hpo : p < 10 ∨ 10 + 20 ≤ p) (hqo : q < 10 ∨ 10 + 20 ≤ q) {l c a t9 : Nat} (ht : a ≤ t9) (hm : t9 ≤ sz) (hl : l < 24) (hc : c < 8) : Zx g zX1_readCell [.ref 11, .ref p, .int (nI l), .int (nI c), .int (nI a), .int (nI t9)] (lhp 10 h n C V m D W Xs Bn) none (lhp 10 h (l + 1) (rcC C (zf Z a) l c a (t9 - a)) (rcV V (zf Z a) l c (t9 - a)) m D W Xs Bn) := by
  have := c_readCell_10 (g := g) (n := n) (C := C) (D := D) (V := V) (W := W) (m := m) (Xs := Xs) (Bn := Bn) hp hq hn hZ hpo hqo (l := l) (c := c) (a := a) (m9 := t9 - a) (by omega) hl hc
  rwa [show a + (t9 - a) = t9 by omega] at this
theorem c_read_l10 {m : Nat} {D : Nat → Nat → Nat} {W : Nat → Int64} {Xs : Nat → Nat} {Bn : Nat → Int32} {p q sz : Nat} {Z : Nat → Nat} (hp : h.1 p = some (.inr (7, [.ref q, .int (nI sz)]))) (hq : h.1 q = some (mNA 3264 Z)) (hn : sz ≤ 3264) (hZ : ∀ j, Z j < 1000) (hpo : p < 10 ∨ 10 + 20 ≤ p) (hqo : q < 10 ∨ 10 + 20 ≤ q) : ∀ (n : Nat) (t l c a nn : Nat) (C : Nat → Nat → Nat) (V : Nat → Int64) (R : Nat × (Nat → Nat → Nat) × (Nat → Int64)), t + n = sz → cRd Z sz (n + 1) t l c a nn C V = some R → a ≤ t → l ≤ t → c ≤ t → Zn g zX1_read 10 [some (.ref 11), some (.ref p), some (.int (nI l)), some (.int (nI c)), some (.int (nI a)), some (.int (nI t)), none] [] (lhp 10 h nn C V m D W Xs Bn) 0 0 (fun r' h' => r' = .inl none ∧ h' = (lhp 10 h R.1 R.2.1 R.2.2 m D W Xs Bn)) := by
  intro n
  induction n with
  | zero =>
    intro t l c a nn C V R hn0 hn1 hn2 hn3 hn4
    refine zn_iload (pc := 10) rfl rfl ?_
    refine zn_aload_n (pc := 12) rfl rfl ?_
    refine zn_callVx (pc := 13) (J := zX7_size) (o := p) (as := []) (rest := [.int (nI t)]) rfl rfl rfl rfl ((ov_o hpo).trans hp) rfl rfl rfl (Nat.le_of_ble_eq_true rfl) (Nat.le_of_ble_eq_true rfl) (Nat.le_of_ble_eq_true rfl) (Nat.le_of_ble_eq_true rfl) (c_psize (ov_o hpo |>.trans hp)) ?_
    refine zn_icmp_gtN (pc := 16) (tgt := 97) (x := t) (y := sz) rfl rfl (by have := hZ t; omega) (by have := hZ t; omega) (fun c1 => ?_) (fun c1 => ?_)
    · exfalso; omega
    · refine zn_aload_n (pc := 19) rfl rfl ?_
      refine zn_iload (pc := 20) rfl rfl ?_
      refine zn_callVx (pc := 22) (J := zX7_codeAt) (o := p) (as := [.int (nI t)]) (rest := []) rfl rfl rfl rfl ((ov_o hpo).trans hp) rfl rfl rfl (Nat.le_of_ble_eq_true rfl) (Nat.le_of_ble_eq_true rfl) (Nat.le_of_ble_eq_true rfl) (Nat.le_of_ble_eq_true rfl) (c_codeAt_o ((ov_o hpo).trans hp) ((ov_o hqo).trans hq) hn hZ (a := t) (by omega) (by omega)) ?_
      refine zn_istore (pc := 25) (L' := [some (.ref 11), some (.ref p), some (.int (nI l)), some (.int (nI c)), some (.int (nI a)), some (.int (nI t)), some (.int (nI 0))]) rfl (by decide) rfl ?_
      refine zn_iload (pc := 27) rfl rfl ?_
      refine zn_bipushN (pc := 29) 9 rfl rfl ?_
      refine zn_icmp_neN (pc := 31) (tgt := 57) (x := 0) (y := 9) rfl rfl (by have := hZ t; omega) (by have := hZ t; omega) (fun c2 => ?_) (fun c2 => ?_)
      · refine zn_iload (pc := 57) rfl rfl ?_
        refine zn_bipushN (pc := 59) 10 rfl rfl ?_
        refine zn_icmp_eqN (pc := 61) (tgt := 69) (x := 0) (y := 10) rfl rfl (by have := hZ t; omega) (by have := hZ t; omega) (fun c3 => ?_) (fun c3 => ?_)
        · exfalso; omega
        · refine zn_iload (pc := 64) rfl rfl ?_
          refine zn_if_neN (pc := 66) (tgt := 91) (x := 0) rfl rfl (by have := hZ t; omega) (fun c4 => ?_) (fun c4 => ?_)
          · exfalso; omega
          · simp only [cRd] at hn1
            rw [if_neg (by omega), if_pos (by omega)] at hn1
            have hlc : l < 24 ∧ c < 8 := by by_cases q9 : l < 24 ∧ c < 8; exact q9; rw [if_neg q9] at hn1; cases hn1
            rw [if_pos hlc] at hn1
            obtain ⟨hl9, hc9⟩ := hlc
            refine zn_aload_n (pc := 69) rfl rfl ?_
            refine zn_aload_n (pc := 70) rfl rfl ?_
            refine zn_iload_n (pc := 71) rfl rfl ?_
            refine zn_iload_n (pc := 72) rfl rfl ?_
            refine zn_iload (pc := 73) rfl rfl ?_
            refine zn_iload (pc := 75) rfl rfl ?_
            refine zn_callVx (pc := 77) (J := zX1_readCell) (o := 11) (as := [.ref p, .int (nI l), .int (nI c), .int (nI a), .int (nI t)]) (rest := []) rfl rfl rfl rfl rfl rfl rfl rfl (Nat.le_of_ble_eq_true rfl) (Nat.le_of_ble_eq_true rfl) (Nat.le_of_ble_eq_true rfl) (Nat.le_of_ble_eq_true rfl) (c_readCellT_10 hp hq hn hZ hpo hqo (l := l) (c := c) (a := a) (t9 := t) (by omega) (by omega) (by omega) (by omega)) ?_
            refine zn_iincN (pc := 80) (L' := [some (.ref 11), some (.ref p), some (.int (nI (l + 1))), some (.int (nI c)), some (.int (nI a)), some (.int (nI t)), some (.int (nI 0))]) 1 rfl rfl rfl (by decide) rfl ?_
            refine zn_iconstN (pc := 83) 0 rfl rfl ?_
            refine zn_istore_n (pc := 84) (L' := [some (.ref 11), some (.ref p), some (.int (nI (l + 1))), some (.int (nI 0)), some (.int (nI a)), some (.int (nI t)), some (.int (nI 0))]) rfl (by decide) rfl ?_
            refine zn_iload (pc := 85) rfl rfl ?_
            refine zn_iconstN (pc := 87) 1 rfl rfl ?_
            refine zn_iaddN (pc := 88) (x := t) (y := 1) rfl ?_
            refine zn_istore (pc := 89) (L' := [some (.ref 11), some (.ref p), some (.int (nI (l + 1))), some (.int (nI 0)), some (.int (nI (t + 1))), some (.int (nI t)), some (.int (nI 0))]) rfl (by decide) rfl ?_
            refine zn_iincN (pc := 91) (L' := [some (.ref 11), some (.ref p), some (.int (nI (l + 1))), some (.int (nI 0)), some (.int (nI (t + 1))), some (.int (nI (t + 1))), some (.int (nI 0))]) 1 rfl rfl rfl (by decide) rfl ?_
            refine zn_goto (pc := 94) (tgt := 10) rfl rfl ?_
            refine zn_iload (pc := 10) rfl rfl ?_
            refine zn_aload_n (pc := 12) rfl rfl ?_
            refine zn_callVx (pc := 13) (J := zX7_size) (o := p) (as := []) (rest := [.int (nI (t + 1))]) rfl rfl rfl rfl ((ov_o hpo).trans hp) rfl rfl rfl (Nat.le_of_ble_eq_true rfl) (Nat.le_of_ble_eq_true rfl) (Nat.le_of_ble_eq_true rfl) (Nat.le_of_ble_eq_true rfl) (c_psize (ov_o hpo |>.trans hp)) ?_
            refine zn_icmp_gtN (pc := 16) (tgt := 97) (x := (t + 1)) (y := sz) rfl rfl (by have := hZ t; omega) (by have := hZ t; omega) (fun c5 => ?_) (fun c5 => ?_)
            · try simp only [cRd] at hn1
              cases hn1
              exact zx_v (pc := 97) rfl rfl rfl rfl
            · exfalso; omega
      · exfalso; omega
  | succ n ih =>
    intro t l c a nn C V R hn0 hn1 hn2 hn3 hn4
    refine zn_iload (pc := 10) rfl rfl ?_
    refine zn_aload_n (pc := 12) rfl rfl ?_
    refine zn_callVx (pc := 13) (J := zX7_size) (o := p) (as := []) (rest := [.int (nI t)]) rfl rfl rfl rfl ((ov_o hpo).trans hp) rfl rfl rfl (Nat.le_of_ble_eq_true rfl) (Nat.le_of_ble_eq_true rfl) (Nat.le_of_ble_eq_true rfl) (Nat.le_of_ble_eq_true rfl) (c_psize (ov_o hpo |>.trans hp)) ?_
    refine zn_icmp_gtN (pc := 16) (tgt := 97) (x := t) (y := sz) rfl rfl (by have := hZ t; omega) (by have := hZ t; omega) (fun c1 => ?_) (fun c1 => ?_)
    · exfalso; omega
    · refine zn_aload_n (pc := 19) rfl rfl ?_
      refine zn_iload (pc := 20) rfl rfl ?_
      refine zn_callVx (pc := 22) (J := zX7_codeAt) (o := p) (as := [.int (nI t)]) (rest := []) rfl rfl rfl rfl ((ov_o hpo).trans hp) rfl rfl rfl (Nat.le_of_ble_eq_true rfl) (Nat.le_of_ble_eq_true rfl) (Nat.le_of_ble_eq_true rfl) (Nat.le_of_ble_eq_true rfl) (c_codeAt_i ((ov_o hpo).trans hp) ((ov_o hqo).trans hq) hn hZ (a := t) (by omega)) ?_
      refine zn_istore (pc := 25) (L' := [some (.ref 11), some (.ref p), some (.int (nI l)), some (.int (nI c)), some (.int (nI a)), some (.int (nI t)), some (.int (nI (Z t)))]) rfl (by decide) rfl ?_
      refine zn_iload (pc := 27) rfl rfl ?_
      refine zn_bipushN (pc := 29) 9 rfl rfl ?_
      refine zn_icmp_neN (pc := 31) (tgt := 57) (x := (Z t)) (y := 9) rfl rfl (by have := hZ t; omega) (by have := hZ t; omega) (fun c2 => ?_) (fun c2 => ?_)
      · refine zn_iload (pc := 57) rfl rfl ?_
        refine zn_bipushN (pc := 59) 10 rfl rfl ?_
        refine zn_icmp_eqN (pc := 61) (tgt := 69) (x := (Z t)) (y := 10) rfl rfl (by have := hZ t; omega) (by have := hZ t; omega) (fun c3 => ?_) (fun c3 => ?_)
        · simp only [cRd] at hn1
          rw [if_neg (by omega), if_pos (by omega)] at hn1
          have hlc : l < 24 ∧ c < 8 := by by_cases q9 : l < 24 ∧ c < 8; exact q9; rw [if_neg q9] at hn1; cases hn1
          rw [if_pos hlc] at hn1
          obtain ⟨hl9, hc9⟩ := hlc
          refine zn_aload_n (pc := 69) rfl rfl ?_
          refine zn_aload_n (pc := 70) rfl rfl ?_
          refine zn_iload_n (pc := 71) rfl rfl ?_
          refine zn_iload_n (pc := 72) rfl rfl ?_
          refine zn_iload (pc := 73) rfl rfl ?_
          refine zn_iload (pc := 75) rfl rfl ?_
          refine zn_callVx (pc := 77) (J := zX1_readCell) (o := 11) (as := [.ref p, .int (nI l), .int (nI c), .int (nI a), .int (nI t)]) (rest := []) rfl rfl rfl rfl rfl rfl rfl rfl (Nat.le_of_ble_eq_true rfl) (Nat.le_of_ble_eq_true rfl) (Nat.le_of_ble_eq_true rfl) (Nat.le_of_ble_eq_true rfl) (c_readCellT_10 hp hq hn hZ hpo hqo (l := l) (c := c) (a := a) (t9 := t) (by omega) (by omega) (by omega) (by omega)) ?_
          refine zn_iincN (pc := 80) (L' := [some (.ref 11), some (.ref p), some (.int (nI (l + 1))), some (.int (nI c)), some (.int (nI a)), some (.int (nI t)), some (.int (nI (Z t)))]) 1 rfl rfl rfl (by decide) rfl ?_
          refine zn_iconstN (pc := 83) 0 rfl rfl ?_
          refine zn_istore_n (pc := 84) (L' := [some (.ref 11), some (.ref p), some (.int (nI (l + 1))), some (.int (nI 0)), some (.int (nI a)), some (.int (nI t)), some (.int (nI (Z t)))]) rfl (by decide) rfl ?_
          refine zn_iload (pc := 85) rfl rfl ?_
          refine zn_iconstN (pc := 87) 1 rfl rfl ?_
          refine zn_iaddN (pc := 88) (x := t) (y := 1) rfl ?_
          refine zn_istore (pc := 89) (L' := [some (.ref 11), some (.ref p), some (.int (nI (l + 1))), some (.int (nI 0)), some (.int (nI (t + 1))), some (.int (nI t)), some (.int (nI (Z t)))]) rfl (by decide) rfl ?_
          refine zn_iincN (pc := 91) (L' := [some (.ref 11), some (.ref p), some (.int (nI (l + 1))), some (.int (nI 0)), some (.int (nI (t + 1))), some (.int (nI (t + 1))), some (.int (nI (Z t)))]) 1 rfl rfl rfl (by decide) rfl ?_
          refine zn_goto (pc := 94) (tgt := 10) rfl rfl ?_
          exact zn_sub (L' := [some (.ref 11), some (.ref p), some (.int (nI (l + 1))), some (.int (nI 0)), some (.int (nI (t + 1))), some (.int (nI (t + 1))), none]) ⟨rfl, rfl, rfl, rfl, rfl, rfl, trivial⟩ (ih (t + 1) (l + 1) 0 (t + 1) _ _ _ _ (by omega) hn1 (by omega) (by omega) (by omega))
        · refine zn_iload (pc := 64) rfl rfl ?_
          refine zn_if_neN (pc := 66) (tgt := 91) (x := (Z t)) rfl rfl (by have := hZ t; omega) (fun c4 => ?_) (fun c4 => ?_)
          · simp only [cRd] at hn1
            rw [if_neg (by omega), if_neg (by omega)] at hn1
            refine zn_iincN (pc := 91) (L' := [some (.ref 11), some (.ref p), some (.int (nI l)), some (.int (nI c)), some (.int (nI a)), some (.int (nI (t + 1))), some (.int (nI (Z t)))]) 1 rfl rfl rfl (by decide) rfl ?_
            refine zn_goto (pc := 94) (tgt := 10) rfl rfl ?_
            exact zn_sub (L' := [some (.ref 11), some (.ref p), some (.int (nI l)), some (.int (nI c)), some (.int (nI a)), some (.int (nI (t + 1))), none]) ⟨rfl, rfl, rfl, rfl, rfl, rfl, trivial⟩ (ih (t + 1) l c a _ _ _ _ (by omega) hn1 (by omega) (by omega) (by omega))
          · simp only [cRd] at hn1
            rw [if_neg (by omega), if_pos (by omega)] at hn1
            have hlc : l < 24 ∧ c < 8 := by by_cases q9 : l < 24 ∧ c < 8; exact q9; rw [if_neg q9] at hn1; cases hn1
            rw [if_pos hlc] at hn1
            obtain ⟨hl9, hc9⟩ := hlc
            refine zn_aload_n (pc := 69) rfl rfl ?_
            refine zn_aload_n (pc := 70) rfl rfl ?_
            refine zn_iload_n (pc := 71) rfl rfl ?_
            refine zn_iload_n (pc := 72) rfl rfl ?_
            refine zn_iload (pc := 73) rfl rfl ?_
            refine zn_iload (pc := 75) rfl rfl ?_
            refine zn_callVx (pc := 77) (J := zX1_readCell) (o := 11) (as := [.ref p, .int (nI l), .int (nI c), .int (nI a), .int (nI t)]) (rest := []) rfl rfl rfl rfl rfl rfl rfl rfl (Nat.le_of_ble_eq_true rfl) (Nat.le_of_ble_eq_true rfl) (Nat.le_of_ble_eq_true rfl) (Nat.le_of_ble_eq_true rfl) (c_readCellT_10 hp hq hn hZ hpo hqo (l := l) (c := c) (a := a) (t9 := t) (by omega) (by omega) (by omega) (by omega)) ?_
            refine zn_iincN (pc := 80) (L' := [some (.ref 11), some (.ref p), some (.int (nI (l + 1))), some (.int (nI c)), some (.int (nI a)), some (.int (nI t)), some (.int (nI (Z t)))]) 1 rfl rfl rfl (by decide) rfl ?_
            refine zn_iconstN (pc := 83) 0 rfl rfl ?_
            refine zn_istore_n (pc := 84) (L' := [some (.ref 11), some (.ref p), some (.int (nI (l + 1))), some (.int (nI 0)), some (.int (nI a)), some (.int (nI t)), some (.int (nI (Z t)))]) rfl (by decide) rfl ?_
            refine zn_iload (pc := 85) rfl rfl ?_
            refine zn_iconstN (pc := 87) 1 rfl rfl ?_
            refine zn_iaddN (pc := 88) (x := t) (y := 1) rfl ?_
            refine zn_istore (pc := 89) (L' := [some (.ref 11), some (.ref p), some (.int (nI (l + 1))), some (.int (nI 0)), some (.int (nI (t + 1))), some (.int (nI t)), some (.int (nI (Z t)))]) rfl (by decide) rfl ?_
            refine zn_iincN (pc := 91) (L' := [some (.ref 11), some (.ref p), some (.int (nI (l + 1))), some (.int (nI 0)), some (.int (nI (t + 1))), some (.int (nI (t + 1))), some (.int (nI (Z t)))]) 1 rfl rfl rfl (by decide) rfl ?_
            refine zn_goto (pc := 94) (tgt := 10) rfl rfl ?_
            exact zn_sub (L' := [some (.ref 11), some (.ref p), some (.int (nI (l + 1))), some (.int (nI 0)), some (.int (nI (t + 1))), some (.int (nI (t + 1))), none]) ⟨rfl, rfl, rfl, rfl, rfl, rfl, trivial⟩ (ih (t + 1) (l + 1) 0 (t + 1) _ _ _ _ (by omega) hn1 (by omega) (by omega) (by omega))
      · simp only [cRd] at hn1
        rw [if_pos ⟨by omega, by omega⟩] at hn1
        have hlc : l < 24 ∧ c < 8 := by by_cases q9 : l < 24 ∧ c < 8; exact q9; rw [if_neg q9] at hn1; cases hn1
        rw [if_pos hlc] at hn1
        obtain ⟨hl9, hc9⟩ := hlc
        refine zn_aload_n (pc := 34) rfl rfl ?_
        refine zn_aload_n (pc := 35) rfl rfl ?_
        refine zn_iload_n (pc := 36) rfl rfl ?_
        refine zn_iload_n (pc := 37) rfl rfl ?_
        refine zn_iload (pc := 38) rfl rfl ?_
        refine zn_iload (pc := 40) rfl rfl ?_
        refine zn_callVx (pc := 42) (J := zX1_readCell) (o := 11) (as := [.ref p, .int (nI l), .int (nI c), .int (nI a), .int (nI t)]) (rest := []) rfl rfl rfl rfl rfl rfl rfl rfl (Nat.le_of_ble_eq_true rfl) (Nat.le_of_ble_eq_true rfl) (Nat.le_of_ble_eq_true rfl) (Nat.le_of_ble_eq_true rfl) (c_readCellT_10 hp hq hn hZ hpo hqo (l := l) (c := c) (a := a) (t9 := t) (by omega) (by omega) (by omega) (by omega)) ?_
        refine zn_iincN (pc := 45) (L' := [some (.ref 11), some (.ref p), some (.int (nI l)), some (.int (nI (c + 1))), some (.int (nI a)), some (.int (nI t)), some (.int (nI (Z t)))]) 1 rfl rfl rfl (by decide) rfl ?_
        refine zn_iload (pc := 48) rfl rfl ?_
        refine zn_iconstN (pc := 50) 1 rfl rfl ?_
        refine zn_iaddN (pc := 51) (x := t) (y := 1) rfl ?_
        refine zn_istore (pc := 52) (L' := [some (.ref 11), some (.ref p), some (.int (nI l)), some (.int (nI (c + 1))), some (.int (nI (t + 1))), some (.int (nI t)), some (.int (nI (Z t)))]) rfl (by decide) rfl ?_
        refine zn_goto (pc := 54) (tgt := 91) rfl rfl ?_
        refine zn_iincN (pc := 91) (L' := [some (.ref 11), some (.ref p), some (.int (nI l)), some (.int (nI (c + 1))), some (.int (nI (t + 1))), some (.int (nI (t + 1))), some (.int (nI (Z t)))]) 1 rfl rfl rfl (by decide) rfl ?_
        refine zn_goto (pc := 94) (tgt := 10) rfl rfl ?_
        exact zn_sub (L' := [some (.ref 11), some (.ref p), some (.int (nI l)), some (.int (nI (c + 1))), some (.int (nI (t + 1))), some (.int (nI (t + 1))), none]) ⟨rfl, rfl, rfl, rfl, rfl, rfl, trivial⟩ (ih (t + 1) l (c + 1) (t + 1) _ _ _ _ (by omega) hn1 (by omega) (by omega) (by omega))
theorem c_read_10  {nn m : Nat} {C D : Nat → Nat → Nat} {V W : Nat → Int64} {Xs : Nat → Nat} {Bn : Nat → Int32} {p q sz : Nat} {Z : Nat → Nat} (hp : h.1 p = some (.inr (7, [.ref q, .int (nI sz)]))) (hq : h.1 q = some (mNA 3264 Z)) (hn : sz ≤ 3264) (hZ : ∀ j, Z j < 1000) (hpo : p < 10 ∨ 10 + 20 ≤ p) (hqo : q < 10 ∨ 10 + 20 ≤ q) {R : Nat × (Nat → Nat → Nat) × (Nat → Int64)} (hR : cRd Z sz (sz + 1) 0 0 0 0 nn C V = some R) : Zx g zX1_read [.ref 11, .ref p] (lhp 10 h nn C V m D W Xs Bn) none (lhp 10 h R.1 R.2.1 R.2.2 m D W Xs Bn) := by
  show Zn g zX1_read 0 [some (.ref 11), some (.ref p), none, none, none, none, none] [] (lhp 10 h nn C V m D W Xs Bn) 0 0 _
  refine zn_iconstN (pc := 0) 0 rfl rfl ?_
  refine zn_istore_n (pc := 1) (L' := [some (.ref 11), some (.ref p), some (.int (nI 0)), none, none, none, none]) rfl (by decide) rfl ?_
  refine zn_iconstN (pc := 2) 0 rfl rfl ?_
  refine zn_istore_n (pc := 3) (L' := [some (.ref 11), some (.ref p), some (.int (nI 0)), some (.int (nI 0)), none, none, none]) rfl (by decide) rfl ?_
  refine zn_iconstN (pc := 4) 0 rfl rfl ?_
  refine zn_istore (pc := 5) (L' := [some (.ref 11), some (.ref p), some (.int (nI 0)), some (.int (nI 0)), some (.int (nI 0)), none, none]) rfl (by decide) rfl ?_
  refine zn_iconstN (pc := 7) 0 rfl rfl ?_
  refine zn_istore (pc := 8) (L' := [some (.ref 11), some (.ref p), some (.int (nI 0)), some (.int (nI 0)), some (.int (nI 0)), some (.int (nI 0)), none]) rfl (by decide) rfl ?_
  exact c_read_l10 hp hq hn hZ hpo hqo sz 0 0 0 0 nn C V R (by omega) hR (by omega) (by omega) (by omega)
theorem c_readCell_30  {n m : Nat} {C D : Nat → Nat → Nat} {V W : Nat → Int64} {Xs : Nat → Nat} {Bn : Nat → Int32} {p q sz : Nat} {Z : Nat → Nat} (hp : h.1 p = some (.inr (7, [.ref q, .int (nI sz)]))) (hq : h.1 q = some (mNA 3264 Z)) (hn : sz ≤ 3264) (hZ : ∀ j, Z j < 1000) (hpo : p < 30 ∨ 30 + 20 ≤ p) (hqo : q < 30 ∨ 30 + 20 ≤ q) {l c a m9 : Nat} (hm : a + m9 ≤ sz) (hl : l < 24) (hc : c < 8) : Zx g zX1_readCell [.ref 31, .ref p, .int (nI l), .int (nI c), .int (nI a), .int (nI (a + m9))] (lhp 30 h n C V m D W Xs Bn) none (lhp 30 h (l + 1) (rcC C (zf Z a) l c a m9) (rcV V (zf Z a) l c m9) m D W Xs Bn) := by
  have k2 := skind_le (zf Z a) m9
  show Zn g zX1_readCell 0 [some (.ref 31), some (.ref p), some (.int (nI l)), some (.int (nI c)), some (.int (nI a)), some (.int (nI (a + m9))), none, none] [] (lhp 30 h n C V m D W Xs Bn) 0 0 _
  refine zn_iload_n (pc := 0) rfl rfl ?_
  refine zn_bipushN (pc := 1) 24 rfl rfl ?_
  refine zn_icmp_geN (pc := 3) (tgt := 12) (x := l) (y := 24) rfl rfl (by omega) (by omega) (fun c1 => ?_) (fun c1 => ?_)
  · exfalso; omega
  · refine zn_iload_n (pc := 6) rfl rfl ?_
    refine zn_bipushN (pc := 7) 8 rfl rfl ?_
    refine zn_icmp_ltN (pc := 9) (tgt := 13) (x := c) (y := 8) rfl rfl (by omega) (by omega) (fun c2 => ?_) (fun c2 => ?_)
    · refine zn_iload_n (pc := 13) rfl rfl ?_
      refine zn_iload_n (pc := 14) rfl rfl ?_
      refine zn_callSx (pc := 15) (J := zX1_slot) (as := [.int (nI l), .int (nI c)]) (rest := []) rfl (by decide) rfl rfl rfl rfl (Nat.le_of_ble_eq_true rfl) (Nat.le_of_ble_eq_true rfl) (Nat.le_of_ble_eq_true rfl) (Nat.le_of_ble_eq_true rfl) (c_slot (l := l) (c := c)) ?_
      refine zn_istore (pc := 18) (L' := [some (.ref 31), some (.ref p), some (.int (nI l)), some (.int (nI c)), some (.int (nI a)), some (.int (nI (a + m9))), some (.int (nI (8 * l + c))), none]) rfl (by decide) rfl ?_
      refine zn_aload_n (pc := 20) rfl rfl ?_
      refine zn_iload (pc := 21) rfl rfl ?_
      refine zn_iload (pc := 23) rfl rfl ?_
      refine zn_callSx (pc := 25) (J := zX8_kindOf) (as := [.ref p, .int (nI a), .int (nI (a + m9))]) (rest := []) rfl (by decide) rfl rfl rfl rfl (Nat.le_of_ble_eq_true rfl) (Nat.le_of_ble_eq_true rfl) (Nat.le_of_ble_eq_true rfl) (Nat.le_of_ble_eq_true rfl) (c_kindOf ((ov_o hpo).trans hp) ((ov_o hqo).trans hq) hn hZ (a := a) (m := m9) hm) ?_
      refine zn_istore (pc := 28) (L' := [some (.ref 31), some (.ref p), some (.int (nI l)), some (.int (nI c)), some (.int (nI a)), some (.int (nI (a + m9))), some (.int (nI (8 * l + c))), some (.int (nI (skind (zf Z a) m9)))]) rfl (by decide) rfl ?_
      refine zn_aload_n (pc := 30) rfl rfl ?_
      refine zn_get (pc := 31) (v := .ref 33) rfl rfl rfl ?_
      refine zn_iload (pc := 34) rfl rfl ?_
      refine zn_iload (pc := 36) rfl rfl ?_
      refine zl_stC (pc := 38) (i := 1) (k := 192) (j := (8 * l + c)) (v := a) rfl (by decide) (by decide) rfl rfl (by omega) (Nat.le_of_ble_eq_true rfl) ?_
      refine zn_aload_n (pc := 39) rfl rfl ?_
      refine zn_get (pc := 40) (v := .ref 34) rfl rfl rfl ?_
      refine zn_iload (pc := 43) rfl rfl ?_
      refine zn_iload (pc := 45) rfl rfl ?_
      refine zn_iload (pc := 47) rfl rfl ?_
      refine zn_isubN (pc := 49) (x := (a + m9)) (y := a) rfl (by omega) ?_
      refine zn_top (v' := .int (nI m9)) (by congr 2; omega) ?_
      refine zl_stC (pc := 50) (i := 2) (k := 192) (j := (8 * l + c)) (v := m9) rfl (by decide) (by decide) rfl rfl (by omega) (Nat.le_of_ble_eq_true rfl) ?_
      refine zn_aload_n (pc := 51) rfl rfl ?_
      refine zn_get (pc := 52) (v := .ref 35) rfl rfl rfl ?_
      refine zn_iload (pc := 55) rfl rfl ?_
      refine zn_iload (pc := 57) rfl rfl ?_
      refine zl_stC (pc := 59) (i := 3) (k := 192) (j := (8 * l + c)) (v := (skind (zf Z a) m9)) rfl (by decide) (by decide) rfl rfl (by omega) (Nat.le_of_ble_eq_true rfl) ?_
      refine zn_aload_n (pc := 60) rfl rfl ?_
      refine zn_get (pc := 61) (v := .ref 36) rfl rfl rfl ?_
      refine zn_iload (pc := 64) rfl rfl ?_
      refine zn_joinV (v := .int (nI (if skind (zf Z a) m9 = 1 then swh (zf Z a) m9 0 else 0))) (pj := 84) ?_ (fun K3 => ?_)
      · refine zl_stC (pc := 84) (i := 4) (k := 192) (j := (8 * l + c)) (v := (if skind (zf Z a) m9 = 1 then swh (zf Z a) m9 0 else 0)) rfl (by decide) (by decide) rfl rfl (by omega) (Nat.le_of_ble_eq_true rfl) ?_
        refine zn_aload_n (pc := 85) rfl rfl ?_
        refine zn_get (pc := 86) (v := .ref 37) rfl rfl rfl ?_
        refine zn_iload (pc := 89) rfl rfl ?_
        refine zn_joinV (v := .long (if skind (zf Z a) m9 = 1 then sVal (zf Z a) m9 else 0)) (pj := 109) ?_ (fun K4 => ?_)
        · refine zl_stV (pc := 109) (j := (8 * l + c)) rfl rfl (by omega) ?_
          refine zn_aload_n (pc := 110) rfl rfl ?_
          refine zn_get (pc := 111) (v := .ref 32) rfl rfl rfl ?_
          refine zn_iload_n (pc := 114) rfl rfl ?_
          refine zn_iload_n (pc := 115) rfl rfl ?_
          refine zn_iconstN (pc := 116) 1 rfl rfl ?_
          refine zn_iaddN (pc := 117) (x := c) (y := 1) rfl ?_
          refine zl_stC (pc := 118) (i := 0) (k := 24) (j := l) (v := (c + 1)) rfl (by decide) (by decide) rfl rfl (by omega) (Nat.le_of_ble_eq_true rfl) ?_
          refine zn_aload_n (pc := 119) rfl rfl ?_
          refine zn_iload_n (pc := 120) rfl rfl ?_
          refine zn_iconstN (pc := 121) 1 rfl rfl ?_
          refine zn_iaddN (pc := 122) (x := l) (y := 1) rfl ?_
          refine zl_putn (pc := 123) (v := (l + 1)) rfl rfl ?_
          exact zx_v (pc := 126) rfl rfl rfl rfl
        · refine zn_iload (pc := 91) rfl rfl ?_
          refine zn_iconstN (pc := 93) 1 rfl rfl ?_
          refine zn_icmp_neN (pc := 94) (tgt := 108) (x := (skind (zf Z a) m9)) (y := 1) rfl rfl (by omega) (by omega) (fun c5 => ?_) (fun c5 => ?_)
          · refine zn_lconst (pc := 108) 0 rfl rfl ?_
            exact zn_top (v' := .long (if skind (zf Z a) m9 = 1 then sVal (zf Z a) m9 else 0)) (by rw [if_neg (by omega)]) K4
          · refine zn_aload_n (pc := 97) rfl rfl ?_
            refine zn_iload (pc := 98) rfl rfl ?_
            refine zn_iload (pc := 100) rfl rfl ?_
            refine zn_callSx (pc := 102) (J := zX8_valueOf) (as := [.ref p, .int (nI a), .int (nI (a + m9))]) (rest := [.int (nI (8 * l + c)), .ref 37]) rfl (by decide) rfl rfl rfl rfl (Nat.le_of_ble_eq_true rfl) (Nat.le_of_ble_eq_true rfl) (Nat.le_of_ble_eq_true rfl) (Nat.le_of_ble_eq_true rfl) (c_valueOfS ((ov_o hpo).trans hp) ((ov_o hqo).trans hq) hn hZ (a := a) (m := m9) hm (by omega)) ?_
            refine zn_goto (pc := 105) (tgt := 109) rfl rfl ?_
            exact zn_top (v' := .long (if skind (zf Z a) m9 = 1 then sVal (zf Z a) m9 else 0)) (by rw [if_pos (by omega)]) K4
      · refine zn_iload (pc := 66) rfl rfl ?_
        refine zn_iconstN (pc := 68) 1 rfl rfl ?_
        refine zn_icmp_neN (pc := 69) (tgt := 83) (x := (skind (zf Z a) m9)) (y := 1) rfl rfl (by omega) (by omega) (fun c6 => ?_) (fun c6 => ?_)
        · refine zn_iconstN (pc := 83) 0 rfl rfl ?_
          exact zn_top (v' := .int (nI (if skind (zf Z a) m9 = 1 then swh (zf Z a) m9 0 else 0))) (by rw [if_neg (by omega)]) K3
        · refine zn_aload_n (pc := 72) rfl rfl ?_
          refine zn_iload (pc := 73) rfl rfl ?_
          refine zn_iload (pc := 75) rfl rfl ?_
          refine zn_callSx (pc := 77) (J := zX8_wholeLength) (as := [.ref p, .int (nI a), .int (nI (a + m9))]) (rest := [.int (nI (8 * l + c)), .ref 36]) rfl (by decide) rfl rfl rfl rfl (Nat.le_of_ble_eq_true rfl) (Nat.le_of_ble_eq_true rfl) (Nat.le_of_ble_eq_true rfl) (Nat.le_of_ble_eq_true rfl) (c_wholeLength ((ov_o hpo).trans hp) ((ov_o hqo).trans hq) hn hZ (a := a) (m := m9) hm) ?_
          refine zn_goto (pc := 80) (tgt := 84) rfl rfl ?_
          exact zn_top (v' := .int (nI (if skind (zf Z a) m9 = 1 then swh (zf Z a) m9 0 else 0))) (by rw [if_pos (by omega)]) K3
    · exfalso; omega
theorem c_readCellT_30 {n m : Nat} {C D : Nat → Nat → Nat} {V W : Nat → Int64} {Xs : Nat → Nat} {Bn : Nat → Int32} {p q sz : Nat} {Z : Nat → Nat} (hp : h.1 p = some (.inr (7, [.ref q, .int (nI sz)]))) (hq : h.1 q = some (mNA 3264 Z)) (hn : sz ≤ 3264) (hZ : ∀ j, Z j < 1000) (hpo : p < 30 ∨ 30 + 20 ≤ p) (hqo : q < 30 ∨ 30 + 20 ≤ q) {l c a t9 : Nat} (ht : a ≤ t9) (hm : t9 ≤ sz) (hl : l < 24) (hc : c < 8) : Zx g zX1_readCell [.ref 31, .ref p, .int (nI l), .int (nI c), .int (nI a), .int (nI t9)] (lhp 30 h n C V m D W Xs Bn) none (lhp 30 h (l + 1) (rcC C (zf Z a) l c a (t9 - a)) (rcV V (zf Z a) l c (t9 - a)) m D W Xs Bn) := by
  have := c_readCell_30 (g := g) (n := n) (C := C) (D := D) (V := V) (W := W) (m := m) (Xs := Xs) (Bn := Bn) hp hq hn hZ hpo hqo (l := l) (c := c) (a := a) (m9 := t9 - a) (by omega) hl hc
  rwa [show a + (t9 - a) = t9 by omega] at this
theorem c_read_l30 {m : Nat} {D : Nat → Nat → Nat} {W : Nat → Int64} {Xs : Nat → Nat} {Bn : Nat → Int32} {p q sz : Nat} {Z : Nat → Nat} (hp : h.1 p = some (.inr (7, [.ref q, .int (nI sz)]))) (hq : h.1 q = some (mNA 3264 Z)) (hn : sz ≤ 3264) (hZ : ∀ j, Z j < 1000) (hpo : p < 30 ∨ 30 + 20 ≤ p) (hqo : q < 30 ∨ 30 + 20 ≤ q) : ∀ (n : Nat) (t l c a nn : Nat) (C : Nat → Nat → Nat) (V : Nat → Int64) (R : Nat × (Nat → Nat → Nat) × (Nat → Int64)), t + n = sz → cRd Z sz (n + 1) t l c a nn C V = some R → a ≤ t → l ≤ t → c ≤ t → Zn g zX1_read 10 [some (.ref 31), some (.ref p), some (.int (nI l)), some (.int (nI c)), some (.int (nI a)), some (.int (nI t)), none] [] (lhp 30 h nn C V m D W Xs Bn) 0 0 (fun r' h' => r' = .inl none ∧ h' = (lhp 30 h R.1 R.2.1 R.2.2 m D W Xs Bn)) := by
  intro n
  induction n with
  | zero =>
    intro t l c a nn C V R hn0 hn1 hn2 hn3 hn4
    refine zn_iload (pc := 10) rfl rfl ?_
    refine zn_aload_n (pc := 12) rfl rfl ?_
    refine zn_callVx (pc := 13) (J := zX7_size) (o := p) (as := []) (rest := [.int (nI t)]) rfl rfl rfl rfl ((ov_o hpo).trans hp) rfl rfl rfl (Nat.le_of_ble_eq_true rfl) (Nat.le_of_ble_eq_true rfl) (Nat.le_of_ble_eq_true rfl) (Nat.le_of_ble_eq_true rfl) (c_psize (ov_o hpo |>.trans hp)) ?_
    refine zn_icmp_gtN (pc := 16) (tgt := 97) (x := t) (y := sz) rfl rfl (by have := hZ t; omega) (by have := hZ t; omega) (fun c1 => ?_) (fun c1 => ?_)
    · exfalso; omega
    · refine zn_aload_n (pc := 19) rfl rfl ?_
      refine zn_iload (pc := 20) rfl rfl ?_
      refine zn_callVx (pc := 22) (J := zX7_codeAt) (o := p) (as := [.int (nI t)]) (rest := []) rfl rfl rfl rfl ((ov_o hpo).trans hp) rfl rfl rfl (Nat.le_of_ble_eq_true rfl) (Nat.le_of_ble_eq_true rfl) (Nat.le_of_ble_eq_true rfl) (Nat.le_of_ble_eq_true rfl) (c_codeAt_o ((ov_o hpo).trans hp) ((ov_o hqo).trans hq) hn hZ (a := t) (by omega) (by omega)) ?_
      refine zn_istore (pc := 25) (L' := [some (.ref 31), some (.ref p), some (.int (nI l)), some (.int (nI c)), some (.int (nI a)), some (.int (nI t)), some (.int (nI 0))]) rfl (by decide) rfl ?_
      refine zn_iload (pc := 27) rfl rfl ?_
      refine zn_bipushN (pc := 29) 9 rfl rfl ?_
      refine zn_icmp_neN (pc := 31) (tgt := 57) (x := 0) (y := 9) rfl rfl (by have := hZ t; omega) (by have := hZ t; omega) (fun c2 => ?_) (fun c2 => ?_)
      · refine zn_iload (pc := 57) rfl rfl ?_
        refine zn_bipushN (pc := 59) 10 rfl rfl ?_
        refine zn_icmp_eqN (pc := 61) (tgt := 69) (x := 0) (y := 10) rfl rfl (by have := hZ t; omega) (by have := hZ t; omega) (fun c3 => ?_) (fun c3 => ?_)
        · exfalso; omega
        · refine zn_iload (pc := 64) rfl rfl ?_
          refine zn_if_neN (pc := 66) (tgt := 91) (x := 0) rfl rfl (by have := hZ t; omega) (fun c4 => ?_) (fun c4 => ?_)
          · exfalso; omega
          · simp only [cRd] at hn1
            rw [if_neg (by omega), if_pos (by omega)] at hn1
            have hlc : l < 24 ∧ c < 8 := by by_cases q9 : l < 24 ∧ c < 8; exact q9; rw [if_neg q9] at hn1; cases hn1
            rw [if_pos hlc] at hn1
            obtain ⟨hl9, hc9⟩ := hlc
            refine zn_aload_n (pc := 69) rfl rfl ?_
            refine zn_aload_n (pc := 70) rfl rfl ?_
            refine zn_iload_n (pc := 71) rfl rfl ?_
            refine zn_iload_n (pc := 72) rfl rfl ?_
            refine zn_iload (pc := 73) rfl rfl ?_
            refine zn_iload (pc := 75) rfl rfl ?_
            refine zn_callVx (pc := 77) (J := zX1_readCell) (o := 31) (as := [.ref p, .int (nI l), .int (nI c), .int (nI a), .int (nI t)]) (rest := []) rfl rfl rfl rfl rfl rfl rfl rfl (Nat.le_of_ble_eq_true rfl) (Nat.le_of_ble_eq_true rfl) (Nat.le_of_ble_eq_true rfl) (Nat.le_of_ble_eq_true rfl) (c_readCellT_30 hp hq hn hZ hpo hqo (l := l) (c := c) (a := a) (t9 := t) (by omega) (by omega) (by omega) (by omega)) ?_
            refine zn_iincN (pc := 80) (L' := [some (.ref 31), some (.ref p), some (.int (nI (l + 1))), some (.int (nI c)), some (.int (nI a)), some (.int (nI t)), some (.int (nI 0))]) 1 rfl rfl rfl (by decide) rfl ?_
            refine zn_iconstN (pc := 83) 0 rfl rfl ?_
            refine zn_istore_n (pc := 84) (L' := [some (.ref 31), some (.ref p), some (.int (nI (l + 1))), some (.int (nI 0)), some (.int (nI a)), some (.int (nI t)), some (.int (nI 0))]) rfl (by decide) rfl ?_
            refine zn_iload (pc := 85) rfl rfl ?_
            refine zn_iconstN (pc := 87) 1 rfl rfl ?_
            refine zn_iaddN (pc := 88) (x := t) (y := 1) rfl ?_
            refine zn_istore (pc := 89) (L' := [some (.ref 31), some (.ref p), some (.int (nI (l + 1))), some (.int (nI 0)), some (.int (nI (t + 1))), some (.int (nI t)), some (.int (nI 0))]) rfl (by decide) rfl ?_
            refine zn_iincN (pc := 91) (L' := [some (.ref 31), some (.ref p), some (.int (nI (l + 1))), some (.int (nI 0)), some (.int (nI (t + 1))), some (.int (nI (t + 1))), some (.int (nI 0))]) 1 rfl rfl rfl (by decide) rfl ?_
            refine zn_goto (pc := 94) (tgt := 10) rfl rfl ?_
            refine zn_iload (pc := 10) rfl rfl ?_
            refine zn_aload_n (pc := 12) rfl rfl ?_
            refine zn_callVx (pc := 13) (J := zX7_size) (o := p) (as := []) (rest := [.int (nI (t + 1))]) rfl rfl rfl rfl ((ov_o hpo).trans hp) rfl rfl rfl (Nat.le_of_ble_eq_true rfl) (Nat.le_of_ble_eq_true rfl) (Nat.le_of_ble_eq_true rfl) (Nat.le_of_ble_eq_true rfl) (c_psize (ov_o hpo |>.trans hp)) ?_
            refine zn_icmp_gtN (pc := 16) (tgt := 97) (x := (t + 1)) (y := sz) rfl rfl (by have := hZ t; omega) (by have := hZ t; omega) (fun c5 => ?_) (fun c5 => ?_)
            · try simp only [cRd] at hn1
              cases hn1
              exact zx_v (pc := 97) rfl rfl rfl rfl
            · exfalso; omega
      · exfalso; omega
  | succ n ih =>
    intro t l c a nn C V R hn0 hn1 hn2 hn3 hn4
    refine zn_iload (pc := 10) rfl rfl ?_
    refine zn_aload_n (pc := 12) rfl rfl ?_
    refine zn_callVx (pc := 13) (J := zX7_size) (o := p) (as := []) (rest := [.int (nI t)]) rfl rfl rfl rfl ((ov_o hpo).trans hp) rfl rfl rfl (Nat.le_of_ble_eq_true rfl) (Nat.le_of_ble_eq_true rfl) (Nat.le_of_ble_eq_true rfl) (Nat.le_of_ble_eq_true rfl) (c_psize (ov_o hpo |>.trans hp)) ?_
    refine zn_icmp_gtN (pc := 16) (tgt := 97) (x := t) (y := sz) rfl rfl (by have := hZ t; omega) (by have := hZ t; omega) (fun c1 => ?_) (fun c1 => ?_)
    · exfalso; omega
    · refine zn_aload_n (pc := 19) rfl rfl ?_
      refine zn_iload (pc := 20) rfl rfl ?_
      refine zn_callVx (pc := 22) (J := zX7_codeAt) (o := p) (as := [.int (nI t)]) (rest := []) rfl rfl rfl rfl ((ov_o hpo).trans hp) rfl rfl rfl (Nat.le_of_ble_eq_true rfl) (Nat.le_of_ble_eq_true rfl) (Nat.le_of_ble_eq_true rfl) (Nat.le_of_ble_eq_true rfl) (c_codeAt_i ((ov_o hpo).trans hp) ((ov_o hqo).trans hq) hn hZ (a := t) (by omega)) ?_
      refine zn_istore (pc := 25) (L' := [some (.ref 31), some (.ref p), some (.int (nI l)), some (.int (nI c)), some (.int (nI a)), some (.int (nI t)), some (.int (nI (Z t)))]) rfl (by decide) rfl ?_
      refine zn_iload (pc := 27) rfl rfl ?_
      refine zn_bipushN (pc := 29) 9 rfl rfl ?_
      refine zn_icmp_neN (pc := 31) (tgt := 57) (x := (Z t)) (y := 9) rfl rfl (by have := hZ t; omega) (by have := hZ t; omega) (fun c2 => ?_) (fun c2 => ?_)
      · refine zn_iload (pc := 57) rfl rfl ?_
        refine zn_bipushN (pc := 59) 10 rfl rfl ?_
        refine zn_icmp_eqN (pc := 61) (tgt := 69) (x := (Z t)) (y := 10) rfl rfl (by have := hZ t; omega) (by have := hZ t; omega) (fun c3 => ?_) (fun c3 => ?_)
        · simp only [cRd] at hn1
          rw [if_neg (by omega), if_pos (by omega)] at hn1
          have hlc : l < 24 ∧ c < 8 := by by_cases q9 : l < 24 ∧ c < 8; exact q9; rw [if_neg q9] at hn1; cases hn1
          rw [if_pos hlc] at hn1
          obtain ⟨hl9, hc9⟩ := hlc
          refine zn_aload_n (pc := 69) rfl rfl ?_
          refine zn_aload_n (pc := 70) rfl rfl ?_
          refine zn_iload_n (pc := 71) rfl rfl ?_
          refine zn_iload_n (pc := 72) rfl rfl ?_
          refine zn_iload (pc := 73) rfl rfl ?_
          refine zn_iload (pc := 75) rfl rfl ?_
          refine zn_callVx (pc := 77) (J := zX1_readCell) (o := 31) (as := [.ref p, .int (nI l), .int (nI c), .int (nI a), .int (nI t)]) (rest := []) rfl rfl rfl rfl rfl rfl rfl rfl (Nat.le_of_ble_eq_true rfl) (Nat.le_of_ble_eq_true rfl) (Nat.le_of_ble_eq_true rfl) (Nat.le_of_ble_eq_true rfl) (c_readCellT_30 hp hq hn hZ hpo hqo (l := l) (c := c) (a := a) (t9 := t) (by omega) (by omega) (by omega) (by omega)) ?_
          refine zn_iincN (pc := 80) (L' := [some (.ref 31), some (.ref p), some (.int (nI (l + 1))), some (.int (nI c)), some (.int (nI a)), some (.int (nI t)), some (.int (nI (Z t)))]) 1 rfl rfl rfl (by decide) rfl ?_
          refine zn_iconstN (pc := 83) 0 rfl rfl ?_
          refine zn_istore_n (pc := 84) (L' := [some (.ref 31), some (.ref p), some (.int (nI (l + 1))), some (.int (nI 0)), some (.int (nI a)), some (.int (nI t)), some (.int (nI (Z t)))]) rfl (by decide) rfl ?_
          refine zn_iload (pc := 85) rfl rfl ?_
          refine zn_iconstN (pc := 87) 1 rfl rfl ?_
          refine zn_iaddN (pc := 88) (x := t) (y := 1) rfl ?_
          refine zn_istore (pc := 89) (L' := [some (.ref 31), some (.ref p), some (.int (nI (l + 1))), some (.int (nI 0)), some (.int (nI (t + 1))), some (.int (nI t)), some (.int (nI (Z t)))]) rfl (by decide) rfl ?_
          refine zn_iincN (pc := 91) (L' := [some (.ref 31), some (.ref p), some (.int (nI (l + 1))), some (.int (nI 0)), some (.int (nI (t + 1))), some (.int (nI (t + 1))), some (.int (nI (Z t)))]) 1 rfl rfl rfl (by decide) rfl ?_
          refine zn_goto (pc := 94) (tgt := 10) rfl rfl ?_
          exact zn_sub (L' := [some (.ref 31), some (.ref p), some (.int (nI (l + 1))), some (.int (nI 0)), some (.int (nI (t + 1))), some (.int (nI (t + 1))), none]) ⟨rfl, rfl, rfl, rfl, rfl, rfl, trivial⟩ (ih (t + 1) (l + 1) 0 (t + 1) _ _ _ _ (by omega) hn1 (by omega) (by omega) (by omega))
        · refine zn_iload (pc := 64) rfl rfl ?_
          refine zn_if_neN (pc := 66) (tgt := 91) (x := (Z t)) rfl rfl (by have := hZ t; omega) (fun c4 => ?_) (fun c4 => ?_)
          · simp only [cRd] at hn1
            rw [if_neg (by omega), if_neg (by omega)] at hn1
            refine zn_iincN (pc := 91) (L' := [some (.ref 31), some (.ref p), some (.int (nI l)), some (.int (nI c)), some (.int (nI a)), some (.int (nI (t + 1))), some (.int (nI (Z t)))]) 1 rfl rfl rfl (by decide) rfl ?_
            refine zn_goto (pc := 94) (tgt := 10) rfl rfl ?_
            exact zn_sub (L' := [some (.ref 31), some (.ref p), some (.int (nI l)), some (.int (nI c)), some (.int (nI a)), some (.int (nI (t + 1))), none]) ⟨rfl, rfl, rfl, rfl, rfl, rfl, trivial⟩ (ih (t + 1) l c a _ _ _ _ (by omega) hn1 (by omega) (by omega) (by omega))
          · simp only [cRd] at hn1
            rw [if_neg (by omega), if_pos (by omega)] at hn1
            have hlc : l < 24 ∧ c < 8 := by by_cases q9 : l < 24 ∧ c < 8; exact q9; rw [if_neg q9] at hn1; cases hn1
            rw [if_pos hlc] at hn1
            obtain ⟨hl9, hc9⟩ := hlc
            refine zn_aload_n (pc := 69) rfl rfl ?_
            refine zn_aload_n (pc := 70) rfl rfl ?_
            refine zn_iload_n (pc := 71) rfl rfl ?_
            refine zn_iload_n (pc := 72) rfl rfl ?_
            refine zn_iload (pc := 73) rfl rfl ?_
            refine zn_iload (pc := 75) rfl rfl ?_
            refine zn_callVx (pc := 77) (J := zX1_readCell) (o := 31) (as := [.ref p, .int (nI l), .int (nI c), .int (nI a), .int (nI t)]) (rest := []) rfl rfl rfl rfl rfl rfl rfl rfl (Nat.le_of_ble_eq_true rfl) (Nat.le_of_ble_eq_true rfl) (Nat.le_of_ble_eq_true rfl) (Nat.le_of_ble_eq_true rfl) (c_readCellT_30 hp hq hn hZ hpo hqo (l := l) (c := c) (a := a) (t9 := t) (by omega) (by omega) (by omega) (by omega)) ?_
            refine zn_iincN (pc := 80) (L' := [some (.ref 31), some (.ref p), some (.int (nI (l + 1))), some (.int (nI c)), some (.int (nI a)), some (.int (nI t)), some (.int (nI (Z t)))]) 1 rfl rfl rfl (by decide) rfl ?_
            refine zn_iconstN (pc := 83) 0 rfl rfl ?_
            refine zn_istore_n (pc := 84) (L' := [some (.ref 31), some (.ref p), some (.int (nI (l + 1))), some (.int (nI 0)), some (.int (nI a)), some (.int (nI t)), some (.int (nI (Z t)))]) rfl (by decide) rfl ?_
            refine zn_iload (pc := 85) rfl rfl ?_
            refine zn_iconstN (pc := 87) 1 rfl rfl ?_
            refine zn_iaddN (pc := 88) (x := t) (y := 1) rfl ?_
            refine zn_istore (pc := 89) (L' := [some (.ref 31), some (.ref p), some (.int (nI (l + 1))), some (.int (nI 0)), some (.int (nI (t + 1))), some (.int (nI t)), some (.int (nI (Z t)))]) rfl (by decide) rfl ?_
            refine zn_iincN (pc := 91) (L' := [some (.ref 31), some (.ref p), some (.int (nI (l + 1))), some (.int (nI 0)), some (.int (nI (t + 1))), some (.int (nI (t + 1))), some (.int (nI (Z t)))]) 1 rfl rfl rfl (by decide) rfl ?_
            refine zn_goto (pc := 94) (tgt := 10) rfl rfl ?_
            exact zn_sub (L' := [some (.ref 31), some (.ref p), some (.int (nI (l + 1))), some (.int (nI 0)), some (.int (nI (t + 1))), some (.int (nI (t + 1))), none]) ⟨rfl, rfl, rfl, rfl, rfl, rfl, trivial⟩ (ih (t + 1) (l + 1) 0 (t + 1) _ _ _ _ (by omega) hn1 (by omega) (by omega) (by omega))
      · simp only [cRd] at hn1
        rw [if_pos ⟨by omega, by omega⟩] at hn1
        have hlc : l < 24 ∧ c < 8 := by by_cases q9 : l < 24 ∧ c < 8; exact q9; rw [if_neg q9] at hn1; cases hn1
        rw [if_pos hlc] at hn1
        obtain ⟨hl9, hc9⟩ := hlc
        refine zn_aload_n (pc := 34) rfl rfl ?_
        refine zn_aload_n (pc := 35) rfl rfl ?_
        refine zn_iload_n (pc := 36) rfl rfl ?_
        refine zn_iload_n (pc := 37) rfl rfl ?_
        refine zn_iload (pc := 38) rfl rfl ?_
        refine zn_iload (pc := 40) rfl rfl ?_
        refine zn_callVx (pc := 42) (J := zX1_readCell) (o := 31) (as := [.ref p, .int (nI l), .int (nI c), .int (nI a), .int (nI t)]) (rest := []) rfl rfl rfl rfl rfl rfl rfl rfl (Nat.le_of_ble_eq_true rfl) (Nat.le_of_ble_eq_true rfl) (Nat.le_of_ble_eq_true rfl) (Nat.le_of_ble_eq_true rfl) (c_readCellT_30 hp hq hn hZ hpo hqo (l := l) (c := c) (a := a) (t9 := t) (by omega) (by omega) (by omega) (by omega)) ?_
        refine zn_iincN (pc := 45) (L' := [some (.ref 31), some (.ref p), some (.int (nI l)), some (.int (nI (c + 1))), some (.int (nI a)), some (.int (nI t)), some (.int (nI (Z t)))]) 1 rfl rfl rfl (by decide) rfl ?_
        refine zn_iload (pc := 48) rfl rfl ?_
        refine zn_iconstN (pc := 50) 1 rfl rfl ?_
        refine zn_iaddN (pc := 51) (x := t) (y := 1) rfl ?_
        refine zn_istore (pc := 52) (L' := [some (.ref 31), some (.ref p), some (.int (nI l)), some (.int (nI (c + 1))), some (.int (nI (t + 1))), some (.int (nI t)), some (.int (nI (Z t)))]) rfl (by decide) rfl ?_
        refine zn_goto (pc := 54) (tgt := 91) rfl rfl ?_
        refine zn_iincN (pc := 91) (L' := [some (.ref 31), some (.ref p), some (.int (nI l)), some (.int (nI (c + 1))), some (.int (nI (t + 1))), some (.int (nI (t + 1))), some (.int (nI (Z t)))]) 1 rfl rfl rfl (by decide) rfl ?_
        refine zn_goto (pc := 94) (tgt := 10) rfl rfl ?_
        exact zn_sub (L' := [some (.ref 31), some (.ref p), some (.int (nI l)), some (.int (nI (c + 1))), some (.int (nI (t + 1))), some (.int (nI (t + 1))), none]) ⟨rfl, rfl, rfl, rfl, rfl, rfl, trivial⟩ (ih (t + 1) l (c + 1) (t + 1) _ _ _ _ (by omega) hn1 (by omega) (by omega) (by omega))
theorem c_read_30  {nn m : Nat} {C D : Nat → Nat → Nat} {V W : Nat → Int64} {Xs : Nat → Nat} {Bn : Nat → Int32} {p q sz : Nat} {Z : Nat → Nat} (hp : h.1 p = some (.inr (7, [.ref q, .int (nI sz)]))) (hq : h.1 q = some (mNA 3264 Z)) (hn : sz ≤ 3264) (hZ : ∀ j, Z j < 1000) (hpo : p < 30 ∨ 30 + 20 ≤ p) (hqo : q < 30 ∨ 30 + 20 ≤ q) {R : Nat × (Nat → Nat → Nat) × (Nat → Int64)} (hR : cRd Z sz (sz + 1) 0 0 0 0 nn C V = some R) : Zx g zX1_read [.ref 31, .ref p] (lhp 30 h nn C V m D W Xs Bn) none (lhp 30 h R.1 R.2.1 R.2.2 m D W Xs Bn) := by
  show Zn g zX1_read 0 [some (.ref 31), some (.ref p), none, none, none, none, none] [] (lhp 30 h nn C V m D W Xs Bn) 0 0 _
  refine zn_iconstN (pc := 0) 0 rfl rfl ?_
  refine zn_istore_n (pc := 1) (L' := [some (.ref 31), some (.ref p), some (.int (nI 0)), none, none, none, none]) rfl (by decide) rfl ?_
  refine zn_iconstN (pc := 2) 0 rfl rfl ?_
  refine zn_istore_n (pc := 3) (L' := [some (.ref 31), some (.ref p), some (.int (nI 0)), some (.int (nI 0)), none, none, none]) rfl (by decide) rfl ?_
  refine zn_iconstN (pc := 4) 0 rfl rfl ?_
  refine zn_istore (pc := 5) (L' := [some (.ref 31), some (.ref p), some (.int (nI 0)), some (.int (nI 0)), some (.int (nI 0)), none, none]) rfl (by decide) rfl ?_
  refine zn_iconstN (pc := 7) 0 rfl rfl ?_
  refine zn_istore (pc := 8) (L' := [some (.ref 31), some (.ref p), some (.int (nI 0)), some (.int (nI 0)), some (.int (nI 0)), some (.int (nI 0)), none]) rfl (by decide) rfl ?_
  exact c_read_l30 hp hq hn hZ hpo hqo sz 0 0 0 0 nn C V R (by omega) hR (by omega) (by omega) (by omega)
end m1
