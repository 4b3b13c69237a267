section m1
variable {g : zG} {h hh : zH} {F : Nat → Nat} {S : Int64} {z : Nat → Nat} {A : Nat → Nat → Nat} {X : Nat → Int32}
theorem lk_pg {pf : Nat → Option Nat} {now p sz : Nat} {Z : Nat → Nat} (hS : ST hh F z A pf now p Z sz) {Zk : Nat → Nat} {sk : Nat} : LK (pgs hh 7 3264 p (p + 1) Zk sk) 10 z (pRR F z A) (nbb z) := by
  have := hS.pp
  exact hS.L.fr (fun i a b => pg_n (by omega) (by omega))
theorem zb_af {Z Y : Nat → Nat} {s f k : Nat} (h : ∀ j, Z j < 1000) (h' : ∀ j, Y j < 1000) : ∀ j, zaf Z s Y f k j < 1000 := fun j => by
  unfold zaf
  split
  · exact h' _
  · exact h j
theorem q_arr_l {pf : Nat → Option Nat} {now p sz : Nat} {Z : Nat → Nat} (hS : ST hh F z A pf now p Z sz) {p2 s2 : Nat} {Z2 : Nat → Nat} (hG2 : PGe hh p2 Z2 s2) (hf2 : FL z Z2 s2) (np1 : p2 ≠ p) (np2 : p2 ≠ p + 1) (np3 : p2 + 1 ≠ p) {o : Nat} {O : Nat → Nat} (hO : ORD hh o (z 0) O) (hOr : ∀ i, i < z 0 → O i < z 0) : ∀ (n : Nat) (k : Nat) (Zk : Nat → Nat) (sk : Nat), k + n = z 0 → (∀ j, Zk j < 1000) → ((k = 0 ∧ sk = 0) ∨ (0 < k ∧ PL Zk sk (oT z O k))) → Zn g zX9_arrange 23 [some (.ref 1), some (.ref o), some (.ref p2), some (.ref p), some (.int (nI k)), none] [] (pgs hh 7 3264 p (p + 1) Zk sk) 0 0 (fun r' h' => r' = .inl none ∧ ∃ Z9 s9, h' = pgs hh 7 3264 p (p + 1) Z9 s9 ∧ (∀ j, Z9 j < 1000) ∧ PL Z9 s9 (oT z O (z 0))) := by
  intro n
  induction n with
  | zero =>
    intro k Zk sk hn0 hn1 hn2
    have h24 := hS.tk.ok.2.1
    have h01 := hS.tk.ok.1
    have h120 := hS.im
    have hnb := hS.nb
    have hszz := hS.s3
    have hur := hS.ur
    have hnw := hS.nw
    have hpp := hS.pp
    have hpp2 := hG2.2.2.2.2
    obtain ⟨m1, m2, m3, m4⟩ := hO.ne hS.2.1
    have ho68 := hO.2.2
    refine zn_iload (pc := 23) rfl rfl ?_
    refine zn_aload_n (pc := 25) rfl rfl ?_
    refine zn_callVx (pc := 26) (J := zX9_cells) (o := 1) (as := []) (rest := [.int (nI k)]) rfl rfl rfl rfl ((pg_n (by omega) (by omega)).trans hS.t) rfl rfl rfl (Nat.le_of_ble_eq_true rfl) (Nat.le_of_ble_eq_true rfl) (Nat.le_of_ble_eq_true rfl) (Nat.le_of_ble_eq_true rfl) (q_cellsG ((pg_n (by omega) (by omega)).trans hS.t) ((pg_n (by omega) (by omega)).trans hS.lo)) ?_
    refine zn_callVx (pc := 29) (J := zX1_lines) (o := 11) (as := []) (rest := [.int (nI k)]) rfl rfl rfl rfl ((pg_n (by omega) (by omega)).trans hS.o11) rfl rfl rfl (Nat.le_of_ble_eq_true rfl) (Nat.le_of_ble_eq_true rfl) (Nat.le_of_ble_eq_true rfl) (Nat.le_of_ble_eq_true rfl) (c_linesK_10 (lk_pg hS).c) ?_
    refine zn_icmp_geN (pc := 32) (tgt := 83) (x := k) (y := (z 0)) rfl rfl (by omega) (by omega) (fun c1 => ?_) (fun c1 => ?_)
    · have e8 : k = z 0 := by omega
      exact zn_vret (pc := 83) rfl rfl ⟨rfl, Zk, sk, rfl, hn1, by rcases hn2 with q9 | q9; omega; rw [← e8]; exact q9.2⟩
    · exfalso; omega
  | succ n ih =>
    intro k Zk sk hn0 hn1 hn2
    have h24 := hS.tk.ok.2.1
    have h01 := hS.tk.ok.1
    have h120 := hS.im
    have hnb := hS.nb
    have hszz := hS.s3
    have hur := hS.ur
    have hnw := hS.nw
    have hpp := hS.pp
    have hpp2 := hG2.2.2.2.2
    obtain ⟨m1, m2, m3, m4⟩ := hO.ne hS.2.1
    have ho68 := hO.2.2
    refine zn_iload (pc := 23) rfl rfl ?_
    refine zn_aload_n (pc := 25) rfl rfl ?_
    refine zn_callVx (pc := 26) (J := zX9_cells) (o := 1) (as := []) (rest := [.int (nI k)]) rfl rfl rfl rfl ((pg_n (by omega) (by omega)).trans hS.t) rfl rfl rfl (Nat.le_of_ble_eq_true rfl) (Nat.le_of_ble_eq_true rfl) (Nat.le_of_ble_eq_true rfl) (Nat.le_of_ble_eq_true rfl) (q_cellsG ((pg_n (by omega) (by omega)).trans hS.t) ((pg_n (by omega) (by omega)).trans hS.lo)) ?_
    refine zn_callVx (pc := 29) (J := zX1_lines) (o := 11) (as := []) (rest := [.int (nI k)]) rfl rfl rfl rfl ((pg_n (by omega) (by omega)).trans hS.o11) rfl rfl rfl (Nat.le_of_ble_eq_true rfl) (Nat.le_of_ble_eq_true rfl) (Nat.le_of_ble_eq_true rfl) (Nat.le_of_ble_eq_true rfl) (c_linesK_10 (lk_pg hS).c) ?_
    refine zn_icmp_geN (pc := 32) (tgt := 83) (x := k) (y := (z 0)) rfl rfl (by omega) (by omega) (fun c1 => ?_) (fun c1 => ?_)
    · have e8 : k = z 0 := by omega
      exact zn_vret (pc := 83) rfl rfl ⟨rfl, Zk, sk, rfl, hn1, by rcases hn2 with q9 | q9; omega; rw [← e8]; exact q9.2⟩
    · have hok := hOr k (by omega)
      have gk := hS.tk.gl hok
      have lq := LE_eq (z := z) gk.1
      have lb := fB_len gk.1
      have lp := csL_pos gk.1
      have ln := (hf2.line hS.tk hok).1
      have ed : CS z (O k) (z (1 + O k) - 1) + z (25 + 8 * O k + (z (1 + O k) - 1)) - CS z (O k) 0 = (fB z (O k)).length := by omega
      have hol := oT_len (O := O) hS.tk (k + 1) (fun i hi => hOr i (by omega))
      refine zn_aload_n (pc := 35) rfl rfl ?_
      refine zn_iload (pc := 36) rfl rfl ?_
      refine zn_callVx (pc := 38) (J := zX6_lineAt) (o := o) (as := [.int (nI k)]) (rest := []) rfl rfl rfl rfl ((pg_n (by omega) (by omega)).trans hO.1) rfl rfl rfl (Nat.le_of_ble_eq_true rfl) (Nat.le_of_ble_eq_true rfl) (Nat.le_of_ble_eq_true rfl) (Nat.le_of_ble_eq_true rfl) (c_lineAt ((pg_n (by omega) (by omega)).trans hO.1) ((pg_n (by omega) (by omega)).trans hO.2.1) (by omega) (i := k) (by omega)) ?_
      refine zn_istore (pc := 41) (L' := [some (.ref 1), some (.ref o), some (.ref p2), some (.ref p), some (.int (nI k)), some (.int (nI (O k)))]) rfl (by decide) rfl ?_
      refine zn_iload (pc := 43) rfl rfl ?_
      refine zn_if_leN (pc := 45) (tgt := 54) (x := k) rfl rfl (by omega) (fun c2 => ?_) (fun c2 => ?_)
      · have s0 : sk = 0 := by rcases hn2 with q9 | q9; exact q9.2; omega
        have has : PL (zaf Zk sk Z2 (CS z (O k) 0) (fB z (O k)).length) (sk + (fB z (O k)).length) (oT z O (k + 1)) := by rw [s0, c2]; exact arr_0 hS.tk hf2 (hOr 0 (by omega))
        have hle := has.len
        refine zn_aload_n (pc := 54) rfl rfl ?_
        refine zn_aload_n (pc := 55) rfl rfl ?_
        refine zn_aload_n (pc := 56) rfl rfl ?_
        refine zn_callVx (pc := 57) (J := zX9_cells) (o := 1) (as := []) (rest := [.ref p2, .ref p]) rfl rfl rfl rfl ((pg_n (by omega) (by omega)).trans hS.t) rfl rfl rfl (Nat.le_of_ble_eq_true rfl) (Nat.le_of_ble_eq_true rfl) (Nat.le_of_ble_eq_true rfl) (Nat.le_of_ble_eq_true rfl) (q_cellsG ((pg_n (by omega) (by omega)).trans hS.t) ((pg_n (by omega) (by omega)).trans hS.lo)) ?_
        refine zn_iload (pc := 60) rfl rfl ?_
        refine zn_callVx (pc := 62) (J := zX1_lineStart) (o := 11) (as := [.int (nI (O k))]) (rest := [.ref p2, .ref p]) rfl rfl rfl rfl ((pg_n (by omega) (by omega)).trans hS.o11) rfl rfl rfl (Nat.le_of_ble_eq_true rfl) (Nat.le_of_ble_eq_true rfl) (Nat.le_of_ble_eq_true rfl) (Nat.le_of_ble_eq_true rfl) (c_lineStart (lk_pg hS) (l := (O k)) (by omega)) ?_
        refine zn_aload_n (pc := 65) rfl rfl ?_
        refine zn_callVx (pc := 66) (J := zX9_cells) (o := 1) (as := []) (rest := [.int (nI (CS z (O k) 0)), .ref p2, .ref p]) rfl rfl rfl rfl ((pg_n (by omega) (by omega)).trans hS.t) rfl rfl rfl (Nat.le_of_ble_eq_true rfl) (Nat.le_of_ble_eq_true rfl) (Nat.le_of_ble_eq_true rfl) (Nat.le_of_ble_eq_true rfl) (q_cellsG ((pg_n (by omega) (by omega)).trans hS.t) ((pg_n (by omega) (by omega)).trans hS.lo)) ?_
        refine zn_iload (pc := 69) rfl rfl ?_
        refine zn_callVx (pc := 71) (J := zX1_lineEnd) (o := 11) (as := [.int (nI (O k))]) (rest := [.int (nI (CS z (O k) 0)), .ref p2, .ref p]) rfl rfl rfl rfl ((pg_n (by omega) (by omega)).trans hS.o11) rfl rfl rfl (Nat.le_of_ble_eq_true rfl) (Nat.le_of_ble_eq_true rfl) (Nat.le_of_ble_eq_true rfl) (Nat.le_of_ble_eq_true rfl) (c_lineEnd (lk_pg hS) (l := (O k)) (by omega)) ?_
        refine zn_callVx (pc := 74) (J := zX7_addFrom) (o := p) (as := [.ref p2, .int (nI (CS z (O k) 0)), .int (nI (CS z (O k) (z (1 + (O k)) - 1) + z (25 + 8 * (O k) + (z (1 + (O k)) - 1))))]) (rest := []) rfl rfl rfl rfl pg_o rfl rfl rfl (Nat.le_of_ble_eq_true rfl) (Nat.le_of_ble_eq_true rfl) (Nat.le_of_ble_eq_true rfl) (Nat.le_of_ble_eq_true rfl) (c_addFrom (h := hh) (by omega) (by omega) hG2.1 hG2.2.1 hG2.2.2.1 hG2.2.2.2.1 np1 np2 np3 (by omega) (f := (CS z (O k) 0)) (t := (CS z (O k) (z (1 + (O k)) - 1) + z (25 + 8 * (O k) + (z (1 + (O k)) - 1)))) (by omega) (by omega) (by omega)) ?_
        refine zn_iincN (pc := 77) (L' := [some (.ref 1), some (.ref o), some (.ref p2), some (.ref p), some (.int (nI (k + 1))), some (.int (nI (O k)))]) 1 rfl rfl rfl (by decide) rfl ?_
        refine zn_goto (pc := 80) (tgt := 23) rfl rfl ?_
        rw [ed]
        exact zn_sub (L' := [some (.ref 1), some (.ref o), some (.ref p2), some (.ref p), some (.int (nI (k + 1))), none]) ⟨rfl, rfl, rfl, rfl, rfl, trivial⟩ (ih (k + 1) _ _ (by omega) (zb_af hn1 hG2.2.2.2.1) (Or.inr ⟨by omega, has⟩))
      · have hpl : PL Zk sk (oT z O k) := by rcases hn2 with q9 | q9; omega; exact q9.2
        have has := arr_s hS.tk hf2 hok hpl
        have hle := has.len
        refine zn_aload_n (pc := 48) rfl rfl ?_
        refine zn_bipushN (pc := 49) 10 rfl rfl ?_
        refine zn_callVx (pc := 51) (J := zX7_add) (o := p) (as := [.int (nI 10)]) (rest := []) rfl rfl rfl rfl pg_o rfl rfl rfl (Nat.le_of_ble_eq_true rfl) (Nat.le_of_ble_eq_true rfl) (Nat.le_of_ble_eq_true rfl) (Nat.le_of_ble_eq_true rfl) (c_add (h := hh) (by omega) (by omega) (x := 10) (by omega)) ?_
        refine zn_aload_n (pc := 54) rfl rfl ?_
        refine zn_aload_n (pc := 55) rfl rfl ?_
        refine zn_aload_n (pc := 56) rfl rfl ?_
        refine zn_callVx (pc := 57) (J := zX9_cells) (o := 1) (as := []) (rest := [.ref p2, .ref p]) rfl rfl rfl rfl ((pg_n (by omega) (by omega)).trans hS.t) rfl rfl rfl (Nat.le_of_ble_eq_true rfl) (Nat.le_of_ble_eq_true rfl) (Nat.le_of_ble_eq_true rfl) (Nat.le_of_ble_eq_true rfl) (q_cellsG ((pg_n (by omega) (by omega)).trans hS.t) ((pg_n (by omega) (by omega)).trans hS.lo)) ?_
        refine zn_iload (pc := 60) rfl rfl ?_
        refine zn_callVx (pc := 62) (J := zX1_lineStart) (o := 11) (as := [.int (nI (O k))]) (rest := [.ref p2, .ref p]) rfl rfl rfl rfl ((pg_n (by omega) (by omega)).trans hS.o11) rfl rfl rfl (Nat.le_of_ble_eq_true rfl) (Nat.le_of_ble_eq_true rfl) (Nat.le_of_ble_eq_true rfl) (Nat.le_of_ble_eq_true rfl) (c_lineStart (lk_pg hS) (l := (O k)) (by omega)) ?_
        refine zn_aload_n (pc := 65) rfl rfl ?_
        refine zn_callVx (pc := 66) (J := zX9_cells) (o := 1) (as := []) (rest := [.int (nI (CS z (O k) 0)), .ref p2, .ref p]) rfl rfl rfl rfl ((pg_n (by omega) (by omega)).trans hS.t) rfl rfl rfl (Nat.le_of_ble_eq_true rfl) (Nat.le_of_ble_eq_true rfl) (Nat.le_of_ble_eq_true rfl) (Nat.le_of_ble_eq_true rfl) (q_cellsG ((pg_n (by omega) (by omega)).trans hS.t) ((pg_n (by omega) (by omega)).trans hS.lo)) ?_
        refine zn_iload (pc := 69) rfl rfl ?_
        refine zn_callVx (pc := 71) (J := zX1_lineEnd) (o := 11) (as := [.int (nI (O k))]) (rest := [.int (nI (CS z (O k) 0)), .ref p2, .ref p]) rfl rfl rfl rfl ((pg_n (by omega) (by omega)).trans hS.o11) rfl rfl rfl (Nat.le_of_ble_eq_true rfl) (Nat.le_of_ble_eq_true rfl) (Nat.le_of_ble_eq_true rfl) (Nat.le_of_ble_eq_true rfl) (c_lineEnd (lk_pg hS) (l := (O k)) (by omega)) ?_
        refine zn_callVx (pc := 74) (J := zX7_addFrom) (o := p) (as := [.ref p2, .int (nI (CS z (O k) 0)), .int (nI (CS z (O k) (z (1 + (O k)) - 1) + z (25 + 8 * (O k) + (z (1 + (O k)) - 1))))]) (rest := []) rfl rfl rfl rfl pg_o rfl rfl rfl (Nat.le_of_ble_eq_true rfl) (Nat.le_of_ble_eq_true rfl) (Nat.le_of_ble_eq_true rfl) (Nat.le_of_ble_eq_true rfl) (c_addFrom (h := hh) (by omega) (by omega) hG2.1 hG2.2.1 hG2.2.2.1 hG2.2.2.2.1 np1 np2 np3 (by omega) (f := (CS z (O k) 0)) (t := (CS z (O k) (z (1 + (O k)) - 1) + z (25 + 8 * (O k) + (z (1 + (O k)) - 1)))) (by omega) (by omega) (by omega)) ?_
        refine zn_iincN (pc := 77) (L' := [some (.ref 1), some (.ref o), some (.ref p2), some (.ref p), some (.int (nI (k + 1))), some (.int (nI (O k)))]) 1 rfl rfl rfl (by decide) rfl ?_
        refine zn_goto (pc := 80) (tgt := 23) rfl rfl ?_
        rw [ed]
        exact zn_sub (L' := [some (.ref 1), some (.ref o), some (.ref p2), some (.ref p), some (.int (nI (k + 1))), none]) ⟨rfl, rfl, rfl, rfl, rfl, trivial⟩ (ih (k + 1) _ _ (by omega) (zb_af (zb_up hn1 (by omega)) hG2.2.2.2.1) (Or.inr ⟨by omega, has⟩))
theorem q_arrange {pf : Nat → Option Nat} {now p sz : Nat} {Z : Nat → Nat} (hS : ST hh F z A pf now p Z sz) {o : Nat} {O z2 : Nat → Nat} (hO : ORD hh o (z 0) O) (hOr : ∀ i, i < z 0 → O i < z 0) (ht2 : tOK z2) (hf2 : fT z2 = oT z O (z 0)) : Zm g zX9_arrange [.ref 1, .ref o] hh 2 3266 (fun r h' => r = .inl none ∧ ∃ pf' now' P, PREq h' (svF F) z2 (svA F z A) pf' now' P ∧ FRm hh h' ∧ ORD h' o (z 0) O) := by
  have h24 := hS.tk.ok.2.1
  have h01 := hS.tk.ok.1
  have h120 := hS.im
  have hnb := hS.nb
  have hszz := hS.s3
  have hur := hS.ur
  have hnw := hS.nw
  show Zn g zX9_arrange 0 [some (.ref 1), some (.ref o), none, none, none, none] [] hh 2 3266 _
  refine zn_aload_n (pc := 0) rfl rfl ?_
  refine zn_get (pc := 1) (v := .ref 6) rfl hS.t rfl ?_
  refine zn_callVx (pc := 4) (J := zX3_page) (o := 6) (as := []) (rest := []) rfl rfl rfl rfl hS.h6 rfl rfl rfl (Nat.le_of_ble_eq_true rfl) (Nat.le_of_ble_eq_true rfl) (Nat.le_of_ble_eq_true rfl) (Nat.le_of_ble_eq_true rfl) (q_page hS) ?_
  refine zn_astore_n (pc := 7) (L' := [some (.ref 1), some (.ref o), some (.ref p), none, none, none]) rfl (by decide) rfl ?_
  refine zn_aload_n (pc := 8) rfl rfl ?_
  refine zn_get (pc := 9) (v := .ref 6) rfl hS.t rfl ?_
  refine zn_callVm (pc := 12) (mc1 := 2) (ms1 := 3266) (mc := 0) (ms := 0) (J := zX3_save) (o := 6) (as := []) (rest := []) rfl rfl rfl rfl hS.h6 rfl rfl rfl (Nat.le_of_ble_eq_true rfl) (Nat.le_of_ble_eq_true rfl) (Nat.le_of_ble_eq_true rfl) (Nat.le_of_ble_eq_true rfl) (q_save hS) (fun E h9 q9 => by obtain ⟨P9, q9, -⟩ := q9; cases q9) ?_
  rintro v1 h1 ⟨P, e1, pf1, now1, Z1, hS1, hfr1, hG1, ⟨nP1, nP2, nP3⟩, hfx1, hpx1⟩
  cases e1
  have hpp1 := hS1.pp
  have hpp0 := hS.pp
  have e11 : svF F 11 = F 11 := svFn (by omega) (by omega)
  have e5 : svA F z A 5 = A 5 := svAn (by omega)
  refine zn_astore_n (pc := 15) (L' := [some (.ref 1), some (.ref o), some (.ref p), some (.ref P), none, none]) rfl (by decide) rfl ?_
  refine zn_aload_n (pc := 16) rfl rfl ?_
  refine zn_callVx (pc := 17) (J := zX7_clear) (o := P) (as := []) (rest := []) rfl rfl rfl rfl hS1.po rfl rfl rfl (Nat.le_of_ble_eq_true rfl) (Nat.le_of_ble_eq_true rfl) (Nat.le_of_ble_eq_true rfl) (Nat.le_of_ble_eq_true rfl) (q_pclear hS1) ?_
  refine zn_iconstN (pc := 20) 0 rfl rfl ?_
  refine zn_istore (pc := 21) (L' := [some (.ref 1), some (.ref o), some (.ref p), some (.ref P), some (.int (nI 0)), none]) rfl (by decide) rfl ?_
  have hO1 : ORD h1 o (z 0) O := by
    have ho68 := hO.2.2
    have hol := hO.lt hS.wf
    have hx : o ≠ P ∧ o ≠ P + 1 ∧ o + 1 ≠ P ∧ o + 1 ≠ P + 1 := by
      rcases hpx1 with q9 | ⟨Zq, Sq, q9⟩
      · omega
      · obtain ⟨m1, m2, m3, m4⟩ := hO.ne q9; omega
    exact ⟨(hfx1 o (by omega) (by omega) (by omega) (by omega)).trans hO.1, (hfx1 (o + 1) (by omega) (by omega) (by omega) (by omega)).trans hO.2.1, ho68⟩
  refine zn_mono (q_arr_l hS1 hG1 hS.fl nP1 nP2 nP3 hO1 hOr (z 0) 0 Z1 0 (by omega) hS1.Zb (Or.inl ⟨rfl, rfl⟩)) (Nat.le_refl _) (Nat.le_refl _) (fun r h' q => ?_)
  obtain ⟨q1, Z9, s9, q2, q3, q4⟩ := q
  subst q2
  have hfl : FL z2 Z9 s9 := by show PL Z9 s9 (fT z2); rw [hf2]; exact q4
  have hs9 := hfl.sz ht2.ok
  obtain ⟨m1, m2, m3, m4⟩ := hO1.ne hS1.2.1
  exact ⟨q1, pf1, now1, P, hS1.1.1.edit hfl ht2 q3 (by omega), hfr1.trans hS1.1.1.edit_fr, ⟨(pg_n (by omega) (by omega)).trans hO1.1, (pg_n (by omega) (by omega)).trans hO1.2.1, hO1.2.2⟩⟩
theorem sps_e (bh : Nat → Nat → Prop) [∀ a b, Decidable (bh a b)] {o : Nat → Nat} {x q : Nat} (hq : 1 ≤ q) : sps bh o x q = if bh (o (q - 1)) x then sps bh o x (q - 1) else q := by
  obtain ⟨k, rfl⟩ : ∃ k, q = k + 1 := ⟨q - 1, by omega⟩
  rfl
theorem q_sl_i {pf : Nat → Option Nat} {now p sz : Nat} {Z : Nat → Nat} (hS : ST hh F z A pf now p Z sz) {o f t c d m : Nat} {O0 o0 : Nat → Nat} (hO0 : ORD hh o (z 0) O0) (hm : f + m = t + 1) (ht : t < z 0) (hE : ∀ l, f ≤ l → l ≤ t → c < z (1 + l)) (hd : d ≤ 1) (hcm : ∀ x y, f ≤ x → x ≤ t → f ≤ y → y ≤ t → (cBf z c d x y ↔ mBh z c d y x)) {k : Nat} {O : Nat → Nat} {Q : zR → zH → Prop} (hk1 : 1 ≤ k) (hk : k < m) (hok : oK (z 0) O (mOrd (mBh z c d) f o0 k) f k) : ∀ (n : Nat) (q R : Nat), q = n → R = sps (mBh z c d) (mOrd (mBh z c d) f o0 k) (f + k) q → Zn g zX9_sortLines 52 [some (.ref 1), some (.ref o), some (.int (nI f)), some (.int (nI t)), some (.int (nI c)), some (.int (nI d)), some (.int (nI (f + k))), some (.int (nI (f + R)))] [] (pgs hh 6 24 o (o + 1) O (z 0)) 0 0 Q → q ≤ k → Zn g zX9_sortLines 15 [some (.ref 1), some (.ref o), some (.int (nI f)), some (.int (nI t)), some (.int (nI c)), some (.int (nI d)), some (.int (nI (f + k))), some (.int (nI (f + q)))] [] ((pgs hh 6 24 o (o + 1) O (z 0))) 0 0 Q := by
  intro n
  induction n with
  | zero =>
    intro q R hn0 hn1 hn2 hn3
    have h24 := hS.tk.ok.2.1
    have h01 := hS.tk.ok.1
    have h120 := hS.im
    have hnb := hS.nb
    have hszz := hS.s3
    have hur := hS.ur
    have hnw := hS.nw
    have ho68 := hO0.2.2
    refine zn_iload (pc := 15) rfl rfl ?_
    refine zn_iload_n (pc := 17) rfl rfl ?_
    refine zn_icmp_leN (pc := 18) (tgt := 52) (x := (f + q)) (y := f) rfl rfl (by omega) (by omega) (fun c1 => ?_) (fun c1 => ?_)
    · have eR : R = 0 := by rw [hn1, show q = 0 by omega]; rfl
      rw [eR] at hn2
      rw [show f + 0 = f + q by omega] at hn2
      exact hn2
    · exfalso; omega
  | succ n ih =>
    intro q R hn0 hn1 hn2 hn3
    have h24 := hS.tk.ok.2.1
    have h01 := hS.tk.ok.1
    have h120 := hS.im
    have hnb := hS.nb
    have hszz := hS.s3
    have hur := hS.ur
    have hnw := hS.nw
    have ho68 := hO0.2.2
    refine zn_iload (pc := 15) rfl rfl ?_
    refine zn_iload_n (pc := 17) rfl rfl ?_
    refine zn_icmp_leN (pc := 18) (tgt := 52) (x := (f + q)) (y := f) rfl rfl (by omega) (by omega) (fun c1 => ?_) (fun c1 => ?_)
    · have eR : R = 0 := by rw [hn1, show q = 0 by omega]; rfl
      rw [eR] at hn2
      rw [show f + 0 = f + q by omega] at hn2
      exact hn2
    · have oin := mOrd_in (mBh z c d) f o0 k (q - 1) (by omega)
      refine zn_aload_n (pc := 21) rfl rfl ?_
      refine zn_aload_n (pc := 22) rfl rfl ?_
      refine zn_iload (pc := 23) rfl rfl ?_
      refine zn_callVx (pc := 25) (J := zX6_lineAt) (o := o) (as := [.int (nI (f + k))]) (rest := [.ref 1]) rfl rfl rfl rfl pg_o rfl rfl rfl (Nat.le_of_ble_eq_true rfl) (Nat.le_of_ble_eq_true rfl) (Nat.le_of_ble_eq_true rfl) (Nat.le_of_ble_eq_true rfl) (c_lineAt pg_o (pg_a (by omega)) (by omega) (i := (f + k)) (by omega)) ?_
      refine zn_top (v' := .int (nI (f + k))) (by rw [hok.2 (f + k) (by omega) (by omega)]) ?_
      refine zn_aload_n (pc := 28) rfl rfl ?_
      refine zn_iload (pc := 29) rfl rfl ?_
      refine zn_iconstN (pc := 31) 1 rfl rfl ?_
      refine zn_isubN (pc := 32) (x := (f + q)) (y := 1) rfl (by omega) ?_
      refine zn_callVx (pc := 33) (J := zX6_lineAt) (o := o) (as := [.int (nI ((f + q) - 1))]) (rest := [.int (nI (f + k)), .ref 1]) rfl rfl rfl rfl pg_o rfl rfl rfl (Nat.le_of_ble_eq_true rfl) (Nat.le_of_ble_eq_true rfl) (Nat.le_of_ble_eq_true rfl) (Nat.le_of_ble_eq_true rfl) (c_lineAt pg_o (pg_a (by omega)) (by omega) (i := ((f + q) - 1)) (by omega)) ?_
      refine zn_top (v' := .int (nI (mOrd (mBh z c d) f o0 k (q - 1)))) (by rw [show f + q - 1 = f + (q - 1) by omega, hok.1 (q - 1) (by omega)]) ?_
      refine zn_iload (pc := 36) rfl rfl ?_
      refine zn_iload (pc := 38) rfl rfl ?_
      refine zn_callVx (pc := 40) (J := zX9_comesBefore) (o := 1) (as := [.int (nI (f + k)), .int (nI (mOrd (mBh z c d) f o0 k (q - 1))), .int (nI c), .int (nI d)]) (rest := []) rfl rfl rfl rfl (hS.ord hO0).t rfl rfl rfl (Nat.le_of_ble_eq_true rfl) (Nat.le_of_ble_eq_true rfl) (Nat.le_of_ble_eq_true rfl) (Nat.le_of_ble_eq_true rfl) (q_cb (hS.ord hO0) (l := (f + k)) (o := (mOrd (mBh z c d) f o0 k (q - 1))) (c := c) (by omega) (by omega) (hE _ (by omega) (by omega)) (hE _ (by omega) (by omega)) (d := d) (by omega)) ?_
      refine zn_if_eqB (pc := 43) (tgt := 52) rfl rfl (fun c2 => ?_) (fun c2 => ?_)
      · have e9 := fun q9 => c2 ((hcm _ _ (by omega) (by omega) (by omega) (by omega)).mpr q9)
        have eR : R = q := by rw [hn1, sps_e _ (by omega), if_neg e9]
        rw [eR] at hn2
        exact hn2
      · have e9 := (hcm _ _ (by omega) (by omega) (by omega) (by omega)).mp c2
        refine zn_iinc (pc := 46) (L' := [some (.ref 1), some (.ref o), some (.int (nI f)), some (.int (nI t)), some (.int (nI c)), some (.int (nI d)), some (.int (nI (f + k))), some (.int (nI (f + q) - 1))]) (v := nI (f + q) - 1) rfl rfl (dm_dec _) (by decide) rfl ?_
        refine zn_goto (pc := 49) (tgt := 15) rfl rfl ?_
        refine zn_sub (L' := [some (.ref 1), some (.ref o), some (.int (nI f)), some (.int (nI t)), some (.int (nI c)), some (.int (nI d)), some (.int (nI (f + k))), some (.int (nI (f + (q - 1))))]) ⟨rfl, rfl, rfl, rfl, rfl, rfl, rfl, by rw [nI_mm1 (by omega), show f + q - 1 = f + (q - 1) by omega], trivial⟩ ?_
        exact ih (q - 1) R (by omega) (by rw [hn1, sps_e _ (by omega), if_pos e9]) hn2 (by omega)
theorem q_sl_o {pf : Nat → Option Nat} {now p sz : Nat} {Z : Nat → Nat} (hS : ST hh F z A pf now p Z sz) {o f t c d m : Nat} {O0 o0 : Nat → Nat} (hO0 : ORD hh o (z 0) O0) (hm : f + m = t + 1) (ht : t < z 0) (hE : ∀ l, f ≤ l → l ≤ t → c < z (1 + l)) (hd : d ≤ 1) (hcm : ∀ x y, f ≤ x → x ≤ t → f ≤ y → y ≤ t → (cBf z c d x y ↔ mBh z c d y x)) : ∀ (n : Nat) (k : Nat) (O : Nat → Nat), k + n = m → 1 ≤ k → oK (z 0) O (mOrd (mBh z c d) f o0 k) f k → Zn g zX9_sortLines 5 [some (.ref 1), some (.ref o), some (.int (nI f)), some (.int (nI t)), some (.int (nI c)), some (.int (nI d)), some (.int (nI (f + k))), none] [] ((pgs hh 6 24 o (o + 1) O (z 0))) 0 0 (fun r' h' => r' = .inl none ∧ ∃ O', h' = pgs hh 6 24 o (o + 1) O' (z 0) ∧ oK (z 0) O' (mOrd (mBh z c d) f o0 m) f m) := by
  intro n
  induction n with
  | zero =>
    intro k O hn0 hn1 hn2
    have h24 := hS.tk.ok.2.1
    have h01 := hS.tk.ok.1
    have h120 := hS.im
    have hnb := hS.nb
    have hszz := hS.s3
    have hur := hS.ur
    have hnw := hS.nw
    have ho68 := hO0.2.2
    refine zn_iload (pc := 5) rfl rfl ?_
    refine zn_iload_n (pc := 7) rfl rfl ?_
    refine zn_icmp_gtN (pc := 8) (tgt := 66) (x := (f + k)) (y := t) rfl rfl (by omega) (by omega) (fun c1 => ?_) (fun c1 => ?_)
    · have e8 : k = m := by omega
      exact zn_vret (pc := 66) rfl rfl ⟨rfl, O, rfl, by rw [← e8]; exact hn2⟩
    · exfalso; omega
  | succ n ih =>
    intro k O hn0 hn1 hn2
    have h24 := hS.tk.ok.2.1
    have h01 := hS.tk.ok.1
    have h120 := hS.im
    have hnb := hS.nb
    have hszz := hS.s3
    have hur := hS.ur
    have hnw := hS.nw
    have ho68 := hO0.2.2
    refine zn_iload (pc := 5) rfl rfl ?_
    refine zn_iload_n (pc := 7) rfl rfl ?_
    refine zn_icmp_gtN (pc := 8) (tgt := 66) (x := (f + k)) (y := t) rfl rfl (by omega) (by omega) (fun c1 => ?_) (fun c1 => ?_)
    · have e8 : k = m := by omega
      exact zn_vret (pc := 66) rfl rfl ⟨rfl, O, rfl, by rw [← e8]; exact hn2⟩
    · refine zn_iload (pc := 11) rfl rfl ?_
      refine zn_istore (pc := 13) (L' := [some (.ref 1), some (.ref o), some (.int (nI f)), some (.int (nI t)), some (.int (nI c)), some (.int (nI d)), some (.int (nI (f + k))), some (.int (nI (f + k)))]) rfl (by decide) rfl ?_
      have hsl := sps_le (mBh z c d) (mOrd (mBh z c d) f o0 k) (f + k) k
      refine q_sl_i hS hO0 hm ht hE hd hcm hn1 (by omega) hn2 k k _ rfl rfl ?_ (Nat.le_refl _)
      refine zn_aload_n (pc := 52) rfl rfl ?_
      refine zn_iload (pc := 53) rfl rfl ?_
      refine zn_iload (pc := 55) rfl rfl ?_
      refine zn_callVx (pc := 57) (J := zX6_move) (o := o) (as := [.int (nI (f + k)), .int (nI (f + sps (mBh z c d) (mOrd (mBh z c d) f o0 k) (f + k) k))]) (rest := []) rfl rfl rfl rfl pg_o rfl rfl rfl (Nat.le_of_ble_eq_true rfl) (Nat.le_of_ble_eq_true rfl) (Nat.le_of_ble_eq_true rfl) (Nat.le_of_ble_eq_true rfl) (c_move (h := hh) (n := z 0) (by omega) (a := (f + k)) (b := (f + sps (mBh z c d) (mOrd (mBh z c d) f o0 k) (f + k) k)) (by omega) (by omega)) ?_
      refine zn_iincN (pc := 60) (L' := [some (.ref 1), some (.ref o), some (.int (nI f)), some (.int (nI t)), some (.int (nI c)), some (.int (nI d)), some (.int (nI (f + k + 1))), some (.int (nI (f + sps (mBh z c d) (mOrd (mBh z c d) f o0 k) (f + k) k)))]) 1 rfl rfl rfl (by decide) rfl ?_
      refine zn_goto (pc := 63) (tgt := 5) rfl rfl ?_
      exact zn_sub (L' := [some (.ref 1), some (.ref o), some (.int (nI f)), some (.int (nI t)), some (.int (nI c)), some (.int (nI d)), some (.int (nI (f + (k + 1)))), none]) ⟨rfl, rfl, rfl, rfl, rfl, rfl, rfl, trivial⟩ (ih (k + 1) _ (by omega) (by omega) (oK_step _ (by omega) hn2))
theorem q_sl {pf : Nat → Option Nat} {now p sz : Nat} {Z : Nat → Nat} (hS : ST hh F z A pf now p Z sz) {o f t c d m : Nat} {O0 o0 : Nat → Nat} (hO0 : ORD hh o (z 0) O0) (hm : f + m = t + 1) (ht : t < z 0) (hE : ∀ l, f ≤ l → l ≤ t → c < z (1 + l)) (hd : d ≤ 1) (hcm : ∀ x y, f ≤ x → x ≤ t → f ≤ y → y ≤ t → (cBf z c d x y ↔ mBh z c d y x)) : Zm g zX9_sortLines [.ref 1, .ref o, .int (nI f), .int (nI t), .int (nI c), .int (nI d)] (pgs hh 6 24 o (o + 1) (oid (z 0)) (z 0)) 0 0 (fun r' h' => r' = .inl none ∧ ∃ O', h' = pgs hh 6 24 o (o + 1) O' (z 0) ∧ oK (z 0) O' (mOrd (mBh z c d) f o0 m) f m) := by
  have h24 := hS.tk.ok.2.1
  have h01 := hS.tk.ok.1
  have h120 := hS.im
  have hnb := hS.nb
  have hszz := hS.s3
  have hur := hS.ur
  have hnw := hS.nw
  have ho68 := hO0.2.2
  show Zn g zX9_sortLines 0 [some (.ref 1), some (.ref o), some (.int (nI f)), some (.int (nI t)), some (.int (nI c)), some (.int (nI d)), none, none] [] (pgs hh 6 24 o (o + 1) (oid (z 0)) (z 0)) 0 0 _
  refine zn_iload_n (pc := 0) rfl rfl ?_
  refine zn_iconstN (pc := 1) 1 rfl rfl ?_
  refine zn_iaddN (pc := 2) (x := f) (y := 1) rfl ?_
  refine zn_istore (pc := 3) (L' := [some (.ref 1), some (.ref o), some (.int (nI f)), some (.int (nI t)), some (.int (nI c)), some (.int (nI d)), some (.int (nI (f + 1))), none]) rfl (by decide) rfl ?_
  rcases Nat.eq_zero_or_pos m with m0 | m0
  · refine zn_iload (pc := 5) rfl rfl ?_
    refine zn_iload_n (pc := 7) rfl rfl ?_
    refine zn_icmp_gtN (pc := 8) (tgt := 66) (x := (f + 1)) (y := t) rfl rfl (by omega) (by omega) (fun c1 => ?_) (fun c1 => ?_)
    · exact zn_vret (pc := 66) rfl rfl ⟨rfl, oid (z 0), rfl, by rw [m0]; exact ⟨fun i hi => absurd hi (by omega), fun i hi _ => by unfold oid; rw [if_pos hi]⟩⟩
    · exfalso; omega
  · exact q_sl_o hS hO0 hm ht hE hd hcm (m - 1) 1 (oid (z 0)) (by omega) (by omega) ⟨fun i hi => by
      rw [show i = 0 by omega]
      show oid (z 0) (f + 0) = va_up o0 0 (f + 0) 0
      rw [va_upS]
      unfold oid
      rw [if_pos (by omega)], fun i hi _ => by unfold oid; rw [if_pos hi]⟩
end m1
