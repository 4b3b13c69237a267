section m1
variable {g : zG} {h hh : zH} {F : Nat → Nat} {S : Int64} {z : Nat → Nat} {A : Nat → Nat → Nat} {X : Nat → Int32}
theorem q_moveLine {pf : Nat → Option Nat} {now p sz : Nat} {Z : Nat → Nat} (hS : ST hh F z A pf now p Z sz) {l t : Nat} {u : Nat → Nat} (hl : l < z 0) (ht : t < z 0) (hu : ∀ j, j < 3289 → u j = z j) : Zm g zX9_moveLine [.ref 1, .int (nI l), .int (nI t)] hh 4 3292 (fun r h' => r = .inl (some (.int (nI (nbb (mmv z u l t))))) ∧ INV h' (svF F) (mmv z u l t) (svA F z A) ∧ FRm hh h') := by
  have h24 := hS.tk.ok.2.1
  have h01 := hS.tk.ok.1
  have h120 := hS.im
  have hnb := hS.nb
  have hszz := hS.s3
  have hur := hS.ur
  have hnw := hS.nw
  have h68 := hS.wf.1
  obtain ⟨ht2, e02, hOr, hsl⟩ := mmv_T hS.tk hl ht hu
  have hf2 := fT_or hS.tk e02 hOr hsl
  show Zn g zX9_moveLine 0 [some (.ref 1), some (.int (nI l)), some (.int (nI t)), none] [] hh 4 3292 _
  refine zn_aload_n (pc := 0) rfl rfl ?_
  refine zn_iload_n (pc := 1) rfl rfl ?_
  refine zn_callVx (pc := 2) (J := zX9_requireLine) (o := 1) (as := [.int (nI l)]) (rest := []) rfl rfl rfl rfl hS.t rfl rfl rfl (Nat.le_of_ble_eq_true rfl) (Nat.le_of_ble_eq_true rfl) (Nat.le_of_ble_eq_true rfl) (Nat.le_of_ble_eq_true rfl) (q_rLine hS (x := (nI l)) ((zin_nI (by omega)).mpr (by omega))) ?_
  refine zn_aload_n (pc := 5) rfl rfl ?_
  refine zn_iload_n (pc := 6) rfl rfl ?_
  refine zn_callVx (pc := 7) (J := zX9_requireLine) (o := 1) (as := [.int (nI t)]) (rest := []) rfl rfl rfl rfl hS.t rfl rfl rfl (Nat.le_of_ble_eq_true rfl) (Nat.le_of_ble_eq_true rfl) (Nat.le_of_ble_eq_true rfl) (Nat.le_of_ble_eq_true rfl) (q_rLine hS (x := (nI t)) ((zin_nI (by omega)).mpr (by omega))) ?_
  refine zn_new6 (pc := 10) rfl ?_
  refine zn_dup (pc := 13) rfl rfl ?_
  refine zn_aload_n (pc := 14) rfl rfl ?_
  refine zn_callVx (pc := 15) (J := zX9_cells) (o := 1) (as := []) (rest := [.ref hh.2, .ref hh.2]) rfl rfl rfl rfl ((znew_n (by omega)).trans hS.t) rfl rfl rfl (Nat.le_of_ble_eq_true rfl) (Nat.le_of_ble_eq_true rfl) (Nat.le_of_ble_eq_true rfl) (Nat.le_of_ble_eq_true rfl) (q_cellsG ((znew_n (by omega)).trans hS.t) ((znew_n (by omega)).trans hS.lo)) ?_
  refine zn_callVx (pc := 18) (J := zX1_lines) (o := 11) (as := []) (rest := [.ref hh.2, .ref hh.2]) rfl rfl rfl rfl ((znew_n (by omega)).trans hS.o11) rfl rfl rfl (Nat.le_of_ble_eq_true rfl) (Nat.le_of_ble_eq_true rfl) (Nat.le_of_ble_eq_true rfl) (Nat.le_of_ble_eq_true rfl) (c_linesK_10 (hS.L.fr (fun i a b => znew_n (by omega))).c) ?_
  refine zn_callIm (pc := 21) (J := zX6_init) (o := hh.2) (mc1 := 1) (ms1 := 24) (mc := 2) (ms := 3266) (as := [.int (nI (z 0))]) (rest := [.ref hh.2]) rfl (by decide) rfl rfl rfl (Nat.le_of_ble_eq_true rfl) (Nat.le_of_ble_eq_true rfl) (Nat.le_of_ble_eq_true rfl) (Nat.le_of_ble_eq_true rfl) (fun E h9 q9 => by cases q9.1) (c_oinit (by omega)) ?_
  rintro v0 h0 ⟨e1, e2⟩
  cases e1
  subst e2
  obtain ⟨hSo, hOo, hfo⟩ := ST.new_ord (O := oid (z 0)) (n := z 0) hS
  refine zn_astore_n (pc := 24) (L' := [some (.ref 1), some (.int (nI l)), some (.int (nI t)), some (.ref hh.2)]) rfl (by decide) rfl ?_
  refine zn_aload_n (pc := 25) rfl rfl ?_
  refine zn_iload_n (pc := 26) rfl rfl ?_
  refine zn_iload_n (pc := 27) rfl rfl ?_
  refine zn_callVx (pc := 28) (J := zX6_move) (o := hh.2) (as := [.int (nI l), .int (nI t)]) (rest := []) rfl rfl rfl rfl hOo.1 rfl rfl rfl (Nat.le_of_ble_eq_true rfl) (Nat.le_of_ble_eq_true rfl) (Nat.le_of_ble_eq_true rfl) (Nat.le_of_ble_eq_true rfl) (c_move (h := hgr hh 2) (o := hh.2) (n := z 0) (by omega) (a := l) (b := t) (by omega) (by omega)) ?_
  refine zn_aload_n (pc := 31) rfl rfl ?_
  refine zn_aload_n (pc := 32) rfl rfl ?_
  refine zn_callVm (pc := 33) (mc1 := 2) (ms1 := 3266) (mc := 0) (ms := 0) (J := zX9_arrange) (o := 1) (as := [.ref hh.2]) (rest := []) rfl rfl rfl rfl (ST.new_ord (O := (omv (oid (z 0)) l t)) (n := z 0) hS).1.t rfl rfl rfl (Nat.le_of_ble_eq_true rfl) (Nat.le_of_ble_eq_true rfl) (Nat.le_of_ble_eq_true rfl) (Nat.le_of_ble_eq_true rfl) (q_arrange (ST.new_ord (O := (omv (oid (z 0)) l t)) (n := z 0) hS).1 (ST.new_ord (O := (omv (oid (z 0)) l t)) (n := z 0) hS).2.1 hOr ht2 hf2) (fun E h9 q9 => by cases q9.1) ?_
  rintro v2 h2 ⟨e1, pf2, now2, P2, hP2, hfr2, hO2⟩
  cases e1
  refine zn_aload_n (pc := 36) rfl rfl ?_
  refine zn_aload_n (pc := 37) rfl rfl ?_
  refine zn_get (pc := 38) (v := .ref 10) rfl hP2.1 rfl ?_
  refine zn_callVm (pc := 41) (mc1 := 0) (ms1 := 0) (mc := 0) (ms := 0) (J := zX9_measure) (o := 1) (as := [.ref 10]) (rest := []) rfl rfl rfl rfl hP2.1 rfl rfl rfl (Nat.le_of_ble_eq_true rfl) (Nat.le_of_ble_eq_true rfl) (Nat.le_of_ble_eq_true rfl) (Nat.le_of_ble_eq_true rfl) (q_measure hP2) (fun E h9 q9 => by cases q9.1) ?_
  rintro v3 h3 ⟨e1, hI3, hM3⟩
  cases e1
  obtain ⟨Z3, s3, hS3⟩ := ST.of hI3
  refine zn_aload_n (pc := 44) rfl rfl ?_
  refine zn_get (pc := 45) (v := .ref 10) rfl hS3.t rfl ?_
  refine zn_get (pc := 48) (v := .ref 18) rfl hS3.lo rfl ?_
  refine zn_callVx (pc := 51) (J := zX0_size) (o := 18) (as := []) (rest := []) rfl rfl rfl rfl hS3.o18 rfl rfl rfl (Nat.le_of_ble_eq_true rfl) (Nat.le_of_ble_eq_true rfl) (Nat.le_of_ble_eq_true rfl) (Nat.le_of_ble_eq_true rfl) (c_size_10 hS3.L.b hS3.nb) ?_
  exact zn_iret (pc := 54) rfl rfl ⟨rfl, hS3.inv, ((ST.new_ord (O := (omv (oid (z 0)) l t)) (n := z 0) hS).2.2.trans (hfr2.trans (hM3.frm (Or.inl rfl))))⟩
theorem q_moveLine_1 {pf : Nat → Option Nat} {now p sz : Nat} {Z : Nat → Nat} (hS : ST hh F z A pf now p Z sz) {x y : Int32} (hbad : ¬ zin x (z 0)) : Zt g zX9_moveLine [.ref 1, .int x, .int y] hh 2 := by
  show Zn g zX9_moveLine 0 [some (.ref 1), some (.int x), some (.int y), none] [] hh 1 6 _
  refine zn_aload_n (pc := 0) rfl rfl ?_
  refine zn_iload_n (pc := 1) rfl rfl ?_
  exact zn_callVt (pc := 2) (J := zX9_requireLine) (o := 1) (as := [.int x]) (rest := []) rfl rfl rfl rfl hS.t rfl rfl rfl (Nat.le_of_ble_eq_true rfl) (Nat.le_of_ble_eq_true rfl) (Nat.le_of_ble_eq_true rfl) (Nat.le_of_ble_eq_true rfl) (q_rLine_t hS (x := x) hbad) ⟨rfl, rfl⟩
theorem q_moveLine_2 {pf : Nat → Option Nat} {now p sz : Nat} {Z : Nat → Nat} (hS : ST hh F z A pf now p Z sz) {l : Nat} (hl : l < z 0) {y : Int32} (hbad : ¬ zin y (z 0)) : Zt g zX9_moveLine [.ref 1, .int (nI l), .int y] hh 2 := by
  have h24 := hS.tk.ok.2.1
  have h01 := hS.tk.ok.1
  have h120 := hS.im
  have hnb := hS.nb
  have hszz := hS.s3
  have hur := hS.ur
  have hnw := hS.nw
  have h8 := (hS.tk.gl hl).2.1
  have hzl1 := (hS.tk.gl hl).1
  show Zn g zX9_moveLine 0 [some (.ref 1), some (.int (nI l)), some (.int y), none] [] hh 1 6 _
  refine zn_aload_n (pc := 0) rfl rfl ?_
  refine zn_iload_n (pc := 1) rfl rfl ?_
  refine zn_callVx (pc := 2) (J := zX9_requireLine) (o := 1) (as := [.int (nI l)]) (rest := []) rfl rfl rfl rfl hS.t rfl rfl rfl (Nat.le_of_ble_eq_true rfl) (Nat.le_of_ble_eq_true rfl) (Nat.le_of_ble_eq_true rfl) (Nat.le_of_ble_eq_true rfl) (q_rLine hS (x := (nI l)) ((zin_nI (by omega)).mpr (by omega))) ?_
  refine zn_aload_n (pc := 5) rfl rfl ?_
  refine zn_iload_n (pc := 6) rfl rfl ?_
  exact zn_callVt (pc := 7) (J := zX9_requireLine) (o := 1) (as := [.int y]) (rest := []) rfl rfl rfl rfl hS.t rfl rfl rfl (Nat.le_of_ble_eq_true rfl) (Nat.le_of_ble_eq_true rfl) (Nat.le_of_ble_eq_true rfl) (Nat.le_of_ble_eq_true rfl) (q_rLine_t hS (x := y) hbad) ⟨rfl, rfl⟩
theorem q_sort {pf : Nat → Option Nat} {now p sz : Nat} {Z : Nat → Nat} (hS : ST hh F z A pf now p Z sz) {b c f t : Nat} (hb : b < nbb z) (h6 : pRR F z A 6 b = c) (h7 : pRR F z A 7 b = f) (h8b : pRR F z A 8 b = t) {s d : Nat} {u o0 : Nat → Nat} (hd : d ≤ 1) (hs : s ≤ t - f + 1) (hu : ∀ j, j < 3289 → u j = z j) : Zm g zX9_sort [.ref 1, .int (nI b), .int (nI s), .int (nI d)] hh 4 3292 (fun r h' => r = .inl (some (.int (nI (mMv (mOrd (mBh z c d) (f + s) o0 (t + 1 - (f + s))) (f + s) (t + 1 - (f + s)))))) ∧ INV h' (svF F) (mTk z u (mOrd (mBh z c d) (f + s) o0 (t + 1 - (f + s))) (f + s) (t + 1 - (f + s))) (svA F z A) ∧ FRm hh h') := by
  have h24 := hS.tk.ok.2.1
  have h01 := hS.tk.ok.1
  have h120 := hS.im
  have hnb := hS.nb
  have hszz := hS.s3
  have hur := hS.ur
  have hnw := hS.nw
  have h68 := hS.wf.1
  obtain ⟨⟨hc7, hft, htz, -, -⟩, hEb⟩ := hS.L.r.blk b hb
  rw [h6] at hc7
  rw [h7, h8b] at hft
  rw [h8b] at htz
  rw [h6, h7, h8b] at hEb
  have hEc : ∀ l, f + s ≤ l → l ≤ t → c < z (1 + l) := fun l h1 h2 => by have := (hEb l (by omega) h2).2; omega
  have hcm : ∀ x y, f + s ≤ x → x ≤ t → f + s ≤ y → y ≤ t → (cBf z c d x y ↔ mBh z c d y x) := fun x y a1 a2 a3 a4 => cmp_iff hS.tk (by omega) (by omega) (hEc x a1 a2) (hEc y a3 a4)
  show Zn g zX9_sort 0 [some (.ref 1), some (.int (nI b)), some (.int (nI s)), some (.int (nI d)), none, none, none, none] [] hh 4 3292 _
  refine zn_aload_n (pc := 0) rfl rfl ?_
  refine zn_iload_n (pc := 1) rfl rfl ?_
  refine zn_callVx (pc := 2) (J := zX9_requireBlock) (o := 1) (as := [.int (nI b)]) (rest := []) rfl rfl rfl rfl hS.t rfl rfl rfl (Nat.le_of_ble_eq_true rfl) (Nat.le_of_ble_eq_true rfl) (Nat.le_of_ble_eq_true rfl) (Nat.le_of_ble_eq_true rfl) (q_rBlk hS (b := b) (by omega)) ?_
  refine zn_aload_n (pc := 5) rfl rfl ?_
  refine zn_get (pc := 6) (v := .ref 10) rfl hS.t rfl ?_
  refine zn_get (pc := 9) (v := .ref 18) rfl hS.lo rfl ?_
  refine zn_iload_n (pc := 12) rfl rfl ?_
  refine zn_callVx (pc := 13) (J := zX0_first) (o := 18) (as := [.int (nI b)]) (rest := []) rfl rfl rfl rfl hS.o18 rfl rfl rfl (Nat.le_of_ble_eq_true rfl) (Nat.le_of_ble_eq_true rfl) (Nat.le_of_ble_eq_true rfl) (Nat.le_of_ble_eq_true rfl) (c_first_10b hS.L.b hS.nb (b := b) (by omega)) ?_
  refine zn_top (v' := .int (nI f)) (by rw [h7]) ?_
  refine zn_istore (pc := 16) (L' := [some (.ref 1), some (.int (nI b)), some (.int (nI s)), some (.int (nI d)), some (.int (nI f)), none, none, none]) rfl (by decide) rfl ?_
  refine zn_aload_n (pc := 18) rfl rfl ?_
  refine zn_get (pc := 19) (v := .ref 10) rfl hS.t rfl ?_
  refine zn_get (pc := 22) (v := .ref 18) rfl hS.lo rfl ?_
  refine zn_iload_n (pc := 25) rfl rfl ?_
  refine zn_callVx (pc := 26) (J := zX0_last) (o := 18) (as := [.int (nI b)]) (rest := []) rfl rfl rfl rfl hS.o18 rfl rfl rfl (Nat.le_of_ble_eq_true rfl) (Nat.le_of_ble_eq_true rfl) (Nat.le_of_ble_eq_true rfl) (Nat.le_of_ble_eq_true rfl) (c_last_10b hS.L.b hS.nb (b := b) (by omega)) ?_
  refine zn_top (v' := .int (nI t)) (by rw [h8b]) ?_
  refine zn_istore (pc := 29) (L' := [some (.ref 1), some (.int (nI b)), some (.int (nI s)), some (.int (nI d)), some (.int (nI f)), some (.int (nI t)), none, none]) rfl (by decide) rfl ?_
  refine zn_iload_n (pc := 31) rfl rfl ?_
  refine zn_if_ltN (pc := 32) (tgt := 46) (x := s) rfl rfl (by omega) ?_
  refine zn_iload_n (pc := 35) rfl rfl ?_
  refine zn_iload (pc := 36) rfl rfl ?_
  refine zn_iload (pc := 38) rfl rfl ?_
  refine zn_isubN (pc := 40) (x := t) (y := f) rfl (by omega) ?_
  refine zn_iconstN (pc := 41) 1 rfl rfl ?_
  refine zn_iaddN (pc := 42) (x := (t - f)) (y := 1) rfl ?_
  refine zn_icmp_leN (pc := 43) (tgt := 56) (x := s) (y := ((t - f) + 1)) rfl rfl (by omega) (by omega) (fun c2 => ?_) (fun c2 => ?_)
  · refine zn_new6 (pc := 56) rfl ?_
    refine zn_dup (pc := 59) rfl rfl ?_
    refine zn_aload_n (pc := 60) rfl rfl ?_
    refine zn_callVx (pc := 61) (J := zX9_cells) (o := 1) (as := []) (rest := [.ref hh.2, .ref hh.2]) rfl rfl rfl rfl ((znew_n (by omega)).trans hS.t) rfl rfl rfl (Nat.le_of_ble_eq_true rfl) (Nat.le_of_ble_eq_true rfl) (Nat.le_of_ble_eq_true rfl) (Nat.le_of_ble_eq_true rfl) (q_cellsG ((znew_n (by omega)).trans hS.t) ((znew_n (by omega)).trans hS.lo)) ?_
    refine zn_callVx (pc := 64) (J := zX1_lines) (o := 11) (as := []) (rest := [.ref hh.2, .ref hh.2]) rfl rfl rfl rfl ((znew_n (by omega)).trans hS.o11) rfl rfl rfl (Nat.le_of_ble_eq_true rfl) (Nat.le_of_ble_eq_true rfl) (Nat.le_of_ble_eq_true rfl) (Nat.le_of_ble_eq_true rfl) (c_linesK_10 (hS.L.fr (fun i a b => znew_n (by omega))).c) ?_
    refine zn_callIm (pc := 67) (J := zX6_init) (o := hh.2) (mc1 := 1) (ms1 := 24) (mc := 2) (ms := 3266) (as := [.int (nI (z 0))]) (rest := [.ref hh.2]) rfl (by decide) rfl rfl rfl (Nat.le_of_ble_eq_true rfl) (Nat.le_of_ble_eq_true rfl) (Nat.le_of_ble_eq_true rfl) (Nat.le_of_ble_eq_true rfl) (fun E h9 q9 => by cases q9.1) (c_oinit (by omega)) ?_
    rintro v0 h0 ⟨e1, e2⟩
    cases e1
    subst e2
    obtain ⟨hSo, hOo, hfo⟩ := ST.new_ord (O := oid (z 0)) (n := z 0) hS
    refine zn_astore (pc := 70) (L' := [some (.ref 1), some (.int (nI b)), some (.int (nI s)), some (.int (nI d)), some (.int (nI f)), some (.int (nI t)), some (.ref hh.2), none]) rfl (by decide) rfl ?_
    refine zn_aload_n (pc := 72) rfl rfl ?_
    refine zn_get (pc := 73) (v := .ref 10) rfl hSo.t rfl ?_
    refine zn_get (pc := 76) (v := .ref 18) rfl hSo.lo rfl ?_
    refine zn_iload_n (pc := 79) rfl rfl ?_
    refine zn_callVx (pc := 80) (J := zX0_column) (o := 18) (as := [.int (nI b)]) (rest := []) rfl rfl rfl rfl hSo.o18 rfl rfl rfl (Nat.le_of_ble_eq_true rfl) (Nat.le_of_ble_eq_true rfl) (Nat.le_of_ble_eq_true rfl) (Nat.le_of_ble_eq_true rfl) (c_column_10b hSo.L.b hSo.nb (b := b) (by omega)) ?_
    refine zn_top (v' := .int (nI c)) (by rw [h6]) ?_
    refine zn_istore (pc := 83) (L' := [some (.ref 1), some (.int (nI b)), some (.int (nI s)), some (.int (nI d)), some (.int (nI f)), some (.int (nI t)), some (.ref hh.2), some (.int (nI c))]) rfl (by decide) rfl ?_
    refine zn_aload_n (pc := 85) rfl rfl ?_
    refine zn_aload (pc := 86) rfl rfl ?_
    refine zn_iload (pc := 88) rfl rfl ?_
    refine zn_iload_n (pc := 90) rfl rfl ?_
    refine zn_iaddN (pc := 91) (x := f) (y := s) rfl ?_
    refine zn_iload (pc := 92) rfl rfl ?_
    refine zn_iload (pc := 94) rfl rfl ?_
    refine zn_iload_n (pc := 96) rfl rfl ?_
    refine zn_callVm (pc := 97) (mc1 := 0) (ms1 := 0) (mc := 2) (ms := 3266) (J := zX9_sortLines) (o := 1) (as := [.ref hh.2, .int (nI (f + s)), .int (nI t), .int (nI c), .int (nI d)]) (rest := []) rfl rfl rfl rfl hSo.t rfl rfl rfl (Nat.le_of_ble_eq_true rfl) (Nat.le_of_ble_eq_true rfl) (Nat.le_of_ble_eq_true rfl) (Nat.le_of_ble_eq_true rfl) (by have r9 := q_sl (g := g) (o0 := o0) (m := t + 1 - (f + s)) hSo hOo (f := f + s) (t := t) (c := c) (d := d) (by omega) htz hEc hd hcm; rwa [pgs_self hOo.1 hOo.2.1] at r9) (fun E h9 q9 => by cases q9.1) ?_
    rintro v4 h4 ⟨e1, O', e2, hoK⟩
    cases e1
    subst e2
    obtain ⟨ht2, hf2, hOr, hmd⟩ := sort_T (u := u) (mBh z c d) hS.tk (show f + s + (t + 1 - (f + s)) ≤ z 0 by omega) hu hoK
    refine zn_aload_n (pc := 100) rfl rfl ?_
    refine zn_aload (pc := 101) rfl rfl ?_
    refine zn_callVm (pc := 103) (mc1 := 2) (ms1 := 3266) (mc := 0) (ms := 0) (J := zX9_arrange) (o := 1) (as := [.ref hh.2]) (rest := []) rfl rfl rfl rfl (hSo.ord hOo).t rfl rfl rfl (Nat.le_of_ble_eq_true rfl) (Nat.le_of_ble_eq_true rfl) (Nat.le_of_ble_eq_true rfl) (Nat.le_of_ble_eq_true rfl) (q_arrange (hSo.ord hOo) (hOo.set) hOr ht2 hf2) (fun E h9 q9 => by cases q9.1) ?_
    rintro v2 h2 ⟨e1, pf2, now2, P2, hP2, hfr2, hO2⟩
    cases e1
    refine zn_aload_n (pc := 106) rfl rfl ?_
    refine zn_aload_n (pc := 107) rfl rfl ?_
    refine zn_get (pc := 108) (v := .ref 10) rfl hP2.1 rfl ?_
    refine zn_callVm (pc := 111) (mc1 := 0) (ms1 := 0) (mc := 0) (ms := 0) (J := zX9_measure) (o := 1) (as := [.ref 10]) (rest := []) rfl rfl rfl rfl hP2.1 rfl rfl rfl (Nat.le_of_ble_eq_true rfl) (Nat.le_of_ble_eq_true rfl) (Nat.le_of_ble_eq_true rfl) (Nat.le_of_ble_eq_true rfl) (q_measure hP2) (fun E h9 q9 => by cases q9.1) ?_
    rintro v3 h3 ⟨e1, hI3, hM3⟩
    cases e1
    obtain ⟨Z3, s3, hS3⟩ := ST.of hI3
    have hO3 : ORD h3 hh.2 (z 0) O' := ⟨(hM3.2 _ (by omega)).trans hO2.1, (hM3.2 _ (by omega)).trans hO2.2.1, hO2.2.2⟩
    refine zn_aload (pc := 114) rfl rfl ?_
    refine zn_callVx (pc := 116) (J := zX6_moved) (o := hh.2) (as := []) (rest := []) rfl rfl rfl rfl hO3.1 rfl rfl rfl (Nat.le_of_ble_eq_true rfl) (Nat.le_of_ble_eq_true rfl) (Nat.le_of_ble_eq_true rfl) (Nat.le_of_ble_eq_true rfl) (c_moved hO3.1 hO3.2.1 (by omega) (fun i hi => by have := hOr i hi; omega)) ?_
    exact zn_iret (pc := 119) rfl rfl ⟨by rw [hmd], hS3.inv, (hfo.trans ((ord_fr hOo.2.2).trans (hfr2.trans (hM3.frm (Or.inl rfl)))))⟩
  · exfalso; omega
theorem q_sort_1 {pf : Nat → Option Nat} {now p sz : Nat} {Z : Nat → Nat} (hS : ST hh F z A pf now p Z sz) {x y : Int32} {d : Nat} (hbad : ¬ zin x (nbb z)) : Zt g zX9_sort [.ref 1, .int x, .int y, .int (nI d)] hh 2 := by
  show Zn g zX9_sort 0 [some (.ref 1), some (.int x), some (.int y), some (.int (nI d)), none, none, none, none] [] hh 1 6 _
  refine zn_aload_n (pc := 0) rfl rfl ?_
  refine zn_iload_n (pc := 1) rfl rfl ?_
  exact zn_callVt (pc := 2) (J := zX9_requireBlock) (o := 1) (as := [.int x]) (rest := []) rfl rfl rfl rfl hS.t rfl rfl rfl (Nat.le_of_ble_eq_true rfl) (Nat.le_of_ble_eq_true rfl) (Nat.le_of_ble_eq_true rfl) (Nat.le_of_ble_eq_true rfl) (q_rBlk_t hS hbad) ⟨rfl, rfl⟩
theorem q_sort_2 {pf : Nat → Option Nat} {now p sz : Nat} {Z : Nat → Nat} (hS : ST hh F z A pf now p Z sz) {b c f t : Nat} (hb : b < nbb z) (h6 : pRR F z A 6 b = c) (h7 : pRR F z A 7 b = f) (h8b : pRR F z A 8 b = t) {y : Int32} {d : Nat} (hy : ¬ (nI 0 ≤ y ∧ y ≤ nI (t - f + 1))) : Zt g zX9_sort [.ref 1, .int (nI b), .int y, .int (nI d)] hh 0 := by
  have h24 := hS.tk.ok.2.1
  have h01 := hS.tk.ok.1
  have h120 := hS.im
  have hnb := hS.nb
  have hszz := hS.s3
  have hur := hS.ur
  have hnw := hS.nw
  have h68 := hS.wf.1
  obtain ⟨⟨hc7, hft, htz, -, -⟩, hEb⟩ := hS.L.r.blk b hb
  rw [h6] at hc7
  rw [h7, h8b] at hft
  rw [h8b] at htz
  rw [h6, h7, h8b] at hEb
  show Zn g zX9_sort 0 [some (.ref 1), some (.int (nI b)), some (.int y), some (.int (nI d)), none, none, none, none] [] hh 1 6 _
  refine zn_aload_n (pc := 0) rfl rfl ?_
  refine zn_iload_n (pc := 1) rfl rfl ?_
  refine zn_callVx (pc := 2) (J := zX9_requireBlock) (o := 1) (as := [.int (nI b)]) (rest := []) rfl rfl rfl rfl hS.t rfl rfl rfl (Nat.le_of_ble_eq_true rfl) (Nat.le_of_ble_eq_true rfl) (Nat.le_of_ble_eq_true rfl) (Nat.le_of_ble_eq_true rfl) (q_rBlk hS (b := b) (by omega)) ?_
  refine zn_aload_n (pc := 5) rfl rfl ?_
  refine zn_get (pc := 6) (v := .ref 10) rfl hS.t rfl ?_
  refine zn_get (pc := 9) (v := .ref 18) rfl hS.lo rfl ?_
  refine zn_iload_n (pc := 12) rfl rfl ?_
  refine zn_callVx (pc := 13) (J := zX0_first) (o := 18) (as := [.int (nI b)]) (rest := []) rfl rfl rfl rfl hS.o18 rfl rfl rfl (Nat.le_of_ble_eq_true rfl) (Nat.le_of_ble_eq_true rfl) (Nat.le_of_ble_eq_true rfl) (Nat.le_of_ble_eq_true rfl) (c_first_10b hS.L.b hS.nb (b := b) (by omega)) ?_
  refine zn_top (v' := .int (nI f)) (by rw [h7]) ?_
  refine zn_istore (pc := 16) (L' := [some (.ref 1), some (.int (nI b)), some (.int y), some (.int (nI d)), some (.int (nI f)), none, none, none]) rfl (by decide) rfl ?_
  refine zn_aload_n (pc := 18) rfl rfl ?_
  refine zn_get (pc := 19) (v := .ref 10) rfl hS.t rfl ?_
  refine zn_get (pc := 22) (v := .ref 18) rfl hS.lo rfl ?_
  refine zn_iload_n (pc := 25) rfl rfl ?_
  refine zn_callVx (pc := 26) (J := zX0_last) (o := 18) (as := [.int (nI b)]) (rest := []) rfl rfl rfl rfl hS.o18 rfl rfl rfl (Nat.le_of_ble_eq_true rfl) (Nat.le_of_ble_eq_true rfl) (Nat.le_of_ble_eq_true rfl) (Nat.le_of_ble_eq_true rfl) (c_last_10b hS.L.b hS.nb (b := b) (by omega)) ?_
  refine zn_top (v' := .int (nI t)) (by rw [h8b]) ?_
  refine zn_istore (pc := 29) (L' := [some (.ref 1), some (.int (nI b)), some (.int y), some (.int (nI d)), some (.int (nI f)), some (.int (nI t)), none, none]) rfl (by decide) rfl ?_
  refine zn_iload_n (pc := 31) rfl rfl ?_
  refine zn_if_lt (pc := 32) (tgt := 46) (x := y) rfl rfl (fun c1 => ?_) (fun c1 => ?_)
  · have k0 := c1
    exact zn_throw (pc := 46) (E := 0) rfl (Nat.le_of_ble_eq_true rfl) (Nat.le_of_ble_eq_true rfl) ⟨rfl, rfl⟩
  · have k0 := c1
    refine zn_iload_n (pc := 35) rfl rfl ?_
    refine zn_iload (pc := 36) rfl rfl ?_
    refine zn_iload (pc := 38) rfl rfl ?_
    refine zn_isubN (pc := 40) (x := t) (y := f) rfl (by omega) ?_
    refine zn_iconstN (pc := 41) 1 rfl rfl ?_
    refine zn_iaddN (pc := 42) (x := (t - f)) (y := 1) rfl ?_
    refine zn_icmp_le (pc := 43) (tgt := 56) (x := y) (y := (nI ((t - f) + 1))) rfl rfl (fun c2 => ?_) (fun c2 => ?_)
    · exact absurd ⟨i_nn k0, c2⟩ hy
    · exact zn_throw (pc := 46) (E := 0) rfl (Nat.le_of_ble_eq_true rfl) (Nat.le_of_ble_eq_true rfl) ⟨rfl, rfl⟩
end m1
