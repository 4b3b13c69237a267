section m1
variable {g : zG} {h hh : zH} {F : Nat → Nat} {S : Int64} {z : Nat → Nat} {A : Nat → Nat → Nat} {X : Nat → Int32}
/-- the text that retab leaves, and the pages that show it -/
def rtR (z : Nat → Nat) (l q : Nat) (R : Nat → Nat) : Prop := tOK R ∧ ∀ Z sz, FL z Z sz → (∀ j, Z j < 1000) → FL R (rrn (CS z l 0) q (CS z l (z (1 + l) - 1) + z (25 + 8 * l + (z (1 + l) - 1))) (CS z l (z (1 + l) - 1) + z (25 + 8 * l + (z (1 + l) - 1))) (Z, sz)).1 (rrn (CS z l 0) q (CS z l (z (1 + l) - 1) + z (25 + 8 * l + (z (1 + l) - 1))) (CS z l (z (1 + l) - 1) + z (25 + 8 * l + (z (1 + l) - 1))) (Z, sz)).2 ∧ (∀ j, (rrn (CS z l 0) q (CS z l (z (1 + l) - 1) + z (25 + 8 * l + (z (1 + l) - 1))) (CS z l (z (1 + l) - 1) + z (25 + 8 * l + (z (1 + l) - 1))) (Z, sz)).1 j < 1000) ∧ (rrn (CS z l 0) q (CS z l (z (1 + l) - 1) + z (25 + 8 * l + (z (1 + l) - 1))) (CS z l (z (1 + l) - 1) + z (25 + 8 * l + (z (1 + l) - 1))) (Z, sz)).2 ≤ 3264
theorem retab_E {l q : Nat} (hw : tOK z) (hl : l < z 0) (hq : 1 ≤ q) (hr : z (1 + l) + mRs z l q (z (1 + l)) ≤ 8) : ∃ m R, mMt l q m 0 0 z = some R ∧ rtR z l q R := by
  have h1 := (hw.ok.2.2.1 l hl).1
  have e0 : rRS z l 0 0 = fL z l := (rRS_0 (by omega)).symm
  obtain ⟨m, R, r1, r2, r3, r4⟩ := mMt_T hq (rRS z l 0 0).length z 0 0 hw hl (by omega) (by omega) (Nat.le_refl _) (by rw [e0]; rw [mRs_T hq] at hr; exact hr)
  refine ⟨m, R, r1, r2, fun Z sz hF hZ => ?_⟩
  obtain ⟨M, e1, e2, e3, e4, e5, e6⟩ := cs_end hw hl hF
  obtain ⟨q1, q2⟩ := rrn_T (s := CS z l 0) hq (CS z l (z (1 + l) - 1) + z (25 + 8 * l + (z (1 + l) - 1))) (CS z l (z (1 + l) - 1) + z (25 + 8 * l + (z (1 + l) - 1))) Z sz (fm (fL z) l 0) M (10 :: LR z l) (by omega) (by omega) e5 hZ e2 e3 e6
  have e9 : fT R = fm (fL z) l 0 ++ (tkL q 0 M ++ 10 :: LR z l) := by
    rw [r4, e0, e1, tkL_app (by decide)]
    show (fm (fL z) l 0 ++ []) ++ [] ++ ((tkL q 0 M ++ 10 :: tkF q 0) ++ LR z l) = _
    rw [tkF_0 hq]
    simp only [List.append_assoc, List.cons_append, List.nil_append, List.append_nil]
  have q3 : FL R (rrn (CS z l 0) q (CS z l (z (1 + l) - 1) + z (25 + 8 * l + (z (1 + l) - 1))) (CS z l (z (1 + l) - 1) + z (25 + 8 * l + (z (1 + l) - 1))) (Z, sz)).1 (rrn (CS z l 0) q (CS z l (z (1 + l) - 1) + z (25 + 8 * l + (z (1 + l) - 1))) (CS z l (z (1 + l) - 1) + z (25 + 8 * l + (z (1 + l) - 1))) (Z, sz)).2 := by
    show PL _ _ (fT R)
    rw [e9]
    exact q1
  have q4 := q3.sz r2.ok
  exact ⟨q3, q2, by omega⟩
theorem i_n1 {y : Int32} (h : ¬ y < nI 1) : nI 1 ≤ y := by
  rw [Int32.le_iff_toInt_le]
  rw [Int32.lt_iff_toInt_lt] at h
  exact Int.not_lt.mp h
theorem q_retab {pf : Nat → Option Nat} {now p sz : Nat} {Z : Nat → Nat} (hS : ST hh F z A pf now p Z sz) {l : Nat} (hl : l < z 0) {q : Nat} (hq1 : 1 ≤ q) (hq2 : q ≤ 16) {R : Nat → Nat} (hr : z (1 + l) + mRs z l q (z (1 + l)) ≤ 8) (hR : rtR z l q R) : Zm g zX9_retab [.ref 1, .int (nI l), .int (nI q)] hh 2 3266 (fun r h' => r = .inl (some (.int (nI (mRs z l q (z (1 + l)))))) ∧ INV h' (svF F) R (svA F z A) ∧ FRm hh h') := by
  have h24 := hS.tk.ok.2.1
  have h01 := hS.tk.ok.1
  have h120 := hS.im
  have hnb := hS.nb
  have hszz := hS.s3
  have hur := hS.ur
  have hnw := hS.nw
  have h8 := (hS.tk.gl hl).2.1
  have hzl1 := (hS.tk.gl hl).1
  obtain ⟨M9, -, -, -, m4, m5, -⟩ := cs_end hS.tk hl hS.fl
  have hmr := mRs_le (z := z) (l := l) (g := q) (c := z (1 + l)) (fun i hi => hS.tk.ok.2.2.2 l i hl hi)
  have hcc := retab_C hS.tk hl hS.fl hq1
  show Zn g zX9_retab 0 [some (.ref 1), some (.int (nI l)), some (.int (nI q)), none, none, none] [] hh 2 3266 _
  refine zn_aload_n (pc := 0) rfl rfl ?_
  refine zn_iload_n (pc := 1) rfl rfl ?_
  refine zn_callVx (pc := 2) (J := zX9_requireLine) (o := 1) (as := [.int (nI l)]) (rest := []) rfl rfl rfl rfl hS.t rfl rfl rfl (Nat.le_of_ble_eq_true rfl) (Nat.le_of_ble_eq_true rfl) (Nat.le_of_ble_eq_true rfl) (Nat.le_of_ble_eq_true rfl) (q_rLine hS (x := (nI l)) ((zin_nI (by omega)).mpr (by omega))) ?_
  refine zn_iload_n (pc := 5) rfl rfl ?_
  refine zn_iconstN (pc := 6) 1 rfl rfl ?_
  refine zn_icmp_ltN (pc := 7) (tgt := 16) (x := q) (y := 1) rfl rfl (by omega) (by omega) (fun c1 => ?_) (fun c1 => ?_)
  · exfalso; omega
  · refine zn_iload_n (pc := 10) rfl rfl ?_
    refine zn_bipushN (pc := 11) 16 rfl rfl ?_
    refine zn_icmp_leN (pc := 13) (tgt := 26) (x := q) (y := 16) rfl rfl (by omega) (by omega) (fun c2 => ?_) (fun c2 => ?_)
    · refine zn_aload_n (pc := 26) rfl rfl ?_
      refine zn_callVx (pc := 27) (J := zX9_cells) (o := 1) (as := []) (rest := []) rfl rfl rfl rfl hS.t rfl rfl rfl (Nat.le_of_ble_eq_true rfl) (Nat.le_of_ble_eq_true rfl) (Nat.le_of_ble_eq_true rfl) (Nat.le_of_ble_eq_true rfl) (q_cellsG hS.t hS.lo) ?_
      refine zn_iload_n (pc := 30) rfl rfl ?_
      refine zn_callVx (pc := 31) (J := zX1_lineStart) (o := 11) (as := [.int (nI l)]) (rest := []) rfl rfl rfl rfl hS.o11 rfl rfl rfl (Nat.le_of_ble_eq_true rfl) (Nat.le_of_ble_eq_true rfl) (Nat.le_of_ble_eq_true rfl) (Nat.le_of_ble_eq_true rfl) (c_lineStart hS.L (l := l) (by omega)) ?_
      refine zn_istore_n (pc := 34) (L' := [some (.ref 1), some (.int (nI l)), some (.int (nI q)), some (.int (nI (CS z l 0))), none, none]) rfl (by decide) rfl ?_
      refine zn_aload_n (pc := 35) rfl rfl ?_
      refine zn_callVx (pc := 36) (J := zX9_cells) (o := 1) (as := []) (rest := []) rfl rfl rfl rfl hS.t rfl rfl rfl (Nat.le_of_ble_eq_true rfl) (Nat.le_of_ble_eq_true rfl) (Nat.le_of_ble_eq_true rfl) (Nat.le_of_ble_eq_true rfl) (q_cellsG hS.t hS.lo) ?_
      refine zn_iload_n (pc := 39) rfl rfl ?_
      refine zn_callVx (pc := 40) (J := zX1_lineEnd) (o := 11) (as := [.int (nI l)]) (rest := []) rfl rfl rfl rfl hS.o11 rfl rfl rfl (Nat.le_of_ble_eq_true rfl) (Nat.le_of_ble_eq_true rfl) (Nat.le_of_ble_eq_true rfl) (Nat.le_of_ble_eq_true rfl) (c_lineEnd hS.L (l := l) (by omega)) ?_
      refine zn_istore (pc := 43) (L' := [some (.ref 1), some (.int (nI l)), some (.int (nI q)), some (.int (nI (CS z l 0))), some (.int (nI (CS z l (z (1 + l) - 1) + z (25 + 8 * l + (z (1 + l) - 1))))), none]) rfl (by decide) rfl ?_
      refine zn_aload_n (pc := 45) rfl rfl ?_
      refine zn_get (pc := 46) (v := .ref 6) rfl hS.t rfl ?_
      refine zn_callVx (pc := 49) (J := zX3_page) (o := 6) (as := []) (rest := []) rfl rfl rfl rfl hS.h6 rfl rfl rfl (Nat.le_of_ble_eq_true rfl) (Nat.le_of_ble_eq_true rfl) (Nat.le_of_ble_eq_true rfl) (Nat.le_of_ble_eq_true rfl) (q_page hS) ?_
      refine zn_iload_n (pc := 52) rfl rfl ?_
      refine zn_iload (pc := 53) rfl rfl ?_
      refine zn_iload_n (pc := 55) rfl rfl ?_
      refine zn_callVx (pc := 56) (J := zX7_countRuns) (o := p) (as := [.int (nI (CS z l 0)), .int (nI (CS z l (z (1 + l) - 1) + z (25 + 8 * l + (z (1 + l) - 1)))), .int (nI q)]) (rest := []) rfl rfl rfl rfl hS.po rfl rfl rfl (Nat.le_of_ble_eq_true rfl) (Nat.le_of_ble_eq_true rfl) (Nat.le_of_ble_eq_true rfl) (Nat.le_of_ble_eq_true rfl) (c_countRuns hS.po hS.qo hS.s3 hS.Zb (s := (CS z l 0)) (e := (CS z l (z (1 + l) - 1) + z (25 + 8 * l + (z (1 + l) - 1)))) (b := q) (by omega) (by omega) (by omega)) ?_
      refine zn_top (v' := .int (nI (mRs z l q (z (1 + l))))) (by rw [hcc]) ?_
      refine zn_istore (pc := 59) (L' := [some (.ref 1), some (.int (nI l)), some (.int (nI q)), some (.int (nI (CS z l 0))), some (.int (nI (CS z l (z (1 + l) - 1) + z (25 + 8 * l + (z (1 + l) - 1))))), some (.int (nI (mRs z l q (z (1 + l)))))]) rfl (by decide) rfl ?_
      refine zn_aload_n (pc := 61) rfl rfl ?_
      refine zn_callVx (pc := 62) (J := zX9_cells) (o := 1) (as := []) (rest := []) rfl rfl rfl rfl hS.t rfl rfl rfl (Nat.le_of_ble_eq_true rfl) (Nat.le_of_ble_eq_true rfl) (Nat.le_of_ble_eq_true rfl) (Nat.le_of_ble_eq_true rfl) (q_cellsG hS.t hS.lo) ?_
      refine zn_iload_n (pc := 65) rfl rfl ?_
      refine zn_callVx (pc := 66) (J := zX1_cellsOf) (o := 11) (as := [.int (nI l)]) (rest := []) rfl rfl rfl rfl hS.o11 rfl rfl rfl (Nat.le_of_ble_eq_true rfl) (Nat.le_of_ble_eq_true rfl) (Nat.le_of_ble_eq_true rfl) (Nat.le_of_ble_eq_true rfl) (c_cellsOf_10 hS.L.ok hS.L.c (l := l) (by omega)) ?_
      refine zn_iload (pc := 69) rfl rfl ?_
      refine zn_iaddN (pc := 71) (x := (z (1 + l))) (y := (mRs z l q (z (1 + l)))) rfl ?_
      refine zn_bipushN (pc := 72) 8 rfl rfl ?_
      refine zn_icmp_leN (pc := 74) (tgt := 87) (x := ((z (1 + l)) + (mRs z l q (z (1 + l))))) (y := 8) rfl rfl (by omega) (by omega) (fun c3 => ?_) (fun c3 => ?_)
      · refine zn_aload_n (pc := 87) rfl rfl ?_
        refine zn_get (pc := 88) (v := .ref 6) rfl hS.t rfl ?_
        refine zn_callVm (pc := 91) (mc1 := 2) (ms1 := 3266) (mc := 0) (ms := 0) (J := zX3_save) (o := 6) (as := []) (rest := []) rfl rfl rfl rfl hS.h6 rfl rfl rfl (Nat.le_of_ble_eq_true rfl) (Nat.le_of_ble_eq_true rfl) (Nat.le_of_ble_eq_true rfl) (Nat.le_of_ble_eq_true rfl) (q_save hS) (fun E h9 q9 => by obtain ⟨P9, q9, -⟩ := q9; cases q9) ?_
        rintro v1 h1 ⟨P, e1, pf1, now1, Z1, hS1, hfr1, hG1, ⟨nP1, nP2, nP3⟩, hfx1, hpx1⟩
        cases e1
        have hpp1 := hS1.pp
        have hpp0 := hS.pp
        have e11 : svF F 11 = F 11 := svFn (by omega) (by omega)
        have e5 : svA F z A 5 = A 5 := svAn (by omega)
        refine zn_iload_n (pc := 94) rfl rfl ?_
        refine zn_iload (pc := 95) rfl rfl ?_
        refine zn_iload_n (pc := 97) rfl rfl ?_
        refine zn_callVx (pc := 98) (J := zX7_replaceRuns) (o := P) (as := [.int (nI (CS z l 0)), .int (nI (CS z l (z (1 + l) - 1) + z (25 + 8 * l + (z (1 + l) - 1)))), .int (nI q)]) (rest := []) rfl rfl rfl rfl hS1.po rfl rfl rfl (Nat.le_of_ble_eq_true rfl) (Nat.le_of_ble_eq_true rfl) (Nat.le_of_ble_eq_true rfl) (Nat.le_of_ble_eq_true rfl) (q_prun hS1 (s := (CS z l 0)) (e := (CS z l (z (1 + l) - 1) + z (25 + 8 * l + (z (1 + l) - 1)))) (b := q) (by omega) (by omega) (by omega) (by omega)) ?_
        refine zn_aload_n (pc := 101) rfl rfl ?_
        refine zn_aload_n (pc := 102) rfl rfl ?_
        refine zn_get (pc := 103) (v := .ref 10) rfl ((pg_n (by omega) (by omega)).trans hS1.t) rfl ?_
        refine zn_callVm (pc := 106) (mc1 := 0) (ms1 := 0) (mc := 0) (ms := 0) (J := zX9_measure) (o := 1) (as := [.ref 10]) (rest := []) rfl rfl rfl rfl ((pg_n (by omega) (by omega)).trans hS1.t) rfl rfl rfl (Nat.le_of_ble_eq_true rfl) (Nat.le_of_ble_eq_true rfl) (Nat.le_of_ble_eq_true rfl) (Nat.le_of_ble_eq_true rfl) (q_measure (hS1.1.1.edit (Z2 := (rrn (CS z l 0) q (CS z l (z (1 + l) - 1) + z (25 + 8 * l + (z (1 + l) - 1))) (CS z l (z (1 + l) - 1) + z (25 + 8 * l + (z (1 + l) - 1))) (Z1, sz)).1) (sz2 := (rrn (CS z l 0) q (CS z l (z (1 + l) - 1) + z (25 + 8 * l + (z (1 + l) - 1))) (CS z l (z (1 + l) - 1) + z (25 + 8 * l + (z (1 + l) - 1))) (Z1, sz)).2) (z2 := R) (hR.2 _ _ hS1.fl hS1.Zb).1 hR.1 (hR.2 _ _ hS1.fl hS1.Zb).2.1 (hR.2 _ _ hS1.fl hS1.Zb).2.2)) (fun E h9 q9 => by cases q9.1) ?_
        rintro v3 h3 ⟨e1, hI3, hM3⟩
        cases e1
        obtain ⟨Z3, s3, hS3⟩ := ST.of hI3
        refine zn_iload (pc := 109) rfl rfl ?_
        exact zn_iret (pc := 111) rfl rfl ⟨rfl, hS3.inv, (hfr1.trans (hS1.1.1.edit_fr.trans (hM3.frm (Or.inl rfl))))⟩
      · exfalso; omega
    · exfalso; omega
theorem q_retab_1 {pf : Nat → Option Nat} {now p sz : Nat} {Z : Nat → Nat} (hS : ST hh F z A pf now p Z sz) {x y : Int32} (hbad : ¬ zin x (z 0)) : Zt g zX9_retab [.ref 1, .int x, .int y] hh 2 := by
  show Zn g zX9_retab 0 [some (.ref 1), some (.int x), some (.int y), none, none, none] [] hh 1 6 _
  refine zn_aload_n (pc := 0) rfl rfl ?_
  refine zn_iload_n (pc := 1) rfl rfl ?_
  exact zn_callVt (pc := 2) (J := zX9_requireLine) (o := 1) (as := [.int x]) (rest := []) rfl rfl rfl rfl hS.t rfl rfl rfl (Nat.le_of_ble_eq_true rfl) (Nat.le_of_ble_eq_true rfl) (Nat.le_of_ble_eq_true rfl) (Nat.le_of_ble_eq_true rfl) (q_rLine_t hS (x := x) hbad) ⟨rfl, rfl⟩
theorem q_retab_2 {pf : Nat → Option Nat} {now p sz : Nat} {Z : Nat → Nat} (hS : ST hh F z A pf now p Z sz) {l : Nat} (hl : l < z 0) {y : Int32} (hy : ¬ (nI 1 ≤ y ∧ y ≤ nI 16)) : Zt g zX9_retab [.ref 1, .int (nI l), .int y] hh 0 := by
  have h24 := hS.tk.ok.2.1
  have h01 := hS.tk.ok.1
  have h120 := hS.im
  have hnb := hS.nb
  have hszz := hS.s3
  have hur := hS.ur
  have hnw := hS.nw
  have h8 := (hS.tk.gl hl).2.1
  have hzl1 := (hS.tk.gl hl).1
  show Zn g zX9_retab 0 [some (.ref 1), some (.int (nI l)), some (.int y), none, none, none] [] hh 1 6 _
  refine zn_aload_n (pc := 0) rfl rfl ?_
  refine zn_iload_n (pc := 1) rfl rfl ?_
  refine zn_callVx (pc := 2) (J := zX9_requireLine) (o := 1) (as := [.int (nI l)]) (rest := []) rfl rfl rfl rfl hS.t rfl rfl rfl (Nat.le_of_ble_eq_true rfl) (Nat.le_of_ble_eq_true rfl) (Nat.le_of_ble_eq_true rfl) (Nat.le_of_ble_eq_true rfl) (q_rLine hS (x := (nI l)) ((zin_nI (by omega)).mpr (by omega))) ?_
  refine zn_iload_n (pc := 5) rfl rfl ?_
  refine zn_iconstN (pc := 6) 1 rfl rfl ?_
  refine zn_icmp_lt (pc := 7) (tgt := 16) (x := y) (y := (nI 1)) rfl rfl (fun c1 => ?_) (fun c1 => ?_)
  · have k0 := c1
    exact zn_throw (pc := 16) (E := 0) rfl (Nat.le_of_ble_eq_true rfl) (Nat.le_of_ble_eq_true rfl) ⟨rfl, rfl⟩
  · have k0 := c1
    refine zn_iload_n (pc := 10) rfl rfl ?_
    refine zn_bipushN (pc := 11) 16 rfl rfl ?_
    refine zn_icmp_le (pc := 13) (tgt := 26) (x := y) (y := (nI 16)) rfl rfl (fun c2 => ?_) (fun c2 => ?_)
    · exact absurd ⟨i_n1 k0, c2⟩ hy
    · exact zn_throw (pc := 16) (E := 0) rfl (Nat.le_of_ble_eq_true rfl) (Nat.le_of_ble_eq_true rfl) ⟨rfl, rfl⟩
theorem q_retab_3 {pf : Nat → Option Nat} {now p sz : Nat} {Z : Nat → Nat} (hS : ST hh F z A pf now p Z sz) {l : Nat} (hl : l < z 0) {q : Nat} (hq1 : 1 ≤ q) (hq2 : q ≤ 16) (hr : ¬ z (1 + l) + mRs z l q (z (1 + l)) ≤ 8) : Zt g zX9_retab [.ref 1, .int (nI l), .int (nI q)] hh 1 := by
  have h24 := hS.tk.ok.2.1
  have h01 := hS.tk.ok.1
  have h120 := hS.im
  have hnb := hS.nb
  have hszz := hS.s3
  have hur := hS.ur
  have hnw := hS.nw
  have h8 := (hS.tk.gl hl).2.1
  have hzl1 := (hS.tk.gl hl).1
  obtain ⟨M9, -, -, -, m4, m5, -⟩ := cs_end hS.tk hl hS.fl
  have hmr := mRs_le (z := z) (l := l) (g := q) (c := z (1 + l)) (fun i hi => hS.tk.ok.2.2.2 l i hl hi)
  have hcc := retab_C hS.tk hl hS.fl hq1
  show Zn g zX9_retab 0 [some (.ref 1), some (.int (nI l)), some (.int (nI q)), none, none, none] [] hh 1 6 _
  refine zn_aload_n (pc := 0) rfl rfl ?_
  refine zn_iload_n (pc := 1) rfl rfl ?_
  refine zn_callVx (pc := 2) (J := zX9_requireLine) (o := 1) (as := [.int (nI l)]) (rest := []) rfl rfl rfl rfl hS.t rfl rfl rfl (Nat.le_of_ble_eq_true rfl) (Nat.le_of_ble_eq_true rfl) (Nat.le_of_ble_eq_true rfl) (Nat.le_of_ble_eq_true rfl) (q_rLine hS (x := (nI l)) ((zin_nI (by omega)).mpr (by omega))) ?_
  refine zn_iload_n (pc := 5) rfl rfl ?_
  refine zn_iconstN (pc := 6) 1 rfl rfl ?_
  refine zn_icmp_ltN (pc := 7) (tgt := 16) (x := q) (y := 1) rfl rfl (by omega) (by omega) (fun c1 => ?_) (fun c1 => ?_)
  · exfalso; omega
  · refine zn_iload_n (pc := 10) rfl rfl ?_
    refine zn_bipushN (pc := 11) 16 rfl rfl ?_
    refine zn_icmp_leN (pc := 13) (tgt := 26) (x := q) (y := 16) rfl rfl (by omega) (by omega) (fun c2 => ?_) (fun c2 => ?_)
    · refine zn_aload_n (pc := 26) rfl rfl ?_
      refine zn_callVx (pc := 27) (J := zX9_cells) (o := 1) (as := []) (rest := []) rfl rfl rfl rfl hS.t rfl rfl rfl (Nat.le_of_ble_eq_true rfl) (Nat.le_of_ble_eq_true rfl) (Nat.le_of_ble_eq_true rfl) (Nat.le_of_ble_eq_true rfl) (q_cellsG hS.t hS.lo) ?_
      refine zn_iload_n (pc := 30) rfl rfl ?_
      refine zn_callVx (pc := 31) (J := zX1_lineStart) (o := 11) (as := [.int (nI l)]) (rest := []) rfl rfl rfl rfl hS.o11 rfl rfl rfl (Nat.le_of_ble_eq_true rfl) (Nat.le_of_ble_eq_true rfl) (Nat.le_of_ble_eq_true rfl) (Nat.le_of_ble_eq_true rfl) (c_lineStart hS.L (l := l) (by omega)) ?_
      refine zn_istore_n (pc := 34) (L' := [some (.ref 1), some (.int (nI l)), some (.int (nI q)), some (.int (nI (CS z l 0))), none, none]) rfl (by decide) rfl ?_
      refine zn_aload_n (pc := 35) rfl rfl ?_
      refine zn_callVx (pc := 36) (J := zX9_cells) (o := 1) (as := []) (rest := []) rfl rfl rfl rfl hS.t rfl rfl rfl (Nat.le_of_ble_eq_true rfl) (Nat.le_of_ble_eq_true rfl) (Nat.le_of_ble_eq_true rfl) (Nat.le_of_ble_eq_true rfl) (q_cellsG hS.t hS.lo) ?_
      refine zn_iload_n (pc := 39) rfl rfl ?_
      refine zn_callVx (pc := 40) (J := zX1_lineEnd) (o := 11) (as := [.int (nI l)]) (rest := []) rfl rfl rfl rfl hS.o11 rfl rfl rfl (Nat.le_of_ble_eq_true rfl) (Nat.le_of_ble_eq_true rfl) (Nat.le_of_ble_eq_true rfl) (Nat.le_of_ble_eq_true rfl) (c_lineEnd hS.L (l := l) (by omega)) ?_
      refine zn_istore (pc := 43) (L' := [some (.ref 1), some (.int (nI l)), some (.int (nI q)), some (.int (nI (CS z l 0))), some (.int (nI (CS z l (z (1 + l) - 1) + z (25 + 8 * l + (z (1 + l) - 1))))), none]) rfl (by decide) rfl ?_
      refine zn_aload_n (pc := 45) rfl rfl ?_
      refine zn_get (pc := 46) (v := .ref 6) rfl hS.t rfl ?_
      refine zn_callVx (pc := 49) (J := zX3_page) (o := 6) (as := []) (rest := []) rfl rfl rfl rfl hS.h6 rfl rfl rfl (Nat.le_of_ble_eq_true rfl) (Nat.le_of_ble_eq_true rfl) (Nat.le_of_ble_eq_true rfl) (Nat.le_of_ble_eq_true rfl) (q_page hS) ?_
      refine zn_iload_n (pc := 52) rfl rfl ?_
      refine zn_iload (pc := 53) rfl rfl ?_
      refine zn_iload_n (pc := 55) rfl rfl ?_
      refine zn_callVx (pc := 56) (J := zX7_countRuns) (o := p) (as := [.int (nI (CS z l 0)), .int (nI (CS z l (z (1 + l) - 1) + z (25 + 8 * l + (z (1 + l) - 1)))), .int (nI q)]) (rest := []) rfl rfl rfl rfl hS.po rfl rfl rfl (Nat.le_of_ble_eq_true rfl) (Nat.le_of_ble_eq_true rfl) (Nat.le_of_ble_eq_true rfl) (Nat.le_of_ble_eq_true rfl) (c_countRuns hS.po hS.qo hS.s3 hS.Zb (s := (CS z l 0)) (e := (CS z l (z (1 + l) - 1) + z (25 + 8 * l + (z (1 + l) - 1)))) (b := q) (by omega) (by omega) (by omega)) ?_
      refine zn_top (v' := .int (nI (mRs z l q (z (1 + l))))) (by rw [hcc]) ?_
      refine zn_istore (pc := 59) (L' := [some (.ref 1), some (.int (nI l)), some (.int (nI q)), some (.int (nI (CS z l 0))), some (.int (nI (CS z l (z (1 + l) - 1) + z (25 + 8 * l + (z (1 + l) - 1))))), some (.int (nI (mRs z l q (z (1 + l)))))]) rfl (by decide) rfl ?_
      refine zn_aload_n (pc := 61) rfl rfl ?_
      refine zn_callVx (pc := 62) (J := zX9_cells) (o := 1) (as := []) (rest := []) rfl rfl rfl rfl hS.t rfl rfl rfl (Nat.le_of_ble_eq_true rfl) (Nat.le_of_ble_eq_true rfl) (Nat.le_of_ble_eq_true rfl) (Nat.le_of_ble_eq_true rfl) (q_cellsG hS.t hS.lo) ?_
      refine zn_iload_n (pc := 65) rfl rfl ?_
      refine zn_callVx (pc := 66) (J := zX1_cellsOf) (o := 11) (as := [.int (nI l)]) (rest := []) rfl rfl rfl rfl hS.o11 rfl rfl rfl (Nat.le_of_ble_eq_true rfl) (Nat.le_of_ble_eq_true rfl) (Nat.le_of_ble_eq_true rfl) (Nat.le_of_ble_eq_true rfl) (c_cellsOf_10 hS.L.ok hS.L.c (l := l) (by omega)) ?_
      refine zn_iload (pc := 69) rfl rfl ?_
      refine zn_iaddN (pc := 71) (x := (z (1 + l))) (y := (mRs z l q (z (1 + l)))) rfl ?_
      refine zn_bipushN (pc := 72) 8 rfl rfl ?_
      refine zn_icmp_leN (pc := 74) (tgt := 87) (x := ((z (1 + l)) + (mRs z l q (z (1 + l))))) (y := 8) rfl rfl (by omega) (by omega) (fun c3 => ?_) (fun c3 => ?_)
      · exfalso; omega
      · exact zn_throw (pc := 77) (E := 1) rfl (Nat.le_of_ble_eq_true rfl) (Nat.le_of_ble_eq_true rfl) ⟨rfl, rfl⟩
    · exfalso; omega
end m1
