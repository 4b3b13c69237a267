section m1
variable {g : zG} {h hh : zH} {F : Nat → Nat} {S : Int64} {z : Nat → Nat} {A : Nat → Nat → Nat} {X : Nat → Int32}
theorem q_erase_s {pf : Nat → Option Nat} {now p sz : Nat} {Z : Nat → Nat} (hS : ST hh F z A pf now p Z sz) {l c : Nat} (hl : l < z 0) (hc : c < z (1 + l)) {q : Nat} (hq : q ≤ z (25 + 8 * l + c)) (he : cEra z l c q) (hql : q < z (25 + 8 * l + c)) : Zm g zX9_erase [.ref 1, .int (nI l), .int (nI c), .int (nI q)] hh 2 3266 (fun r h' => r = .inl (some (.int (nI (z (217 + 16 * (8 * l + c) + q))))) ∧ INV h' (svF F) (mtks z l c q) (svA F z A) ∧ FRm hh h') := by
  have h24 := hS.tk.ok.2.1
  have h01 := hS.tk.ok.1
  have h120 := hS.im
  have hnb := hS.nb
  have hszz := hS.s3
  have hur := hS.ur
  have hnw := hS.nw
  have h8 := (hS.tk.gl hl).2.1
  have h16 := hS.tk.ok.2.2.2 l c hl hc
  have hcs := hS.fl.cell hl hc
  have hs1 := hS.fl.sz hS.tk.ok
  obtain ⟨ht2, hf2, hd⟩ := tks_T hS.tk hl hc hql
  show Zn g zX9_erase 0 [some (.ref 1), some (.int (nI l)), some (.int (nI c)), some (.int (nI q)), none, none] [] hh 2 3266 _
  refine zn_aload_n (pc := 0) rfl rfl ?_
  refine zn_iload_n (pc := 1) rfl rfl ?_
  refine zn_iload_n (pc := 2) rfl rfl ?_
  refine zn_iload_n (pc := 3) rfl rfl ?_
  refine zn_callVx (pc := 4) (J := zX9_requireOffset) (o := 1) (as := [.int (nI l), .int (nI c), .int (nI q)]) (rest := []) rfl rfl rfl rfl hS.t rfl rfl rfl (Nat.le_of_ble_eq_true rfl) (Nat.le_of_ble_eq_true rfl) (Nat.le_of_ble_eq_true rfl) (Nat.le_of_ble_eq_true rfl) (q_rOff hS (l := l) (c := c) (q := q) (by omega) (by omega) (by omega)) ?_
  refine zn_aload_n (pc := 7) rfl rfl ?_
  refine zn_callVx (pc := 8) (J := zX9_cells) (o := 1) (as := []) (rest := []) rfl rfl rfl rfl hS.t rfl rfl rfl (Nat.le_of_ble_eq_true rfl) (Nat.le_of_ble_eq_true rfl) (Nat.le_of_ble_eq_true rfl) (Nat.le_of_ble_eq_true rfl) (q_cells hS) ?_
  refine zn_iload_n (pc := 11) rfl rfl ?_
  refine zn_iload_n (pc := 12) rfl rfl ?_
  refine zn_iload_n (pc := 13) rfl rfl ?_
  refine zn_callVx (pc := 14) (J := zX1_canErase) (o := 11) (as := [.int (nI l), .int (nI c), .int (nI q)]) (rest := []) rfl rfl rfl rfl hS.o11 rfl rfl rfl (Nat.le_of_ble_eq_true rfl) (Nat.le_of_ble_eq_true rfl) (Nat.le_of_ble_eq_true rfl) (Nat.le_of_ble_eq_true rfl) (c_canErase hS.L (l := l) (c := c) (by omega) (by omega) (q := q) (by omega)) ?_
  refine zn_if_neB (pc := 17) (tgt := 30) rfl rfl (fun c1 => ?_) (fun c1 => ?_)
  · refine zn_aload_n (pc := 30) rfl rfl ?_
    refine zn_callVx (pc := 31) (J := zX9_cells) (o := 1) (as := []) (rest := []) rfl rfl rfl rfl hS.t rfl rfl rfl (Nat.le_of_ble_eq_true rfl) (Nat.le_of_ble_eq_true rfl) (Nat.le_of_ble_eq_true rfl) (Nat.le_of_ble_eq_true rfl) (q_cells hS) ?_
    refine zn_iload_n (pc := 34) rfl rfl ?_
    refine zn_iload_n (pc := 35) rfl rfl ?_
    refine zn_callVx (pc := 36) (J := zX1_start) (o := 11) (as := [.int (nI l), .int (nI c)]) (rest := []) rfl rfl rfl rfl hS.o11 rfl rfl rfl (Nat.le_of_ble_eq_true rfl) (Nat.le_of_ble_eq_true rfl) (Nat.le_of_ble_eq_true rfl) (Nat.le_of_ble_eq_true rfl) (c_start_10 hS.L.ok hS.L.c (l := l) (c := c) (by omega) (by omega)) ?_
    refine zn_iload_n (pc := 39) rfl rfl ?_
    refine zn_iaddN (pc := 40) (x := (CS z l c)) (y := q) rfl ?_
    refine zn_istore (pc := 41) (L' := [some (.ref 1), some (.int (nI l)), some (.int (nI c)), some (.int (nI q)), some (.int (nI (CS z l c + q))), none]) rfl (by decide) rfl ?_
    refine zn_aload_n (pc := 43) rfl rfl ?_
    refine zn_get (pc := 44) (v := .ref 6) rfl hS.t rfl ?_
    refine zn_callVx (pc := 47) (J := zX3_page) (o := 6) (as := []) (rest := []) rfl rfl rfl rfl hS.h6 rfl rfl rfl (Nat.le_of_ble_eq_true rfl) (Nat.le_of_ble_eq_true rfl) (Nat.le_of_ble_eq_true rfl) (Nat.le_of_ble_eq_true rfl) (q_page hS) ?_
    refine zn_iload (pc := 50) rfl rfl ?_
    refine zn_callVx (pc := 52) (J := zX7_codeAt) (o := p) (as := [.int (nI (CS z l c + q))]) (rest := []) rfl rfl rfl rfl hS.po rfl rfl rfl (Nat.le_of_ble_eq_true rfl) (Nat.le_of_ble_eq_true rfl) (Nat.le_of_ble_eq_true rfl) (Nat.le_of_ble_eq_true rfl) (c_codeAt_i hS.po hS.qo hS.s3 hS.Zb (a := (CS z l c + q)) (by omega)) ?_
    refine zn_top (v' := .int (nI (z (217 + 16 * (8 * l + c) + q)))) (by rw [hS.fl.sign hl hc hql]) ?_
    refine zn_istore (pc := 55) (L' := [some (.ref 1), some (.int (nI l)), some (.int (nI c)), some (.int (nI q)), some (.int (nI (CS z l c + q))), some (.int (nI (z (217 + 16 * (8 * l + c) + q))))]) rfl (by decide) rfl ?_
    refine zn_aload_n (pc := 57) rfl rfl ?_
    refine zn_get (pc := 58) (v := .ref 6) rfl hS.t rfl ?_
    refine zn_callVm (pc := 61) (mc1 := 2) (ms1 := 3266) (mc := 0) (ms := 0) (J := zX3_save) (o := 6) (as := []) (rest := []) rfl rfl rfl rfl hS.h6 rfl rfl rfl (Nat.le_of_ble_eq_true rfl) (Nat.le_of_ble_eq_true rfl) (Nat.le_of_ble_eq_true rfl) (Nat.le_of_ble_eq_true rfl) (q_save hS) (fun E h9 q9 => by obtain ⟨P9, q9, -⟩ := q9; cases q9) ?_
    rintro v1 h1 ⟨P, e1, pf1, now1, Z1, hS1, hfr1, hG1, ⟨nP1, nP2, nP3⟩, hfx1, hpx1⟩
    cases e1
    have hpp1 := hS1.pp
    have hpp0 := hS.pp
    have e11 : svF F 11 = F 11 := svFn (by omega) (by omega)
    have e5 : svA F z A 5 = A 5 := svAn (by omega)
    refine zn_iload (pc := 64) rfl rfl ?_
    refine zn_iconstN (pc := 66) 1 rfl rfl ?_
    refine zn_callVx (pc := 67) (J := zX7_cut) (o := P) (as := [.int (nI (CS z l c + q)), .int (nI 1)]) (rest := []) rfl rfl rfl rfl hS1.po rfl rfl rfl (Nat.le_of_ble_eq_true rfl) (Nat.le_of_ble_eq_true rfl) (Nat.le_of_ble_eq_true rfl) (Nat.le_of_ble_eq_true rfl) (q_pcut hS1 (a := (CS z l c + q)) (n := 1) (by omega)) ?_
    refine zn_aload_n (pc := 70) rfl rfl ?_
    refine zn_aload_n (pc := 71) rfl rfl ?_
    refine zn_get (pc := 72) (v := .ref 10) rfl ((pg_n (by omega) (by omega)).trans hS1.t) rfl ?_
    refine zn_callVm (pc := 75) (mc1 := 0) (ms1 := 0) (mc := 0) (ms := 0) (J := zX9_measure) (o := 1) (as := [.ref 10]) (rest := []) rfl rfl rfl rfl ((pg_n (by omega) (by omega)).trans hS1.t) rfl rfl rfl (Nat.le_of_ble_eq_true rfl) (Nat.le_of_ble_eq_true rfl) (Nat.le_of_ble_eq_true rfl) (Nat.le_of_ble_eq_true rfl) (q_measure (hS1.1.1.edit (Z2 := va_cpy Z1 Z1 ((CS z l c + q) + 1) (CS z l c + q) (sz - (CS z l c + q) - 1)) (sz2 := sz - 1) (z2 := mtks z l c q) (by show PL _ _ (fT (mtks z l c q)); rw [hf2]; exact (hS1.fl.spl (show fT z = fup z l c q ++ ([z (217 + 16 * (8 * l + c) + q)] ++ fdn z l c (q + 1)) by rw [fT_q hl hc hq, hd])).cut fup_len rfl (by omega)) ht2 (zb_cpy hS1.Zb hS1.Zb) (by omega))) (fun E h9 q9 => by cases q9.1) ?_
    rintro v3 h3 ⟨e1, hI3, hM3⟩
    cases e1
    obtain ⟨Z3, s3, hS3⟩ := ST.of hI3
    refine zn_iload (pc := 78) rfl rfl ?_
    exact zn_iret (pc := 80) rfl rfl ⟨rfl, hS3.inv, (hfr1.trans (hS1.1.1.edit_fr.trans (hM3.frm (Or.inl rfl))))⟩
  · exact absurd he c1
theorem q_erase_t {pf : Nat → Option Nat} {now p sz : Nat} {Z : Nat → Nat} (hS : ST hh F z A pf now p Z sz) {l c : Nat} (hl : l < z 0) (hc : c < z (1 + l)) {q : Nat} (hq : q ≤ z (25 + 8 * l + c)) (he : cEra z l c q) (hqe : q = z (25 + 8 * l + c)) (hc1 : c + 1 < z (1 + l)) (hs16 : z (25 + 8 * l + c) + z (25 + 8 * l + (c + 1)) ≤ 16) : Zm g zX9_erase [.ref 1, .int (nI l), .int (nI c), .int (nI q)] hh 2 3266 (fun r h' => r = .inl (some (.int (nI 9))) ∧ INV h' (svF F) (mclc (mgt z l (c + 1) 0 l c) l (c + 1)) (svA F z A) ∧ FRm hh h') := by
  have h24 := hS.tk.ok.2.1
  have h01 := hS.tk.ok.1
  have h120 := hS.im
  have hnb := hS.nb
  have hszz := hS.s3
  have hur := hS.ur
  have hnw := hS.nw
  have h8 := (hS.tk.gl hl).2.1
  have h16 := hS.tk.ok.2.2.2 l c hl hc
  have hcs := hS.fl.cell hl hc
  have hs1 := hS.fl.sz hS.tk.ok
  obtain ⟨ht2, hf2, hd⟩ := tkt_T hS.tk hl hc1 hs16
  rw [← hqe] at hf2 hd
  obtain ⟨m1, m2⟩ := hS.fl.more (fun l hl => (hS.tk.gl hl).1) hl hc (Or.inl hc1)
  have m3 : Z (CS z l c + q) = 9 := by rw [hqe, m2]; unfold fe; rw [if_pos hc1]
  show Zn g zX9_erase 0 [some (.ref 1), some (.int (nI l)), some (.int (nI c)), some (.int (nI q)), none, none] [] hh 2 3266 _
  refine zn_aload_n (pc := 0) rfl rfl ?_
  refine zn_iload_n (pc := 1) rfl rfl ?_
  refine zn_iload_n (pc := 2) rfl rfl ?_
  refine zn_iload_n (pc := 3) rfl rfl ?_
  refine zn_callVx (pc := 4) (J := zX9_requireOffset) (o := 1) (as := [.int (nI l), .int (nI c), .int (nI q)]) (rest := []) rfl rfl rfl rfl hS.t rfl rfl rfl (Nat.le_of_ble_eq_true rfl) (Nat.le_of_ble_eq_true rfl) (Nat.le_of_ble_eq_true rfl) (Nat.le_of_ble_eq_true rfl) (q_rOff hS (l := l) (c := c) (q := q) (by omega) (by omega) (by omega)) ?_
  refine zn_aload_n (pc := 7) rfl rfl ?_
  refine zn_callVx (pc := 8) (J := zX9_cells) (o := 1) (as := []) (rest := []) rfl rfl rfl rfl hS.t rfl rfl rfl (Nat.le_of_ble_eq_true rfl) (Nat.le_of_ble_eq_true rfl) (Nat.le_of_ble_eq_true rfl) (Nat.le_of_ble_eq_true rfl) (q_cells hS) ?_
  refine zn_iload_n (pc := 11) rfl rfl ?_
  refine zn_iload_n (pc := 12) rfl rfl ?_
  refine zn_iload_n (pc := 13) rfl rfl ?_
  refine zn_callVx (pc := 14) (J := zX1_canErase) (o := 11) (as := [.int (nI l), .int (nI c), .int (nI q)]) (rest := []) rfl rfl rfl rfl hS.o11 rfl rfl rfl (Nat.le_of_ble_eq_true rfl) (Nat.le_of_ble_eq_true rfl) (Nat.le_of_ble_eq_true rfl) (Nat.le_of_ble_eq_true rfl) (c_canErase hS.L (l := l) (c := c) (by omega) (by omega) (q := q) (by omega)) ?_
  refine zn_if_neB (pc := 17) (tgt := 30) rfl rfl (fun c1 => ?_) (fun c1 => ?_)
  · refine zn_aload_n (pc := 30) rfl rfl ?_
    refine zn_callVx (pc := 31) (J := zX9_cells) (o := 1) (as := []) (rest := []) rfl rfl rfl rfl hS.t rfl rfl rfl (Nat.le_of_ble_eq_true rfl) (Nat.le_of_ble_eq_true rfl) (Nat.le_of_ble_eq_true rfl) (Nat.le_of_ble_eq_true rfl) (q_cells hS) ?_
    refine zn_iload_n (pc := 34) rfl rfl ?_
    refine zn_iload_n (pc := 35) rfl rfl ?_
    refine zn_callVx (pc := 36) (J := zX1_start) (o := 11) (as := [.int (nI l), .int (nI c)]) (rest := []) rfl rfl rfl rfl hS.o11 rfl rfl rfl (Nat.le_of_ble_eq_true rfl) (Nat.le_of_ble_eq_true rfl) (Nat.le_of_ble_eq_true rfl) (Nat.le_of_ble_eq_true rfl) (c_start_10 hS.L.ok hS.L.c (l := l) (c := c) (by omega) (by omega)) ?_
    refine zn_iload_n (pc := 39) rfl rfl ?_
    refine zn_iaddN (pc := 40) (x := (CS z l c)) (y := q) rfl ?_
    refine zn_istore (pc := 41) (L' := [some (.ref 1), some (.int (nI l)), some (.int (nI c)), some (.int (nI q)), some (.int (nI (CS z l c + q))), none]) rfl (by decide) rfl ?_
    refine zn_aload_n (pc := 43) rfl rfl ?_
    refine zn_get (pc := 44) (v := .ref 6) rfl hS.t rfl ?_
    refine zn_callVx (pc := 47) (J := zX3_page) (o := 6) (as := []) (rest := []) rfl rfl rfl rfl hS.h6 rfl rfl rfl (Nat.le_of_ble_eq_true rfl) (Nat.le_of_ble_eq_true rfl) (Nat.le_of_ble_eq_true rfl) (Nat.le_of_ble_eq_true rfl) (q_page hS) ?_
    refine zn_iload (pc := 50) rfl rfl ?_
    refine zn_callVx (pc := 52) (J := zX7_codeAt) (o := p) (as := [.int (nI (CS z l c + q))]) (rest := []) rfl rfl rfl rfl hS.po rfl rfl rfl (Nat.le_of_ble_eq_true rfl) (Nat.le_of_ble_eq_true rfl) (Nat.le_of_ble_eq_true rfl) (Nat.le_of_ble_eq_true rfl) (c_codeAt_i hS.po hS.qo hS.s3 hS.Zb (a := (CS z l c + q)) (by omega)) ?_
    refine zn_top (v' := .int (nI 9)) (by rw [m3]) ?_
    refine zn_istore (pc := 55) (L' := [some (.ref 1), some (.int (nI l)), some (.int (nI c)), some (.int (nI q)), some (.int (nI (CS z l c + q))), some (.int (nI 9))]) rfl (by decide) rfl ?_
    refine zn_aload_n (pc := 57) rfl rfl ?_
    refine zn_get (pc := 58) (v := .ref 6) rfl hS.t rfl ?_
    refine zn_callVm (pc := 61) (mc1 := 2) (ms1 := 3266) (mc := 0) (ms := 0) (J := zX3_save) (o := 6) (as := []) (rest := []) rfl rfl rfl rfl hS.h6 rfl rfl rfl (Nat.le_of_ble_eq_true rfl) (Nat.le_of_ble_eq_true rfl) (Nat.le_of_ble_eq_true rfl) (Nat.le_of_ble_eq_true rfl) (q_save hS) (fun E h9 q9 => by obtain ⟨P9, q9, -⟩ := q9; cases q9) ?_
    rintro v1 h1 ⟨P, e1, pf1, now1, Z1, hS1, hfr1, hG1, ⟨nP1, nP2, nP3⟩, hfx1, hpx1⟩
    cases e1
    have hpp1 := hS1.pp
    have hpp0 := hS.pp
    have e11 : svF F 11 = F 11 := svFn (by omega) (by omega)
    have e5 : svA F z A 5 = A 5 := svAn (by omega)
    refine zn_iload (pc := 64) rfl rfl ?_
    refine zn_iconstN (pc := 66) 1 rfl rfl ?_
    refine zn_callVx (pc := 67) (J := zX7_cut) (o := P) (as := [.int (nI (CS z l c + q)), .int (nI 1)]) (rest := []) rfl rfl rfl rfl hS1.po rfl rfl rfl (Nat.le_of_ble_eq_true rfl) (Nat.le_of_ble_eq_true rfl) (Nat.le_of_ble_eq_true rfl) (Nat.le_of_ble_eq_true rfl) (q_pcut hS1 (a := (CS z l c + q)) (n := 1) (by omega)) ?_
    refine zn_aload_n (pc := 70) rfl rfl ?_
    refine zn_aload_n (pc := 71) rfl rfl ?_
    refine zn_get (pc := 72) (v := .ref 10) rfl ((pg_n (by omega) (by omega)).trans hS1.t) rfl ?_
    refine zn_callVm (pc := 75) (mc1 := 0) (ms1 := 0) (mc := 0) (ms := 0) (J := zX9_measure) (o := 1) (as := [.ref 10]) (rest := []) rfl rfl rfl rfl ((pg_n (by omega) (by omega)).trans hS1.t) rfl rfl rfl (Nat.le_of_ble_eq_true rfl) (Nat.le_of_ble_eq_true rfl) (Nat.le_of_ble_eq_true rfl) (Nat.le_of_ble_eq_true rfl) (q_measure (hS1.1.1.edit (Z2 := va_cpy Z1 Z1 ((CS z l c + q) + 1) (CS z l c + q) (sz - (CS z l c + q) - 1)) (sz2 := sz - 1) (z2 := mclc (mgt z l (c + 1) 0 l c) l (c + 1)) (by show PL _ _ (fT (mclc (mgt z l (c + 1) 0 l c) l (c + 1))); rw [hf2]; exact (hS1.fl.spl (show fT z = fup z l c q ++ ([9] ++ (fs z l (c + 1) ++ (fe z l (c + 1) :: fpost z l (c + 1)))) by rw [fT_q hl hc hq, hd])).cut fup_len rfl (by omega)) ht2 (zb_cpy hS1.Zb hS1.Zb) (by omega))) (fun E h9 q9 => by cases q9.1) ?_
    rintro v3 h3 ⟨e1, hI3, hM3⟩
    cases e1
    obtain ⟨Z3, s3, hS3⟩ := ST.of hI3
    refine zn_iload (pc := 78) rfl rfl ?_
    exact zn_iret (pc := 80) rfl rfl ⟨rfl, hS3.inv, (hfr1.trans (hS1.1.1.edit_fr.trans (hM3.frm (Or.inl rfl))))⟩
  · exact absurd he c1
theorem q_erase_e {pf : Nat → Option Nat} {now p sz : Nat} {Z : Nat → Nat} (hS : ST hh F z A pf now p Z sz) {l c : Nat} (hl : l < z 0) (hc : c < z (1 + l)) {q : Nat} (hq : q ≤ z (25 + 8 * l + c)) (he : cEra z l c q) (hqe : q = z (25 + 8 * l + c)) (hc1 : c + 1 = z (1 + l)) (hl1 : l + 1 < z 0) (hs16 : z (25 + 8 * l + c) + z (25 + 8 * (l + 1) + 0) ≤ 16) (h9 : z (1 + l) + z (1 + (l + 1)) ≤ 9) : Zm g zX9_erase [.ref 1, .int (nI l), .int (nI c), .int (nI q)] hh 2 3266 (fun r h' => r = .inl (some (.int (nI 10))) ∧ INV h' (svF F) (mtke z l c) (svA F z A) ∧ FRm hh h') := by
  have h24 := hS.tk.ok.2.1
  have h01 := hS.tk.ok.1
  have h120 := hS.im
  have hnb := hS.nb
  have hszz := hS.s3
  have hur := hS.ur
  have hnw := hS.nw
  have h8 := (hS.tk.gl hl).2.1
  have h16 := hS.tk.ok.2.2.2 l c hl hc
  have hcs := hS.fl.cell hl hc
  have hs1 := hS.fl.sz hS.tk.ok
  obtain ⟨ht2, hf2, hd, -⟩ := tke_T hS.tk hl1 hc1 h9 hs16
  rw [← hqe] at hf2 hd
  obtain ⟨m1, m2⟩ := hS.fl.more (fun l hl => (hS.tk.gl hl).1) hl hc (Or.inr hl1)
  have m3 : Z (CS z l c + q) = 10 := by rw [hqe, m2]; unfold fe; rw [if_neg (by omega)]
  show Zn g zX9_erase 0 [some (.ref 1), some (.int (nI l)), some (.int (nI c)), some (.int (nI q)), none, none] [] hh 2 3266 _
  refine zn_aload_n (pc := 0) rfl rfl ?_
  refine zn_iload_n (pc := 1) rfl rfl ?_
  refine zn_iload_n (pc := 2) rfl rfl ?_
  refine zn_iload_n (pc := 3) rfl rfl ?_
  refine zn_callVx (pc := 4) (J := zX9_requireOffset) (o := 1) (as := [.int (nI l), .int (nI c), .int (nI q)]) (rest := []) rfl rfl rfl rfl hS.t rfl rfl rfl (Nat.le_of_ble_eq_true rfl) (Nat.le_of_ble_eq_true rfl) (Nat.le_of_ble_eq_true rfl) (Nat.le_of_ble_eq_true rfl) (q_rOff hS (l := l) (c := c) (q := q) (by omega) (by omega) (by omega)) ?_
  refine zn_aload_n (pc := 7) rfl rfl ?_
  refine zn_callVx (pc := 8) (J := zX9_cells) (o := 1) (as := []) (rest := []) rfl rfl rfl rfl hS.t rfl rfl rfl (Nat.le_of_ble_eq_true rfl) (Nat.le_of_ble_eq_true rfl) (Nat.le_of_ble_eq_true rfl) (Nat.le_of_ble_eq_true rfl) (q_cells hS) ?_
  refine zn_iload_n (pc := 11) rfl rfl ?_
  refine zn_iload_n (pc := 12) rfl rfl ?_
  refine zn_iload_n (pc := 13) rfl rfl ?_
  refine zn_callVx (pc := 14) (J := zX1_canErase) (o := 11) (as := [.int (nI l), .int (nI c), .int (nI q)]) (rest := []) rfl rfl rfl rfl hS.o11 rfl rfl rfl (Nat.le_of_ble_eq_true rfl) (Nat.le_of_ble_eq_true rfl) (Nat.le_of_ble_eq_true rfl) (Nat.le_of_ble_eq_true rfl) (c_canErase hS.L (l := l) (c := c) (by omega) (by omega) (q := q) (by omega)) ?_
  refine zn_if_neB (pc := 17) (tgt := 30) rfl rfl (fun c1 => ?_) (fun c1 => ?_)
  · refine zn_aload_n (pc := 30) rfl rfl ?_
    refine zn_callVx (pc := 31) (J := zX9_cells) (o := 1) (as := []) (rest := []) rfl rfl rfl rfl hS.t rfl rfl rfl (Nat.le_of_ble_eq_true rfl) (Nat.le_of_ble_eq_true rfl) (Nat.le_of_ble_eq_true rfl) (Nat.le_of_ble_eq_true rfl) (q_cells hS) ?_
    refine zn_iload_n (pc := 34) rfl rfl ?_
    refine zn_iload_n (pc := 35) rfl rfl ?_
    refine zn_callVx (pc := 36) (J := zX1_start) (o := 11) (as := [.int (nI l), .int (nI c)]) (rest := []) rfl rfl rfl rfl hS.o11 rfl rfl rfl (Nat.le_of_ble_eq_true rfl) (Nat.le_of_ble_eq_true rfl) (Nat.le_of_ble_eq_true rfl) (Nat.le_of_ble_eq_true rfl) (c_start_10 hS.L.ok hS.L.c (l := l) (c := c) (by omega) (by omega)) ?_
    refine zn_iload_n (pc := 39) rfl rfl ?_
    refine zn_iaddN (pc := 40) (x := (CS z l c)) (y := q) rfl ?_
    refine zn_istore (pc := 41) (L' := [some (.ref 1), some (.int (nI l)), some (.int (nI c)), some (.int (nI q)), some (.int (nI (CS z l c + q))), none]) rfl (by decide) rfl ?_
    refine zn_aload_n (pc := 43) rfl rfl ?_
    refine zn_get (pc := 44) (v := .ref 6) rfl hS.t rfl ?_
    refine zn_callVx (pc := 47) (J := zX3_page) (o := 6) (as := []) (rest := []) rfl rfl rfl rfl hS.h6 rfl rfl rfl (Nat.le_of_ble_eq_true rfl) (Nat.le_of_ble_eq_true rfl) (Nat.le_of_ble_eq_true rfl) (Nat.le_of_ble_eq_true rfl) (q_page hS) ?_
    refine zn_iload (pc := 50) rfl rfl ?_
    refine zn_callVx (pc := 52) (J := zX7_codeAt) (o := p) (as := [.int (nI (CS z l c + q))]) (rest := []) rfl rfl rfl rfl hS.po rfl rfl rfl (Nat.le_of_ble_eq_true rfl) (Nat.le_of_ble_eq_true rfl) (Nat.le_of_ble_eq_true rfl) (Nat.le_of_ble_eq_true rfl) (c_codeAt_i hS.po hS.qo hS.s3 hS.Zb (a := (CS z l c + q)) (by omega)) ?_
    refine zn_top (v' := .int (nI 10)) (by rw [m3]) ?_
    refine zn_istore (pc := 55) (L' := [some (.ref 1), some (.int (nI l)), some (.int (nI c)), some (.int (nI q)), some (.int (nI (CS z l c + q))), some (.int (nI 10))]) rfl (by decide) rfl ?_
    refine zn_aload_n (pc := 57) rfl rfl ?_
    refine zn_get (pc := 58) (v := .ref 6) rfl hS.t rfl ?_
    refine zn_callVm (pc := 61) (mc1 := 2) (ms1 := 3266) (mc := 0) (ms := 0) (J := zX3_save) (o := 6) (as := []) (rest := []) rfl rfl rfl rfl hS.h6 rfl rfl rfl (Nat.le_of_ble_eq_true rfl) (Nat.le_of_ble_eq_true rfl) (Nat.le_of_ble_eq_true rfl) (Nat.le_of_ble_eq_true rfl) (q_save hS) (fun E h9 q9 => by obtain ⟨P9, q9, -⟩ := q9; cases q9) ?_
    rintro v1 h1 ⟨P, e1, pf1, now1, Z1, hS1, hfr1, hG1, ⟨nP1, nP2, nP3⟩, hfx1, hpx1⟩
    cases e1
    have hpp1 := hS1.pp
    have hpp0 := hS.pp
    have e11 : svF F 11 = F 11 := svFn (by omega) (by omega)
    have e5 : svA F z A 5 = A 5 := svAn (by omega)
    refine zn_iload (pc := 64) rfl rfl ?_
    refine zn_iconstN (pc := 66) 1 rfl rfl ?_
    refine zn_callVx (pc := 67) (J := zX7_cut) (o := P) (as := [.int (nI (CS z l c + q)), .int (nI 1)]) (rest := []) rfl rfl rfl rfl hS1.po rfl rfl rfl (Nat.le_of_ble_eq_true rfl) (Nat.le_of_ble_eq_true rfl) (Nat.le_of_ble_eq_true rfl) (Nat.le_of_ble_eq_true rfl) (q_pcut hS1 (a := (CS z l c + q)) (n := 1) (by omega)) ?_
    refine zn_aload_n (pc := 70) rfl rfl ?_
    refine zn_aload_n (pc := 71) rfl rfl ?_
    refine zn_get (pc := 72) (v := .ref 10) rfl ((pg_n (by omega) (by omega)).trans hS1.t) rfl ?_
    refine zn_callVm (pc := 75) (mc1 := 0) (ms1 := 0) (mc := 0) (ms := 0) (J := zX9_measure) (o := 1) (as := [.ref 10]) (rest := []) rfl rfl rfl rfl ((pg_n (by omega) (by omega)).trans hS1.t) rfl rfl rfl (Nat.le_of_ble_eq_true rfl) (Nat.le_of_ble_eq_true rfl) (Nat.le_of_ble_eq_true rfl) (Nat.le_of_ble_eq_true rfl) (q_measure (hS1.1.1.edit (Z2 := va_cpy Z1 Z1 ((CS z l c + q) + 1) (CS z l c + q) (sz - (CS z l c + q) - 1)) (sz2 := sz - 1) (z2 := mtke z l c) (by show PL _ _ (fT (mtke z l c)); rw [hf2]; exact (hS1.fl.spl (show fT z = fup z l c q ++ ([10] ++ (fs z (l + 1) 0 ++ (fe z (l + 1) 0 :: fpost z (l + 1) 0))) by rw [fT_q hl hc hq, hd])).cut fup_len rfl (by omega)) ht2 (zb_cpy hS1.Zb hS1.Zb) (by omega))) (fun E h9 q9 => by cases q9.1) ?_
    rintro v3 h3 ⟨e1, hI3, hM3⟩
    cases e1
    obtain ⟨Z3, s3, hS3⟩ := ST.of hI3
    refine zn_iload (pc := 78) rfl rfl ?_
    exact zn_iret (pc := 80) rfl rfl ⟨rfl, hS3.inv, (hfr1.trans (hS1.1.1.edit_fr.trans (hM3.frm (Or.inl rfl))))⟩
  · exact absurd he c1
theorem q_erase_1 {pf : Nat → Option Nat} {now p sz : Nat} {Z : Nat → Nat} (hS : ST hh F z A pf now p Z sz) {x y k : Int32} (hbad : ¬ mCell z x y) : Zt g zX9_erase [.ref 1, .int x, .int y, .int k] hh 2 := by
  show Zn g zX9_erase 0 [some (.ref 1), some (.int x), some (.int y), some (.int k), none, none] [] hh 1 6 _
  refine zn_aload_n (pc := 0) rfl rfl ?_
  refine zn_iload_n (pc := 1) rfl rfl ?_
  refine zn_iload_n (pc := 2) rfl rfl ?_
  refine zn_iload_n (pc := 3) rfl rfl ?_
  exact zn_callVt (pc := 4) (J := zX9_requireOffset) (o := 1) (as := [.int x, .int y, .int k]) (rest := []) rfl rfl rfl rfl hS.t rfl rfl rfl (Nat.le_of_ble_eq_true rfl) (Nat.le_of_ble_eq_true rfl) (Nat.le_of_ble_eq_true rfl) (Nat.le_of_ble_eq_true rfl) (q_rOff_1 hS hbad) ⟨rfl, rfl⟩
theorem q_erase_2 {pf : Nat → Option Nat} {now p sz : Nat} {Z : Nat → Nat} (hS : ST hh F z A pf now p Z sz) {l c : Nat} (hl : l < z 0) (hc : c < z (1 + l)) {k : Int32} (hk : ¬ zin k (z (25 + 8 * l + c) + 1)) : Zt g zX9_erase [.ref 1, .int (nI l), .int (nI c), .int k] hh 2 := by
  show Zn g zX9_erase 0 [some (.ref 1), some (.int (nI l)), some (.int (nI c)), some (.int k), none, none] [] hh 1 6 _
  refine zn_aload_n (pc := 0) rfl rfl ?_
  refine zn_iload_n (pc := 1) rfl rfl ?_
  refine zn_iload_n (pc := 2) rfl rfl ?_
  refine zn_iload_n (pc := 3) rfl rfl ?_
  exact zn_callVt (pc := 4) (J := zX9_requireOffset) (o := 1) (as := [.int (nI l), .int (nI c), .int k]) (rest := []) rfl rfl rfl rfl hS.t rfl rfl rfl (Nat.le_of_ble_eq_true rfl) (Nat.le_of_ble_eq_true rfl) (Nat.le_of_ble_eq_true rfl) (Nat.le_of_ble_eq_true rfl) (q_rOff_2 hS hl hc hk) ⟨rfl, rfl⟩
theorem q_erase_3 {pf : Nat → Option Nat} {now p sz : Nat} {Z : Nat → Nat} (hS : ST hh F z A pf now p Z sz) {l c : Nat} (hl : l < z 0) (hc : c < z (1 + l)) {q : Nat} (hq : q ≤ z (25 + 8 * l + c)) (he : ¬ cEra z l c q) : Zt g zX9_erase [.ref 1, .int (nI l), .int (nI c), .int (nI q)] hh 1 := by
  have h24 := hS.tk.ok.2.1
  have h01 := hS.tk.ok.1
  have h120 := hS.im
  have hnb := hS.nb
  have hszz := hS.s3
  have hur := hS.ur
  have hnw := hS.nw
  have h8 := (hS.tk.gl hl).2.1
  have h16 := hS.tk.ok.2.2.2 l c hl hc
  show Zn g zX9_erase 0 [some (.ref 1), some (.int (nI l)), some (.int (nI c)), some (.int (nI q)), none, none] [] hh 1 6 _
  refine zn_aload_n (pc := 0) rfl rfl ?_
  refine zn_iload_n (pc := 1) rfl rfl ?_
  refine zn_iload_n (pc := 2) rfl rfl ?_
  refine zn_iload_n (pc := 3) rfl rfl ?_
  refine zn_callVx (pc := 4) (J := zX9_requireOffset) (o := 1) (as := [.int (nI l), .int (nI c), .int (nI q)]) (rest := []) rfl rfl rfl rfl hS.t rfl rfl rfl (Nat.le_of_ble_eq_true rfl) (Nat.le_of_ble_eq_true rfl) (Nat.le_of_ble_eq_true rfl) (Nat.le_of_ble_eq_true rfl) (q_rOff hS (l := l) (c := c) (q := q) (by omega) (by omega) (by omega)) ?_
  refine zn_aload_n (pc := 7) rfl rfl ?_
  refine zn_callVx (pc := 8) (J := zX9_cells) (o := 1) (as := []) (rest := []) rfl rfl rfl rfl hS.t rfl rfl rfl (Nat.le_of_ble_eq_true rfl) (Nat.le_of_ble_eq_true rfl) (Nat.le_of_ble_eq_true rfl) (Nat.le_of_ble_eq_true rfl) (q_cells hS) ?_
  refine zn_iload_n (pc := 11) rfl rfl ?_
  refine zn_iload_n (pc := 12) rfl rfl ?_
  refine zn_iload_n (pc := 13) rfl rfl ?_
  refine zn_callVx (pc := 14) (J := zX1_canErase) (o := 11) (as := [.int (nI l), .int (nI c), .int (nI q)]) (rest := []) rfl rfl rfl rfl hS.o11 rfl rfl rfl (Nat.le_of_ble_eq_true rfl) (Nat.le_of_ble_eq_true rfl) (Nat.le_of_ble_eq_true rfl) (Nat.le_of_ble_eq_true rfl) (c_canErase hS.L (l := l) (c := c) (by omega) (by omega) (q := q) (by omega)) ?_
  refine zn_if_neB (pc := 17) (tgt := 30) rfl rfl (fun c1 => ?_) (fun c1 => ?_)
  · exact absurd c1 he
  · exact zn_throw (pc := 20) (E := 1) rfl (Nat.le_of_ble_eq_true rfl) (Nat.le_of_ble_eq_true rfl) ⟨rfl, rfl⟩
theorem q_setCell {pf : Nat → Option Nat} {now p sz : Nat} {Z : Nat → Nat} (hS : ST hh F z A pf now p Z sz) {l c : Nat} (hl : l < z 0) (hc : c < z (1 + l)) (hr : mrl (A 5) 0 (F 11) 0 0 0 0 = F 11) : Zm g zX9_setCell [.ref 1, .int (nI l), .int (nI c)] hh 2 3266 (fun r h' => r = .inl (some (.int (nI (z (25 + 8 * l + c))))) ∧ INV h' (va_up (svF F) 11 0) (mset z (A 5) l c (F 11)) (va_up (svA F z A) 5 (svA F z A 5)) ∧ FRm hh h') := by
  have h24 := hS.tk.ok.2.1
  have h01 := hS.tk.ok.1
  have h120 := hS.im
  have hnb := hS.nb
  have hszz := hS.s3
  have hur := hS.ur
  have hnw := hS.nw
  have h8 := (hS.tk.gl hl).2.1
  have h16 := hS.tk.ok.2.2.2 l c hl hc
  have hcs := hS.fl.cell hl hc
  have hs1 := hS.fl.sz hS.tk.ok
  obtain ⟨-, h16m, ht2, i3⟩ := set_P hS.tk hS.fl hl hc hS.ib hr
  have i4 := i3.sz ht2.ok
  show Zn g zX9_setCell 0 [some (.ref 1), some (.int (nI l)), some (.int (nI c)), none, none, none] [] hh 2 3266 _
  refine zn_aload_n (pc := 0) rfl rfl ?_
  refine zn_iload_n (pc := 1) rfl rfl ?_
  refine zn_iload_n (pc := 2) rfl rfl ?_
  refine zn_callVx (pc := 3) (J := zX9_requireCell) (o := 1) (as := [.int (nI l), .int (nI c)]) (rest := []) rfl rfl rfl rfl hS.t rfl rfl rfl (Nat.le_of_ble_eq_true rfl) (Nat.le_of_ble_eq_true rfl) (Nat.le_of_ble_eq_true rfl) (Nat.le_of_ble_eq_true rfl) (q_rCell hS (x := (nI l)) (y := (nI c)) (mCell_nI hS.tk.ok (by omega) (by omega))) ?_
  refine zn_aload_n (pc := 6) rfl rfl ?_
  refine zn_iconstN (pc := 7) 0 rfl rfl ?_
  refine zn_callVx (pc := 8) (J := zX9_requireInput) (o := 1) (as := [.int (nI 0)]) (rest := []) rfl rfl rfl rfl hS.t rfl rfl rfl (Nat.le_of_ble_eq_true rfl) (Nat.le_of_ble_eq_true rfl) (Nat.le_of_ble_eq_true rfl) (Nat.le_of_ble_eq_true rfl) (q_rInp hS (kd := 0) (by omega) hr) ?_
  refine zn_aload_n (pc := 11) rfl rfl ?_
  refine zn_callVx (pc := 12) (J := zX9_cells) (o := 1) (as := []) (rest := []) rfl rfl rfl rfl hS.t rfl rfl rfl (Nat.le_of_ble_eq_true rfl) (Nat.le_of_ble_eq_true rfl) (Nat.le_of_ble_eq_true rfl) (Nat.le_of_ble_eq_true rfl) (q_cells hS) ?_
  refine zn_iload_n (pc := 15) rfl rfl ?_
  refine zn_iload_n (pc := 16) rfl rfl ?_
  refine zn_callVx (pc := 17) (J := zX1_start) (o := 11) (as := [.int (nI l), .int (nI c)]) (rest := []) rfl rfl rfl rfl hS.o11 rfl rfl rfl (Nat.le_of_ble_eq_true rfl) (Nat.le_of_ble_eq_true rfl) (Nat.le_of_ble_eq_true rfl) (Nat.le_of_ble_eq_true rfl) (c_start_10 hS.L.ok hS.L.c (l := l) (c := c) (by omega) (by omega)) ?_
  refine zn_istore_n (pc := 20) (L' := [some (.ref 1), some (.int (nI l)), some (.int (nI c)), some (.int (nI (CS z l c))), none, none]) rfl (by decide) rfl ?_
  refine zn_aload_n (pc := 21) rfl rfl ?_
  refine zn_callVx (pc := 22) (J := zX9_cells) (o := 1) (as := []) (rest := []) rfl rfl rfl rfl hS.t rfl rfl rfl (Nat.le_of_ble_eq_true rfl) (Nat.le_of_ble_eq_true rfl) (Nat.le_of_ble_eq_true rfl) (Nat.le_of_ble_eq_true rfl) (q_cells hS) ?_
  refine zn_iload_n (pc := 25) rfl rfl ?_
  refine zn_iload_n (pc := 26) rfl rfl ?_
  refine zn_callVx (pc := 27) (J := zX1_length) (o := 11) (as := [.int (nI l), .int (nI c)]) (rest := []) rfl rfl rfl rfl hS.o11 rfl rfl rfl (Nat.le_of_ble_eq_true rfl) (Nat.le_of_ble_eq_true rfl) (Nat.le_of_ble_eq_true rfl) (Nat.le_of_ble_eq_true rfl) (c_length_10 hS.L.ok hS.L.c (l := l) (c := c) (by omega) (by omega)) ?_
  refine zn_istore (pc := 30) (L' := [some (.ref 1), some (.int (nI l)), some (.int (nI c)), some (.int (nI (CS z l c))), some (.int (nI (z (25 + 8 * l + c)))), none]) rfl (by decide) rfl ?_
  refine zn_aload_n (pc := 32) rfl rfl ?_
  refine zn_get (pc := 33) (v := .ref 6) rfl hS.t rfl ?_
  refine zn_callVm (pc := 36) (mc1 := 2) (ms1 := 3266) (mc := 0) (ms := 0) (J := zX3_save) (o := 6) (as := []) (rest := []) rfl rfl rfl rfl hS.h6 rfl rfl rfl (Nat.le_of_ble_eq_true rfl) (Nat.le_of_ble_eq_true rfl) (Nat.le_of_ble_eq_true rfl) (Nat.le_of_ble_eq_true rfl) (q_save hS) (fun E h9 q9 => by obtain ⟨P9, q9, -⟩ := q9; cases q9) ?_
  rintro v1 h1 ⟨P, e1, pf1, now1, Z1, hS1, hfr1, hG1, ⟨nP1, nP2, nP3⟩, hfx1, hpx1⟩
  cases e1
  have hpp1 := hS1.pp
  have hpp0 := hS.pp
  have e11 : svF F 11 = F 11 := svFn (by omega) (by omega)
  have e5 : svA F z A 5 = A 5 := svAn (by omega)
  refine zn_astore (pc := 39) (L' := [some (.ref 1), some (.int (nI l)), some (.int (nI c)), some (.int (nI (CS z l c))), some (.int (nI (z (25 + 8 * l + c)))), some (.ref P)]) rfl (by decide) rfl ?_
  refine zn_aload (pc := 41) rfl rfl ?_
  refine zn_iload_n (pc := 43) rfl rfl ?_
  refine zn_iload (pc := 44) rfl rfl ?_
  refine zn_callVx (pc := 46) (J := zX7_cut) (o := P) (as := [.int (nI (CS z l c)), .int (nI (z (25 + 8 * l + c)))]) (rest := []) rfl rfl rfl rfl hS1.po rfl rfl rfl (Nat.le_of_ble_eq_true rfl) (Nat.le_of_ble_eq_true rfl) (Nat.le_of_ble_eq_true rfl) (Nat.le_of_ble_eq_true rfl) (q_pcut hS1 (a := (CS z l c)) (n := (z (25 + 8 * l + c))) (by omega)) ?_
  refine zn_aload (pc := 49) rfl rfl ?_
  refine zn_iload_n (pc := 51) rfl rfl ?_
  refine zn_aload_n (pc := 52) rfl rfl ?_
  refine zn_get (pc := 53) (v := .ref 2) rfl ((pg_n (by omega) (by omega)).trans hS1.t) rfl ?_
  refine zn_callVx (pc := 56) (J := zX7_putInput) (o := P) (as := [.int (nI (CS z l c)), .ref 2]) (rest := []) rfl rfl rfl rfl pg_o rfl rfl rfl (Nat.le_of_ble_eq_true rfl) (Nat.le_of_ble_eq_true rfl) (Nat.le_of_ble_eq_true rfl) (Nat.le_of_ble_eq_true rfl) (c_putInput (h := h1) (by omega) (by omega) (by omega) (by omega) hS1.im hS1.ib hS1.i2 hS1.i3 (a := (CS z l c)) (by omega) (by omega)) ?_
  refine zn_aload_n (pc := 59) rfl rfl ?_
  refine zn_get (pc := 60) (v := .ref 2) rfl ((pg_n (by omega) (by omega)).trans hS1.t) rfl ?_
  refine zn_callVx (pc := 63) (J := zX4_empty) (o := 2) (as := []) (rest := []) rfl rfl rfl rfl ((pg_n (by omega) (by omega)).trans hS1.i2) rfl rfl rfl (Nat.le_of_ble_eq_true rfl) (Nat.le_of_ble_eq_true rfl) (Nat.le_of_ble_eq_true rfl) (Nat.le_of_ble_eq_true rfl) (q_iemptyG ((pg_n (by omega) (by omega)).trans hS1.i2) ((pg_n (by omega) (by omega)).trans hS1.i3)) ?_
  refine zn_pop (pc := 66) rfl rfl ?_
  refine zn_aload_n (pc := 67) rfl rfl ?_
  refine zn_aload_n (pc := 68) rfl rfl ?_
  refine zn_get (pc := 69) (v := .ref 10) rfl ((pg_n (by omega) (by omega)).trans ((pg_n (by omega) (by omega)).trans hS1.t)) rfl ?_
  refine zn_callVm (pc := 72) (mc1 := 0) (ms1 := 0) (mc := 0) (ms := 0) (J := zX9_measure) (o := 1) (as := [.ref 10]) (rest := []) rfl rfl rfl rfl ((pg_n (by omega) (by omega)).trans ((pg_n (by omega) (by omega)).trans hS1.t)) rfl rfl rfl (Nat.le_of_ble_eq_true rfl) (Nat.le_of_ble_eq_true rfl) (Nat.le_of_ble_eq_true rfl) (Nat.le_of_ble_eq_true rfl) (q_measure ((hS1.1.1.edit (Z2 := zpi (va_cpy Z1 Z1 ((CS z l c) + (z (25 + 8 * l + c))) (CS z l c) (sz - (CS z l c) - (z (25 + 8 * l + c)))) (CS z l c) ((svF F) 11) (sz - (z (25 + 8 * l + c))) ((svA F z A) 5) ((svF F) 11)) (sz2 := (sz - (z (25 + 8 * l + c))) + ((svF F) 11)) (z2 := mset z (A 5) l c (F 11)) (by rw [e11, e5]; exact (set_P hS.tk hS1.fl hl hc hS.ib hr).2.2.2) ht2 (zb_pi (zb_cpy hS1.Zb hS1.Zb) hS1.ib) (by omega)).input (m := 0) (by omega) hS1.ib)) (fun E h9 q9 => by cases q9.1) ?_
  rintro v3 h3 ⟨e1, hI3, hM3⟩
  cases e1
  obtain ⟨Z3, s3, hS3⟩ := ST.of hI3
  refine zn_iload (pc := 75) rfl rfl ?_
  exact zn_iret (pc := 77) rfl rfl ⟨rfl, hS3.inv, (hfr1.trans (hS1.1.1.edit_fr.trans (input_fr.trans (hM3.frm (Or.inl rfl)))))⟩
theorem q_setCell_1 {pf : Nat → Option Nat} {now p sz : Nat} {Z : Nat → Nat} (hS : ST hh F z A pf now p Z sz) {x y : Int32} (hbad : ¬ mCell z x y) : Zt g zX9_setCell [.ref 1, .int x, .int y] hh 2 := by
  show Zn g zX9_setCell 0 [some (.ref 1), some (.int x), some (.int y), none, none, none] [] hh 1 6 _
  refine zn_aload_n (pc := 0) rfl rfl ?_
  refine zn_iload_n (pc := 1) rfl rfl ?_
  refine zn_iload_n (pc := 2) rfl rfl ?_
  exact zn_callVt (pc := 3) (J := zX9_requireCell) (o := 1) (as := [.int x, .int y]) (rest := []) rfl rfl rfl rfl hS.t rfl rfl rfl (Nat.le_of_ble_eq_true rfl) (Nat.le_of_ble_eq_true rfl) (Nat.le_of_ble_eq_true rfl) (Nat.le_of_ble_eq_true rfl) (q_rCell_t hS (x := x) (y := y) hbad) ⟨rfl, rfl⟩
theorem q_setCell_2 {pf : Nat → Option Nat} {now p sz : Nat} {Z : Nat → Nat} (hS : ST hh F z A pf now p Z sz) {l c : Nat} (hl : l < z 0) (hc : c < z (1 + l)) (hr : ¬ mrl (A 5) 0 (F 11) 0 0 0 0 = F 11) : Zt g zX9_setCell [.ref 1, .int (nI l), .int (nI c)] hh 1 := by
  have h24 := hS.tk.ok.2.1
  have h01 := hS.tk.ok.1
  have h120 := hS.im
  have hnb := hS.nb
  have hszz := hS.s3
  have hur := hS.ur
  have hnw := hS.nw
  have h8 := (hS.tk.gl hl).2.1
  have h16 := hS.tk.ok.2.2.2 l c hl hc
  show Zn g zX9_setCell 0 [some (.ref 1), some (.int (nI l)), some (.int (nI c)), none, none, none] [] hh 1 6 _
  refine zn_aload_n (pc := 0) rfl rfl ?_
  refine zn_iload_n (pc := 1) rfl rfl ?_
  refine zn_iload_n (pc := 2) rfl rfl ?_
  refine zn_callVx (pc := 3) (J := zX9_requireCell) (o := 1) (as := [.int (nI l), .int (nI c)]) (rest := []) rfl rfl rfl rfl hS.t rfl rfl rfl (Nat.le_of_ble_eq_true rfl) (Nat.le_of_ble_eq_true rfl) (Nat.le_of_ble_eq_true rfl) (Nat.le_of_ble_eq_true rfl) (q_rCell hS (x := (nI l)) (y := (nI c)) (mCell_nI hS.tk.ok (by omega) (by omega))) ?_
  refine zn_aload_n (pc := 6) rfl rfl ?_
  refine zn_iconstN (pc := 7) 0 rfl rfl ?_
  exact zn_callVt (pc := 8) (J := zX9_requireInput) (o := 1) (as := [.int (nI 0)]) (rest := []) rfl rfl rfl rfl hS.t rfl rfl rfl (Nat.le_of_ble_eq_true rfl) (Nat.le_of_ble_eq_true rfl) (Nat.le_of_ble_eq_true rfl) (Nat.le_of_ble_eq_true rfl) (q_rInp_t hS (kd := 0) (by omega) hr) ⟨rfl, rfl⟩
theorem q_load {pf : Nat → Option Nat} {now p sz : Nat} {Z : Nat → Nat} (hS : ST hh F z A pf now p Z sz) (hr : mrl (A 5) 2 (F 11) 0 0 0 0 = F 11) : Zm g zX9_load [.ref 1] hh 2 3266 (fun r h' => r = .inl (some (.int (nI (mlay (A 5) (F 11) 0 0 (va_up (va_up (va_up z 0 1) 1 1) (25 + 8 * 0 + 0) 0) 0)))) ∧ INV h' (va_up (svF F) 11 0) (mlay (A 5) (F 11) 0 0 (va_up (va_up (va_up z 0 1) 1 1) (25 + 8 * 0 + 0) 0)) (va_up (svA F z A) 5 (svA F z A 5)) ∧ FRm hh h') := by
  have h24 := hS.tk.ok.2.1
  have h01 := hS.tk.ok.1
  have h120 := hS.im
  have hnb := hS.nb
  have hszz := hS.s3
  have hur := hS.ur
  have hnw := hS.nw
  obtain ⟨ht2, hf2⟩ := load_T (z := z) hS.ib hS.tk.bd hr
  show Zn g zX9_load 0 [some (.ref 1), none] [] hh 2 3266 _
  refine zn_aload_n (pc := 0) rfl rfl ?_
  refine zn_iconstN (pc := 1) 2 rfl rfl ?_
  refine zn_callVx (pc := 2) (J := zX9_requireInput) (o := 1) (as := [.int (nI 2)]) (rest := []) rfl rfl rfl rfl hS.t rfl rfl rfl (Nat.le_of_ble_eq_true rfl) (Nat.le_of_ble_eq_true rfl) (Nat.le_of_ble_eq_true rfl) (Nat.le_of_ble_eq_true rfl) (q_rInp hS (kd := 2) (by omega) hr) ?_
  refine zn_aload_n (pc := 5) rfl rfl ?_
  refine zn_get (pc := 6) (v := .ref 6) rfl hS.t rfl ?_
  refine zn_callVm (pc := 9) (mc1 := 2) (ms1 := 3266) (mc := 0) (ms := 0) (J := zX3_save) (o := 6) (as := []) (rest := []) rfl rfl rfl rfl hS.h6 rfl rfl rfl (Nat.le_of_ble_eq_true rfl) (Nat.le_of_ble_eq_true rfl) (Nat.le_of_ble_eq_true rfl) (Nat.le_of_ble_eq_true rfl) (q_save hS) (fun E h9 q9 => by obtain ⟨P9, q9, -⟩ := q9; cases q9) ?_
  rintro v1 h1 ⟨P, e1, pf1, now1, Z1, hS1, hfr1, hG1, ⟨nP1, nP2, nP3⟩, hfx1, hpx1⟩
  cases e1
  have hpp1 := hS1.pp
  have hpp0 := hS.pp
  have e11 : svF F 11 = F 11 := svFn (by omega) (by omega)
  have e5 : svA F z A 5 = A 5 := svAn (by omega)
  refine zn_astore_n (pc := 12) (L' := [some (.ref 1), some (.ref P)]) rfl (by decide) rfl ?_
  refine zn_aload_n (pc := 13) rfl rfl ?_
  refine zn_callVx (pc := 14) (J := zX7_clear) (o := P) (as := []) (rest := []) rfl rfl rfl rfl hS1.po rfl rfl rfl (Nat.le_of_ble_eq_true rfl) (Nat.le_of_ble_eq_true rfl) (Nat.le_of_ble_eq_true rfl) (Nat.le_of_ble_eq_true rfl) (q_pclear hS1) ?_
  refine zn_aload_n (pc := 17) rfl rfl ?_
  refine zn_iconstN (pc := 18) 0 rfl rfl ?_
  refine zn_aload_n (pc := 19) rfl rfl ?_
  refine zn_get (pc := 20) (v := .ref 2) rfl ((pg_n (by omega) (by omega)).trans hS1.t) rfl ?_
  refine zn_callVx (pc := 23) (J := zX7_putInput) (o := P) (as := [.int (nI 0), .ref 2]) (rest := []) rfl rfl rfl rfl pg_o rfl rfl rfl (Nat.le_of_ble_eq_true rfl) (Nat.le_of_ble_eq_true rfl) (Nat.le_of_ble_eq_true rfl) (Nat.le_of_ble_eq_true rfl) (c_putInput (h := h1) (by omega) (by omega) (by omega) (by omega) hS1.im hS1.ib hS1.i2 hS1.i3 (a := 0) (by omega) (by omega)) ?_
  refine zn_aload_n (pc := 26) rfl rfl ?_
  refine zn_get (pc := 27) (v := .ref 2) rfl ((pg_n (by omega) (by omega)).trans hS1.t) rfl ?_
  refine zn_callVx (pc := 30) (J := zX4_empty) (o := 2) (as := []) (rest := []) rfl rfl rfl rfl ((pg_n (by omega) (by omega)).trans hS1.i2) rfl rfl rfl (Nat.le_of_ble_eq_true rfl) (Nat.le_of_ble_eq_true rfl) (Nat.le_of_ble_eq_true rfl) (Nat.le_of_ble_eq_true rfl) (q_iemptyG ((pg_n (by omega) (by omega)).trans hS1.i2) ((pg_n (by omega) (by omega)).trans hS1.i3)) ?_
  refine zn_pop (pc := 33) rfl rfl ?_
  refine zn_aload_n (pc := 34) rfl rfl ?_
  refine zn_aload_n (pc := 35) rfl rfl ?_
  refine zn_get (pc := 36) (v := .ref 10) rfl ((pg_n (by omega) (by omega)).trans ((pg_n (by omega) (by omega)).trans hS1.t)) rfl ?_
  refine zn_callVm (pc := 39) (mc1 := 0) (ms1 := 0) (mc := 0) (ms := 0) (J := zX9_measure) (o := 1) (as := [.ref 10]) (rest := []) rfl rfl rfl rfl ((pg_n (by omega) (by omega)).trans ((pg_n (by omega) (by omega)).trans hS1.t)) rfl rfl rfl (Nat.le_of_ble_eq_true rfl) (Nat.le_of_ble_eq_true rfl) (Nat.le_of_ble_eq_true rfl) (Nat.le_of_ble_eq_true rfl) (q_measure ((hS1.1.1.edit (Z2 := zpi Z1 0 ((svF F) 11) 0 ((svA F z A) 5) ((svF F) 11)) (sz2 := 0 + ((svF F) 11)) (z2 := mlay (A 5) (F 11) 0 0 (va_up (va_up (va_up z 0 1) 1 1) (25 + 8 * 0 + 0) 0)) (by rw [e11, e5]; show PL _ _ (fT (mlay (A 5) (F 11) 0 0 (va_up (va_up (va_up z 0 1) 1 1) (25 + 8 * 0 + 0) 0))); rw [hf2]; exact (show PL Z1 0 ([] ++ [10]) from rfl).ins rfl (Nat.le_refl 0)) ht2 (zb_pi hS1.Zb hS1.ib) (by omega)).input (m := 0) (by omega) hS1.ib)) (fun E h9 q9 => by cases q9.1) ?_
  rintro v3 h3 ⟨e1, hI3, hM3⟩
  cases e1
  obtain ⟨Z3, s3, hS3⟩ := ST.of hI3
  refine zn_aload_n (pc := 42) rfl rfl ?_
  refine zn_callVx (pc := 43) (J := zX9_cells) (o := 1) (as := []) (rest := []) rfl rfl rfl rfl hS3.t rfl rfl rfl (Nat.le_of_ble_eq_true rfl) (Nat.le_of_ble_eq_true rfl) (Nat.le_of_ble_eq_true rfl) (Nat.le_of_ble_eq_true rfl) (q_cells hS3) ?_
  refine zn_callVx (pc := 46) (J := zX1_lines) (o := 11) (as := []) (rest := []) rfl rfl rfl rfl hS3.o11 rfl rfl rfl (Nat.le_of_ble_eq_true rfl) (Nat.le_of_ble_eq_true rfl) (Nat.le_of_ble_eq_true rfl) (Nat.le_of_ble_eq_true rfl) (c_linesK_10 hS3.L.c) ?_
  exact zn_iret (pc := 49) rfl rfl ⟨rfl, hS3.inv, (hfr1.trans (hS1.1.1.edit_fr.trans (input_fr.trans (hM3.frm (Or.inl rfl)))))⟩
theorem q_load_1 {pf : Nat → Option Nat} {now p sz : Nat} {Z : Nat → Nat} (hS : ST hh F z A pf now p Z sz) (hr : ¬ mrl (A 5) 2 (F 11) 0 0 0 0 = F 11) : Zt g zX9_load [.ref 1] hh 1 := by
  have h24 := hS.tk.ok.2.1
  have h01 := hS.tk.ok.1
  have h120 := hS.im
  have hnb := hS.nb
  have hszz := hS.s3
  have hur := hS.ur
  have hnw := hS.nw
  show Zn g zX9_load 0 [some (.ref 1), none] [] hh 1 6 _
  refine zn_aload_n (pc := 0) rfl rfl ?_
  refine zn_iconstN (pc := 1) 2 rfl rfl ?_
  exact zn_callVt (pc := 2) (J := zX9_requireInput) (o := 1) (as := [.int (nI 2)]) (rest := []) rfl rfl rfl rfl hS.t rfl rfl rfl (Nat.le_of_ble_eq_true rfl) (Nat.le_of_ble_eq_true rfl) (Nat.le_of_ble_eq_true rfl) (Nat.le_of_ble_eq_true rfl) (q_rInp_t hS (kd := 2) (by omega) hr) ⟨rfl, rfl⟩
theorem q_insertLine_a {pf : Nat → Option Nat} {now p sz : Nat} {Z : Nat → Nat} (hS : ST hh F z A pf now p Z sz) {l : Nat} (hl : l < z 0) (h9 : z 0 < 24) (hr : mrl (A 5) 1 (F 11) 0 0 0 0 = F 11) : Zm g zX9_insertLine [.ref 1, .int (nI l)] hh 2 3266 (fun r h' => r = .inl (some (.int (nI (z 0 + 1)))) ∧ INV h' (va_up (svF F) 11 0) (mlay (A 5) (F 11) 0 l (mopl z l)) (va_up (svA F z A) 5 (svA F z A 5)) ∧ FRm hh h') := by
  have h24 := hS.tk.ok.2.1
  have h01 := hS.tk.ok.1
  have h120 := hS.im
  have hnb := hS.nb
  have hszz := hS.s3
  have hur := hS.ur
  have hnw := hS.nw
  have h8 := (hS.tk.gl hl).2.1
  have hzl1 := (hS.tk.gl hl).1
  have hs1 := hS.fl.sz hS.tk.ok
  obtain ⟨i1, -⟩ := isl_a hS.tk hS.fl hl h9 hS.ib hr
  obtain ⟨ht2, -, i3⟩ := insl_T hS.ib hS.tk (show l ≤ z 0 by omega) h9 hr
  have i4 := (isl_a hS.tk hS.fl hl h9 hS.ib hr).2.sz ht2.ok
  show Zn g zX9_insertLine 0 [some (.ref 1), some (.int (nI l)), none, none, none, none] [] hh 2 3266 _
  refine zn_aload_n (pc := 0) rfl rfl ?_
  refine zn_callVx (pc := 1) (J := zX9_cells) (o := 1) (as := []) (rest := []) rfl rfl rfl rfl hS.t rfl rfl rfl (Nat.le_of_ble_eq_true rfl) (Nat.le_of_ble_eq_true rfl) (Nat.le_of_ble_eq_true rfl) (Nat.le_of_ble_eq_true rfl) (q_cells hS) ?_
  refine zn_callVx (pc := 4) (J := zX1_lines) (o := 11) (as := []) (rest := []) rfl rfl rfl rfl hS.o11 rfl rfl rfl (Nat.le_of_ble_eq_true rfl) (Nat.le_of_ble_eq_true rfl) (Nat.le_of_ble_eq_true rfl) (Nat.le_of_ble_eq_true rfl) (c_linesK_10 hS.L.c) ?_
  refine zn_istore_n (pc := 7) (L' := [some (.ref 1), some (.int (nI l)), some (.int (nI (z 0))), none, none, none]) rfl (by decide) rfl ?_
  refine zn_iload_n (pc := 8) rfl rfl ?_
  refine zn_if_ltN (pc := 9) (tgt := 17) (x := l) rfl rfl (by omega) ?_
  refine zn_iload_n (pc := 12) rfl rfl ?_
  refine zn_iload_n (pc := 13) rfl rfl ?_
  refine zn_icmp_leN (pc := 14) (tgt := 27) (x := l) (y := (z 0)) rfl rfl (by omega) (by omega) (fun c2 => ?_) (fun c2 => ?_)
  · refine zn_aload_n (pc := 27) rfl rfl ?_
    refine zn_iconstN (pc := 28) 1 rfl rfl ?_
    refine zn_callVx (pc := 29) (J := zX9_requireInput) (o := 1) (as := [.int (nI 1)]) (rest := []) rfl rfl rfl rfl hS.t rfl rfl rfl (Nat.le_of_ble_eq_true rfl) (Nat.le_of_ble_eq_true rfl) (Nat.le_of_ble_eq_true rfl) (Nat.le_of_ble_eq_true rfl) (q_rInp hS (kd := 1) (by omega) hr) ?_
    refine zn_iload_n (pc := 32) rfl rfl ?_
    refine zn_bipushN (pc := 33) 24 rfl rfl ?_
    refine zn_icmp_ltN (pc := 35) (tgt := 48) (x := (z 0)) (y := 24) rfl rfl (by omega) (by omega) (fun c3 => ?_) (fun c3 => ?_)
    · refine zn_iload_n (pc := 48) rfl rfl ?_
      refine zn_iload_n (pc := 49) rfl rfl ?_
      refine zn_icmp_neN (pc := 50) (tgt := 57) (x := l) (y := (z 0)) rfl rfl (by omega) (by omega) (fun c4 => ?_) (fun c4 => ?_)
      · refine zn_iconstN (pc := 57) 0 rfl rfl ?_
        refine zn_istore_n (pc := 58) (L' := [some (.ref 1), some (.int (nI l)), some (.int (nI (z 0))), some (.int (nI 0)), none, none]) rfl (by decide) rfl ?_
        refine zn_iload_n (pc := 59) rfl rfl ?_
        refine zn_if_eqN (pc := 60) (tgt := 76) (x := 0) rfl rfl (by omega) (fun c5 => ?_) (fun c5 => ?_)
        · refine zn_aload_n (pc := 76) rfl rfl ?_
          refine zn_callVx (pc := 77) (J := zX9_cells) (o := 1) (as := []) (rest := []) rfl rfl rfl rfl hS.t rfl rfl rfl (Nat.le_of_ble_eq_true rfl) (Nat.le_of_ble_eq_true rfl) (Nat.le_of_ble_eq_true rfl) (Nat.le_of_ble_eq_true rfl) (q_cells hS) ?_
          refine zn_iload_n (pc := 80) rfl rfl ?_
          refine zn_callVx (pc := 81) (J := zX1_lineStart) (o := 11) (as := [.int (nI l)]) (rest := []) rfl rfl rfl rfl hS.o11 rfl rfl rfl (Nat.le_of_ble_eq_true rfl) (Nat.le_of_ble_eq_true rfl) (Nat.le_of_ble_eq_true rfl) (Nat.le_of_ble_eq_true rfl) (c_lineStart hS.L (l := l) (by omega)) ?_
          refine zn_istore (pc := 84) (L' := [some (.ref 1), some (.int (nI l)), some (.int (nI (z 0))), some (.int (nI 0)), some (.int (nI (CS z l 0))), none]) rfl (by decide) rfl ?_
          refine zn_aload_n (pc := 86) rfl rfl ?_
          refine zn_get (pc := 87) (v := .ref 6) rfl hS.t rfl ?_
          refine zn_callVm (pc := 90) (mc1 := 2) (ms1 := 3266) (mc := 0) (ms := 0) (J := zX3_save) (o := 6) (as := []) (rest := []) rfl rfl rfl rfl hS.h6 rfl rfl rfl (Nat.le_of_ble_eq_true rfl) (Nat.le_of_ble_eq_true rfl) (Nat.le_of_ble_eq_true rfl) (Nat.le_of_ble_eq_true rfl) (q_save hS) (fun E h9 q9 => by obtain ⟨P9, q9, -⟩ := q9; cases q9) ?_
          rintro v1 h1 ⟨P, e1, pf1, now1, Z1, hS1, hfr1, hG1, ⟨nP1, nP2, nP3⟩, hfx1, hpx1⟩
          cases e1
          have hpp1 := hS1.pp
          have hpp0 := hS.pp
          have e11 : svF F 11 = F 11 := svFn (by omega) (by omega)
          have e5 : svA F z A 5 = A 5 := svAn (by omega)
          refine zn_astore (pc := 93) (L' := [some (.ref 1), some (.int (nI l)), some (.int (nI (z 0))), some (.int (nI 0)), some (.int (nI (CS z l 0))), some (.ref P)]) rfl (by decide) rfl ?_
          refine zn_aload (pc := 95) rfl rfl ?_
          refine zn_iload (pc := 97) rfl rfl ?_
          refine zn_bipushN (pc := 99) 10 rfl rfl ?_
          refine zn_callVx (pc := 101) (J := zX7_put) (o := P) (as := [.int (nI (CS z l 0)), .int (nI 10)]) (rest := []) rfl rfl rfl rfl hS1.po rfl rfl rfl (Nat.le_of_ble_eq_true rfl) (Nat.le_of_ble_eq_true rfl) (Nat.le_of_ble_eq_true rfl) (Nat.le_of_ble_eq_true rfl) (q_pput hS1 (a := (CS z l 0)) (x := 10) (by omega) (by omega)) ?_
          refine zn_aload (pc := 104) rfl rfl ?_
          refine zn_iload_n (pc := 106) rfl rfl ?_
          refine zn_if_eqN (pc := 107) (tgt := 117) (x := 0) rfl rfl (by omega) (fun c6 => ?_) (fun c6 => ?_)
          · refine zn_iload (pc := 117) rfl rfl ?_
            refine zn_aload_n (pc := 119) rfl rfl ?_
            refine zn_get (pc := 120) (v := .ref 2) rfl ((pg_n (by omega) (by omega)).trans hS1.t) rfl ?_
            refine zn_callVx (pc := 123) (J := zX7_putInput) (o := P) (as := [.int (nI (CS z l 0)), .ref 2]) (rest := []) rfl rfl rfl rfl pg_o rfl rfl rfl (Nat.le_of_ble_eq_true rfl) (Nat.le_of_ble_eq_true rfl) (Nat.le_of_ble_eq_true rfl) (Nat.le_of_ble_eq_true rfl) (c_putInput (h := h1) (by omega) (by omega) (by omega) (by omega) hS1.im hS1.ib hS1.i2 hS1.i3 (a := (CS z l 0)) (by omega) (by omega)) ?_
            refine zn_aload_n (pc := 126) rfl rfl ?_
            refine zn_get (pc := 127) (v := .ref 2) rfl ((pg_n (by omega) (by omega)).trans hS1.t) rfl ?_
            refine zn_callVx (pc := 130) (J := zX4_empty) (o := 2) (as := []) (rest := []) rfl rfl rfl rfl ((pg_n (by omega) (by omega)).trans hS1.i2) rfl rfl rfl (Nat.le_of_ble_eq_true rfl) (Nat.le_of_ble_eq_true rfl) (Nat.le_of_ble_eq_true rfl) (Nat.le_of_ble_eq_true rfl) (q_iemptyG ((pg_n (by omega) (by omega)).trans hS1.i2) ((pg_n (by omega) (by omega)).trans hS1.i3)) ?_
            refine zn_pop (pc := 133) rfl rfl ?_
            refine zn_aload_n (pc := 134) rfl rfl ?_
            refine zn_aload_n (pc := 135) rfl rfl ?_
            refine zn_get (pc := 136) (v := .ref 10) rfl ((pg_n (by omega) (by omega)).trans ((pg_n (by omega) (by omega)).trans hS1.t)) rfl ?_
            refine zn_callVm (pc := 139) (mc1 := 0) (ms1 := 0) (mc := 0) (ms := 0) (J := zX9_measure) (o := 1) (as := [.ref 10]) (rest := []) rfl rfl rfl rfl ((pg_n (by omega) (by omega)).trans ((pg_n (by omega) (by omega)).trans hS1.t)) rfl rfl rfl (Nat.le_of_ble_eq_true rfl) (Nat.le_of_ble_eq_true rfl) (Nat.le_of_ble_eq_true rfl) (Nat.le_of_ble_eq_true rfl) (q_measure ((hS1.1.1.edit (Z2 := zpi (va_up (va_cpy Z1 Z1 (CS z l 0) ((CS z l 0) + 1) (sz - (CS z l 0))) (CS z l 0) 10) (CS z l 0) ((svF F) 11) (sz + 1) ((svA F z A) 5) ((svF F) 11)) (sz2 := (sz + 1) + ((svF F) 11)) (z2 := mlay (A 5) (F 11) 0 l (mopl z l)) (by rw [e11, e5]; exact (isl_a hS.tk hS1.fl hl h9 hS.ib hr).2) ht2 (zb_pi (zb_up (zb_cpy hS1.Zb hS1.Zb) (by omega)) hS1.ib) (by omega)).input (m := 0) (by omega) hS1.ib)) (fun E h9 q9 => by cases q9.1) ?_
            rintro v3 h3 ⟨e1, hI3, hM3⟩
            cases e1
            obtain ⟨Z3, s3, hS3⟩ := ST.of hI3
            refine zn_aload_n (pc := 142) rfl rfl ?_
            refine zn_callVx (pc := 143) (J := zX9_cells) (o := 1) (as := []) (rest := []) rfl rfl rfl rfl hS3.t rfl rfl rfl (Nat.le_of_ble_eq_true rfl) (Nat.le_of_ble_eq_true rfl) (Nat.le_of_ble_eq_true rfl) (Nat.le_of_ble_eq_true rfl) (q_cells hS3) ?_
            refine zn_callVx (pc := 146) (J := zX1_lines) (o := 11) (as := []) (rest := []) rfl rfl rfl rfl hS3.o11 rfl rfl rfl (Nat.le_of_ble_eq_true rfl) (Nat.le_of_ble_eq_true rfl) (Nat.le_of_ble_eq_true rfl) (Nat.le_of_ble_eq_true rfl) (c_linesK_10 hS3.L.c) ?_
            exact zn_iret (pc := 149) rfl rfl ⟨by rw [i3], hS3.inv, (hfr1.trans (hS1.1.1.edit_fr.trans (input_fr.trans (hM3.frm (Or.inl rfl)))))⟩
          · exact absurd c6 (by decide)
        · exact absurd c5 (by decide)
      · exfalso; omega
    · exfalso; omega
  · exfalso; omega
theorem q_insertLine_b {pf : Nat → Option Nat} {now p sz : Nat} {Z : Nat → Nat} (hS : ST hh F z A pf now p Z sz) {l : Nat} (hl : l = z 0) (h9 : z 0 < 24) (hr : mrl (A 5) 1 (F 11) 0 0 0 0 = F 11) : Zm g zX9_insertLine [.ref 1, .int (nI l)] hh 2 3266 (fun r h' => r = .inl (some (.int (nI (z 0 + 1)))) ∧ INV h' (va_up (svF F) 11 0) (mlay (A 5) (F 11) 0 l (mopl z l)) (va_up (svA F z A) 5 (svA F z A 5)) ∧ FRm hh h') := by
  have h24 := hS.tk.ok.2.1
  have h01 := hS.tk.ok.1
  have h120 := hS.im
  have hnb := hS.nb
  have hszz := hS.s3
  have hur := hS.ur
  have hnw := hS.nw
  have hs1 := hS.fl.sz hS.tk.ok
  obtain ⟨ht2, -, i3⟩ := insl_T hS.ib hS.tk (show l ≤ z 0 by omega) h9 hr
  have i4 := (isl_b hS.tk hS.fl hl h9 hS.ib hr).sz ht2.ok
  show Zn g zX9_insertLine 0 [some (.ref 1), some (.int (nI l)), none, none, none, none] [] hh 2 3266 _
  refine zn_aload_n (pc := 0) rfl rfl ?_
  refine zn_callVx (pc := 1) (J := zX9_cells) (o := 1) (as := []) (rest := []) rfl rfl rfl rfl hS.t rfl rfl rfl (Nat.le_of_ble_eq_true rfl) (Nat.le_of_ble_eq_true rfl) (Nat.le_of_ble_eq_true rfl) (Nat.le_of_ble_eq_true rfl) (q_cells hS) ?_
  refine zn_callVx (pc := 4) (J := zX1_lines) (o := 11) (as := []) (rest := []) rfl rfl rfl rfl hS.o11 rfl rfl rfl (Nat.le_of_ble_eq_true rfl) (Nat.le_of_ble_eq_true rfl) (Nat.le_of_ble_eq_true rfl) (Nat.le_of_ble_eq_true rfl) (c_linesK_10 hS.L.c) ?_
  refine zn_istore_n (pc := 7) (L' := [some (.ref 1), some (.int (nI l)), some (.int (nI (z 0))), none, none, none]) rfl (by decide) rfl ?_
  refine zn_iload_n (pc := 8) rfl rfl ?_
  refine zn_if_ltN (pc := 9) (tgt := 17) (x := l) rfl rfl (by omega) ?_
  refine zn_iload_n (pc := 12) rfl rfl ?_
  refine zn_iload_n (pc := 13) rfl rfl ?_
  refine zn_icmp_leN (pc := 14) (tgt := 27) (x := l) (y := (z 0)) rfl rfl (by omega) (by omega) (fun c2 => ?_) (fun c2 => ?_)
  · refine zn_aload_n (pc := 27) rfl rfl ?_
    refine zn_iconstN (pc := 28) 1 rfl rfl ?_
    refine zn_callVx (pc := 29) (J := zX9_requireInput) (o := 1) (as := [.int (nI 1)]) (rest := []) rfl rfl rfl rfl hS.t rfl rfl rfl (Nat.le_of_ble_eq_true rfl) (Nat.le_of_ble_eq_true rfl) (Nat.le_of_ble_eq_true rfl) (Nat.le_of_ble_eq_true rfl) (q_rInp hS (kd := 1) (by omega) hr) ?_
    refine zn_iload_n (pc := 32) rfl rfl ?_
    refine zn_bipushN (pc := 33) 24 rfl rfl ?_
    refine zn_icmp_ltN (pc := 35) (tgt := 48) (x := (z 0)) (y := 24) rfl rfl (by omega) (by omega) (fun c3 => ?_) (fun c3 => ?_)
    · refine zn_iload_n (pc := 48) rfl rfl ?_
      refine zn_iload_n (pc := 49) rfl rfl ?_
      refine zn_icmp_neN (pc := 50) (tgt := 57) (x := l) (y := (z 0)) rfl rfl (by omega) (by omega) (fun c4 => ?_) (fun c4 => ?_)
      · exfalso; omega
      · refine zn_iconstN (pc := 53) 1 rfl rfl ?_
        refine zn_goto (pc := 54) (tgt := 58) rfl rfl ?_
        refine zn_istore_n (pc := 58) (L' := [some (.ref 1), some (.int (nI l)), some (.int (nI (z 0))), some (.int (nI 1)), none, none]) rfl (by decide) rfl ?_
        refine zn_iload_n (pc := 59) rfl rfl ?_
        refine zn_if_eqN (pc := 60) (tgt := 76) (x := 1) rfl rfl (by omega) (fun c5 => ?_) (fun c5 => ?_)
        · exact absurd c5 (by decide)
        · refine zn_aload_n (pc := 63) rfl rfl ?_
          refine zn_get (pc := 64) (v := .ref 6) rfl hS.t rfl ?_
          refine zn_callVx (pc := 67) (J := zX3_page) (o := 6) (as := []) (rest := []) rfl rfl rfl rfl hS.h6 rfl rfl rfl (Nat.le_of_ble_eq_true rfl) (Nat.le_of_ble_eq_true rfl) (Nat.le_of_ble_eq_true rfl) (Nat.le_of_ble_eq_true rfl) (q_page hS) ?_
          refine zn_callVx (pc := 70) (J := zX7_size) (o := p) (as := []) (rest := []) rfl rfl rfl rfl hS.po rfl rfl rfl (Nat.le_of_ble_eq_true rfl) (Nat.le_of_ble_eq_true rfl) (Nat.le_of_ble_eq_true rfl) (Nat.le_of_ble_eq_true rfl) (c_psize hS.po) ?_
          refine zn_goto (pc := 73) (tgt := 84) rfl rfl ?_
          refine zn_istore (pc := 84) (L' := [some (.ref 1), some (.int (nI l)), some (.int (nI (z 0))), some (.int (nI 1)), some (.int (nI sz)), none]) rfl (by decide) rfl ?_
          refine zn_aload_n (pc := 86) rfl rfl ?_
          refine zn_get (pc := 87) (v := .ref 6) rfl hS.t rfl ?_
          refine zn_callVm (pc := 90) (mc1 := 2) (ms1 := 3266) (mc := 0) (ms := 0) (J := zX3_save) (o := 6) (as := []) (rest := []) rfl rfl rfl rfl hS.h6 rfl rfl rfl (Nat.le_of_ble_eq_true rfl) (Nat.le_of_ble_eq_true rfl) (Nat.le_of_ble_eq_true rfl) (Nat.le_of_ble_eq_true rfl) (q_save hS) (fun E h9 q9 => by obtain ⟨P9, q9, -⟩ := q9; cases q9) ?_
          rintro v1 h1 ⟨P, e1, pf1, now1, Z1, hS1, hfr1, hG1, ⟨nP1, nP2, nP3⟩, hfx1, hpx1⟩
          cases e1
          have hpp1 := hS1.pp
          have hpp0 := hS.pp
          have e11 : svF F 11 = F 11 := svFn (by omega) (by omega)
          have e5 : svA F z A 5 = A 5 := svAn (by omega)
          refine zn_astore (pc := 93) (L' := [some (.ref 1), some (.int (nI l)), some (.int (nI (z 0))), some (.int (nI 1)), some (.int (nI sz)), some (.ref P)]) rfl (by decide) rfl ?_
          refine zn_aload (pc := 95) rfl rfl ?_
          refine zn_iload (pc := 97) rfl rfl ?_
          refine zn_bipushN (pc := 99) 10 rfl rfl ?_
          refine zn_callVx (pc := 101) (J := zX7_put) (o := P) (as := [.int (nI sz), .int (nI 10)]) (rest := []) rfl rfl rfl rfl hS1.po rfl rfl rfl (Nat.le_of_ble_eq_true rfl) (Nat.le_of_ble_eq_true rfl) (Nat.le_of_ble_eq_true rfl) (Nat.le_of_ble_eq_true rfl) (q_pput hS1 (a := sz) (x := 10) (by omega) (by omega)) ?_
          refine zn_aload (pc := 104) rfl rfl ?_
          refine zn_iload_n (pc := 106) rfl rfl ?_
          refine zn_if_eqN (pc := 107) (tgt := 117) (x := 1) rfl rfl (by omega) (fun c6 => ?_) (fun c6 => ?_)
          · exact absurd c6 (by decide)
          · refine zn_iload (pc := 110) rfl rfl ?_
            refine zn_iconstN (pc := 112) 1 rfl rfl ?_
            refine zn_iaddN (pc := 113) (x := sz) (y := 1) rfl ?_
            refine zn_goto (pc := 114) (tgt := 119) rfl rfl ?_
            refine zn_aload_n (pc := 119) rfl rfl ?_
            refine zn_get (pc := 120) (v := .ref 2) rfl ((pg_n (by omega) (by omega)).trans hS1.t) rfl ?_
            refine zn_callVx (pc := 123) (J := zX7_putInput) (o := P) (as := [.int (nI (sz + 1)), .ref 2]) (rest := []) rfl rfl rfl rfl pg_o rfl rfl rfl (Nat.le_of_ble_eq_true rfl) (Nat.le_of_ble_eq_true rfl) (Nat.le_of_ble_eq_true rfl) (Nat.le_of_ble_eq_true rfl) (c_putInput (h := h1) (by omega) (by omega) (by omega) (by omega) hS1.im hS1.ib hS1.i2 hS1.i3 (a := (sz + 1)) (by omega) (by omega)) ?_
            refine zn_aload_n (pc := 126) rfl rfl ?_
            refine zn_get (pc := 127) (v := .ref 2) rfl ((pg_n (by omega) (by omega)).trans hS1.t) rfl ?_
            refine zn_callVx (pc := 130) (J := zX4_empty) (o := 2) (as := []) (rest := []) rfl rfl rfl rfl ((pg_n (by omega) (by omega)).trans hS1.i2) rfl rfl rfl (Nat.le_of_ble_eq_true rfl) (Nat.le_of_ble_eq_true rfl) (Nat.le_of_ble_eq_true rfl) (Nat.le_of_ble_eq_true rfl) (q_iemptyG ((pg_n (by omega) (by omega)).trans hS1.i2) ((pg_n (by omega) (by omega)).trans hS1.i3)) ?_
            refine zn_pop (pc := 133) rfl rfl ?_
            refine zn_aload_n (pc := 134) rfl rfl ?_
            refine zn_aload_n (pc := 135) rfl rfl ?_
            refine zn_get (pc := 136) (v := .ref 10) rfl ((pg_n (by omega) (by omega)).trans ((pg_n (by omega) (by omega)).trans hS1.t)) rfl ?_
            refine zn_callVm (pc := 139) (mc1 := 0) (ms1 := 0) (mc := 0) (ms := 0) (J := zX9_measure) (o := 1) (as := [.ref 10]) (rest := []) rfl rfl rfl rfl ((pg_n (by omega) (by omega)).trans ((pg_n (by omega) (by omega)).trans hS1.t)) rfl rfl rfl (Nat.le_of_ble_eq_true rfl) (Nat.le_of_ble_eq_true rfl) (Nat.le_of_ble_eq_true rfl) (Nat.le_of_ble_eq_true rfl) (q_measure ((hS1.1.1.edit (Z2 := zpi (va_up (va_cpy Z1 Z1 sz (sz + 1) (sz - sz)) sz 10) (sz + 1) ((svF F) 11) (sz + 1) ((svA F z A) 5) ((svF F) 11)) (sz2 := (sz + 1) + ((svF F) 11)) (z2 := mlay (A 5) (F 11) 0 l (mopl z l)) (by rw [e11, e5]; exact isl_b hS.tk hS1.fl hl h9 hS.ib hr) ht2 (zb_pi (zb_up (zb_cpy hS1.Zb hS1.Zb) (by omega)) hS1.ib) (by omega)).input (m := 0) (by omega) hS1.ib)) (fun E h9 q9 => by cases q9.1) ?_
            rintro v3 h3 ⟨e1, hI3, hM3⟩
            cases e1
            obtain ⟨Z3, s3, hS3⟩ := ST.of hI3
            refine zn_aload_n (pc := 142) rfl rfl ?_
            refine zn_callVx (pc := 143) (J := zX9_cells) (o := 1) (as := []) (rest := []) rfl rfl rfl rfl hS3.t rfl rfl rfl (Nat.le_of_ble_eq_true rfl) (Nat.le_of_ble_eq_true rfl) (Nat.le_of_ble_eq_true rfl) (Nat.le_of_ble_eq_true rfl) (q_cells hS3) ?_
            refine zn_callVx (pc := 146) (J := zX1_lines) (o := 11) (as := []) (rest := []) rfl rfl rfl rfl hS3.o11 rfl rfl rfl (Nat.le_of_ble_eq_true rfl) (Nat.le_of_ble_eq_true rfl) (Nat.le_of_ble_eq_true rfl) (Nat.le_of_ble_eq_true rfl) (c_linesK_10 hS3.L.c) ?_
            exact zn_iret (pc := 149) rfl rfl ⟨by rw [i3], hS3.inv, (hfr1.trans (hS1.1.1.edit_fr.trans (input_fr.trans (hM3.frm (Or.inl rfl)))))⟩
    · exfalso; omega
  · exfalso; omega
theorem q_insertLine_1 {pf : Nat → Option Nat} {now p sz : Nat} {Z : Nat → Nat} (hS : ST hh F z A pf now p Z sz) {x : Int32} (hx : ¬ (nI 0 ≤ x ∧ x ≤ nI (z 0))) : Zt g zX9_insertLine [.ref 1, .int x] hh 2 := by
  have h24 := hS.tk.ok.2.1
  have h01 := hS.tk.ok.1
  have h120 := hS.im
  have hnb := hS.nb
  have hszz := hS.s3
  have hur := hS.ur
  have hnw := hS.nw
  show Zn g zX9_insertLine 0 [some (.ref 1), some (.int x), none, none, none, none] [] hh 1 6 _
  refine zn_aload_n (pc := 0) rfl rfl ?_
  refine zn_callVx (pc := 1) (J := zX9_cells) (o := 1) (as := []) (rest := []) rfl rfl rfl rfl hS.t rfl rfl rfl (Nat.le_of_ble_eq_true rfl) (Nat.le_of_ble_eq_true rfl) (Nat.le_of_ble_eq_true rfl) (Nat.le_of_ble_eq_true rfl) (q_cells hS) ?_
  refine zn_callVx (pc := 4) (J := zX1_lines) (o := 11) (as := []) (rest := []) rfl rfl rfl rfl hS.o11 rfl rfl rfl (Nat.le_of_ble_eq_true rfl) (Nat.le_of_ble_eq_true rfl) (Nat.le_of_ble_eq_true rfl) (Nat.le_of_ble_eq_true rfl) (c_linesK_10 hS.L.c) ?_
  refine zn_istore_n (pc := 7) (L' := [some (.ref 1), some (.int x), some (.int (nI (z 0))), none, none, none]) rfl (by decide) rfl ?_
  refine zn_iload_n (pc := 8) rfl rfl ?_
  refine zn_if_lt (pc := 9) (tgt := 17) (x := x) rfl rfl (fun c1 => ?_) (fun c1 => ?_)
  · have k0 := c1
    exact zn_throw (pc := 17) (E := 2) rfl (Nat.le_of_ble_eq_true rfl) (Nat.le_of_ble_eq_true rfl) ⟨rfl, rfl⟩
  · have k0 := c1
    refine zn_iload_n (pc := 12) rfl rfl ?_
    refine zn_iload_n (pc := 13) rfl rfl ?_
    refine zn_icmp_le (pc := 14) (tgt := 27) (x := x) (y := (nI (z 0))) rfl rfl (fun c2 => ?_) (fun c2 => ?_)
    · exact absurd ⟨i_nn k0, c2⟩ hx
    · exact zn_throw (pc := 17) (E := 2) rfl (Nat.le_of_ble_eq_true rfl) (Nat.le_of_ble_eq_true rfl) ⟨rfl, rfl⟩
theorem q_insertLine_2 {pf : Nat → Option Nat} {now p sz : Nat} {Z : Nat → Nat} (hS : ST hh F z A pf now p Z sz) {l : Nat} (hl : l ≤ z 0) (hr : ¬ mrl (A 5) 1 (F 11) 0 0 0 0 = F 11) : Zt g zX9_insertLine [.ref 1, .int (nI l)] hh 1 := by
  have h24 := hS.tk.ok.2.1
  have h01 := hS.tk.ok.1
  have h120 := hS.im
  have hnb := hS.nb
  have hszz := hS.s3
  have hur := hS.ur
  have hnw := hS.nw
  show Zn g zX9_insertLine 0 [some (.ref 1), some (.int (nI l)), none, none, none, none] [] hh 1 6 _
  refine zn_aload_n (pc := 0) rfl rfl ?_
  refine zn_callVx (pc := 1) (J := zX9_cells) (o := 1) (as := []) (rest := []) rfl rfl rfl rfl hS.t rfl rfl rfl (Nat.le_of_ble_eq_true rfl) (Nat.le_of_ble_eq_true rfl) (Nat.le_of_ble_eq_true rfl) (Nat.le_of_ble_eq_true rfl) (q_cells hS) ?_
  refine zn_callVx (pc := 4) (J := zX1_lines) (o := 11) (as := []) (rest := []) rfl rfl rfl rfl hS.o11 rfl rfl rfl (Nat.le_of_ble_eq_true rfl) (Nat.le_of_ble_eq_true rfl) (Nat.le_of_ble_eq_true rfl) (Nat.le_of_ble_eq_true rfl) (c_linesK_10 hS.L.c) ?_
  refine zn_istore_n (pc := 7) (L' := [some (.ref 1), some (.int (nI l)), some (.int (nI (z 0))), none, none, none]) rfl (by decide) rfl ?_
  refine zn_iload_n (pc := 8) rfl rfl ?_
  refine zn_if_ltN (pc := 9) (tgt := 17) (x := l) rfl rfl (by omega) ?_
  refine zn_iload_n (pc := 12) rfl rfl ?_
  refine zn_iload_n (pc := 13) rfl rfl ?_
  refine zn_icmp_leN (pc := 14) (tgt := 27) (x := l) (y := (z 0)) rfl rfl (by omega) (by omega) (fun c2 => ?_) (fun c2 => ?_)
  · refine zn_aload_n (pc := 27) rfl rfl ?_
    refine zn_iconstN (pc := 28) 1 rfl rfl ?_
    exact zn_callVt (pc := 29) (J := zX9_requireInput) (o := 1) (as := [.int (nI 1)]) (rest := []) rfl rfl rfl rfl hS.t rfl rfl rfl (Nat.le_of_ble_eq_true rfl) (Nat.le_of_ble_eq_true rfl) (Nat.le_of_ble_eq_true rfl) (Nat.le_of_ble_eq_true rfl) (q_rInp_t hS (kd := 1) (by omega) hr) ⟨rfl, rfl⟩
  · exfalso; omega
theorem q_insertLine_3 {pf : Nat → Option Nat} {now p sz : Nat} {Z : Nat → Nat} (hS : ST hh F z A pf now p Z sz) {l : Nat} (hl : l ≤ z 0) (hr : mrl (A 5) 1 (F 11) 0 0 0 0 = F 11) (h9 : ¬ z 0 < 24) : Zt g zX9_insertLine [.ref 1, .int (nI l)] hh 1 := by
  have h24 := hS.tk.ok.2.1
  have h01 := hS.tk.ok.1
  have h120 := hS.im
  have hnb := hS.nb
  have hszz := hS.s3
  have hur := hS.ur
  have hnw := hS.nw
  show Zn g zX9_insertLine 0 [some (.ref 1), some (.int (nI l)), none, none, none, none] [] hh 1 6 _
  refine zn_aload_n (pc := 0) rfl rfl ?_
  refine zn_callVx (pc := 1) (J := zX9_cells) (o := 1) (as := []) (rest := []) rfl rfl rfl rfl hS.t rfl rfl rfl (Nat.le_of_ble_eq_true rfl) (Nat.le_of_ble_eq_true rfl) (Nat.le_of_ble_eq_true rfl) (Nat.le_of_ble_eq_true rfl) (q_cells hS) ?_
  refine zn_callVx (pc := 4) (J := zX1_lines) (o := 11) (as := []) (rest := []) rfl rfl rfl rfl hS.o11 rfl rfl rfl (Nat.le_of_ble_eq_true rfl) (Nat.le_of_ble_eq_true rfl) (Nat.le_of_ble_eq_true rfl) (Nat.le_of_ble_eq_true rfl) (c_linesK_10 hS.L.c) ?_
  refine zn_istore_n (pc := 7) (L' := [some (.ref 1), some (.int (nI l)), some (.int (nI (z 0))), none, none, none]) rfl (by decide) rfl ?_
  refine zn_iload_n (pc := 8) rfl rfl ?_
  refine zn_if_ltN (pc := 9) (tgt := 17) (x := l) rfl rfl (by omega) ?_
  refine zn_iload_n (pc := 12) rfl rfl ?_
  refine zn_iload_n (pc := 13) rfl rfl ?_
  refine zn_icmp_leN (pc := 14) (tgt := 27) (x := l) (y := (z 0)) rfl rfl (by omega) (by omega) (fun c2 => ?_) (fun c2 => ?_)
  · refine zn_aload_n (pc := 27) rfl rfl ?_
    refine zn_iconstN (pc := 28) 1 rfl rfl ?_
    refine zn_callVx (pc := 29) (J := zX9_requireInput) (o := 1) (as := [.int (nI 1)]) (rest := []) rfl rfl rfl rfl hS.t rfl rfl rfl (Nat.le_of_ble_eq_true rfl) (Nat.le_of_ble_eq_true rfl) (Nat.le_of_ble_eq_true rfl) (Nat.le_of_ble_eq_true rfl) (q_rInp hS (kd := 1) (by omega) hr) ?_
    refine zn_iload_n (pc := 32) rfl rfl ?_
    refine zn_bipushN (pc := 33) 24 rfl rfl ?_
    refine zn_icmp_ltN (pc := 35) (tgt := 48) (x := (z 0)) (y := 24) rfl rfl (by omega) (by omega) (fun c3 => ?_) (fun c3 => ?_)
    · exfalso; omega
    · exact zn_throw (pc := 38) (E := 1) rfl (Nat.le_of_ble_eq_true rfl) (Nat.le_of_ble_eq_true rfl) ⟨rfl, rfl⟩
  · exfalso; omega
theorem q_removeLine_a {pf : Nat → Option Nat} {now p sz : Nat} {Z : Nat → Nat} (hS : ST hh F z A pf now p Z sz) {l : Nat} (hl1 : l + 1 < z 0) : Zm g zX9_removeLine [.ref 1, .int (nI l)] hh 2 3266 (fun r h' => r = .inl (some (.int (nI (z 0 - 1)))) ∧ INV h' (svF F) (mcll z l) (svA F z A) ∧ FRm hh h') := by
  have hl : l < z 0 := by omega
  have h24 := hS.tk.ok.2.1
  have h01 := hS.tk.ok.1
  have h120 := hS.im
  have hnb := hS.nb
  have hszz := hS.s3
  have hur := hS.ur
  have hnw := hS.nw
  have h8 := (hS.tk.gl hl).2.1
  have hzl1 := (hS.tk.gl hl).1
  have hs1 := hS.fl.sz hS.tk.ok
  have lq := LE_eq (z := z) hzl1
  have lp := csL_pos hzl1
  obtain ⟨c1, -⟩ := rml_a hS.tk hS.fl hl1
  obtain ⟨ht2, -⟩ := cll_T hS.tk hl (by omega)
  show Zn g zX9_removeLine 0 [some (.ref 1), some (.int (nI l)), none, none, none] [] hh 2 3266 _
  refine zn_aload_n (pc := 0) rfl rfl ?_
  refine zn_iload_n (pc := 1) rfl rfl ?_
  refine zn_callVx (pc := 2) (J := zX9_requireLine) (o := 1) (as := [.int (nI l)]) (rest := []) rfl rfl rfl rfl hS.t rfl rfl rfl (Nat.le_of_ble_eq_true rfl) (Nat.le_of_ble_eq_true rfl) (Nat.le_of_ble_eq_true rfl) (Nat.le_of_ble_eq_true rfl) (q_rLine hS (x := (nI l)) ((zin_nI (by omega)).mpr (by omega))) ?_
  refine zn_aload_n (pc := 5) rfl rfl ?_
  refine zn_callVx (pc := 6) (J := zX9_cells) (o := 1) (as := []) (rest := []) rfl rfl rfl rfl hS.t rfl rfl rfl (Nat.le_of_ble_eq_true rfl) (Nat.le_of_ble_eq_true rfl) (Nat.le_of_ble_eq_true rfl) (Nat.le_of_ble_eq_true rfl) (q_cells hS) ?_
  refine zn_callVx (pc := 9) (J := zX1_lines) (o := 11) (as := []) (rest := []) rfl rfl rfl rfl hS.o11 rfl rfl rfl (Nat.le_of_ble_eq_true rfl) (Nat.le_of_ble_eq_true rfl) (Nat.le_of_ble_eq_true rfl) (Nat.le_of_ble_eq_true rfl) (c_linesK_10 hS.L.c) ?_
  refine zn_iconstN (pc := 12) 1 rfl rfl ?_
  refine zn_icmp_gtN (pc := 13) (tgt := 26) (x := (z 0)) (y := 1) rfl rfl (by omega) (by omega) (fun c1 => ?_) (fun c1 => ?_)
  · refine zn_iload_n (pc := 26) rfl rfl ?_
    refine zn_aload_n (pc := 27) rfl rfl ?_
    refine zn_callVx (pc := 28) (J := zX9_cells) (o := 1) (as := []) (rest := [.int (nI l)]) rfl rfl rfl rfl hS.t rfl rfl rfl (Nat.le_of_ble_eq_true rfl) (Nat.le_of_ble_eq_true rfl) (Nat.le_of_ble_eq_true rfl) (Nat.le_of_ble_eq_true rfl) (q_cells hS) ?_
    refine zn_callVx (pc := 31) (J := zX1_lines) (o := 11) (as := []) (rest := [.int (nI l)]) rfl rfl rfl rfl hS.o11 rfl rfl rfl (Nat.le_of_ble_eq_true rfl) (Nat.le_of_ble_eq_true rfl) (Nat.le_of_ble_eq_true rfl) (Nat.le_of_ble_eq_true rfl) (c_linesK_10 hS.L.c) ?_
    refine zn_iconstN (pc := 34) 1 rfl rfl ?_
    refine zn_isubN (pc := 35) (x := (z 0)) (y := 1) rfl (by omega) ?_
    refine zn_icmp_neN (pc := 36) (tgt := 43) (x := l) (y := ((z 0) - 1)) rfl rfl (by omega) (by omega) (fun c2 => ?_) (fun c2 => ?_)
    · refine zn_iconstN (pc := 43) 0 rfl rfl ?_
      refine zn_istore_n (pc := 44) (L' := [some (.ref 1), some (.int (nI l)), some (.int (nI 0)), none, none]) rfl (by decide) rfl ?_
      refine zn_aload_n (pc := 45) rfl rfl ?_
      refine zn_callVx (pc := 46) (J := zX9_cells) (o := 1) (as := []) (rest := []) rfl rfl rfl rfl hS.t rfl rfl rfl (Nat.le_of_ble_eq_true rfl) (Nat.le_of_ble_eq_true rfl) (Nat.le_of_ble_eq_true rfl) (Nat.le_of_ble_eq_true rfl) (q_cells hS) ?_
      refine zn_iload_n (pc := 49) rfl rfl ?_
      refine zn_callVx (pc := 50) (J := zX1_lineStart) (o := 11) (as := [.int (nI l)]) (rest := []) rfl rfl rfl rfl hS.o11 rfl rfl rfl (Nat.le_of_ble_eq_true rfl) (Nat.le_of_ble_eq_true rfl) (Nat.le_of_ble_eq_true rfl) (Nat.le_of_ble_eq_true rfl) (c_lineStart hS.L (l := l) (by omega)) ?_
      refine zn_istore_n (pc := 53) (L' := [some (.ref 1), some (.int (nI l)), some (.int (nI 0)), some (.int (nI (CS z l 0))), none]) rfl (by decide) rfl ?_
      refine zn_aload_n (pc := 54) rfl rfl ?_
      refine zn_callVx (pc := 55) (J := zX9_cells) (o := 1) (as := []) (rest := []) rfl rfl rfl rfl hS.t rfl rfl rfl (Nat.le_of_ble_eq_true rfl) (Nat.le_of_ble_eq_true rfl) (Nat.le_of_ble_eq_true rfl) (Nat.le_of_ble_eq_true rfl) (q_cells hS) ?_
      refine zn_iload_n (pc := 58) rfl rfl ?_
      refine zn_callVx (pc := 59) (J := zX1_lineEnd) (o := 11) (as := [.int (nI l)]) (rest := []) rfl rfl rfl rfl hS.o11 rfl rfl rfl (Nat.le_of_ble_eq_true rfl) (Nat.le_of_ble_eq_true rfl) (Nat.le_of_ble_eq_true rfl) (Nat.le_of_ble_eq_true rfl) (c_lineEnd hS.L (l := l) (by omega)) ?_
      refine zn_iload_n (pc := 62) rfl rfl ?_
      refine zn_isubN (pc := 63) (x := (CS z l (z (1 + l) - 1) + z (25 + 8 * l + (z (1 + l) - 1)))) (y := (CS z l 0)) rfl (by omega) ?_
      refine zn_istore (pc := 64) (L' := [some (.ref 1), some (.int (nI l)), some (.int (nI 0)), some (.int (nI (CS z l 0))), some (.int (nI ((CS z l (z (1 + l) - 1) + z (25 + 8 * l + (z (1 + l) - 1))) - (CS z l 0))))]) rfl (by decide) rfl ?_
      refine zn_aload_n (pc := 66) rfl rfl ?_
      refine zn_get (pc := 67) (v := .ref 6) rfl hS.t rfl ?_
      refine zn_callVm (pc := 70) (mc1 := 2) (ms1 := 3266) (mc := 0) (ms := 0) (J := zX3_save) (o := 6) (as := []) (rest := []) rfl rfl rfl rfl hS.h6 rfl rfl rfl (Nat.le_of_ble_eq_true rfl) (Nat.le_of_ble_eq_true rfl) (Nat.le_of_ble_eq_true rfl) (Nat.le_of_ble_eq_true rfl) (q_save hS) (fun E h9 q9 => by obtain ⟨P9, q9, -⟩ := q9; cases q9) ?_
      rintro v1 h1 ⟨P, e1, pf1, now1, Z1, hS1, hfr1, hG1, ⟨nP1, nP2, nP3⟩, hfx1, hpx1⟩
      cases e1
      have hpp1 := hS1.pp
      have hpp0 := hS.pp
      have e11 : svF F 11 = F 11 := svFn (by omega) (by omega)
      have e5 : svA F z A 5 = A 5 := svAn (by omega)
      refine zn_iload_n (pc := 73) rfl rfl ?_
      refine zn_if_eqN (pc := 74) (tgt := 83) (x := 0) rfl rfl (by omega) (fun c3 => ?_) (fun c3 => ?_)
      · refine zn_iload_n (pc := 83) rfl rfl ?_
        refine zn_iload (pc := 84) rfl rfl ?_
        refine zn_iconstN (pc := 86) 1 rfl rfl ?_
        refine zn_iaddN (pc := 87) (x := ((CS z l (z (1 + l) - 1) + z (25 + 8 * l + (z (1 + l) - 1))) - (CS z l 0))) (y := 1) rfl ?_
        refine zn_callVx (pc := 88) (J := zX7_cut) (o := P) (as := [.int (nI (CS z l 0)), .int (nI (((CS z l (z (1 + l) - 1) + z (25 + 8 * l + (z (1 + l) - 1))) - (CS z l 0)) + 1))]) (rest := []) rfl rfl rfl rfl hS1.po rfl rfl rfl (Nat.le_of_ble_eq_true rfl) (Nat.le_of_ble_eq_true rfl) (Nat.le_of_ble_eq_true rfl) (Nat.le_of_ble_eq_true rfl) (q_pcut hS1 (a := (CS z l 0)) (n := (((CS z l (z (1 + l) - 1) + z (25 + 8 * l + (z (1 + l) - 1))) - (CS z l 0)) + 1)) (by omega)) ?_
        refine zn_aload_n (pc := 91) rfl rfl ?_
        refine zn_aload_n (pc := 92) rfl rfl ?_
        refine zn_get (pc := 93) (v := .ref 10) rfl ((pg_n (by omega) (by omega)).trans hS1.t) rfl ?_
        refine zn_callVm (pc := 96) (mc1 := 0) (ms1 := 0) (mc := 0) (ms := 0) (J := zX9_measure) (o := 1) (as := [.ref 10]) (rest := []) rfl rfl rfl rfl ((pg_n (by omega) (by omega)).trans hS1.t) rfl rfl rfl (Nat.le_of_ble_eq_true rfl) (Nat.le_of_ble_eq_true rfl) (Nat.le_of_ble_eq_true rfl) (Nat.le_of_ble_eq_true rfl) (q_measure (hS1.1.1.edit (Z2 := va_cpy Z1 Z1 ((CS z l 0) + (((CS z l (z (1 + l) - 1) + z (25 + 8 * l + (z (1 + l) - 1))) - (CS z l 0)) + 1)) (CS z l 0) (sz - (CS z l 0) - (((CS z l (z (1 + l) - 1) + z (25 + 8 * l + (z (1 + l) - 1))) - (CS z l 0)) + 1))) (sz2 := sz - (((CS z l (z (1 + l) - 1) + z (25 + 8 * l + (z (1 + l) - 1))) - (CS z l 0)) + 1)) (z2 := mcll z l) (by rw [show CS z l (z (1 + l) - 1) + z (25 + 8 * l + (z (1 + l) - 1)) - CS z l 0 + 1 = csL z l (z (1 + l)) by omega]; exact (rml_a hS.tk hS1.fl hl1).2) ht2 (zb_cpy hS1.Zb hS1.Zb) (by omega))) (fun E h9 q9 => by cases q9.1) ?_
        rintro v3 h3 ⟨e1, hI3, hM3⟩
        cases e1
        obtain ⟨Z3, s3, hS3⟩ := ST.of hI3
        refine zn_aload_n (pc := 99) rfl rfl ?_
        refine zn_callVx (pc := 100) (J := zX9_cells) (o := 1) (as := []) (rest := []) rfl rfl rfl rfl hS3.t rfl rfl rfl (Nat.le_of_ble_eq_true rfl) (Nat.le_of_ble_eq_true rfl) (Nat.le_of_ble_eq_true rfl) (Nat.le_of_ble_eq_true rfl) (q_cells hS3) ?_
        refine zn_callVx (pc := 103) (J := zX1_lines) (o := 11) (as := []) (rest := []) rfl rfl rfl rfl hS3.o11 rfl rfl rfl (Nat.le_of_ble_eq_true rfl) (Nat.le_of_ble_eq_true rfl) (Nat.le_of_ble_eq_true rfl) (Nat.le_of_ble_eq_true rfl) (c_linesK_10 hS3.L.c) ?_
        exact zn_iret (pc := 106) rfl rfl ⟨by rw [mcll_0], hS3.inv, (hfr1.trans (hS1.1.1.edit_fr.trans (hM3.frm (Or.inl rfl))))⟩
      · exact absurd c3 (by decide)
    · exfalso; omega
  · exfalso; omega
theorem q_removeLine_b {pf : Nat → Option Nat} {now p sz : Nat} {Z : Nat → Nat} (hS : ST hh F z A pf now p Z sz) {l : Nat} (hl1 : l + 1 = z 0) (hz1 : 1 < z 0) : Zm g zX9_removeLine [.ref 1, .int (nI l)] hh 2 3266 (fun r h' => r = .inl (some (.int (nI (z 0 - 1)))) ∧ INV h' (svF F) (mcll z l) (svA F z A) ∧ FRm hh h') := by
  have hl : l < z 0 := by omega
  have h24 := hS.tk.ok.2.1
  have h01 := hS.tk.ok.1
  have h120 := hS.im
  have hnb := hS.nb
  have hszz := hS.s3
  have hur := hS.ur
  have hnw := hS.nw
  have h8 := (hS.tk.gl hl).2.1
  have hzl1 := (hS.tk.gl hl).1
  have hs1 := hS.fl.sz hS.tk.ok
  have lq := LE_eq (z := z) hzl1
  have lp := csL_pos hzl1
  obtain ⟨c0, c1, -⟩ := rml_b hS.tk hS.fl hl1 hz1
  obtain ⟨ht2, -⟩ := cll_T hS.tk hl hz1
  show Zn g zX9_removeLine 0 [some (.ref 1), some (.int (nI l)), none, none, none] [] hh 2 3266 _
  refine zn_aload_n (pc := 0) rfl rfl ?_
  refine zn_iload_n (pc := 1) rfl rfl ?_
  refine zn_callVx (pc := 2) (J := zX9_requireLine) (o := 1) (as := [.int (nI l)]) (rest := []) rfl rfl rfl rfl hS.t rfl rfl rfl (Nat.le_of_ble_eq_true rfl) (Nat.le_of_ble_eq_true rfl) (Nat.le_of_ble_eq_true rfl) (Nat.le_of_ble_eq_true rfl) (q_rLine hS (x := (nI l)) ((zin_nI (by omega)).mpr (by omega))) ?_
  refine zn_aload_n (pc := 5) rfl rfl ?_
  refine zn_callVx (pc := 6) (J := zX9_cells) (o := 1) (as := []) (rest := []) rfl rfl rfl rfl hS.t rfl rfl rfl (Nat.le_of_ble_eq_true rfl) (Nat.le_of_ble_eq_true rfl) (Nat.le_of_ble_eq_true rfl) (Nat.le_of_ble_eq_true rfl) (q_cells hS) ?_
  refine zn_callVx (pc := 9) (J := zX1_lines) (o := 11) (as := []) (rest := []) rfl rfl rfl rfl hS.o11 rfl rfl rfl (Nat.le_of_ble_eq_true rfl) (Nat.le_of_ble_eq_true rfl) (Nat.le_of_ble_eq_true rfl) (Nat.le_of_ble_eq_true rfl) (c_linesK_10 hS.L.c) ?_
  refine zn_iconstN (pc := 12) 1 rfl rfl ?_
  refine zn_icmp_gtN (pc := 13) (tgt := 26) (x := (z 0)) (y := 1) rfl rfl (by omega) (by omega) (fun c1 => ?_) (fun c1 => ?_)
  · refine zn_iload_n (pc := 26) rfl rfl ?_
    refine zn_aload_n (pc := 27) rfl rfl ?_
    refine zn_callVx (pc := 28) (J := zX9_cells) (o := 1) (as := []) (rest := [.int (nI l)]) rfl rfl rfl rfl hS.t rfl rfl rfl (Nat.le_of_ble_eq_true rfl) (Nat.le_of_ble_eq_true rfl) (Nat.le_of_ble_eq_true rfl) (Nat.le_of_ble_eq_true rfl) (q_cells hS) ?_
    refine zn_callVx (pc := 31) (J := zX1_lines) (o := 11) (as := []) (rest := [.int (nI l)]) rfl rfl rfl rfl hS.o11 rfl rfl rfl (Nat.le_of_ble_eq_true rfl) (Nat.le_of_ble_eq_true rfl) (Nat.le_of_ble_eq_true rfl) (Nat.le_of_ble_eq_true rfl) (c_linesK_10 hS.L.c) ?_
    refine zn_iconstN (pc := 34) 1 rfl rfl ?_
    refine zn_isubN (pc := 35) (x := (z 0)) (y := 1) rfl (by omega) ?_
    refine zn_icmp_neN (pc := 36) (tgt := 43) (x := l) (y := ((z 0) - 1)) rfl rfl (by omega) (by omega) (fun c2 => ?_) (fun c2 => ?_)
    · exfalso; omega
    · refine zn_iconstN (pc := 39) 1 rfl rfl ?_
      refine zn_goto (pc := 40) (tgt := 44) rfl rfl ?_
      refine zn_istore_n (pc := 44) (L' := [some (.ref 1), some (.int (nI l)), some (.int (nI 1)), none, none]) rfl (by decide) rfl ?_
      refine zn_aload_n (pc := 45) rfl rfl ?_
      refine zn_callVx (pc := 46) (J := zX9_cells) (o := 1) (as := []) (rest := []) rfl rfl rfl rfl hS.t rfl rfl rfl (Nat.le_of_ble_eq_true rfl) (Nat.le_of_ble_eq_true rfl) (Nat.le_of_ble_eq_true rfl) (Nat.le_of_ble_eq_true rfl) (q_cells hS) ?_
      refine zn_iload_n (pc := 49) rfl rfl ?_
      refine zn_callVx (pc := 50) (J := zX1_lineStart) (o := 11) (as := [.int (nI l)]) (rest := []) rfl rfl rfl rfl hS.o11 rfl rfl rfl (Nat.le_of_ble_eq_true rfl) (Nat.le_of_ble_eq_true rfl) (Nat.le_of_ble_eq_true rfl) (Nat.le_of_ble_eq_true rfl) (c_lineStart hS.L (l := l) (by omega)) ?_
      refine zn_istore_n (pc := 53) (L' := [some (.ref 1), some (.int (nI l)), some (.int (nI 1)), some (.int (nI (CS z l 0))), none]) rfl (by decide) rfl ?_
      refine zn_aload_n (pc := 54) rfl rfl ?_
      refine zn_callVx (pc := 55) (J := zX9_cells) (o := 1) (as := []) (rest := []) rfl rfl rfl rfl hS.t rfl rfl rfl (Nat.le_of_ble_eq_true rfl) (Nat.le_of_ble_eq_true rfl) (Nat.le_of_ble_eq_true rfl) (Nat.le_of_ble_eq_true rfl) (q_cells hS) ?_
      refine zn_iload_n (pc := 58) rfl rfl ?_
      refine zn_callVx (pc := 59) (J := zX1_lineEnd) (o := 11) (as := [.int (nI l)]) (rest := []) rfl rfl rfl rfl hS.o11 rfl rfl rfl (Nat.le_of_ble_eq_true rfl) (Nat.le_of_ble_eq_true rfl) (Nat.le_of_ble_eq_true rfl) (Nat.le_of_ble_eq_true rfl) (c_lineEnd hS.L (l := l) (by omega)) ?_
      refine zn_iload_n (pc := 62) rfl rfl ?_
      refine zn_isubN (pc := 63) (x := (CS z l (z (1 + l) - 1) + z (25 + 8 * l + (z (1 + l) - 1)))) (y := (CS z l 0)) rfl (by omega) ?_
      refine zn_istore (pc := 64) (L' := [some (.ref 1), some (.int (nI l)), some (.int (nI 1)), some (.int (nI (CS z l 0))), some (.int (nI ((CS z l (z (1 + l) - 1) + z (25 + 8 * l + (z (1 + l) - 1))) - (CS z l 0))))]) rfl (by decide) rfl ?_
      refine zn_aload_n (pc := 66) rfl rfl ?_
      refine zn_get (pc := 67) (v := .ref 6) rfl hS.t rfl ?_
      refine zn_callVm (pc := 70) (mc1 := 2) (ms1 := 3266) (mc := 0) (ms := 0) (J := zX3_save) (o := 6) (as := []) (rest := []) rfl rfl rfl rfl hS.h6 rfl rfl rfl (Nat.le_of_ble_eq_true rfl) (Nat.le_of_ble_eq_true rfl) (Nat.le_of_ble_eq_true rfl) (Nat.le_of_ble_eq_true rfl) (q_save hS) (fun E h9 q9 => by obtain ⟨P9, q9, -⟩ := q9; cases q9) ?_
      rintro v1 h1 ⟨P, e1, pf1, now1, Z1, hS1, hfr1, hG1, ⟨nP1, nP2, nP3⟩, hfx1, hpx1⟩
      cases e1
      have hpp1 := hS1.pp
      have hpp0 := hS.pp
      have e11 : svF F 11 = F 11 := svFn (by omega) (by omega)
      have e5 : svA F z A 5 = A 5 := svAn (by omega)
      refine zn_iload_n (pc := 73) rfl rfl ?_
      refine zn_if_eqN (pc := 74) (tgt := 83) (x := 1) rfl rfl (by omega) (fun c3 => ?_) (fun c3 => ?_)
      · exact absurd c3 (by decide)
      · refine zn_iload_n (pc := 77) rfl rfl ?_
        refine zn_iconstN (pc := 78) 1 rfl rfl ?_
        refine zn_isubN (pc := 79) (x := (CS z l 0)) (y := 1) rfl (by omega) ?_
        refine zn_goto (pc := 80) (tgt := 84) rfl rfl ?_
        refine zn_iload (pc := 84) rfl rfl ?_
        refine zn_iconstN (pc := 86) 1 rfl rfl ?_
        refine zn_iaddN (pc := 87) (x := ((CS z l (z (1 + l) - 1) + z (25 + 8 * l + (z (1 + l) - 1))) - (CS z l 0))) (y := 1) rfl ?_
        refine zn_callVx (pc := 88) (J := zX7_cut) (o := P) (as := [.int (nI ((CS z l 0) - 1)), .int (nI (((CS z l (z (1 + l) - 1) + z (25 + 8 * l + (z (1 + l) - 1))) - (CS z l 0)) + 1))]) (rest := []) rfl rfl rfl rfl hS1.po rfl rfl rfl (Nat.le_of_ble_eq_true rfl) (Nat.le_of_ble_eq_true rfl) (Nat.le_of_ble_eq_true rfl) (Nat.le_of_ble_eq_true rfl) (q_pcut hS1 (a := ((CS z l 0) - 1)) (n := (((CS z l (z (1 + l) - 1) + z (25 + 8 * l + (z (1 + l) - 1))) - (CS z l 0)) + 1)) (by omega)) ?_
        refine zn_aload_n (pc := 91) rfl rfl ?_
        refine zn_aload_n (pc := 92) rfl rfl ?_
        refine zn_get (pc := 93) (v := .ref 10) rfl ((pg_n (by omega) (by omega)).trans hS1.t) rfl ?_
        refine zn_callVm (pc := 96) (mc1 := 0) (ms1 := 0) (mc := 0) (ms := 0) (J := zX9_measure) (o := 1) (as := [.ref 10]) (rest := []) rfl rfl rfl rfl ((pg_n (by omega) (by omega)).trans hS1.t) rfl rfl rfl (Nat.le_of_ble_eq_true rfl) (Nat.le_of_ble_eq_true rfl) (Nat.le_of_ble_eq_true rfl) (Nat.le_of_ble_eq_true rfl) (q_measure (hS1.1.1.edit (Z2 := va_cpy Z1 Z1 (((CS z l 0) - 1) + (((CS z l (z (1 + l) - 1) + z (25 + 8 * l + (z (1 + l) - 1))) - (CS z l 0)) + 1)) ((CS z l 0) - 1) (sz - ((CS z l 0) - 1) - (((CS z l (z (1 + l) - 1) + z (25 + 8 * l + (z (1 + l) - 1))) - (CS z l 0)) + 1))) (sz2 := sz - (((CS z l (z (1 + l) - 1) + z (25 + 8 * l + (z (1 + l) - 1))) - (CS z l 0)) + 1)) (z2 := mcll z l) (by rw [show CS z l (z (1 + l) - 1) + z (25 + 8 * l + (z (1 + l) - 1)) - CS z l 0 + 1 = csL z l (z (1 + l)) by omega]; exact (rml_b hS.tk hS1.fl hl1 hz1).2.2) ht2 (zb_cpy hS1.Zb hS1.Zb) (by omega))) (fun E h9 q9 => by cases q9.1) ?_
        rintro v3 h3 ⟨e1, hI3, hM3⟩
        cases e1
        obtain ⟨Z3, s3, hS3⟩ := ST.of hI3
        refine zn_aload_n (pc := 99) rfl rfl ?_
        refine zn_callVx (pc := 100) (J := zX9_cells) (o := 1) (as := []) (rest := []) rfl rfl rfl rfl hS3.t rfl rfl rfl (Nat.le_of_ble_eq_true rfl) (Nat.le_of_ble_eq_true rfl) (Nat.le_of_ble_eq_true rfl) (Nat.le_of_ble_eq_true rfl) (q_cells hS3) ?_
        refine zn_callVx (pc := 103) (J := zX1_lines) (o := 11) (as := []) (rest := []) rfl rfl rfl rfl hS3.o11 rfl rfl rfl (Nat.le_of_ble_eq_true rfl) (Nat.le_of_ble_eq_true rfl) (Nat.le_of_ble_eq_true rfl) (Nat.le_of_ble_eq_true rfl) (c_linesK_10 hS3.L.c) ?_
        exact zn_iret (pc := 106) rfl rfl ⟨by rw [mcll_0], hS3.inv, (hfr1.trans (hS1.1.1.edit_fr.trans (hM3.frm (Or.inl rfl))))⟩
  · exfalso; omega
theorem q_removeLine_1 {pf : Nat → Option Nat} {now p sz : Nat} {Z : Nat → Nat} (hS : ST hh F z A pf now p Z sz) {x : Int32} (hbad : ¬ zin x (z 0)) : Zt g zX9_removeLine [.ref 1, .int x] hh 2 := by
  show Zn g zX9_removeLine 0 [some (.ref 1), some (.int x), none, none, none] [] hh 1 6 _
  refine zn_aload_n (pc := 0) rfl rfl ?_
  refine zn_iload_n (pc := 1) rfl rfl ?_
  exact zn_callVt (pc := 2) (J := zX9_requireLine) (o := 1) (as := [.int x]) (rest := []) rfl rfl rfl rfl hS.t rfl rfl rfl (Nat.le_of_ble_eq_true rfl) (Nat.le_of_ble_eq_true rfl) (Nat.le_of_ble_eq_true rfl) (Nat.le_of_ble_eq_true rfl) (q_rLine_t hS (x := x) hbad) ⟨rfl, rfl⟩
theorem q_removeLine_2 {pf : Nat → Option Nat} {now p sz : Nat} {Z : Nat → Nat} (hS : ST hh F z A pf now p Z sz) {l : Nat} (hl : l < z 0) (h1 : z 0 ≤ 1) : Zt g zX9_removeLine [.ref 1, .int (nI l)] hh 1 := by
  have h24 := hS.tk.ok.2.1
  have h01 := hS.tk.ok.1
  have h120 := hS.im
  have hnb := hS.nb
  have hszz := hS.s3
  have hur := hS.ur
  have hnw := hS.nw
  have h8 := (hS.tk.gl hl).2.1
  have hzl1 := (hS.tk.gl hl).1
  show Zn g zX9_removeLine 0 [some (.ref 1), some (.int (nI l)), none, none, none] [] hh 1 6 _
  refine zn_aload_n (pc := 0) rfl rfl ?_
  refine zn_iload_n (pc := 1) rfl rfl ?_
  refine zn_callVx (pc := 2) (J := zX9_requireLine) (o := 1) (as := [.int (nI l)]) (rest := []) rfl rfl rfl rfl hS.t rfl rfl rfl (Nat.le_of_ble_eq_true rfl) (Nat.le_of_ble_eq_true rfl) (Nat.le_of_ble_eq_true rfl) (Nat.le_of_ble_eq_true rfl) (q_rLine hS (x := (nI l)) ((zin_nI (by omega)).mpr (by omega))) ?_
  refine zn_aload_n (pc := 5) rfl rfl ?_
  refine zn_callVx (pc := 6) (J := zX9_cells) (o := 1) (as := []) (rest := []) rfl rfl rfl rfl hS.t rfl rfl rfl (Nat.le_of_ble_eq_true rfl) (Nat.le_of_ble_eq_true rfl) (Nat.le_of_ble_eq_true rfl) (Nat.le_of_ble_eq_true rfl) (q_cells hS) ?_
  refine zn_callVx (pc := 9) (J := zX1_lines) (o := 11) (as := []) (rest := []) rfl rfl rfl rfl hS.o11 rfl rfl rfl (Nat.le_of_ble_eq_true rfl) (Nat.le_of_ble_eq_true rfl) (Nat.le_of_ble_eq_true rfl) (Nat.le_of_ble_eq_true rfl) (c_linesK_10 hS.L.c) ?_
  refine zn_iconstN (pc := 12) 1 rfl rfl ?_
  refine zn_icmp_gtN (pc := 13) (tgt := 26) (x := (z 0)) (y := 1) rfl rfl (by omega) (by omega) (fun c1 => ?_) (fun c1 => ?_)
  · exfalso; omega
  · exact zn_throw (pc := 16) (E := 1) rfl (Nat.le_of_ble_eq_true rfl) (Nat.le_of_ble_eq_true rfl) ⟨rfl, rfl⟩
theorem q_goTo  {pf : Nat → Option Nat} {now p sz : Nat} {Z : Nat → Nat} (hS : ST hh F z A pf now p Z sz) {i p' : Nat} (hi : i ≤ 10) (hpf : pf i = some p') : Zx g zX3_goTo [.ref 6, .int (nI i)] (hh) none (hst hh p' i (F 5) (F 6)) := by
  have h24 := hS.tk.ok.2.1
  have h01 := hS.tk.ok.1
  have h120 := hS.im
  have hnb := hS.nb
  have hszz := hS.s3
  have hur := hS.ur
  have hnw := hS.nw
  show Zn g zX3_goTo 0 [some (.ref 6), some (.int (nI i)), none] [] (hh) 0 0 _
  refine zn_aload_n (pc := 0) rfl rfl ?_
  refine zn_get (pc := 1) (v := .ref 7) rfl hS.h6 rfl ?_
  refine zn_iload_n (pc := 4) rfl rfl ?_
  refine zn_aaldR (pc := 5) (o := 7) (n := 11) (f := pf) (j := i) (x := p') rfl (by omega) hS.h7 (by omega) (Nat.le_of_ble_eq_true rfl) hpf ?_
  refine zn_astore_n (pc := 6) (L' := [some (.ref 6), some (.int (nI i)), some (.ref p')]) rfl (by decide) rfl ?_
  refine zn_aload_n (pc := 7) rfl rfl ?_
  refine zn_ifnull (pc := 8) rfl ?_
  refine zn_aload_n (pc := 11) rfl rfl ?_
  refine zn_aload_n (pc := 12) rfl rfl ?_
  refine zf_putR (pc := 13) (fs' := [.ref 7, .ref p', .int (nI now), .int (nI (F 5)), .int (nI (F 6))]) rfl hS.h6 (Nat.le_of_ble_eq_true rfl) rfl rfl ?_
  refine zn_aload_n (pc := 16) rfl rfl ?_
  refine zn_iload_n (pc := 17) rfl rfl ?_
  refine zf_put (pc := 18) (fs' := [.ref 7, .ref p', .int (nI i), .int (nI (F 5)), .int (nI (F 6))]) rfl (zup_s _ _ _) (Nat.le_of_ble_eq_true rfl) rfl rfl ?_
  exact zx_v (pc := 21) rfl rfl rfl (by rw [zup_u]; rfl)
theorem q_stepBack  {pf : Nat → Option Nat} {now p sz : Nat} {Z : Nat → Nat} (hS : ST hh F z A pf now p Z sz) {u p' : Nat} (hu : F 5 = u + 1) (hpf : pf ((now + 10) % 11) = some p') : Zx g zX3_stepBack [.ref 6] (hh) none (hst hh p' ((now + 10) % 11) u (F 6 + 1)) := by
  have h24 := hS.tk.ok.2.1
  have h01 := hS.tk.ok.1
  have h120 := hS.im
  have hnb := hS.nb
  have hszz := hS.s3
  have hur := hS.ur
  have hnw := hS.nw
  show Zn g zX3_stepBack 0 [some (.ref 6)] [] (hh) 0 0 _
  refine zn_aload_n (pc := 0) rfl rfl ?_
  refine zn_get (pc := 1) (v := .int (nI (F 5))) rfl hS.h6 rfl ?_
  refine zn_if_leN (pc := 4) (tgt := 49) (x := (F 5)) rfl rfl (by omega) (fun c1 => ?_) (fun c1 => ?_)
  · exfalso; omega
  · refine zn_aload_n (pc := 7) rfl rfl ?_
    refine zn_joinV (v := .int (nI ((now + 10) % 11))) (pj := 26) ?_ (fun K2 => ?_)
    · refine zn_callVx (pc := 26) (J := zX3_goTo) (o := 6) (as := [.int (nI ((now + 10) % 11))]) (rest := []) rfl rfl rfl rfl hS.h6 rfl rfl rfl (Nat.le_of_ble_eq_true rfl) (Nat.le_of_ble_eq_true rfl) (Nat.le_of_ble_eq_true rfl) (Nat.le_of_ble_eq_true rfl) (q_goTo hS (i := ((now + 10) % 11)) (by omega) hpf) ?_
      refine zn_aload_n (pc := 29) rfl rfl ?_
      refine zn_dup (pc := 30) rfl rfl ?_
      refine zn_get (pc := 31) (v := .int (nI (F 5))) rfl (zup_s _ _ _) rfl ?_
      refine zn_iconstN (pc := 34) 1 rfl rfl ?_
      refine zn_isubN (pc := 35) (x := (F 5)) (y := 1) rfl (by omega) ?_
      refine zf_put (pc := 36) (fs' := [.ref 7, .ref p', .int (nI ((now + 10) % 11)), .int (nI ((F 5) - 1)), .int (nI (F 6))]) rfl (zup_s _ _ _) (Nat.le_of_ble_eq_true rfl) rfl rfl ?_
      refine zn_aload_n (pc := 39) rfl rfl ?_
      refine zn_dup (pc := 40) rfl rfl ?_
      refine zn_get (pc := 41) (v := .int (nI (F 6))) rfl (zup_s _ _ _) rfl ?_
      refine zn_iconstN (pc := 44) 1 rfl rfl ?_
      refine zn_iaddN (pc := 45) (x := (F 6)) (y := 1) rfl ?_
      refine zf_put (pc := 46) (fs' := [.ref 7, .ref p', .int (nI ((now + 10) % 11)), .int (nI ((F 5) - 1)), .int (nI (F 6 + 1))]) rfl (zup_s _ _ _) (Nat.le_of_ble_eq_true rfl) rfl rfl ?_
      exact zx_v (pc := 49) rfl rfl rfl (by rw [show F 5 - 1 = u by omega]; unfold hst; rw [zup_u, zup_u])
    · refine zn_aload_n (pc := 8) rfl rfl ?_
      refine zn_get (pc := 9) (v := .int (nI now)) rfl hS.h6 rfl ?_
      refine zn_if_leN (pc := 12) (tgt := 24) (x := now) rfl rfl (by omega) (fun c3 => ?_) (fun c3 => ?_)
      · refine zn_bipushN (pc := 24) 10 rfl rfl ?_
        exact zn_top (v' := .int (nI ((now + 10) % 11))) (congrArg (fun x => Value.int (nI x)) (show 10 = (now + 10) % 11 by omega)) K2
      · refine zn_aload_n (pc := 15) rfl rfl ?_
        refine zn_get (pc := 16) (v := .int (nI now)) rfl hS.h6 rfl ?_
        refine zn_iconstN (pc := 19) 1 rfl rfl ?_
        refine zn_isubN (pc := 20) (x := now) (y := 1) rfl (by omega) ?_
        refine zn_goto (pc := 21) (tgt := 26) rfl rfl ?_
        exact zn_top (v' := .int (nI ((now + 10) % 11))) (congrArg (fun x => Value.int (nI x)) (show now - 1 = (now + 10) % 11 by omega)) K2
theorem q_stepForward  {pf : Nat → Option Nat} {now p sz : Nat} {Z : Nat → Nat} (hS : ST hh F z A pf now p Z sz) {u p' : Nat} (hu : F 6 = u + 1) (hpf : pf ((now + 1) % 11) = some p') : Zx g zX3_stepForward [.ref 6] (hh) none (hst hh p' ((now + 1) % 11) (F 5 + 1) u) := by
  have h24 := hS.tk.ok.2.1
  have h01 := hS.tk.ok.1
  have h120 := hS.im
  have hnb := hS.nb
  have hszz := hS.s3
  have hur := hS.ur
  have hnw := hS.nw
  show Zn g zX3_stepForward 0 [some (.ref 6)] [] (hh) 0 0 _
  refine zn_aload_n (pc := 0) rfl rfl ?_
  refine zn_get (pc := 1) (v := .int (nI (F 6))) rfl hS.h6 rfl ?_
  refine zn_if_leN (pc := 4) (tgt := 35) (x := (F 6)) rfl rfl (by omega) (fun c1 => ?_) (fun c1 => ?_)
  · exfalso; omega
  · refine zn_aload_n (pc := 7) rfl rfl ?_
    refine zn_aload_n (pc := 8) rfl rfl ?_
    refine zn_callVx (pc := 9) (J := zX3_placeBehind) (o := 6) (as := []) (rest := [.ref 6]) rfl rfl rfl rfl hS.h6 rfl rfl rfl (Nat.le_of_ble_eq_true rfl) (Nat.le_of_ble_eq_true rfl) (Nat.le_of_ble_eq_true rfl) (Nat.le_of_ble_eq_true rfl) (q_place hS) ?_
    refine zn_callVx (pc := 12) (J := zX3_goTo) (o := 6) (as := [.int (nI ((now + 1) % 11))]) (rest := []) rfl rfl rfl rfl hS.h6 rfl rfl rfl (Nat.le_of_ble_eq_true rfl) (Nat.le_of_ble_eq_true rfl) (Nat.le_of_ble_eq_true rfl) (Nat.le_of_ble_eq_true rfl) (q_goTo hS (i := ((now + 1) % 11)) (by omega) hpf) ?_
    refine zn_aload_n (pc := 15) rfl rfl ?_
    refine zn_dup (pc := 16) rfl rfl ?_
    refine zn_get (pc := 17) (v := .int (nI (F 6))) rfl (zup_s _ _ _) rfl ?_
    refine zn_iconstN (pc := 20) 1 rfl rfl ?_
    refine zn_isubN (pc := 21) (x := (F 6)) (y := 1) rfl (by omega) ?_
    refine zf_put (pc := 22) (fs' := [.ref 7, .ref p', .int (nI ((now + 1) % 11)), .int (nI (F 5)), .int (nI ((F 6) - 1))]) rfl (zup_s _ _ _) (Nat.le_of_ble_eq_true rfl) rfl rfl ?_
    refine zn_aload_n (pc := 25) rfl rfl ?_
    refine zn_dup (pc := 26) rfl rfl ?_
    refine zn_get (pc := 27) (v := .int (nI (F 5))) rfl (zup_s _ _ _) rfl ?_
    refine zn_iconstN (pc := 30) 1 rfl rfl ?_
    refine zn_iaddN (pc := 31) (x := (F 5)) (y := 1) rfl ?_
    refine zf_put (pc := 32) (fs' := [.ref 7, .ref p', .int (nI ((now + 1) % 11)), .int (nI (F 5 + 1)), .int (nI ((F 6) - 1))]) rfl (zup_s _ _ _) (Nat.le_of_ble_eq_true rfl) rfl rfl ?_
    exact zx_v (pc := 35) rfl rfl rfl (by rw [show F 6 - 1 = u by omega]; unfold hst; rw [zup_u, zup_u])
theorem q_undo {pf : Nat → Option Nat} {now p sz : Nat} {Z : Nat → Nat} (hS : ST hh F z A pf now p Z sz) {u : Nat} (hu : F 5 = u + 1) : Zm g zX9_undo [.ref 1] hh 0 0 (fun r h' => r = .inl (some (.int (nI u))) ∧ INV h' (uF F u) (uZ z A u) (uA F z A) ∧ FRm hh h') := by
  have h24 := hS.tk.ok.2.1
  have h01 := hS.tk.ok.1
  have h120 := hS.im
  have hnb := hS.nb
  have hszz := hS.s3
  have hur := hS.ur
  have hnw := hS.nw
  obtain ⟨p', hpf, hPu⟩ := undo_P hS hu
  have f5 : uF F u 5 = u := by unfold uF; rw [va_upN (by omega), va_upS]
  show Zn g zX9_undo 0 [some (.ref 1)] [] hh 0 0 _
  refine zn_aload_n (pc := 0) rfl rfl ?_
  refine zn_get (pc := 1) (v := .ref 6) rfl hS.t rfl ?_
  refine zn_callVx (pc := 4) (J := zX3_undos) (o := 6) (as := []) (rest := []) rfl rfl rfl rfl hS.h6 rfl rfl rfl (Nat.le_of_ble_eq_true rfl) (Nat.le_of_ble_eq_true rfl) (Nat.le_of_ble_eq_true rfl) (Nat.le_of_ble_eq_true rfl) (q_undos hS) ?_
  refine zn_if_gtN (pc := 7) (tgt := 20) (x := (F 5)) rfl rfl (by omega) (fun c1 => ?_) (fun c1 => ?_)
  · refine zn_aload_n (pc := 20) rfl rfl ?_
    refine zn_get (pc := 21) (v := .ref 6) rfl hS.t rfl ?_
    refine zn_callVx (pc := 24) (J := zX3_stepBack) (o := 6) (as := []) (rest := []) rfl rfl rfl rfl hS.h6 rfl rfl rfl (Nat.le_of_ble_eq_true rfl) (Nat.le_of_ble_eq_true rfl) (Nat.le_of_ble_eq_true rfl) (Nat.le_of_ble_eq_true rfl) (q_stepBack hS hu hpf) ?_
    refine zn_aload_n (pc := 27) rfl rfl ?_
    refine zn_aload_n (pc := 28) rfl rfl ?_
    refine zn_get (pc := 29) (v := .ref 10) rfl ((hst_n (by omega)).trans hS.t) rfl ?_
    refine zn_callVm (pc := 32) (mc1 := 0) (ms1 := 0) (mc := 0) (ms := 0) (J := zX9_measure) (o := 1) (as := [.ref 10]) (rest := []) rfl rfl rfl rfl ((hst_n (by omega)).trans hS.t) rfl rfl rfl (Nat.le_of_ble_eq_true rfl) (Nat.le_of_ble_eq_true rfl) (Nat.le_of_ble_eq_true rfl) (Nat.le_of_ble_eq_true rfl) (q_measure hPu) (fun E h9 q9 => by cases q9.1) ?_
    rintro v3 h3 ⟨e1, hI3, hM3⟩
    cases e1
    obtain ⟨Z3, s3, hS3⟩ := ST.of hI3
    refine zn_aload_n (pc := 35) rfl rfl ?_
    refine zn_get (pc := 36) (v := .ref 6) rfl hS3.t rfl ?_
    refine zn_callVx (pc := 39) (J := zX3_undos) (o := 6) (as := []) (rest := []) rfl rfl rfl rfl hS3.h6 rfl rfl rfl (Nat.le_of_ble_eq_true rfl) (Nat.le_of_ble_eq_true rfl) (Nat.le_of_ble_eq_true rfl) (Nat.le_of_ble_eq_true rfl) (q_undos hS3) ?_
    exact zn_iret (pc := 42) rfl rfl ⟨by rw [f5], hS3.inv, (hst_fr.trans (hM3.frm (Or.inl rfl)))⟩
  · exfalso; omega
theorem q_redo {pf : Nat → Option Nat} {now p sz : Nat} {Z : Nat → Nat} (hS : ST hh F z A pf now p Z sz) {u : Nat} (hu : F 6 = u + 1) : Zm g zX9_redo [.ref 1] hh 0 0 (fun r h' => r = .inl (some (.int (nI u))) ∧ INV h' (rF F u) (rZ z A u) (rA F z A) ∧ FRm hh h') := by
  have h24 := hS.tk.ok.2.1
  have h01 := hS.tk.ok.1
  have h120 := hS.im
  have hnb := hS.nb
  have hszz := hS.s3
  have hur := hS.ur
  have hnw := hS.nw
  obtain ⟨p', hpf, hPu⟩ := redo_P hS hu
  have f6 : rF F u 6 = u := by unfold rF; rw [va_upN (by omega), va_upS]
  show Zn g zX9_redo 0 [some (.ref 1)] [] hh 0 0 _
  refine zn_aload_n (pc := 0) rfl rfl ?_
  refine zn_get (pc := 1) (v := .ref 6) rfl hS.t rfl ?_
  refine zn_callVx (pc := 4) (J := zX3_redos) (o := 6) (as := []) (rest := []) rfl rfl rfl rfl hS.h6 rfl rfl rfl (Nat.le_of_ble_eq_true rfl) (Nat.le_of_ble_eq_true rfl) (Nat.le_of_ble_eq_true rfl) (Nat.le_of_ble_eq_true rfl) (q_redos hS) ?_
  refine zn_if_gtN (pc := 7) (tgt := 20) (x := (F 6)) rfl rfl (by omega) (fun c1 => ?_) (fun c1 => ?_)
  · refine zn_aload_n (pc := 20) rfl rfl ?_
    refine zn_get (pc := 21) (v := .ref 6) rfl hS.t rfl ?_
    refine zn_callVx (pc := 24) (J := zX3_stepForward) (o := 6) (as := []) (rest := []) rfl rfl rfl rfl hS.h6 rfl rfl rfl (Nat.le_of_ble_eq_true rfl) (Nat.le_of_ble_eq_true rfl) (Nat.le_of_ble_eq_true rfl) (Nat.le_of_ble_eq_true rfl) (q_stepForward hS hu hpf) ?_
    refine zn_aload_n (pc := 27) rfl rfl ?_
    refine zn_aload_n (pc := 28) rfl rfl ?_
    refine zn_get (pc := 29) (v := .ref 10) rfl ((hst_n (by omega)).trans hS.t) rfl ?_
    refine zn_callVm (pc := 32) (mc1 := 0) (ms1 := 0) (mc := 0) (ms := 0) (J := zX9_measure) (o := 1) (as := [.ref 10]) (rest := []) rfl rfl rfl rfl ((hst_n (by omega)).trans hS.t) rfl rfl rfl (Nat.le_of_ble_eq_true rfl) (Nat.le_of_ble_eq_true rfl) (Nat.le_of_ble_eq_true rfl) (Nat.le_of_ble_eq_true rfl) (q_measure hPu) (fun E h9 q9 => by cases q9.1) ?_
    rintro v3 h3 ⟨e1, hI3, hM3⟩
    cases e1
    obtain ⟨Z3, s3, hS3⟩ := ST.of hI3
    refine zn_aload_n (pc := 35) rfl rfl ?_
    refine zn_get (pc := 36) (v := .ref 6) rfl hS3.t rfl ?_
    refine zn_callVx (pc := 39) (J := zX3_redos) (o := 6) (as := []) (rest := []) rfl rfl rfl rfl hS3.h6 rfl rfl rfl (Nat.le_of_ble_eq_true rfl) (Nat.le_of_ble_eq_true rfl) (Nat.le_of_ble_eq_true rfl) (Nat.le_of_ble_eq_true rfl) (q_redos hS3) ?_
    exact zn_iret (pc := 42) rfl rfl ⟨by rw [f6], hS3.inv, (hst_fr.trans (hM3.frm (Or.inl rfl)))⟩
  · exfalso; omega
theorem q_undo_1 {pf : Nat → Option Nat} {now p sz : Nat} {Z : Nat → Nat} (hS : ST hh F z A pf now p Z sz) (hu : F 5 = 0) : Zt g zX9_undo [.ref 1] hh 1 := by
  have h24 := hS.tk.ok.2.1
  have h01 := hS.tk.ok.1
  have h120 := hS.im
  have hnb := hS.nb
  have hszz := hS.s3
  have hur := hS.ur
  have hnw := hS.nw
  show Zn g zX9_undo 0 [some (.ref 1)] [] hh 1 6 _
  refine zn_aload_n (pc := 0) rfl rfl ?_
  refine zn_get (pc := 1) (v := .ref 6) rfl hS.t rfl ?_
  refine zn_callVx (pc := 4) (J := zX3_undos) (o := 6) (as := []) (rest := []) rfl rfl rfl rfl hS.h6 rfl rfl rfl (Nat.le_of_ble_eq_true rfl) (Nat.le_of_ble_eq_true rfl) (Nat.le_of_ble_eq_true rfl) (Nat.le_of_ble_eq_true rfl) (q_undos hS) ?_
  refine zn_if_gtN (pc := 7) (tgt := 20) (x := (F 5)) rfl rfl (by omega) (fun c1 => ?_) (fun c1 => ?_)
  · exfalso; omega
  · exact zn_throw (pc := 10) (E := 1) rfl (Nat.le_of_ble_eq_true rfl) (Nat.le_of_ble_eq_true rfl) ⟨rfl, rfl⟩
theorem q_redo_1 {pf : Nat → Option Nat} {now p sz : Nat} {Z : Nat → Nat} (hS : ST hh F z A pf now p Z sz) (hu : F 6 = 0) : Zt g zX9_redo [.ref 1] hh 1 := by
  have h24 := hS.tk.ok.2.1
  have h01 := hS.tk.ok.1
  have h120 := hS.im
  have hnb := hS.nb
  have hszz := hS.s3
  have hur := hS.ur
  have hnw := hS.nw
  show Zn g zX9_redo 0 [some (.ref 1)] [] hh 1 6 _
  refine zn_aload_n (pc := 0) rfl rfl ?_
  refine zn_get (pc := 1) (v := .ref 6) rfl hS.t rfl ?_
  refine zn_callVx (pc := 4) (J := zX3_redos) (o := 6) (as := []) (rest := []) rfl rfl rfl rfl hS.h6 rfl rfl rfl (Nat.le_of_ble_eq_true rfl) (Nat.le_of_ble_eq_true rfl) (Nat.le_of_ble_eq_true rfl) (Nat.le_of_ble_eq_true rfl) (q_redos hS) ?_
  refine zn_if_gtN (pc := 7) (tgt := 20) (x := (F 6)) rfl rfl (by omega) (fun c1 => ?_) (fun c1 => ?_)
  · exfalso; omega
  · exact zn_throw (pc := 10) (E := 1) rfl (Nat.le_of_ble_eq_true rfl) (Nat.le_of_ble_eq_true rfl) ⟨rfl, rfl⟩
theorem q_setAl {pf : Nat → Option Nat} {now p sz : Nat} {Z : Nat → Nat} (hS : ST hh F z A pf now p Z sz) {k a : Nat} (hk : k ≤ 6) (ha : a ≤ 3) : Zm g zX9_setAlignment [.ref 1, .int (nI k), .int (nI a)] hh 0 0 (fun r h' => r = .inl (some (.int (nI (A 4 k)))) ∧ INV h' (va_up (va_up (va_up F 8 (F 8)) 9 (F 9)) 10 (F 10)) z (va_up A 4 (va_up (A 4) k a)) ∧ FRm hh h') := by
  have h24 := hS.tk.ok.2.1
  have h01 := hS.tk.ok.1
  have h120 := hS.im
  have hnb := hS.nb
  have hszz := hS.s3
  have hur := hS.ur
  have hnw := hS.nw
  show Zn g zX9_setAlignment 0 [some (.ref 1), some (.int (nI k)), some (.int (nI a)), none] [] hh 0 0 _
  refine zn_iload_n (pc := 0) rfl rfl ?_
  refine zn_if_ltN (pc := 1) (tgt := 19) (x := k) rfl rfl (by omega) ?_
  refine zn_iload_n (pc := 4) rfl rfl ?_
  refine zn_bipushN (pc := 5) 7 rfl rfl ?_
  refine zn_icmp_geN (pc := 7) (tgt := 19) (x := k) (y := 7) rfl rfl (by omega) (by omega) (fun c2 => ?_) (fun c2 => ?_)
  · exfalso; omega
  · refine zn_iload_n (pc := 10) rfl rfl ?_
    refine zn_if_ltN (pc := 11) (tgt := 19) (x := a) rfl rfl (by omega) ?_
    refine zn_iload_n (pc := 14) rfl rfl ?_
    refine zn_iconstN (pc := 15) 3 rfl rfl ?_
    refine zn_icmp_leN (pc := 16) (tgt := 29) (x := a) (y := 3) rfl rfl (by omega) (by omega) (fun c4 => ?_) (fun c4 => ?_)
    · refine zn_aload_n (pc := 29) rfl rfl ?_
      refine zn_get (pc := 30) (v := .ref 4) rfl hS.t rfl ?_
      refine zn_iload_n (pc := 33) rfl rfl ?_
      refine zn_iload_n (pc := 34) rfl rfl ?_
      refine zn_callVx (pc := 35) (J := zX2_changeAlignment) (o := 4) (as := [.int (nI k), .int (nI a)]) (rest := []) rfl rfl rfl rfl hS.f4 rfl rfl rfl (Nat.le_of_ble_eq_true rfl) (Nat.le_of_ble_eq_true rfl) (Nat.le_of_ble_eq_true rfl) (Nat.le_of_ble_eq_true rfl) (c_changeAlignment hS.f4 hS.f5 hS.fo.2.2.1 hS.fo.2.2.2.1 hS.fo.2.2.2.2.1 hS.fo.2.2.2.2.2.1 hS.fo.2.2.2.2.2.2 (c := k) (a := a) (by omega)) ?_
      refine zn_istore_n (pc := 38) (L' := [some (.ref 1), some (.int (nI k)), some (.int (nI a)), some (.int (nI (A 4 k)))]) rfl (by decide) rfl ?_
      refine zn_aload_n (pc := 39) rfl rfl ?_
      refine zn_aload_n (pc := 40) rfl rfl ?_
      refine zn_get (pc := 41) (v := .ref 10) rfl ((zup_n (by omega)).trans hS.t) rfl ?_
      refine zn_callVm (pc := 44) (mc1 := 0) (ms1 := 0) (mc := 0) (ms := 0) (J := zX9_measure) (o := 1) (as := [.ref 10]) (rest := []) rfl rfl rfl rfl ((zup_n (by omega)).trans hS.t) rfl rfl rfl (Nat.le_of_ble_eq_true rfl) (Nat.le_of_ble_eq_true rfl) (Nat.le_of_ble_eq_true rfl) (Nat.le_of_ble_eq_true rfl) (q_measure (hS.1.1.fmt hS.fo.2.2.1 hS.fo.2.2.2.1 hS.fo.2.2.2.2.1 hS.fo.2.2.2.2.2.1 (al := va_up (A 4) k a) (fun j => by have := hS.fo.2.2.2.2.2.2 j; unfold va_up; split <;> omega) (fun i a b => zup_n b) rfl ((zup_n (by omega)).trans hS.f4) (zup_s _ _ _))) (fun E h9 q9 => by cases q9.1) ?_
      rintro v3 h3 ⟨e1, hI3, hM3⟩
      cases e1
      obtain ⟨Z3, s3, hS3⟩ := ST.of hI3
      refine zn_iload_n (pc := 47) rfl rfl ?_
      exact zn_iret (pc := 48) rfl rfl ⟨rfl, hS3.inv, ((show FRm hh (zup hh 5 _) from ⟨Nat.le_refl _, fun i hi => zup_n (by omega)⟩).trans (hM3.frm (Or.inl rfl)))⟩
    · exfalso; omega
theorem i_lt7 {x : Int32} (h : ¬ nI 7 ≤ x) : x ≤ nI 6 := by
  rw [Int32.le_iff_toInt_le] at h ⊢
  rw [show (nI 7).toInt = 7 by decide] at h
  rw [show (nI 6).toInt = 6 by decide]
  omega
theorem q_setAl_1 {pf : Nat → Option Nat} {now p sz : Nat} {Z : Nat → Nat} (hS : ST hh F z A pf now p Z sz) {x y : Int32} (hx : ¬ ((nI 0 ≤ x ∧ x ≤ nI 6) ∧ (nI 0 ≤ y ∧ y ≤ nI 3))) : Zt g zX9_setAlignment [.ref 1, .int x, .int y] hh 0 := by
  have h24 := hS.tk.ok.2.1
  have h01 := hS.tk.ok.1
  have h120 := hS.im
  have hnb := hS.nb
  have hszz := hS.s3
  have hur := hS.ur
  have hnw := hS.nw
  show Zn g zX9_setAlignment 0 [some (.ref 1), some (.int x), some (.int y), none] [] hh 1 6 _
  refine zn_iload_n (pc := 0) rfl rfl ?_
  refine zn_if_lt (pc := 1) (tgt := 19) (x := x) rfl rfl (fun c1 => ?_) (fun c1 => ?_)
  · have k0 := c1
    exact zn_throw (pc := 19) (E := 0) rfl (Nat.le_of_ble_eq_true rfl) (Nat.le_of_ble_eq_true rfl) ⟨rfl, rfl⟩
  · have k0 := c1
    refine zn_iload_n (pc := 4) rfl rfl ?_
    refine zn_bipushN (pc := 5) 7 rfl rfl ?_
    refine zn_icmp_ge (pc := 7) (tgt := 19) (x := x) (y := (nI 7)) rfl rfl (fun c2 => ?_) (fun c2 => ?_)
    · have k1 := c2
      exact zn_throw (pc := 19) (E := 0) rfl (Nat.le_of_ble_eq_true rfl) (Nat.le_of_ble_eq_true rfl) ⟨rfl, rfl⟩
    · have k1 := c2
      refine zn_iload_n (pc := 10) rfl rfl ?_
      refine zn_if_lt (pc := 11) (tgt := 19) (x := y) rfl rfl (fun c3 => ?_) (fun c3 => ?_)
      · have k2 := c3
        exact zn_throw (pc := 19) (E := 0) rfl (Nat.le_of_ble_eq_true rfl) (Nat.le_of_ble_eq_true rfl) ⟨rfl, rfl⟩
      · have k2 := c3
        refine zn_iload_n (pc := 14) rfl rfl ?_
        refine zn_iconstN (pc := 15) 3 rfl rfl ?_
        refine zn_icmp_le (pc := 16) (tgt := 29) (x := y) (y := (nI 3)) rfl rfl (fun c4 => ?_) (fun c4 => ?_)
        · exact absurd ⟨⟨i_nn k0, i_lt7 k1⟩, i_nn k2, c4⟩ hx
        · exact zn_throw (pc := 19) (E := 0) rfl (Nat.le_of_ble_eq_true rfl) (Nat.le_of_ble_eq_true rfl) ⟨rfl, rfl⟩
theorem q_setSp_0 {pf : Nat → Option Nat} {now p sz : Nat} {Z : Nat → Nat} (hS : ST hh F z A pf now p Z sz) {v : Nat} (hv : 0 ≤ v ∧ v ≤ 8) : Zm g zX9_setSpacing [.ref 1, .int (nI 0), .int (nI v)] hh 0 0 (fun r h' => r = .inl (some (.int (nI (F 8)))) ∧ INV h' (va_up (va_up (va_up F 8 (v)) 9 (F 9)) 10 (F 10)) z (va_up A 4 (A 4)) ∧ FRm hh h') := by
  have h24 := hS.tk.ok.2.1
  have h01 := hS.tk.ok.1
  have h120 := hS.im
  have hnb := hS.nb
  have hszz := hS.s3
  have hur := hS.ur
  have hnw := hS.nw
  show Zn g zX9_setSpacing 0 [some (.ref 1), some (.int (nI 0)), some (.int (nI v)), none] [] hh 0 0 _
  refine zn_aload_n (pc := 0) rfl rfl ?_
  refine zn_get (pc := 1) (v := .ref 4) rfl hS.t rfl ?_
  refine zn_iload_n (pc := 4) rfl rfl ?_
  refine zn_iload_n (pc := 5) rfl rfl ?_
  refine zn_callVx (pc := 6) (J := zX2_allowsSpacing) (o := 4) (as := [.int (nI 0), .int (nI v)]) (rest := []) rfl rfl rfl rfl hS.f4 rfl rfl rfl (Nat.le_of_ble_eq_true rfl) (Nat.le_of_ble_eq_true rfl) (Nat.le_of_ble_eq_true rfl) (Nat.le_of_ble_eq_true rfl) (c_allowsSpacing_0 (nI v)) ?_
  refine zn_if_neB (pc := 9) (tgt := 22) rfl rfl (fun c1 => ?_) (fun c1 => ?_)
  · refine zn_aload_n (pc := 22) rfl rfl ?_
    refine zn_get (pc := 23) (v := .ref 4) rfl hS.t rfl ?_
    refine zn_iload_n (pc := 26) rfl rfl ?_
    refine zn_iload_n (pc := 27) rfl rfl ?_
    refine zn_callVx (pc := 28) (J := zX2_changeSpacing) (o := 4) (as := [.int (nI 0), .int (nI v)]) (rest := []) rfl rfl rfl rfl hS.f4 rfl rfl rfl (Nat.le_of_ble_eq_true rfl) (Nat.le_of_ble_eq_true rfl) (Nat.le_of_ble_eq_true rfl) (Nat.le_of_ble_eq_true rfl) (c_changeSpacing_0 hS.f4 hS.f5 hS.fo.2.2.1 hS.fo.2.2.2.1 hS.fo.2.2.2.2.1 hS.fo.2.2.2.2.2.1 hS.fo.2.2.2.2.2.2 (v := v)) ?_
    refine zn_istore_n (pc := 31) (L' := [some (.ref 1), some (.int (nI 0)), some (.int (nI v)), some (.int (nI (F 8)))]) rfl (by decide) rfl ?_
    refine zn_aload_n (pc := 32) rfl rfl ?_
    refine zn_aload_n (pc := 33) rfl rfl ?_
    refine zn_get (pc := 34) (v := .ref 10) rfl ((zup_n (by omega)).trans hS.t) rfl ?_
    refine zn_callVm (pc := 37) (mc1 := 0) (ms1 := 0) (mc := 0) (ms := 0) (J := zX9_measure) (o := 1) (as := [.ref 10]) (rest := []) rfl rfl rfl rfl ((zup_n (by omega)).trans hS.t) rfl rfl rfl (Nat.le_of_ble_eq_true rfl) (Nat.le_of_ble_eq_true rfl) (Nat.le_of_ble_eq_true rfl) (Nat.le_of_ble_eq_true rfl) (q_measure (hS.1.1.fmt hv.2 hS.fo.2.2.2.1 hS.fo.2.2.2.2.1 hS.fo.2.2.2.2.2.1 hS.fo.2.2.2.2.2.2 (fun i a b => zup_n a) rfl (zup_s _ _ _) ((zup_n (by omega)).trans hS.f5))) (fun E h9 q9 => by cases q9.1) ?_
    rintro v3 h3 ⟨e1, hI3, hM3⟩
    cases e1
    obtain ⟨Z3, s3, hS3⟩ := ST.of hI3
    refine zn_iload_n (pc := 40) rfl rfl ?_
    exact zn_iret (pc := 41) rfl rfl ⟨rfl, hS3.inv, ((show FRm hh (zup hh 4 _) from ⟨Nat.le_refl _, fun i hi => zup_n (by omega)⟩).trans (hM3.frm (Or.inl rfl)))⟩
  · exact absurd ((w_nI (by omega) (by omega) (by omega)).mpr hv) c1
theorem q_setSp_0t {pf : Nat → Option Nat} {now p sz : Nat} {Z : Nat → Nat} (hS : ST hh F z A pf now p Z sz) {y : Int32} (hy : ¬ (nI 0 ≤ y ∧ y ≤ nI 8)) : Zt g zX9_setSpacing [.ref 1, .int (nI 0), .int y] hh 0 := by
  have h24 := hS.tk.ok.2.1
  have h01 := hS.tk.ok.1
  have h120 := hS.im
  have hnb := hS.nb
  have hszz := hS.s3
  have hur := hS.ur
  have hnw := hS.nw
  show Zn g zX9_setSpacing 0 [some (.ref 1), some (.int (nI 0)), some (.int y), none] [] hh 1 6 _
  refine zn_aload_n (pc := 0) rfl rfl ?_
  refine zn_get (pc := 1) (v := .ref 4) rfl hS.t rfl ?_
  refine zn_iload_n (pc := 4) rfl rfl ?_
  refine zn_iload_n (pc := 5) rfl rfl ?_
  refine zn_callVx (pc := 6) (J := zX2_allowsSpacing) (o := 4) (as := [.int (nI 0), .int y]) (rest := []) rfl rfl rfl rfl hS.f4 rfl rfl rfl (Nat.le_of_ble_eq_true rfl) (Nat.le_of_ble_eq_true rfl) (Nat.le_of_ble_eq_true rfl) (Nat.le_of_ble_eq_true rfl) (c_allowsSpacing_0 y) ?_
  refine zn_if_neB (pc := 9) (tgt := 22) rfl rfl (fun c1 => ?_) (fun c1 => ?_)
  · exact absurd c1 hy
  · exact zn_throw (pc := 12) (E := 0) rfl (Nat.le_of_ble_eq_true rfl) (Nat.le_of_ble_eq_true rfl) ⟨rfl, rfl⟩
theorem q_setSp_1 {pf : Nat → Option Nat} {now p sz : Nat} {Z : Nat → Nat} (hS : ST hh F z A pf now p Z sz) {v : Nat} (hv : 0 ≤ v ∧ v ≤ 20) : Zm g zX9_setSpacing [.ref 1, .int (nI 1), .int (nI v)] hh 0 0 (fun r h' => r = .inl (some (.int (nI (F 9)))) ∧ INV h' (va_up (va_up (va_up F 8 (F 8)) 9 (v)) 10 (F 10)) z (va_up A 4 (A 4)) ∧ FRm hh h') := by
  have h24 := hS.tk.ok.2.1
  have h01 := hS.tk.ok.1
  have h120 := hS.im
  have hnb := hS.nb
  have hszz := hS.s3
  have hur := hS.ur
  have hnw := hS.nw
  show Zn g zX9_setSpacing 0 [some (.ref 1), some (.int (nI 1)), some (.int (nI v)), none] [] hh 0 0 _
  refine zn_aload_n (pc := 0) rfl rfl ?_
  refine zn_get (pc := 1) (v := .ref 4) rfl hS.t rfl ?_
  refine zn_iload_n (pc := 4) rfl rfl ?_
  refine zn_iload_n (pc := 5) rfl rfl ?_
  refine zn_callVx (pc := 6) (J := zX2_allowsSpacing) (o := 4) (as := [.int (nI 1), .int (nI v)]) (rest := []) rfl rfl rfl rfl hS.f4 rfl rfl rfl (Nat.le_of_ble_eq_true rfl) (Nat.le_of_ble_eq_true rfl) (Nat.le_of_ble_eq_true rfl) (Nat.le_of_ble_eq_true rfl) (c_allowsSpacing_1 (nI v)) ?_
  refine zn_if_neB (pc := 9) (tgt := 22) rfl rfl (fun c1 => ?_) (fun c1 => ?_)
  · refine zn_aload_n (pc := 22) rfl rfl ?_
    refine zn_get (pc := 23) (v := .ref 4) rfl hS.t rfl ?_
    refine zn_iload_n (pc := 26) rfl rfl ?_
    refine zn_iload_n (pc := 27) rfl rfl ?_
    refine zn_callVx (pc := 28) (J := zX2_changeSpacing) (o := 4) (as := [.int (nI 1), .int (nI v)]) (rest := []) rfl rfl rfl rfl hS.f4 rfl rfl rfl (Nat.le_of_ble_eq_true rfl) (Nat.le_of_ble_eq_true rfl) (Nat.le_of_ble_eq_true rfl) (Nat.le_of_ble_eq_true rfl) (c_changeSpacing_1 hS.f4 hS.f5 hS.fo.2.2.1 hS.fo.2.2.2.1 hS.fo.2.2.2.2.1 hS.fo.2.2.2.2.2.1 hS.fo.2.2.2.2.2.2 (v := v)) ?_
    refine zn_istore_n (pc := 31) (L' := [some (.ref 1), some (.int (nI 1)), some (.int (nI v)), some (.int (nI (F 9)))]) rfl (by decide) rfl ?_
    refine zn_aload_n (pc := 32) rfl rfl ?_
    refine zn_aload_n (pc := 33) rfl rfl ?_
    refine zn_get (pc := 34) (v := .ref 10) rfl ((zup_n (by omega)).trans hS.t) rfl ?_
    refine zn_callVm (pc := 37) (mc1 := 0) (ms1 := 0) (mc := 0) (ms := 0) (J := zX9_measure) (o := 1) (as := [.ref 10]) (rest := []) rfl rfl rfl rfl ((zup_n (by omega)).trans hS.t) rfl rfl rfl (Nat.le_of_ble_eq_true rfl) (Nat.le_of_ble_eq_true rfl) (Nat.le_of_ble_eq_true rfl) (Nat.le_of_ble_eq_true rfl) (q_measure (hS.1.1.fmt hS.fo.2.2.1 hv.2 hS.fo.2.2.2.2.1 hS.fo.2.2.2.2.2.1 hS.fo.2.2.2.2.2.2 (fun i a b => zup_n a) rfl (zup_s _ _ _) ((zup_n (by omega)).trans hS.f5))) (fun E h9 q9 => by cases q9.1) ?_
    rintro v3 h3 ⟨e1, hI3, hM3⟩
    cases e1
    obtain ⟨Z3, s3, hS3⟩ := ST.of hI3
    refine zn_iload_n (pc := 40) rfl rfl ?_
    exact zn_iret (pc := 41) rfl rfl ⟨rfl, hS3.inv, ((show FRm hh (zup hh 4 _) from ⟨Nat.le_refl _, fun i hi => zup_n (by omega)⟩).trans (hM3.frm (Or.inl rfl)))⟩
  · exact absurd ((w_nI (by omega) (by omega) (by omega)).mpr hv) c1
theorem q_setSp_1t {pf : Nat → Option Nat} {now p sz : Nat} {Z : Nat → Nat} (hS : ST hh F z A pf now p Z sz) {y : Int32} (hy : ¬ (nI 0 ≤ y ∧ y ≤ nI 20)) : Zt g zX9_setSpacing [.ref 1, .int (nI 1), .int y] hh 0 := by
  have h24 := hS.tk.ok.2.1
  have h01 := hS.tk.ok.1
  have h120 := hS.im
  have hnb := hS.nb
  have hszz := hS.s3
  have hur := hS.ur
  have hnw := hS.nw
  show Zn g zX9_setSpacing 0 [some (.ref 1), some (.int (nI 1)), some (.int y), none] [] hh 1 6 _
  refine zn_aload_n (pc := 0) rfl rfl ?_
  refine zn_get (pc := 1) (v := .ref 4) rfl hS.t rfl ?_
  refine zn_iload_n (pc := 4) rfl rfl ?_
  refine zn_iload_n (pc := 5) rfl rfl ?_
  refine zn_callVx (pc := 6) (J := zX2_allowsSpacing) (o := 4) (as := [.int (nI 1), .int y]) (rest := []) rfl rfl rfl rfl hS.f4 rfl rfl rfl (Nat.le_of_ble_eq_true rfl) (Nat.le_of_ble_eq_true rfl) (Nat.le_of_ble_eq_true rfl) (Nat.le_of_ble_eq_true rfl) (c_allowsSpacing_1 y) ?_
  refine zn_if_neB (pc := 9) (tgt := 22) rfl rfl (fun c1 => ?_) (fun c1 => ?_)
  · exact absurd c1 hy
  · exact zn_throw (pc := 12) (E := 0) rfl (Nat.le_of_ble_eq_true rfl) (Nat.le_of_ble_eq_true rfl) ⟨rfl, rfl⟩
theorem q_setSp_2 {pf : Nat → Option Nat} {now p sz : Nat} {Z : Nat → Nat} (hS : ST hh F z A pf now p Z sz) {v : Nat} (hv : 1 ≤ v ∧ v ≤ 8) : Zm g zX9_setSpacing [.ref 1, .int (nI 2), .int (nI v)] hh 0 0 (fun r h' => r = .inl (some (.int (nI (F 10)))) ∧ INV h' (va_up (va_up (va_up F 8 (F 8)) 9 (F 9)) 10 (v)) z (va_up A 4 (A 4)) ∧ FRm hh h') := by
  have h24 := hS.tk.ok.2.1
  have h01 := hS.tk.ok.1
  have h120 := hS.im
  have hnb := hS.nb
  have hszz := hS.s3
  have hur := hS.ur
  have hnw := hS.nw
  show Zn g zX9_setSpacing 0 [some (.ref 1), some (.int (nI 2)), some (.int (nI v)), none] [] hh 0 0 _
  refine zn_aload_n (pc := 0) rfl rfl ?_
  refine zn_get (pc := 1) (v := .ref 4) rfl hS.t rfl ?_
  refine zn_iload_n (pc := 4) rfl rfl ?_
  refine zn_iload_n (pc := 5) rfl rfl ?_
  refine zn_callVx (pc := 6) (J := zX2_allowsSpacing) (o := 4) (as := [.int (nI 2), .int (nI v)]) (rest := []) rfl rfl rfl rfl hS.f4 rfl rfl rfl (Nat.le_of_ble_eq_true rfl) (Nat.le_of_ble_eq_true rfl) (Nat.le_of_ble_eq_true rfl) (Nat.le_of_ble_eq_true rfl) (c_allowsSpacing_2 (nI v)) ?_
  refine zn_if_neB (pc := 9) (tgt := 22) rfl rfl (fun c1 => ?_) (fun c1 => ?_)
  · refine zn_aload_n (pc := 22) rfl rfl ?_
    refine zn_get (pc := 23) (v := .ref 4) rfl hS.t rfl ?_
    refine zn_iload_n (pc := 26) rfl rfl ?_
    refine zn_iload_n (pc := 27) rfl rfl ?_
    refine zn_callVx (pc := 28) (J := zX2_changeSpacing) (o := 4) (as := [.int (nI 2), .int (nI v)]) (rest := []) rfl rfl rfl rfl hS.f4 rfl rfl rfl (Nat.le_of_ble_eq_true rfl) (Nat.le_of_ble_eq_true rfl) (Nat.le_of_ble_eq_true rfl) (Nat.le_of_ble_eq_true rfl) (c_changeSpacing_2 hS.f4 hS.f5 hS.fo.2.2.1 hS.fo.2.2.2.1 hS.fo.2.2.2.2.1 hS.fo.2.2.2.2.2.1 hS.fo.2.2.2.2.2.2 (v := v)) ?_
    refine zn_istore_n (pc := 31) (L' := [some (.ref 1), some (.int (nI 2)), some (.int (nI v)), some (.int (nI (F 10)))]) rfl (by decide) rfl ?_
    refine zn_aload_n (pc := 32) rfl rfl ?_
    refine zn_aload_n (pc := 33) rfl rfl ?_
    refine zn_get (pc := 34) (v := .ref 10) rfl ((zup_n (by omega)).trans hS.t) rfl ?_
    refine zn_callVm (pc := 37) (mc1 := 0) (ms1 := 0) (mc := 0) (ms := 0) (J := zX9_measure) (o := 1) (as := [.ref 10]) (rest := []) rfl rfl rfl rfl ((zup_n (by omega)).trans hS.t) rfl rfl rfl (Nat.le_of_ble_eq_true rfl) (Nat.le_of_ble_eq_true rfl) (Nat.le_of_ble_eq_true rfl) (Nat.le_of_ble_eq_true rfl) (q_measure (hS.1.1.fmt hS.fo.2.2.1 hS.fo.2.2.2.1 hv.1 hv.2 hS.fo.2.2.2.2.2.2 (fun i a b => zup_n a) rfl (zup_s _ _ _) ((zup_n (by omega)).trans hS.f5))) (fun E h9 q9 => by cases q9.1) ?_
    rintro v3 h3 ⟨e1, hI3, hM3⟩
    cases e1
    obtain ⟨Z3, s3, hS3⟩ := ST.of hI3
    refine zn_iload_n (pc := 40) rfl rfl ?_
    exact zn_iret (pc := 41) rfl rfl ⟨rfl, hS3.inv, ((show FRm hh (zup hh 4 _) from ⟨Nat.le_refl _, fun i hi => zup_n (by omega)⟩).trans (hM3.frm (Or.inl rfl)))⟩
  · exact absurd ((w_nI (by omega) (by omega) (by omega)).mpr hv) c1
theorem q_setSp_2t {pf : Nat → Option Nat} {now p sz : Nat} {Z : Nat → Nat} (hS : ST hh F z A pf now p Z sz) {y : Int32} (hy : ¬ (nI 1 ≤ y ∧ y ≤ nI 8)) : Zt g zX9_setSpacing [.ref 1, .int (nI 2), .int y] hh 0 := by
  have h24 := hS.tk.ok.2.1
  have h01 := hS.tk.ok.1
  have h120 := hS.im
  have hnb := hS.nb
  have hszz := hS.s3
  have hur := hS.ur
  have hnw := hS.nw
  show Zn g zX9_setSpacing 0 [some (.ref 1), some (.int (nI 2)), some (.int y), none] [] hh 1 6 _
  refine zn_aload_n (pc := 0) rfl rfl ?_
  refine zn_get (pc := 1) (v := .ref 4) rfl hS.t rfl ?_
  refine zn_iload_n (pc := 4) rfl rfl ?_
  refine zn_iload_n (pc := 5) rfl rfl ?_
  refine zn_callVx (pc := 6) (J := zX2_allowsSpacing) (o := 4) (as := [.int (nI 2), .int y]) (rest := []) rfl rfl rfl rfl hS.f4 rfl rfl rfl (Nat.le_of_ble_eq_true rfl) (Nat.le_of_ble_eq_true rfl) (Nat.le_of_ble_eq_true rfl) (Nat.le_of_ble_eq_true rfl) (c_allowsSpacing_2 y) ?_
  refine zn_if_neB (pc := 9) (tgt := 22) rfl rfl (fun c1 => ?_) (fun c1 => ?_)
  · exact absurd c1 hy
  · exact zn_throw (pc := 12) (E := 0) rfl (Nat.le_of_ble_eq_true rfl) (Nat.le_of_ble_eq_true rfl) ⟨rfl, rfl⟩
theorem q_setSp_o {pf : Nat → Option Nat} {now p sz : Nat} {Z : Nat → Nat} (hS : ST hh F z A pf now p Z sz) {x y : Int32} (hx : x.toInt < 0 ∨ 2 < x.toInt) : Zt g zX9_setSpacing [.ref 1, .int x, .int y] hh 0 := by
  have h24 := hS.tk.ok.2.1
  have h01 := hS.tk.ok.1
  have h120 := hS.im
  have hnb := hS.nb
  have hszz := hS.s3
  have hur := hS.ur
  have hnw := hS.nw
  show Zn g zX9_setSpacing 0 [some (.ref 1), some (.int x), some (.int y), none] [] hh 1 6 _
  refine zn_aload_n (pc := 0) rfl rfl ?_
  refine zn_get (pc := 1) (v := .ref 4) rfl hS.t rfl ?_
  refine zn_iload_n (pc := 4) rfl rfl ?_
  refine zn_iload_n (pc := 5) rfl rfl ?_
  refine zn_callVx (pc := 6) (J := zX2_allowsSpacing) (o := 4) (as := [.int x, .int y]) (rest := []) rfl rfl rfl rfl hS.f4 rfl rfl rfl (Nat.le_of_ble_eq_true rfl) (Nat.le_of_ble_eq_true rfl) (Nat.le_of_ble_eq_true rfl) (Nat.le_of_ble_eq_true rfl) (c_allowsSpacing_o x y hx) ?_
  refine zn_if_neB (pc := 9) (tgt := 22) rfl rfl (fun c1 => ?_) (fun c1 => ?_)
  · exact absurd c1 (fun q => q)
  · exact zn_throw (pc := 12) (E := 0) rfl (Nat.le_of_ble_eq_true rfl) (Nat.le_of_ble_eq_true rfl) ⟨rfl, rfl⟩
end m1
