section wg
variable {g : zG} {h hh : zH} {F : Nat → Nat} {S : Int64} {z : Nat → Nat} {A : Nat → Nat → Nat} {X : Nat → Int32}
theorem q_meas_0 {pf : Nat → Option Nat} {now p : Nat} (hpg : Pg hh p z) (hT : TOb hh) (hFo : FOb hh F A) (hH : HIq hh z (kU F A) (kV F A) (F 5) (F 6) pf now p) (hL10 : LSh hh 10) : Zm g zX9_measure [.ref 1, .ref 10] hh 0 0 (fun r h' => r = .inl none ∧ MF 10 hh h' ∧ LSh h' 10 ∧ LK h' 10 z (pRR F z A) (nbb z)) := by
  obtain ⟨Z, sz, hG, hfl, htk⟩ := hpg
  have hpp := hG.2.2.2.2
  obtain ⟨n0, C0, V0, m0, D0, W0, X0, B0, hl⟩ := hL10.eq
  obtain ⟨⟨nR, CR, VR⟩, r1, r2, r3⟩ := rd_text (n := n0) (C := C0) (V := V0) htk hfl
  have r2a : nR = z 0 := r2
  subst r2a
  replace r3 : cCel z CR VR := r3
  have hro : rOK z (pRR F z A) (nbb z) := pR_ok htk.ok hFo.2.2.2.2.2.2 hFo.2.2.2.2.2.1 hFo.2.2.2.1 hFo.2.2.1
  show Zn g zX9_measure 0 [some (.ref 1), some (.ref 10)] [] hh 0 0 _
  refine zn_heq (h' := lhp 10 hh n0 C0 V0 m0 D0 W0 X0 B0) hl ?_
  refine zn_aload_n (pc := 0) rfl rfl ?_
  refine zn_get (pc := 1) (v := .ref 11) rfl (ov_i (k := 0) (by omega)) rfl ?_
  refine zn_aload_n (pc := 4) rfl rfl ?_
  refine zn_get (pc := 5) (v := .ref 6) rfl ((ov_o (by omega)).trans hT) rfl ?_
  refine zn_callVx (pc := 8) (J := zX3_page) (o := 6) (as := []) (rest := [.ref 11]) rfl rfl rfl rfl ((ov_o (by omega)).trans hH.1) rfl rfl rfl (Nat.le_of_ble_eq_true rfl) (Nat.le_of_ble_eq_true rfl) (Nat.le_of_ble_eq_true rfl) (Nat.le_of_ble_eq_true rfl) (q_pageG ((ov_o (by omega)).trans hH.1)) ?_
  refine zn_callVx (pc := 11) (J := zX1_read) (o := 11) (as := [.ref p]) (rest := []) rfl rfl rfl rfl (ov_i (k := 1) (by omega)) rfl rfl rfl (Nat.le_of_ble_eq_true rfl) (Nat.le_of_ble_eq_true rfl) (Nat.le_of_ble_eq_true rfl) (Nat.le_of_ble_eq_true rfl) (c_read_10 hG.1 hG.2.1 hG.2.2.1 hG.2.2.2.1 (by omega) (by omega) r1) ?_
  refine zn_aload_n (pc := 14) rfl rfl ?_
  refine zn_get (pc := 15) (v := .ref 18) rfl (ov_i (k := 0) (by omega)) rfl ?_
  refine zn_aload_n (pc := 18) rfl rfl ?_
  refine zn_get (pc := 19) (v := .ref 11) rfl (ov_i (k := 0) (by omega)) rfl ?_
  refine zn_aload_n (pc := 22) rfl rfl ?_
  refine zn_get (pc := 23) (v := .ref 4) rfl ((ov_o (by omega)).trans hT) rfl ?_
  refine zn_callVm (pc := 26) (mc1 := 0) (ms1 := 0) (mc := 0) (ms := 0) (J := zX0_collect) (o := 18) (as := [.ref 11, .ref 4]) (rest := []) rfl rfl rfl rfl (ov_i (k := 8) (by omega)) rfl rfl rfl (Nat.le_of_ble_eq_true rfl) (Nat.le_of_ble_eq_true rfl) (Nat.le_of_ble_eq_true rfl) (Nat.le_of_ble_eq_true rfl) (c_collect_10 htk.ok r3 hFo.1 hFo.2.1 hFo.2.2.1 hFo.2.2.2.1 hFo.2.2.2.2.1 hFo.2.2.2.2.2.1 hFo.2.2.2.2.2.2) (fun E h9 q9 => by cases q9.1) ?_
  rintro v2 h2 ⟨e1, D1, W1, e2, hD1⟩
  cases e1
  subst e2
  refine zn_aload_n (pc := 29) rfl rfl ?_
  refine zn_callVm (pc := 30) (mc1 := 0) (ms1 := 0) (mc := 0) (ms := 0) (J := zX5_placeCells) (o := 10) (as := []) (rest := []) rfl rfl rfl rfl (ov_i (k := 0) (by omega)) rfl rfl rfl (Nat.le_of_ble_eq_true rfl) (Nat.le_of_ble_eq_true rfl) (Nat.le_of_ble_eq_true rfl) (Nat.le_of_ble_eq_true rfl) (c_placeCells_10 htk.ok r3 hro (fun b hb => pR_hold hD1 hb)) (fun E h9 q9 => by cases q9.1) ?_
  rintro v3 h3 ⟨e1, X1, B1, e2, hX1, hB1⟩
  cases e1
  subst e2
  exact zn_vret (pc := 33) rfl rfl ⟨rfl, ⟨rfl, fun i hi => ov_o (by omega)⟩, LSh.of, LK_l htk r3 hro (fun b hb => pR_hold hD1 hb) hX1 hB1⟩
end wg
