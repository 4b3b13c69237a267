section m1
variable {g : zG} {h hh : zH} {F : Nat → Nat} {S : Int64} {z : Nat → Nat} {A : Nat → Nat → Nat} {X : Nat → Int32}
section pe
variable {pf : Nat → Option Nat} {now p sz : Nat} {Z : Nat → Nat}
theorem q_pput (hS : ST hh F z A pf now p Z sz) {a x : Nat} (ha : a ≤ sz) (hs : sz + 1 ≤ 3264) : Zx g zX7_put [.ref p, .int (nI a), .int (nI x)] hh none (pgs hh 7 3264 p (p + 1) (va_up (va_cpy Z Z a (a + 1) (sz - a)) a x) (sz + 1)) := by
  have r := c_put (g := g) (h := hh) (p := p) (q := p + 1) (Z := Z) (a := a) (x := x) (by omega) (by omega) ha hs
  rwa [pgs_self hS.po hS.qo] at r
theorem q_pcut (hS : ST hh F z A pf now p Z sz) {a n : Nat} (ha : a + n ≤ sz) : Zx g zX7_cut [.ref p, .int (nI a), .int (nI n)] hh none (pgs hh 7 3264 p (p + 1) (va_cpy Z Z (a + n) a (sz - a - n)) (sz - n)) := by
  have r := c_cut (g := g) (h := hh) (p := p) (q := p + 1) (Z := Z) (a := a) (n := n) (by omega) (by omega) ha hS.s3
  rwa [pgs_self hS.po hS.qo] at r
theorem q_pclear (hS : ST hh F z A pf now p Z sz) : Zx g zX7_clear [.ref p] hh none (pgs hh 7 3264 p (p + 1) Z 0) := by
  have r := c_clear (g := g) (h := hh) (p := p) (q := p + 1) (Z := Z) (sz := sz) (by omega) (by omega)
  rwa [pgs_self hS.po hS.qo] at r
theorem q_prun (hS : ST hh F z A pf now p Z sz) {s e b : Nat} (hs0 : s ≤ 3264) (hb : b ≤ 16) (hb1 : 1 ≤ b) (he : e ≤ sz) : Zx g zX7_replaceRuns [.ref p, .int (nI s), .int (nI e), .int (nI b)] hh none (pgs hh 7 3264 p (p + 1) ((rrn s b e e (Z, sz)).1) ((rrn s b e e (Z, sz)).2)) := by
  have r := c_replaceRuns (g := g) (h := hh) (p := p) (q := p + 1) (Z := Z) (sz := sz) (by omega) (by omega) hs0 hb hb1 he hS.s3 hS.Zb
  rwa [pgs_self hS.po hS.qo] at r
theorem q_iemptyG {m : Nat} {Bf : Nat → Nat} (hi2 : hh.1 2 = some (.inr (4, [.ref 3, .int (nI m)]))) (hi3 : hh.1 3 = some (mNA 120 Bf)) : Zx g zX4_empty [.ref 2] hh (some (.int (nI m))) (pgs hh 4 120 2 3 Bf 0) := by
  have r := c_empty (g := g) (h := hh) (m := m) (Bf := Bf)
  rwa [pgs_self hi2 hi3] at r
end pe
theorem q_cellsG  (h1 : hh.1 1 = some (.inr (8, [.ref 2, .ref 4, .ref 6, .ref 10, .ref 30]))) (h10 : hh.1 10 = some (.inr (5, [.ref 11, .ref 18, .ref 28, .ref 29]))) : Zx g zX9_cells [.ref 1] (hh) (some (.ref 11)) (hh) := by
  show Zn g zX9_cells 0 [some (.ref 1)] [] (hh) 0 0 _
  refine zn_aload_n (pc := 0) rfl rfl ?_
  refine zn_get (pc := 1) (v := .ref 10) rfl h1 rfl ?_
  refine zn_get (pc := 4) (v := .ref 11) rfl h10 rfl ?_
  exact zx_a (pc := 7) rfl rfl rfl rfl
theorem q_type_s {pf : Nat → Option Nat} {now p sz : Nat} {Z : Nat → Nat} (hS : ST hh F z A pf now p Z sz) {l c : Nat} (hl : l < z 0) (hc : c < z (1 + l)) {q v : Nat} (hq : q ≤ z (25 + 8 * l + c)) (hcd : mCode (nI v)) (hr : cRoom z l c (nI v)) (h15 : z (25 + 8 * l + c) < 16) (h32 : 32 ≤ v) (hv : v < 1000) : Zm g zX9_type [.ref 1, .int (nI l), .int (nI c), .int (nI q), .int (nI v)] hh 2 3266 (fun r h' => r = .inl (some (.int (nI (z (25 + 8 * l + c) + 1)))) ∧ INV h' (svF F) (mpsg z l c q v) (svA F z A) ∧ FRm hh h') := by
  have h24 := hS.tk.ok.2.1
  have h01 := hS.tk.ok.1
  have h120 := hS.im
  have hnb := hS.nb
  have hszz := hS.s3
  have hur := hS.ur
  have hnw := hS.nw
  have h8 := (hS.tk.gl hl).2.1
  have h16 := hS.tk.ok.2.2.2 l c hl hc
  have hcs := hS.fl.cell hl hc
  have hs1 := hS.fl.sz hS.tk.ok
  obtain ⟨ht2, hf2⟩ := psg_T (v := v) hS.tk hl hc hq h15 h32 hv
  have k2 : mpsg z l c q v (1 + l) = z (1 + l) := psg_k (by omega)
  have k3 : mpsg z l c q v 0 = z 0 := psg_0 (by omega)
  show Zn g zX9_type 0 [some (.ref 1), some (.int (nI l)), some (.int (nI c)), some (.int (nI q)), some (.int (nI v)), none] [] hh 2 3266 _
  refine zn_aload_n (pc := 0) rfl rfl ?_
  refine zn_iload_n (pc := 1) rfl rfl ?_
  refine zn_iload_n (pc := 2) rfl rfl ?_
  refine zn_iload_n (pc := 3) rfl rfl ?_
  refine zn_iload (pc := 4) rfl rfl ?_
  refine zn_callVx (pc := 6) (J := zX9_requireTypable) (o := 1) (as := [.int (nI l), .int (nI c), .int (nI q), .int (nI v)]) (rest := []) rfl rfl rfl rfl hS.t rfl rfl rfl (Nat.le_of_ble_eq_true rfl) (Nat.le_of_ble_eq_true rfl) (Nat.le_of_ble_eq_true rfl) (Nat.le_of_ble_eq_true rfl) (q_rTyp hS (l := l) (c := c) (q := q) (by omega) (by omega) (by omega) hcd hr) ?_
  refine zn_aload_n (pc := 9) rfl rfl ?_
  refine zn_callVx (pc := 10) (J := zX9_cells) (o := 1) (as := []) (rest := []) rfl rfl rfl rfl hS.t rfl rfl rfl (Nat.le_of_ble_eq_true rfl) (Nat.le_of_ble_eq_true rfl) (Nat.le_of_ble_eq_true rfl) (Nat.le_of_ble_eq_true rfl) (q_cells hS) ?_
  refine zn_iload_n (pc := 13) rfl rfl ?_
  refine zn_iload_n (pc := 14) rfl rfl ?_
  refine zn_callVx (pc := 15) (J := zX1_start) (o := 11) (as := [.int (nI l), .int (nI c)]) (rest := []) rfl rfl rfl rfl hS.o11 rfl rfl rfl (Nat.le_of_ble_eq_true rfl) (Nat.le_of_ble_eq_true rfl) (Nat.le_of_ble_eq_true rfl) (Nat.le_of_ble_eq_true rfl) (c_start_10 hS.L.ok hS.L.c (l := l) (c := c) (by omega) (by omega)) ?_
  refine zn_iload_n (pc := 18) rfl rfl ?_
  refine zn_iaddN (pc := 19) (x := (CS z l c)) (y := q) rfl ?_
  refine zn_istore (pc := 20) (L' := [some (.ref 1), some (.int (nI l)), some (.int (nI c)), some (.int (nI q)), some (.int (nI v)), some (.int (nI (CS z l c + q)))]) rfl (by decide) rfl ?_
  refine zn_aload_n (pc := 22) rfl rfl ?_
  refine zn_get (pc := 23) (v := .ref 6) rfl hS.t rfl ?_
  refine zn_callVm (pc := 26) (mc1 := 2) (ms1 := 3266) (mc := 0) (ms := 0) (J := zX3_save) (o := 6) (as := []) (rest := []) rfl rfl rfl rfl hS.h6 rfl rfl rfl (Nat.le_of_ble_eq_true rfl) (Nat.le_of_ble_eq_true rfl) (Nat.le_of_ble_eq_true rfl) (Nat.le_of_ble_eq_true rfl) (q_save hS) (fun E h9 q9 => by obtain ⟨P9, q9, -⟩ := q9; cases q9) ?_
  rintro v1 h1 ⟨P, e1, pf1, now1, Z1, hS1, hfr1, hG1, ⟨nP1, nP2, nP3⟩, hfx1, hpx1⟩
  cases e1
  have hpp1 := hS1.pp
  have hpp0 := hS.pp
  have e11 : svF F 11 = F 11 := svFn (by omega) (by omega)
  have e5 : svA F z A 5 = A 5 := svAn (by omega)
  refine zn_iload (pc := 29) rfl rfl ?_
  refine zn_iload (pc := 31) rfl rfl ?_
  refine zn_callVx (pc := 33) (J := zX7_put) (o := P) (as := [.int (nI (CS z l c + q)), .int (nI v)]) (rest := []) rfl rfl rfl rfl hS1.po rfl rfl rfl (Nat.le_of_ble_eq_true rfl) (Nat.le_of_ble_eq_true rfl) (Nat.le_of_ble_eq_true rfl) (Nat.le_of_ble_eq_true rfl) (q_pput hS1 (a := (CS z l c + q)) (x := v) (by omega) (by omega)) ?_
  refine zn_aload_n (pc := 36) rfl rfl ?_
  refine zn_aload_n (pc := 37) rfl rfl ?_
  refine zn_get (pc := 38) (v := .ref 10) rfl ((pg_n (by omega) (by omega)).trans hS1.t) rfl ?_
  refine zn_callVm (pc := 41) (mc1 := 0) (ms1 := 0) (mc := 0) (ms := 0) (J := zX9_measure) (o := 1) (as := [.ref 10]) (rest := []) rfl rfl rfl rfl ((pg_n (by omega) (by omega)).trans hS1.t) rfl rfl rfl (Nat.le_of_ble_eq_true rfl) (Nat.le_of_ble_eq_true rfl) (Nat.le_of_ble_eq_true rfl) (Nat.le_of_ble_eq_true rfl) (q_measure (hS1.1.1.edit (Z2 := va_up (va_cpy Z1 Z1 (CS z l c + q) ((CS z l c + q) + 1) (sz - (CS z l c + q))) (CS z l c + q) v) (sz2 := sz + 1) (z2 := mpsg z l c q v) (by show PL _ _ (fT (mpsg z l c q v)); rw [hf2]; exact (hS1.fl.spl (fT_q hl hc hq)).put fup_len (by omega)) ht2 (zb_up (zb_cpy hS1.Zb hS1.Zb) (by omega)) (by omega))) (fun E h9 q9 => by cases q9.1) ?_
  rintro v3 h3 ⟨e1, hI3, hM3⟩
  cases e1
  obtain ⟨Z3, s3, hS3⟩ := ST.of hI3
  refine zn_iload (pc := 44) rfl rfl ?_
  refine zn_bipushN (pc := 46) 10 rfl rfl ?_
  refine zn_icmp_neN (pc := 48) (tgt := 59) (x := v) (y := 10) rfl rfl (by omega) (by omega) (fun c1 => ?_) (fun c1 => ?_)
  · refine zn_iload (pc := 59) rfl rfl ?_
    refine zn_bipushN (pc := 61) 9 rfl rfl ?_
    refine zn_icmp_neN (pc := 63) (tgt := 77) (x := v) (y := 9) rfl rfl (by omega) (by omega) (fun c2 => ?_) (fun c2 => ?_)
    · refine zn_aload_n (pc := 77) rfl rfl ?_
      refine zn_callVx (pc := 78) (J := zX9_cells) (o := 1) (as := []) (rest := []) rfl rfl rfl rfl hS3.t rfl rfl rfl (Nat.le_of_ble_eq_true rfl) (Nat.le_of_ble_eq_true rfl) (Nat.le_of_ble_eq_true rfl) (Nat.le_of_ble_eq_true rfl) (q_cells hS3) ?_
      refine zn_iload_n (pc := 81) rfl rfl ?_
      refine zn_iload_n (pc := 82) rfl rfl ?_
      refine zn_callVx (pc := 83) (J := zX1_length) (o := 11) (as := [.int (nI l), .int (nI c)]) (rest := []) rfl rfl rfl rfl hS3.o11 rfl rfl rfl (Nat.le_of_ble_eq_true rfl) (Nat.le_of_ble_eq_true rfl) (Nat.le_of_ble_eq_true rfl) (Nat.le_of_ble_eq_true rfl) (c_length_10 hS3.L.ok hS3.L.c (l := l) (c := c) (by omega) (by omega)) ?_
      exact zn_iret (pc := 86) rfl rfl ⟨by rw [psg_n], hS3.inv, (hfr1.trans (hS1.1.1.edit_fr.trans (hM3.frm (Or.inl rfl))))⟩
    · exfalso; omega
  · exfalso; omega
theorem q_type_t {pf : Nat → Option Nat} {now p sz : Nat} {Z : Nat → Nat} (hS : ST hh F z A pf now p Z sz) {l c : Nat} (hl : l < z 0) (hc : c < z (1 + l)) {q : Nat} (hq : q ≤ z (25 + 8 * l + c)) (hcd : mCode (nI 9)) (hr : cRoom z l c (nI 9)) (h9 : z (1 + l) < 8) : Zm g zX9_type [.ref 1, .int (nI l), .int (nI c), .int (nI q), .int (nI 9)] hh 2 3266 (fun r h' => r = .inl (some (.int (nI (z (1 + l) + 1)))) ∧ INV h' (svF F) (mptb z l c q) (svA F z A) ∧ FRm hh h') := by
  have h24 := hS.tk.ok.2.1
  have h01 := hS.tk.ok.1
  have h120 := hS.im
  have hnb := hS.nb
  have hszz := hS.s3
  have hur := hS.ur
  have hnw := hS.nw
  have h8 := (hS.tk.gl hl).2.1
  have h16 := hS.tk.ok.2.2.2 l c hl hc
  have hcs := hS.fl.cell hl hc
  have hs1 := hS.fl.sz hS.tk.ok
  obtain ⟨ht2, hf2, k3, k2⟩ := ptb_T hS.tk hl hc hq h9
  show Zn g zX9_type 0 [some (.ref 1), some (.int (nI l)), some (.int (nI c)), some (.int (nI q)), some (.int (nI 9)), none] [] hh 2 3266 _
  refine zn_aload_n (pc := 0) rfl rfl ?_
  refine zn_iload_n (pc := 1) rfl rfl ?_
  refine zn_iload_n (pc := 2) rfl rfl ?_
  refine zn_iload_n (pc := 3) rfl rfl ?_
  refine zn_iload (pc := 4) rfl rfl ?_
  refine zn_callVx (pc := 6) (J := zX9_requireTypable) (o := 1) (as := [.int (nI l), .int (nI c), .int (nI q), .int (nI 9)]) (rest := []) rfl rfl rfl rfl hS.t rfl rfl rfl (Nat.le_of_ble_eq_true rfl) (Nat.le_of_ble_eq_true rfl) (Nat.le_of_ble_eq_true rfl) (Nat.le_of_ble_eq_true rfl) (q_rTyp hS (l := l) (c := c) (q := q) (by omega) (by omega) (by omega) hcd hr) ?_
  refine zn_aload_n (pc := 9) rfl rfl ?_
  refine zn_callVx (pc := 10) (J := zX9_cells) (o := 1) (as := []) (rest := []) rfl rfl rfl rfl hS.t rfl rfl rfl (Nat.le_of_ble_eq_true rfl) (Nat.le_of_ble_eq_true rfl) (Nat.le_of_ble_eq_true rfl) (Nat.le_of_ble_eq_true rfl) (q_cells hS) ?_
  refine zn_iload_n (pc := 13) rfl rfl ?_
  refine zn_iload_n (pc := 14) rfl rfl ?_
  refine zn_callVx (pc := 15) (J := zX1_start) (o := 11) (as := [.int (nI l), .int (nI c)]) (rest := []) rfl rfl rfl rfl hS.o11 rfl rfl rfl (Nat.le_of_ble_eq_true rfl) (Nat.le_of_ble_eq_true rfl) (Nat.le_of_ble_eq_true rfl) (Nat.le_of_ble_eq_true rfl) (c_start_10 hS.L.ok hS.L.c (l := l) (c := c) (by omega) (by omega)) ?_
  refine zn_iload_n (pc := 18) rfl rfl ?_
  refine zn_iaddN (pc := 19) (x := (CS z l c)) (y := q) rfl ?_
  refine zn_istore (pc := 20) (L' := [some (.ref 1), some (.int (nI l)), some (.int (nI c)), some (.int (nI q)), some (.int (nI 9)), some (.int (nI (CS z l c + q)))]) rfl (by decide) rfl ?_
  refine zn_aload_n (pc := 22) rfl rfl ?_
  refine zn_get (pc := 23) (v := .ref 6) rfl hS.t rfl ?_
  refine zn_callVm (pc := 26) (mc1 := 2) (ms1 := 3266) (mc := 0) (ms := 0) (J := zX3_save) (o := 6) (as := []) (rest := []) rfl rfl rfl rfl hS.h6 rfl rfl rfl (Nat.le_of_ble_eq_true rfl) (Nat.le_of_ble_eq_true rfl) (Nat.le_of_ble_eq_true rfl) (Nat.le_of_ble_eq_true rfl) (q_save hS) (fun E h9 q9 => by obtain ⟨P9, q9, -⟩ := q9; cases q9) ?_
  rintro v1 h1 ⟨P, e1, pf1, now1, Z1, hS1, hfr1, hG1, ⟨nP1, nP2, nP3⟩, hfx1, hpx1⟩
  cases e1
  have hpp1 := hS1.pp
  have hpp0 := hS.pp
  have e11 : svF F 11 = F 11 := svFn (by omega) (by omega)
  have e5 : svA F z A 5 = A 5 := svAn (by omega)
  refine zn_iload (pc := 29) rfl rfl ?_
  refine zn_iload (pc := 31) rfl rfl ?_
  refine zn_callVx (pc := 33) (J := zX7_put) (o := P) (as := [.int (nI (CS z l c + q)), .int (nI 9)]) (rest := []) rfl rfl rfl rfl hS1.po rfl rfl rfl (Nat.le_of_ble_eq_true rfl) (Nat.le_of_ble_eq_true rfl) (Nat.le_of_ble_eq_true rfl) (Nat.le_of_ble_eq_true rfl) (q_pput hS1 (a := (CS z l c + q)) (x := 9) (by omega) (by omega)) ?_
  refine zn_aload_n (pc := 36) rfl rfl ?_
  refine zn_aload_n (pc := 37) rfl rfl ?_
  refine zn_get (pc := 38) (v := .ref 10) rfl ((pg_n (by omega) (by omega)).trans hS1.t) rfl ?_
  refine zn_callVm (pc := 41) (mc1 := 0) (ms1 := 0) (mc := 0) (ms := 0) (J := zX9_measure) (o := 1) (as := [.ref 10]) (rest := []) rfl rfl rfl rfl ((pg_n (by omega) (by omega)).trans hS1.t) rfl rfl rfl (Nat.le_of_ble_eq_true rfl) (Nat.le_of_ble_eq_true rfl) (Nat.le_of_ble_eq_true rfl) (Nat.le_of_ble_eq_true rfl) (q_measure (hS1.1.1.edit (Z2 := va_up (va_cpy Z1 Z1 (CS z l c + q) ((CS z l c + q) + 1) (sz - (CS z l c + q))) (CS z l c + q) 9) (sz2 := sz + 1) (z2 := mptb z l c q) (by show PL _ _ (fT (mptb z l c q)); rw [hf2]; exact (hS1.fl.spl (fT_q hl hc hq)).put fup_len (by omega)) ht2 (zb_up (zb_cpy hS1.Zb hS1.Zb) (by omega)) (by omega))) (fun E h9 q9 => by cases q9.1) ?_
  rintro v3 h3 ⟨e1, hI3, hM3⟩
  cases e1
  obtain ⟨Z3, s3, hS3⟩ := ST.of hI3
  refine zn_iload (pc := 44) rfl rfl ?_
  refine zn_bipushN (pc := 46) 10 rfl rfl ?_
  refine zn_icmp_neN (pc := 48) (tgt := 59) (x := 9) (y := 10) rfl rfl (by omega) (by omega) (fun c1 => ?_) (fun c1 => ?_)
  · refine zn_iload (pc := 59) rfl rfl ?_
    refine zn_bipushN (pc := 61) 9 rfl rfl ?_
    refine zn_icmp_neN (pc := 63) (tgt := 77) (x := 9) (y := 9) rfl rfl (by omega) (by omega) (fun c2 => ?_) (fun c2 => ?_)
    · exfalso; omega
    · refine zn_aload_n (pc := 66) rfl rfl ?_
      refine zn_callVx (pc := 67) (J := zX9_cells) (o := 1) (as := []) (rest := []) rfl rfl rfl rfl hS3.t rfl rfl rfl (Nat.le_of_ble_eq_true rfl) (Nat.le_of_ble_eq_true rfl) (Nat.le_of_ble_eq_true rfl) (Nat.le_of_ble_eq_true rfl) (q_cells hS3) ?_
      refine zn_iload_n (pc := 70) rfl rfl ?_
      refine zn_callVx (pc := 71) (J := zX1_cellsOf) (o := 11) (as := [.int (nI l)]) (rest := []) rfl rfl rfl rfl hS3.o11 rfl rfl rfl (Nat.le_of_ble_eq_true rfl) (Nat.le_of_ble_eq_true rfl) (Nat.le_of_ble_eq_true rfl) (Nat.le_of_ble_eq_true rfl) (c_cellsOf_10 hS3.L.ok hS3.L.c (l := l) (by omega)) ?_
      refine zn_goto (pc := 74) (tgt := 86) rfl rfl ?_
      exact zn_iret (pc := 86) rfl rfl ⟨by rw [k2], hS3.inv, (hfr1.trans (hS1.1.1.edit_fr.trans (hM3.frm (Or.inl rfl))))⟩
  · exfalso; omega
theorem q_type_e {pf : Nat → Option Nat} {now p sz : Nat} {Z : Nat → Nat} (hS : ST hh F z A pf now p Z sz) {l c : Nat} (hl : l < z 0) (hc : c < z (1 + l)) {q : Nat} (hq : q ≤ z (25 + 8 * l + c)) (hcd : mCode (nI 10)) (hr : cRoom z l c (nI 10)) (h9 : z 0 < 24) : Zm g zX9_type [.ref 1, .int (nI l), .int (nI c), .int (nI q), .int (nI 10)] hh 2 3266 (fun r h' => r = .inl (some (.int (nI (z 0 + 1)))) ∧ INV h' (svF F) (mpen z l c q) (svA F z A) ∧ FRm hh h') := by
  have h24 := hS.tk.ok.2.1
  have h01 := hS.tk.ok.1
  have h120 := hS.im
  have hnb := hS.nb
  have hszz := hS.s3
  have hur := hS.ur
  have hnw := hS.nw
  have h8 := (hS.tk.gl hl).2.1
  have h16 := hS.tk.ok.2.2.2 l c hl hc
  have hcs := hS.fl.cell hl hc
  have hs1 := hS.fl.sz hS.tk.ok
  obtain ⟨ht2, hf2, k3⟩ := pen_T hS.tk hl hc hq h9
  show Zn g zX9_type 0 [some (.ref 1), some (.int (nI l)), some (.int (nI c)), some (.int (nI q)), some (.int (nI 10)), none] [] hh 2 3266 _
  refine zn_aload_n (pc := 0) rfl rfl ?_
  refine zn_iload_n (pc := 1) rfl rfl ?_
  refine zn_iload_n (pc := 2) rfl rfl ?_
  refine zn_iload_n (pc := 3) rfl rfl ?_
  refine zn_iload (pc := 4) rfl rfl ?_
  refine zn_callVx (pc := 6) (J := zX9_requireTypable) (o := 1) (as := [.int (nI l), .int (nI c), .int (nI q), .int (nI 10)]) (rest := []) rfl rfl rfl rfl hS.t rfl rfl rfl (Nat.le_of_ble_eq_true rfl) (Nat.le_of_ble_eq_true rfl) (Nat.le_of_ble_eq_true rfl) (Nat.le_of_ble_eq_true rfl) (q_rTyp hS (l := l) (c := c) (q := q) (by omega) (by omega) (by omega) hcd hr) ?_
  refine zn_aload_n (pc := 9) rfl rfl ?_
  refine zn_callVx (pc := 10) (J := zX9_cells) (o := 1) (as := []) (rest := []) rfl rfl rfl rfl hS.t rfl rfl rfl (Nat.le_of_ble_eq_true rfl) (Nat.le_of_ble_eq_true rfl) (Nat.le_of_ble_eq_true rfl) (Nat.le_of_ble_eq_true rfl) (q_cells hS) ?_
  refine zn_iload_n (pc := 13) rfl rfl ?_
  refine zn_iload_n (pc := 14) rfl rfl ?_
  refine zn_callVx (pc := 15) (J := zX1_start) (o := 11) (as := [.int (nI l), .int (nI c)]) (rest := []) rfl rfl rfl rfl hS.o11 rfl rfl rfl (Nat.le_of_ble_eq_true rfl) (Nat.le_of_ble_eq_true rfl) (Nat.le_of_ble_eq_true rfl) (Nat.le_of_ble_eq_true rfl) (c_start_10 hS.L.ok hS.L.c (l := l) (c := c) (by omega) (by omega)) ?_
  refine zn_iload_n (pc := 18) rfl rfl ?_
  refine zn_iaddN (pc := 19) (x := (CS z l c)) (y := q) rfl ?_
  refine zn_istore (pc := 20) (L' := [some (.ref 1), some (.int (nI l)), some (.int (nI c)), some (.int (nI q)), some (.int (nI 10)), some (.int (nI (CS z l c + q)))]) rfl (by decide) rfl ?_
  refine zn_aload_n (pc := 22) rfl rfl ?_
  refine zn_get (pc := 23) (v := .ref 6) rfl hS.t rfl ?_
  refine zn_callVm (pc := 26) (mc1 := 2) (ms1 := 3266) (mc := 0) (ms := 0) (J := zX3_save) (o := 6) (as := []) (rest := []) rfl rfl rfl rfl hS.h6 rfl rfl rfl (Nat.le_of_ble_eq_true rfl) (Nat.le_of_ble_eq_true rfl) (Nat.le_of_ble_eq_true rfl) (Nat.le_of_ble_eq_true rfl) (q_save hS) (fun E h9 q9 => by obtain ⟨P9, q9, -⟩ := q9; cases q9) ?_
  rintro v1 h1 ⟨P, e1, pf1, now1, Z1, hS1, hfr1, hG1, ⟨nP1, nP2, nP3⟩, hfx1, hpx1⟩
  cases e1
  have hpp1 := hS1.pp
  have hpp0 := hS.pp
  have e11 : svF F 11 = F 11 := svFn (by omega) (by omega)
  have e5 : svA F z A 5 = A 5 := svAn (by omega)
  refine zn_iload (pc := 29) rfl rfl ?_
  refine zn_iload (pc := 31) rfl rfl ?_
  refine zn_callVx (pc := 33) (J := zX7_put) (o := P) (as := [.int (nI (CS z l c + q)), .int (nI 10)]) (rest := []) rfl rfl rfl rfl hS1.po rfl rfl rfl (Nat.le_of_ble_eq_true rfl) (Nat.le_of_ble_eq_true rfl) (Nat.le_of_ble_eq_true rfl) (Nat.le_of_ble_eq_true rfl) (q_pput hS1 (a := (CS z l c + q)) (x := 10) (by omega) (by omega)) ?_
  refine zn_aload_n (pc := 36) rfl rfl ?_
  refine zn_aload_n (pc := 37) rfl rfl ?_
  refine zn_get (pc := 38) (v := .ref 10) rfl ((pg_n (by omega) (by omega)).trans hS1.t) rfl ?_
  refine zn_callVm (pc := 41) (mc1 := 0) (ms1 := 0) (mc := 0) (ms := 0) (J := zX9_measure) (o := 1) (as := [.ref 10]) (rest := []) rfl rfl rfl rfl ((pg_n (by omega) (by omega)).trans hS1.t) rfl rfl rfl (Nat.le_of_ble_eq_true rfl) (Nat.le_of_ble_eq_true rfl) (Nat.le_of_ble_eq_true rfl) (Nat.le_of_ble_eq_true rfl) (q_measure (hS1.1.1.edit (Z2 := va_up (va_cpy Z1 Z1 (CS z l c + q) ((CS z l c + q) + 1) (sz - (CS z l c + q))) (CS z l c + q) 10) (sz2 := sz + 1) (z2 := mpen z l c q) (by show PL _ _ (fT (mpen z l c q)); rw [hf2]; exact (hS1.fl.spl (fT_q hl hc hq)).put fup_len (by omega)) ht2 (zb_up (zb_cpy hS1.Zb hS1.Zb) (by omega)) (by omega))) (fun E h9 q9 => by cases q9.1) ?_
  rintro v3 h3 ⟨e1, hI3, hM3⟩
  cases e1
  obtain ⟨Z3, s3, hS3⟩ := ST.of hI3
  refine zn_iload (pc := 44) rfl rfl ?_
  refine zn_bipushN (pc := 46) 10 rfl rfl ?_
  refine zn_icmp_neN (pc := 48) (tgt := 59) (x := 10) (y := 10) rfl rfl (by omega) (by omega) (fun c1 => ?_) (fun c1 => ?_)
  · exfalso; omega
  · refine zn_aload_n (pc := 51) rfl rfl ?_
    refine zn_callVx (pc := 52) (J := zX9_cells) (o := 1) (as := []) (rest := []) rfl rfl rfl rfl hS3.t rfl rfl rfl (Nat.le_of_ble_eq_true rfl) (Nat.le_of_ble_eq_true rfl) (Nat.le_of_ble_eq_true rfl) (Nat.le_of_ble_eq_true rfl) (q_cells hS3) ?_
    refine zn_callVx (pc := 55) (J := zX1_lines) (o := 11) (as := []) (rest := []) rfl rfl rfl rfl hS3.o11 rfl rfl rfl (Nat.le_of_ble_eq_true rfl) (Nat.le_of_ble_eq_true rfl) (Nat.le_of_ble_eq_true rfl) (Nat.le_of_ble_eq_true rfl) (c_linesK_10 hS3.L.c) ?_
    exact zn_iret (pc := 58) rfl rfl ⟨by rw [k3], hS3.inv, (hfr1.trans (hS1.1.1.edit_fr.trans (hM3.frm (Or.inl rfl))))⟩
theorem q_type_1 {pf : Nat → Option Nat} {now p sz : Nat} {Z : Nat → Nat} (hS : ST hh F z A pf now p Z sz) {x y k cd : Int32} (hbad : ¬ mCell z x y) : Zt g zX9_type [.ref 1, .int x, .int y, .int k, .int cd] hh 2 := by
  show Zn g zX9_type 0 [some (.ref 1), some (.int x), some (.int y), some (.int k), some (.int cd), none] [] hh 1 6 _
  refine zn_aload_n (pc := 0) rfl rfl ?_
  refine zn_iload_n (pc := 1) rfl rfl ?_
  refine zn_iload_n (pc := 2) rfl rfl ?_
  refine zn_iload_n (pc := 3) rfl rfl ?_
  refine zn_iload (pc := 4) rfl rfl ?_
  exact zn_callVt (pc := 6) (J := zX9_requireTypable) (o := 1) (as := [.int x, .int y, .int k, .int cd]) (rest := []) rfl rfl rfl rfl hS.t rfl rfl rfl (Nat.le_of_ble_eq_true rfl) (Nat.le_of_ble_eq_true rfl) (Nat.le_of_ble_eq_true rfl) (Nat.le_of_ble_eq_true rfl) (q_rTyp_1 hS hbad) ⟨rfl, rfl⟩
theorem q_type_2 {pf : Nat → Option Nat} {now p sz : Nat} {Z : Nat → Nat} (hS : ST hh F z A pf now p Z sz) {l c : Nat} (hl : l < z 0) (hc : c < z (1 + l)) {k cd : Int32} (hk : ¬ zin k (z (25 + 8 * l + c) + 1)) : Zt g zX9_type [.ref 1, .int (nI l), .int (nI c), .int k, .int cd] hh 2 := by
  show Zn g zX9_type 0 [some (.ref 1), some (.int (nI l)), some (.int (nI c)), some (.int k), some (.int cd), none] [] hh 1 6 _
  refine zn_aload_n (pc := 0) rfl rfl ?_
  refine zn_iload_n (pc := 1) rfl rfl ?_
  refine zn_iload_n (pc := 2) rfl rfl ?_
  refine zn_iload_n (pc := 3) rfl rfl ?_
  refine zn_iload (pc := 4) rfl rfl ?_
  exact zn_callVt (pc := 6) (J := zX9_requireTypable) (o := 1) (as := [.int (nI l), .int (nI c), .int k, .int cd]) (rest := []) rfl rfl rfl rfl hS.t rfl rfl rfl (Nat.le_of_ble_eq_true rfl) (Nat.le_of_ble_eq_true rfl) (Nat.le_of_ble_eq_true rfl) (Nat.le_of_ble_eq_true rfl) (q_rTyp_2 hS hl hc hk) ⟨rfl, rfl⟩
theorem q_type_3 {pf : Nat → Option Nat} {now p sz : Nat} {Z : Nat → Nat} (hS : ST hh F z A pf now p Z sz) {l c : Nat} (hl : l < z 0) (hc : c < z (1 + l)) {q : Nat} (hq : q ≤ z (25 + 8 * l + c)) {cd : Int32} (hcd : ¬ mCode cd) : Zt g zX9_type [.ref 1, .int (nI l), .int (nI c), .int (nI q), .int cd] hh 0 := by
  show Zn g zX9_type 0 [some (.ref 1), some (.int (nI l)), some (.int (nI c)), some (.int (nI q)), some (.int cd), none] [] hh 1 6 _
  refine zn_aload_n (pc := 0) rfl rfl ?_
  refine zn_iload_n (pc := 1) rfl rfl ?_
  refine zn_iload_n (pc := 2) rfl rfl ?_
  refine zn_iload_n (pc := 3) rfl rfl ?_
  refine zn_iload (pc := 4) rfl rfl ?_
  exact zn_callVt (pc := 6) (J := zX9_requireTypable) (o := 1) (as := [.int (nI l), .int (nI c), .int (nI q), .int cd]) (rest := []) rfl rfl rfl rfl hS.t rfl rfl rfl (Nat.le_of_ble_eq_true rfl) (Nat.le_of_ble_eq_true rfl) (Nat.le_of_ble_eq_true rfl) (Nat.le_of_ble_eq_true rfl) (q_rTyp_3 hS hl hc hq hcd) ⟨rfl, rfl⟩
theorem q_type_4 {pf : Nat → Option Nat} {now p sz : Nat} {Z : Nat → Nat} (hS : ST hh F z A pf now p Z sz) {l c : Nat} (hl : l < z 0) (hc : c < z (1 + l)) {q : Nat} (hq : q ≤ z (25 + 8 * l + c)) {cd : Int32} (hcd : mCode cd) (hr : ¬ cRoom z l c cd) : Zt g zX9_type [.ref 1, .int (nI l), .int (nI c), .int (nI q), .int cd] hh 1 := by
  show Zn g zX9_type 0 [some (.ref 1), some (.int (nI l)), some (.int (nI c)), some (.int (nI q)), some (.int cd), none] [] hh 1 6 _
  refine zn_aload_n (pc := 0) rfl rfl ?_
  refine zn_iload_n (pc := 1) rfl rfl ?_
  refine zn_iload_n (pc := 2) rfl rfl ?_
  refine zn_iload_n (pc := 3) rfl rfl ?_
  refine zn_iload (pc := 4) rfl rfl ?_
  exact zn_callVt (pc := 6) (J := zX9_requireTypable) (o := 1) (as := [.int (nI l), .int (nI c), .int (nI q), .int cd]) (rest := []) rfl rfl rfl rfl hS.t rfl rfl rfl (Nat.le_of_ble_eq_true rfl) (Nat.le_of_ble_eq_true rfl) (Nat.le_of_ble_eq_true rfl) (Nat.le_of_ble_eq_true rfl) (q_rTyp_4 hS hl hc hq hcd hr) ⟨rfl, rfl⟩
theorem q_ift_1 {pf : Nat → Option Nat} {now p sz : Nat} {Z : Nat → Nat} (hS : ST hh F z A pf now p Z sz) {x y k cd : Int32} (hbad : ¬ mCell z x y) : Zt g zX9_ifTyped [.ref 1, .int x, .int y, .int k, .int cd] hh 2 := by
  show Zn g zX9_ifTyped 0 [some (.ref 1), some (.int x), some (.int y), some (.int k), some (.int cd), none] [] hh 1 6 _
  refine zn_aload_n (pc := 0) rfl rfl ?_
  refine zn_iload_n (pc := 1) rfl rfl ?_
  refine zn_iload_n (pc := 2) rfl rfl ?_
  refine zn_iload_n (pc := 3) rfl rfl ?_
  refine zn_iload (pc := 4) rfl rfl ?_
  exact zn_callVt (pc := 6) (J := zX9_requireTypable) (o := 1) (as := [.int x, .int y, .int k, .int cd]) (rest := []) rfl rfl rfl rfl hS.t rfl rfl rfl (Nat.le_of_ble_eq_true rfl) (Nat.le_of_ble_eq_true rfl) (Nat.le_of_ble_eq_true rfl) (Nat.le_of_ble_eq_true rfl) (q_rTyp_1 hS hbad) ⟨rfl, rfl⟩
theorem q_ift_2 {pf : Nat → Option Nat} {now p sz : Nat} {Z : Nat → Nat} (hS : ST hh F z A pf now p Z sz) {l c : Nat} (hl : l < z 0) (hc : c < z (1 + l)) {k cd : Int32} (hk : ¬ zin k (z (25 + 8 * l + c) + 1)) : Zt g zX9_ifTyped [.ref 1, .int (nI l), .int (nI c), .int k, .int cd] hh 2 := by
  show Zn g zX9_ifTyped 0 [some (.ref 1), some (.int (nI l)), some (.int (nI c)), some (.int k), some (.int cd), none] [] hh 1 6 _
  refine zn_aload_n (pc := 0) rfl rfl ?_
  refine zn_iload_n (pc := 1) rfl rfl ?_
  refine zn_iload_n (pc := 2) rfl rfl ?_
  refine zn_iload_n (pc := 3) rfl rfl ?_
  refine zn_iload (pc := 4) rfl rfl ?_
  exact zn_callVt (pc := 6) (J := zX9_requireTypable) (o := 1) (as := [.int (nI l), .int (nI c), .int k, .int cd]) (rest := []) rfl rfl rfl rfl hS.t rfl rfl rfl (Nat.le_of_ble_eq_true rfl) (Nat.le_of_ble_eq_true rfl) (Nat.le_of_ble_eq_true rfl) (Nat.le_of_ble_eq_true rfl) (q_rTyp_2 hS hl hc hk) ⟨rfl, rfl⟩
theorem q_ift_3 {pf : Nat → Option Nat} {now p sz : Nat} {Z : Nat → Nat} (hS : ST hh F z A pf now p Z sz) {l c : Nat} (hl : l < z 0) (hc : c < z (1 + l)) {q : Nat} (hq : q ≤ z (25 + 8 * l + c)) {cd : Int32} (hcd : ¬ mCode cd) : Zt g zX9_ifTyped [.ref 1, .int (nI l), .int (nI c), .int (nI q), .int cd] hh 0 := by
  show Zn g zX9_ifTyped 0 [some (.ref 1), some (.int (nI l)), some (.int (nI c)), some (.int (nI q)), some (.int cd), none] [] hh 1 6 _
  refine zn_aload_n (pc := 0) rfl rfl ?_
  refine zn_iload_n (pc := 1) rfl rfl ?_
  refine zn_iload_n (pc := 2) rfl rfl ?_
  refine zn_iload_n (pc := 3) rfl rfl ?_
  refine zn_iload (pc := 4) rfl rfl ?_
  exact zn_callVt (pc := 6) (J := zX9_requireTypable) (o := 1) (as := [.int (nI l), .int (nI c), .int (nI q), .int cd]) (rest := []) rfl rfl rfl rfl hS.t rfl rfl rfl (Nat.le_of_ble_eq_true rfl) (Nat.le_of_ble_eq_true rfl) (Nat.le_of_ble_eq_true rfl) (Nat.le_of_ble_eq_true rfl) (q_rTyp_3 hS hl hc hq hcd) ⟨rfl, rfl⟩
theorem q_ift_4 {pf : Nat → Option Nat} {now p sz : Nat} {Z : Nat → Nat} (hS : ST hh F z A pf now p Z sz) {l c : Nat} (hl : l < z 0) (hc : c < z (1 + l)) {q : Nat} (hq : q ≤ z (25 + 8 * l + c)) {cd : Int32} (hcd : mCode cd) (hr : ¬ cRoom z l c cd) : Zt g zX9_ifTyped [.ref 1, .int (nI l), .int (nI c), .int (nI q), .int cd] hh 1 := by
  show Zn g zX9_ifTyped 0 [some (.ref 1), some (.int (nI l)), some (.int (nI c)), some (.int (nI q)), some (.int cd), none] [] hh 1 6 _
  refine zn_aload_n (pc := 0) rfl rfl ?_
  refine zn_iload_n (pc := 1) rfl rfl ?_
  refine zn_iload_n (pc := 2) rfl rfl ?_
  refine zn_iload_n (pc := 3) rfl rfl ?_
  refine zn_iload (pc := 4) rfl rfl ?_
  exact zn_callVt (pc := 6) (J := zX9_requireTypable) (o := 1) (as := [.int (nI l), .int (nI c), .int (nI q), .int cd]) (rest := []) rfl rfl rfl rfl hS.t rfl rfl rfl (Nat.le_of_ble_eq_true rfl) (Nat.le_of_ble_eq_true rfl) (Nat.le_of_ble_eq_true rfl) (Nat.le_of_ble_eq_true rfl) (q_rTyp_4 hS hl hc hq hcd hr) ⟨rfl, rfl⟩
end m1
