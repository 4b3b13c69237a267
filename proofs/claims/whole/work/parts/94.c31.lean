section m1
variable {g : zG} {h hh : zH} {F : Nat → Nat} {S : Int64} {z : Nat → Nat} {A : Nat → Nat → Nat} {X : Nat → Int32}
theorem q_pcutG {p sz a n : Nat} {Z : Nat → Nat} (hp : hh.1 p = some (.inr (7, [.ref (p + 1), .int (nI sz)]))) (hq : hh.1 (p + 1) = some (mNA 3264 Z)) (ha : a + n ≤ sz) (hs : sz ≤ 3264) : Zx g zX7_cut [.ref p, .int (nI a), .int (nI n)] hh none (pgs hh 7 3264 p (p + 1) (va_cpy Z Z (a + n) a (sz - a - n)) (sz - n)) := by
  have r := c_cut (g := g) (h := hh) (p := p) (q := p + 1) (Z := Z) (a := a) (n := n) (by omega) (by omega) ha hs
  rwa [pgs_self hp hq] at r
theorem q_ift_s {pf : Nat → Option Nat} {now p sz : Nat} {Z : Nat → Nat} (hS : ST hh F z A pf now p Z sz) {l c : Nat} (hl : l < z 0) (hc : c < z (1 + l)) {q v : Nat} (hq : q ≤ z (25 + 8 * l + c)) (hcd : mCode (nI v)) (hr : cRoom z l c (nI v)) (h15 : z (25 + 8 * l + c) < 16) (h32 : 32 ≤ v) (hv : v < 1000) : Zm g zX9_ifTyped [.ref 1, .int (nI l), .int (nI c), .int (nI q), .int (nI v)] hh 0 0 (fun r h' => r = .inl (some (.int (nI (vS (fun i9 => vS (cOx z (mpsg z l c q v) (pRR F z A) (pRR F (mpsg z l c q v) A) (nbb z) (nbb (mpsg z l c q v)) i9) (z (1 + i9))) (z 0))))) ∧ INV h' F z A ∧ FRm hh h') := by
  have h24 := hS.tk.ok.2.1
  have h01 := hS.tk.ok.1
  have h120 := hS.im
  have hnb := hS.nb
  have hszz := hS.s3
  have hur := hS.ur
  have hnw := hS.nw
  have h8 := (hS.tk.gl hl).2.1
  have h16 := hS.tk.ok.2.2.2 l c hl hc
  have hcs := hS.fl.cell hl hc
  have hs1 := hS.fl.sz hS.tk.ok
  have hpp := hS.pp
  obtain ⟨ht2, hf2⟩ := psg_T (v := v) hS.tk hl hc hq h15 h32 hv
  have hfl2 : FL (mpsg z l c q v) (va_up (va_cpy Z Z (CS z l c + q) ((CS z l c + q) + 1) (sz - (CS z l c + q))) (CS z l c + q) v) (sz + 1) := by show PL _ _ (fT (mpsg z l c q v)); rw [hf2]; exact (hS.fl.spl (fT_q hl hc hq)).put fup_len (by omega)
  have hZp : ∀ j, (va_up (va_cpy Z Z (CS z l c + q) ((CS z l c + q) + 1) (sz - (CS z l c + q))) (CS z l c + q) v) j < 1000 := zb_up (zb_cpy hS.Zb hS.Zb) (by omega)
  have hPm := hS.1.1.edit hfl2 ht2 hZp (by omega)
  have hfl3 : FL z (va_cpy (va_up (va_cpy Z Z (CS z l c + q) ((CS z l c + q) + 1) (sz - (CS z l c + q))) (CS z l c + q) v) (va_up (va_cpy Z Z (CS z l c + q) ((CS z l c + q) + 1) (sz - (CS z l c + q))) (CS z l c + q) v) ((CS z l c + q) + 1) (CS z l c + q) (sz + 1 - (CS z l c + q) - 1)) (sz + 1 - 1) := by show PL _ _ (fT z); rw [fT_q hl hc hq]; exact (((hS.fl.spl (fT_q hl hc hq)).put (x := v) fup_len (by omega)).cut (M := [v]) fup_len rfl (by omega))
  show Zn g zX9_ifTyped 0 [some (.ref 1), some (.int (nI l)), some (.int (nI c)), some (.int (nI q)), some (.int (nI v)), none] [] hh 0 0 _
  refine zn_aload_n (pc := 0) rfl rfl ?_
  refine zn_iload_n (pc := 1) rfl rfl ?_
  refine zn_iload_n (pc := 2) rfl rfl ?_
  refine zn_iload_n (pc := 3) rfl rfl ?_
  refine zn_iload (pc := 4) rfl rfl ?_
  refine zn_callVx (pc := 6) (J := zX9_requireTypable) (o := 1) (as := [.int (nI l), .int (nI c), .int (nI q), .int (nI v)]) (rest := []) rfl rfl rfl rfl hS.t rfl rfl rfl (Nat.le_of_ble_eq_true rfl) (Nat.le_of_ble_eq_true rfl) (Nat.le_of_ble_eq_true rfl) (Nat.le_of_ble_eq_true rfl) (q_rTyp hS (l := l) (c := c) (q := q) (by omega) (by omega) (by omega) hcd hr) ?_
  refine zn_aload_n (pc := 9) rfl rfl ?_
  refine zn_callVx (pc := 10) (J := zX9_cells) (o := 1) (as := []) (rest := []) rfl rfl rfl rfl hS.t rfl rfl rfl (Nat.le_of_ble_eq_true rfl) (Nat.le_of_ble_eq_true rfl) (Nat.le_of_ble_eq_true rfl) (Nat.le_of_ble_eq_true rfl) (q_cellsG hS.t hS.lo) ?_
  refine zn_iload_n (pc := 13) rfl rfl ?_
  refine zn_iload_n (pc := 14) rfl rfl ?_
  refine zn_callVx (pc := 15) (J := zX1_start) (o := 11) (as := [.int (nI l), .int (nI c)]) (rest := []) rfl rfl rfl rfl hS.o11 rfl rfl rfl (Nat.le_of_ble_eq_true rfl) (Nat.le_of_ble_eq_true rfl) (Nat.le_of_ble_eq_true rfl) (Nat.le_of_ble_eq_true rfl) (c_start_10 hS.L.ok hS.L.c (l := l) (c := c) (by omega) (by omega)) ?_
  refine zn_iload_n (pc := 18) rfl rfl ?_
  refine zn_iaddN (pc := 19) (x := (CS z l c)) (y := q) rfl ?_
  refine zn_istore (pc := 20) (L' := [some (.ref 1), some (.int (nI l)), some (.int (nI c)), some (.int (nI q)), some (.int (nI v)), some (.int (nI (CS z l c + q)))]) rfl (by decide) rfl ?_
  refine zn_aload_n (pc := 22) rfl rfl ?_
  refine zn_get (pc := 23) (v := .ref 6) rfl hS.t rfl ?_
  refine zn_callVx (pc := 26) (J := zX3_page) (o := 6) (as := []) (rest := []) rfl rfl rfl rfl hS.h6 rfl rfl rfl (Nat.le_of_ble_eq_true rfl) (Nat.le_of_ble_eq_true rfl) (Nat.le_of_ble_eq_true rfl) (Nat.le_of_ble_eq_true rfl) (q_pageG hS.h6) ?_
  refine zn_iload (pc := 29) rfl rfl ?_
  refine zn_iload (pc := 31) rfl rfl ?_
  refine zn_callVx (pc := 33) (J := zX7_put) (o := p) (as := [.int (nI (CS z l c + q)), .int (nI v)]) (rest := []) rfl rfl rfl rfl hS.po rfl rfl rfl (Nat.le_of_ble_eq_true rfl) (Nat.le_of_ble_eq_true rfl) (Nat.le_of_ble_eq_true rfl) (Nat.le_of_ble_eq_true rfl) (q_pput hS (a := (CS z l c + q)) (x := v) (by omega) (by omega)) ?_
  refine zn_aload_n (pc := 36) rfl rfl ?_
  refine zn_aload_n (pc := 37) rfl rfl ?_
  refine zn_get (pc := 38) (v := .ref 30) rfl ((pg_n (by omega) (by omega)).trans hS.t) rfl ?_
  refine zn_callVm (pc := 41) (mc1 := 0) (ms1 := 0) (mc := 0) (ms := 0) (J := zX9_measure) (o := 1) (as := [.ref 30]) (rest := []) rfl rfl rfl rfl ((pg_n (by omega) (by omega)).trans hS.t) rfl rfl rfl (Nat.le_of_ble_eq_true rfl) (Nat.le_of_ble_eq_true rfl) (Nat.le_of_ble_eq_true rfl) (Nat.le_of_ble_eq_true rfl) (q_meas_30 hPm) (fun E h9 q9 => by cases q9.1) ?_
  rintro v3 h3 ⟨e1, hM3, hL30, hK30⟩
  cases e1
  have hP3 := hPm.lay (Or.inr rfl) hM3 hL30
  refine zn_aload_n (pc := 44) rfl rfl ?_
  refine zn_get (pc := 45) (v := .ref 6) rfl ((hM3.2 _ (by omega)).trans ((pg_n (by omega) (by omega)).trans hS.t)) rfl ?_
  refine zn_callVx (pc := 48) (J := zX3_page) (o := 6) (as := []) (rest := []) rfl rfl rfl rfl ((hM3.2 _ (by omega)).trans ((pg_n (by omega) (by omega)).trans hS.h6)) rfl rfl rfl (Nat.le_of_ble_eq_true rfl) (Nat.le_of_ble_eq_true rfl) (Nat.le_of_ble_eq_true rfl) (Nat.le_of_ble_eq_true rfl) (q_pageG ((hM3.2 _ (by omega)).trans ((pg_n (by omega) (by omega)).trans hS.h6))) ?_
  refine zn_iload (pc := 51) rfl rfl ?_
  refine zn_iconstN (pc := 53) 1 rfl rfl ?_
  refine zn_callVx (pc := 54) (J := zX7_cut) (o := p) (as := [.int (nI (CS z l c + q)), .int (nI 1)]) (rest := []) rfl rfl rfl rfl ((hM3.2 _ (by omega)).trans pg_o) rfl rfl rfl (Nat.le_of_ble_eq_true rfl) (Nat.le_of_ble_eq_true rfl) (Nat.le_of_ble_eq_true rfl) (Nat.le_of_ble_eq_true rfl) (q_pcutG ((hM3.2 _ (by omega)).trans pg_o) ((hM3.2 _ (by omega)).trans (pg_a (by omega))) (a := (CS z l c + q)) (n := 1) (by omega) (by omega)) ?_
  have hP4 : PREq (pgs h3 7 3264 p (p + 1) (va_cpy (va_up (va_cpy Z Z (CS z l c + q) ((CS z l c + q) + 1) (sz - (CS z l c + q))) (CS z l c + q) v) (va_up (va_cpy Z Z (CS z l c + q) ((CS z l c + q) + 1) (sz - (CS z l c + q))) (CS z l c + q) v) ((CS z l c + q) + 1) (CS z l c + q) (sz + 1 - (CS z l c + q) - 1)) (sz + 1 - 1)) F z A pf now p := hP3.edit hfl3 hS.tk (zb_cpy hZp hZp) (by omega)
  have hL4 : LK (pgs h3 7 3264 p (p + 1) (va_cpy (va_up (va_cpy Z Z (CS z l c + q) ((CS z l c + q) + 1) (sz - (CS z l c + q))) (CS z l c + q) v) (va_up (va_cpy Z Z (CS z l c + q) ((CS z l c + q) + 1) (sz - (CS z l c + q))) (CS z l c + q) v) ((CS z l c + q) + 1) (CS z l c + q) (sz + 1 - (CS z l c + q) - 1)) (sz + 1 - 1)) 10 z (pRR F z A) (nbb z) := hS.L.fr (fun i a b => (pg_n (by omega) (by omega)).trans ((hM3.2 i (by omega)).trans (pg_n (by omega) (by omega))))
  have hK4 : LK (pgs h3 7 3264 p (p + 1) (va_cpy (va_up (va_cpy Z Z (CS z l c + q) ((CS z l c + q) + 1) (sz - (CS z l c + q))) (CS z l c + q) v) (va_up (va_cpy Z Z (CS z l c + q) ((CS z l c + q) + 1) (sz - (CS z l c + q))) (CS z l c + q) v) ((CS z l c + q) + 1) (CS z l c + q) (sz + 1 - (CS z l c + q) - 1)) (sz + 1 - 1)) 30 (mpsg z l c q v) (pRR F (mpsg z l c q v) A) (nbb (mpsg z l c q v)) := hK30.fr (fun i a b => pg_n (by omega) (by omega))
  refine zn_aload_n (pc := 57) rfl rfl ?_
  refine zn_get (pc := 58) (v := .ref 10) rfl ((pg_n (by omega) (by omega)).trans ((hM3.2 _ (by omega)).trans ((pg_n (by omega) (by omega)).trans hS.t))) rfl ?_
  refine zn_aload_n (pc := 61) rfl rfl ?_
  refine zn_get (pc := 62) (v := .ref 30) rfl ((pg_n (by omega) (by omega)).trans ((hM3.2 _ (by omega)).trans ((pg_n (by omega) (by omega)).trans hS.t))) rfl ?_
  refine zn_callVx (pc := 65) (J := zX5_countOtherX) (o := 10) (as := [.ref 30]) (rest := []) rfl rfl rfl rfl ((pg_n (by omega) (by omega)).trans ((hM3.2 _ (by omega)).trans ((pg_n (by omega) (by omega)).trans hS.lo))) rfl rfl rfl (Nat.le_of_ble_eq_true rfl) (Nat.le_of_ble_eq_true rfl) (Nat.le_of_ble_eq_true rfl) (Nat.le_of_ble_eq_true rfl) (c_ox hL4 hK4) ?_
  exact zn_iret (pc := 68) rfl rfl ⟨rfl, ⟨pf, now, p, hP4, hL4⟩, hS.1.1.edit_fr.trans ((hM3.frm (Or.inr rfl)).trans hP3.edit_fr)⟩
theorem q_ift_t {pf : Nat → Option Nat} {now p sz : Nat} {Z : Nat → Nat} (hS : ST hh F z A pf now p Z sz) {l c : Nat} (hl : l < z 0) (hc : c < z (1 + l)) {q : Nat} (hq : q ≤ z (25 + 8 * l + c)) (hcd : mCode (nI 9)) (hr : cRoom z l c (nI 9)) (h9 : z (1 + l) < 8) : Zm g zX9_ifTyped [.ref 1, .int (nI l), .int (nI c), .int (nI q), .int (nI 9)] hh 0 0 (fun r h' => r = .inl (some (.int (nI (vS (fun i9 => vS (cOx z (mptb z l c q) (pRR F z A) (pRR F (mptb z l c q) A) (nbb z) (nbb (mptb z l c q)) i9) (z (1 + i9))) (z 0))))) ∧ INV h' F z A ∧ FRm hh h') := by
  have h24 := hS.tk.ok.2.1
  have h01 := hS.tk.ok.1
  have h120 := hS.im
  have hnb := hS.nb
  have hszz := hS.s3
  have hur := hS.ur
  have hnw := hS.nw
  have h8 := (hS.tk.gl hl).2.1
  have h16 := hS.tk.ok.2.2.2 l c hl hc
  have hcs := hS.fl.cell hl hc
  have hs1 := hS.fl.sz hS.tk.ok
  have hpp := hS.pp
  obtain ⟨ht2, hf2, k3, k2⟩ := ptb_T hS.tk hl hc hq h9
  have hfl2 : FL (mptb z l c q) (va_up (va_cpy Z Z (CS z l c + q) ((CS z l c + q) + 1) (sz - (CS z l c + q))) (CS z l c + q) 9) (sz + 1) := by show PL _ _ (fT (mptb z l c q)); rw [hf2]; exact (hS.fl.spl (fT_q hl hc hq)).put fup_len (by omega)
  have hZp : ∀ j, (va_up (va_cpy Z Z (CS z l c + q) ((CS z l c + q) + 1) (sz - (CS z l c + q))) (CS z l c + q) 9) j < 1000 := zb_up (zb_cpy hS.Zb hS.Zb) (by omega)
  have hPm := hS.1.1.edit hfl2 ht2 hZp (by omega)
  have hfl3 : FL z (va_cpy (va_up (va_cpy Z Z (CS z l c + q) ((CS z l c + q) + 1) (sz - (CS z l c + q))) (CS z l c + q) 9) (va_up (va_cpy Z Z (CS z l c + q) ((CS z l c + q) + 1) (sz - (CS z l c + q))) (CS z l c + q) 9) ((CS z l c + q) + 1) (CS z l c + q) (sz + 1 - (CS z l c + q) - 1)) (sz + 1 - 1) := by show PL _ _ (fT z); rw [fT_q hl hc hq]; exact (((hS.fl.spl (fT_q hl hc hq)).put (x := 9) fup_len (by omega)).cut (M := [9]) fup_len rfl (by omega))
  show Zn g zX9_ifTyped 0 [some (.ref 1), some (.int (nI l)), some (.int (nI c)), some (.int (nI q)), some (.int (nI 9)), none] [] hh 0 0 _
  refine zn_aload_n (pc := 0) rfl rfl ?_
  refine zn_iload_n (pc := 1) rfl rfl ?_
  refine zn_iload_n (pc := 2) rfl rfl ?_
  refine zn_iload_n (pc := 3) rfl rfl ?_
  refine zn_iload (pc := 4) rfl rfl ?_
  refine zn_callVx (pc := 6) (J := zX9_requireTypable) (o := 1) (as := [.int (nI l), .int (nI c), .int (nI q), .int (nI 9)]) (rest := []) rfl rfl rfl rfl hS.t rfl rfl rfl (Nat.le_of_ble_eq_true rfl) (Nat.le_of_ble_eq_true rfl) (Nat.le_of_ble_eq_true rfl) (Nat.le_of_ble_eq_true rfl) (q_rTyp hS (l := l) (c := c) (q := q) (by omega) (by omega) (by omega) hcd hr) ?_
  refine zn_aload_n (pc := 9) rfl rfl ?_
  refine zn_callVx (pc := 10) (J := zX9_cells) (o := 1) (as := []) (rest := []) rfl rfl rfl rfl hS.t rfl rfl rfl (Nat.le_of_ble_eq_true rfl) (Nat.le_of_ble_eq_true rfl) (Nat.le_of_ble_eq_true rfl) (Nat.le_of_ble_eq_true rfl) (q_cellsG hS.t hS.lo) ?_
  refine zn_iload_n (pc := 13) rfl rfl ?_
  refine zn_iload_n (pc := 14) rfl rfl ?_
  refine zn_callVx (pc := 15) (J := zX1_start) (o := 11) (as := [.int (nI l), .int (nI c)]) (rest := []) rfl rfl rfl rfl hS.o11 rfl rfl rfl (Nat.le_of_ble_eq_true rfl) (Nat.le_of_ble_eq_true rfl) (Nat.le_of_ble_eq_true rfl) (Nat.le_of_ble_eq_true rfl) (c_start_10 hS.L.ok hS.L.c (l := l) (c := c) (by omega) (by omega)) ?_
  refine zn_iload_n (pc := 18) rfl rfl ?_
  refine zn_iaddN (pc := 19) (x := (CS z l c)) (y := q) rfl ?_
  refine zn_istore (pc := 20) (L' := [some (.ref 1), some (.int (nI l)), some (.int (nI c)), some (.int (nI q)), some (.int (nI 9)), some (.int (nI (CS z l c + q)))]) rfl (by decide) rfl ?_
  refine zn_aload_n (pc := 22) rfl rfl ?_
  refine zn_get (pc := 23) (v := .ref 6) rfl hS.t rfl ?_
  refine zn_callVx (pc := 26) (J := zX3_page) (o := 6) (as := []) (rest := []) rfl rfl rfl rfl hS.h6 rfl rfl rfl (Nat.le_of_ble_eq_true rfl) (Nat.le_of_ble_eq_true rfl) (Nat.le_of_ble_eq_true rfl) (Nat.le_of_ble_eq_true rfl) (q_pageG hS.h6) ?_
  refine zn_iload (pc := 29) rfl rfl ?_
  refine zn_iload (pc := 31) rfl rfl ?_
  refine zn_callVx (pc := 33) (J := zX7_put) (o := p) (as := [.int (nI (CS z l c + q)), .int (nI 9)]) (rest := []) rfl rfl rfl rfl hS.po rfl rfl rfl (Nat.le_of_ble_eq_true rfl) (Nat.le_of_ble_eq_true rfl) (Nat.le_of_ble_eq_true rfl) (Nat.le_of_ble_eq_true rfl) (q_pput hS (a := (CS z l c + q)) (x := 9) (by omega) (by omega)) ?_
  refine zn_aload_n (pc := 36) rfl rfl ?_
  refine zn_aload_n (pc := 37) rfl rfl ?_
  refine zn_get (pc := 38) (v := .ref 30) rfl ((pg_n (by omega) (by omega)).trans hS.t) rfl ?_
  refine zn_callVm (pc := 41) (mc1 := 0) (ms1 := 0) (mc := 0) (ms := 0) (J := zX9_measure) (o := 1) (as := [.ref 30]) (rest := []) rfl rfl rfl rfl ((pg_n (by omega) (by omega)).trans hS.t) rfl rfl rfl (Nat.le_of_ble_eq_true rfl) (Nat.le_of_ble_eq_true rfl) (Nat.le_of_ble_eq_true rfl) (Nat.le_of_ble_eq_true rfl) (q_meas_30 hPm) (fun E h9 q9 => by cases q9.1) ?_
  rintro v3 h3 ⟨e1, hM3, hL30, hK30⟩
  cases e1
  have hP3 := hPm.lay (Or.inr rfl) hM3 hL30
  refine zn_aload_n (pc := 44) rfl rfl ?_
  refine zn_get (pc := 45) (v := .ref 6) rfl ((hM3.2 _ (by omega)).trans ((pg_n (by omega) (by omega)).trans hS.t)) rfl ?_
  refine zn_callVx (pc := 48) (J := zX3_page) (o := 6) (as := []) (rest := []) rfl rfl rfl rfl ((hM3.2 _ (by omega)).trans ((pg_n (by omega) (by omega)).trans hS.h6)) rfl rfl rfl (Nat.le_of_ble_eq_true rfl) (Nat.le_of_ble_eq_true rfl) (Nat.le_of_ble_eq_true rfl) (Nat.le_of_ble_eq_true rfl) (q_pageG ((hM3.2 _ (by omega)).trans ((pg_n (by omega) (by omega)).trans hS.h6))) ?_
  refine zn_iload (pc := 51) rfl rfl ?_
  refine zn_iconstN (pc := 53) 1 rfl rfl ?_
  refine zn_callVx (pc := 54) (J := zX7_cut) (o := p) (as := [.int (nI (CS z l c + q)), .int (nI 1)]) (rest := []) rfl rfl rfl rfl ((hM3.2 _ (by omega)).trans pg_o) rfl rfl rfl (Nat.le_of_ble_eq_true rfl) (Nat.le_of_ble_eq_true rfl) (Nat.le_of_ble_eq_true rfl) (Nat.le_of_ble_eq_true rfl) (q_pcutG ((hM3.2 _ (by omega)).trans pg_o) ((hM3.2 _ (by omega)).trans (pg_a (by omega))) (a := (CS z l c + q)) (n := 1) (by omega) (by omega)) ?_
  have hP4 : PREq (pgs h3 7 3264 p (p + 1) (va_cpy (va_up (va_cpy Z Z (CS z l c + q) ((CS z l c + q) + 1) (sz - (CS z l c + q))) (CS z l c + q) 9) (va_up (va_cpy Z Z (CS z l c + q) ((CS z l c + q) + 1) (sz - (CS z l c + q))) (CS z l c + q) 9) ((CS z l c + q) + 1) (CS z l c + q) (sz + 1 - (CS z l c + q) - 1)) (sz + 1 - 1)) F z A pf now p := hP3.edit hfl3 hS.tk (zb_cpy hZp hZp) (by omega)
  have hL4 : LK (pgs h3 7 3264 p (p + 1) (va_cpy (va_up (va_cpy Z Z (CS z l c + q) ((CS z l c + q) + 1) (sz - (CS z l c + q))) (CS z l c + q) 9) (va_up (va_cpy Z Z (CS z l c + q) ((CS z l c + q) + 1) (sz - (CS z l c + q))) (CS z l c + q) 9) ((CS z l c + q) + 1) (CS z l c + q) (sz + 1 - (CS z l c + q) - 1)) (sz + 1 - 1)) 10 z (pRR F z A) (nbb z) := hS.L.fr (fun i a b => (pg_n (by omega) (by omega)).trans ((hM3.2 i (by omega)).trans (pg_n (by omega) (by omega))))
  have hK4 : LK (pgs h3 7 3264 p (p + 1) (va_cpy (va_up (va_cpy Z Z (CS z l c + q) ((CS z l c + q) + 1) (sz - (CS z l c + q))) (CS z l c + q) 9) (va_up (va_cpy Z Z (CS z l c + q) ((CS z l c + q) + 1) (sz - (CS z l c + q))) (CS z l c + q) 9) ((CS z l c + q) + 1) (CS z l c + q) (sz + 1 - (CS z l c + q) - 1)) (sz + 1 - 1)) 30 (mptb z l c q) (pRR F (mptb z l c q) A) (nbb (mptb z l c q)) := hK30.fr (fun i a b => pg_n (by omega) (by omega))
  refine zn_aload_n (pc := 57) rfl rfl ?_
  refine zn_get (pc := 58) (v := .ref 10) rfl ((pg_n (by omega) (by omega)).trans ((hM3.2 _ (by omega)).trans ((pg_n (by omega) (by omega)).trans hS.t))) rfl ?_
  refine zn_aload_n (pc := 61) rfl rfl ?_
  refine zn_get (pc := 62) (v := .ref 30) rfl ((pg_n (by omega) (by omega)).trans ((hM3.2 _ (by omega)).trans ((pg_n (by omega) (by omega)).trans hS.t))) rfl ?_
  refine zn_callVx (pc := 65) (J := zX5_countOtherX) (o := 10) (as := [.ref 30]) (rest := []) rfl rfl rfl rfl ((pg_n (by omega) (by omega)).trans ((hM3.2 _ (by omega)).trans ((pg_n (by omega) (by omega)).trans hS.lo))) rfl rfl rfl (Nat.le_of_ble_eq_true rfl) (Nat.le_of_ble_eq_true rfl) (Nat.le_of_ble_eq_true rfl) (Nat.le_of_ble_eq_true rfl) (c_ox hL4 hK4) ?_
  exact zn_iret (pc := 68) rfl rfl ⟨rfl, ⟨pf, now, p, hP4, hL4⟩, hS.1.1.edit_fr.trans ((hM3.frm (Or.inr rfl)).trans hP3.edit_fr)⟩
theorem q_ift_e {pf : Nat → Option Nat} {now p sz : Nat} {Z : Nat → Nat} (hS : ST hh F z A pf now p Z sz) {l c : Nat} (hl : l < z 0) (hc : c < z (1 + l)) {q : Nat} (hq : q ≤ z (25 + 8 * l + c)) (hcd : mCode (nI 10)) (hr : cRoom z l c (nI 10)) (h9 : z 0 < 24) : Zm g zX9_ifTyped [.ref 1, .int (nI l), .int (nI c), .int (nI q), .int (nI 10)] hh 0 0 (fun r h' => r = .inl (some (.int (nI (vS (fun i9 => vS (cOx z (mpen z l c q) (pRR F z A) (pRR F (mpen z l c q) A) (nbb z) (nbb (mpen z l c q)) i9) (z (1 + i9))) (z 0))))) ∧ INV h' F z A ∧ FRm hh h') := by
  have h24 := hS.tk.ok.2.1
  have h01 := hS.tk.ok.1
  have h120 := hS.im
  have hnb := hS.nb
  have hszz := hS.s3
  have hur := hS.ur
  have hnw := hS.nw
  have h8 := (hS.tk.gl hl).2.1
  have h16 := hS.tk.ok.2.2.2 l c hl hc
  have hcs := hS.fl.cell hl hc
  have hs1 := hS.fl.sz hS.tk.ok
  have hpp := hS.pp
  obtain ⟨ht2, hf2, k3⟩ := pen_T hS.tk hl hc hq h9
  have hfl2 : FL (mpen z l c q) (va_up (va_cpy Z Z (CS z l c + q) ((CS z l c + q) + 1) (sz - (CS z l c + q))) (CS z l c + q) 10) (sz + 1) := by show PL _ _ (fT (mpen z l c q)); rw [hf2]; exact (hS.fl.spl (fT_q hl hc hq)).put fup_len (by omega)
  have hZp : ∀ j, (va_up (va_cpy Z Z (CS z l c + q) ((CS z l c + q) + 1) (sz - (CS z l c + q))) (CS z l c + q) 10) j < 1000 := zb_up (zb_cpy hS.Zb hS.Zb) (by omega)
  have hPm := hS.1.1.edit hfl2 ht2 hZp (by omega)
  have hfl3 : FL z (va_cpy (va_up (va_cpy Z Z (CS z l c + q) ((CS z l c + q) + 1) (sz - (CS z l c + q))) (CS z l c + q) 10) (va_up (va_cpy Z Z (CS z l c + q) ((CS z l c + q) + 1) (sz - (CS z l c + q))) (CS z l c + q) 10) ((CS z l c + q) + 1) (CS z l c + q) (sz + 1 - (CS z l c + q) - 1)) (sz + 1 - 1) := by show PL _ _ (fT z); rw [fT_q hl hc hq]; exact (((hS.fl.spl (fT_q hl hc hq)).put (x := 10) fup_len (by omega)).cut (M := [10]) fup_len rfl (by omega))
  show Zn g zX9_ifTyped 0 [some (.ref 1), some (.int (nI l)), some (.int (nI c)), some (.int (nI q)), some (.int (nI 10)), none] [] hh 0 0 _
  refine zn_aload_n (pc := 0) rfl rfl ?_
  refine zn_iload_n (pc := 1) rfl rfl ?_
  refine zn_iload_n (pc := 2) rfl rfl ?_
  refine zn_iload_n (pc := 3) rfl rfl ?_
  refine zn_iload (pc := 4) rfl rfl ?_
  refine zn_callVx (pc := 6) (J := zX9_requireTypable) (o := 1) (as := [.int (nI l), .int (nI c), .int (nI q), .int (nI 10)]) (rest := []) rfl rfl rfl rfl hS.t rfl rfl rfl (Nat.le_of_ble_eq_true rfl) (Nat.le_of_ble_eq_true rfl) (Nat.le_of_ble_eq_true rfl) (Nat.le_of_ble_eq_true rfl) (q_rTyp hS (l := l) (c := c) (q := q) (by omega) (by omega) (by omega) hcd hr) ?_
  refine zn_aload_n (pc := 9) rfl rfl ?_
  refine zn_callVx (pc := 10) (J := zX9_cells) (o := 1) (as := []) (rest := []) rfl rfl rfl rfl hS.t rfl rfl rfl (Nat.le_of_ble_eq_true rfl) (Nat.le_of_ble_eq_true rfl) (Nat.le_of_ble_eq_true rfl) (Nat.le_of_ble_eq_true rfl) (q_cellsG hS.t hS.lo) ?_
  refine zn_iload_n (pc := 13) rfl rfl ?_
  refine zn_iload_n (pc := 14) rfl rfl ?_
  refine zn_callVx (pc := 15) (J := zX1_start) (o := 11) (as := [.int (nI l), .int (nI c)]) (rest := []) rfl rfl rfl rfl hS.o11 rfl rfl rfl (Nat.le_of_ble_eq_true rfl) (Nat.le_of_ble_eq_true rfl) (Nat.le_of_ble_eq_true rfl) (Nat.le_of_ble_eq_true rfl) (c_start_10 hS.L.ok hS.L.c (l := l) (c := c) (by omega) (by omega)) ?_
  refine zn_iload_n (pc := 18) rfl rfl ?_
  refine zn_iaddN (pc := 19) (x := (CS z l c)) (y := q) rfl ?_
  refine zn_istore (pc := 20) (L' := [some (.ref 1), some (.int (nI l)), some (.int (nI c)), some (.int (nI q)), some (.int (nI 10)), some (.int (nI (CS z l c + q)))]) rfl (by decide) rfl ?_
  refine zn_aload_n (pc := 22) rfl rfl ?_
  refine zn_get (pc := 23) (v := .ref 6) rfl hS.t rfl ?_
  refine zn_callVx (pc := 26) (J := zX3_page) (o := 6) (as := []) (rest := []) rfl rfl rfl rfl hS.h6 rfl rfl rfl (Nat.le_of_ble_eq_true rfl) (Nat.le_of_ble_eq_true rfl) (Nat.le_of_ble_eq_true rfl) (Nat.le_of_ble_eq_true rfl) (q_pageG hS.h6) ?_
  refine zn_iload (pc := 29) rfl rfl ?_
  refine zn_iload (pc := 31) rfl rfl ?_
  refine zn_callVx (pc := 33) (J := zX7_put) (o := p) (as := [.int (nI (CS z l c + q)), .int (nI 10)]) (rest := []) rfl rfl rfl rfl hS.po rfl rfl rfl (Nat.le_of_ble_eq_true rfl) (Nat.le_of_ble_eq_true rfl) (Nat.le_of_ble_eq_true rfl) (Nat.le_of_ble_eq_true rfl) (q_pput hS (a := (CS z l c + q)) (x := 10) (by omega) (by omega)) ?_
  refine zn_aload_n (pc := 36) rfl rfl ?_
  refine zn_aload_n (pc := 37) rfl rfl ?_
  refine zn_get (pc := 38) (v := .ref 30) rfl ((pg_n (by omega) (by omega)).trans hS.t) rfl ?_
  refine zn_callVm (pc := 41) (mc1 := 0) (ms1 := 0) (mc := 0) (ms := 0) (J := zX9_measure) (o := 1) (as := [.ref 30]) (rest := []) rfl rfl rfl rfl ((pg_n (by omega) (by omega)).trans hS.t) rfl rfl rfl (Nat.le_of_ble_eq_true rfl) (Nat.le_of_ble_eq_true rfl) (Nat.le_of_ble_eq_true rfl) (Nat.le_of_ble_eq_true rfl) (q_meas_30 hPm) (fun E h9 q9 => by cases q9.1) ?_
  rintro v3 h3 ⟨e1, hM3, hL30, hK30⟩
  cases e1
  have hP3 := hPm.lay (Or.inr rfl) hM3 hL30
  refine zn_aload_n (pc := 44) rfl rfl ?_
  refine zn_get (pc := 45) (v := .ref 6) rfl ((hM3.2 _ (by omega)).trans ((pg_n (by omega) (by omega)).trans hS.t)) rfl ?_
  refine zn_callVx (pc := 48) (J := zX3_page) (o := 6) (as := []) (rest := []) rfl rfl rfl rfl ((hM3.2 _ (by omega)).trans ((pg_n (by omega) (by omega)).trans hS.h6)) rfl rfl rfl (Nat.le_of_ble_eq_true rfl) (Nat.le_of_ble_eq_true rfl) (Nat.le_of_ble_eq_true rfl) (Nat.le_of_ble_eq_true rfl) (q_pageG ((hM3.2 _ (by omega)).trans ((pg_n (by omega) (by omega)).trans hS.h6))) ?_
  refine zn_iload (pc := 51) rfl rfl ?_
  refine zn_iconstN (pc := 53) 1 rfl rfl ?_
  refine zn_callVx (pc := 54) (J := zX7_cut) (o := p) (as := [.int (nI (CS z l c + q)), .int (nI 1)]) (rest := []) rfl rfl rfl rfl ((hM3.2 _ (by omega)).trans pg_o) rfl rfl rfl (Nat.le_of_ble_eq_true rfl) (Nat.le_of_ble_eq_true rfl) (Nat.le_of_ble_eq_true rfl) (Nat.le_of_ble_eq_true rfl) (q_pcutG ((hM3.2 _ (by omega)).trans pg_o) ((hM3.2 _ (by omega)).trans (pg_a (by omega))) (a := (CS z l c + q)) (n := 1) (by omega) (by omega)) ?_
  have hP4 : PREq (pgs h3 7 3264 p (p + 1) (va_cpy (va_up (va_cpy Z Z (CS z l c + q) ((CS z l c + q) + 1) (sz - (CS z l c + q))) (CS z l c + q) 10) (va_up (va_cpy Z Z (CS z l c + q) ((CS z l c + q) + 1) (sz - (CS z l c + q))) (CS z l c + q) 10) ((CS z l c + q) + 1) (CS z l c + q) (sz + 1 - (CS z l c + q) - 1)) (sz + 1 - 1)) F z A pf now p := hP3.edit hfl3 hS.tk (zb_cpy hZp hZp) (by omega)
  have hL4 : LK (pgs h3 7 3264 p (p + 1) (va_cpy (va_up (va_cpy Z Z (CS z l c + q) ((CS z l c + q) + 1) (sz - (CS z l c + q))) (CS z l c + q) 10) (va_up (va_cpy Z Z (CS z l c + q) ((CS z l c + q) + 1) (sz - (CS z l c + q))) (CS z l c + q) 10) ((CS z l c + q) + 1) (CS z l c + q) (sz + 1 - (CS z l c + q) - 1)) (sz + 1 - 1)) 10 z (pRR F z A) (nbb z) := hS.L.fr (fun i a b => (pg_n (by omega) (by omega)).trans ((hM3.2 i (by omega)).trans (pg_n (by omega) (by omega))))
  have hK4 : LK (pgs h3 7 3264 p (p + 1) (va_cpy (va_up (va_cpy Z Z (CS z l c + q) ((CS z l c + q) + 1) (sz - (CS z l c + q))) (CS z l c + q) 10) (va_up (va_cpy Z Z (CS z l c + q) ((CS z l c + q) + 1) (sz - (CS z l c + q))) (CS z l c + q) 10) ((CS z l c + q) + 1) (CS z l c + q) (sz + 1 - (CS z l c + q) - 1)) (sz + 1 - 1)) 30 (mpen z l c q) (pRR F (mpen z l c q) A) (nbb (mpen z l c q)) := hK30.fr (fun i a b => pg_n (by omega) (by omega))
  refine zn_aload_n (pc := 57) rfl rfl ?_
  refine zn_get (pc := 58) (v := .ref 10) rfl ((pg_n (by omega) (by omega)).trans ((hM3.2 _ (by omega)).trans ((pg_n (by omega) (by omega)).trans hS.t))) rfl ?_
  refine zn_aload_n (pc := 61) rfl rfl ?_
  refine zn_get (pc := 62) (v := .ref 30) rfl ((pg_n (by omega) (by omega)).trans ((hM3.2 _ (by omega)).trans ((pg_n (by omega) (by omega)).trans hS.t))) rfl ?_
  refine zn_callVx (pc := 65) (J := zX5_countOtherX) (o := 10) (as := [.ref 30]) (rest := []) rfl rfl rfl rfl ((pg_n (by omega) (by omega)).trans ((hM3.2 _ (by omega)).trans ((pg_n (by omega) (by omega)).trans hS.lo))) rfl rfl rfl (Nat.le_of_ble_eq_true rfl) (Nat.le_of_ble_eq_true rfl) (Nat.le_of_ble_eq_true rfl) (Nat.le_of_ble_eq_true rfl) (c_ox hL4 hK4) ?_
  exact zn_iret (pc := 68) rfl rfl ⟨rfl, ⟨pf, now, p, hP4, hL4⟩, hS.1.1.edit_fr.trans ((hM3.frm (Or.inr rfl)).trans hP3.edit_fr)⟩
end m1
