section m1
variable {g : zG} {h hh : zH} {F : Nat → Nat} {S : Int64} {z : Nat → Nat} {A : Nat → Nat → Nat} {X : Nat → Int32}
theorem fT_k {k : Nat} (hk : k ≤ z 0) : fT z = fm (fL z) k 0 ++ fm (fL z) (z 0 - k) k := by
  unfold fT
  rw [show fm (fL z) (z 0) 0 = fm (fL z) (k + (z 0 - k)) 0 from congrArg (fun n => fm (fL z) n 0) (by omega), fm_add, Nat.zero_add]
theorem fG_len {c l : Nat} (hc : c ≤ z (1 + l)) : (fG z c l).length = (fL z l).length + 1 := by
  rw [fL_c hc]
  unfold fG
  rw [List.length_append, List.length_append, List.length_cons]
  omega
theorem fGs_len {c : Nat} : ∀ (m f : Nat), (∀ l, f ≤ l → l < f + m → c ≤ z (1 + l)) → (fm (fG z c) m f).length = (fm (fL z) m f).length + m
  | 0, _, _ => rfl
  | m + 1, f, h => by
    have r := fGs_len m (f + 1) (fun l h1 h2 => h l (by omega) (by omega))
    have e := fG_len (h f (by omega) (by omega))
    show (fG z c f ++ fm (fG z c) m (f + 1)).length = (fL z f ++ fm (fL z) m (f + 1)).length + (m + 1)
    rw [List.length_append, List.length_append]
    omega
theorem ic_len {c f m : Nat} (hz : tOK z) (hfm : f + m ≤ z 0) (hr : ∀ l, f ≤ l → l < f + m → c + 1 < z (1 + l) ∧ z (1 + l) < 8) : (fT z).length + m ≤ 3264 := by
  obtain ⟨t1, t2⟩ := opc_T hz hfm hr
  have h1 := fT_len t1.ok
  have h2 := fGs_len (z := z) (c := c) m f (fun l a b => by have := (hr l a b).1; omega)
  rw [t2, List.length_append, List.length_append] at h1
  have h3 : (fT z).length = (fm (fL z) f 0).length + ((fm (fL z) m f).length + (fm (fL z) (z 0 - (f + m)) (f + m)).length) := by
    rw [fT_k (show f ≤ z 0 by omega), List.length_append, show z 0 - f = m + (z 0 - (f + m)) by omega, fm_add, List.length_append]
  omega
theorem q_ic_l {pf : Nat → Option Nat} {now p sz : Nat} {Z : Nat → Nat} (hS : ST hh F z A pf now p Z sz) {b f t c : Nat} {Y : List Nat} {Q : zR → zH → Prop} (htz : t < z 0) (hcE : ∀ l, f ≤ l → l ≤ t → c + 1 < z (1 + l)) (K : ∀ (Z9 : Nat → Nat) (s9 : Nat), (∀ j, Z9 j < 1000) → PL Z9 s9 (fm (fL z) f 0 ++ (fm (fG z c) (t + 1 - f) f ++ Y)) → Zn g zX9_insertColumn 106 [some (.ref 1), some (.int (nI b)), some (.int (nI f)), some (.int (nI t)), some (.int (nI c)), some (.ref p), none] [] (pgs hh 7 3264 p (p + 1) Z9 s9) 0 0 Q) : ∀ (n : Nat) (k : Nat) (Zk : Nat → Nat) (sk : Nat), k = f + n → k ≤ t + 1 → (∀ j, Zk j < 1000) → PL Zk sk (fm (fL z) k 0 ++ (fm (fG z c) (t + 1 - k) k ++ Y)) → sk + (k - f) ≤ 3263 → Zn g zX9_insertColumn 76 [some (.ref 1), some (.int (nI b)), some (.int (nI f)), some (.int (nI t)), some (.int (nI c)), some (.ref p), some (.int (nI k - 1))] [] (pgs hh 7 3264 p (p + 1) Zk sk) 0 0 Q := by
  intro n
  induction n with
  | zero =>
    intro k Zk sk hn0 hn1 hn2 hn3 hn4
    have h24 := hS.tk.ok.2.1
    have h01 := hS.tk.ok.1
    have h120 := hS.im
    have hnb := hS.nb
    have hszz := hS.s3
    have hur := hS.ur
    have hnw := hS.nw
    have hpp := hS.pp
    refine zn_iload (pc := 76) rfl rfl ?_
    refine zn_iload_n (pc := 78) rfl rfl ?_
    refine zn_icmp_lt (pc := 79) (tgt := 106) (x := (nI k - 1)) (y := (nI f)) rfl rfl (fun c1 => ?_) (fun c1 => ?_)
    · have e8 : k = f := by have := dm_lt (by omega) (by omega) c1; omega
      rw [e8] at hn3
      exact zn_sub (L' := [some (.ref 1), some (.int (nI b)), some (.int (nI f)), some (.int (nI t)), some (.int (nI c)), some (.ref p), none]) ⟨rfl, rfl, rfl, rfl, rfl, rfl, trivial⟩ (K Zk sk hn2 hn3)
    · exfalso; obtain ⟨k1, ek, hk1⟩ := dm_ge (by omega) (by omega) c1; omega
  | succ n ih =>
    intro k Zk sk hn0 hn1 hn2 hn3 hn4
    have h24 := hS.tk.ok.2.1
    have h01 := hS.tk.ok.1
    have h120 := hS.im
    have hnb := hS.nb
    have hszz := hS.s3
    have hur := hS.ur
    have hnw := hS.nw
    have hpp := hS.pp
    refine zn_iload (pc := 76) rfl rfl ?_
    refine zn_iload_n (pc := 78) rfl rfl ?_
    refine zn_icmp_lt (pc := 79) (tgt := 106) (x := (nI k - 1)) (y := (nI f)) rfl rfl (fun c1 => ?_) (fun c1 => ?_)
    · have e8 : k = f := by have := dm_lt (by omega) (by omega) c1; omega
      rw [e8] at hn3
      exact zn_sub (L' := [some (.ref 1), some (.int (nI b)), some (.int (nI f)), some (.int (nI t)), some (.int (nI c)), some (.ref p), none]) ⟨rfl, rfl, rfl, rfl, rfl, rfl, trivial⟩ (K Zk sk hn2 hn3)
    · obtain ⟨k1, ek, hk1⟩ := dm_ge (by omega) (by omega) c1
      subst ek
      refine zn_sub (L' := [some (.ref 1), some (.int (nI b)), some (.int (nI f)), some (.int (nI t)), some (.int (nI c)), some (.ref p), some (.int (nI k1))]) ⟨rfl, rfl, rfl, rfl, rfl, rfl, by rw [nI_mm1 (by omega), Nat.add_sub_cancel], trivial⟩ ?_
      rw [show t + 1 - (k1 + 1) = t - k1 by omega] at hn3
      have hck := hcE k1 (by omega) (by omega)
      have hcs := ic_le (z := z) (c := c) (k := k1) (n := k1 + 1) (by omega) (by omega) hn3 rfl
      refine zn_aload (pc := 82) rfl rfl ?_
      refine zn_aload_n (pc := 84) rfl rfl ?_
      refine zn_callVx (pc := 85) (J := zX9_cells) (o := 1) (as := []) (rest := [.ref p]) rfl rfl rfl rfl ((pg_n (by omega) (by omega)).trans hS.t) rfl rfl rfl (Nat.le_of_ble_eq_true rfl) (Nat.le_of_ble_eq_true rfl) (Nat.le_of_ble_eq_true rfl) (Nat.le_of_ble_eq_true rfl) (q_cellsG ((pg_n (by omega) (by omega)).trans hS.t) ((pg_n (by omega) (by omega)).trans hS.lo)) ?_
      refine zn_iload (pc := 88) rfl rfl ?_
      refine zn_iload (pc := 90) rfl rfl ?_
      refine zn_callVx (pc := 92) (J := zX1_start) (o := 11) (as := [.int (nI k1), .int (nI c)]) (rest := [.ref p]) rfl rfl rfl rfl ((pg_n (by omega) (by omega)).trans hS.o11) rfl rfl rfl (Nat.le_of_ble_eq_true rfl) (Nat.le_of_ble_eq_true rfl) (Nat.le_of_ble_eq_true rfl) (Nat.le_of_ble_eq_true rfl) (c_start_10 hS.L.ok (lk_pg hS).c (l := k1) (c := c) (by omega) (by have := hcE k1 (by omega) (by omega); omega)) ?_
      refine zn_bipushN (pc := 95) 9 rfl rfl ?_
      refine zn_callVx (pc := 97) (J := zX7_put) (o := p) (as := [.int (nI (CS z k1 c)), .int (nI 9)]) (rest := []) rfl rfl rfl rfl pg_o rfl rfl rfl (Nat.le_of_ble_eq_true rfl) (Nat.le_of_ble_eq_true rfl) (Nat.le_of_ble_eq_true rfl) (Nat.le_of_ble_eq_true rfl) (c_put (h := hh) (by omega) (by omega) (a := (CS z k1 c)) (x := 9) (by omega) (by omega)) ?_
      refine zn_iinc (pc := 100) (L' := [some (.ref 1), some (.int (nI b)), some (.int (nI f)), some (.int (nI t)), some (.int (nI c)), some (.ref p), some (.int (nI k1 - 1))]) (v := nI k1 - 1) rfl rfl (dm_dec _) (by decide) rfl ?_
      refine zn_goto (pc := 103) (tgt := 76) rfl rfl ?_
      exact ih k1 _ _ (by omega) (by omega) (zb_up (zb_cpy hn2 hn2) (by omega)) (ic_s (by have := hcE k1 (by omega) (by omega); omega) (by omega) hn3 hcs) (by omega)
theorem q_insCol {pf : Nat → Option Nat} {now p sz : Nat} {Z : Nat → Nat} (hS : ST hh F z A pf now p Z sz) {b c f t : Nat} (hb : b < nbb z) (h6 : pRR F z A 6 b = c) (h7 : pRR F z A 7 b = f) (h8b : pRR F z A 8 b = t) (hr : bRoom z f (t + 1)) : Zm g zX9_insertColumn [.ref 1, .int (nI b)] hh 2 3266 (fun r h' => r = .inl (some (.int (nI (t - f + 1)))) ∧ INV h' (svF F) (mOpcs z c f (t + 1 - f)) (svA F z A) ∧ FRm hh h') := by
  have h24 := hS.tk.ok.2.1
  have h01 := hS.tk.ok.1
  have h120 := hS.im
  have hnb := hS.nb
  have hszz := hS.s3
  have hur := hS.ur
  have hnw := hS.nw
  have h68 := hS.wf.1
  obtain ⟨⟨hc7, hft, htz, -, -⟩, hEb⟩ := hS.L.r.blk b hb
  rw [h6] at hc7
  rw [h7, h8b] at hft
  rw [h8b] at htz
  rw [h6, h7, h8b] at hEb
  have hcE : ∀ l, f ≤ l → l ≤ t → c + 1 < z (1 + l) := fun l a b => (hEb l a b).2
  have hlen := hS.fl.len
  obtain ⟨ht2, hf2⟩ := opc_T (m := t + 1 - f) hS.tk (by omega) (fun l a b => ⟨hcE l a (by omega), hr l (by omega) a⟩)
  have hil := ic_len (m := t + 1 - f) hS.tk (by omega) (fun l a b => ⟨hcE l a (by omega), hr l (by omega) a⟩)
  show Zn g zX9_insertColumn 0 [some (.ref 1), some (.int (nI b)), none, none, none, none, none] [] hh 2 3266 _
  refine zn_aload_n (pc := 0) rfl rfl ?_
  refine zn_iload_n (pc := 1) rfl rfl ?_
  refine zn_callVx (pc := 2) (J := zX9_requireBlock) (o := 1) (as := [.int (nI b)]) (rest := []) rfl rfl rfl rfl hS.t rfl rfl rfl (Nat.le_of_ble_eq_true rfl) (Nat.le_of_ble_eq_true rfl) (Nat.le_of_ble_eq_true rfl) (Nat.le_of_ble_eq_true rfl) (q_rBlk hS (b := b) (by omega)) ?_
  refine zn_aload_n (pc := 5) rfl rfl ?_
  refine zn_get (pc := 6) (v := .ref 10) rfl hS.t rfl ?_
  refine zn_get (pc := 9) (v := .ref 18) rfl hS.lo rfl ?_
  refine zn_iload_n (pc := 12) rfl rfl ?_
  refine zn_callVx (pc := 13) (J := zX0_first) (o := 18) (as := [.int (nI b)]) (rest := []) rfl rfl rfl rfl hS.o18 rfl rfl rfl (Nat.le_of_ble_eq_true rfl) (Nat.le_of_ble_eq_true rfl) (Nat.le_of_ble_eq_true rfl) (Nat.le_of_ble_eq_true rfl) (c_first_10b hS.L.b hS.nb (b := b) (by omega)) ?_
  refine zn_top (v' := .int (nI f)) (by rw [h7]) ?_
  refine zn_istore_n (pc := 16) (L' := [some (.ref 1), some (.int (nI b)), some (.int (nI f)), none, none, none, none]) rfl (by decide) rfl ?_
  refine zn_aload_n (pc := 17) rfl rfl ?_
  refine zn_get (pc := 18) (v := .ref 10) rfl hS.t rfl ?_
  refine zn_get (pc := 21) (v := .ref 18) rfl hS.lo rfl ?_
  refine zn_iload_n (pc := 24) rfl rfl ?_
  refine zn_callVx (pc := 25) (J := zX0_last) (o := 18) (as := [.int (nI b)]) (rest := []) rfl rfl rfl rfl hS.o18 rfl rfl rfl (Nat.le_of_ble_eq_true rfl) (Nat.le_of_ble_eq_true rfl) (Nat.le_of_ble_eq_true rfl) (Nat.le_of_ble_eq_true rfl) (c_last_10b hS.L.b hS.nb (b := b) (by omega)) ?_
  refine zn_top (v' := .int (nI t)) (by rw [h8b]) ?_
  refine zn_istore_n (pc := 28) (L' := [some (.ref 1), some (.int (nI b)), some (.int (nI f)), some (.int (nI t)), none, none, none]) rfl (by decide) rfl ?_
  refine zn_aload_n (pc := 29) rfl rfl ?_
  refine zn_callVx (pc := 30) (J := zX9_cells) (o := 1) (as := []) (rest := []) rfl rfl rfl rfl hS.t rfl rfl rfl (Nat.le_of_ble_eq_true rfl) (Nat.le_of_ble_eq_true rfl) (Nat.le_of_ble_eq_true rfl) (Nat.le_of_ble_eq_true rfl) (q_cellsG hS.t hS.lo) ?_
  refine zn_iload_n (pc := 33) rfl rfl ?_
  refine zn_iload_n (pc := 34) rfl rfl ?_
  refine zn_callVx (pc := 35) (J := zX1_hasFullLine) (o := 11) (as := [.int (nI f), .int (nI t)]) (rest := []) rfl rfl rfl rfl hS.o11 rfl rfl rfl (Nat.le_of_ble_eq_true rfl) (Nat.le_of_ble_eq_true rfl) (Nat.le_of_ble_eq_true rfl) (Nat.le_of_ble_eq_true rfl) (c_hasFullLine hS.L (f := f) (t := t) (by omega) (by omega)) ?_
  refine zn_if_eqB (pc := 38) (tgt := 51) rfl rfl (fun c1 => ?_) (fun c1 => ?_)
  · refine zn_aload_n (pc := 51) rfl rfl ?_
    refine zn_get (pc := 52) (v := .ref 10) rfl hS.t rfl ?_
    refine zn_get (pc := 55) (v := .ref 18) rfl hS.lo rfl ?_
    refine zn_iload_n (pc := 58) rfl rfl ?_
    refine zn_callVx (pc := 59) (J := zX0_column) (o := 18) (as := [.int (nI b)]) (rest := []) rfl rfl rfl rfl hS.o18 rfl rfl rfl (Nat.le_of_ble_eq_true rfl) (Nat.le_of_ble_eq_true rfl) (Nat.le_of_ble_eq_true rfl) (Nat.le_of_ble_eq_true rfl) (c_column_10b hS.L.b hS.nb (b := b) (by omega)) ?_
    refine zn_top (v' := .int (nI c)) (by rw [h6]) ?_
    refine zn_istore (pc := 62) (L' := [some (.ref 1), some (.int (nI b)), some (.int (nI f)), some (.int (nI t)), some (.int (nI c)), none, none]) rfl (by decide) rfl ?_
    refine zn_aload_n (pc := 64) rfl rfl ?_
    refine zn_get (pc := 65) (v := .ref 6) rfl hS.t rfl ?_
    refine zn_callVm (pc := 68) (mc1 := 2) (ms1 := 3266) (mc := 0) (ms := 0) (J := zX3_save) (o := 6) (as := []) (rest := []) rfl rfl rfl rfl hS.h6 rfl rfl rfl (Nat.le_of_ble_eq_true rfl) (Nat.le_of_ble_eq_true rfl) (Nat.le_of_ble_eq_true rfl) (Nat.le_of_ble_eq_true rfl) (q_save hS) (fun E h9 q9 => by obtain ⟨P9, q9, -⟩ := q9; cases q9) ?_
    rintro v1 h1 ⟨P, e1, pf1, now1, Z1, hS1, hfr1, hG1, ⟨nP1, nP2, nP3⟩, hfx1, hpx1⟩
    cases e1
    have hpp1 := hS1.pp
    have hpp0 := hS.pp
    have e11 : svF F 11 = F 11 := svFn (by omega) (by omega)
    have e5 : svA F z A 5 = A 5 := svAn (by omega)
    refine zn_astore (pc := 71) (L' := [some (.ref 1), some (.int (nI b)), some (.int (nI f)), some (.int (nI t)), some (.int (nI c)), some (.ref P), none]) rfl (by decide) rfl ?_
    refine zn_iload_n (pc := 73) rfl rfl ?_
    refine zn_istore (pc := 74) (L' := [some (.ref 1), some (.int (nI b)), some (.int (nI f)), some (.int (nI t)), some (.int (nI c)), some (.ref P), some (.int (nI t))]) rfl (by decide) rfl ?_
    refine zn_heq (h' := pgs h1 7 3264 P (P + 1) Z1 sz) (pgs_self hS1.po hS1.qo).symm ?_
    refine zn_sub (L' := [some (.ref 1), some (.int (nI b)), some (.int (nI f)), some (.int (nI t)), some (.int (nI c)), some (.ref P), some (.int (nI (t + 1) - 1))]) ⟨rfl, rfl, rfl, rfl, rfl, rfl, by rw [nI_mm1 (by omega), Nat.add_sub_cancel], trivial⟩ ?_
    refine q_ic_l hS1 htz hcE (Y := fm (fL z) (z 0 - (t + 1)) (t + 1)) (fun Z9 s9 hz9 hp9 => ?_) (t + 1 - f) (t + 1) Z1 sz (by omega) (by omega) hS1.Zb (by rw [Nat.sub_self]; exact hS1.fl.spl (fT_k (by omega))) (by omega)
    have hfl2 : FL (mOpcs z c f (t + 1 - f)) Z9 s9 := by show PL Z9 s9 (fT (mOpcs z c f (t + 1 - f))); rw [hf2, show f + (t + 1 - f) = t + 1 by omega]; exact hp9
    have hs9 := hfl2.sz ht2.ok
    refine zn_aload_n (pc := 106) rfl rfl ?_
    refine zn_aload_n (pc := 107) rfl rfl ?_
    refine zn_get (pc := 108) (v := .ref 10) rfl ((pg_n (by omega) (by omega)).trans hS1.t) rfl ?_
    refine zn_callVm (pc := 111) (mc1 := 0) (ms1 := 0) (mc := 0) (ms := 0) (J := zX9_measure) (o := 1) (as := [.ref 10]) (rest := []) rfl rfl rfl rfl ((pg_n (by omega) (by omega)).trans hS1.t) rfl rfl rfl (Nat.le_of_ble_eq_true rfl) (Nat.le_of_ble_eq_true rfl) (Nat.le_of_ble_eq_true rfl) (Nat.le_of_ble_eq_true rfl) (q_measure (hS1.1.1.edit hfl2 ht2 hz9 (by omega))) (fun E h9 q9 => by cases q9.1) ?_
    rintro v3 h3 ⟨e1, hI3, hM3⟩
    cases e1
    obtain ⟨Z3, s3, hS3⟩ := ST.of hI3
    refine zn_iload_n (pc := 114) rfl rfl ?_
    refine zn_iload_n (pc := 115) rfl rfl ?_
    refine zn_isubN (pc := 116) (x := t) (y := f) rfl (by omega) ?_
    refine zn_iconstN (pc := 117) 1 rfl rfl ?_
    refine zn_iaddN (pc := 118) (x := (t - f)) (y := 1) rfl ?_
    exact zn_iret (pc := 119) rfl rfl ⟨rfl, hS3.inv, (hfr1.trans (hS1.1.1.edit_fr.trans (hM3.frm (Or.inl rfl))))⟩
  · exact absurd hr c1
theorem q_insCol_1 {pf : Nat → Option Nat} {now p sz : Nat} {Z : Nat → Nat} (hS : ST hh F z A pf now p Z sz) {x : Int32} (hbad : ¬ zin x (nbb z)) : Zt g zX9_insertColumn [.ref 1, .int x] hh 2 := by
  show Zn g zX9_insertColumn 0 [some (.ref 1), some (.int x), none, none, none, none, none] [] hh 1 6 _
  refine zn_aload_n (pc := 0) rfl rfl ?_
  refine zn_iload_n (pc := 1) rfl rfl ?_
  exact zn_callVt (pc := 2) (J := zX9_requireBlock) (o := 1) (as := [.int x]) (rest := []) rfl rfl rfl rfl hS.t rfl rfl rfl (Nat.le_of_ble_eq_true rfl) (Nat.le_of_ble_eq_true rfl) (Nat.le_of_ble_eq_true rfl) (Nat.le_of_ble_eq_true rfl) (q_rBlk_t hS hbad) ⟨rfl, rfl⟩
theorem q_insCol_2 {pf : Nat → Option Nat} {now p sz : Nat} {Z : Nat → Nat} (hS : ST hh F z A pf now p Z sz) {b c f t : Nat} (hb : b < nbb z) (h6 : pRR F z A 6 b = c) (h7 : pRR F z A 7 b = f) (h8b : pRR F z A 8 b = t) (hr : ¬ bRoom z f (t + 1)) : Zt g zX9_insertColumn [.ref 1, .int (nI b)] hh 1 := by
  have h24 := hS.tk.ok.2.1
  have h01 := hS.tk.ok.1
  have h120 := hS.im
  have hnb := hS.nb
  have hszz := hS.s3
  have hur := hS.ur
  have hnw := hS.nw
  have h68 := hS.wf.1
  obtain ⟨⟨hc7, hft, htz, -, -⟩, hEb⟩ := hS.L.r.blk b hb
  rw [h6] at hc7
  rw [h7, h8b] at hft
  rw [h8b] at htz
  rw [h6, h7, h8b] at hEb
  show Zn g zX9_insertColumn 0 [some (.ref 1), some (.int (nI b)), none, none, none, none, none] [] hh 1 6 _
  refine zn_aload_n (pc := 0) rfl rfl ?_
  refine zn_iload_n (pc := 1) rfl rfl ?_
  refine zn_callVx (pc := 2) (J := zX9_requireBlock) (o := 1) (as := [.int (nI b)]) (rest := []) rfl rfl rfl rfl hS.t rfl rfl rfl (Nat.le_of_ble_eq_true rfl) (Nat.le_of_ble_eq_true rfl) (Nat.le_of_ble_eq_true rfl) (Nat.le_of_ble_eq_true rfl) (q_rBlk hS (b := b) (by omega)) ?_
  refine zn_aload_n (pc := 5) rfl rfl ?_
  refine zn_get (pc := 6) (v := .ref 10) rfl hS.t rfl ?_
  refine zn_get (pc := 9) (v := .ref 18) rfl hS.lo rfl ?_
  refine zn_iload_n (pc := 12) rfl rfl ?_
  refine zn_callVx (pc := 13) (J := zX0_first) (o := 18) (as := [.int (nI b)]) (rest := []) rfl rfl rfl rfl hS.o18 rfl rfl rfl (Nat.le_of_ble_eq_true rfl) (Nat.le_of_ble_eq_true rfl) (Nat.le_of_ble_eq_true rfl) (Nat.le_of_ble_eq_true rfl) (c_first_10b hS.L.b hS.nb (b := b) (by omega)) ?_
  refine zn_top (v' := .int (nI f)) (by rw [h7]) ?_
  refine zn_istore_n (pc := 16) (L' := [some (.ref 1), some (.int (nI b)), some (.int (nI f)), none, none, none, none]) rfl (by decide) rfl ?_
  refine zn_aload_n (pc := 17) rfl rfl ?_
  refine zn_get (pc := 18) (v := .ref 10) rfl hS.t rfl ?_
  refine zn_get (pc := 21) (v := .ref 18) rfl hS.lo rfl ?_
  refine zn_iload_n (pc := 24) rfl rfl ?_
  refine zn_callVx (pc := 25) (J := zX0_last) (o := 18) (as := [.int (nI b)]) (rest := []) rfl rfl rfl rfl hS.o18 rfl rfl rfl (Nat.le_of_ble_eq_true rfl) (Nat.le_of_ble_eq_true rfl) (Nat.le_of_ble_eq_true rfl) (Nat.le_of_ble_eq_true rfl) (c_last_10b hS.L.b hS.nb (b := b) (by omega)) ?_
  refine zn_top (v' := .int (nI t)) (by rw [h8b]) ?_
  refine zn_istore_n (pc := 28) (L' := [some (.ref 1), some (.int (nI b)), some (.int (nI f)), some (.int (nI t)), none, none, none]) rfl (by decide) rfl ?_
  refine zn_aload_n (pc := 29) rfl rfl ?_
  refine zn_callVx (pc := 30) (J := zX9_cells) (o := 1) (as := []) (rest := []) rfl rfl rfl rfl hS.t rfl rfl rfl (Nat.le_of_ble_eq_true rfl) (Nat.le_of_ble_eq_true rfl) (Nat.le_of_ble_eq_true rfl) (Nat.le_of_ble_eq_true rfl) (q_cellsG hS.t hS.lo) ?_
  refine zn_iload_n (pc := 33) rfl rfl ?_
  refine zn_iload_n (pc := 34) rfl rfl ?_
  refine zn_callVx (pc := 35) (J := zX1_hasFullLine) (o := 11) (as := [.int (nI f), .int (nI t)]) (rest := []) rfl rfl rfl rfl hS.o11 rfl rfl rfl (Nat.le_of_ble_eq_true rfl) (Nat.le_of_ble_eq_true rfl) (Nat.le_of_ble_eq_true rfl) (Nat.le_of_ble_eq_true rfl) (c_hasFullLine hS.L (f := f) (t := t) (by omega) (by omega)) ?_
  refine zn_if_eqB (pc := 38) (tgt := 51) rfl rfl (fun c1 => ?_) (fun c1 => ?_)
  · exact absurd hr c1
  · exact zn_throw (pc := 41) (E := 1) rfl (Nat.le_of_ble_eq_true rfl) (Nat.le_of_ble_eq_true rfl) ⟨rfl, rfl⟩
theorem q_rc_l {pf : Nat → Option Nat} {now p sz : Nat} {Z : Nat → Nat} (hS : ST hh F z A pf now p Z sz) {b f t c : Nat} {Y : List Nat} {Q : zR → zH → Prop} (htz : t < z 0) (hcE : ∀ l, f ≤ l → l ≤ t → c + 1 < z (1 + l)) (K : ∀ (Z9 : Nat → Nat) (s9 : Nat), (∀ j, Z9 j < 1000) → PL Z9 s9 (fm (fL z) f 0 ++ (fm (fH z c) (t + 1 - f) f ++ Y)) → Zn g zX9_removeColumn 122 [some (.ref 1), some (.int (nI b)), some (.int (nI f)), some (.int (nI t)), some (.int (nI c)), some (.int (nI (dS (cNb z c) (t + 1 - f) f))), some (.ref p), none] [] (pgs hh 7 3264 p (p + 1) Z9 s9) 0 0 Q) : ∀ (n : Nat) (k : Nat) (Zk : Nat → Nat) (sk s : Nat), k = f + n → k ≤ t + 1 → (∀ j, Zk j < 1000) → PL Zk sk (fm (fL z) k 0 ++ (fm (fH z c) (t + 1 - k) k ++ Y)) → sk ≤ 3264 → s = dS (cNb z c) (t + 1 - k) k → Zn g zX9_removeColumn 57 [some (.ref 1), some (.int (nI b)), some (.int (nI f)), some (.int (nI t)), some (.int (nI c)), some (.int (nI s)), some (.ref p), some (.int (nI k - 1))] [] (pgs hh 7 3264 p (p + 1) Zk sk) 0 0 Q := by
  intro n
  induction n with
  | zero =>
    intro k Zk sk s hn0 hn1 hn2 hn3 hn4 hn5
    have h24 := hS.tk.ok.2.1
    have h01 := hS.tk.ok.1
    have h120 := hS.im
    have hnb := hS.nb
    have hszz := hS.s3
    have hur := hS.ur
    have hnw := hS.nw
    have hpp := hS.pp
    refine zn_iload (pc := 57) rfl rfl ?_
    refine zn_iload_n (pc := 59) rfl rfl ?_
    refine zn_icmp_lt (pc := 60) (tgt := 122) (x := (nI k - 1)) (y := (nI f)) rfl rfl (fun c1 => ?_) (fun c1 => ?_)
    · have e8 : k = f := by have := dm_lt (by omega) (by omega) c1; omega
      rw [e8] at hn3 hn5
      rw [hn5]
      exact zn_sub (L' := [some (.ref 1), some (.int (nI b)), some (.int (nI f)), some (.int (nI t)), some (.int (nI c)), some (.int (nI (dS (cNb z c) (t + 1 - f) f))), some (.ref p), none]) ⟨rfl, rfl, rfl, rfl, rfl, rfl, rfl, trivial⟩ (K Zk sk hn2 hn3)
    · exfalso; obtain ⟨k1, ek, hk1⟩ := dm_ge (by omega) (by omega) c1; omega
  | succ n ih =>
    intro k Zk sk s hn0 hn1 hn2 hn3 hn4 hn5
    have h24 := hS.tk.ok.2.1
    have h01 := hS.tk.ok.1
    have h120 := hS.im
    have hnb := hS.nb
    have hszz := hS.s3
    have hur := hS.ur
    have hnw := hS.nw
    have hpp := hS.pp
    refine zn_iload (pc := 57) rfl rfl ?_
    refine zn_iload_n (pc := 59) rfl rfl ?_
    refine zn_icmp_lt (pc := 60) (tgt := 122) (x := (nI k - 1)) (y := (nI f)) rfl rfl (fun c1 => ?_) (fun c1 => ?_)
    · have e8 : k = f := by have := dm_lt (by omega) (by omega) c1; omega
      rw [e8] at hn3 hn5
      rw [hn5]
      exact zn_sub (L' := [some (.ref 1), some (.int (nI b)), some (.int (nI f)), some (.int (nI t)), some (.int (nI c)), some (.int (nI (dS (cNb z c) (t + 1 - f) f))), some (.ref p), none]) ⟨rfl, rfl, rfl, rfl, rfl, rfl, rfl, trivial⟩ (K Zk sk hn2 hn3)
    · obtain ⟨k1, ek, hk1⟩ := dm_ge (by omega) (by omega) c1
      subst ek
      refine zn_sub (L' := [some (.ref 1), some (.int (nI b)), some (.int (nI f)), some (.int (nI t)), some (.int (nI c)), some (.int (nI s)), some (.ref p), some (.int (nI k1))]) ⟨rfl, rfl, rfl, rfl, rfl, rfl, rfl, by rw [nI_mm1 (by omega), Nat.add_sub_cancel], trivial⟩ ?_
      rw [show t + 1 - (k1 + 1) = t - k1 by omega] at hn3
      rw [show t + 1 - (k1 + 1) = t - k1 by omega] at hn5
      have hck := hcE k1 (by omega) (by omega)
      have hrc := rc_s (z := z) (c := c) (k := k1) (t := t) hck (by omega) hn3
      have hrc1 := hrc.1
      have km : mK z c k1 ≤ 2 := skind_le _ _
      refine zn_iload (pc := 63) rfl rfl ?_
      refine zn_joinV (v := .int (nI (cNb z c k1))) (pj := 84) ?_ (fun K2 => ?_)
      · refine zn_iaddN (pc := 84) (x := s) (y := (cNb z c k1)) rfl ?_
        refine zn_istore (pc := 85) (L' := [some (.ref 1), some (.int (nI b)), some (.int (nI f)), some (.int (nI t)), some (.int (nI c)), some (.int (nI (s + (cNb z c k1)))), some (.ref p), some (.int (nI k1))]) rfl (by decide) rfl ?_
        refine zn_aload (pc := 87) rfl rfl ?_
        refine zn_aload_n (pc := 89) rfl rfl ?_
        refine zn_callVx (pc := 90) (J := zX9_cells) (o := 1) (as := []) (rest := [.ref p]) rfl rfl rfl rfl ((pg_n (by omega) (by omega)).trans hS.t) rfl rfl rfl (Nat.le_of_ble_eq_true rfl) (Nat.le_of_ble_eq_true rfl) (Nat.le_of_ble_eq_true rfl) (Nat.le_of_ble_eq_true rfl) (q_cellsG ((pg_n (by omega) (by omega)).trans hS.t) ((pg_n (by omega) (by omega)).trans hS.lo)) ?_
        refine zn_iload (pc := 93) rfl rfl ?_
        refine zn_iload (pc := 95) rfl rfl ?_
        refine zn_callVx (pc := 97) (J := zX1_start) (o := 11) (as := [.int (nI k1), .int (nI c)]) (rest := [.ref p]) rfl rfl rfl rfl ((pg_n (by omega) (by omega)).trans hS.o11) rfl rfl rfl (Nat.le_of_ble_eq_true rfl) (Nat.le_of_ble_eq_true rfl) (Nat.le_of_ble_eq_true rfl) (Nat.le_of_ble_eq_true rfl) (c_start_10 hS.L.ok (lk_pg hS).c (l := k1) (c := c) (by omega) (by have := hcE k1 (by omega) (by omega); omega)) ?_
        refine zn_aload_n (pc := 100) rfl rfl ?_
        refine zn_callVx (pc := 101) (J := zX9_cells) (o := 1) (as := []) (rest := [.int (nI (CS z k1 c)), .ref p]) rfl rfl rfl rfl ((pg_n (by omega) (by omega)).trans hS.t) rfl rfl rfl (Nat.le_of_ble_eq_true rfl) (Nat.le_of_ble_eq_true rfl) (Nat.le_of_ble_eq_true rfl) (Nat.le_of_ble_eq_true rfl) (q_cellsG ((pg_n (by omega) (by omega)).trans hS.t) ((pg_n (by omega) (by omega)).trans hS.lo)) ?_
        refine zn_iload (pc := 104) rfl rfl ?_
        refine zn_iload (pc := 106) rfl rfl ?_
        refine zn_callVx (pc := 108) (J := zX1_length) (o := 11) (as := [.int (nI k1), .int (nI c)]) (rest := [.int (nI (CS z k1 c)), .ref p]) rfl rfl rfl rfl ((pg_n (by omega) (by omega)).trans hS.o11) rfl rfl rfl (Nat.le_of_ble_eq_true rfl) (Nat.le_of_ble_eq_true rfl) (Nat.le_of_ble_eq_true rfl) (Nat.le_of_ble_eq_true rfl) (c_length_10 hS.L.ok (lk_pg hS).c (l := k1) (c := c) (by omega) (by have := hcE k1 (by omega) (by omega); omega)) ?_
        refine zn_iconstN (pc := 111) 1 rfl rfl ?_
        refine zn_iaddN (pc := 112) (x := (z (25 + 8 * k1 + c))) (y := 1) rfl ?_
        refine zn_callVx (pc := 113) (J := zX7_cut) (o := p) (as := [.int (nI (CS z k1 c)), .int (nI ((z (25 + 8 * k1 + c)) + 1))]) (rest := []) rfl rfl rfl rfl pg_o rfl rfl rfl (Nat.le_of_ble_eq_true rfl) (Nat.le_of_ble_eq_true rfl) (Nat.le_of_ble_eq_true rfl) (Nat.le_of_ble_eq_true rfl) (c_cut (h := hh) (by omega) (by omega) (a := (CS z k1 c)) (n := ((z (25 + 8 * k1 + c)) + 1)) (by omega) (by omega)) ?_
        refine zn_iinc (pc := 116) (L' := [some (.ref 1), some (.int (nI b)), some (.int (nI f)), some (.int (nI t)), some (.int (nI c)), some (.int (nI (s + (cNb z c k1)))), some (.ref p), some (.int (nI k1 - 1))]) (v := nI k1 - 1) rfl rfl (dm_dec _) (by decide) rfl ?_
        refine zn_goto (pc := 119) (tgt := 57) rfl rfl ?_
        exact ih k1 _ _ _ (by omega) (by omega) (zb_cpy hn2 hn2) hrc.2 (by omega) (by rw [hn5, show t + 1 - k1 = (t - k1) + 1 by omega]; show _ = cNb z c k1 + dS (cNb z c) (t - k1) (k1 + 1); omega)
      · refine zn_aload_n (pc := 65) rfl rfl ?_
        refine zn_callVx (pc := 66) (J := zX9_cells) (o := 1) (as := []) (rest := [.int (nI s)]) rfl rfl rfl rfl ((pg_n (by omega) (by omega)).trans hS.t) rfl rfl rfl (Nat.le_of_ble_eq_true rfl) (Nat.le_of_ble_eq_true rfl) (Nat.le_of_ble_eq_true rfl) (Nat.le_of_ble_eq_true rfl) (q_cellsG ((pg_n (by omega) (by omega)).trans hS.t) ((pg_n (by omega) (by omega)).trans hS.lo)) ?_
        refine zn_iload (pc := 69) rfl rfl ?_
        refine zn_iload (pc := 71) rfl rfl ?_
        refine zn_callVx (pc := 73) (J := zX1_kind) (o := 11) (as := [.int (nI k1), .int (nI c)]) (rest := [.int (nI s)]) rfl rfl rfl rfl ((pg_n (by omega) (by omega)).trans hS.o11) rfl rfl rfl (Nat.le_of_ble_eq_true rfl) (Nat.le_of_ble_eq_true rfl) (Nat.le_of_ble_eq_true rfl) (Nat.le_of_ble_eq_true rfl) (c_kind_10 hS.L.ok (lk_pg hS).c (l := k1) (c := c) (by omega) (by have := hcE k1 (by omega) (by omega); omega)) ?_
        refine zn_if_neN (pc := 76) (tgt := 83) (x := (mK z c k1)) rfl rfl (by omega) (fun c3 => ?_) (fun c3 => ?_)
        · refine zn_iconstN (pc := 83) 1 rfl rfl ?_
          exact zn_top (v' := .int (nI (cNb z c k1))) (by unfold cNb; rw [if_neg (by omega)]) K2
        · refine zn_iconstN (pc := 79) 0 rfl rfl ?_
          refine zn_goto (pc := 80) (tgt := 84) rfl rfl ?_
          exact zn_top (v' := .int (nI (cNb z c k1))) (by unfold cNb; rw [if_pos (by omega)]) K2
theorem q_remCol {pf : Nat → Option Nat} {now p sz : Nat} {Z : Nat → Nat} (hS : ST hh F z A pf now p Z sz) {b c f t : Nat} (hb : b < nbb z) (h6 : pRR F z A 6 b = c) (h7 : pRR F z A 7 b = f) (h8b : pRR F z A 8 b = t) : Zm g zX9_removeColumn [.ref 1, .int (nI b)] hh 2 3266 (fun r h' => r = .inl (some (.int (nI (mRc z c f (t + 1 - f))))) ∧ INV h' (svF F) (mClcs z c f (t + 1 - f)) (svA F z A) ∧ FRm hh h') := by
  have h24 := hS.tk.ok.2.1
  have h01 := hS.tk.ok.1
  have h120 := hS.im
  have hnb := hS.nb
  have hszz := hS.s3
  have hur := hS.ur
  have hnw := hS.nw
  have h68 := hS.wf.1
  obtain ⟨⟨hc7, hft, htz, -, -⟩, hEb⟩ := hS.L.r.blk b hb
  rw [h6] at hc7
  rw [h7, h8b] at hft
  rw [h8b] at htz
  rw [h6, h7, h8b] at hEb
  have hcE : ∀ l, f ≤ l → l ≤ t → c + 1 < z (1 + l) := fun l a b => (hEb l a b).2
  have hlen := hS.fl.len
  obtain ⟨ht2, hf2⟩ := clc_T (m := t + 1 - f) hS.tk (by omega) (fun l a b => hcE l a (by omega))
  have hmr := mRc_T (m := t + 1 - f) hS.tk (by omega) (fun l a b => hcE l a (by omega)) (t + 1 - f) (Nat.le_refl _)
  show Zn g zX9_removeColumn 0 [some (.ref 1), some (.int (nI b)), none, none, none, none, none, none] [] hh 2 3266 _
  refine zn_aload_n (pc := 0) rfl rfl ?_
  refine zn_iload_n (pc := 1) rfl rfl ?_
  refine zn_callVx (pc := 2) (J := zX9_requireBlock) (o := 1) (as := [.int (nI b)]) (rest := []) rfl rfl rfl rfl hS.t rfl rfl rfl (Nat.le_of_ble_eq_true rfl) (Nat.le_of_ble_eq_true rfl) (Nat.le_of_ble_eq_true rfl) (Nat.le_of_ble_eq_true rfl) (q_rBlk hS (b := b) (by omega)) ?_
  refine zn_aload_n (pc := 5) rfl rfl ?_
  refine zn_get (pc := 6) (v := .ref 10) rfl hS.t rfl ?_
  refine zn_get (pc := 9) (v := .ref 18) rfl hS.lo rfl ?_
  refine zn_iload_n (pc := 12) rfl rfl ?_
  refine zn_callVx (pc := 13) (J := zX0_first) (o := 18) (as := [.int (nI b)]) (rest := []) rfl rfl rfl rfl hS.o18 rfl rfl rfl (Nat.le_of_ble_eq_true rfl) (Nat.le_of_ble_eq_true rfl) (Nat.le_of_ble_eq_true rfl) (Nat.le_of_ble_eq_true rfl) (c_first_10b hS.L.b hS.nb (b := b) (by omega)) ?_
  refine zn_top (v' := .int (nI f)) (by rw [h7]) ?_
  refine zn_istore_n (pc := 16) (L' := [some (.ref 1), some (.int (nI b)), some (.int (nI f)), none, none, none, none, none]) rfl (by decide) rfl ?_
  refine zn_aload_n (pc := 17) rfl rfl ?_
  refine zn_get (pc := 18) (v := .ref 10) rfl hS.t rfl ?_
  refine zn_get (pc := 21) (v := .ref 18) rfl hS.lo rfl ?_
  refine zn_iload_n (pc := 24) rfl rfl ?_
  refine zn_callVx (pc := 25) (J := zX0_last) (o := 18) (as := [.int (nI b)]) (rest := []) rfl rfl rfl rfl hS.o18 rfl rfl rfl (Nat.le_of_ble_eq_true rfl) (Nat.le_of_ble_eq_true rfl) (Nat.le_of_ble_eq_true rfl) (Nat.le_of_ble_eq_true rfl) (c_last_10b hS.L.b hS.nb (b := b) (by omega)) ?_
  refine zn_top (v' := .int (nI t)) (by rw [h8b]) ?_
  refine zn_istore_n (pc := 28) (L' := [some (.ref 1), some (.int (nI b)), some (.int (nI f)), some (.int (nI t)), none, none, none, none]) rfl (by decide) rfl ?_
  refine zn_aload_n (pc := 29) rfl rfl ?_
  refine zn_get (pc := 30) (v := .ref 10) rfl hS.t rfl ?_
  refine zn_get (pc := 33) (v := .ref 18) rfl hS.lo rfl ?_
  refine zn_iload_n (pc := 36) rfl rfl ?_
  refine zn_callVx (pc := 37) (J := zX0_column) (o := 18) (as := [.int (nI b)]) (rest := []) rfl rfl rfl rfl hS.o18 rfl rfl rfl (Nat.le_of_ble_eq_true rfl) (Nat.le_of_ble_eq_true rfl) (Nat.le_of_ble_eq_true rfl) (Nat.le_of_ble_eq_true rfl) (c_column_10b hS.L.b hS.nb (b := b) (by omega)) ?_
  refine zn_top (v' := .int (nI c)) (by rw [h6]) ?_
  refine zn_istore (pc := 40) (L' := [some (.ref 1), some (.int (nI b)), some (.int (nI f)), some (.int (nI t)), some (.int (nI c)), none, none, none]) rfl (by decide) rfl ?_
  refine zn_iconstN (pc := 42) 0 rfl rfl ?_
  refine zn_istore (pc := 43) (L' := [some (.ref 1), some (.int (nI b)), some (.int (nI f)), some (.int (nI t)), some (.int (nI c)), some (.int (nI 0)), none, none]) rfl (by decide) rfl ?_
  refine zn_aload_n (pc := 45) rfl rfl ?_
  refine zn_get (pc := 46) (v := .ref 6) rfl hS.t rfl ?_
  refine zn_callVm (pc := 49) (mc1 := 2) (ms1 := 3266) (mc := 0) (ms := 0) (J := zX3_save) (o := 6) (as := []) (rest := []) rfl rfl rfl rfl hS.h6 rfl rfl rfl (Nat.le_of_ble_eq_true rfl) (Nat.le_of_ble_eq_true rfl) (Nat.le_of_ble_eq_true rfl) (Nat.le_of_ble_eq_true rfl) (q_save hS) (fun E h9 q9 => by obtain ⟨P9, q9, -⟩ := q9; cases q9) ?_
  rintro v1 h1 ⟨P, e1, pf1, now1, Z1, hS1, hfr1, hG1, ⟨nP1, nP2, nP3⟩, hfx1, hpx1⟩
  cases e1
  have hpp1 := hS1.pp
  have hpp0 := hS.pp
  have e11 : svF F 11 = F 11 := svFn (by omega) (by omega)
  have e5 : svA F z A 5 = A 5 := svAn (by omega)
  refine zn_astore (pc := 52) (L' := [some (.ref 1), some (.int (nI b)), some (.int (nI f)), some (.int (nI t)), some (.int (nI c)), some (.int (nI 0)), some (.ref P), none]) rfl (by decide) rfl ?_
  refine zn_iload_n (pc := 54) rfl rfl ?_
  refine zn_istore (pc := 55) (L' := [some (.ref 1), some (.int (nI b)), some (.int (nI f)), some (.int (nI t)), some (.int (nI c)), some (.int (nI 0)), some (.ref P), some (.int (nI t))]) rfl (by decide) rfl ?_
  refine zn_heq (h' := pgs h1 7 3264 P (P + 1) Z1 sz) (pgs_self hS1.po hS1.qo).symm ?_
  refine zn_sub (L' := [some (.ref 1), some (.int (nI b)), some (.int (nI f)), some (.int (nI t)), some (.int (nI c)), some (.int (nI 0)), some (.ref P), some (.int (nI (t + 1) - 1))]) ⟨rfl, rfl, rfl, rfl, rfl, rfl, rfl, by rw [nI_mm1 (by omega), Nat.add_sub_cancel], trivial⟩ ?_
  refine q_rc_l hS1 htz hcE (Y := fm (fL z) (z 0 - (t + 1)) (t + 1)) (fun Z9 s9 hz9 hp9 => ?_) (t + 1 - f) (t + 1) Z1 sz 0 (by omega) (by omega) hS1.Zb (by rw [Nat.sub_self]; exact hS1.fl.spl (fT_k (by omega))) (by omega) (by rw [Nat.sub_self]; rfl)
  have hfl2 : FL (mClcs z c f (t + 1 - f)) Z9 s9 := by show PL Z9 s9 (fT (mClcs z c f (t + 1 - f))); rw [hf2, show f + (t + 1 - f) = t + 1 by omega]; exact hp9
  have hs9 := hfl2.sz ht2.ok
  refine zn_aload_n (pc := 122) rfl rfl ?_
  refine zn_aload_n (pc := 123) rfl rfl ?_
  refine zn_get (pc := 124) (v := .ref 10) rfl ((pg_n (by omega) (by omega)).trans hS1.t) rfl ?_
  refine zn_callVm (pc := 127) (mc1 := 0) (ms1 := 0) (mc := 0) (ms := 0) (J := zX9_measure) (o := 1) (as := [.ref 10]) (rest := []) rfl rfl rfl rfl ((pg_n (by omega) (by omega)).trans hS1.t) rfl rfl rfl (Nat.le_of_ble_eq_true rfl) (Nat.le_of_ble_eq_true rfl) (Nat.le_of_ble_eq_true rfl) (Nat.le_of_ble_eq_true rfl) (q_measure (hS1.1.1.edit hfl2 ht2 hz9 (by omega))) (fun E h9 q9 => by cases q9.1) ?_
  rintro v3 h3 ⟨e1, hI3, hM3⟩
  cases e1
  obtain ⟨Z3, s3, hS3⟩ := ST.of hI3
  refine zn_iload (pc := 130) rfl rfl ?_
  exact zn_iret (pc := 132) rfl rfl ⟨by rw [hmr], hS3.inv, (hfr1.trans (hS1.1.1.edit_fr.trans (hM3.frm (Or.inl rfl))))⟩
theorem q_remCol_1 {pf : Nat → Option Nat} {now p sz : Nat} {Z : Nat → Nat} (hS : ST hh F z A pf now p Z sz) {x : Int32} (hbad : ¬ zin x (nbb z)) : Zt g zX9_removeColumn [.ref 1, .int x] hh 2 := by
  show Zn g zX9_removeColumn 0 [some (.ref 1), some (.int x), none, none, none, none, none, none] [] hh 1 6 _
  refine zn_aload_n (pc := 0) rfl rfl ?_
  refine zn_iload_n (pc := 1) rfl rfl ?_
  exact zn_callVt (pc := 2) (J := zX9_requireBlock) (o := 1) (as := [.int x]) (rest := []) rfl rfl rfl rfl hS.t rfl rfl rfl (Nat.le_of_ble_eq_true rfl) (Nat.le_of_ble_eq_true rfl) (Nat.le_of_ble_eq_true rfl) (Nat.le_of_ble_eq_true rfl) (q_rBlk_t hS hbad) ⟨rfl, rfl⟩
end m1
