section m1
variable {g : zG} {h hh : zH} {F : Nat → Nat} {S : Int64} {z : Nat → Nat} {A : Nat → Nat → Nat} {X : Nat → Int32}
theorem q_count  {pf : Nat → Option Nat} {now p sz : Nat} {Z : Nat → Nat} (hS : ST hh F z A pf now p Z sz) {k : Nat} (hk : k ≤ 8) : Zx g zX9_count [.ref 1, .int (nI k)] (hh) (some (.int (nI (mCn (FF F z) (pRR F z A) z k)))) (hh) := by
  have h24 := hS.tk.ok.2.1
  have h01 := hS.tk.ok.1
  have h120 := hS.im
  have hnb := hS.nb
  have hszz := hS.s3
  have hur := hS.ur
  have hnw := hS.nw
  show Zn g zX9_count 0 [some (.ref 1), some (.int (nI k))] [] (hh) 0 0 _
  refine zn_iload_n (pc := 0) rfl rfl ?_
  refine zn_if_ltN (pc := 1) (tgt := 10) (x := k) rfl rfl (by omega) ?_
  refine zn_iload_n (pc := 4) rfl rfl ?_
  refine zn_bipushN (pc := 5) 8 rfl rfl ?_
  refine zn_icmp_leN (pc := 7) (tgt := 20) (x := k) (y := 8) rfl rfl (by omega) (by omega) (fun c2 => ?_) (fun c2 => ?_)
  · refine zn_aload_n (pc := 20) rfl rfl ?_
    refine zn_iload_n (pc := 21) rfl rfl ?_
    refine zn_callVx (pc := 22) (J := zX9_countFact) (o := 1) (as := [.int (nI k)]) (rest := []) rfl rfl rfl rfl hS.t rfl rfl rfl (Nat.le_of_ble_eq_true rfl) (Nat.le_of_ble_eq_true rfl) (Nat.le_of_ble_eq_true rfl) (Nat.le_of_ble_eq_true rfl) (q_cf hS (k := k) (by omega)) ?_
    exact zx_i (pc := 25) rfl rfl rfl rfl
  · exfalso; omega
theorem q_count_1 {pf : Nat → Option Nat} {now p sz : Nat} {Z : Nat → Nat} (hS : ST hh F z A pf now p Z sz) {x : Int32} (hx : ¬ (nI 0 ≤ x ∧ x ≤ nI 8)) : Zt g zX9_count [.ref 1, .int x] hh 0 := by
  have h24 := hS.tk.ok.2.1
  have h01 := hS.tk.ok.1
  have h120 := hS.im
  have hnb := hS.nb
  have hszz := hS.s3
  have hur := hS.ur
  have hnw := hS.nw
  show Zn g zX9_count 0 [some (.ref 1), some (.int x)] [] hh 1 6 _
  refine zn_iload_n (pc := 0) rfl rfl ?_
  refine zn_if_lt (pc := 1) (tgt := 10) (x := x) rfl rfl (fun c1 => ?_) (fun c1 => ?_)
  · have k0 := c1
    exact zn_throw (pc := 10) (E := 0) rfl (Nat.le_of_ble_eq_true rfl) (Nat.le_of_ble_eq_true rfl) ⟨rfl, rfl⟩
  · have k0 := c1
    refine zn_iload_n (pc := 4) rfl rfl ?_
    refine zn_bipushN (pc := 5) 8 rfl rfl ?_
    refine zn_icmp_le (pc := 7) (tgt := 20) (x := x) (y := (nI 8)) rfl rfl (fun c2 => ?_) (fun c2 => ?_)
    · exact absurd ⟨i_nn k0, c2⟩ hx
    · exact zn_throw (pc := 10) (E := 0) rfl (Nat.le_of_ble_eq_true rfl) (Nat.le_of_ble_eq_true rfl) ⟨rfl, rfl⟩
theorem q_firstError  {pf : Nat → Option Nat} {now p sz : Nat} {Z : Nat → Nat} (hS : ST hh F z A pf now p Z sz) {k : Nat} (hk : k ≤ 2) : Zx g zX9_firstError [.ref 1, .int (nI k)] (hh) (some (.int (nI (mrl (A 5) k (F 11) 0 0 0 0)))) (hh) := by
  have h24 := hS.tk.ok.2.1
  have h01 := hS.tk.ok.1
  have h120 := hS.im
  have hnb := hS.nb
  have hszz := hS.s3
  have hur := hS.ur
  have hnw := hS.nw
  show Zn g zX9_firstError 0 [some (.ref 1), some (.int (nI k))] [] (hh) 0 0 _
  refine zn_iload_n (pc := 0) rfl rfl ?_
  refine zn_if_ltN (pc := 1) (tgt := 9) (x := k) rfl rfl (by omega) ?_
  refine zn_iload_n (pc := 4) rfl rfl ?_
  refine zn_iconstN (pc := 5) 2 rfl rfl ?_
  refine zn_icmp_leN (pc := 6) (tgt := 19) (x := k) (y := 2) rfl rfl (by omega) (by omega) (fun c2 => ?_) (fun c2 => ?_)
  · refine zn_aload_n (pc := 19) rfl rfl ?_
    refine zn_get (pc := 20) (v := .ref 2) rfl hS.t rfl ?_
    refine zn_iload_n (pc := 23) rfl rfl ?_
    refine zn_callVx (pc := 24) (J := zX4_firstFault) (o := 2) (as := [.int (nI k)]) (rest := []) rfl rfl rfl rfl hS.i2 rfl rfl rfl (Nat.le_of_ble_eq_true rfl) (Nat.le_of_ble_eq_true rfl) (Nat.le_of_ble_eq_true rfl) (Nat.le_of_ble_eq_true rfl) (c_firstFault hS.im hS.ib hS.i2 hS.i3 (kd := k) (by omega)) ?_
    exact zx_i (pc := 27) rfl rfl rfl rfl
  · exfalso; omega
theorem q_firstError_1 {pf : Nat → Option Nat} {now p sz : Nat} {Z : Nat → Nat} (hS : ST hh F z A pf now p Z sz) {x : Int32} (hx : ¬ (nI 0 ≤ x ∧ x ≤ nI 2)) : Zt g zX9_firstError [.ref 1, .int x] hh 0 := by
  have h24 := hS.tk.ok.2.1
  have h01 := hS.tk.ok.1
  have h120 := hS.im
  have hnb := hS.nb
  have hszz := hS.s3
  have hur := hS.ur
  have hnw := hS.nw
  show Zn g zX9_firstError 0 [some (.ref 1), some (.int x)] [] hh 1 6 _
  refine zn_iload_n (pc := 0) rfl rfl ?_
  refine zn_if_lt (pc := 1) (tgt := 9) (x := x) rfl rfl (fun c1 => ?_) (fun c1 => ?_)
  · have k0 := c1
    exact zn_throw (pc := 9) (E := 0) rfl (Nat.le_of_ble_eq_true rfl) (Nat.le_of_ble_eq_true rfl) ⟨rfl, rfl⟩
  · have k0 := c1
    refine zn_iload_n (pc := 4) rfl rfl ?_
    refine zn_iconstN (pc := 5) 2 rfl rfl ?_
    refine zn_icmp_le (pc := 6) (tgt := 19) (x := x) (y := (nI 2)) rfl rfl (fun c2 => ?_) (fun c2 => ?_)
    · exact absurd ⟨i_nn k0, c2⟩ hx
    · exact zn_throw (pc := 9) (E := 0) rfl (Nat.le_of_ble_eq_true rfl) (Nat.le_of_ble_eq_true rfl) ⟨rfl, rfl⟩
theorem q_line  {pf : Nat → Option Nat} {now p sz : Nat} {Z : Nat → Nat} (hS : ST hh F z A pf now p Z sz) {l : Nat} (hl : l < z 0) {k : Nat} (hk : k ≤ 3) : Zx g zX9_line [.ref 1, .int (nI l), .int (nI k)] (hh) (some (.int (nI (mLn_ (pRR F z A) z (nbb z) l k)))) (hh) := by
  have h24 := hS.tk.ok.2.1
  have h01 := hS.tk.ok.1
  have h120 := hS.im
  have hnb := hS.nb
  have hszz := hS.s3
  have hur := hS.ur
  have hnw := hS.nw
  have h8 := (hS.tk.gl hl).2.1
  have hzl1 := (hS.tk.gl hl).1
  show Zn g zX9_line 0 [some (.ref 1), some (.int (nI l)), some (.int (nI k))] [] (hh) 0 0 _
  refine zn_aload_n (pc := 0) rfl rfl ?_
  refine zn_iload_n (pc := 1) rfl rfl ?_
  refine zn_callVx (pc := 2) (J := zX9_requireLine) (o := 1) (as := [.int (nI l)]) (rest := []) rfl rfl rfl rfl hS.t rfl rfl rfl (Nat.le_of_ble_eq_true rfl) (Nat.le_of_ble_eq_true rfl) (Nat.le_of_ble_eq_true rfl) (Nat.le_of_ble_eq_true rfl) (q_rLine hS (x := (nI l)) ((zin_nI (by omega)).mpr (by omega))) ?_
  refine zn_iload_n (pc := 5) rfl rfl ?_
  refine zn_if_ltN (pc := 6) (tgt := 14) (x := k) rfl rfl (by omega) ?_
  refine zn_iload_n (pc := 9) rfl rfl ?_
  refine zn_iconstN (pc := 10) 3 rfl rfl ?_
  refine zn_icmp_leN (pc := 11) (tgt := 24) (x := k) (y := 3) rfl rfl (by omega) (by omega) (fun c2 => ?_) (fun c2 => ?_)
  · refine zn_aload_n (pc := 24) rfl rfl ?_
    refine zn_get (pc := 25) (v := .ref 10) rfl hS.t rfl ?_
    refine zn_iload_n (pc := 28) rfl rfl ?_
    refine zn_iload_n (pc := 29) rfl rfl ?_
    refine zn_callVx (pc := 30) (J := zX5_lineFact) (o := 10) (as := [.int (nI l), .int (nI k)]) (rest := []) rfl rfl rfl rfl hS.lo rfl rfl rfl (Nat.le_of_ble_eq_true rfl) (Nat.le_of_ble_eq_true rfl) (Nat.le_of_ble_eq_true rfl) (Nat.le_of_ble_eq_true rfl) (c_lineFact hS.L (l := l) (by omega) (k := k) (by omega)) ?_
    exact zx_i (pc := 33) rfl rfl rfl rfl
  · exfalso; omega
theorem q_line_1 {pf : Nat → Option Nat} {now p sz : Nat} {Z : Nat → Nat} (hS : ST hh F z A pf now p Z sz) {x y : Int32} (hbad : ¬ zin x (z 0)) : Zt g zX9_line [.ref 1, .int x, .int y] hh 2 := by
  show Zn g zX9_line 0 [some (.ref 1), some (.int x), some (.int y)] [] hh 1 6 _
  refine zn_aload_n (pc := 0) rfl rfl ?_
  refine zn_iload_n (pc := 1) rfl rfl ?_
  exact zn_callVt (pc := 2) (J := zX9_requireLine) (o := 1) (as := [.int x]) (rest := []) rfl rfl rfl rfl hS.t rfl rfl rfl (Nat.le_of_ble_eq_true rfl) (Nat.le_of_ble_eq_true rfl) (Nat.le_of_ble_eq_true rfl) (Nat.le_of_ble_eq_true rfl) (q_rLine_t hS (x := x) hbad) ⟨rfl, rfl⟩
theorem q_line_2 {pf : Nat → Option Nat} {now p sz : Nat} {Z : Nat → Nat} (hS : ST hh F z A pf now p Z sz) {l : Nat} (hl : l < z 0) {y : Int32} (hy : ¬ (nI 0 ≤ y ∧ y ≤ nI 3)) : Zt g zX9_line [.ref 1, .int (nI l), .int y] hh 0 := by
  have h24 := hS.tk.ok.2.1
  have h01 := hS.tk.ok.1
  have h120 := hS.im
  have hnb := hS.nb
  have hszz := hS.s3
  have hur := hS.ur
  have hnw := hS.nw
  have h8 := (hS.tk.gl hl).2.1
  have hzl1 := (hS.tk.gl hl).1
  show Zn g zX9_line 0 [some (.ref 1), some (.int (nI l)), some (.int y)] [] hh 1 6 _
  refine zn_aload_n (pc := 0) rfl rfl ?_
  refine zn_iload_n (pc := 1) rfl rfl ?_
  refine zn_callVx (pc := 2) (J := zX9_requireLine) (o := 1) (as := [.int (nI l)]) (rest := []) rfl rfl rfl rfl hS.t rfl rfl rfl (Nat.le_of_ble_eq_true rfl) (Nat.le_of_ble_eq_true rfl) (Nat.le_of_ble_eq_true rfl) (Nat.le_of_ble_eq_true rfl) (q_rLine hS (x := (nI l)) ((zin_nI (by omega)).mpr (by omega))) ?_
  refine zn_iload_n (pc := 5) rfl rfl ?_
  refine zn_if_lt (pc := 6) (tgt := 14) (x := y) rfl rfl (fun c1 => ?_) (fun c1 => ?_)
  · have k0 := c1
    exact zn_throw (pc := 14) (E := 0) rfl (Nat.le_of_ble_eq_true rfl) (Nat.le_of_ble_eq_true rfl) ⟨rfl, rfl⟩
  · have k0 := c1
    refine zn_iload_n (pc := 9) rfl rfl ?_
    refine zn_iconstN (pc := 10) 3 rfl rfl ?_
    refine zn_icmp_le (pc := 11) (tgt := 24) (x := y) (y := (nI 3)) rfl rfl (fun c2 => ?_) (fun c2 => ?_)
    · exact absurd ⟨i_nn k0, c2⟩ hy
    · exact zn_throw (pc := 14) (E := 0) rfl (Nat.le_of_ble_eq_true rfl) (Nat.le_of_ble_eq_true rfl) ⟨rfl, rfl⟩
theorem q_cell  {pf : Nat → Option Nat} {now p sz : Nat} {Z : Nat → Nat} (hS : ST hh F z A pf now p Z sz) {l c : Nat} (hl : l < z 0) (hc : c < z (1 + l)) {k : Nat} (hk : k ≤ 4) : Zx g zX9_cell [.ref 1, .int (nI l), .int (nI c), .int (nI k)] (hh) (some (.int (mCl (FF F z) (pRR F z A) z l c k))) (hh) := by
  have h24 := hS.tk.ok.2.1
  have h01 := hS.tk.ok.1
  have h120 := hS.im
  have hnb := hS.nb
  have hszz := hS.s3
  have hur := hS.ur
  have hnw := hS.nw
  have h8 := (hS.tk.gl hl).2.1
  have h16 := hS.tk.ok.2.2.2 l c hl hc
  show Zn g zX9_cell 0 [some (.ref 1), some (.int (nI l)), some (.int (nI c)), some (.int (nI k))] [] (hh) 0 0 _
  refine zn_aload_n (pc := 0) rfl rfl ?_
  refine zn_iload_n (pc := 1) rfl rfl ?_
  refine zn_iload_n (pc := 2) rfl rfl ?_
  refine zn_callVx (pc := 3) (J := zX9_requireCell) (o := 1) (as := [.int (nI l), .int (nI c)]) (rest := []) rfl rfl rfl rfl hS.t rfl rfl rfl (Nat.le_of_ble_eq_true rfl) (Nat.le_of_ble_eq_true rfl) (Nat.le_of_ble_eq_true rfl) (Nat.le_of_ble_eq_true rfl) (q_rCell hS (x := (nI l)) (y := (nI c)) (mCell_nI hS.tk.ok (by omega) (by omega))) ?_
  refine zn_iload_n (pc := 6) rfl rfl ?_
  refine zn_if_ltN (pc := 7) (tgt := 15) (x := k) rfl rfl (by omega) ?_
  refine zn_iload_n (pc := 10) rfl rfl ?_
  refine zn_iconstN (pc := 11) 4 rfl rfl ?_
  refine zn_icmp_leN (pc := 12) (tgt := 25) (x := k) (y := 4) rfl rfl (by omega) (by omega) (fun c2 => ?_) (fun c2 => ?_)
  · refine zn_aload_n (pc := 25) rfl rfl ?_
    refine zn_get (pc := 26) (v := .ref 10) rfl hS.t rfl ?_
    refine zn_iload_n (pc := 29) rfl rfl ?_
    refine zn_iload_n (pc := 30) rfl rfl ?_
    refine zn_iload_n (pc := 31) rfl rfl ?_
    refine zn_aload_n (pc := 32) rfl rfl ?_
    refine zn_get (pc := 33) (v := .ref 4) rfl hS.t rfl ?_
    refine zn_callVx (pc := 36) (J := zX5_cellFact) (o := 10) (as := [.int (nI l), .int (nI c), .int (nI k), .ref 4]) (rest := []) rfl rfl rfl rfl hS.lo rfl rfl rfl (Nat.le_of_ble_eq_true rfl) (Nat.le_of_ble_eq_true rfl) (Nat.le_of_ble_eq_true rfl) (Nat.le_of_ble_eq_true rfl) (c_cellFact hS.L (l := l) (c := c) (by omega) (by omega) hS.f4 hS.f5 hS.fo.2.2.1 hS.fo.2.2.2.1 hS.fo.2.2.2.2.1 hS.fo.2.2.2.2.2.1 hS.fo.2.2.2.2.2.2 (k := k) (by omega)) ?_
    refine zn_top (v' := .int (mCl (FF F z) (pRR F z A) z l c k)) (by rw [cCl_m]) ?_
    exact zx_i (pc := 39) rfl rfl rfl rfl
  · exfalso; omega
theorem q_cell_1 {pf : Nat → Option Nat} {now p sz : Nat} {Z : Nat → Nat} (hS : ST hh F z A pf now p Z sz) {x y k : Int32} (hbad : ¬ mCell z x y) : Zt g zX9_cell [.ref 1, .int x, .int y, .int k] hh 2 := by
  show Zn g zX9_cell 0 [some (.ref 1), some (.int x), some (.int y), some (.int k)] [] hh 1 6 _
  refine zn_aload_n (pc := 0) rfl rfl ?_
  refine zn_iload_n (pc := 1) rfl rfl ?_
  refine zn_iload_n (pc := 2) rfl rfl ?_
  exact zn_callVt (pc := 3) (J := zX9_requireCell) (o := 1) (as := [.int x, .int y]) (rest := []) rfl rfl rfl rfl hS.t rfl rfl rfl (Nat.le_of_ble_eq_true rfl) (Nat.le_of_ble_eq_true rfl) (Nat.le_of_ble_eq_true rfl) (Nat.le_of_ble_eq_true rfl) (q_rCell_t hS (x := x) (y := y) hbad) ⟨rfl, rfl⟩
theorem q_cell_2 {pf : Nat → Option Nat} {now p sz : Nat} {Z : Nat → Nat} (hS : ST hh F z A pf now p Z sz) {l c : Nat} (hl : l < z 0) (hc : c < z (1 + l)) {y : Int32} (hy : ¬ (nI 0 ≤ y ∧ y ≤ nI 4)) : Zt g zX9_cell [.ref 1, .int (nI l), .int (nI c), .int y] hh 0 := by
  have h24 := hS.tk.ok.2.1
  have h01 := hS.tk.ok.1
  have h120 := hS.im
  have hnb := hS.nb
  have hszz := hS.s3
  have hur := hS.ur
  have hnw := hS.nw
  have h8 := (hS.tk.gl hl).2.1
  have h16 := hS.tk.ok.2.2.2 l c hl hc
  show Zn g zX9_cell 0 [some (.ref 1), some (.int (nI l)), some (.int (nI c)), some (.int y)] [] hh 1 6 _
  refine zn_aload_n (pc := 0) rfl rfl ?_
  refine zn_iload_n (pc := 1) rfl rfl ?_
  refine zn_iload_n (pc := 2) rfl rfl ?_
  refine zn_callVx (pc := 3) (J := zX9_requireCell) (o := 1) (as := [.int (nI l), .int (nI c)]) (rest := []) rfl rfl rfl rfl hS.t rfl rfl rfl (Nat.le_of_ble_eq_true rfl) (Nat.le_of_ble_eq_true rfl) (Nat.le_of_ble_eq_true rfl) (Nat.le_of_ble_eq_true rfl) (q_rCell hS (x := (nI l)) (y := (nI c)) (mCell_nI hS.tk.ok (by omega) (by omega))) ?_
  refine zn_iload_n (pc := 6) rfl rfl ?_
  refine zn_if_lt (pc := 7) (tgt := 15) (x := y) rfl rfl (fun c1 => ?_) (fun c1 => ?_)
  · have k0 := c1
    exact zn_throw (pc := 15) (E := 0) rfl (Nat.le_of_ble_eq_true rfl) (Nat.le_of_ble_eq_true rfl) ⟨rfl, rfl⟩
  · have k0 := c1
    refine zn_iload_n (pc := 10) rfl rfl ?_
    refine zn_iconstN (pc := 11) 4 rfl rfl ?_
    refine zn_icmp_le (pc := 12) (tgt := 25) (x := y) (y := (nI 4)) rfl rfl (fun c2 => ?_) (fun c2 => ?_)
    · exact absurd ⟨i_nn k0, c2⟩ hy
    · exact zn_throw (pc := 15) (E := 0) rfl (Nat.le_of_ble_eq_true rfl) (Nat.le_of_ble_eq_true rfl) ⟨rfl, rfl⟩
theorem q_letter  {pf : Nat → Option Nat} {now p sz : Nat} {Z : Nat → Nat} (hS : ST hh F z A pf now p Z sz) {l c : Nat} (hl : l < z 0) (hc : c < z (1 + l)) {q : Nat} (hq : q < z (25 + 8 * l + c)) : Zx g zX9_letter [.ref 1, .int (nI l), .int (nI c), .int (nI q)] (hh) (some (.int (nI (z (217 + 16 * (8 * l + c) + q))))) (hh) := by
  have h24 := hS.tk.ok.2.1
  have h01 := hS.tk.ok.1
  have h120 := hS.im
  have hnb := hS.nb
  have hszz := hS.s3
  have hur := hS.ur
  have hnw := hS.nw
  have h8 := (hS.tk.gl hl).2.1
  have h16 := hS.tk.ok.2.2.2 l c hl hc
  show Zn g zX9_letter 0 [some (.ref 1), some (.int (nI l)), some (.int (nI c)), some (.int (nI q))] [] (hh) 0 0 _
  refine zn_aload_n (pc := 0) rfl rfl ?_
  refine zn_iload_n (pc := 1) rfl rfl ?_
  refine zn_iload_n (pc := 2) rfl rfl ?_
  refine zn_callVx (pc := 3) (J := zX9_requireCell) (o := 1) (as := [.int (nI l), .int (nI c)]) (rest := []) rfl rfl rfl rfl hS.t rfl rfl rfl (Nat.le_of_ble_eq_true rfl) (Nat.le_of_ble_eq_true rfl) (Nat.le_of_ble_eq_true rfl) (Nat.le_of_ble_eq_true rfl) (q_rCell hS (x := (nI l)) (y := (nI c)) (mCell_nI hS.tk.ok (by omega) (by omega))) ?_
  refine zn_iload_n (pc := 6) rfl rfl ?_
  refine zn_if_ltN (pc := 7) (tgt := 23) (x := q) rfl rfl (by omega) ?_
  refine zn_iload_n (pc := 10) rfl rfl ?_
  refine zn_aload_n (pc := 11) rfl rfl ?_
  refine zn_callVx (pc := 12) (J := zX9_cells) (o := 1) (as := []) (rest := [.int (nI q)]) rfl rfl rfl rfl hS.t rfl rfl rfl (Nat.le_of_ble_eq_true rfl) (Nat.le_of_ble_eq_true rfl) (Nat.le_of_ble_eq_true rfl) (Nat.le_of_ble_eq_true rfl) (q_cells hS) ?_
  refine zn_iload_n (pc := 15) rfl rfl ?_
  refine zn_iload_n (pc := 16) rfl rfl ?_
  refine zn_callVx (pc := 17) (J := zX1_length) (o := 11) (as := [.int (nI l), .int (nI c)]) (rest := [.int (nI q)]) rfl rfl rfl rfl hS.o11 rfl rfl rfl (Nat.le_of_ble_eq_true rfl) (Nat.le_of_ble_eq_true rfl) (Nat.le_of_ble_eq_true rfl) (Nat.le_of_ble_eq_true rfl) (c_length_10 hS.L.ok hS.L.c (l := l) (c := c) (by omega) (by omega)) ?_
  refine zn_icmp_ltN (pc := 20) (tgt := 34) (x := q) (y := (z (25 + 8 * l + c))) rfl rfl (by omega) (by omega) (fun c2 => ?_) (fun c2 => ?_)
  · refine zn_aload_n (pc := 34) rfl rfl ?_
    refine zn_iload_n (pc := 35) rfl rfl ?_
    refine zn_iload_n (pc := 36) rfl rfl ?_
    refine zn_iload_n (pc := 37) rfl rfl ?_
    refine zn_callVx (pc := 38) (J := zX9_signAt) (o := 1) (as := [.int (nI l), .int (nI c), .int (nI q)]) (rest := []) rfl rfl rfl rfl hS.t rfl rfl rfl (Nat.le_of_ble_eq_true rfl) (Nat.le_of_ble_eq_true rfl) (Nat.le_of_ble_eq_true rfl) (Nat.le_of_ble_eq_true rfl) (q_signAt hS (l := l) (c := c) (q := q) (by omega) (by omega) (by omega)) ?_
    exact zx_i (pc := 41) rfl rfl rfl rfl
  · exfalso; omega
theorem q_letter_1 {pf : Nat → Option Nat} {now p sz : Nat} {Z : Nat → Nat} (hS : ST hh F z A pf now p Z sz) {x y k : Int32} (hbad : ¬ mCell z x y) : Zt g zX9_letter [.ref 1, .int x, .int y, .int k] hh 2 := by
  show Zn g zX9_letter 0 [some (.ref 1), some (.int x), some (.int y), some (.int k)] [] hh 1 6 _
  refine zn_aload_n (pc := 0) rfl rfl ?_
  refine zn_iload_n (pc := 1) rfl rfl ?_
  refine zn_iload_n (pc := 2) rfl rfl ?_
  exact zn_callVt (pc := 3) (J := zX9_requireCell) (o := 1) (as := [.int x, .int y]) (rest := []) rfl rfl rfl rfl hS.t rfl rfl rfl (Nat.le_of_ble_eq_true rfl) (Nat.le_of_ble_eq_true rfl) (Nat.le_of_ble_eq_true rfl) (Nat.le_of_ble_eq_true rfl) (q_rCell_t hS (x := x) (y := y) hbad) ⟨rfl, rfl⟩
theorem q_letter_2 {pf : Nat → Option Nat} {now p sz : Nat} {Z : Nat → Nat} (hS : ST hh F z A pf now p Z sz) {l c : Nat} (hl : l < z 0) (hc : c < z (1 + l)) {k : Int32} (hk : ¬ zin k (z (25 + 8 * l + c))) : Zt g zX9_letter [.ref 1, .int (nI l), .int (nI c), .int k] hh 2 := by
  have h24 := hS.tk.ok.2.1
  have h01 := hS.tk.ok.1
  have h120 := hS.im
  have hnb := hS.nb
  have hszz := hS.s3
  have hur := hS.ur
  have hnw := hS.nw
  have h8 := (hS.tk.gl hl).2.1
  have h16 := hS.tk.ok.2.2.2 l c hl hc
  show Zn g zX9_letter 0 [some (.ref 1), some (.int (nI l)), some (.int (nI c)), some (.int k)] [] hh 1 6 _
  refine zn_aload_n (pc := 0) rfl rfl ?_
  refine zn_iload_n (pc := 1) rfl rfl ?_
  refine zn_iload_n (pc := 2) rfl rfl ?_
  refine zn_callVx (pc := 3) (J := zX9_requireCell) (o := 1) (as := [.int (nI l), .int (nI c)]) (rest := []) rfl rfl rfl rfl hS.t rfl rfl rfl (Nat.le_of_ble_eq_true rfl) (Nat.le_of_ble_eq_true rfl) (Nat.le_of_ble_eq_true rfl) (Nat.le_of_ble_eq_true rfl) (q_rCell hS (x := (nI l)) (y := (nI c)) (mCell_nI hS.tk.ok (by omega) (by omega))) ?_
  refine zn_iload_n (pc := 6) rfl rfl ?_
  refine zn_if_lt (pc := 7) (tgt := 23) (x := k) rfl rfl (fun c1 => ?_) (fun c1 => ?_)
  · have k0 := c1
    exact zn_throw (pc := 23) (E := 2) rfl (Nat.le_of_ble_eq_true rfl) (Nat.le_of_ble_eq_true rfl) ⟨rfl, rfl⟩
  · have k0 := c1
    refine zn_iload_n (pc := 10) rfl rfl ?_
    refine zn_aload_n (pc := 11) rfl rfl ?_
    refine zn_callVx (pc := 12) (J := zX9_cells) (o := 1) (as := []) (rest := [.int k]) rfl rfl rfl rfl hS.t rfl rfl rfl (Nat.le_of_ble_eq_true rfl) (Nat.le_of_ble_eq_true rfl) (Nat.le_of_ble_eq_true rfl) (Nat.le_of_ble_eq_true rfl) (q_cells hS) ?_
    refine zn_iload_n (pc := 15) rfl rfl ?_
    refine zn_iload_n (pc := 16) rfl rfl ?_
    refine zn_callVx (pc := 17) (J := zX1_length) (o := 11) (as := [.int (nI l), .int (nI c)]) (rest := [.int k]) rfl rfl rfl rfl hS.o11 rfl rfl rfl (Nat.le_of_ble_eq_true rfl) (Nat.le_of_ble_eq_true rfl) (Nat.le_of_ble_eq_true rfl) (Nat.le_of_ble_eq_true rfl) (c_length_10 hS.L.ok hS.L.c (l := l) (c := c) (by omega) (by omega)) ?_
    refine zn_icmp_lt (pc := 20) (tgt := 34) (x := k) (y := (nI (z (25 + 8 * l + c)))) rfl rfl (fun c2 => ?_) (fun c2 => ?_)
    · exact absurd (zin_mk (by omega) k0 (Int32.not_le.mpr c2)) hk
    · exact zn_throw (pc := 23) (E := 2) rfl (Nat.le_of_ble_eq_true rfl) (Nat.le_of_ble_eq_true rfl) ⟨rfl, rfl⟩
theorem q_hit  {pf : Nat → Option Nat} {now p sz : Nat} {Z : Nat → Nat} (hS : ST hh F z A pf now p Z sz) {l : Nat} (hl : l < z 0) {q : Nat} (hq : q < 2 ^ 31) : Zx g zX9_hit [.ref 1, .int (nI l), .int (nI q)] (hh) (some (.int (nI (mHt (pRR F z A) z (nbb z) l q (z (1 + l)))))) (hh) := by
  have h24 := hS.tk.ok.2.1
  have h01 := hS.tk.ok.1
  have h120 := hS.im
  have hnb := hS.nb
  have hszz := hS.s3
  have hur := hS.ur
  have hnw := hS.nw
  have h8 := (hS.tk.gl hl).2.1
  have hzl1 := (hS.tk.gl hl).1
  show Zn g zX9_hit 0 [some (.ref 1), some (.int (nI l)), some (.int (nI q))] [] (hh) 0 0 _
  refine zn_aload_n (pc := 0) rfl rfl ?_
  refine zn_iload_n (pc := 1) rfl rfl ?_
  refine zn_iload_n (pc := 2) rfl rfl ?_
  refine zn_callVx (pc := 3) (J := zX9_requireShownPlace) (o := 1) (as := [.int (nI l), .int (nI q)]) (rest := []) rfl rfl rfl rfl hS.t rfl rfl rfl (Nat.le_of_ble_eq_true rfl) (Nat.le_of_ble_eq_true rfl) (Nat.le_of_ble_eq_true rfl) (Nat.le_of_ble_eq_true rfl) (q_rSp hS (l := l) (q := q) (by omega) (by omega)) ?_
  refine zn_aload_n (pc := 6) rfl rfl ?_
  refine zn_get (pc := 7) (v := .ref 10) rfl hS.t rfl ?_
  refine zn_iload_n (pc := 10) rfl rfl ?_
  refine zn_iload_n (pc := 11) rfl rfl ?_
  refine zn_callVx (pc := 12) (J := zX5_cellAt) (o := 10) (as := [.int (nI l), .int (nI q)]) (rest := []) rfl rfl rfl rfl hS.lo rfl rfl rfl (Nat.le_of_ble_eq_true rfl) (Nat.le_of_ble_eq_true rfl) (Nat.le_of_ble_eq_true rfl) (Nat.le_of_ble_eq_true rfl) (c_cellAt hS.L (l := l) (by omega) (q := q) (by omega)) ?_
  exact zx_i (pc := 15) rfl rfl rfl rfl
theorem q_hit_1 {pf : Nat → Option Nat} {now p sz : Nat} {Z : Nat → Nat} (hS : ST hh F z A pf now p Z sz) {x y : Int32} (hbad : ¬ zin x (z 0)) : Zt g zX9_hit [.ref 1, .int x, .int y] hh 2 := by
  show Zn g zX9_hit 0 [some (.ref 1), some (.int x), some (.int y)] [] hh 1 6 _
  refine zn_aload_n (pc := 0) rfl rfl ?_
  refine zn_iload_n (pc := 1) rfl rfl ?_
  refine zn_iload_n (pc := 2) rfl rfl ?_
  exact zn_callVt (pc := 3) (J := zX9_requireShownPlace) (o := 1) (as := [.int x, .int y]) (rest := []) rfl rfl rfl rfl hS.t rfl rfl rfl (Nat.le_of_ble_eq_true rfl) (Nat.le_of_ble_eq_true rfl) (Nat.le_of_ble_eq_true rfl) (Nat.le_of_ble_eq_true rfl) (q_rSp_1 hS hbad) ⟨rfl, rfl⟩
theorem q_hit_2 {pf : Nat → Option Nat} {now p sz : Nat} {Z : Nat → Nat} (hS : ST hh F z A pf now p Z sz) {l : Nat} (hl : l < z 0) {y : Int32} (hy : y < 0) : Zt g zX9_hit [.ref 1, .int (nI l), .int y] hh 2 := by
  show Zn g zX9_hit 0 [some (.ref 1), some (.int (nI l)), some (.int y)] [] hh 1 6 _
  refine zn_aload_n (pc := 0) rfl rfl ?_
  refine zn_iload_n (pc := 1) rfl rfl ?_
  refine zn_iload_n (pc := 2) rfl rfl ?_
  exact zn_callVt (pc := 3) (J := zX9_requireShownPlace) (o := 1) (as := [.int (nI l), .int y]) (rest := []) rfl rfl rfl rfl hS.t rfl rfl rfl (Nat.le_of_ble_eq_true rfl) (Nat.le_of_ble_eq_true rfl) (Nat.le_of_ble_eq_true rfl) (Nat.le_of_ble_eq_true rfl) (q_rSp_2 hS hl hy) ⟨rfl, rfl⟩
theorem q_shown_1 {pf : Nat → Option Nat} {now p sz : Nat} {Z : Nat → Nat} (hS : ST hh F z A pf now p Z sz) {x y : Int32} (hbad : ¬ zin x (z 0)) : Zt g zX9_shown [.ref 1, .int x, .int y] hh 2 := by
  show Zn g zX9_shown 0 [some (.ref 1), some (.int x), some (.int y), none, none] [] hh 1 6 _
  refine zn_aload_n (pc := 0) rfl rfl ?_
  refine zn_iload_n (pc := 1) rfl rfl ?_
  refine zn_iload_n (pc := 2) rfl rfl ?_
  exact zn_callVt (pc := 3) (J := zX9_requireShownPlace) (o := 1) (as := [.int x, .int y]) (rest := []) rfl rfl rfl rfl hS.t rfl rfl rfl (Nat.le_of_ble_eq_true rfl) (Nat.le_of_ble_eq_true rfl) (Nat.le_of_ble_eq_true rfl) (Nat.le_of_ble_eq_true rfl) (q_rSp_1 hS hbad) ⟨rfl, rfl⟩
theorem q_shown_2 {pf : Nat → Option Nat} {now p sz : Nat} {Z : Nat → Nat} (hS : ST hh F z A pf now p Z sz) {l : Nat} (hl : l < z 0) {y : Int32} (hy : y < 0) : Zt g zX9_shown [.ref 1, .int (nI l), .int y] hh 2 := by
  show Zn g zX9_shown 0 [some (.ref 1), some (.int (nI l)), some (.int y), none, none] [] hh 1 6 _
  refine zn_aload_n (pc := 0) rfl rfl ?_
  refine zn_iload_n (pc := 1) rfl rfl ?_
  refine zn_iload_n (pc := 2) rfl rfl ?_
  exact zn_callVt (pc := 3) (J := zX9_requireShownPlace) (o := 1) (as := [.int (nI l), .int y]) (rest := []) rfl rfl rfl rfl hS.t rfl rfl rfl (Nat.le_of_ble_eq_true rfl) (Nat.le_of_ble_eq_true rfl) (Nat.le_of_ble_eq_true rfl) (Nat.le_of_ble_eq_true rfl) (q_rSp_2 hS hl hy) ⟨rfl, rfl⟩
def cAt (F z : Nat → Nat) (A : Nat → Nat → Nat) (l c q : Nat) : Int32 := nI q - nI (mX (pRR F z A) z (nbb z) l c) - mSh (fun _ => F 8) (pRR F z A) z l c (mOf (pRR F z A) z l c (nbb z))
theorem q_shown_a  {pf : Nat → Option Nat} {now p sz : Nat} {Z : Nat → Nat} (hS : ST hh F z A pf now p Z sz) {l : Nat} (hl : l < z 0) {q c : Nat} (hq : q < 2 ^ 31) (hc0 : mHt (pRR F z A) z (nbb z) l q (z (1 + l)) = c) (hc : c < z (1 + l)) {o : Nat} (he : cAt F z A l c q = nI o) (ho : o < z (25 + 8 * l + c)) : Zx g zX9_shown [.ref 1, .int (nI l), .int (nI q)] (hh) (some (.int (nI (z (217 + 16 * (8 * l + c) + o))))) (hh) := by
  have h24 := hS.tk.ok.2.1
  have h01 := hS.tk.ok.1
  have h120 := hS.im
  have hnb := hS.nb
  have hszz := hS.s3
  have hur := hS.ur
  have hnw := hS.nw
  have h8 := (hS.tk.gl hl).2.1
  have hzl1 := (hS.tk.gl hl).1
  have h16 := hS.tk.ok.2.2.2 l c hl hc
  show Zn g zX9_shown 0 [some (.ref 1), some (.int (nI l)), some (.int (nI q)), none, none] [] (hh) 0 0 _
  refine zn_aload_n (pc := 0) rfl rfl ?_
  refine zn_iload_n (pc := 1) rfl rfl ?_
  refine zn_iload_n (pc := 2) rfl rfl ?_
  refine zn_callVx (pc := 3) (J := zX9_requireShownPlace) (o := 1) (as := [.int (nI l), .int (nI q)]) (rest := []) rfl rfl rfl rfl hS.t rfl rfl rfl (Nat.le_of_ble_eq_true rfl) (Nat.le_of_ble_eq_true rfl) (Nat.le_of_ble_eq_true rfl) (Nat.le_of_ble_eq_true rfl) (q_rSp hS (l := l) (q := q) (by omega) (by omega)) ?_
  refine zn_aload_n (pc := 6) rfl rfl ?_
  refine zn_get (pc := 7) (v := .ref 10) rfl hS.t rfl ?_
  refine zn_iload_n (pc := 10) rfl rfl ?_
  refine zn_iload_n (pc := 11) rfl rfl ?_
  refine zn_callVx (pc := 12) (J := zX5_cellAt) (o := 10) (as := [.int (nI l), .int (nI q)]) (rest := []) rfl rfl rfl rfl hS.lo rfl rfl rfl (Nat.le_of_ble_eq_true rfl) (Nat.le_of_ble_eq_true rfl) (Nat.le_of_ble_eq_true rfl) (Nat.le_of_ble_eq_true rfl) (c_cellAt hS.L (l := l) (by omega) (q := q) (by omega)) ?_
  refine zn_top (v' := .int (nI c)) (by rw [hc0]) ?_
  refine zn_istore_n (pc := 15) (L' := [some (.ref 1), some (.int (nI l)), some (.int (nI q)), some (.int (nI c)), none]) rfl (by decide) rfl ?_
  refine zn_iload_n (pc := 16) rfl rfl ?_
  refine zn_aload_n (pc := 17) rfl rfl ?_
  refine zn_get (pc := 18) (v := .ref 10) rfl hS.t rfl ?_
  refine zn_iload_n (pc := 21) rfl rfl ?_
  refine zn_iload_n (pc := 22) rfl rfl ?_
  refine zn_callVx (pc := 23) (J := zX5_x) (o := 10) (as := [.int (nI l), .int (nI c)]) (rest := [.int (nI q)]) rfl rfl rfl rfl hS.lo rfl rfl rfl (Nat.le_of_ble_eq_true rfl) (Nat.le_of_ble_eq_true rfl) (Nat.le_of_ble_eq_true rfl) (Nat.le_of_ble_eq_true rfl) (c_x_10 hS.L (l := l) (c := c) (by omega) (by omega)) ?_
  refine zn_isub (pc := 26) rfl ?_
  refine zn_aload_n (pc := 27) rfl rfl ?_
  refine zn_get (pc := 28) (v := .ref 10) rfl hS.t rfl ?_
  refine zn_iload_n (pc := 31) rfl rfl ?_
  refine zn_iload_n (pc := 32) rfl rfl ?_
  refine zn_aload_n (pc := 33) rfl rfl ?_
  refine zn_get (pc := 34) (v := .ref 4) rfl hS.t rfl ?_
  refine zn_callVx (pc := 37) (J := zX5_shift) (o := 10) (as := [.int (nI l), .int (nI c), .ref 4]) (rest := [.int (nI q - nI (mX (pRR F z A) z (nbb z) l c))]) rfl rfl rfl rfl hS.lo rfl rfl rfl (Nat.le_of_ble_eq_true rfl) (Nat.le_of_ble_eq_true rfl) (Nat.le_of_ble_eq_true rfl) (Nat.le_of_ble_eq_true rfl) (c_shift hS.L (l := l) (c := c) (by omega) (by omega) hS.f4 hS.f5 hS.fo.2.2.1 hS.fo.2.2.2.1 hS.fo.2.2.2.2.1 hS.fo.2.2.2.2.2.1 hS.fo.2.2.2.2.2.2) ?_
  refine zn_isub (pc := 40) rfl ?_
  refine zn_top (v' := .int (nI o)) (by rw [← he]; rfl) ?_
  refine zn_istore (pc := 41) (L' := [some (.ref 1), some (.int (nI l)), some (.int (nI q)), some (.int (nI c)), some (.int (nI o))]) rfl (by decide) rfl ?_
  refine zn_iload (pc := 43) rfl rfl ?_
  refine zn_if_ltN (pc := 45) (tgt := 62) (x := o) rfl rfl (by omega) ?_
  refine zn_iload (pc := 48) rfl rfl ?_
  refine zn_aload_n (pc := 50) rfl rfl ?_
  refine zn_callVx (pc := 51) (J := zX9_cells) (o := 1) (as := []) (rest := [.int (nI o)]) rfl rfl rfl rfl hS.t rfl rfl rfl (Nat.le_of_ble_eq_true rfl) (Nat.le_of_ble_eq_true rfl) (Nat.le_of_ble_eq_true rfl) (Nat.le_of_ble_eq_true rfl) (q_cells hS) ?_
  refine zn_iload_n (pc := 54) rfl rfl ?_
  refine zn_iload_n (pc := 55) rfl rfl ?_
  refine zn_callVx (pc := 56) (J := zX1_length) (o := 11) (as := [.int (nI l), .int (nI c)]) (rest := [.int (nI o)]) rfl rfl rfl rfl hS.o11 rfl rfl rfl (Nat.le_of_ble_eq_true rfl) (Nat.le_of_ble_eq_true rfl) (Nat.le_of_ble_eq_true rfl) (Nat.le_of_ble_eq_true rfl) (c_length_10 hS.L.ok hS.L.c (l := l) (c := c) (by omega) (by omega)) ?_
  refine zn_icmp_ltN (pc := 59) (tgt := 65) (x := o) (y := (z (25 + 8 * l + c))) rfl rfl (by omega) (by omega) (fun c2 => ?_) (fun c2 => ?_)
  · refine zn_aload_n (pc := 65) rfl rfl ?_
    refine zn_iload_n (pc := 66) rfl rfl ?_
    refine zn_iload_n (pc := 67) rfl rfl ?_
    refine zn_iload (pc := 68) rfl rfl ?_
    refine zn_callVx (pc := 70) (J := zX9_signAt) (o := 1) (as := [.int (nI l), .int (nI c), .int (nI o)]) (rest := []) rfl rfl rfl rfl hS.t rfl rfl rfl (Nat.le_of_ble_eq_true rfl) (Nat.le_of_ble_eq_true rfl) (Nat.le_of_ble_eq_true rfl) (Nat.le_of_ble_eq_true rfl) (q_signAt hS (l := l) (c := c) (q := o) (by omega) (by omega) (by omega)) ?_
    exact zx_i (pc := 73) rfl rfl rfl rfl
  · exfalso; omega
theorem q_shown_b  {pf : Nat → Option Nat} {now p sz : Nat} {Z : Nat → Nat} (hS : ST hh F z A pf now p Z sz) {l : Nat} (hl : l < z 0) {q c : Nat} (hq : q < 2 ^ 31) (hc0 : mHt (pRR F z A) z (nbb z) l q (z (1 + l)) = c) (hc : c < z (1 + l)) (he : ¬ zin (cAt F z A l c q) (z (25 + 8 * l + c))) : Zx g zX9_shown [.ref 1, .int (nI l), .int (nI q)] (hh) (some (.int (nI 32))) (hh) := by
  have h24 := hS.tk.ok.2.1
  have h01 := hS.tk.ok.1
  have h120 := hS.im
  have hnb := hS.nb
  have hszz := hS.s3
  have hur := hS.ur
  have hnw := hS.nw
  have h8 := (hS.tk.gl hl).2.1
  have hzl1 := (hS.tk.gl hl).1
  have h16 := hS.tk.ok.2.2.2 l c hl hc
  show Zn g zX9_shown 0 [some (.ref 1), some (.int (nI l)), some (.int (nI q)), none, none] [] (hh) 0 0 _
  refine zn_aload_n (pc := 0) rfl rfl ?_
  refine zn_iload_n (pc := 1) rfl rfl ?_
  refine zn_iload_n (pc := 2) rfl rfl ?_
  refine zn_callVx (pc := 3) (J := zX9_requireShownPlace) (o := 1) (as := [.int (nI l), .int (nI q)]) (rest := []) rfl rfl rfl rfl hS.t rfl rfl rfl (Nat.le_of_ble_eq_true rfl) (Nat.le_of_ble_eq_true rfl) (Nat.le_of_ble_eq_true rfl) (Nat.le_of_ble_eq_true rfl) (q_rSp hS (l := l) (q := q) (by omega) (by omega)) ?_
  refine zn_aload_n (pc := 6) rfl rfl ?_
  refine zn_get (pc := 7) (v := .ref 10) rfl hS.t rfl ?_
  refine zn_iload_n (pc := 10) rfl rfl ?_
  refine zn_iload_n (pc := 11) rfl rfl ?_
  refine zn_callVx (pc := 12) (J := zX5_cellAt) (o := 10) (as := [.int (nI l), .int (nI q)]) (rest := []) rfl rfl rfl rfl hS.lo rfl rfl rfl (Nat.le_of_ble_eq_true rfl) (Nat.le_of_ble_eq_true rfl) (Nat.le_of_ble_eq_true rfl) (Nat.le_of_ble_eq_true rfl) (c_cellAt hS.L (l := l) (by omega) (q := q) (by omega)) ?_
  refine zn_top (v' := .int (nI c)) (by rw [hc0]) ?_
  refine zn_istore_n (pc := 15) (L' := [some (.ref 1), some (.int (nI l)), some (.int (nI q)), some (.int (nI c)), none]) rfl (by decide) rfl ?_
  refine zn_iload_n (pc := 16) rfl rfl ?_
  refine zn_aload_n (pc := 17) rfl rfl ?_
  refine zn_get (pc := 18) (v := .ref 10) rfl hS.t rfl ?_
  refine zn_iload_n (pc := 21) rfl rfl ?_
  refine zn_iload_n (pc := 22) rfl rfl ?_
  refine zn_callVx (pc := 23) (J := zX5_x) (o := 10) (as := [.int (nI l), .int (nI c)]) (rest := [.int (nI q)]) rfl rfl rfl rfl hS.lo rfl rfl rfl (Nat.le_of_ble_eq_true rfl) (Nat.le_of_ble_eq_true rfl) (Nat.le_of_ble_eq_true rfl) (Nat.le_of_ble_eq_true rfl) (c_x_10 hS.L (l := l) (c := c) (by omega) (by omega)) ?_
  refine zn_isub (pc := 26) rfl ?_
  refine zn_aload_n (pc := 27) rfl rfl ?_
  refine zn_get (pc := 28) (v := .ref 10) rfl hS.t rfl ?_
  refine zn_iload_n (pc := 31) rfl rfl ?_
  refine zn_iload_n (pc := 32) rfl rfl ?_
  refine zn_aload_n (pc := 33) rfl rfl ?_
  refine zn_get (pc := 34) (v := .ref 4) rfl hS.t rfl ?_
  refine zn_callVx (pc := 37) (J := zX5_shift) (o := 10) (as := [.int (nI l), .int (nI c), .ref 4]) (rest := [.int (nI q - nI (mX (pRR F z A) z (nbb z) l c))]) rfl rfl rfl rfl hS.lo rfl rfl rfl (Nat.le_of_ble_eq_true rfl) (Nat.le_of_ble_eq_true rfl) (Nat.le_of_ble_eq_true rfl) (Nat.le_of_ble_eq_true rfl) (c_shift hS.L (l := l) (c := c) (by omega) (by omega) hS.f4 hS.f5 hS.fo.2.2.1 hS.fo.2.2.2.1 hS.fo.2.2.2.2.1 hS.fo.2.2.2.2.2.1 hS.fo.2.2.2.2.2.2) ?_
  refine zn_isub (pc := 40) rfl ?_
  refine zn_top (v' := .int (cAt F z A l c q)) rfl ?_
  refine zn_istore (pc := 41) (L' := [some (.ref 1), some (.int (nI l)), some (.int (nI q)), some (.int (nI c)), some (.int (cAt F z A l c q))]) rfl (by decide) rfl ?_
  refine zn_iload (pc := 43) rfl rfl ?_
  refine zn_if_lt (pc := 45) (tgt := 62) (x := (cAt F z A l c q)) rfl rfl (fun c1 => ?_) (fun c1 => ?_)
  · have k0 := c1
    refine zn_bipushN (pc := 62) 32 rfl rfl ?_
    exact zx_i (pc := 64) rfl rfl rfl rfl
  · have k0 := c1
    refine zn_iload (pc := 48) rfl rfl ?_
    refine zn_aload_n (pc := 50) rfl rfl ?_
    refine zn_callVx (pc := 51) (J := zX9_cells) (o := 1) (as := []) (rest := [.int (cAt F z A l c q)]) rfl rfl rfl rfl hS.t rfl rfl rfl (Nat.le_of_ble_eq_true rfl) (Nat.le_of_ble_eq_true rfl) (Nat.le_of_ble_eq_true rfl) (Nat.le_of_ble_eq_true rfl) (q_cells hS) ?_
    refine zn_iload_n (pc := 54) rfl rfl ?_
    refine zn_iload_n (pc := 55) rfl rfl ?_
    refine zn_callVx (pc := 56) (J := zX1_length) (o := 11) (as := [.int (nI l), .int (nI c)]) (rest := [.int (cAt F z A l c q)]) rfl rfl rfl rfl hS.o11 rfl rfl rfl (Nat.le_of_ble_eq_true rfl) (Nat.le_of_ble_eq_true rfl) (Nat.le_of_ble_eq_true rfl) (Nat.le_of_ble_eq_true rfl) (c_length_10 hS.L.ok hS.L.c (l := l) (c := c) (by omega) (by omega)) ?_
    refine zn_icmp_lt (pc := 59) (tgt := 65) (x := (cAt F z A l c q)) (y := (nI (z (25 + 8 * l + c)))) rfl rfl (fun c2 => ?_) (fun c2 => ?_)
    · exact absurd (zin_mk (by omega) k0 (Int32.not_le.mpr c2)) he
    · refine zn_bipushN (pc := 62) 32 rfl rfl ?_
      exact zx_i (pc := 64) rfl rfl rfl rfl
theorem q_block  {pf : Nat → Option Nat} {now p sz : Nat} {Z : Nat → Nat} (hS : ST hh F z A pf now p Z sz) {b : Nat} (hb : b < nbb z) {k : Nat} (hk : k ≤ 7) : Zx g zX9_block [.ref 1, .int (nI b), .int (nI k)] (hh) (some (.int (nI (mBn (pRR F z A) z b (pRR F z A 6 b) (pRR F z A 7 b) (pRR F z A 8 b) k)))) (hh) := by
  have h24 := hS.tk.ok.2.1
  have h01 := hS.tk.ok.1
  have h120 := hS.im
  have hnb := hS.nb
  have hszz := hS.s3
  have hur := hS.ur
  have hnw := hS.nw
  show Zn g zX9_block 0 [some (.ref 1), some (.int (nI b)), some (.int (nI k))] [] (hh) 0 0 _
  refine zn_aload_n (pc := 0) rfl rfl ?_
  refine zn_iload_n (pc := 1) rfl rfl ?_
  refine zn_callVx (pc := 2) (J := zX9_requireBlock) (o := 1) (as := [.int (nI b)]) (rest := []) rfl rfl rfl rfl hS.t rfl rfl rfl (Nat.le_of_ble_eq_true rfl) (Nat.le_of_ble_eq_true rfl) (Nat.le_of_ble_eq_true rfl) (Nat.le_of_ble_eq_true rfl) (q_rBlk hS (b := b) (by omega)) ?_
  refine zn_iload_n (pc := 5) rfl rfl ?_
  refine zn_if_ltN (pc := 6) (tgt := 15) (x := k) rfl rfl (by omega) ?_
  refine zn_iload_n (pc := 9) rfl rfl ?_
  refine zn_bipushN (pc := 10) 7 rfl rfl ?_
  refine zn_icmp_leN (pc := 12) (tgt := 25) (x := k) (y := 7) rfl rfl (by omega) (by omega) (fun c2 => ?_) (fun c2 => ?_)
  · refine zn_aload_n (pc := 25) rfl rfl ?_
    refine zn_get (pc := 26) (v := .ref 10) rfl hS.t rfl ?_
    refine zn_get (pc := 29) (v := .ref 18) rfl hS.lo rfl ?_
    refine zn_iload_n (pc := 32) rfl rfl ?_
    refine zn_iload_n (pc := 33) rfl rfl ?_
    refine zn_callVx (pc := 34) (J := zX0_fact) (o := 18) (as := [.int (nI b), .int (nI k)]) (rest := []) rfl rfl rfl rfl hS.o18 rfl rfl rfl (Nat.le_of_ble_eq_true rfl) (Nat.le_of_ble_eq_true rfl) (Nat.le_of_ble_eq_true rfl) (Nat.le_of_ble_eq_true rfl) (c_fact hS.L (b := b) (by omega) (k := k) (by omega)) ?_
    exact zx_i (pc := 37) rfl rfl rfl rfl
  · exfalso; omega
theorem q_block_1 {pf : Nat → Option Nat} {now p sz : Nat} {Z : Nat → Nat} (hS : ST hh F z A pf now p Z sz) {x y : Int32} (hbad : ¬ zin x (nbb z)) : Zt g zX9_block [.ref 1, .int x, .int y] hh 2 := by
  show Zn g zX9_block 0 [some (.ref 1), some (.int x), some (.int y)] [] hh 1 6 _
  refine zn_aload_n (pc := 0) rfl rfl ?_
  refine zn_iload_n (pc := 1) rfl rfl ?_
  exact zn_callVt (pc := 2) (J := zX9_requireBlock) (o := 1) (as := [.int x]) (rest := []) rfl rfl rfl rfl hS.t rfl rfl rfl (Nat.le_of_ble_eq_true rfl) (Nat.le_of_ble_eq_true rfl) (Nat.le_of_ble_eq_true rfl) (Nat.le_of_ble_eq_true rfl) (q_rBlk_t hS hbad) ⟨rfl, rfl⟩
theorem q_block_2 {pf : Nat → Option Nat} {now p sz : Nat} {Z : Nat → Nat} (hS : ST hh F z A pf now p Z sz) {b : Nat} (hb : b < nbb z) {y : Int32} (hy : ¬ (nI 0 ≤ y ∧ y ≤ nI 7)) : Zt g zX9_block [.ref 1, .int (nI b), .int y] hh 0 := by
  have h24 := hS.tk.ok.2.1
  have h01 := hS.tk.ok.1
  have h120 := hS.im
  have hnb := hS.nb
  have hszz := hS.s3
  have hur := hS.ur
  have hnw := hS.nw
  show Zn g zX9_block 0 [some (.ref 1), some (.int (nI b)), some (.int y)] [] hh 1 6 _
  refine zn_aload_n (pc := 0) rfl rfl ?_
  refine zn_iload_n (pc := 1) rfl rfl ?_
  refine zn_callVx (pc := 2) (J := zX9_requireBlock) (o := 1) (as := [.int (nI b)]) (rest := []) rfl rfl rfl rfl hS.t rfl rfl rfl (Nat.le_of_ble_eq_true rfl) (Nat.le_of_ble_eq_true rfl) (Nat.le_of_ble_eq_true rfl) (Nat.le_of_ble_eq_true rfl) (q_rBlk hS (b := b) (by omega)) ?_
  refine zn_iload_n (pc := 5) rfl rfl ?_
  refine zn_if_lt (pc := 6) (tgt := 15) (x := y) rfl rfl (fun c1 => ?_) (fun c1 => ?_)
  · have k0 := c1
    exact zn_throw (pc := 15) (E := 0) rfl (Nat.le_of_ble_eq_true rfl) (Nat.le_of_ble_eq_true rfl) ⟨rfl, rfl⟩
  · have k0 := c1
    refine zn_iload_n (pc := 9) rfl rfl ?_
    refine zn_bipushN (pc := 10) 7 rfl rfl ?_
    refine zn_icmp_le (pc := 12) (tgt := 25) (x := y) (y := (nI 7)) rfl rfl (fun c2 => ?_) (fun c2 => ?_)
    · exact absurd ⟨i_nn k0, c2⟩ hy
    · exact zn_throw (pc := 15) (E := 0) rfl (Nat.le_of_ble_eq_true rfl) (Nat.le_of_ble_eq_true rfl) ⟨rfl, rfl⟩
theorem q_sum  {pf : Nat → Option Nat} {now p sz : Nat} {Z : Nat → Nat} (hS : ST hh F z A pf now p Z sz) {b : Nat} (hb : b < nbb z) : Zx g zX9_sum [.ref 1, .int (nI b)] (hh) (some (.long (bSum z (pRR F z A 6 b) (pRR F z A 7 b) (pRR F z A 8 b)))) (hh) := by
  have h24 := hS.tk.ok.2.1
  have h01 := hS.tk.ok.1
  have h120 := hS.im
  have hnb := hS.nb
  have hszz := hS.s3
  have hur := hS.ur
  have hnw := hS.nw
  show Zn g zX9_sum 0 [some (.ref 1), some (.int (nI b))] [] (hh) 0 0 _
  refine zn_aload_n (pc := 0) rfl rfl ?_
  refine zn_iload_n (pc := 1) rfl rfl ?_
  refine zn_callVx (pc := 2) (J := zX9_requireBlock) (o := 1) (as := [.int (nI b)]) (rest := []) rfl rfl rfl rfl hS.t rfl rfl rfl (Nat.le_of_ble_eq_true rfl) (Nat.le_of_ble_eq_true rfl) (Nat.le_of_ble_eq_true rfl) (Nat.le_of_ble_eq_true rfl) (q_rBlk hS (b := b) (by omega)) ?_
  refine zn_aload_n (pc := 5) rfl rfl ?_
  refine zn_get (pc := 6) (v := .ref 10) rfl hS.t rfl ?_
  refine zn_get (pc := 9) (v := .ref 18) rfl hS.lo rfl ?_
  refine zn_iload_n (pc := 12) rfl rfl ?_
  refine zn_callVx (pc := 13) (J := zX0_total) (o := 18) (as := [.int (nI b)]) (rest := []) rfl rfl rfl rfl hS.o18 rfl rfl rfl (Nat.le_of_ble_eq_true rfl) (Nat.le_of_ble_eq_true rfl) (Nat.le_of_ble_eq_true rfl) (Nat.le_of_ble_eq_true rfl) (c_total_10b hS.L.b hS.nb (b := b) (by omega)) ?_
  exact zx_l (pc := 16) rfl rfl rfl rfl
theorem q_sum_1 {pf : Nat → Option Nat} {now p sz : Nat} {Z : Nat → Nat} (hS : ST hh F z A pf now p Z sz) {x : Int32} (hbad : ¬ zin x (nbb z)) : Zt g zX9_sum [.ref 1, .int x] hh 2 := by
  show Zn g zX9_sum 0 [some (.ref 1), some (.int x)] [] hh 1 6 _
  refine zn_aload_n (pc := 0) rfl rfl ?_
  refine zn_iload_n (pc := 1) rfl rfl ?_
  exact zn_callVt (pc := 2) (J := zX9_requireBlock) (o := 1) (as := [.int x]) (rest := []) rfl rfl rfl rfl hS.t rfl rfl rfl (Nat.le_of_ble_eq_true rfl) (Nat.le_of_ble_eq_true rfl) (Nat.le_of_ble_eq_true rfl) (Nat.le_of_ble_eq_true rfl) (q_rBlk_t hS hbad) ⟨rfl, rfl⟩
theorem q_mean_n  {pf : Nat → Option Nat} {now p sz : Nat} {Z : Nat → Nat} (hS : ST hh F z A pf now p Z sz) {b : Nat} (hb : b < nbb z) (h0 : bNum (mK z (pRR F z A 6 b)) (pRR F z A 8 b + 1 - pRR F z A 7 b) (pRR F z A 7 b) = 0) : Zx g zX9_mean [.ref 1, .int (nI b)] (hh) (some (.double FP.dconst0)) (hh) := by
  have h24 := hS.tk.ok.2.1
  have h01 := hS.tk.ok.1
  have h120 := hS.im
  have hnb := hS.nb
  have hszz := hS.s3
  have hur := hS.ur
  have hnw := hS.nw
  have hnm : bNum (mK z (pRR F z A 6 b)) (pRR F z A 8 b + 1 - pRR F z A 7 b) (pRR F z A 7 b) ≤ 24 := by have q1 := bNum_le (mK z (pRR F z A 6 b)) (pRR F z A 8 b + 1 - pRR F z A 7 b) (pRR F z A 7 b); have q2 := (hS.L.r.blk b hb).1; obtain ⟨-, q3, q4, q5, -⟩ := q2; omega
  show Zn g zX9_mean 0 [some (.ref 1), some (.int (nI b)), none] [] (hh) 0 0 _
  refine zn_aload_n (pc := 0) rfl rfl ?_
  refine zn_iload_n (pc := 1) rfl rfl ?_
  refine zn_callVx (pc := 2) (J := zX9_requireBlock) (o := 1) (as := [.int (nI b)]) (rest := []) rfl rfl rfl rfl hS.t rfl rfl rfl (Nat.le_of_ble_eq_true rfl) (Nat.le_of_ble_eq_true rfl) (Nat.le_of_ble_eq_true rfl) (Nat.le_of_ble_eq_true rfl) (q_rBlk hS (b := b) (by omega)) ?_
  refine zn_aload_n (pc := 5) rfl rfl ?_
  refine zn_get (pc := 6) (v := .ref 10) rfl hS.t rfl ?_
  refine zn_get (pc := 9) (v := .ref 18) rfl hS.lo rfl ?_
  refine zn_iload_n (pc := 12) rfl rfl ?_
  refine zn_callVx (pc := 13) (J := zX0_numbers) (o := 18) (as := [.int (nI b)]) (rest := []) rfl rfl rfl rfl hS.o18 rfl rfl rfl (Nat.le_of_ble_eq_true rfl) (Nat.le_of_ble_eq_true rfl) (Nat.le_of_ble_eq_true rfl) (Nat.le_of_ble_eq_true rfl) (c_numbers_10b hS.L.b hS.nb (b := b) (by omega)) ?_
  refine zn_istore_n (pc := 16) (L' := [some (.ref 1), some (.int (nI b)), some (.int (nI (bNum (mK z (pRR F z A 6 b)) (pRR F z A 8 b + 1 - pRR F z A 7 b) (pRR F z A 7 b))))]) rfl (by decide) rfl ?_
  refine zn_iload_n (pc := 17) rfl rfl ?_
  refine zn_if_gtN (pc := 18) (tgt := 23) (x := (bNum (mK z (pRR F z A 6 b)) (pRR F z A 8 b + 1 - pRR F z A 7 b) (pRR F z A 7 b))) rfl rfl (by omega) (fun c1 => ?_) (fun c1 => ?_)
  · exfalso; omega
  · refine zn_dconst0 (pc := 21) rfl ?_
    exact zx_d (pc := 22) rfl rfl rfl rfl
theorem q_mean  {pf : Nat → Option Nat} {now p sz : Nat} {Z : Nat → Nat} (hS : ST hh F z A pf now p Z sz) {b : Nat} (hb : b < nbb z) (h0 : 0 < bNum (mK z (pRR F z A 6 b)) (pRR F z A 8 b + 1 - pRR F z A 7 b) (pRR F z A 7 b)) (hnan : vf_n64 (FP.ddiv (FP.l2d (bSum z (pRR F z A 6 b) (pRR F z A 7 b) (pRR F z A 8 b))) (FP.i2d (nI (10000 * (bNum (mK z (pRR F z A 6 b)) (pRR F z A 8 b + 1 - pRR F z A 7 b) (pRR F z A 7 b))))))) : Zx g zX9_mean [.ref 1, .int (nI b)] (hh) (some (.double (FP.ddiv (FP.l2d (bSum z (pRR F z A 6 b) (pRR F z A 7 b) (pRR F z A 8 b))) (FP.i2d (nI (10000 * (bNum (mK z (pRR F z A 6 b)) (pRR F z A 8 b + 1 - pRR F z A 7 b) (pRR F z A 7 b)))))))) (hh) := by
  have h24 := hS.tk.ok.2.1
  have h01 := hS.tk.ok.1
  have h120 := hS.im
  have hnb := hS.nb
  have hszz := hS.s3
  have hur := hS.ur
  have hnw := hS.nw
  have hnm : bNum (mK z (pRR F z A 6 b)) (pRR F z A 8 b + 1 - pRR F z A 7 b) (pRR F z A 7 b) ≤ 24 := by have q1 := bNum_le (mK z (pRR F z A 6 b)) (pRR F z A 8 b + 1 - pRR F z A 7 b) (pRR F z A 7 b); have q2 := (hS.L.r.blk b hb).1; obtain ⟨-, q3, q4, q5, -⟩ := q2; omega
  show Zn g zX9_mean 0 [some (.ref 1), some (.int (nI b)), none] [] (hh) 0 0 _
  refine zn_aload_n (pc := 0) rfl rfl ?_
  refine zn_iload_n (pc := 1) rfl rfl ?_
  refine zn_callVx (pc := 2) (J := zX9_requireBlock) (o := 1) (as := [.int (nI b)]) (rest := []) rfl rfl rfl rfl hS.t rfl rfl rfl (Nat.le_of_ble_eq_true rfl) (Nat.le_of_ble_eq_true rfl) (Nat.le_of_ble_eq_true rfl) (Nat.le_of_ble_eq_true rfl) (q_rBlk hS (b := b) (by omega)) ?_
  refine zn_aload_n (pc := 5) rfl rfl ?_
  refine zn_get (pc := 6) (v := .ref 10) rfl hS.t rfl ?_
  refine zn_get (pc := 9) (v := .ref 18) rfl hS.lo rfl ?_
  refine zn_iload_n (pc := 12) rfl rfl ?_
  refine zn_callVx (pc := 13) (J := zX0_numbers) (o := 18) (as := [.int (nI b)]) (rest := []) rfl rfl rfl rfl hS.o18 rfl rfl rfl (Nat.le_of_ble_eq_true rfl) (Nat.le_of_ble_eq_true rfl) (Nat.le_of_ble_eq_true rfl) (Nat.le_of_ble_eq_true rfl) (c_numbers_10b hS.L.b hS.nb (b := b) (by omega)) ?_
  refine zn_istore_n (pc := 16) (L' := [some (.ref 1), some (.int (nI b)), some (.int (nI (bNum (mK z (pRR F z A 6 b)) (pRR F z A 8 b + 1 - pRR F z A 7 b) (pRR F z A 7 b))))]) rfl (by decide) rfl ?_
  refine zn_iload_n (pc := 17) rfl rfl ?_
  refine zn_if_gtN (pc := 18) (tgt := 23) (x := (bNum (mK z (pRR F z A 6 b)) (pRR F z A 8 b + 1 - pRR F z A 7 b) (pRR F z A 7 b))) rfl rfl (by omega) (fun c1 => ?_) (fun c1 => ?_)
  · refine zn_aload_n (pc := 23) rfl rfl ?_
    refine zn_get (pc := 24) (v := .ref 10) rfl hS.t rfl ?_
    refine zn_get (pc := 27) (v := .ref 18) rfl hS.lo rfl ?_
    refine zn_iload_n (pc := 30) rfl rfl ?_
    refine zn_callVx (pc := 31) (J := zX0_total) (o := 18) (as := [.int (nI b)]) (rest := []) rfl rfl rfl rfl hS.o18 rfl rfl rfl (Nat.le_of_ble_eq_true rfl) (Nat.le_of_ble_eq_true rfl) (Nat.le_of_ble_eq_true rfl) (Nat.le_of_ble_eq_true rfl) (c_total_10b hS.L.b hS.nb (b := b) (by omega)) ?_
    refine zn_l2d (pc := 34) rfl ?_
    refine zn_sipushN (pc := 35) 10000 rfl rfl ?_
    refine zn_iload_n (pc := 38) rfl rfl ?_
    refine zn_imulN (pc := 39) (x := 10000) (y := (bNum (mK z (pRR F z A 6 b)) (pRR F z A 8 b + 1 - pRR F z A 7 b) (pRR F z A 7 b))) rfl ?_
    refine zn_i2d (pc := 40) rfl ?_
    refine zn_ddiv (pc := 41) rfl hnan ?_
    exact zx_d (pc := 42) rfl rfl rfl rfl
  · exfalso; omega
theorem q_mean_1 {pf : Nat → Option Nat} {now p sz : Nat} {Z : Nat → Nat} (hS : ST hh F z A pf now p Z sz) {x : Int32} (hbad : ¬ zin x (nbb z)) : Zt g zX9_mean [.ref 1, .int x] hh 2 := by
  show Zn g zX9_mean 0 [some (.ref 1), some (.int x), none] [] hh 1 6 _
  refine zn_aload_n (pc := 0) rfl rfl ?_
  refine zn_iload_n (pc := 1) rfl rfl ?_
  exact zn_callVt (pc := 2) (J := zX9_requireBlock) (o := 1) (as := [.int x]) (rest := []) rfl rfl rfl rfl hS.t rfl rfl rfl (Nat.le_of_ble_eq_true rfl) (Nat.le_of_ble_eq_true rfl) (Nat.le_of_ble_eq_true rfl) (Nat.le_of_ble_eq_true rfl) (q_rBlk_t hS hbad) ⟨rfl, rfl⟩
theorem q_touched  {pf : Nat → Option Nat} {now p sz : Nat} {Z : Nat → Nat} (hS : ST hh F z A pf now p Z sz) {l : Nat} (hl : l < z 0) : Zx g zX9_touched [.ref 1, .int (nI l)] (hh) (some (.int (nI (bTc (pRR F z A) l (nbb z))))) (hh) := by
  have h24 := hS.tk.ok.2.1
  have h01 := hS.tk.ok.1
  have h120 := hS.im
  have hnb := hS.nb
  have hszz := hS.s3
  have hur := hS.ur
  have hnw := hS.nw
  have h8 := (hS.tk.gl hl).2.1
  have hzl1 := (hS.tk.gl hl).1
  show Zn g zX9_touched 0 [some (.ref 1), some (.int (nI l))] [] (hh) 0 0 _
  refine zn_aload_n (pc := 0) rfl rfl ?_
  refine zn_iload_n (pc := 1) rfl rfl ?_
  refine zn_callVx (pc := 2) (J := zX9_requireLine) (o := 1) (as := [.int (nI l)]) (rest := []) rfl rfl rfl rfl hS.t rfl rfl rfl (Nat.le_of_ble_eq_true rfl) (Nat.le_of_ble_eq_true rfl) (Nat.le_of_ble_eq_true rfl) (Nat.le_of_ble_eq_true rfl) (q_rLine hS (x := (nI l)) ((zin_nI (by omega)).mpr (by omega))) ?_
  refine zn_aload_n (pc := 5) rfl rfl ?_
  refine zn_get (pc := 6) (v := .ref 10) rfl hS.t rfl ?_
  refine zn_get (pc := 9) (v := .ref 18) rfl hS.lo rfl ?_
  refine zn_iload_n (pc := 12) rfl rfl ?_
  refine zn_iconstN (pc := 13) 1 rfl rfl ?_
  refine zn_isub (pc := 14) rfl ?_
  refine zn_iload_n (pc := 15) rfl rfl ?_
  refine zn_iconstN (pc := 16) 1 rfl rfl ?_
  refine zn_iaddN (pc := 17) (x := l) (y := 1) rfl ?_
  refine zn_callVx (pc := 18) (J := zX0_countBetween) (o := 18) (as := [.int (nI l - 1), .int (nI (l + 1))]) (rest := []) rfl rfl rfl rfl hS.o18 rfl rfl rfl (Nat.le_of_ble_eq_true rfl) (Nat.le_of_ble_eq_true rfl) (Nat.le_of_ble_eq_true rfl) (Nat.le_of_ble_eq_true rfl) (c_countBetween hS.L (l := l) (by omega)) ?_
  exact zx_i (pc := 21) rfl rfl rfl rfl
theorem q_touched_1 {pf : Nat → Option Nat} {now p sz : Nat} {Z : Nat → Nat} (hS : ST hh F z A pf now p Z sz) {x : Int32} (hbad : ¬ zin x (z 0)) : Zt g zX9_touched [.ref 1, .int x] hh 2 := by
  show Zn g zX9_touched 0 [some (.ref 1), some (.int x)] [] hh 1 6 _
  refine zn_aload_n (pc := 0) rfl rfl ?_
  refine zn_iload_n (pc := 1) rfl rfl ?_
  exact zn_callVt (pc := 2) (J := zX9_requireLine) (o := 1) (as := [.int x]) (rest := []) rfl rfl rfl rfl hS.t rfl rfl rfl (Nat.le_of_ble_eq_true rfl) (Nat.le_of_ble_eq_true rfl) (Nat.le_of_ble_eq_true rfl) (Nat.le_of_ble_eq_true rfl) (q_rLine_t hS (x := x) hbad) ⟨rfl, rfl⟩
theorem q_iadd {pf : Nat → Option Nat} {now p sz : Nat} {Z : Nat → Nat} (hS : ST hh F z A pf now p Z sz) {x : Nat} (hs : F 11 < 120) : Zx g zX4_add [.ref 2, .int (nI x)] hh (some (.int (nI (F 11 + 1)))) (pgs hh 4 120 2 3 (va_up (A 5) (F 11) x) (F 11 + 1)) := by
  have r := c_iadd (g := g) (h := hh) (x := x) hS.im hS.ib hs
  rwa [pgs_self hS.i2 hS.i3] at r
theorem q_iempty {pf : Nat → Option Nat} {now p sz : Nat} {Z : Nat → Nat} (hS : ST hh F z A pf now p Z sz) : Zx g zX4_empty [.ref 2] hh (some (.int (nI (F 11)))) (pgs hh 4 120 2 3 (A 5) 0) := by
  have r := c_empty (g := g) (h := hh) (m := F 11) (Bf := A 5)
  rwa [pgs_self hS.i2 hS.i3] at r
theorem q_append  {pf : Nat → Option Nat} {now p sz : Nat} {Z : Nat → Nat} (hS : ST hh F z A pf now p Z sz) {x : Nat} (hx : 32 ≤ x ∧ x ≤ 126) (hs : F 11 < 120) : Zx g zX9_append [.ref 1, .int (nI x)] (hh) (some (.int (nI (F 11 + 1)))) (pgs hh 4 120 2 3 (va_up (A 5) (F 11) x) (F 11 + 1)) := by
  have h24 := hS.tk.ok.2.1
  have h01 := hS.tk.ok.1
  have h120 := hS.im
  have hnb := hS.nb
  have hszz := hS.s3
  have hur := hS.ur
  have hnw := hS.nw
  show Zn g zX9_append 0 [some (.ref 1), some (.int (nI x))] [] (hh) 0 0 _
  refine zn_iload_n (pc := 0) rfl rfl ?_
  refine zn_bipushN (pc := 1) 32 rfl rfl ?_
  refine zn_icmp_ltN (pc := 3) (tgt := 12) (x := x) (y := 32) rfl rfl (by omega) (by omega) (fun c1 => ?_) (fun c1 => ?_)
  · exfalso; omega
  · refine zn_iload_n (pc := 6) rfl rfl ?_
    refine zn_bipushN (pc := 7) 126 rfl rfl ?_
    refine zn_icmp_leN (pc := 9) (tgt := 22) (x := x) (y := 126) rfl rfl (by omega) (by omega) (fun c2 => ?_) (fun c2 => ?_)
    · refine zn_aload_n (pc := 22) rfl rfl ?_
      refine zn_get (pc := 23) (v := .ref 2) rfl hS.t rfl ?_
      refine zn_callVx (pc := 26) (J := zX4_isFull) (o := 2) (as := []) (rest := []) rfl rfl rfl rfl hS.i2 rfl rfl rfl (Nat.le_of_ble_eq_true rfl) (Nat.le_of_ble_eq_true rfl) (Nat.le_of_ble_eq_true rfl) (Nat.le_of_ble_eq_true rfl) (c_isFull hS.im hS.ib hS.i2 hS.i3) ?_
      refine zn_if_eqB (pc := 29) (tgt := 42) rfl rfl (fun c3 => ?_) (fun c3 => ?_)
      · refine zn_aload_n (pc := 42) rfl rfl ?_
        refine zn_get (pc := 43) (v := .ref 2) rfl hS.t rfl ?_
        refine zn_iload_n (pc := 46) rfl rfl ?_
        refine zn_callVx (pc := 47) (J := zX4_add) (o := 2) (as := [.int (nI x)]) (rest := []) rfl rfl rfl rfl hS.i2 rfl rfl rfl (Nat.le_of_ble_eq_true rfl) (Nat.le_of_ble_eq_true rfl) (Nat.le_of_ble_eq_true rfl) (Nat.le_of_ble_eq_true rfl) (q_iadd hS (x := x) (by omega)) ?_
        exact zx_i (pc := 50) rfl rfl rfl rfl
      · exact absurd c3 (by omega)
    · exfalso; omega
theorem q_append_1 {pf : Nat → Option Nat} {now p sz : Nat} {Z : Nat → Nat} (hS : ST hh F z A pf now p Z sz) {x : Int32} (hx : ¬ (nI 32 ≤ x ∧ x ≤ nI 126)) : Zt g zX9_append [.ref 1, .int x] hh 0 := by
  have h24 := hS.tk.ok.2.1
  have h01 := hS.tk.ok.1
  have h120 := hS.im
  have hnb := hS.nb
  have hszz := hS.s3
  have hur := hS.ur
  have hnw := hS.nw
  show Zn g zX9_append 0 [some (.ref 1), some (.int x)] [] hh 1 6 _
  refine zn_iload_n (pc := 0) rfl rfl ?_
  refine zn_bipushN (pc := 1) 32 rfl rfl ?_
  refine zn_icmp_lt (pc := 3) (tgt := 12) (x := x) (y := (nI 32)) rfl rfl (fun c1 => ?_) (fun c1 => ?_)
  · have k0 := c1
    exact zn_throw (pc := 12) (E := 0) rfl (Nat.le_of_ble_eq_true rfl) (Nat.le_of_ble_eq_true rfl) ⟨rfl, rfl⟩
  · have k0 := c1
    refine zn_iload_n (pc := 6) rfl rfl ?_
    refine zn_bipushN (pc := 7) 126 rfl rfl ?_
    refine zn_icmp_le (pc := 9) (tgt := 22) (x := x) (y := (nI 126)) rfl rfl (fun c2 => ?_) (fun c2 => ?_)
    · exact absurd ⟨Int32.not_lt.mp k0, c2⟩ hx
    · exact zn_throw (pc := 12) (E := 0) rfl (Nat.le_of_ble_eq_true rfl) (Nat.le_of_ble_eq_true rfl) ⟨rfl, rfl⟩
theorem q_append_2 {pf : Nat → Option Nat} {now p sz : Nat} {Z : Nat → Nat} (hS : ST hh F z A pf now p Z sz) {x : Nat} (hx : 32 ≤ x ∧ x ≤ 126) (hs : F 11 = 120) : Zt g zX9_append [.ref 1, .int (nI x)] hh 1 := by
  have h24 := hS.tk.ok.2.1
  have h01 := hS.tk.ok.1
  have h120 := hS.im
  have hnb := hS.nb
  have hszz := hS.s3
  have hur := hS.ur
  have hnw := hS.nw
  show Zn g zX9_append 0 [some (.ref 1), some (.int (nI x))] [] hh 1 6 _
  refine zn_iload_n (pc := 0) rfl rfl ?_
  refine zn_bipushN (pc := 1) 32 rfl rfl ?_
  refine zn_icmp_ltN (pc := 3) (tgt := 12) (x := x) (y := 32) rfl rfl (by omega) (by omega) (fun c1 => ?_) (fun c1 => ?_)
  · exfalso; omega
  · refine zn_iload_n (pc := 6) rfl rfl ?_
    refine zn_bipushN (pc := 7) 126 rfl rfl ?_
    refine zn_icmp_leN (pc := 9) (tgt := 22) (x := x) (y := 126) rfl rfl (by omega) (by omega) (fun c2 => ?_) (fun c2 => ?_)
    · refine zn_aload_n (pc := 22) rfl rfl ?_
      refine zn_get (pc := 23) (v := .ref 2) rfl hS.t rfl ?_
      refine zn_callVx (pc := 26) (J := zX4_isFull) (o := 2) (as := []) (rest := []) rfl rfl rfl rfl hS.i2 rfl rfl rfl (Nat.le_of_ble_eq_true rfl) (Nat.le_of_ble_eq_true rfl) (Nat.le_of_ble_eq_true rfl) (Nat.le_of_ble_eq_true rfl) (c_isFull hS.im hS.ib hS.i2 hS.i3) ?_
      refine zn_if_eqB (pc := 29) (tgt := 42) rfl rfl (fun c3 => ?_) (fun c3 => ?_)
      · exact absurd hs c3
      · exact zn_throw (pc := 32) (E := 1) rfl (Nat.le_of_ble_eq_true rfl) (Nat.le_of_ble_eq_true rfl) ⟨rfl, rfl⟩
    · exfalso; omega
theorem q_clear  {pf : Nat → Option Nat} {now p sz : Nat} {Z : Nat → Nat} (hS : ST hh F z A pf now p Z sz) : Zx g zX9_clearInput [.ref 1] (hh) (some (.int (nI (F 11)))) (pgs hh 4 120 2 3 (A 5) 0) := by
  have h24 := hS.tk.ok.2.1
  have h01 := hS.tk.ok.1
  have h120 := hS.im
  have hnb := hS.nb
  have hszz := hS.s3
  have hur := hS.ur
  have hnw := hS.nw
  show Zn g zX9_clearInput 0 [some (.ref 1)] [] (hh) 0 0 _
  refine zn_aload_n (pc := 0) rfl rfl ?_
  refine zn_get (pc := 1) (v := .ref 2) rfl hS.t rfl ?_
  refine zn_callVx (pc := 4) (J := zX4_empty) (o := 2) (as := []) (rest := []) rfl rfl rfl rfl hS.i2 rfl rfl rfl (Nat.le_of_ble_eq_true rfl) (Nat.le_of_ble_eq_true rfl) (Nat.le_of_ble_eq_true rfl) (Nat.le_of_ble_eq_true rfl) (q_iempty hS) ?_
  exact zx_i (pc := 7) rfl rfl rfl rfl
end m1
