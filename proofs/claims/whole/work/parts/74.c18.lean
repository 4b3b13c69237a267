section m1
variable {g : zG} {h hh : zH} {F : Nat → Nat} {S : Int64} {z : Nat → Nat} {A : Nat → Nat → Nat} {X : Nat → Int32}
/-! calls that throw, calls of methods that make or change things -/
def Zt (g : zG) (J : zI) (as : List Value) (h : zH) (E : Nat) : Prop := Zm g J as h 1 6 (fun r h' => r = .inr E ∧ h' = zthr h)
section calls
variable {I J : zI} {pc a b : Nat} {L : zL} {st rest as : List Value} {h h1 : zH} {mc ms : Nat} {Q : zR → zH → Prop}
theorem zn_callVt {idx o ci E : Nat} {fs : List Value} (hf : zF I pc = some (.invokevirtual idx, 3, a, b)) (hJ : zP a = J) (hst : st = as.reverse ++ .ref o :: rest) (hb : as.length = b) (ho : h.1 o = some (.inr (ci, fs))) (hcl : (vwCl[ci]?).map (fun q => q.1) = some (zNm J).cls) (hexI : zEx I = []) (hexJ : zEx J = [])
    (hfr : zFr J + 1 ≤ zFr I) (hlo : 8 + (zMx J + 11) + zLo J ≤ zLo I) (hsl : (zsl (.ref o :: as)).length ≤ zMx J) (hre : (rest.map fun v => v.category).sum ≤ 8)
    (hm : Zt g J (.ref o :: as) h E) (hq : Q (.inr E) (zthr h)) : Zn g I pc L st h (mc + 1) (ms + 6) Q :=
  zn_mono (zn_callV (mc2 := mc) (ms2 := ms) (Q := Q) hf hJ hst hb ho hcl hexI hexJ hfr hlo hsl hre hm (fun v h' q => by cases q.1) (fun E' h' q => by obtain ⟨q1, q2⟩ := q; cases q1; subst q2; exact hq)) (by omega) (by omega) (fun _ _ q => q)
theorem zn_callVm {idx o ci mc1 ms1 : Nat} {fs : List Value} {Q1 : zR → zH → Prop} (hf : zF I pc = some (.invokevirtual idx, 3, a, b)) (hJ : zP a = J) (hst : st = as.reverse ++ .ref o :: rest) (hb : as.length = b) (ho : h.1 o = some (.inr (ci, fs))) (hcl : (vwCl[ci]?).map (fun q => q.1) = some (zNm J).cls) (hexI : zEx I = []) (hexJ : zEx J = [])
    (hfr : zFr J + 1 ≤ zFr I) (hlo : 8 + (zMx J + 11) + zLo J ≤ zLo I) (hsl : (zsl (.ref o :: as)).length ≤ zMx J) (hre : (rest.map fun v => v.category).sum ≤ 8)
    (hm : Zm g J (.ref o :: as) h mc1 ms1 Q1) (hno : ∀ E h', ¬ Q1 (.inr E) h') (K : ∀ v h', Q1 (.inl v) h' → Zn g I (pc + 3) L (v.toList ++ rest) h' mc ms Q) : Zn g I pc L st h (mc1 + mc) (ms1 + ms) Q :=
  zn_callV hf hJ hst hb ho hcl hexI hexJ hfr hlo hsl hre hm K (fun E h' q => absurd q (hno E h'))
theorem zx_a {o : Nat} {C : String} {r : Option Value} (hf : zF I pc = some (.areturn, 1, a, b)) (hr : zRt I = some (.object C)) (hv : r = some (.ref o)) (hh : h = h1) : Zn g I pc L [.ref o] h mc ms (fun r' h' => r' = .inl r ∧ h' = h1) := zn_aret hf hr ⟨by rw [hv], hh⟩
theorem zf_putR {idx o ci k v : Nat} {fs fs' : List Value} {T : String} (hf : zF I pc = some (.putfield idx, 3, ci, k)) (ho : h.1 o = some (.inr (ci, fs))) (hk : k < fs.length) (hty : zty ci k = .object T) (hs : fs.set k (.ref v) = fs') (K : Zn g I (pc + 3) L st (zup h o (.inr (ci, fs'))) mc ms Q) : Zn g I pc L (.ref v :: .ref o :: st) h mc ms Q := by
  refine zn_put hf ho hk ?_ (by rw [hs]; exact K)
  rw [hty]; show (true && (Value.ref v == Value.ref v)) = true; simp
theorem zf_putA {idx o ci k v : Nat} {fs fs' : List Value} {T : FieldType} (hf : zF I pc = some (.putfield idx, 3, ci, k)) (ho : h.1 o = some (.inr (ci, fs))) (hk : k < fs.length) (hty : zty ci k = .array T) (hs : fs.set k (.ref v) = fs') (K : Zn g I (pc + 3) L st (zup h o (.inr (ci, fs'))) mc ms Q) : Zn g I pc L (.ref v :: .ref o :: st) h mc ms Q := by
  refine zn_put hf ho hk ?_ (by rw [hs]; exact K)
  rw [hty]; show (true && (Value.ref v == Value.ref v)) = true; simp
theorem zn_aaldR {o n j x : Nat} {f : Nat → Option Nat} (hf : zF I pc = some (.aaload, 1, a, b)) (hp : 0 < o) (ho : h.1 o = some (.inl (n, .inr (.inr (.inr (.inr f)))))) (hj : j < n) (hn : n < 2 ^ 31) (hx : f j = some x) (K : Zn g I (pc + 1) L (.ref x :: st) h mc ms Q) : Zn g I pc L (.int (nI j) :: .ref o :: st) h mc ms Q := zn_aaldN hf hp ho hj hn (by rw [hx]; exact K)
theorem zn_aaldU {o n j : Nat} {f : Nat → Option Nat} (hf : zF I pc = some (.aaload, 1, a, b)) (hp : 0 < o) (ho : h.1 o = some (.inl (n, .inr (.inr (.inr (.inr f)))))) (hj : j < n) (hn : n < 2 ^ 31) (hx : f j = none) (K : Zn g I (pc + 1) L (.null :: st) h mc ms Q) : Zn g I pc L (.int (nI j) :: .ref o :: st) h mc ms Q := zn_aaldN hf hp ho hj hn (by rw [hx]; exact K)
theorem zn_new7 {idx : Nat} (hf : zF I pc = some (.new idx, 3, 7, 0)) (K : Zn g I (pc + 3) L (.ref h.2 :: st) (znew h (.inr (7, [.null, .int 0]))) mc ms Q) : Zn g I pc L st h (mc + 1) (ms + 2) Q := zn_new hf K
theorem zn_new6 {idx : Nat} (hf : zF I pc = some (.new idx, 3, 6, 0)) (K : Zn g I (pc + 3) L (.ref h.2 :: st) (znew h (.inr (6, [.null, .int 0]))) mc ms Q) : Zn g I pc L st h (mc + 1) (ms + 2) Q := zn_new hf K
theorem zn_callIm {idx o mc1 ms1 : Nat} {Q1 : zR → zH → Prop} (hf : zF I pc = some (.invokespecial idx, 3, a, b)) (ha : a ≠ 5001) (hJ : zP a = J) (hst : st = as.reverse ++ .ref o :: rest) (hb : as.length = b)
    (hfr : zFr J + 1 ≤ zFr I) (hlo : 8 + (zMx J + 11) + zLo J ≤ zLo I) (hsl : (zsl (.ref o :: as)).length ≤ zMx J) (hre : (rest.map fun v => v.category).sum ≤ 8) (hno : ∀ E h', ¬ Q1 (.inr E) h')
    (hm : Zm g J (.ref o :: as) h mc1 ms1 Q1) (K : ∀ v h', Q1 (.inl v) h' → Zn g I (pc + 3) L (v.toList ++ rest) h' mc ms Q) : Zn g I pc L st h (mc1 + mc) (ms1 + ms) Q := zn_callI hf ha hJ hst hb hfr hlo hsl hre hno hm K
theorem i_nn {x : Int32} (h : ¬ x < 0) : nI 0 ≤ x := by
  rw [Int32.le_iff_toInt_le]
  rw [Int32.lt_iff_toInt_lt] at h
  exact Int.not_lt.mp h
theorem zt_no {J : zI} {as : List Value} {r : Option Value} {E : Nat} {h' : zH} : ¬ ((fun r' h' => r' = Sum.inl r ∧ h' = h1 : zR → zH → Prop) (.inr E) h') := fun q => by cases q.1
end calls
/-- the class's state, with the page of the text -/
def ST (hh : zH) (F z : Nat → Nat) (A : Nat → Nat → Nat) (pf : Nat → Option Nat) (now p : Nat) (Z : Nat → Nat) (sz : Nat) : Prop := INVq hh F z A pf now p ∧ PGe hh p Z sz ∧ FL z Z sz
section st
variable {pf : Nat → Option Nat} {now p sz : Nat} {Z : Nat → Nat}
theorem ST.t (q : ST hh F z A pf now p Z sz) : hh.1 1 = some (.inr (8, [.ref 2, .ref 4, .ref 6, .ref 10, .ref 30])) := q.1.1.1
theorem ST.wf (q : ST hh F z A pf now p Z sz) : wfh hh := q.1.1.2.1
theorem ST.io (q : ST hh F z A pf now p Z sz) : IOb hh F A := q.1.1.2.2.1
theorem ST.i2 (q : ST hh F z A pf now p Z sz) : hh.1 2 = some (.inr (4, [.ref 3, .int (nI (F 11))])) := q.io.1
theorem ST.i3 (q : ST hh F z A pf now p Z sz) : hh.1 3 = some (mNA 120 (A 5)) := q.io.2.1
theorem ST.im (q : ST hh F z A pf now p Z sz) : F 11 ≤ 120 := q.io.2.2.1
theorem ST.ib (q : ST hh F z A pf now p Z sz) : ∀ j, A 5 j < 1000 := q.io.2.2.2
theorem ST.fo (q : ST hh F z A pf now p Z sz) : FOb hh F A := q.1.1.2.2.2.1
theorem ST.f4 (q : ST hh F z A pf now p Z sz) : hh.1 4 = some (.inr (2, [.ref 5, .int (nI (F 8)), .int (nI (F 9)), .int (nI (F 10))])) := q.fo.1
theorem ST.f5 (q : ST hh F z A pf now p Z sz) : hh.1 5 = some (mNA 7 (A 4)) := q.fo.2.1
theorem ST.hi (q : ST hh F z A pf now p Z sz) : HIq hh z (kU F A) (kV F A) (F 5) (F 6) pf now p := q.1.1.2.2.2.2.1
theorem ST.h6 (q : ST hh F z A pf now p Z sz) : hh.1 6 = some (.inr (3, [.ref 7, .ref p, .int (nI now), .int (nI (F 5)), .int (nI (F 6))])) := q.hi.1
theorem ST.h7 (q : ST hh F z A pf now p Z sz) : hh.1 7 = some (rfA pf) := q.hi.2.1
theorem ST.nw (q : ST hh F z A pf now p Z sz) : now ≤ 10 := q.hi.2.2.1
theorem ST.ur (q : ST hh F z A pf now p Z sz) : F 5 + F 6 ≤ 10 := q.hi.2.2.2.1
theorem ST.L (q : ST hh F z A pf now p Z sz) : LK hh 10 z (pRR F z A) (nbb z) := q.1.2
theorem ST.lo (q : ST hh F z A pf now p Z sz) : hh.1 10 = some (.inr (5, [.ref 11, .ref 18, .ref 28, .ref 29])) := q.L.lo
theorem ST.o11 (q : ST hh F z A pf now p Z sz) : hh.1 11 = some (.inr (1, [.int (nI (z 0)), .ref 12, .ref 13, .ref 14, .ref 15, .ref 16, .ref 17])) := by
  obtain ⟨C, V, r, -⟩ := q.L.c
  exact r
theorem ST.o18 (q : ST hh F z A pf now p Z sz) : hh.1 18 = some (.inr (0, [.int (nI (nbb z)), .ref 19, .ref 20, .ref 21, .ref 22, .ref 23, .ref 24, .ref 25, .ref 26, .ref 27])) := by
  obtain ⟨D, W, r, -⟩ := q.L.b
  exact r
theorem ST.po (q : ST hh F z A pf now p Z sz) : hh.1 p = some (.inr (7, [.ref (p + 1), .int (nI sz)])) := q.2.1.1
theorem ST.qo (q : ST hh F z A pf now p Z sz) : hh.1 (p + 1) = some (mNA 3264 Z) := q.2.1.2.1
theorem ST.s3 (q : ST hh F z A pf now p Z sz) : sz ≤ 3264 := q.2.1.2.2.1
theorem ST.Zb (q : ST hh F z A pf now p Z sz) : ∀ j, Z j < 1000 := q.2.1.2.2.2.1
theorem ST.pp (q : ST hh F z A pf now p Z sz) : p = 8 ∨ 68 ≤ p := q.2.1.2.2.2.2
theorem ST.fl (q : ST hh F z A pf now p Z sz) : FL z Z sz := q.2.2
theorem ST.tk (q : ST hh F z A pf now p Z sz) : tOK z := by
  obtain ⟨Z9, sz9, -, -, r⟩ := q.hi.2.2.2.2.2.2.2.1
  exact r
theorem ST.ex (q : INV hh F z A) : ∃ pf now p Z sz, ST hh F z A pf now p Z sz := by
  obtain ⟨pf, now, p, r⟩ := q
  obtain ⟨Z, sz, r1, r2, r3⟩ := r.1.2.2.2.2.1.2.2.2.2.2.2.2.1
  exact ⟨pf, now, p, Z, sz, r, r1, r2⟩
theorem ST.inv (q : ST hh F z A pf now p Z sz) : INV hh F z A := ⟨pf, now, p, q.1⟩
theorem ST.nb (q : ST hh F z A pf now p Z sz) : nbb z ≤ 84 := q.L.r.le
end st
theorem q_cells  {pf : Nat → Option Nat} {now p sz : Nat} {Z : Nat → Nat} (hS : ST hh F z A pf now p Z sz) : Zx g zX9_cells [.ref 1] (hh) (some (.ref 11)) (hh) := by
  show Zn g zX9_cells 0 [some (.ref 1)] [] (hh) 0 0 _
  refine zn_aload_n (pc := 0) rfl rfl ?_
  refine zn_get (pc := 1) (v := .ref 10) rfl hS.t rfl ?_
  refine zn_get (pc := 4) (v := .ref 11) rfl hS.lo rfl ?_
  exact zx_a (pc := 7) rfl rfl rfl rfl
theorem q_page  {pf : Nat → Option Nat} {now p sz : Nat} {Z : Nat → Nat} (hS : ST hh F z A pf now p Z sz) : Zx g zX3_page [.ref 6] (hh) (some (.ref p)) (hh) := by
  show Zn g zX3_page 0 [some (.ref 6)] [] (hh) 0 0 _
  refine zn_aload_n (pc := 0) rfl rfl ?_
  refine zn_get (pc := 1) (v := .ref p) rfl hS.h6 rfl ?_
  exact zx_a (pc := 4) rfl rfl rfl rfl
theorem q_undos  {pf : Nat → Option Nat} {now p sz : Nat} {Z : Nat → Nat} (hS : ST hh F z A pf now p Z sz) : Zx g zX3_undos [.ref 6] (hh) (some (.int (nI (F 5)))) (hh) := by
  show Zn g zX3_undos 0 [some (.ref 6)] [] (hh) 0 0 _
  refine zn_aload_n (pc := 0) rfl rfl ?_
  refine zn_get (pc := 1) (v := .int (nI (F 5))) rfl hS.h6 rfl ?_
  exact zx_i (pc := 4) rfl rfl rfl rfl
theorem q_redos  {pf : Nat → Option Nat} {now p sz : Nat} {Z : Nat → Nat} (hS : ST hh F z A pf now p Z sz) : Zx g zX3_redos [.ref 6] (hh) (some (.int (nI (F 6)))) (hh) := by
  show Zn g zX3_redos 0 [some (.ref 6)] [] (hh) 0 0 _
  refine zn_aload_n (pc := 0) rfl rfl ?_
  refine zn_get (pc := 1) (v := .int (nI (F 6))) rfl hS.h6 rfl ?_
  exact zx_i (pc := 4) rfl rfl rfl rfl
theorem q_rLine  {pf : Nat → Option Nat} {now p sz : Nat} {Z : Nat → Nat} (hS : ST hh F z A pf now p Z sz) {x : Int32} (hx : zin x (z 0)) : Zx g zX9_requireLine [.ref 1, .int x] (hh) none (hh) := by
  show Zn g zX9_requireLine 0 [some (.ref 1), some (.int x)] [] (hh) 0 0 _
  refine zn_aload_n (pc := 0) rfl rfl ?_
  refine zn_callVx (pc := 1) (J := zX9_cells) (o := 1) (as := []) (rest := []) rfl rfl rfl rfl hS.t rfl rfl rfl (Nat.le_of_ble_eq_true rfl) (Nat.le_of_ble_eq_true rfl) (Nat.le_of_ble_eq_true rfl) (Nat.le_of_ble_eq_true rfl) (q_cells hS) ?_
  refine zn_iload_n (pc := 4) rfl rfl ?_
  refine zn_callVx (pc := 5) (J := zX1_hasLine) (o := 11) (as := [.int x]) (rest := []) rfl rfl rfl rfl hS.o11 rfl rfl rfl (Nat.le_of_ble_eq_true rfl) (Nat.le_of_ble_eq_true rfl) (Nat.le_of_ble_eq_true rfl) (Nat.le_of_ble_eq_true rfl) (c_hasLine_10 hS.L.ok hS.L.c x) ?_
  refine zn_if_neB (pc := 8) (tgt := 22) rfl rfl (fun c1 => ?_) (fun c1 => ?_)
  · exact zx_v (pc := 22) rfl rfl rfl rfl
  · exact absurd hx c1
theorem q_rLine_t {pf : Nat → Option Nat} {now p sz : Nat} {Z : Nat → Nat} (hS : ST hh F z A pf now p Z sz) {x : Int32} (hx : ¬ zin x (z 0)) : Zt g zX9_requireLine [.ref 1, .int x] hh 2 := by
  show Zn g zX9_requireLine 0 [some (.ref 1), some (.int x)] [] hh 1 6 _
  refine zn_aload_n (pc := 0) rfl rfl ?_
  refine zn_callVx (pc := 1) (J := zX9_cells) (o := 1) (as := []) (rest := []) rfl rfl rfl rfl hS.t rfl rfl rfl (Nat.le_of_ble_eq_true rfl) (Nat.le_of_ble_eq_true rfl) (Nat.le_of_ble_eq_true rfl) (Nat.le_of_ble_eq_true rfl) (q_cells hS) ?_
  refine zn_iload_n (pc := 4) rfl rfl ?_
  refine zn_callVx (pc := 5) (J := zX1_hasLine) (o := 11) (as := [.int x]) (rest := []) rfl rfl rfl rfl hS.o11 rfl rfl rfl (Nat.le_of_ble_eq_true rfl) (Nat.le_of_ble_eq_true rfl) (Nat.le_of_ble_eq_true rfl) (Nat.le_of_ble_eq_true rfl) (c_hasLine_10 hS.L.ok hS.L.c x) ?_
  refine zn_if_neB (pc := 8) (tgt := 22) rfl rfl (fun c1 => ?_) (fun c1 => ?_)
  · exact absurd c1 hx
  · exact zn_throw (pc := 11) (E := 2) rfl (Nat.le_of_ble_eq_true rfl) (Nat.le_of_ble_eq_true rfl) ⟨rfl, rfl⟩
theorem q_rCell  {pf : Nat → Option Nat} {now p sz : Nat} {Z : Nat → Nat} (hS : ST hh F z A pf now p Z sz) {x y : Int32} (hx : mCell z x y) : Zx g zX9_requireCell [.ref 1, .int x, .int y] (hh) none (hh) := by
  show Zn g zX9_requireCell 0 [some (.ref 1), some (.int x), some (.int y)] [] (hh) 0 0 _
  refine zn_aload_n (pc := 0) rfl rfl ?_
  refine zn_callVx (pc := 1) (J := zX9_cells) (o := 1) (as := []) (rest := []) rfl rfl rfl rfl hS.t rfl rfl rfl (Nat.le_of_ble_eq_true rfl) (Nat.le_of_ble_eq_true rfl) (Nat.le_of_ble_eq_true rfl) (Nat.le_of_ble_eq_true rfl) (q_cells hS) ?_
  refine zn_iload_n (pc := 4) rfl rfl ?_
  refine zn_iload_n (pc := 5) rfl rfl ?_
  refine zn_callVx (pc := 6) (J := zX1_hasCell) (o := 11) (as := [.int x, .int y]) (rest := []) rfl rfl rfl rfl hS.o11 rfl rfl rfl (Nat.le_of_ble_eq_true rfl) (Nat.le_of_ble_eq_true rfl) (Nat.le_of_ble_eq_true rfl) (Nat.le_of_ble_eq_true rfl) (c_hasCell_10 hS.L.ok hS.L.c x y) ?_
  refine zn_if_neB (pc := 9) (tgt := 23) rfl rfl (fun c1 => ?_) (fun c1 => ?_)
  · exact zx_v (pc := 23) rfl rfl rfl rfl
  · exact absurd hx c1
theorem q_rCell_t {pf : Nat → Option Nat} {now p sz : Nat} {Z : Nat → Nat} (hS : ST hh F z A pf now p Z sz) {x y : Int32} (hx : ¬ mCell z x y) : Zt g zX9_requireCell [.ref 1, .int x, .int y] hh 2 := by
  show Zn g zX9_requireCell 0 [some (.ref 1), some (.int x), some (.int y)] [] hh 1 6 _
  refine zn_aload_n (pc := 0) rfl rfl ?_
  refine zn_callVx (pc := 1) (J := zX9_cells) (o := 1) (as := []) (rest := []) rfl rfl rfl rfl hS.t rfl rfl rfl (Nat.le_of_ble_eq_true rfl) (Nat.le_of_ble_eq_true rfl) (Nat.le_of_ble_eq_true rfl) (Nat.le_of_ble_eq_true rfl) (q_cells hS) ?_
  refine zn_iload_n (pc := 4) rfl rfl ?_
  refine zn_iload_n (pc := 5) rfl rfl ?_
  refine zn_callVx (pc := 6) (J := zX1_hasCell) (o := 11) (as := [.int x, .int y]) (rest := []) rfl rfl rfl rfl hS.o11 rfl rfl rfl (Nat.le_of_ble_eq_true rfl) (Nat.le_of_ble_eq_true rfl) (Nat.le_of_ble_eq_true rfl) (Nat.le_of_ble_eq_true rfl) (c_hasCell_10 hS.L.ok hS.L.c x y) ?_
  refine zn_if_neB (pc := 9) (tgt := 23) rfl rfl (fun c1 => ?_) (fun c1 => ?_)
  · exact absurd c1 hx
  · exact zn_throw (pc := 12) (E := 2) rfl (Nat.le_of_ble_eq_true rfl) (Nat.le_of_ble_eq_true rfl) ⟨rfl, rfl⟩
theorem q_rOff_1 {pf : Nat → Option Nat} {now p sz : Nat} {Z : Nat → Nat} (hS : ST hh F z A pf now p Z sz) {x y k : Int32} (hbad : ¬ mCell z x y) : Zt g zX9_requireOffset [.ref 1, .int x, .int y, .int k] hh 2 := by
  show Zn g zX9_requireOffset 0 [some (.ref 1), some (.int x), some (.int y), some (.int k)] [] hh 1 6 _
  refine zn_aload_n (pc := 0) rfl rfl ?_
  refine zn_iload_n (pc := 1) rfl rfl ?_
  refine zn_iload_n (pc := 2) rfl rfl ?_
  exact zn_callVt (pc := 3) (J := zX9_requireCell) (o := 1) (as := [.int x, .int y]) (rest := []) rfl rfl rfl rfl hS.t rfl rfl rfl (Nat.le_of_ble_eq_true rfl) (Nat.le_of_ble_eq_true rfl) (Nat.le_of_ble_eq_true rfl) (Nat.le_of_ble_eq_true rfl) (q_rCell_t hS (x := x) (y := y) hbad) ⟨rfl, rfl⟩
theorem q_rOff_2 {pf : Nat → Option Nat} {now p sz : Nat} {Z : Nat → Nat} (hS : ST hh F z A pf now p Z sz) {l c : Nat} (hl : l < z 0) (hc : c < z (1 + l)) {k : Int32} (hk : ¬ zin k (z (25 + 8 * l + c) + 1)) : Zt g zX9_requireOffset [.ref 1, .int (nI l), .int (nI c), .int k] hh 2 := by
  have h24 := hS.tk.ok.2.1
  have h01 := hS.tk.ok.1
  have h120 := hS.im
  have hnb := hS.nb
  have hszz := hS.s3
  have hur := hS.ur
  have hnw := hS.nw
  have h8 := (hS.tk.gl hl).2.1
  have h16 := hS.tk.ok.2.2.2 l c hl hc
  show Zn g zX9_requireOffset 0 [some (.ref 1), some (.int (nI l)), some (.int (nI c)), some (.int k)] [] hh 1 6 _
  refine zn_aload_n (pc := 0) rfl rfl ?_
  refine zn_iload_n (pc := 1) rfl rfl ?_
  refine zn_iload_n (pc := 2) rfl rfl ?_
  refine zn_callVx (pc := 3) (J := zX9_requireCell) (o := 1) (as := [.int (nI l), .int (nI c)]) (rest := []) rfl rfl rfl rfl hS.t rfl rfl rfl (Nat.le_of_ble_eq_true rfl) (Nat.le_of_ble_eq_true rfl) (Nat.le_of_ble_eq_true rfl) (Nat.le_of_ble_eq_true rfl) (q_rCell hS (x := (nI l)) (y := (nI c)) (mCell_nI hS.tk.ok (by omega) (by omega))) ?_
  refine zn_iload_n (pc := 6) rfl rfl ?_
  refine zn_if_lt (pc := 7) (tgt := 23) (x := k) rfl rfl (fun c1 => ?_) (fun c1 => ?_)
  · have k0 := c1
    exact zn_throw (pc := 23) (E := 2) rfl (Nat.le_of_ble_eq_true rfl) (Nat.le_of_ble_eq_true rfl) ⟨rfl, rfl⟩
  · have k0 := c1
    refine zn_iload_n (pc := 10) rfl rfl ?_
    refine zn_aload_n (pc := 11) rfl rfl ?_
    refine zn_callVx (pc := 12) (J := zX9_cells) (o := 1) (as := []) (rest := [.int k]) rfl rfl rfl rfl hS.t rfl rfl rfl (Nat.le_of_ble_eq_true rfl) (Nat.le_of_ble_eq_true rfl) (Nat.le_of_ble_eq_true rfl) (Nat.le_of_ble_eq_true rfl) (q_cells hS) ?_
    refine zn_iload_n (pc := 15) rfl rfl ?_
    refine zn_iload_n (pc := 16) rfl rfl ?_
    refine zn_callVx (pc := 17) (J := zX1_length) (o := 11) (as := [.int (nI l), .int (nI c)]) (rest := [.int k]) rfl rfl rfl rfl hS.o11 rfl rfl rfl (Nat.le_of_ble_eq_true rfl) (Nat.le_of_ble_eq_true rfl) (Nat.le_of_ble_eq_true rfl) (Nat.le_of_ble_eq_true rfl) (c_length_10 hS.L.ok hS.L.c (l := l) (c := c) (by omega) (by omega)) ?_
    refine zn_icmp_le (pc := 20) (tgt := 34) (x := k) (y := (nI (z (25 + 8 * l + c)))) rfl rfl (fun c2 => ?_) (fun c2 => ?_)
    · exact absurd ((zin_le (by omega)).mp ⟨i_nn k0, c2⟩) hk
    · exact zn_throw (pc := 23) (E := 2) rfl (Nat.le_of_ble_eq_true rfl) (Nat.le_of_ble_eq_true rfl) ⟨rfl, rfl⟩
theorem q_rOff  {pf : Nat → Option Nat} {now p sz : Nat} {Z : Nat → Nat} (hS : ST hh F z A pf now p Z sz) {l c : Nat} (hl : l < z 0) (hc : c < z (1 + l)) {q : Nat} (hq : q ≤ z (25 + 8 * l + c)) : Zx g zX9_requireOffset [.ref 1, .int (nI l), .int (nI c), .int (nI q)] (hh) none (hh) := by
  have h24 := hS.tk.ok.2.1
  have h01 := hS.tk.ok.1
  have h120 := hS.im
  have hnb := hS.nb
  have hszz := hS.s3
  have hur := hS.ur
  have hnw := hS.nw
  have h8 := (hS.tk.gl hl).2.1
  have h16 := hS.tk.ok.2.2.2 l c hl hc
  show Zn g zX9_requireOffset 0 [some (.ref 1), some (.int (nI l)), some (.int (nI c)), some (.int (nI q))] [] (hh) 0 0 _
  refine zn_aload_n (pc := 0) rfl rfl ?_
  refine zn_iload_n (pc := 1) rfl rfl ?_
  refine zn_iload_n (pc := 2) rfl rfl ?_
  refine zn_callVx (pc := 3) (J := zX9_requireCell) (o := 1) (as := [.int (nI l), .int (nI c)]) (rest := []) rfl rfl rfl rfl hS.t rfl rfl rfl (Nat.le_of_ble_eq_true rfl) (Nat.le_of_ble_eq_true rfl) (Nat.le_of_ble_eq_true rfl) (Nat.le_of_ble_eq_true rfl) (q_rCell hS (x := (nI l)) (y := (nI c)) (mCell_nI hS.tk.ok (by omega) (by omega))) ?_
  refine zn_iload_n (pc := 6) rfl rfl ?_
  refine zn_if_ltN (pc := 7) (tgt := 23) (x := q) rfl rfl (by omega) ?_
  refine zn_iload_n (pc := 10) rfl rfl ?_
  refine zn_aload_n (pc := 11) rfl rfl ?_
  refine zn_callVx (pc := 12) (J := zX9_cells) (o := 1) (as := []) (rest := [.int (nI q)]) rfl rfl rfl rfl hS.t rfl rfl rfl (Nat.le_of_ble_eq_true rfl) (Nat.le_of_ble_eq_true rfl) (Nat.le_of_ble_eq_true rfl) (Nat.le_of_ble_eq_true rfl) (q_cells hS) ?_
  refine zn_iload_n (pc := 15) rfl rfl ?_
  refine zn_iload_n (pc := 16) rfl rfl ?_
  refine zn_callVx (pc := 17) (J := zX1_length) (o := 11) (as := [.int (nI l), .int (nI c)]) (rest := [.int (nI q)]) rfl rfl rfl rfl hS.o11 rfl rfl rfl (Nat.le_of_ble_eq_true rfl) (Nat.le_of_ble_eq_true rfl) (Nat.le_of_ble_eq_true rfl) (Nat.le_of_ble_eq_true rfl) (c_length_10 hS.L.ok hS.L.c (l := l) (c := c) (by omega) (by omega)) ?_
  refine zn_icmp_leN (pc := 20) (tgt := 34) (x := q) (y := (z (25 + 8 * l + c))) rfl rfl (by omega) (by omega) (fun c2 => ?_) (fun c2 => ?_)
  · exact zx_v (pc := 34) rfl rfl rfl rfl
  · exfalso; omega
end m1
