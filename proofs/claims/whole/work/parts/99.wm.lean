section wm
def R_law : String := "TabTextLaw"
def lw_P (b : Addr) (xs : List Int32) (args : Array Value) (s : State) : Prop := args = #[.ref b] ∧ s.IntsAt b xs ∧ xs.length ≤ 2560 ∧ (Jvm.Cond.and given_1 narrow_1).before args s = true
/-- what a walk over the start with the record d0 says of its end, said of the start itself -/
theorem lw_closed {s t : State} {o : Outcome} {d0 : Drawn} {L : List Loc} {k n : Nat} (hd0 : s.drawn.sameBut d0 lw_cs) (hv : ∃ v, o = .returned v) (hW : (s.setDrawn d0).WarmedH t.vm) (hs : (s.setDrawn d0).sameButNew ({ t with vm := s.vm } : State) L k n) : State.butDraws s t lw_cs (fun t1 => Framed s o t1 L k n) := by
  have h2 : t.drawn = d0 := congrArg State.drawn hs.1
  refine ⟨⟨hv, hW, State.sameButNew.setDrawn hs s.drawn⟩, ?_, by decide⟩
  rw [h2]
  exact hd0
def lw_Q (_ : Array Value) (s : State) (o : Outcome) (t : State) : Prop := o = .returned (some (.int 1)) ∧ State.butDraws s t lw_cs (fun t1 => Framed s o t1 [] 601024 7293034)
def lw_Z (below : List Frame) (a : Array Value) (s : State) : State → Prop := fun t => ∃ o, t.status = .running ∧ Ended t below o ∧ lw_Q a s o t
/-- what holds at the law's entry: the machine, the code, the tables' words (any of lw_tbl by 'hts w (by decide +kernel)'), the script of L ints xs at the cell b, what the Statement gives of the start (any of its parts by flat_of_before) -/
def lw_At (p : Program) (s : State) (m : MethodId) (meth : Method) (c : Code) (b L : Nat) (xs : Nat → Int32) : Prop :=
  p.tables.exec = Jvm.exec ∧ c.code = code ∧ meth.sig.returnType = ret ∧ c.maxLocals = 9 ∧ s.vm.findClass R_law = some m.cls ∧ (∀ w ∈ lw_tbl, w.before #[Value.ref b] s = true) ∧ va_X b L xs s s.heap ∧ b < s.heap.size ∧ meth.locks = false ∧ (Jvm.Cond.and given_1 narrow_1).before #[Value.ref b] s = true
/-- .. and no handler stands in the law's own method -/
def lw_Ab (meth : Method) (c : Code) : Prop := c.exceptionTable.toList = tableOf [] ∧ meth.name = "law"
theorem zk_of {own : String} {idx ci : Nat} {s : State} {args : Array Value} (h : zNw own idx ci) (hts : ∀ w ∈ zgt, w.before args s = true) : ∃ (cC : ClassId) (iS : Nat → Nat), ∀ q : vw_C, vwCl[ci]? = some q → u_Kn s q.1 q.2.1 q.2.2 cC iS := by
  obtain ⟨C, T, N, c1, c3, c5, c6, c7, c8⟩ := h
  obtain ⟨cC, iS, hk⟩ := u_known (n := N) hts c3 (hts _ c7)
  exact ⟨cC, iS, fun q hq => by rw [c1] at hq; cases hq; exact hk⟩
theorem zk_all {s : State} {args : Array Value} (hts : ∀ w ∈ zgt, w.before args s = true) (ci : Nat) : ∃ (cC : ClassId) (iS : Nat → Nat), ∀ q : vw_C, vwCl[ci]? = some q → u_Kn s q.1 q.2.1 q.2.2 cC iS := by
  match ci with
  | 0 => exact zk_of znw_RX5_18 hts
  | 1 => exact zk_of znw_RX5_9 hts
  | 2 => exact zk_of znw_RX9_16 hts
  | 3 => exact zk_of znw_RX9_23 hts
  | 4 => exact zk_of znw_RX9_9 hts
  | 5 => exact zk_of znw_RX9_30 hts
  | 6 => exact zk_of znw_RX9_160 hts
  | 7 => exact zk_of znw_RX3_9 hts
  | 8 => exact zk_of znw_RL_8 hts
  | 9 => exact zk_of znw_RL_111 hts
  | k + 10 => exact ⟨0, fun _ => 0, fun q hq => by rw [List.getElem?_eq_none (by show 10 ≤ k + 10; omega)] at hq; cases hq⟩
theorem zs_start {p : Program} {s : State} {m : MethodId} {meth : Method} {c : Code} (l : Launch) (hflags : l.flags = flags0) {b L : Nat} {xs : Nat → Int32} (C0 : lw_At p s m meth c b L xs) : ∃ g : zG, zgl g = l ∧ zgb g = b ∧ zg1 g = s.heap.size - 1 ∧ zgH g = s.heap ∧ zgn g = L ∧ zgx g = xs ∧ zS g s := by
  obtain ⟨hx, hb, hr, hml, hown, hts, hX, hbl, hlocks, hgv⟩ := C0
  have hzt : ∀ w ∈ zgt, w.before #[Value.ref b] s = true := fun w hw => hts w (List.mem_filter.mp hw).1
  have hall := zk_all hzt
  have hfl := flat_of_before _ hgv
  have hAO : (Cond.arrayOver (.object RX7)).before #[Value.ref b] s = true := (hts _ (List.mem_of_getElem? (i := 172) (by decide +kernel)))
  have hini : (Cond.initialized "java/lang/Throwable").before #[Value.ref b] s = true := (hts _ (List.mem_of_getElem? (i := 114) (by decide +kernel)))
  obtain ⟨cI, kI, oI, i1, i2, i3⟩ := Cond.arrayClass_spec (hzt _ zg_ia)
  obtain ⟨cJ, kJ, oJ, j1, j2, j3⟩ := Cond.arrayClass_spec (hzt _ zg_la)
  obtain ⟨cK, kK, oK, k1, k2, k3⟩ := Cond.arrayClass_spec (hzt _ zg_da)
  obtain ⟨oP, cP, kP, p1, p2, p3, p4, p5⟩ := Cond.arrayOver_spec hAO
  refine ⟨(l, b, s.heap.size - 1, s.heap, (fun k => Classical.choose (hall k), fun k => Classical.choose (Classical.choose_spec (hall k))), (cI, cJ, cK, cP), L, xs), rfl, rfl, rfl, rfl, rfl, rfl, ?_⟩
  refine ⟨?_, ?_, ⟨fun ci q hq => Classical.choose_spec (Classical.choose_spec (hall ci)) q hq, fun k q hq => ?_⟩, hX, fun w hw hz => va_Nw.of (zxw_on hz) (hts w hw), fun i j hi hj hij => ?_, fun o k tx hm => ?_, ?_, ?_, va_AO.of hAO⟩
  · show l.stackTraces = false
    unfold Launch.stackTraces
    rw [hflags]
    decide +kernel
  · show b ≤ s.heap.size - 1
    omega
  · match k, hq with
    | 0, hq => cases hq; exact ⟨fun n z => ⟨fun k h => (by cases h), kI, i2, oI, i3⟩, i1⟩
    | 1, hq => cases hq; exact ⟨fun n z => ⟨fun k h => (by cases h), kJ, j2, oJ, j3⟩, j1⟩
    | 2, hq => cases hq; exact ⟨fun n z => ⟨fun k h => (by cases h), kK, k2, oK, k3⟩, k1⟩
    | 3, hq => cases hq; exact ⟨fun n z => ⟨fun k h => (by cases h), kP, p3, oP, p4⟩, kP, oP, p3, p4, p1, p5⟩
    | k + 4, hq => rw [List.getElem?_eq_none (by show 4 ≤ k + 4; omega)] at hq; cases hq
  · match i, j, hi, hj, hij with
    | 0, 1, _, _, _ => exact va_Nc.of (hfl _ (by decide +kernel))
    | 0, 2, _, _, _ => exact va_Nc.of (hfl _ (by decide +kernel))
    | 1, 0, _, _, _ => exact va_Nc.of (hfl _ (by decide +kernel))
    | 1, 2, _, _, _ => exact va_Nc.of (hfl _ (by decide +kernel))
    | 2, 0, _, _, _ => exact va_Nc.of (hfl _ (by decide +kernel))
    | 2, 1, _, _, _ => exact va_Nc.of (hfl _ (by decide +kernel))
    | 0, 0, _, _, h => exact absurd rfl h
    | 1, 1, _, _, h => exact absurd rfl h
    | 2, 2, _, _, h => exact absurd rfl h
    | i + 3, _, h, _, _ => exact absurd h (by omega)
    | 0, j + 3, _, h, _ => exact absurd h (by omega)
    | 1, j + 3, _, h, _ => exact absurd h (by omega)
    | 2, j + 3, _, h, _ => exact absurd h (by omega)
  · have h := hts _ hm
    cases hc : s.vm.findClass o with
    | none => simp [Cond.before, Cond.holds, Cond.value, hc] at h
    | some c9 =>
      obtain ⟨_, _, _, a, _, _, _, _, _, hev⟩ := Cond.stringRef_spec hc h
      exact ⟨a, vk_R.of h hev⟩
  · exact vx_Zqof (hts _ (List.mem_of_getElem? (i := 633) (by decide +kernel))) hini (hfl _ (by decide +kernel)) (fun a ha => by show ¬ (s.heap.size - 1 < a); omega)
  · exact vx_Zqof (hts _ (List.mem_of_getElem? (i := 635) (by decide +kernel))) hini (hfl _ (by decide +kernel)) (fun a ha => by show ¬ (s.heap.size - 1 < a); omega)
theorem s_rel {g : zG} {H : Heap} (h1 : zg1 g + 1 = H.size) (h2 : zgH g = H) : zRel g (s_b (zgn g) (zgx g)) H := by
  refine ⟨Nat.le_refl _, h1.symm, by rw [h2]; exact h1.symm, fun q _ => by rw [h2], fun i o ho => ?_⟩
  match i, ho with
  | 0, ho => exact ⟨Nat.zero_lt_one, fun _ => (Option.some.inj ho).symm, fun h => absurd h (by omega)⟩
  | i + 1, ho =>
    rw [show (s_b (zgn g) (zgx g)).1 (i + 1) = none from hy_no (by show 0 + 1 ≤ i + 1; omega)] at ho
    cases ho
theorem s_forget {s t : State} {LL : List Loc} {k n q0 : Nat} (hq : q0 + 1 = s.heap.size) (hL : ∀ z ∈ LL, q0 < z.base) (h : s.sameButNew t LL k n) : s.sameButNew t [] k n := by
  obtain ⟨h1, h2, h3, h4, h5, h6⟩ := h
  refine ⟨h1, h2, h3, h4, h5, fun a c hc => ?_⟩
  obtain ⟨c', g1, g2, g3, g4⟩ := h6 a c hc
  refine ⟨c', g1, g2, g3, fun i _ => g4 i (fun hm => ?_)⟩
  have e1 := hL _ hm
  have e2 := (Array.getElem?_eq_some_iff.mp hc).1
  have e3 : q0 < a := e1
  omega
set_option maxHeartbeats 4000000 in
theorem whole_start {p : Program} {e : Env} {s : State} {m : MethodId} {below : List Frame} {meth : Method} {c : Code} (l : Launch) (hflags : l.flags = flags0) {b L : Nat} {xs : Nat → Int32} (hL : L ≤ 2560) (C0 : lw_At p s m meth c b L xs) (C1 : lw_Ab meth c) : W p l e room_1 s m #[Value.ref b] below meth c s.heap [] 0 0 (lw_Z below #[Value.ref b] s) (entryFrame m ([Value.ref b] : List Value).toArray 9) := by
  obtain ⟨g, rfl, rfl, e3, e4, rfl, rfl, hS⟩ := zs_start l hflags C0
  obtain ⟨hx, hb, hr, hml, hown, hts, hX, hbl, hlocks, hgv⟩ := C0
  have hsz : zg1 g + 1 = s.heap.size := by omega
  have hzt : ∀ w ∈ zgt, w.before #[Value.ref (zgb g)] s = true := fun w hw => hts w (List.mem_filter.mp hw).1
  have hC : zC g zL_law p room_1 s m #[Value.ref (zgb g)] meth c := ⟨hx, hb, hml, hr, hlocks, C1.1, hown, C1.2, hzt, hS, zok_L_law, zall_300, Nat.le_refl _, Nat.le_refl _⟩
  have hH := zent_has g (as := [.ref 0]) (n := 9) (Nat.le_of_ble_eq_true rfl)
  have K := lw_go (g := g) (n := zgn g) (f := zgx g) hL p e room_1 s m #[Value.ref (zgb g)] below meth c s.heap [] 0 0 601024 7293034 _ hC (s_rel hsz e4) hH (fun z hz => nomatch hz) (Nat.le_of_ble_eq_true rfl) (Nat.le_of_ble_eq_true rfl) (Nat.le_refl _) (Nat.le_refl _)
  rw [lg_entry_eq]
  intro T hT X
  obtain ⟨t, b1, o, b2, b3, b4⟩ := K T hT X
  refine ⟨t, b1, o, b2, b3, ?_⟩
  rcases b4 with ⟨⟨v, h', hq, ho, -⟩, LL, hfe, hfr⟩ | ⟨q, -, E, ce, LL, ⟨k9, h', c1, -⟩, -⟩
  · cases hq
    refine ⟨ho, lw_closed (d0 := s.drawn) (Drawn.sameBut.refl s.drawn lw_cs) hfe.1 hfe.2.1 (s_forget hsz hfr hfe.2.2)⟩
  · cases c1
end wm
