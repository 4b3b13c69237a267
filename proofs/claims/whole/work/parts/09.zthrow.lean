/-! throwing, catching, copying: zx_throwS, zx_throwSW are the kit's vx_throwS, vx_throwSW (EXCEPTIONS) with one fact more: one cell is made; zn_copy follows va_copyi -/
section zThrow
variable {p : Program} {l : Launch} {e : Env} {R : Room} {s : State} {m : MethodId} {args : Array Value} {below : List Frame} {meth : Method} {c : Code} {H : Heap} {locs : List Loc} {cells slots : Nat} {Q : State → Prop}
variable {free : Addr → Prop} {ls : Array Slot} {rest : List Value}
variable {Qc : Array Value → State → Outcome → State → Prop} {XC : String → State → State → Prop}
theorem zx_throwS {cc : ByteArray} {pc : Nat} (hexec : p.tables.exec = Jvm.exec) (hb : c.code = cc) (hl : l.stackTraces = false) {own cls text : String} {names : List String} {ik is ic mc ms sa : Nat} {A : Nat → Prop}
    (hown : s.vm.findClass own = some m.cls) (hcls : Bundle.fit cls = true) (hnames : ∀ n ∈ names, Bundle.fit n = true)
    (hk : (Cond.classLink own ik cls).before args s = true) (hini : (Cond.initialized cls).before args s = true) (hstr : vk_R own is text sa s) (hat : ∀ w ∈ vx_atS own ic cls names, w.before args s = true)
    (hgood : ∀ w ∈ Cond.classLink own ik cls :: Cond.initialized cls :: vx_atS own ic cls names, vx_ot w = true)
    (hU : vx_Zq Bundle.tN "UNASSIGNED_STACK" Bundle.steD A s H) (hN : vx_Zq Bundle.tN "SUPPRESSED_SENTINEL" Bundle.listD A s H) (hsize : ls.size = c.maxLocals)
    (d0 : decode cc pc = .ok (.new ik, 3)) (d3 : decode cc (pc + 3) = .ok (.dup, 1)) (d4 : decode cc (pc + 4) = .ok (.ldc is, 2)) (d6 : decode cc (pc + 6) = .ok (.invokespecial ic, 3)) (d9 : decode cc (pc + 9) = .ok (.athrow, 1))
    (hout : ∀ x ∈ c.exceptionTable.toList, covers x (pc + 9) = false)
    (hRframes : names.length + 3 < R.frames) (hRlocals : (rest.map fun v => v.category).sum + (13 * (names.length + 1) + 43) ≤ R.locals) (hRcells : cells + 1 ≤ R.cells) (hRslots : slots + 6 ≤ R.slots) (hlocks : meth.locks = false)
    (hx : ∀ t : State, s.vm.Alike t.vm → H.size ≤ t.heap.size → t.heap.size = H.size + 1 → (∀ q : Nat, q < H.size → t.heap[q]? = H[q]?) → XC cls s t)
    (hf : ∀ z ∈ locs, free z.base) (hc : cells + 1 ≤ mc) (hs : slots + 6 ≤ ms) :
    W p l e R s m args below meth c H locs cells slots (vx_MQ below Qc XC args s mc ms free) (F0 m pc ls rest) := by
  intro T hT X
  have htr : e.platform.stackTraces = false := (show e.platform.stackTraces = l.stackTraces by rw [X.admits.platform]).trans hl
  have Y := vx_rebase X (R' := { frames := R.frames, locals := R.locals, cells := 1, slots := 6 }) (Nat.le_refl _) (Nat.le_refl _) hRcells hRslots
  obtain ⟨s', hA⟩ : ∃ z, z = (T.setVm s.vm).setFrames (.invoking m args :: below) := ⟨_, rfl⟩
  rw [← hA] at Y
  have hvm : s'.vm = s.vm := by rw [hA]; rfl
  have hhp : s'.heap = H := by rw [hA]; exact hT
  have hW0 : s.WarmedH s'.vm := by rw [hvm]; exact State.WarmedH.refl s
  have hat' : ∀ w ∈ vx_atS own ic cls names, w.before args s' = true := fun w hw => vx_ot_at hW0 hvm.symm (hgood w (List.mem_cons_of_mem _ (List.mem_cons_of_mem _ hw))) (hat w hw)
  have hk' : (Cond.classLink own ik cls).before args s' = true := vx_ot_at hW0 hvm.symm (hgood _ List.mem_cons_self) hk
  have hini' : (Cond.initialized cls).before args s' = true := vx_ot_at hW0 hvm.symm (hgood _ (List.mem_cons_of_mem _ List.mem_cons_self)) hini
  have hU' : vx_Zq Bundle.tN "UNASSIGNED_STACK" Bundle.steD A s' s'.heap := by rw [hhp]; exact vx_Zq.moved hW0.alike hU
  have hN' : vx_Zq Bundle.tN "SUPPRESSED_SENTINEL" Bundle.listD A s' s'.heap := by rw [hhp]; exact vx_Zq.moved hW0.alike hN
  have h : ∀ w ∈ Bundle.ownAtoms own ic cls names, w.before args s' = true := vx_own hat' (vx_isRefq hU'.1) (vx_isRefq hN'.1) hU'.2.word hN'.2.word
  have hown' : s'.vm.findClass own = some m.cls := by rw [hvm]; exact hown
  have hins : (Cond.instantiable cls 6).before args s' = true := h _ (by simp [Bundle.ownAtoms])
  obtain ⟨vm₁, cX, kX, hfX, hkX, -, -, X₁, st1⟩ := Y.newCold hexec (own := own) (C := cls) (index := ik) (n := 6) hown' hk' hins hini'
    (g := F0 m pc ls rest) rfl (by rw [hb]; exact d0) (Nat.le_refl _) (Nat.le_refl _)
  generalize hT1 : (T.setVm vm₁).pushCell { cls := cX, slots := kX.instanceTypes.map defaultValue, vm := .none } = T1 at X₁ st1
  have hcat : (Value.ref T.heap.size).category = 1 := rfl
  have hcellA : T1.heap[T.heap.size]? = some (freshCell cX kX) := by rw [← hT1]; exact State.heap_pushCell_size _ _
  have d3' : decode c.code (pc + 3) = .ok (.dup, 1) := by rw [hb]; exact d3
  have d4' : decode c.code (pc + 4) = .ok (.ldc is, 2) := by rw [hb]; exact d4
  have hstr' : vk_R own is text sa s' := vk_R.warm hW0 hstr
  obtain ⟨U, hsteps, hrun, hend, hW, hsame, ce, hce, hO⟩ := X₁.ctorThrowS hexec htr (own := own) (cls := cls) (names := names) (ic := ic) hown' hcls hnames h (fun x hx => nomatch hx) hfX hkX hcellA (by rw [hhp, hT]; exact Nat.le_refl _) (msg := .ref sa) rfl
    (g := { method := m, pc := pc + 6, locals := ls, stack := .ref sa :: .ref T.heap.size :: .ref T.heap.size :: rest, locked := none }) rfl hsize rfl rfl (rest := rest) rfl
    (by rw [hb]; exact d6) (by rw [hb]; exact d9) hout hRframes (by simp only [List.map_cons, List.sum_cons, hcat]; omega) hlocks
  obtain ⟨f1, f2⟩ := vx_frame hsame
  rw [hhp] at f1 f2
  have f3 : U.heap.size = H.size + 1 := by
    have w1 : U.heap.size ≤ s'.heap.size + (0 + 1) := hsame.2.2.1
    rw [hhp] at w1
    have w2 : T.heap.size < U.heap.size := (Array.getElem?_eq_some_iff.mp hce).1
    rw [hT] at w2
    omega
  have hWs : s.WarmedH U.vm := State.WarmedH.trans hW0 hW
  have hcl : s.vm.findClass cls = some ce.cls := by
    have h9 := hO.cls
    rw [hvm] at h9
    exact h9
  have hall : s.sameButNew ({ U with vm := s.vm } : State) locs mc ms := by
    subst hA
    obtain ⟨e1, e2⟩ := hsame
    rw [State.setFrames_setFrames] at e1
    have h2 : (T.setVm s.vm).sameButNew ({ U with vm := s.vm } : State) [] (0 + 1) (0 + 6) := ⟨e1, e2⟩
    have h3 := X.same.trans h2
    rw [List.append_nil] at h3
    exact h3.mono hc hs
  refine ⟨U, ?_, .threw T.heap.size, hrun, hend, Or.inr ⟨T.heap.size, rfl, cls, ce, locs, hx U hWs.alike f1 f3 (fun q hq => f2 q hq (fun z hz => nomatch hz)), hce, hO.vm, hcl, hWs, hall, hf⟩⟩
  refine st1 _ ?_
  show Steps p.tables e below (T1.setTop { method := m, pc := pc + 3, locals := ls, stack := .ref T.heap.size :: rest, locked := none }) _
  jvm_step X₁.here [X₁.here.top, hexec, d3', Value.category]
  exact X₁.ldcString hexec (own := own) (text := text) (index := is) (a := sa) hown' hstr'.1 hstr'.2
    (g := { method := m, pc := pc + 4, locals := ls, stack := .ref T.heap.size :: .ref T.heap.size :: rest, locked := none }) rfl d4' _ hsteps
theorem zx_throwSW {cc : ByteArray} {pc : Nat} (hexec : p.tables.exec = Jvm.exec) (hb : c.code = cc) (hl : l.stackTraces = false) {own cls text : String} {names : List String} {ik is ic mc ms sa : Nat} {A : Nat → Prop}
    (hown : s.vm.findClass own = some m.cls) (hcls : Bundle.fit cls = true) (hnames : ∀ n ∈ names, Bundle.fit n = true)
    (hk : (Cond.classLink own ik cls).before args s = true) (hini : (Cond.initialized cls).before args s = true) (hstr : vk_R own is text sa s) (hat : ∀ w ∈ vx_atS own ic cls names, w.before args s = true)
    (hgood : ∀ w ∈ Cond.classLink own ik cls :: Cond.initialized cls :: vx_atS own ic cls names, vx_ot w = true)
    (hU : vx_Zq Bundle.tN "UNASSIGNED_STACK" Bundle.steD A s H) (hN : vx_Zq Bundle.tN "SUPPRESSED_SENTINEL" Bundle.listD A s H) (hsize : ls.size = c.maxLocals)
    (d0 : decode cc pc = .ok (.new ik, 3)) (d3 : decode cc (pc + 3) = .ok (.dup, 1)) (d4 : decode cc (pc + 4) = .ok (.ldc_w is, 3)) (d7 : decode cc (pc + 7) = .ok (.invokespecial ic, 3)) (d10 : decode cc (pc + 10) = .ok (.athrow, 1))
    (hout : ∀ x ∈ c.exceptionTable.toList, covers x (pc + 10) = false)
    (hRframes : names.length + 3 < R.frames) (hRlocals : (rest.map fun v => v.category).sum + (13 * (names.length + 1) + 43) ≤ R.locals) (hRcells : cells + 1 ≤ R.cells) (hRslots : slots + 6 ≤ R.slots) (hlocks : meth.locks = false)
    (hx : ∀ t : State, s.vm.Alike t.vm → H.size ≤ t.heap.size → t.heap.size = H.size + 1 → (∀ q : Nat, q < H.size → t.heap[q]? = H[q]?) → XC cls s t)
    (hf : ∀ z ∈ locs, free z.base) (hc : cells + 1 ≤ mc) (hs : slots + 6 ≤ ms) :
    W p l e R s m args below meth c H locs cells slots (vx_MQ below Qc XC args s mc ms free) (F0 m pc ls rest) := by
  intro T hT X
  have htr : e.platform.stackTraces = false := (show e.platform.stackTraces = l.stackTraces by rw [X.admits.platform]).trans hl
  have Y := vx_rebase X (R' := { frames := R.frames, locals := R.locals, cells := 1, slots := 6 }) (Nat.le_refl _) (Nat.le_refl _) hRcells hRslots
  obtain ⟨s', hA⟩ : ∃ z, z = (T.setVm s.vm).setFrames (.invoking m args :: below) := ⟨_, rfl⟩
  rw [← hA] at Y
  have hvm : s'.vm = s.vm := by rw [hA]; rfl
  have hhp : s'.heap = H := by rw [hA]; exact hT
  have hW0 : s.WarmedH s'.vm := by rw [hvm]; exact State.WarmedH.refl s
  have hat' : ∀ w ∈ vx_atS own ic cls names, w.before args s' = true := fun w hw => vx_ot_at hW0 hvm.symm (hgood w (List.mem_cons_of_mem _ (List.mem_cons_of_mem _ hw))) (hat w hw)
  have hk' : (Cond.classLink own ik cls).before args s' = true := vx_ot_at hW0 hvm.symm (hgood _ List.mem_cons_self) hk
  have hini' : (Cond.initialized cls).before args s' = true := vx_ot_at hW0 hvm.symm (hgood _ (List.mem_cons_of_mem _ List.mem_cons_self)) hini
  have hU' : vx_Zq Bundle.tN "UNASSIGNED_STACK" Bundle.steD A s' s'.heap := by rw [hhp]; exact vx_Zq.moved hW0.alike hU
  have hN' : vx_Zq Bundle.tN "SUPPRESSED_SENTINEL" Bundle.listD A s' s'.heap := by rw [hhp]; exact vx_Zq.moved hW0.alike hN
  have h : ∀ w ∈ Bundle.ownAtoms own ic cls names, w.before args s' = true := vx_own hat' (vx_isRefq hU'.1) (vx_isRefq hN'.1) hU'.2.word hN'.2.word
  have hown' : s'.vm.findClass own = some m.cls := by rw [hvm]; exact hown
  have hins : (Cond.instantiable cls 6).before args s' = true := h _ (by simp [Bundle.ownAtoms])
  obtain ⟨vm₁, cX, kX, hfX, hkX, -, -, X₁, st1⟩ := Y.newCold hexec (own := own) (C := cls) (index := ik) (n := 6) hown' hk' hins hini'
    (g := F0 m pc ls rest) rfl (by rw [hb]; exact d0) (Nat.le_refl _) (Nat.le_refl _)
  generalize hT1 : (T.setVm vm₁).pushCell { cls := cX, slots := kX.instanceTypes.map defaultValue, vm := .none } = T1 at X₁ st1
  have hcat : (Value.ref T.heap.size).category = 1 := rfl
  have hcellA : T1.heap[T.heap.size]? = some (freshCell cX kX) := by rw [← hT1]; exact State.heap_pushCell_size _ _
  have d3' : decode c.code (pc + 3) = .ok (.dup, 1) := by rw [hb]; exact d3
  have d4' : decode c.code (pc + 4) = .ok (.ldc_w is, 3) := by rw [hb]; exact d4
  have hstr' : vk_R own is text sa s' := vk_R.warm hW0 hstr
  obtain ⟨U, hsteps, hrun, hend, hW, hsame, ce, hce, hO⟩ := X₁.ctorThrowS hexec htr (own := own) (cls := cls) (names := names) (ic := ic) hown' hcls hnames h (fun x hx => nomatch hx) hfX hkX hcellA (by rw [hhp, hT]; exact Nat.le_refl _) (msg := .ref sa) rfl
    (g := { method := m, pc := pc + 7, locals := ls, stack := .ref sa :: .ref T.heap.size :: .ref T.heap.size :: rest, locked := none }) rfl hsize rfl rfl (rest := rest) rfl
    (by rw [hb]; exact d7) (by rw [hb]; exact d10) hout hRframes (by simp only [List.map_cons, List.sum_cons, hcat]; omega) hlocks
  obtain ⟨f1, f2⟩ := vx_frame hsame
  rw [hhp] at f1 f2
  have f3 : U.heap.size = H.size + 1 := by
    have w1 : U.heap.size ≤ s'.heap.size + (0 + 1) := hsame.2.2.1
    rw [hhp] at w1
    have w2 : T.heap.size < U.heap.size := (Array.getElem?_eq_some_iff.mp hce).1
    rw [hT] at w2
    omega
  have hWs : s.WarmedH U.vm := State.WarmedH.trans hW0 hW
  have hcl : s.vm.findClass cls = some ce.cls := by
    have h9 := hO.cls
    rw [hvm] at h9
    exact h9
  have hall : s.sameButNew ({ U with vm := s.vm } : State) locs mc ms := by
    subst hA
    obtain ⟨e1, e2⟩ := hsame
    rw [State.setFrames_setFrames] at e1
    have h2 : (T.setVm s.vm).sameButNew ({ U with vm := s.vm } : State) [] (0 + 1) (0 + 6) := ⟨e1, e2⟩
    have h3 := X.same.trans h2
    rw [List.append_nil] at h3
    exact h3.mono hc hs
  refine ⟨U, ?_, .threw T.heap.size, hrun, hend, Or.inr ⟨T.heap.size, rfl, cls, ce, locs, hx U hWs.alike f1 f3 (fun q hq => f2 q hq (fun z hz => nomatch hz)), hce, hO.vm, hcl, hWs, hall, hf⟩⟩
  refine st1 _ ?_
  show Steps p.tables e below (T1.setTop { method := m, pc := pc + 3, locals := ls, stack := .ref T.heap.size :: rest, locked := none }) _
  jvm_step X₁.here [X₁.here.top, hexec, d3', Value.category]
  exact X₁.ldcStringW hexec (own := own) (text := text) (index := is) (a := sa) hown' hstr'.1 hstr'.2
    (g := { method := m, pc := pc + 4, locals := ls, stack := .ref T.heap.size :: .ref T.heap.size :: rest, locked := none }) rfl d4' _ hsteps
end zThrow
section zThrow2
variable {g : zG} {I J : zI} {pc a b : Nat} {L L' : zL} {st rest as : List Value} {h : zH} {mc ms mc1 ms1 mc2 ms2 : Nat} {Q Q1 : zR → zH → Prop}
theorem zn_throw {ik E : Nat} (hf : zF I pc = some (.new ik, 3, E, 1)) (hfr : 6 ≤ zFr I) (hlo : (st.map fun v => v.category).sum + 82 ≤ zLo I) (hq : Q (.inr E) (zthr h)) : Zn g I pc L st h (mc + 1) (ms + 6) Q := by
  intro p e R s m args below meth c H locs cells slots cT sT ls hC hR hL hl a1 a2 a3 a4
  obtain ⟨hE, hexI, is, ic, tx, hstr, hcl, hini, hat, d3, hd⟩ : zTh I pc ik E := hC.lk hf
  obtain ⟨sa, hsa⟩ := hC.zS.2.2.2.2.2.2.1 _ _ _ hstr
  have hz := hC.zS
  have hkeep : ∀ q : Nat, q < (zgH g).size → ¬ zg1 g < q → H[q]? = (zgH g)[q]? := fun q _ h9 => hR.2.2.2.1 q (by omega)
  have hU := hz.2.2.2.2.2.2.2.1.kept (H1 := H) hkeep
  have hN := hz.2.2.2.2.2.2.2.2.1.kept (H1 := H) hkeep
  have hat' : ∀ w ∈ vx_atS (zNm I).cls ic (zex E) ["java/lang/RuntimeException", "java/lang/Exception"], w.before args s = true := fun w hw => by
    obtain ⟨w1, w2⟩ := hat w hw
    rcases w2 with w2 | w2
    · exact hC.hts w (List.mem_filter.mpr ⟨w1, w2⟩)
    · exact va_Nw.use (zxw_on w2) (hz.2.2.2.2.1 w w1 w2)
  have hgood : ∀ w ∈ Cond.classLink (zNm I).cls ik (zex E) :: Cond.initialized (zex E) :: vx_atS (zNm I).cls ic (zex E) ["java/lang/RuntimeException", "java/lang/Exception"], vx_ot w = true := fun w hw => by
    rcases List.mem_cons.mp hw with rfl | hw
    · rfl
    · rcases List.mem_cons.mp hw with rfl | hw
      · rfl
      · obtain ⟨-, w2⟩ := hat w hw
        unfold vx_ot
        rcases w2 with w2 | w2
        · rw [w2, Bool.or_true]
        · rw [zxw_on w2, Bool.true_or]
  have hfit : Bundle.fit (zex E) = true := by
    match E, hE with
    | 0, _ => decide +kernel
    | 1, _ => decide +kernel
    | 2, _ => decide +kernel
  have hnames : ∀ n ∈ ["java/lang/RuntimeException", "java/lang/Exception"], Bundle.fit n = true := by decide +kernel
  have hfrm := hC.2.2.2.2.2.2.2.2.2.2.2.2.1
  have hloc := hC.2.2.2.2.2.2.2.2.2.2.2.2.2
  have hout : ∀ k : Nat, ∀ x ∈ c.exceptionTable.toList, covers x k = false := fun k => by rw [hC.2.2.2.2.2.1, hexI]; intro x hx; exact nomatch hx
  have hx : ∀ t : State, s.vm.Alike t.vm → H.size ≤ t.heap.size → t.heap.size = H.size + 1 → (∀ q : Nat, q < H.size → t.heap[q]? = H[q]?) → zXc g Q (zex E) s t := fun t _ _ h2 h3 => ⟨E, zthr h, hq, hE, rfl, hR.thr h2 h3⟩
  have hl82 : (((st.map (zt g)).map fun v => v.category)).sum + (13 * (["java/lang/RuntimeException", "java/lang/Exception"].length + 1) + 43) ≤ R.locals := by
    rw [zcat]
    show (st.map fun v => v.category).sum + (13 * 3 + 43) ≤ R.locals
    omega
  rcases hd with ⟨d4, d6, d9⟩ | ⟨d4, d6, d9⟩
  · exact zx_throwS (sa := sa) hC.1 hC.2.1 hz.1 hC.own hfit hnames (hC.hts _ hcl) (hC.hts _ hini) hsa hat' hgood hU hN (hL.1.trans hC.2.2.1.symm) (hC.dec hf) d3 d4 d6 d9 (hout _) (by show 2 + 3 < R.frames; omega) hl82 (by omega) (by omega) hC.2.2.2.2.1 hx hl (by omega) (by omega)
  · exact zx_throwSW (sa := sa) hC.1 hC.2.1 hz.1 hC.own hfit hnames (hC.hts _ hcl) (hC.hts _ hini) hsa hat' hgood hU hN (hL.1.trans hC.2.2.1.symm) (hC.dec hf) d3 d4 d6 d9 (hout _) (by show 2 + 3 < R.frames; omega) hl82 (by omega) (by omega) hC.2.2.2.2.1 hx hl (by omega) (by omega)
/-! catching, in the law's callers -/
def zcx : Nat → Nat := fun k => if k = 13 then 0 else if k = 15 then 1 else if k = 28 then 2 else 3
def zfind : List (Nat × Nat × Nat × Nat) → Nat → Nat → Option Nat
  | [], _, _ => none
  | q :: r, pc, E => if zcx q.2.2.2 < 3 then (if q.1 ≤ pc ∧ pc < q.2.1 ∧ zcx q.2.2.2 = E then some q.2.2.1 else zfind r pc E) else none
theorem zg_cx : ∀ k : Nat, zcx k < 3 → k ≠ 0 ∧ Cond.classLink RL k (zex (zcx k)) ∈ zgt := by
  intro k hk
  unfold zcx at hk ⊢
  by_cases h0 : k = 13
  · subst h0; exact ⟨by decide, zg_in 600 (by decide +kernel) (by decide +kernel)⟩
  · rw [if_neg h0] at hk ⊢
    by_cases h1 : k = 15
    · subst h1; exact ⟨by decide, zg_in 601 (by decide +kernel) (by decide +kernel)⟩
    · rw [if_neg h1] at hk ⊢
      by_cases h2 : k = 28
      · subst h2; exact ⟨by decide, zg_in 772 (by decide +kernel) (by decide +kernel)⟩
      · rw [if_neg h2] at hk
        omega
theorem zg_cast : ∀ E : Nat, E < 3 → Cond.castable (zex E) (zex E) ∈ lw_tbl := by
  intro E hE
  match E, hE with
  | 0, _ => exact List.mem_of_getElem? (i := 608) (by decide +kernel)
  | 1, _ => exact List.mem_of_getElem? (i := 680) (by decide +kernel)
  | 2, _ => exact List.mem_of_getElem? (i := 792) (by decide +kernel)
theorem zfind_split : ∀ (l : List (Nat × Nat × Nat × Nat)) (pc E hd : Nat), zfind l pc E = some hd → ∃ (pre : List (Nat × Nat × Nat × Nat)) (x : Nat × Nat × Nat × Nat) (suf : List (Nat × Nat × Nat × Nat)), l = pre ++ x :: suf ∧ x.2.2.1 = hd ∧ x.1 ≤ pc ∧ pc < x.2.1 ∧ zcx x.2.2.2 = E ∧ zcx x.2.2.2 < 3 ∧ ∀ z ∈ pre, zcx z.2.2.2 < 3 ∧ (¬ (z.1 ≤ pc ∧ pc < z.2.1) ∨ zcx z.2.2.2 ≠ E)
  | [], pc, E, hd, h => by cases h
  | q :: r, pc, E, hd, h => by
    unfold zfind at h
    by_cases h3 : zcx q.2.2.2 < 3
    · rw [if_pos h3] at h
      by_cases hq : q.1 ≤ pc ∧ pc < q.2.1 ∧ zcx q.2.2.2 = E
      · rw [if_pos hq] at h
        exact ⟨[], q, r, rfl, Option.some.inj h, hq.1, hq.2.1, hq.2.2, h3, fun z hz => nomatch hz⟩
      · rw [if_neg hq] at h
        obtain ⟨pre, x, suf, e1, e2, e3, e4, e5, e6, e7⟩ := zfind_split r pc E hd h
        refine ⟨q :: pre, x, suf, by rw [e1]; rfl, e2, e3, e4, e5, e6, fun z hz => ?_⟩
        rcases List.mem_cons.mp hz with rfl | hz
        · refine ⟨h3, ?_⟩
          by_cases hE : zcx z.2.2.2 = E
          · exact Or.inl fun hh => hq ⟨hh.1, hh.2, hE⟩
          · exact Or.inr hE
        · exact e7 z hz
    · rw [if_neg h3] at h
      cases h
theorem zHas.sN {ls' : Array Slot} {n i : Nat} {w : Value} (h : lv_has ls' n ((i, w) :: (zlv g L).filter (fun q => !(q.1 == i) && !(q.1 + 1 == i && q.2.category == 2)))) : zHas g ls' n ((zkill L i).set i none) := by
  refine zHas.of h.1 h.2.1 fun j v hv => ?_
  by_cases hj : j = i
  · subst hj
    by_cases hl : j < (zkill L j).length
    · rw [List.getElem?_set_self hl] at hv
      cases hv
    · rw [List.getElem?_eq_none (by rw [List.length_set]; omega)] at hv
      cases hv
  · rw [List.getElem?_set_ne (Ne.symm hj)] at hv
    obtain ⟨h1, h2⟩ := zkill_get hv
    refine h.2.2 (j, zt g v) (List.mem_cons_of_mem _ (List.mem_filter.mpr ⟨zlv_mem h1, ?_⟩))
    simp only [zt_cat]
    by_cases hk : j + 1 = i
    · have : ¬ v.category = 2 := fun z => h2 ⟨hk, z⟩
      simp [hj, this]
    · simp [hj, hk]
/-- a call of the class, with the handlers of a caller of the law's -/
theorem zn_callVC {idx o ci : Nat} {fs : List Value} (hf : zF I pc = some (.invokevirtual idx, 3, a, b)) (hJ : zP a = J) (hst : st = as.reverse ++ .ref o :: rest) (hb : as.length = b) (ho : h.1 o = some (.inr (ci, fs))) (hcl : (vwCl[ci]?).map (fun q => q.1) = some (zNm J).cls) (hown : (zNm I).cls = RL) (hexJ : zEx J = [])
    (hfr : zFr J + 1 ≤ zFr I) (hlo : 8 + (zMx J + 11) + zLo J ≤ zLo I) (hsl : (zsl (.ref o :: as)).length ≤ zMx J) (hre : (rest.map fun v => v.category).sum ≤ 8)
    (h1 : Zm g J (.ref o :: as) h mc1 ms1 Q1) (h2 : ∀ v h', Q1 (.inl v) h' → Zn g I (pc + 3) L (v.toList ++ rest) h' mc2 ms2 Q)
    (h3 : ∀ E h', Q1 (.inr E) h' → ∃ (hd i len a9 b9 : Nat), zfind (zEx I) pc E = some hd ∧ ((∃ n : Fin 4, (n : Nat) = i ∧ len = 1 ∧ zF I hd = some (.astore_n n, 1, a9, b9)) ∨ (len = 2 ∧ zF I hd = some (.astore i, 2, a9, b9))) ∧ i < zMx I ∧ Zn g I (hd + len) ((zkill L i).set i none) [] h' mc2 ms2 Q) : Zn g I pc L st h (mc1 + mc2) (ms1 + ms2) Q := by
  intro p e R s m args below meth c H locs cells slots cT sT ls hC hR hL hl a1 a2 a3 a4
  obtain ⟨haN, hJ0, hml, him, hsel⟩ : a < zN ∧ zCv (zNm I).cls idx (zP a) b := hC.lk hf
  have hokJ := hC.2.2.2.2.2.2.2.2.2.2.2.1 a haN
  subst hJ
  obtain ⟨j1, j2, j3, j4, j5, j6, -⟩ := hJ0
  have hcode := j6 hexJ
  subst hst
  rw [zrev, List.map_cons]
  have hrun := vx_runV (H := H) (e := e) (below := below) (meth := meth) (locs := locs) (cells := cells) (slots := slots) (g := F0 m pc ls ((as.map (zt g)).reverse ++ .ref (zad g o) :: rest.map (zt g))) (b := zad g o) (R := R) (As := as.map (zt g)) (rest := rest.map (zt g)) (n := b) (Ts := zgt) ⟨hC.1, hC.2.1, hC.2.2.1, hC.own, hC.hts⟩ (Zm.met (mc := mc1) (ms := ms1) hC.2.2.2.2.2.2.2.2.2.2.2.1 hokJ hsl hexJ j1 h1)
    (cwV b hC.hts (fun w hw => zgood (by
      rcases List.mem_append.mp hw with hw | hw
      · simp only [List.mem_cons, List.not_mem_nil, or_false] at hw
        rcases hw with rfl | rfl | rfl | rfl
        · exact hml
        · exact him
        · exact hsel
        · exact j5
      · rcases List.mem_cons.mp hw with rfl | hw
        · exact hcode
        · exact hw)) rfl rfl rfl ⟨rfl, j2, j3, j4⟩ ⟨Nat.le_trans hfr hC.2.2.2.2.2.2.2.2.2.2.2.2.1, Nat.le_trans hlo hC.2.2.2.2.2.2.2.2.2.2.2.2.2⟩)
    ⟨zPc_blind, zrecv hR hC.zS ho hcl, fun U hU hW => zPc_at (as := .ref o :: as) hR hC.zS hU hW⟩ rfl (by rw [List.length_map]; exact hb) hL.1 rfl (zroom g hre) (hC.dec hf) ⟨by omega, by omega⟩
  intro T hT X
  rcases hrun T hT X with ⟨v, st₀, t, T', Lc, h0, X', hL', e1, e2, ⟨v0, h', hq, hv, hr'⟩, stp⟩ | ⟨q, st₀, t, T', Lc, E, ce, h0, X', hL', e1, e2, ⟨k9, h', hq, hk3, hE, hr'⟩, hce, hcv, hclE, stp⟩
  · obtain rfl : v = v0.map (zt g) := by cases hv; rfl
    obtain ⟨t2, b1, b2⟩ := h2 v0 h' hq p e R s m args below meth c T'.heap (locs ++ Lc) (cells + mc1) (slots + ms1) cT sT ls hC (by rw [e1]; exact hr') hL (fun z hz => (List.mem_append.mp hz).elim (hl z) (hL' z)) (by omega) (by omega) a3 a4 T' rfl X'
    refine ⟨t2, stp t2 ?_, b2⟩
    rw [zback]
    exact b1
  · subst hE
    obtain ⟨hd, i, len, a9, b9, f1, f2, f3, K⟩ := h3 k9 h' hq
    obtain ⟨pre, x, suf, x1, x2, x3, x4, x5, x6, x7⟩ := zfind_split _ _ _ _ f1
    have hz := hC.zS
    have hcovx : covers (⟨x.1, x.2.1, x.2.2.1, x.2.2.2⟩ : ExceptionTableEntry) pc = true := by simp [covers, x3, x4]
    have hlx := zg_cx x.2.2.2 x6
    have hW := vx_catch (p := p) (l := zgl g) (e := e) (R := R) (s := s) (m := m) (args := args) (below := below) (meth := meth) (c := c) (H := T'.heap) (locs := locs ++ Lc) (cells := cells + mc1) (slots := slots + ms1) (Q := vx_MQ below (zQc g Q) (zXc g Q) args s cT sT (fun q => zg1 g < q)) (pc := pc) (ls := ls) (rest := rest.map (zt g)) (own := RL) (name := zex k9) (E := zex k9) (ce := ce) (q := q)
      (by rw [← hown]; exact hC.own) (tableOf pre) ⟨x.1, x.2.1, x.2.2.1, x.2.2.2⟩ (tableOf suf) (by rw [hC.2.2.2.2.2.1, x1]; unfold tableOf; rw [List.map_append, List.map_cons])
      (fun z hz9 => by
        obtain ⟨z0, hz0, rfl⟩ := List.mem_map.mp hz9
        obtain ⟨w1, w2⟩ := x7 z0 hz0
        have hlz := zg_cx z0.2.2.2 w1
        rcases w2 with w2 | w2
        · left
          have : ¬ (z0.1 ≤ pc ∧ pc < z0.2.1) := w2
          simp only [covers]
          by_cases y1 : z0.1 ≤ pc
          · have y2 : ¬ pc < z0.2.1 := fun y => this ⟨y1, y⟩
            simp [y2]
          · simp [y1]
        · exact Or.inr ⟨hlz.1, zex (zcx z0.2.2.2), hC.hts _ hlz.2, hz.2.2.2.2.2.1 k9 _ hk3 w1 (Ne.symm w2)⟩)
      hcovx hlx.1 (by rw [← x5]; exact hC.hts _ hlx.2) (va_Nw.use rfl (hz.2.2.2.2.1 _ (zg_cast k9 hk3) rfl)) (by rw [e1]; exact hce) hcv hclE
      (by
        show W p (zgl g) e R s m args below meth c T'.heap (locs ++ Lc) (cells + mc1) (slots + ms1) _ (F0 m x.2.2.1 ls [.ref q])
        rw [x2]
        rcases f2 with ⟨n, rfl, rfl, f2⟩ | ⟨rfl, f2⟩
        · exact lv_astore_n hC.1 hC.2.1 (hC.dec f2) rfl hL f3 rfl (fun ls' hl9 => K p e R s m args below meth c T'.heap (locs ++ Lc) (cells + mc1) (slots + ms1) cT sT ls' hC (by rw [e1]; exact hr') (zHas.sN hl9) (fun z hz => (List.mem_append.mp hz).elim (hl z) (hL' z)) (by omega) (by omega) a3 a4)
        · exact lv_astore hC.1 hC.2.1 (hC.dec f2) hL f3 rfl (fun ls' hl9 => K p e R s m args below meth c T'.heap (locs ++ Lc) (cells + mc1) (slots + ms1) cT sT ls' hC (by rw [e1]; exact hr') (zHas.sN hl9) (fun z hz => (List.mem_append.mp hz).elim (hl z) (hL' z)) (by omega) (by omega) a3 a4))
    obtain ⟨t2, b1, b2⟩ := hW T' rfl X'
    exact ⟨t2, stp.trans b1, b2⟩
/-! System.arraycopy, and an array of Pages -/
theorem zg_copy : Cond.native arraycopyName ∈ zgt ∧ Cond.static arraycopyName ∈ zgt ∧ Cond.initialized "java/lang/System" ∈ zgt := ⟨zg_in 744 (by decide +kernel) (by decide +kernel), zg_in 743 (by decide +kernel) (by decide +kernel), zg_in 119 (by decide +kernel) (by decide +kernel)⟩
theorem zn_copy {idx src dst n0 n1 : Nat} {f f1 : Nat → Int32} {sp dp n : Int32} (hf : zF I pc = some (.invokestatic idx, 3, 5000, b)) (hp0 : 0 < src) (hp1 : 0 < dst) (ho0 : h.1 src = some (.inl (n0, .inl f))) (ho1 : h.1 dst = some (.inl (n1, .inl f1)))
    (h1 : ¬ sp < 0) (h2 : ¬ dp < 0) (h3 : ¬ n < 0) (h4 : sp.toNatClampNeg + n.toNatClampNeg ≤ n0) (h5 : dp.toNatClampNeg + n.toNatClampNeg ≤ n1) (hfr : 1 ≤ zFr I) (hlo : (st.map fun v => v.category).sum + 18 ≤ zLo I)
    (K : Zn g I (pc + 3) L st (zup h dst (.inl (n1, .inl (va_cpy f f1 sp.toNatClampNeg dp.toNatClampNeg n.toNatClampNeg)))) mc ms Q) : Zn g I pc L (.int n :: .int dp :: .ref dst :: .int sp :: .ref src :: st) h mc ms Q := by
  intro p e R s m args below meth c H locs cells slots cT sT ls hC hR hL hl a1 a2 a3 a4
  have hlk : Cond.methodLink (zNm I).cls idx arraycopyName ∈ zgt := hC.lk hf
  have hK := hC.zS.2.2.1
  have nn : ∀ z : Int32, ¬ z < 0 → z.toInt = (z.toNatClampNeg : Int) := by
    intro z hz
    have hz0 : (0 : Int) ≤ z.toInt := by
      have := Int32.not_lt.mp hz
      simpa using Int32.le_iff_toInt_le.mp this
    show z.toInt = ((z.toInt.toNat : Nat) : Int)
    omega
  intro T hT X
  have hc0 : H[zad g src]? = some (vp_cell (zgI g) (n0, .inl f)) := hR.at ho0 hp0
  have hc1 : H[zad g dst]? = some (vp_cell (zgI g) (n1, .inl f1)) := hR.at ho1 hp1
  obtain ⟨-, k0, hk0, cm0, hkk0⟩ := (hK.2 0 _ rfl).1 n0 (fun j => .int (f j))
  obtain ⟨-, k1, hk1, cm1, hkk1⟩ := (hK.2 0 _ rfl).1 n1 (fun j => .int (f1 j))
  obtain ⟨vm', X', step⟩ := X.arraycopy hC.1 hC.own (hC.hts _ hlk) (hC.hts _ zg_copy.1) (hC.hts _ zg_copy.2.1) (hC.hts _ zg_copy.2.2) (src := zad g src) (dst := zad g dst) (cs := vp_cell (zgI g) (n0, .inl f)) (cd := vp_cell (zgI g) (n1, .inl f1)) (srcPos := sp) (destPos := dp) (n := n) (by rw [hT]; exact hc0) (by rw [hT]; exact hc1)
    (fun _ h => by cases h) (fun _ h => by cases h) (fun h => by cases h) (fun h => by cases h) hk0 hk1 hkk0 hkk1 (by simp [refKind]) h1 h2 h3
    (by rw [nn sp h1, nn n h3]; show ¬ _ > ((arrV (zgI g) n0 (fun j => .int (f j))).slots.size : Int); rw [arrV_size]; omega)
    (by rw [nn dp h2, nn n h3]; show ¬ _ > ((arrV (zgI g) n1 (fun j => .int (f1 j))).slots.size : Int); rw [arrV_size]; omega)
    (fun vm₁ _ i hi => by
      have e : (vp_cell (zgI g) (n0, .inl f)).slots.getD (sp.toNatClampNeg + i) .null = .int (f (sp.toNatClampNeg + i)) := by
        show (arrV (zgI g) n0 (fun j => .int (f j))).slots.getD _ _ = _
        rw [Array.getD_eq_getD_getElem?, arrV_read _ _ (by omega)]
        rfl
      refine ⟨?_, ?_⟩
      · rw [e]
        rfl
      · rw [e]
        exact trivial)
    (g := F0 m pc ls (.int n :: .int dp :: .ref (zad g dst) :: .int sp :: .ref (zad g src) :: st.map (zt g))) rfl (by rw [hC.2.2.1]; exact hL.1) (rest := st.map (zt g)) rfl (by rw [hC.2.1]; exact hC.dec hf) (Nat.le_trans hfr hC.2.2.2.2.2.2.2.2.2.2.2.2.1) (by
      have := hC.2.2.2.2.2.2.2.2.2.2.2.2.2
      show 2 * 0 + (((st.map (zt g)).map fun v => v.category)).sum + (nativeFrameWords "java/lang/System" "arraycopy" 5 + 11) ≤ _
      rw [zcat, show nativeFrameWords "java/lang/System" "arraycopy" 5 = 7 by decide +kernel]
      omega)
  have e1 : copied (vp_cell (zgI g) (n0, .inl f)) (vp_cell (zgI g) (n1, .inl f1)) sp dp n = vp_cell (zgI g) (n1, .inl (va_cpy f f1 sp.toNatClampNeg dp.toNatClampNeg n.toNatClampNeg)) := va_copied (fun z => .int z) (zgI g) (zgI g) f f1 h4
  rw [e1] at X' step
  have hl9 : zad g dst < H.size := (Array.getElem?_eq_some_iff.mp hc1).1
  have hheap : ((T.setVm vm').setCell (zad g dst) (vp_cell (zgI g) (n1, .inl (va_cpy f f1 sp.toNatClampNeg dp.toNatClampNeg n.toNatClampNeg)))).heap = H.setIfInBounds (zad g dst) (vp_cell (zgI g) (n1, .inl (va_cpy f f1 sp.toNatClampNeg dp.toNatClampNeg n.toNatClampNeg))) := by rw [← hT]; rfl
  have oq : ∀ q : Nat, q ≠ zad g dst → (H.setIfInBounds (zad g dst) (vp_cell (zgI g) (n1, .inl (va_cpy f f1 sp.toNatClampNeg dp.toNatClampNeg n.toNatClampNeg))))[q]? = H[q]? := fun q hq => by simp [Array.getElem?_setIfInBounds, Ne.symm hq]
  obtain ⟨t, b1, b2⟩ := K p e R s m args below meth c _ _ cells slots cT sT ls hC (hR.put ho1 hp1 (show (H.setIfInBounds (zad g dst) _)[zad g dst]? = some _ by simp [Array.getElem?_setIfInBounds, hl9]) (by simp) oq) hL (fun z hz => by
    rcases List.mem_append.mp hz with hz | hz
    · exact hl z hz
    · obtain ⟨y, -, hy⟩ := List.mem_map.mp hz
      rw [← hy]
      show zg1 g < zad g dst
      rw [zad_pos g hp1]; omega) a1 a2 a3 a4 _ hheap X'
  exact ⟨t, step t b1, b2⟩
theorem zn_anew {idx : Nat} {n : Int32} {N : Nat} (hf : zF I pc = some (.anewarray idx, 3, a, b)) (hn : ¬ n < 0) (hN : n.toNatClampNeg = N) (hb : N * 4 ≤ 536870912) (K : Zn g I (pc + 3) L (.ref h.2 :: st) (znew h (.inl (N, .inr (.inr (.inr (.inr (fun _ => none))))))) mc ms Q) : Zn g I pc L (.int n :: st) h (mc + 1) (ms + N) Q := by
  intro p e R s m args below meth c H locs cells slots cT sT ls hC hR hL hl a1 a2 a3 a4
  have hlk : Cond.classLink (zNm I).cls idx RX7 ∈ zgt := hC.lk hf
  have hK := hC.zS.2.2.1
  subst hN
  refine W.anew hC.1 hC.2.1 hC.own (hC.hts _ hlk) (va_AO.use hC.zS.2.2.2.2.2.2.2.2.2) rfl (hC.dec hf) rfl hn hb (by omega) (by omega) fun cA kA comp f1 f2 f3 f4 => ?_
  obtain ⟨kA9, comp9, -, -, -, g4⟩ := (hK.2 3 _ rfl).2
  have hcc : cA = zgP g := Option.some.inj (f1.symm.trans g4)
  subst hcc
  generalize hH1 : H.push ({ cls := zgP g, slots := Array.replicate n.toNatClampNeg .null, vm := .none } : Cell) = H1
  have z1 : H1.size = H.size + 1 := by rw [← hH1, Array.size_push]
  have e1 : H1[H.size]? = some (arrV (zgP g) n.toNatClampNeg (fun _ => .null)) := by rw [← hH1, Array.getElem?_push_size, ← arrV_new]
  have o1 : ∀ q : Nat, q < H.size → H1[q]? = H[q]? := fun q hq => by rw [← hH1, Array.getElem?_push, if_neg (Nat.ne_of_lt hq)]
  have hat : va_at (zgD g) vwCl (H.size, zE g (.inl (n.toNatClampNeg, .inr (.inr (.inr (.inr (fun _ => none))))))) H1 := e1
  have := K p e R s m args below meth c H1 locs (cells + 1) (slots + n.toNatClampNeg) cT sT ls hC (hR.new hat z1 o1) hL hl (by omega) (by omega) a3 a4
  rw [show (F0 m (pc + 3) ls (List.map (zt g) (.ref h.2 :: st))) = F0 m (pc + 3) ls (.ref H.size :: st.map (zt g)) by rw [List.map_cons]; show F0 m (pc + 3) ls (.ref (zad g h.2) :: _) = _; rw [hR.top]] at this
  exact this
theorem zg_math : Cond.static Lib.Math.max.name ∈ zgt ∧ Cond.code Lib.Math.max.name Lib.Math.max.code 2 (some .int) ∈ zgt ∧ Cond.static Lib.Math.min.name ∈ zgt ∧ Cond.code Lib.Math.min.name Lib.Math.min.code 2 (some .int) ∈ zgt ∧ Cond.initialized "java/lang/Math" ∈ zgt := ⟨zg_in 337 (by decide +kernel) (by decide +kernel), zg_in 338 (by decide +kernel) (by decide +kernel), zg_in 746 (by decide +kernel) (by decide +kernel), zg_in 747 (by decide +kernel) (by decide +kernel), zg_in 112 (by decide +kernel) (by decide +kernel)⟩
theorem zn_max {idx : Nat} {x y : Int32} (hf : zF I pc = some (.invokestatic idx, 3, 5002, b)) (hfr : 1 ≤ zFr I) (hlo : (st.map fun v => v.category).sum + 13 ≤ zLo I) (K : Zn g I (pc + 3) L (.int (if x < y then y else x) :: st) h mc ms Q) : Zn g I pc L (.int y :: .int x :: st) h mc ms Q := by
  intro p e R s m args below meth c H locs cells slots cT sT ls hC hR hL hl a1 a2 a3 a4
  have hlk : Cond.methodLink (zNm I).cls idx Lib.Math.max.name ∈ zgt := hC.lk hf
  refine va_mmax hC.1 hC.2.1 (hC.2.2.1.trans hL.1.symm) hC.own (hC.hts _ hlk) (hC.hts _ zg_math.1) (hC.hts _ zg_math.2.2.2.2) (hC.hts _ zg_math.2.1) (Nat.le_trans hfr hC.2.2.2.2.2.2.2.2.2.2.2.2.1) ?_ (by omega) (by omega) (hC.dec hf) (K p e R s m args below meth c H locs cells slots cT sT ls hC hR hL hl a1 a2 a3 a4)
  have := hC.2.2.2.2.2.2.2.2.2.2.2.2.2
  rw [zcat]
  omega
theorem zn_min {idx : Nat} {x y : Int32} (hf : zF I pc = some (.invokestatic idx, 3, 5003, b)) (hfr : 1 ≤ zFr I) (hlo : (st.map fun v => v.category).sum + 13 ≤ zLo I) (K : Zn g I (pc + 3) L (.int (if y < x then y else x) :: st) h mc ms Q) : Zn g I pc L (.int y :: .int x :: st) h mc ms Q := by
  intro p e R s m args below meth c H locs cells slots cT sT ls hC hR hL hl a1 a2 a3 a4
  have hlk : Cond.methodLink (zNm I).cls idx Lib.Math.min.name ∈ zgt := hC.lk hf
  refine va_mmin hC.1 hC.2.1 (hC.2.2.1.trans hL.1.symm) hC.own (hC.hts _ hlk) (hC.hts _ zg_math.2.2.1) (hC.hts _ zg_math.2.2.2.2) (hC.hts _ zg_math.2.2.2.1) (Nat.le_trans hfr hC.2.2.2.2.2.2.2.2.2.2.2.2.1) ?_ (by omega) (by omega) (hC.dec hf) (K p e R s m args below meth c H locs cells slots cT sT ls hC hR hL hl a1 a2 a3 a4)
  have := hC.2.2.2.2.2.2.2.2.2.2.2.2.2
  rw [zcat]
  omega
end zThrow2
