/-! what the tables say, in words that move along: the good words by 'zgt', the others by zS -/
def zgt : List Cond := lw_tbl.filter goodWord
theorem zg_in {w : Cond} (i : Nat) (h : lw_tbl[i]? = some w) (hg : goodWord w = true) : w ∈ zgt := List.mem_filter.mpr ⟨List.mem_of_getElem? h, hg⟩
theorem zg_good {w : Cond} (h : w ∈ zgt) : goodWord w = true := (List.mem_filter.mp h).2
def zxw : Cond → Bool
  | .methodLinkNest .. => true
  | .fieldLinkNest .. => true
  | .castable .. => true
  | .declares .. => true
  | _ => false
theorem zxw_on {w : Cond} (h : zxw w = true) : w.onTables = true := by cases w <;> first | rfl | cases h
theorem zxw_warm {w : Cond} (hw : zxw w = true) {s U : State} (hW : s.WarmedH U.vm) (h : va_Nw w s) : va_Nw w U := by
  cases w <;> first | exact va_Nw.warmM hW h | exact va_Nw.warmF hW h | exact va_Nw.warmC hW h | exact va_Nw.warmD hW h | cases hw
def zex : Nat → String
  | 0 => "java/lang/IllegalArgumentException"
  | 1 => "java/lang/IllegalStateException"
  | _ => "java/lang/IndexOutOfBoundsException"
def zS (g : zG) (U : State) : Prop :=
  (zgl g).stackTraces = false ∧ zgb g ≤ zg1 g ∧ va_K (zgD g) vwCl (ztys g) U ∧ va_X (zgb g) (zgn g) (zgx g) U (zgH g) ∧ (∀ w ∈ lw_tbl, zxw w = true → va_Nw w U) ∧
  (∀ i j : Nat, i < 3 → j < 3 → i ≠ j → va_Nc (zex i) (zex j) U) ∧ (∀ (o : String) (k : Nat) (tx : String), Cond.stringRef o k tx ∈ lw_tbl → ∃ a, vk_R o k tx a U) ∧
  vx_Zq Bundle.tN "UNASSIGNED_STACK" Bundle.steD (fun q => zg1 g < q) U (zgH g) ∧ vx_Zq Bundle.tN "SUPPRESSED_SENTINEL" Bundle.listD (fun q => zg1 g < q) U (zgH g) ∧ va_AO RX7 U
theorem zS.warm {g : zG} {s U : State} (hW : s.WarmedH U.vm) (h : zS g s) : zS g U := by
  obtain ⟨h1, h2, h3, h4, h5, h6, h7, h8, h9, h10⟩ := h
  exact ⟨h1, h2, va_K.moved hW.alike h3, va_X.moved hW.alike h4, fun w hw hx => zxw_warm hx hW (h5 w hw hx), fun i j a b c => va_Nc.moved hW.alike (h6 i j a b c),
    fun o k tx hm => by obtain ⟨a, ha⟩ := h7 o k tx hm; exact ⟨a, vk_R.warm hW ha⟩, vx_Zq.moved hW.alike h8, vx_Zq.moved hW.alike h9, va_AO.moved hW.alike h10⟩
/-! the rows of a method are what its bytes say, and their links are in the tables -/
def zty : Nat → Nat → FieldType
  | 0 => tyX0
  | 1 => tyX1
  | 2 => tyX2
  | 3 => tyX3
  | 4 => tyX4
  | 5 => tyX5
  | 6 => tyX6
  | 7 => tyX7
  | 8 => tyX9
  | _ => tyX10
def zFd (own : String) (idx ci k : Nat) : Prop := ∃ (C : String) (T : u_T) (N : Nat), vwCl[ci]? = some (C, T, N) ∧ k < N ∧ (∀ w ∈ u_ws C T N, w ∈ zgt) ∧
  (Cond.fieldLink own idx (T k).1 (T k).2.1 (T k).2.2.1 ∈ zgt ∨ ∃ host, Cond.fieldLinkNest own idx (T k).1 (T k).2.1 (T k).2.2.1 host ∈ lw_tbl)
def zPt (own nm : String) (idx ci k : Nat) : Prop := ∃ (C : String) (T : u_T) (N : Nat), vwCl[ci]? = some (C, T, N) ∧ k < N ∧ (∀ w ∈ u_ws C T N, w ∈ zgt) ∧
  Cond.fieldLink own idx (T k).1 (T k).2.1 (T k).2.2.1 ∈ zgt ∧ (∀ j, j < N → parseFieldDescriptor (T j).2.2.1 = some (zty ci j)) ∧ (∀ a, a < N → ∀ b, b < N → a ≠ b → (T a).2.1 ≠ (T b).2.1) ∧
  ((T k).2.2.2 = false ∨ ((T k).2.2.2 = true ∧ nm = "<init>" ∧ (T k).1 = own))
def zNw (own : String) (idx ci : Nat) : Prop := ∃ (C : String) (T : u_T) (N : Nat), vwCl[ci]? = some (C, T, N) ∧ (∀ w ∈ u_ws C T N, w ∈ zgt) ∧ (∀ j, j < N → parseFieldDescriptor (T j).2.2.1 = some (zty ci j)) ∧
  Cond.classLink own idx C ∈ zgt ∧ Cond.instantiable C N ∈ zgt ∧ Cond.initialized C ∈ zgt
def zJ (J : zI) (b : Nat) : Prop := plainName (zNm J).cls = true ∧ (zNm J).cls ≠ "java/lang/invoke/MethodHandle" ∧ (zNm J).cls ≠ "java/lang/invoke/VarHandle" ∧
  (parseMethodDescriptor (zNm J).desc).map (fun d => d.parameters.length) = some b ∧ Cond.initialized (zNm J).cls ∈ zgt ∧
  (zEx J = [] → Cond.code (zNm J) (zBy J) (zMx J) (zRt J) ∈ zgt) ∧ (zEx J ≠ [] → Cond.codeWith (zNm J) (zBy J) (zMx J) (zRt J) (zEx J) ∈ zgt)
def zCv (own : String) (idx : Nat) (J : zI) (b : Nat) : Prop := zJ J b ∧ Cond.methodLink own idx (zNm J) ∈ zgt ∧ Cond.instanceMethod (zNm J) ∈ zgt ∧ Cond.selects (zNm J).cls (zNm J) (zNm J) ∈ zgt
def zCs (own : String) (idx : Nat) (J : zI) (b : Nat) : Prop := zJ J b ∧ Cond.static (zNm J) ∈ zgt ∧ (Cond.methodLink own idx (zNm J) ∈ zgt ∨ (zEx J = [] ∧ ∃ host, Cond.methodLinkNest own idx (zNm J) host ∈ lw_tbl))
def zCi (own : String) (idx : Nat) (J : zI) (b : Nat) : Prop := zJ J b ∧ zEx J = [] ∧ zRt J = none ∧ (zNm J).name = "<init>" ∧ Cond.instanceMethod (zNm J) ∈ zgt ∧ (Cond.methodLink own idx (zNm J) ∈ zgt ∨ ∃ host, Cond.methodLinkNest own idx (zNm J) host ∈ lw_tbl)
/-- 'throw new E("text")' from pc on -/
def zTh (I : zI) (pc ik E : Nat) : Prop := E < 3 ∧ zEx I = [] ∧ ∃ (is ic : Nat) (tx : String), Cond.stringRef (zNm I).cls is tx ∈ lw_tbl ∧ Cond.classLink (zNm I).cls ik (zex E) ∈ zgt ∧ Cond.initialized (zex E) ∈ zgt ∧
  (∀ w ∈ (vx_atS (zNm I).cls ic (zex E) ["java/lang/RuntimeException", "java/lang/Exception"]), w ∈ lw_tbl ∧ (goodWord w = true ∨ zxw w = true)) ∧
  decode (zBy I) (pc + 3) = .ok (.dup, 1) ∧
  ((decode (zBy I) (pc + 4) = .ok (.ldc is, 2) ∧ decode (zBy I) (pc + 6) = .ok (.invokespecial ic, 3) ∧ decode (zBy I) (pc + 9) = .ok (.athrow, 1)) ∨
   (decode (zBy I) (pc + 4) = .ok (.ldc_w is, 3) ∧ decode (zBy I) (pc + 7) = .ok (.invokespecial ic, 3) ∧ decode (zBy I) (pc + 10) = .ok (.athrow, 1)))
def zLk (I : zI) (pc : Nat) : Instr → Nat → Nat → Prop
  | .getfield idx, a, b => zFd (zNm I).cls idx a b
  | .putfield idx, a, b => zPt (zNm I).cls (zNm I).name idx a b
  | .new idx, a, b => if b = 0 then zNw (zNm I).cls idx a else zTh I pc idx a
  | .invokevirtual idx, a, b => a < zN ∧ zCv (zNm I).cls idx (zP a) b
  | .invokestatic idx, a, b => if a = 5000 then Cond.methodLink (zNm I).cls idx arraycopyName ∈ zgt else if a = 5002 then Cond.methodLink (zNm I).cls idx Lib.Math.max.name ∈ zgt else if a = 5003 then Cond.methodLink (zNm I).cls idx Lib.Math.min.name ∈ zgt else a < zN ∧ zCs (zNm I).cls idx (zP a) b
  | .invokespecial idx, a, b => if a = 5001 then Cond.methodLink (zNm I).cls idx objectInit ∈ zgt else a < zN ∧ zCi (zNm I).cls idx (zP a) b
  | .ldc idx, a, _ => Cond.constant (zNm I).cls idx (nI a) ∈ zgt
  | .ldc2_w idx, a, _ => Cond.constantLong (zNm I).cls idx (lN a) ∈ zgt
  | .anewarray idx, _, _ => Cond.classLink (zNm I).cls idx RX7 ∈ zgt
  | _, _, _ => True
def zOK (I : zI) : Prop := ∀ (pc : Nat) (ins : Instr) (len a b : Nat), zF I pc = some (ins, len, a, b) → decode (zBy I) pc = .ok (ins, len) ∧ zLk I pc ins a b
/-- the machine around a method: I's body, started in s -/
def zC (g : zG) (I : zI) (p : Program) (R : Room) (s : State) (m : MethodId) (args : Array Value) (meth : Method) (c : Code) : Prop :=
  p.tables.exec = Jvm.exec ∧ c.code = zBy I ∧ c.maxLocals = zMx I ∧ meth.sig.returnType = zRt I ∧ meth.locks = false ∧ c.exceptionTable.toList = tableOf (zEx I) ∧
  s.vm.findClass (zNm I).cls = some m.cls ∧ meth.name = (zNm I).name ∧ (∀ w ∈ zgt, w.before args s = true) ∧ zS g s ∧ zOK I ∧ (∀ a, a < zN → zOK (zP a)) ∧ zFr I ≤ R.frames ∧ zLo I ≤ R.locals
def zQc (g : zG) (Q : zR → zH → Prop) : Array Value → State → Outcome → State → Prop := fun _ _ o t => ∃ (v : Option Value) (h : zH), Q (.inl v) h ∧ o = .returned (v.map (zt g)) ∧ zRel g h t.heap
def zXc (g : zG) (Q : zR → zH → Prop) : String → State → State → Prop := fun E _ t => ∃ (k : Nat) (h : zH), Q (.inr k) h ∧ k < 3 ∧ E = zex k ∧ zRel g h t.heap
def Zn (g : zG) (I : zI) (pc : Nat) (L : zL) (st : List Value) (h : zH) (mc ms : Nat) (Q : zR → zH → Prop) : Prop :=
  ∀ (p : Program) (e : Env) (R : Room) (s : State) (m : MethodId) (args : Array Value) (below : List Frame) (meth : Method) (c : Code) (H : Heap) (locs : List Loc) (cells slots cT sT : Nat) (ls : Array Slot),
    zC g I p R s m args meth c → zRel g h H → zHas g ls (zMx I) L → (∀ z ∈ locs, zg1 g < z.base) → cells + mc ≤ cT → slots + ms ≤ sT → cT ≤ R.cells → sT ≤ R.slots →
    W p (zgl g) e R s m args below meth c H locs cells slots (vx_MQ below (zQc g Q) (zXc g Q) args s cT sT (fun q => zg1 g < q)) (F0 m pc ls (st.map (zt g)))
def zsl (as : List Value) : zL := as.flatMap fun v => if v.category = 2 then [some v, none] else [some v]
def zent (n : Nat) (as : List Value) : zL := zsl as ++ List.replicate (n - (zsl as).length) none
def Zm (g : zG) (J : zI) (as : List Value) (h : zH) (mc ms : Nat) (Q : zR → zH → Prop) : Prop := Zn g J 0 (zent (zMx J) as) [] h mc ms Q
section zRules
variable {g : zG} {I : zI} {pc a b : Nat} {L L' : zL} {st : List Value} {h : zH} {mc ms : Nat} {Q : zR → zH → Prop}
theorem zC.dec {p : Program} {R : Room} {s : State} {m : MethodId} {args : Array Value} {meth : Method} {c : Code} (hC : zC g I p R s m args meth c) {ins : Instr} {len : Nat} (hf : zF I pc = some (ins, len, a, b)) : decode (zBy I) pc = .ok (ins, len) := (hC.2.2.2.2.2.2.2.2.2.2.1 pc ins len a b hf).1
theorem zC.lk {p : Program} {R : Room} {s : State} {m : MethodId} {args : Array Value} {meth : Method} {c : Code} (hC : zC g I p R s m args meth c) {ins : Instr} {len : Nat} (hf : zF I pc = some (ins, len, a, b)) : zLk I pc ins a b := (hC.2.2.2.2.2.2.2.2.2.2.1 pc ins len a b hf).2
theorem zC.hts {p : Program} {R : Room} {s : State} {m : MethodId} {args : Array Value} {meth : Method} {c : Code} (hC : zC g I p R s m args meth c) : ∀ w ∈ zgt, w.before args s = true := hC.2.2.2.2.2.2.2.2.1
theorem zC.zS {p : Program} {R : Room} {s : State} {m : MethodId} {args : Array Value} {meth : Method} {c : Code} (hC : zC g I p R s m args meth c) : zS g s := hC.2.2.2.2.2.2.2.2.2.1
theorem zC.own {p : Program} {R : Room} {s : State} {m : MethodId} {args : Array Value} {meth : Method} {c : Code} (hC : zC g I p R s m args meth c) : s.vm.findClass (zNm I).cls = some m.cls := hC.2.2.2.2.2.2.1
/-- fewer cells, fewer locals known, a weaker end -/
theorem zn_mono {mc' ms' : Nat} {Q' : zR → zH → Prop} (k : Zn g I pc L st h mc' ms' Q') (h1 : mc' ≤ mc) (h2 : ms' ≤ ms) (hQ : ∀ r h', Q' r h' → Q r h') : Zn g I pc L st h mc ms Q := by
  intro p e R s m args below meth c H locs cells slots cT sT ls hC hR hL hl a1 a2 a3 a4
  have K := k p e R s m args below meth c H locs cells slots cT sT ls hC hR hL hl (by omega) (by omega) a3 a4
  intro T hT X
  obtain ⟨t, b1, o, b2, b3, b4⟩ := K T hT X
  refine ⟨t, b1, o, b2, b3, ?_⟩
  rcases b4 with ⟨⟨v, h', c1, c2⟩, c3⟩ | ⟨q, c0, E, ce, LL, ⟨k9, h', c1, c2⟩, c3⟩
  · exact Or.inl ⟨⟨v, h', hQ _ _ c1, c2⟩, c3⟩
  · exact Or.inr ⟨q, c0, E, ce, LL, ⟨k9, h', hQ _ _ c1, c2⟩, c3⟩
def zle : zL → zL → Prop
  | [], _ => True
  | none :: A, _ :: B => zle A B
  | none :: A, [] => zle A []
  | some v :: A, x :: B => x = some v ∧ zle A B
  | some _ :: _, [] => False
theorem zle_get : ∀ {A B : zL}, zle A B → ∀ (i : Nat) (v : Value), A[i]? = some (some v) → B[i]? = some (some v)
  | [], _, _, i, v, hv => by simp at hv
  | none :: A, x :: B, hl, i, v, hv => by
    cases i with
    | zero => simp at hv
    | succ j =>
      rw [List.getElem?_cons_succ] at hv ⊢
      exact zle_get (A := A) (B := B) hl j v hv
  | none :: A, [], hl, i, v, hv => by
    cases i with
    | zero => simp at hv
    | succ j =>
      rw [List.getElem?_cons_succ] at hv
      have := zle_get (A := A) (B := []) hl j v hv
      simp at this
  | some w :: A, x :: B, hl, i, v, hv => by
    cases i with
    | zero =>
      simp only [List.getElem?_cons_zero] at hv ⊢
      rw [hl.1]; exact hv
    | succ j =>
      rw [List.getElem?_cons_succ] at hv ⊢
      exact zle_get (A := A) (B := B) hl.2 j v hv
theorem zn_sub (hs : zle L' L) (k : Zn g I pc L' st h mc ms Q) : Zn g I pc L st h mc ms Q := by
  intro p e R s m args below meth c H locs cells slots cT sT ls hC hR hL hl a1 a2 a3 a4
  exact k p e R s m args below meth c H locs cells slots cT sT ls hC hR (hL.sub (zle_get hs)) hl a1 a2 a3 a4
-- SIMPLE BEGIN
theorem zn_iconst {n : Int} (v : Int32) (hv : Int32.ofInt n = v) (hf : zF I pc = some (.iconst n, 1, a, b)) (k : Zn g I (pc + 1) L (.int v :: st) h mc ms Q) : Zn g I pc L (st) h mc ms Q := by
  intro p e R s m args below meth c H locs cells slots cT sT ls hC hR hL hl a1 a2 a3 a4
  exact lv_iconst hC.1 hC.2.1 (hC.dec hf) hv (k p e R s m args below meth c H locs cells slots cT sT ls hC hR hL hl a1 a2 a3 a4)
theorem zn_bipush {n : Int} (v : Int32) (hv : (Int8.ofInt n).toInt32 = v) (hf : zF I pc = some (.bipush n, 2, a, b)) (k : Zn g I (pc + 2) L (.int v :: st) h mc ms Q) : Zn g I pc L (st) h mc ms Q := by
  intro p e R s m args below meth c H locs cells slots cT sT ls hC hR hL hl a1 a2 a3 a4
  exact lv_bipush hC.1 hC.2.1 (hC.dec hf) hv (k p e R s m args below meth c H locs cells slots cT sT ls hC hR hL hl a1 a2 a3 a4)
theorem zn_sipush {n : Int} (v : Int32) (hv : (Int16.ofInt n).toInt32 = v) (hf : zF I pc = some (.sipush n, 3, a, b)) (k : Zn g I (pc + 3) L (.int v :: st) h mc ms Q) : Zn g I pc L (st) h mc ms Q := by
  intro p e R s m args below meth c H locs cells slots cT sT ls hC hR hL hl a1 a2 a3 a4
  exact lv_sipush hC.1 hC.2.1 (hC.dec hf) hv (k p e R s m args below meth c H locs cells slots cT sT ls hC hR hL hl a1 a2 a3 a4)
theorem zn_lconst {n : Fin 2} (v : Int64) (hv : Int64.ofNat (n : Nat) = v) (hf : zF I pc = some (.lconst n, 1, a, b)) (k : Zn g I (pc + 1) L (.long v :: st) h mc ms Q) : Zn g I pc L (st) h mc ms Q := by
  intro p e R s m args below meth c H locs cells slots cT sT ls hC hR hL hl a1 a2 a3 a4
  exact lv_lconst hC.1 hC.2.1 (hC.dec hf) hv (k p e R s m args below meth c H locs cells slots cT sT ls hC hR hL hl a1 a2 a3 a4)
theorem zn_dconst0 (hf : zF I pc = some (.dconst 0, 1, a, b)) (k : Zn g I (pc + 1) L (.double FP.dconst0 :: st) h mc ms Q) : Zn g I pc L (st) h mc ms Q := by
  intro p e R s m args below meth c H locs cells slots cT sT ls hC hR hL hl a1 a2 a3 a4
  exact lv_dconst0 hC.1 hC.2.1 (hC.dec hf) (k p e R s m args below meth c H locs cells slots cT sT ls hC hR hL hl a1 a2 a3 a4)
theorem zn_iload {i : Nat} {x : Int32} (hf : zF I pc = some (.iload i, 2, a, b)) (hx : L[i]? = some (some (.int x))) (k : Zn g I (pc + 2) L (.int x :: st) h mc ms Q) : Zn g I pc L (st) h mc ms Q := by
  intro p e R s m args below meth c H locs cells slots cT sT ls hC hR hL hl a1 a2 a3 a4
  exact lv_iload hC.1 hC.2.1 (hC.dec hf) (hL.at hx) (k p e R s m args below meth c H locs cells slots cT sT ls hC hR hL hl a1 a2 a3 a4)
theorem zn_iload_n {n : Fin 4} {x : Int32} (hf : zF I pc = some (.iload_n n, 1, a, b)) (hx : L[(n : Nat)]? = some (some (.int x))) (k : Zn g I (pc + 1) L (.int x :: st) h mc ms Q) : Zn g I pc L (st) h mc ms Q := by
  intro p e R s m args below meth c H locs cells slots cT sT ls hC hR hL hl a1 a2 a3 a4
  exact lv_iload_n hC.1 hC.2.1 (hC.dec hf) rfl (hL.at hx) (k p e R s m args below meth c H locs cells slots cT sT ls hC hR hL hl a1 a2 a3 a4)
theorem zn_lload {i : Nat} {x : Int64} (hf : zF I pc = some (.lload i, 2, a, b)) (hx : L[i]? = some (some (.long x))) (k : Zn g I (pc + 2) L (.long x :: st) h mc ms Q) : Zn g I pc L (st) h mc ms Q := by
  intro p e R s m args below meth c H locs cells slots cT sT ls hC hR hL hl a1 a2 a3 a4
  exact lv_lload hC.1 hC.2.1 (hC.dec hf) (hL.at hx) (k p e R s m args below meth c H locs cells slots cT sT ls hC hR hL hl a1 a2 a3 a4)
theorem zn_lload_n {n : Fin 4} {x : Int64} (hf : zF I pc = some (.lload_n n, 1, a, b)) (hx : L[(n : Nat)]? = some (some (.long x))) (k : Zn g I (pc + 1) L (.long x :: st) h mc ms Q) : Zn g I pc L (st) h mc ms Q := by
  intro p e R s m args below meth c H locs cells slots cT sT ls hC hR hL hl a1 a2 a3 a4
  exact lv_lload_n hC.1 hC.2.1 (hC.dec hf) rfl (hL.at hx) (k p e R s m args below meth c H locs cells slots cT sT ls hC hR hL hl a1 a2 a3 a4)
theorem zn_aload {i : Nat} {x : Nat} (hf : zF I pc = some (.aload i, 2, a, b)) (hx : L[i]? = some (some (.ref x))) (k : Zn g I (pc + 2) L (.ref x :: st) h mc ms Q) : Zn g I pc L (st) h mc ms Q := by
  intro p e R s m args below meth c H locs cells slots cT sT ls hC hR hL hl a1 a2 a3 a4
  exact lv_aload hC.1 hC.2.1 (hC.dec hf) (hL.at hx) (k p e R s m args below meth c H locs cells slots cT sT ls hC hR hL hl a1 a2 a3 a4)
theorem zn_aload_n {n : Fin 4} {x : Nat} (hf : zF I pc = some (.aload_n n, 1, a, b)) (hx : L[(n : Nat)]? = some (some (.ref x))) (k : Zn g I (pc + 1) L (.ref x :: st) h mc ms Q) : Zn g I pc L (st) h mc ms Q := by
  intro p e R s m args below meth c H locs cells slots cT sT ls hC hR hL hl a1 a2 a3 a4
  exact lv_aload_n hC.1 hC.2.1 (hC.dec hf) rfl (hL.at hx) (k p e R s m args below meth c H locs cells slots cT sT ls hC hR hL hl a1 a2 a3 a4)
theorem zn_dload {i : Nat} {x : UInt64} (hf : zF I pc = some (.dload i, 2, a, b)) (hx : L[i]? = some (some (.double x))) (k : Zn g I (pc + 2) L (.double x :: st) h mc ms Q) : Zn g I pc L (st) h mc ms Q := by
  intro p e R s m args below meth c H locs cells slots cT sT ls hC hR hL hl a1 a2 a3 a4
  exact lv_dload hC.1 hC.2.1 (hC.dec hf) (hL.at hx) (k p e R s m args below meth c H locs cells slots cT sT ls hC hR hL hl a1 a2 a3 a4)
theorem zn_istore {i : Nat} {x : Int32} (hf : zF I pc = some (.istore i, 2, a, b)) (hi : i < zMx I) (hs : zset1 L i (.int x) = L') (k : Zn g I (pc + 2) L' st h mc ms Q) : Zn g I pc L (.int x :: st) h mc ms Q := by
  intro p e R s m args below meth c H locs cells slots cT sT ls hC hR hL hl a1 a2 a3 a4
  subst hs
  exact lv_istore hC.1 hC.2.1 (hC.dec hf) hL hi rfl (fun ls' hL' => k p e R s m args below meth c H locs cells slots cT sT ls' hC hR (zHas.s1 (v := .int x) hL') hl a1 a2 a3 a4)
theorem zn_istore_n {n : Fin 4} {x : Int32} (hf : zF I pc = some (.istore_n n, 1, a, b)) (hi : (n : Nat) < zMx I) (hs : zset1 L n (.int x) = L') (k : Zn g I (pc + 1) L' st h mc ms Q) : Zn g I pc L (.int x :: st) h mc ms Q := by
  intro p e R s m args below meth c H locs cells slots cT sT ls hC hR hL hl a1 a2 a3 a4
  subst hs
  exact lv_istore_n hC.1 hC.2.1 (hC.dec hf) rfl hL hi rfl (fun ls' hL' => k p e R s m args below meth c H locs cells slots cT sT ls' hC hR (zHas.s1 (v := .int x) hL') hl a1 a2 a3 a4)
theorem zn_astore {i : Nat} {x : Nat} (hf : zF I pc = some (.astore i, 2, a, b)) (hi : i < zMx I) (hs : zset1 L i (.ref x) = L') (k : Zn g I (pc + 2) L' st h mc ms Q) : Zn g I pc L (.ref x :: st) h mc ms Q := by
  intro p e R s m args below meth c H locs cells slots cT sT ls hC hR hL hl a1 a2 a3 a4
  subst hs
  exact lv_astore hC.1 hC.2.1 (hC.dec hf) hL hi rfl (fun ls' hL' => k p e R s m args below meth c H locs cells slots cT sT ls' hC hR (zHas.s1 (v := .ref x) hL') hl a1 a2 a3 a4)
theorem zn_astore_n {n : Fin 4} {x : Nat} (hf : zF I pc = some (.astore_n n, 1, a, b)) (hi : (n : Nat) < zMx I) (hs : zset1 L n (.ref x) = L') (k : Zn g I (pc + 1) L' st h mc ms Q) : Zn g I pc L (.ref x :: st) h mc ms Q := by
  intro p e R s m args below meth c H locs cells slots cT sT ls hC hR hL hl a1 a2 a3 a4
  subst hs
  exact lv_astore_n hC.1 hC.2.1 (hC.dec hf) rfl hL hi rfl (fun ls' hL' => k p e R s m args below meth c H locs cells slots cT sT ls' hC hR (zHas.s1 (v := .ref x) hL') hl a1 a2 a3 a4)
theorem zn_lstore {i : Nat} {x : Int64} (hf : zF I pc = some (.lstore i, 2, a, b)) (hi : i + 1 < zMx I) (hs : zset2 L i (.long x) = L') (k : Zn g I (pc + 2) L' st h mc ms Q) : Zn g I pc L (.long x :: st) h mc ms Q := by
  intro p e R s m args below meth c H locs cells slots cT sT ls hC hR hL hl a1 a2 a3 a4
  subst hs
  exact lv_lstore hC.1 hC.2.1 (hC.dec hf) hL hi rfl (fun ls' hL' => k p e R s m args below meth c H locs cells slots cT sT ls' hC hR (zHas.s2 (v := .long x) hL') hl a1 a2 a3 a4)
theorem zn_lstore_n {n : Fin 4} {x : Int64} (hf : zF I pc = some (.lstore_n n, 1, a, b)) (hi : (n : Nat) + 1 < zMx I) (hs : zset2 L n (.long x) = L') (k : Zn g I (pc + 1) L' st h mc ms Q) : Zn g I pc L (.long x :: st) h mc ms Q := by
  intro p e R s m args below meth c H locs cells slots cT sT ls hC hR hL hl a1 a2 a3 a4
  subst hs
  exact lv_lstore_n hC.1 hC.2.1 (hC.dec hf) rfl hL hi rfl (fun ls' hL' => k p e R s m args below meth c H locs cells slots cT sT ls' hC hR (zHas.s2 (v := .long x) hL') hl a1 a2 a3 a4)
theorem zn_dstore {i : Nat} {x : UInt64} (hf : zF I pc = some (.dstore i, 2, a, b)) (hi : i + 1 < zMx I) (hs : zset2 L i (.double x) = L') (k : Zn g I (pc + 2) L' st h mc ms Q) : Zn g I pc L (.double x :: st) h mc ms Q := by
  intro p e R s m args below meth c H locs cells slots cT sT ls hC hR hL hl a1 a2 a3 a4
  subst hs
  exact lv_dstore hC.1 hC.2.1 (hC.dec hf) hL hi rfl (fun ls' hL' => k p e R s m args below meth c H locs cells slots cT sT ls' hC hR (zHas.s2 (v := .double x) hL') hl a1 a2 a3 a4)
theorem zn_aload_nN {n : Fin 4} (hf : zF I pc = some (.aload_n n, 1, a, b)) (hx : L[(n : Nat)]? = some (some .null)) (k : Zn g I (pc + 1) L (.null :: st) h mc ms Q) : Zn g I pc L (st) h mc ms Q := by
  intro p e R s m args below meth c H locs cells slots cT sT ls hC hR hL hl a1 a2 a3 a4
  exact lv_aload_nN hC.1 hC.2.1 (hC.dec hf) rfl (hL.at hx) (k p e R s m args below meth c H locs cells slots cT sT ls hC hR hL hl a1 a2 a3 a4)
theorem zn_astore_nN {n : Fin 4} (hf : zF I pc = some (.astore_n n, 1, a, b)) (hi : (n : Nat) < zMx I) (hs : zset1 L n .null = L') (k : Zn g I (pc + 1) L' st h mc ms Q) : Zn g I pc L (.null :: st) h mc ms Q := by
  intro p e R s m args below meth c H locs cells slots cT sT ls hC hR hL hl a1 a2 a3 a4
  subst hs
  exact lv_astore_nN hC.1 hC.2.1 (hC.dec hf) rfl hL hi rfl (fun ls' hL' => k p e R s m args below meth c H locs cells slots cT sT ls' hC hR (zHas.s1 (v := .null) hL') hl a1 a2 a3 a4)
theorem zn_iinc {i : Nat} {n : Int} {x v : Int32} (hf : zF I pc = some (.iinc i n, 3, a, b)) (hx : L[i]? = some (some (.int x))) (hv : x + Int32.ofInt n = v) (hi : i < zMx I) (hs : zset1 L i (.int v) = L') (k : Zn g I (pc + 3) L' st h mc ms Q) : Zn g I pc L st h mc ms Q := by
  intro p e R s m args below meth c H locs cells slots cT sT ls hC hR hL hl a1 a2 a3 a4
  subst hs
  obtain ⟨q, hq⟩ := List.getElem?_of_mem (zlv_mem (g := g) hx)
  exact lv_iinc hC.1 hC.2.1 (hC.dec hf) hL hq hv hi rfl (fun ls' hL' => k p e R s m args below meth c H locs cells slots cT sT ls' hC hR (zHas.s1 (v := .int v) hL') hl a1 a2 a3 a4)
theorem zn_iadd {x y : Int32} (hf : zF I pc = some (.iadd, 1, a, b)) (k : Zn g I (pc + 1) L (.int (x + y) :: st) h mc ms Q) : Zn g I pc L (.int y :: .int x :: st) h mc ms Q := by
  intro p e R s m args below meth c H locs cells slots cT sT ls hC hR hL hl a1 a2 a3 a4
  exact lv_iadd hC.1 hC.2.1 (hC.dec hf) (k p e R s m args below meth c H locs cells slots cT sT ls hC hR hL hl a1 a2 a3 a4)
theorem zn_isub {x y : Int32} (hf : zF I pc = some (.isub, 1, a, b)) (k : Zn g I (pc + 1) L (.int (x - y) :: st) h mc ms Q) : Zn g I pc L (.int y :: .int x :: st) h mc ms Q := by
  intro p e R s m args below meth c H locs cells slots cT sT ls hC hR hL hl a1 a2 a3 a4
  exact lv_isub hC.1 hC.2.1 (hC.dec hf) (k p e R s m args below meth c H locs cells slots cT sT ls hC hR hL hl a1 a2 a3 a4)
theorem zn_imul {x y : Int32} (hf : zF I pc = some (.imul, 1, a, b)) (k : Zn g I (pc + 1) L (.int (x * y) :: st) h mc ms Q) : Zn g I pc L (.int y :: .int x :: st) h mc ms Q := by
  intro p e R s m args below meth c H locs cells slots cT sT ls hC hR hL hl a1 a2 a3 a4
  exact lv_imul hC.1 hC.2.1 (hC.dec hf) (k p e R s m args below meth c H locs cells slots cT sT ls hC hR hL hl a1 a2 a3 a4)
theorem zn_iand {x y : Int32} (hf : zF I pc = some (.iand, 1, a, b)) (k : Zn g I (pc + 1) L (.int (x &&& y) :: st) h mc ms Q) : Zn g I pc L (.int y :: .int x :: st) h mc ms Q := by
  intro p e R s m args below meth c H locs cells slots cT sT ls hC hR hL hl a1 a2 a3 a4
  exact lv_iand hC.1 hC.2.1 (hC.dec hf) (k p e R s m args below meth c H locs cells slots cT sT ls hC hR hL hl a1 a2 a3 a4)
theorem zn_idiv {x y : Int32} (hf : zF I pc = some (.idiv, 1, a, b)) (hy : ¬ y = 0) (k : Zn g I (pc + 1) L (.int (x / y) :: st) h mc ms Q) : Zn g I pc L (.int y :: .int x :: st) h mc ms Q := by
  intro p e R s m args below meth c H locs cells slots cT sT ls hC hR hL hl a1 a2 a3 a4
  exact lv_idiv hC.1 hC.2.1 (hC.dec hf) hy (k p e R s m args below meth c H locs cells slots cT sT ls hC hR hL hl a1 a2 a3 a4)
theorem zn_irem {x y : Int32} (hf : zF I pc = some (.irem, 1, a, b)) (hy : ¬ y = 0) (k : Zn g I (pc + 1) L (.int (x - x / y * y) :: st) h mc ms Q) : Zn g I pc L (.int y :: .int x :: st) h mc ms Q := by
  intro p e R s m args below meth c H locs cells slots cT sT ls hC hR hL hl a1 a2 a3 a4
  exact lv_irem hC.1 hC.2.1 (hC.dec hf) hy (k p e R s m args below meth c H locs cells slots cT sT ls hC hR hL hl a1 a2 a3 a4)
theorem zn_ladd {x y : Int64} (hf : zF I pc = some (.ladd, 1, a, b)) (k : Zn g I (pc + 1) L (.long (x + y) :: st) h mc ms Q) : Zn g I pc L (.long y :: .long x :: st) h mc ms Q := by
  intro p e R s m args below meth c H locs cells slots cT sT ls hC hR hL hl a1 a2 a3 a4
  exact lv_ladd hC.1 hC.2.1 (hC.dec hf) (k p e R s m args below meth c H locs cells slots cT sT ls hC hR hL hl a1 a2 a3 a4)
theorem zn_lsub {x y : Int64} (hf : zF I pc = some (.lsub, 1, a, b)) (k : Zn g I (pc + 1) L (.long (x - y) :: st) h mc ms Q) : Zn g I pc L (.long y :: .long x :: st) h mc ms Q := by
  intro p e R s m args below meth c H locs cells slots cT sT ls hC hR hL hl a1 a2 a3 a4
  exact lv_lsub hC.1 hC.2.1 (hC.dec hf) (k p e R s m args below meth c H locs cells slots cT sT ls hC hR hL hl a1 a2 a3 a4)
theorem zn_lmul {x y : Int64} (hf : zF I pc = some (.lmul, 1, a, b)) (k : Zn g I (pc + 1) L (.long (x * y) :: st) h mc ms Q) : Zn g I pc L (.long y :: .long x :: st) h mc ms Q := by
  intro p e R s m args below meth c H locs cells slots cT sT ls hC hR hL hl a1 a2 a3 a4
  exact lv_lmul hC.1 hC.2.1 (hC.dec hf) (k p e R s m args below meth c H locs cells slots cT sT ls hC hR hL hl a1 a2 a3 a4)
theorem zn_lneg {x : Int64} (hf : zF I pc = some (.lneg, 1, a, b)) (k : Zn g I (pc + 1) L (.long (-x) :: st) h mc ms Q) : Zn g I pc L (.long x :: st) h mc ms Q := by
  intro p e R s m args below meth c H locs cells slots cT sT ls hC hR hL hl a1 a2 a3 a4
  exact lv_lneg hC.1 hC.2.1 (hC.dec hf) (k p e R s m args below meth c H locs cells slots cT sT ls hC hR hL hl a1 a2 a3 a4)
theorem zn_i2l {x : Int32} (hf : zF I pc = some (.i2l, 1, a, b)) (k : Zn g I (pc + 1) L (.long x.toInt64 :: st) h mc ms Q) : Zn g I pc L (.int x :: st) h mc ms Q := by
  intro p e R s m args below meth c H locs cells slots cT sT ls hC hR hL hl a1 a2 a3 a4
  exact lv_i2l hC.1 hC.2.1 (hC.dec hf) rfl (k p e R s m args below meth c H locs cells slots cT sT ls hC hR hL hl a1 a2 a3 a4)
theorem zn_lcmp {x y : Int64} (hf : zF I pc = some (.lcmp, 1, a, b)) (k : Zn g I (pc + 1) L (.int (lg_cmp x y) :: st) h mc ms Q) : Zn g I pc L (.long y :: .long x :: st) h mc ms Q := by
  intro p e R s m args below meth c H locs cells slots cT sT ls hC hR hL hl a1 a2 a3 a4
  exact W.lcmp hC.1 hC.2.1 (hC.dec hf) (k p e R s m args below meth c H locs cells slots cT sT ls hC hR hL hl a1 a2 a3 a4)
theorem zn_l2d {x : Int64} (hf : zF I pc = some (.l2d, 1, a, b)) (k : Zn g I (pc + 1) L (.double (FP.l2d x) :: st) h mc ms Q) : Zn g I pc L (.long x :: st) h mc ms Q := by
  intro p e R s m args below meth c H locs cells slots cT sT ls hC hR hL hl a1 a2 a3 a4
  exact lv_l2d hC.1 hC.2.1 (hC.dec hf) (k p e R s m args below meth c H locs cells slots cT sT ls hC hR hL hl a1 a2 a3 a4)
theorem zn_i2d {x : Int32} (hf : zF I pc = some (.i2d, 1, a, b)) (k : Zn g I (pc + 1) L (.double (FP.i2d x) :: st) h mc ms Q) : Zn g I pc L (.int x :: st) h mc ms Q := by
  intro p e R s m args below meth c H locs cells slots cT sT ls hC hR hL hl a1 a2 a3 a4
  exact lv_i2d hC.1 hC.2.1 (hC.dec hf) (k p e R s m args below meth c H locs cells slots cT sT ls hC hR hL hl a1 a2 a3 a4)
theorem zn_ddiv {x y : UInt64} (hf : zF I pc = some (.ddiv, 1, a, b)) (hy : vf_n64 (FP.ddiv x y)) (k : Zn g I (pc + 1) L (.double (FP.ddiv x y) :: st) h mc ms Q) : Zn g I pc L (.double y :: .double x :: st) h mc ms Q := by
  intro p e R s m args below meth c H locs cells slots cT sT ls hC hR hL hl a1 a2 a3 a4
  exact lv_ddiv hC.1 hC.2.1 (hC.dec hf) hy (k p e R s m args below meth c H locs cells slots cT sT ls hC hR hL hl a1 a2 a3 a4)
theorem zn_dcmp {x y : UInt64} {op : CmpOp} (hf : zF I pc = some (.dcmp op, 1, a, b)) (k : Zn g I (pc + 1) L (.int (Op.cmpValue (FP.dcmp x y) op) :: st) h mc ms Q) : Zn g I pc L (.double y :: .double x :: st) h mc ms Q := by
  intro p e R s m args below meth c H locs cells slots cT sT ls hC hR hL hl a1 a2 a3 a4
  exact lv_dcmp hC.1 hC.2.1 (hC.dec hf) (k p e R s m args below meth c H locs cells slots cT sT ls hC hR hL hl a1 a2 a3 a4)
theorem zn_dup {v : Value} (hf : zF I pc = some (.dup, 1, a, b)) (hv : v.category = 1) (k : Zn g I (pc + 1) L (v :: v :: st) h mc ms Q) : Zn g I pc L (v :: st) h mc ms Q := by
  intro p e R s m args below meth c H locs cells slots cT sT ls hC hR hL hl a1 a2 a3 a4
  exact lv_dup hC.1 hC.2.1 (hC.dec hf) ((zt_cat g v).trans hv) (k p e R s m args below meth c H locs cells slots cT sT ls hC hR hL hl a1 a2 a3 a4)
theorem zn_pop {v : Value} (hf : zF I pc = some (.pop, 1, a, b)) (hv : v.category = 1) (k : Zn g I (pc + 1) L (st) h mc ms Q) : Zn g I pc L (v :: st) h mc ms Q := by
  intro p e R s m args below meth c H locs cells slots cT sT ls hC hR hL hl a1 a2 a3 a4
  exact lv_pop hC.1 hC.2.1 (hC.dec hf) ((zt_cat g v).trans hv) (k p e R s m args below meth c H locs cells slots cT sT ls hC hR hL hl a1 a2 a3 a4)
theorem zn_dup2 {v w : Value} (hf : zF I pc = some (.dup2, 1, a, b)) (hv : v.category = 1) (hw : w.category = 1) (k : Zn g I (pc + 1) L (v :: w :: v :: w :: st) h mc ms Q) : Zn g I pc L (v :: w :: st) h mc ms Q := by
  intro p e R s m args below meth c H locs cells slots cT sT ls hC hR hL hl a1 a2 a3 a4
  exact lv_dup2_11 hC.1 hC.2.1 (hC.dec hf) ((zt_cat g v).trans hv) ((zt_cat g w).trans hw) (k p e R s m args below meth c H locs cells slots cT sT ls hC hR hL hl a1 a2 a3 a4)
theorem zn_icmp_eq {x y : Int32} {off : Int} {tgt : Nat} (hf : zF I pc = some (.if_icmp .eq off, 3, a, b)) (ht : (pc : Int) + off = (tgt : Int)) (kt : x = y → Zn g I tgt L st h mc ms Q) (kf : ¬ x = y → Zn g I (pc + 3) L st h mc ms Q) : Zn g I pc L (.int y :: .int x :: st) h mc ms Q := by
  intro p e R s m args below meth c H locs cells slots cT sT ls hC hR hL hl a1 a2 a3 a4
  exact lv_icmp_eq hC.1 hC.2.1 (hC.dec hf) ht (fun z => kt z p e R s m args below meth c H locs cells slots cT sT ls hC hR hL hl a1 a2 a3 a4) (fun z => kf z p e R s m args below meth c H locs cells slots cT sT ls hC hR hL hl a1 a2 a3 a4)
theorem zn_if_eq {x : Int32} {off : Int} {tgt : Nat} (hf : zF I pc = some (.ifCond .eq off, 3, a, b)) (ht : (pc : Int) + off = (tgt : Int)) (kt : x = 0 → Zn g I tgt L st h mc ms Q) (kf : ¬ x = 0 → Zn g I (pc + 3) L st h mc ms Q) : Zn g I pc L (.int x :: st) h mc ms Q := by
  intro p e R s m args below meth c H locs cells slots cT sT ls hC hR hL hl a1 a2 a3 a4
  exact lv_if_eq hC.1 hC.2.1 (hC.dec hf) ht (fun z => kt z p e R s m args below meth c H locs cells slots cT sT ls hC hR hL hl a1 a2 a3 a4) (fun z => kf z p e R s m args below meth c H locs cells slots cT sT ls hC hR hL hl a1 a2 a3 a4)
theorem zn_icmp_ne {x y : Int32} {off : Int} {tgt : Nat} (hf : zF I pc = some (.if_icmp .ne off, 3, a, b)) (ht : (pc : Int) + off = (tgt : Int)) (kt : ¬ x = y → Zn g I tgt L st h mc ms Q) (kf : x = y → Zn g I (pc + 3) L st h mc ms Q) : Zn g I pc L (.int y :: .int x :: st) h mc ms Q := by
  intro p e R s m args below meth c H locs cells slots cT sT ls hC hR hL hl a1 a2 a3 a4
  exact lv_icmp_ne hC.1 hC.2.1 (hC.dec hf) ht (fun z => kt z p e R s m args below meth c H locs cells slots cT sT ls hC hR hL hl a1 a2 a3 a4) (fun z => kf z p e R s m args below meth c H locs cells slots cT sT ls hC hR hL hl a1 a2 a3 a4)
theorem zn_if_ne {x : Int32} {off : Int} {tgt : Nat} (hf : zF I pc = some (.ifCond .ne off, 3, a, b)) (ht : (pc : Int) + off = (tgt : Int)) (kt : ¬ x = 0 → Zn g I tgt L st h mc ms Q) (kf : x = 0 → Zn g I (pc + 3) L st h mc ms Q) : Zn g I pc L (.int x :: st) h mc ms Q := by
  intro p e R s m args below meth c H locs cells slots cT sT ls hC hR hL hl a1 a2 a3 a4
  exact lv_if_ne hC.1 hC.2.1 (hC.dec hf) ht (fun z => kt z p e R s m args below meth c H locs cells slots cT sT ls hC hR hL hl a1 a2 a3 a4) (fun z => kf z p e R s m args below meth c H locs cells slots cT sT ls hC hR hL hl a1 a2 a3 a4)
theorem zn_icmp_lt {x y : Int32} {off : Int} {tgt : Nat} (hf : zF I pc = some (.if_icmp .lt off, 3, a, b)) (ht : (pc : Int) + off = (tgt : Int)) (kt : x < y → Zn g I tgt L st h mc ms Q) (kf : ¬ x < y → Zn g I (pc + 3) L st h mc ms Q) : Zn g I pc L (.int y :: .int x :: st) h mc ms Q := by
  intro p e R s m args below meth c H locs cells slots cT sT ls hC hR hL hl a1 a2 a3 a4
  exact lv_icmp_lt hC.1 hC.2.1 (hC.dec hf) ht (fun z => kt z p e R s m args below meth c H locs cells slots cT sT ls hC hR hL hl a1 a2 a3 a4) (fun z => kf z p e R s m args below meth c H locs cells slots cT sT ls hC hR hL hl a1 a2 a3 a4)
theorem zn_if_lt {x : Int32} {off : Int} {tgt : Nat} (hf : zF I pc = some (.ifCond .lt off, 3, a, b)) (ht : (pc : Int) + off = (tgt : Int)) (kt : x < 0 → Zn g I tgt L st h mc ms Q) (kf : ¬ x < 0 → Zn g I (pc + 3) L st h mc ms Q) : Zn g I pc L (.int x :: st) h mc ms Q := by
  intro p e R s m args below meth c H locs cells slots cT sT ls hC hR hL hl a1 a2 a3 a4
  exact lv_if_lt hC.1 hC.2.1 (hC.dec hf) ht (fun z => kt z p e R s m args below meth c H locs cells slots cT sT ls hC hR hL hl a1 a2 a3 a4) (fun z => kf z p e R s m args below meth c H locs cells slots cT sT ls hC hR hL hl a1 a2 a3 a4)
theorem zn_icmp_ge {x y : Int32} {off : Int} {tgt : Nat} (hf : zF I pc = some (.if_icmp .ge off, 3, a, b)) (ht : (pc : Int) + off = (tgt : Int)) (kt : y ≤ x → Zn g I tgt L st h mc ms Q) (kf : ¬ y ≤ x → Zn g I (pc + 3) L st h mc ms Q) : Zn g I pc L (.int y :: .int x :: st) h mc ms Q := by
  intro p e R s m args below meth c H locs cells slots cT sT ls hC hR hL hl a1 a2 a3 a4
  exact lv_icmp_ge hC.1 hC.2.1 (hC.dec hf) ht (fun z => kt z p e R s m args below meth c H locs cells slots cT sT ls hC hR hL hl a1 a2 a3 a4) (fun z => kf z p e R s m args below meth c H locs cells slots cT sT ls hC hR hL hl a1 a2 a3 a4)
theorem zn_if_ge {x : Int32} {off : Int} {tgt : Nat} (hf : zF I pc = some (.ifCond .ge off, 3, a, b)) (ht : (pc : Int) + off = (tgt : Int)) (kt : 0 ≤ x → Zn g I tgt L st h mc ms Q) (kf : ¬ 0 ≤ x → Zn g I (pc + 3) L st h mc ms Q) : Zn g I pc L (.int x :: st) h mc ms Q := by
  intro p e R s m args below meth c H locs cells slots cT sT ls hC hR hL hl a1 a2 a3 a4
  exact lv_if_ge hC.1 hC.2.1 (hC.dec hf) ht (fun z => kt z p e R s m args below meth c H locs cells slots cT sT ls hC hR hL hl a1 a2 a3 a4) (fun z => kf z p e R s m args below meth c H locs cells slots cT sT ls hC hR hL hl a1 a2 a3 a4)
theorem zn_icmp_gt {x y : Int32} {off : Int} {tgt : Nat} (hf : zF I pc = some (.if_icmp .gt off, 3, a, b)) (ht : (pc : Int) + off = (tgt : Int)) (kt : y < x → Zn g I tgt L st h mc ms Q) (kf : ¬ y < x → Zn g I (pc + 3) L st h mc ms Q) : Zn g I pc L (.int y :: .int x :: st) h mc ms Q := by
  intro p e R s m args below meth c H locs cells slots cT sT ls hC hR hL hl a1 a2 a3 a4
  exact lv_icmp_gt hC.1 hC.2.1 (hC.dec hf) ht (fun z => kt z p e R s m args below meth c H locs cells slots cT sT ls hC hR hL hl a1 a2 a3 a4) (fun z => kf z p e R s m args below meth c H locs cells slots cT sT ls hC hR hL hl a1 a2 a3 a4)
theorem zn_if_gt {x : Int32} {off : Int} {tgt : Nat} (hf : zF I pc = some (.ifCond .gt off, 3, a, b)) (ht : (pc : Int) + off = (tgt : Int)) (kt : 0 < x → Zn g I tgt L st h mc ms Q) (kf : ¬ 0 < x → Zn g I (pc + 3) L st h mc ms Q) : Zn g I pc L (.int x :: st) h mc ms Q := by
  intro p e R s m args below meth c H locs cells slots cT sT ls hC hR hL hl a1 a2 a3 a4
  exact lv_if_gt hC.1 hC.2.1 (hC.dec hf) ht (fun z => kt z p e R s m args below meth c H locs cells slots cT sT ls hC hR hL hl a1 a2 a3 a4) (fun z => kf z p e R s m args below meth c H locs cells slots cT sT ls hC hR hL hl a1 a2 a3 a4)
theorem zn_icmp_le {x y : Int32} {off : Int} {tgt : Nat} (hf : zF I pc = some (.if_icmp .le off, 3, a, b)) (ht : (pc : Int) + off = (tgt : Int)) (kt : x ≤ y → Zn g I tgt L st h mc ms Q) (kf : ¬ x ≤ y → Zn g I (pc + 3) L st h mc ms Q) : Zn g I pc L (.int y :: .int x :: st) h mc ms Q := by
  intro p e R s m args below meth c H locs cells slots cT sT ls hC hR hL hl a1 a2 a3 a4
  exact lv_icmp_le hC.1 hC.2.1 (hC.dec hf) ht (fun z => kt z p e R s m args below meth c H locs cells slots cT sT ls hC hR hL hl a1 a2 a3 a4) (fun z => kf z p e R s m args below meth c H locs cells slots cT sT ls hC hR hL hl a1 a2 a3 a4)
theorem zn_if_le {x : Int32} {off : Int} {tgt : Nat} (hf : zF I pc = some (.ifCond .le off, 3, a, b)) (ht : (pc : Int) + off = (tgt : Int)) (kt : x ≤ 0 → Zn g I tgt L st h mc ms Q) (kf : ¬ x ≤ 0 → Zn g I (pc + 3) L st h mc ms Q) : Zn g I pc L (.int x :: st) h mc ms Q := by
  intro p e R s m args below meth c H locs cells slots cT sT ls hC hR hL hl a1 a2 a3 a4
  exact lv_if_le hC.1 hC.2.1 (hC.dec hf) ht (fun z => kt z p e R s m args below meth c H locs cells slots cT sT ls hC hR hL hl a1 a2 a3 a4) (fun z => kf z p e R s m args below meth c H locs cells slots cT sT ls hC hR hL hl a1 a2 a3 a4)
theorem zn_goto {off : Int} {tgt : Nat} (hf : zF I pc = some (.goto off, 3, a, b)) (ht : (pc : Int) + off = (tgt : Int)) (k : Zn g I tgt L st h mc ms Q) : Zn g I pc L st h mc ms Q := by
  intro p e R s m args below meth c H locs cells slots cT sT ls hC hR hL hl a1 a2 a3 a4
  exact lv_goto hC.1 hC.2.1 (hC.dec hf) ht (k p e R s m args below meth c H locs cells slots cT sT ls hC hR hL hl a1 a2 a3 a4)
theorem zn_tabOut {dflt lo hi : Int} {offs : Array Int} {len : Nat} {x : Int32} {tgt : Nat} (hf : zF I pc = some (.tableswitch dflt lo hi offs, len, a, b)) (hx : x.toInt < lo ∨ hi < x.toInt) (ht : (pc : Int) + dflt = (tgt : Int)) (k : Zn g I tgt L st h mc ms Q) : Zn g I pc L (.int x :: st) h mc ms Q := by
  intro p e R s m args below meth c H locs cells slots cT sT ls hC hR hL hl a1 a2 a3 a4
  exact lv_tableOut hC.1 hC.2.1 (hC.dec hf) hx ht (k p e R s m args below meth c H locs cells slots cT sT ls hC hR hL hl a1 a2 a3 a4)
theorem zn_tabIn {dflt lo hi : Int} {offs : Array Int} {len : Nat} {x : Int32} {off : Int} {tgt : Nat} (hf : zF I pc = some (.tableswitch dflt lo hi offs, len, a, b)) (h1 : ¬ x.toInt < lo) (h2 : ¬ hi < x.toInt) (ho : offs[(x.toInt - lo).toNat]? = some off) (ht : (pc : Int) + off = (tgt : Int)) (k : Zn g I tgt L st h mc ms Q) : Zn g I pc L (.int x :: st) h mc ms Q := by
  intro p e R s m args below meth c H locs cells slots cT sT ls hC hR hL hl a1 a2 a3 a4
  exact lv_tableIn hC.1 hC.2.1 (hC.dec hf) h1 h2 ho ht (k p e R s m args below meth c H locs cells slots cT sT ls hC hR hL hl a1 a2 a3 a4)
theorem zn_lookup {dflt : Int} {ps : Array (Int × Int)} {len : Nat} {x : Int32} {off : Int} {tgt : Nat} (hf : zF I pc = some (.lookupswitch dflt ps, len, a, b)) (hp : (ps.toList.zip (ps.toList.drop 1)).all (fun (a, next) => a.1 < next.1) = true) (ho : Op.lookupswitch.offset ps.toList dflt x.toInt = off) (ht : (pc : Int) + off = (tgt : Int)) (k : Zn g I tgt L st h mc ms Q) : Zn g I pc L (.int x :: st) h mc ms Q := by
  intro p e R s m args below meth c H locs cells slots cT sT ls hC hR hL hl a1 a2 a3 a4
  exact lv_lookup hC.1 hC.2.1 (hC.dec hf) hp ho ht (k p e R s m args below meth c H locs cells slots cT sT ls hC hR hL hl a1 a2 a3 a4)
theorem zn_ifnull {x : Nat} {off : Int} (hf : zF I pc = some (.ifnull off, 3, a, b)) (k : Zn g I (pc + 3) L st h mc ms Q) : Zn g I pc L (.ref x :: st) h mc ms Q := by
  intro p e R s m args below meth c H locs cells slots cT sT ls hC hR hL hl a1 a2 a3 a4
  exact lv_ifnull hC.1 hC.2.1 (hC.dec hf) (k p e R s m args below meth c H locs cells slots cT sT ls hC hR hL hl a1 a2 a3 a4)
theorem zn_ifnonnull {x : Nat} {off : Int} {tgt : Nat} (hf : zF I pc = some (.ifnonnull off, 3, a, b)) (ht : (pc : Int) + off = (tgt : Int)) (k : Zn g I tgt L st h mc ms Q) : Zn g I pc L (.ref x :: st) h mc ms Q := by
  intro p e R s m args below meth c H locs cells slots cT sT ls hC hR hL hl a1 a2 a3 a4
  exact lv_ifnonnull hC.1 hC.2.1 (hC.dec hf) ht (k p e R s m args below meth c H locs cells slots cT sT ls hC hR hL hl a1 a2 a3 a4)
theorem zn_ifnullN {off : Int} {tgt : Nat} (hf : zF I pc = some (.ifnull off, 3, a, b)) (ht : (pc : Int) + off = (tgt : Int)) (k : Zn g I tgt L st h mc ms Q) : Zn g I pc L (.null :: st) h mc ms Q := by
  intro p e R s m args below meth c H locs cells slots cT sT ls hC hR hL hl a1 a2 a3 a4
  exact lv_ifnullN hC.1 hC.2.1 (hC.dec hf) ht (k p e R s m args below meth c H locs cells slots cT sT ls hC hR hL hl a1 a2 a3 a4)
theorem zn_ifnonnullN {off : Int} (hf : zF I pc = some (.ifnonnull off, 3, a, b)) (k : Zn g I (pc + 3) L st h mc ms Q) : Zn g I pc L (.null :: st) h mc ms Q := by
  intro p e R s m args below meth c H locs cells slots cT sT ls hC hR hL hl a1 a2 a3 a4
  exact lv_ifnonnullN hC.1 hC.2.1 (hC.dec hf) (k p e R s m args below meth c H locs cells slots cT sT ls hC hR hL hl a1 a2 a3 a4)
theorem zn_iret {v : Int32} (hf : zF I pc = some (.ireturn, 1, a, b)) (hr : zRt I = some .int) (hq : Q (.inl (some (.int v))) h) : Zn g I pc L [.int v] h mc ms Q := by
  intro p e R s m args below meth c H locs cells slots cT sT ls hC hR hL hl a1 a2 a3 a4
  refine W.widen (k := cT) (n := sT) (by omega) (by omega) (vx_ret ?_)
  exact W.iret hC.1 hC.2.1 (hC.2.2.2.1.trans hr) (fun t ht _ => ⟨some (.int v), h, hq, rfl, by rw [ht]; exact hR⟩) hl (hC.dec hf) (hlocks := hC.2.2.2.2.1)
theorem zn_lret {v : Int64} (hf : zF I pc = some (.lreturn, 1, a, b)) (hr : zRt I = some .long) (hq : Q (.inl (some (.long v))) h) : Zn g I pc L [.long v] h mc ms Q := by
  intro p e R s m args below meth c H locs cells slots cT sT ls hC hR hL hl a1 a2 a3 a4
  refine W.widen (k := cT) (n := sT) (by omega) (by omega) (vx_ret ?_)
  exact W.lret hC.1 hC.2.1 (hC.2.2.2.1.trans hr) (fun t ht _ => ⟨some (.long v), h, hq, rfl, by rw [ht]; exact hR⟩) hl (hC.dec hf) (hlocks := hC.2.2.2.2.1)
theorem zn_dret {v : UInt64} (hf : zF I pc = some (.dreturn, 1, a, b)) (hr : zRt I = some .double) (hq : Q (.inl (some (.double v))) h) : Zn g I pc L [.double v] h mc ms Q := by
  intro p e R s m args below meth c H locs cells slots cT sT ls hC hR hL hl a1 a2 a3 a4
  refine W.widen (k := cT) (n := sT) (by omega) (by omega) (vx_ret ?_)
  exact W.dret hC.1 hC.2.1 (hC.2.2.2.1.trans hr) (fun t ht _ => ⟨some (.double v), h, hq, rfl, by rw [ht]; exact hR⟩) hl (hC.dec hf) (hlocks := hC.2.2.2.2.1)
theorem zn_zret {v : Int32} (hf : zF I pc = some (.ireturn, 1, a, b)) (hr : zRt I = some .boolean) (hn : v &&& 1 = v) (hq : Q (.inl (some (.int v))) h) : Zn g I pc L [.int v] h mc ms Q := by
  intro p e R s m args below meth c H locs cells slots cT sT ls hC hR hL hl a1 a2 a3 a4
  refine W.widen (k := cT) (n := sT) (by omega) (by omega) (vx_ret ?_)
  exact W.zret hC.1 hC.2.1 (hC.2.2.2.1.trans hr) (by show Value.int (v &&& 1) = .int v; rw [hn]) (fun t ht _ => ⟨some (.int v), h, hq, rfl, by rw [ht]; exact hR⟩) hl (hC.dec hf) (hlocks := hC.2.2.2.2.1)
theorem zn_vret (hf : zF I pc = some (.return_, 1, a, b)) (hr : zRt I = none) (hq : Q (.inl none) h) : Zn g I pc L [] h mc ms Q := by
  intro p e R s m args below meth c H locs cells slots cT sT ls hC hR hL hl a1 a2 a3 a4
  refine W.widen (k := cT) (n := sT) (by omega) (by omega) (vx_ret ?_)
  exact W.vret hC.1 hC.2.1 (hC.2.2.2.1.trans hr) (fun t ht _ => ⟨none, h, hq, rfl, by rw [ht]; exact hR⟩) hl (hC.dec hf) (hlocks := hC.2.2.2.2.1)
theorem zn_aret {o : Nat} {C : String} (hf : zF I pc = some (.areturn, 1, a, b)) (hr : zRt I = some (.object C)) (hq : Q (.inl (some (.ref o))) h) : Zn g I pc L [.ref o] h mc ms Q := by
  intro p e R s m args below meth c H locs cells slots cT sT ls hC hR hL hl a1 a2 a3 a4
  refine W.widen (k := cT) (n := sT) (by omega) (by omega) (vx_ret ?_)
  exact W.aret (v := .ref (zad g o)) hC.1 hC.2.1 (hC.2.2.2.1.trans hr) (Or.inl ⟨C, rfl⟩) (Or.inr ⟨_, rfl⟩) (fun t ht _ => ⟨some (.ref o), h, hq, rfl, by rw [ht]; exact hR⟩) hl (hC.dec hf) (hlocks := hC.2.2.2.2.1)
-- SIMPLE END
end zRules
