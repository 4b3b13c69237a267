/-! THE PURE LAYER: objects by numbers (0: the script; i: the i-th thing made since the law's start, at zg1 + i), a heap as a function of numbers, and 'Zn': the method I at pc comes to an end with Q, whatever machine it stands in. -/
abbrev zO : Type := vp_A ⊕ (Nat × List Value)
abbrev zH : Type := (Nat → Option zO) × Nat
abbrev zL : Type := List (Option Value)
abbrev zR : Type := Option Value ⊕ Nat
abbrev zRow : Type := Nat × Instr × Nat × Nat × Nat
abbrev zI : Type := MethodName × ByteArray × Nat × Option FieldType × List zRow × List (Nat × Nat × Nat × Nat) × Nat × Nat
def zNm (I : zI) : MethodName := I.1
def zBy (I : zI) : ByteArray := I.2.1
def zMx (I : zI) : Nat := I.2.2.1
def zRt (I : zI) : Option FieldType := I.2.2.2.1
def zTb (I : zI) : List zRow := I.2.2.2.2.1
def zEx (I : zI) : List (Nat × Nat × Nat × Nat) := I.2.2.2.2.2.1
def zFr (I : zI) : Nat := I.2.2.2.2.2.2.1
def zLo (I : zI) : Nat := I.2.2.2.2.2.2.2
def zF (I : zI) (pc : Nat) : Option (Instr × Nat × Nat × Nat) := (zTb I).lookup pc
abbrev zG : Type := Launch × Nat × Nat × Heap × va_G × (ClassId × ClassId × ClassId × ClassId) × Nat × (Nat → Int32)
def zgl (g : zG) : Launch := g.1
def zgb (g : zG) : Nat := g.2.1
def zg1 (g : zG) : Nat := g.2.2.1
def zgH (g : zG) : Heap := g.2.2.2.1
def zgD (g : zG) : va_G := g.2.2.2.2.1
def zgI (g : zG) : ClassId := g.2.2.2.2.2.1.1
def zgJ (g : zG) : ClassId := g.2.2.2.2.2.1.2.1
def zgK (g : zG) : ClassId := g.2.2.2.2.2.1.2.2.1
def zgP (g : zG) : ClassId := g.2.2.2.2.2.1.2.2.2
def zgn (g : zG) : Nat := g.2.2.2.2.2.2.1
def zgx (g : zG) : Nat → Int32 := g.2.2.2.2.2.2.2
def zad (g : zG) (i : Nat) : Nat := if i = 0 then zgb g else zg1 g + i
theorem zad_pos (g : zG) {i : Nat} (h : 0 < i) : zad g i = zg1 g + i := by unfold zad; rw [if_neg (by omega)]
def zt (g : zG) : Value → Value
  | .ref i => .ref (zad g i)
  | .int x => .int x
  | .long x => .long x
  | .float x => .float x
  | .double x => .double x
  | .null => .null
  | .retAddr x => .retAddr x
theorem zt_cat (g : zG) (v : Value) : (zt g v).category = v.category := by cases v <;> rfl
def zE (g : zG) : zO → va_E
  | .inl (n, .inl f) => .inl (zgI g, n, .inl f)
  | .inl (n, .inr (.inl f)) => .inl (zgJ g, n, .inr (.inl f))
  | .inl (n, .inr (.inr (.inl f))) => .inl (zgI g, n, .inr (.inr (.inl f)))
  | .inl (n, .inr (.inr (.inr (.inl f)))) => .inl (zgK g, n, .inr (.inr (.inr (.inl f))))
  | .inl (n, .inr (.inr (.inr (.inr f)))) => .inl (zgP g, n, .inr (.inr (.inr (.inr (fun j => (f j).map (zad g))))))
  | .inr (ci, fs) => .inr (ci, fs.map (zt g))
def ztys (g : zG) : List (ClassId × FieldType) := [(zgI g, .int), (zgJ g, .long), (zgK g, .double), (zgP g, .object RX7)]
def zup (h : zH) (i : Nat) (o : zO) : zH := (fun j => if j = i then some o else h.1 j, h.2)
def znew (h : zH) (o : zO) : zH := (fun j => if j = h.2 then some o else h.1 j, h.2 + 1)
def zthr (h : zH) : zH := (h.1, h.2 + 1)
def zRel (g : zG) (h : zH) (H : Heap) : Prop :=
  1 ≤ h.2 ∧ H.size = zg1 g + h.2 ∧ (zgH g).size = zg1 g + 1 ∧ (∀ q : Nat, q ≤ zg1 g → H[q]? = (zgH g)[q]?) ∧
  ∀ (i : Nat) (o : zO), h.1 i = some o → i < h.2 ∧ (i = 0 → o = .inl (zgn g, .inl (zgx g))) ∧ (0 < i → va_at (zgD g) vwCl (zad g i, zE g o) H)
theorem zRel.at {g : zG} {h : zH} {H : Heap} (hR : zRel g h H) {i : Nat} {o : zO} (ho : h.1 i = some o) (hi : 0 < i) : va_at (zgD g) vwCl (zad g i, zE g o) H := (hR.2.2.2.2 i o ho).2.2 hi
theorem zRel.P {g : zG} {h : zH} {H : Heap} (hR : zRel g h H) {i : Nat} {o : zO} (ho : h.1 i = some o) (hi : 0 < i) : va_P (zgD g) vwCl [(zad g i, zE g o)] H := by
  intro k q hk
  have := List.mem_of_getElem? hk
  rw [List.mem_singleton.mp this]
  exact hR.at ho hi
theorem zRel.put {g : zG} {h : zH} {H H' : Heap} (hR : zRel g h H) {i : Nat} {o o' : zO} (ho : h.1 i = some o) (hi : 0 < i) (e1 : va_at (zgD g) vwCl (zad g i, zE g o') H') (e2 : H'.size = H.size) (e3 : ∀ q : Nat, q ≠ zad g i → H'[q]? = H[q]?) : zRel g (zup h i o') H' := by
  obtain ⟨a1, a2, a3, a4, a5⟩ := hR
  refine ⟨a1, by rw [e2]; exact a2, a3, fun q hq => ?_, fun j oj hj => ?_⟩
  · rw [e3 q (by rw [zad_pos g hi]; omega)]
    exact a4 q hq
  · by_cases hji : j = i
    · subst hji
      have he : oj = o' := by
        have : (zup h j o').1 j = some o' := by simp [zup]
        rw [this] at hj
        exact (Option.some.inj hj).symm
      subst he
      exact ⟨(a5 j o ho).1, fun z => absurd z (by omega), fun _ => e1⟩
    · have hj' : h.1 j = some oj := by simpa [zup, hji] using hj
      obtain ⟨b1, b2, b3⟩ := a5 j oj hj'
      refine ⟨b1, b2, fun hp => (b3 hp).kept (e3 _ ?_)⟩
      show zad g j ≠ zad g i
      rw [zad_pos g hp, zad_pos g hi]
      omega
theorem zRel.new {g : zG} {h : zH} {H H' : Heap} (hR : zRel g h H) {o : zO} (e1 : va_at (zgD g) vwCl (H.size, zE g o) H') (e2 : H'.size = H.size + 1) (e3 : ∀ q : Nat, q < H.size → H'[q]? = H[q]?) : zRel g (znew h o) H' := by
  obtain ⟨a1, a2, a3, a4, a5⟩ := hR
  refine ⟨by simp [znew], by rw [e2, a2]; simp [znew]; omega, a3, fun q hq => ?_, fun j oj hj => ?_⟩
  · rw [e3 q (by omega)]
    exact a4 q hq
  · by_cases hji : j = h.2
    · subst hji
      have he : oj = o := by
        have : (znew h o).1 h.2 = some o := by simp [znew]
        rw [this] at hj
        exact (Option.some.inj hj).symm
      subst he
      refine ⟨by simp [znew], fun z => absurd z (by omega), fun hp => ?_⟩
      rw [zad_pos g hp, ← a2]
      exact e1
    · have hj' : h.1 j = some oj := by simpa [znew, hji] using hj
      obtain ⟨b1, b2, b3⟩ := a5 j oj hj'
      exact ⟨by simp [znew]; omega, b2, fun hp => (b3 hp).kept (e3 _ (b3 hp).lt)⟩
theorem zRel.thr {g : zG} {h : zH} {H H' : Heap} (hR : zRel g h H) (e2 : H'.size = H.size + 1) (e3 : ∀ q : Nat, q < H.size → H'[q]? = H[q]?) : zRel g (zthr h) H' := by
  obtain ⟨a1, a2, a3, a4, a5⟩ := hR
  refine ⟨by simp [zthr], by rw [e2, a2]; simp [zthr]; omega, a3, fun q hq => ?_, fun j oj hj => ?_⟩
  · rw [e3 q (by omega)]
    exact a4 q hq
  · obtain ⟨b1, b2, b3⟩ := a5 j oj hj
    exact ⟨by simp [zthr]; omega, b2, fun hp => (b3 hp).kept (e3 _ (b3 hp).lt)⟩
theorem zRel.top {g : zG} {h : zH} {H : Heap} (hR : zRel g h H) : zad g h.2 = H.size := by
  rw [zad_pos g (by have := hR.1; omega)]
  exact hR.2.1.symm
/-! locals -/
def zkill (L : zL) : Nat → zL
  | 0 => L
  | j + 1 => match L[j]? with
    | some (some w) => if w.category = 2 then L.set j none else L
    | _ => L
def zset1 (L : zL) (i : Nat) (v : Value) : zL := (zkill L i).set i (some v)
def zset2 (L : zL) (i : Nat) (v : Value) : zL := ((zkill L i).set i (some v)).set (i + 1) none
def zlv (g : zG) (L : zL) : List (Nat × Value) := (List.range L.length).filterMap fun i => match L[i]? with
  | some (some v) => some (i, zt g v)
  | _ => none
theorem zlv_mem {g : zG} {L : zL} {i : Nat} {v : Value} (h : L[i]? = some (some v)) : (i, zt g v) ∈ zlv g L := by
  refine List.mem_filterMap.mpr ⟨i, List.mem_range.mpr (List.getElem?_eq_some_iff.mp h).1, ?_⟩
  simp only [h]
theorem zkill_get {L : zL} {i j : Nat} {v : Value} (h : (zkill L i)[j]? = some (some v)) : L[j]? = some (some v) ∧ ¬ (j + 1 = i ∧ v.category = 2) := by
  cases i with
  | zero => exact ⟨h, fun z => absurd z.1 (by omega)⟩
  | succ k =>
    simp only [zkill] at h
    cases hk : L[k]? with
    | none =>
      rw [hk] at h
      refine ⟨h, fun z => ?_⟩
      have : j = k := by omega
      subst this
      simp only at h
      rw [hk] at h
      cases h
    | some o =>
      rw [hk] at h
      cases o with
      | none =>
        simp only at h
        refine ⟨h, fun z => ?_⟩
        have : j = k := by omega
        subst this
        rw [hk] at h
        cases h
      | some w =>
        simp only at h
        by_cases hc : w.category = 2
        · rw [if_pos hc] at h
          by_cases hj : j = k
          · subst hj
            rw [List.getElem?_set_self (List.getElem?_eq_some_iff.mp hk).1] at h
            cases h
          · rw [List.getElem?_set_ne (Ne.symm hj)] at h
            exact ⟨h, fun z => hj (by omega)⟩
        · rw [if_neg hc] at h
          refine ⟨h, fun z => ?_⟩
          have : j = k := by omega
          subst this
          rw [hk] at h
          cases h
          exact hc z.2
def zHas (g : zG) (ls : Array Slot) (n : Nat) (L : zL) : Prop := lv_has ls n (zlv g L)
theorem zHas.at {g : zG} {ls : Array Slot} {n : Nat} {L : zL} (h : zHas g ls n L) {i : Nat} {v : Value} (hv : L[i]? = some (some v)) : ls[i]? = some (.val (zt g v)) := h.2.2 _ (zlv_mem hv)
theorem zHas.of {g : zG} {ls : Array Slot} {n : Nat} {L : zL} (h1 : ls.size = n) (h2 : lv_wf ls) (h3 : ∀ (i : Nat) (v : Value), L[i]? = some (some v) → ls[i]? = some (.val (zt g v))) : zHas g ls n L := by
  refine ⟨h1, h2, fun q hq => ?_⟩
  obtain ⟨i, -, hi⟩ := List.mem_filterMap.mp hq
  cases ho : L[i]? with
  | none => rw [ho] at hi; cases hi
  | some o =>
    cases o with
    | none => rw [ho] at hi; cases hi
    | some v =>
      rw [ho] at hi
      cases hi
      exact h3 i v ho
theorem zHas.sub {g : zG} {ls : Array Slot} {n : Nat} {L L' : zL} (h : zHas g ls n L) (hs : ∀ (i : Nat) (v : Value), L'[i]? = some (some v) → L[i]? = some (some v)) : zHas g ls n L' := zHas.of h.1 h.2.1 fun i v hv => h.at (hs i v hv)
theorem zHas.s1 {g : zG} {ls' : Array Slot} {n i : Nat} {L : zL} {v : Value} (h : lv_has ls' n ((i, zt g v) :: (zlv g L).filter (fun q => !(q.1 == i) && !(q.1 + 1 == i && q.2.category == 2)))) : zHas g ls' n (zset1 L i v) := by
  refine zHas.of h.1 h.2.1 fun j w hw => ?_
  by_cases hj : j = i
  · subst hj
    have : w = v := by
      unfold zset1 at hw
      by_cases hl : j < (zkill L j).length
      · rw [List.getElem?_set_self hl] at hw
        cases hw; rfl
      · rw [List.getElem?_eq_none (by rw [List.length_set]; omega)] at hw
        cases hw
    subst this
    exact h.2.2 _ List.mem_cons_self
  · unfold zset1 at hw
    rw [List.getElem?_set_ne (Ne.symm hj)] at hw
    obtain ⟨h1, h2⟩ := zkill_get hw
    refine h.2.2 (j, zt g w) (List.mem_cons_of_mem _ (List.mem_filter.mpr ⟨zlv_mem h1, ?_⟩))
    simp only [zt_cat]
    by_cases hk : j + 1 = i
    · have : ¬ w.category = 2 := fun z => h2 ⟨hk, z⟩
      simp [hj, this]
    · simp [hj, hk]
theorem zHas.s2 {g : zG} {ls' : Array Slot} {n i : Nat} {L : zL} {v : Value} (h : lv_has ls' n ((i, zt g v) :: (zlv g L).filter (fun q => !(q.1 == i) && (!(q.1 == i + 1) && !(q.1 + 1 == i && q.2.category == 2))))) : zHas g ls' n (zset2 L i v) := by
  refine zHas.of h.1 h.2.1 fun j w hw => ?_
  unfold zset2 at hw
  by_cases hj1 : j = i + 1
  · subst hj1
    by_cases hl : i + 1 < ((zkill L i).set i (some v)).length
    · rw [List.getElem?_set_self hl] at hw
      cases hw
    · rw [List.getElem?_eq_none (by rw [List.length_set]; omega)] at hw
      cases hw
  · rw [List.getElem?_set_ne (Ne.symm hj1)] at hw
    by_cases hj : j = i
    · subst hj
      have : w = v := by
        by_cases hl : j < (zkill L j).length
        · rw [List.getElem?_set_self hl] at hw
          cases hw; rfl
        · rw [List.getElem?_eq_none (by rw [List.length_set]; omega)] at hw
          cases hw
      subst this
      exact h.2.2 _ List.mem_cons_self
    · rw [List.getElem?_set_ne (Ne.symm hj)] at hw
      obtain ⟨h1, h2⟩ := zkill_get hw
      refine h.2.2 (j, zt g w) (List.mem_cons_of_mem _ (List.mem_filter.mpr ⟨zlv_mem h1, ?_⟩))
      simp only [zt_cat]
      by_cases hk : j + 1 = i
      · have : ¬ w.category = 2 := fun z => h2 ⟨hk, z⟩
        simp [hj, hj1, this]
      · simp [hj, hj1, hk]
