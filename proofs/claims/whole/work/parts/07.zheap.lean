section zHeap
variable {g : zG} {I : zI} {pc a b : Nat} {L L' : zL} {st : List Value} {h : zH} {mc ms : Nat} {Q : zR → zH → Prop}
theorem zRel.posO {H : Heap} (hR : zRel g h H) {o ci : Nat} {fs : List Value} (ho : h.1 o = some (.inr (ci, fs))) : 0 < o := by
  rcases Nat.eq_zero_or_pos o with z | z
  · have := (hR.2.2.2.2 o _ ho).2.1 z
    cases this
  · exact z
theorem zRel.S {H : Heap} {locs : List Loc} (hR : zRel g h H) (hl : ∀ z ∈ locs, zg1 g < z.base) : va_S (fun q => zg1 g < q) (zgH g) H locs :=
  ⟨by rw [hR.2.2.1, hR.2.1]; have := hR.1; omega, fun q _ hq => hR.2.2.2.1 q (by omega), hl⟩
theorem zcat (g : zG) (st : List Value) : (((st.map (zt g)).map fun v => v.category)).sum = (st.map fun v => v.category).sum := by
  rw [List.map_map]
  congr 1
  exact List.map_congr_left fun v _ => zt_cat g v
theorem zrf (g : zG) (r : Option Nat) : va_rf (r.map (zad g)) = zt g (va_rf r) := by cases r <;> rfl
theorem zn_get {idx o ci k : Nat} {fs : List Value} {v : Value} (hf : zF I pc = some (.getfield idx, 3, ci, k)) (ho : h.1 o = some (.inr (ci, fs))) (hv : fs[k]? = some v) (K : Zn g I (pc + 3) L (v :: st) h mc ms Q) : Zn g I pc L (.ref o :: st) h mc ms Q := by
  intro p e R s m args below meth c H locs cells slots cT sT ls hC hR hL hl a1 a2 a3 a4
  obtain ⟨C, T, N, c1, c2, c3, c4⟩ := hC.lk hf
  have hK := hC.zS.2.2.1
  have hv' : (fs.map (zt g))[k]? = some (zt g v) := by rw [List.getElem?_map, hv]; rfl
  rcases c4 with c4 | ⟨host, c4⟩
  · exact va_get hC.1 hC.2.1 hC.hts c3 hC.own hK (hR.P ho (hR.posO ho)) 0 rfl c1 k c2 (hC.hts _ c4) (fun _ h9 => h9) hv' (hC.dec hf) (K p e R s m args below meth c H locs cells slots cT sT ls hC hR hL hl a1 a2 a3 a4)
  · exact va_getN hC.1 hC.2.1 hC.hts c3 hC.own hK (hR.P ho (hR.posO ho)) 0 rfl c1 k c2 (va_Nw.use rfl (hC.zS.2.2.2.2.1 _ c4 rfl)) (fun _ h9 => h9) hv' (hC.dec hf) (K p e R s m args below meth c H locs cells slots cT sT ls hC hR hL hl a1 a2 a3 a4)
def zfit (ty : FieldType) (v : Value) : Bool := fits ty v && (narrow ty v == v)
theorem zfit_t {ty : FieldType} {v : Value} (hv : zfit ty v = true) : narrow ty (zt g v) = zt g v ∧ fits ty (zt g v) = true := by
  simp only [zfit, Bool.and_eq_true, beq_iff_eq] at hv
  obtain ⟨h1, h2⟩ := hv
  cases v with
  | ref i => cases ty <;> first | exact ⟨rfl, rfl⟩ | (simp [fits] at h1)
  | _ => exact ⟨h2, h1⟩
theorem zn_put {idx o ci k : Nat} {fs : List Value} {v : Value} (hf : zF I pc = some (.putfield idx, 3, ci, k)) (ho : h.1 o = some (.inr (ci, fs))) (hk : k < fs.length) (hv : zfit (zty ci k) v = true) (K : Zn g I (pc + 3) L st (zup h o (.inr (ci, fs.set k v))) mc ms Q) : Zn g I pc L (v :: .ref o :: st) h mc ms Q := by
  intro p e R s m args below meth c H locs cells slots cT sT ls hC hR hL hl a1 a2 a3 a4
  obtain ⟨C, T, N, c1, c2, c3, c4, c5, c6, c7⟩ := hC.lk hf
  have hK := hC.zS.2.2.1
  have hpo := hR.posO ho
  have hP := hR.P ho hpo
  have hap := va_apart (own := (zNm I).cls) hC.hts c3 (zty ci) c5 c6 hK c1
  obtain ⟨hn, hfit⟩ := zfit_t (g := g) hv
  obtain ⟨r, h1, cell, q1, q2, q3, q4⟩ := hP 0 _ rfl
  have hr : r = (C, T, N) := Option.some.inj (h1.symm.trans c1)
  subst hr
  obtain ⟨hS, hfc, kC, hkC, hkind⟩ := hK.1 ci _ c1
  obtain ⟨cf, kf, fi, f, hi, hsl⟩ := hS k c2
  have hlay := hC.hts _ (c3 _ (u_in_lay c2))
  unfold u_lay at hlay
  have hst := (u_facts hfc hkC (u_lays hC.hts c3 c2) hi).1
  have hl2 : k < (fs.map (zt g)).length := by rw [List.length_map]; exact hk
  have fin : ∀ H' : Heap, H'[zad g o]? = some (cell.setSlot f.slot (zt g v)) → H'.size = H.size → (∀ q, q ≠ zad g o → H'[q]? = H[q]?) → zRel g (zup h o (.inr (ci, fs.set k v))) H' := by
    intro H' e1 e2 e3
    refine hR.put ho hpo ?_ e2 e3
    rw [hsl] at e1
    refine ⟨_, c1, t_OB.to (V := updV (vp_V (fs.map (zt g))) k (zt g v)) ⟨_, e1, q2, q3, t_set q4 hap c2 (zt g v)⟩ (fun j _ => ?_)⟩
    rw [vp_updV_set hl2 (zt g v) j]
    show vp_V ((fs.map (zt g)).set k (zt g v)) j = vp_V ((fs.set k v).map (zt g)) j
    rw [List.map_set]
  rcases c7 with c7 | ⟨c7, c8, c9⟩
  · rw [if_neg (by rw [c7]; decide)] at hlay
    have h6 := u_store hfc hkC hkind hlay hi (c5 k c2) hn hfit
    refine W.putK hC.1 hC.2.1 (f := f) ⟨hC.own, hC.hts _ c4, ⟨_, _, _, hi⟩, hst⟩ (by rw [q2]; exact h6) q1 q3 (by rw [hsl]; exact k2_hasslot (q4 k c2)) rfl rfl (hC.dec hf) fun H' e1 e2 e3 => ?_
    exact K p e R s m args below meth c H' _ cells slots cT sT ls hC (fin H' e1 e2 e3) hL (fun z hz => by
      rcases List.mem_append.mp hz with hz | hz
      · exact hl z hz
      · rw [List.mem_singleton.mp hz]; show zg1 g < zad g o; rw [zad_pos g hpo]; omega) a1 a2 a3 a4
  · rw [if_pos c7] at hlay
    have hcf : m.cls = cf := by
      obtain ⟨_, _, c', _, _, _, -, -, hf', -, -, -, hown2, -⟩ := Cond.laysFinal_spec hlay
      have e1 : c' = cf := by have := hi.symm.trans hf'; simp at this; exact this.1.symm
      rw [c9] at hown2
      rw [← e1]; exact Option.some.inj (hC.own.symm.trans hown2)
    have h6 := u_fits hfc hkC hkind (Or.inr hlay) hi (c5 k c2) hn hfit
    refine W.putFinK hC.1 hC.2.1 hC.own (hC.hts _ c4) hi hst hcf (hC.2.2.2.2.2.2.2.1.trans c8) (by rw [q2]; exact h6) q1 q3 (by rw [hsl]; exact k2_hasslot (q4 k c2)) rfl rfl (hC.dec hf) fun H' e1 e2 e3 => ?_
    exact K p e R s m args below meth c H' _ cells slots cT sT ls hC (fin H' e1 e2 e3) hL (fun z hz => by
      rcases List.mem_append.mp hz with hz | hz
      · exact hl z hz
      · rw [List.mem_singleton.mp hz]; show zg1 g < zad g o; rw [zad_pos g hpo]; omega) a1 a2 a3 a4
def zcnt (ci : Nat) : Nat := match vwCl[ci]? with
  | some q => q.2.2
  | none => 0
def zdef (ci : Nat) : List Value := (List.range (zcnt ci)).map fun j => defaultValue (zty ci j)
theorem zdef_t (g : zG) (ci : Nat) : (zdef ci).map (zt g) = zdef ci := by
  unfold zdef
  rw [List.map_map]
  refine List.map_congr_left fun j _ => ?_
  show zt g (defaultValue (zty ci j)) = _
  cases zty ci j <;> rfl
theorem zn_new {idx ci : Nat} (hf : zF I pc = some (.new idx, 3, ci, 0)) (K : Zn g I (pc + 3) L (.ref h.2 :: st) (znew h (.inr (ci, zdef ci))) mc ms Q) : Zn g I pc L st h (mc + 1) (ms + zcnt ci) Q := by
  intro p e R s m args below meth c H locs cells slots cT sT ls hC hR hL hl a1 a2 a3 a4
  obtain ⟨C, T, N, c1, c3, c5, c6, c7, c8⟩ : zNw (zNm I).cls idx ci := hC.lk hf
  have hK := hC.zS.2.2.1
  have hKn := hK.1 ci _ c1
  have hcn : zcnt ci = N := by simp only [zcnt, c1]
  refine W.newcK hC.1 hC.2.1 hC.own (hC.hts _ c6) (hC.hts _ c7) (hC.hts _ c8) rfl (hC.dec hf) (by omega) (by omega) hKn.2.1 rfl fun H1 kC hkC e1 z1 o1 => ?_
  have hat : va_at (zgD g) vwCl (H.size, zE g (.inr (ci, zdef ci))) H1 := by
    refine ⟨_, c1, (u_born (zty ci) hC.hts c3 hKn hkC e1 c5).to (fun j hj => ?_)⟩
    show defaultValue (zty ci j) = vp_V ((zdef ci).map (zt g)) j
    rw [zdef_t]
    unfold vp_V zdef
    rw [hcn, List.getD_eq_getElem?_getD, List.getElem?_map, List.getElem?_range hj]
    rfl
  have hR' := hR.new hat z1 o1
  have := K p e R s m args below meth c H1 locs (cells + 1) (slots + N) cT sT ls hC hR' hL hl (by omega) (by omega) a3 a4
  rw [← hR.top]
  exact this
theorem zn_alen {o : Nat} {x : vp_A} (hf : zF I pc = some (.arraylength, 1, a, b)) (ho : h.1 o = some (.inl x)) (K : Zn g I (pc + 1) L (.int (Int32.ofNat x.1) :: st) h mc ms Q) : Zn g I pc L (.ref o :: st) h mc ms Q := by
  intro p e R s m args below meth c H locs cells slots cT sT ls hC hR hL hl a1 a2 a3 a4
  have K' := K p e R s m args below meth c H locs cells slots cT sT ls hC hR hL hl a1 a2 a3 a4
  have hK := hC.zS.2.2.1
  rcases Nat.eq_zero_or_pos o with z | z
  · have h0 := (hR.2.2.2.2 o _ ho).2.1 z
    subst z
    obtain rfl : x = (zgn g, .inl (zgx g)) := by cases h0; rfl
    exact va_slen (b := zgb g) hC.1 hC.2.1 hC.zS.2.2.2.1 (by have := hC.zS.2.1; rw [hR.2.2.1]; omega) (by have := hC.zS.2.1; show ¬ zg1 g < zgb g; omega) (hR.S hl) (hC.dec hf) K'
  · have hP := hR.P ho z
    obtain ⟨n, f | f | f | f | f⟩ := x
    · exact va_alen hC.1 hC.2.1 hK hP 0 0 rfl rfl rfl (hC.dec hf) K'
    · exact va_alen hC.1 hC.2.1 hK hP 0 1 rfl rfl rfl (hC.dec hf) K'
    · exact va_alen hC.1 hC.2.1 hK hP 0 0 rfl rfl rfl (hC.dec hf) K'
    · exact va_alen hC.1 hC.2.1 hK hP 0 2 rfl rfl rfl (hC.dec hf) K'
    · exact va_alen hC.1 hC.2.1 hK hP 0 3 rfl rfl rfl (hC.dec hf) K'
theorem zn_iald {o n : Nat} {f : Nat → Int32} {i : Int32} (hf : zF I pc = some (.iaload, 1, a, b)) (ho : h.1 o = some (.inl (n, .inl f))) (hin : vp_in i n) (K : Zn g I (pc + 1) L (.int (f i.toNatClampNeg) :: st) h mc ms Q) : Zn g I pc L (.int i :: .ref o :: st) h mc ms Q := by
  intro p e R s m args below meth c H locs cells slots cT sT ls hC hR hL hl a1 a2 a3 a4
  have K' := K p e R s m args below meth c H locs cells slots cT sT ls hC hR hL hl a1 a2 a3 a4
  have hK := hC.zS.2.2.1
  rcases Nat.eq_zero_or_pos o with z | z
  · have h0 := (hR.2.2.2.2 o _ ho).2.1 z
    subst z
    obtain ⟨rfl, rfl⟩ : n = zgn g ∧ f = zgx g := by cases h0; exact ⟨rfl, rfl⟩
    exact va_sld hC.1 hC.2.1 hC.zS.2.2.2.1 (by have := hC.zS.2.1; rw [hR.2.2.1]; omega) (by have := hC.zS.2.1; show ¬ zg1 g < zgb g; omega) (hR.S hl) hin (hC.dec hf) K'
  · exact va_iald hC.1 hC.2.1 hK (hR.P ho z) 0 0 rfl rfl hin (hC.dec hf) K'
theorem zn_lald {o n : Nat} {f : Nat → Int64} {i : Int32} (hf : zF I pc = some (.laload, 1, a, b)) (hp : 0 < o) (ho : h.1 o = some (.inl (n, .inr (.inl f)))) (hin : vp_in i n) (K : Zn g I (pc + 1) L (.long (f i.toNatClampNeg) :: st) h mc ms Q) : Zn g I pc L (.int i :: .ref o :: st) h mc ms Q := by
  intro p e R s m args below meth c H locs cells slots cT sT ls hC hR hL hl a1 a2 a3 a4
  exact va_lald hC.1 hC.2.1 hC.zS.2.2.1 (hR.P ho hp) 0 1 rfl rfl hin (hC.dec hf) (K p e R s m args below meth c H locs cells slots cT sT ls hC hR hL hl a1 a2 a3 a4)
theorem zn_dald {o n : Nat} {f : Nat → UInt64} {i : Int32} (hf : zF I pc = some (.daload, 1, a, b)) (hp : 0 < o) (ho : h.1 o = some (.inl (n, .inr (.inr (.inr (.inl f)))))) (hin : vp_in i n) (K : Zn g I (pc + 1) L (.double (f i.toNatClampNeg) :: st) h mc ms Q) : Zn g I pc L (.int i :: .ref o :: st) h mc ms Q := by
  intro p e R s m args below meth c H locs cells slots cT sT ls hC hR hL hl a1 a2 a3 a4
  exact va_dald hC.1 hC.2.1 hC.zS.2.2.1 (hR.P ho hp) 0 2 rfl rfl hin (hC.dec hf) (K p e R s m args below meth c H locs cells slots cT sT ls hC hR hL hl a1 a2 a3 a4)
theorem zn_aald {o n : Nat} {f : Nat → Option Nat} {i : Int32} (hf : zF I pc = some (.aaload, 1, a, b)) (hp : 0 < o) (ho : h.1 o = some (.inl (n, .inr (.inr (.inr (.inr f)))))) (hin : vp_in i n) (K : Zn g I (pc + 1) L (va_rf (f i.toNatClampNeg) :: st) h mc ms Q) : Zn g I pc L (.int i :: .ref o :: st) h mc ms Q := by
  intro p e R s m args below meth c H locs cells slots cT sT ls hC hR hL hl a1 a2 a3 a4
  have K' := K p e R s m args below meth c H locs cells slots cT sT ls hC hR hL hl a1 a2 a3 a4
  rw [List.map_cons, ← zrf] at K'
  exact va_aldq hC.1 hC.2.1 hC.zS.2.2.1 (hR.P ho hp) 0 3 rfl rfl hin (hC.dec hf) K'
theorem zloc {locs : List Loc} {o j : Nat} (hp : 0 < o) (hl : ∀ z ∈ locs, zg1 g < z.base) : ∀ z ∈ locs ++ [(⟨zad g o, j⟩ : Loc)], zg1 g < z.base := fun z hz => by
  rcases List.mem_append.mp hz with hz | hz
  · exact hl z hz
  · rw [List.mem_singleton.mp hz]; show zg1 g < zad g o; rw [zad_pos g hp]; omega
theorem zn_iast {o n : Nat} {f : Nat → Int32} {i x : Int32} (hf : zF I pc = some (.iastore, 1, a, b)) (hp : 0 < o) (ho : h.1 o = some (.inl (n, .inl f))) (hin : vp_in i n) (K : Zn g I (pc + 1) L st (zup h o (.inl (n, .inl (upd f i.toNatClampNeg x)))) mc ms Q) : Zn g I pc L (.int x :: .int i :: .ref o :: st) h mc ms Q := by
  intro p e R s m args below meth c H locs cells slots cT sT ls hC hR hL hl a1 a2 a3 a4
  have hK := hC.zS.2.2.1
  have hA := hR.at ho hp
  refine W.iast hC.1 hC.2.1 hA ((hK.2 0 _ rfl).1 n (fun j => .int (f j))) (fun q => by cases q) (by show ¬ (i < 0 ∨ (arrV _ _ _).slots.size ≤ _); rw [arrV_size]; exact hin) rfl rfl (hC.dec hf) fun H1 e1 z oq => ?_
  refine K p e R s m args below meth c H1 _ cells slots cT sT ls hC (hR.put ho hp ?_ z oq) hL (zloc hp hl) a1 a2 a3 a4
  show H1[zad g o]? = some (vp_cell _ _)
  rw [e1]
  show some ((vp_cell (zgI g) (n, .inl f)).setSlot _ _) = some (vp_cell (zgI g) (n, .inl (upd f i.toNatClampNeg x)))
  rw [vp_cell_i, vp_cell_i, arrV_store]
  congr 2
  funext q
  by_cases hq : q = i.toNatClampNeg
  · subst hq
    simp [updV, upd]
  · simp [updV, upd, hq]
theorem zn_last {o n : Nat} {f : Nat → Int64} {i : Int32} {x : Int64} (hf : zF I pc = some (.lastore, 1, a, b)) (hp : 0 < o) (ho : h.1 o = some (.inl (n, .inr (.inl f)))) (hin : vp_in i n) (K : Zn g I (pc + 1) L st (zup h o (.inl (n, .inr (.inl (vp_updL f i.toNatClampNeg x))))) mc ms Q) : Zn g I pc L (.long x :: .int i :: .ref o :: st) h mc ms Q := by
  intro p e R s m args below meth c H locs cells slots cT sT ls hC hR hL hl a1 a2 a3 a4
  have hK := hC.zS.2.2.1
  have hA := hR.at ho hp
  refine W.last hC.1 hC.2.1 hA ((hK.2 1 _ rfl).1 n (fun j => .long (f j))) (fun q => by cases q) (by show ¬ (i < 0 ∨ (arrV _ _ _).slots.size ≤ _); rw [arrV_size]; exact hin) rfl rfl (hC.dec hf) fun H1 e1 z oq => ?_
  refine K p e R s m args below meth c H1 _ cells slots cT sT ls hC (hR.put ho hp ?_ z oq) hL (zloc hp hl) a1 a2 a3 a4
  show H1[zad g o]? = some (vp_cell _ _)
  rw [e1]
  show some ((vp_cell (zgJ g) (n, .inr (.inl f))).setSlot _ _) = some (vp_cell (zgJ g) (n, .inr (.inl (vp_updL f i.toNatClampNeg x))))
  rw [vp_cell_l, vp_cell_l, arrV_store]
  congr 2
  funext q
  by_cases hq : q = i.toNatClampNeg
  · subst hq
    simp [updV, vp_updL]
  · simp [updV, vp_updL, hq]
theorem zn_dast {o n : Nat} {f : Nat → UInt64} {i : Int32} {x : UInt64} (hf : zF I pc = some (.dastore, 1, a, b)) (hp : 0 < o) (ho : h.1 o = some (.inl (n, .inr (.inr (.inr (.inl f)))))) (hin : vp_in i n) (K : Zn g I (pc + 1) L st (zup h o (.inl (n, .inr (.inr (.inr (.inl (va_up f i.toNatClampNeg x))))))) mc ms Q) : Zn g I pc L (.double x :: .int i :: .ref o :: st) h mc ms Q := by
  intro p e R s m args below meth c H locs cells slots cT sT ls hC hR hL hl a1 a2 a3 a4
  have hK := hC.zS.2.2.1
  have hA := hR.at ho hp
  refine W.dast hC.1 hC.2.1 hA ((hK.2 2 _ rfl).1 n (fun j => .double (f j))) (fun q => by cases q) (by show ¬ (i < 0 ∨ (arrV _ _ _).slots.size ≤ _); rw [arrV_size]; exact hin) rfl rfl (hC.dec hf) fun H1 e1 z oq => ?_
  refine K p e R s m args below meth c H1 _ cells slots cT sT ls hC (hR.put ho hp ?_ z oq) hL (zloc hp hl) a1 a2 a3 a4
  show H1[zad g o]? = some (vp_cell _ _)
  rw [e1]
  show some ((vp_cell (zgK g) (n, .inr (.inr (.inr (.inl f))))).setSlot _ _) = some (vp_cell (zgK g) (n, .inr (.inr (.inr (.inl (va_up f i.toNatClampNeg x))))))
  rw [vp_cell_d, vp_cell_d, arrV_store]
  congr 2
  funext q
  by_cases hq : q = i.toNatClampNeg
  · subst hq
    simp [updV, va_up]
  · simp [updV, va_up, hq]
theorem zn_aast {o n v : Nat} {vs : List Value} {f : Nat → Option Nat} {i : Int32} (hf : zF I pc = some (.aastore, 1, a, b)) (hp : 0 < o) (ho : h.1 o = some (.inl (n, .inr (.inr (.inr (.inr f)))))) (hv : h.1 v = some (.inr (7, vs))) (hin : vp_in i n) (K : Zn g I (pc + 1) L st (zup h o (.inl (n, .inr (.inr (.inr (.inr (va_up f i.toNatClampNeg (some v)))))))) mc ms Q) : Zn g I pc L (.ref v :: .int i :: .ref o :: st) h mc ms Q := by
  intro p e R s m args below meth c H locs cells slots cT sT ls hC hR hL hl a1 a2 a3 a4
  have hK := hC.zS.2.2.1
  have hA := hR.at ho hp
  have hlt : i.toNatClampNeg < n := Nat.not_le.mp fun q => hin (Or.inr q)
  have h0 : ¬ i < 0 := fun q => hin (Or.inl q)
  obtain ⟨r', hr', cellV, g1, g2, g3, -⟩ := hR.at hv (hR.posO hv)
  have hcls := (hK.1 7 (RX7, TX7, 2) rfl).2
  obtain ⟨kA, comp, k1, k2, k3, -⟩ := (hK.2 3 _ rfl).2
  have hcomp : comp = (zgD g).1 7 := Option.some.inj (k3.symm.trans hcls.1)
  subst hcomp
  obtain ⟨kC, hkC, -⟩ := hcls.2
  refine W.aast hC.1 hC.2.1 hA (fun q h => by cases h) (fun h => by cases h) k1 k2 rfl hkC ⟨h0, by show _ < (arrV _ _ _).slots.size; rw [arrV_size]; exact hlt⟩ g1 (fun q h => by rw [g3] at h; cases h) (by rw [g2]; exact hkC) (by rw [g2]; exact va_assign hcls) rfl rfl (hC.dec hf) fun H1 e1 z oq => ?_
  refine K p e R s m args below meth c H1 _ cells slots cT sT ls hC (hR.put ho hp ?_ z oq) hL (zloc hp hl) a1 a2 a3 a4
  show H1[zad g o]? = some (vp_cell _ _)
  rw [e1]
  show some ((vp_cell (zgP g) (n, .inr (.inr (.inr (.inr (fun j => (f j).map (zad g))))))).setSlot _ _) = some (vp_cell (zgP g) (n, .inr (.inr (.inr (.inr (fun j => (va_up f i.toNatClampNeg (some v) j).map (zad g)))))))
  rw [vp_cell_q, vp_cell_q, arrV_store]
  congr 2
  funext q
  by_cases hq : q = i.toNatClampNeg
  · subst hq
    simp [updV, va_up, va_rf]
  · simp [updV, va_up, hq]
theorem zn_ldc {idx v : Nat} (hf : zF I pc = some (.ldc idx, 2, v, b)) (K : Zn g I (pc + 2) L (.int (nI v) :: st) h mc ms Q) : Zn g I pc L st h mc ms Q := by
  intro p e R s m args below meth c H locs cells slots cT sT ls hC hR hL hl a1 a2 a3 a4
  exact lv_ldc hC.1 hC.2.1 hC.own (hC.hts _ (hC.lk hf)) (hC.dec hf) (K p e R s m args below meth c H locs cells slots cT sT ls hC hR hL hl a1 a2 a3 a4)
theorem zn_ldc2 {idx v : Nat} (hf : zF I pc = some (.ldc2_w idx, 3, v, b)) (K : Zn g I (pc + 3) L (.long (lN v) :: st) h mc ms Q) : Zn g I pc L st h mc ms Q := by
  intro p e R s m args below meth c H locs cells slots cT sT ls hC hR hL hl a1 a2 a3 a4
  exact lv_ldc2 hC.1 hC.2.1 hC.own (hC.hts _ (hC.lk hf)) (hC.dec hf) (K p e R s m args below meth c H locs cells slots cT sT ls hC hR hL hl a1 a2 a3 a4)
theorem zarr_cls {s : State} (hK : va_K (zgD g) vwCl (ztys g) s) {cA : ClassId} {ty : FieldType} (k : Nat) {c0 : ClassId} (hk : (ztys g)[k]? = some (c0, ty)) (hp : ∀ C, ty ≠ .object C) (hcA : s.vm.findClass ("[" ++ ty.toString) = some cA) : cA = c0 := by
  have h1 := (hK.2 k _ hk).2
  unfold va_RA at h1
  cases ty with
  | object C => exact absurd rfl (hp C)
  | _ => exact Option.some.inj (hcA.symm.trans h1)
theorem zn_newa_i {n : Int32} {N : Nat} (hf : zF I pc = some (.newarray .int, 2, a, b)) (hn : ¬ n < 0) (hN : n.toNatClampNeg = N) (hb : N * 8 ≤ 536870912) (hw : Cond.arrayClass .int ∈ zgt) (K : Zn g I (pc + 2) L (.ref h.2 :: st) (znew h (.inl (N, .inl (fun _ => 0)))) mc ms Q) : Zn g I pc L (.int n :: st) h (mc + 1) (ms + N) Q := by
  intro p e R s m args below meth c H locs cells slots cT sT ls hC hR hL hl a1 a2 a3 a4
  have hK := hC.zS.2.2.1
  refine va_newaK (atype := .int) hC.1 hC.2.1 (hC.hts _ hw) rfl (hC.dec hf) rfl hn hN (Nat.le_trans (Nat.mul_le_mul_left N (show componentBytes .int ≤ 8 by decide)) hb) (by omega) (by omega) rfl fun H1 cA e1 z1 o1 hAr hcA => ?_
  have hcc : cA = zgI g := zarr_cls hK 0 rfl (fun C h => by cases h) hcA
  subst hcc
  have hat : va_at (zgD g) vwCl (H.size, zE g (.inl (N, .inl (fun _ => 0)))) H1 := e1
  have := K p e R s m args below meth c H1 locs (cells + 1) (slots + N) cT sT ls hC (hR.new hat z1 o1) hL hl (by omega) (by omega) a3 a4
  rw [← hR.top]
  exact this
theorem zn_newa_l {n : Int32} {N : Nat} (hf : zF I pc = some (.newarray .long, 2, a, b)) (hn : ¬ n < 0) (hN : n.toNatClampNeg = N) (hb : N * 8 ≤ 536870912) (hw : Cond.arrayClass .long ∈ zgt) (K : Zn g I (pc + 2) L (.ref h.2 :: st) (znew h (.inl (N, .inr (.inl (fun _ => 0))))) mc ms Q) : Zn g I pc L (.int n :: st) h (mc + 1) (ms + N) Q := by
  intro p e R s m args below meth c H locs cells slots cT sT ls hC hR hL hl a1 a2 a3 a4
  have hK := hC.zS.2.2.1
  refine va_newaK (atype := .long) hC.1 hC.2.1 (hC.hts _ hw) rfl (hC.dec hf) rfl hn hN (Nat.le_trans (Nat.mul_le_mul_left N (show componentBytes .long ≤ 8 by decide)) hb) (by omega) (by omega) rfl fun H1 cA e1 z1 o1 hAr hcA => ?_
  have hcc : cA = zgJ g := zarr_cls hK 1 rfl (fun C h => by cases h) hcA
  subst hcc
  have hat : va_at (zgD g) vwCl (H.size, zE g (.inl (N, .inr (.inl (fun _ => 0))))) H1 := e1
  have := K p e R s m args below meth c H1 locs (cells + 1) (slots + N) cT sT ls hC (hR.new hat z1 o1) hL hl (by omega) (by omega) a3 a4
  rw [← hR.top]
  exact this
theorem zn_newa_d {n : Int32} {N : Nat} (hf : zF I pc = some (.newarray .double, 2, a, b)) (hn : ¬ n < 0) (hN : n.toNatClampNeg = N) (hb : N * 8 ≤ 536870912) (hw : Cond.arrayClass .double ∈ zgt) (K : Zn g I (pc + 2) L (.ref h.2 :: st) (znew h (.inl (N, .inr (.inr (.inr (.inl (fun _ => 0))))))) mc ms Q) : Zn g I pc L (.int n :: st) h (mc + 1) (ms + N) Q := by
  intro p e R s m args below meth c H locs cells slots cT sT ls hC hR hL hl a1 a2 a3 a4
  have hK := hC.zS.2.2.1
  refine va_newaK (atype := .double) hC.1 hC.2.1 (hC.hts _ hw) rfl (hC.dec hf) rfl hn hN (Nat.le_trans (Nat.mul_le_mul_left N (show componentBytes .double ≤ 8 by decide)) hb) (by omega) (by omega) rfl fun H1 cA e1 z1 o1 hAr hcA => ?_
  have hcc : cA = zgK g := zarr_cls hK 2 rfl (fun C h => by cases h) hcA
  subst hcc
  have hat : va_at (zgD g) vwCl (H.size, zE g (.inl (N, .inr (.inr (.inr (.inl (fun _ => 0))))))) H1 := e1
  have := K p e R s m args below meth c H1 locs (cells + 1) (slots + N) cT sT ls hC (hR.new hat z1 o1) hL hl (by omega) (by omega) a3 a4
  rw [← hR.top]
  exact this
end zHeap
