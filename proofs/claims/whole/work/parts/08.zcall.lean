section zCall
variable {g : zG} {I J : zI} {pc a b : Nat} {L L' : zL} {st rest as : List Value} {h : zH} {mc ms mc1 ms1 mc2 ms2 : Nat} {Q Q1 : zR → zH → Prop}
theorem zgood {w : Cond} (hw : w ∈ zgt) : w ∈ zgt ∧ ((w.onTables && w.keeps) = true ∨ ∃ ty, w = .arrayClass ty) := ⟨hw, good_of_word (zg_good hw)⟩
theorem zsl_args (g : zG) : ∀ (as : List Value) (k i : Nat) (v : Value), (zsl as)[i]? = some (some v) → (k + i, zt g v) ∈ lv_args k (as.map (zt g))
  | [], k, i, v, hv => by simp [zsl] at hv
  | w :: as, k, i, v, hv => by
    show (k + i, zt g v) ∈ (k, zt g w) :: lv_args (if (zt g w).category = 2 then k + 2 else k + 1) (as.map (zt g))
    have hz : zsl (w :: as) = (if w.category = 2 then [some w, none] else [some w]) ++ zsl as := by simp [zsl]
    rw [hz] at hv
    rw [zt_cat]
    by_cases hc : w.category = 2
    · rw [if_pos hc] at hv ⊢
      match i, hv with
      | 0, hv =>
        simp at hv
        rw [hv]
        exact List.mem_cons_self
      | 1, hv => simp at hv
      | i + 2, hv =>
        have hv' : (zsl as)[i]? = some (some v) := by simpa using hv
        have := zsl_args g as (k + 2) i v hv'
        rw [show k + (i + 2) = k + 2 + i by omega]
        exact List.mem_cons_of_mem _ this
    · rw [if_neg hc] at hv ⊢
      match i, hv with
      | 0, hv =>
        simp at hv
        rw [hv]
        exact List.mem_cons_self
      | i + 1, hv =>
        have hv' : (zsl as)[i]? = some (some v) := by simpa using hv
        have := zsl_args g as (k + 1) i v hv'
        rw [show k + (i + 1) = k + 1 + i by omega]
        exact List.mem_cons_of_mem _ this
theorem zsl_len (g : zG) : ∀ (as : List Value), (lg_sl (as.map (zt g))).length = (zsl as).length
  | [] => rfl
  | w :: as => by
    have ih := zsl_len g as
    have e1 : zsl (w :: as) = (if w.category = 2 then [some w, none] else [some w]) ++ zsl as := by simp [zsl]
    have e2 : lg_sl ((w :: as).map (zt g)) = (if (zt g w).category = 2 then [Slot.val (zt g w), .second] else [Slot.val (zt g w)]) ++ lg_sl (as.map (zt g)) := by simp [lg_sl]
    rw [e1, e2, zt_cat, List.length_append, List.length_append, ih]
    by_cases hc : w.category = 2
    · rw [if_pos hc, if_pos hc]; rfl
    · rw [if_neg hc, if_neg hc]; rfl
theorem zent_has (g : zG) {as : List Value} {n : Nat} (hn : (zsl as).length ≤ n) : zHas g ((lg_sl (as.map (zt g)) ++ List.replicate (n - (lg_sl (as.map (zt g))).length) Slot.unset).toArray) n (zent n as) := by
  have hl := lv_entry (as.map (zt g)) (n := n) (by rw [zsl_len]; exact hn)
  refine zHas.of hl.1 hl.2.1 fun i v hv => ?_
  have hi : (zsl as)[i]? = some (some v) := by
    unfold zent at hv
    by_cases hlt : i < (zsl as).length
    · rw [List.getElem?_append_left hlt] at hv
      exact hv
    · rw [List.getElem?_append_right (by omega)] at hv
      rw [List.getElem?_replicate] at hv
      split at hv <;> cases hv
  have := zsl_args g as 0 i v hi
  rw [Nat.zero_add] at this
  exact hl.2.2 _ this
def zPc (g : zG) (as : List Value) (h : zH) : Array Value → State → Prop := fun v U => v = (as.map (zt g)).toArray ∧ zRel g h U.heap ∧ zS g U
theorem zPc_blind : FrameBlind (zPc g as h) := by
  intro v U g9 mk q
  obtain ⟨q1, q2, q3⟩ := q
  exact ⟨q1, q2, zS.warm (s := U) (U := U.calling g9 mk v) (State.WarmedH.refl U) q3⟩
theorem zPc_at {s U : State} {H : Heap} (hR : zRel g h H) (hS : zS g s) (hU : U.heap = H) (hW : s.WarmedH U.vm) : zPc g as h (as.map (zt g)).toArray U := ⟨rfl, by rw [hU]; exact hR, hS.warm hW⟩
def zrm (J : zI) (mc ms : Nat) : Room := { frames := zFr J, cells := mc, slots := ms, locals := zLo J }
/-- the body of J in its machine -/
theorem zm_body {ws : List Cond} (hall : ∀ a, a < zN → zOK (zP a)) (hok : zOK J) (hsl : (zsl as).length ≤ zMx J) (hws : ∀ w ∈ zgt, w ∈ ws) (k : Zm g J as h mc ms Q)
    {p : Program} {e : Env} {s : State} {m : MethodId} {args : Array Value} {below : List Frame} {meth : Method} {c : Code} {s₁ : State} (B : BodyLoose p (zgl g) (zNm J) (headSpec ws (zrm J mc ms)) (zBy J) (zMx J) (zRt J) e s m args below meth c s₁) (hml : c.maxLocals = zMx J) (ht : c.exceptionTable.toList = tableOf (zEx J)) (hP : zPc g as h args s) :
    W p (zgl g) e (headSpec ws (zrm J mc ms)).room s m args below meth c s.heap [] 0 0 (vx_MQ below (zQc g Q) (zXc g Q) args s mc ms (fun q => zg1 g < q)) (entryFrame m args (zMx J)) := by
  obtain ⟨rfl, hR, hS⟩ := hP
  have hts := atoms_spec (ws := ws) B.pre
  have hC : zC g J p (headSpec ws (zrm J mc ms)).room s m (as.map (zt g)).toArray meth c :=
    ⟨B.exec, B.bytes, hml, B.returns, B.notSynchronized, ht, findClass_of_methodNamed B.named, (name_of_methodNamed B.named B.method).1, fun w hw => hts w (hws w hw), hS, hok, hall, Nat.le_refl _, Nat.le_refl _⟩
  rw [lg_entry_eq]
  exact k p e _ s m _ below meth c s.heap [] 0 0 mc ms _ hC hR (zent_has g hsl) (fun z hz => nomatch hz) (by omega) (by omega) (Nat.le_refl _) (Nat.le_refl _)
def zws1 (J : zI) : List Cond := Cond.code (zNm J) (zBy J) (zMx J) (zRt J) :: zgt
def zws2 (J : zI) : List Cond := Cond.codeWith (zNm J) (zBy J) (zMx J) (zRt J) (zEx J) :: zgt
theorem Zm.met (hall : ∀ a, a < zN → zOK (zP a)) (hok : zOK J) (hsl : (zsl as).length ≤ zMx J) (hex : zEx J = []) (hpn : plainName (zNm J).cls = true) (k : Zm g J as h mc ms Q) :
    vx_Met (zgl g) (zNm J) (zws1 J) (zrm J mc ms) (zPc g as h) (zQc g Q) (zXc g Q) mc ms (fun q => zg1 g < q) := by
  refine vx_ofW (cc := zBy J) (maxL := zMx J) (ret := zRt J) hpn rfl ?_
  intro p e s m args below meth c s₁ B hml ht hP
  refine zm_body hall hok hsl (fun w hw => List.mem_cons_of_mem _ hw) k B hml ?_ hP
  rw [hex]
  cases hx : c.exceptionTable.toList with
  | nil => rfl
  | cons x r => exact absurd (ht x (by rw [hx]; exact List.mem_cons_self)) id
theorem Zm.met0 (hall : ∀ a, a < zN → zOK (zP a)) (hok : zOK J) (hsl : (zsl as).length ≤ zMx J) (hex : zEx J = []) (hpn : plainName (zNm J).cls = true) (hno : ∀ E h', ¬ Q (.inr E) h') (k : Zm g J as h mc ms Q) :
    Met (zgl g) (zNm J) (zws1 J) (zrm J mc ms) (zPc g as h) (zQc g Q) mc ms (fun q => zg1 g < q) := by
  refine Met.ofW (cc := zBy J) (maxL := zMx J) (ret := zRt J) hpn rfl ?_
  intro p e s m args below meth c s₁ B hml hP
  have ht : c.exceptionTable.toList = tableOf (zEx J) := by
    obtain ⟨meth9, c9, h1, h2, -, -, -, -, h7, -⟩ := Cond.code_spec B.named (atoms_spec (ws := zws1 J) B.pre _ List.mem_cons_self)
    cases Option.some.inj (h1.symm.trans B.method)
    cases Option.some.inj (h2.symm.trans (Stand.of_body B).code)
    rw [hex, Array.isEmpty_iff.mp h7]
    rfl
  have K := zm_body hall hok hsl (fun w hw => List.mem_cons_of_mem _ hw) k B hml ht hP
  intro T hT X
  obtain ⟨t, b1, o, b2, b3, b4⟩ := K T hT X
  rcases b4 with b4 | ⟨q, -, E, ce, LL, ⟨k9, h', c1, -⟩, -⟩
  · exact ⟨t, b1, o, b2, b3, b4⟩
  · exact absurd c1 (hno _ _)
theorem Zm.met2 (hall : ∀ a, a < zN → zOK (zP a)) (hok : zOK J) (hsl : (zsl as).length ≤ zMx J) (hpn : plainName (zNm J).cls = true) (k : Zm g J as h mc ms Q) :
    vx_Met (zgl g) (zNm J) (zws2 J) (zrm J mc ms) (zPc g as h) (zQc g Q) (zXc g Q) mc ms (fun q => zg1 g < q) := by
  refine vx_ofWH (cc := zBy J) (maxL := zMx J) (ret := zRt J) (hh := zEx J) hpn rfl ?_
  intro p e s m args below meth c s₁ B hml hP
  exact zm_body hall hok hsl (fun w hw => List.mem_cons_of_mem _ hw) k B hml (vx_table (x := zNm J) B (atoms_spec (ws := zws2 J) B.pre _ List.mem_cons_self)) hP
theorem zback (g : zG) (v : Option Value) (rest : List Value) : (v.map (zt g)).toList ++ rest.map (zt g) = (v.toList ++ rest).map (zt g) := by cases v <;> rfl
theorem zrev (g : zG) (as rest : List Value) : (as.reverse ++ rest).map (zt g) = (as.map (zt g)).reverse ++ rest.map (zt g) := by simp
theorem zroom (g : zG) {m : MethodId} {pc : Nat} {ls : Array Slot} {s9 : List Value} (hr : (rest.map fun v => v.category).sum ≤ 8) : 2 * (F0 m pc ls s9).monitorRoom + (((rest.map (zt g)).map fun v => v.category)).sum ≤ 8 := by
  rw [zcat]
  show 2 * 0 + _ ≤ 8
  omega
/-- behind a call that may throw: on with the answer, or out with the exception -/
theorem zgo {p : Program} {e : Env} {R : Room} {s : State} {m : MethodId} {args : Array Value} {below : List Frame} {meth : Method} {c : Code} {H : Heap} {locs : List Loc} {cells slots cT sT : Nat} {ls : Array Slot} {s9 : List Value} {aa : Array Value}
    (hC : zC g I p R s m args meth c) (hL : zHas g ls (zMx I) L) (hl : ∀ z ∈ locs, zg1 g < z.base) (a1 : cells + (mc1 + mc2) ≤ cT) (a2 : slots + (ms1 + ms2) ≤ sT) (a3 : cT ≤ R.cells) (a4 : sT ≤ R.slots) (hexI : zEx I = [])
    (hrun : vx_Run p (zgl g) e R s m args below meth c H locs cells slots mc1 ms1 (F0 m pc ls s9) (rest.map (zt g)) (zQc g Q1 aa) (zXc g Q1) (fun q => zg1 g < q))
    (h2 : ∀ v h', Q1 (.inl v) h' → Zn g I (pc + 3) L (v.toList ++ rest) h' mc2 ms2 Q) (h3 : ∀ E h', Q1 (.inr E) h' → Q (.inr E) h') :
    W p (zgl g) e R s m args below meth c H locs cells slots (vx_MQ below (zQc g Q) (zXc g Q) args s cT sT (fun q => zg1 g < q)) (F0 m pc ls s9) := by
  intro T hT X
  rcases hrun T hT X with ⟨v, st₀, t, T', Lc, h0, X', hL', e1, e2, ⟨v0, h', hq, hv, hr'⟩, stp⟩ | ⟨q, st₀, t, T', Lc, E, ce, h0, X', hL', e1, e2, ⟨k9, h', hq, hk3, hE, hr'⟩, hce, hcv, hcl, stp⟩
  · obtain rfl : v = v0.map (zt g) := by cases hv; rfl
    obtain ⟨t2, b1, b2⟩ := h2 v0 h' hq p e R s m args below meth c T'.heap (locs ++ Lc) (cells + mc1) (slots + ms1) cT sT ls hC (by rw [e1]; exact hr') hL (fun z hz => (List.mem_append.mp hz).elim (hl z) (hL' z)) (by omega) (by omega) a3 a4 T' rfl X'
    refine ⟨t2, stp t2 ?_, b2⟩
    rw [zback]
    exact b1
  · have hW := vx_out (p := p) (l := zgl g) (e := e) (R := R) (s := s) (m := m) (args := args) (below := below) (meth := meth) (c := c) (H := T'.heap) (locs := locs ++ Lc) (cells := cells + mc1) (slots := slots + ms1) (ls := ls) (rest := rest.map (zt g)) (Qc := zQc g Q) (XC := zXc g Q) (free := fun q => zg1 g < q) (mc := cT) (ms := sT) (pc := pc) (E := E) (ce := ce) (q := q)
      (by rw [hC.2.2.2.2.2.1, hexI]; intro x hx; exact nomatch hx) hC.2.2.2.2.1 (by rw [e1]; exact hce) hcv hcl (fun t9 ht9 _ => ⟨k9, h', h3 _ _ hq, hk3, hE, by rw [ht9, e1]; exact hr'⟩) (fun z hz => (List.mem_append.mp hz).elim (hl z) (hL' z)) (by omega) (by omega)
    obtain ⟨t2, b1, b2⟩ := hW T' rfl X'
    exact ⟨t2, stp.trans b1, b2⟩
theorem zgo0 {p : Program} {e : Env} {R : Room} {s : State} {m : MethodId} {args : Array Value} {below : List Frame} {meth : Method} {c : Code} {H : Heap} {locs : List Loc} {cells slots cT sT : Nat} {ls : Array Slot} {s9 : List Value} {aa : Array Value}
    (hC : zC g I p R s m args meth c) (hL : zHas g ls (zMx I) L) (hl : ∀ z ∈ locs, zg1 g < z.base) (a1 : cells + (mc1 + mc2) ≤ cT) (a2 : slots + (ms1 + ms2) ≤ sT) (a3 : cT ≤ R.cells) (a4 : sT ≤ R.slots)
    (hrun : va_Run p (zgl g) e R s m args below meth c H locs cells slots mc1 ms1 (F0 m pc ls s9) (rest.map (zt g)) (zQc g Q1 aa) (fun q => zg1 g < q))
    (h2 : ∀ v h', Q1 (.inl v) h' → Zn g I (pc + 3) L (v.toList ++ rest) h' mc2 ms2 Q) :
    W p (zgl g) e R s m args below meth c H locs cells slots (vx_MQ below (zQc g Q) (zXc g Q) args s cT sT (fun q => zg1 g < q)) (F0 m pc ls s9) := by
  intro T hT X
  obtain ⟨v, st₀, t, T', Lc, h0, X', hL', e1, e2, ⟨v0, h', hq, hv, hr'⟩, stp⟩ := hrun T hT X
  obtain rfl : v = v0.map (zt g) := by cases hv; rfl
  obtain ⟨t2, b1, b2⟩ := h2 v0 h' hq p e R s m args below meth c T'.heap (locs ++ Lc) (cells + mc1) (slots + ms1) cT sT ls hC (by rw [e1]; exact hr') hL (fun z hz => (List.mem_append.mp hz).elim (hl z) (hL' z)) (by omega) (by omega) a3 a4 T' rfl X'
  refine ⟨t2, stp t2 ?_, b2⟩
  rw [zback]
  exact b1
theorem zrecv {s : State} {H : Heap} {o ci : Nat} {fs : List Value} {C : String} (hR : zRel g h H) (hS : zS g s) (ho : h.1 o = some (.inr (ci, fs))) (hcl : (vwCl[ci]?).map (fun q => q.1) = some C) : ∃ cell : Cell, H[zad g o]? = some cell ∧ cell.vm.isStatics = false ∧ s.vm.findClass C = some cell.cls := by
  cases hc : vwCl[ci]? with
  | none => rw [hc] at hcl; cases hcl
  | some q =>
    rw [hc] at hcl
    obtain rfl : q.1 = C := by simpa using hcl
    exact va_recv hS.2.2.1 (hR.P ho (hR.posO ho)) hc (q0 := 0) rfl
theorem zn_callV {idx o ci : Nat} {fs : List Value} (hf : zF I pc = some (.invokevirtual idx, 3, a, b)) (hJ : zP a = J) (hst : st = as.reverse ++ .ref o :: rest) (hb : as.length = b) (ho : h.1 o = some (.inr (ci, fs))) (hcl : (vwCl[ci]?).map (fun q => q.1) = some (zNm J).cls) (hexI : zEx I = []) (hexJ : zEx J = [])
    (hfr : zFr J + 1 ≤ zFr I) (hlo : 8 + (zMx J + 11) + zLo J ≤ zLo I) (hsl : (zsl (.ref o :: as)).length ≤ zMx J) (hre : (rest.map fun v => v.category).sum ≤ 8)
    (h1 : Zm g J (.ref o :: as) h mc1 ms1 Q1) (h2 : ∀ v h', Q1 (.inl v) h' → Zn g I (pc + 3) L (v.toList ++ rest) h' mc2 ms2 Q) (h3 : ∀ E h', Q1 (.inr E) h' → Q (.inr E) h') : Zn g I pc L st h (mc1 + mc2) (ms1 + ms2) Q := by
  intro p e R s m args below meth c H locs cells slots cT sT ls hC hR hL hl a1 a2 a3 a4
  obtain ⟨haN, hJ0, hml, him, hsel⟩ : a < zN ∧ zCv (zNm I).cls idx (zP a) b := hC.lk hf
  have hokJ := hC.2.2.2.2.2.2.2.2.2.2.2.1 a haN
  subst hJ
  obtain ⟨j1, j2, j3, j4, j5, j6, -⟩ := hJ0
  have hcode := j6 hexJ
  subst hst
  rw [zrev, List.map_cons]
  refine zgo (Q1 := Q1) hC hL hl a1 a2 a3 a4 hexI (vx_runV (As := as.map (zt g)) (rest := rest.map (zt g)) (n := b) (Ts := zgt) ⟨hC.1, hC.2.1, hC.2.2.1, hC.own, hC.hts⟩ (Zm.met (mc := mc1) (ms := ms1) hC.2.2.2.2.2.2.2.2.2.2.2.1 hokJ hsl hexJ j1 h1)
    (cwV b hC.hts (fun w hw => zgood (by
      rcases List.mem_append.mp hw with hw | hw
      · simp only [List.mem_cons, List.not_mem_nil, or_false] at hw
        rcases hw with rfl | rfl | rfl | rfl
        · exact hml
        · exact him
        · exact hsel
        · exact j5
      · rcases List.mem_cons.mp hw with rfl | hw
        · exact hcode
        · exact hw)) rfl rfl rfl ⟨rfl, j2, j3, j4⟩ ⟨Nat.le_trans hfr hC.2.2.2.2.2.2.2.2.2.2.2.2.1, Nat.le_trans hlo hC.2.2.2.2.2.2.2.2.2.2.2.2.2⟩)
    ⟨zPc_blind, zrecv hR hC.zS ho hcl, fun U hU hW => zPc_at (as := .ref o :: as) hR hC.zS hU hW⟩ rfl (by rw [List.length_map]; exact hb) hL.1 rfl (zroom g hre) (hC.dec hf) ⟨by omega, by omega⟩) h2 h3
theorem zgoodW {J : zI} (hcode : Cond.code (zNm J) (zBy J) (zMx J) (zRt J) ∈ zgt) : GoodIn zgt (zws1 J) := fun w hw => zgood (by
  rcases List.mem_cons.mp hw with rfl | hw
  · exact hcode
  · exact hw)
/-- a static method that doesn't throw -/
theorem zn_callS {idx : Nat} (hf : zF I pc = some (.invokestatic idx, 3, a, b)) (ha : a < 5000) (hJ : zP a = J) (hst : st = as.reverse ++ rest) (hb : as.length = b) (hexJ : zEx J = [])
    (hfr : zFr J + 1 ≤ zFr I) (hlo : 8 + (zMx J + 11) + zLo J ≤ zLo I) (hsl : (zsl as).length ≤ zMx J) (hre : (rest.map fun v => v.category).sum ≤ 8) (hno : ∀ E h', ¬ Q1 (.inr E) h')
    (h1 : Zm g J as h mc1 ms1 Q1) (h2 : ∀ v h', Q1 (.inl v) h' → Zn g I (pc + 3) L (v.toList ++ rest) h' mc2 ms2 Q) : Zn g I pc L st h (mc1 + mc2) (ms1 + ms2) Q := by
  intro p e R s m args below meth c H locs cells slots cT sT ls hC hR hL hl a1 a2 a3 a4
  have hlk := hC.lk hf
  simp only [zLk, if_neg (show ¬ a = 5000 by omega), if_neg (show ¬ a = 5002 by omega), if_neg (show ¬ a = 5003 by omega)] at hlk
  obtain ⟨haN, hJ0, hstat, hml⟩ := hlk
  have hokJ := hC.2.2.2.2.2.2.2.2.2.2.2.1 a haN
  subst hJ
  obtain ⟨j1, j2, j3, j4, j5, j6, -⟩ := hJ0
  have hcode := j6 hexJ
  subst hst
  rw [zrev]
  have hM := Zm.met0 (mc := mc1) (ms := ms1) hC.2.2.2.2.2.2.2.2.2.2.2.1 hokJ hsl hexJ j1 hno h1
  rcases hml with hml | ⟨-, host, hml⟩
  · exact zgo0 (Q1 := Q1) hC hL hl a1 a2 a3 a4 (va_runS (As := as.map (zt g)) (rest := rest.map (zt g)) (n := b) (Ts := zgt) ⟨hC.1, hC.2.1, hC.2.2.1, hC.own, hC.hts⟩ hM
      ⟨callB_of b hC.hts (zgoodW hcode) rfl rfl rfl (hC.hts _ j5) (hC.hts _ hml) ⟨j2, j3, j4⟩ ⟨Nat.le_trans hfr hC.2.2.2.2.2.2.2.2.2.2.2.2.1, Nat.le_trans hlo hC.2.2.2.2.2.2.2.2.2.2.2.2.2⟩, hC.hts _ hstat⟩
      ⟨zPc_blind, fun U hU hW => zPc_at (as := as) hR hC.zS hU hW⟩ rfl (by rw [List.length_map]; exact hb) hL.1 rfl (zroom g hre) (hC.dec hf) ⟨by omega, by omega⟩) h2
  · exact zgo0 (Q1 := Q1) hC hL hl a1 a2 a3 a4 (va_runSN (As := as.map (zt g)) (rest := rest.map (zt g)) (n := b) (Ts := zgt) ⟨hC.1, hC.2.1, hC.2.2.1, hC.own, hC.hts⟩ hM
      ⟨va_cnB b hC.hts (zgoodW hcode) rfl rfl rfl (hC.zS.2.2.2.2.1 _ hml rfl) (hC.hts _ j5) ⟨j2, j3, j4⟩ ⟨Nat.le_trans hfr hC.2.2.2.2.2.2.2.2.2.2.2.2.1, Nat.le_trans hlo hC.2.2.2.2.2.2.2.2.2.2.2.2.2⟩, hC.hts _ hstat, trivial⟩
      ⟨zPc_blind, fun U hU hW => zPc_at (as := as) hR hC.zS hU hW⟩ rfl (by rw [List.length_map]; exact hb) hL.1 rfl (zroom g hre) (hC.dec hf) ⟨by omega, by omega⟩) h2
/-- a constructor -/
theorem zn_callI {idx o : Nat} (hf : zF I pc = some (.invokespecial idx, 3, a, b)) (ha : a ≠ 5001) (hJ : zP a = J) (hst : st = as.reverse ++ .ref o :: rest) (hb : as.length = b)
    (hfr : zFr J + 1 ≤ zFr I) (hlo : 8 + (zMx J + 11) + zLo J ≤ zLo I) (hsl : (zsl (.ref o :: as)).length ≤ zMx J) (hre : (rest.map fun v => v.category).sum ≤ 8) (hno : ∀ E h', ¬ Q1 (.inr E) h')
    (h1 : Zm g J (.ref o :: as) h mc1 ms1 Q1) (h2 : ∀ v h', Q1 (.inl v) h' → Zn g I (pc + 3) L (v.toList ++ rest) h' mc2 ms2 Q) : Zn g I pc L st h (mc1 + mc2) (ms1 + ms2) Q := by
  intro p e R s m args below meth c H locs cells slots cT sT ls hC hR hL hl a1 a2 a3 a4
  have hlk := hC.lk hf
  simp only [zLk, if_neg ha] at hlk
  obtain ⟨haN, hJ0, hexJ, hrt, hnm, him, hml⟩ := hlk
  have hokJ := hC.2.2.2.2.2.2.2.2.2.2.2.1 a haN
  subst hJ
  obtain ⟨j1, j2, j3, j4, j5, j6, -⟩ := hJ0
  have hcode := j6 hexJ
  subst hst
  rw [zrev, List.map_cons]
  have hM := Zm.met0 (mc := mc1) (ms := ms1) hC.2.2.2.2.2.2.2.2.2.2.2.1 hokJ hsl hexJ j1 hno h1
  have hwsn : zws1 (zP a) = Cond.code (zNm (zP a)) (zBy (zP a)) (zMx (zP a)) none :: zgt := by unfold zws1; rw [hrt]
  rcases hml with hml | ⟨host, hml⟩
  · exact zgo0 (Q1 := Q1) hC hL hl a1 a2 a3 a4 (va_runI (As := as.map (zt g)) (rest := rest.map (zt g)) (n := b) (Ts := zgt) ⟨hC.1, hC.2.1, hC.2.2.1, hC.own, hC.hts⟩ hM
      ⟨callB_of b hC.hts (zgoodW hcode) hwsn rfl rfl (hC.hts _ j5) (hC.hts _ hml) ⟨j2, j3, j4⟩ ⟨Nat.le_trans hfr hC.2.2.2.2.2.2.2.2.2.2.2.2.1, Nat.le_trans hlo hC.2.2.2.2.2.2.2.2.2.2.2.2.2⟩, hnm, hC.hts _ him⟩
      ⟨zPc_blind, fun U hU hW => zPc_at (as := .ref o :: as) hR hC.zS hU hW⟩ rfl (by rw [List.length_map]; exact hb) hL.1 rfl (zroom g hre) (hC.dec hf) ⟨by omega, by omega⟩) h2
  · exact zgo0 (Q1 := Q1) hC hL hl a1 a2 a3 a4 (va_runIN (As := as.map (zt g)) (rest := rest.map (zt g)) (n := b) (Ts := zgt) ⟨hC.1, hC.2.1, hC.2.2.1, hC.own, hC.hts⟩ hM
      ⟨va_cnB b hC.hts (zgoodW hcode) hwsn rfl rfl (hC.zS.2.2.2.2.1 _ hml rfl) (hC.hts _ j5) ⟨j2, j3, j4⟩ ⟨Nat.le_trans hfr hC.2.2.2.2.2.2.2.2.2.2.2.2.1, Nat.le_trans hlo hC.2.2.2.2.2.2.2.2.2.2.2.2.2⟩, hnm, hC.hts _ him⟩
      ⟨zPc_blind, fun U hU hW => zPc_at (as := .ref o :: as) hR hC.zS hU hW⟩ rfl (by rw [List.length_map]; exact hb) hL.1 rfl (zroom g hre) (hC.dec hf) ⟨by omega, by omega⟩) h2
/-- a static method with handlers of its own (the law's callers of the class) -/
theorem zn_callSX {idx : Nat} (hf : zF I pc = some (.invokestatic idx, 3, a, b)) (ha : a < 5000) (hJ : zP a = J) (hst : st = as.reverse ++ rest) (hb : as.length = b) (hexI : zEx I = []) (hexJ : zEx J ≠ [])
    (hfr : zFr J + 1 ≤ zFr I) (hlo : 8 + (zMx J + 11) + zLo J ≤ zLo I) (hsl : (zsl as).length ≤ zMx J) (hre : (rest.map fun v => v.category).sum ≤ 8)
    (h1 : Zm g J as h mc1 ms1 Q1) (h2 : ∀ v h', Q1 (.inl v) h' → Zn g I (pc + 3) L (v.toList ++ rest) h' mc2 ms2 Q) (h3 : ∀ E h', Q1 (.inr E) h' → Q (.inr E) h') : Zn g I pc L st h (mc1 + mc2) (ms1 + ms2) Q := by
  intro p e R s m args below meth c H locs cells slots cT sT ls hC hR hL hl a1 a2 a3 a4
  have hlk := hC.lk hf
  simp only [zLk, if_neg (show ¬ a = 5000 by omega), if_neg (show ¬ a = 5002 by omega), if_neg (show ¬ a = 5003 by omega)] at hlk
  obtain ⟨haN, hJ0, hstat, hml⟩ := hlk
  have hokJ := hC.2.2.2.2.2.2.2.2.2.2.2.1 a haN
  subst hJ
  obtain ⟨j1, j2, j3, j4, j5, -, j6⟩ := hJ0
  have hcode := j6 hexJ
  subst hst
  rw [zrev]
  rcases hml with hml | ⟨hx9, -⟩
  · refine zgo (Q1 := Q1) hC hL hl a1 a2 a3 a4 hexI (vx_runSX (As := as.map (zt g)) (rest := rest.map (zt g)) (n := b) (Ts := zgt) (hh := zEx (zP a)) ⟨hC.1, hC.2.1, hC.2.2.1, hC.own, hC.hts⟩ (Zm.met2 (mc := mc1) (ms := ms1) hC.2.2.2.2.2.2.2.2.2.2.2.1 hokJ hsl j1 h1)
      ⟨⟨rfl, rfl, Nat.le_trans hfr hC.2.2.2.2.2.2.2.2.2.2.2.2.1, Nat.le_trans hlo hC.2.2.2.2.2.2.2.2.2.2.2.2.2, pay_in hC.hts (fun w hw => zgood (by
        rcases List.mem_cons.mp hw with rfl | hw
        · exact hcode
        · exact hw)), List.mem_cons_self⟩, hC.hts _ hcode, hC.hts _ j5, ⟨j2, j3⟩, fun sig hs => ?_, hC.hts _ hml, hC.hts _ hstat⟩
      ⟨zPc_blind, fun U hU hW => zPc_at (as := as) hR hC.zS hU hW⟩ rfl (by rw [List.length_map]; exact hb) hL.1 rfl (zroom g hre) (hC.dec hf) ⟨by omega, by omega⟩) h2 h3
    rw [hs] at j4
    exact (Option.some.inj j4).symm
  · exact absurd hx9 hexJ
theorem zg_obj : Cond.instanceMethod objectInit ∈ zgt ∧ Cond.code objectInit ⟨#[0xb1]⟩ 1 none ∈ zgt := ⟨zg_in 130 rfl rfl, zg_in 131 rfl rfl⟩
theorem zn_obj {idx o : Nat} (hf : zF I pc = some (.invokespecial idx, 3, 5001, b)) (hfr : 1 ≤ zFr I) (hlo : (st.map fun v => v.category).sum + 12 ≤ zLo I) (K : Zn g I (pc + 3) L st h mc ms Q) : Zn g I pc L (.ref o :: st) h mc ms Q := by
  intro p e R s m args below meth c H locs cells slots cT sT ls hC hR hL hl a1 a2 a3 a4
  have hlk : Cond.methodLink (zNm I).cls idx objectInit ∈ zgt := hC.lk hf
  refine W.objInit hC.1 hC.2.1 hC.own (hC.hts _ hlk) (hC.hts _ zg_obj.1) (hC.hts _ zg_obj.2) rfl (by rw [hC.2.2.1]; exact hL.1) rfl (hC.dec hf) (Nat.le_trans hfr hC.2.2.2.2.2.2.2.2.2.2.2.2.1) ?_ (K p e R s m args below meth c H locs cells slots cT sT ls hC hR hL hl a1 a2 a3 a4)
  have := hC.2.2.2.2.2.2.2.2.2.2.2.2.2
  show 2 * 0 + (((st.map (zt g)).map fun v => v.category)).sum + 12 ≤ R.locals
  rw [zcat]
  omega
end zCall
