section w2
variable {g : zG} {hh h' : zH} {F F1 F2 z z2 : Nat → Nat} {S S2 : Int64} {A A1 A2 : Nat → Nat → Nat} {X X2 : Nat → Int32} {n : Nat} {f : Nat → Int32}
/-! BOTH SIDES: what holds between two calls, and a pair of calls -/
abbrev oL (u : Nat → Int64) : zO := .inl (1, .inr (.inl u))
abbrev oD (u : Nat → UInt64) : zO := .inl (1, .inr (.inr (.inr (.inl u))))
def AB (A : Nat → Nat → Nat) : Prop := ∀ i j, A i j < 2 ^ 20
def JJ (n : Nat) (f : Nat → Int32) (hh : zH) (F : Nat → Nat) (S : Int64) (z : Nat → Nat) (A : Nat → Nat → Nat) (X : Nat → Int32) : Prop := hh = mhp hh F S z A X ∧ INV hh F z A ∧ AB A ∧ hh.1 0 = some (.inl (n, .inl f)) ∧ (∃ u, hh.1 66 = some (oL u)) ∧ (∃ u, hh.1 67 = some (oD u))
def Jk (n : Nat) (f : Nat → Int32) (k : Nat) (hh : zH) : Prop := ∃ F S z A X, JJ n f hh F S z A X ∧ F 0 = k
abbrev TY (T : Type) : Type := (T → Value) × Nat × (zO → T → Prop)
def tyI : TY Int32 := ⟨.int, 66, fun x w => ∃ u, x = oL u ∧ u 0 = w.toInt64⟩
def tyL : TY Int64 := ⟨.long, 66, fun x w => ∃ u, x = oL u ∧ u 0 = w⟩
def tyD : TY UInt64 := ⟨.double, 67, fun x w => ∃ u, x = oD u ∧ u 0 = w⟩
def wfT {T : Type} (τ : TY T) : Prop := (τ.2.1 = 66 ∧ ∀ x w, τ.2.2 x w → ∃ u, x = oL u) ∨ (τ.2.1 = 67 ∧ ∀ x w, τ.2.2 x w → ∃ u, x = oD u)
theorem wfI : wfT tyI := Or.inl ⟨rfl, fun x w q => by obtain ⟨u, e, -⟩ := q; exact ⟨u, e⟩⟩
theorem wfL : wfT tyL := Or.inl ⟨rfl, fun x w q => by obtain ⟨u, e, -⟩ := q; exact ⟨u, e⟩⟩
theorem wfD : wfT tyD := Or.inr ⟨rfl, fun x w q => by obtain ⟨u, e, -⟩ := q; exact ⟨u, e⟩⟩
/-- the wrapper W of the class's method C: it catches es -/
def WR {T : Type} (τ : TY T) (g : zG) (C W : zI) (as : List Value) (es : List Nat) : Prop := ∀ (hh : zH) (fs : List Value) (mc ms : Nat) (Q1 Q : zR → zH → Prop), hh.1 1 = some (.inr (8, fs)) → Zm g C (.ref 1 :: as) hh mc ms Q1 →
  (∀ v h', Q1 (.inl v) h' → ∃ w, v = some (τ.1 w) ∧ (∃ u, h'.1 66 = some (oL u)) ∧ (∃ u, h'.1 67 = some (oD u)) ∧ ∀ x, τ.2.2 x w → Q (.inl (some (.int (nI 0)))) (zup h' τ.2.1 x)) →
  (∀ E h', Q1 (.inr E) h' → ∃ i, es[i]? = some E ∧ Q (.inl (some (.int (nI (i + 1))))) h') → Zm g W (.ref 1 :: (as ++ [.ref τ.2.1])) hh mc ms Q
/-- both calls: the wrapper's number is what the reference says it threw, and the answers are the same -/
def PR {T : Type} (τ : TY T) (g : zG) (W M : zI) (as : List Value) (n : Nat) (f : Nat → Int32) (hh : zH) : Prop := ∃ k, k ≤ 3 ∧ Zm g W (.ref 1 :: (as ++ [.ref τ.2.1])) hh 5 3300 (fun r h1 => r = .inl (some (.int (nI k))) ∧ (h1.1 0 = some (.inl (n, .inl f)) ∧ ∃ fs, h1.1 50 = some (.inr (9, fs))) ∧ ∃ (b : T) (h2 : zH), Zx g M (.ref 50 :: as) h1 (some (τ.1 b)) h2 ∧ Jk n f k h2 ∧ (k = 0 → ∃ x, h2.1 τ.2.1 = some x ∧ τ.2.2 x b))
theorem mhp_of (e : ∀ i, 50 ≤ i → i ≤ 65 → h'.1 i = (mhp hh F S z A X).1 i) : h' = mhp h' F S z A X := by
  refine Prod.ext (funext fun i => ?_) rfl
  by_cases hi : 50 ≤ i ∧ i ≤ 65
  · rw [e i hi.1 hi.2]
    unfold mhp
    simp only
    by_cases h1 : i = 50
    · rw [if_pos h1, if_pos h1]
    · rw [if_neg h1, if_neg h1]
      by_cases h2 : i = 51
      · rw [if_pos h2, if_pos h2]
      · rw [if_neg h2, if_neg h2]
        by_cases h3 : i = 65
        · rw [if_pos h3, if_pos h3]
        · rw [if_neg h3, if_neg h3, if_pos (by omega), if_pos (by omega)]
  · unfold mhp
    simp only
    rw [if_neg (by omega), if_neg (by omega), if_neg (by omega), if_neg (by omega)]
theorem mhp_out {i : Nat} (hi : i < 50 ∨ 65 < i) : (mhp hh F S z A X).1 i = hh.1 i := by
  unfold mhp
  simp only
  rw [if_neg (by omega), if_neg (by omega), if_neg (by omega), if_neg (by omega)]
theorem mhp_id : mhp hh F S z A X = mhp (mhp hh F S z A X) F S z A X := mhp_of (hh := hh) (fun i _ _ => rfl)
theorem mhp_eq (e : hh = mhp hh F S z A X) (q : ∀ i, 50 ≤ i → i ≤ 65 → h'.1 i = hh.1 i) : h' = mhp h' F S z A X := mhp_of (hh := hh) (fun i a b => (q i a b).trans (by rw [← e]))
theorem RF.up {o : Nat} {x : zO} (hw : wfh hh) (ho : o = 66 ∨ o = 67) : RF hh (zup hh o x) := by
  have h68 := hw.1
  refine ⟨Nat.le_refl _, fun i hi => ?_, fun i hi => ?_⟩
  · rw [zup_n (by omega)]
    exact hw.2 i hi
  · exact zup_n (by omega)
theorem PR_ok {T : Type} {τ : TY T} {C W M : zI} {as : List Value} {es : List Nat} {mc ms : Nat} {v : T} (hJ : JJ n f hh F S z A X) (hτ : wfT τ) (hW : WR τ g C W as es) (hmc : mc ≤ 5) (hms : ms ≤ 3300)
    (hc : Zm g C (.ref 1 :: as) hh mc ms (fun r h' => r = .inl (some (τ.1 v)) ∧ INV h' F1 z2 A1 ∧ FRm hh h'))
    (hm : ∀ h, Zx g M (.ref 50 :: as) (mhp h F S z A X) (some (τ.1 v)) (mhp h F2 S2 z2 A2 X2))
    (h0 : F2 0 = 0) (hF : Fsm F1 F2) (hA : Asm A1 A2) (hB : AB A2) : PR τ g W M as n f hh := by
  obtain ⟨j1, j2, j3, j4, ⟨u6, j5⟩, ⟨u7, j6⟩⟩ := hJ
  obtain ⟨pf, now, p, Z, sz, hS⟩ := ST.ex j2
  refine ⟨0, by omega, zn_mono (hW hh _ mc ms _ _ hS.t hc ?_ ?_) hmc hms (fun _ _ q => q)⟩
  · rintro v9 h9 ⟨e9, hi, fr⟩
    have e66 := (fr.2 66 (by omega)).trans j5
    have e67 := (fr.2 67 (by omega)).trans j6
    refine ⟨v, Sum.inl.inj e9, ⟨u6, e66⟩, ⟨u7, e67⟩, fun x hx => ⟨rfl, ⟨?_, mfl F S, ?_⟩, v, mhp (zup h9 τ.2.1 x) F2 S2 z2 A2 X2, ?_, ?_, fun _ => ⟨x, ?_, hx⟩⟩⟩
    · rw [zup_n (by rcases hτ with h | h <;> (rw [h.1]; omega)), fr.2 0 (by omega)]
      exact j4
    · rw [zup_n (by rcases hτ with h | h <;> (rw [h.1]; omega)), fr.2 50 (by omega), j1]
      rfl
    · have ho : τ.2.1 = 66 ∨ τ.2.1 = 67 := by
        rcases hτ with h | h
        · exact Or.inl h.1
        · exact Or.inr h.1
      have e1 : zup h9 τ.2.1 x = mhp (zup h9 τ.2.1 x) F S z A X := mhp_eq j1 (fun i a b => (zup_n (by omega)).trans (fr.2 i (by omega)))
      have := hm (zup h9 τ.2.1 x)
      rw [← e1] at this
      exact this
    · have ho : τ.2.1 = 66 ∨ τ.2.1 = 67 := by
        rcases hτ with h | h
        · exact Or.inl h.1
        · exact Or.inr h.1
      have i1 := hi.rf (RF.up (x := x) hi.wf ho)
      refine ⟨F2, S2, z2, A2, X2, ⟨mhp_id, (i1.rf (RF.ref i1.wf)).cg hF hA, hB, ?_, ?_, ?_⟩, h0⟩
      · rw [mhp_out (by omega), zup_n (by omega), fr.2 0 (by omega)]
        exact j4
      · rw [mhp_out (by omega)]
        rcases hτ with h | h
        · obtain ⟨u, eu⟩ := h.2 x v hx
          exact ⟨u, by rw [h.1, zup_s, eu]⟩
        · exact ⟨u6, by rw [h.1, zup_n (by omega)]; exact e66⟩
      · rw [mhp_out (by omega)]
        rcases hτ with h | h
        · exact ⟨u7, by rw [h.1, zup_n (by omega)]; exact e67⟩
        · obtain ⟨u, eu⟩ := h.2 x v hx
          exact ⟨u, by rw [h.1, zup_s, eu]⟩
    · rw [mhp_out (by rcases hτ with h | h <;> (rw [h.1]; omega)), zup_s]
  · rintro E h9 ⟨e9, -⟩
    cases e9
/-- a query: the class's heap stays -/
theorem PR_qu {T : Type} {τ : TY T} {C W M : zI} {as : List Value} {es : List Nat} {v : T} (hJ : JJ n f hh F S z A X) (hτ : wfT τ) (hW : WR τ g C W as es)
    (hc : Zx g C (.ref 1 :: as) hh (some (τ.1 v)) hh)
    (hm : ∀ h, Zx g M (.ref 50 :: as) (mhp h F S z A X) (some (τ.1 v)) (mhp h F2 S2 z A2 X2))
    (h0 : F2 0 = 0) (hF : Fsm F F2) (hA : Asm A A2) (hB : AB A2) : PR τ g W M as n f hh :=
  PR_ok (F1 := F) (A1 := A) hJ hτ hW (Nat.zero_le _) (Nat.zero_le _) (zn_mono hc (Nat.le_refl _) (Nat.le_refl _) (fun r h9 q => ⟨q.1, by rw [q.2]; exact hJ.2.1, by rw [q.2]; exact FRm.refl⟩)) hm h0 hF hA hB
/-- a call that throws -/
theorem PR_th {T : Type} {τ : TY T} {C W M : zI} {as : List Value} {es : List Nat} {E i : Nat} {b : T} (hJ : JJ n f hh F S z A X) (hW : WR τ g C W as es) (he : es[i]? = some E) (hi : i + 1 ≤ 3)
    (hc : Zt g C (.ref 1 :: as) hh E)
    (hm : ∀ h, Zx g M (.ref 50 :: as) (mhp h F S z A X) (some (τ.1 b)) (mhp h F2 S2 z A2 X2))
    (h0 : F2 0 = i + 1) (hF : Fsm F F2) (hA : Asm A A2) (hB : AB A2) : PR τ g W M as n f hh := by
  obtain ⟨j1, j2, j3, j4, ⟨u6, j5⟩, ⟨u7, j6⟩⟩ := hJ
  obtain ⟨pf, now, p, Z, sz, hS⟩ := ST.ex j2
  refine ⟨i + 1, hi, zn_mono (hW hh _ 1 6 _ _ hS.t hc ?_ ?_) (by omega) (by omega) (fun _ _ q => q)⟩
  · rintro v9 h9 ⟨e9, -⟩
    cases e9
  · rintro E9 h9 ⟨e9, e8⟩
    cases e9
    subst e8
    refine ⟨i, he, rfl, ⟨j4, mfl F S, by show hh.1 50 = _; rw [j1]; rfl⟩, b, mhp (zthr hh) F2 S2 z A2 X2, ?_, ?_, fun q => absurd q (by omega)⟩
    · have e1 : zthr hh = mhp (zthr hh) F S z A X := mhp_eq j1 (fun i a b => rfl)
      have := hm (zthr hh)
      rw [← e1] at this
      exact this
    · have i1 := j2.rf (RF.thr j2.wf)
      exact ⟨F2, S2, z, A2, X2, ⟨mhp_id, (i1.rf (RF.ref i1.wf)).cg hF hA, hB, by rw [mhp_out (by omega)]; exact j4, ⟨u6, by rw [mhp_out (by omega)]; exact j5⟩, ⟨u7, by rw [mhp_out (by omega)]; exact j6⟩⟩, h0⟩
end w2
