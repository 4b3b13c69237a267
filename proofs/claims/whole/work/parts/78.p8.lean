section p8
variable {g : zG} {h hh h' : zH} {F F' z z' : Nat → Nat} {A A' : Nat → Nat → Nat} {pf : Nat → Option Nat} {now p sz : Nat} {Z : Nat → Nat}
/-! THE STATE: what keeps it, what changes it -/
theorem SL_cg (e : ∀ j, j < 3289 → z' j = z j) {l : Nat} (hl : l < 24) : SL z' l z l := ⟨e _ (by omega), fun c hc => ⟨e _ (by omega), fun k hk => e _ (by omega)⟩⟩
theorem tOK_cg (hz : tOK z) (e : ∀ j, j < 3289 → z' j = z j) (hb : ∀ j, z' j < 1000) : tOK z' := by
  have e0 := e 0 (by omega)
  have h24 := hz.ok.2.1
  exact tOK_of (by rw [e0]; exact hz.ok.1) (by rw [e0]; exact h24) hb (fun l hl => (SL_cg e (by omega)).gl (hz.gl (by omega)))
theorem fT_cg (hz : tOK z) (e : ∀ j, j < 3289 → z' j = z j) : fT z' = fT z := by
  have h24 := hz.ok.2.1
  unfold fT
  rw [e 0 (by omega)]
  exact fm_cg _ _ _ (fun i hi => by rw [Nat.zero_add]; exact (SL_cg e (by omega)).fL_eq (hz.gl (by omega)))
theorem FL_cg (hz : tOK z) (e : ∀ j, j < 3289 → z' j = z j) (h : FL z Z sz) : FL z' Z sz := by
  unfold FL
  rw [fT_cg hz e]
  exact h
theorem Pg_cg (q : Pg hh p z) (e : ∀ j, j < 3289 → z' j = z j) (hb : ∀ j, z' j < 1000) : Pg hh p z' := by
  obtain ⟨Z, sz, q1, q2, q3⟩ := q
  exact ⟨Z, sz, q1, FL_cg q3 e q2, tOK_cg q3 e hb⟩
theorem PGe.ne {p' sz' : Nat} {Z' : Nat → Nat} (q : PGe hh p Z sz) (q' : PGe hh p' Z' sz') (hn : p' ≠ p) : p' ≠ p + 1 ∧ p' + 1 ≠ p ∧ p' + 1 ≠ p + 1 := by
  refine ⟨fun e => ?_, fun e => ?_, by omega⟩
  · have r := q'.1
    rw [e, q.2.1] at r
    cases r
  · have r := q.1
    rw [← e, q'.2.1] at r
    cases r
theorem PGe.lt (q : PGe hh p Z sz) (hw : wfh hh) : p + 1 < hh.2 ∧ p < hh.2 := by
  refine ⟨?_, ?_⟩
  · rcases Nat.lt_or_ge (p + 1) hh.2 with r | r
    · exact r
    · have := hw.2 _ r
      rw [q.2.1] at this
      cases this
  · rcases Nat.lt_or_ge p hh.2 with r | r
    · exact r
    · have := hw.2 _ r
      rw [q.1] at this
      cases this
theorem PGe.at (q : PGe hh p Z sz) (e1 : h'.1 p = hh.1 p) (e2 : h'.1 (p + 1) = hh.1 (p + 1)) : PGe h' p Z sz := ⟨by rw [e1]; exact q.1, by rw [e2]; exact q.2.1, q.2.2⟩
theorem Pg.at (q : Pg hh p z) (e : ∀ i, i = p ∨ i = p + 1 → h'.1 i = hh.1 i) : Pg h' p z := by
  obtain ⟨Z, sz, q1, q2⟩ := q
  exact ⟨Z, sz, q1.at (e _ (Or.inl rfl)) (e _ (Or.inr rfl)), q2⟩
/-- outside the layout 10 nothing has changed -/
def MF (B : Nat) (hh h' : zH) : Prop := h'.2 = hh.2 ∧ ∀ i, i < B ∨ B + 20 ≤ i → h'.1 i = hh.1 i
theorem PREq.lay (q : PREq hh F z A pf now p) {B : Nat} (hB : B = 10 ∨ B = 30) (m : MF B hh h') (hL : LSh h' B) : PREq h' F z A pf now p := by
  obtain ⟨q1, q2, q3, q4, q5, q6, q7⟩ := q
  have hw := q2.1
  refine ⟨q1.fr (m.2 1 (by omega)), ⟨by rw [m.1]; exact hw, fun i hi => ?_⟩, q3.fr (fun i a b => m.2 i (by omega)), q4.fr (fun i a b => m.2 i (by omega)), q5.fr (fun i a => m.2 i (by omega)), ?_, ?_⟩
  · rw [m.1] at hi
    rw [m.2 i (by omega)]
    exact q2.2 i hi
  · rcases hB with e | e
    · subst e; exact hL
    · subst e; exact q6.fr (fun i a b => m.2 i (by omega))
  · rcases hB with e | e
    · subst e; exact q7.fr (fun i a b => m.2 i (by omega))
    · subst e; exact hL
theorem MF.frm {B : Nat} (hB : B = 10 ∨ B = 30) (m : MF B hh h') : FRm hh h' := ⟨by rw [m.1]; exact Nat.le_refl _, fun i hi => m.2 i (by omega)⟩
/-- the page of the text is changed -/
theorem HIq.edit {U V : Nat → Nat → Nat} {un re : Nat} {Z2 : Nat → Nat} {sz2 : Nat} {z2 : Nat → Nat} (q : HIq hh z U V un re pf now p) (hfl : FL z2 Z2 sz2) (ht : tOK z2) (hZ : ∀ j, Z2 j < 1000) (hs : sz2 ≤ 3264) : HIq (pgs hh 7 3264 p (p + 1) Z2 sz2) z2 U V un re pf now p := by
  obtain ⟨q1, q2, q3, q4, q5, q6, q7, q8, q9, q10⟩ := q
  obtain ⟨Z0, s0, qp⟩ := q6 now p q3 q5
  have hpp := qp.2.2.2.2
  have key : ∀ i p', i ≤ 10 → pf i = some p' → i ≠ now → ∀ j, j = p' ∨ j = p' + 1 → (pgs hh 7 3264 p (p + 1) Z2 sz2).1 j = hh.1 j := by
    intro i p' hi hp hn j hj
    obtain ⟨Z1, s1, r1⟩ := q6 i p' hi hp
    have hne : p' ≠ p := fun e => hn (q7 i now p' hi q3 hp (by rw [e]; exact q5))
    obtain ⟨n1, n2, n3⟩ := qp.ne r1 hne
    refine pg_n ?_ ?_ <;> rcases hj with e | e <;> omega
  have hself : PGe (pgs hh 7 3264 p (p + 1) Z2 sz2) p Z2 sz2 := ⟨pg_o, pg_a (by omega), hs, hZ, hpp⟩
  refine ⟨(pg_n (by omega) (by omega)).trans q1, (pg_n (by omega) (by omega)).trans q2, q3, q4, q5, fun i p' hi hp => ?_, q7, ⟨Z2, sz2, hself, hfl, ht⟩, fun d hd => ?_, fun d hd => ?_⟩
  · by_cases e : i = now
    · subst e
      rw [q5] at hp
      cases hp
      exact ⟨_, _, hself⟩
    · obtain ⟨Z1, s1, r1⟩ := q6 i p' hi hp
      exact ⟨Z1, s1, r1.at (key i p' hi hp e _ (Or.inl rfl)) (key i p' hi hp e _ (Or.inr rfl))⟩
  · obtain ⟨p', r1, r2⟩ := q9 d hd
    exact ⟨p', r1, r2.at (key _ p' (by omega) r1 (by omega))⟩
  · obtain ⟨p', r1, r2⟩ := q10 d hd
    exact ⟨p', r1, r2.at (key _ p' (by omega) r1 (by omega))⟩
theorem PREq.pg (q : PREq hh F z A pf now p) : ∃ Z sz, PGe hh p Z sz ∧ FL z Z sz ∧ tOK z := q.2.2.2.2.1.2.2.2.2.2.2.2.1
theorem PREq.edit (q : PREq hh F z A pf now p) {Z2 z2 : Nat → Nat} {sz2 : Nat} (hfl : FL z2 Z2 sz2) (ht : tOK z2) (hZ : ∀ j, Z2 j < 1000) (hs : sz2 ≤ 3264) : PREq (pgs hh 7 3264 p (p + 1) Z2 sz2) F z2 A pf now p := by
  obtain ⟨Z, sz, r1, r2, r3⟩ := q.pg
  have hp := r1.2.2.2.2
  obtain ⟨l1, l2⟩ := r1.lt q.2.1
  obtain ⟨q1, q2, q3, q4, q5, q6, q7⟩ := q
  refine ⟨q1.fr (pg_n (by omega) (by omega)), ⟨q2.1, fun i hi => ?_⟩, q3.fr (fun i a b => pg_n (by omega) (by omega)), q4.fr (fun i a b => pg_n (by omega) (by omega)), q5.edit hfl ht hZ hs, q6.fr (fun i a b => pg_n (by omega) (by omega)), q7.fr (fun i a b => pg_n (by omega) (by omega))⟩
  have hi' : hh.2 ≤ i := hi
  rw [pg_n (by omega) (by omega)]
  exact q2.2 i hi'
theorem PREq.edit_fr (q : PREq hh F z A pf now p) {Z2 : Nat → Nat} {sz2 : Nat} : FRm hh (pgs hh 7 3264 p (p + 1) Z2 sz2) := by
  obtain ⟨Z, sz, r1, r2, r3⟩ := q.pg
  have hp := r1.2.2.2.2
  exact ⟨Nat.le_refl _, fun i hi => pg_n (by omega) (by omega)⟩
/-- the buffer is changed -/
theorem PREq.input (q : PREq hh F z A pf now p) {Bf : Nat → Nat} {m : Nat} (hm : m ≤ 120) (hB : ∀ j, Bf j < 1000) : PREq (pgs hh 4 120 2 3 Bf m) (va_up F 11 m) z (va_up A 5 Bf) pf now p := by
  obtain ⟨q1, q2, q3, q4, q5, q6, q7⟩ := q
  have hw := q2.1
  refine ⟨q1.fr (pg_n (by omega) (by omega)), ⟨hw, fun i hi => ?_⟩, ⟨?_, ?_, ?_, ?_⟩, ?_, ?_, q6.fr (fun i a b => pg_n (by omega) (by omega)), q7.fr (fun i a b => pg_n (by omega) (by omega))⟩
  · have hi' : hh.2 ≤ i := hi
    rw [pg_n (by omega) (by omega)]
    exact q2.2 i hi'
  · rw [va_upS]; exact pg_o
  · rw [va_upS]; exact pg_a (by omega)
  · rw [va_upS]; exact hm
  · rw [va_upS]; exact hB
  · have r := q4.fr (h' := pgs hh 4 120 2 3 Bf m) (fun i a b => pg_n (by omega) (by omega))
    obtain ⟨r1, r2, r3⟩ := r
    refine ⟨?_, ?_, ?_⟩
    · rw [va_upN (by omega), va_upN (by omega), va_upN (by omega)]; exact r1
    · rw [va_upN (by omega)]; exact r2
    · rw [va_upN (by omega), va_upN (by omega), va_upN (by omega), va_upN (by omega)]; exact r3
  · have r := q5.fr (h' := pgs hh 4 120 2 3 Bf m) (fun i a => pg_n (by omega) (by omega))
    have e1 : kU (va_up F 11 m) (va_up A 5 Bf) = kU F A := by funext d j; simp only [kU]; rw [va_upN (show 5 ≠ 11 by omega), va_upN (show 2 ≠ 5 by omega)]
    have e2 : kV (va_up F 11 m) (va_up A 5 Bf) = kV F A := by funext d j; simp only [kV]; rw [va_upN (show 6 ≠ 11 by omega), va_upN (show 3 ≠ 5 by omega)]
    rw [e1, e2, va_upN (show 5 ≠ 11 by omega), va_upN (show 6 ≠ 11 by omega)]
    exact r
theorem input_fr {Bf : Nat → Nat} {m : Nat} : FRm hh (pgs hh 4 120 2 3 Bf m) := ⟨Nat.le_refl _, fun i hi => pg_n (by omega) (by omega)⟩
theorem LK.input {R : Nat → Nat → Nat} {nb : Nat} (q : LK hh 10 z R nb) {Bf : Nat → Nat} {m : Nat} : LK (pgs hh 4 120 2 3 Bf m) 10 z R nb := q.fr (fun i a b => pg_n (by omega) (by omega))
/-- numbers and rows that the state doesn't look at -/
def Fsm (F F' : Nat → Nat) : Prop := F' 5 = F 5 ∧ F' 6 = F 6 ∧ F' 8 = F 8 ∧ F' 9 = F 9 ∧ F' 10 = F 10 ∧ F' 11 = F 11
def Asm (A A' : Nat → Nat → Nat) : Prop := A' 2 = A 2 ∧ A' 3 = A 3 ∧ A' 4 = A 4 ∧ A' 5 = A 5
theorem PREq.cg (q : PREq hh F z A pf now p) (e : Fsm F F') (a : Asm A A') : PREq hh F' z A' pf now p := by
  obtain ⟨q1, q2, q3, q4, q5, q6, q7⟩ := q
  obtain ⟨e5, e6, e8, e9, e10, e11⟩ := e
  obtain ⟨a2, a3, a4, a5⟩ := a
  have k1 : kU F' A' = kU F A := by funext d j; simp only [kU]; rw [e5, a2]
  have k2 : kV F' A' = kV F A := by funext d j; simp only [kV]; rw [e6, a3]
  refine ⟨q1, q2, ?_, ?_, ?_, q6, q7⟩
  · unfold IOb; rw [e11, a5]; exact q3
  · unfold FOb; rw [e8, e9, e10, a4]; exact q4
  · rw [k1, k2, e5, e6]; exact q5
theorem INVq.cg (q : INVq hh F z A pf now p) (e : Fsm F F') (a : Asm A A') : INVq hh F' z A' pf now p := by
  refine ⟨q.1.cg e a, ?_⟩
  have : pRR F' z A' = pRR F z A := by show pR z (A' 4) (F' 8) (F' 9) (F' 10) = pR z (A 4) (F 8) (F 9) (F 10); rw [a.2.2.1, e.2.2.1, e.2.2.2.1, e.2.2.2.2.1]
  rw [this]; exact q.2
theorem INV.cg (q : INV hh F z A) (e : Fsm F F') (a : Asm A A') : INV hh F' z A' := by
  obtain ⟨pf, now, p, r⟩ := q
  exact ⟨pf, now, p, r.cg e a⟩
/-- a heap that differs in the reference's and the law's objects, and in its size, alone -/
def RF (hh h' : zH) : Prop := hh.2 ≤ h'.2 ∧ (∀ i, hh.2 ≤ i → h'.1 i = none) ∧ ∀ i, ¬ (i = 0 ∨ (50 ≤ i ∧ i < 68)) → h'.1 i = hh.1 i
theorem INVq.rf (q : INVq hh F z A pf now p) (r : RF hh h') : INVq h' F z A pf now p := by
  obtain ⟨⟨q1, q2, q3, q4, q5, q6, q7⟩, q8⟩ := q
  obtain ⟨r1, r2, r3⟩ := r
  have hw := q2.1
  exact ⟨⟨q1.fr (r3 1 (by omega)), ⟨by omega, fun i hi => r2 i (by omega)⟩, q3.fr (fun i a b => r3 i (by omega)), q4.fr (fun i a b => r3 i (by omega)), q5.fr (fun i a => r3 i (by omega)), q6.fr (fun i a b => r3 i (by omega)), q7.fr (fun i a b => r3 i (by omega))⟩, q8.fr (fun i a b => r3 i (by omega))⟩
theorem INV.rf (q : INV hh F z A) (r : RF hh h') : INV h' F z A := by
  obtain ⟨pf, now, p, s⟩ := q
  exact ⟨pf, now, p, s.rf r⟩
theorem INV.wf (q : INV hh F z A) : wfh hh := by
  obtain ⟨pf, now, p, s⟩ := q
  exact s.1.2.1
theorem RF.thr (hw : wfh hh) : RF hh (zthr hh) := ⟨by show hh.2 ≤ hh.2 + 1; omega, fun i hi => hw.2 i hi, fun i _ => rfl⟩
theorem FRm.thr : FRm hh (zthr hh) := ⟨by show hh.2 ≤ hh.2 + 1; omega, fun i _ => rfl⟩
theorem RF.ref {F2 z2 : Nat → Nat} {S : Int64} {A2 : Nat → Nat → Nat} {X : Nat → Int32} (hw : wfh hh) : RF hh (mhp hh F2 S z2 A2 X) := by
  have h68 := hw.1
  refine ⟨Nat.le_refl _, fun i hi => ?_, fun i hi => ?_⟩
  · unfold mhp
    simp only
    rw [if_neg (by omega), if_neg (by omega), if_neg (by omega), if_neg (by omega)]
    exact hw.2 i hi
  · unfold mhp
    simp only
    rw [if_neg (by omega), if_neg (by omega), if_neg (by omega), if_neg (by omega)]
end p8
