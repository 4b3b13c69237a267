section p11
variable {g : zG} {h hh h' : zH} {F z : Nat → Nat} {A : Nat → Nat → Nat} {pf : Nat → Option Nat} {now p sz : Nat} {Z : Nat → Nat}
/-! undo and redo: the ring against the rows -/
theorem kU_tk (q : HIq hh z (kU F A) (kV F A) (F 5) (F 6) pf now p) {d : Nat} (hd : d < F 5) : tOK (kU F A d) := by
  obtain ⟨p', -, Z1, s1, -, -, r⟩ := q.2.2.2.2.2.2.2.2.1 d hd
  exact r
theorem kV_tk (q : HIq hh z (kU F A) (kV F A) (F 5) (F 6) pf now p) {d : Nat} (hd : d < F 6) : tOK (kV F A d) := by
  obtain ⟨p', -, Z1, s1, -, -, r⟩ := q.2.2.2.2.2.2.2.2.2 d hd
  exact r
def hst (hh : zH) (p now un re : Nat) : zH := zup hh 6 (.inr (3, [.ref 7, .ref p, .int (nI now), .int (nI un), .int (nI re)]))
theorem hst_n {i p now un re : Nat} (hi : i ≠ 6) : (hst hh p now un re).1 i = hh.1 i := zup_n hi
def uF (F : Nat → Nat) (u : Nat) : Nat → Nat := va_up (va_up F 5 u) 6 (F 6 + 1)
def uA (F z : Nat → Nat) (A : Nat → Nat → Nat) : Nat → Nat → Nat := va_up A 3 (mrow (A 3) z (3289 * F 6) 3289)
def uZ (z : Nat → Nat) (A : Nat → Nat → Nat) (u : Nat) : Nat → Nat := mzr z (A 2) (3289 * u) 3289
def rF (F : Nat → Nat) (u : Nat) : Nat → Nat := va_up (va_up F 6 u) 5 (F 5 + 1)
def rA (F z : Nat → Nat) (A : Nat → Nat → Nat) : Nat → Nat → Nat := va_up A 2 (mrow (A 2) z (3289 * F 5) 3289)
def rZ (z : Nat → Nat) (A : Nat → Nat → Nat) (u : Nat) : Nat → Nat := mzr z (A 3) (3289 * u) 3289
theorem undo_P (hS : ST hh F z A pf now p Z sz) {u : Nat} (hu : F 5 = u + 1) : ∃ p', pf ((now + 10) % 11) = some p' ∧ PREq (hst hh p' ((now + 10) % 11) u (F 6 + 1)) (uF F u) (uZ z A u) (uA F z A) pf ((now + 10) % 11) p' := by
  have hH := hS.hi
  have hur := hS.ur
  have hnw := hS.nw
  have hw := hS.wf
  obtain ⟨p', r1, r2⟩ := hH.2.2.2.2.2.2.2.2.1 0 (by omega)
  rw [Nat.sub_zero] at r1
  have t0 := kU_tk hH (d := 0) (by omega)
  have f5 : uF F u 5 = u := by unfold uF; rw [va_upN (by omega), va_upS]
  have f6 : uF F u 6 = F 6 + 1 := va_upS _ _ _
  have fn : ∀ k, k ≠ 5 → k ≠ 6 → uF F u k = F k := fun k a b => by unfold uF; rw [va_upN b, va_upN a]
  have a3 : uA F z A 3 = mrow (A 3) z (3289 * F 6) 3289 := va_upS _ _ _
  have an : ∀ k, k ≠ 3 → uA F z A k = A k := fun k a => va_upN a
  have ez : ∀ j, j < 3289 → uZ z A u j = kU F A 0 j := fun j hj => by
    unfold uZ mzr kU
    rw [if_pos hj, if_pos hj]
    exact congrArg (A 2) (by omega)
  have bz : ∀ j, uZ z A u j < 1000 := fun j => by
    rcases Nat.lt_or_ge j 3289 with r | r
    · rw [ez j r]; exact t0.bd j
    · unfold uZ mzr
      rw [if_neg (by omega)]
      exact hS.tk.bd j
  have kU' : ∀ d, kU (uF F u) (uA F z A) d = kU F A (d + 1) := fun d => by
    funext j
    simp only [kU]
    rw [f5, an 2 (by omega)]
    split
    · exact congrArg (A 2) (by omega)
    · rfl
  have kV0 : ∀ j, j < 3289 → kV (uF F u) (uA F z A) 0 j = z j := fun j hj => by
    simp only [kV]
    rw [if_pos hj, f6, a3]
    unfold mrow
    rw [if_pos (by omega)]
    exact congrArg z (by omega)
  have kVb : ∀ j, kV (uF F u) (uA F z A) 0 j < 1000 := fun j => by
    rcases Nat.lt_or_ge j 3289 with r | r
    · rw [kV0 j r]; exact hS.tk.bd j
    · simp only [kV]; rw [if_neg (by omega)]; omega
  have kVs : ∀ d, d < F 6 → kV (uF F u) (uA F z A) (d + 1) = kV F A d := fun d hd => by
    funext j
    simp only [kV]
    rw [f6, a3]
    split
    · unfold mrow
      rw [if_neg (by omega)]
      exact congrArg (A 3) (by omega)
    · rfl
  have hpg : ∀ i p' (z9 : Nat → Nat), i ≤ 10 → pf i = some p' → Pg hh p' z9 → Pg (hst hh p' ((now + 10) % 11) u (F 6 + 1)) p' z9 := fun i p' z9 hi hp q => by
    obtain ⟨Z1, s1, q1⟩ := hH.2.2.2.2.2.1 i p' hi hp
    have := q1.2.2.2.2
    exact q.at (fun j hj => hst_n (by omega))
  have hpg' : ∀ i p1 (z9 : Nat → Nat), i ≤ 10 → pf i = some p1 → Pg hh p1 z9 → Pg (hst hh p' ((now + 10) % 11) u (F 6 + 1)) p1 z9 := fun i p1 z9 hi hp q => by
    obtain ⟨Z1, s1, q1⟩ := hH.2.2.2.2.2.1 i p1 hi hp
    have := q1.2.2.2.2
    exact q.at (fun j hj => hst_n (by omega))
  refine ⟨p', r1, hS.1.1.1.fr (hst_n (by omega)), ⟨hw.1, fun i hi => ?_⟩, ?_, ?_, ?_, hS.1.1.2.2.2.2.2.1.fr (fun i a b => hst_n (by omega)), hS.1.1.2.2.2.2.2.2.fr (fun i a b => hst_n (by omega))⟩
  · have h68 := hw.1
    have hi' : hh.2 ≤ i := hi
    rw [hst_n (by omega)]
    exact hw.2 i hi'
  · have r := hS.io.fr (h' := hst hh p' ((now + 10) % 11) u (F 6 + 1)) (fun i a b => hst_n (by omega))
    unfold IOb
    rw [fn 11 (by omega) (by omega), an 5 (by omega)]
    exact r
  · have r := hS.fo.fr (h' := hst hh p' ((now + 10) % 11) u (F 6 + 1)) (fun i a b => hst_n (by omega))
    unfold FOb
    rw [fn 8 (by omega) (by omega), fn 9 (by omega) (by omega), fn 10 (by omega) (by omega), an 4 (by omega)]
    exact r
  · refine ⟨?_, (hst_n (by omega)).trans hH.2.1, by omega, by rw [f5, f6]; omega, r1, fun i p1 hi hp => ?_, hH.2.2.2.2.2.2.1, ?_, fun d hd => ?_, fun d hd => ?_⟩
    · rw [f5, f6]; exact zup_s _ _ _
    · obtain ⟨Z1, s1, q1⟩ := hH.2.2.2.2.2.1 i p1 hi hp
      have := q1.2.2.2.2
      exact ⟨Z1, s1, q1.at (hst_n (by omega)) (hst_n (by omega))⟩
    · exact Pg_cg (hpg' _ p' _ (by omega) r1 r2) ez bz
    · rw [f5] at hd
      obtain ⟨p1, s1, s2⟩ := hH.2.2.2.2.2.2.2.2.1 (d + 1) (by omega)
      rw [kU']
      refine ⟨p1, ?_, hpg' _ p1 _ (by omega) s1 s2⟩
      rw [show ((now + 10) % 11 + 10 - d) % 11 = (now + 10 - (d + 1)) % 11 by omega]
      exact s1
    · rw [f6] at hd
      by_cases e : d = 0
      · subst e
        refine ⟨p, ?_, Pg_cg (hpg' now p _ (by omega) hH.2.2.2.2.1 hH.2.2.2.2.2.2.2.1) kV0 kVb⟩
        rw [show ((now + 10) % 11 + 1 + 0) % 11 = now by omega]
        exact hH.2.2.2.2.1
      · obtain ⟨d', rfl⟩ : ∃ d', d = d' + 1 := ⟨d - 1, by omega⟩
        obtain ⟨p1, s1, s2⟩ := hH.2.2.2.2.2.2.2.2.2 d' (by omega)
        rw [kVs d' (by omega)]
        refine ⟨p1, ?_, hpg' _ p1 _ (by omega) s1 s2⟩
        rw [show ((now + 10) % 11 + 1 + (d' + 1)) % 11 = (now + 1 + d') % 11 by omega]
        exact s1
theorem redo_P (hS : ST hh F z A pf now p Z sz) {u : Nat} (hu : F 6 = u + 1) : ∃ p', pf ((now + 1) % 11) = some p' ∧ PREq (hst hh p' ((now + 1) % 11) (F 5 + 1) u) (rF F u) (rZ z A u) (rA F z A) pf ((now + 1) % 11) p' := by
  have hH := hS.hi
  have hur := hS.ur
  have hnw := hS.nw
  have hw := hS.wf
  obtain ⟨p', r1, r2⟩ := hH.2.2.2.2.2.2.2.2.2 0 (by omega)
  rw [Nat.add_zero] at r1
  have t0 := kV_tk hH (d := 0) (by omega)
  have f6 : rF F u 6 = u := by unfold rF; rw [va_upN (by omega), va_upS]
  have f5 : rF F u 5 = F 5 + 1 := va_upS _ _ _
  have fn : ∀ k, k ≠ 5 → k ≠ 6 → rF F u k = F k := fun k a b => by unfold rF; rw [va_upN a, va_upN b]
  have a2 : rA F z A 2 = mrow (A 2) z (3289 * F 5) 3289 := va_upS _ _ _
  have an : ∀ k, k ≠ 2 → rA F z A k = A k := fun k a => va_upN a
  have ez : ∀ j, j < 3289 → rZ z A u j = kV F A 0 j := fun j hj => by
    unfold rZ mzr kV
    rw [if_pos hj, if_pos hj]
    exact congrArg (A 3) (by omega)
  have bz : ∀ j, rZ z A u j < 1000 := fun j => by
    rcases Nat.lt_or_ge j 3289 with r | r
    · rw [ez j r]; exact t0.bd j
    · unfold rZ mzr
      rw [if_neg (by omega)]
      exact hS.tk.bd j
  have kV' : ∀ d, kV (rF F u) (rA F z A) d = kV F A (d + 1) := fun d => by
    funext j
    simp only [kV]
    rw [f6, an 3 (by omega)]
    split
    · exact congrArg (A 3) (by omega)
    · rfl
  have kU0 : ∀ j, j < 3289 → kU (rF F u) (rA F z A) 0 j = z j := fun j hj => by
    simp only [kU]
    rw [if_pos hj, f5, a2]
    unfold mrow
    rw [if_pos (by omega)]
    exact congrArg z (by omega)
  have kUb : ∀ j, kU (rF F u) (rA F z A) 0 j < 1000 := fun j => by
    rcases Nat.lt_or_ge j 3289 with r | r
    · rw [kU0 j r]; exact hS.tk.bd j
    · simp only [kU]; rw [if_neg (by omega)]; omega
  have kUs : ∀ d, d < F 5 → kU (rF F u) (rA F z A) (d + 1) = kU F A d := fun d hd => by
    funext j
    simp only [kU]
    rw [f5, a2]
    split
    · unfold mrow
      rw [if_neg (by omega)]
      exact congrArg (A 2) (by omega)
    · rfl
  have hpg' : ∀ i p1 (z9 : Nat → Nat), i ≤ 10 → pf i = some p1 → Pg hh p1 z9 → Pg (hst hh p' ((now + 1) % 11) (F 5 + 1) u) p1 z9 := fun i p1 z9 hi hp q => by
    obtain ⟨Z1, s1, q1⟩ := hH.2.2.2.2.2.1 i p1 hi hp
    have := q1.2.2.2.2
    exact q.at (fun j hj => hst_n (by omega))
  refine ⟨p', r1, hS.1.1.1.fr (hst_n (by omega)), ⟨hw.1, fun i hi => ?_⟩, ?_, ?_, ?_, hS.1.1.2.2.2.2.2.1.fr (fun i a b => hst_n (by omega)), hS.1.1.2.2.2.2.2.2.fr (fun i a b => hst_n (by omega))⟩
  · have h68 := hw.1
    have hi' : hh.2 ≤ i := hi
    rw [hst_n (by omega)]
    exact hw.2 i hi'
  · have r := hS.io.fr (h' := hst hh p' ((now + 1) % 11) (F 5 + 1) u) (fun i a b => hst_n (by omega))
    unfold IOb
    rw [fn 11 (by omega) (by omega), an 5 (by omega)]
    exact r
  · have r := hS.fo.fr (h' := hst hh p' ((now + 1) % 11) (F 5 + 1) u) (fun i a b => hst_n (by omega))
    unfold FOb
    rw [fn 8 (by omega) (by omega), fn 9 (by omega) (by omega), fn 10 (by omega) (by omega), an 4 (by omega)]
    exact r
  · refine ⟨?_, (hst_n (by omega)).trans hH.2.1, by omega, by rw [f5, f6]; omega, r1, fun i p1 hi hp => ?_, hH.2.2.2.2.2.2.1, ?_, fun d hd => ?_, fun d hd => ?_⟩
    · rw [f5, f6]; exact zup_s _ _ _
    · obtain ⟨Z1, s1, q1⟩ := hH.2.2.2.2.2.1 i p1 hi hp
      have := q1.2.2.2.2
      exact ⟨Z1, s1, q1.at (hst_n (by omega)) (hst_n (by omega))⟩
    · exact Pg_cg (hpg' _ p' _ (by omega) r1 r2) ez bz
    · rw [f5] at hd
      by_cases e : d = 0
      · subst e
        refine ⟨p, ?_, Pg_cg (hpg' now p _ (by omega) hH.2.2.2.2.1 hH.2.2.2.2.2.2.2.1) kU0 kUb⟩
        rw [show ((now + 1) % 11 + 10 - 0) % 11 = now by omega]
        exact hH.2.2.2.2.1
      · obtain ⟨d', rfl⟩ : ∃ d', d = d' + 1 := ⟨d - 1, by omega⟩
        obtain ⟨p1, s1, s2⟩ := hH.2.2.2.2.2.2.2.2.1 d' (by omega)
        rw [kUs d' (by omega)]
        refine ⟨p1, ?_, hpg' _ p1 _ (by omega) s1 s2⟩
        rw [show ((now + 1) % 11 + 10 - (d' + 1)) % 11 = (now + 10 - d') % 11 by omega]
        exact s1
    · rw [f6] at hd
      obtain ⟨p1, s1, s2⟩ := hH.2.2.2.2.2.2.2.2.2 (d + 1) (by omega)
      rw [kV']
      refine ⟨p1, ?_, hpg' _ p1 _ (by omega) s1 s2⟩
      rw [show ((now + 1) % 11 + 1 + d) % 11 = (now + 1 + (d + 1)) % 11 by omega]
      exact s1
theorem hst_fr {p' n u r : Nat} : FRm hh (hst hh p' n u r) := ⟨Nat.le_refl _, fun i hi => hst_n (by omega)⟩
/-! alignments and spacing -/
theorem PREq.fmt (q : PREq hh F z A pf now p) {pd lw gr : Nat} {al : Nat → Nat} (h1 : pd ≤ 8) (h2 : lw ≤ 20) (h3 : 1 ≤ gr) (h4 : gr ≤ 8) (h5 : ∀ j, al j ≤ 3) (e : ∀ i, i ≠ 4 → i ≠ 5 → h'.1 i = hh.1 i) (e2 : h'.2 = hh.2) (e4 : h'.1 4 = some (.inr (2, [.ref 5, .int (nI pd), .int (nI lw), .int (nI gr)]))) (e5 : h'.1 5 = some (mNA 7 al)) : PREq h' (va_up (va_up (va_up F 8 pd) 9 lw) 10 gr) z (va_up A 4 al) pf now p := by
  obtain ⟨q1, q2, q3, q4, q5, q6, q7⟩ := q
  have hw := q2.1
  have f8 : (va_up (va_up (va_up F 8 pd) 9 lw) 10 gr) 8 = pd := by rw [va_upN (by omega), va_upN (by omega), va_upS]
  have f9 : (va_up (va_up (va_up F 8 pd) 9 lw) 10 gr) 9 = lw := by rw [va_upN (by omega), va_upS]
  have f10 : (va_up (va_up (va_up F 8 pd) 9 lw) 10 gr) 10 = gr := va_upS _ _ _
  have fn : ∀ k, k ≠ 8 → k ≠ 9 → k ≠ 10 → (va_up (va_up (va_up F 8 pd) 9 lw) 10 gr) k = F k := fun k a b c => by rw [va_upN c, va_upN b, va_upN a]
  have k1 : kU (va_up (va_up (va_up F 8 pd) 9 lw) 10 gr) (va_up A 4 al) = kU F A := by funext d j; simp only [kU]; rw [fn 5 (by omega) (by omega) (by omega), va_upN (show 2 ≠ 4 by omega)]
  have k2 : kV (va_up (va_up (va_up F 8 pd) 9 lw) 10 gr) (va_up A 4 al) = kV F A := by funext d j; simp only [kV]; rw [fn 6 (by omega) (by omega) (by omega), va_upN (show 3 ≠ 4 by omega)]
  refine ⟨q1.fr (e 1 (by omega) (by omega)), ⟨by rw [e2]; exact hw, fun i hi => ?_⟩, ?_, ⟨?_, ?_, ?_, ?_, ?_, ?_, ?_⟩, ?_, q6.fr (fun i a b => e i (by omega) (by omega)), q7.fr (fun i a b => e i (by omega) (by omega))⟩
  · rw [e2] at hi
    rw [e i (by omega) (by omega)]
    exact q2.2 i hi
  · have r := q3.fr (h' := h') (fun i a b => e i (by omega) (by omega))
    unfold IOb
    rw [fn 11 (by omega) (by omega) (by omega), va_upN (show 5 ≠ 4 by omega)]
    exact r
  · rw [f8, f9, f10]; exact e4
  · rw [va_upS]; exact e5
  · rw [f8]; exact h1
  · rw [f9]; exact h2
  · rw [f10]; exact h3
  · rw [f10]; exact h4
  · rw [va_upS]; exact h5
  · rw [k1, k2, fn 5 (by omega) (by omega) (by omega), fn 6 (by omega) (by omega) (by omega)]
    exact q5.fr (fun i a => e i (by omega) (by omega))
theorem zb_pi {Z Bf : Nat → Nat} {a m sz k : Nat} (h : ∀ j, Z j < 1000) (h' : ∀ j, Bf j < 1000) : ∀ j, zpi Z a m sz Bf k j < 1000 := fun j => by
  unfold zpi
  split
  · unfold pcd
    have := h' (j - a)
    (repeat' split) <;> omega
  · exact zb_cpy h h j
end p11
