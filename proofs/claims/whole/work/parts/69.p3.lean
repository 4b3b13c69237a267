section p3
variable {g : zG} {h hh h' : zH} {z : Nat → Nat}
/-! THE CLASS's STATE, told by the reference's own rows (F: numbers, z: text, A: rows) -/
/-- a page p (its row is p + 1) -/
def PGe (hh : zH) (p : Nat) (Z : Nat → Nat) (sz : Nat) : Prop := hh.1 p = some (.inr (7, [.ref (p + 1), .int (nI sz)])) ∧ hh.1 (p + 1) = some (mNA 3264 Z) ∧ sz ≤ 3264 ∧ (∀ j, Z j < 1000) ∧ (p = 8 ∨ 68 ≤ p)
def Pg (hh : zH) (p : Nat) (z : Nat → Nat) : Prop := ∃ Z sz, PGe hh p Z sz ∧ FL z Z sz ∧ tOK z
abbrev rfA (pf : Nat → Option Nat) : zO := .inl (11, .inr (.inr (.inr (.inr pf))))
def HIq (hh : zH) (z : Nat → Nat) (U V : Nat → Nat → Nat) (un re : Nat) (pf : Nat → Option Nat) (now p : Nat) : Prop :=
  hh.1 6 = some (.inr (3, [.ref 7, .ref p, .int (nI now), .int (nI un), .int (nI re)])) ∧ hh.1 7 = some (rfA pf) ∧ now ≤ 10 ∧ un + re ≤ 10 ∧ pf now = some p ∧
  (∀ i p', i ≤ 10 → pf i = some p' → ∃ Z sz, PGe hh p' Z sz) ∧ (∀ i j p', i ≤ 10 → j ≤ 10 → pf i = some p' → pf j = some p' → i = j) ∧ Pg hh p z ∧
  (∀ d, d < un → ∃ p', pf ((now + 10 - d) % 11) = some p' ∧ Pg hh p' (U d)) ∧ (∀ d, d < re → ∃ p', pf ((now + 1 + d) % 11) = some p' ∧ Pg hh p' (V d))
/-- kept texts in the reference's rows: d = 0 the newest -/
def kU (F : Nat → Nat) (A : Nat → Nat → Nat) (d : Nat) : Nat → Nat := fun j => if j < 3289 then A 2 (3289 * (F 5 - 1 - d) + j) else 0
def kV (F : Nat → Nat) (A : Nat → Nat → Nat) (d : Nat) : Nat → Nat := fun j => if j < 3289 then A 3 (3289 * (F 6 - 1 - d) + j) else 0
def LSh (hh : zH) (B : Nat) : Prop := ∃ n C V m D W Xs Bn, ∀ k, k < 20 → hh.1 (B + k) = some (lob B n C V m D W Xs Bn k)
def IOb (hh : zH) (F : Nat → Nat) (A : Nat → Nat → Nat) : Prop := hh.1 2 = some (.inr (4, [.ref 3, .int (nI (F 11))])) ∧ hh.1 3 = some (mNA 120 (A 5)) ∧ F 11 ≤ 120 ∧ ∀ j, A 5 j < 1000
def FOb (hh : zH) (F : Nat → Nat) (A : Nat → Nat → Nat) : Prop := hh.1 4 = some (.inr (2, [.ref 5, .int (nI (F 8)), .int (nI (F 9)), .int (nI (F 10))])) ∧ hh.1 5 = some (mNA 7 (A 4)) ∧ F 8 ≤ 8 ∧ F 9 ≤ 20 ∧ 1 ≤ F 10 ∧ F 10 ≤ 8 ∧ ∀ j, A 4 j ≤ 3
def TOb (hh : zH) : Prop := hh.1 1 = some (.inr (8, [.ref 2, .ref 4, .ref 6, .ref 10, .ref 30]))
def wfh (hh : zH) : Prop := 68 ≤ hh.2 ∧ ∀ i, hh.2 ≤ i → hh.1 i = none
def PREq (hh : zH) (F z : Nat → Nat) (A : Nat → Nat → Nat) (pf : Nat → Option Nat) (now p : Nat) : Prop := TOb hh ∧ wfh hh ∧ IOb hh F A ∧ FOb hh F A ∧ HIq hh z (kU F A) (kV F A) (F 5) (F 6) pf now p ∧ LSh hh 10 ∧ LSh hh 30
abbrev pRR (F z : Nat → Nat) (A : Nat → Nat → Nat) : Nat → Nat → Nat := pR z (A 4) (F 8) (F 9) (F 10)
abbrev nbb (z : Nat → Nat) : Nat := (bAll z 7).length
def INVq (hh : zH) (F z : Nat → Nat) (A : Nat → Nat → Nat) (pf : Nat → Option Nat) (now p : Nat) : Prop := PREq hh F z A pf now p ∧ LK hh 10 z (pRR F z A) (nbb z)
def INV (hh : zH) (F z : Nat → Nat) (A : Nat → Nat → Nat) : Prop := ∃ pf now p, INVq hh F z A pf now p
/-! frames: facts about objects that another heap has too -/
theorem PGe.fr {p : Nat} {Z : Nat → Nat} {sz : Nat} (q : PGe hh p Z sz) (e : ∀ i, (6 ≤ i ∧ i ≤ 9) ∨ 68 ≤ i → h'.1 i = hh.1 i) : PGe h' p Z sz := by
  obtain ⟨q1, q2, q3, q4, q5⟩ := q
  exact ⟨by rw [e p (by omega)]; exact q1, by rw [e (p + 1) (by omega)]; exact q2, q3, q4, q5⟩
theorem Pg.fr {p : Nat} (q : Pg hh p z) (e : ∀ i, (6 ≤ i ∧ i ≤ 9) ∨ 68 ≤ i → h'.1 i = hh.1 i) : Pg h' p z := by
  obtain ⟨Z, sz, q1, q2⟩ := q
  exact ⟨Z, sz, q1.fr e, q2⟩
theorem HIq.fr {U V : Nat → Nat → Nat} {un re : Nat} {pf : Nat → Option Nat} {now p : Nat} (q : HIq hh z U V un re pf now p) (e : ∀ i, (6 ≤ i ∧ i ≤ 9) ∨ 68 ≤ i → h'.1 i = hh.1 i) : HIq h' z U V un re pf now p := by
  obtain ⟨q1, q2, q3, q4, q5, q6, q7, q8, q9, q10⟩ := q
  refine ⟨by rw [e 6 (by omega)]; exact q1, by rw [e 7 (by omega)]; exact q2, q3, q4, q5, fun i p' hi hp => ?_, q7, q8.fr e, fun d hd => ?_, fun d hd => ?_⟩
  · obtain ⟨Z, sz, r⟩ := q6 i p' hi hp
    exact ⟨Z, sz, r.fr e⟩
  · obtain ⟨p', r1, r2⟩ := q9 d hd
    exact ⟨p', r1, r2.fr e⟩
  · obtain ⟨p', r1, r2⟩ := q10 d hd
    exact ⟨p', r1, r2.fr e⟩
theorem LSh.fr {B : Nat} (q : LSh hh B) (e : ∀ i, B ≤ i → i < B + 20 → h'.1 i = hh.1 i) : LSh h' B := by
  obtain ⟨n, C, V, m, D, W, Xs, Bn, q⟩ := q
  exact ⟨n, C, V, m, D, W, Xs, Bn, fun k hk => by rw [e (B + k) (by omega) (by omega)]; exact q k hk⟩
theorem LSh.eq {B : Nat} (q : LSh hh B) : ∃ n C V m D W Xs Bn, hh = lhp B hh n C V m D W Xs Bn := by
  obtain ⟨n, C, V, m, D, W, Xs, Bn, q⟩ := q
  exact ⟨n, C, V, m, D, W, Xs, Bn, (ov_self q).symm⟩
theorem LSh.of {B n m : Nat} {C D : Nat → Nat → Nat} {V W : Nat → Int64} {Xs : Nat → Nat} {Bn : Nat → Int32} : LSh (lhp B h n C V m D W Xs Bn) B := ⟨n, C, V, m, D, W, Xs, Bn, fun k hk => ov_i hk⟩
theorem LK.fr {B nb : Nat} {R : Nat → Nat → Nat} (q : LK hh B z R nb) (e : ∀ i, B ≤ i → i < B + 20 → h'.1 i = hh.1 i) : LK h' B z R nb := by
  obtain ⟨q1, q2, q3, q4, q5, q6, q7⟩ := q
  refine ⟨q1, q2, ?_, ?_, q5, by rw [e B (by omega) (by omega)]; exact q6, ?_⟩
  · obtain ⟨C, V, r1, r2, r3, r4⟩ := q3
    exact ⟨C, V, by rw [e _ (by omega) (by omega)]; exact r1, fun i hi => by rw [e _ (by omega) (by omega)]; exact r2 i hi, by rw [e _ (by omega) (by omega)]; exact r3, r4⟩
  · obtain ⟨D, W, r1, r2, r3, r4⟩ := q4
    exact ⟨D, W, by rw [e _ (by omega) (by omega)]; exact r1, fun i hi => by rw [e _ (by omega) (by omega)]; exact r2 i hi, by rw [e _ (by omega) (by omega)]; exact r3, r4⟩
  · obtain ⟨Xs, Bn, r1, r2, r3⟩ := q7
    exact ⟨Xs, Bn, by rw [e _ (by omega) (by omega)]; exact r1, by rw [e _ (by omega) (by omega)]; exact r2, r3⟩
theorem IOb.fr {F : Nat → Nat} {A : Nat → Nat → Nat} (q : IOb hh F A) (e : ∀ i, 2 ≤ i → i ≤ 3 → h'.1 i = hh.1 i) : IOb h' F A := ⟨by rw [e 2 (by omega) (by omega)]; exact q.1, by rw [e 3 (by omega) (by omega)]; exact q.2.1, q.2.2⟩
theorem FOb.fr {F : Nat → Nat} {A : Nat → Nat → Nat} (q : FOb hh F A) (e : ∀ i, 4 ≤ i → i ≤ 5 → h'.1 i = hh.1 i) : FOb h' F A := ⟨by rw [e 4 (by omega) (by omega)]; exact q.1, by rw [e 5 (by omega) (by omega)]; exact q.2.1, q.2.2⟩
theorem TOb.fr (q : TOb hh) (e : h'.1 1 = hh.1 1) : TOb h' := by unfold TOb; rw [e]; exact q
/-- what a call of the class leaves: the script, the reference and the law's rows -/
def FRm (hh h' : zH) : Prop := hh.2 ≤ h'.2 ∧ (∀ i, i = 0 ∨ (50 ≤ i ∧ i < 68) → h'.1 i = hh.1 i)
theorem FRm.refl : FRm hh hh := ⟨Nat.le_refl _, fun _ _ => rfl⟩
theorem FRm.trans {h1 h2 : zH} (a : FRm hh h1) (b : FRm h1 h2) : FRm hh h2 := ⟨Nat.le_trans a.1 b.1, fun i hi => (b.2 i hi).trans (a.2 i hi)⟩
/-! the blocks' rows are right -/
theorem pR_le {F : Nat → Nat} {A : Nat → Nat → Nat} (hz : mOK z) (h4 : ∀ j, A 4 j ≤ 3) (hg8 : F 10 ≤ 8) (hlw : F 9 ≤ 20) (hpd : F 8 ≤ 8) (i b : Nat) : pRR F z A i b < 2 ^ 20 := by
  rcases Nat.lt_or_ge b (nbb z) with hb | hb
  · by_cases hi : 6 ≤ i ∧ i ≤ 12
    · have e := mL_pR (F := F) (z := z) (A := va_up (fun _ _ => 0) 4 (A 4)) hi.1 hi.2 hb
      rw [va_upS] at e
      show pR z (A 4) (F 8) (F 9) (F 10) i b < 2 ^ 20
      rw [← e]
      refine mL_b hz (fun j => by rw [va_upS]; exact h4 j) hg8 hlw hpd (fun i j => ?_) i b
      unfold va_up
      split
      · have := h4 j; omega
      · show (0 : Nat) < 2 ^ 20; omega
    · show pR z (A 4) (F 8) (F 9) (F 10) i b < 2 ^ 20
      unfold pR
      rcases h9 : (bAll z 7)[b] with ⟨c, f, t⟩
      rw [List.getElem?_eq_getElem hb, h9]
      simp only
      rw [if_neg (by omega), if_neg (by omega), if_neg (by omega), if_neg (by omega), if_neg (by omega), if_neg (by omega), if_neg (by omega)]
      omega
  · show pR z (A 4) (F 8) (F 9) (F 10) i b < 2 ^ 20
    unfold pR
    rw [List.getElem?_eq_none hb]
    simp only
    omega
theorem pR_ok {F : Nat → Nat} {A : Nat → Nat → Nat} (hz : mOK z) (h4 : ∀ j, A 4 j ≤ 3) (hg8 : F 10 ≤ 8) (hlw : F 9 ≤ 20) (hpd : F 8 ≤ 8) : rOK z (pRR F z A) (nbb z) := by
  have hL : ∀ i b, 6 ≤ i → i ≤ 12 → b < nbb z → mL F z A (bAll z 7) i b = pRR F z A i b := fun i b h1 h2 h3 => mL_pR h1 h2 h3
  refine ⟨rfl, ?_, pR_le hz h4 hg8 hlw hpd, ?_, fun b => ?_, fun b hb => ?_⟩
  · exact bAll_len2 hz.2.1 7
  · intro l c he
    rw [← bOf_cg hL]
    exact mL_cov hz l c he
  · show pR z (A 4) (F 8) (F 9) (F 10) 9 b ≤ 3
    unfold pR
    rcases h9 : (bAll z 7)[b]? with _ | ⟨c, f, t⟩
    · simp only; omega
    · simp only
      rw [if_neg (by omega), if_neg (by omega), if_neg (by omega), if_pos trivial]
      unfold bAl
      have := h4 c
      (repeat' split) <;> omega
  · rcases h9 : (bAll z 7)[b] with ⟨c, f, t⟩
    have hP : (bAll z 7)[b]? = some (c, f, t) := by rw [List.getElem?_eq_getElem hb, h9]
    have e6 : pRR F z A 6 b = c := by show pR z (A 4) (F 8) (F 9) (F 10) 6 b = c; unfold pR; rw [hP]; simp
    have e7 : pRR F z A 7 b = f := by show pR z (A 4) (F 8) (F 9) (F 10) 7 b = f; unfold pR; rw [hP]; simp
    have e8 : pRR F z A 8 b = t := by show pR z (A 4) (F 8) (F 9) (F 10) 8 b = t; unfold pR; rw [hP]; simp
    rw [e6, e7, e8]
    exact (bAll_get hz hP).2
end p3
