section p12
variable {g : zG} {h hh h' : zH} {F z z2 u o : Nat → Nat} {A : Nat → Nat → Nat} {pf : Nat → Option Nat} {now p sz l : Nat} {Z O : Nat → Nat}
/-! an order beside the state -/
theorem HIq.fr2 {U V : Nat → Nat → Nat} {un re : Nat} (q : HIq hh z U V un re pf now p) (e6 : h'.1 6 = hh.1 6) (e7 : h'.1 7 = hh.1 7) (e : ∀ p' Z' s', PGe hh p' Z' s' → h'.1 p' = hh.1 p' ∧ h'.1 (p' + 1) = hh.1 (p' + 1)) : HIq h' z U V un re pf now p := by
  obtain ⟨q1, q2, q3, q4, q5, q6, q7, q8, q9, q10⟩ := q
  have k : ∀ p' z', Pg hh p' z' → Pg h' p' z' := fun p' z' r => by
    obtain ⟨Z, sz, r1, r2⟩ := r
    obtain ⟨a, b⟩ := e p' Z sz r1
    exact ⟨Z, sz, r1.at a b, r2⟩
  refine ⟨by rw [e6]; exact q1, by rw [e7]; exact q2, q3, q4, q5, fun i p' hi hp => ?_, q7, k _ _ q8, fun d hd => ?_, fun d hd => ?_⟩
  · obtain ⟨Z, sz, r⟩ := q6 i p' hi hp
    obtain ⟨a, b⟩ := e p' Z sz r
    exact ⟨Z, sz, r.at a b⟩
  · obtain ⟨p', r1, r2⟩ := q9 d hd
    exact ⟨p', r1, k _ _ r2⟩
  · obtain ⟨p', r1, r2⟩ := q10 d hd
    exact ⟨p', r1, k _ _ r2⟩
theorem PREq.fr2 (q : PREq hh F z A pf now p) (w : wfh h') (e0 : ∀ i, 1 ≤ i → i < 50 → i ≠ 8 → i ≠ 9 → h'.1 i = hh.1 i) (e : ∀ p' Z' s', PGe hh p' Z' s' → h'.1 p' = hh.1 p' ∧ h'.1 (p' + 1) = hh.1 (p' + 1)) : PREq h' F z A pf now p := by
  obtain ⟨q1, q2, q3, q4, q5, q6, q7⟩ := q
  exact ⟨q1.fr (e0 1 (by omega) (by omega) (by omega) (by omega)), w, q3.fr (fun i a b => e0 i (by omega) (by omega) (by omega) (by omega)), q4.fr (fun i a b => e0 i (by omega) (by omega) (by omega) (by omega)), q5.fr2 (e0 6 (by omega) (by omega) (by omega) (by omega)) (e0 7 (by omega) (by omega) (by omega) (by omega)) e, q6.fr (fun i a b => e0 i (by omega) (by omega) (by omega) (by omega)), q7.fr (fun i a b => e0 i (by omega) (by omega) (by omega) (by omega))⟩
theorem ST.fr2 (q : ST hh F z A pf now p Z sz) (w : wfh h') (e0 : ∀ i, 1 ≤ i → i < 50 → i ≠ 8 → i ≠ 9 → h'.1 i = hh.1 i) (e : ∀ p' Z' s', PGe hh p' Z' s' → h'.1 p' = hh.1 p' ∧ h'.1 (p' + 1) = hh.1 (p' + 1)) : ST h' F z A pf now p Z sz := by
  obtain ⟨a, b⟩ := e p Z sz q.2.1
  exact ⟨⟨q.1.1.fr2 w e0 e, q.1.2.fr (fun i a b => e0 i (by omega) (by omega) (by omega) (by omega))⟩, q.2.1.at a b, q.2.2⟩
def ORD (hh : zH) (o n : Nat) (O : Nat → Nat) : Prop := hh.1 o = some (.inr (6, [.ref (o + 1), .int (nI n)])) ∧ hh.1 (o + 1) = some (mNA 24 O) ∧ 68 ≤ o
theorem ORD.ne {o n p' s' : Nat} {Z' : Nat → Nat} (q : ORD hh o n O) (r : PGe hh p' Z' s') : p' ≠ o ∧ p' ≠ o + 1 ∧ p' + 1 ≠ o ∧ p' + 1 ≠ o + 1 := by
  have n1 : p' ≠ o := fun e => by
    have a := r.1
    rw [e, q.1] at a
    cases a
  have n2 : p' ≠ o + 1 := fun e => by
    have a := r.1
    rw [e, q.2.1] at a
    cases a
  have n3 : p' + 1 ≠ o := fun e => by
    have a := r.2.1
    rw [e, q.1] at a
    cases a
  exact ⟨n1, n2, n3, by omega⟩
theorem ORD.lt {o n : Nat} (q : ORD hh o n O) (hw : wfh hh) : o + 1 < hh.2 := by
  rcases Nat.lt_or_ge (o + 1) hh.2 with r | r
  · exact r
  · have := hw.2 _ r
    rw [q.2.1] at this
    cases this
theorem ORD.set {o n : Nat} {O' : Nat → Nat} (q : ORD hh o n O) : ORD (pgs hh 6 24 o (o + 1) O' n) o n O' := ⟨pg_o, pg_a (by omega), q.2.2⟩
theorem ST.ord {o n : Nat} {O' : Nat → Nat} (q : ST hh F z A pf now p Z sz) (r : ORD hh o n O) : ST (pgs hh 6 24 o (o + 1) O' n) F z A pf now p Z sz := by
  have h68 := r.2.2
  have hl := r.lt q.wf
  refine q.fr2 ⟨q.wf.1, fun i hi => ?_⟩ (fun i a b _ _ => pg_n (by omega) (by omega)) (fun p' Z' s' s => ?_)
  · have hi' : hh.2 ≤ i := hi
    rw [pg_n (by omega) (by omega)]
    exact q.wf.2 i hi'
  · obtain ⟨n1, n2, n3, n4⟩ := r.ne s
    exact ⟨pg_n n1 n2, pg_n n3 n4⟩
theorem ord_fr {o n : Nat} {O' : Nat → Nat} (h68 : 68 ≤ o) : FRm hh (pgs hh 6 24 o (o + 1) O' n) := ⟨Nat.le_refl _, fun i hi => pg_n (by omega) (by omega)⟩
theorem ST.new_ord {n : Nat} (q : ST hh F z A pf now p Z sz) : ST (pgs (hgr hh 2) 6 24 hh.2 (hh.2 + 1) O n) F z A pf now p Z sz ∧ ORD (pgs (hgr hh 2) 6 24 hh.2 (hh.2 + 1) O n) hh.2 n O ∧ FRm hh (pgs (hgr hh 2) 6 24 hh.2 (hh.2 + 1) O n) := by
  have h68 := q.wf.1
  refine ⟨q.fr2 ⟨by show 68 ≤ hh.2 + 2; omega, fun i hi => ?_⟩ (fun i a b _ _ => pg_n (by omega) (by omega)) (fun p' Z' s' s => ?_), ⟨pg_o, pg_a (by omega), h68⟩, ⟨by show hh.2 ≤ hh.2 + 2; omega, fun i hi => pg_n (by omega) (by omega)⟩⟩
  · have hi' : hh.2 + 2 ≤ i := hi
    rw [pg_n (by omega) (by omega)]
    exact q.wf.2 i (by omega)
  · have := s.lt q.wf
    exact ⟨pg_n (by omega) (by omega), pg_n (by omega) (by omega)⟩
/-! lines in an order -/
theorem FL.line (hz : tOK z) (h : FL z Z sz) (hl : l < z 0) : CS z l 0 + (fB z l).length ≤ sz ∧ pl Z (fB z l).length (CS z l 0) = fB z l := by
  have hs : PL Z sz (fm (fL z) l 0 ++ (fB z l ++ ([10] ++ fm (fL z) (z 0 - (l + 1)) (l + 1)))) := h.spl (by rw [fT_at hl, fL_B (hz.gl hl).1, List.append_assoc])
  have hle := hs.len
  rw [List.length_append, List.length_append, List.length_append, CS_fm] at hle
  have b3 : ([10] : List Nat).length = 1 := rfl
  refine ⟨by omega, ?_⟩
  obtain ⟨-, e2⟩ := hs.split CS_fm (by omega)
  rw [show sz - CS z l 0 = (fB z l).length + (sz - CS z l 0 - (fB z l).length) by omega, pl_add, List.append_assoc] at e2
  exact (List.append_inj e2 (by rw [pl_len])).1
def oT (z O : Nat → Nat) (n : Nat) : List Nat := fm (fun i => fL z (O i)) n 0
theorem oT_s {n : Nat} : oT z O (n + 1) = oT z O n ++ fL z (O n) := by
  unfold oT
  rw [fm_snoc, Nat.zero_add]
theorem csL_le (hz : tOK z) (hl : l < z 0) : csL z l (z (1 + l)) ≤ 136 := by
  have h8 := (hz.gl hl).2.1
  refine Nat.le_trans (vS_leb (b := 17) (fun j hj => ?_)) ?_
  · have := ((hz.gl hl).2.2 j hj).1
    omega
  · omega
theorem oT_len (hz : tOK z) : ∀ (n : Nat), (∀ i, i < n → O i < z 0) → (oT z O n).length ≤ 136 * n
  | 0, _ => Nat.le_refl _
  | n + 1, hO => by
    have h1 := oT_len hz n (fun i hi => hO i (by omega))
    have h2 := csL_le hz (hO n (by omega))
    rw [oT_s, List.length_append, fL_len]
    omega
theorem fT_or (hz : tOK z) (e0 : z2 0 = z 0) (hO : ∀ i, i < z 0 → O i < z 0) (hs : ∀ i, i < z 0 → SL z2 i z (O i)) : fT z2 = oT z O (z 0) := by
  unfold fT oT
  rw [e0]
  exact fm_cg _ _ _ (fun i hi => by rw [Nat.zero_add]; exact (hs i hi).fL_eq (hz.gl (hO i hi)))
theorem tOK_or (hz : tOK z) (e0 : z2 0 = z 0) (hO : ∀ i, i < z 0 → O i < z 0) (hs : ∀ i, i < z 0 → SL z2 i z (O i)) (hb : ∀ j, z2 j < 1000) : tOK z2 :=
  tOK_of (by rw [e0]; exact hz.ok.1) (by rw [e0]; exact hz.ok.2.1) hb (fun l hl => (hs l (by omega)).gl (hz.gl (hO l (by omega))))
/-- one line more on the new page -/
theorem arr_s {Zk : Nat → Nat} {sk k : Nat} (hz : tOK z) (h : FL z Z sz) (hk : O k < z 0) (hp : PL Zk sk (oT z O k)) : PL (zaf (va_up Zk sk 10) (sk + 1) Z (CS z (O k) 0) (fB z (O k)).length) (sk + 1 + (fB z (O k)).length) (oT z O (k + 1)) := by
  unfold PL at hp ⊢
  rw [pl_zaf, pl_up, hp, (h.line hz hk).2, oT_s, fL_B (hz.gl hk).1, List.append_assoc]
theorem arr_0 {Zk : Nat → Nat} (hz : tOK z) (h : FL z Z sz) (hk : O 0 < z 0) : PL (zaf Zk 0 Z (CS z (O 0) 0) (fB z (O 0)).length) (0 + (fB z (O 0)).length) (oT z O 1) := by
  unfold PL
  rw [pl_zaf, (h.line hz hk).2, oT_s, fL_B (hz.gl hk).1]
  rfl
/-! moveLine -/
theorem mtk_o {t i : Nat} (hi : i ≠ t) (ht : t < 24) (hi2 : i < 24) : SL (mtk z u t l) i z i := by
  refine ⟨?_, fun c hc => ⟨?_, fun k hk => ?_⟩⟩ <;> (simp only [mtkp, ↓reduceIte] <;> (repeat' split) <;> first | omega | rfl)
theorem mtk_t {t : Nat} (ht : t < 24) : SL (mtk z u t l) t u l := by
  refine ⟨?_, fun c hc => ⟨?_, fun k hk => ?_⟩⟩ <;> (simp only [mtkp, ↓reduceIte] <;> (repeat' split) <;> first | omega | exact congrArg u (by omega))
theorem mtk_0 {t : Nat} (ht : t < 24) : mtk z u t l 0 = z 0 := by
  simp only [mtkp]
  (repeat' split) <;> first | omega | rfl
theorem mtk_bd {t : Nat} (hl : l < 24) (ht : t < 24) (hb : ∀ j, z j < 1000) (hu : ∀ j, j < 3289 → u j < 1000) (j : Nat) : mtk z u t l j < 1000 := by
  have h1 := hu (1 + l) (by omega)
  have h4 := hb j
  simp only [mtkp]
  split
  · exact h1
  · split
    · exact hu _ (by omega)
    · split
      · exact hu _ (by omega)
      · exact h4
theorem mmv_T {t : Nat} (hz : tOK z) (hl : l < z 0) (ht : t < z 0) (hu : ∀ j, j < 3289 → u j = z j) : tOK (mmv z u l t) ∧ mmv z u l t 0 = z 0 ∧ (∀ i, i < z 0 → omv (oid (z 0)) l t i < z 0) ∧ ∀ i, i < z 0 → SL (mmv z u l t) i z (omv (oid (z 0)) l t i) := by
  have h24 := hz.ok.2.1
  have h01 := hz.ok.1
  have y0 : mcll z l 0 = z 0 - 1 := mcll_0
  have e0 : mmv z u l t 0 = z 0 := by
    unfold mmv
    rw [mtk_0 (by omega), mopl_0, y0]
    omega
  have hO : ∀ i, i < z 0 → omv (oid (z 0)) l t i < z 0 := fun i hi => by
    simp only [omv, oid]
    (repeat' split) <;> omega
  have hs : ∀ i, i < z 0 → SL (mmv z u l t) i z (omv (oid (z 0)) l t i) := by
    intro i hi
    unfold mmv
    rcases Nat.lt_trichotomy i t with r | r | r
    · have a1 := (mtk_o (z := mopl (mcll z l) t) (u := u) (l := l) (show i ≠ t by omega) (by omega) (by omega)).trans (mopl_a (z := mcll z l) r (by omega) (by omega))
      rcases Nat.lt_or_ge i l with s | s
      · have e : omv (oid (z 0)) l t i = i := by simp only [omv, oid, ↓reduceIte] <;> (repeat' split) <;> omega
        rw [e]
        exact a1.trans (mcll_a s hl h24)
      · have e : omv (oid (z 0)) l t i = i + 1 := by simp only [omv, oid, ↓reduceIte] <;> (repeat' split) <;> omega
        rw [e]
        exact a1.trans (mcll_b s (by omega) h24)
    · subst r
      have e : omv (oid (z 0)) l i i = l := by simp only [omv, oid, ↓reduceIte] <;> (repeat' split) <;> omega
      rw [e]
      exact (mtk_t (by omega)).trans (SL_cg hu (by omega))
    · have a0 := mopl_b (z := mcll z l) (l := t) (i := i - 1) (by omega) (by omega) (by omega)
      rw [show i - 1 + 1 = i by omega] at a0
      have a1 := (mtk_o (z := mopl (mcll z l) t) (u := u) (l := l) (show i ≠ t by omega) (by omega) (by omega)).trans a0
      rcases Nat.lt_or_ge (i - 1) l with s | s
      · have e : omv (oid (z 0)) l t i = i - 1 := by simp only [omv, oid, ↓reduceIte] <;> (repeat' split) <;> omega
        rw [e]
        exact a1.trans (mcll_a s hl h24)
      · have e : omv (oid (z 0)) l t i = i := by simp only [omv, oid, ↓reduceIte] <;> (repeat' split) <;> omega
        rw [e]
        have a2 := mcll_b (z := z) (l := l) (i := i - 1) s (by omega) h24
        rw [show i - 1 + 1 = i by omega] at a2
        exact a1.trans a2
  have hb : ∀ j, mmv z u l t j < 1000 := fun j => mtk_bd (by omega) (by omega) (mopl_bd (mcll_bd hz.bd) (by omega)) (fun j hj => by rw [hu j hj]; exact hz.bd j) j
  exact ⟨tOK_or hz e0 hO hs hb, e0, hO, hs⟩
/-! sort: the lines of the block in an order -/
theorem mTk_T {f m : Nat} (hz : tOK z) (hfm : f + m ≤ z 0) (hu : ∀ j, j < 3289 → u j = z j) (ho : ∀ k, k < m → o k < z 0) : ∀ k, k ≤ m → mTk z u o f k 0 = z 0 ∧ (∀ j, mTk z u o f k j < 1000) ∧ (∀ i, i < z 0 → i < f ∨ f + k ≤ i → SL (mTk z u o f k) i z i) ∧ ∀ i, i < k → SL (mTk z u o f k) (f + i) z (o i)
  | 0, _ => ⟨rfl, hz.bd, fun i _ _ => SL.rfl, fun i hi => absurd hi (by omega)⟩
  | k + 1, hk => by
    have h24 := hz.ok.2.1
    have hok := ho k (by omega)
    obtain ⟨r1, r2, r3, r4⟩ := mTk_T hz hfm hu ho k (by omega)
    refine ⟨?_, ?_, fun i hi hn => ?_, fun i hi => ?_⟩
    · show mtk (mTk z u o f k) u (f + k) (o k) 0 = z 0
      rw [mtk_0 (by omega), r1]
    · exact mtk_bd (by omega) (by omega) r2 (fun j hj => by rw [hu j hj]; exact hz.bd j)
    · exact (mtk_o (by omega) (by omega) (by omega)).trans (r3 i hi (by omega))
    · by_cases e : i = k
      · subst e
        exact (mtk_t (by omega)).trans (SL_cg hu (by omega))
      · exact (mtk_o (by omega) (by omega) (by omega)).trans (r4 i (by omega))
/-- where the search for a place ends -/
def sps (bh : Nat → Nat → Prop) [∀ a b, Decidable (bh a b)] (o : Nat → Nat) (x : Nat) : Nat → Nat
  | 0 => 0
  | n + 1 => if bh (o n) x then sps bh o x n else n + 1
theorem sps_le (bh : Nat → Nat → Prop) [∀ a b, Decidable (bh a b)] (o : Nat → Nat) (x : Nat) : ∀ n, sps bh o x n ≤ n
  | 0 => Nat.le_refl _
  | n + 1 => by
    simp only [sps]
    split
    · exact Nat.le_succ_of_le (sps_le bh o x n)
    · exact Nat.le_refl _
theorem sps_cg (bh : Nat → Nat → Prop) [∀ a b, Decidable (bh a b)] {o o' : Nat → Nat} (x : Nat) : ∀ n, (∀ i, i < n → o i = o' i) → sps bh o x n = sps bh o' x n
  | 0, _ => rfl
  | n + 1, h => by
    simp only [sps]
    rw [h n (by omega), sps_cg bh x n (fun i hi => h i (by omega))]
theorem mIns_sps (bh : Nat → Nat → Prop) [∀ a b, Decidable (bh a b)] (x : Nat) : ∀ (n : Nat) (o : Nat → Nat) (i : Nat), mIns bh x n o i = if i < sps bh o x n then o i else if i = sps bh o x n then x else if i ≤ n then o (i - 1) else o i
  | 0, o, i => by
    have e2 : sps bh o x 0 = 0 := rfl
    rw [e2]
    show va_up o 0 x i = _
    unfold va_up
    by_cases e : i = 0
    · rw [if_pos e, if_neg (by omega), if_pos e]
    · rw [if_neg e, if_neg (by omega), if_neg e, if_neg (by omega)]
  | n + 1, o, i => by
    by_cases c : bh (o n) x
    · have e1 : mIns bh x (n + 1) o = mIns bh x n (va_up o (n + 1) (o n)) := by simp only [mIns]; rw [if_pos c]
      have e2 : sps bh o x (n + 1) = sps bh o x n := by simp only [sps]; rw [if_pos c]
      have := sps_le bh o x n
      rw [e1, e2, mIns_sps bh x n, sps_cg bh (o := va_up o (n + 1) (o n)) (o' := o) x n (fun i hi => va_upN (by omega))]
      simp only [va_up]
      (repeat' split) <;> first | omega | rfl | exact congrArg o (by omega)
    · have e1 : mIns bh x (n + 1) o = va_up o (n + 1) x := by simp only [mIns]; rw [if_neg c]
      have e2 : sps bh o x (n + 1) = n + 1 := by simp only [sps]; rw [if_neg c]
      rw [e1, e2]
      simp only [va_up]
      (repeat' split) <;> first | omega | rfl
/-- the class's order against the reference's -/
def oK (N : Nat) (O o : Nat → Nat) (f k : Nat) : Prop := (∀ i, i < k → O (f + i) = o i) ∧ ∀ i, i < N → i < f ∨ f + k ≤ i → O i = i
theorem oK_step (bh : Nat → Nat → Prop) [∀ a b, Decidable (bh a b)] {N f k : Nat} {o0 : Nat → Nat} (hk : f + k < N) (q : oK N O (mOrd bh f o0 k) f k) : oK N (omv O (f + k) (f + sps bh (mOrd bh f o0 k) (f + k) k)) (mOrd bh f o0 (k + 1)) f (k + 1) := by
  have hs := sps_le bh (mOrd bh f o0 k) (f + k) k
  have e : ∀ i, mOrd bh f o0 (k + 1) i = if i < sps bh (mOrd bh f o0 k) (f + k) k then mOrd bh f o0 k i else if i = sps bh (mOrd bh f o0 k) (f + k) k then f + k else if i ≤ k then mOrd bh f o0 k (i - 1) else mOrd bh f o0 k i := fun i => mIns_sps bh (f + k) k (mOrd bh f o0 k) i
  have hOk : O (f + k) = f + k := q.2 _ hk (by omega)
  refine ⟨fun i hi => ?_, fun i hi hn => ?_⟩
  · rw [e]
    rcases Nat.lt_trichotomy i (sps bh (mOrd bh f o0 k) (f + k) k) with r | r | r
    · rw [if_pos r]
      simp only [omv]
      rw [if_neg (by omega), if_neg (by omega), if_neg (by omega)]
      exact q.1 i (by omega)
    · rw [if_neg (by omega), if_pos r]
      simp only [omv]
      rw [if_pos (by omega)]
      exact hOk
    · rw [if_neg (by omega), if_neg (by omega), if_pos (by omega)]
      simp only [omv]
      rw [if_neg (by omega), if_neg (by omega), if_pos (by omega), show f + i - 1 = f + (i - 1) by omega]
      exact q.1 (i - 1) (by omega)
  · simp only [omv]
    rw [if_neg (by omega), if_neg (by omega), if_neg (by omega)]
    exact q.2 i hi (by omega)
theorem oK_mv {f m n : Nat} (q : oK n O o f m) (hfm : f + m ≤ n) : vS (oMd O) n = mMv o f m := by
  have a1 : ∀ k, k ≤ f → vS (oMd O) k = 0 := fun k => by
    induction k with
    | zero => intro _; rfl
    | succ k ih =>
      intro hk
      show vS (oMd O) k + oMd O k = 0
      rw [ih (by omega)]
      unfold oMd
      rw [if_pos (q.2 k (by omega) (by omega))]
  have a2 : ∀ k, k ≤ m → vS (oMd O) (f + k) = mMv o f k := fun k => by
    induction k with
    | zero => intro _; exact a1 f (Nat.le_refl _)
    | succ k ih =>
      intro hk
      show vS (oMd O) (f + k) + oMd O (f + k) = mMv o f k + if o k = f + k then 0 else 1
      rw [ih (by omega)]
      unfold oMd
      rw [q.1 k (by omega)]
  have a3 : ∀ k, f + m + k ≤ n → vS (oMd O) (f + m + k) = mMv o f m := fun k => by
    induction k with
    | zero => intro _; exact a2 m (Nat.le_refl _)
    | succ k ih =>
      intro hk
      show vS (oMd O) (f + m + k) + oMd O (f + m + k) = _
      rw [ih (by omega)]
      unfold oMd
      rw [if_pos (q.2 _ (by omega) (by omega))]
      rfl
  have := a3 (n - (f + m)) (by omega)
  rwa [show f + m + (n - (f + m)) = n by omega] at this
end p12
