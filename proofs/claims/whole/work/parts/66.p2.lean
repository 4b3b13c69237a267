section p2
variable {z : Nat → Nat}
/-! READING: the class's cells of a page are those of its text -/
def tOK (z : Nat → Nat) : Prop := mOK z ∧ (∀ j, z j < 1000) ∧ ∀ l c k, l < z 0 → c < z (1 + l) → k < z (25 + 8 * l + c) → 32 ≤ z (217 + 16 * (8 * l + c) + k)
theorem tOK.ok (h : tOK z) : mOK z := h.1
theorem tOK.bd (h : tOK z) : ∀ j, z j < 1000 := h.2.1
theorem tOK.sg (h : tOK z) : ∀ l c k, l < z 0 → c < z (1 + l) → k < z (25 + 8 * l + c) → 32 ≤ z (217 + 16 * (8 * l + c) + k) := h.2.2
theorem sBlank_cg {f f' : Nat → Nat} {n : Nat} (h : ∀ k, k < n → f k = f' k) : sBlank f n ↔ sBlank f' n :=
  ⟨fun q k hk => by rw [← h k hk]; exact q k hk, fun q k hk => by rw [h k hk]; exact q k hk⟩
theorem sfg_cg {f f' : Nat → Nat} : ∀ (m k : Nat), (∀ i, k ≤ i → i < k + m → f i = f' i) → sfg f m k = sfg f' m k
  | 0, _, _ => rfl
  | m + 1, k, h => by
    simp only [sfg]
    rw [h k (by omega) (by omega), sfg_cg m (k + 1) (fun i h1 h2 => h i (by omega) (by omega))]
theorem sSg_cg {f f' : Nat → Nat} {n : Nat} (h : ∀ k, k < n → f k = f' k) : sSg f n = sSg f' n := by
  unfold sSg
  rcases Nat.eq_zero_or_pos n with q | q
  · subst q; rw [if_neg (by omega), if_neg (by omega)]
  · rw [h 0 q]
theorem sW_cg {f f' : Nat → Nat} {n : Nat} (h : ∀ k, k < n → f k = f' k) : sW f n = sW f' n := by
  have hs := sSg_le f n
  unfold sW
  rw [← sSg_cg h]
  exact sfg_cg _ _ (fun i h1 h2 => h i (by omega))
theorem sA_cg {f f' : Nat → Nat} {n : Nat} (h : ∀ k, k < n → f k = f' k) : sA f n = sA f' n := by
  unfold sA
  rw [sSg_cg h, sW_cg h]
theorem sP_cg {f f' : Nat → Nat} {n : Nat} (h : ∀ k, k < n → f k = f' k) : sP f n = sP f' n := by
  unfold sP
  rw [← sA_cg h]
  exact sfg_cg _ _ (fun i h1 h2 => h i (by omega))
theorem sNum_cg {f f' : Nat → Nat} {n : Nat} (h : ∀ k, k < n → f k = f' k) : sNum f n ↔ sNum f' n := by
  have hA := sA_le f n
  unfold sNum
  rw [sW_cg h, ← sP_cg h, ← sA_cg h]
  rcases Nat.eq_or_lt_of_le hA with q | q
  · exact ⟨fun r => ⟨r.1, Or.inl q⟩, fun r => ⟨r.1, Or.inl q⟩⟩
  · rw [h _ q]
theorem skind_cg {f f' : Nat → Nat} {n : Nat} (h : ∀ k, k < n → f k = f' k) : skind f n = skind f' n := by
  unfold skind
  by_cases b : sBlank f n
  · rw [if_pos b, if_pos ((sBlank_cg h).mp b)]
  · rw [if_neg b, if_neg (fun q => b ((sBlank_cg h).mpr q))]
    by_cases c : sNum f n
    · rw [if_pos c, if_pos ((sNum_cg h).mp c)]
    · rw [if_neg c, if_neg (fun q => c ((sNum_cg h).mpr q))]
theorem swh_cg {f f' : Nat → Nat} : ∀ (m k : Nat), (∀ i, k ≤ i → i < k + m → f i = f' i) → swh f m k = swh f' m k
  | 0, _, _ => rfl
  | m + 1, k, h => by
    simp only [swh]
    rw [h k (by omega) (by omega), swh_cg m (k + 1) (fun i h1 h2 => h i (by omega) (by omega))]
theorem sval_cg {f f' : Nat → Nat} : ∀ (m k : Nat) (v : Int64) (a b : Nat), (∀ i, k ≤ i → i < k + m → f i = f' i) → sval f m k v a b = sval f' m k v a b
  | 0, _, _, _, _, _ => rfl
  | m + 1, k, v, a, b, h => by
    simp only [sval]
    rw [h k (by omega) (by omega), sval_cg m (k + 1) _ _ _ (fun i h1 h2 => h i (by omega) (by omega))]
theorem sVal_cg {f f' : Nat → Nat} {n : Nat} (hn : 0 < n) (h : ∀ k, k < n → f k = f' k) : sVal f n = sVal f' n := by
  unfold sVal
  rw [h 0 hn, sval_cg n 0 0 0 0 (fun i h1 h2 => h i (by omega))]
/-- the facts of a cell in the class's rows -/
def cIs (z : Nat → Nat) (C : Nat → Nat → Nat) (V : Nat → Int64) (l c : Nat) : Prop := C 1 (8 * l + c) = CS z l c ∧ C 2 (8 * l + c) = z (25 + 8 * l + c) ∧ C 3 (8 * l + c) = mK z c l ∧ C 4 (8 * l + c) = (if mK z c l = 1 then mH z c l else 0) ∧ V (8 * l + c) = (if mK z c l = 1 then sVal (mf z l c) (mN z c l) else 0)
def cIn (z : Nat → Nat) (l c : Nat) (C : Nat → Nat → Nat) (V : Nat → Int64) : Prop := (∀ i, i < l → C 0 i = z (1 + i)) ∧ ∀ i j, i < z 0 → j < z (1 + i) → (i < l ∨ (i = l ∧ j < c)) → cIs z C V i j
theorem rc_step {l c : Nat} {C : Nat → Nat → Nat} {V : Nat → Int64} {f : Nat → Nat} (hz : mOK z) (hl : l < z 0) (hc : c < z (1 + l)) (hf : ∀ k, k < z (25 + 8 * l + c) → f k = mf z l c k) (hi : cIn z l c C V) :
    (∀ i, i < l → rcC C f l c (CS z l c) (z (25 + 8 * l + c)) 0 i = z (1 + i)) ∧ rcC C f l c (CS z l c) (z (25 + 8 * l + c)) 0 l = c + 1 ∧ ∀ i j, i < z 0 → j < z (1 + i) → (i < l ∨ (i = l ∧ j < c + 1)) → cIs z (rcC C f l c (CS z l c) (z (25 + 8 * l + c))) (rcV V f l c (z (25 + 8 * l + c))) i j := by
  have e0 : rcC C f l c (CS z l c) (z (25 + 8 * l + c)) 0 = va_up (C 0) l (c + 1) := by unfold rcC; rw [va_upS]
  have e1 : rcC C f l c (CS z l c) (z (25 + 8 * l + c)) 1 = va_up (C 1) (8 * l + c) (CS z l c) := by unfold rcC; rw [va_upN (by omega), va_upN (by omega), va_upN (by omega), va_upN (by omega), va_upS]
  have e2 : rcC C f l c (CS z l c) (z (25 + 8 * l + c)) 2 = va_up (C 2) (8 * l + c) (z (25 + 8 * l + c)) := by unfold rcC; rw [va_upN (by omega), va_upN (by omega), va_upN (by omega), va_upS]
  have e3 : rcC C f l c (CS z l c) (z (25 + 8 * l + c)) 3 = va_up (C 3) (8 * l + c) (mK z c l) := by unfold rcC; rw [va_upN (by omega), va_upN (by omega), va_upS, skind_cg hf]
  have e4 : rcC C f l c (CS z l c) (z (25 + 8 * l + c)) 4 = va_up (C 4) (8 * l + c) (if mK z c l = 1 then mH z c l else 0) := by unfold rcC; rw [va_upN (by omega), va_upS, skind_cg hf, swh_cg _ _ (fun i h1 h2 => hf i (by omega))]
  have e5 : rcV V f l c (z (25 + 8 * l + c)) = va_up V (8 * l + c) (if mK z c l = 1 then sVal (mf z l c) (mN z c l) else 0) := by
    unfold rcV
    rw [skind_cg hf]
    by_cases q : mK z c l = 1
    · rw [if_pos q, if_pos q, sVal_cg (sNum_pos (skind_1 q)) hf]
    · rw [if_neg q, if_neg q]
  refine ⟨fun i h => ?_, ?_, fun i j h1 h2 h3 => ?_⟩
  · rw [e0, va_upN (by omega)]; exact hi.1 i h
  · rw [e0, va_upS]
  · unfold cIs
    rw [e1, e2, e3, e4, e5]
    have h8 := (hz.2.2.1 i h1).2
    have h8' := (hz.2.2.1 l hl).2
    by_cases q : i = l ∧ j = c
    · obtain ⟨q1, q2⟩ := q
      subst q1; subst q2
      exact ⟨va_upS _ _ _, va_upS _ _ _, va_upS _ _ _, va_upS _ _ _, va_upS _ _ _⟩
    · have n : 8 * i + j ≠ 8 * l + c := by omega
      rw [va_upN n, va_upN n, va_upN n, va_upN n, va_upN n]
      exact hi.2 i j h1 h2 (by omega)
theorem rd_skip {Z : Nat → Nat} {sz r l c a n : Nat} {C : Nat → Nat → Nat} {V : Nat → Int64} : ∀ (m t : Nat), (∀ i, i < m → t + i < sz ∧ 32 ≤ Z (t + i)) → cRd Z sz (m + r) t l c a n C V = cRd Z sz r (t + m) l c a n C V
  | 0, t, _ => by rw [Nat.zero_add, Nat.add_zero]
  | m + 1, t, h => by
    have h0 := h 0 (by omega)
    rw [Nat.add_zero] at h0
    rw [show m + 1 + r = (m + r) + 1 by omega]
    simp only [cRd]
    rw [if_neg (by omega), if_neg (by omega), rd_skip m (t + 1) (fun i hi => by
      have := h (i + 1) (by omega)
      rwa [show t + 1 + i = t + (i + 1) by omega]), show t + 1 + m = t + (m + 1) by omega]
theorem rd_all {Z : Nat → Nat} {sz : Nat} (hz : tOK z) (h : FL z Z sz) : ∀ (r l c n : Nat) (C : Nat → Nat → Nat) (V : Nat → Int64), l < z 0 → c < z (1 + l) → CS z l c + r = sz + 1 → cIn z l c C V → ∃ R, cRd Z sz r (CS z l c) l c (CS z l c) n C V = some R ∧ R.1 = z 0 ∧ cCel z R.2.1 R.2.2 := by
  intro r
  induction r using Nat.strongRecOn with
  | _ r ih =>
    intro l c n C V hl hc hr hi
    have h1 : ∀ l, l < z 0 → 1 ≤ z (1 + l) := fun l hl => (hz.ok.2.2.1 l hl).1
    have h24 := hz.ok.2.1
    have h8 := (hz.ok.2.2.1 l hl).2
    have e := h.cell hl hc
    obtain ⟨r', er⟩ : ∃ r', r = z (25 + 8 * l + c) + (r' + 1) := ⟨r - z (25 + 8 * l + c) - 1, by omega⟩
    have hsk : cRd Z sz r (CS z l c) l c (CS z l c) n C V = cRd Z sz (r' + 1) (CS z l c + z (25 + 8 * l + c)) l c (CS z l c) n C V := by
      rw [er]
      exact rd_skip _ _ (fun i hi => ⟨by omega, by rw [h.sign hl hc hi]; exact hz.sg l c i hl hc hi⟩)
    rw [hsk]
    have hf : ∀ k, k < z (25 + 8 * l + c) → zf Z (CS z l c) k = mf z l c k := fun k hk => h.sign hl hc hk
    have st := rc_step (f := zf Z (CS z l c)) hz.ok hl hc hf hi
    simp only [cRd]
    rw [show CS z l c + z (25 + 8 * l + c) - CS z l c = z (25 + 8 * l + c) by omega]
    by_cases c1 : c + 1 < z (1 + l)
    · obtain ⟨m1, m2⟩ := h.more h1 hl hc (Or.inl c1)
      unfold fe at m2
      rw [if_pos c1] at m2
      rw [if_pos ⟨m1, m2⟩, if_pos ⟨by omega, by omega⟩]
      rw [show CS z l c + z (25 + 8 * l + c) + 1 = CS z l (c + 1) by rw [CS_c]; omega]
      exact ih r' (by omega) l (c + 1) _ _ _ hl c1 (by rw [CS_c]; omega) ⟨st.1, st.2.2⟩
    · have c2 : c + 1 = z (1 + l) := by omega
      have st2 : cIn z (l + 1) 0 (rcC C (zf Z (CS z l c)) l c (CS z l c) (z (25 + 8 * l + c))) (rcV V (zf Z (CS z l c)) l c (z (25 + 8 * l + c))) := by
        refine ⟨fun i hi => ?_, fun i j q1 q2 q3 => st.2.2 i j q1 q2 ?_⟩
        · rcases Nat.lt_or_ge i l with q | q
          · exact st.1 i q
          · rw [show i = l by omega, st.2.1, c2]
        · rcases q3 with q | q
          · rcases Nat.lt_or_ge i l with s | s
            · exact Or.inl s
            · have : i = l := by omega
              subst this
              exact Or.inr ⟨rfl, by omega⟩
          · omega
      by_cases l1 : l + 1 < z 0
      · obtain ⟨m1, m2⟩ := h.more h1 hl hc (Or.inr l1)
        unfold fe at m2
        rw [if_neg c1] at m2
        rw [if_neg (by omega), if_pos (Or.inr (Or.inl m2)), if_pos ⟨by omega, by omega⟩]
        rw [show CS z l c + z (25 + 8 * l + c) + 1 = CS z (l + 1) 0 by rw [CS_l c2]; omega]
        exact ih r' (by omega) (l + 1) 0 _ _ _ l1 (h1 (l + 1) l1) (by rw [CS_l c2]; omega) st2
      · have l2 : l + 1 = z 0 := by omega
        have e2 := h.last l2 c2
        rw [if_neg (by omega), if_pos (Or.inl (by omega)), if_pos ⟨by omega, by omega⟩]
        have r0 : r' = 0 := by omega
        subst r0
        simp only [cRd]
        refine ⟨_, rfl, l2, ?_, ?_⟩
        · intro i hi
          exact st2.1 i (by omega)
        · intro i j q1 q2
          exact st2.2 i j q1 q2 (Or.inl (by omega))
theorem rd_text {Z : Nat → Nat} {sz n : Nat} {C : Nat → Nat → Nat} {V : Nat → Int64} (hz : tOK z) (h : FL z Z sz) : ∃ R, cRd Z sz (sz + 1) 0 0 0 0 n C V = some R ∧ R.1 = z 0 ∧ cCel z R.2.1 R.2.2 := by
  have h0 := hz.ok.1
  exact rd_all hz h (sz + 1) 0 0 n C V (by omega) (hz.ok.2.2.1 0 (by omega)).1 (by rw [CS_0]; omega) ⟨fun i hi => absurd hi (by omega), fun i j _ _ q => absurd q (by omega)⟩
/-- a text's row of codes has room in a page -/
theorem vS_leb {f : Nat → Nat} {b : Nat} : ∀ {n : Nat}, (∀ i, i < n → f i ≤ b) → vS f n ≤ b * n
  | 0, _ => Nat.le_refl _
  | n + 1, h => by
    have h1 := vS_leb (n := n) (fun i hi => h i (by omega))
    have h2 := h n (by omega)
    show vS f n + f n ≤ b * (n + 1)
    rw [Nat.mul_add]
    omega
theorem fT_len (hz : mOK z) : (fT z).length ≤ 3264 := by
  have e : (fT z).length = vS (fun i => csL z i (z (1 + i))) (z 0) := fLs_len (z 0)
  rw [e]
  refine Nat.le_trans (vS_leb (b := 136) (fun i hi => ?_)) ?_
  · have h8 := (hz.2.2.1 i hi).2
    refine Nat.le_trans (vS_leb (b := 17) (fun j hj => ?_)) ?_
    · have := hz.2.2.2 i j hi hj
      omega
    · omega
  · have := hz.2.1
    omega
theorem FL.sz {Z : Nat → Nat} {sz : Nat} (h : FL z Z sz) (hz : mOK z) : sz + 1 ≤ 3264 := by
  rw [← h.len]; exact fT_len hz
end p2
