section m1
variable {g : zG} {h hh : zH} {F : Nat → Nat} {S : Int64} {z : Nat → Nat} {A : Nat → Nat → Nat} {X : Nat → Int32}
theorem sfg_dig (f : Nat → Nat) : ∀ (m k i : Nat), i < sfg f m k → sDig (f (k + i))
  | 0, k, i, h => by simp [sfg] at h
  | m + 1, k, i, h => by
    simp only [sfg] at h
    split at h
    · rename_i hd
      cases i with
      | zero => exact hd
      | succ j =>
        rw [show k + (j + 1) = k + 1 + j by omega]
        exact sfg_dig f m (k + 1) j (by omega)
    · omega
theorem dig_sub {c : Nat} (h : sDig c) : (nI c - nI 48).toInt64 = (nI c).toInt64 - lN 48 := by
  have : c = 48 ∨ c = 49 ∨ c = 50 ∨ c = 51 ∨ c = 52 ∨ c = 53 ∨ c = 54 ∨ c = 55 ∨ c = 56 ∨ c = 57 := by unfold sDig at h; omega
  rcases this with e | e | e | e | e | e | e | e | e | e <;> subst e <;> decide +kernel
theorem sval_1 (f : Nat → Nat) : ∀ (m k : Nat) (v : Int64) (a b : Nat), (sval f m k v a b).1 = cv f m k v
  | 0, k, v, a, b => rfl
  | m + 1, k, v, a, b => by
    simp only [sval, cv]
    rw [sval_1 f m (k + 1)]
    by_cases h : sDig (f k)
    · rw [if_pos h, if_pos h, dig_sub h, Int64.sub_eq_add_neg, Int64.sub_eq_add_neg, Int64.add_assoc]
    · rw [if_neg h, if_neg h]
theorem sval_pt (f : Nat → Nat) : ∀ (w m k : Nat) (v : Int64) (a : Nat), (∀ i, i < w → f (k + i) ≠ 46) → ∃ v', (sval f (w + m) k v a 0).2 = (sval f m (k + w) v' a 0).2
  | 0, m, k, v, a, _ => ⟨v, by rw [Nat.zero_add]; rfl⟩
  | w + 1, m, k, v, a, h => by
    have h0 := h 0 (by omega)
    rw [Nat.add_zero] at h0
    rw [show w + 1 + m = (w + m) + 1 by omega, show k + (w + 1) = k + 1 + w by omega]
    simp only [sval]
    rw [if_neg (show ¬ (0 < 0 ∧ sDig (f k)) by omega), if_neg (show ¬ (0 < 0 ∨ f k = 46) by omega)]
    exact sval_pt f w m (k + 1) _ _ (fun i hi => by rw [show k + 1 + i = k + (i + 1) by omega]; exact h (i + 1) (by omega))
theorem sval_dg (f : Nat → Nat) : ∀ (m k : Nat) (v : Int64) (a : Nat), (∀ i, i < m → sDig (f (k + i))) → (sval f m k v a 1).2 = a + m
  | 0, k, v, a, _ => rfl
  | m + 1, k, v, a, h => by
    have h0 := h 0 (by omega)
    rw [Nat.add_zero] at h0
    simp only [sval]
    rw [if_pos (show 0 < 1 ∧ sDig (f k) from ⟨by omega, h0⟩), if_pos (show 0 < 1 ∨ f k = 46 by omega), sval_dg f m (k + 1) _ _ (fun i hi => by rw [show k + 1 + i = k + (i + 1) by omega]; exact h (i + 1) (by omega))]
    omega
theorem swh_pt (f : Nat → Nat) : ∀ (w m k : Nat), (∀ i, i < w → f (k + i) ≠ 46) → swh f (w + m) k = swh f m (k + w)
  | 0, m, k, _ => by rw [Nat.zero_add]; rfl
  | w + 1, m, k, h => by
    have h0 := h 0 (by omega)
    rw [Nat.add_zero] at h0
    rw [show w + 1 + m = (w + m) + 1 by omega, show k + (w + 1) = k + 1 + w by omega]
    simp only [swh]
    rw [if_neg h0]
    exact swh_pt f w m (k + 1) (fun i hi => by rw [show k + 1 + i = k + (i + 1) by omega]; exact h (i + 1) (by omega))
theorem sA_np (f : Nat → Nat) (n i : Nat) (hi : i < sA f n) : f i ≠ 46 := by
  have hs := sSg_le f n
  by_cases h : i < sSg f n
  · have : sSg f n = 1 := by omega
    unfold sSg at this
    split at this
    · rename_i q; rw [show i = 0 by omega]; omega
    · omega
  · have := sfg_dig f (n - sSg f n) (sSg f n) (i - sSg f n) (by unfold sA sW at hi; omega)
    rw [show sSg f n + (i - sSg f n) = i by omega] at this
    unfold sDig at this
    omega
/-- of a number: class and reference agree how many digits stand behind the point -/
theorem num_dec (f : Nat → Nat) (n : Nat) (h : sNum f n) : (sval f n 0 0 0 0).2 = n - swh f n 0 - 1 := by
  obtain ⟨h1, h2⟩ := h
  rcases h2 with e | ⟨e1, e2, e3⟩
  · have np : ∀ i, i < n → f (0 + i) ≠ 46 := fun i hi => by rw [Nat.zero_add]; exact sA_np f n i (by omega)
    obtain ⟨v', q1⟩ := sval_pt f n 0 0 0 0 np
    have q2 := swh_pt f n 0 0 np
    rw [Nat.add_zero] at q1 q2
    rw [q1, q2]
    simp only [sval, swh]
    omega
  · have np : ∀ i, i < sA f n → f (0 + i) ≠ 46 := fun i hi => by rw [Nat.zero_add]; exact sA_np f n i hi
    obtain ⟨v', q1⟩ := sval_pt f (sA f n) (sP f n + 1) 0 0 0 np
    have q2 := swh_pt f (sA f n) (sP f n + 1) 0 np
    rw [show sA f n + (sP f n + 1) = n by omega, Nat.zero_add] at q1 q2
    rw [q1, q2]
    simp only [sval, swh]
    rw [if_neg (show ¬ (0 < 0 ∧ sDig (f (sA f n))) by omega), if_pos (show 0 < 0 ∨ f (sA f n) = 46 from Or.inr e1), if_pos e1, sval_dg f _ _ _ _ (fun i hi => sfg_dig f (n - (sA f n + 1)) (sA f n + 1) i (by unfold sP at hi; exact hi))]
    omega
theorem cVal_eq (f : Nat → Nat) (n : Nat) (h : sNum f n) : cVal f n = sVal f n := by
  unfold cVal sVal
  rw [num_dec f n h, sval_1]
theorem sNum_pos {f : Nat → Nat} {n : Nat} (h : sNum f n) : 1 ≤ n := by
  have h1 := h.1.1
  have := sA_le f n
  unfold sA at this
  omega
theorem skind_1 {f : Nat → Nat} {n : Nat} (h : skind f n = 1) : sNum f n := by
  unfold skind at h
  split at h
  · omega
  · split at h
    · assumption
    · omega
theorem c_valueOfS {p q sz : Nat} {Z : Nat → Nat} (hp : hh.1 p = some (.inr (7, [.ref q, .int (nI sz)]))) (hq : hh.1 q = some (mNA 3264 Z)) (hn : sz ≤ 3264) (hZ : ∀ j, Z j < 1000) {a m : Nat} (hm : a + m ≤ sz) (hk : skind (zf Z a) m = 1) : Zx g zX8_valueOf [.ref p, .int (nI a), .int (nI (a + m))] hh (some (.long (sVal (zf Z a) m))) hh := by
  have := c_valueOf (g := g) hp hq hn hZ hm (sNum_pos (skind_1 hk))
  rwa [cVal_eq _ _ (skind_1 hk)] at this
end m1
