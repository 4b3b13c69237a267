section p13
variable {z : Nat → Nat} {c d : Nat}
/-! the class's comparing is the reference's -/
theorem sCk_sp (f g : Nat → Nat) (n m : Nat) : ∀ (q k : Nat), n ≤ k + q → (∀ j, k ≤ j → j < sCk f g n m q k → j < n ∧ j < m ∧ f j = g j) ∧ ¬ (sCk f g n m q k < n ∧ sCk f g n m q k < m ∧ f (sCk f g n m q k) = g (sCk f g n m q k)) ∧ k ≤ sCk f g n m q k
  | 0, k, h => ⟨fun j h1 h2 => absurd h2 (by show ¬ j < k; omega), fun q => absurd q.1 (by show ¬ k < n; omega), Nat.le_refl _⟩
  | q + 1, k, h => by
    simp only [sCk]
    by_cases e : k < n ∧ k < m ∧ f k = g k
    · rw [if_pos e]
      obtain ⟨r1, r2, r3⟩ := sCk_sp f g n m q (k + 1) (by omega)
      refine ⟨fun j h1 h2 => ?_, r2, by omega⟩
      by_cases e2 : j = k
      · subst e2; exact e
      · exact r1 j (by omega) h2
    · rw [if_neg e]
      exact ⟨fun j h1 h2 => absurd h2 (by omega), e, Nat.le_refl _⟩
theorem sCk_sym (f g : Nat → Nat) (n m : Nat) : sCk f g n m n 0 = sCk g f m n m 0 := by
  obtain ⟨a1, a2, -⟩ := sCk_sp f g n m n 0 (by omega)
  obtain ⟨b1, b2, -⟩ := sCk_sp g f m n m 0 (by omega)
  rcases Nat.lt_trichotomy (sCk f g n m n 0) (sCk g f m n m 0) with r | r | r
  · have := b1 _ (by omega) r
    exact absurd ⟨this.2.1, this.1, this.2.2.symm⟩ a2
  · exact r
  · have := a1 _ (by omega) r
    exact absurd ⟨this.2.1, this.1, this.2.2.symm⟩ b2
theorem lg_lt {x y : Int64} : (¬ 0 ≤ lg_cmp x y) ↔ x.toInt < y.toInt := by
  unfold lg_cmp
  by_cases h1 : x > y
  · rw [if_pos h1]
    have h2 : y.toInt < x.toInt := Int64.lt_iff_toInt_lt.mp h1
    exact ⟨fun q => absurd (by decide) q, fun q => by omega⟩
  · rw [if_neg h1]
    have h1' : ¬ y.toInt < x.toInt := fun q => h1 (Int64.lt_iff_toInt_lt.mpr q)
    by_cases h2 : x = y
    · rw [if_pos h2]
      exact ⟨fun q => absurd (by decide) q, fun q => by rw [h2] at q; omega⟩
    · rw [if_neg h2]
      have h3 : x.toInt ≠ y.toInt := fun q => h2 (Int64.toInt_inj.mp q)
      exact ⟨fun _ => by omega, fun _ => by decide⟩
theorem lg_gt {x y : Int64} : (¬ lg_cmp x y ≤ 0) ↔ y.toInt < x.toInt := by
  unfold lg_cmp
  by_cases h1 : x > y
  · rw [if_pos h1]
    have h2 : y.toInt < x.toInt := Int64.lt_iff_toInt_lt.mp h1
    exact ⟨fun _ => h2, fun _ => by decide⟩
  · rw [if_neg h1]
    have h1' : ¬ y.toInt < x.toInt := fun q => h1 (Int64.lt_iff_toInt_lt.mpr q)
    by_cases h2 : x = y
    · rw [if_pos h2]
      exact ⟨fun q => absurd (by decide) q, fun q => absurd q h1'⟩
    · rw [if_neg h2]
      exact ⟨fun q => absurd (by decide) q, fun q => absurd q h1'⟩
theorem lg_eq {x y : Int64} : lg_cmp x y = 0 ↔ x.toInt = y.toInt := by
  have a := lg_lt (x := x) (y := y)
  have b := lg_gt (x := x) (y := y)
  constructor
  · intro q
    rw [q] at a b
    have a1 : ¬ x.toInt < y.toInt := fun r => a.mpr r (by decide)
    have b1 : ¬ y.toInt < x.toInt := fun r => b.mpr r (by decide)
    omega
  · intro q
    unfold lg_cmp
    have e : x = y := Int64.toInt_inj.mp q
    rw [if_neg (fun r => by have := Int64.lt_iff_toInt_lt.mp r; omega), if_pos e]
/-- values of numbers -/
def pw : Nat → Nat
  | 0 => 1
  | n + 1 => 10 * pw n
theorem pw_mono : ∀ k e, pw e ≤ pw (e + k)
  | 0, e => Nat.le_refl _
  | k + 1, e => by
    have := pw_mono k e
    show pw e ≤ 10 * pw (e + k)
    omega
theorem pw_le {e : Nat} (h : e ≤ 18) : pw e ≤ 1000000000000000000 := by
  have := pw_mono (18 - e) e
  rw [show e + (18 - e) = 18 by omega] at this
  exact Nat.le_trans this (by decide)
def dg (f : Nat → Nat) : Nat → Nat → Nat
  | 0, _ => 0
  | m + 1, k => (if sDig (f k) then 1 else 0) + dg f m (k + 1)
theorem dg_le (f : Nat → Nat) : ∀ m k, dg f m k ≤ m
  | 0, _ => Nat.le_refl _
  | m + 1, k => by
    simp only [dg]
    have := dg_le f m (k + 1)
    split <;> omega
theorem dg_add (f : Nat → Nat) : ∀ a b k, dg f (a + b) k = dg f a k + dg f b (k + a)
  | 0, b, k => by rw [Nat.zero_add]; simp only [dg]; rw [Nat.zero_add, Nat.add_zero]
  | a + 1, b, k => by
    rw [show a + 1 + b = (a + b) + 1 by omega]
    simp only [dg]
    rw [dg_add f a b (k + 1), show k + 1 + a = k + (a + 1) by omega]
    omega
theorem bm64 {x : Int} (h1 : -4000000000000000000 ≤ x) (h2 : x ≤ 4000000000000000000) : x.bmod (2 ^ 64) = x := Int.bmod_eq_of_le_mul_two (by omega) (by omega)
theorem dg_val {c : Nat} (h : sDig c) : ((nI c - nI 48).toInt64).toInt = (c : Int) - 48 := by
  have : c = 48 ∨ c = 49 ∨ c = 50 ∨ c = 51 ∨ c = 52 ∨ c = 53 ∨ c = 54 ∨ c = 55 ∨ c = 56 ∨ c = 57 := by unfold sDig at h; omega
  rcases this with e | e | e | e | e | e | e | e | e | e <;> subst e <;> decide +kernel
theorem lN10 : (lN 10).toInt = 10 := by decide +kernel
theorem cv_bd (f : Nat → Nat) : ∀ (m k : Nat) (v : Int64) (e : Nat), 0 ≤ v.toInt → v.toInt < pw e → e + dg f m k ≤ 18 → 0 ≤ (cv f m k v).toInt ∧ (cv f m k v).toInt < pw (e + dg f m k)
  | 0, k, v, e, h1, h2, h3 => ⟨h1, h2⟩
  | m + 1, k, v, e, h1, h2, h3 => by
    simp only [cv, dg] at h3 ⊢
    by_cases hd : sDig (f k)
    · rw [if_pos hd] at h3 ⊢
      rw [if_pos hd]
      have hp := pw_le (e := e + 1) (by omega)
      have hp1 : pw (e + 1) = 10 * pw e := rfl
      have hd2 : 48 ≤ f k ∧ f k ≤ 57 := hd
      have e1 : (lN 10 * v).toInt = 10 * v.toInt := by rw [Int64.toInt_mul, lN10, bm64 (by omega) (by omega)]
      have e2 : (lN 10 * v + (nI (f k) - nI 48).toInt64).toInt = 10 * v.toInt + ((f k : Int) - 48) := by rw [Int64.toInt_add, e1, dg_val hd, bm64 (by omega) (by omega)]
      have r := cv_bd f m (k + 1) (lN 10 * v + (nI (f k) - nI 48).toInt64) (e + 1) (by rw [e2]; omega) (by rw [e2, hp1]; omega) (by omega)
      rw [show e + (1 + dg f m (k + 1)) = e + 1 + dg f m (k + 1) by omega]
      exact r
    · rw [if_neg hd] at h3 ⊢
      rw [if_neg hd]
      rw [Nat.zero_add] at h3 ⊢
      exact cv_bd f m (k + 1) v e h1 h2 h3
theorem smul_bd : ∀ (n : Nat) (v : Int64) (e : Nat), 0 ≤ v.toInt → v.toInt < pw e → e + n ≤ 18 → 0 ≤ (smul n v).toInt ∧ (smul n v).toInt < pw (e + n)
  | 0, v, e, h1, h2, h3 => ⟨h1, h2⟩
  | n + 1, v, e, h1, h2, h3 => by
    have hp := pw_le (e := e + 1) (by omega)
    have hp1 : pw (e + 1) = 10 * pw e := rfl
    have e1 : (v * lN 10).toInt = 10 * v.toInt := by rw [Int64.toInt_mul, lN10, bm64 (by omega) (by omega)]; omega
    have r := smul_bd n (v * lN 10) (e + 1) (by rw [e1]; omega) (by rw [e1, hp1]; omega) (by omega)
    rw [show e + (n + 1) = e + 1 + n by omega]
    exact r
theorem sNum_dg (f : Nat → Nat) (n : Nat) (h : sNum f n) : dg f n 0 + (4 - (sval f n 0 0 0 0).2) ≤ 13 := by
  have hs := sSg_le f n
  have hd0 : dg f (sSg f n) 0 = 0 := by
    unfold sSg
    split
    · rename_i q
      simp only [dg]
      rw [if_neg (by rw [q.2]; decide)]
    · rfl
  have hA : dg f (sA f n) 0 ≤ sW f n := by
    unfold sA
    rw [dg_add, hd0]
    have := dg_le f (sW f n) (0 + sSg f n)
    omega
  obtain ⟨h1, h2⟩ := h
  rcases h2 with e | ⟨e1, e2, e3⟩
  · rw [e] at hA
    omega
  · have np : ∀ i, i < sA f n → f (0 + i) ≠ 46 := fun i hi => by rw [Nat.zero_add]; exact sA_np f n i hi
    have q2 := swh_pt f (sA f n) (sP f n + 1) 0 np
    rw [show sA f n + (sP f n + 1) = n by omega, Nat.zero_add] at q2
    have q3 : swh f (sP f n + 1) (sA f n) = sA f n := by simp only [swh]; rw [if_pos e1]
    have q4 := num_dec f n ⟨h1, Or.inr ⟨e1, e2, e3⟩⟩
    rw [q2, q3] at q4
    have q5 : dg f n 0 = dg f (sA f n) 0 + dg f (1 + sP f n) (0 + sA f n) := by rw [← dg_add, show sA f n + (1 + sP f n) = n by omega]
    have q6 : dg f (1 + sP f n) (0 + sA f n) ≤ sP f n := by
      rw [dg_add]
      have a1 : dg f 1 (0 + sA f n) = 0 := by
        simp only [dg]
        rw [Nat.zero_add, if_neg (by rw [e1]; decide)]
      have a2 := dg_le f (sP f n) (0 + sA f n + 1)
      omega
    omega
theorem sVal_bd (f : Nat → Nat) (n : Nat) (h : sNum f n) : -1000000000000000000 ≤ (sVal f n).toInt ∧ (sVal f n).toInt ≤ 1000000000000000000 := by
  have hd := sNum_dg f n h
  have hp := pw_le (e := dg f n 0 + (4 - (sval f n 0 0 0 0).2)) (by omega)
  obtain ⟨a1, a2⟩ := cv_bd f n 0 0 0 (by decide) (by decide) (by omega)
  rw [Nat.zero_add] at a2
  obtain ⟨b1, b2⟩ := smul_bd (4 - (sval f n 0 0 0 0).2) (cv f n 0 0) (dg f n 0) a1 a2 (by omega)
  unfold sVal
  rw [sval_1]
  split
  · rw [Int64.toInt_neg, bm64 (by omega) (by omega)]
    omega
  · omega
theorem i32_sub {x y : Nat} (hx : x < 2000) (hy : y < 2000) : ((nI x - nI y).toInt64).toInt = (x : Int) - y := by
  rw [Int32.toInt_toInt64, Int32.toInt_sub, nI_toInt (by omega), nI_toInt (by omega)]
  exact Int.bmod_eq_of_le_mul_two (by omega) (by omega)
theorem mR_0 {l : Nat} : mR z c l = 0 ↔ mK z c l = 1 := by
  have : mK z c l ≤ 2 := skind_le _ _
  unfold mR sRank
  (repeat' split) <;> omega
theorem mR_2 {l : Nat} : mR z c l = 2 ↔ mK z c l = 0 := by
  have : mK z c l ≤ 2 := skind_le _ _
  unfold mR sRank
  (repeat' split) <;> omega
theorem mR_i {l o : Nat} : mR z c l = mR z c o ↔ mK z c l = mK z c o := by
  have h1 : mK z c l ≤ 2 := skind_le _ _
  have h2 : mK z c o ≤ 2 := skind_le _ _
  unfold mR sRank
  constructor
  · intro q
    (repeat' split at q) <;> omega
  · intro q
    rw [q]
theorem cmp_iff (hz : tOK z) {x y : Nat} (hx : x < z 0) (hy : y < z 0) (hcx : c < z (1 + x)) (hcy : c < z (1 + y)) : cBf z c d x y ↔ mBh z c d y x := by
  have kx : mK z c x ≤ 2 := skind_le _ _
  by_cases hk : mK z c x = mK z c y
  · have hr : mR z c y = mR z c x := mR_i.mpr hk.symm
    rcases (show mK z c x = 0 ∨ mK z c x = 1 ∨ mK z c x = 2 by omega) with k | k | k
    · -- blank cells
      have h2 : mR z c y = 2 := mR_2.mpr (by omega)
      have e : cCm z c x y = 0 := by unfold cCm; rw [if_neg (by omega), if_neg (by omega)]
      constructor
      · rintro (⟨q, -⟩ | ⟨-, ⟨-, q⟩ | ⟨-, q⟩⟩)
        · exact absurd hk q
        · rw [e] at q; exact absurd (by decide) q
        · rw [e] at q; exact absurd (by decide) q
      · rintro (⟨-, q⟩ | ⟨q, -⟩)
        · omega
        · exact absurd (Or.inr h2) q
    · -- numbers
      have h0 : mR z c y = 0 := mR_0.mpr (by omega)
      have vx : cVl z c x = sVal (mf z x c) (mN z c x) := by unfold cVl; rw [if_pos k]
      have vy : cVl z c y = sVal (mf z y c) (mN z c y) := by unfold cVl; rw [if_pos (by omega)]
      have bx := sVal_bd (mf z x c) (mN z c x) (skind_1 k)
      have b_y := sVal_bd (mf z y c) (mN z c y) (skind_1 (show mK z c y = 1 by omega))
      have eb : mBy z c y x = cVl z c y - cVl z c x := by unfold mBy; rw [if_pos h0, vx, vy]
      rw [← vx] at bx
      rw [← vy] at b_y
      have es : (mBy z c y x).toInt = (cVl z c y).toInt - (cVl z c x).toInt := by rw [eb, Int64.toInt_sub, bm64 (by omega) (by omega)]
      have e : cCm z c x y = if ¬ 0 ≤ lg_cmp (cVl z c x) (cVl z c y) then -1 else if lg_cmp (cVl z c x) (cVl z c y) = 0 then 0 else 1 := by unfold cCm; rw [if_pos k]
      have c1 : (¬ cCm z c x y ≤ 0) ↔ (cVl z c y).toInt < (cVl z c x).toInt := by
        rw [e]
        by_cases a : ¬ 0 ≤ lg_cmp (cVl z c x) (cVl z c y)
        · rw [if_pos a]
          have := lg_lt.mp a
          exact ⟨fun q => absurd (by decide) q, fun q => by omega⟩
        · rw [if_neg a]
          have a' : ¬ (cVl z c x).toInt < (cVl z c y).toInt := fun q => a (lg_lt.mpr q)
          by_cases b : lg_cmp (cVl z c x) (cVl z c y) = 0
          · rw [if_pos b]
            have := lg_eq.mp b
            exact ⟨fun q => absurd (by decide) q, fun q => by omega⟩
          · rw [if_neg b]
            have b' : ¬ (cVl z c x).toInt = (cVl z c y).toInt := fun q => b (lg_eq.mpr q)
            exact ⟨fun _ => by omega, fun _ => by decide⟩
      have c2 : (¬ 0 ≤ cCm z c x y) ↔ (cVl z c x).toInt < (cVl z c y).toInt := by
        rw [e]
        by_cases a : ¬ 0 ≤ lg_cmp (cVl z c x) (cVl z c y)
        · rw [if_pos a]
          exact ⟨fun _ => lg_lt.mp a, fun _ => by decide⟩
        · rw [if_neg a]
          have a' : ¬ (cVl z c x).toInt < (cVl z c y).toInt := fun q => a (lg_lt.mpr q)
          by_cases b : lg_cmp (cVl z c x) (cVl z c y) = 0
          · rw [if_pos b]
            exact ⟨fun q => absurd (by decide) q, fun q => absurd q a'⟩
          · rw [if_neg b]
            exact ⟨fun q => absurd (by decide) q, fun q => absurd q a'⟩
      have z0 : (0 : Int64).toInt = 0 := rfl
      have d1 : (¬ 0 ≤ lg_cmp (mBy z c y x) 0) ↔ (cVl z c y).toInt < (cVl z c x).toInt := by rw [lg_lt, es, z0]; omega
      have d2 : (¬ lg_cmp (mBy z c y x) 0 ≤ 0) ↔ (cVl z c x).toInt < (cVl z c y).toInt := by rw [lg_gt, es, z0]; omega
      have hn : ¬ (mR z c y ≠ mR z c x ∨ mR z c y = 2) := by omega
      constructor
      · rintro (⟨q, -⟩ | ⟨-, ⟨q1, q⟩ | ⟨q1, q⟩⟩)
        · exact absurd hk q
        · exact Or.inr ⟨hn, Or.inl ⟨q1, d1.mpr (c1.mp q)⟩⟩
        · exact Or.inr ⟨hn, Or.inr ⟨q1, d2.mpr (c2.mp q)⟩⟩
      · rintro (⟨q, -⟩ | ⟨-, ⟨q1, q⟩ | ⟨q1, q⟩⟩)
        · exact absurd q hn
        · exact Or.inr ⟨hk, Or.inl ⟨q1, c1.mpr (d1.mp q)⟩⟩
        · exact Or.inr ⟨hk, Or.inr ⟨q1, c2.mpr (d2.mp q)⟩⟩
    · -- words
      have h1 : ¬ mR z c y = 0 := fun q => by have := mR_0.mp q; omega
      have h2 : ¬ mR z c y = 2 := fun q => by have := mR_2.mp q; omega
      have hn : ¬ (mR z c y ≠ mR z c x ∨ mR z c y = 2) := by omega
      have e : cCm z c x y = cCmp (mf z x c) (mf z y c) (z (25 + 8 * x + c)) (z (25 + 8 * y + c)) := by unfold cCm; rw [if_neg (by omega), if_pos k]
      have eb : mBy z c y x = (sCmp (mf z y c) (mf z x c) (mN z c y) (mN z c x)).toInt64 := by unfold mBy; rw [if_neg h1]
      have l1 := hz.ok.2.2.2 x c hx hcx
      have l2 := hz.ok.2.2.2 y c hy hcy
      have key : ∃ t : Int, (mBy z c y x).toInt = t ∧ ((¬ cCm z c x y ≤ 0) ↔ t < 0) ∧ ((¬ 0 ≤ cCm z c x y) ↔ 0 < t) := by
        obtain ⟨a1, a2, -⟩ := sCk_sp (mf z x c) (mf z y c) (z (25 + 8 * x + c)) (z (25 + 8 * y + c)) (z (25 + 8 * x + c)) 0 (by omega)
        rw [eb, e]
        unfold sCmp cCmp
        rw [sCk_sym (mf z y c) (mf z x c)]
        generalize hK : sCk (mf z x c) (mf z y c) (z (25 + 8 * x + c)) (z (25 + 8 * y + c)) (z (25 + 8 * x + c)) 0 = K at a1 a2
        have hKx : K ≤ z (25 + 8 * x + c) := by
          rcases Nat.lt_or_ge (z (25 + 8 * x + c)) K with r | r
          · have := a1 (z (25 + 8 * x + c)) (by omega) r; omega
          · exact r
        have hKy : K ≤ z (25 + 8 * y + c) := by
          rcases Nat.lt_or_ge (z (25 + 8 * y + c)) K with r | r
          · have := a1 (z (25 + 8 * y + c)) (by omega) r; omega
          · exact r
        show ∃ t : Int, ((sCq (mf z y c) (mf z x c) (z (25 + 8 * y + c)) (z (25 + 8 * x + c)) K).toInt64).toInt = t ∧ _
        unfold sCq cCq
        by_cases hb : K < z (25 + 8 * x + c) ∧ K < z (25 + 8 * y + c)
        · rw [if_neg (by omega), if_pos hb, i32_sub (x := mf z y c K) (y := mf z x c K) (Nat.lt_trans (hz.bd _) (by omega)) (Nat.lt_trans (hz.bd _) (by omega))]
          have hne : mf z x c K ≠ mf z y c K := fun q => a2 ⟨hb.1, hb.2, q⟩
          refine ⟨_, rfl, ?_, ?_⟩
          · by_cases q : mf z x c K < mf z y c K
            · rw [if_pos q]; exact ⟨fun r => absurd (by decide) r, fun r => by omega⟩
            · rw [if_neg q, if_neg hne]; exact ⟨fun _ => by omega, fun _ => by decide⟩
          · by_cases q : mf z x c K < mf z y c K
            · rw [if_pos q]; exact ⟨fun _ => by omega, fun _ => by decide⟩
            · rw [if_neg q, if_neg hne]; exact ⟨fun r => absurd (by decide) r, fun r => by omega⟩
        · rw [if_pos (by omega), if_neg hb]
          rcases Nat.lt_trichotomy (z (25 + 8 * x + c)) (z (25 + 8 * y + c)) with r | r | r
          · rw [if_neg (show ¬ K = z (25 + 8 * y + c) by omega), if_pos (show K = z (25 + 8 * x + c) by omega), if_pos r, i32_sub (by omega) (by omega)]
            exact ⟨_, rfl, ⟨fun q => absurd (by decide) q, fun q => by omega⟩, ⟨fun _ => by omega, fun _ => by decide⟩⟩
          · rw [if_pos (show K = z (25 + 8 * y + c) by omega), if_pos (show K = z (25 + 8 * x + c) by omega), if_neg (by omega), if_pos r, i32_sub (by omega) (by omega)]
            exact ⟨_, rfl, ⟨fun q => absurd (by decide) q, fun q => by omega⟩, ⟨fun q => absurd (by decide) q, fun q => by omega⟩⟩
          · rw [if_pos (show K = z (25 + 8 * y + c) by omega), if_neg (show ¬ K = z (25 + 8 * x + c) by omega), if_neg (by omega), if_neg (by omega), i32_sub (by omega) (by omega)]
            exact ⟨_, rfl, ⟨fun _ => by omega, fun _ => by decide⟩, ⟨fun q => absurd (by decide) q, fun q => by omega⟩⟩
      obtain ⟨t, t1, t2, t3⟩ := key
      have z0 : (0 : Int64).toInt = 0 := rfl
      have d1 : (¬ 0 ≤ lg_cmp (mBy z c y x) 0) ↔ t < 0 := by rw [lg_lt, t1, z0]
      have d2 : (¬ lg_cmp (mBy z c y x) 0 ≤ 0) ↔ 0 < t := by rw [lg_gt, t1, z0]
      constructor
      · rintro (⟨q, -⟩ | ⟨-, ⟨q1, q⟩ | ⟨q1, q⟩⟩)
        · exact absurd hk q
        · exact Or.inr ⟨hn, Or.inl ⟨q1, d1.mpr (t2.mp q)⟩⟩
        · exact Or.inr ⟨hn, Or.inr ⟨q1, d2.mpr (t3.mp q)⟩⟩
      · rintro (⟨q, -⟩ | ⟨-, ⟨q1, q⟩ | ⟨q1, q⟩⟩)
        · exact absurd q hn
        · exact Or.inr ⟨hk, Or.inl ⟨q1, t2.mpr (d1.mp q)⟩⟩
        · exact Or.inr ⟨hk, Or.inr ⟨q1, t3.mpr (d2.mp q)⟩⟩
  · have hr : mR z c y ≠ mR z c x := fun q => hk (mR_i.mp q).symm
    constructor
    · rintro (⟨-, q⟩ | ⟨q, -⟩)
      · exact Or.inl ⟨Or.inl hr, q⟩
      · exact absurd q hk
    · rintro (⟨-, q⟩ | ⟨q, -⟩)
      · exact Or.inl ⟨hk, q⟩
      · exact absurd (Or.inl hr) q
end p13
