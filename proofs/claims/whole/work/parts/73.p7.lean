section p7
variable {z w : Nat → Nat} {l c q : Nat}
/-! the buffer laid into a text -/
theorem sg_nat {v : Nat} (hv : v < 1000) (h : mSg (nI v)) : 32 ≤ v ∧ v ≠ 124 ∧ v ≠ 47 := by
  have e : ∀ a, a < 1000 → nI v = nI a → v = a := fun a ha q => (nI_eq (by omega) (by omega)).mp q
  rcases h with h | h | h | h | h
  · have := (w_nI (v := v) (by omega) (by omega) (by omega)).mp h; omega
  · have := (w_nI (v := v) (by omega) (by omega) (by omega)).mp h; omega
  · have := (w_nI (v := v) (by omega) (by omega) (by omega)).mp h; omega
  · have := e 32 (by omega) h; omega
  · rcases h with h | h | h | h | h | h | h | h <;> have := e _ (by omega) h <;> omega
theorem fpre_s : fpre w l (c + 1) = fpre w l c ++ fc w l c := by
  unfold fpre
  rw [fm_snoc, List.append_assoc, Nat.zero_add]
def LT (w : Nat → Nat) (l : Nat) : List Nat := fpre w l (w (1 + l) - 1) ++ fs w l (w (1 + l) - 1)
def LR (w : Nat → Nat) (l : Nat) : List Nat := fm (fL w) (w 0 - (l + 1)) (l + 1)
theorem fT_L (hl : l < w 0) (h1 : 1 ≤ w (1 + l)) : fT w = LT w l ++ (10 :: LR w l) := by
  rw [fT_cell hl (show w (1 + l) - 1 < w (1 + l) by omega)]
  unfold LT LR fpost fe
  rw [if_neg (by omega), show w (1 + l) - (w (1 + l) - 1 + 1) = 0 by omega]
  simp only [List.append_assoc]
  rfl
theorem lay_bar (hw : tOK w) (hl : l < w 0) {b : Nat} (hb : w (1 + l) = b + 1) (hb7 : b < 7) : tOK (va_up (va_up w (1 + l) (w (1 + l) + 1)) (25 + 8 * l + (w (1 + l) - 1 + 1)) 0) ∧ LT (va_up (va_up w (1 + l) (w (1 + l) + 1)) (25 + 8 * l + (w (1 + l) - 1 + 1)) 0) l = LT w l ++ [9] ∧ LR (va_up (va_up w (1 + l) (w (1 + l) + 1)) (25 + 8 * l + (w (1 + l) - 1 + 1)) 0) l = LR w l ∧ (va_up (va_up w (1 + l) (w (1 + l) + 1)) (25 + 8 * l + (w (1 + l) - 1 + 1)) 0) 0 = w 0 ∧ (va_up (va_up w (1 + l) (w (1 + l) + 1)) (25 + 8 * l + (w (1 + l) - 1 + 1)) 0) (1 + l) = b + 2 ∧ (va_up (va_up w (1 + l) (w (1 + l) + 1)) (25 + 8 * l + (w (1 + l) - 1 + 1)) 0) (25 + 8 * l + (b + 1)) = 0 := by
  have h24 := hw.ok.2.1
  rw [hb, show b + 1 - 1 + 1 = b + 1 by omega]
  generalize hy : va_up (va_up w (1 + l) (b + 1 + 1)) (25 + 8 * l + (b + 1)) 0 = y
  have y0 : y 0 = w 0 := by rw [← hy, va_upN (by omega), va_upN (by omega)]
  have yc : y (1 + l) = b + 2 := by rw [← hy, va_upN (by omega), va_upS]
  have yn : y (25 + 8 * l + (b + 1)) = 0 := by rw [← hy, va_upS]
  have yo : ∀ i j, i < 24 → j < 8 → 8 * i + j ≠ 8 * l + (b + 1) → SC y i j w i j := fun i j hi hj hn => by
    refine ⟨by rw [← hy, va_upN (by omega), va_upN (by omega)], fun k hk => by rw [← hy, va_upN (by omega), va_upN (by omega)]⟩
  have yl : ∀ i, i < 24 → i ≠ l → SL y i w i := fun i hi hn => ⟨by rw [← hy, va_upN (by omega), va_upN (by omega)], fun j hj => yo i j hi hj (by omega)⟩
  refine ⟨tOK_of (by rw [y0]; exact hw.ok.1) (by rw [y0]; exact h24) (fun j => ?_) (fun i hi => ?_), ?_, ?_, y0, yc, yn⟩
  · have := hw.bd j
    rw [← hy]
    simp only [va_up]
    (repeat' split) <;> omega
  · rw [y0] at hi
    by_cases e : i = l
    · subst e
      refine ⟨by omega, by omega, fun j hj => ?_⟩
      by_cases e2 : j = b + 1
      · subst e2
        exact ⟨by omega, fun k hk => absurd hk (by omega)⟩
      · exact (yo i j (by omega) (by omega) (by omega)).gc (hw.gc hl (by omega))
    · exact (yl i (by omega) e).gl (hw.gl hi)
  · unfold LT
    rw [yc, hb, show b + 2 - 1 = b + 1 by omega, show b + 1 - 1 = b by omega, fpre_s]
    have e1 : fpre y l b = fpre w l b := fpre_eq (fun i hi => ⟨yl i (by omega) (by omega), hw.gl (by omega)⟩) (fun j hj => ⟨yo l j (by omega) (by omega) (by omega), hw.gc hl (by omega)⟩) (by omega) (by omega)
    have e2 : fs y l (b + 1) = [] := by unfold fs; rw [yn]; rfl
    have e3 : fc y l b = fs w l b ++ [9] := by
      unfold fc fe
      rw [if_pos (by omega), (yo l b (by omega) (by omega) (by omega)).fs_eq (hw.gc hl (by omega)).1]
    rw [e1, e2, e3, List.append_nil, List.append_assoc]
  · unfold LR
    rw [y0]
    exact fm_cg _ _ _ (fun i hi => (yl _ (by omega) (by omega)).fL_eq (hw.gl (by omega)))
theorem lay_sgn (hw : tOK w) (hl : l < w 0) {b s v : Nat} (hb : w (1 + l) = b + 1) (hs : w (25 + 8 * l + b) = s) (hs16 : s < 16) (h32 : 32 ≤ v) (hv : v < 1000) : tOK (va_up (va_up w (217 + 16 * (8 * l + (w (1 + l) - 1)) + w (25 + 8 * l + (w (1 + l) - 1))) v) (25 + 8 * l + (w (1 + l) - 1)) (w (25 + 8 * l + (w (1 + l) - 1)) + 1)) ∧ LT (va_up (va_up w (217 + 16 * (8 * l + (w (1 + l) - 1)) + w (25 + 8 * l + (w (1 + l) - 1))) v) (25 + 8 * l + (w (1 + l) - 1)) (w (25 + 8 * l + (w (1 + l) - 1)) + 1)) l = LT w l ++ [v] ∧ LR (va_up (va_up w (217 + 16 * (8 * l + (w (1 + l) - 1)) + w (25 + 8 * l + (w (1 + l) - 1))) v) (25 + 8 * l + (w (1 + l) - 1)) (w (25 + 8 * l + (w (1 + l) - 1)) + 1)) l = LR w l ∧ (va_up (va_up w (217 + 16 * (8 * l + (w (1 + l) - 1)) + w (25 + 8 * l + (w (1 + l) - 1))) v) (25 + 8 * l + (w (1 + l) - 1)) (w (25 + 8 * l + (w (1 + l) - 1)) + 1)) 0 = w 0 ∧ (va_up (va_up w (217 + 16 * (8 * l + (w (1 + l) - 1)) + w (25 + 8 * l + (w (1 + l) - 1))) v) (25 + 8 * l + (w (1 + l) - 1)) (w (25 + 8 * l + (w (1 + l) - 1)) + 1)) (1 + l) = b + 1 ∧ (va_up (va_up w (217 + 16 * (8 * l + (w (1 + l) - 1)) + w (25 + 8 * l + (w (1 + l) - 1))) v) (25 + 8 * l + (w (1 + l) - 1)) (w (25 + 8 * l + (w (1 + l) - 1)) + 1)) (25 + 8 * l + b) = s + 1 := by
  have h24 := hw.ok.2.1
  have h8 := (hw.gl hl).2.1
  rw [hb, show b + 1 - 1 = b by omega, hs]
  generalize hy : va_up (va_up w (217 + 16 * (8 * l + b) + s) v) (25 + 8 * l + b) (s + 1) = y
  have y0 : y 0 = w 0 := by rw [← hy, va_upN (by omega), va_upN (by omega)]
  have yc : ∀ i, i < 24 → y (1 + i) = w (1 + i) := fun i hi => by rw [← hy, va_upN (by omega), va_upN (by omega)]
  have yn : y (25 + 8 * l + b) = s + 1 := by rw [← hy, va_upS]
  have yo : ∀ i j, i < 24 → j < 8 → 8 * i + j ≠ 8 * l + b → SC y i j w i j := fun i j hi hj hn => by
    refine ⟨by rw [← hy, va_upN (by omega), va_upN (by omega)], fun k hk => by rw [← hy, va_upN (by omega), va_upN (by omega)]⟩
  have yl : ∀ i, i < 24 → i ≠ l → SL y i w i := fun i hi hn => ⟨yc i hi, fun j hj => yo i j hi hj (by omega)⟩
  have ys : ∀ k, k < s → y (217 + 16 * (8 * l + b) + k) = w (217 + 16 * (8 * l + b) + k) := fun k hk => by rw [← hy, va_upN (by omega), va_upN (by omega)]
  have yv : y (217 + 16 * (8 * l + b) + s) = v := by rw [← hy, va_upN (by omega), va_upS]
  refine ⟨tOK_of (by rw [y0]; exact hw.ok.1) (by rw [y0]; exact h24) (fun j => ?_) (fun i hi => ?_), ?_, ?_, y0, (yc l (by omega)).trans hb, yn⟩
  · have := hw.bd j
    rw [← hy]
    simp only [va_up]
    (repeat' split) <;> omega
  · rw [y0] at hi
    by_cases e : i = l
    · subst e
      have yci := yc i (by omega)
      refine ⟨by omega, by omega, fun j hj => ?_⟩
      by_cases e2 : j = b
      · subst e2
        refine ⟨by omega, fun k hk => ?_⟩
        by_cases e3 : k = s
        · subst e3; omega
        · rw [ys k (by omega)]
          exact hw.sg i j k hl (by omega) (by omega)
      · exact (yo i j (by omega) (by omega) (by omega)).gc (hw.gc hl (by omega))
    · exact (yl i (by omega) e).gl (hw.gl hi)
  · unfold LT
    rw [yc l (by omega), hb, show b + 1 - 1 = b by omega]
    have e1 : fpre y l b = fpre w l b := fpre_eq (fun i hi => ⟨yl i (by omega) (by omega), hw.gl (by omega)⟩) (fun j hj => ⟨yo l j (by omega) (by omega) (by omega), hw.gc hl (by omega)⟩) (by rw [yc l (by omega)]; omega) (by omega)
    have e2 : fs y l b = fs w l b ++ [v] := by
      unfold fs
      rw [yn, hs, pl_snoc]
      congr 1
      · exact pl_cg (fun i hi => by rw [Nat.zero_add]; exact ys i hi)
      · rw [Nat.zero_add]
        show [y (217 + 16 * (8 * l + b) + s)] = [v]
        rw [yv]
    rw [e1, e2, List.append_assoc]
  · unfold LR
    rw [y0]
    exact fm_cg _ _ _ (fun i hi => (yl _ (by omega) (by omega)).fL_eq (hw.gl (by omega)))
theorem lay_end (hw : tOK w) (hl : l + 1 = w 0) (h24 : w 0 < 24) : tOK (va_up (va_up (va_up w 0 (w 0 + 1)) (1 + (l + 1)) 1) (25 + 8 * (l + 1) + 0) 0) ∧ LT (va_up (va_up (va_up w 0 (w 0 + 1)) (1 + (l + 1)) 1) (25 + 8 * (l + 1) + 0) 0) (l + 1) = LT w l ++ [10] ∧ LR (va_up (va_up (va_up w 0 (w 0 + 1)) (1 + (l + 1)) 1) (25 + 8 * (l + 1) + 0) 0) (l + 1) = [] ∧ LR w l = [] ∧ (va_up (va_up (va_up w 0 (w 0 + 1)) (1 + (l + 1)) 1) (25 + 8 * (l + 1) + 0) 0) 0 = w 0 + 1 ∧ (va_up (va_up (va_up w 0 (w 0 + 1)) (1 + (l + 1)) 1) (25 + 8 * (l + 1) + 0) 0) (1 + (l + 1)) = 1 ∧ (va_up (va_up (va_up w 0 (w 0 + 1)) (1 + (l + 1)) 1) (25 + 8 * (l + 1) + 0) 0) (25 + 8 * (l + 1) + 0) = 0 := by
  generalize hy : va_up (va_up (va_up w 0 (w 0 + 1)) (1 + (l + 1)) 1) (25 + 8 * (l + 1) + 0) 0 = y
  have y0 : y 0 = w 0 + 1 := by rw [← hy, va_upN (by omega), va_upN (by omega), va_upS]
  have yc : y (1 + (l + 1)) = 1 := by rw [← hy, va_upN (by omega), va_upS]
  have yn : y (25 + 8 * (l + 1) + 0) = 0 := by rw [← hy, va_upS]
  have yl : ∀ i, i ≤ l → SL y i w i := fun i hi => by
    refine ⟨by rw [← hy, va_upN (by omega), va_upN (by omega), va_upN (by omega)], fun j hj => ⟨by rw [← hy, va_upN (by omega), va_upN (by omega), va_upN (by omega)], fun k hk => by rw [← hy, va_upN (by omega), va_upN (by omega), va_upN (by omega)]⟩⟩
  refine ⟨tOK_of (by omega) (by omega) (fun j => ?_) (fun i hi => ?_), ?_, ?_, ?_, y0, yc, yn⟩
  · have := hw.bd j
    rw [← hy]
    simp only [va_up]
    (repeat' split) <;> omega
  · by_cases e : i = l + 1
    · subst e
      refine ⟨by omega, by omega, fun j hj => ?_⟩
      have : j = 0 := by omega
      subst this
      exact ⟨by omega, fun k hk => absurd hk (by omega)⟩
    · exact (yl i (by omega)).gl (hw.gl (by omega))
  · unfold LT
    have g := (hw.gl (l := l) (by omega)).1
    rw [yc]
    have e1 : fpre y (l + 1) (1 - 1) = fm (fL w) (l + 1) 0 := by
      unfold fpre
      show fm (fL y) (l + 1) 0 ++ [] = _
      rw [List.append_nil]
      exact fm_cg _ _ _ (fun i hi => by rw [Nat.zero_add]; exact (yl i (by omega)).fL_eq (hw.gl (by omega)))
    have e2 : fs y (l + 1) (1 - 1) = [] := by
      unfold fs
      rw [show y (25 + 8 * (l + 1) + (1 - 1)) = 0 from yn]
      rfl
    rw [e1, e2, List.append_nil, fm_snoc, Nat.zero_add, fL_at (show w (1 + l) - 1 < w (1 + l) by omega)]
    unfold fpre fc fe
    rw [if_neg (by omega), show w (1 + l) - (w (1 + l) - 1 + 1) = 0 by omega]
    simp only [List.append_assoc]
    rfl
  · unfold LR
    rw [show y 0 - (l + 1 + 1) = 0 by omega]
    rfl
  · unfold LR
    rw [show w 0 - (l + 1) = 0 by omega]
    rfl
theorem lay_T {f : Nat → Nat} {kd : Nat} (hf : ∀ j, f j < 1000) : ∀ (n k l s b e : Nat) (w : Nat → Nat), mrl f kd n k s b e = k + n → tOK w → l < w 0 → w (1 + l) = b + 1 → w (25 + 8 * l + b) = s → (kd ≤ 1 ∨ (l + 1 = w 0 ∧ l = e)) → tOK (mlay f n k l w) ∧ fT (mlay f n k l w) = LT w l ++ (pl (fun j => pcd (f j)) n k ++ (10 :: LR w l)) ∧ (kd ≤ 1 → mlay f n k l w 0 = w 0)
  | 0, k, l, s, b, e, w, _, hw, hl, hb, _, _ => by
    refine ⟨hw, ?_, fun _ => rfl⟩
    show fT w = LT w l ++ ([] ++ _)
    rw [fT_L hl (by omega)]
    rfl
  | n + 1, k, l, s, b, e, w, hm, hw, hl, hb, hs, hd => by
    have hfk := hf k
    simp only [mlay]
    by_cases c1 : f k = 124
    · obtain ⟨m1, m2, m3⟩ := mrl_bar hm c1
      rw [if_pos c1, pl_cons, show pcd (f k) = 9 by unfold pcd; rw [if_pos c1]]
      obtain ⟨q1, q2, q3, q4, q5, q6⟩ := lay_bar hw hl hb m2
      obtain ⟨r1, r2, r3⟩ := lay_T hf n (k + 1) l 0 (b + 1) e _ m3 q1 (by rw [q4]; exact hl) q5 q6 (by rw [q4]; exact hd)
      refine ⟨r1, ?_, fun h => (r3 h).trans q4⟩
      rw [r2, q2, q3]
      simp only [List.append_assoc, List.cons_append, List.nil_append]
    · by_cases c2 : f k = 47
      · obtain ⟨m1, m2, m3⟩ := mrl_end hm c2
        rw [if_neg c1, if_pos c2, pl_cons, show pcd (f k) = 10 by unfold pcd; rw [if_neg c1, if_pos c2]]
        have hd2 : l + 1 = w 0 ∧ l = e := by rcases hd with h | h; omega; exact h
        obtain ⟨q1, q2, q3, q4, q5, q6, q7⟩ := lay_end hw hd2.1 (by omega)
        obtain ⟨r1, r2, r3⟩ := lay_T hf n (k + 1) (l + 1) 0 0 (e + 1) _ m3 q1 (by rw [q5]; omega) q6 q7 (Or.inr ⟨by rw [q5]; omega, by omega⟩)
        refine ⟨r1, ?_, fun h => absurd h (by omega)⟩
        rw [r2, q2, q3, q4]
        simp only [List.append_assoc, List.cons_append, List.nil_append]
      · obtain ⟨m1, m2, m3⟩ := mrl_sgn hm c1 c2
        obtain ⟨v1, v2, v3⟩ := sg_nat hfk m1
        rw [if_neg c1, if_neg c2, pl_cons, show pcd (f k) = f k by unfold pcd; rw [if_neg c1, if_neg c2]]
        obtain ⟨q1, q2, q3, q4, q5, q6⟩ := lay_sgn (v := f k) hw hl hb hs m2 v1 hfk
        obtain ⟨r1, r2, r3⟩ := lay_T hf n (k + 1) l (s + 1) b e _ m3 q1 (by rw [q4]; exact hl) q5 q6 (by rw [q4]; exact hd)
        refine ⟨r1, ?_, fun h => (r3 h).trans q4⟩
        rw [r2, q2, q3]
        simp only [List.append_assoc, List.cons_append, List.nil_append]
/-- load -/
theorem load_T {f : Nat → Nat} {m : Nat} (hf : ∀ j, f j < 1000) (hz : ∀ j, z j < 1000) (hr : mrl f 2 m 0 0 0 0 = m) : tOK (mlay f m 0 0 (va_up (va_up (va_up z 0 1) 1 1) (25 + 8 * 0 + 0) 0)) ∧ fT (mlay f m 0 0 (va_up (va_up (va_up z 0 1) 1 1) (25 + 8 * 0 + 0) 0)) = pl (fun j => pcd (f j)) m 0 ++ [10] := by
  generalize hy : va_up (va_up (va_up z 0 1) 1 1) (25 + 8 * 0 + 0) 0 = y
  have y0 : y 0 = 1 := by rw [← hy, va_upN (by omega), va_upN (by omega), va_upS]
  have y1 : y (1 + 0) = 1 := by rw [← hy, va_upN (by omega)]; exact va_upS _ _ _
  have yn : y (25 + 8 * 0 + 0) = 0 := by rw [← hy, va_upS]
  have ht : tOK y := by
    refine tOK_of (by omega) (by omega) (fun j => ?_) (fun i hi => ?_)
    · have := hz j
      rw [← hy]
      simp only [va_up]
      (repeat' split) <;> omega
    · have : i = 0 := by omega
      subst this
      refine ⟨by omega, by omega, fun j hj => ?_⟩
      have : j = 0 := by omega
      subst this
      exact ⟨by omega, fun k hk => absurd hk (by omega)⟩
  obtain ⟨r1, r2, -⟩ := lay_T hf m 0 0 0 0 0 y (by rw [hr]; omega) ht (by omega) y1 yn (Or.inr ⟨by omega, rfl⟩)
  refine ⟨r1, ?_⟩
  have e1 : LT y 0 = [] := by
    unfold LT fs
    rw [y1]
    show fpre y 0 0 ++ pl (mf y 0 0) (y (25 + 8 * 0 + 0)) 0 = []
    rw [yn]
    rfl
  have e2 : LR y 0 = [] := by
    unfold LR
    rw [y0]
    rfl
  rw [r2, e1, e2]
  rfl
/-- insertLine -/
theorem insl_T {f : Nat → Nat} {m : Nat} (hf : ∀ j, f j < 1000) (hz : tOK z) (hl : l ≤ z 0) (h24 : z 0 < 24) (hr : mrl f 1 m 0 0 0 0 = m) : tOK (mlay f m 0 l (mopl z l)) ∧ fT (mlay f m 0 l (mopl z l)) = fm (fL z) l 0 ++ (pl (fun j => pcd (f j)) m 0 ++ (10 :: fm (fL z) (z 0 - l) l)) ∧ mlay f m 0 l (mopl z l) 0 = z 0 + 1 := by
  obtain ⟨t1, t2, t3⟩ := opl_T hz hl h24
  have n := mopl_n (z := z) hl h24
  obtain ⟨r1, r2, r3⟩ := lay_T hf m 0 l 0 0 0 (mopl z l) (by rw [hr]; omega) t1 (by rw [mopl_0]; omega) n.1 n.2 (Or.inl (by omega))
  refine ⟨r1, ?_, (r3 (by omega)).trans mopl_0⟩
  have e1 : LT (mopl z l) l = fm (fL z) l 0 := by
    unfold LT fs
    rw [n.1]
    show fpre (mopl z l) l 0 ++ pl (mf (mopl z l) l 0) (mopl z l (25 + 8 * l + 0)) 0 = _
    rw [n.2, t2]
    exact List.append_nil _
  rw [r2, e1]
  unfold LR
  rw [t3]
end p7
