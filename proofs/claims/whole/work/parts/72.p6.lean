section p6
variable {z : Nat → Nat} {l c q : Nat}
/-! what is erased -/
theorem tks_0 (hl : l < 24) : mtks z l c q 0 = z 0 := by simp only [va_up, ↓reduceIte, mtks, mbks] <;> (repeat' split) <;> first | omega | exact congrArg z (by omega)
theorem tks_k {i : Nat} (hi : i < 24) : mtks z l c q (1 + i) = z (1 + i) := by simp only [va_up, ↓reduceIte, mtks, mbks] <;> (repeat' split) <;> first | omega | exact congrArg z (by omega)
theorem tks_o {i j : Nat} (hl : l < 24) (hi : i < 24) (hj : j < 8) (hc : c < 8) (h16 : z (25 + 8 * l + c) ≤ 16) (h1 : 8 * i + j ≠ 8 * l + c) : SC (mtks z l c q) i j z i j := ⟨by simp only [va_up, ↓reduceIte, mtks, mbks] <;> (repeat' split) <;> first | omega | exact congrArg z (by omega), fun k9 hk9 => by simp only [va_up, ↓reduceIte, mtks, mbks] <;> (repeat' split) <;> first | omega | exact congrArg z (by omega)⟩
theorem tks_n : mtks z l c q (25 + 8 * l + c) = z (25 + 8 * l + c) - 1 := by simp only [va_up, ↓reduceIte, mtks, mbks] <;> (repeat' split) <;> first | omega | exact congrArg z (by omega)
theorem tks_a {k : Nat} (hl : l < 24) (hc : c < 8) (hk : k < q) : mtks z l c q (217 + 16 * (8 * l + c) + k) = z (217 + 16 * (8 * l + c) + k) := by simp only [va_up, ↓reduceIte, mtks, mbks] <;> (repeat' split) <;> first | omega | exact congrArg z (by omega)
theorem tks_b {k : Nat} (hl : l < 24) (hc : c < 8) (hk : q ≤ k) (hk2 : k < z (25 + 8 * l + c) - 1) : mtks z l c q (217 + 16 * (8 * l + c) + k) = z (217 + 16 * (8 * l + c) + (k + 1)) := by simp only [va_up, ↓reduceIte, mtks, mbks] <;> (repeat' split) <;> first | omega | exact congrArg z (by omega)
theorem tks_bd (hb : ∀ j, z j < 1000) (j : Nat) : mtks z l c q j < 1000 := by
  have h1 := hb (j + 1)
  have h4 := hb j
  have h5 := hb (25 + 8 * l + c)
  simp only [mtks, mbks, va_up]
  (repeat' split) <;> omega
theorem tks_T (hz : tOK z) (hl : l < z 0) (hc : c < z (1 + l)) (hq : q < z (25 + 8 * l + c)) : tOK (mtks z l c q) ∧ fT (mtks z l c q) = fup z l c q ++ fdn z l c (q + 1) ∧ fdn z l c q = [z (217 + 16 * (8 * l + c) + q)] ++ fdn z l c (q + 1) := by
  have h24 := hz.ok.2.1
  have h8 := (hz.gl hl).2.1
  have h16 := hz.ok.2.2.2 l c hl hc
  have k0 := tks_0 (z := z) (l := l) (c := c) (q := q) (by omega)
  have kl : ∀ i, i < 24 → i ≠ l → SL (mtks z l c q) i z i := fun i hi hn => ⟨tks_k hi, fun j hj => tks_o (by omega) hi hj (by omega) h16 (by omega)⟩
  refine ⟨tOK_of (by rw [k0]; exact hz.ok.1) (by rw [k0]; exact h24) (tks_bd hz.bd) (fun i hi => ?_), ?_, ?_⟩
  · rw [k0] at hi
    by_cases e : i = l
    · subst e
      refine ⟨by rw [tks_k (by omega)]; exact (hz.gl hl).1, by rw [tks_k (by omega)]; exact h8, fun j hj => ?_⟩
      rw [tks_k (by omega)] at hj
      by_cases e2 : j = c
      · subst e2
        refine ⟨by rw [tks_n]; omega, fun k hk => ?_⟩
        rw [tks_n] at hk
        rcases Nat.lt_or_ge k q with r | r
        · rw [tks_a (by omega) (by omega) r]; exact hz.sg i j k hl hc (by omega)
        · rw [tks_b (by omega) (by omega) r (by omega)]; exact hz.sg i j (k + 1) hl hc (by omega)
      · exact (tks_o (by omega) (by omega) (by omega) (by omega) h16 (by omega)).gc (hz.gc hl hj)
    · exact (kl i (by omega) e).gl (hz.gl hi)
  · have e1 : fpre (mtks z l c q) l c = fpre z l c := fpre_eq (fun i hi => ⟨kl i (by omega) (by omega), hz.gl (by omega)⟩) (fun j hj => ⟨tks_o (by omega) (by omega) (by omega) (by omega) h16 (by omega), hz.gc hl (by omega)⟩) (by rw [tks_k (by omega)]; exact hc) hc
    have e2 : fpost (mtks z l c q) l c = fpost z l c := fpost_eq (by rw [tks_k (by omega)]) (fun i hi => ⟨tks_o (by omega) (by omega) (by omega) (by omega) h16 (by omega), hz.gc hl (by omega)⟩) (by rw [k0]) (fun i hi => ⟨kl _ (by omega) (by omega), hz.gl (by omega)⟩)
    have e3 : fe (mtks z l c q) l c = fe z l c := fe_eq (by rw [tks_k (by omega)])
    have e4 : fs (mtks z l c q) l c = pl (mf z l c) q 0 ++ pl (mf z l c) (z (25 + 8 * l + c) - (q + 1)) (q + 1) := by
      unfold fs
      rw [tks_n, show z (25 + 8 * l + c) - 1 = q + (z (25 + 8 * l + c) - (q + 1)) by omega, pl_add, Nat.zero_add]
      congr 1
      · exact pl_cg (fun i hi => by rw [Nat.zero_add]; exact tks_a (by omega) (by omega) hi)
      · refine pl_cg (fun i hi => ?_)
        show mtks z l c q (217 + 16 * (8 * l + c) + (q + i)) = z (217 + 16 * (8 * l + c) + (q + 1 + i))
        rw [tks_b (by omega) (by omega) (by omega) (by omega), show q + i + 1 = q + 1 + i by omega]
    rw [fT_cell (z := mtks z l c q) (l := l) (c := c) (by rw [k0]; exact hl) (by rw [tks_k (by omega)]; exact hc), e1, e2, e3, e4]
    unfold fup fdn
    simp only [List.append_assoc, List.cons_append]
  · unfold fdn
    rw [show z (25 + 8 * l + c) - q = (z (25 + 8 * l + c) - (q + 1)) + 1 by omega, pl_cons]
    rfl
/-- a tab is taken -/
theorem tkt_T (hz : tOK z) (hl : l < z 0) (hc : c + 1 < z (1 + l)) (hs : z (25 + 8 * l + c) + z (25 + 8 * l + (c + 1)) ≤ 16) : tOK (mclc (mgt z l (c + 1) 0 l c) l (c + 1)) ∧ fT (mclc (mgt z l (c + 1) 0 l c) l (c + 1)) = fup z l c (z (25 + 8 * l + c)) ++ (fs z l (c + 1) ++ (fe z l (c + 1) :: fpost z l (c + 1))) ∧ fdn z l c (z (25 + 8 * l + c)) = [9] ++ (fs z l (c + 1) ++ (fe z l (c + 1) :: fpost z l (c + 1))) := by
  have h24 := hz.ok.2.1
  have h8 := (hz.gl hl).2.1
  have hf : z (25 + 8 * l + c) + (z (25 + 8 * l + (c + 1)) - 0) ≤ 16 := by omega
  have y1 : mgt z l (c + 1) 0 l c (1 + l) = z (1 + l) := mgt_k (by omega)
  have k0 : mclc (mgt z l (c + 1) 0 l c) l (c + 1) 0 = z 0 := by rw [mclc_0 (by omega), mgt_0]
  have kc : mclc (mgt z l (c + 1) 0 l c) l (c + 1) (1 + l) = z (1 + l) - 1 := by rw [mclc_c (by omega), y1]
  have kl : ∀ i, i < 24 → i ≠ l → SL (mclc (mgt z l (c + 1) 0 l c) l (c + 1)) i z i := fun i hi hn => (mclc_l hn (by omega) hi (by omega) (by omega)).trans (mgt_l (by omega) (by omega) hi (by omega) (by omega) hn hn hf)
  have ka : ∀ j, j < c → SC (mclc (mgt z l (c + 1) 0 l c) l (c + 1)) l j z l j := fun j hj => (mclc_a (by omega) (by omega) (by omega) (by omega)).trans (mgt_o (by omega) (by omega) (by omega) (by omega) (by omega) (by omega) (by omega) (by omega) hf)
  have kb : ∀ j, c + 1 ≤ j → j + 1 < z (1 + l) → SC (mclc (mgt z l (c + 1) 0 l c) l (c + 1)) l j z l (j + 1) := fun j h1 h2 => (mclc_d h1 (by omega) (by omega) (by omega)).trans (mgt_o (by omega) (by omega) (by omega) (by omega) (by omega) (by omega) (by omega) (by omega) hf)
  have m1 : SC (mclc (mgt z l (c + 1) 0 l c) l (c + 1)) l c (mgt z l (c + 1) 0 l c) l c := mclc_a (by omega) (by omega) (by omega) (by omega)
  have n1 : mclc (mgt z l (c + 1) 0 l c) l (c + 1) (25 + 8 * l + c) = z (25 + 8 * l + c) + z (25 + 8 * l + (c + 1)) := by
    rw [m1.1, mgt_t (by omega) (by omega) (by omega) (by omega) (by omega), Nat.sub_zero]
  have s1 : ∀ k, k < z (25 + 8 * l + c) → mclc (mgt z l (c + 1) 0 l c) l (c + 1) (217 + 16 * (8 * l + c) + k) = z (217 + 16 * (8 * l + c) + k) := fun k hk => by
    rw [m1.2 k (by omega), mgt_ts (by omega) (by omega) (by omega) (by omega) hk (by omega)]
  have s2 : ∀ k, k < z (25 + 8 * l + (c + 1)) → mclc (mgt z l (c + 1) 0 l c) l (c + 1) (217 + 16 * (8 * l + c) + (z (25 + 8 * l + c) + k)) = z (217 + 16 * (8 * l + (c + 1)) + k) := fun k hk => by
    rw [m1.2 _ (by omega), mgt_tt (by omega) (by omega) (by omega) (by omega) (by omega) hf, Nat.zero_add]
  refine ⟨tOK_of (by rw [k0]; exact hz.ok.1) (by rw [k0]; exact h24) (mclc_b (mgt_bd hz.bd (by omega) (by omega))) (fun i hi => ?_), ?_, ?_⟩
  · rw [k0] at hi
    by_cases e : i = l
    · subst e
      refine ⟨by omega, by omega, fun j hj => ?_⟩
      rw [kc] at hj
      rcases Nat.lt_trichotomy j c with r | r | r
      · exact (ka j r).gc (hz.gc hl (by omega))
      · subst r
        refine ⟨by omega, fun k hk => ?_⟩
        rcases Nat.lt_or_ge k (z (25 + 8 * i + j)) with s | s
        · rw [s1 k s]; exact hz.sg i j k hl (by omega) s
        · have := s2 (k - z (25 + 8 * i + j)) (by omega)
          rw [show z (25 + 8 * i + j) + (k - z (25 + 8 * i + j)) = k by omega] at this
          rw [this]; exact hz.sg i (j + 1) _ hl hc (by omega)
      · exact (kb j (by omega) (by omega)).gc (hz.gc hl (by omega))
    · exact (kl i (by omega) e).gl (hz.gl hi)
  · have e1 : fpre (mclc (mgt z l (c + 1) 0 l c) l (c + 1)) l c = fpre z l c := fpre_eq (fun i hi => ⟨kl i (by omega) (by omega), hz.gl (by omega)⟩) (fun j hj => ⟨ka j hj, hz.gc hl (by omega)⟩) (by omega) (by omega)
    have e2 : fpost (mclc (mgt z l (c + 1) 0 l c) l (c + 1)) l c = fpost z l (c + 1) := fpost_eq (by omega) (fun i hi => ⟨by
      have := kb (c + 1 + i) (by omega) (by omega)
      rwa [show c + 1 + i + 1 = c + 1 + 1 + i by omega] at this, hz.gc hl (by omega)⟩) (by rw [k0]) (fun i hi => ⟨kl _ (by omega) (by omega), hz.gl (by omega)⟩)
    have e3 : fe (mclc (mgt z l (c + 1) 0 l c) l (c + 1)) l c = fe z l (c + 1) := fe_eq (by omega)
    have e4 : fs (mclc (mgt z l (c + 1) 0 l c) l (c + 1)) l c = fs z l c ++ fs z l (c + 1) := by
      unfold fs
      rw [n1, pl_add, Nat.zero_add]
      congr 1
      · exact pl_cg (fun i hi => by rw [Nat.zero_add]; exact s1 i hi)
      · refine pl_cg (fun i hi => ?_)
        rw [Nat.zero_add]
        exact s2 i hi
    rw [fT_cell (z := mclc (mgt z l (c + 1) 0 l c) l (c + 1)) (l := l) (c := c) (by rw [k0]; exact hl) (by omega), e1, e2, e3, e4]
    unfold fup fs
    simp only [List.append_assoc]
  · unfold fdn
    rw [Nat.sub_self, fpost_c hc]
    show [] ++ (fe z l c :: _) = _
    unfold fe
    rw [if_pos hc]
    rfl
/-- a line end is taken -/
theorem mte_a {k j : Nat} (h1 : 1 ≤ j) (h2 : j < k) (hk : c + k ≤ 8) (hl : l < 23) : SC (mte z l c k) l (c + j) z (l + 1) j := ⟨by simp only [va_up, ↓reduceIte, mte] <;> (repeat' split) <;> first | omega | exact congrArg z (by omega), fun k9 hk9 => by simp only [va_up, ↓reduceIte, mte] <;> (repeat' split) <;> first | omega | exact congrArg z (by omega)⟩
theorem mte_o {k i j : Nat} (h1 : i ≠ l ∨ j ≤ c ∨ c + k ≤ j) (hk : c + k ≤ 8) (hi : i < 24) (hl : l < 23) (hj : j < 8) : SC (mte z l c k) i j z i j := ⟨by simp only [va_up, ↓reduceIte, mte] <;> (repeat' split) <;> first | omega | exact congrArg z (by omega), fun k9 hk9 => by simp only [va_up, ↓reduceIte, mte] <;> (repeat' split) <;> first | omega | exact congrArg z (by omega)⟩
theorem mte_k {k i : Nat} (hi : i < 25) : mte z l c k i = z i := by simp only [va_up, ↓reduceIte, mte] <;> (repeat' split) <;> first | omega | exact congrArg z (by omega)
theorem mte_bd {k : Nat} (hb : ∀ j, z j < 1000) (j : Nat) : mte z l c k j < 1000 := by
  have h1 := hb (j + 8 - c)
  have h2 := hb (j + 128 - 16 * c)
  have h4 := hb j
  simp only [mte]
  (repeat' split) <;> omega
def tkY (z : Nat → Nat) (l c : Nat) : Nat → Nat := va_up (mte (mgt z (l + 1) 0 0 l c) l c (z (1 + (l + 1)))) (1 + l) (z (1 + l) + (z (1 + (l + 1)) - 1))
theorem tke_T (hz : tOK z) (hl : l + 1 < z 0) (hc : c + 1 = z (1 + l)) (h9 : z (1 + l) + z (1 + (l + 1)) ≤ 9) (hs : z (25 + 8 * l + c) + z (25 + 8 * (l + 1) + 0) ≤ 16) : tOK (mtke z l c) ∧ fT (mtke z l c) = fup z l c (z (25 + 8 * l + c)) ++ (fs z (l + 1) 0 ++ (fe z (l + 1) 0 :: fpost z (l + 1) 0)) ∧ fdn z l c (z (25 + 8 * l + c)) = [10] ++ (fs z (l + 1) 0 ++ (fe z (l + 1) 0 :: fpost z (l + 1) 0)) ∧ mtke z l c 0 = z 0 - 1 := by
  have h24 := hz.ok.2.1
  have hl0 : l < z 0 := by omega
  have g1 := hz.gl hl0
  have g2 := hz.gl hl
  have g3 := g2.1
  have hf : z (25 + 8 * l + c) + (z (25 + 8 * (l + 1) + 0) - 0) ≤ 16 := by omega
  have ey : mtke z l c = mcll (tkY z l c) (l + 1) := rfl
  have y0 : tkY z l c 0 = z 0 := by unfold tkY; rw [va_upN (by omega), mte_k (by omega), mgt_0]
  have yc : tkY z l c (1 + l) = z (1 + l) + (z (1 + (l + 1)) - 1) := by unfold tkY; rw [va_upS]
  have yl : ∀ i, i < 24 → i ≠ l → i ≠ l + 1 → SL (tkY z l c) i z i := fun i hi h1 h2 => by
    refine ⟨?_, fun j hj => (up_sc (by omega)).trans ((mte_o (Or.inl h1) (by omega) hi (by omega) hj).trans (mgt_o (by omega) (by omega) hi hj (by omega) (by omega) (by omega) (by omega) hf))⟩
    unfold tkY
    rw [va_upN (by omega), mte_k (by omega), mgt_k hi]
  have ya : ∀ j, j < c → SC (tkY z l c) l j z l j := fun j hj => (up_sc (by omega)).trans ((mte_o (Or.inr (Or.inl (by omega))) (by omega) (by omega) (by omega) (by omega)).trans (mgt_o (by omega) (by omega) (by omega) (by omega) (by omega) (by omega) (by omega) (by omega) hf))
  have yb : ∀ j, 1 ≤ j → j < z (1 + (l + 1)) → SC (tkY z l c) l (c + j) z (l + 1) j := fun j h1 h2 => (up_sc (by omega)).trans ((mte_a h1 h2 (by omega) (by omega)).trans (mgt_o (by omega) (by omega) (by omega) (by omega) (by omega) (by omega) (by omega) (by omega) hf))
  have ym : SC (tkY z l c) l c (mgt z (l + 1) 0 0 l c) l c := (up_sc (by omega)).trans (mte_o (Or.inr (Or.inl (by omega))) (by omega) (by omega) (by omega) (by omega))
  have x0 : mtke z l c 0 = z 0 - 1 := by rw [ey, mcll_0, y0]
  have xl : ∀ i, i ≤ l → SL (mtke z l c) i (tkY z l c) i := fun i hi => by rw [ey]; exact mcll_a (by omega) (by omega) (by omega)
  have kl : ∀ i, i < l → SL (mtke z l c) i z i := fun i hi => (xl i (by omega)).trans (yl i (by omega) (by omega) (by omega))
  have kr : ∀ i, l + 1 ≤ i → i + 1 < z 0 → SL (mtke z l c) i z (i + 1) := fun i h1 h2 => by
    have := (mcll_b (z := tkY z l c) (l := l + 1) (i := i) h1 (by omega) (by omega)).trans (yl (i + 1) (by omega) (by omega) (by omega))
    rwa [← ey] at this
  have kc : mtke z l c (1 + l) = z (1 + l) + (z (1 + (l + 1)) - 1) := (xl l (by omega)).1.trans yc
  have ka : ∀ j, j < c → SC (mtke z l c) l j z l j := fun j hj => ((xl l (by omega)).2 j (by omega)).trans (ya j hj)
  have kb : ∀ j, 1 ≤ j → j < z (1 + (l + 1)) → SC (mtke z l c) l (c + j) z (l + 1) j := fun j h1 h2 => ((xl l (by omega)).2 (c + j) (by omega)).trans (yb j h1 h2)
  have m1 : SC (mtke z l c) l c (mgt z (l + 1) 0 0 l c) l c := ((xl l (by omega)).2 c (by omega)).trans ym
  have n1 : mtke z l c (25 + 8 * l + c) = z (25 + 8 * l + c) + z (25 + 8 * (l + 1) + 0) := by
    rw [m1.1, mgt_t (by omega) (by omega) (by omega) (by omega) (by omega), Nat.sub_zero]
  have s1 : ∀ k, k < z (25 + 8 * l + c) → mtke z l c (217 + 16 * (8 * l + c) + k) = z (217 + 16 * (8 * l + c) + k) := fun k hk => by
    rw [m1.2 k (by omega), mgt_ts (by omega) (by omega) (by omega) (by omega) hk (by omega)]
  have s2 : ∀ k, k < z (25 + 8 * (l + 1) + 0) → mtke z l c (217 + 16 * (8 * l + c) + (z (25 + 8 * l + c) + k)) = z (217 + 16 * (8 * (l + 1) + 0) + k) := fun k hk => by
    rw [m1.2 _ (by omega), mgt_tt (by omega) (by omega) (by omega) (by omega) (by omega) hf, Nat.zero_add]
  have hbd : ∀ j, mtke z l c j < 1000 := by
    rw [ey]
    refine mcll_bd (fun j => ?_)
    have h1 := mte_bd (l := l) (c := c) (k := z (1 + (l + 1))) (mgt_bd (l := l + 1) (c := 0) (f := 0) (t := l) (u := c) hz.bd (by omega) (by omega)) j
    simp only [tkY, va_up]
    (repeat' split) <;> omega
  refine ⟨tOK_of (by omega) (by omega) hbd (fun i hi => ?_), ?_, ?_, x0⟩
  · rw [x0] at hi
    rcases Nat.lt_trichotomy i l with e | e | e
    · exact (kl i e).gl (hz.gl (by omega))
    · subst e
      refine ⟨by omega, by omega, fun j hj => ?_⟩
      rw [kc] at hj
      rcases Nat.lt_trichotomy j c with r | r | r
      · exact (ka j r).gc (hz.gc hl0 (by omega))
      · subst r
        refine ⟨by omega, fun k hk => ?_⟩
        rcases Nat.lt_or_ge k (z (25 + 8 * i + j)) with s | s
        · rw [s1 k s]; exact hz.sg i j k hl0 (by omega) s
        · have := s2 (k - z (25 + 8 * i + j)) (by omega)
          rw [show z (25 + 8 * i + j) + (k - z (25 + 8 * i + j)) = k by omega] at this
          rw [this]; exact hz.sg (i + 1) 0 _ hl (by omega) (by omega)
      · have := kb (j - c) (by omega) (by omega)
        rw [show c + (j - c) = j by omega] at this
        exact this.gc (hz.gc hl (by omega))
    · exact (kr i (by omega) (by omega)).gl (hz.gl (by omega))
  · have e1 : fpre (mtke z l c) l c = fpre z l c := fpre_eq (fun i hi => ⟨kl i (by omega), hz.gl (by omega)⟩) (fun j hj => ⟨ka j hj, hz.gc hl0 (by omega)⟩) (by omega) (by omega)
    have e2 : fpost (mtke z l c) l c = fpost z (l + 1) 0 := fpost_eq (by omega) (fun i hi => ⟨by
      have := kb (0 + 1 + i) (by omega) (by omega)
      rwa [show c + (0 + 1 + i) = c + 1 + i by omega] at this, hz.gc hl (by omega)⟩) (by omega) (fun i hi => ⟨by
      have := kr (l + 1 + i) (by omega) (by omega)
      rwa [show l + 1 + i + 1 = l + 1 + 1 + i by omega] at this, hz.gl (by omega)⟩)
    have e3 : fe (mtke z l c) l c = fe z (l + 1) 0 := fe_eq (by omega)
    have e4 : fs (mtke z l c) l c = fs z l c ++ fs z (l + 1) 0 := by
      unfold fs
      rw [n1, pl_add, Nat.zero_add]
      congr 1
      · exact pl_cg (fun i hi => by rw [Nat.zero_add]; exact s1 i hi)
      · refine pl_cg (fun i hi => ?_)
        rw [Nat.zero_add]
        exact s2 i hi
    rw [fT_cell (z := mtke z l c) (l := l) (c := c) (by omega) (by omega), e1, e2, e3, e4]
    unfold fup fs
    simp only [List.append_assoc]
  · unfold fdn
    rw [Nat.sub_self, fpost_l hc hl g3]
    show [] ++ (fe z l c :: _) = _
    unfold fe
    rw [if_neg (show ¬ c + 1 < z (1 + l) by omega)]
    rfl
/-- a cell's signs are set -/
def mset (z f : Nat → Nat) (l c m : Nat) : Nat → Nat := va_up (mwr z f l c m) (25 + 8 * l + c) m
theorem set_T {f : Nat → Nat} {m : Nat} (hz : tOK z) (hl : l < z 0) (hc : c < z (1 + l)) (hm : m ≤ 16) (hf : ∀ k, k < m → 32 ≤ f k ∧ f k < 1000) : tOK (mset z f l c m) ∧ fT (mset z f l c m) = fpre z l c ++ (pl f m 0 ++ (fe z l c :: fpost z l c)) := by
  have h24 := hz.ok.2.1
  have h8 := (hz.gl hl).2.1
  have k0 : mset z f l c m 0 = z 0 := by simp only [va_up, ↓reduceIte, mset, mwr] <;> (repeat' split) <;> first | omega | exact congrArg z (by omega)
  have kk : ∀ i, i < 24 → mset z f l c m (1 + i) = z (1 + i) := fun i hi => by simp only [va_up, ↓reduceIte, mset, mwr] <;> (repeat' split) <;> first | omega | exact congrArg z (by omega)
  have ko : ∀ i j, i < 24 → j < 8 → 8 * i + j ≠ 8 * l + c → SC (mset z f l c m) i j z i j := fun i j hi hj h1 => ⟨by simp only [va_up, ↓reduceIte, mset, mwr] <;> (repeat' split) <;> first | omega | exact congrArg z (by omega), fun k9 hk9 => by simp only [va_up, ↓reduceIte, mset, mwr] <;> (repeat' split) <;> first | omega | exact congrArg z (by omega)⟩
  have kl : ∀ i, i < 24 → i ≠ l → SL (mset z f l c m) i z i := fun i hi hn => ⟨kk i hi, fun j hj => ko i j hi hj (by omega)⟩
  have n1 : mset z f l c m (25 + 8 * l + c) = m := by unfold mset; rw [va_upS]
  have s1 : ∀ k, k < m → mset z f l c m (217 + 16 * (8 * l + c) + k) = f k := fun k hk => by
    unfold mset
    rw [va_upN (by omega)]
    unfold mwr
    rw [if_pos (by omega)]
    exact congrArg f (by omega)
  refine ⟨tOK_of (by rw [k0]; exact hz.ok.1) (by rw [k0]; exact h24) (fun j => ?_) (fun i hi => ?_), ?_⟩
  · have h4 := hz.bd j
    simp only [mset, mwr, va_up]
    split
    · omega
    · split
      · exact (hf _ (by omega)).2
      · exact h4
  · rw [k0] at hi
    by_cases e : i = l
    · subst e
      refine ⟨by rw [kk i (by omega)]; exact (hz.gl hl).1, by rw [kk i (by omega)]; exact h8, fun j hj => ?_⟩
      rw [kk i (by omega)] at hj
      by_cases e2 : j = c
      · subst e2
        refine ⟨by omega, fun k hk => ?_⟩
        rw [n1] at hk
        rw [s1 k hk]; exact (hf k hk).1
      · exact (ko _ _ (by omega) (by omega) (by omega)).gc (hz.gc hl hj)
    · exact (kl i (by omega) e).gl (hz.gl hi)
  · have e1 : fpre (mset z f l c m) l c = fpre z l c := fpre_eq (fun i hi => ⟨kl i (by omega) (by omega), hz.gl (by omega)⟩) (fun j hj => ⟨ko _ _ (by omega) (by omega) (by omega), hz.gc hl (by omega)⟩) (by rw [kk l (by omega)]; exact hc) hc
    have e2 : fpost (mset z f l c m) l c = fpost z l c := fpost_eq (by rw [kk l (by omega)]) (fun i hi => ⟨ko _ _ (by omega) (by omega) (by omega), hz.gc hl (by omega)⟩) (by rw [k0]) (fun i hi => ⟨kl _ (by omega) (by omega), hz.gl (by omega)⟩)
    have e3 : fe (mset z f l c m) l c = fe z l c := fe_eq (by rw [kk l (by omega)])
    rw [fT_cell (z := mset z f l c m) (l := l) (c := c) (by rw [k0]; exact hl) (by rw [kk l (by omega)]; exact hc), e1, e2, e3, fs_of n1 s1]
/-- a line is removed -/
theorem cll_T (hz : tOK z) (hl : l < z 0) (h1 : 1 < z 0) : tOK (mcll z l) ∧ fT (mcll z l) = fm (fL z) l 0 ++ fm (fL z) (z 0 - (l + 1)) (l + 1) := by
  have h24 := hz.ok.2.1
  refine ⟨tOK_of (by rw [mcll_0]; omega) (by rw [mcll_0]; omega) (mcll_bd hz.bd) (fun i hi => ?_), ?_⟩
  · rw [mcll_0] at hi
    rcases Nat.lt_or_ge i l with e | e
    · exact (mcll_a e hl h24).gl (hz.gl (by omega))
    · exact (mcll_b e (by omega) h24).gl (hz.gl (by omega))
  · unfold fT
    rw [mcll_0, show z 0 - 1 = l + (z 0 - (l + 1)) by omega, fm_add, Nat.zero_add]
    congr 1
    · exact fm_cg _ _ _ (fun i hi => by rw [Nat.zero_add]; exact (mcll_a hi hl h24).fL_eq (hz.gl (by omega)))
    · refine fm_cg _ _ _ (fun i hi => ?_)
      have := (mcll_b (z := z) (l := l) (i := l + i) (by omega) (by omega) h24).fL_eq (hz.gl (by omega))
      rw [this, show l + i + 1 = l + 1 + i by omega]
/-- a line is opened -/
theorem opl_T (hz : tOK z) (hl : l ≤ z 0) (h24 : z 0 < 24) : tOK (mopl z l) ∧ fpre (mopl z l) l 0 = fm (fL z) l 0 ∧ fm (fL (mopl z l)) (mopl z l 0 - (l + 1)) (l + 1) = fm (fL z) (z 0 - l) l := by
  have h0 : mopl z l 0 = z 0 + 1 := mopl_0
  refine ⟨tOK_of (by rw [h0]; omega) (by rw [h0]; omega) (mopl_bd hz.bd (by omega)) (fun i hi => ?_), ?_, ?_⟩
  · rw [h0] at hi
    rcases Nat.lt_trichotomy i l with e | e | e
    · exact (mopl_a e hl h24).gl (hz.gl (by omega))
    · subst e
      have r := mopl_n (z := z) hl h24
      refine ⟨by omega, by omega, fun j hj => ?_⟩
      have : j = 0 := by omega
      subst this
      exact ⟨by omega, fun k hk => absurd hk (by omega)⟩
    · have := mopl_b (z := z) (l := l) (i := i - 1) (by omega) (by omega) h24
      rw [show i - 1 + 1 = i by omega] at this
      exact this.gl (hz.gl (by omega))
  · unfold fpre
    show fm (fL (mopl z l)) l 0 ++ [] = _
    rw [List.append_nil]
    exact fm_cg _ _ _ (fun i hi => by rw [Nat.zero_add]; exact (mopl_a hi hl h24).fL_eq (hz.gl (by omega)))
  · rw [h0, show z 0 + 1 - (l + 1) = z 0 - l by omega]
    refine fm_cg _ _ _ (fun i hi => ?_)
    have := (mopl_b (z := z) (l := l) (i := l + i) (by omega) (by omega) h24).fL_eq (hz.gl (by omega))
    rw [← this, show l + i + 1 = l + 1 + i by omega]
end p6
