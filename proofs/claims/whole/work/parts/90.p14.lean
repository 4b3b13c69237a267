section p14
variable {z u : Nat → Nat} {c f t sz : Nat} {Z O : Nat → Nat}
/-! sorted lines -/
theorem sort_T (bh : Nat → Nat → Prop) [∀ a b, Decidable (bh a b)] {o0 : Nat → Nat} {m : Nat} (hz : tOK z) (hfm : f + m ≤ z 0) (hu : ∀ j, j < 3289 → u j = z j) (hO : oK (z 0) O (mOrd bh f o0 m) f m) : tOK (mTk z u (mOrd bh f o0 m) f m) ∧ fT (mTk z u (mOrd bh f o0 m) f m) = oT z O (z 0) ∧ (∀ i, i < z 0 → O i < z 0) ∧ vS (oMd O) (z 0) = mMv (mOrd bh f o0 m) f m := by
  have hin : ∀ k, k < m → mOrd bh f o0 m k < z 0 := fun k hk => by
    have := mOrd_in bh f o0 m k hk
    omega
  obtain ⟨r1, r2, r3, r4⟩ := mTk_T hz hfm hu hin m (Nat.le_refl _)
  have hOr : ∀ i, i < z 0 → O i < z 0 := fun i hi => by
    by_cases e : i < f ∨ f + m ≤ i
    · rw [hO.2 i hi e]; exact hi
    · have := hO.1 (i - f) (by omega)
      rw [show f + (i - f) = i by omega] at this
      rw [this]
      exact hin _ (by omega)
  have hs : ∀ i, i < z 0 → SL (mTk z u (mOrd bh f o0 m) f m) i z (O i) := fun i hi => by
    by_cases e : i < f ∨ f + m ≤ i
    · rw [hO.2 i hi e]; exact r3 i hi e
    · have q := hO.1 (i - f) (by omega)
      rw [show f + (i - f) = i by omega] at q
      have s := r4 (i - f) (by omega)
      rw [show f + (i - f) = i by omega] at s
      rw [q]; exact s
  exact ⟨tOK_or hz r1 hOr hs r2, fT_or hz r1 hOr hs, hOr, oK_mv hO hfm⟩
/-! a column is put in -/
def PC (z y : Nat → Nat) (c l : Nat) : Prop := y (1 + l) = z (1 + l) + 1 ∧ (∀ i, i < c → SC y l i z l i) ∧ y (25 + 8 * l + c) = 0 ∧ ∀ i, c ≤ i → i < z (1 + l) → SC y l (i + 1) z l i
theorem PC.sl {y y' : Nat → Nat} {l : Nat} (q : PC z y c l) (h8 : z (1 + l) < 8) (hc : c < 8) (s : SL y' l y l) : PC z y' c l := by
  obtain ⟨q1, q2, q3, q4⟩ := q
  exact ⟨s.1.trans q1, fun i hi => (s.2 i (by omega)).trans (q2 i hi), (s.2 c hc).1.trans q3, fun i h1 h2 => (s.2 (i + 1) (by omega)).trans (q4 i h1 h2)⟩
theorem opc_F {m : Nat} (hz : tOK z) (hfm : f + m ≤ z 0) (hr : ∀ l, f ≤ l → l < f + m → c + 1 < z (1 + l) ∧ z (1 + l) < 8) : ∀ k, k ≤ m → mOpcs z c f k 0 = z 0 ∧ (∀ j, mOpcs z c f k j < 1000) ∧ (∀ i, i < z 0 → i < f ∨ f + k ≤ i → SL (mOpcs z c f k) i z i) ∧ ∀ i, i < k → PC z (mOpcs z c f k) c (f + i)
  | 0, _ => ⟨rfl, hz.bd, fun i _ _ => SL.rfl, fun i hi => absurd hi (by omega)⟩
  | k + 1, hk => by
    have h24 := hz.ok.2.1
    obtain ⟨r1, r2, r3, r4⟩ := opc_F hz hfm hr k (by omega)
    have hl := hr (f + k) (by omega) (by omega)
    have s0 := r3 (f + k) (by omega) (by omega)
    have n0 : mOpcs z c f k (1 + (f + k)) = z (1 + (f + k)) := s0.1
    refine ⟨?_, ?_, fun i hi hn => ?_, fun i hi => ?_⟩
    · show mopc (mOpcs z c f k) (f + k) c 0 = z 0
      rw [mopc_0, r1]
    · exact mopc_bd r2 (by omega)
    · exact (mopc_l (by omega) (by omega) (by omega) (by omega) (by omega)).trans (r3 i hi (by omega))
    · by_cases e : i = k
      · subst e
        refine ⟨?_, fun j hj => ?_, ?_, fun j h1 h2 => ?_⟩
        · show mopc (mOpcs z c f i) (f + i) c (1 + (f + i)) = _
          rw [mopc_c, n0]
        · exact (mopc_a hj (by omega) (by omega) (by omega)).trans (s0.2 j (by omega))
        · exact mopc_n (by omega) (by omega) (by omega)
        · exact (mopc_b h1 (by omega) (by omega) (by omega)).trans (s0.2 j (by omega))
      · have q := r4 i (by omega)
        have h9 := hr (f + i) (by omega) (by omega)
        exact q.sl h9.2 (by omega) (mopc_l (by omega) (by omega) (by omega) (by omega) (by omega))
def fG (z : Nat → Nat) (c l : Nat) : List Nat := fm (fc z l) c 0 ++ (9 :: fm (fc z l) (z (1 + l) - c) c)
theorem PC.gl {y : Nat → Nat} {l : Nat} (q : PC z y c l) (g : GL z l) (hc : c + 1 < z (1 + l)) (h8 : z (1 + l) < 8) : GL y l ∧ fL y l = fG z c l := by
  obtain ⟨q1, q2, q3, q4⟩ := q
  refine ⟨⟨by omega, by omega, fun j hj => ?_⟩, ?_⟩
  · rcases Nat.lt_trichotomy j c with r | r | r
    · exact (q2 j r).gc (g.2.2 j (by omega))
    · subst r; exact ⟨by omega, fun k hk => absurd hk (by omega)⟩
    · have s := q4 (j - 1) (by omega) (by omega)
      rw [show j - 1 + 1 = j by omega] at s
      exact s.gc (g.2.2 (j - 1) (by omega))
  · rw [fL_at (show c < y (1 + l) by omega)]
    unfold fG
    have e1 : fm (fc y l) c 0 = fm (fc z l) c 0 := fm_cg _ _ _ (fun i hi => by
      rw [Nat.zero_add]
      unfold fc fe
      rw [(q2 i hi).fs_eq (g.2.2 i (by omega)).1, if_pos (by omega), if_pos (by omega)])
    have e2 : fc y l c = [9] := by
      unfold fc fe fs
      rw [q3, if_pos (by omega)]
      rfl
    have e3 : fm (fc y l) (y (1 + l) - (c + 1)) (c + 1) = fm (fc z l) (z (1 + l) - c) c := by
      rw [show y (1 + l) - (c + 1) = z (1 + l) - c by omega]
      refine fm_cg _ _ _ (fun i hi => ?_)
      have s := q4 (c + i) (by omega) (by omega)
      rw [show c + i + 1 = c + 1 + i by omega] at s
      unfold fc fe
      rw [s.fs_eq (g.2.2 (c + i) (by omega)).1]
      by_cases e : c + i + 1 < z (1 + l)
      · rw [if_pos (by omega), if_pos e]
      · rw [if_neg (by omega), if_neg e]
    rw [e1, e2, e3]
    rfl
theorem fL_c {l : Nat} (hc : c ≤ z (1 + l)) : fL z l = fm (fc z l) c 0 ++ fm (fc z l) (z (1 + l) - c) c := by
  unfold fL
  rw [show fm (fc z l) (z (1 + l)) 0 = fm (fc z l) (c + (z (1 + l) - c)) 0 from congrArg (fun n => fm (fc z l) n 0) (by omega), fm_add, Nat.zero_add]
theorem opc_T {m : Nat} (hz : tOK z) (hfm : f + m ≤ z 0) (hr : ∀ l, f ≤ l → l < f + m → c + 1 < z (1 + l) ∧ z (1 + l) < 8) : tOK (mOpcs z c f m) ∧ fT (mOpcs z c f m) = fm (fL z) f 0 ++ (fm (fG z c) m f ++ fm (fL z) (z 0 - (f + m)) (f + m)) := by
  obtain ⟨r1, r2, r3, r4⟩ := opc_F hz hfm hr m (Nat.le_refl _)
  have k : ∀ i, i < m → GL (mOpcs z c f m) (f + i) ∧ fL (mOpcs z c f m) (f + i) = fG z c (f + i) := fun i hi => (r4 i hi).gl (hz.gl (by omega)) (hr _ (by omega) (by omega)).1 (hr _ (by omega) (by omega)).2
  refine ⟨tOK_of (by rw [r1]; exact hz.ok.1) (by rw [r1]; exact hz.ok.2.1) r2 (fun i hi => ?_), ?_⟩
  · rw [r1] at hi
    by_cases e : i < f ∨ f + m ≤ i
    · exact (r3 i hi e).gl (hz.gl hi)
    · have := (k (i - f) (by omega)).1
      rwa [show f + (i - f) = i by omega] at this
  · unfold fT
    rw [r1, show z 0 = f + (m + (z 0 - (f + m))) by omega, fm_add, fm_add, Nat.zero_add, show f + (m + (z 0 - (f + m))) - (f + m) = z 0 - (f + m) by omega]
    congr 1
    · exact fm_cg _ _ _ (fun i hi => by rw [Nat.zero_add]; exact (r3 i (by omega) (by omega)).fL_eq (hz.gl (by omega)))
    · congr 1
      · exact fm_cg _ _ _ (fun i hi => (k i hi).2)
      · exact fm_cg _ _ _ (fun i hi => (r3 _ (by omega) (by omega)).fL_eq (hz.gl (by omega)))
theorem fup_c {l : Nat} : (fm (fL z) l 0 ++ fm (fc z l) c 0).length = CS z l c := fpre_len l c
/-- one line of the class's loop: from the last one on -/
theorem ic_s {Zk : Nat → Nat} {sk k t : Nat} {Y : List Nat} (hc : c ≤ z (1 + k)) (hkt : k ≤ t) (h : PL Zk sk (fm (fL z) (k + 1) 0 ++ (fm (fG z c) (t - k) (k + 1) ++ Y))) (hs : CS z k c ≤ sk) : PL (va_up (va_cpy Zk Zk (CS z k c) (CS z k c + 1) (sk - CS z k c)) (CS z k c) 9) (sk + 1) (fm (fL z) k 0 ++ (fm (fG z c) (t + 1 - k) k ++ Y)) := by
  have e1 : fm (fL z) (k + 1) 0 ++ (fm (fG z c) (t - k) (k + 1) ++ Y) = (fm (fL z) k 0 ++ fm (fc z k) c 0) ++ (fm (fc z k) (z (1 + k) - c) c ++ (fm (fG z c) (t - k) (k + 1) ++ Y)) := by
    rw [fm_snoc, Nat.zero_add, fL_c hc]
    simp only [List.append_assoc]
  have e2 : fm (fL z) k 0 ++ (fm (fG z c) (t + 1 - k) k ++ Y) = (fm (fL z) k 0 ++ fm (fc z k) c 0) ++ 9 :: (fm (fc z k) (z (1 + k) - c) c ++ (fm (fG z c) (t - k) (k + 1) ++ Y)) := by
    rw [show t + 1 - k = (t - k) + 1 by omega]
    show _ ++ ((fG z c k ++ fm (fG z c) (t - k) (k + 1)) ++ Y) = _
    unfold fG
    simp only [List.append_assoc, List.cons_append]
  rw [e1] at h
  rw [e2]
  exact h.put fup_c hs
theorem ic_le {Zk : Nat → Nat} {sk k n : Nat} {Y : List Nat} (hk : k < n) (hc : c < z (1 + k)) (h : PL Zk sk (fm (fL z) n 0 ++ Y)) (hy : n = k + 1) : CS z k c ≤ sk := by
  subst hy
  have := h.len
  rw [fm_snoc, Nat.zero_add, fL_at hc, List.length_append, List.length_append, List.length_append, List.length_append] at this
  have e := fup_c (z := z) (c := c) (l := k)
  rw [List.length_append] at e
  have e2 := fc_len (z := z) k c
  omega
/-! a column is taken out -/
def PD (z y : Nat → Nat) (c l : Nat) : Prop := y (1 + l) = z (1 + l) - 1 ∧ (∀ i, i < c → SC y l i z l i) ∧ ∀ i, c ≤ i → i + 1 < z (1 + l) → SC y l i z l (i + 1)
theorem PD.sl {y y' : Nat → Nat} {l : Nat} (q : PD z y c l) (h8 : z (1 + l) ≤ 8) (hc : c < 8) (s : SL y' l y l) : PD z y' c l := by
  obtain ⟨q1, q2, q4⟩ := q
  exact ⟨s.1.trans q1, fun i hi => (s.2 i (by omega)).trans (q2 i hi), fun i h1 h2 => (s.2 i (by omega)).trans (q4 i h1 h2)⟩
theorem clc_F {m : Nat} (hz : tOK z) (hfm : f + m ≤ z 0) (hr : ∀ l, f ≤ l → l < f + m → c + 1 < z (1 + l)) : ∀ k, k ≤ m → mClcs z c f k 0 = z 0 ∧ (∀ i, i < z 0 → i < f ∨ f + k ≤ i → SL (mClcs z c f k) i z i) ∧ ∀ i, i < k → PD z (mClcs z c f k) c (f + i)
  | 0, _ => ⟨rfl, fun i _ _ => SL.rfl, fun i hi => absurd hi (by omega)⟩
  | k + 1, hk => by
    have h24 := hz.ok.2.1
    obtain ⟨r1, r3, r4⟩ := clc_F hz hfm hr k (by omega)
    have hl := hr (f + k) (by omega) (by omega)
    have h8 := (hz.gl (show f + k < z 0 by omega)).2.1
    have s0 := r3 (f + k) (by omega) (by omega)
    have n0 : mClcs z c f k (1 + (f + k)) = z (1 + (f + k)) := s0.1
    refine ⟨?_, fun i hi hn => ?_, fun i hi => ?_⟩
    · show mclc (mClcs z c f k) (f + k) c 0 = z 0
      rw [mclc_0 (by omega), r1]
    · exact (mclc_l (by omega) (by omega) (by omega) (by omega) (by omega)).trans (r3 i hi (by omega))
    · by_cases e : i = k
      · subst e
        refine ⟨?_, fun j hj => ?_, fun j h1 h2 => ?_⟩
        · show mclc (mClcs z c f i) (f + i) c (1 + (f + i)) = _
          rw [mclc_c (by omega), n0]
        · exact (mclc_a hj (by omega) (by omega) (by omega)).trans (s0.2 j (by omega))
        · exact (mclc_d h1 (by omega) (by omega) (by omega)).trans (s0.2 (j + 1) (by omega))
      · have q := r4 i (by omega)
        have h9 := hr (f + i) (by omega) (by omega)
        have h8i := (hz.gl (show f + i < z 0 by omega)).2.1
        exact q.sl h8i (by omega) (mclc_l (by omega) (by omega) (by omega) (by omega) (by omega))
def fH (z : Nat → Nat) (c l : Nat) : List Nat := fm (fc z l) c 0 ++ fm (fc z l) (z (1 + l) - (c + 1)) (c + 1)
theorem PD.gl {y : Nat → Nat} {l : Nat} (q : PD z y c l) (g : GL z l) (hc : c + 1 < z (1 + l)) : GL y l ∧ fL y l = fH z c l := by
  obtain ⟨q1, q2, q4⟩ := q
  have h8 := g.2.1
  refine ⟨⟨by omega, by omega, fun j hj => ?_⟩, ?_⟩
  · rcases Nat.lt_or_ge j c with r | r
    · exact (q2 j r).gc (g.2.2 j (by omega))
    · exact (q4 j r (by omega)).gc (g.2.2 (j + 1) (by omega))
  · rw [fL_c (show c ≤ y (1 + l) by omega)]
    unfold fH
    congr 1
    · exact fm_cg _ _ _ (fun i hi => by
        rw [Nat.zero_add]
        unfold fc fe
        rw [(q2 i hi).fs_eq (g.2.2 i (by omega)).1, if_pos (by omega), if_pos (by omega)])
    · rw [show y (1 + l) - c = z (1 + l) - (c + 1) by omega]
      refine fm_cg _ _ _ (fun i hi => ?_)
      have s := q4 (c + i) (by omega) (by omega)
      rw [show c + i + 1 = c + 1 + i by omega] at s
      unfold fc fe
      rw [s.fs_eq (g.2.2 (c + 1 + i) (by omega)).1]
      by_cases e : c + 1 + i + 1 < z (1 + l)
      · rw [if_pos (by omega), if_pos e]
      · rw [if_neg (by omega), if_neg e]
theorem clc_T {m : Nat} (hz : tOK z) (hfm : f + m ≤ z 0) (hr : ∀ l, f ≤ l → l < f + m → c + 1 < z (1 + l)) : tOK (mClcs z c f m) ∧ fT (mClcs z c f m) = fm (fL z) f 0 ++ (fm (fH z c) m f ++ fm (fL z) (z 0 - (f + m)) (f + m)) := by
  obtain ⟨r1, r3, r4⟩ := clc_F hz hfm hr m (Nat.le_refl _)
  have k : ∀ i, i < m → GL (mClcs z c f m) (f + i) ∧ fL (mClcs z c f m) (f + i) = fH z c (f + i) := fun i hi => (r4 i hi).gl (hz.gl (by omega)) (hr _ (by omega) (by omega))
  refine ⟨tOK_of (by rw [r1]; exact hz.ok.1) (by rw [r1]; exact hz.ok.2.1) (mClcs_b hz.bd m) (fun i hi => ?_), ?_⟩
  · rw [r1] at hi
    by_cases e : i < f ∨ f + m ≤ i
    · exact (r3 i hi e).gl (hz.gl hi)
    · have := (k (i - f) (by omega)).1
      rwa [show f + (i - f) = i by omega] at this
  · unfold fT
    rw [r1, show z 0 = f + (m + (z 0 - (f + m))) by omega, fm_add, fm_add, Nat.zero_add, show f + (m + (z 0 - (f + m))) - (f + m) = z 0 - (f + m) by omega]
    congr 1
    · exact fm_cg _ _ _ (fun i hi => by rw [Nat.zero_add]; exact (r3 i (by omega) (by omega)).fL_eq (hz.gl (by omega)))
    · congr 1
      · exact fm_cg _ _ _ (fun i hi => (k i hi).2)
      · exact fm_cg _ _ _ (fun i hi => (r3 _ (by omega) (by omega)).fL_eq (hz.gl (by omega)))
theorem rc_s {Zk : Nat → Nat} {sk k t : Nat} {Y : List Nat} (hc : c + 1 < z (1 + k)) (hkt : k ≤ t) (h : PL Zk sk (fm (fL z) (k + 1) 0 ++ (fm (fH z c) (t - k) (k + 1) ++ Y))) : CS z k c + (z (25 + 8 * k + c) + 1) ≤ sk ∧ PL (va_cpy Zk Zk (CS z k c + (z (25 + 8 * k + c) + 1)) (CS z k c) (sk - CS z k c - (z (25 + 8 * k + c) + 1))) (sk - (z (25 + 8 * k + c) + 1)) (fm (fL z) k 0 ++ (fm (fH z c) (t + 1 - k) k ++ Y)) := by
  have e1 : fm (fL z) (k + 1) 0 ++ (fm (fH z c) (t - k) (k + 1) ++ Y) = (fm (fL z) k 0 ++ fm (fc z k) c 0) ++ (fc z k c ++ (fm (fc z k) (z (1 + k) - (c + 1)) (c + 1) ++ (fm (fH z c) (t - k) (k + 1) ++ Y))) := by
    rw [fm_snoc, Nat.zero_add, fL_at (show c < z (1 + k) by omega)]
    simp only [List.append_assoc]
  have e2 : fm (fL z) k 0 ++ (fm (fH z c) (t + 1 - k) k ++ Y) = (fm (fL z) k 0 ++ fm (fc z k) c 0) ++ (fm (fc z k) (z (1 + k) - (c + 1)) (c + 1) ++ (fm (fH z c) (t - k) (k + 1) ++ Y)) := by
    rw [show t + 1 - k = (t - k) + 1 by omega]
    show _ ++ ((fH z c k ++ fm (fH z c) (t - k) (k + 1)) ++ Y) = _
    unfold fH
    simp only [List.append_assoc]
  rw [e1] at h
  have hle := h.len
  rw [List.length_append, fup_c, List.length_append, fc_len, List.length_append] at hle
  have h1 : 1 ≤ (fm (fc z k) (z (1 + k) - (c + 1)) (c + 1)).length := by
    obtain ⟨n, hn⟩ : ∃ n, z (1 + k) - (c + 1) = n + 1 := ⟨z (1 + k) - (c + 1) - 1, by omega⟩
    rw [hn]
    show 1 ≤ (fc z k (c + 1) ++ fm (fc z k) n (c + 1 + 1)).length
    rw [List.length_append, fc_len]
    omega
  refine ⟨by omega, ?_⟩
  rw [e2]
  exact h.cut fup_c (fc_len k c) (by omega)
/-- how many of a column's cells are not blank -/
def cNb (z : Nat → Nat) (c l : Nat) : Nat := if mK z c l = 0 then 0 else 1
def dS (g : Nat → Nat) : Nat → Nat → Nat
  | 0, _ => 0
  | n + 1, a => g a + dS g n (a + 1)
theorem dS_snoc (g : Nat → Nat) : ∀ n a, dS g (n + 1) a = dS g n a + g (a + n)
  | 0, a => by show g a + 0 = 0 + g a; omega
  | n + 1, a => by
    show g a + dS g (n + 1) (a + 1) = (g a + dS g n (a + 1)) + g (a + (n + 1))
    rw [dS_snoc g n (a + 1), show a + 1 + n = a + (n + 1) by omega]
    omega
theorem dS_le {g : Nat → Nat} (hg : ∀ i, g i ≤ 1) : ∀ n a, dS g n a ≤ n
  | 0, a => Nat.le_refl _
  | n + 1, a => by
    have := dS_le hg n (a + 1)
    have := hg a
    simp only [dS]
    omega
theorem cNb_le (z : Nat → Nat) (c l : Nat) : cNb z c l ≤ 1 := by unfold cNb; split <;> omega
theorem mRc_T {m : Nat} (hz : tOK z) (hfm : f + m ≤ z 0) (hr : ∀ l, f ≤ l → l < f + m → c + 1 < z (1 + l)) : ∀ k, k ≤ m → mRc z c f k = dS (cNb z c) k f
  | 0, _ => rfl
  | k + 1, hk => by
    obtain ⟨-, r3, -⟩ := clc_F hz hfm hr k (by omega)
    have hl := hr (f + k) (by omega) (by omega)
    have h8 := (hz.gl (show f + k < z 0 by omega)).2.1
    have s := (r3 (f + k) (by omega) (by omega)).2 c (by omega)
    have h16 := ((hz.gl (show f + k < z 0 by omega)).2.2 c (by omega)).1
    rw [dS_snoc, ← mRc_T hz hfm hr k (by omega)]
    show mRc z c f k + (if sBlank (mf (mClcs z c f k) (f + k) c) (mClcs z c f k (25 + 8 * (f + k) + c)) then 0 else 1) = _
    rw [s.1]
    have e : sBlank (mf (mClcs z c f k) (f + k) c) (z (25 + 8 * (f + k) + c)) ↔ mK z c (f + k) = 0 := by
      rw [sBlank_cg (f' := mf z (f + k) c) (fun i hi => s.2 i (by omega))]
      unfold mK skind
      by_cases b : sBlank (mf z (f + k) c) (z (25 + 8 * (f + k) + c))
      · rw [if_pos b]; exact ⟨fun _ => rfl, fun _ => b⟩
      · rw [if_neg b]
        exact ⟨fun q => absurd q b, fun q => by split at q <;> omega⟩
    unfold cNb
    by_cases b : mK z c (f + k) = 0
    · rw [if_pos b, if_pos (e.mpr b)]
    · rw [if_neg b, if_neg (fun q => b (e.mp q))]
end p14
