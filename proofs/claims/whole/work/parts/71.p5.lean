section p5
variable {z : Nat → Nat} {l c q : Nat}
/-! what is typed and what is erased -/
theorem fs_q (hq : q ≤ z (25 + 8 * l + c)) : fs z l c = pl (mf z l c) q 0 ++ pl (mf z l c) (z (25 + 8 * l + c) - q) q := by
  unfold fs
  have e : z (25 + 8 * l + c) = q + (z (25 + 8 * l + c) - q) := by omega
  rw [show pl (mf z l c) (z (25 + 8 * l + c)) 0 = pl (mf z l c) (q + (z (25 + 8 * l + c) - q)) 0 from congrArg (fun n => pl (mf z l c) n 0) e, pl_add, Nat.zero_add]
/-- the text up to a place -/
def fup (z : Nat → Nat) (l c q : Nat) : List Nat := fpre z l c ++ pl (mf z l c) q 0
theorem fup_len : (fup z l c q).length = CS z l c + q := by unfold fup; rw [List.length_append, fpre_len, pl_len]
def fdn (z : Nat → Nat) (l c q : Nat) : List Nat := pl (mf z l c) (z (25 + 8 * l + c) - q) q ++ (fe z l c :: fpost z l c)
theorem fT_q (hl : l < z 0) (hc : c < z (1 + l)) (hq : q ≤ z (25 + 8 * l + c)) : fT z = fup z l c q ++ fdn z l c q := by
  rw [fT_cell hl hc, fs_q hq]
  unfold fup fdn
  simp only [List.append_assoc]
theorem fs_of {z' : Nat → Nat} {l' c' n : Nat} {f : Nat → Nat} (hn : z' (25 + 8 * l' + c') = n) (hf : ∀ k, k < n → z' (217 + 16 * (8 * l' + c') + k) = f k) : fs z' l' c' = pl f n 0 := by
  unfold fs
  rw [hn]
  refine pl_cg (fun i hi => ?_)
  rw [Nat.zero_add]
  exact hf i hi
/-- a sign -/
theorem psg_0 {v : Nat} (hl : l < 24) : mpsg z l c q v 0 = z 0 := by simp only [va_up, ↓reduceIte, mpsg, mshs] <;> (repeat' split) <;> first | omega | exact congrArg z (by omega)
theorem psg_k {v i : Nat} (hi : i < 24) : mpsg z l c q v (1 + i) = z (1 + i) := by simp only [va_up, ↓reduceIte, mpsg, mshs] <;> (repeat' split) <;> first | omega | exact congrArg z (by omega)
theorem psg_o {v i j : Nat} (hl : l < 24) (hi : i < 24) (hj : j < 8) (hc : c < 8) (h16 : z (25 + 8 * l + c) < 16) (hq : q ≤ z (25 + 8 * l + c)) (h1 : 8 * i + j ≠ 8 * l + c) : SC (mpsg z l c q v) i j z i j := ⟨by simp only [va_up, ↓reduceIte, mpsg, mshs] <;> (repeat' split) <;> first | omega | exact congrArg z (by omega), fun k9 hk9 => by simp only [va_up, ↓reduceIte, mpsg, mshs] <;> (repeat' split) <;> first | omega | exact congrArg z (by omega)⟩
theorem psg_n {v : Nat} : mpsg z l c q v (25 + 8 * l + c) = z (25 + 8 * l + c) + 1 := by simp only [va_up, ↓reduceIte, mpsg, mshs] <;> (repeat' split) <;> first | omega | exact congrArg z (by omega)
theorem psg_a {v k : Nat} (hl : l < 24) (hc : c < 8) (hk : k < q) (hq : q ≤ z (25 + 8 * l + c)) : mpsg z l c q v (217 + 16 * (8 * l + c) + k) = z (217 + 16 * (8 * l + c) + k) := by simp only [va_up, ↓reduceIte, mpsg, mshs] <;> (repeat' split) <;> first | omega | exact congrArg z (by omega)
theorem psg_v {v : Nat} (hl : l < 24) (hc : c < 8) : mpsg z l c q v (217 + 16 * (8 * l + c) + q) = v := by simp only [va_up, ↓reduceIte, mpsg, mshs] <;> (repeat' split) <;> first | omega | exact congrArg z (by omega)
theorem psg_b {v k : Nat} (hl : l < 24) (hc : c < 8) (hk : q < k) (hk2 : k ≤ z (25 + 8 * l + c)) : mpsg z l c q v (217 + 16 * (8 * l + c) + k) = z (217 + 16 * (8 * l + c) + (k - 1)) := by simp only [va_up, ↓reduceIte, mpsg, mshs] <;> (repeat' split) <;> first | omega | exact congrArg z (by omega)
theorem psg_bd {v : Nat} (hb : ∀ j, z j < 1000) (h16 : z (25 + 8 * l + c) ≤ 16) (hv : v < 1000) (j : Nat) : mpsg z l c q v j < 1000 := by
  have h1 := hb (j - 1)
  have h4 := hb j
  simp only [mpsg, mshs, va_up]
  (repeat' split) <;> omega
theorem psg_T {v : Nat} (hz : tOK z) (hl : l < z 0) (hc : c < z (1 + l)) (hq : q ≤ z (25 + 8 * l + c)) (h16 : z (25 + 8 * l + c) < 16) (h32 : 32 ≤ v) (hv : v < 1000) : tOK (mpsg z l c q v) ∧ fT (mpsg z l c q v) = fup z l c q ++ v :: fdn z l c q := by
  have h24 := hz.ok.2.1
  have h8 := (hz.gl hl).2.1
  have k0 := psg_0 (z := z) (l := l) (c := c) (q := q) (v := v) (by omega)
  have kl : ∀ i, i < 24 → i ≠ l → SL (mpsg z l c q v) i z i := fun i hi hn => ⟨psg_k hi, fun j hj => psg_o (by omega) hi hj (by omega) h16 hq (by omega)⟩
  refine ⟨tOK_of (by rw [k0]; exact hz.ok.1) (by rw [k0]; exact h24) (psg_bd hz.bd (by omega) hv) (fun i hi => ?_), ?_⟩
  · rw [k0] at hi
    by_cases e : i = l
    · subst e
      refine ⟨by rw [psg_k (by omega)]; exact (hz.gl hl).1, by rw [psg_k (by omega)]; exact h8, fun j hj => ?_⟩
      rw [psg_k (by omega)] at hj
      by_cases e2 : j = c
      · subst e2
        refine ⟨by rw [psg_n]; omega, fun k hk => ?_⟩
        rw [psg_n] at hk
        rcases Nat.lt_trichotomy k q with r | r | r
        · rw [psg_a (by omega) (by omega) r hq]; exact hz.sg i j k hl hc (by omega)
        · subst r; rw [psg_v (by omega) (by omega)]; exact h32
        · rw [psg_b (by omega) (by omega) r (by omega)]; exact hz.sg i j (k - 1) hl hc (by omega)
      · exact (psg_o (by omega) (by omega) (by omega) (by omega) h16 hq (by omega)).gc (hz.gc hl hj)
    · exact (kl i (by omega) e).gl (hz.gl hi)
  · have e1 : fpre (mpsg z l c q v) l c = fpre z l c := fpre_eq (fun i hi => ⟨kl i (by omega) (by omega), hz.gl (by omega)⟩) (fun j hj => ⟨psg_o (by omega) (by omega) (by omega) (by omega) h16 hq (by omega), hz.gc hl (by omega)⟩) (by rw [psg_k (by omega)]; exact hc) hc
    have e2 : fpost (mpsg z l c q v) l c = fpost z l c := fpost_eq (by rw [psg_k (by omega)]) (fun i hi => ⟨psg_o (by omega) (by omega) (by omega) (by omega) h16 hq (by omega), hz.gc hl (by omega)⟩) (by rw [k0]) (fun i hi => ⟨kl _ (by omega) (by omega), hz.gl (by omega)⟩)
    have e3 : fe (mpsg z l c q v) l c = fe z l c := fe_eq (by rw [psg_k (by omega)])
    have e4 : fs (mpsg z l c q v) l c = pl (mf z l c) q 0 ++ v :: pl (mf z l c) (z (25 + 8 * l + c) - q) q := by
      unfold fs
      rw [psg_n, show z (25 + 8 * l + c) + 1 = q + (1 + (z (25 + 8 * l + c) - q)) by omega, pl_add, pl_add, Nat.zero_add]
      congr 1
      · exact pl_cg (fun i hi => by rw [Nat.zero_add]; exact psg_a (by omega) (by omega) hi hq)
      · show [mpsg z l c q v (217 + 16 * (8 * l + c) + q)] ++ _ = _
        rw [psg_v (by omega) (by omega)]
        show v :: _ = v :: _
        congr 1
        refine pl_cg (fun i hi => ?_)
        show mpsg z l c q v (217 + 16 * (8 * l + c) + (q + 1 + i)) = z (217 + 16 * (8 * l + c) + (q + i))
        rw [psg_b (by omega) (by omega) (by omega) (by omega), show q + 1 + i - 1 = q + i by omega]
    rw [fT_cell (z := mpsg z l c q v) (l := l) (c := c) (by rw [k0]; exact hl) (by rw [psg_k (by omega)]; exact hc), e1, e2, e3, e4]
    unfold fup fdn
    simp only [List.append_assoc, List.cons_append]
/-- a tab -/
theorem ptb_T (hz : tOK z) (hl : l < z 0) (hc : c < z (1 + l)) (hq : q ≤ z (25 + 8 * l + c)) (h8 : z (1 + l) < 8) : tOK (mptb z l c q) ∧ fT (mptb z l c q) = fup z l c q ++ 9 :: fdn z l c q ∧ mptb z l c q 0 = z 0 ∧ mptb z l c q (1 + l) = z (1 + l) + 1 := by
  have h24 := hz.ok.2.1
  have h16 := hz.ok.2.2.2 l c hl hc
  have a1 : mopc z l (c + 1) (25 + 8 * l + c) = z (25 + 8 * l + c) := (mopc_a (by omega) (by omega) h8 (by omega)).1
  have a2 : mopc z l (c + 1) (25 + 8 * l + (c + 1)) = 0 := mopc_n (by omega) h8 (by omega)
  have hf : mopc z l (c + 1) (25 + 8 * l + (c + 1)) + (mopc z l (c + 1) (25 + 8 * l + c) - q) ≤ 16 := by omega
  have k0 : mptb z l c q 0 = z 0 := by unfold mptb; rw [mgt_0, mopc_0]
  have kc : mptb z l c q (1 + l) = z (1 + l) + 1 := by unfold mptb; rw [mgt_k (by omega), mopc_c]
  have kl : ∀ i, i < 24 → i ≠ l → SL (mptb z l c q) i z i := fun i hi hn => (mgt_l (by omega) (by omega) hi (by omega) (by omega) hn hn hf).trans (mopc_l hn (by omega) hi h8 (by omega))
  have ka : ∀ j, j < c → SC (mptb z l c q) l j z l j := fun j hj => (mgt_o (by omega) (by omega) (by omega) (by omega) (by omega) (by omega) (by omega) (by omega) hf).trans (mopc_a (by omega) (by omega) h8 (by omega))
  have kb : ∀ j, c + 1 ≤ j → j < z (1 + l) → SC (mptb z l c q) l (j + 1) z l j := fun j hj hj2 => (mgt_o (by omega) (by omega) (by omega) (by omega) (by omega) (by omega) (by omega) (by omega) hf).trans (mopc_b hj hj2 (by omega) h8)
  have n1 : mptb z l c q (25 + 8 * l + c) = q := mgt_f (by omega) (by omega) (by omega) (by omega) (by omega)
  have n2 : mptb z l c q (25 + 8 * l + (c + 1)) = z (25 + 8 * l + c) - q := by
    unfold mptb
    rw [mgt_t (by omega) (by omega) (by omega) (by omega) (by omega), a1, a2, Nat.zero_add]
  have s1 : ∀ k, k < 16 → mptb z l c q (217 + 16 * (8 * l + c) + k) = z (217 + 16 * (8 * l + c) + k) := fun k hk => by
    unfold mptb
    rw [mgt_fs (by omega) (by omega) (by omega) (by omega) (by omega) hk hf]
    exact (mopc_a (by omega) (by omega) h8 (by omega)).2 k hk
  have s2 : ∀ k, k < z (25 + 8 * l + c) - q → mptb z l c q (217 + 16 * (8 * l + (c + 1)) + k) = z (217 + 16 * (8 * l + c) + (q + k)) := fun k hk => by
    have r := mgt_tt (z := mopc z l (c + 1)) (l := l) (c := c) (f := q) (t := l) (u := c + 1) (k := k) (by omega) (by omega) (by omega) (by omega) (by omega) hf
    rw [a2, Nat.zero_add] at r
    unfold mptb
    rw [r]
    exact (mopc_a (by omega) (by omega) h8 (by omega)).2 (q + k) (by omega)
  refine ⟨tOK_of (by rw [k0]; exact hz.ok.1) (by rw [k0]; exact h24) (mgt_bd (mopc_bd hz.bd (by omega)) (by omega) (by omega)) (fun i hi => ?_), ?_, k0, kc⟩
  · rw [k0] at hi
    by_cases e : i = l
    · subst e
      refine ⟨by omega, by omega, fun j hj => ?_⟩
      rw [kc] at hj
      rcases Nat.lt_trichotomy j c with r | r | r
      · exact (ka j r).gc (hz.gc hl (by omega))
      · subst r
        exact ⟨by omega, fun k hk => by rw [s1 k (by omega)]; exact hz.sg i j k hl hc (by omega)⟩
      · by_cases r2 : j = c + 1
        · subst r2
          exact ⟨by omega, fun k hk => by rw [s2 k (by omega)]; exact hz.sg i c (q + k) hl hc (by omega)⟩
        · have := kb (j - 1) (by omega) (by omega)
          rw [show j - 1 + 1 = j by omega] at this
          exact this.gc (hz.gc hl (by omega))
    · exact (kl i (by omega) e).gl (hz.gl hi)
  · have e1 : fpre (mptb z l c q) l c = fpre z l c := fpre_eq (fun i hi => ⟨kl i (by omega) (by omega), hz.gl (by omega)⟩) (fun j hj => ⟨ka j hj, hz.gc hl (by omega)⟩) (by omega) hc
    have e2 : fpost (mptb z l c q) l (c + 1) = fpost z l c := fpost_eq (by omega) (fun i hi => ⟨by
      have := kb (c + 1 + i) (by omega) (by omega)
      rwa [show c + 1 + i + 1 = c + 1 + 1 + i by omega] at this, hz.gc hl (by omega)⟩) (by rw [k0]) (fun i hi => ⟨kl _ (by omega) (by omega), hz.gl (by omega)⟩)
    have e3 : fe (mptb z l c q) l (c + 1) = fe z l c := fe_eq (by omega)
    have e5 : fe (mptb z l c q) l c = 9 := by unfold fe; rw [if_pos (by omega)]
    have e4 : fs (mptb z l c q) l c = pl (mf z l c) q 0 := by
      rw [fs_of (f := mf z l c) n1 (fun k hk => s1 k (by omega))]
    have e6 : fs (mptb z l c q) l (c + 1) = pl (mf z l c) (z (25 + 8 * l + c) - q) q := by
      rw [fs_of (f := fun k => mf z l c (q + k)) n2 s2]
      exact pl_cg (fun i hi => by rw [Nat.zero_add])
    rw [fT_cell (z := mptb z l c q) (l := l) (c := c) (by rw [k0]; exact hl) (by omega), fpost_c (by omega), e1, e2, e3, e4, e5, e6]
    unfold fup fdn
    simp only [List.append_assoc, List.cons_append]
/-- a line end -/
theorem mpe_a {k j : Nat} (h1 : 1 ≤ j) (h2 : j < k - c) (hk : k ≤ 8) (hl : l < 23) : SC (mpe z l c k) (l + 1) j z l (c + j) := ⟨by simp only [va_up, ↓reduceIte, mpe] <;> (repeat' split) <;> first | omega | exact congrArg z (by omega), fun k9 hk9 => by simp only [va_up, ↓reduceIte, mpe] <;> (repeat' split) <;> first | omega | exact congrArg z (by omega)⟩
theorem mpe_o {k i j : Nat} (h1 : i ≠ l + 1 ∨ j = 0 ∨ k - c ≤ j) (hk : k ≤ 8) (hi : i < 24) (hl : l < 23) (hj : j < 8) : SC (mpe z l c k) i j z i j := ⟨by simp only [va_up, ↓reduceIte, mpe] <;> (repeat' split) <;> first | omega | exact congrArg z (by omega), fun k9 hk9 => by simp only [va_up, ↓reduceIte, mpe] <;> (repeat' split) <;> first | omega | exact congrArg z (by omega)⟩
theorem mpe_k {k i : Nat} (hi : i < 24) : mpe z l c k i = z i := by simp only [va_up, ↓reduceIte, mpe] <;> (repeat' split) <;> first | omega | exact congrArg z (by omega)
theorem mpe_k1 {k i : Nat} (hi : i < 24) : mpe z l c k (1 + i) = z (1 + i) := by simp only [va_up, ↓reduceIte, mpe] <;> (repeat' split) <;> first | omega | exact congrArg z (by omega)
theorem mpe_bd {k : Nat} (hb : ∀ j, z j < 1000) (j : Nat) : mpe z l c k j < 1000 := by
  have h1 := hb (j - 8 + c)
  have h2 := hb (j - 128 + 16 * c)
  have h4 := hb j
  simp only [mpe]
  (repeat' split) <;> omega
theorem up_sc {w : Nat → Nat} {i j a x : Nat} (ha : a < 25) : SC (va_up w a x) i j w i j := ⟨va_upN (by omega), fun k _ => va_upN (by omega)⟩
theorem pen_T (hz : tOK z) (hl : l < z 0) (hc : c < z (1 + l)) (hq : q ≤ z (25 + 8 * l + c)) (h24 : z 0 < 24) : tOK (mpen z l c q) ∧ fT (mpen z l c q) = fup z l c q ++ 10 :: fdn z l c q ∧ mpen z l c q 0 = z 0 + 1 := by
  have h8 := (hz.gl hl).2.1
  have h16 := hz.ok.2.2.2 l c hl hc
  have b1 := mopl_a (z := z) (l := l + 1) (i := l) (by omega) (by omega) h24
  have b2 := mopl_n (z := z) (l := l + 1) (by omega) h24
  have a1 : mopl z (l + 1) (25 + 8 * l + c) = z (25 + 8 * l + c) := (b1.2 c (by omega)).1
  have hf : mopl z (l + 1) (25 + 8 * (l + 1) + 0) + (mopl z (l + 1) (25 + 8 * l + c) - q) ≤ 16 := by omega
  have k0 : mpen z l c q 0 = z 0 + 1 := by unfold mpen; rw [va_upN (by omega), va_upN (by omega), mpe_k (by omega), mgt_0, mopl_0]
  have kc : mpen z l c q (1 + l) = c + 1 := by unfold mpen; rw [va_upS]
  have kd : mpen z l c q (1 + (l + 1)) = z (1 + l) - c := by unfold mpen; rw [va_upN (by omega), show 1 + (l + 1) = 2 + l by omega, va_upS]
  have ks : ∀ i j, SC (mpen z l c q) i j (mpe (mgt (mopl z (l + 1)) l c q (l + 1) 0) l c (z (1 + l))) i j := fun i j => (up_sc (by omega)).trans (up_sc (by omega))
  have km : ∀ i, i < 24 → i ≠ l → i ≠ l + 1 → SL (mpen z l c q) i (mopl z (l + 1)) i := fun i hi h1 h2 => by
    refine ⟨?_, fun j hj => (ks i j).trans ((mpe_o (Or.inl h2) (by omega) hi (by omega) hj).trans (mgt_o (by omega) (by omega) hi hj (by omega) (by omega) (by omega) (by omega) hf))⟩
    unfold mpen
    rw [va_upN (by omega), va_upN (by omega), mpe_k1 hi, mgt_k hi]
  have kl : ∀ i, i < l → SL (mpen z l c q) i z i := fun i hi => (km i (by omega) (by omega) (by omega)).trans (mopl_a (by omega) (by omega) h24)
  have kr : ∀ i, l + 1 ≤ i → i < z 0 → SL (mpen z l c q) (i + 1) z i := fun i h1 h2 => (km (i + 1) (by omega) (by omega) (by omega)).trans (mopl_b h1 h2 h24)
  have ka : ∀ j, j < c → SC (mpen z l c q) l j z l j := fun j hj => (ks l j).trans ((mpe_o (Or.inl (by omega)) (by omega) (by omega) (by omega) (by omega)).trans ((mgt_o (by omega) (by omega) (by omega) (by omega) (by omega) (by omega) (by omega) (by omega) hf).trans (b1.2 j (by omega))))
  have kb : ∀ j, 1 ≤ j → j < z (1 + l) - c → SC (mpen z l c q) (l + 1) j z l (c + j) := fun j h1 h2 => (ks (l + 1) j).trans ((mpe_a h1 h2 h8 (by omega)).trans ((mgt_o (by omega) (by omega) (by omega) (by omega) (by omega) (by omega) (by omega) (by omega) hf).trans (b1.2 (c + j) (by omega))))
  have m1 : SC (mpen z l c q) l c (mgt (mopl z (l + 1)) l c q (l + 1) 0) l c := (ks l c).trans (mpe_o (Or.inl (by omega)) (by omega) (by omega) (by omega) (by omega))
  have m2 : SC (mpen z l c q) (l + 1) 0 (mgt (mopl z (l + 1)) l c q (l + 1) 0) (l + 1) 0 := (ks (l + 1) 0).trans (mpe_o (Or.inr (Or.inl (Eq.refl _))) (by omega) (by omega) (by omega) (by omega))
  have n1 : mpen z l c q (25 + 8 * l + c) = q := m1.1.trans (mgt_f (by omega) (by omega) (by omega) (by omega) (by omega))
  have n2 : mpen z l c q (25 + 8 * (l + 1) + 0) = z (25 + 8 * l + c) - q := by
    rw [m2.1, mgt_t (by omega) (by omega) (by omega) (by omega) (by omega), a1, b2.2, Nat.zero_add]
  have s1 : ∀ k, k < 16 → mpen z l c q (217 + 16 * (8 * l + c) + k) = z (217 + 16 * (8 * l + c) + k) := fun k hk => by
    rw [m1.2 k hk, mgt_fs (by omega) (by omega) (by omega) (by omega) (by omega) hk hf]
    exact (b1.2 c (by omega)).2 k hk
  have s2 : ∀ k, k < z (25 + 8 * l + c) - q → mpen z l c q (217 + 16 * (8 * (l + 1) + 0) + k) = z (217 + 16 * (8 * l + c) + (q + k)) := fun k hk => by
    have r := mgt_tt (z := mopl z (l + 1)) (l := l) (c := c) (f := q) (t := l + 1) (u := 0) (k := k) (by omega) (by omega) (by omega) (by omega) (by omega) hf
    rw [b2.2, Nat.zero_add] at r
    rw [m2.2 k (by omega), r]
    exact (b1.2 c (by omega)).2 (q + k) (by omega)
  have hbd : ∀ j, mpen z l c q j < 1000 := fun j => by
    have h1 := mpe_bd (l := l) (c := c) (k := z (1 + l)) (mgt_bd (l := l) (c := c) (f := q) (t := l + 1) (u := 0) (mopl_bd (l := l + 1) hz.bd (by omega)) (by omega) (by omega)) j
    simp only [mpen, va_up]
    (repeat' split) <;> omega
  refine ⟨tOK_of (by omega) (by omega) hbd (fun i hi => ?_), ?_, k0⟩
  · rw [k0] at hi
    rcases Nat.lt_trichotomy i l with e | e | e
    · exact (kl i e).gl (hz.gl (by omega))
    · subst e
      refine ⟨by omega, by omega, fun j hj => ?_⟩
      rw [kc] at hj
      by_cases r : j = c
      · subst r
        exact ⟨by omega, fun k hk => by rw [s1 k (by omega)]; exact hz.sg i j k hl hc (by omega)⟩
      · exact (ka j (by omega)).gc (hz.gc hl (by omega))
    · by_cases e2 : i = l + 1
      · subst e2
        refine ⟨by omega, by omega, fun j hj => ?_⟩
        rw [kd] at hj
        by_cases r : j = 0
        · subst r
          exact ⟨by omega, fun k hk => by rw [s2 k (by omega)]; exact hz.sg l c (q + k) hl hc (by omega)⟩
        · exact (kb j (by omega) hj).gc (hz.gc hl (by omega))
      · have := kr (i - 1) (by omega) (by omega)
        rw [show i - 1 + 1 = i by omega] at this
        exact this.gl (hz.gl (by omega))
  · have e1 : fpre (mpen z l c q) l c = fpre z l c := fpre_eq (fun i hi => ⟨kl i hi, hz.gl (by omega)⟩) (fun j hj => ⟨ka j hj, hz.gc hl (by omega)⟩) (by omega) hc
    have e2 : fpost (mpen z l c q) (l + 1) 0 = fpost z l c := fpost_eq (by omega) (fun i hi => ⟨by
      have := kb (0 + 1 + i) (by omega) (by omega)
      rwa [show c + (0 + 1 + i) = c + 1 + i by omega] at this, hz.gc hl (by omega)⟩) (by omega) (fun i hi => ⟨by
      have := kr (l + 1 + i) (by omega) (by omega)
      rwa [show l + 1 + i + 1 = l + 1 + 1 + i by omega] at this, hz.gl (by omega)⟩)
    have e3 : fe (mpen z l c q) (l + 1) 0 = fe z l c := fe_eq (by omega)
    have e5 : fe (mpen z l c q) l c = 10 := by unfold fe; rw [if_neg (by omega)]
    have e4 : fs (mpen z l c q) l c = pl (mf z l c) q 0 := by
      rw [fs_of (f := mf z l c) n1 (fun k hk => s1 k (by omega))]
    have e6 : fs (mpen z l c q) (l + 1) 0 = pl (mf z l c) (z (25 + 8 * l + c) - q) q := by
      rw [fs_of (f := fun k => mf z l c (q + k)) n2 s2]
      exact pl_cg (fun i hi => by rw [Nat.zero_add])
    rw [fT_cell (z := mpen z l c q) (l := l) (c := c) (by omega) (by omega), fpost_l (by omega) (by omega) (by omega), e1, e2, e3, e4, e5, e6]
    unfold fup fdn
    simp only [List.append_assoc, List.cons_append]
end p5
