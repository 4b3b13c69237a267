section p17
variable {z w : Nat → Nat} {l c k r q : Nat}
theorem trn_T {y : Nat → Nat} (hy : tOK y) (hl : l < y 0) (hc : c < y (1 + l)) (hk : k ≤ y (25 + 8 * l + c)) : tOK (va_up y (25 + 8 * l + c) k) := by
  have h24 := hy.ok.2.1
  have h8 := (hy.ok.2.2.1 l hl).2
  have h16 := hy.ok.2.2.2 l c hl hc
  have e0 : va_up y (25 + 8 * l + c) k 0 = y 0 := va_upN (by omega)
  have e1 : ∀ i, i < 24 → va_up y (25 + 8 * l + c) k (1 + i) = y (1 + i) := fun i hi => va_upN (by omega)
  refine tOK_of (by rw [e0]; exact hy.ok.1) (by rw [e0]; exact h24) (zb_up hy.bd (by omega)) (fun i hi => ?_)
  rw [e0] at hi
  have gi := hy.gl hi
  refine ⟨by rw [e1 i (by omega)]; exact gi.1, by rw [e1 i (by omega)]; exact gi.2.1, fun j hj => ?_⟩
  rw [e1 i (by omega)] at hj
  have gj := gi.2.2 j hj
  have g8 := gi.2.1
  by_cases e : 8 * i + j = 8 * l + c
  · have ei : i = l := by omega
    have ej : j = c := by omega
    subst ei
    subst ej
    have e2 : va_up y (25 + 8 * i + j) k (25 + 8 * i + j) = k := va_upS _ _ _
    refine ⟨by rw [e2]; omega, fun m hm => ?_⟩
    rw [e2] at hm
    rw [va_upN (by omega)]
    exact gj.2 m (by omega)
  · exact SC.gc ⟨va_upN (by omega), fun m hm => va_upN (by omega)⟩ gj
/-- what is left of a line from place k of cell c on -/
def rRS (w : Nat → Nat) (l c k : Nat) : List Nat := pl (mf w l c) (w (25 + 8 * l + c) - k) k ++ (fe w l c :: fm (fc w l) (w (1 + l) - (c + 1)) (c + 1))
theorem rRS_0 (hc : c < w (1 + l)) : fm (fc w l) (w (1 + l) - c) c = rRS w l c 0 := by
  rw [show w (1 + l) - c = (w (1 + l) - (c + 1)) + 1 by omega]
  show (fs w l c ++ [fe w l c]) ++ _ = _
  rw [List.append_assoc]
  rfl
theorem tb_T (hw : tOK w) (hl : l < w 0) (hc : c < w (1 + l)) (hq : k + r ≤ w (25 + 8 * l + c)) (h8 : w (1 + l) < 8) : tOK (mTb w l c k r) ∧ mTb w l c k r 0 = w 0 ∧ mTb w l c k r (1 + l) = w (1 + l) + 1 ∧ mTb w l c k r (25 + 8 * l + c) = k ∧ fpre (mTb w l c k r) l (c + 1) = fup w l c k ++ [9] ∧ fm (fc (mTb w l c k r) l) (mTb w l c k r (1 + l) - (c + 1)) (c + 1) = rRS w l c (k + r) ∧ LR (mTb w l c k r) l = LR w l := by
  have h24 := hw.ok.2.1
  have h16 := hw.ok.2.2.2 l c hl hc
  obtain ⟨t1, t2, t3, t4⟩ := ptb_T (q := k + r) hw hl hc hq h8
  have a1 : mopc w l (c + 1) (25 + 8 * l + c) = w (25 + 8 * l + c) := (mopc_a (by omega) (by omega) h8 (by omega)).1
  have a2 : mopc w l (c + 1) (25 + 8 * l + (c + 1)) = 0 := mopc_n (by omega) h8 (by omega)
  have hf : mopc w l (c + 1) (25 + 8 * l + (c + 1)) + (mopc w l (c + 1) (25 + 8 * l + c) - (k + r)) ≤ 16 := by omega
  have n1 : mptb w l c (k + r) (25 + 8 * l + c) = k + r := mgt_f (by omega) (by omega) (by omega) (by omega) (by omega)
  have eU : mTb w l c k r = va_up (mptb w l c (k + r)) (25 + 8 * l + c) k := rfl
  have up : ∀ i j, i < 24 → j < 8 → 8 * i + j ≠ 8 * l + c → SC (mTb w l c k r) i j (mptb w l c (k + r)) i j := fun i j hi hj hn => ⟨va_upN (by omega), fun m hm => va_upN (by omega)⟩
  have upk : ∀ i, i < 24 → mTb w l c k r (1 + i) = mptb w l c (k + r) (1 + i) := fun i hi => va_upN (by omega)
  have k0 : mTb w l c k r 0 = w 0 := (va_upN (by omega)).trans t3
  have kc : mTb w l c k r (1 + l) = w (1 + l) + 1 := (upk l (by omega)).trans t4
  have nk : mTb w l c k r (25 + 8 * l + c) = k := va_upS _ _ _
  have kl : ∀ i, i < 24 → i ≠ l → SL (mTb w l c k r) i w i := fun i hi hn => SL.trans (z' := mptb w l c (k + r)) (l' := i) ⟨upk i hi, fun j hj => up i j hi hj (by omega)⟩ ((mgt_l (by omega) (by omega) hi (by omega) (by omega) hn hn hf).trans (mopc_l hn (by omega) hi h8 (by omega)))
  have ka : ∀ j, j < c → SC (mTb w l c k r) l j w l j := fun j hj => (up l j (by omega) (by omega) (by omega)).trans ((mgt_o (by omega) (by omega) (by omega) (by omega) (by omega) (by omega) (by omega) (by omega) hf).trans (mopc_a (by omega) (by omega) h8 (by omega)))
  have kb : ∀ j, c + 1 ≤ j → j < w (1 + l) → SC (mTb w l c k r) l (j + 1) w l j := fun j hj hj2 => (up l (j + 1) (by omega) (by omega) (by omega)).trans ((mgt_o (by omega) (by omega) (by omega) (by omega) (by omega) (by omega) (by omega) (by omega) hf).trans (mopc_b hj hj2 (by omega) h8))
  have n2 : mTb w l c k r (25 + 8 * l + (c + 1)) = w (25 + 8 * l + c) - (k + r) := by
    rw [eU, va_upN (by omega)]
    unfold mptb
    rw [mgt_t (by omega) (by omega) (by omega) (by omega) (by omega), a1, a2, Nat.zero_add]
  have s1 : ∀ m, m < 16 → mTb w l c k r (217 + 16 * (8 * l + c) + m) = w (217 + 16 * (8 * l + c) + m) := fun m hm => by
    rw [eU, va_upN (by omega)]
    unfold mptb
    rw [mgt_fs (by omega) (by omega) (by omega) (by omega) (by omega) hm hf]
    exact (mopc_a (by omega) (by omega) h8 (by omega)).2 m hm
  have s2 : ∀ m, m < w (25 + 8 * l + c) - (k + r) → mTb w l c k r (217 + 16 * (8 * l + (c + 1)) + m) = w (217 + 16 * (8 * l + c) + (k + r + m)) := fun m hm => by
    have r9 := mgt_tt (z := mopc w l (c + 1)) (l := l) (c := c) (f := k + r) (t := l) (u := c + 1) (k := m) (by omega) (by omega) (by omega) (by omega) (by omega) hf
    rw [a2, Nat.zero_add] at r9
    rw [eU, va_upN (by omega)]
    unfold mptb
    rw [r9]
    exact (mopc_a (by omega) (by omega) h8 (by omega)).2 (k + r + m) (by omega)
  refine ⟨trn_T (y := mptb w l c (k + r)) t1 (by rw [t3]; exact hl) (by rw [t4]; omega) (by rw [n1]; omega), k0, kc, nk, ?_, ?_, ?_⟩
  · have e1 : fpre (mTb w l c k r) l c = fpre w l c := fpre_eq (fun i hi => ⟨kl i (by omega) (by omega), hw.gl (by omega)⟩) (fun j hj => ⟨ka j hj, hw.gc hl (by omega)⟩) (by omega) hc
    have e5 : fe (mTb w l c k r) l c = 9 := by unfold fe; rw [if_pos (by omega)]
    have e4 : fs (mTb w l c k r) l c = pl (mf w l c) k 0 := by
      rw [fs_of (f := mf w l c) nk (fun m hm => s1 m (by omega))]
    rw [fpre_s, e1]
    unfold fc fup
    rw [e4, e5, List.append_assoc]
  · have e3 : fe (mTb w l c k r) l (c + 1) = fe w l c := fe_eq (by omega)
    have e6 : fs (mTb w l c k r) l (c + 1) = pl (mf w l c) (w (25 + 8 * l + c) - (k + r)) (k + r) := by
      rw [fs_of (f := fun m => mf w l c (k + r + m)) n2 s2]
      exact pl_cg (fun i hi => by rw [Nat.zero_add])
    rw [rRS_0 (by omega)]
    unfold rRS
    have e7 : pl (mf (mTb w l c k r) l (c + 1)) (mTb w l c k r (25 + 8 * l + (c + 1)) - 0) 0 = pl (mf w l c) (w (25 + 8 * l + c) - (k + r)) (k + r) := e6
    rw [e7, e3, kc, show w (1 + l) + 1 - (c + 1 + 1) = w (1 + l) - (c + 1) by omega]
    congr 2
    refine fm_cg _ _ _ (fun i hi => ?_)
    have g := kb (c + 1 + i) (by omega) (by omega)
    rw [show c + 1 + i + 1 = c + 1 + 1 + i by omega] at g
    unfold fc
    rw [g.fs_eq (hw.gc hl (by omega)).1, fe_eq (z := w) (l := l) (c := c + 1 + i) (by omega)]
  · unfold LR
    rw [k0]
    exact fm_cg _ _ _ (fun i hi => (kl (l + 1 + i) (by omega) (by omega)).fL_eq (hw.gl (by omega)))
theorem mMt_a {m : Nat} (hc : c < w (1 + l)) (hk : k < w (25 + 8 * l + c)) (hr : q ≤ sbl (mf w l c) (w (25 + 8 * l + c) - k) k) (h8 : w (1 + l) < 8) (h16 : w (25 + 8 * l + c) ≤ 16) : mMt l q (m + 1) c k w = mMt l q m c k (mTb w l c k (sbl (mf w l c) (w (25 + 8 * l + c) - k) k)) := by
  simp only [mMt]
  rw [if_pos hc, if_pos hk, if_pos hr, if_pos ⟨h8, h16⟩]
theorem mMt_b {m : Nat} (hc : c < w (1 + l)) (hk : k < w (25 + 8 * l + c)) (hr : ¬ q ≤ sbl (mf w l c) (w (25 + 8 * l + c) - k) k) (h8 : w (1 + l) ≤ 8) (h16 : w (25 + 8 * l + c) ≤ 16) : mMt l q (m + 1) c k w = mMt l q m c (k + (sbl (mf w l c) (w (25 + 8 * l + c) - k) k + 1)) w := by
  simp only [mMt]
  rw [if_pos hc, if_pos hk, if_neg hr, if_pos ⟨h16, h8⟩]
theorem mMt_c {m : Nat} (hc : c < w (1 + l)) (hk : ¬ k < w (25 + 8 * l + c)) (h8 : w (1 + l) ≤ 8) : mMt l q (m + 1) c k w = mMt l q m (c + 1) 0 w := by
  simp only [mMt]
  rw [if_pos hc, if_neg hk, if_pos h8]
theorem mMt_d {m : Nat} (hc : ¬ c < w (1 + l)) (h8 : w (1 + l) ≤ 8) : mMt l q (m + 1) c k w = some w := by
  simp only [mMt]
  rw [if_neg hc, if_pos h8]
theorem fT_LR (hl : l < w 0) : fT w = fpre w l (w (1 + l)) ++ LR w l := by
  rw [fT_at hl]
  unfold fpre LR
  rw [List.append_assoc]
  rfl
theorem mMt_T (hq : 1 ≤ q) : ∀ (N : Nat) (w : Nat → Nat) (c k : Nat), tOK w → l < w 0 → c < w (1 + l) → k ≤ w (25 + 8 * l + c) → (rRS w l c k).length ≤ N → w (1 + l) + tkC q 0 (rRS w l c k) ≤ 8 → ∃ m R, mMt l q m c k w = some R ∧ tOK R ∧ R 0 = w 0 ∧ fT R = fup w l c k ++ (tkL q 0 (rRS w l c k) ++ LR w l)
  | 0, w, c, k, _, _, _, _, hN, _ => by
    exfalso
    unfold rRS at hN
    rw [List.length_append, List.length_cons] at hN
    omega
  | N + 1, w, c, k, hw, hl, hc, hk, hN, h8 => by
    have nxt : ∀ (w : Nat → Nat) (c : Nat), tOK w → l < w 0 → c ≤ w (1 + l) → (fm (fc w l) (w (1 + l) - c) c).length ≤ N → w (1 + l) + tkC q 0 (fm (fc w l) (w (1 + l) - c) c) ≤ 8 → ∃ m R, mMt l q m c 0 w = some R ∧ tOK R ∧ R 0 = w 0 ∧ fT R = fpre w l c ++ (tkL q 0 (fm (fc w l) (w (1 + l) - c) c) ++ LR w l) := by
      intro w c hw hl hc hN h8
      by_cases e : c < w (1 + l)
      · rw [rRS_0 e] at hN h8 ⊢
        obtain ⟨m, R, r1, r2, r3, r4⟩ := mMt_T hq N w c 0 hw hl e (by omega) hN h8
        refine ⟨m, R, r1, r2, r3, ?_⟩
        rw [r4]
        unfold fup
        show (fpre w l c ++ []) ++ _ = _
        rw [List.append_nil]
      · have ec : c = w (1 + l) := by omega
        refine ⟨1, w, mMt_d e (by omega), hw, rfl, ?_⟩
        rw [ec, Nat.sub_self, fT_LR hl]
        show _ = _ ++ (tkF q 0 ++ _)
        rw [tkF_0 hq, List.nil_append]
    have h16 := hw.ok.2.2.2 l c hl hc
    have hrS : rRS w l c k = List.replicate (sbl (mf w l c) (w (25 + 8 * l + c) - k) k) 32 ++ rRS w l c (k + sbl (mf w l c) (w (25 + 8 * l + c) - k) k) := by
      unfold rRS
      rw [pl_run (n := w (25 + 8 * l + c)) (k := k), List.append_assoc]
    obtain ⟨a1, a2, a3⟩ := sbl_sp (mf w l c) (w (25 + 8 * l + c) - k) k
    have hb : q ≤ sbl (mf w l c) (w (25 + 8 * l + c) - k) k → k < w (25 + 8 * l + c) → w (1 + l) < 8 → ∀ m, mMt l q (m + 1) c k w = mMt l q m c k (mTb w l c k (sbl (mf w l c) (w (25 + 8 * l + c) - k) k)) := fun x1 x2 x3 m => mMt_a hc x2 x1 x3 h16
    have hs : ¬ q ≤ sbl (mf w l c) (w (25 + 8 * l + c) - k) k → k < w (25 + 8 * l + c) → w (1 + l) ≤ 8 → ∀ m, mMt l q (m + 1) c k w = mMt l q m c (k + (sbl (mf w l c) (w (25 + 8 * l + c) - k) k + 1)) w := fun x1 x2 x3 m => mMt_b hc x2 x1 x3 h16
    generalize sbl (mf w l c) (w (25 + 8 * l + c) - k) k = r at hrS a1 a2 a3 hb hs
    have hy : ∃ y T, y ≠ 32 ∧ rRS w l c (k + r) = y :: T ∧ ((k + r < w (25 + 8 * l + c) ∧ y = mf w l c (k + r) ∧ T = rRS w l c (k + (r + 1))) ∨ (k + r = w (25 + 8 * l + c) ∧ y = fe w l c ∧ T = fm (fc w l) (w (1 + l) - (c + 1)) (c + 1))) := by
      by_cases e : k + r < w (25 + 8 * l + c)
      · refine ⟨mf w l c (k + r), rRS w l c (k + (r + 1)), a3 (by omega), ?_, Or.inl ⟨e, rfl, rfl⟩⟩
        unfold rRS
        rw [show w (25 + 8 * l + c) - (k + r) = (w (25 + 8 * l + c) - (k + (r + 1))) + 1 by omega, pl_cons, List.cons_append]
        rfl
      · have e2 : k + r = w (25 + 8 * l + c) := by omega
        refine ⟨fe w l c, _, fe_nb, ?_, Or.inr ⟨e2, rfl, rfl⟩⟩
        unfold rRS
        rw [e2, Nat.sub_self]
        rfl
    obtain ⟨y, T, y1, y2, y3⟩ := hy
    have eL : tkL q 0 (rRS w l c k) = tkF q r ++ y :: tkL q 0 T := by rw [hrS, tkL_rep, Nat.zero_add, y2, tkL_ne y1]
    have eC : tkC q 0 (rRS w l c k) = tkN q r + tkC q 0 T := by rw [hrS, tkC_rep, Nat.zero_add, y2, tkC_ne y1]
    have eN : (rRS w l c k).length = r + (T.length + 1) := by rw [hrS, y2, List.length_append, List.length_replicate, List.length_cons]
    rw [eC] at h8
    rw [eN] at hN
    rw [eL]
    by_cases hqr : q ≤ r
    · unfold tkN at h8
      rw [if_pos hqr] at h8
      obtain ⟨t1, t2, t3, t4, t5, t6, t7⟩ := tb_T (k := k) (r := r) hw hl hc (by omega) (by omega)
      obtain ⟨m, R, r1, r2, r3, r4⟩ := nxt (mTb w l c k r) (c + 1) t1 (by rw [t2]; exact hl) (by rw [t3]; omega) (by rw [t6, y2, List.length_cons]; omega) (by
        rw [t6, y2, tkC_ne y1, tkN_0 hq, t3]
        omega)
      refine ⟨m + 2, R, ?_, r2, r3.trans t2, ?_⟩
      · rw [hb hqr (by omega) (by omega) (m + 1), mMt_c (by rw [t3]; omega) (by rw [t4]; omega) (by rw [t3]; omega)]
        exact r1
      · rw [r4, t5, t6, t7, y2, tkL_ne y1, tkF_0 hq]
        unfold tkF
        rw [if_pos hqr]
        simp only [List.append_assoc, List.cons_append, List.nil_append]
    · unfold tkN at h8
      rw [if_neg hqr, Nat.zero_add] at h8
      have eF : tkF q r = List.replicate r 32 := by unfold tkF; rw [if_neg hqr]
      rw [eF]
      have ep : pl (mf w l c) r k = List.replicate r 32 := pl_rep a2
      rcases y3 with ⟨z1, z2, z3⟩ | ⟨z1, z2, z3⟩
      · obtain ⟨m, R, r1, r2, r3, r4⟩ := mMt_T hq N w c (k + (r + 1)) hw hl hc (by omega) (by rw [← z3]; omega) (by rw [← z3]; omega)
        refine ⟨m + 1, R, ?_, r2, r3, ?_⟩
        · rw [hs hqr (by omega) (by omega) m]
          exact r1
        · rw [r4, ← z3, z2, ← ep]
          unfold fup
          rw [pl_add (mf w l c) k (r + 1) 0, Nat.zero_add, pl_snoc (mf w l c) r k]
          simp only [List.append_assoc, List.cons_append, List.nil_append]
      · obtain ⟨m, R, r1, r2, r3, r4⟩ := nxt w (c + 1) hw hl (by omega) (by rw [← z3]; omega) (by rw [← z3]; omega)
        obtain ⟨m2, r0⟩ : ∃ m2, mMt l q m2 c k w = some R := by
          by_cases hk2 : k < w (25 + 8 * l + c)
          · exact ⟨m + 2, by rw [hs hqr hk2 (by omega) (m + 1), mMt_c hc (by omega) (by omega)]; exact r1⟩
          · exact ⟨m + 1, by rw [mMt_c hc hk2 (by omega)]; exact r1⟩
        refine ⟨m2, R, r0, r2, r3, ?_⟩
        rw [r4, ← z3, z2, ← ep, fpre_s]
        unfold fc fup
        rw [fs_q (z := w) (l := l) (c := c) (q := k) (by omega), show w (25 + 8 * l + c) - k = r by omega]
        simp only [List.append_assoc, List.cons_append, List.nil_append]
theorem cs_end {Z : Nat → Nat} {sz : Nat} (hw : tOK w) (hl : l < w 0) (hF : FL w Z sz) : ∃ M, fL w l = M ++ [10] ∧ (fm (fL w) l 0).length = CS w l 0 ∧ M.length = CS w l (w (1 + l) - 1) + w (25 + 8 * l + (w (1 + l) - 1)) - CS w l 0 ∧ CS w l 0 ≤ CS w l (w (1 + l) - 1) ∧ CS w l (w (1 + l) - 1) + w (25 + 8 * l + (w (1 + l) - 1)) ≤ sz ∧ PL Z sz (fm (fL w) l 0 ++ (M ++ (10 :: LR w l))) := by
  have h1 := (hw.ok.2.2.1 l hl).1
  have eX : (fm (fL w) l 0).length = CS w l 0 := by
    have := fpre_len (z := w) l 0
    unfold fpre at this
    rw [List.length_append] at this
    exact this
  have eC : (fm (fc w l) (w (1 + l) - 1) 0).length + CS w l 0 = CS w l (w (1 + l) - 1) := by
    have := fpre_len (z := w) l (w (1 + l) - 1)
    unfold fpre at this
    rw [List.length_append, eX] at this
    omega
  have eL : fL w l = (fm (fc w l) (w (1 + l) - 1) 0 ++ fs w l (w (1 + l) - 1)) ++ [10] := by
    unfold fL
    rw [show fm (fc w l) (w (1 + l)) 0 = fm (fc w l) ((w (1 + l) - 1) + 1) 0 from congrArg (fun n => fm (fc w l) n 0) (by omega), fm_snoc, Nat.zero_add, List.append_assoc]
    unfold fc
    rw [show fe w l (w (1 + l) - 1) = 10 by unfold fe; rw [if_neg (by omega)]]
  have eP : PL Z sz (fm (fL w) l 0 ++ ((fm (fc w l) (w (1 + l) - 1) 0 ++ fs w l (w (1 + l) - 1)) ++ (10 :: LR w l))) := by
    have h := hF.toPL
    rw [fT_at hl, eL, List.append_assoc _ [10]] at h
    exact h
  have eM : (fm (fc w l) (w (1 + l) - 1) 0 ++ fs w l (w (1 + l) - 1)).length = (fm (fc w l) (w (1 + l) - 1) 0).length + w (25 + 8 * l + (w (1 + l) - 1)) := by rw [List.length_append, fs_len]
  have eS := eP.len
  rw [List.length_append, List.length_append, List.length_cons] at eS
  exact ⟨_, eL, eX, by omega, by omega, by omega, eP⟩
theorem retab_C {Z : Nat → Nat} {sz : Nat} (hw : tOK w) (hl : l < w 0) (hF : FL w Z sz) (hq : 1 ≤ q) : crn Z (CS w l 0) q (CS w l (w (1 + l) - 1) + w (25 + 8 * l + (w (1 + l) - 1))) (CS w l (w (1 + l) - 1) + w (25 + 8 * l + (w (1 + l) - 1))) = mRs w l q (w (1 + l)) := by
  obtain ⟨M, e1, e2, e3, e4, e5, e6⟩ := cs_end hw hl hF
  rw [crn_T hq _ _ (by omega) (by omega), mRs_T hq]
  show _ = tkC q 0 (fL w l)
  rw [e1, tkC_app (by decide)]
  show _ = _ + tkN q 0
  rw [tkN_0 hq, Nat.add_zero]
  obtain ⟨p1, p2⟩ := e6.split e2 (by omega)
  rw [show sz - CS w l 0 = (CS w l (w (1 + l) - 1) + w (25 + 8 * l + (w (1 + l) - 1)) - CS w l 0) + (sz - (CS w l (w (1 + l) - 1) + w (25 + 8 * l + (w (1 + l) - 1)))) by omega, pl_add, List.append_assoc] at p2
  rw [(List.append_inj p2 (by rw [pl_len, e3])).1]
theorem retab_T {Z : Nat → Nat} {sz : Nat} (hw : tOK w) (hl : l < w 0) (hF : FL w Z sz) (hZ : ∀ j, Z j < 1000) (hq : 1 ≤ q) (hr : w (1 + l) + mRs w l q (w (1 + l)) ≤ 8) : ∃ m R, mMt l q m 0 0 w = some R ∧ tOK R ∧ FL R (rrn (CS w l 0) q (CS w l (w (1 + l) - 1) + w (25 + 8 * l + (w (1 + l) - 1))) (CS w l (w (1 + l) - 1) + w (25 + 8 * l + (w (1 + l) - 1))) (Z, sz)).1 (rrn (CS w l 0) q (CS w l (w (1 + l) - 1) + w (25 + 8 * l + (w (1 + l) - 1))) (CS w l (w (1 + l) - 1) + w (25 + 8 * l + (w (1 + l) - 1))) (Z, sz)).2 ∧ ∀ j, (rrn (CS w l 0) q (CS w l (w (1 + l) - 1) + w (25 + 8 * l + (w (1 + l) - 1))) (CS w l (w (1 + l) - 1) + w (25 + 8 * l + (w (1 + l) - 1))) (Z, sz)).1 j < 1000 := by
  obtain ⟨M, e1, e2, e3, e4, e5, e6⟩ := cs_end hw hl hF
  have h1 := (hw.ok.2.2.1 l hl).1
  have e0 : rRS w l 0 0 = fL w l := (rRS_0 (by omega)).symm
  obtain ⟨m, R, r1, r2, r3, r4⟩ := mMt_T hq (rRS w l 0 0).length w 0 0 hw hl (by omega) (by omega) (Nat.le_refl _) (by rw [e0]; rw [mRs_T hq] at hr; exact hr)
  obtain ⟨q1, q2⟩ := rrn_T (s := CS w l 0) hq (CS w l (w (1 + l) - 1) + w (25 + 8 * l + (w (1 + l) - 1))) (CS w l (w (1 + l) - 1) + w (25 + 8 * l + (w (1 + l) - 1))) Z sz (fm (fL w) l 0) M (10 :: LR w l) (by omega) (by omega) e5 hZ e2 e3 e6
  refine ⟨m, R, r1, r2, ?_, q2⟩
  show PL _ _ (fT R)
  have e9 : fT R = fm (fL w) l 0 ++ (tkL q 0 M ++ 10 :: LR w l) := by
    rw [r4, e0, e1, tkL_app (by decide)]
    show (fm (fL w) l 0 ++ []) ++ [] ++ ((tkL q 0 M ++ 10 :: tkF q 0) ++ LR w l) = _
    rw [tkF_0 hq]
    simp only [List.append_assoc, List.cons_append, List.nil_append, List.append_nil]
  rw [e9]
  exact q1
end p17
