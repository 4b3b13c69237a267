section p16
variable {z w : Nat → Nat} {l c k r q : Nat}
/-! retab: each run of q blanks at least becomes a tab -/
def tkF (q r : Nat) : List Nat := if q ≤ r then [9] else List.replicate r 32
def tkN (q r : Nat) : Nat := if q ≤ r then 1 else 0
def tkL (q : Nat) : Nat → List Nat → List Nat
  | r, [] => tkF q r
  | r, x :: xs => if x = 32 then tkL q (r + 1) xs else tkF q r ++ x :: tkL q 0 xs
def tkC (q : Nat) : Nat → List Nat → Nat
  | r, [] => tkN q r
  | r, x :: xs => if x = 32 then tkC q (r + 1) xs else tkN q r + tkC q 0 xs
theorem tkF_0 (hq : 1 ≤ q) : tkF q 0 = [] := by unfold tkF; rw [if_neg (by omega)]; rfl
theorem tkN_0 (hq : 1 ≤ q) : tkN q 0 = 0 := by unfold tkN; rw [if_neg (by omega)]
theorem tkL_ne {y : Nat} (hy : y ≠ 32) (r : Nat) (ys : List Nat) : tkL q r (y :: ys) = tkF q r ++ y :: tkL q 0 ys := by
  simp only [tkL]
  rw [if_neg hy]
theorem tkC_ne {y : Nat} (hy : y ≠ 32) (r : Nat) (ys : List Nat) : tkC q r (y :: ys) = tkN q r + tkC q 0 ys := by
  simp only [tkC]
  rw [if_neg hy]
theorem tkL_rep (xs : List Nat) : ∀ n r, tkL q r (List.replicate n 32 ++ xs) = tkL q (r + n) xs
  | 0, r => rfl
  | n + 1, r => by
    rw [List.replicate_succ, List.cons_append]
    simp only [tkL]
    rw [if_pos trivial, tkL_rep xs n (r + 1), show r + 1 + n = r + (n + 1) by omega]
theorem tkC_rep (xs : List Nat) : ∀ n r, tkC q r (List.replicate n 32 ++ xs) = tkC q (r + n) xs
  | 0, r => rfl
  | n + 1, r => by
    rw [List.replicate_succ, List.cons_append]
    simp only [tkC]
    rw [if_pos trivial, tkC_rep xs n (r + 1), show r + 1 + n = r + (n + 1) by omega]
theorem tkL_app {y : Nat} (hy : y ≠ 32) (ys : List Nat) : ∀ (xs : List Nat) (r : Nat), tkL q r (xs ++ y :: ys) = tkL q r xs ++ y :: tkL q 0 ys
  | [], r => tkL_ne hy r ys
  | x :: xs, r => by
    rw [List.cons_append]
    simp only [tkL]
    split
    · exact tkL_app hy ys xs (r + 1)
    · rw [tkL_app hy ys xs 0, List.append_assoc, List.cons_append]
theorem tkC_app {y : Nat} (hy : y ≠ 32) (ys : List Nat) : ∀ (xs : List Nat) (r : Nat), tkC q r (xs ++ y :: ys) = tkC q r xs + tkC q 0 ys
  | [], r => tkC_ne hy r ys
  | x :: xs, r => by
    rw [List.cons_append]
    simp only [tkC]
    split
    · exact tkC_app hy ys xs (r + 1)
    · rw [tkC_app hy ys xs 0, Nat.add_assoc]
def nbE (M : List Nat) : Prop := M = [] ∨ ∃ B y, y ≠ 32 ∧ M = B ++ [y]
theorem tkL_cat {M : List Nat} (hq : 1 ≤ q) (h : nbE M) (Y : List Nat) : tkL q 0 (M ++ Y) = tkL q 0 M ++ tkL q 0 Y := by
  rcases h with h | ⟨B, y, hy, h⟩
  · subst h
    show tkL q 0 Y = tkF q 0 ++ _
    rw [tkF_0 hq, List.nil_append]
  · subst h
    rw [List.append_assoc, List.singleton_append, tkL_app hy, tkL_app hy, List.append_assoc]
    show _ = _ ++ (y :: tkF q 0 ++ _)
    rw [tkF_0 hq]
    rfl
theorem tkC_cat {M : List Nat} (hq : 1 ≤ q) (h : nbE M) (Y : List Nat) : tkC q 0 (M ++ Y) = tkC q 0 M + tkC q 0 Y := by
  rcases h with h | ⟨B, y, hy, h⟩
  · subst h
    show tkC q 0 Y = tkN q 0 + _
    rw [tkN_0 hq, Nat.zero_add]
  · subst h
    rw [List.append_assoc, List.singleton_append, tkC_app hy, tkC_app hy]
    show _ = _ + tkN q 0 + _
    rw [tkN_0 hq, Nat.add_zero]
theorem tkL_r (n : Nat) : tkL q 0 (List.replicate n 32) = tkF q n := by
  have := tkL_rep (q := q) [] n 0
  rw [List.append_nil, Nat.zero_add] at this
  exact this
theorem tkC_r (n : Nat) : tkC q 0 (List.replicate n 32) = tkN q n := by
  have := tkC_rep (q := q) [] n 0
  rw [List.append_nil, Nat.zero_add] at this
  exact this
/-! the class: from the right -/
theorem rst_sp {Z : Nat → Nat} {s : Nat} : ∀ e, s ≤ e → s ≤ rst Z s e ∧ rst Z s e ≤ e ∧ (∀ i, rst Z s e ≤ i → i < e → Z i = 32) ∧ (s < rst Z s e → Z (rst Z s e - 1) ≠ 32)
  | 0, h => by
    simp only [rst]
    exact ⟨by omega, by omega, fun i _ h2 => absurd h2 (by omega), fun h2 => absurd h2 (by omega)⟩
  | e + 1, h => by
    simp only [rst]
    split
    · rename_i h1
      obtain ⟨a1, a2, a3, a4⟩ := rst_sp (Z := Z) (s := s) e (by omega)
      refine ⟨a1, by omega, fun i h2 h3 => ?_, a4⟩
      by_cases h4 : i = e
      · rw [h4]; exact h1.2
      · exact a3 i h2 (by omega)
    · rename_i h1
      exact ⟨h, by omega, fun i h2 h3 => absurd h3 (by omega), fun h2 h3 => h1 ⟨by omega, by rwa [Nat.add_sub_cancel] at h3⟩⟩
theorem pl_rep {Z : Nat → Nat} : ∀ {n a : Nat}, (∀ i, i < n → Z (a + i) = 32) → pl Z n a = List.replicate n 32
  | 0, a, _ => rfl
  | n + 1, a, h => by
    rw [pl_cons, List.replicate_succ, pl_rep (fun i hi => by have := h (i + 1) (by omega); rwa [show a + 1 + i = a + (i + 1) by omega])]
    have h0 := h 0 (by omega)
    rw [Nat.add_zero] at h0
    rw [h0]
theorem run_sp {Z : Nat → Nat} {s e : Nat} (hse : s ≤ e) : pl Z (e - s) s = pl Z (rst Z s e - s) s ++ List.replicate (e - rst Z s e) 32 ∧ nbE (pl Z (rst Z s e - s) s) := by
  obtain ⟨a1, a2, a3, a4⟩ := rst_sp (Z := Z) e hse
  generalize rst Z s e = r at a1 a2 a3 a4 ⊢
  constructor
  · rw [show e - s = (r - s) + (e - r) by omega, pl_add, show s + (r - s) = r by omega, pl_rep (fun i hi => a3 (r + i) (by omega) (by omega))]
  · by_cases h : s < r
    · refine Or.inr ⟨pl Z (r - s - 1) s, Z (r - 1), a4 h, ?_⟩
      rw [show r - s = (r - s - 1) + 1 by omega, pl_snoc, show s + (r - s - 1) = r - 1 by omega, Nat.add_sub_cancel]
    · left
      rw [show r - s = 0 by omega]
      rfl
theorem pl_last {Z : Nat → Nat} {s e : Nat} (h : s < e) : pl Z (e - s) s = pl Z (e - 1 - s) s ++ [Z (e - 1)] := by
  rw [show e - s = (e - 1 - s) + 1 by omega, pl_snoc, show s + (e - 1 - s) = e - 1 by omega]
theorem crn_T {Z : Nat → Nat} {s b : Nat} (hb : 1 ≤ b) : ∀ (n e : Nat), s ≤ e → e - s ≤ n → crn Z s b n e = tkC b 0 (pl Z (e - s) s)
  | 0, e, h1, h2 => by
    rw [show e - s = 0 by omega]
    show crn Z s b 0 e = tkN b 0
    simp only [crn]
    rw [tkN_0 hb]
  | n + 1, e, h1, h2 => by
    simp only [crn]
    by_cases he : s < e
    · rw [if_pos he]
      obtain ⟨a1, a2, a3, a4⟩ := rst_sp (Z := Z) e h1
      obtain ⟨b1, b2⟩ := run_sp (Z := Z) h1
      rw [b1, tkC_cat hb b2, tkC_r]
      by_cases hr : rst Z s e < e
      · rw [if_pos hr, crn_T hb n _ a1 (by omega)]
        unfold tkN
        omega
      · have er : rst Z s e = e := by omega
        rw [if_neg hr, crn_T hb n _ (by omega) (by omega), er, Nat.sub_self, pl_last he, tkC_app (by rw [er] at a4; exact a4 he)]
        show _ = _ + tkN b 0 + tkN b 0
        rw [tkN_0 hb, if_neg (by omega)]
        omega
    · rw [if_neg he, show e - s = 0 by omega]
      show _ = tkN b 0
      rw [tkN_0 hb]
theorem rrn_T {s b : Nat} (hb : 1 ≤ b) : ∀ (n e : Nat) (Z : Nat → Nat) (sz : Nat) (X M Y : List Nat), s ≤ e → e - s ≤ n → e ≤ sz → (∀ j, Z j < 1000) → X.length = s → M.length = e - s → PL Z sz (X ++ (M ++ Y)) → PL (rrn s b n e (Z, sz)).1 (rrn s b n e (Z, sz)).2 (X ++ (tkL b 0 M ++ Y)) ∧ ∀ j, (rrn s b n e (Z, sz)).1 j < 1000
  | 0, e, Z, sz, X, M, Y, h1, h2, h3, hZ, hX, hM, hP => by
    have : M = [] := List.length_eq_zero_iff.mp (by omega)
    subst this
    simp only [rrn]
    refine ⟨?_, hZ⟩
    show PL Z sz (X ++ (tkF b 0 ++ Y))
    rw [tkF_0 hb]
    exact hP
  | n + 1, e, Z, sz, X, M, Y, h1, h2, h3, hZ, hX, hM, hP => by
    simp only [rrn]
    by_cases he : s < e
    · rw [if_pos he]
      obtain ⟨a1, a2, a3, a4⟩ := rst_sp (Z := Z) e h1
      obtain ⟨b1, b2⟩ := run_sp (Z := Z) h1
      obtain ⟨p1, p2⟩ := hP.split hX (by omega)
      have eM : pl Z (e - s) s = M := by
        rw [show sz - s = (e - s) + (sz - e) by omega, pl_add, List.append_assoc] at p2
        exact (List.append_inj p2 (by rw [pl_len, hM])).1
      rw [← eM] at hP ⊢
      have tl : tkL b 0 (pl Z (e - s) s) = tkL b 0 (pl Z (rst Z s e - s) s) ++ tkF b (e - rst Z s e) := by rw [b1, tkL_cat hb b2, tkL_r]
      by_cases hr : rst Z s e < e
      · rw [if_pos hr]
        rw [b1] at hP
        by_cases hb2 : b ≤ e - rst Z s e
        · rw [if_pos hb2]
          have q1 : PL Z sz ((X ++ pl Z (rst Z s e - s) s) ++ (List.replicate (e - rst Z s e) 32 ++ Y)) := by
            rw [List.append_assoc, ← List.append_assoc (pl Z (rst Z s e - s) s)]; exact hP
          have lx : (X ++ pl Z (rst Z s e - s) s).length = rst Z s e := by rw [List.length_append, pl_len]; omega
          have q2 := q1.cut (a := rst Z s e) (n := e - rst Z s e) lx (List.length_replicate) (by omega)
          rw [show rst Z s e + (e - rst Z s e) = e by omega, show sz - rst Z s e - (e - rst Z s e) = sz - e by omega] at q2
          have q3 := q2.put (x := 9) lx (by omega)
          rw [List.append_assoc] at q3
          have q4 := rrn_T hb n (rst Z s e) _ _ X (pl Z (rst Z s e - s) s) (9 :: Y) a1 (by omega) (by omega) (zb_up (zb_cpy (zb_cpy hZ hZ) (zb_cpy hZ hZ)) (by omega)) hX (pl_len _ _ _) q3
          rw [tl]
          unfold tkF
          rw [if_pos hb2, List.append_assoc, List.singleton_append]
          exact q4
        · rw [if_neg hb2]
          have q1 : PL Z sz (X ++ (pl Z (rst Z s e - s) s ++ (List.replicate (e - rst Z s e) 32 ++ Y))) := by
            rw [← List.append_assoc (pl Z (rst Z s e - s) s)]; exact hP
          have q4 := rrn_T hb n (rst Z s e) Z sz X _ _ a1 (by omega) (by omega) hZ hX (pl_len _ _ _) q1
          rw [tl]
          unfold tkF
          rw [if_neg hb2, List.append_assoc]
          exact q4
      · have er : rst Z s e = e := by omega
        rw [er] at a4
        rw [if_neg hr, er, Nat.sub_self, if_neg (by omega)]
        rw [pl_last he] at hP ⊢
        have q1 : PL Z sz (X ++ (pl Z (e - 1 - s) s ++ (Z (e - 1) :: Y))) := by
          rw [List.append_assoc, List.singleton_append] at hP; exact hP
        have q4 := rrn_T hb n (e - 1) Z sz X _ _ (by omega) (by omega) (by omega) hZ hX (pl_len _ _ _) q1
        rw [tkL_app (a4 he)]
        have e0 : tkL b 0 [] = [] := tkF_0 hb
        rw [e0, List.append_assoc, List.singleton_append]
        exact q4
    · rw [if_neg he]
      have : M = [] := List.length_eq_zero_iff.mp (by omega)
      subst this
      refine ⟨?_, hZ⟩
      show PL Z sz (X ++ (tkF b 0 ++ Y))
      rw [tkF_0 hb]
      exact hP
/-! the reference: from the left -/
theorem sbl_sp (f : Nat → Nat) : ∀ m k, sbl f m k ≤ m ∧ (∀ i, i < sbl f m k → f (k + i) = 32) ∧ (sbl f m k < m → f (k + sbl f m k) ≠ 32)
  | 0, k => by
    simp only [sbl]
    exact ⟨by omega, fun i h => absurd h (by omega), fun h => absurd h (by omega)⟩
  | m + 1, k => by
    simp only [sbl]
    split
    · rename_i h
      obtain ⟨a1, a2, a3⟩ := sbl_sp f m (k + 1)
      refine ⟨by omega, fun i hi => ?_, fun h2 => ?_⟩
      · cases i with
        | zero => exact h
        | succ i => have := a2 i (by omega); rwa [show k + (i + 1) = k + 1 + i by omega]
      · have := a3 (by omega); rwa [show k + (sbl f m (k + 1) + 1) = k + 1 + sbl f m (k + 1) by omega]
    · rename_i h
      exact ⟨by omega, fun i hi => absurd hi (by omega), fun _ => h⟩
theorem pl_run {f : Nat → Nat} {n k : Nat} : pl f (n - k) k = List.replicate (sbl f (n - k) k) 32 ++ pl f (n - (k + sbl f (n - k) k)) (k + sbl f (n - k) k) := by
  obtain ⟨a1, a2, a3⟩ := sbl_sp f (n - k) k
  generalize sbl f (n - k) k = r at a1 a2 a3 ⊢
  rw [show pl f (n - k) k = pl f (r + (n - (k + r))) k from congrArg (fun m => pl f m k) (by omega), pl_add, pl_rep a2]
theorem sRs_T {f : Nat → Nat} {n : Nat} (hq : 1 ≤ q) : ∀ (m k : Nat), n - k ≤ m → sRs f n q m k = tkC q 0 (pl f (n - k) k)
  | 0, k, h => by
    rw [show n - k = 0 by omega]
    show _ = tkN q 0
    simp only [sRs]
    rw [tkN_0 hq]
  | m + 1, k, h => by
    simp only [sRs]
    by_cases hk : k < n
    · rw [if_pos hk, sRs_T hq m _ (by omega), pl_run (n := n) (k := k)]
      obtain ⟨a1, a2, a3⟩ := sbl_sp f (n - k) k
      generalize sbl f (n - k) k = r at a1 a2 a3 ⊢
      rw [tkC_rep, Nat.zero_add]
      by_cases h2 : k + r < n
      · rw [show n - (k + r) = (n - (k + r + 1)) + 1 by omega, pl_cons, tkC_ne (a3 (by omega))]
        rfl
      · rw [show n - (k + r) = 0 by omega, show n - (k + r + 1) = 0 by omega]
        show _ + tkN q 0 = tkN q r
        rw [tkN_0 hq]
        rfl
    · rw [if_neg hk, show n - k = 0 by omega]
      show _ = tkN q 0
      rw [tkN_0 hq]
theorem fe_nb : fe z l c ≠ 32 := by unfold fe; split <;> decide
theorem nbE_fc : ∀ c, nbE (fm (fc z l) c 0)
  | 0 => Or.inl rfl
  | c + 1 => Or.inr ⟨fm (fc z l) c 0 ++ fs z l c, fe z l c, fe_nb, by rw [fm_snoc, Nat.zero_add, List.append_assoc]; rfl⟩
theorem mRs_T (hq : 1 ≤ q) : ∀ c, mRs z l q c = tkC q 0 (fm (fc z l) c 0)
  | 0 => by
    show 0 = tkN q 0
    rw [tkN_0 hq]
  | c + 1 => by
    simp only [mRs]
    rw [fm_snoc, tkC_cat hq (nbE_fc c), Nat.zero_add, mRs_T hq c, sRs_T hq _ _ (by omega), Nat.sub_zero]
    show _ = _ + tkC q 0 (fs z l c ++ [fe z l c])
    rw [tkC_app fe_nb]
    show _ = _ + (_ + tkN q 0)
    rw [tkN_0 hq, Nat.add_zero]
    rfl
end p16
