section w9
variable {g : zG} {hh : zH} {F F' z z2 : Nat → Nat} {S : Int64} {A A' : Nat → Nat → Nat} {X : Nat → Int32} {n : Nat} {f : Nat → Int32} {l c b q : Nat}
/-! ifTyped -/
theorem psg_hi {v j : Nat} (hl : l < 24) (hc : c < 8) (h16 : z (25 + 8 * l + c) < 16) (hq : q ≤ z (25 + 8 * l + c)) (hj : 3289 ≤ j) : mpsg z l c q v j = z j := by
  unfold mpsg
  rw [va_upN (by omega), va_upN (by omega)]
  unfold mshs
  rw [if_neg (by omega)]
theorem opc_hi {j : Nat} (hl : l < 24) (h8 : z (1 + l) < 8) (hc : c ≤ 7) (hj : 3289 ≤ j) : mopc z l c j = z j := by
  unfold mopc
  rw [va_upN (by omega), va_upN (by omega)]
  unfold mshc
  rw [if_neg (by omega), if_neg (by omega)]
theorem gt_hi {a t u j : Nat} (hl : l < 24) (hc : c < 8) (ht : t < 24) (hu : u < 8) (hf : z (25 + 8 * t + u) + (z (25 + 8 * l + c) - a) ≤ 16) (hj : 3289 ≤ j) : mgt z l c a t u j = z j := by
  unfold mgt
  rw [va_upN (by omega), va_upN (by omega)]
  unfold mtail
  rw [if_neg (by omega)]
theorem opl_hi {j : Nat} (h24 : z 0 < 24) (hl : l ≤ z 0) (hj : 3289 ≤ j) : mopl z l j = z j := by
  unfold mopl
  rw [va_upN (by omega), va_upN (by omega), va_upN (by omega)]
  unfold mshf
  rw [if_neg (by omega), if_neg (by omega), if_neg (by omega)]
theorem pe_hi {k j : Nat} (hl : l < 23) (hk : k ≤ 8) (hj : 3289 ≤ j) : mpe z l c k j = z j := by
  unfold mpe
  rw [if_neg (by omega), if_neg (by omega)]
theorem ptb_hi {j : Nat} (hz : tOK z) (hl : l < z 0) (hc : c < z (1 + l)) (h8 : z (1 + l) < 8) (hj : 3289 ≤ j) : mptb z l c q j = z j := by
  have h24 := hz.ok.2.1
  have h16 := hz.ok.2.2.2 l c hl hc
  have a1 : mopc z l (c + 1) (25 + 8 * l + c) = z (25 + 8 * l + c) := (mopc_a (by omega) (by omega) h8 (by omega)).1
  have a2 : mopc z l (c + 1) (25 + 8 * l + (c + 1)) = 0 := mopc_n (by omega) h8 (by omega)
  unfold mptb
  rw [gt_hi (by omega) (by omega) (by omega) (by omega) (by omega) hj, opc_hi (by omega) h8 (by omega) hj]
theorem pen_hi {j : Nat} (hz : tOK z) (hl : l < z 0) (hc : c < z (1 + l)) (h24 : z 0 < 24) (hj : 3289 ≤ j) : mpen z l c q j = z j := by
  have h8 := (hz.gl hl).2.1
  have h16 := hz.ok.2.2.2 l c hl hc
  have b1 := mopl_a (z := z) (l := l + 1) (i := l) (by omega) (by omega) h24
  have b2 := mopl_n (z := z) (l := l + 1) (by omega) h24
  have a1 : mopl z (l + 1) (25 + 8 * l + c) = z (25 + 8 * l + c) := (b1.2 c (by omega)).1
  unfold mpen
  rw [va_upN (by omega), va_upN (by omega), pe_hi (by omega) h8 hj, gt_hi (by omega) (by omega) (by omega) (by omega) (by omega) hj, opl_hi h24 (by omega) hj]
theorem msd_back {u : Nat → Nat} (h : ∀ j, 3289 ≤ j → z2 j = z j) : msd z2 (msd u z 3289) 3289 = z := by
  funext j
  unfold msd
  by_cases hj : j < 3289
  · rw [if_pos hj, if_pos hj]
  · rw [if_neg hj, h j (by omega)]
theorem vS_cut {a : Nat → Nat} {m : Nat} : ∀ {n : Nat}, m ≤ n → (∀ k, m ≤ k → k < n → a k = 0) → vS a n = vS a m
  | 0, h, _ => by rw [show m = 0 by omega]
  | n + 1, h, h0 => by
    by_cases e : m = n + 1
    · rw [e]
    · simp only [vS]
      rw [vS_cut (show m ≤ n by omega) (fun k h1 h2 => h0 k h1 (by omega)), h0 n (by omega) (by omega)]
      rfl
theorem vS_nul {a : Nat → Nat} {n : Nat} (h : ∀ k, k < n → a k = 0) : vS a n = 0 := vS_cut (m := 0) (Nat.zero_le _) (fun k _ hk => h k hk)
theorem nI_nm1 {a : Nat} (ha : a < 2 ^ 31) : nI a ≠ -1 := fun e => by
  have := congrArg Int32.toInt e
  rw [nI_toInt ha] at this
  have h2 : (-1 : Int32).toInt = -1 := by decide
  omega
theorem RSm_4 {A9 : Nat → Nat → Nat} (h4 : A9 4 = A 4) (h8 : F' 8 = F 8) (h9 : F' 9 = F 9) (h10 : F' 10 = F 10) : RSm (nbb z) (pRR F z A) (mL F' z A9 (bAll z 7)) := fun i b h1 h2 hb => by
  rw [mL_pR h1 h2 hb, h4, h8, h9, h10]
theorem ift_v {M M2 R R2 : Nat → Nat → Nat} {nb nb2 : Nat} (hz : mOK z) (hz2 : mOK z2) (hv : mCov R z nb) (hv2 : mCov R2 z2 nb2) (h : RSm nb R M) (h2 : RSm nb2 R2 M2) (hR : ∀ i j, R i j < 2 ^ 20) (hR2 : ∀ i j, R2 i j < 2 ^ 20) :
    mCx (mOx M z nb X (8 * z 0)) M2 z2 nb2 (z 0) = vS (fun i9 => vS (cOx z z2 R R2 nb nb2 i9) (z (1 + i9))) (z 0) := by
  have hc8 : ∀ l, l < z 0 → z (1 + l) ≤ 8 := fun l hl => (hz.2.2.1 l hl).2
  have hc82 : ∀ l, l < z2 0 → z2 (1 + l) ≤ 8 := fun l hl => (hz2.2.2.1 l hl).2
  unfold mCx
  have e1 : vS (fun i9 => vS (cOx z z2 R R2 nb nb2 i9) (z (1 + i9))) (z 0) = vS (fun i9 => vS (cOx z z2 R R2 nb nb2 i9) (z (1 + i9))) (min (z 0) (z2 0)) := vS_cut (by omega) (fun k h1 h3 => vS_nul (fun c _ => by
    unfold cOx
    rw [if_neg (fun q => by have := q.1; omega)]))
  rw [e1]
  refine vS_cg (fun l hl => ?_)
  have l1 : l < z 0 := by omega
  have l2 : l < z2 0 := by omega
  have c1 := hc8 l l1
  have c2 := hc82 l l2
  have e2 : vS (cOx z z2 R R2 nb nb2 l) (z (1 + l)) = vS (cOx z z2 R R2 nb nb2 l) (min (z (1 + l)) (z2 (1 + l))) := vS_cut (by omega) (fun k h1 h3 => by
    unfold cOx
    rw [if_neg (fun q => by have := q.2.1; omega)])
  have eX : ∀ c, c < 8 → mOx M z nb X (8 * z 0) (8 * l + c) = if c < z (1 + l) then nI (mX M z nb l c) else -1 := fun c hc => by
    unfold mOx
    rw [if_pos (by omega), show (8 * l + c) % 8 = c by omega, show (8 * l + c) / 8 = l by omega]
  have e3 : vS (mCd (mOx M z nb X (8 * z 0)) M2 z2 nb2 l) (z2 (1 + l)) = vS (mCd (mOx M z nb X (8 * z 0)) M2 z2 nb2 l) (min (z (1 + l)) (z2 (1 + l))) := vS_cut (by omega) (fun k h1 h3 => by
    unfold mCd
    rw [eX k (by omega), if_neg (show ¬ k < z (1 + l) by omega), if_neg (fun q => q.1 rfl)])
  rw [e2, e3]
  refine vS_cg (fun c hc => ?_)
  unfold mCd cOx
  rw [eX c (by omega), if_pos (show c < z (1 + l) by omega)]
  have x1 := mX_cg (z := z) (l := l) (c := c) hv h (fun k hk => ⟨l1, by omega⟩)
  have x2 := mX_cg (z := z2) (l := l) (c := c) hv2 h2 (fun k hk => ⟨l2, by omega⟩)
  rw [← x1, ← x2]
  have b1 := mX_le (A := R) (z := z) (n := nb) (l := l) hR c
  have b2 := mX_le (A := R2) (z := z2) (n := nb2) (l := l) hR2 c
  have b3 : c * 2 ^ 20 ≤ 8 * 2 ^ 20 := Nat.mul_le_mul_right _ (by omega)
  by_cases e : mX R2 z2 nb2 l c = mX R z nb l c
  · rw [if_neg (fun q => q.2 (by rw [e])), if_neg (fun q => q.2.2 e)]
  · rw [if_pos ⟨nI_nm1 (by omega), fun q => e ((nI_eq (by omega) (by omega)).mp q).symm⟩, if_pos ⟨l2, by omega, e⟩]
theorem P_ift {as : List Value} (hJ : JJ n f hh F S z A X) (hT : tOK z2) (hi : ∀ j, 3289 ≤ j → z2 j = z j) (hW : WR tyI g zX9_ifTyped zL_ifTyped as [2, 0, 1])
    (hc : Zm g zX9_ifTyped (.ref 1 :: as) hh 0 0 (fun r h' => r = .inl (some (.int (nI (vS (fun i9 => vS (cOx z z2 (pRR F z A) (pRR F z2 A) (nbb z) (nbb z2) i9) (z (1 + i9))) (z 0))))) ∧ INV h' F z A ∧ FRm hh h'))
    (hm : ∀ h, Zx g zX10_ifTyped (.ref 50 :: as) (mhp h F S z A X) (some (.int (nI (mCx (mOx (mL (va_up F 0 0) z A (bAll z 7)) z (bAll z 7).length X (8 * z 0)) (mL (va_up (va_up F 0 0) 13 (bAll z 7).length) z2 (va_up (mL (va_up F 0 0) z A (bAll z 7)) 1 (msd (mL (va_up F 0 0) z A (bAll z 7) 1) z 3289)) (bAll z2 7)) z2 (bAll z2 7).length (z 0))))) (mhp h (va_up (va_up (va_up F 0 0) 13 (bAll z 7).length) 13 (bAll z2 7).length) S (msd z2 (msd (mL (va_up F 0 0) z A (bAll z 7) 1) z 3289) 3289) (mL (va_up (va_up F 0 0) 13 (bAll z 7).length) z2 (va_up (mL (va_up F 0 0) z A (bAll z 7)) 1 (msd (mL (va_up F 0 0) z A (bAll z 7) 1) z 3289)) (bAll z2 7)) (mOx (mL (va_up F 0 0) z A (bAll z 7)) z (bAll z 7).length X (8 * z 0)))) : PR tyI g zL_ifTyped zX10_ifTyped as n f hh := by
  obtain ⟨pf, now, p, Z, sz, hS⟩ := ST.ex hJ.2.1
  have hAB := hJ.2.2.1
  obtain ⟨-, -, o8, o9, o10, o11, o4⟩ := hS.fo
  have hk := pR_ok (F := F) (A := A) hS.tk.ok o4 o11 o9 o8
  have hk2 := pR_ok (F := F) (A := A) hT.ok o4 o11 o9 o8
  have e4 : (va_up (mL (va_up F 0 0) z A (bAll z 7)) 1 (msd (mL (va_up F 0 0) z A (bAll z 7) 1) z 3289)) 4 = A 4 := mL_lo _ (by omega)
  have ev := ift_v (X := X) hS.tk.ok hT.ok hk.cov hk2.cov (RSm_of (F := F) (F' := va_up F 0 0) (A := A) rfl rfl rfl) (RSm_4 (F := F) (F' := va_up (va_up F 0 0) 13 (bAll z 7).length) (A := A) e4 rfl rfl rfl) hk.bd hk2.bd
  have hM : AB (mL (va_up F 0 0) z A (bAll z 7)) := mL_b (F := va_up F 0 0) hS.tk.ok o4 o11 o9 o8 hAB
  have hM1 : AB (va_up (mL (va_up F 0 0) z A (bAll z 7)) 1 (msd (mL (va_up F 0 0) z A (bAll z 7) 1) z 3289)) := va_b hM (msd_b (hM 1) (fun j => Nat.lt_trans (hS.tk.bd j) (by decide)))
  simp only [msd_back hi] at hm
  rw [← ev] at hc
  exact PR_ok (F1 := F) (A1 := A) hJ wfI hW (by omega) (by omega) hc hm rfl ⟨rfl, rfl, rfl, rfl, rfl, rfl⟩ ⟨(mL_lo _ (by omega)).trans (mL_lo _ (by omega)), (mL_lo _ (by omega)).trans (mL_lo _ (by omega)), (mL_lo _ (by omega)).trans (mL_lo _ (by omega)), (mL_lo _ (by omega)).trans (mL_lo _ (by omega))⟩ (mL_b (F := va_up (va_up F 0 0) 13 (bAll z 7).length) hT.ok (fun j => by rw [e4]; exact o4 j) o11 o9 o8 hM1)
end w9
