section w5
variable {g : zG} {hh : zH} {F F' z : Nat → Nat} {S : Int64} {A A' : Nat → Nat → Nat} {X : Nat → Int32} {n : Nat} {f : Nat → Int32} {l c b : Nat}
/-! the reference's rows against the class's: they agree where blocks are laid -/
def RSm (n : Nat) (A A' : Nat → Nat → Nat) : Prop := ∀ i b, 6 ≤ i → i ≤ 12 → b < n → A i b = A' i b
theorem mLg_cg (hv : mCov A z n) (h : RSm n A A') (hl : l < z 0) : mLg A z n l = mLg A' z n l := by
  unfold mLg
  rw [mX_cg hv h (fun k hk => ⟨hl, by omega⟩)]
theorem mLo_cg (hv : mCov A z n) (h : RSm n A A') : ∀ {l : Nat}, l ≤ z 0 → mLo A z n l = mLo A' z n l
  | 0, _ => rfl
  | l + 1, hl => by
    simp only [mLo]
    rw [mLo_cg hv h (show l ≤ z 0 by omega), mLg_cg hv h (by omega)]
theorem mLnn_cg (hv : mCov A z n) (h : RSm n A A') (hl : l < z 0) (k : Nat) : mLn_ A z n l k = mLn_ A' z n l k := by
  match k with
  | 0 => rfl
  | 1 => exact mLg_cg hv h hl
  | 2 => rfl
  | k + 3 => rfl
theorem mOf_lt (e : mOf A z l c n = some b) : b < n := by
  unfold mOf at e
  split at e
  · exact bOf_lt e
  · cases e
theorem mSh_cg {o : Option Nat} (h : RSm n A A') (h8 : F 8 = F' 8) (ho : ∀ b, o = some b → b < n) : mSh F A z l c o = mSh F' A' z l c o := by
  cases o with
  | none => rfl
  | some b =>
    have hb := ho b rfl
    simp only [mSh]
    rw [h 9 b (by omega) (by omega) hb, h 11 b (by omega) (by omega) hb, h 12 b (by omega) (by omega) hb, h8]
theorem mCl_cg (hv : mCov A z n) (h : RSm n A A') (h8 : F 8 = F' 8) (h13 : F 13 = n) (h13' : F' 13 = n) (hl : l < z 0) (hc : c < z (1 + l)) (k : Nat) : mCl F A z l c k = mCl F' A' z l c k := by
  match k with
  | 0 => rfl
  | 1 => rfl
  | 2 =>
    show nI (mX A z (F 13) l c) = nI (mX A' z (F' 13) l c)
    rw [h13, h13', mX_cg hv h (fun k hk => ⟨hl, by omega⟩)]
  | 3 =>
    show mSh F A z l c (mOf A z l c (F 13)) = mSh F' A' z l c (mOf A' z l c (F' 13))
    rw [h13, h13', ← mOf_cg h]
    exact mSh_cg h h8 (fun b e => mOf_lt e)
  | k + 4 =>
    show oI (mOf A z l c (F 13)) = oI (mOf A' z l c (F' 13))
    rw [h13, h13', mOf_cg h]
theorem mCn_cg (hv : mCov A z n) (h : RSm n A A') (h5 : F 5 = F' 5) (h6 : F 6 = F' 6) (h13 : F 13 = n) (h13' : F' 13 = n) (k : Nat) : mCn F A z k = mCn F' A' z k := by
  match k with
  | 0 => rfl
  | 1 => rfl
  | 2 => rfl
  | 3 => exact h13.trans h13'.symm
  | 4 => rfl
  | 5 => rfl
  | 6 =>
    show mLo A z (F 13) (z 0) = mLo A' z (F' 13) (z 0)
    rw [h13, h13', mLo_cg hv h (Nat.le_refl _)]
  | 7 => exact h5
  | k + 8 => exact h6
theorem mHt_cg {q : Nat} (hv : mCov A z n) (h : RSm n A A') (hl : l < z 0) : ∀ {c : Nat}, c ≤ z (1 + l) → mHt A z n l q c = mHt A' z n l q c
  | 0, _ => rfl
  | c + 1, hc => by
    simp only [mHt]
    rw [mX_cg hv h (fun k hk => ⟨hl, by omega⟩), mHt_cg hv h hl (show c ≤ z (1 + l) by omega)]
theorem bTc_cg (h : RSm n A A') : ∀ {b : Nat}, b ≤ n → bTc A l b = bTc A' l b
  | 0, _ => rfl
  | b + 1, hb => by
    simp only [bTc]
    rw [bTc_cg h (show b ≤ n by omega), h 7 b (by omega) (by omega) (by omega), h 8 b (by omega) (by omega) (by omega)]
theorem mBn_cg {c f t : Nat} (h : RSm n A A') (hb : b < n) (k : Nat) : mBn A z b c f t k = mBn A' z b c f t k := by
  match k with
  | 0 => exact h 6 b (by omega) (by omega) hb
  | 1 => exact h 7 b (by omega) (by omega) hb
  | 2 => exact h 8 b (by omega) (by omega) hb
  | 3 => exact h 12 b (by omega) (by omega) hb
  | 4 => exact h 9 b (by omega) (by omega) hb
  | 5 => exact h 10 b (by omega) (by omega) hb
  | 6 => rfl
  | k + 7 => exact h 11 b (by omega) (by omega) hb
theorem hF_cg {a a' : Nat → Int64} {s s' : Int64} (hs : s = s') : ∀ {m : Nat}, (∀ k, k < m → a k = a' k) → hF a m s = hF a' m s'
  | 0, _ => hs
  | m + 1, h => by
    simp only [hF]
    rw [hF_cg hs (fun k hk => h k (by omega)), h m (by omega)]
theorem hC_cg (hv : mCov A z n) (h : RSm n A A') (h8 : F 8 = F' 8) (h13 : F 13 = n) (h13' : F' 13 = n) (hl : l < z 0) {s s' : Int64} (hs : s = s') : ∀ {c : Nat}, c ≤ z (1 + l) → hC F A z l c s = hC F' A' z l c s'
  | 0, _ => hs
  | c + 1, hc => by
    simp only [hC]
    refine hF_cg (hF_cg (hC_cg hv h h8 h13 h13' hl hs (show c ≤ z (1 + l) by omega)) (fun k _ => ?_)) (fun k _ => rfl)
    rw [mCl_cg hv h h8 h13 h13' hl (by omega)]
theorem hL_cg (hv : mCov A z n) (h : RSm n A A') (h8 : F 8 = F' 8) (h13 : F 13 = n) (h13' : F' 13 = n) (hl : l < z 0) {s s' : Int64} (hs : s = s') : hL F A z l s = hL F' A' z l s' := by
  unfold hL
  refine hC_cg hv h h8 h13 h13' hl (hF_cg hs (fun k _ => ?_)) (Nat.le_refl _)
  rw [h13, h13', mLnn_cg hv h hl]
theorem hLs_cg (hv : mCov A z n) (h : RSm n A A') (h8 : F 8 = F' 8) (h13 : F 13 = n) (h13' : F' 13 = n) {s s' : Int64} (hs : s = s') : ∀ {l : Nat}, l ≤ z 0 → hLs F A z l s = hLs F' A' z l s'
  | 0, _ => hs
  | l + 1, hl => by
    simp only [hLs]
    exact hL_cg hv h h8 h13 h13' (by omega) (hLs_cg hv h h8 h13 h13' hs (by omega))
theorem hBs_cg (h : RSm n A A') {s s' : Int64} (hs : s = s') : ∀ {b : Nat}, b ≤ n → hBs A z b s = hBs A' z b s'
  | 0, _ => hs
  | b + 1, hb => by
    simp only [hBs]
    rw [hBs_cg h hs (show b ≤ n by omega), ← h 6 b (by omega) (by omega) (by omega), ← h 7 b (by omega) (by omega) (by omega), ← h 8 b (by omega) (by omega) (by omega)]
    rw [hF_cg rfl (fun k _ => by rw [mBn_cg h (show b < n by omega)])]
theorem RSm_of (h8 : F' 8 = F 8) (h9 : F' 9 = F 9) (h10 : F' 10 = F 10) : RSm (nbb z) (pRR F z A) (mL F' z A (bAll z 7)) := fun i b h1 h2 hb => by
  rw [mL_pR h1 h2 hb, h8, h9, h10]
theorem blk_ex (hb : b < nbb z) : ∃ c f t, (bAll z 7)[b]? = some (c, f, t) ∧ pRR F z A 6 b = c ∧ pRR F z A 7 b = f ∧ pRR F z A 8 b = t := by
  rcases h9 : (bAll z 7)[b] with ⟨c, f, t⟩
  have hP : (bAll z 7)[b]? = some (c, f, t) := by rw [List.getElem?_eq_getElem hb, h9]
  refine ⟨c, f, t, hP, ?_, ?_, ?_⟩
  · show pR z (A 4) (F 8) (F 9) (F 10) 6 b = c; unfold pR; rw [hP]; simp
  · show pR z (A 4) (F 8) (F 9) (F 10) 7 b = f; unfold pR; rw [hP]; simp
  · show pR z (A 4) (F 8) (F 9) (F 10) 8 b = t; unfold pR; rw [hP]; simp
end w5
