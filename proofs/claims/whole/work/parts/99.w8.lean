section w8
variable {g : zG} {hh : zH} {F F' z : Nat → Nat} {S : Int64} {A A' : Nat → Nat → Nat} {X : Nat → Int32} {n : Nat} {f : Nat → Int32} {l c b q : Nat}
/-! shown: a cell's signs stand in its field -/
theorem bMax_acc {v : Nat → Nat} : ∀ (m l a : Nat), a ≤ bMax v m l a
  | 0, _, _ => Nat.le_refl _
  | m + 1, l, a => by
    simp only [bMax]
    have := bMax_acc (v := v) m (l + 1) (max a (v l))
    omega
theorem bMax_ge {v : Nat → Nat} {j : Nat} : ∀ (m l a : Nat), l ≤ j → j < l + m → v j ≤ bMax v m l a
  | 0, l, a, h1, h2 => absurd h2 (by omega)
  | m + 1, l, a, h1, h2 => by
    simp only [bMax]
    by_cases e : l = j
    · subst e
      have := bMax_acc (v := v) m (l + 1) (max a (v l))
      omega
    · exact bMax_ge m (l + 1) _ (by omega) (by omega)
theorem bOf_sp {A : Nat → Nat → Nat} {l c : Nat} : ∀ {n b : Nat}, bOf A l c n = some b → A 6 b = c ∧ A 7 b ≤ l ∧ l ≤ A 8 b
  | 0, _, h => by cases h
  | n + 1, b, h => by
    simp only [bOf] at h
    split at h
    · rename_i q
      cases h
      exact q
    · exact bOf_sp h
theorem up_ge {x d : Nat} (hd : 1 ≤ d) : x ≤ (x + d - 1) / d * d := by
  have h1 := Nat.div_add_mod (x + d - 1) d
  have h2 := Nat.mod_lt (x + d - 1) (show d > 0 by omega)
  rw [Nat.mul_comm] at h1
  omega
theorem wid_ge {cn lw pd gr : Nat} (hg : 1 ≤ gr) : cn + pd ≤ bWid cn lw pd gr := by
  have := up_ge (x := max cn lw + pd) hg
  unfold bWid
  omega
theorem fld {nb : Nat} (h10 : 1 ≤ F 10) (h8 : F' 8 = F 8) (hnb : nb = nbb z) (hw : ∀ i j, pRR F z A i j < 2 ^ 20) (hb : bOf (pRR F z A) l c nb = some b) : ∃ s, mSh F' (pRR F z A) z l c (some b) = nI s ∧ s + z (25 + 8 * l + c) ≤ pRR F z A 12 b := by
  obtain ⟨r6, r7, r8⟩ := bOf_sp hb
  have hbn := bOf_lt hb
  subst hnb
  obtain ⟨c9, f9, t, hP, e6, e7, e8⟩ := blk_ex (F := F) (A := A) hbn
  have ec : c9 = c := e6.symm.trans r6
  subst ec
  rw [e7] at r7
  rw [e8] at r8
  have e9 : pRR F z A 9 b = bAl (A 4 c9) (mK z c9) f9 t := by show pR z (A 4) (F 8) (F 9) (F 10) 9 b = _; unfold pR; rw [hP]; simp
  have e11 : pRR F z A 11 b = bPart (bAl (A 4 c9) (mK z c9) f9 t) (mK z c9) (mN z c9) (mH z c9) f9 t := by show pR z (A 4) (F 8) (F 9) (F 10) 11 b = _; unfold pR; rw [hP]; simp
  have e12 : pRR F z A 12 b = bWid (bCont (bAl (A 4 c9) (mK z c9) f9 t) (mK z c9) (mN z c9) (mH z c9) f9 t) (F 9) (F 8) (F 10) := by show pR z (A 4) (F 8) (F 9) (F 10) 12 b = _; unfold pR; rw [hP]; simp
  have w2 := hw 12 b
  have h1 := wid_ge (cn := bCont (bAl (A 4 c9) (mK z c9) f9 t) (mK z c9) (mN z c9) (mH z c9) f9 t) (lw := F 9) (pd := F 8) (gr := F 10) h10
  rw [← e12] at h1
  have g1 := bMax_ge (v := fun l => if bAl (A 4 c9) (mK z c9) f9 t = 3 ∧ mK z c9 l = 1 then mH z c9 l else 0) (j := l) (t + 1 - f9) f9 0 r7 (by omega)
  have g2 := bMax_ge (v := fun l => if bAl (A 4 c9) (mK z c9) f9 t = 3 ∧ mK z c9 l = 1 then 0 else mN z c9 l) (j := l) (t + 1 - f9) f9 0 r7 (by omega)
  have g3 : (if bAl (A 4 c9) (mK z c9) f9 t = 3 ∧ mK z c9 l = 1 then mN z c9 l - mH z c9 l else 0) ≤ bPart (bAl (A 4 c9) (mK z c9) f9 t) (mK z c9) (mN z c9) (mH z c9) f9 t := bMax_ge (v := fun l => if bAl (A 4 c9) (mK z c9) f9 t = 3 ∧ mK z c9 l = 1 then mN z c9 l - mH z c9 l else 0) (j := l) (t + 1 - f9) f9 0 r7 (by omega)
  have g4 : bMax (fun l => if bAl (A 4 c9) (mK z c9) f9 t = 3 ∧ mK z c9 l = 1 then mH z c9 l else 0) (t + 1 - f9) f9 0 + bPart (bAl (A 4 c9) (mK z c9) f9 t) (mK z c9) (mN z c9) (mH z c9) f9 t ≤ bCont (bAl (A 4 c9) (mK z c9) f9 t) (mK z c9) (mN z c9) (mH z c9) f9 t := Nat.le_max_left _ _
  have g5 : bMax (fun l => if bAl (A 4 c9) (mK z c9) f9 t = 3 ∧ mK z c9 l = 1 then 0 else mN z c9 l) (t + 1 - f9) f9 0 ≤ bCont (bAl (A 4 c9) (mK z c9) f9 t) (mK z c9) (mN z c9) (mH z c9) f9 t := Nat.le_max_right _ _
  rw [← e11, ← e9] at g4
  rw [← e9] at g1 g2 g5 h1
  rw [← e9] at g3
  have g3' : (if pRR F z A 9 b = 3 ∧ mK z c9 l = 1 then mN z c9 l - mH z c9 l else 0) ≤ pRR F z A 11 b := by rw [e11, ← e9]; exact g3
  simp only [mSh]
  rw [h8]
  by_cases q0 : pRR F z A 9 b = 0
  · rw [if_pos q0]
    rw [if_neg (by omega)] at g2
    refine ⟨0, rfl, ?_⟩
    have : mN z c9 l = z (25 + 8 * l + c9) := rfl
    omega
  · rw [if_neg q0]
    by_cases q3 : pRR F z A 9 b = 3 ∧ mK z c9 l = 1
    · rw [if_pos q3]
      rw [if_pos q3] at g1 g3'
      have : mN z c9 l = z (25 + 8 * l + c9) := rfl
      refine ⟨pRR F z A 12 b - F 8 - pRR F z A 11 b - mH z c9 l, ?_, by omega⟩
      rw [pk_sub (by omega), pk_sub (by omega), pk_sub (by omega)]
    · rw [if_neg q3]
      rw [if_neg q3] at g2
      have e0 : mN z c9 l = z (25 + 8 * l + c9) := rfl
      by_cases q2 : pRR F z A 9 b = 2
      · rw [if_pos q2]
        refine ⟨(pRR F z A 12 b - F 8 - z (25 + 8 * l + c9)) / 2, ?_, by omega⟩
        rw [pk_sub (by omega), pk_sub (by omega), pk_div (by omega) (by omega) (by omega)]
      · rw [if_neg q2]
        refine ⟨pRR F z A 12 b - F 8 - z (25 + 8 * l + c9), ?_, by omega⟩
        rw [pk_sub (by omega), pk_sub (by omega)]
theorem at_int {x s : Nat} (hq : q < 2 ^ 31) (hx : x < 2 ^ 29) (hs : s < 2 ^ 29) : (nI q - nI x - nI s).toInt = (q : Int) - x - s := by
  have e1 : (nI q - nI x).toInt = (q : Int) - x := by
    rw [Int32.toInt_sub, nI_toInt hq, nI_toInt (by omega)]
    exact Int.bmod_eq_of_le_mul_two (by omega) (by omega)
  rw [Int32.toInt_sub, e1, nI_toInt (by omega)]
  exact Int.bmod_eq_of_le_mul_two (by omega) (by omega)
/-- the field of cell c, which is not the line's last: its signs end before the next cell -/
theorem fld_x (hz : mOK z) (h4 : ∀ j, A 4 j ≤ 3) (h10 : 1 ≤ F 10) (hg8 : F 10 ≤ 8) (hlw : F 9 ≤ 20) (hpd : F 8 ≤ 8) (h8 : F' 8 = F 8) (hl : l < z 0) (hc : c + 1 < z (1 + l)) : ∃ s, mSh F' (pRR F z A) z l c (mOf (pRR F z A) z l c (nbb z)) = nI s ∧ s < 2 ^ 20 ∧ mX (pRR F z A) z (nbb z) l c + s + z (25 + 8 * l + c) ≤ mX (pRR F z A) z (nbb z) l (c + 1) := by
  have hv := (pR_ok (F := F) (A := A) hz h4 hg8 hlw hpd).cov
  have hw := pR_le (F := F) (A := A) hz h4 hg8 hlw hpd
  obtain ⟨b, hb⟩ := hv l c ⟨hl, hc⟩
  have eo : mOf (pRR F z A) z l c (nbb z) = some b := by unfold mOf; rw [if_pos ⟨hl, hc⟩, hb]
  obtain ⟨s, s1, s2⟩ := fld (F' := F') h10 h8 rfl hw hb
  have w2 := hw 12 b
  refine ⟨s, by rw [eo]; exact s1, by omega, ?_⟩
  simp only [mX]
  rw [eo]
  show _ ≤ _ + pRR F z A 12 b
  omega
theorem mX_mono {A : Nat → Nat → Nat} {nb : Nat} {a : Nat} : ∀ {c : Nat}, a ≤ c → mX A z nb l a ≤ mX A z nb l c
  | 0, h => by
    have : a = 0 := by omega
    subst this
    exact Nat.le_refl _
  | c + 1, h => by
    by_cases e : a = c + 1
    · subst e
      exact Nat.le_refl _
    · have := mX_mono (A := A) (nb := nb) (show a ≤ c by omega)
      simp only [mX]
      omega
theorem mHt_sp {A : Nat → Nat → Nat} {nb : Nat} : ∀ {m : Nat}, 1 ≤ m → mHt A z nb l q m < m ∧ mX A z nb l (mHt A z nb l q m) ≤ q ∧ ∀ c, mHt A z nb l q m < c → c < m → q < mX A z nb l c
  | 0, h => absurd h (by omega)
  | m + 1, _ => by
    simp only [mHt]
    split
    · rename_i h
      exact ⟨by omega, h, fun c h1 h2 => absurd h2 (by omega)⟩
    · rename_i h
      by_cases e : m = 0
      · subst e
        exact absurd (Nat.zero_le _) h
      · obtain ⟨a1, a2, a3⟩ := mHt_sp (A := A) (nb := nb) (m := m) (by omega)
        refine ⟨by omega, a2, fun c h1 h2 => ?_⟩
        by_cases e2 : c = m
        · subst e2
          omega
        · exact a3 c h1 (by omega)
theorem mAt_cg {x : Int32} (hv : mCov A z n) (h : RSm n A A') (h8 : F 8 = F' 8) (h13 : F 13 = n) (h13' : F' 13 = n) (hl : l < z 0) (hc : c < z (1 + l)) : mAt F A z l x c = mAt F' A' z l x c := by
  unfold mAt
  rw [h13, h13', mX_cg hv h (fun k hk => ⟨hl, by omega⟩), ← mOf_cg h, mSh_cg (F := F) (F' := F') h h8 (fun b e => mOf_lt e)]
theorem mSw_cg {x : Int32} (hv : mCov A z n) (h : RSm n A A') (h8 : F 8 = F' 8) (h13 : F 13 = n) (h13' : F' 13 = n) (hl : l < z 0) : ∀ {c : Nat}, c ≤ z (1 + l) → mSw F A z l x c = mSw F' A' z l x c
  | 0, _ => rfl
  | c + 1, hc => by
    simp only [mSw]
    rw [mAt_cg hv h h8 h13 h13' hl (by omega), mSw_cg hv h h8 h13 h13' hl (by omega)]
theorem mSw_32 {x : Int32} : ∀ {c : Nat}, (∀ k, k < c → ¬ zin (mAt F A z l x k) (z (25 + 8 * l + k))) → mSw F A z l x c = 32
  | 0, _ => rfl
  | c + 1, h => by
    simp only [mSw]
    rw [if_neg (h c (by omega)), mSw_32 (fun k hk => h k (by omega))]
theorem mSw_dn {x : Int32} {c0 : Nat} : ∀ {c : Nat}, c0 ≤ c → (∀ k, c0 ≤ k → k < c → ¬ zin (mAt F A z l x k) (z (25 + 8 * l + k))) → mSw F A z l x c = mSw F A z l x c0
  | 0, h0, _ => by
    have : c0 = 0 := by omega
    subst this
    rfl
  | c + 1, h0, h => by
    by_cases e : c0 = c + 1
    · subst e
      rfl
    · simp only [mSw]
      rw [if_neg (h c (by omega) (by omega)), mSw_dn (show c0 ≤ c by omega) (fun k a b => h k a (by omega))]
theorem P_shown (hJ : JJ n f hh F S z A X) (x y : Int32) : PR tyI g zL_shown zX10_shown [.int x, .int y] n f hh := by
  obtain ⟨pf, now, p, Z, sz, hS⟩ := ST.ex hJ.2.1
  have hAB := hJ.2.2.1
  obtain ⟨-, -, o8, o9, o10, o11, o4⟩ := hS.fo
  have hv := (pR_ok (F := F) (A := A) hS.tk.ok o4 o11 o9 o8).cov
  have hw := pR_le (F := F) (A := A) hS.tk.ok o4 o11 o9 o8
  have h24 := hS.tk.ok.2.1
  by_cases hx : zin x (z 0)
  · obtain ⟨l, hl, rfl⟩ := zin_ex hx (by omega)
    have h8 := (hS.tk.ok.2.2.1 l hl)
    by_cases hy : y < 0
    · exact PR_th (i := 0) (b := nI 0) hJ W_shown rfl (by omega) (q_shown_2 hS hl hy) (fun h => m_shown_1 hS.tk.ok hS.tk.bd o4 o10 o11 o9 o8 _ y (fun q => q.2 hy)) rfl ⟨rfl, rfl, rfl, rfl, rfl, rfl⟩ ⟨mL_lo _ (by omega), mL_lo _ (by omega), mL_lo _ (by omega), mL_lo _ (by omega)⟩ (mL_b (F := va_up F 0 1) hS.tk.ok o4 o11 o9 o8 hAB)
    · obtain ⟨q, hq, rfl⟩ := nn_ex hy
      obtain ⟨a1, a2, a3⟩ := mHt_sp (A := pRR F z A) (z := z) (nb := nbb z) (l := l) (q := q) h8.1
      obtain ⟨c0, hc0⟩ : ∃ c0, mHt (pRR F z A) z (nbb z) l q (z (1 + l)) = c0 := ⟨_, rfl⟩
      rw [hc0] at a1 a2 a3
      have ex : ∀ c, c ≤ 8 → mX (pRR F z A) z (nbb z) l c < 2 ^ 24 := fun c hc => by
        have := mX_le (A := pRR F z A) (z := z) (n := nbb z) (l := l) hw c
        omega
      -- the cells' places: sh is where the signs begin
      have hsh : ∀ c, c < z (1 + l) → ∃ s, mSh (FF F z) (pRR F z A) z l c (mOf (pRR F z A) z l c (nbb z)) = nI s ∧ s < 2 ^ 20 ∧ (c + 1 < z (1 + l) → mX (pRR F z A) z (nbb z) l c + s + z (25 + 8 * l + c) ≤ mX (pRR F z A) z (nbb z) l (c + 1)) := fun c hc => by
        by_cases e : c + 1 < z (1 + l)
        · obtain ⟨s, s1, s2, s3⟩ := fld_x (F' := FF F z) (c := c) hS.tk.ok o4 o10 o11 o9 o8 rfl hl e
          exact ⟨s, s1, s2, fun _ => s3⟩
        · refine ⟨0, ?_, by omega, fun q => absurd q e⟩
          have : mOf (pRR F z A) z l c (nbb z) = none := by unfold mOf; rw [if_neg (fun q => e q.2)]
          rw [this]
          rfl
      have hat : ∀ c, c < z (1 + l) → ∃ s, s < 2 ^ 20 ∧ (mAt (FF F z) (pRR F z A) z l (nI q) c).toInt = (q : Int) - (mX (pRR F z A) z (nbb z) l c : Nat) - (s : Nat) ∧ (c + 1 < z (1 + l) → mX (pRR F z A) z (nbb z) l c + s + z (25 + 8 * l + c) ≤ mX (pRR F z A) z (nbb z) l (c + 1)) := fun c hc => by
        obtain ⟨s, s1, s2, s3⟩ := hsh c hc
        refine ⟨s, s2, ?_, s3⟩
        unfold mAt
        show (nI q - nI (mX (pRR F z A) z (nbb z) l c) - mSh (FF F z) (pRR F z A) z l c (mOf (pRR F z A) z l c (nbb z))).toInt = _
        rw [s1]
        have := ex c (by omega)
        exact at_int hq (by omega) (by omega)
      have up : ∀ k, c0 + 1 ≤ k → k < z (1 + l) → ¬ zin (mAt (FF F z) (pRR F z A) z l (nI q) k) (z (25 + 8 * l + k)) := fun k h1 h2 h3 => by
        obtain ⟨s, s1, s2, s3⟩ := hat k h2
        have := a3 k (by omega) h2
        have := h3.1
        omega
      have dn : ∀ k, k < c0 → ¬ zin (mAt (FF F z) (pRR F z A) z l (nI q) k) (z (25 + 8 * l + k)) := fun k h1 h3 => by
        obtain ⟨s, s1, s2, s3⟩ := hat k (by omega)
        have t1 := s3 (by omega)
        have t2 := mX_mono (A := pRR F z A) (z := z) (l := l) (nb := nbb z) (show k + 1 ≤ c0 by omega)
        have := h3.2
        omega
      have eA : cAt F z A l c0 q = mAt (FF F z) (pRR F z A) z l (nI q) c0 := by
        unfold cAt mAt
        rw [mSh_cg (n := nbb z) (F := fun _ => F 8) (F' := FF F z) (A := pRR F z A) (A' := pRR F z A) (fun _ _ _ _ _ => rfl) rfl (fun b e => mOf_lt e)]
        rfl
      have eR : mSw (va_up (va_up F 0 0) 13 (bAll z 7).length) (mL (va_up F 0 0) z A (bAll z 7)) z l (nI q) (z (1 + l)) = mSw (FF F z) (pRR F z A) z l (nI q) (c0 + 1) := by
        rw [← mSw_cg (F := FF F z) (F' := va_up (va_up F 0 0) 13 (bAll z 7).length) (A' := mL (va_up F 0 0) z A (bAll z 7)) hv (RSm_of (F := F) rfl rfl rfl) rfl rfl rfl hl (Nat.le_refl _)]
        exact mSw_dn (by omega) up
      have eD := mSw_32 (F := FF F z) (A := pRR F z A) (z := z) (l := l) (x := nI q) (c := c0) dn
      simp only [mSw] at eR
      rw [eD] at eR
      by_cases hz0 : zin (mAt (FF F z) (pRR F z A) z l (nI q) c0) (z (25 + 8 * l + c0))
      · have h16 := hS.tk.ok.2.2.2 l c0 hl a1
        obtain ⟨o, ho, eo⟩ := zin_ex hz0 (by omega)
        rw [if_pos hz0, eo, nI_clamp (by omega)] at eR
        have hc := q_shown_a (g := g) hS hl hq hc0 a1 (eA.trans eo) ho
        rw [← eR] at hc
        exact PR_qu hJ wfI W_shown hc (fun h => m_shown_0 hS.tk.ok hS.tk.bd o4 o10 o11 o9 o8 hAB hl hq) rfl ⟨rfl, rfl, rfl, rfl, rfl, rfl⟩ ⟨mL_lo _ (by omega), mL_lo _ (by omega), mL_lo _ (by omega), mL_lo _ (by omega)⟩ (mL_b (F := va_up F 0 0) hS.tk.ok o4 o11 o9 o8 hAB)
      · rw [if_neg hz0] at eR
        have hc := q_shown_b (g := g) hS hl hq hc0 a1 (by rw [eA]; exact hz0)
        rw [← eR] at hc
        exact PR_qu hJ wfI W_shown hc (fun h => m_shown_0 hS.tk.ok hS.tk.bd o4 o10 o11 o9 o8 hAB hl hq) rfl ⟨rfl, rfl, rfl, rfl, rfl, rfl⟩ ⟨mL_lo _ (by omega), mL_lo _ (by omega), mL_lo _ (by omega), mL_lo _ (by omega)⟩ (mL_b (F := va_up F 0 0) hS.tk.ok o4 o11 o9 o8 hAB)
  · exact PR_th (i := 0) (b := nI 0) hJ W_shown rfl (by omega) (q_shown_1 hS hx) (fun h => m_shown_1 hS.tk.ok hS.tk.bd o4 o10 o11 o9 o8 x y (fun q => hx q.1)) rfl ⟨rfl, rfl, rfl, rfl, rfl, rfl⟩ ⟨mL_lo _ (by omega), mL_lo _ (by omega), mL_lo _ (by omega), mL_lo _ (by omega)⟩ (mL_b (F := va_up F 0 1) hS.tk.ok o4 o11 o9 o8 hAB)
end w8
