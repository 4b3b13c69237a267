section m1
variable {g : zG} {h hh : zH} {F : Nat → Nat} {S : Int64} {z : Nat → Nat} {A : Nat → Nat → Nat} {X : Nat → Int32}
theorem bWid_le {cn lw pd gr : Nat} (h1 : cn ≤ 32) (h2 : lw ≤ 20) (h3 : pd ≤ 8) (h4 : gr ≤ 8) : bWid cn lw pd gr ≤ 100 := by
  unfold bWid
  have := Nat.div_mul_le_self (max cn lw + pd + gr - 1) gr
  omega
theorem bPart_le {al c f t : Nat} (hB : mBlk z c f t) : bPart al (mK z c) (mN z c) (mH z c) f t ≤ 16 := by
  obtain ⟨b1, b2, b3, b4, b5⟩ := hB
  unfold bPart
  refine bMax_le _ _ _ (by omega) (fun j hj => ?_)
  have := b5 (f + j) (by omega) (by omega)
  simp only [mN]
  split <;> omega
theorem bCont_le {al c f t : Nat} (hB : mBlk z c f t) : bCont al (mK z c) (mN z c) (mH z c) f t ≤ 32 := by
  have h1 := bPart_le (al := al) hB
  obtain ⟨b1, b2, b3, b4, b5⟩ := hB
  unfold bCont
  have h2 : bMax (fun l => if al = 3 ∧ mK z c l = 1 then mH z c l else 0) (t + 1 - f) f 0 ≤ 16 := bMax_le _ _ _ (by omega) (fun j hj => by
    have := b5 (f + j) (by omega) (by omega)
    have h9 := swh_le (mf z (f + j) c) (z (25 + 8 * (f + j) + c)) 0
    simp only [mH]
    split <;> omega)
  have h3 : bMax (fun l => if al = 3 ∧ mK z c l = 1 then 0 else mN z c l) (t + 1 - f) f 0 ≤ 16 := bMax_le _ _ _ (by omega) (fun j hj => by
    have := b5 (f + j) (by omega) (by omega)
    simp only [mN]
    split <;> omega)
  omega
theorem mAdd_b {A1 : Nat → Nat → Nat} {n c f t s : Nat} (hB : mBlk z c f t) (hs : s ≤ 3) (hg8 : F 10 ≤ 8) (hlw : F 9 ≤ 20) (hpd : F 8 ≤ 8) (ha : ∀ i j, A1 i j < 2 ^ 20) (i j : Nat) : mAdd F z A1 n c f t s i j < 2 ^ 20 := by
  have h1 := bAl_le (K := mK z c) (f := f) (t := t) hs
  have h2 := bPart_le (al := bAl s (mK z c) f t) hB
  have h3 := bCont_le (al := bAl s (mK z c) f t) hB
  have h4 := bWid_le h3 hlw hpd hg8
  obtain ⟨b1, b2, b3, b4, b5⟩ := hB
  have q : ∀ k v, v < 2 ^ 20 → ∀ j, va_up (A1 k) n v j < 2 ^ 20 := fun k v hv j => by
    simp only [va_up]
    split
    · exact hv
    · exact ha k j
  unfold mAdd
  generalize bCont (bAl s (mK z c) f t) (mK z c) (mN z c) (mH z c) f t = u3 at *
  generalize bPart (bAl s (mK z c) f t) (mK z c) (mN z c) (mH z c) f t = u2 at *
  generalize bAl s (mK z c) f t = u1 at *
  generalize bWid u3 (F 9) (F 8) (F 10) = u4 at *
  have r : ∀ (B : Nat → Nat → Nat) (k : Nat) (v : Nat → Nat), (∀ i j, B i j < 2 ^ 20) → (∀ j, v j < 2 ^ 20) → ∀ i j, va_up B k v i j < 2 ^ 20 := fun B k v hB hv i j => by
    by_cases e : i = k
    · rw [e, va_upS]; exact hv j
    · rw [va_upN e]; exact hB i j
  exact r _ _ _ (r _ _ _ (r _ _ _ (r _ _ _ (r _ _ _ (r _ _ _ (r _ _ _ ha (q 6 c (by omega))) (q 7 f (by omega))) (q 8 t (by omega))) (q 9 u1 (by omega))) (q 11 u2 (by omega))) (q 10 u3 (by omega))) (q 12 u4 (by omega)) i j
theorem mLn_b (hg8 : F 10 ≤ 8) (hlw : F 9 ≤ 20) (hpd : F 8 ≤ 8) (h4 : ∀ j, A 4 j ≤ 3) : ∀ (P : List (Nat × Nat × Nat)) (n : Nat) (A1 : Nat → Nat → Nat), (∀ p, p ∈ P → mBlk z p.1 p.2.1 p.2.2) → (∀ i j, A1 i j < 2 ^ 20) → ∀ i j, mLn F z A P n A1 i j < 2 ^ 20
  | [], n, A1, _, ha => ha
  | p :: P, n, A1, hP, ha => mLn_b hg8 hlw hpd h4 P (n + 1) _ (fun q hq => hP q (List.mem_cons_of_mem _ hq)) (mAdd_b (hP p (List.mem_cons_self ..)) (h4 _) hg8 hlw hpd ha)
theorem mL_b (hz : mOK z) (h4 : ∀ j, A 4 j ≤ 3) (hg8 : F 10 ≤ 8) (hlw : F 9 ≤ 20) (hpd : F 8 ≤ 8) (ha : ∀ i j, A i j < 2 ^ 20) (i j : Nat) : mL F z A (bAll z 7) i j < 2 ^ 20 :=
  mLn_b hg8 hlw hpd h4 _ _ _ (fun p hp => by
    obtain ⟨h1, h2, h3, h4⟩ := bAll_mem hp
    rw [h4]
    exact bRun_blk hz h1 h3.1) ha i j
theorem bRun_ge {z : Nat → Nat} {c : Nat} : ∀ (m f l : Nat), (∀ i, f < i → i ≤ l → mE z c i) → l ≤ f + m → f ≤ l → l ≤ bRun z c m f
  | 0, f, l, _, h1, h2 => by simp only [bRun]; omega
  | m + 1, f, l, h, h1, h2 => by
    simp only [bRun]
    split
    · rename_i q
      rcases Nat.eq_or_lt_of_le h2 with e | e
      · have := (bRun_ok m (f + 1) q).1
        omega
      · exact bRun_ge m (f + 1) l (fun i h3 h4 => h i (by omega) h4) (by omega) e
    · rename_i q
      rcases Nat.eq_or_lt_of_le h2 with e | e
      · omega
      · exact absurd (h (f + 1) (by omega) (by omega)) q
theorem bBeg_ex {z : Nat → Nat} {c : Nat} : ∀ (l : Nat), mE z c l → ∃ f, f ≤ l ∧ bBeg z c f ∧ ∀ i, f ≤ i → i ≤ l → mE z c i
  | 0, h => ⟨0, by omega, ⟨h, by omega⟩, fun i h1 h2 => by rw [show i = 0 by omega]; exact h⟩
  | l + 1, h => by
    by_cases q : mE z c l
    · obtain ⟨f, h1, h2, h3⟩ := bBeg_ex l q
      refine ⟨f, by omega, h2, fun i h4 h5 => ?_⟩
      rcases Nat.eq_or_lt_of_le h5 with e | e
      · rw [e]; exact h
      · exact h3 i h4 (by omega)
    · exact ⟨l + 1, by omega, ⟨h, fun r => q (by have := r.2; rwa [Nat.add_sub_cancel] at this)⟩, fun i h1 h2 => by rw [show i = l + 1 by omega]; exact h⟩
theorem bUp_has {z : Nat → Nat} {c f : Nat} (hf : bBeg z c f) : ∀ (l : Nat), f < l → (c, f, bRun z c (z 0) f) ∈ bUp z c l
  | 0, h => by omega
  | l + 1, h => by
    simp only [bUp, List.mem_append]
    rcases Nat.lt_or_ge f l with q | q
    · exact Or.inl (bUp_has hf l q)
    · obtain rfl : f = l := by omega
      rw [if_pos hf]
      exact Or.inr (List.mem_singleton.mpr rfl)
theorem bAll_has {z : Nat → Nat} {c : Nat} {p : Nat × Nat × Nat} (hp : p ∈ bUp z c (z 0)) : ∀ (k : Nat), c < k → p ∈ bAll z k
  | 0, h => by omega
  | k + 1, h => by
    simp only [bAll, List.mem_append]
    rcases Nat.lt_or_ge c k with q | q
    · exact Or.inl (bAll_has hp k q)
    · obtain rfl : c = k := by omega
      exact Or.inr hp
theorem bOf_has {A : Nat → Nat → Nat} {l c b : Nat} (h : A 6 b = c ∧ A 7 b ≤ l ∧ l ≤ A 8 b) : ∀ (n : Nat), b < n → ∃ b', bOf A l c n = some b'
  | 0, q => by omega
  | n + 1, q => by
    simp only [bOf]
    split
    · exact ⟨n, rfl⟩
    · rename_i r
      rcases Nat.lt_or_ge b n with s | s
      · exact bOf_has h n s
      · obtain rfl : b = n := by omega
        exact absurd h r
/-- the blocks of an ended cell's column that has its line -/
theorem bAll_cov {c l : Nat} (hz : mOK z) (he : mE z c l) : ∃ b f, (bAll z 7)[b]? = some (c, f, bRun z c (z 0) f) ∧ f ≤ l ∧ l ≤ bRun z c (z 0) f ∧ b < (bAll z 7).length := by
  obtain ⟨f, h1, h2, h3⟩ := bBeg_ex l he
  have h8 := (hz.2.2.1 l he.1).2
  have h4 := bAll_has (bUp_has h2 (z 0) (by have := he.1; omega)) 7 (by have := he.2; omega)
  obtain ⟨b, hb⟩ := List.getElem?_of_mem h4
  exact ⟨b, f, hb, h1, bRun_ge (z 0) f l (fun i q1 q2 => h3 i (by omega) q2) (by have := he.1; omega) h1, (List.getElem?_eq_some_iff.mp hb).1⟩
theorem mL_cov (hz : mOK z) : mCov (mL F z A (bAll z 7)) z (bAll z 7).length := by
  intro l c he
  obtain ⟨b, f, h1, h2, h3, h4⟩ := bAll_cov hz he
  obtain ⟨g6, g7, g8, -⟩ := (mL_hold (F := F) (z := z) (A := A) (bAll z 7)).2 _ _ _ _ h1
  exact bOf_has ⟨g6, by rw [g7]; exact h2, by rw [g8]; exact h3⟩ _ h4
theorem bAll_168 (hz : mOK z) : (bAll z 7).length ≤ 168 := by
  have := bAll_len z 7
  have := hz.2.1
  omega
theorem m_count_1  (hz : mOK z) (hzb : ∀ j, z j < 1000) (h4 : ∀ j, A 4 j ≤ 3) (hg : 1 ≤ F 10) (hg8 : F 10 ≤ 8) (hlw : F 9 ≤ 20) (hpd : F 8 ≤ 8) (x : Int32) (hp : ¬ (nI 0 ≤ x ∧ x ≤ nI 8)) : Zx g zX10_count [.ref 50, .int x] (mhp h F S z A X) (some (.int (nI 0))) (mhp h (va_up (va_up F 0 1) 13 (bAll z 7).length) S z (mL (va_up F 0 1) z A (bAll z 7)) X) := by
  show Zn g zX10_count 0 [some (.ref 50), some (.int x)] [] (mhp h F S z A X) 0 0 _
  refine zn_aload_n (pc := 0) rfl rfl ?_
  refine zn_iload_n (pc := 1) rfl rfl ?_
  refine zn_iconstN (pc := 2) 0 rfl rfl ?_
  refine zn_bipushN (pc := 3) 8 rfl rfl ?_
  refine zn_callSx (pc := 5) (J := zX10_within) (as := [.int x, .int (nI 0), .int (nI 8)]) (rest := [.ref 50]) rfl (by decide) rfl rfl rfl rfl (Nat.le_of_ble_eq_true rfl) (Nat.le_of_ble_eq_true rfl) (Nat.le_of_ble_eq_true rfl) (Nat.le_of_ble_eq_true rfl) (m_within x (nI 0) (nI 8)) ?_
  refine zn_if_eqB (pc := 8) (tgt := 15) rfl rfl (fun c1 => ?_) (fun c1 => ?_)
  · refine zn_iconstN (pc := 15) 1 rfl rfl ?_
    refine zm_putI (pc := 16) (k := 0) (v := 1) rfl (by decide) rfl rfl ?_
    refine zn_aload_n (pc := 19) rfl rfl ?_
    refine zn_callVx (pc := 20) (J := zX10_layBlocks) (o := 50) (as := []) (rest := []) rfl rfl rfl rfl rfl rfl rfl rfl (Nat.le_of_ble_eq_true rfl) (Nat.le_of_ble_eq_true rfl) (Nat.le_of_ble_eq_true rfl) (Nat.le_of_ble_eq_true rfl) (m_layBlocks hz hzb h4 hg hg8 hlw hpd) ?_
    refine zn_pop (pc := 23) rfl rfl ?_
    refine zn_aload_n (pc := 24) rfl rfl ?_
    refine zn_get (pc := 25) (v := .int (nI 1)) rfl rfl rfl ?_
    refine zn_if_leN (pc := 28) (tgt := 35) (x := 1) rfl rfl (by omega) (fun c2 => ?_) (fun c2 => ?_)
    · exfalso; omega
    · refine zn_iconstN (pc := 31) 0 rfl rfl ?_
      refine zn_goto (pc := 32) (tgt := 40) rfl rfl ?_
      exact zx_i (pc := 40) rfl rfl rfl rfl
  · exact absurd c1 hp
theorem m_count_0  (hz : mOK z) (hzb : ∀ j, z j < 1000) (h4 : ∀ j, A 4 j ≤ 3) (hg : 1 ≤ F 10) (hg8 : F 10 ≤ 8) (hlw : F 9 ≤ 20) (hpd : F 8 ≤ 8) (ha : ∀ i j, A i j < 2 ^ 20) {k : Nat} (hk : k ≤ 8) : Zx g zX10_count [.ref 50, .int (nI k)] (mhp h F S z A X) (some (.int (nI (mCn (va_up (va_up F 0 0) 13 (bAll z 7).length) (mL (va_up F 0 0) z A (bAll z 7)) z k)))) (mhp h (va_up (va_up F 0 0) 13 (bAll z 7).length) S z (mL (va_up F 0 0) z A (bAll z 7)) X) := by
  have hp : 0 ≤ k ∧ k ≤ 8 := by omega
  have h168 : (bAll z 7).length ≤ 168 := bAll_168 hz
  have ha2 : ∀ i j, mL (va_up F 0 0) z A (bAll z 7) i j < 2 ^ 20 := mL_b (F := va_up F 0 0) hz h4 hg8 hlw hpd ha
  have hv2 : mCov (mL (va_up F 0 0) z A (bAll z 7)) z (bAll z 7).length := mL_cov hz
  show Zn g zX10_count 0 [some (.ref 50), some (.int (nI k))] [] (mhp h F S z A X) 0 0 _
  refine zn_aload_n (pc := 0) rfl rfl ?_
  refine zn_iload_n (pc := 1) rfl rfl ?_
  refine zn_iconstN (pc := 2) 0 rfl rfl ?_
  refine zn_bipushN (pc := 3) 8 rfl rfl ?_
  refine zn_callSx (pc := 5) (J := zX10_within) (as := [.int (nI k), .int (nI 0), .int (nI 8)]) (rest := [.ref 50]) rfl (by decide) rfl rfl rfl rfl (Nat.le_of_ble_eq_true rfl) (Nat.le_of_ble_eq_true rfl) (Nat.le_of_ble_eq_true rfl) (Nat.le_of_ble_eq_true rfl) (m_withinN (v := k) (a := 0) (b := 8) (by omega) (by omega) (by omega)) ?_
  refine zn_if_eqB (pc := 8) (tgt := 15) rfl rfl (fun c1 => ?_) (fun c1 => ?_)
  · exact absurd hp c1
  · refine zn_iconstN (pc := 11) 0 rfl rfl ?_
    refine zn_goto (pc := 12) (tgt := 16) rfl rfl ?_
    refine zm_putI (pc := 16) (k := 0) (v := 0) rfl (by decide) rfl rfl ?_
    refine zn_aload_n (pc := 19) rfl rfl ?_
    refine zn_callVx (pc := 20) (J := zX10_layBlocks) (o := 50) (as := []) (rest := []) rfl rfl rfl rfl rfl rfl rfl rfl (Nat.le_of_ble_eq_true rfl) (Nat.le_of_ble_eq_true rfl) (Nat.le_of_ble_eq_true rfl) (Nat.le_of_ble_eq_true rfl) (m_layBlocks hz hzb h4 hg hg8 hlw hpd) ?_
    refine zn_pop (pc := 23) rfl rfl ?_
    refine zn_aload_n (pc := 24) rfl rfl ?_
    refine zn_get (pc := 25) (v := .int (nI 0)) rfl rfl rfl ?_
    refine zn_if_leN (pc := 28) (tgt := 35) (x := 0) rfl rfl (by omega) (fun c2 => ?_) (fun c2 => ?_)
    · refine zn_aload_n (pc := 35) rfl rfl ?_
      refine zn_iload_n (pc := 36) rfl rfl ?_
      refine zn_callVx (pc := 37) (J := zX10_counted) (o := 50) (as := [.int (nI k)]) (rest := []) rfl rfl rfl rfl rfl rfl rfl rfl (Nat.le_of_ble_eq_true rfl) (Nat.le_of_ble_eq_true rfl) (Nat.le_of_ble_eq_true rfl) (Nat.le_of_ble_eq_true rfl) (m_counted hz h168 ha2 hv2 hzb (k := k) (by omega)) ?_
      exact zx_i (pc := 40) rfl rfl rfl rfl
    · exfalso; omega
theorem m_line_1  (hz : mOK z) (hzb : ∀ j, z j < 1000) (h4 : ∀ j, A 4 j ≤ 3) (hg : 1 ≤ F 10) (hg8 : F 10 ≤ 8) (hlw : F 9 ≤ 20) (hpd : F 8 ≤ 8) (x y : Int32) (hp : ¬ zin x (z 0)) : Zx g zX10_line [.ref 50, .int x, .int y] (mhp h F S z A X) (some (.int (nI 0))) (mhp h (va_up (va_up F 0 1) 13 (bAll z 7).length) S z (mL (va_up F 0 1) z A (bAll z 7)) X) := by
  have h0 := hz.1
  have h1 := hz.2.1
  show Zn g zX10_line 0 [some (.ref 50), some (.int x), some (.int y)] [] (mhp h F S z A X) 0 0 _
  refine zn_aload_n (pc := 0) rfl rfl ?_
  refine zn_aload_n (pc := 1) rfl rfl ?_
  refine zn_iload_n (pc := 2) rfl rfl ?_
  refine zn_callVx (pc := 3) (J := zX10_isLine) (o := 50) (as := [.int x]) (rest := [.ref 50]) rfl rfl rfl rfl rfl rfl rfl rfl (Nat.le_of_ble_eq_true rfl) (Nat.le_of_ble_eq_true rfl) (Nat.le_of_ble_eq_true rfl) (Nat.le_of_ble_eq_true rfl) (m_isLine (by omega) (by omega) x) ?_
  refine zn_if_neB (pc := 6) (tgt := 13) rfl rfl (fun c1 => ?_) (fun c1 => ?_)
  · exact absurd c1 hp
  · refine zn_iconstN (pc := 9) 1 rfl rfl ?_
    refine zn_goto (pc := 10) (tgt := 27) rfl rfl ?_
    refine zm_putI (pc := 27) (k := 0) (v := 1) rfl (by decide) rfl rfl ?_
    refine zn_aload_n (pc := 30) rfl rfl ?_
    refine zn_callVx (pc := 31) (J := zX10_layBlocks) (o := 50) (as := []) (rest := []) rfl rfl rfl rfl rfl rfl rfl rfl (Nat.le_of_ble_eq_true rfl) (Nat.le_of_ble_eq_true rfl) (Nat.le_of_ble_eq_true rfl) (Nat.le_of_ble_eq_true rfl) (m_layBlocks hz hzb h4 hg hg8 hlw hpd) ?_
    refine zn_pop (pc := 34) rfl rfl ?_
    refine zn_aload_n (pc := 35) rfl rfl ?_
    refine zn_get (pc := 36) (v := .int (nI 1)) rfl rfl rfl ?_
    refine zn_if_leN (pc := 39) (tgt := 46) (x := 1) rfl rfl (by omega) (fun c2 => ?_) (fun c2 => ?_)
    · exfalso; omega
    · refine zn_iconstN (pc := 42) 0 rfl rfl ?_
      refine zn_goto (pc := 43) (tgt := 52) rfl rfl ?_
      exact zx_i (pc := 52) rfl rfl rfl rfl
theorem m_line_2  (hz : mOK z) (hzb : ∀ j, z j < 1000) (h4 : ∀ j, A 4 j ≤ 3) (hg : 1 ≤ F 10) (hg8 : F 10 ≤ 8) (hlw : F 9 ≤ 20) (hpd : F 8 ≤ 8) {l : Nat} (hl : l < z 0) (y : Int32) (hy : ¬ (nI 0 ≤ y ∧ y ≤ nI 3)) : Zx g zX10_line [.ref 50, .int (nI l), .int y] (mhp h F S z A X) (some (.int (nI 0))) (mhp h (va_up (va_up F 0 2) 13 (bAll z 7).length) S z (mL (va_up F 0 2) z A (bAll z 7)) X) := by
  have h0 := hz.1
  have h1 := hz.2.1
  have hzl := hz.2.2.1 l hl
  have hp : zin (nI l) (z 0) := (zin_nI (by omega)).mpr hl
  show Zn g zX10_line 0 [some (.ref 50), some (.int (nI l)), some (.int y)] [] (mhp h F S z A X) 0 0 _
  refine zn_aload_n (pc := 0) rfl rfl ?_
  refine zn_aload_n (pc := 1) rfl rfl ?_
  refine zn_iload_n (pc := 2) rfl rfl ?_
  refine zn_callVx (pc := 3) (J := zX10_isLine) (o := 50) (as := [.int (nI l)]) (rest := [.ref 50]) rfl rfl rfl rfl rfl rfl rfl rfl (Nat.le_of_ble_eq_true rfl) (Nat.le_of_ble_eq_true rfl) (Nat.le_of_ble_eq_true rfl) (Nat.le_of_ble_eq_true rfl) (m_isLine (by omega) (by omega) (nI l)) ?_
  refine zn_if_neB (pc := 6) (tgt := 13) rfl rfl (fun c1 => ?_) (fun c1 => ?_)
  · refine zn_iload_n (pc := 13) rfl rfl ?_
    refine zn_iconstN (pc := 14) 0 rfl rfl ?_
    refine zn_iconstN (pc := 15) 3 rfl rfl ?_
    refine zn_callSx (pc := 16) (J := zX10_within) (as := [.int y, .int (nI 0), .int (nI 3)]) (rest := [.ref 50]) rfl (by decide) rfl rfl rfl rfl (Nat.le_of_ble_eq_true rfl) (Nat.le_of_ble_eq_true rfl) (Nat.le_of_ble_eq_true rfl) (Nat.le_of_ble_eq_true rfl) (m_within y (nI 0) (nI 3)) ?_
    refine zn_if_eqB (pc := 19) (tgt := 26) rfl rfl (fun c2 => ?_) (fun c2 => ?_)
    · refine zn_iconstN (pc := 26) 2 rfl rfl ?_
      refine zm_putI (pc := 27) (k := 0) (v := 2) rfl (by decide) rfl rfl ?_
      refine zn_aload_n (pc := 30) rfl rfl ?_
      refine zn_callVx (pc := 31) (J := zX10_layBlocks) (o := 50) (as := []) (rest := []) rfl rfl rfl rfl rfl rfl rfl rfl (Nat.le_of_ble_eq_true rfl) (Nat.le_of_ble_eq_true rfl) (Nat.le_of_ble_eq_true rfl) (Nat.le_of_ble_eq_true rfl) (m_layBlocks hz hzb h4 hg hg8 hlw hpd) ?_
      refine zn_pop (pc := 34) rfl rfl ?_
      refine zn_aload_n (pc := 35) rfl rfl ?_
      refine zn_get (pc := 36) (v := .int (nI 2)) rfl rfl rfl ?_
      refine zn_if_leN (pc := 39) (tgt := 46) (x := 2) rfl rfl (by omega) (fun c3 => ?_) (fun c3 => ?_)
      · exfalso; omega
      · refine zn_iconstN (pc := 42) 0 rfl rfl ?_
        refine zn_goto (pc := 43) (tgt := 52) rfl rfl ?_
        exact zx_i (pc := 52) rfl rfl rfl rfl
    · exact absurd c2 hy
  · exact absurd hp c1
theorem m_line_0  (hz : mOK z) (hzb : ∀ j, z j < 1000) (h4 : ∀ j, A 4 j ≤ 3) (hg : 1 ≤ F 10) (hg8 : F 10 ≤ 8) (hlw : F 9 ≤ 20) (hpd : F 8 ≤ 8) (ha : ∀ i j, A i j < 2 ^ 20) {l k : Nat} (hl : l < z 0) (hk : k ≤ 3) : Zx g zX10_line [.ref 50, .int (nI l), .int (nI k)] (mhp h F S z A X) (some (.int (nI (mLn_ (mL (va_up F 0 0) z A (bAll z 7)) z (bAll z 7).length l k)))) (mhp h (va_up (va_up F 0 0) 13 (bAll z 7).length) S z (mL (va_up F 0 0) z A (bAll z 7)) X) := by
  have h0 := hz.1
  have h1 := hz.2.1
  have hzl := hz.2.2.1 l hl
  have hp : zin (nI l) (z 0) := (zin_nI (by omega)).mpr hl
  have hq : 0 ≤ k ∧ k ≤ 3 := by omega
  have h168 : (bAll z 7).length ≤ 168 := bAll_168 hz
  have ha2 : ∀ i j, mL (va_up F 0 0) z A (bAll z 7) i j < 2 ^ 20 := mL_b (F := va_up F 0 0) hz h4 hg8 hlw hpd ha
  have hv2 : mCov (mL (va_up F 0 0) z A (bAll z 7)) z (bAll z 7).length := mL_cov hz
  show Zn g zX10_line 0 [some (.ref 50), some (.int (nI l)), some (.int (nI k))] [] (mhp h F S z A X) 0 0 _
  refine zn_aload_n (pc := 0) rfl rfl ?_
  refine zn_aload_n (pc := 1) rfl rfl ?_
  refine zn_iload_n (pc := 2) rfl rfl ?_
  refine zn_callVx (pc := 3) (J := zX10_isLine) (o := 50) (as := [.int (nI l)]) (rest := [.ref 50]) rfl rfl rfl rfl rfl rfl rfl rfl (Nat.le_of_ble_eq_true rfl) (Nat.le_of_ble_eq_true rfl) (Nat.le_of_ble_eq_true rfl) (Nat.le_of_ble_eq_true rfl) (m_isLine (by omega) (by omega) (nI l)) ?_
  refine zn_if_neB (pc := 6) (tgt := 13) rfl rfl (fun c1 => ?_) (fun c1 => ?_)
  · refine zn_iload_n (pc := 13) rfl rfl ?_
    refine zn_iconstN (pc := 14) 0 rfl rfl ?_
    refine zn_iconstN (pc := 15) 3 rfl rfl ?_
    refine zn_callSx (pc := 16) (J := zX10_within) (as := [.int (nI k), .int (nI 0), .int (nI 3)]) (rest := [.ref 50]) rfl (by decide) rfl rfl rfl rfl (Nat.le_of_ble_eq_true rfl) (Nat.le_of_ble_eq_true rfl) (Nat.le_of_ble_eq_true rfl) (Nat.le_of_ble_eq_true rfl) (m_withinN (v := k) (a := 0) (b := 3) (by omega) (by omega) (by omega)) ?_
    refine zn_if_eqB (pc := 19) (tgt := 26) rfl rfl (fun c2 => ?_) (fun c2 => ?_)
    · exact absurd hq c2
    · refine zn_iconstN (pc := 22) 0 rfl rfl ?_
      refine zn_goto (pc := 23) (tgt := 27) rfl rfl ?_
      refine zm_putI (pc := 27) (k := 0) (v := 0) rfl (by decide) rfl rfl ?_
      refine zn_aload_n (pc := 30) rfl rfl ?_
      refine zn_callVx (pc := 31) (J := zX10_layBlocks) (o := 50) (as := []) (rest := []) rfl rfl rfl rfl rfl rfl rfl rfl (Nat.le_of_ble_eq_true rfl) (Nat.le_of_ble_eq_true rfl) (Nat.le_of_ble_eq_true rfl) (Nat.le_of_ble_eq_true rfl) (m_layBlocks hz hzb h4 hg hg8 hlw hpd) ?_
      refine zn_pop (pc := 34) rfl rfl ?_
      refine zn_aload_n (pc := 35) rfl rfl ?_
      refine zn_get (pc := 36) (v := .int (nI 0)) rfl rfl rfl ?_
      refine zn_if_leN (pc := 39) (tgt := 46) (x := 0) rfl rfl (by omega) (fun c3 => ?_) (fun c3 => ?_)
      · refine zn_aload_n (pc := 46) rfl rfl ?_
        refine zn_iload_n (pc := 47) rfl rfl ?_
        refine zn_iload_n (pc := 48) rfl rfl ?_
        refine zn_callVx (pc := 49) (J := zX10_lineNow) (o := 50) (as := [.int (nI l), .int (nI k)]) (rest := []) rfl rfl rfl rfl rfl rfl rfl rfl (Nat.le_of_ble_eq_true rfl) (Nat.le_of_ble_eq_true rfl) (Nat.le_of_ble_eq_true rfl) (Nat.le_of_ble_eq_true rfl) (m_lineNow hz h168 ha2 hv2 hzb (l := l) (by omega) (k := k) (by omega)) ?_
        exact zx_i (pc := 52) rfl rfl rfl rfl
      · exfalso; omega
  · exact absurd hp c1
theorem m_cell_1  (hz : mOK z) (hzb : ∀ j, z j < 1000) (h4 : ∀ j, A 4 j ≤ 3) (hg : 1 ≤ F 10) (hg8 : F 10 ≤ 8) (hlw : F 9 ≤ 20) (hpd : F 8 ≤ 8) (x y k : Int32) (hp : ¬ mCell z x y) : Zx g zX10_cell [.ref 50, .int x, .int y, .int k] (mhp h F S z A X) (some (.int (nI 0))) (mhp h (va_up (va_up F 0 1) 13 (bAll z 7).length) S z (mL (va_up F 0 1) z A (bAll z 7)) X) := by
  show Zn g zX10_cell 0 [some (.ref 50), some (.int x), some (.int y), some (.int k)] [] (mhp h F S z A X) 0 0 _
  refine zn_aload_n (pc := 0) rfl rfl ?_
  refine zn_aload_n (pc := 1) rfl rfl ?_
  refine zn_iload_n (pc := 2) rfl rfl ?_
  refine zn_iload_n (pc := 3) rfl rfl ?_
  refine zn_callVx (pc := 4) (J := zX10_isCell) (o := 50) (as := [.int x, .int y]) (rest := [.ref 50]) rfl rfl rfl rfl rfl rfl rfl rfl (Nat.le_of_ble_eq_true rfl) (Nat.le_of_ble_eq_true rfl) (Nat.le_of_ble_eq_true rfl) (Nat.le_of_ble_eq_true rfl) (m_isCell hz x y) ?_
  refine zn_if_neB (pc := 7) (tgt := 14) rfl rfl (fun c1 => ?_) (fun c1 => ?_)
  · exact absurd c1 hp
  · refine zn_iconstN (pc := 10) 1 rfl rfl ?_
    refine zn_goto (pc := 11) (tgt := 28) rfl rfl ?_
    refine zm_putI (pc := 28) (k := 0) (v := 1) rfl (by decide) rfl rfl ?_
    refine zn_aload_n (pc := 31) rfl rfl ?_
    refine zn_callVx (pc := 32) (J := zX10_layBlocks) (o := 50) (as := []) (rest := []) rfl rfl rfl rfl rfl rfl rfl rfl (Nat.le_of_ble_eq_true rfl) (Nat.le_of_ble_eq_true rfl) (Nat.le_of_ble_eq_true rfl) (Nat.le_of_ble_eq_true rfl) (m_layBlocks hz hzb h4 hg hg8 hlw hpd) ?_
    refine zn_pop (pc := 35) rfl rfl ?_
    refine zn_aload_n (pc := 36) rfl rfl ?_
    refine zn_get (pc := 37) (v := .int (nI 1)) rfl rfl rfl ?_
    refine zn_if_leN (pc := 40) (tgt := 47) (x := 1) rfl rfl (by omega) (fun c2 => ?_) (fun c2 => ?_)
    · exfalso; omega
    · refine zn_iconstN (pc := 43) 0 rfl rfl ?_
      refine zn_goto (pc := 44) (tgt := 54) rfl rfl ?_
      exact zx_i (pc := 54) rfl rfl rfl rfl
theorem m_cell_2  (hz : mOK z) (hzb : ∀ j, z j < 1000) (h4 : ∀ j, A 4 j ≤ 3) (hg : 1 ≤ F 10) (hg8 : F 10 ≤ 8) (hlw : F 9 ≤ 20) (hpd : F 8 ≤ 8) {l c : Nat} (hl : l < z 0) (hc : c < z (1 + l)) (y : Int32) (hy : ¬ (nI 0 ≤ y ∧ y ≤ nI 4)) : Zx g zX10_cell [.ref 50, .int (nI l), .int (nI c), .int y] (mhp h F S z A X) (some (.int (nI 0))) (mhp h (va_up (va_up F 0 2) 13 (bAll z 7).length) S z (mL (va_up F 0 2) z A (bAll z 7)) X) := by
  have h0 := hz.1
  have h1 := hz.2.1
  have hzl := hz.2.2.1 l hl
  have hzc := hz.2.2.2 l c hl hc
  have hp := mCell_nI hz hl hc
  show Zn g zX10_cell 0 [some (.ref 50), some (.int (nI l)), some (.int (nI c)), some (.int y)] [] (mhp h F S z A X) 0 0 _
  refine zn_aload_n (pc := 0) rfl rfl ?_
  refine zn_aload_n (pc := 1) rfl rfl ?_
  refine zn_iload_n (pc := 2) rfl rfl ?_
  refine zn_iload_n (pc := 3) rfl rfl ?_
  refine zn_callVx (pc := 4) (J := zX10_isCell) (o := 50) (as := [.int (nI l), .int (nI c)]) (rest := [.ref 50]) rfl rfl rfl rfl rfl rfl rfl rfl (Nat.le_of_ble_eq_true rfl) (Nat.le_of_ble_eq_true rfl) (Nat.le_of_ble_eq_true rfl) (Nat.le_of_ble_eq_true rfl) (m_isCell hz (nI l) (nI c)) ?_
  refine zn_if_neB (pc := 7) (tgt := 14) rfl rfl (fun c1 => ?_) (fun c1 => ?_)
  · refine zn_iload_n (pc := 14) rfl rfl ?_
    refine zn_iconstN (pc := 15) 0 rfl rfl ?_
    refine zn_iconstN (pc := 16) 4 rfl rfl ?_
    refine zn_callSx (pc := 17) (J := zX10_within) (as := [.int y, .int (nI 0), .int (nI 4)]) (rest := [.ref 50]) rfl (by decide) rfl rfl rfl rfl (Nat.le_of_ble_eq_true rfl) (Nat.le_of_ble_eq_true rfl) (Nat.le_of_ble_eq_true rfl) (Nat.le_of_ble_eq_true rfl) (m_within y (nI 0) (nI 4)) ?_
    refine zn_if_eqB (pc := 20) (tgt := 27) rfl rfl (fun c2 => ?_) (fun c2 => ?_)
    · refine zn_iconstN (pc := 27) 2 rfl rfl ?_
      refine zm_putI (pc := 28) (k := 0) (v := 2) rfl (by decide) rfl rfl ?_
      refine zn_aload_n (pc := 31) rfl rfl ?_
      refine zn_callVx (pc := 32) (J := zX10_layBlocks) (o := 50) (as := []) (rest := []) rfl rfl rfl rfl rfl rfl rfl rfl (Nat.le_of_ble_eq_true rfl) (Nat.le_of_ble_eq_true rfl) (Nat.le_of_ble_eq_true rfl) (Nat.le_of_ble_eq_true rfl) (m_layBlocks hz hzb h4 hg hg8 hlw hpd) ?_
      refine zn_pop (pc := 35) rfl rfl ?_
      refine zn_aload_n (pc := 36) rfl rfl ?_
      refine zn_get (pc := 37) (v := .int (nI 2)) rfl rfl rfl ?_
      refine zn_if_leN (pc := 40) (tgt := 47) (x := 2) rfl rfl (by omega) (fun c3 => ?_) (fun c3 => ?_)
      · exfalso; omega
      · refine zn_iconstN (pc := 43) 0 rfl rfl ?_
        refine zn_goto (pc := 44) (tgt := 54) rfl rfl ?_
        exact zx_i (pc := 54) rfl rfl rfl rfl
    · exact absurd c2 hy
  · exact absurd hp c1
theorem m_cell_0  (hz : mOK z) (hzb : ∀ j, z j < 1000) (h4 : ∀ j, A 4 j ≤ 3) (hg : 1 ≤ F 10) (hg8 : F 10 ≤ 8) (hlw : F 9 ≤ 20) (hpd : F 8 ≤ 8) (ha : ∀ i j, A i j < 2 ^ 20) {l c k : Nat} (hl : l < z 0) (hc : c < z (1 + l)) (hk : k ≤ 4) : Zx g zX10_cell [.ref 50, .int (nI l), .int (nI c), .int (nI k)] (mhp h F S z A X) (some (.int (mCl (va_up (va_up F 0 0) 13 (bAll z 7).length) (mL (va_up F 0 0) z A (bAll z 7)) z l c k))) (mhp h (va_up (va_up F 0 0) 13 (bAll z 7).length) S z (mL (va_up F 0 0) z A (bAll z 7)) X) := by
  have h0 := hz.1
  have h1 := hz.2.1
  have hzl := hz.2.2.1 l hl
  have hzc := hz.2.2.2 l c hl hc
  have hp := mCell_nI hz hl hc
  have hq : 0 ≤ k ∧ k ≤ 4 := by omega
  have h168 : (bAll z 7).length ≤ 168 := bAll_168 hz
  have ha2 : ∀ i j, mL (va_up F 0 0) z A (bAll z 7) i j < 2 ^ 20 := mL_b (F := va_up F 0 0) hz h4 hg8 hlw hpd ha
  have hv2 : mCov (mL (va_up F 0 0) z A (bAll z 7)) z (bAll z 7).length := mL_cov hz
  show Zn g zX10_cell 0 [some (.ref 50), some (.int (nI l)), some (.int (nI c)), some (.int (nI k))] [] (mhp h F S z A X) 0 0 _
  refine zn_aload_n (pc := 0) rfl rfl ?_
  refine zn_aload_n (pc := 1) rfl rfl ?_
  refine zn_iload_n (pc := 2) rfl rfl ?_
  refine zn_iload_n (pc := 3) rfl rfl ?_
  refine zn_callVx (pc := 4) (J := zX10_isCell) (o := 50) (as := [.int (nI l), .int (nI c)]) (rest := [.ref 50]) rfl rfl rfl rfl rfl rfl rfl rfl (Nat.le_of_ble_eq_true rfl) (Nat.le_of_ble_eq_true rfl) (Nat.le_of_ble_eq_true rfl) (Nat.le_of_ble_eq_true rfl) (m_isCell hz (nI l) (nI c)) ?_
  refine zn_if_neB (pc := 7) (tgt := 14) rfl rfl (fun c1 => ?_) (fun c1 => ?_)
  · refine zn_iload_n (pc := 14) rfl rfl ?_
    refine zn_iconstN (pc := 15) 0 rfl rfl ?_
    refine zn_iconstN (pc := 16) 4 rfl rfl ?_
    refine zn_callSx (pc := 17) (J := zX10_within) (as := [.int (nI k), .int (nI 0), .int (nI 4)]) (rest := [.ref 50]) rfl (by decide) rfl rfl rfl rfl (Nat.le_of_ble_eq_true rfl) (Nat.le_of_ble_eq_true rfl) (Nat.le_of_ble_eq_true rfl) (Nat.le_of_ble_eq_true rfl) (m_withinN (v := k) (a := 0) (b := 4) (by omega) (by omega) (by omega)) ?_
    refine zn_if_eqB (pc := 20) (tgt := 27) rfl rfl (fun c2 => ?_) (fun c2 => ?_)
    · exact absurd hq c2
    · refine zn_iconstN (pc := 23) 0 rfl rfl ?_
      refine zn_goto (pc := 24) (tgt := 28) rfl rfl ?_
      refine zm_putI (pc := 28) (k := 0) (v := 0) rfl (by decide) rfl rfl ?_
      refine zn_aload_n (pc := 31) rfl rfl ?_
      refine zn_callVx (pc := 32) (J := zX10_layBlocks) (o := 50) (as := []) (rest := []) rfl rfl rfl rfl rfl rfl rfl rfl (Nat.le_of_ble_eq_true rfl) (Nat.le_of_ble_eq_true rfl) (Nat.le_of_ble_eq_true rfl) (Nat.le_of_ble_eq_true rfl) (m_layBlocks hz hzb h4 hg hg8 hlw hpd) ?_
      refine zn_pop (pc := 35) rfl rfl ?_
      refine zn_aload_n (pc := 36) rfl rfl ?_
      refine zn_get (pc := 37) (v := .int (nI 0)) rfl rfl rfl ?_
      refine zn_if_leN (pc := 40) (tgt := 47) (x := 0) rfl rfl (by omega) (fun c3 => ?_) (fun c3 => ?_)
      · refine zn_aload_n (pc := 47) rfl rfl ?_
        refine zn_iload_n (pc := 48) rfl rfl ?_
        refine zn_iload_n (pc := 49) rfl rfl ?_
        refine zn_iload_n (pc := 50) rfl rfl ?_
        refine zn_callVx (pc := 51) (J := zX10_cellNow) (o := 50) (as := [.int (nI l), .int (nI c), .int (nI k)]) (rest := []) rfl rfl rfl rfl rfl rfl rfl rfl (Nat.le_of_ble_eq_true rfl) (Nat.le_of_ble_eq_true rfl) (Nat.le_of_ble_eq_true rfl) (Nat.le_of_ble_eq_true rfl) (m_cellNow hz h168 ha2 hv2 hzb (l := l) (c := c) (by omega) (by omega) (k := k) (by omega)) ?_
        exact zx_i (pc := 54) rfl rfl rfl rfl
      · exfalso; omega
  · exact absurd hp c1
theorem m_letter_1  (hz : mOK z) (x y k : Int32) (hp : ¬ (mCell z x y ∧ zin k (z (25 + 8 * x.toNatClampNeg + y.toNatClampNeg)))) : Zx g zX10_letter [.ref 50, .int x, .int y, .int k] (mhp h F S z A X) (some (.int (nI 0))) (mhp h (va_up F 0 1) S z A X) := by
  have h0 := hz.1
  have h1 := hz.2.1
  show Zn g zX10_letter 0 [some (.ref 50), some (.int x), some (.int y), some (.int k), none] [] (mhp h F S z A X) 0 0 _
  refine zn_aload_n (pc := 0) rfl rfl ?_
  refine zn_iload_n (pc := 1) rfl rfl ?_
  refine zn_iload_n (pc := 2) rfl rfl ?_
  refine zn_callVx (pc := 3) (J := zX10_isCell) (o := 50) (as := [.int x, .int y]) (rest := []) rfl rfl rfl rfl rfl rfl rfl rfl (Nat.le_of_ble_eq_true rfl) (Nat.le_of_ble_eq_true rfl) (Nat.le_of_ble_eq_true rfl) (Nat.le_of_ble_eq_true rfl) (m_isCell hz x y) ?_
  refine zn_if_eqB (pc := 6) (tgt := 29) rfl rfl (fun c1 => ?_) (fun c1 => ?_)
  · refine zn_iconstN (pc := 29) 0 rfl rfl ?_
    refine zn_istore (pc := 30) (L' := [some (.ref 50), some (.int x), some (.int y), some (.int k), some (.int (nI 0))]) rfl (by decide) rfl ?_
    refine zn_aload_n (pc := 32) rfl rfl ?_
    refine zn_iload (pc := 33) rfl rfl ?_
    refine zn_if_eqN (pc := 35) (tgt := 42) (x := 0) rfl rfl (by omega) (fun c2 => ?_) (fun c2 => ?_)
    · refine zn_iconstN (pc := 42) 1 rfl rfl ?_
      refine zm_putI (pc := 43) (k := 0) (v := 1) rfl (by decide) rfl rfl ?_
      refine zn_aload_n (pc := 46) rfl rfl ?_
      refine zn_get (pc := 47) (v := .int (nI 1)) rfl rfl rfl ?_
      refine zn_if_leN (pc := 50) (tgt := 57) (x := 1) rfl rfl (by omega) (fun c3 => ?_) (fun c3 => ?_)
      · exfalso; omega
      · refine zn_iconstN (pc := 53) 0 rfl rfl ?_
        refine zn_goto (pc := 54) (tgt := 64) rfl rfl ?_
        exact zx_i (pc := 64) rfl rfl rfl rfl
    · exfalso; omega
  · obtain ⟨hq1, hq2⟩ := id c1
    obtain ⟨l, hl, rfl⟩ := zin_ex hq1 (by omega)
    have el := nI_clamp (n := l) (by omega)
    rw [el] at hq2
    have hzl := hz.2.2.1 l hl
    obtain ⟨c, hc, rfl⟩ := zin_ex hq2 (by omega)
    have ec := nI_clamp (n := c) (by omega)
    have hzc := hz.2.2.2 l c hl hc
    refine zn_iload_n (pc := 9) rfl rfl ?_
    refine zn_iconstN (pc := 10) 0 rfl rfl ?_
    refine zn_aload_n (pc := 11) rfl rfl ?_
    refine zn_iload_n (pc := 12) rfl rfl ?_
    refine zn_iload_n (pc := 13) rfl rfl ?_
    refine zn_callVx (pc := 14) (J := zX10_lengthOf) (o := 50) (as := [.int (nI l), .int (nI c)]) (rest := [.int (nI 0), .int k]) rfl rfl rfl rfl rfl rfl rfl rfl (Nat.le_of_ble_eq_true rfl) (Nat.le_of_ble_eq_true rfl) (Nat.le_of_ble_eq_true rfl) (Nat.le_of_ble_eq_true rfl) (m_lengthOf (l := l) (c := c) (by omega) (by omega)) ?_
    refine zn_iconstN (pc := 17) 1 rfl rfl ?_
    refine zn_isub (pc := 18) rfl ?_
    refine zn_callSx (pc := 19) (J := zX10_within) (as := [.int k, .int (nI 0), .int (nI (z (25 + 8 * l + c)) - 1)]) (rest := []) rfl (by decide) rfl rfl rfl rfl (Nat.le_of_ble_eq_true rfl) (Nat.le_of_ble_eq_true rfl) (Nat.le_of_ble_eq_true rfl) (Nat.le_of_ble_eq_true rfl) (m_within k (nI 0) (nI (z (25 + 8 * l + c)) - 1)) ?_
    refine zn_if_eqB (pc := 22) (tgt := 29) rfl rfl (fun c4 => ?_) (fun c4 => ?_)
    · refine zn_iconstN (pc := 29) 0 rfl rfl ?_
      refine zn_istore (pc := 30) (L' := [some (.ref 50), some (.int (nI l)), some (.int (nI c)), some (.int k), some (.int (nI 0))]) rfl (by decide) rfl ?_
      refine zn_aload_n (pc := 32) rfl rfl ?_
      refine zn_iload (pc := 33) rfl rfl ?_
      refine zn_if_eqN (pc := 35) (tgt := 42) (x := 0) rfl rfl (by omega) (fun c5 => ?_) (fun c5 => ?_)
      · refine zn_iconstN (pc := 42) 1 rfl rfl ?_
        refine zm_putI (pc := 43) (k := 0) (v := 1) rfl (by decide) rfl rfl ?_
        refine zn_aload_n (pc := 46) rfl rfl ?_
        refine zn_get (pc := 47) (v := .int (nI 1)) rfl rfl rfl ?_
        refine zn_if_leN (pc := 50) (tgt := 57) (x := 1) rfl rfl (by omega) (fun c6 => ?_) (fun c6 => ?_)
        · exfalso; omega
        · refine zn_iconstN (pc := 53) 0 rfl rfl ?_
          refine zn_goto (pc := 54) (tgt := 64) rfl rfl ?_
          exact zx_i (pc := 64) rfl rfl rfl rfl
      · exfalso; omega
    · exact absurd ⟨by assumption, by rw [el, ec]; exact (zin_w0 (by omega)).mp c4⟩ hp
theorem m_letter_0  (hz : mOK z) {l c : Nat} (hl : l < z 0) (hc : c < z (1 + l)) {q : Nat} (hq : q < z (25 + 8 * l + c)) : Zx g zX10_letter [.ref 50, .int (nI l), .int (nI c), .int (nI q)] (mhp h F S z A X) (some (.int (nI (z (217 + 16 * (8 * l + c) + q))))) (mhp h (va_up F 0 0) S z A X) := by
  have h0 := hz.1
  have h1 := hz.2.1
  have hzl := hz.2.2.1 l hl
  have hzc := hz.2.2.2 l c hl hc
  have hp := mCell_nI hz hl hc
  have hw : 0 ≤ q ∧ q ≤ z (25 + 8 * l + c) - 1 := by omega
  show Zn g zX10_letter 0 [some (.ref 50), some (.int (nI l)), some (.int (nI c)), some (.int (nI q)), none] [] (mhp h F S z A X) 0 0 _
  refine zn_aload_n (pc := 0) rfl rfl ?_
  refine zn_iload_n (pc := 1) rfl rfl ?_
  refine zn_iload_n (pc := 2) rfl rfl ?_
  refine zn_callVx (pc := 3) (J := zX10_isCell) (o := 50) (as := [.int (nI l), .int (nI c)]) (rest := []) rfl rfl rfl rfl rfl rfl rfl rfl (Nat.le_of_ble_eq_true rfl) (Nat.le_of_ble_eq_true rfl) (Nat.le_of_ble_eq_true rfl) (Nat.le_of_ble_eq_true rfl) (m_isCell hz (nI l) (nI c)) ?_
  refine zn_if_eqB (pc := 6) (tgt := 29) rfl rfl (fun c1 => ?_) (fun c1 => ?_)
  · exact absurd hp c1
  · refine zn_iload_n (pc := 9) rfl rfl ?_
    refine zn_iconstN (pc := 10) 0 rfl rfl ?_
    refine zn_aload_n (pc := 11) rfl rfl ?_
    refine zn_iload_n (pc := 12) rfl rfl ?_
    refine zn_iload_n (pc := 13) rfl rfl ?_
    refine zn_callVx (pc := 14) (J := zX10_lengthOf) (o := 50) (as := [.int (nI l), .int (nI c)]) (rest := [.int (nI 0), .int (nI q)]) rfl rfl rfl rfl rfl rfl rfl rfl (Nat.le_of_ble_eq_true rfl) (Nat.le_of_ble_eq_true rfl) (Nat.le_of_ble_eq_true rfl) (Nat.le_of_ble_eq_true rfl) (m_lengthOf (l := l) (c := c) (by omega) (by omega)) ?_
    refine zn_iconstN (pc := 17) 1 rfl rfl ?_
    refine zn_isubN (pc := 18) (x := (z (25 + 8 * l + c))) (y := 1) rfl (by omega) ?_
    refine zn_callSx (pc := 19) (J := zX10_within) (as := [.int (nI q), .int (nI 0), .int (nI ((z (25 + 8 * l + c)) - 1))]) (rest := []) rfl (by decide) rfl rfl rfl rfl (Nat.le_of_ble_eq_true rfl) (Nat.le_of_ble_eq_true rfl) (Nat.le_of_ble_eq_true rfl) (Nat.le_of_ble_eq_true rfl) (m_withinN (v := q) (a := 0) (b := ((z (25 + 8 * l + c)) - 1)) (by omega) (by omega) (by omega)) ?_
    refine zn_if_eqB (pc := 22) (tgt := 29) rfl rfl (fun c2 => ?_) (fun c2 => ?_)
    · exact absurd hw c2
    · refine zn_iconstN (pc := 25) 1 rfl rfl ?_
      refine zn_goto (pc := 26) (tgt := 30) rfl rfl ?_
      refine zn_istore (pc := 30) (L' := [some (.ref 50), some (.int (nI l)), some (.int (nI c)), some (.int (nI q)), some (.int (nI 1))]) rfl (by decide) rfl ?_
      refine zn_aload_n (pc := 32) rfl rfl ?_
      refine zn_iload (pc := 33) rfl rfl ?_
      refine zn_if_eqN (pc := 35) (tgt := 42) (x := 1) rfl rfl (by omega) (fun c3 => ?_) (fun c3 => ?_)
      · exfalso; omega
      · refine zn_iconstN (pc := 38) 0 rfl rfl ?_
        refine zn_goto (pc := 39) (tgt := 43) rfl rfl ?_
        refine zm_putI (pc := 43) (k := 0) (v := 0) rfl (by decide) rfl rfl ?_
        refine zn_aload_n (pc := 46) rfl rfl ?_
        refine zn_get (pc := 47) (v := .int (nI 0)) rfl rfl rfl ?_
        refine zn_if_leN (pc := 50) (tgt := 57) (x := 0) rfl rfl (by omega) (fun c4 => ?_) (fun c4 => ?_)
        · refine zn_aload_n (pc := 57) rfl rfl ?_
          refine zn_iload_n (pc := 58) rfl rfl ?_
          refine zn_iload_n (pc := 59) rfl rfl ?_
          refine zn_iload_n (pc := 60) rfl rfl ?_
          refine zn_callVx (pc := 61) (J := zX10_signOf) (o := 50) (as := [.int (nI l), .int (nI c), .int (nI q)]) (rest := []) rfl rfl rfl rfl rfl rfl rfl rfl (Nat.le_of_ble_eq_true rfl) (Nat.le_of_ble_eq_true rfl) (Nat.le_of_ble_eq_true rfl) (Nat.le_of_ble_eq_true rfl) (m_signOf (l := l) (c := c) (k := q) (by omega) (by omega) (by omega)) ?_
          exact zx_i (pc := 64) rfl rfl rfl rfl
        · exfalso; omega
end m1
