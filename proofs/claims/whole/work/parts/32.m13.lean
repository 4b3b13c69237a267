section m1
variable {g : zG} {h hh : zH} {F : Nat → Nat} {S : Int64} {z : Nat → Nat} {A : Nat → Nat → Nat} {X : Nat → Int32}
/-- the rows of the reference when the blocks P are laid, from number n on -/
def mLn (F z : Nat → Nat) (A : Nat → Nat → Nat) : List (Nat × Nat × Nat) → Nat → (Nat → Nat → Nat) → Nat → Nat → Nat
  | [], _, A1 => A1
  | p :: P, n, A1 => mLn F z A P (n + 1) (mAdd F z A1 n p.1 p.2.1 p.2.2 (A 4 p.1))
def mL (F z : Nat → Nat) (A : Nat → Nat → Nat) (P : List (Nat × Nat × Nat)) : Nat → Nat → Nat := mLn F z A P 0 A
theorem mLn_app (p : Nat × Nat × Nat) : ∀ (P : List (Nat × Nat × Nat)) (n : Nat) (A1 : Nat → Nat → Nat), mLn F z A (P ++ [p]) n A1 = mAdd F z (mLn F z A P n A1) (n + P.length) p.1 p.2.1 p.2.2 (A 4 p.1)
  | [], n, A1 => rfl
  | q :: P, n, A1 => by
    show mLn F z A (P ++ [p]) (n + 1) _ = mAdd F z (mLn F z A P (n + 1) _) (n + (P.length + 1)) p.1 p.2.1 p.2.2 (A 4 p.1)
    rw [mLn_app p P (n + 1), show n + 1 + P.length = n + (P.length + 1) by omega]
theorem mL_app (P : List (Nat × Nat × Nat)) (c f t : Nat) : mL F z A (P ++ [(c, f, t)]) = mAdd F z (mL F z A P) P.length c f t (A 4 c) := by
  unfold mL
  rw [mLn_app, Nat.zero_add]
theorem mL_hold (P : List (Nat × Nat × Nat)) : mHold F z A (mL F z A P) P := by
  have key : ∀ (k : Nat) (P : List (Nat × Nat × Nat)), P.length = k → mHold F z A (mL F z A P) P := by
    intro k
    induction k with
    | zero =>
      intro P hP
      have := List.eq_nil_of_length_eq_zero hP
      subst this
      exact ⟨fun _ _ => rfl, fun i c f t hi => by simp at hi⟩
    | succ k ih =>
      intro P hP
      rcases List.eq_nil_or_concat P with rfl | ⟨Q, ⟨c, f, t⟩, rfl⟩
      · simp at hP
      · rw [List.concat_eq_append] at hP ⊢
        rw [mL_app]
        exact mHold_add (ih Q (by simpa using hP))
  exact key _ P rfl
theorem mL_lo (P : List (Nat × Nat × Nat)) {j : Nat} (hj : j < 6 ∨ 12 < j) : mL F z A P j = A j := (mL_hold P).1 j hj
theorem bRun_blk {c l : Nat} (hz : mOK z) (hc : c < 7) (he : mE z c l) : mBlk z c l (bRun z c (z 0) l) := by
  have h := bRun_ok (z 0) l he
  have he2 := h.2 _ h.1 (Nat.le_refl _)
  refine ⟨hc, h.1, he2.1, hz.2.1, fun i h1 h2 => ?_⟩
  have h3 := h.2 i h1 h2
  exact hz.2.2.2 i c h3.1 (by omega)
theorem m_layBlocks_w {c l : Nat} {Q : zR → zH → Prop} (hz : mOK z) (hc : c < 7) : ∀ (n : Nat) (t : Nat), z 0 ≤ t + n → t < 24 → Zn g zX10_layBlocks 84 [some (.ref 50), some (.int (nI c)), some (.int (nI l)), some (.int (nI (bRun z c n t)))] [] (mhp h F S z A X) 0 0 Q → Zn g zX10_layBlocks 67 [some (.ref 50), some (.int (nI c)), some (.int (nI l)), some (.int (nI t))] [] (mhp h F S z A X) 0 0 Q := by
  intro n
  induction n with
  | zero =>
    intro t hn0 hn1 hn2
    have h1 := hz.2.1
    refine zn_aload_n (pc := 67) rfl rfl ?_
    refine zn_iload_n (pc := 68) rfl rfl ?_
    refine zn_iconstN (pc := 69) 1 rfl rfl ?_
    refine zn_iaddN (pc := 70) (x := t) (y := 1) rfl ?_
    refine zn_iload_n (pc := 71) rfl rfl ?_
    refine zn_callVx (pc := 72) (J := zX10_isEnded) (o := 50) (as := [.int (nI (t + 1)), .int (nI c)]) (rest := []) rfl rfl rfl rfl rfl rfl rfl rfl (Nat.le_of_ble_eq_true rfl) (Nat.le_of_ble_eq_true rfl) (Nat.le_of_ble_eq_true rfl) (Nat.le_of_ble_eq_true rfl) (m_isEndedN hz (l := (t + 1)) (c := c) (by omega) (by omega)) ?_
    refine zn_if_eqB (pc := 75) (tgt := 84) rfl rfl (fun c1 => ?_) (fun c1 => ?_)
    · exact hn2
    · refine zn_iincN (pc := 78) (L' := [some (.ref 50), some (.int (nI c)), some (.int (nI l)), some (.int (nI (t + 1)))]) 1 rfl rfl rfl (by decide) rfl ?_
      refine zn_goto (pc := 81) (tgt := 67) rfl rfl ?_
      exfalso; omega
  | succ n ih =>
    intro t hn0 hn1 hn2
    have h1 := hz.2.1
    refine zn_aload_n (pc := 67) rfl rfl ?_
    refine zn_iload_n (pc := 68) rfl rfl ?_
    refine zn_iconstN (pc := 69) 1 rfl rfl ?_
    refine zn_iaddN (pc := 70) (x := t) (y := 1) rfl ?_
    refine zn_iload_n (pc := 71) rfl rfl ?_
    refine zn_callVx (pc := 72) (J := zX10_isEnded) (o := 50) (as := [.int (nI (t + 1)), .int (nI c)]) (rest := []) rfl rfl rfl rfl rfl rfl rfl rfl (Nat.le_of_ble_eq_true rfl) (Nat.le_of_ble_eq_true rfl) (Nat.le_of_ble_eq_true rfl) (Nat.le_of_ble_eq_true rfl) (m_isEndedN hz (l := (t + 1)) (c := c) (by omega) (by omega)) ?_
    refine zn_if_eqB (pc := 75) (tgt := 84) rfl rfl (fun c1 => ?_) (fun c1 => ?_)
    · simp only [bRun] at hn2
      rw [if_neg (by assumption)] at hn2
      exact hn2
    · refine zn_iincN (pc := 78) (L' := [some (.ref 50), some (.int (nI c)), some (.int (nI l)), some (.int (nI (t + 1)))]) 1 rfl rfl rfl (by decide) rfl ?_
      refine zn_goto (pc := 81) (tgt := 67) rfl rfl ?_
      simp only [bRun] at hn2
      rw [if_pos (by assumption)] at hn2
      exact ih (t + 1) (by omega) (by omega) hn2
theorem m_layBlocks_l {c : Nat} {Q : zR → zH → Prop} (hz : mOK z) (hzb : ∀ j, z j < 1000) (h4 : ∀ j, A 4 j ≤ 3) (hg : 1 ≤ F 10) (hg8 : F 10 ≤ 8) (hlw : F 9 ≤ 20) (hpd : F 8 ≤ 8) (hc : c < 7) (K : Zn g zX10_layBlocks 7 [some (.ref 50), some (.int (nI (c + 1))), none, none] [] (mhp h (va_up F 13 (bAll z (c + 1)).length) S z (mL F z A (bAll z (c + 1))) X) 0 0 Q) : ∀ (n : Nat) (l : Nat) (P : List (Nat × Nat × Nat)), l + n = z 0 → P = bAll z c ++ bUp z c l → Zn g zX10_layBlocks 15 [some (.ref 50), some (.int (nI c)), some (.int (nI l)), none] [] (mhp h (va_up F 13 P.length) S z (mL F z A P) X) 0 0 Q := by
  intro n
  induction n with
  | zero =>
    intro l P hn0 hn1
    have h1 := hz.2.1
    refine zn_iload_n (pc := 15) rfl rfl ?_
    refine zn_aload_n (pc := 16) rfl rfl ?_
    refine zn_get (pc := 17) (v := .ref 51) rfl rfl rfl ?_
    refine zn_iconstN (pc := 20) 0 rfl rfl ?_
    refine zn_naLd (pc := 21) (o := 51) (n := 3289) (Z := z) (j := 0) rfl rfl (by omega) (Nat.le_of_ble_eq_true rfl) ?_
    refine zn_icmp_geN (pc := 22) (tgt := 118) (x := l) (y := (z 0)) rfl rfl (by omega) (by omega) (fun c1 => ?_) (fun c1 => ?_)
    · refine zn_iincN (pc := 118) (L' := [some (.ref 50), some (.int (nI (c + 1))), some (.int (nI l)), none]) 1 rfl rfl rfl (by decide) rfl ?_
      refine zn_goto (pc := 121) (tgt := 7) rfl rfl ?_
      obtain rfl : l = z 0 := by omega
      rw [hn1]
      exact zn_sub (L' := [some (.ref 50), some (.int (nI (c + 1))), none, none]) ⟨rfl, rfl, trivial⟩ K
    · exfalso; omega
  | succ n ih =>
    intro l P hn0 hn1
    have h1 := hz.2.1
    refine zn_iload_n (pc := 15) rfl rfl ?_
    refine zn_aload_n (pc := 16) rfl rfl ?_
    refine zn_get (pc := 17) (v := .ref 51) rfl rfl rfl ?_
    refine zn_iconstN (pc := 20) 0 rfl rfl ?_
    refine zn_naLd (pc := 21) (o := 51) (n := 3289) (Z := z) (j := 0) rfl rfl (by omega) (Nat.le_of_ble_eq_true rfl) ?_
    refine zn_icmp_geN (pc := 22) (tgt := 118) (x := l) (y := (z 0)) rfl rfl (by omega) (by omega) (fun c1 => ?_) (fun c1 => ?_)
    · refine zn_iincN (pc := 118) (L' := [some (.ref 50), some (.int (nI (c + 1))), some (.int (nI l)), none]) 1 rfl rfl rfl (by decide) rfl ?_
      refine zn_goto (pc := 121) (tgt := 7) rfl rfl ?_
      obtain rfl : l = z 0 := by omega
      rw [hn1]
      exact zn_sub (L' := [some (.ref 50), some (.int (nI (c + 1))), none, none]) ⟨rfl, rfl, trivial⟩ K
    · have hP : P.length < 168 := by rw [hn1, List.length_append]; have q1 := bAll_len z c; have q2 := bUp_len z c l; have q3 : c * z 0 ≤ c * 24 := Nat.mul_le_mul_left c h1; omega
      refine zn_aload_n (pc := 25) rfl rfl ?_
      refine zn_iload_n (pc := 26) rfl rfl ?_
      refine zn_iload_n (pc := 27) rfl rfl ?_
      refine zn_callVx (pc := 28) (J := zX10_isEnded) (o := 50) (as := [.int (nI l), .int (nI c)]) (rest := []) rfl rfl rfl rfl rfl rfl rfl rfl (Nat.le_of_ble_eq_true rfl) (Nat.le_of_ble_eq_true rfl) (Nat.le_of_ble_eq_true rfl) (Nat.le_of_ble_eq_true rfl) (m_isEndedN hz (l := l) (c := c) (by omega) (by omega)) ?_
      refine zn_if_eqB (pc := 31) (tgt := 112) rfl rfl (fun c2 => ?_) (fun c2 => ?_)
      · refine zn_iincN (pc := 112) (L' := [some (.ref 50), some (.int (nI c)), some (.int (nI (l + 1))), none]) 1 rfl rfl rfl (by decide) rfl ?_
        refine zn_goto (pc := 115) (tgt := 15) rfl rfl ?_
        exact zn_sub (L' := [some (.ref 50), some (.int (nI c)), some (.int (nI (l + 1))), none]) ⟨rfl, rfl, rfl, trivial⟩ (ih (l + 1) P (by omega) (by rw [hn1]; simp only [bUp]; rw [if_neg (by first | exact fun q => absurd q.1 (by assumption) | exact fun q => absurd (by assumption) q.2), List.append_nil]))
      · refine zn_aload_n (pc := 34) rfl rfl ?_
        refine zn_iload_n (pc := 35) rfl rfl ?_
        refine zn_iconstN (pc := 36) 1 rfl rfl ?_
        refine zn_isub (pc := 37) rfl ?_
        refine zn_iload_n (pc := 38) rfl rfl ?_
        refine zn_callVx (pc := 39) (J := zX10_isEnded) (o := 50) (as := [.int (nI l - 1), .int (nI c)]) (rest := []) rfl rfl rfl rfl rfl rfl rfl rfl (Nat.le_of_ble_eq_true rfl) (Nat.le_of_ble_eq_true rfl) (Nat.le_of_ble_eq_true rfl) (Nat.le_of_ble_eq_true rfl) (m_isEndedP hz (l := l) (c := c) (by omega) (by omega)) ?_
        refine zn_if_neB (pc := 42) (tgt := 112) rfl rfl (fun c3 => ?_) (fun c3 => ?_)
        · refine zn_iincN (pc := 112) (L' := [some (.ref 50), some (.int (nI c)), some (.int (nI (l + 1))), none]) 1 rfl rfl rfl (by decide) rfl ?_
          refine zn_goto (pc := 115) (tgt := 15) rfl rfl ?_
          exact zn_sub (L' := [some (.ref 50), some (.int (nI c)), some (.int (nI (l + 1))), none]) ⟨rfl, rfl, rfl, trivial⟩ (ih (l + 1) P (by omega) (by rw [hn1]; simp only [bUp]; rw [if_neg (by first | exact fun q => absurd q.1 (by assumption) | exact fun q => absurd (by assumption) q.2), List.append_nil]))
        · refine zn_aload_n (pc := 45) rfl rfl ?_
          refine zn_get (pc := 46) (v := .ref 57) rfl rfl rfl ?_
          refine zn_aload_n (pc := 49) rfl rfl ?_
          refine zn_get (pc := 50) (v := .int (nI P.length)) rfl rfl rfl ?_
          refine zn_iload_n (pc := 53) rfl rfl ?_
          refine zm_stA (pc := 54) (i := 6) (n := 168) (j := P.length) (v := c) rfl (by decide) (by decide) rfl mln6 (by omega) (Nat.le_of_ble_eq_true rfl) ?_
          refine zn_aload_n (pc := 55) rfl rfl ?_
          refine zn_get (pc := 56) (v := .ref 58) rfl rfl rfl ?_
          refine zn_aload_n (pc := 59) rfl rfl ?_
          refine zn_get (pc := 60) (v := .int (nI P.length)) rfl rfl rfl ?_
          refine zn_iload_n (pc := 63) rfl rfl ?_
          refine zm_stA (pc := 64) (i := 7) (n := 168) (j := P.length) (v := l) rfl (by decide) (by decide) rfl mln7 (by omega) (Nat.le_of_ble_eq_true rfl) ?_
          refine zn_iload_n (pc := 65) rfl rfl ?_
          refine zn_istore_n (pc := 66) (L' := [some (.ref 50), some (.int (nI c)), some (.int (nI l)), some (.int (nI l))]) rfl (by decide) rfl ?_
          have hE : mE z c l := by assumption
          refine m_layBlocks_w (F := va_up F 13 P.length) (A := va_up (va_up (mL F z A P) 6 (va_up ((mL F z A P) 6) P.length c)) 7 (va_up ((mL F z A P) 7) P.length l)) hz hc (z 0) l (by omega) (by omega) ?_
          refine zn_aload_n (pc := 84) rfl rfl ?_
          refine zn_get (pc := 85) (v := .ref 59) rfl rfl rfl ?_
          refine zn_aload_n (pc := 88) rfl rfl ?_
          refine zn_get (pc := 89) (v := .int (nI P.length)) rfl rfl rfl ?_
          refine zn_iload_n (pc := 92) rfl rfl ?_
          refine zm_stA (pc := 93) (i := 8) (n := 168) (j := P.length) (v := (bRun z c (z 0) l)) rfl (by decide) (by decide) rfl mln8 (by omega) (Nat.le_of_ble_eq_true rfl) ?_
          refine zn_aload_n (pc := 94) rfl rfl ?_
          refine zn_aload_n (pc := 95) rfl rfl ?_
          refine zn_get (pc := 96) (v := .int (nI P.length)) rfl rfl rfl ?_
          refine zn_callVx (pc := 99) (J := zX10_measure) (o := 50) (as := [.int (nI P.length)]) (rest := []) rfl rfl rfl rfl rfl rfl rfl rfl (Nat.le_of_ble_eq_true rfl) (Nat.le_of_ble_eq_true rfl) (Nat.le_of_ble_eq_true rfl) (Nat.le_of_ble_eq_true rfl) (m_measure (b := P.length) (c := c) (f := l) (t := bRun z c (z 0) l) (by omega) (va_upS _ _ _) (va_upS _ _ _) (va_upS _ _ _) (bRun_blk hz hc hE) hzb (show mL F z A P 4 c ≤ 3 by rw [mL_lo P (Or.inl (by decide))]; exact h4 c) hg hg8 hlw hpd) ?_
          refine zn_aload_n (pc := 102) rfl rfl ?_
          refine zn_dup (pc := 103) rfl rfl ?_
          refine zn_get (pc := 104) (v := .int (nI P.length)) rfl rfl rfl ?_
          refine zn_iconstN (pc := 107) 1 rfl rfl ?_
          refine zn_iaddN (pc := 108) (x := P.length) (y := 1) rfl ?_
          refine zm_putI (pc := 109) (k := 13) (v := (P.length + 1)) rfl (by decide) rfl rfl ?_
          refine zn_iincN (pc := 112) (L' := [some (.ref 50), some (.int (nI c)), some (.int (nI (l + 1))), some (.int (nI (bRun z c (z 0) l)))]) 1 rfl rfl rfl (by decide) rfl ?_
          refine zn_goto (pc := 115) (tgt := 15) rfl rfl ?_
          refine zn_heq (h' := mhp h (va_up F 13 (P ++ [(c, l, bRun z c (z 0) l)]).length) S z (mL F z A (P ++ [(c, l, bRun z c (z 0) l)])) X) (mh_eq ?_ rfl ?_) (zn_sub (L' := [some (.ref 50), some (.int (nI c)), some (.int (nI (l + 1))), none]) ⟨rfl, rfl, rfl, trivial⟩ (ih (l + 1) _ (by omega) (by rw [hn1]; simp only [bUp]; rw [if_pos ⟨hE, by assumption⟩, List.append_assoc])))
          · rw [bx_uu, List.length_append]; rfl
          · rw [mL_app, ← mL_lo (F := F) (z := z) (A := A) P (j := 4) (Or.inl (by decide))]; rfl
theorem m_layBlocks_c (hz : mOK z) (hzb : ∀ j, z j < 1000) (h4 : ∀ j, A 4 j ≤ 3) (hg : 1 ≤ F 10) (hg8 : F 10 ≤ 8) (hlw : F 9 ≤ 20) (hpd : F 8 ≤ 8) : ∀ (n : Nat) (c : Nat), c + n = 7 → Zn g zX10_layBlocks 7 [some (.ref 50), some (.int (nI c)), none, none] [] (mhp h (va_up F 13 (bAll z c).length) S z (mL F z A (bAll z c)) X) 0 0 (fun r' h' => r' = .inl (some (.int (nI ((bAll z 7).length)))) ∧ h' = (mhp h (va_up F 13 (bAll z 7).length) S z (mL F z A (bAll z 7)) X)) := by
  intro n
  induction n with
  | zero =>
    intro c hn0
    refine zn_iload_n (pc := 7) rfl rfl ?_
    refine zn_bipushN (pc := 8) 7 rfl rfl ?_
    refine zn_icmp_geN (pc := 10) (tgt := 124) (x := c) (y := 7) rfl rfl (by omega) (by omega) (fun c1 => ?_) (fun c1 => ?_)
    · refine zn_aload_n (pc := 124) rfl rfl ?_
      refine zn_get (pc := 125) (v := .int (nI ((bAll z c).length))) rfl rfl rfl ?_
      obtain rfl : c = 7 := by omega
      exact zx_i (pc := 128) rfl rfl rfl rfl
    · exfalso; omega
  | succ n ih =>
    intro c hn0
    refine zn_iload_n (pc := 7) rfl rfl ?_
    refine zn_bipushN (pc := 8) 7 rfl rfl ?_
    refine zn_icmp_geN (pc := 10) (tgt := 124) (x := c) (y := 7) rfl rfl (by omega) (by omega) (fun c1 => ?_) (fun c1 => ?_)
    · refine zn_aload_n (pc := 124) rfl rfl ?_
      refine zn_get (pc := 125) (v := .int (nI ((bAll z c).length))) rfl rfl rfl ?_
      obtain rfl : c = 7 := by omega
      exact zx_i (pc := 128) rfl rfl rfl rfl
    · refine zn_iconstN (pc := 13) 0 rfl rfl ?_
      refine zn_istore_n (pc := 14) (L' := [some (.ref 50), some (.int (nI c)), some (.int (nI 0)), none]) rfl (by decide) rfl ?_
      exact m_layBlocks_l hz hzb h4 hg hg8 hlw hpd (by omega) (ih (c + 1) (by omega)) (z 0) 0 (bAll z c) (by omega) (by simp only [bUp, List.append_nil])
theorem m_layBlocks  (hz : mOK z) (hzb : ∀ j, z j < 1000) (h4 : ∀ j, A 4 j ≤ 3) (hg : 1 ≤ F 10) (hg8 : F 10 ≤ 8) (hlw : F 9 ≤ 20) (hpd : F 8 ≤ 8) : Zx g zX10_layBlocks [.ref 50] (mhp h F S z A X) (some (.int (nI ((bAll z 7).length)))) (mhp h (va_up F 13 (bAll z 7).length) S z (mL F z A (bAll z 7)) X) := by
  show Zn g zX10_layBlocks 0 [some (.ref 50), none, none, none] [] (mhp h F S z A X) 0 0 _
  refine zn_aload_n (pc := 0) rfl rfl ?_
  refine zn_iconstN (pc := 1) 0 rfl rfl ?_
  refine zm_putI (pc := 2) (k := 13) (v := 0) rfl (by decide) rfl rfl ?_
  refine zn_iconstN (pc := 5) 0 rfl rfl ?_
  refine zn_istore_n (pc := 6) (L' := [some (.ref 50), some (.int (nI 0)), none, none]) rfl (by decide) rfl ?_
  exact m_layBlocks_c hz hzb h4 hg hg8 hlw hpd 7 0 (by omega)
end m1
