section m1
variable {g : zG} {h hh : zH} {F : Nat → Nat} {S : Int64} {z : Nat → Nat} {A : Nat → Nat → Nat} {X : Nat → Int32}
theorem mSg_124 : ¬ mSg (nI 124) := by decide +kernel
theorem mSg_47 : ¬ mSg (nI 47) := by decide +kernel
theorem mrl_bar {f : Nat → Nat} {kd n k s b e : Nat} (hm : mrl f kd (n + 1) k s b e = k + (n + 1)) (hk : f k = 124) : 0 < kd ∧ b < 7 ∧ mrl f kd n (k + 1) 0 (b + 1) e = k + 1 + n := by
  simp only [mrl] at hm
  by_cases h1 : f k = 124 ∧ 0 < kd ∧ b < 7
  · rw [if_pos h1] at hm; exact ⟨h1.2.1, h1.2.2, by omega⟩
  · rw [if_neg h1, if_neg (by omega), if_neg (by rw [hk]; exact fun q => mSg_124 q.1)] at hm; omega
theorem mrl_end {f : Nat → Nat} {kd n k s b e : Nat} (hm : mrl f kd (n + 1) k s b e = k + (n + 1)) (hk : f k = 47) : 1 < kd ∧ e < 23 ∧ mrl f kd n (k + 1) 0 0 (e + 1) = k + 1 + n := by
  simp only [mrl] at hm
  rw [if_neg (by omega)] at hm
  by_cases h1 : f k = 47 ∧ 1 < kd ∧ e < 23
  · rw [if_pos h1] at hm; exact ⟨h1.2.1, h1.2.2, by omega⟩
  · rw [if_neg h1, if_neg (by rw [hk]; exact fun q => mSg_47 q.1)] at hm; omega
theorem mrl_sgn {f : Nat → Nat} {kd n k s b e : Nat} (hm : mrl f kd (n + 1) k s b e = k + (n + 1)) (h1 : f k ≠ 124) (h2 : f k ≠ 47) : mSg (nI (f k)) ∧ s < 16 ∧ mrl f kd n (k + 1) (s + 1) b e = k + 1 + n := by
  simp only [mrl] at hm
  rw [if_neg (by omega), if_neg (by omega)] at hm
  by_cases h3 : mSg (nI (f k)) ∧ s < 16
  · rw [if_pos h3] at hm; exact ⟨h3.1, h3.2, by omega⟩
  · rw [if_neg h3] at hm; omega
theorem m_layBuffer_l {kd line : Nat} (hs : F 11 ≤ 120) (hb : ∀ j, A 5 j < 1000) : ∀ (n : Nat) (k l s b e : Nat) (w R : Nat → Nat), k + n = F 11 → mrl (A 5) kd n k s b e = k + n → w (1 + l) = b + 1 → w (25 + 8 * l + b) = s → b ≤ 7 → s ≤ 16 → l ≤ 23 → (kd ≤ 1 ∨ l = e) → R = mlay (A 5) n k l w → Zn g zX10_layBuffer 4 [some (.ref 50), some (.int (nI line)), some (.int (nI l)), some (.int (nI k)), none] [] (mhp h F S w A X) 0 0 (fun r' h' => r' = .inl none ∧ h' = (mhp h (va_up F 11 0) S R A X)) := by
  intro n
  induction n with
  | zero =>
    intro k l s b e w R hn0 hn1 hn2 hn3 hn4 hn5 hn6 hn7 hn8
    refine zn_iload_n (pc := 4) rfl rfl ?_
    refine zn_aload_n (pc := 5) rfl rfl ?_
    refine zn_get (pc := 6) (v := .int (nI (F 11))) rfl rfl rfl ?_
    refine zn_icmp_geN (pc := 9) (tgt := 146) (x := k) (y := (F 11)) rfl rfl (by have := hb k; omega) (by have := hb k; omega) (fun c1 => ?_) (fun c1 => ?_)
    · refine zn_aload_n (pc := 146) rfl rfl ?_
      refine zn_iconstN (pc := 147) 0 rfl rfl ?_
      refine zm_putI (pc := 148) (k := 11) (v := 0) rfl (by decide) rfl rfl ?_
      have hR : R = w := by rw [hn8]; simp only [mlay]
      exact zx_v (pc := 151) rfl rfl rfl (by rw [hR])
    · exfalso; omega
  | succ n ih =>
    intro k l s b e w R hn0 hn1 hn2 hn3 hn4 hn5 hn6 hn7 hn8
    refine zn_iload_n (pc := 4) rfl rfl ?_
    refine zn_aload_n (pc := 5) rfl rfl ?_
    refine zn_get (pc := 6) (v := .int (nI (F 11))) rfl rfl rfl ?_
    refine zn_icmp_geN (pc := 9) (tgt := 146) (x := k) (y := (F 11)) rfl rfl (by have := hb k; omega) (by have := hb k; omega) (fun c1 => ?_) (fun c1 => ?_)
    · refine zn_aload_n (pc := 146) rfl rfl ?_
      refine zn_iconstN (pc := 147) 0 rfl rfl ?_
      refine zm_putI (pc := 148) (k := 11) (v := 0) rfl (by decide) rfl rfl ?_
      exfalso; omega
    · refine zn_aload_n (pc := 12) rfl rfl ?_
      refine zn_iload_n (pc := 13) rfl rfl ?_
      refine zn_callVx (pc := 14) (J := zX10_cells) (o := 50) (as := [.int (nI l)]) (rest := []) rfl rfl rfl rfl rfl rfl rfl rfl (Nat.le_of_ble_eq_true rfl) (Nat.le_of_ble_eq_true rfl) (Nat.le_of_ble_eq_true rfl) (Nat.le_of_ble_eq_true rfl) (m_cells (l := l) (by omega)) ?_
      refine zn_iconstN (pc := 17) 1 rfl rfl ?_
      refine zn_isubN (pc := 18) (x := (w (1 + l))) (y := 1) rfl (by omega) ?_
      refine zn_top (v' := .int (nI b)) (by rw [show w (1 + l) - 1 = b by omega]) ?_
      refine zn_istore (pc := 19) (L' := [some (.ref 50), some (.int (nI line)), some (.int (nI l)), some (.int (nI k)), some (.int (nI b))]) rfl (by decide) rfl ?_
      refine zn_aload_n (pc := 21) rfl rfl ?_
      refine zn_get (pc := 22) (v := .ref 56) rfl rfl rfl ?_
      refine zn_iload_n (pc := 25) rfl rfl ?_
      refine zm_ldA (pc := 26) (i := 5) (n := 120) (Z := (A 5)) (j := k) rfl (by decide) (by decide) rfl mln5 rfl (by omega) (Nat.le_of_ble_eq_true rfl) ?_
      refine zn_bipushN (pc := 27) 124 rfl rfl ?_
      refine zn_icmp_neN (pc := 29) (tgt := 57) (x := ((A 5) k)) (y := 124) rfl rfl (by have := hb k; omega) (by have := hb k; omega) (fun c2 => ?_) (fun c2 => ?_)
      · have n124 := c2
        refine zn_aload_n (pc := 57) rfl rfl ?_
        refine zn_get (pc := 58) (v := .ref 56) rfl rfl rfl ?_
        refine zn_iload_n (pc := 61) rfl rfl ?_
        refine zm_ldA (pc := 62) (i := 5) (n := 120) (Z := (A 5)) (j := k) rfl (by decide) (by decide) rfl mln5 rfl (by omega) (Nat.le_of_ble_eq_true rfl) ?_
        refine zn_bipushN (pc := 63) 47 rfl rfl ?_
        refine zn_icmp_neN (pc := 65) (tgt := 100) (x := ((A 5) k)) (y := 47) rfl rfl (by have := hb k; omega) (by have := hb k; omega) (fun c3 => ?_) (fun c3 => ?_)
        · obtain ⟨m1, m2, m3⟩ := mrl_sgn hn1 n124 c3
          refine zn_aload_n (pc := 100) rfl rfl ?_
          refine zn_get (pc := 101) (v := .ref 51) rfl rfl rfl ?_
          refine zn_iload_n (pc := 104) rfl rfl ?_
          refine zn_iload (pc := 105) rfl rfl ?_
          refine zn_aload_n (pc := 107) rfl rfl ?_
          refine zn_iload_n (pc := 108) rfl rfl ?_
          refine zn_iload (pc := 109) rfl rfl ?_
          refine zn_callVx (pc := 111) (J := zX10_lengthOf) (o := 50) (as := [.int (nI l), .int (nI b)]) (rest := [.int (nI b), .int (nI l), .ref 51]) rfl rfl rfl rfl rfl rfl rfl rfl (Nat.le_of_ble_eq_true rfl) (Nat.le_of_ble_eq_true rfl) (Nat.le_of_ble_eq_true rfl) (Nat.le_of_ble_eq_true rfl) (m_lengthOf (l := l) (c := b) (by omega) (by omega)) ?_
          refine zn_callSx (pc := 114) (J := zX10_place) (as := [.int (nI l), .int (nI b), .int (nI (w (25 + 8 * l + b)))]) (rest := [.ref 51]) rfl (by decide) rfl rfl rfl rfl (Nat.le_of_ble_eq_true rfl) (Nat.le_of_ble_eq_true rfl) (Nat.le_of_ble_eq_true rfl) (Nat.le_of_ble_eq_true rfl) (m_place l b (w (25 + 8 * l + b))) ?_
          refine zn_aload_n (pc := 117) rfl rfl ?_
          refine zn_get (pc := 118) (v := .ref 56) rfl rfl rfl ?_
          refine zn_iload_n (pc := 121) rfl rfl ?_
          refine zm_ldA (pc := 122) (i := 5) (n := 120) (Z := (A 5)) (j := k) rfl (by decide) (by decide) rfl mln5 rfl (by omega) (Nat.le_of_ble_eq_true rfl) ?_
          refine zm_stz (pc := 123) (j := (217 + 16 * (8 * l + b) + (w (25 + 8 * l + b)))) (v := ((A 5) k)) rfl (by omega) ?_
          refine zn_aload_n (pc := 124) rfl rfl ?_
          refine zn_iload_n (pc := 125) rfl rfl ?_
          refine zn_iload (pc := 126) rfl rfl ?_
          refine zn_aload_n (pc := 128) rfl rfl ?_
          refine zn_iload_n (pc := 129) rfl rfl ?_
          refine zn_iload (pc := 130) rfl rfl ?_
          refine zn_callVx (pc := 132) (J := zX10_lengthOf) (o := 50) (as := [.int (nI l), .int (nI b)]) (rest := [.int (nI b), .int (nI l), .ref 50]) rfl rfl rfl rfl rfl rfl rfl rfl (Nat.le_of_ble_eq_true rfl) (Nat.le_of_ble_eq_true rfl) (Nat.le_of_ble_eq_true rfl) (Nat.le_of_ble_eq_true rfl) (m_lengthOf (l := l) (c := b) (by omega) (by omega)) ?_
          refine zn_top (v' := .int (nI (w (25 + 8 * l + b)))) (by congr 2; simp only [va_up]; rw [if_neg (by omega)]) ?_
          refine zn_iconstN (pc := 135) 1 rfl rfl ?_
          refine zn_iaddN (pc := 136) (x := (w (25 + 8 * l + b))) (y := 1) rfl ?_
          refine zn_callVx (pc := 137) (J := zX10_setLength) (o := 50) (as := [.int (nI l), .int (nI b), .int (nI ((w (25 + 8 * l + b)) + 1))]) (rest := []) rfl rfl rfl rfl rfl rfl rfl rfl (Nat.le_of_ble_eq_true rfl) (Nat.le_of_ble_eq_true rfl) (Nat.le_of_ble_eq_true rfl) (Nat.le_of_ble_eq_true rfl) (m_setLength (l := l) (c := b) (n := ((w (25 + 8 * l + b)) + 1)) (by omega) (by omega)) ?_
          refine zn_iincN (pc := 140) (L' := [some (.ref 50), some (.int (nI line)), some (.int (nI l)), some (.int (nI (k + 1))), some (.int (nI b))]) 1 rfl rfl rfl (by decide) rfl ?_
          refine zn_goto (pc := 143) (tgt := 4) rfl rfl ?_
          refine zn_sub (L' := [some (.ref 50), some (.int (nI line)), some (.int (nI l)), some (.int (nI (k + 1))), none]) ⟨rfl, rfl, rfl, rfl, trivial⟩ (ih (k + 1) l (s + 1) b e (va_up (va_up w (217 + 16 * (8 * l + b) + (w (25 + 8 * l + b))) ((A 5) k)) (25 + 8 * l + b) ((w (25 + 8 * l + b)) + 1)) _ (by omega) m3 (by simp only [va_up]; rw [if_neg (by omega), if_neg (by omega)]; omega) (by simp only [va_up]; rw [if_pos trivial]; omega) (by omega) (by omega) (by omega) (by omega) (by rw [hn8]; simp only [mlay]; rw [if_neg (by assumption), if_neg (by assumption), show w (1 + l) - 1 = b by omega]))
        · obtain ⟨m1, m2, m3⟩ := mrl_end hn1 c3
          refine zn_iincN (pc := 68) (L' := [some (.ref 50), some (.int (nI line)), some (.int (nI (l + 1))), some (.int (nI k)), some (.int (nI b))]) 1 rfl rfl rfl (by decide) rfl ?_
          refine zn_aload_n (pc := 71) rfl rfl ?_
          refine zn_get (pc := 72) (v := .ref 51) rfl rfl rfl ?_
          refine zn_iconstN (pc := 75) 0 rfl rfl ?_
          refine zn_dup2 (pc := 76) rfl rfl rfl ?_
          refine zn_naLd (pc := 77) (o := 51) (n := 3289) (Z := w) (j := 0) rfl rfl (by omega) (Nat.le_of_ble_eq_true rfl) ?_
          refine zn_iconstN (pc := 78) 1 rfl rfl ?_
          refine zn_iaddN (pc := 79) (x := (w 0)) (y := 1) rfl ?_
          refine zm_stz (pc := 80) (j := 0) (v := (w 0 + 1)) rfl (by omega) ?_
          refine zn_aload_n (pc := 81) rfl rfl ?_
          refine zn_get (pc := 82) (v := .ref 51) rfl rfl rfl ?_
          refine zn_iconstN (pc := 85) 1 rfl rfl ?_
          refine zn_iload_n (pc := 86) rfl rfl ?_
          refine zn_iaddN (pc := 87) (x := 1) (y := (l + 1)) rfl ?_
          refine zn_iconstN (pc := 88) 1 rfl rfl ?_
          refine zm_stz (pc := 89) (j := (1 + (l + 1))) (v := 1) rfl (by omega) ?_
          refine zn_aload_n (pc := 90) rfl rfl ?_
          refine zn_iload_n (pc := 91) rfl rfl ?_
          refine zn_iconstN (pc := 92) 0 rfl rfl ?_
          refine zn_iconstN (pc := 93) 0 rfl rfl ?_
          refine zn_callVx (pc := 94) (J := zX10_setLength) (o := 50) (as := [.int (nI (l + 1)), .int (nI 0), .int (nI 0)]) (rest := []) rfl rfl rfl rfl rfl rfl rfl rfl (Nat.le_of_ble_eq_true rfl) (Nat.le_of_ble_eq_true rfl) (Nat.le_of_ble_eq_true rfl) (Nat.le_of_ble_eq_true rfl) (m_setLength (l := (l + 1)) (c := 0) (n := 0) (by omega) (by omega)) ?_
          refine zn_goto (pc := 97) (tgt := 140) rfl rfl ?_
          refine zn_iincN (pc := 140) (L' := [some (.ref 50), some (.int (nI line)), some (.int (nI (l + 1))), some (.int (nI (k + 1))), some (.int (nI b))]) 1 rfl rfl rfl (by decide) rfl ?_
          refine zn_goto (pc := 143) (tgt := 4) rfl rfl ?_
          refine zn_sub (L' := [some (.ref 50), some (.int (nI line)), some (.int (nI (l + 1))), some (.int (nI (k + 1))), none]) ⟨rfl, rfl, rfl, rfl, trivial⟩ (ih (k + 1) (l + 1) 0 0 (e + 1) (va_up (va_up (va_up w 0 (w 0 + 1)) (1 + (l + 1)) 1) (25 + 8 * (l + 1) + 0) 0) _ (by omega) m3 (by simp only [va_up]; rw [if_neg (by omega), if_pos trivial]) (by simp only [va_up]; rw [if_pos trivial]) (by omega) (by omega) (by omega) (by omega) (by rw [hn8]; simp only [mlay]; rw [if_neg (by assumption), if_pos (by assumption)]))
      · obtain ⟨m1, m2, m3⟩ := mrl_bar hn1 c2
        refine zn_aload_n (pc := 32) rfl rfl ?_
        refine zn_get (pc := 33) (v := .ref 51) rfl rfl rfl ?_
        refine zn_iconstN (pc := 36) 1 rfl rfl ?_
        refine zn_iload_n (pc := 37) rfl rfl ?_
        refine zn_iaddN (pc := 38) (x := 1) (y := l) rfl ?_
        refine zn_dup2 (pc := 39) rfl rfl rfl ?_
        refine zn_naLd (pc := 40) (o := 51) (n := 3289) (Z := w) (j := (1 + l)) rfl rfl (by omega) (Nat.le_of_ble_eq_true rfl) ?_
        refine zn_iconstN (pc := 41) 1 rfl rfl ?_
        refine zn_iaddN (pc := 42) (x := (w (1 + l))) (y := 1) rfl ?_
        refine zm_stz (pc := 43) (j := (1 + l)) (v := ((w (1 + l)) + 1)) rfl (by omega) ?_
        refine zn_aload_n (pc := 44) rfl rfl ?_
        refine zn_iload_n (pc := 45) rfl rfl ?_
        refine zn_iload (pc := 46) rfl rfl ?_
        refine zn_iconstN (pc := 48) 1 rfl rfl ?_
        refine zn_iaddN (pc := 49) (x := b) (y := 1) rfl ?_
        refine zn_iconstN (pc := 50) 0 rfl rfl ?_
        refine zn_callVx (pc := 51) (J := zX10_setLength) (o := 50) (as := [.int (nI l), .int (nI (b + 1)), .int (nI 0)]) (rest := []) rfl rfl rfl rfl rfl rfl rfl rfl (Nat.le_of_ble_eq_true rfl) (Nat.le_of_ble_eq_true rfl) (Nat.le_of_ble_eq_true rfl) (Nat.le_of_ble_eq_true rfl) (m_setLength (l := l) (c := (b + 1)) (n := 0) (by omega) (by omega)) ?_
        refine zn_goto (pc := 54) (tgt := 140) rfl rfl ?_
        refine zn_iincN (pc := 140) (L' := [some (.ref 50), some (.int (nI line)), some (.int (nI l)), some (.int (nI (k + 1))), some (.int (nI b))]) 1 rfl rfl rfl (by decide) rfl ?_
        refine zn_goto (pc := 143) (tgt := 4) rfl rfl ?_
        refine zn_sub (L' := [some (.ref 50), some (.int (nI line)), some (.int (nI l)), some (.int (nI (k + 1))), none]) ⟨rfl, rfl, rfl, rfl, trivial⟩ (ih (k + 1) l 0 (b + 1) e (va_up (va_up w (1 + l) ((w (1 + l)) + 1)) (25 + 8 * l + (b + 1)) 0) _ (by omega) m3 (by simp only [va_up]; rw [if_neg (by omega), if_pos trivial]; omega) (by simp only [va_up]; rw [if_pos trivial]) (by omega) (by omega) (by omega) (by omega) (by rw [hn8]; simp only [mlay]; rw [if_pos (by assumption), show w (1 + l) - 1 = b by omega]))
theorem m_layBuffer  {kd line : Nat} (hs : F 11 ≤ 120) (hb : ∀ j, A 5 j < 1000) (hr : mrl (A 5) kd (F 11) 0 0 0 0 = F 11) (hw : z (1 + line) = 1) (hw2 : z (25 + 8 * line + 0) = 0) (hl : line ≤ 23) (hd : kd ≤ 1 ∨ line = 0) : Zx g zX10_layBuffer [.ref 50, .int (nI line)] (mhp h F S z A X) none (mhp h (va_up F 11 0) S (mlay (A 5) (F 11) 0 line z) A X) := by
  show Zn g zX10_layBuffer 0 [some (.ref 50), some (.int (nI line)), none, none, none] [] (mhp h F S z A X) 0 0 _
  refine zn_iload_n (pc := 0) rfl rfl ?_
  refine zn_istore_n (pc := 1) (L' := [some (.ref 50), some (.int (nI line)), some (.int (nI line)), none, none]) rfl (by decide) rfl ?_
  refine zn_iconstN (pc := 2) 0 rfl rfl ?_
  refine zn_istore_n (pc := 3) (L' := [some (.ref 50), some (.int (nI line)), some (.int (nI line)), some (.int (nI 0)), none]) rfl (by decide) rfl ?_
  exact m_layBuffer_l (kd := kd) hs hb (F 11) 0 line 0 0 0 z _ (by omega) (by omega) (by omega) hw2 (by omega) (by omega) hl hd rfl
end m1
