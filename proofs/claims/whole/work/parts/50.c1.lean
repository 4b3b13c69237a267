section m1
variable {g : zG} {h hh : zH} {F : Nat → Nat} {S : Int64} {z : Nat → Nat} {A : Nat → Nat → Nat} {X : Nat → Int32}
theorem zn_maxN {I : zI} {pc b idx : Nat} {L : zL} {st : List Value} {mc ms : Nat} {Q : zR → zH → Prop} {x y : Nat} (hf : zF I pc = some (.invokestatic idx, 3, 5002, b)) (hfr : 1 ≤ zFr I) (hlo : (st.map fun v => v.category).sum + 13 ≤ zLo I) (hx : x < 2 ^ 31) (hy : y < 2 ^ 31) (K : Zn g I (pc + 3) L (.int (nI (max x y)) :: st) hh mc ms Q) : Zn g I pc L (.int (nI y) :: .int (nI x) :: st) hh mc ms Q := by
  refine zn_max hf hfr hlo ?_
  by_cases q : x < y
  · rw [if_pos ((nI_ltI hx hy).mpr q)]
    rwa [show max x y = y by omega] at K
  · rw [if_neg (fun r => q ((nI_ltI hx hy).mp r))]
    rwa [show max x y = x by omega] at K
theorem zn_minN {I : zI} {pc b idx : Nat} {L : zL} {st : List Value} {mc ms : Nat} {Q : zR → zH → Prop} {x y : Nat} (hf : zF I pc = some (.invokestatic idx, 3, 5003, b)) (hfr : 1 ≤ zFr I) (hlo : (st.map fun v => v.category).sum + 13 ≤ zLo I) (hx : x < 2 ^ 31) (hy : y < 2 ^ 31) (K : Zn g I (pc + 3) L (.int (nI (min x y)) :: st) hh mc ms Q) : Zn g I pc L (.int (nI y) :: .int (nI x) :: st) hh mc ms Q := by
  refine zn_min hf hfr hlo ?_
  by_cases q : y < x
  · rw [if_pos ((nI_ltI hy hx).mpr q)]
    rwa [show min x y = y by omega] at K
  · rw [if_neg (fun r => q ((nI_ltI hy hx).mp r))]
    rwa [show min x y = x by omega] at K
theorem zn_alenN {I : zI} {pc a b : Nat} {L : zL} {st : List Value} {mc ms : Nat} {Q : zR → zH → Prop} {o n : Nat} {y : (Nat → Int32) ⊕ _} (hf : zF I pc = some (.arraylength, 1, a, b)) (ho : hh.1 o = some (.inl (n, y))) (K : Zn g I (pc + 1) L (.int (nI n) :: st) hh mc ms Q) : Zn g I pc L (.ref o :: st) hh mc ms Q := zn_alen hf ho K
theorem c_isDigit  {c : Nat} (hc : c < 2 ^ 31) : Zx g zX9_isDigit [.int (nI c)] hh (some (.int (zb (sDig c)))) hh := by
  show Zn g zX9_isDigit 0 [some (.int (nI c))] [] hh 0 0 _
  refine zn_iload_n (pc := 0) rfl rfl ?_
  refine zn_bipushN (pc := 1) 48 rfl rfl ?_
  refine zn_icmp_ltN (pc := 3) (tgt := 16) (x := c) (y := 48) rfl rfl (by omega) (by omega) (fun c1 => ?_) (fun c1 => ?_)
  · refine zn_iconstN (pc := 16) 0 rfl rfl ?_
    exact zx_z (pc := 17) rfl rfl (by decide) (by rw [zb_f (by omega)]; rfl) rfl
  · refine zn_iload_n (pc := 6) rfl rfl ?_
    refine zn_bipushN (pc := 7) 57 rfl rfl ?_
    refine zn_icmp_gtN (pc := 9) (tgt := 16) (x := c) (y := 57) rfl rfl (by omega) (by omega) (fun c2 => ?_) (fun c2 => ?_)
    · refine zn_iconstN (pc := 16) 0 rfl rfl ?_
      exact zx_z (pc := 17) rfl rfl (by decide) (by rw [zb_f (by omega)]; rfl) rfl
    · refine zn_iconstN (pc := 12) 1 rfl rfl ?_
      refine zn_goto (pc := 13) (tgt := 17) rfl rfl ?_
      exact zx_z (pc := 17) rfl rfl (by decide) (by rw [zb_t (by omega)]; rfl) rfl
theorem c_isDigitI  (x : Int32) : Zx g zX9_isDigit [.int x] hh (some (.int (zb (nI 48 ≤ x ∧ x ≤ nI 57)))) hh := by
  show Zn g zX9_isDigit 0 [some (.int x)] [] hh 0 0 _
  refine zn_iload_n (pc := 0) rfl rfl ?_
  refine zn_bipushN (pc := 1) 48 rfl rfl ?_
  refine zn_icmp_lt (pc := 3) (tgt := 16) (x := x) (y := (nI 48)) rfl rfl (fun c1 => ?_) (fun c1 => ?_)
  · refine zn_iconstN (pc := 16) 0 rfl rfl ?_
    exact zx_z (pc := 17) rfl rfl (by decide) (by rw [zb_f (by simp only [← Int32.toInt_inj, Int32.lt_iff_toInt_lt, Int32.le_iff_toInt_le] at *; omega)]; rfl) rfl
  · refine zn_iload_n (pc := 6) rfl rfl ?_
    refine zn_bipushN (pc := 7) 57 rfl rfl ?_
    refine zn_icmp_gt (pc := 9) (tgt := 16) (x := x) (y := (nI 57)) rfl rfl (fun c2 => ?_) (fun c2 => ?_)
    · refine zn_iconstN (pc := 16) 0 rfl rfl ?_
      exact zx_z (pc := 17) rfl rfl (by decide) (by rw [zb_f (by simp only [← Int32.toInt_inj, Int32.lt_iff_toInt_lt, Int32.le_iff_toInt_le] at *; omega)]; rfl) rfl
    · refine zn_iconstN (pc := 12) 1 rfl rfl ?_
      refine zn_goto (pc := 13) (tgt := 17) rfl rfl ?_
      exact zx_z (pc := 17) rfl rfl (by decide) (by rw [zb_t (by simp only [← Int32.toInt_inj, Int32.lt_iff_toInt_lt, Int32.le_iff_toInt_le] at *; omega)]; rfl) rfl
theorem c_mix  {s x : Int64} : Zx g zX9_mix [.long s, .long x] hh (some (.long (hx s x))) hh := by
  show Zn g zX9_mix 0 [some (.long s), none, some (.long x), none] [] hh 0 0 _
  refine zn_ldc2 (pc := 0) (v := 31) rfl ?_
  refine zn_lload_n (pc := 3) rfl rfl ?_
  refine zn_lmul (pc := 4) rfl ?_
  refine zn_lload_n (pc := 5) rfl rfl ?_
  refine zn_ladd (pc := 6) rfl ?_
  exact zx_l (pc := 7) rfl rfl rfl rfl
theorem c_sortRank  {k : Nat} (hk : k ≤ 2) : Zx g zX9_sortRank [.int (nI k)] hh (some (.int (nI (sRank k)))) hh := by
  show Zn g zX9_sortRank 0 [some (.int (nI k))] [] hh 0 0 _
  refine zn_iload_n (pc := 0) rfl rfl ?_
  refine zn_iconstN (pc := 1) 1 rfl rfl ?_
  refine zn_icmp_neN (pc := 2) (tgt := 7) (x := k) (y := 1) rfl rfl (by omega) (by omega) (fun c1 => ?_) (fun c1 => ?_)
  · refine zn_iload_n (pc := 7) rfl rfl ?_
    refine zn_iconstN (pc := 8) 2 rfl rfl ?_
    refine zn_icmp_neN (pc := 9) (tgt := 16) (x := k) (y := 2) rfl rfl (by omega) (by omega) (fun c2 => ?_) (fun c2 => ?_)
    · refine zn_iconstN (pc := 16) 2 rfl rfl ?_
      exact zx_i (pc := 17) rfl rfl (by unfold sRank; rw [if_neg (by omega), if_neg (by omega)]) rfl
    · refine zn_iconstN (pc := 12) 1 rfl rfl ?_
      refine zn_goto (pc := 13) (tgt := 17) rfl rfl ?_
      exact zx_i (pc := 17) rfl rfl (by unfold sRank; rw [if_neg (by omega), if_pos (by omega)]) rfl
  · refine zn_iconstN (pc := 5) 0 rfl rfl ?_
    exact zx_i (pc := 6) rfl rfl (by unfold sRank; rw [if_pos (by omega)]) rfl
theorem c_slot  {l c : Nat} : Zx g zX1_slot [.int (nI l), .int (nI c)] hh (some (.int (nI (8 * l + c)))) hh := by
  show Zn g zX1_slot 0 [some (.int (nI l)), some (.int (nI c))] [] hh 0 0 _
  refine zn_iload_n (pc := 0) rfl rfl ?_
  refine zn_bipushN (pc := 1) 8 rfl rfl ?_
  refine zn_imulN (pc := 3) (x := l) (y := 8) rfl ?_
  refine zn_iload_n (pc := 4) rfl rfl ?_
  refine zn_iaddN (pc := 5) (x := (l * 8)) (y := c) rfl ?_
  exact zx_i (pc := 6) rfl rfl (by rw [Nat.mul_comm]) rfl
theorem c_icmp  {x y : Nat} (hx : x < 2 ^ 31) (hy : y < 2 ^ 31) : Zx g zJ6_compare_7cf53 [.int (nI x), .int (nI y)] hh (some (.int (if x < y then -1 else if x = y then 0 else 1))) hh := by
  show Zn g zJ6_compare_7cf53 0 [some (.int (nI x)), some (.int (nI y))] [] hh 0 0 _
  refine zn_iload_n (pc := 0) rfl rfl ?_
  refine zn_iload_n (pc := 1) rfl rfl ?_
  refine zn_icmp_geN (pc := 2) (tgt := 9) (x := x) (y := y) rfl rfl (by omega) (by omega) (fun c1 => ?_) (fun c1 => ?_)
  · refine zn_iload_n (pc := 9) rfl rfl ?_
    refine zn_iload_n (pc := 10) rfl rfl ?_
    refine zn_icmp_neN (pc := 11) (tgt := 18) (x := x) (y := y) rfl rfl (by omega) (by omega) (fun c2 => ?_) (fun c2 => ?_)
    · refine zn_iconstN (pc := 18) 1 rfl rfl ?_
      exact zx_i (pc := 19) rfl rfl (by rw [if_neg (by omega), if_neg (by omega)]; try rfl) rfl
    · refine zn_iconstN (pc := 14) 0 rfl rfl ?_
      refine zn_goto (pc := 15) (tgt := 19) rfl rfl ?_
      exact zx_i (pc := 19) rfl rfl (by rw [if_neg (by omega), if_pos (by omega)]; try rfl) rfl
  · refine zn_iconst (pc := 5) (-1) rfl rfl ?_
    refine zn_goto (pc := 6) (tgt := 19) rfl rfl ?_
    exact zx_i (pc := 19) rfl rfl (by rw [if_pos (by omega)]; try rfl) rfl
theorem c_lcmp  {x y : Int64} : Zx g zJ13_compare_74951 [.long x, .long y] hh (some (.int (if ¬ 0 ≤ lg_cmp x y then -1 else if lg_cmp x y = 0 then 0 else 1))) hh := by
  show Zn g zJ13_compare_74951 0 [some (.long x), none, some (.long y), none] [] hh 0 0 _
  refine zn_lload_n (pc := 0) rfl rfl ?_
  refine zn_lload_n (pc := 1) rfl rfl ?_
  refine zn_lcmp (pc := 2) rfl ?_
  refine zn_if_ge (pc := 3) (tgt := 10) (x := (lg_cmp x y)) rfl rfl (fun c1 => ?_) (fun c1 => ?_)
  · refine zn_lload_n (pc := 10) rfl rfl ?_
    refine zn_lload_n (pc := 11) rfl rfl ?_
    refine zn_lcmp (pc := 12) rfl ?_
    refine zn_if_ne (pc := 13) (tgt := 20) (x := (lg_cmp x y)) rfl rfl (fun c2 => ?_) (fun c2 => ?_)
    · refine zn_iconstN (pc := 20) 1 rfl rfl ?_
      exact zx_i (pc := 21) rfl rfl (by rw [if_neg (fun q => q (by assumption)), if_neg (by assumption)]; try rfl) rfl
    · refine zn_iconstN (pc := 16) 0 rfl rfl ?_
      refine zn_goto (pc := 17) (tgt := 21) rfl rfl ?_
      exact zx_i (pc := 21) rfl rfl (by rw [if_neg (fun q => q (by assumption)), if_pos (by assumption)]; try rfl) rfl
  · refine zn_iconst (pc := 6) (-1) rfl rfl ?_
    refine zn_goto (pc := 7) (tgt := 21) rfl rfl ?_
    exact zx_i (pc := 21) rfl rfl (by rw [if_pos (by assumption)]; try rfl) rfl
theorem c_codeAt_i  {p q sz : Nat} {Z : Nat → Nat} (hp : hh.1 p = some (.inr (7, [.ref q, .int (nI sz)]))) (hq : hh.1 q = some (mNA 3264 Z)) (hn : sz ≤ 3264) (hZ : ∀ j, Z j < 1000) {a : Nat} (ha : a < sz) : Zx g zX7_codeAt [.ref p, .int (nI a)] (hh) (some (.int (nI (Z a)))) (hh) := by
  show Zn g zX7_codeAt 0 [some (.ref p), some (.int (nI a))] [] (hh) 0 0 _
  refine zn_iload_n (pc := 0) rfl rfl ?_
  refine zn_if_ltN (pc := 1) (tgt := 21) (x := a) rfl rfl (by omega) ?_
  refine zn_iload_n (pc := 4) rfl rfl ?_
  refine zn_aload_n (pc := 5) rfl rfl ?_
  refine zn_get (pc := 6) (v := .int (nI sz)) rfl hp rfl ?_
  refine zn_icmp_geN (pc := 9) (tgt := 21) (x := a) (y := sz) rfl rfl (by omega) (by omega) (fun c2 => ?_) (fun c2 => ?_)
  · exfalso; omega
  · refine zn_aload_n (pc := 12) rfl rfl ?_
    refine zn_get (pc := 13) (v := .ref q) rfl hp rfl ?_
    refine zn_iload_n (pc := 16) rfl rfl ?_
    refine zn_naLd (pc := 17) (o := q) (n := 3264) (Z := Z) (j := a) rfl hq (by omega) (Nat.le_of_ble_eq_true rfl) ?_
    refine zn_goto (pc := 18) (tgt := 22) rfl rfl ?_
    exact zx_i (pc := 22) rfl rfl rfl rfl
theorem c_codeAt_o  {p q sz : Nat} {Z : Nat → Nat} (hp : hh.1 p = some (.inr (7, [.ref q, .int (nI sz)]))) (hq : hh.1 q = some (mNA 3264 Z)) (hn : sz ≤ 3264) (hZ : ∀ j, Z j < 1000) {a : Nat} (ha : sz ≤ a) (h31 : a < 2 ^ 31) : Zx g zX7_codeAt [.ref p, .int (nI a)] (hh) (some (.int (nI 0))) (hh) := by
  show Zn g zX7_codeAt 0 [some (.ref p), some (.int (nI a))] [] (hh) 0 0 _
  refine zn_iload_n (pc := 0) rfl rfl ?_
  refine zn_if_ltN (pc := 1) (tgt := 21) (x := a) rfl rfl (by omega) ?_
  refine zn_iload_n (pc := 4) rfl rfl ?_
  refine zn_aload_n (pc := 5) rfl rfl ?_
  refine zn_get (pc := 6) (v := .int (nI sz)) rfl hp rfl ?_
  refine zn_icmp_geN (pc := 9) (tgt := 21) (x := a) (y := sz) rfl rfl (by omega) (by omega) (fun c2 => ?_) (fun c2 => ?_)
  · refine zn_iconstN (pc := 21) 0 rfl rfl ?_
    exact zx_i (pc := 22) rfl rfl rfl rfl
  · exfalso; omega
theorem c_psize  {p q sz : Nat} (hp : hh.1 p = some (.inr (7, [.ref q, .int (nI sz)]))) : Zx g zX7_size [.ref p] (hh) (some (.int (nI sz))) (hh) := by
  show Zn g zX7_size 0 [some (.ref p)] [] (hh) 0 0 _
  refine zn_aload_n (pc := 0) rfl rfl ?_
  refine zn_get (pc := 1) (v := .int (nI sz)) rfl hp rfl ?_
  exact zx_i (pc := 4) rfl rfl rfl rfl
abbrev zf (Z : Nat → Nat) (a : Nat) : Nat → Nat := fun k => Z (a + k)
theorem c_isBlank_l {p q sz : Nat} {Z : Nat → Nat} (hp : hh.1 p = some (.inr (7, [.ref q, .int (nI sz)]))) (hq : hh.1 q = some (mNA 3264 Z)) (hn : sz ≤ 3264) (hZ : ∀ j, Z j < 1000) {a m : Nat} (hm : a + m ≤ sz) : ∀ (n : Nat) (k : Nat), k + n = m → sBlank (zf Z a) k → Zn g zX8_isBlank 2 [some (.ref p), some (.int (nI a)), some (.int (nI (a + m))), some (.int (nI (a + k)))] [] (hh) 0 0 (fun r' h' => r' = .inl (some (.int (zb (sBlank (zf Z a) m)))) ∧ h' = (hh)) := by
  intro n
  induction n with
  | zero =>
    intro k hn0 hn1
    refine zn_iload_n (pc := 2) rfl rfl ?_
    refine zn_iload_n (pc := 3) rfl rfl ?_
    refine zn_icmp_geN (pc := 4) (tgt := 25) (x := (a + k)) (y := (a + m)) rfl rfl (by have := hZ (a + k); omega) (by have := hZ (a + k); omega) (fun c1 => ?_) (fun c1 => ?_)
    · refine zn_iconstN (pc := 25) 1 rfl rfl ?_
      exact zx_z (pc := 26) rfl rfl (by decide) (by rw [zb_t (by rw [← show k = m by omega]; exact hn1)]; rfl) rfl
    · exfalso; omega
  | succ n ih =>
    intro k hn0 hn1
    refine zn_iload_n (pc := 2) rfl rfl ?_
    refine zn_iload_n (pc := 3) rfl rfl ?_
    refine zn_icmp_geN (pc := 4) (tgt := 25) (x := (a + k)) (y := (a + m)) rfl rfl (by have := hZ (a + k); omega) (by have := hZ (a + k); omega) (fun c1 => ?_) (fun c1 => ?_)
    · refine zn_iconstN (pc := 25) 1 rfl rfl ?_
      exact zx_z (pc := 26) rfl rfl (by decide) (by rw [zb_t (by rw [← show k = m by omega]; exact hn1)]; rfl) rfl
    · refine zn_aload_n (pc := 7) rfl rfl ?_
      refine zn_iload_n (pc := 8) rfl rfl ?_
      refine zn_callVx (pc := 9) (J := zX7_codeAt) (o := p) (as := [.int (nI (a + k))]) (rest := []) rfl rfl rfl rfl hp rfl rfl rfl (Nat.le_of_ble_eq_true rfl) (Nat.le_of_ble_eq_true rfl) (Nat.le_of_ble_eq_true rfl) (Nat.le_of_ble_eq_true rfl) (c_codeAt_i hp hq hn hZ (a := (a + k)) (by omega)) ?_
      refine zn_bipushN (pc := 12) 32 rfl rfl ?_
      refine zn_icmp_eqN (pc := 14) (tgt := 19) (x := (Z (a + k))) (y := 32) rfl rfl (by have := hZ (a + k); omega) (by have := hZ (a + k); omega) (fun c2 => ?_) (fun c2 => ?_)
      · refine zn_iincN (pc := 19) (L' := [some (.ref p), some (.int (nI a)), some (.int (nI (a + m))), some (.int (nI (a + k + 1)))]) 1 rfl rfl rfl (by decide) rfl ?_
        refine zn_goto (pc := 22) (tgt := 2) rfl rfl ?_
        exact ih (k + 1) (by omega) (sBlank_s.mpr ⟨hn1, by assumption⟩)
      · refine zn_iconstN (pc := 17) 0 rfl rfl ?_
        exact zx_z (pc := 18) rfl rfl (by decide) (by rw [zb_f (fun q9 => absurd (q9 k (by omega)) (by assumption))]; rfl) rfl
theorem c_isBlank  {p q sz : Nat} {Z : Nat → Nat} (hp : hh.1 p = some (.inr (7, [.ref q, .int (nI sz)]))) (hq : hh.1 q = some (mNA 3264 Z)) (hn : sz ≤ 3264) (hZ : ∀ j, Z j < 1000) {a m : Nat} (hm : a + m ≤ sz) : Zx g zX8_isBlank [.ref p, .int (nI a), .int (nI (a + m))] (hh) (some (.int (zb (sBlank (zf Z a) m)))) (hh) := by
  show Zn g zX8_isBlank 0 [some (.ref p), some (.int (nI a)), some (.int (nI (a + m))), none] [] (hh) 0 0 _
  refine zn_iload_n (pc := 0) rfl rfl ?_
  refine zn_istore_n (pc := 1) (L' := [some (.ref p), some (.int (nI a)), some (.int (nI (a + m))), some (.int (nI a))]) rfl (by decide) rfl ?_
  exact c_isBlank_l hp hq hn hZ hm m 0 (by omega) (fun k hk => absurd hk (by omega))
def cNm (f : Nat → Nat) : Nat → Nat → Nat → Nat → Nat → Option (Nat × Nat × Nat)
  | 0, _, d, e, p => some (d, e, p)
  | m + 1, k, d, e, p => if sDig (f k) then cNm f m (k + 1) (d + if p = 0 then 1 else 0) (e + if p = 0 then 0 else 1) p else if f k = 46 ∧ p = 0 then cNm f m (k + 1) d e 1 else if f k = 45 ∧ k = 0 then cNm f m (k + 1) d e p else none
def cNd : Option (Nat × Nat × Nat) → Bool
  | none => false
  | some (d, e, p) => decide ((1 ≤ d ∧ d ≤ 9) ∧ (p = 0 ∨ (1 ≤ e ∧ e ≤ 4)))
abbrev cNq (o : Option (Nat × Nat × Nat)) : Prop := cNd o = true
theorem cNq_n : cNq none ↔ False := ⟨fun q => Bool.noConfusion q, fun q => q.elim⟩
theorem cNq_s {d e p : Nat} : cNq (some (d, e, p)) ↔ (1 ≤ d ∧ d ≤ 9) ∧ (p = 0 ∨ (1 ≤ e ∧ e ≤ 4)) := decide_eq_true_iff
theorem c_isNumber_l {p q sz : Nat} {Z : Nat → Nat} (hp : hh.1 p = some (.inr (7, [.ref q, .int (nI sz)]))) (hq : hh.1 q = some (mNA 3264 Z)) (hn : sz ≤ 3264) (hZ : ∀ j, Z j < 1000) {a m : Nat} (hm : a + m ≤ sz) : ∀ (n : Nat) (k d e u : Nat) (R : Option (Nat × Nat × Nat)), k + n = m → R = cNm (zf Z a) n k d e u → d ≤ k → e ≤ k → u ≤ 1 → Zn g zX8_isNumber 11 [some (.ref p), some (.int (nI a)), some (.int (nI (a + m))), some (.int (nI d)), some (.int (nI e)), some (.int (nI u)), some (.int (nI (a + k))), none] [] (hh) 0 0 (fun r' h' => r' = .inl (some (.int (zb (cNq R)))) ∧ h' = (hh)) := by
  intro n
  induction n with
  | zero =>
    intro k d e u R hn0 hn1 hn2 hn3 hn4
    have ez : zf Z a k = Z (a + k) := rfl
    refine zn_iload (pc := 11) rfl rfl ?_
    refine zn_iload_n (pc := 13) rfl rfl ?_
    refine zn_icmp_geN (pc := 14) (tgt := 103) (x := (a + k)) (y := (a + m)) rfl rfl (by have := hZ (a + k); omega) (by have := hZ (a + k); omega) (fun c1 => ?_) (fun c1 => ?_)
    · refine zn_iload (pc := 103) rfl rfl ?_
      refine zn_if_eqN (pc := 105) (tgt := 120) (x := u) rfl rfl (by have := hZ (a + k); omega) (fun c2 => ?_) (fun c2 => ?_)
      · refine zn_iconstN (pc := 120) 1 rfl rfl ?_
        refine zn_goto (pc := 121) (tgt := 125) rfl rfl ?_
        refine zn_istore (pc := 125) (L' := [some (.ref p), some (.int (nI a)), some (.int (nI (a + m))), some (.int (nI d)), some (.int (nI e)), some (.int (nI u)), some (.int (nI 1)), none]) rfl (by decide) rfl ?_
        refine zn_iload_n (pc := 127) rfl rfl ?_
        refine zn_iconstN (pc := 128) 1 rfl rfl ?_
        refine zn_icmp_ltN (pc := 129) (tgt := 147) (x := d) (y := 1) rfl rfl (by have := hZ (a + k); omega) (by have := hZ (a + k); omega) (fun c3 => ?_) (fun c3 => ?_)
        · refine zn_iconstN (pc := 147) 0 rfl rfl ?_
          exact zx_z (pc := 148) rfl rfl (by decide) (by rw [zb_f (by rw [hn1]; simp only [cNm]; first | (rw [cNq_n]; omega) | (rw [cNq_s]; omega))]; rfl) rfl
        · refine zn_iload_n (pc := 132) rfl rfl ?_
          refine zn_bipushN (pc := 133) 9 rfl rfl ?_
          refine zn_icmp_gtN (pc := 135) (tgt := 147) (x := d) (y := 9) rfl rfl (by have := hZ (a + k); omega) (by have := hZ (a + k); omega) (fun c4 => ?_) (fun c4 => ?_)
          · refine zn_iconstN (pc := 147) 0 rfl rfl ?_
            exact zx_z (pc := 148) rfl rfl (by decide) (by rw [zb_f (by rw [hn1]; simp only [cNm]; first | (rw [cNq_n]; omega) | (rw [cNq_s]; omega))]; rfl) rfl
          · refine zn_iload (pc := 138) rfl rfl ?_
            refine zn_if_eqN (pc := 140) (tgt := 147) (x := 1) rfl rfl (by have := hZ (a + k); omega) (fun c5 => ?_) (fun c5 => ?_)
            · refine zn_iconstN (pc := 147) 0 rfl rfl ?_
              exact zx_z (pc := 148) rfl rfl (by decide) (by rw [zb_f (by rw [hn1]; simp only [cNm]; first | (rw [cNq_n]; omega) | (rw [cNq_s]; omega))]; rfl) rfl
            · refine zn_iconstN (pc := 143) 1 rfl rfl ?_
              refine zn_goto (pc := 144) (tgt := 148) rfl rfl ?_
              exact zx_z (pc := 148) rfl rfl (by decide) (by rw [zb_t (by rw [hn1]; simp only [cNm]; first | (rw [cNq_n]; omega) | (rw [cNq_s]; omega))]; rfl) rfl
      · refine zn_iload (pc := 108) rfl rfl ?_
        refine zn_iconstN (pc := 110) 1 rfl rfl ?_
        refine zn_icmp_ltN (pc := 111) (tgt := 124) (x := e) (y := 1) rfl rfl (by have := hZ (a + k); omega) (by have := hZ (a + k); omega) (fun c6 => ?_) (fun c6 => ?_)
        · refine zn_iconstN (pc := 124) 0 rfl rfl ?_
          refine zn_istore (pc := 125) (L' := [some (.ref p), some (.int (nI a)), some (.int (nI (a + m))), some (.int (nI d)), some (.int (nI e)), some (.int (nI u)), some (.int (nI 0)), none]) rfl (by decide) rfl ?_
          refine zn_iload_n (pc := 127) rfl rfl ?_
          refine zn_iconstN (pc := 128) 1 rfl rfl ?_
          refine zn_icmp_ltN (pc := 129) (tgt := 147) (x := d) (y := 1) rfl rfl (by have := hZ (a + k); omega) (by have := hZ (a + k); omega) (fun c7 => ?_) (fun c7 => ?_)
          · refine zn_iconstN (pc := 147) 0 rfl rfl ?_
            exact zx_z (pc := 148) rfl rfl (by decide) (by rw [zb_f (by rw [hn1]; simp only [cNm]; first | (rw [cNq_n]; omega) | (rw [cNq_s]; omega))]; rfl) rfl
          · refine zn_iload_n (pc := 132) rfl rfl ?_
            refine zn_bipushN (pc := 133) 9 rfl rfl ?_
            refine zn_icmp_gtN (pc := 135) (tgt := 147) (x := d) (y := 9) rfl rfl (by have := hZ (a + k); omega) (by have := hZ (a + k); omega) (fun c8 => ?_) (fun c8 => ?_)
            · refine zn_iconstN (pc := 147) 0 rfl rfl ?_
              exact zx_z (pc := 148) rfl rfl (by decide) (by rw [zb_f (by rw [hn1]; simp only [cNm]; first | (rw [cNq_n]; omega) | (rw [cNq_s]; omega))]; rfl) rfl
            · refine zn_iload (pc := 138) rfl rfl ?_
              refine zn_if_eqN (pc := 140) (tgt := 147) (x := 0) rfl rfl (by have := hZ (a + k); omega) (fun c9 => ?_) (fun c9 => ?_)
              · refine zn_iconstN (pc := 147) 0 rfl rfl ?_
                exact zx_z (pc := 148) rfl rfl (by decide) (by rw [zb_f (by rw [hn1]; simp only [cNm]; first | (rw [cNq_n]; omega) | (rw [cNq_s]; omega))]; rfl) rfl
              · refine zn_iconstN (pc := 143) 1 rfl rfl ?_
                refine zn_goto (pc := 144) (tgt := 148) rfl rfl ?_
                exact zx_z (pc := 148) rfl rfl (by decide) (by rw [zb_t (by rw [hn1]; simp only [cNm]; first | (rw [cNq_n]; omega) | (rw [cNq_s]; omega))]; rfl) rfl
        · refine zn_iload (pc := 114) rfl rfl ?_
          refine zn_iconstN (pc := 116) 4 rfl rfl ?_
          refine zn_icmp_gtN (pc := 117) (tgt := 124) (x := e) (y := 4) rfl rfl (by have := hZ (a + k); omega) (by have := hZ (a + k); omega) (fun c10 => ?_) (fun c10 => ?_)
          · refine zn_iconstN (pc := 124) 0 rfl rfl ?_
            refine zn_istore (pc := 125) (L' := [some (.ref p), some (.int (nI a)), some (.int (nI (a + m))), some (.int (nI d)), some (.int (nI e)), some (.int (nI u)), some (.int (nI 0)), none]) rfl (by decide) rfl ?_
            refine zn_iload_n (pc := 127) rfl rfl ?_
            refine zn_iconstN (pc := 128) 1 rfl rfl ?_
            refine zn_icmp_ltN (pc := 129) (tgt := 147) (x := d) (y := 1) rfl rfl (by have := hZ (a + k); omega) (by have := hZ (a + k); omega) (fun c11 => ?_) (fun c11 => ?_)
            · refine zn_iconstN (pc := 147) 0 rfl rfl ?_
              exact zx_z (pc := 148) rfl rfl (by decide) (by rw [zb_f (by rw [hn1]; simp only [cNm]; first | (rw [cNq_n]; omega) | (rw [cNq_s]; omega))]; rfl) rfl
            · refine zn_iload_n (pc := 132) rfl rfl ?_
              refine zn_bipushN (pc := 133) 9 rfl rfl ?_
              refine zn_icmp_gtN (pc := 135) (tgt := 147) (x := d) (y := 9) rfl rfl (by have := hZ (a + k); omega) (by have := hZ (a + k); omega) (fun c12 => ?_) (fun c12 => ?_)
              · refine zn_iconstN (pc := 147) 0 rfl rfl ?_
                exact zx_z (pc := 148) rfl rfl (by decide) (by rw [zb_f (by rw [hn1]; simp only [cNm]; first | (rw [cNq_n]; omega) | (rw [cNq_s]; omega))]; rfl) rfl
              · refine zn_iload (pc := 138) rfl rfl ?_
                refine zn_if_eqN (pc := 140) (tgt := 147) (x := 0) rfl rfl (by have := hZ (a + k); omega) (fun c13 => ?_) (fun c13 => ?_)
                · refine zn_iconstN (pc := 147) 0 rfl rfl ?_
                  exact zx_z (pc := 148) rfl rfl (by decide) (by rw [zb_f (by rw [hn1]; simp only [cNm]; first | (rw [cNq_n]; omega) | (rw [cNq_s]; omega))]; rfl) rfl
                · refine zn_iconstN (pc := 143) 1 rfl rfl ?_
                  refine zn_goto (pc := 144) (tgt := 148) rfl rfl ?_
                  exact zx_z (pc := 148) rfl rfl (by decide) (by rw [zb_t (by rw [hn1]; simp only [cNm]; first | (rw [cNq_n]; omega) | (rw [cNq_s]; omega))]; rfl) rfl
          · refine zn_iconstN (pc := 120) 1 rfl rfl ?_
            refine zn_goto (pc := 121) (tgt := 125) rfl rfl ?_
            refine zn_istore (pc := 125) (L' := [some (.ref p), some (.int (nI a)), some (.int (nI (a + m))), some (.int (nI d)), some (.int (nI e)), some (.int (nI u)), some (.int (nI 1)), none]) rfl (by decide) rfl ?_
            refine zn_iload_n (pc := 127) rfl rfl ?_
            refine zn_iconstN (pc := 128) 1 rfl rfl ?_
            refine zn_icmp_ltN (pc := 129) (tgt := 147) (x := d) (y := 1) rfl rfl (by have := hZ (a + k); omega) (by have := hZ (a + k); omega) (fun c14 => ?_) (fun c14 => ?_)
            · refine zn_iconstN (pc := 147) 0 rfl rfl ?_
              exact zx_z (pc := 148) rfl rfl (by decide) (by rw [zb_f (by rw [hn1]; simp only [cNm]; first | (rw [cNq_n]; omega) | (rw [cNq_s]; omega))]; rfl) rfl
            · refine zn_iload_n (pc := 132) rfl rfl ?_
              refine zn_bipushN (pc := 133) 9 rfl rfl ?_
              refine zn_icmp_gtN (pc := 135) (tgt := 147) (x := d) (y := 9) rfl rfl (by have := hZ (a + k); omega) (by have := hZ (a + k); omega) (fun c15 => ?_) (fun c15 => ?_)
              · refine zn_iconstN (pc := 147) 0 rfl rfl ?_
                exact zx_z (pc := 148) rfl rfl (by decide) (by rw [zb_f (by rw [hn1]; simp only [cNm]; first | (rw [cNq_n]; omega) | (rw [cNq_s]; omega))]; rfl) rfl
              · refine zn_iload (pc := 138) rfl rfl ?_
                refine zn_if_eqN (pc := 140) (tgt := 147) (x := 1) rfl rfl (by have := hZ (a + k); omega) (fun c16 => ?_) (fun c16 => ?_)
                · refine zn_iconstN (pc := 147) 0 rfl rfl ?_
                  exact zx_z (pc := 148) rfl rfl (by decide) (by rw [zb_f (by rw [hn1]; simp only [cNm]; first | (rw [cNq_n]; omega) | (rw [cNq_s]; omega))]; rfl) rfl
                · refine zn_iconstN (pc := 143) 1 rfl rfl ?_
                  refine zn_goto (pc := 144) (tgt := 148) rfl rfl ?_
                  exact zx_z (pc := 148) rfl rfl (by decide) (by rw [zb_t (by rw [hn1]; simp only [cNm]; first | (rw [cNq_n]; omega) | (rw [cNq_s]; omega))]; rfl) rfl
    · exfalso; omega
  | succ n ih =>
    intro k d e u R hn0 hn1 hn2 hn3 hn4
    have ez : zf Z a k = Z (a + k) := rfl
    refine zn_iload (pc := 11) rfl rfl ?_
    refine zn_iload_n (pc := 13) rfl rfl ?_
    refine zn_icmp_geN (pc := 14) (tgt := 103) (x := (a + k)) (y := (a + m)) rfl rfl (by have := hZ (a + k); omega) (by have := hZ (a + k); omega) (fun c1 => ?_) (fun c1 => ?_)
    · exfalso; omega
    · refine zn_aload_n (pc := 17) rfl rfl ?_
      refine zn_iload (pc := 18) rfl rfl ?_
      refine zn_callVx (pc := 20) (J := zX7_codeAt) (o := p) (as := [.int (nI (a + k))]) (rest := []) rfl rfl rfl rfl hp rfl rfl rfl (Nat.le_of_ble_eq_true rfl) (Nat.le_of_ble_eq_true rfl) (Nat.le_of_ble_eq_true rfl) (Nat.le_of_ble_eq_true rfl) (c_codeAt_i hp hq hn hZ (a := (a + k)) (by omega)) ?_
      refine zn_istore (pc := 23) (L' := [some (.ref p), some (.int (nI a)), some (.int (nI (a + m))), some (.int (nI d)), some (.int (nI e)), some (.int (nI u)), some (.int (nI (a + k))), some (.int (nI (Z (a + k))))]) rfl (by decide) rfl ?_
      refine zn_iload (pc := 25) rfl rfl ?_
      refine zn_callSx (pc := 27) (J := zX9_isDigit) (as := [.int (nI (Z (a + k)))]) (rest := []) rfl (by decide) rfl rfl rfl rfl (Nat.le_of_ble_eq_true rfl) (Nat.le_of_ble_eq_true rfl) (Nat.le_of_ble_eq_true rfl) (Nat.le_of_ble_eq_true rfl) (c_isDigit (c := (Z (a + k))) (by have := hZ (a + k); omega)) ?_
      refine zn_if_eqB (pc := 30) (tgt := 64) rfl rfl (fun c2 => ?_) (fun c2 => ?_)
      · refine zn_iload (pc := 64) rfl rfl ?_
        refine zn_bipushN (pc := 66) 46 rfl rfl ?_
        refine zn_icmp_neN (pc := 68) (tgt := 82) (x := (Z (a + k))) (y := 46) rfl rfl (by have := hZ (a + k); omega) (by have := hZ (a + k); omega) (fun c3 => ?_) (fun c3 => ?_)
        · refine zn_iload (pc := 82) rfl rfl ?_
          refine zn_bipushN (pc := 84) 45 rfl rfl ?_
          refine zn_icmp_neN (pc := 86) (tgt := 95) (x := (Z (a + k))) (y := 45) rfl rfl (by have := hZ (a + k); omega) (by have := hZ (a + k); omega) (fun c4 => ?_) (fun c4 => ?_)
          · refine zn_iconstN (pc := 95) 0 rfl rfl ?_
            exact zx_z (pc := 96) rfl rfl (by decide) (by rw [zb_f (by rw [hn1]; simp only [cNm]; rw [if_neg (by assumption), if_neg (by omega), if_neg (by omega)]; exact fun q9 => cNq_n.mp q9)]; rfl) rfl
          · refine zn_iload (pc := 89) rfl rfl ?_
            refine zn_iload_n (pc := 91) rfl rfl ?_
            refine zn_icmp_leN (pc := 92) (tgt := 97) (x := (a + k)) (y := a) rfl rfl (by have := hZ (a + k); omega) (by have := hZ (a + k); omega) (fun c5 => ?_) (fun c5 => ?_)
            · refine zn_iincN (pc := 97) (L' := [some (.ref p), some (.int (nI a)), some (.int (nI (a + m))), some (.int (nI d)), some (.int (nI e)), some (.int (nI u)), some (.int (nI (a + k + 1))), some (.int (nI (Z (a + k))))]) 1 rfl rfl rfl (by decide) rfl ?_
              refine zn_goto (pc := 100) (tgt := 11) rfl rfl ?_
              exact zn_sub (L' := [some (.ref p), some (.int (nI a)), some (.int (nI (a + m))), some (.int (nI d)), some (.int (nI e)), some (.int (nI u)), some (.int (nI (a + (k + 1)))), none]) ⟨rfl, rfl, rfl, rfl, rfl, rfl, rfl, trivial⟩ (ih (k + 1) d e u R (by omega) (by rw [hn1]; simp only [cNm]; rw [if_neg (by assumption), if_neg (by omega), if_pos (by omega)]) (by omega) (by omega) (by omega))
            · refine zn_iconstN (pc := 95) 0 rfl rfl ?_
              exact zx_z (pc := 96) rfl rfl (by decide) (by rw [zb_f (by rw [hn1]; simp only [cNm]; rw [if_neg (by assumption), if_neg (by omega), if_neg (by omega)]; exact fun q9 => cNq_n.mp q9)]; rfl) rfl
        · refine zn_iload (pc := 71) rfl rfl ?_
          refine zn_if_neN (pc := 73) (tgt := 82) (x := u) rfl rfl (by have := hZ (a + k); omega) (fun c6 => ?_) (fun c6 => ?_)
          · refine zn_iload (pc := 82) rfl rfl ?_
            refine zn_bipushN (pc := 84) 45 rfl rfl ?_
            refine zn_icmp_neN (pc := 86) (tgt := 95) (x := (Z (a + k))) (y := 45) rfl rfl (by have := hZ (a + k); omega) (by have := hZ (a + k); omega) (fun c7 => ?_) (fun c7 => ?_)
            · refine zn_iconstN (pc := 95) 0 rfl rfl ?_
              exact zx_z (pc := 96) rfl rfl (by decide) (by rw [zb_f (by rw [hn1]; simp only [cNm]; rw [if_neg (by assumption), if_neg (by omega), if_neg (by omega)]; exact fun q9 => cNq_n.mp q9)]; rfl) rfl
            · refine zn_iload (pc := 89) rfl rfl ?_
              refine zn_iload_n (pc := 91) rfl rfl ?_
              refine zn_icmp_leN (pc := 92) (tgt := 97) (x := (a + k)) (y := a) rfl rfl (by have := hZ (a + k); omega) (by have := hZ (a + k); omega) (fun c8 => ?_) (fun c8 => ?_)
              · refine zn_iincN (pc := 97) (L' := [some (.ref p), some (.int (nI a)), some (.int (nI (a + m))), some (.int (nI d)), some (.int (nI e)), some (.int (nI u)), some (.int (nI (a + k + 1))), some (.int (nI (Z (a + k))))]) 1 rfl rfl rfl (by decide) rfl ?_
                refine zn_goto (pc := 100) (tgt := 11) rfl rfl ?_
                exact zn_sub (L' := [some (.ref p), some (.int (nI a)), some (.int (nI (a + m))), some (.int (nI d)), some (.int (nI e)), some (.int (nI u)), some (.int (nI (a + (k + 1)))), none]) ⟨rfl, rfl, rfl, rfl, rfl, rfl, rfl, trivial⟩ (ih (k + 1) d e u R (by omega) (by rw [hn1]; simp only [cNm]; rw [if_neg (by assumption), if_neg (by omega), if_pos (by omega)]) (by omega) (by omega) (by omega))
              · refine zn_iconstN (pc := 95) 0 rfl rfl ?_
                exact zx_z (pc := 96) rfl rfl (by decide) (by rw [zb_f (by rw [hn1]; simp only [cNm]; rw [if_neg (by assumption), if_neg (by omega), if_neg (by omega)]; exact fun q9 => cNq_n.mp q9)]; rfl) rfl
          · refine zn_iconstN (pc := 76) 1 rfl rfl ?_
            refine zn_istore (pc := 77) (L' := [some (.ref p), some (.int (nI a)), some (.int (nI (a + m))), some (.int (nI d)), some (.int (nI e)), some (.int (nI 1)), some (.int (nI (a + k))), some (.int (nI (Z (a + k))))]) rfl (by decide) rfl ?_
            refine zn_goto (pc := 79) (tgt := 97) rfl rfl ?_
            refine zn_iincN (pc := 97) (L' := [some (.ref p), some (.int (nI a)), some (.int (nI (a + m))), some (.int (nI d)), some (.int (nI e)), some (.int (nI 1)), some (.int (nI (a + k + 1))), some (.int (nI (Z (a + k))))]) 1 rfl rfl rfl (by decide) rfl ?_
            refine zn_goto (pc := 100) (tgt := 11) rfl rfl ?_
            exact zn_sub (L' := [some (.ref p), some (.int (nI a)), some (.int (nI (a + m))), some (.int (nI d)), some (.int (nI e)), some (.int (nI 1)), some (.int (nI (a + (k + 1)))), none]) ⟨rfl, rfl, rfl, rfl, rfl, rfl, rfl, trivial⟩ (ih (k + 1) d e 1 R (by omega) (by rw [hn1]; simp only [cNm]; rw [if_neg (by assumption), if_pos (by omega)]) (by omega) (by omega) (by omega))
      · refine zn_iload_n (pc := 33) rfl rfl ?_
        refine zn_joinV (v := .int (nI (if u = 0 then 1 else 0))) (pj := 44) ?_ (fun K9 => ?_)
        · refine zn_iaddN (pc := 44) (x := d) (y := (if u = 0 then 1 else 0)) rfl ?_
          refine zn_istore_n (pc := 45) (L' := [some (.ref p), some (.int (nI a)), some (.int (nI (a + m))), some (.int (nI (d + (if u = 0 then 1 else 0)))), some (.int (nI e)), some (.int (nI u)), some (.int (nI (a + k))), some (.int (nI (Z (a + k))))]) rfl (by decide) rfl ?_
          refine zn_iload (pc := 46) rfl rfl ?_
          refine zn_joinV (v := .int (nI (if u = 0 then 0 else 1))) (pj := 58) ?_ (fun K10 => ?_)
          · refine zn_iaddN (pc := 58) (x := e) (y := (if u = 0 then 0 else 1)) rfl ?_
            refine zn_istore (pc := 59) (L' := [some (.ref p), some (.int (nI a)), some (.int (nI (a + m))), some (.int (nI (d + (if u = 0 then 1 else 0)))), some (.int (nI (e + (if u = 0 then 0 else 1)))), some (.int (nI u)), some (.int (nI (a + k))), some (.int (nI (Z (a + k))))]) rfl (by decide) rfl ?_
            refine zn_goto (pc := 61) (tgt := 97) rfl rfl ?_
            refine zn_iincN (pc := 97) (L' := [some (.ref p), some (.int (nI a)), some (.int (nI (a + m))), some (.int (nI (d + (if u = 0 then 1 else 0)))), some (.int (nI (e + (if u = 0 then 0 else 1)))), some (.int (nI u)), some (.int (nI (a + k + 1))), some (.int (nI (Z (a + k))))]) 1 rfl rfl rfl (by decide) rfl ?_
            refine zn_goto (pc := 100) (tgt := 11) rfl rfl ?_
            refine zn_sub (L' := [some (.ref p), some (.int (nI a)), some (.int (nI (a + m))), some (.int (nI (d + if u = 0 then 1 else 0))), some (.int (nI (e + if u = 0 then 0 else 1))), some (.int (nI u)), some (.int (nI (a + (k + 1)))), none]) ⟨rfl, rfl, rfl, rfl, rfl, rfl, rfl, trivial⟩ (ih (k + 1) _ _ u R (by omega) (by rw [hn1]; simp only [cNm]; rw [if_pos (by assumption)]) (by split <;> omega) (by split <;> omega) hn4)
          · refine zn_iload (pc := 48) rfl rfl ?_
            refine zn_if_eqN (pc := 50) (tgt := 57) (x := u) rfl rfl (by have := hZ (a + k); omega) (fun c11 => ?_) (fun c11 => ?_)
            · refine zn_iconstN (pc := 57) 0 rfl rfl ?_
              exact zn_top (v' := .int (nI (if u = 0 then 0 else 1))) (by rw [if_pos (by omega)]) K10
            · refine zn_iconstN (pc := 53) 1 rfl rfl ?_
              refine zn_goto (pc := 54) (tgt := 58) rfl rfl ?_
              exact zn_top (v' := .int (nI (if u = 0 then 0 else 1))) (by rw [if_neg (by omega)]) K10
        · refine zn_iload (pc := 34) rfl rfl ?_
          refine zn_if_eqN (pc := 36) (tgt := 43) (x := u) rfl rfl (by have := hZ (a + k); omega) (fun c12 => ?_) (fun c12 => ?_)
          · refine zn_iconstN (pc := 43) 1 rfl rfl ?_
            exact zn_top (v' := .int (nI (if u = 0 then 1 else 0))) (by rw [if_pos (by omega)]) K9
          · refine zn_iconstN (pc := 39) 0 rfl rfl ?_
            refine zn_goto (pc := 40) (tgt := 44) rfl rfl ?_
            exact zn_top (v' := .int (nI (if u = 0 then 1 else 0))) (by rw [if_neg (by omega)]) K9
theorem c_isNumber  {p q sz : Nat} {Z : Nat → Nat} (hp : hh.1 p = some (.inr (7, [.ref q, .int (nI sz)]))) (hq : hh.1 q = some (mNA 3264 Z)) (hn : sz ≤ 3264) (hZ : ∀ j, Z j < 1000) {a m : Nat} (hm : a + m ≤ sz) : Zx g zX8_isNumber [.ref p, .int (nI a), .int (nI (a + m))] (hh) (some (.int (zb (cNq (cNm (zf Z a) m 0 0 0 0))))) (hh) := by
  show Zn g zX8_isNumber 0 [some (.ref p), some (.int (nI a)), some (.int (nI (a + m))), none, none, none, none, none] [] (hh) 0 0 _
  refine zn_iconstN (pc := 0) 0 rfl rfl ?_
  refine zn_istore_n (pc := 1) (L' := [some (.ref p), some (.int (nI a)), some (.int (nI (a + m))), some (.int (nI 0)), none, none, none, none]) rfl (by decide) rfl ?_
  refine zn_iconstN (pc := 2) 0 rfl rfl ?_
  refine zn_istore (pc := 3) (L' := [some (.ref p), some (.int (nI a)), some (.int (nI (a + m))), some (.int (nI 0)), some (.int (nI 0)), none, none, none]) rfl (by decide) rfl ?_
  refine zn_iconstN (pc := 5) 0 rfl rfl ?_
  refine zn_istore (pc := 6) (L' := [some (.ref p), some (.int (nI a)), some (.int (nI (a + m))), some (.int (nI 0)), some (.int (nI 0)), some (.int (nI 0)), none, none]) rfl (by decide) rfl ?_
  refine zn_iload_n (pc := 8) rfl rfl ?_
  refine zn_istore (pc := 9) (L' := [some (.ref p), some (.int (nI a)), some (.int (nI (a + m))), some (.int (nI 0)), some (.int (nI 0)), some (.int (nI 0)), some (.int (nI a)), none]) rfl (by decide) rfl ?_
  exact c_isNumber_l hp hq hn hZ hm m 0 0 0 0 _ (by omega) rfl (by omega) (by omega) (by omega)
end m1
