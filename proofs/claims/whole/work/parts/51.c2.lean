section m1
variable {g : zG} {h hh : zH} {F : Nat → Nat} {S : Int64} {z : Nat → Nat} {A : Nat → Nat → Nat} {X : Nat → Int32}
theorem cNm_run0 (f : Nat → Nat) : ∀ (m k d e : Nat), cNm f m k d e 0 = cNm f (m - sfg f m k) (k + sfg f m k) (d + sfg f m k) e 0
  | 0, k, d, e => by simp [sfg]
  | m + 1, k, d, e => by
    by_cases h : sDig (f k)
    · have hw : sfg f (m + 1) k = sfg f m (k + 1) + 1 := by simp only [sfg]; rw [if_pos h]
      have hl : cNm f (m + 1) k d e 0 = cNm f m (k + 1) (d + 1) e 0 := by simp only [cNm]; rw [if_pos h]; rfl
      rw [hw, hl, cNm_run0 f m (k + 1) (d + 1) e, show m + 1 - (sfg f m (k + 1) + 1) = m - sfg f m (k + 1) by omega, show k + 1 + sfg f m (k + 1) = k + (sfg f m (k + 1) + 1) by omega, show d + 1 + sfg f m (k + 1) = d + (sfg f m (k + 1) + 1) by omega]
    · have hw : sfg f (m + 1) k = 0 := by simp only [sfg]; rw [if_neg h]
      rw [hw]; rfl
theorem cNm_run1 (f : Nat → Nat) : ∀ (m k d e : Nat), cNm f m k d e 1 = cNm f (m - sfg f m k) (k + sfg f m k) d (e + sfg f m k) 1
  | 0, k, d, e => by simp [sfg]
  | m + 1, k, d, e => by
    by_cases h : sDig (f k)
    · have hw : sfg f (m + 1) k = sfg f m (k + 1) + 1 := by simp only [sfg]; rw [if_pos h]
      have hl : cNm f (m + 1) k d e 1 = cNm f m (k + 1) d (e + 1) 1 := by simp only [cNm]; rw [if_pos h]; rfl
      rw [hw, hl, cNm_run1 f m (k + 1) d (e + 1), show m + 1 - (sfg f m (k + 1) + 1) = m - sfg f m (k + 1) by omega, show k + 1 + sfg f m (k + 1) = k + (sfg f m (k + 1) + 1) by omega, show e + 1 + sfg f m (k + 1) = e + (sfg f m (k + 1) + 1) by omega]
    · have hw : sfg f (m + 1) k = 0 := by simp only [sfg]; rw [if_neg h]
      rw [hw]; rfl
theorem sfg_stop (f : Nat → Nat) : ∀ (m k : Nat), sfg f m k < m → ¬ sDig (f (k + sfg f m k))
  | 0, k, h => by omega
  | m + 1, k, h => by
    by_cases hd : sDig (f k)
    · have hw : sfg f (m + 1) k = sfg f m (k + 1) + 1 := by simp only [sfg]; rw [if_pos hd]
      rw [hw] at h ⊢
      rw [show k + (sfg f m (k + 1) + 1) = k + 1 + sfg f m (k + 1) by omega]
      exact sfg_stop f m (k + 1) (by omega)
    · have hw : sfg f (m + 1) k = 0 := by simp only [sfg]; rw [if_neg hd]
      rw [hw]; exact hd
theorem cNm_sg (f : Nat → Nat) (n : Nat) : cNm f n 0 0 0 0 = cNm f (n - sSg f n) (sSg f n) 0 0 0 := by
  by_cases h : 0 < n ∧ f 0 = 45
  · have e : sSg f n = 1 := if_pos h
    rw [e]
    obtain ⟨m, rfl⟩ : ∃ m, n = m + 1 := ⟨n - 1, by omega⟩
    have hd : ¬ sDig (f 0) := by unfold sDig; omega
    have : cNm f (m + 1) 0 0 0 0 = cNm f m (0 + 1) 0 0 0 := by simp only [cNm]; rw [if_neg hd, if_neg (by omega), if_pos ⟨h.2, trivial⟩]
    rw [this]; rfl
  · have e : sSg f n = 0 := if_neg h
    rw [e]; rfl
theorem cNum_iff (f : Nat → Nat) (n : Nat) : cNq (cNm f n 0 0 0 0) ↔ sNum f n := by
  have hs := sSg_le f n
  have hA := sA_le f n
  have e1 : cNm f n 0 0 0 0 = cNm f (n - sA f n) (sA f n) (sW f n) 0 0 := by
    rw [cNm_sg, cNm_run0]
    show cNm f (n - sSg f n - sW f n) (sSg f n + sW f n) (0 + sW f n) 0 0 = _
    rw [Nat.zero_add, show n - sSg f n - sW f n = n - sA f n by unfold sA; omega]
    rfl
  rw [e1]
  rcases Nat.eq_or_lt_of_le hA with q | q
  · rw [show n - sA f n = 0 by omega]
    simp only [cNm, cNq_s]
    unfold sNum
    constructor
    · exact fun h => ⟨h.1, Or.inl q⟩
    · exact fun h => ⟨h.1, Or.inl trivial⟩
  · have hnd : ¬ sDig (f (sA f n)) := sfg_stop f (n - sSg f n) (sSg f n) (by unfold sA sW at q; omega)
    obtain ⟨r, hr⟩ : ∃ r, n - sA f n = r + 1 := ⟨n - sA f n - 1, by omega⟩
    rw [hr]
    by_cases h46 : f (sA f n) = 46
    · have e2 : cNm f (r + 1) (sA f n) (sW f n) 0 0 = cNm f r (sA f n + 1) (sW f n) 0 1 := by simp only [cNm]; rw [if_neg hnd, if_pos ⟨h46, trivial⟩]
      have hP : sP f n = sfg f r (sA f n + 1) := by unfold sP; rw [show n - (sA f n + 1) = r by omega]
      have hPl := sfg_le f r (sA f n + 1)
      rw [e2, cNm_run1, ← hP, Nat.zero_add]
      rcases Nat.eq_or_lt_of_le hPl with s | s
      · rw [show r - sP f n = 0 by omega]
        simp only [cNm, cNq_s]
        unfold sNum
        constructor
        · exact fun h => ⟨h.1, Or.inr ⟨h46, by rcases h.2 with t | t; omega; exact t, by omega⟩⟩
        · exact fun h => ⟨h.1, Or.inr (by rcases h.2 with t | t; omega; exact t.2.1)⟩
      · have hnd2 := sfg_stop f r (sA f n + 1) s
        rw [← hP] at hnd2
        obtain ⟨t, ht⟩ : ∃ t, r - sP f n = t + 1 := ⟨r - sP f n - 1, by omega⟩
        rw [ht]
        have e3 : cNm f (t + 1) (sA f n + 1 + sP f n) (sW f n) (sP f n) 1 = none := by simp only [cNm]; rw [if_neg hnd2, if_neg (by omega), if_neg (by omega)]
        rw [e3]
        simp only [cNq_n]
        unfold sNum
        constructor
        · exact fun h => h.elim
        · intro h; rcases h.2 with u | u <;> omega
    · have e2 : cNm f (r + 1) (sA f n) (sW f n) 0 0 = none := by
        simp only [cNm]
        rw [if_neg hnd, if_neg (by omega), if_neg ?_]
        intro h
        have h0 : sSg f n = 0 := by have := h.2; unfold sA at this; omega
        unfold sSg at h0
        split at h0
        · omega
        · rename_i h1
          rw [h.2] at h
          exact h1 ⟨by omega, h.1⟩
      rw [e2]
      simp only [cNq_n]
      unfold sNum
      constructor
      · exact fun h => h.elim
      · intro h; rcases h.2 with u | u
        · omega
        · exact h46 u.1
theorem c_isNumberS {p q sz : Nat} {Z : Nat → Nat} (hp : hh.1 p = some (.inr (7, [.ref q, .int (nI sz)]))) (hq : hh.1 q = some (mNA 3264 Z)) (hn : sz ≤ 3264) (hZ : ∀ j, Z j < 1000) {a m : Nat} (hm : a + m ≤ sz) : Zx g zX8_isNumber [.ref p, .int (nI a), .int (nI (a + m))] hh (some (.int (zb (sNum (zf Z a) m)))) hh := by
  have := c_isNumber (g := g) hp hq hn hZ hm
  rwa [zb_iff (cNum_iff (zf Z a) m)] at this
theorem c_kindOf  {p q sz : Nat} {Z : Nat → Nat} (hp : hh.1 p = some (.inr (7, [.ref q, .int (nI sz)]))) (hq : hh.1 q = some (mNA 3264 Z)) (hn : sz ≤ 3264) (hZ : ∀ j, Z j < 1000) {a m : Nat} (hm : a + m ≤ sz) : Zx g zX8_kindOf [.ref p, .int (nI a), .int (nI (a + m))] (hh) (some (.int (nI (skind (zf Z a) m)))) (hh) := by
  show Zn g zX8_kindOf 0 [some (.ref p), some (.int (nI a)), some (.int (nI (a + m)))] [] (hh) 0 0 _
  refine zn_aload_n (pc := 0) rfl rfl ?_
  refine zn_iload_n (pc := 1) rfl rfl ?_
  refine zn_iload_n (pc := 2) rfl rfl ?_
  refine zn_callSx (pc := 3) (J := zX8_isBlank) (as := [.ref p, .int (nI a), .int (nI (a + m))]) (rest := []) rfl (by decide) rfl rfl rfl rfl (Nat.le_of_ble_eq_true rfl) (Nat.le_of_ble_eq_true rfl) (Nat.le_of_ble_eq_true rfl) (Nat.le_of_ble_eq_true rfl) (c_isBlank hp hq hn hZ (a := a) (m := m) hm) ?_
  refine zn_if_eqB (pc := 6) (tgt := 11) rfl rfl (fun c1 => ?_) (fun c1 => ?_)
  · refine zn_aload_n (pc := 11) rfl rfl ?_
    refine zn_iload_n (pc := 12) rfl rfl ?_
    refine zn_iload_n (pc := 13) rfl rfl ?_
    refine zn_callSx (pc := 14) (J := zX8_isNumber) (as := [.ref p, .int (nI a), .int (nI (a + m))]) (rest := []) rfl (by decide) rfl rfl rfl rfl (Nat.le_of_ble_eq_true rfl) (Nat.le_of_ble_eq_true rfl) (Nat.le_of_ble_eq_true rfl) (Nat.le_of_ble_eq_true rfl) (c_isNumberS hp hq hn hZ (a := a) (m := m) hm) ?_
    refine zn_if_eqB (pc := 17) (tgt := 24) rfl rfl (fun c2 => ?_) (fun c2 => ?_)
    · refine zn_iconstN (pc := 24) 2 rfl rfl ?_
      exact zx_i (pc := 25) rfl rfl (by unfold skind; rw [if_neg (by assumption), if_neg (by assumption)]) rfl
    · refine zn_iconstN (pc := 20) 1 rfl rfl ?_
      refine zn_goto (pc := 21) (tgt := 25) rfl rfl ?_
      exact zx_i (pc := 25) rfl rfl (by unfold skind; rw [if_neg (by assumption), if_pos (by assumption)]) rfl
  · refine zn_iconstN (pc := 9) 0 rfl rfl ?_
    exact zx_i (pc := 10) rfl rfl (by unfold skind; rw [if_pos (by assumption)]) rfl
theorem c_wholeLength_l {p q sz : Nat} {Z : Nat → Nat} (hp : hh.1 p = some (.inr (7, [.ref q, .int (nI sz)]))) (hq : hh.1 q = some (mNA 3264 Z)) (hn : sz ≤ 3264) (hZ : ∀ j, Z j < 1000) {a m : Nat} (hm : a + m ≤ sz) : ∀ (n : Nat) (k R : Nat), k + n = m → R = swh (zf Z a) n k → Zn g zX8_wholeLength 2 [some (.ref p), some (.int (nI a)), some (.int (nI (a + m))), some (.int (nI (a + k)))] [] (hh) 0 0 (fun r' h' => r' = .inl (some (.int (nI R))) ∧ h' = (hh)) := by
  intro n
  induction n with
  | zero =>
    intro k R hn0 hn1
    refine zn_iload_n (pc := 2) rfl rfl ?_
    refine zn_iload_n (pc := 3) rfl rfl ?_
    refine zn_icmp_geN (pc := 4) (tgt := 23) (x := (a + k)) (y := (a + m)) rfl rfl (by have := hZ (a + k); omega) (by have := hZ (a + k); omega) (fun c1 => ?_) (fun c1 => ?_)
    · refine zn_iload_n (pc := 23) rfl rfl ?_
      refine zn_iload_n (pc := 24) rfl rfl ?_
      refine zn_isubN (pc := 25) (x := (a + k)) (y := a) rfl (by omega) ?_
      exact zx_i (pc := 26) rfl rfl (by rw [hn1]; simp only [swh]; congr 3; omega) rfl
    · exfalso; omega
  | succ n ih =>
    intro k R hn0 hn1
    refine zn_iload_n (pc := 2) rfl rfl ?_
    refine zn_iload_n (pc := 3) rfl rfl ?_
    refine zn_icmp_geN (pc := 4) (tgt := 23) (x := (a + k)) (y := (a + m)) rfl rfl (by have := hZ (a + k); omega) (by have := hZ (a + k); omega) (fun c1 => ?_) (fun c1 => ?_)
    · refine zn_iload_n (pc := 23) rfl rfl ?_
      refine zn_iload_n (pc := 24) rfl rfl ?_
      refine zn_isubN (pc := 25) (x := (a + k)) (y := a) rfl (by omega) ?_
      exfalso; omega
    · refine zn_aload_n (pc := 7) rfl rfl ?_
      refine zn_iload_n (pc := 8) rfl rfl ?_
      refine zn_callVx (pc := 9) (J := zX7_codeAt) (o := p) (as := [.int (nI (a + k))]) (rest := []) rfl rfl rfl rfl hp rfl rfl rfl (Nat.le_of_ble_eq_true rfl) (Nat.le_of_ble_eq_true rfl) (Nat.le_of_ble_eq_true rfl) (Nat.le_of_ble_eq_true rfl) (c_codeAt_i hp hq hn hZ (a := (a + k)) (by omega)) ?_
      refine zn_bipushN (pc := 12) 46 rfl rfl ?_
      refine zn_icmp_eqN (pc := 14) (tgt := 23) (x := (Z (a + k))) (y := 46) rfl rfl (by have := hZ (a + k); omega) (by have := hZ (a + k); omega) (fun c2 => ?_) (fun c2 => ?_)
      · refine zn_iload_n (pc := 23) rfl rfl ?_
        refine zn_iload_n (pc := 24) rfl rfl ?_
        refine zn_isubN (pc := 25) (x := (a + k)) (y := a) rfl (by omega) ?_
        exact zx_i (pc := 26) rfl rfl (by rw [hn1]; simp only [swh]; rw [if_pos (by assumption)]; congr 3; omega) rfl
      · refine zn_iincN (pc := 17) (L' := [some (.ref p), some (.int (nI a)), some (.int (nI (a + m))), some (.int (nI (a + k + 1)))]) 1 rfl rfl rfl (by decide) rfl ?_
        refine zn_goto (pc := 20) (tgt := 2) rfl rfl ?_
        exact ih (k + 1) R (by omega) (by rw [hn1]; simp only [swh]; rw [if_neg (by assumption)])
theorem c_wholeLength  {p q sz : Nat} {Z : Nat → Nat} (hp : hh.1 p = some (.inr (7, [.ref q, .int (nI sz)]))) (hq : hh.1 q = some (mNA 3264 Z)) (hn : sz ≤ 3264) (hZ : ∀ j, Z j < 1000) {a m : Nat} (hm : a + m ≤ sz) : Zx g zX8_wholeLength [.ref p, .int (nI a), .int (nI (a + m))] (hh) (some (.int (nI (swh (zf Z a) m 0)))) (hh) := by
  show Zn g zX8_wholeLength 0 [some (.ref p), some (.int (nI a)), some (.int (nI (a + m))), none] [] (hh) 0 0 _
  refine zn_iload_n (pc := 0) rfl rfl ?_
  refine zn_istore_n (pc := 1) (L' := [some (.ref p), some (.int (nI a)), some (.int (nI (a + m))), some (.int (nI a))]) rfl (by decide) rfl ?_
  exact c_wholeLength_l hp hq hn hZ hm m 0 _ (by omega) rfl
def cv (f : Nat → Nat) : Nat → Nat → Int64 → Int64
  | 0, _, v => v
  | m + 1, k, v => cv f m (k + 1) (if sDig (f k) then lN 10 * v + (nI (f k) - nI 48).toInt64 else v)
def cVal (f : Nat → Nat) (m : Nat) : Int64 := if f 0 = 45 then - smul (4 - (m - swh f m 0 - 1)) (cv f m 0 0) else smul (4 - (m - swh f m 0 - 1)) (cv f m 0 0)
theorem nI_m1 {b w : Nat} (hb : b < 2 ^ 30) (hw : w ≤ b) : (if nI 0 < nI (b - w) - nI 1 then nI (b - w) - nI 1 else nI 0) = nI (b - w - 1) := by
  cases h : b - w with
  | zero => rfl
  | succ k =>
    rw [show nI (k + 1) - nI 1 = nI k from nI_pred k]
    show _ = nI (k + 1 - 1)
    rw [Nat.add_sub_cancel]
    by_cases q : 0 < k
    · rw [if_pos ((nI_ltI (by omega) (by omega)).mpr q)]
    · rw [show k = 0 by omega]; rfl
theorem c_valueOf_2 {p q sz : Nat} {Z : Nat → Nat} (hp : hh.1 p = some (.inr (7, [.ref q, .int (nI sz)]))) (hq : hh.1 q = some (mNA 3264 Z)) (hn : sz ≤ 3264) (hZ : ∀ j, Z j < 1000) {a m : Nat} (hm : a + m ≤ sz) (hm1 : 1 ≤ m) : ∀ (n : Nat) (k : Nat) (v W : Int64), n = 4 - k → k < 4000 → W = smul n v → Zn g zX8_valueOf 72 [some (.ref p), some (.int (nI a)), some (.int (nI (a + m))), some (.long v), none, none, none, some (.int (nI k))] [] (hh) 0 0 (fun r' h' => r' = .inl (some (.long (if Z (a + 0) = 45 then - W else W))) ∧ h' = (hh)) := by
  intro n
  induction n with
  | zero =>
    intro k v W hn0 hn1 hn2
    refine zn_iload (pc := 72) rfl rfl ?_
    refine zn_iconstN (pc := 74) 4 rfl rfl ?_
    refine zn_icmp_geN (pc := 75) (tgt := 90) (x := k) (y := 4) rfl rfl (by have := hZ (a + 0); omega) (by have := hZ (a + 0); omega) (fun c1 => ?_) (fun c1 => ?_)
    · refine zn_aload_n (pc := 90) rfl rfl ?_
      refine zn_iload_n (pc := 91) rfl rfl ?_
      refine zn_callVx (pc := 92) (J := zX7_codeAt) (o := p) (as := [.int (nI a)]) (rest := []) rfl rfl rfl rfl hp rfl rfl rfl (Nat.le_of_ble_eq_true rfl) (Nat.le_of_ble_eq_true rfl) (Nat.le_of_ble_eq_true rfl) (Nat.le_of_ble_eq_true rfl) (c_codeAt_i hp hq hn hZ (a := a) (by omega)) ?_
      refine zn_top (v' := .int (nI (Z (a + 0)))) rfl ?_
      refine zn_bipushN (pc := 95) 45 rfl rfl ?_
      refine zn_icmp_neN (pc := 97) (tgt := 105) (x := (Z (a + 0))) (y := 45) rfl rfl (by have := hZ (a + 0); omega) (by have := hZ (a + 0); omega) (fun c2 => ?_) (fun c2 => ?_)
      · refine zn_lload_n (pc := 105) rfl rfl ?_
        exact zx_l (pc := 106) rfl rfl (by rw [if_neg (by assumption), hn2]; simp only [smul]) rfl
      · refine zn_lload_n (pc := 100) rfl rfl ?_
        refine zn_lneg (pc := 101) rfl ?_
        refine zn_goto (pc := 102) (tgt := 106) rfl rfl ?_
        exact zx_l (pc := 106) rfl rfl (by rw [if_pos (by assumption), hn2]; simp only [smul]) rfl
    · exfalso; omega
  | succ n ih =>
    intro k v W hn0 hn1 hn2
    refine zn_iload (pc := 72) rfl rfl ?_
    refine zn_iconstN (pc := 74) 4 rfl rfl ?_
    refine zn_icmp_geN (pc := 75) (tgt := 90) (x := k) (y := 4) rfl rfl (by have := hZ (a + 0); omega) (by have := hZ (a + 0); omega) (fun c1 => ?_) (fun c1 => ?_)
    · refine zn_aload_n (pc := 90) rfl rfl ?_
      refine zn_iload_n (pc := 91) rfl rfl ?_
      refine zn_callVx (pc := 92) (J := zX7_codeAt) (o := p) (as := [.int (nI a)]) (rest := []) rfl rfl rfl rfl hp rfl rfl rfl (Nat.le_of_ble_eq_true rfl) (Nat.le_of_ble_eq_true rfl) (Nat.le_of_ble_eq_true rfl) (Nat.le_of_ble_eq_true rfl) (c_codeAt_i hp hq hn hZ (a := a) (by omega)) ?_
      refine zn_top (v' := .int (nI (Z (a + 0)))) rfl ?_
      refine zn_bipushN (pc := 95) 45 rfl rfl ?_
      refine zn_icmp_neN (pc := 97) (tgt := 105) (x := (Z (a + 0))) (y := 45) rfl rfl (by have := hZ (a + 0); omega) (by have := hZ (a + 0); omega) (fun c2 => ?_) (fun c2 => ?_)
      · refine zn_lload_n (pc := 105) rfl rfl ?_
        exfalso; omega
      · refine zn_lload_n (pc := 100) rfl rfl ?_
        refine zn_lneg (pc := 101) rfl ?_
        refine zn_goto (pc := 102) (tgt := 106) rfl rfl ?_
        exfalso; omega
    · refine zn_lload_n (pc := 78) rfl rfl ?_
      refine zn_ldc2 (pc := 79) (v := 10) rfl ?_
      refine zn_lmul (pc := 82) rfl ?_
      refine zn_lstore_n (pc := 83) (L' := [some (.ref p), some (.int (nI a)), some (.int (nI (a + m))), some (.long (v * (lN 10))), none, none, none, some (.int (nI k))]) rfl (by decide) rfl ?_
      refine zn_iincN (pc := 84) (L' := [some (.ref p), some (.int (nI a)), some (.int (nI (a + m))), some (.long (v * (lN 10))), none, none, none, some (.int (nI (k + 1)))]) 1 rfl rfl rfl (by decide) rfl ?_
      refine zn_goto (pc := 87) (tgt := 72) rfl rfl ?_
      exact ih (k + 1) (v * lN 10) W (by omega) (by omega) (by rw [hn2]; simp only [smul])
theorem c_valueOf_1 {p q sz : Nat} {Z : Nat → Nat} (hp : hh.1 p = some (.inr (7, [.ref q, .int (nI sz)]))) (hq : hh.1 q = some (mNA 3264 Z)) (hn : sz ≤ 3264) (hZ : ∀ j, Z j < 1000) {a m : Nat} (hm : a + m ≤ sz) (hm1 : 1 ≤ m) : ∀ (n : Nat) (k : Nat) (v R : Int64), k + n = m → R = cv (zf Z a) n k v → Zn g zX8_valueOf 5 [some (.ref p), some (.int (nI a)), some (.int (nI (a + m))), some (.long v), none, some (.int (nI (a + k))), none, none] [] (hh) 0 0 (fun r' h' => r' = .inl (some (.long (if Z (a + 0) = 45 then - smul (4 - (m - swh (zf Z a) m 0 - 1)) R else smul (4 - (m - swh (zf Z a) m 0 - 1)) R))) ∧ h' = (hh)) := by
  intro n
  induction n with
  | zero =>
    intro k v R hn0 hn1
    have hw9 := swh_le (zf Z a) m 0
    refine zn_iload (pc := 5) rfl rfl ?_
    refine zn_iload_n (pc := 7) rfl rfl ?_
    refine zn_icmp_geN (pc := 8) (tgt := 46) (x := (a + k)) (y := (a + m)) rfl rfl (by have := hZ (a + k); omega) (by have := hZ (a + k); omega) (fun c1 => ?_) (fun c1 => ?_)
    · refine zn_iload_n (pc := 46) rfl rfl ?_
      refine zn_aload_n (pc := 47) rfl rfl ?_
      refine zn_iload_n (pc := 48) rfl rfl ?_
      refine zn_iload_n (pc := 49) rfl rfl ?_
      refine zn_callSx (pc := 50) (J := zX8_wholeLength) (as := [.ref p, .int (nI a), .int (nI (a + m))]) (rest := [.int (nI a)]) rfl (by decide) rfl rfl rfl rfl (Nat.le_of_ble_eq_true rfl) (Nat.le_of_ble_eq_true rfl) (Nat.le_of_ble_eq_true rfl) (Nat.le_of_ble_eq_true rfl) (c_wholeLength hp hq hn hZ (a := a) (m := m) hm) ?_
      refine zn_iaddN (pc := 53) (x := a) (y := (swh (zf Z a) m 0)) rfl ?_
      refine zn_istore (pc := 54) (L' := [some (.ref p), some (.int (nI a)), some (.int (nI (a + m))), some (.long v), none, some (.int (nI (a + (swh (zf Z a) m 0)))), none, none]) rfl (by decide) rfl ?_
      refine zn_iconstN (pc := 56) 0 rfl rfl ?_
      refine zn_iload_n (pc := 57) rfl rfl ?_
      refine zn_iload (pc := 58) rfl rfl ?_
      refine zn_isubN (pc := 60) (x := (a + m)) (y := (a + (swh (zf Z a) m 0))) rfl (by omega) ?_
      refine zn_top (v' := .int (nI (m - swh (zf Z a) m 0))) (by congr 2; omega) ?_
      refine zn_iconstN (pc := 61) 1 rfl rfl ?_
      refine zn_isub (pc := 62) rfl ?_
      refine zn_max (pc := 63) rfl (Nat.le_of_ble_eq_true rfl) (Nat.le_of_ble_eq_true rfl) ?_
      refine zn_top (v' := .int (nI (m - swh (zf Z a) m 0 - 1))) (by congr 1; exact nI_m1 (by omega) (by omega)) ?_
      refine zn_istore (pc := 66) (L' := [some (.ref p), some (.int (nI a)), some (.int (nI (a + m))), some (.long v), none, some (.int (nI (a + (swh (zf Z a) m 0)))), some (.int (nI (m - swh (zf Z a) m 0 - 1))), none]) rfl (by decide) rfl ?_
      refine zn_iload (pc := 68) rfl rfl ?_
      refine zn_istore (pc := 70) (L' := [some (.ref p), some (.int (nI a)), some (.int (nI (a + m))), some (.long v), none, some (.int (nI (a + (swh (zf Z a) m 0)))), some (.int (nI (m - swh (zf Z a) m 0 - 1))), some (.int (nI (m - swh (zf Z a) m 0 - 1)))]) rfl (by decide) rfl ?_
      have hR : R = v := by rw [hn1]; simp only [cv]
      rw [hR]
      exact zn_sub (L' := [some (.ref p), some (.int (nI a)), some (.int (nI (a + m))), some (.long v), none, none, none, some (.int (nI (m - swh (zf Z a) m 0 - 1)))]) ⟨rfl, rfl, rfl, rfl, rfl, trivial⟩ (c_valueOf_2 hp hq hn hZ hm hm1 (4 - (m - swh (zf Z a) m 0 - 1)) (m - swh (zf Z a) m 0 - 1) v _ (by omega) (by omega) rfl)
    · exfalso; omega
  | succ n ih =>
    intro k v R hn0 hn1
    have hw9 := swh_le (zf Z a) m 0
    refine zn_iload (pc := 5) rfl rfl ?_
    refine zn_iload_n (pc := 7) rfl rfl ?_
    refine zn_icmp_geN (pc := 8) (tgt := 46) (x := (a + k)) (y := (a + m)) rfl rfl (by have := hZ (a + k); omega) (by have := hZ (a + k); omega) (fun c1 => ?_) (fun c1 => ?_)
    · refine zn_iload_n (pc := 46) rfl rfl ?_
      refine zn_aload_n (pc := 47) rfl rfl ?_
      refine zn_iload_n (pc := 48) rfl rfl ?_
      refine zn_iload_n (pc := 49) rfl rfl ?_
      refine zn_callSx (pc := 50) (J := zX8_wholeLength) (as := [.ref p, .int (nI a), .int (nI (a + m))]) (rest := [.int (nI a)]) rfl (by decide) rfl rfl rfl rfl (Nat.le_of_ble_eq_true rfl) (Nat.le_of_ble_eq_true rfl) (Nat.le_of_ble_eq_true rfl) (Nat.le_of_ble_eq_true rfl) (c_wholeLength hp hq hn hZ (a := a) (m := m) hm) ?_
      refine zn_iaddN (pc := 53) (x := a) (y := (swh (zf Z a) m 0)) rfl ?_
      refine zn_istore (pc := 54) (L' := [some (.ref p), some (.int (nI a)), some (.int (nI (a + m))), some (.long v), none, some (.int (nI (a + (swh (zf Z a) m 0)))), none, none]) rfl (by decide) rfl ?_
      refine zn_iconstN (pc := 56) 0 rfl rfl ?_
      refine zn_iload_n (pc := 57) rfl rfl ?_
      refine zn_iload (pc := 58) rfl rfl ?_
      refine zn_isubN (pc := 60) (x := (a + m)) (y := (a + (swh (zf Z a) m 0))) rfl (by omega) ?_
      refine zn_top (v' := .int (nI (m - swh (zf Z a) m 0))) (by congr 2; omega) ?_
      refine zn_iconstN (pc := 61) 1 rfl rfl ?_
      refine zn_isub (pc := 62) rfl ?_
      refine zn_max (pc := 63) rfl (Nat.le_of_ble_eq_true rfl) (Nat.le_of_ble_eq_true rfl) ?_
      refine zn_top (v' := .int (nI (m - swh (zf Z a) m 0 - 1))) (by congr 1; exact nI_m1 (by omega) (by omega)) ?_
      refine zn_istore (pc := 66) (L' := [some (.ref p), some (.int (nI a)), some (.int (nI (a + m))), some (.long v), none, some (.int (nI (a + (swh (zf Z a) m 0)))), some (.int (nI (m - swh (zf Z a) m 0 - 1))), none]) rfl (by decide) rfl ?_
      refine zn_iload (pc := 68) rfl rfl ?_
      refine zn_istore (pc := 70) (L' := [some (.ref p), some (.int (nI a)), some (.int (nI (a + m))), some (.long v), none, some (.int (nI (a + (swh (zf Z a) m 0)))), some (.int (nI (m - swh (zf Z a) m 0 - 1))), some (.int (nI (m - swh (zf Z a) m 0 - 1)))]) rfl (by decide) rfl ?_
      exfalso; omega
    · refine zn_aload_n (pc := 11) rfl rfl ?_
      refine zn_iload (pc := 12) rfl rfl ?_
      refine zn_callVx (pc := 14) (J := zX7_codeAt) (o := p) (as := [.int (nI (a + k))]) (rest := []) rfl rfl rfl rfl hp rfl rfl rfl (Nat.le_of_ble_eq_true rfl) (Nat.le_of_ble_eq_true rfl) (Nat.le_of_ble_eq_true rfl) (Nat.le_of_ble_eq_true rfl) (c_codeAt_i hp hq hn hZ (a := (a + k)) (by omega)) ?_
      refine zn_istore (pc := 17) (L' := [some (.ref p), some (.int (nI a)), some (.int (nI (a + m))), some (.long v), none, some (.int (nI (a + k))), some (.int (nI (Z (a + k)))), none]) rfl (by decide) rfl ?_
      refine zn_iload (pc := 19) rfl rfl ?_
      refine zn_callSx (pc := 21) (J := zX9_isDigit) (as := [.int (nI (Z (a + k)))]) (rest := []) rfl (by decide) rfl rfl rfl rfl (Nat.le_of_ble_eq_true rfl) (Nat.le_of_ble_eq_true rfl) (Nat.le_of_ble_eq_true rfl) (Nat.le_of_ble_eq_true rfl) (c_isDigit (c := (Z (a + k))) (by have := hZ (a + k); omega)) ?_
      refine zn_if_eqB (pc := 24) (tgt := 40) rfl rfl (fun c2 => ?_) (fun c2 => ?_)
      · refine zn_iincN (pc := 40) (L' := [some (.ref p), some (.int (nI a)), some (.int (nI (a + m))), some (.long v), none, some (.int (nI (a + k + 1))), some (.int (nI (Z (a + k)))), none]) 1 rfl rfl rfl (by decide) rfl ?_
        refine zn_goto (pc := 43) (tgt := 5) rfl rfl ?_
        exact zn_sub (L' := [some (.ref p), some (.int (nI a)), some (.int (nI (a + m))), some (.long v), none, some (.int (nI (a + (k + 1)))), none, none]) ⟨rfl, rfl, rfl, rfl, rfl, trivial⟩ (ih (k + 1) v R (by omega) (by rw [hn1]; simp only [cv]; rw [if_neg (by assumption)]))
      · refine zn_ldc2 (pc := 27) (v := 10) rfl ?_
        refine zn_lload_n (pc := 30) rfl rfl ?_
        refine zn_lmul (pc := 31) rfl ?_
        refine zn_iload (pc := 32) rfl rfl ?_
        refine zn_bipushN (pc := 34) 48 rfl rfl ?_
        refine zn_isub (pc := 36) rfl ?_
        refine zn_i2l (pc := 37) rfl ?_
        refine zn_ladd (pc := 38) rfl ?_
        refine zn_lstore_n (pc := 39) (L' := [some (.ref p), some (.int (nI a)), some (.int (nI (a + m))), some (.long (((lN 10) * v) + ((nI (Z (a + k)) - nI 48).toInt64))), none, some (.int (nI (a + k))), some (.int (nI (Z (a + k)))), none]) rfl (by decide) rfl ?_
        refine zn_iincN (pc := 40) (L' := [some (.ref p), some (.int (nI a)), some (.int (nI (a + m))), some (.long (((lN 10) * v) + ((nI (Z (a + k)) - nI 48).toInt64))), none, some (.int (nI (a + k + 1))), some (.int (nI (Z (a + k)))), none]) 1 rfl rfl rfl (by decide) rfl ?_
        refine zn_goto (pc := 43) (tgt := 5) rfl rfl ?_
        exact zn_sub (L' := [some (.ref p), some (.int (nI a)), some (.int (nI (a + m))), some (.long (lN 10 * v + (nI (Z (a + k)) - nI 48).toInt64)), none, some (.int (nI (a + (k + 1)))), none, none]) ⟨rfl, rfl, rfl, rfl, rfl, trivial⟩ (ih (k + 1) (lN 10 * v + (nI (Z (a + k)) - nI 48).toInt64) R (by omega) (by rw [hn1]; simp only [cv]; rw [if_pos (by assumption)]))
theorem c_valueOf  {p q sz : Nat} {Z : Nat → Nat} (hp : hh.1 p = some (.inr (7, [.ref q, .int (nI sz)]))) (hq : hh.1 q = some (mNA 3264 Z)) (hn : sz ≤ 3264) (hZ : ∀ j, Z j < 1000) {a m : Nat} (hm : a + m ≤ sz) (hm1 : 1 ≤ m) : Zx g zX8_valueOf [.ref p, .int (nI a), .int (nI (a + m))] (hh) (some (.long (cVal (zf Z a) m))) (hh) := by
  show Zn g zX8_valueOf 0 [some (.ref p), some (.int (nI a)), some (.int (nI (a + m))), none, none, none, none, none] [] (hh) 0 0 _
  refine zn_lconst (pc := 0) 0 rfl rfl ?_
  refine zn_lstore_n (pc := 1) (L' := [some (.ref p), some (.int (nI a)), some (.int (nI (a + m))), some (.long 0), none, none, none, none]) rfl (by decide) rfl ?_
  refine zn_iload_n (pc := 2) rfl rfl ?_
  refine zn_istore (pc := 3) (L' := [some (.ref p), some (.int (nI a)), some (.int (nI (a + m))), some (.long 0), none, some (.int (nI a)), none, none]) rfl (by decide) rfl ?_
  exact zn_sub (L' := [some (.ref p), some (.int (nI a)), some (.int (nI (a + m))), some (.long 0), none, some (.int (nI (a + 0))), none, none]) ⟨rfl, rfl, rfl, rfl, rfl, trivial⟩ (c_valueOf_1 hp hq hn hZ hm hm1 m 0 0 _ (by omega) rfl)
end m1
