section m1
variable {g : zG} {h hh : zH} {F : Nat → Nat} {S : Int64} {z : Nat → Nat} {A : Nat → Nat → Nat} {X : Nat → Int32}
def zpi (Z : Nat → Nat) (a m sz : Nat) (Bf : Nat → Nat) (k : Nat) : Nat → Nat := fun j => if a ≤ j ∧ j < a + k then pcd (Bf (j - a)) else va_cpy Z Z a (a + m) (sz - a) j
theorem zpi_s {Z Bf : Nat → Nat} {a m sz k : Nat} : va_up (zpi Z a m sz Bf k) (a + k) (pcd (Bf k)) = zpi Z a m sz Bf (k + 1) := by
  funext j
  simp only [va_up, zpi]
  by_cases e : j = a + k
  · rw [if_pos e, if_pos (by omega), show j - a = k by omega]
  · rw [if_neg e]
    by_cases e2 : a ≤ j ∧ j < a + k
    · rw [if_pos e2, if_pos (by omega)]
    · rw [if_neg e2, if_neg (by omega)]
theorem zpi_0 {Z Bf : Nat → Nat} {a m sz : Nat} : zpi Z a m sz Bf 0 = va_cpy Z Z a (a + m) (sz - a) := by
  funext j
  simp only [zpi]
  rw [if_neg (by omega)]
theorem c_putInput_l {p q sz : Nat} {Z : Nat → Nat} (hpq : p ≠ q) (hq0 : 0 < q) (h7 : 7 < p) (h7q : 7 < q) {m : Nat} {Bf : Nat → Nat} (hm : m ≤ 120) (hB : ∀ j, Bf j < 1000) (hi2 : h.1 2 = some (.inr (4, [.ref 3, .int (nI m)]))) (hi3 : h.1 3 = some (mNA 120 Bf)) {a : Nat} (ha : a ≤ sz) (hs : sz + m ≤ 3264) : ∀ (n : Nat) (k : Nat), k + n = m → Zn g zX7_putInput 14 [some (.ref p), some (.int (nI a)), some (.ref 2), some (.int (nI k))] [] (pgs h 7 3264 p q (zpi Z a m sz Bf k) (sz + m)) 0 0 (fun r' h' => r' = .inl none ∧ h' = (pgs h 7 3264 p q (zpi Z a m sz Bf m) (sz + m))) := by
  intro n
  induction n with
  | zero =>
    intro k hn0
    refine zn_iload_n (pc := 14) rfl rfl ?_
    refine zn_aload_n (pc := 15) rfl rfl ?_
    refine zn_callVx (pc := 16) (J := zX4_length) (o := 2) (as := []) (rest := [.int (nI k)]) rfl rfl rfl rfl ((pg_n (by omega) (by omega)).trans hi2) rfl rfl rfl (Nat.le_of_ble_eq_true rfl) (Nat.le_of_ble_eq_true rfl) (Nat.le_of_ble_eq_true rfl) (Nat.le_of_ble_eq_true rfl) (c_ilen ((pg_n (by omega) (by omega)).trans hi2)) ?_
    refine zn_icmp_geN (pc := 19) (tgt := 41) (x := k) (y := m) rfl rfl (by omega) (by omega) (fun c1 => ?_) (fun c1 => ?_)
    · have e8 : k = m := by omega
      exact zx_v (pc := 41) rfl rfl rfl (by rw [e8])
    · exfalso; omega
  | succ n ih =>
    intro k hn0
    refine zn_iload_n (pc := 14) rfl rfl ?_
    refine zn_aload_n (pc := 15) rfl rfl ?_
    refine zn_callVx (pc := 16) (J := zX4_length) (o := 2) (as := []) (rest := [.int (nI k)]) rfl rfl rfl rfl ((pg_n (by omega) (by omega)).trans hi2) rfl rfl rfl (Nat.le_of_ble_eq_true rfl) (Nat.le_of_ble_eq_true rfl) (Nat.le_of_ble_eq_true rfl) (Nat.le_of_ble_eq_true rfl) (c_ilen ((pg_n (by omega) (by omega)).trans hi2)) ?_
    refine zn_icmp_geN (pc := 19) (tgt := 41) (x := k) (y := m) rfl rfl (by omega) (by omega) (fun c1 => ?_) (fun c1 => ?_)
    · have e8 : k = m := by omega
      exact zx_v (pc := 41) rfl rfl rfl (by rw [e8])
    · refine zn_aload_n (pc := 22) rfl rfl ?_
      refine zn_get (pc := 23) (v := .ref q) rfl pg_o rfl ?_
      refine zn_iload_n (pc := 26) rfl rfl ?_
      refine zn_iload_n (pc := 27) rfl rfl ?_
      refine zn_iaddN (pc := 28) (x := a) (y := k) rfl ?_
      refine zn_aload_n (pc := 29) rfl rfl ?_
      refine zn_iload_n (pc := 30) rfl rfl ?_
      refine zn_callVx (pc := 31) (J := zX4_pageCodeAt) (o := 2) (as := [.int (nI k)]) (rest := [.int (nI (a + k)), .ref q]) rfl rfl rfl rfl ((pg_n (by omega) (by omega)).trans hi2) rfl rfl rfl (Nat.le_of_ble_eq_true rfl) (Nat.le_of_ble_eq_true rfl) (Nat.le_of_ble_eq_true rfl) (Nat.le_of_ble_eq_true rfl) (c_pcode hm hB ((pg_n (by omega) (by omega)).trans hi2) ((pg_n (by omega) (by omega)).trans hi3) (a := k) (by omega)) ?_
      refine zp_st (pc := 34) (j := (a + k)) (x := (pcd (Bf k))) rfl hq0 hpq (by omega) (Nat.le_of_ble_eq_true rfl) ?_
      refine zn_iincN (pc := 35) (L' := [some (.ref p), some (.int (nI a)), some (.ref 2), some (.int (nI (k + 1)))]) 1 rfl rfl rfl (by decide) rfl ?_
      refine zn_goto (pc := 38) (tgt := 14) rfl rfl ?_
      rw [zpi_s]
      exact ih (k + 1) (by omega)
theorem c_putInput  {p q sz : Nat} {Z : Nat → Nat} (hpq : p ≠ q) (hq0 : 0 < q) (h7 : 7 < p) (h7q : 7 < q) {m : Nat} {Bf : Nat → Nat} (hm : m ≤ 120) (hB : ∀ j, Bf j < 1000) (hi2 : h.1 2 = some (.inr (4, [.ref 3, .int (nI m)]))) (hi3 : h.1 3 = some (mNA 120 Bf)) {a : Nat} (ha : a ≤ sz) (hs : sz + m ≤ 3264) : Zx g zX7_putInput [.ref p, .int (nI a), .ref 2] (pgs h 7 3264 p q Z sz) none (pgs h 7 3264 p q (zpi Z a m sz Bf m) (sz + m)) := by
  show Zn g zX7_putInput 0 [some (.ref p), some (.int (nI a)), some (.ref 2), none] [] (pgs h 7 3264 p q Z sz) 0 0 _
  refine zn_aload_n (pc := 0) rfl rfl ?_
  refine zn_iload_n (pc := 1) rfl rfl ?_
  refine zn_aload_n (pc := 2) rfl rfl ?_
  refine zn_callVx (pc := 3) (J := zX4_length) (o := 2) (as := []) (rest := [.int (nI a), .ref p]) rfl rfl rfl rfl ((pg_n (by omega) (by omega)).trans hi2) rfl rfl rfl (Nat.le_of_ble_eq_true rfl) (Nat.le_of_ble_eq_true rfl) (Nat.le_of_ble_eq_true rfl) (Nat.le_of_ble_eq_true rfl) (c_ilen ((pg_n (by omega) (by omega)).trans hi2)) ?_
  refine zn_callVx (pc := 6) (J := zX7_open) (o := p) (as := [.int (nI a), .int (nI m)]) (rest := []) rfl rfl rfl rfl pg_o rfl rfl rfl (Nat.le_of_ble_eq_true rfl) (Nat.le_of_ble_eq_true rfl) (Nat.le_of_ble_eq_true rfl) (Nat.le_of_ble_eq_true rfl) (c_open hpq hq0 (a := a) (n := m) (by omega) (by omega)) ?_
  refine zn_if_eqN (pc := 9) (tgt := 41) (x := 1) rfl rfl (by omega) (fun c1 => ?_) (fun c1 => ?_)
  · exact absurd c1 (by decide)
  · refine zn_iconstN (pc := 12) 0 rfl rfl ?_
    refine zn_istore_n (pc := 13) (L' := [some (.ref p), some (.int (nI a)), some (.ref 2), some (.int (nI 0))]) rfl (by decide) rfl ?_
    rw [← zpi_0 (Bf := Bf)]
    exact c_putInput_l hpq hq0 h7 h7q hm hB hi2 hi3 ha hs m 0 (by omega)
def zaf (Z : Nat → Nat) (sz : Nat) (Y : Nat → Nat) (f k : Nat) : Nat → Nat := fun j => if sz ≤ j ∧ j < sz + k then Y (f + (j - sz)) else Z j
theorem zaf_s {Z Y : Nat → Nat} {sz f k : Nat} : va_up (zaf Z sz Y f k) (sz + k) (Y (f + k)) = zaf Z sz Y f (k + 1) := by
  funext j
  simp only [va_up, zaf]
  by_cases e : j = sz + k
  · rw [if_pos e, if_pos (by omega), show j - sz = k by omega]
  · rw [if_neg e]
    by_cases e2 : sz ≤ j ∧ j < sz + k
    · rw [if_pos e2, if_pos (by omega)]
    · rw [if_neg e2, if_neg (by omega)]
theorem zaf_0 {Z Y : Nat → Nat} {sz f : Nat} : zaf Z sz Y f 0 = Z := by
  funext j
  simp only [zaf]
  rw [if_neg (by omega)]
theorem c_addFrom_l {p q sz : Nat} {Z : Nat → Nat} (hpq : p ≠ q) (hq0 : 0 < q) {p2 q2 sy : Nat} {Y : Nat → Nat} (hp2 : h.1 p2 = some (.inr (7, [.ref q2, .int (nI sy)]))) (hq2 : h.1 q2 = some (mNA 3264 Y)) (hsy : sy ≤ 3264) (hY : ∀ j, Y j < 1000) (n1 : p2 ≠ p) (n2 : p2 ≠ q) (n3 : q2 ≠ p) (n4 : q2 ≠ q) {f t : Nat} (hft : f ≤ t) (ht : t ≤ sy) (hs : sz + (t - f) ≤ 3264) : ∀ (n : Nat) (k : Nat), k + n = t - f → Zn g zX7_addFrom 3 [some (.ref p), some (.ref p2), some (.int (nI f)), some (.int (nI t)), some (.int (nI (f + k)))] [] (pgs h 7 3264 p q (zaf Z sz Y f k) (sz + k)) 0 0 (fun r' h' => r' = .inl none ∧ h' = (pgs h 7 3264 p q (zaf Z sz Y f (t - f)) (sz + (t - f)))) := by
  intro n
  induction n with
  | zero =>
    intro k hn0
    refine zn_iload (pc := 3) rfl rfl ?_
    refine zn_iload_n (pc := 5) rfl rfl ?_
    refine zn_icmp_geN (pc := 6) (tgt := 25) (x := (f + k)) (y := t) rfl rfl (by omega) (by omega) (fun c1 => ?_) (fun c1 => ?_)
    · have e8 : k = t - f := by omega
      exact zx_v (pc := 25) rfl rfl rfl (by rw [e8])
    · exfalso; omega
  | succ n ih =>
    intro k hn0
    refine zn_iload (pc := 3) rfl rfl ?_
    refine zn_iload_n (pc := 5) rfl rfl ?_
    refine zn_icmp_geN (pc := 6) (tgt := 25) (x := (f + k)) (y := t) rfl rfl (by omega) (by omega) (fun c1 => ?_) (fun c1 => ?_)
    · have e8 : k = t - f := by omega
      exact zx_v (pc := 25) rfl rfl rfl (by rw [e8])
    · refine zn_aload_n (pc := 9) rfl rfl ?_
      refine zn_aload_n (pc := 10) rfl rfl ?_
      refine zn_iload (pc := 11) rfl rfl ?_
      refine zn_callVx (pc := 13) (J := zX7_codeAt) (o := p2) (as := [.int (nI (f + k))]) (rest := [.ref p]) rfl rfl rfl rfl ((pg_n (by omega) (by omega)).trans hp2) rfl rfl rfl (Nat.le_of_ble_eq_true rfl) (Nat.le_of_ble_eq_true rfl) (Nat.le_of_ble_eq_true rfl) (Nat.le_of_ble_eq_true rfl) (c_codeAt_i ((pg_n (by omega) (by omega)).trans hp2) ((pg_n (by omega) (by omega)).trans hq2) hsy hY (a := (f + k)) (by omega)) ?_
      refine zn_callVx (pc := 16) (J := zX7_add) (o := p) (as := [.int (nI (Y (f + k)))]) (rest := []) rfl rfl rfl rfl pg_o rfl rfl rfl (Nat.le_of_ble_eq_true rfl) (Nat.le_of_ble_eq_true rfl) (Nat.le_of_ble_eq_true rfl) (Nat.le_of_ble_eq_true rfl) (c_add hpq hq0 (x := (Y (f + k))) (by omega)) ?_
      refine zn_iincN (pc := 19) (L' := [some (.ref p), some (.ref p2), some (.int (nI f)), some (.int (nI t)), some (.int (nI (f + k + 1)))]) 1 rfl rfl rfl (by decide) rfl ?_
      refine zn_goto (pc := 22) (tgt := 3) rfl rfl ?_
      rw [zaf_s]
      exact ih (k + 1) (by omega)
theorem c_addFrom  {p q sz : Nat} {Z : Nat → Nat} (hpq : p ≠ q) (hq0 : 0 < q) {p2 q2 sy : Nat} {Y : Nat → Nat} (hp2 : h.1 p2 = some (.inr (7, [.ref q2, .int (nI sy)]))) (hq2 : h.1 q2 = some (mNA 3264 Y)) (hsy : sy ≤ 3264) (hY : ∀ j, Y j < 1000) (n1 : p2 ≠ p) (n2 : p2 ≠ q) (n3 : q2 ≠ p) (n4 : q2 ≠ q) {f t : Nat} (hft : f ≤ t) (ht : t ≤ sy) (hs : sz + (t - f) ≤ 3264) : Zx g zX7_addFrom [.ref p, .ref p2, .int (nI f), .int (nI t)] (pgs h 7 3264 p q Z sz) none (pgs h 7 3264 p q (zaf Z sz Y f (t - f)) (sz + (t - f))) := by
  show Zn g zX7_addFrom 0 [some (.ref p), some (.ref p2), some (.int (nI f)), some (.int (nI t)), none] [] (pgs h 7 3264 p q Z sz) 0 0 _
  refine zn_iload_n (pc := 0) rfl rfl ?_
  refine zn_istore (pc := 1) (L' := [some (.ref p), some (.ref p2), some (.int (nI f)), some (.int (nI t)), some (.int (nI f))]) rfl (by decide) rfl ?_
  refine zn_heq (h' := pgs h 7 3264 p q (zaf Z sz Y f 0) (sz + 0)) (by rw [zaf_0]; rfl) ?_
  exact c_addFrom_l hpq hq0 hp2 hq2 hsy hY n1 n2 n3 n4 hft ht hs (t - f) 0 (by omega)
theorem c_becomeCopyOf  {p q sz : Nat} {Z : Nat → Nat} (hpq : p ≠ q) (hq0 : 0 < q) {p2 q2 sy : Nat} {Y : Nat → Nat} (hp2 : h.1 p2 = some (.inr (7, [.ref q2, .int (nI sy)]))) (hq2 : h.1 q2 = some (mNA 3264 Y)) (hsy : sy ≤ 3264) (hY : ∀ j, Y j < 1000) (n1 : p2 ≠ p) (n2 : p2 ≠ q) (n3 : q2 ≠ p) (n4 : q2 ≠ q) (hq20 : 0 < q2) : Zx g zX7_becomeCopyOf [.ref p, .ref p2] (pgs h 7 3264 p q Z sz) none (pgs h 7 3264 p q (va_cpy Y Z 0 0 sy) sy) := by
  show Zn g zX7_becomeCopyOf 0 [some (.ref p), some (.ref p2)] [] (pgs h 7 3264 p q Z sz) 0 0 _
  refine zn_aload_n (pc := 0) rfl rfl ?_
  refine zn_get (pc := 1) (v := .ref q2) rfl ((pg_n (by omega) (by omega)).trans hp2) rfl ?_
  refine zn_iconstN (pc := 4) 0 rfl rfl ?_
  refine zn_aload_n (pc := 5) rfl rfl ?_
  refine zn_get (pc := 6) (v := .ref q) rfl pg_o rfl ?_
  refine zn_iconstN (pc := 9) 0 rfl rfl ?_
  refine zn_aload_n (pc := 10) rfl rfl ?_
  refine zn_get (pc := 11) (v := .int (nI sy)) rfl ((pg_n (by omega) (by omega)).trans hp2) rfl ?_
  refine zn_copy (pc := 14) rfl hq20 hq0 ((pg_n n3 n4).trans hq2) (pg_a hpq) (nI_pos (by omega)) (nI_pos (by omega)) (nI_pos (by omega)) (by rw [nI_clamp (by omega), nI_clamp (by omega)]; omega) (by rw [nI_clamp (by omega), nI_clamp (by omega)]; omega) (Nat.le_of_ble_eq_true rfl) (Nat.le_of_ble_eq_true rfl) ?_
  rw [nI_clamp (n := 0) (by omega), nI_clamp (n := sy) (by omega), cpN]
  refine zn_heq (h' := pgs h 7 3264 p q (va_cpy Y Z 0 0 sy) sz) (pgs_z hpq) ?_
  refine zn_aload_n (pc := 17) rfl rfl ?_
  refine zn_aload_n (pc := 18) rfl rfl ?_
  refine zn_get (pc := 19) (v := .int (nI sy)) rfl ((pg_n (by omega) (by omega)).trans hp2) rfl ?_
  refine zp_put (pc := 22) (x := sy) rfl rfl ?_
  exact zx_v (pc := 25) rfl rfl rfl rfl
/-- where the run of blanks that ends at a place begins, not before s -/
def rst (Z : Nat → Nat) (s : Nat) : Nat → Nat
  | 0 => 0
  | e + 1 => if s < e + 1 ∧ Z e = 32 then rst Z s e else e + 1
theorem rst_le (Z : Nat → Nat) (s : Nat) : ∀ e, rst Z s e ≤ e
  | 0 => Nat.le_refl _
  | e + 1 => by
    simp only [rst]
    split
    · exact Nat.le_succ_of_le (rst_le Z s e)
    · exact Nat.le_refl _
theorem rst_e {Z : Nat → Nat} {s e : Nat} (he : 1 ≤ e) : rst Z s e = if s < e ∧ Z (e - 1) = 32 then rst Z s (e - 1) else e := by
  obtain ⟨k, rfl⟩ : ∃ k, e = k + 1 := ⟨e - 1, by omega⟩
  rfl
theorem rst_s {Z : Nat → Nat} {s e : Nat} (he : e ≤ s) : rst Z s e = e := by
  rcases Nat.eq_zero_or_pos e with q | q
  · subst q; rfl
  · rw [rst_e q, if_neg (by omega)]
theorem nI_mm1 {e : Nat} (he : 1 ≤ e) : nI e - 1 = nI (e - 1) := pk_sub (b := 1) he
/-- how many runs of g blanks at least, from at back to s -/
def crn (Z : Nat → Nat) (s b : Nat) : Nat → Nat → Nat
  | 0, _ => 0
  | n + 1, e => if s < e then (if b ≤ e - rst Z s e then 1 else 0) + crn Z s b n (if rst Z s e < e then rst Z s e else e - 1) else 0
theorem crn_le (Z : Nat → Nat) (s b : Nat) : ∀ n e, crn Z s b n e ≤ n
  | 0, _ => Nat.le_refl _
  | n + 1, e => by
    simp only [crn]
    have := crn_le Z s b n (if rst Z s e < e then rst Z s e else e - 1)
    split
    · split <;> omega
    · omega
theorem c_runStart_l {p q sz : Nat} {Z : Nat → Nat} (hp : hh.1 p = some (.inr (7, [.ref q, .int (nI sz)]))) (hq : hh.1 q = some (mNA 3264 Z)) (hn : sz ≤ 3264) (hZ : ∀ j, Z j < 1000) {s e0 : Nat} (hs0 : s ≤ 3264) : ∀ (n : Nat) (e : Nat), e ≤ n → e ≤ sz → Zn g zX7_runStart 2 [some (.ref p), some (.int (nI s)), some (.int (nI e0)), some (.int (nI e))] [] (hh) 0 0 (fun r' h' => r' = .inl (some (.int (nI (rst Z s e)))) ∧ h' = (hh)) := by
  intro n
  induction n with
  | zero =>
    intro e hn0 hn1
    refine zn_iload_n (pc := 2) rfl rfl ?_
    refine zn_iload_n (pc := 3) rfl rfl ?_
    refine zn_icmp_leN (pc := 4) (tgt := 25) (x := e) (y := s) rfl rfl (by have := hZ (e - 1); omega) (by have := hZ (e - 1); omega) (fun c1 => ?_) (fun c1 => ?_)
    · refine zn_iload_n (pc := 25) rfl rfl ?_
      exact zx_i (pc := 26) rfl rfl (by rw [rst_s (by omega)]) rfl
    · exfalso; omega
  | succ n ih =>
    intro e hn0 hn1
    refine zn_iload_n (pc := 2) rfl rfl ?_
    refine zn_iload_n (pc := 3) rfl rfl ?_
    refine zn_icmp_leN (pc := 4) (tgt := 25) (x := e) (y := s) rfl rfl (by have := hZ (e - 1); omega) (by have := hZ (e - 1); omega) (fun c1 => ?_) (fun c1 => ?_)
    · refine zn_iload_n (pc := 25) rfl rfl ?_
      exact zx_i (pc := 26) rfl rfl (by rw [rst_s (by omega)]) rfl
    · refine zn_aload_n (pc := 7) rfl rfl ?_
      refine zn_iload_n (pc := 8) rfl rfl ?_
      refine zn_iconstN (pc := 9) 1 rfl rfl ?_
      refine zn_isubN (pc := 10) (x := e) (y := 1) rfl (by omega) ?_
      refine zn_callVx (pc := 11) (J := zX7_codeAt) (o := p) (as := [.int (nI (e - 1))]) (rest := []) rfl rfl rfl rfl hp rfl rfl rfl (Nat.le_of_ble_eq_true rfl) (Nat.le_of_ble_eq_true rfl) (Nat.le_of_ble_eq_true rfl) (Nat.le_of_ble_eq_true rfl) (c_codeAt_i hp hq hn hZ (a := (e - 1)) (by omega)) ?_
      refine zn_bipushN (pc := 14) 32 rfl rfl ?_
      refine zn_icmp_neN (pc := 16) (tgt := 25) (x := (Z (e - 1))) (y := 32) rfl rfl (by have := hZ (e - 1); omega) (by have := hZ (e - 1); omega) (fun c2 => ?_) (fun c2 => ?_)
      · refine zn_iload_n (pc := 25) rfl rfl ?_
        exact zx_i (pc := 26) rfl rfl (by rw [rst_e (by omega), if_neg (by omega)]) rfl
      · refine zn_iinc (pc := 19) (L' := [some (.ref p), some (.int (nI s)), some (.int (nI e0)), some (.int (nI e - 1))]) (v := nI e - 1) rfl rfl (dm_dec _) (by decide) rfl ?_
        refine zn_goto (pc := 22) (tgt := 2) rfl rfl ?_
        refine zn_sub (L' := [some (.ref p), some (.int (nI s)), some (.int (nI e0)), some (.int (nI (e - 1)))]) ⟨rfl, rfl, rfl, by rw [nI_mm1 (by omega)], trivial⟩ ?_
        rw [rst_e (by omega), if_pos (by omega)]
        exact ih (e - 1) (by omega) (by omega)
theorem c_runStart  {p q sz : Nat} {Z : Nat → Nat} (hp : hh.1 p = some (.inr (7, [.ref q, .int (nI sz)]))) (hq : hh.1 q = some (mNA 3264 Z)) (hn : sz ≤ 3264) (hZ : ∀ j, Z j < 1000) {s e : Nat} (hs0 : s ≤ 3264) (he : e ≤ sz) : Zx g zX7_runStart [.ref p, .int (nI s), .int (nI e)] (hh) (some (.int (nI (rst Z s e)))) (hh) := by
  show Zn g zX7_runStart 0 [some (.ref p), some (.int (nI s)), some (.int (nI e)), none] [] (hh) 0 0 _
  refine zn_iload_n (pc := 0) rfl rfl ?_
  refine zn_istore_n (pc := 1) (L' := [some (.ref p), some (.int (nI s)), some (.int (nI e)), some (.int (nI e))]) rfl (by decide) rfl ?_
  exact c_runStart_l hp hq hn hZ hs0 e e (by omega) he
theorem c_countRuns_l {p q sz : Nat} {Z : Nat → Nat} (hp : hh.1 p = some (.inr (7, [.ref q, .int (nI sz)]))) (hq : hh.1 q = some (mNA 3264 Z)) (hn : sz ≤ 3264) (hZ : ∀ j, Z j < 1000) {s e0 b : Nat} (hs0 : s ≤ 3264) (hb : b ≤ 16) : ∀ (n : Nat) (e r R : Nat), e ≤ n → e ≤ sz → R = r + crn Z s b n e → r + n ≤ 4000 → Zn g zX7_countRuns 6 [some (.ref p), some (.int (nI s)), some (.int (nI e0)), some (.int (nI b)), some (.int (nI r)), some (.int (nI e)), none] [] (hh) 0 0 (fun r' h' => r' = .inl (some (.int (nI R))) ∧ h' = (hh)) := by
  intro n
  induction n with
  | zero =>
    intro e r R hn0 hn1 hn2 hn3
    have rl := rst_le Z s e
    refine zn_iload (pc := 6) rfl rfl ?_
    refine zn_iload_n (pc := 8) rfl rfl ?_
    refine zn_icmp_leN (pc := 9) (tgt := 54) (x := e) (y := s) rfl rfl (by omega) (by omega) (fun c1 => ?_) (fun c1 => ?_)
    · refine zn_iload (pc := 54) rfl rfl ?_
      exact zx_i (pc := 56) rfl rfl (by rw [hn2]; simp only [crn]; rw [Nat.add_zero]) rfl
    · exfalso; omega
  | succ n ih =>
    intro e r R hn0 hn1 hn2 hn3
    have rl := rst_le Z s e
    refine zn_iload (pc := 6) rfl rfl ?_
    refine zn_iload_n (pc := 8) rfl rfl ?_
    refine zn_icmp_leN (pc := 9) (tgt := 54) (x := e) (y := s) rfl rfl (by omega) (by omega) (fun c1 => ?_) (fun c1 => ?_)
    · refine zn_iload (pc := 54) rfl rfl ?_
      exact zx_i (pc := 56) rfl rfl (by rw [hn2]; simp only [crn]; rw [if_neg (by omega), Nat.add_zero]) rfl
    · refine zn_aload_n (pc := 12) rfl rfl ?_
      refine zn_iload_n (pc := 13) rfl rfl ?_
      refine zn_iload (pc := 14) rfl rfl ?_
      refine zn_callVx (pc := 16) (J := zX7_runStart) (o := p) (as := [.int (nI s), .int (nI e)]) (rest := []) rfl rfl rfl rfl hp rfl rfl rfl (Nat.le_of_ble_eq_true rfl) (Nat.le_of_ble_eq_true rfl) (Nat.le_of_ble_eq_true rfl) (Nat.le_of_ble_eq_true rfl) (c_runStart hp hq hn hZ (s := s) (e := e) (by omega) (by omega)) ?_
      refine zn_istore (pc := 19) (L' := [some (.ref p), some (.int (nI s)), some (.int (nI e0)), some (.int (nI b)), some (.int (nI r)), some (.int (nI e)), some (.int (nI (rst Z s e)))]) rfl (by decide) rfl ?_
      refine zn_iload (pc := 21) rfl rfl ?_
      refine zn_iload (pc := 23) rfl rfl ?_
      refine zn_isubN (pc := 25) (x := e) (y := (rst Z s e)) rfl (by omega) ?_
      refine zn_iload_n (pc := 26) rfl rfl ?_
      refine zn_icmp_ltN (pc := 27) (tgt := 33) (x := (e - (rst Z s e))) (y := b) rfl rfl (by omega) (by omega) (fun c2 => ?_) (fun c2 => ?_)
      · refine zn_iload (pc := 33) rfl rfl ?_
        refine zn_iload (pc := 35) rfl rfl ?_
        refine zn_icmp_geN (pc := 37) (tgt := 45) (x := (rst Z s e)) (y := e) rfl rfl (by omega) (by omega) (fun c3 => ?_) (fun c3 => ?_)
        · refine zn_iload (pc := 45) rfl rfl ?_
          refine zn_iconstN (pc := 47) 1 rfl rfl ?_
          refine zn_isubN (pc := 48) (x := e) (y := 1) rfl (by omega) ?_
          refine zn_istore (pc := 49) (L' := [some (.ref p), some (.int (nI s)), some (.int (nI e0)), some (.int (nI b)), some (.int (nI r)), some (.int (nI (e - 1))), some (.int (nI (rst Z s e)))]) rfl (by decide) rfl ?_
          refine zn_goto (pc := 51) (tgt := 6) rfl rfl ?_
          refine zn_sub (L' := [some (.ref p), some (.int (nI s)), some (.int (nI e0)), some (.int (nI b)), some (.int (nI r)), some (.int (nI (e - 1))), none]) ⟨rfl, rfl, rfl, rfl, rfl, rfl, trivial⟩ ?_
          exact ih (e - 1) (r) R (by omega) (by omega) (by rw [hn2]; simp only [crn]; rw [if_pos (by omega), if_neg (by omega), if_neg (by omega)]; omega) (by omega)
        · refine zn_iload (pc := 40) rfl rfl ?_
          refine zn_goto (pc := 42) (tgt := 49) rfl rfl ?_
          refine zn_istore (pc := 49) (L' := [some (.ref p), some (.int (nI s)), some (.int (nI e0)), some (.int (nI b)), some (.int (nI r)), some (.int (nI (rst Z s e))), some (.int (nI (rst Z s e)))]) rfl (by decide) rfl ?_
          refine zn_goto (pc := 51) (tgt := 6) rfl rfl ?_
          refine zn_sub (L' := [some (.ref p), some (.int (nI s)), some (.int (nI e0)), some (.int (nI b)), some (.int (nI r)), some (.int (nI (rst Z s e))), none]) ⟨rfl, rfl, rfl, rfl, rfl, rfl, trivial⟩ ?_
          exact ih (rst Z s e) (r) R (by omega) (by omega) (by rw [hn2]; simp only [crn]; rw [if_pos (by omega), if_neg (by omega), if_pos (by omega)]; omega) (by omega)
      · refine zn_iincN (pc := 30) (L' := [some (.ref p), some (.int (nI s)), some (.int (nI e0)), some (.int (nI b)), some (.int (nI (r + 1))), some (.int (nI e)), some (.int (nI (rst Z s e)))]) 1 rfl rfl rfl (by decide) rfl ?_
        refine zn_iload (pc := 33) rfl rfl ?_
        refine zn_iload (pc := 35) rfl rfl ?_
        refine zn_icmp_geN (pc := 37) (tgt := 45) (x := (rst Z s e)) (y := e) rfl rfl (by omega) (by omega) (fun c4 => ?_) (fun c4 => ?_)
        · refine zn_iload (pc := 45) rfl rfl ?_
          refine zn_iconstN (pc := 47) 1 rfl rfl ?_
          refine zn_isubN (pc := 48) (x := e) (y := 1) rfl (by omega) ?_
          refine zn_istore (pc := 49) (L' := [some (.ref p), some (.int (nI s)), some (.int (nI e0)), some (.int (nI b)), some (.int (nI (r + 1))), some (.int (nI (e - 1))), some (.int (nI (rst Z s e)))]) rfl (by decide) rfl ?_
          refine zn_goto (pc := 51) (tgt := 6) rfl rfl ?_
          refine zn_sub (L' := [some (.ref p), some (.int (nI s)), some (.int (nI e0)), some (.int (nI b)), some (.int (nI (r + 1))), some (.int (nI (e - 1))), none]) ⟨rfl, rfl, rfl, rfl, rfl, rfl, trivial⟩ ?_
          exact ih (e - 1) (r + 1) R (by omega) (by omega) (by rw [hn2]; simp only [crn]; rw [if_pos (by omega), if_pos (by omega), if_neg (by omega)]; omega) (by omega)
        · refine zn_iload (pc := 40) rfl rfl ?_
          refine zn_goto (pc := 42) (tgt := 49) rfl rfl ?_
          refine zn_istore (pc := 49) (L' := [some (.ref p), some (.int (nI s)), some (.int (nI e0)), some (.int (nI b)), some (.int (nI (r + 1))), some (.int (nI (rst Z s e))), some (.int (nI (rst Z s e)))]) rfl (by decide) rfl ?_
          refine zn_goto (pc := 51) (tgt := 6) rfl rfl ?_
          refine zn_sub (L' := [some (.ref p), some (.int (nI s)), some (.int (nI e0)), some (.int (nI b)), some (.int (nI (r + 1))), some (.int (nI (rst Z s e))), none]) ⟨rfl, rfl, rfl, rfl, rfl, rfl, trivial⟩ ?_
          exact ih (rst Z s e) (r + 1) R (by omega) (by omega) (by rw [hn2]; simp only [crn]; rw [if_pos (by omega), if_pos (by omega), if_pos (by omega)]; omega) (by omega)
theorem c_countRuns  {p q sz : Nat} {Z : Nat → Nat} (hp : hh.1 p = some (.inr (7, [.ref q, .int (nI sz)]))) (hq : hh.1 q = some (mNA 3264 Z)) (hn : sz ≤ 3264) (hZ : ∀ j, Z j < 1000) {s e b : Nat} (hs0 : s ≤ 3264) (hb : b ≤ 16) (he : e ≤ sz) : Zx g zX7_countRuns [.ref p, .int (nI s), .int (nI e), .int (nI b)] (hh) (some (.int (nI (crn Z s b e e)))) (hh) := by
  show Zn g zX7_countRuns 0 [some (.ref p), some (.int (nI s)), some (.int (nI e)), some (.int (nI b)), none, none, none] [] (hh) 0 0 _
  refine zn_iconstN (pc := 0) 0 rfl rfl ?_
  refine zn_istore (pc := 1) (L' := [some (.ref p), some (.int (nI s)), some (.int (nI e)), some (.int (nI b)), some (.int (nI 0)), none, none]) rfl (by decide) rfl ?_
  refine zn_iload_n (pc := 3) rfl rfl ?_
  refine zn_istore (pc := 4) (L' := [some (.ref p), some (.int (nI s)), some (.int (nI e)), some (.int (nI b)), some (.int (nI 0)), some (.int (nI e)), none]) rfl (by decide) rfl ?_
  exact c_countRuns_l hp hq hn hZ hs0 hb e e 0 _ (by omega) he (by omega) (by omega)
/-- the page with each run of b blanks at least, from e back to s, made a tab -/
def rrn (s b : Nat) : Nat → Nat → (Nat → Nat) × Nat → (Nat → Nat) × Nat
  | 0, _, P => P
  | n + 1, e, P => if s < e then rrn s b n (if rst P.1 s e < e then rst P.1 s e else e - 1) (if b ≤ e - rst P.1 s e then (va_up (va_cpy (va_cpy P.1 P.1 e (rst P.1 s e) (P.2 - e)) (va_cpy P.1 P.1 e (rst P.1 s e) (P.2 - e)) (rst P.1 s e) (rst P.1 s e + 1) (P.2 - (e - rst P.1 s e) - rst P.1 s e)) (rst P.1 s e) 9, P.2 - (e - rst P.1 s e) + 1) else P) else P
theorem zb_up {Z : Nat → Nat} {k x : Nat} (h : ∀ j, Z j < 1000) (hx : x < 1000) : ∀ j, va_up Z k x j < 1000 := fun j => by
  unfold va_up; split
  · exact hx
  · exact h j
theorem zb_cpy {Z Z' : Nat → Nat} {s d n : Nat} (h : ∀ j, Z j < 1000) (h' : ∀ j, Z' j < 1000) : ∀ j, va_cpy Z Z' s d n j < 1000 := fun j => by
  unfold va_cpy; split
  · exact h _
  · exact h' j
theorem c_replaceRuns_l {p q : Nat} (hpq : p ≠ q) (hq0 : 0 < q) {s e0 b : Nat} (hs0 : s ≤ 3264) (hb : b ≤ 16) (hb1 : 1 ≤ b) : ∀ (n : Nat) (e : Nat) (Z : Nat → Nat) (sz : Nat) (R : (Nat → Nat) × Nat), e ≤ n → e ≤ sz → sz ≤ 3264 → (∀ j, Z j < 1000) → R = rrn s b n e (Z, sz) → Zn g zX7_replaceRuns 3 [some (.ref p), some (.int (nI s)), some (.int (nI e0)), some (.int (nI b)), some (.int (nI e)), none] [] (pgs h 7 3264 p q Z sz) 0 0 (fun r' h' => r' = .inl none ∧ h' = (pgs h 7 3264 p q R.1 R.2)) := by
  intro n
  induction n with
  | zero =>
    intro e Z sz R hn0 hn1 hn2 hn3 hn4
    have hn := hn2
    have hZ := hn3
    have rl := rst_le Z s e
    refine zn_iload (pc := 3) rfl rfl ?_
    refine zn_iload_n (pc := 5) rfl rfl ?_
    refine zn_icmp_leN (pc := 6) (tgt := 67) (x := e) (y := s) rfl rfl (by omega) (by omega) (fun c1 => ?_) (fun c1 => ?_)
    · exact zx_v (pc := 67) rfl rfl rfl (by rw [hn4]; simp only [rrn])
    · exfalso; omega
  | succ n ih =>
    intro e Z sz R hn0 hn1 hn2 hn3 hn4
    have hn := hn2
    have hZ := hn3
    have rl := rst_le Z s e
    refine zn_iload (pc := 3) rfl rfl ?_
    refine zn_iload_n (pc := 5) rfl rfl ?_
    refine zn_icmp_leN (pc := 6) (tgt := 67) (x := e) (y := s) rfl rfl (by omega) (by omega) (fun c1 => ?_) (fun c1 => ?_)
    · exact zx_v (pc := 67) rfl rfl rfl (by rw [hn4]; simp only [rrn]; rw [if_neg (by omega)])
    · refine zn_aload_n (pc := 9) rfl rfl ?_
      refine zn_iload_n (pc := 10) rfl rfl ?_
      refine zn_iload (pc := 11) rfl rfl ?_
      refine zn_callVx (pc := 13) (J := zX7_runStart) (o := p) (as := [.int (nI s), .int (nI e)]) (rest := []) rfl rfl rfl rfl pg_o rfl rfl rfl (Nat.le_of_ble_eq_true rfl) (Nat.le_of_ble_eq_true rfl) (Nat.le_of_ble_eq_true rfl) (Nat.le_of_ble_eq_true rfl) (c_runStart pg_o (pg_a hpq) hn hZ (s := s) (e := e) (by omega) (by omega)) ?_
      refine zn_istore (pc := 16) (L' := [some (.ref p), some (.int (nI s)), some (.int (nI e0)), some (.int (nI b)), some (.int (nI e)), some (.int (nI (rst Z s e)))]) rfl (by decide) rfl ?_
      refine zn_iload (pc := 18) rfl rfl ?_
      refine zn_iload (pc := 20) rfl rfl ?_
      refine zn_isubN (pc := 22) (x := e) (y := (rst Z s e)) rfl (by omega) ?_
      refine zn_iload_n (pc := 23) rfl rfl ?_
      refine zn_icmp_ltN (pc := 24) (tgt := 46) (x := (e - (rst Z s e))) (y := b) rfl rfl (by omega) (by omega) (fun c2 => ?_) (fun c2 => ?_)
      · refine zn_iload (pc := 46) rfl rfl ?_
        refine zn_iload (pc := 48) rfl rfl ?_
        refine zn_icmp_geN (pc := 50) (tgt := 58) (x := (rst Z s e)) (y := e) rfl rfl (by omega) (by omega) (fun c3 => ?_) (fun c3 => ?_)
        · refine zn_iload (pc := 58) rfl rfl ?_
          refine zn_iconstN (pc := 60) 1 rfl rfl ?_
          refine zn_isubN (pc := 61) (x := e) (y := 1) rfl (by omega) ?_
          refine zn_istore (pc := 62) (L' := [some (.ref p), some (.int (nI s)), some (.int (nI e0)), some (.int (nI b)), some (.int (nI (e - 1))), some (.int (nI (rst Z s e)))]) rfl (by decide) rfl ?_
          refine zn_goto (pc := 64) (tgt := 3) rfl rfl ?_
          refine zn_sub (L' := [some (.ref p), some (.int (nI s)), some (.int (nI e0)), some (.int (nI b)), some (.int (nI (e - 1))), none]) ⟨rfl, rfl, rfl, rfl, rfl, trivial⟩ ?_
          exact ih (e - 1) Z sz R (by omega) (by omega) hn2 hZ (by rw [hn4]; simp only [rrn]; rw [if_pos (by omega), if_neg (by omega), if_neg (by omega)])
        · refine zn_iload (pc := 53) rfl rfl ?_
          refine zn_goto (pc := 55) (tgt := 62) rfl rfl ?_
          refine zn_istore (pc := 62) (L' := [some (.ref p), some (.int (nI s)), some (.int (nI e0)), some (.int (nI b)), some (.int (nI (rst Z s e))), some (.int (nI (rst Z s e)))]) rfl (by decide) rfl ?_
          refine zn_goto (pc := 64) (tgt := 3) rfl rfl ?_
          refine zn_sub (L' := [some (.ref p), some (.int (nI s)), some (.int (nI e0)), some (.int (nI b)), some (.int (nI (rst Z s e))), none]) ⟨rfl, rfl, rfl, rfl, rfl, trivial⟩ ?_
          exact ih (rst Z s e) Z sz R (by omega) (by omega) hn2 hZ (by rw [hn4]; simp only [rrn]; rw [if_pos (by omega), if_pos (by omega), if_neg (by omega)])
      · refine zn_aload_n (pc := 27) rfl rfl ?_
        refine zn_iload (pc := 28) rfl rfl ?_
        refine zn_iload (pc := 30) rfl rfl ?_
        refine zn_iload (pc := 32) rfl rfl ?_
        refine zn_isubN (pc := 34) (x := e) (y := (rst Z s e)) rfl (by omega) ?_
        refine zn_callVx (pc := 35) (J := zX7_cut) (o := p) (as := [.int (nI (rst Z s e)), .int (nI (e - (rst Z s e)))]) (rest := []) rfl rfl rfl rfl pg_o rfl rfl rfl (Nat.le_of_ble_eq_true rfl) (Nat.le_of_ble_eq_true rfl) (Nat.le_of_ble_eq_true rfl) (Nat.le_of_ble_eq_true rfl) (c_cut hpq hq0 (a := (rst Z s e)) (n := (e - (rst Z s e))) (by omega) (by omega)) ?_
        refine zn_aload_n (pc := 38) rfl rfl ?_
        refine zn_iload (pc := 39) rfl rfl ?_
        refine zn_bipushN (pc := 41) 9 rfl rfl ?_
        refine zn_callVx (pc := 43) (J := zX7_put) (o := p) (as := [.int (nI (rst Z s e)), .int (nI 9)]) (rest := []) rfl rfl rfl rfl pg_o rfl rfl rfl (Nat.le_of_ble_eq_true rfl) (Nat.le_of_ble_eq_true rfl) (Nat.le_of_ble_eq_true rfl) (Nat.le_of_ble_eq_true rfl) (c_put hpq hq0 (a := (rst Z s e)) (x := 9) (by omega) (by omega)) ?_
        refine zn_iload (pc := 46) rfl rfl ?_
        refine zn_iload (pc := 48) rfl rfl ?_
        refine zn_icmp_geN (pc := 50) (tgt := 58) (x := (rst Z s e)) (y := e) rfl rfl (by omega) (by omega) (fun c4 => ?_) (fun c4 => ?_)
        · refine zn_iload (pc := 58) rfl rfl ?_
          refine zn_iconstN (pc := 60) 1 rfl rfl ?_
          refine zn_isubN (pc := 61) (x := e) (y := 1) rfl (by omega) ?_
          refine zn_istore (pc := 62) (L' := [some (.ref p), some (.int (nI s)), some (.int (nI e0)), some (.int (nI b)), some (.int (nI (e - 1))), some (.int (nI (rst Z s e)))]) rfl (by decide) rfl ?_
          refine zn_goto (pc := 64) (tgt := 3) rfl rfl ?_
          have eZ : va_up (va_cpy (va_cpy Z Z ((rst Z s e) + (e - (rst Z s e))) (rst Z s e) (sz - (rst Z s e) - (e - (rst Z s e)))) (va_cpy Z Z ((rst Z s e) + (e - (rst Z s e))) (rst Z s e) (sz - (rst Z s e) - (e - (rst Z s e)))) (rst Z s e) ((rst Z s e) + 1) ((sz - (e - (rst Z s e))) - (rst Z s e))) (rst Z s e) 9 = va_up (va_cpy (va_cpy Z Z e (rst Z s e) (sz - e)) (va_cpy Z Z e (rst Z s e) (sz - e)) (rst Z s e) (rst Z s e + 1) (sz - (e - rst Z s e) - rst Z s e)) (rst Z s e) 9 := by rw [show rst Z s e + (e - rst Z s e) = e by omega, show sz - rst Z s e - (e - rst Z s e) = sz - e by omega]
          have hZ2 : ∀ j, (va_up (va_cpy (va_cpy Z Z ((rst Z s e) + (e - (rst Z s e))) (rst Z s e) (sz - (rst Z s e) - (e - (rst Z s e)))) (va_cpy Z Z ((rst Z s e) + (e - (rst Z s e))) (rst Z s e) (sz - (rst Z s e) - (e - (rst Z s e)))) (rst Z s e) ((rst Z s e) + 1) ((sz - (e - (rst Z s e))) - (rst Z s e))) (rst Z s e) 9) j < 1000 := zb_up (zb_cpy (zb_cpy hZ hZ) (zb_cpy hZ hZ)) (by omega)
          refine zn_sub (L' := [some (.ref p), some (.int (nI s)), some (.int (nI e0)), some (.int (nI b)), some (.int (nI (e - 1))), none]) ⟨rfl, rfl, rfl, rfl, rfl, trivial⟩ ?_
          exact ih (e - 1) _ _ R (by omega) (by omega) (by omega) hZ2 (by rw [hn4]; simp only [rrn]; rw [if_pos (by omega), if_neg (by omega), if_pos (by omega), eZ])
        · refine zn_iload (pc := 53) rfl rfl ?_
          refine zn_goto (pc := 55) (tgt := 62) rfl rfl ?_
          refine zn_istore (pc := 62) (L' := [some (.ref p), some (.int (nI s)), some (.int (nI e0)), some (.int (nI b)), some (.int (nI (rst Z s e))), some (.int (nI (rst Z s e)))]) rfl (by decide) rfl ?_
          refine zn_goto (pc := 64) (tgt := 3) rfl rfl ?_
          have eZ : va_up (va_cpy (va_cpy Z Z ((rst Z s e) + (e - (rst Z s e))) (rst Z s e) (sz - (rst Z s e) - (e - (rst Z s e)))) (va_cpy Z Z ((rst Z s e) + (e - (rst Z s e))) (rst Z s e) (sz - (rst Z s e) - (e - (rst Z s e)))) (rst Z s e) ((rst Z s e) + 1) ((sz - (e - (rst Z s e))) - (rst Z s e))) (rst Z s e) 9 = va_up (va_cpy (va_cpy Z Z e (rst Z s e) (sz - e)) (va_cpy Z Z e (rst Z s e) (sz - e)) (rst Z s e) (rst Z s e + 1) (sz - (e - rst Z s e) - rst Z s e)) (rst Z s e) 9 := by rw [show rst Z s e + (e - rst Z s e) = e by omega, show sz - rst Z s e - (e - rst Z s e) = sz - e by omega]
          have hZ2 : ∀ j, (va_up (va_cpy (va_cpy Z Z ((rst Z s e) + (e - (rst Z s e))) (rst Z s e) (sz - (rst Z s e) - (e - (rst Z s e)))) (va_cpy Z Z ((rst Z s e) + (e - (rst Z s e))) (rst Z s e) (sz - (rst Z s e) - (e - (rst Z s e)))) (rst Z s e) ((rst Z s e) + 1) ((sz - (e - (rst Z s e))) - (rst Z s e))) (rst Z s e) 9) j < 1000 := zb_up (zb_cpy (zb_cpy hZ hZ) (zb_cpy hZ hZ)) (by omega)
          refine zn_sub (L' := [some (.ref p), some (.int (nI s)), some (.int (nI e0)), some (.int (nI b)), some (.int (nI (rst Z s e))), none]) ⟨rfl, rfl, rfl, rfl, rfl, trivial⟩ ?_
          exact ih (rst Z s e) _ _ R (by omega) (by omega) (by omega) hZ2 (by rw [hn4]; simp only [rrn]; rw [if_pos (by omega), if_pos (by omega), if_pos (by omega), eZ])
theorem c_replaceRuns  {p q sz : Nat} {Z : Nat → Nat} (hpq : p ≠ q) (hq0 : 0 < q) {s e b : Nat} (hs0 : s ≤ 3264) (hb : b ≤ 16) (hb1 : 1 ≤ b) (he : e ≤ sz) (hn : sz ≤ 3264) (hZ : ∀ j, Z j < 1000) : Zx g zX7_replaceRuns [.ref p, .int (nI s), .int (nI e), .int (nI b)] (pgs h 7 3264 p q Z sz) none (pgs h 7 3264 p q ((rrn s b e e (Z, sz)).1) ((rrn s b e e (Z, sz)).2)) := by
  show Zn g zX7_replaceRuns 0 [some (.ref p), some (.int (nI s)), some (.int (nI e)), some (.int (nI b)), none, none] [] (pgs h 7 3264 p q Z sz) 0 0 _
  refine zn_iload_n (pc := 0) rfl rfl ?_
  refine zn_istore (pc := 1) (L' := [some (.ref p), some (.int (nI s)), some (.int (nI e)), some (.int (nI b)), some (.int (nI e)), none]) rfl (by decide) rfl ?_
  exact c_replaceRuns_l hpq hq0 hs0 hb hb1 e e Z sz _ (by omega) he hn hZ rfl
end m1
