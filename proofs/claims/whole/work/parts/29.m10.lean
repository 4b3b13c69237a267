section m1
variable {g : zG} {h hh : zH} {F : Nat → Nat} {S : Int64} {z : Nat → Nat} {A : Nat → Nat → Nat} {X : Nat → Int32}
/-! strings: f gives the codes, n is the length -/
abbrev sBlank (f : Nat → Nat) (n : Nat) : Prop := ∀ k, k < n → f k = 32
theorem sBlank_s {f : Nat → Nat} {n : Nat} : sBlank f (n + 1) ↔ sBlank f n ∧ f n = 32 := by
  constructor
  · exact fun h => ⟨fun k hk => h k (by omega), h n (by omega)⟩
  · intro h k hk
    rcases Nat.lt_or_ge k n with q | q
    · exact h.1 k q
    · rw [show k = n by omega]; exact h.2
abbrev sDig (c : Nat) : Prop := 48 ≤ c ∧ c ≤ 57
/-- how many digits stand from k on, at most m -/
def sfg (f : Nat → Nat) : Nat → Nat → Nat
  | 0, _ => 0
  | m + 1, k => if sDig (f k) then sfg f m (k + 1) + 1 else 0
theorem sfg_le (f : Nat → Nat) : ∀ m k, sfg f m k ≤ m
  | 0, k => by simp [sfg]
  | m + 1, k => by
    simp only [sfg]
    have := sfg_le f m (k + 1)
    split <;> omega
def sSg (f : Nat → Nat) (n : Nat) : Nat := if 0 < n ∧ f 0 = 45 then 1 else 0
def sW (f : Nat → Nat) (n : Nat) : Nat := sfg f (n - sSg f n) (sSg f n)
def sA (f : Nat → Nat) (n : Nat) : Nat := sSg f n + sW f n
def sP (f : Nat → Nat) (n : Nat) : Nat := sfg f (n - (sA f n + 1)) (sA f n + 1)
abbrev sNum (f : Nat → Nat) (n : Nat) : Prop := (1 ≤ sW f n ∧ sW f n ≤ 9) ∧ (sA f n = n ∨ (f (sA f n) = 46 ∧ (1 ≤ sP f n ∧ sP f n ≤ 4) ∧ sA f n + 1 + sP f n = n))
def skind (f : Nat → Nat) (n : Nat) : Nat := if sBlank f n then 0 else if sNum f n then 1 else 2
theorem skind_le (f : Nat → Nat) (n : Nat) : skind f n ≤ 2 := by unfold skind; (repeat' split) <;> omega
theorem sSg_le (f : Nat → Nat) (n : Nat) : sSg f n ≤ n ∧ sSg f n ≤ 1 := by unfold sSg; split <;> omega
theorem sA_le (f : Nat → Nat) (n : Nat) : sA f n ≤ n := by
  unfold sA sW
  have h1 := sSg_le f n
  have h2 := sfg_le f (n - sSg f n) (sSg f n)
  omega
/-- the place of the first point from k on, at most m further -/
def swh (f : Nat → Nat) : Nat → Nat → Nat
  | 0, k => k
  | m + 1, k => if f k = 46 then k else swh f m (k + 1)
theorem swh_le (f : Nat → Nat) : ∀ m k, swh f m k ≤ k + m
  | 0, k => by simp [swh]
  | m + 1, k => by
    simp only [swh]
    have := swh_le f m (k + 1)
    split <;> omega
/-- the digits of a text as a number, and how many stand behind the point -/
def sval (f : Nat → Nat) : Nat → Nat → Int64 → Nat → Nat → Int64 × Nat
  | 0, _, v, a, _ => (v, a)
  | m + 1, k, v, a, b => sval f m (k + 1) (if sDig (f k) then lN 10 * v + (nI (f k)).toInt64 - lN 48 else v) (a + if 0 < b ∧ sDig (f k) then 1 else 0) (if 0 < b ∨ f k = 46 then 1 else 0)
def smul : Nat → Int64 → Int64
  | 0, v => v
  | m + 1, v => smul m (v * lN 10)
def sVal (f : Nat → Nat) (n : Nat) : Int64 := if f 0 = 45 then - smul (4 - (sval f n 0 0 0 0).2) (sval f n 0 0 0 0).1 else smul (4 - (sval f n 0 0 0 0).2) (sval f n 0 0 0 0).1
abbrev mf (z : Nat → Nat) (l c : Nat) : Nat → Nat := fun k => z (217 + 16 * (8 * l + c) + k)
theorem dig_nI {c : Nat} (hc : c < 2 ^ 31) : (nI 48 ≤ nI c ∧ nI c ≤ nI 57) ↔ sDig c := by
  rw [nI_leI (by omega) hc, nI_leI hc (by omega)]
theorem w_nI {v a b : Nat} (hv : v < 2 ^ 31) (ha : a < 2 ^ 31) (hb : b < 2 ^ 31) : (nI a ≤ nI v ∧ nI v ≤ nI b) ↔ (a ≤ v ∧ v ≤ b) := by
  rw [nI_leI ha hv, nI_leI hv hb]
theorem m_isFigureN {c : Nat} (hc : c < 2 ^ 31) : Zx g zX10_isFigure [.int (nI c)] hh (some (.int (zb (sDig c)))) hh := by
  have := m_isFigure (g := g) (hh := hh) (nI c)
  rwa [zb_iff (dig_nI hc)] at this
theorem m_withinN {v a b : Nat} (hv : v < 2 ^ 31) (ha : a < 2 ^ 31) (hb : b < 2 ^ 31) : Zx g zX10_within [.int (nI v), .int (nI a), .int (nI b)] hh (some (.int (zb (a ≤ v ∧ v ≤ b)))) hh := by
  have := m_within (g := g) (hh := hh) (nI v) (nI a) (nI b)
  rwa [zb_iff (w_nI hv ha hb)] at this
theorem m_isBlank_l {l c : Nat} (hl : l < 24) (hc : c < 8) (h16 : z (25 + 8 * l + c) ≤ 16) (hzb : ∀ j, z j < 1000) : ∀ (n : Nat) (k : Nat), k + n = z (25 + 8 * l + c) → Zn g zX10_isBlank 5 [some (.ref 50), some (.int (nI l)), some (.int (nI c)), some (.int (zb (sBlank (mf z l c) k))), some (.int (nI k))] [] (mhp h F S z A X) 0 0 (fun r' h' => r' = .inl (some (.int (zb (sBlank (mf z l c) (z (25 + 8 * l + c)))))) ∧ h' = (mhp h F S z A X)) := by
  intro n
  induction n with
  | zero =>
    intro k hn0
    refine zn_iload (pc := 5) rfl rfl ?_
    refine zn_aload_n (pc := 7) rfl rfl ?_
    refine zn_iload_n (pc := 8) rfl rfl ?_
    refine zn_iload_n (pc := 9) rfl rfl ?_
    refine zn_callVx (pc := 10) (J := zX10_lengthOf) (o := 50) (as := [.int (nI l), .int (nI c)]) (rest := [.int (nI k)]) rfl rfl rfl rfl rfl rfl rfl rfl (Nat.le_of_ble_eq_true rfl) (Nat.le_of_ble_eq_true rfl) (Nat.le_of_ble_eq_true rfl) (Nat.le_of_ble_eq_true rfl) (m_lengthOf (l := l) (c := c) (by omega) (by omega)) ?_
    refine zn_icmp_geN (pc := 13) (tgt := 45) (x := k) (y := (z (25 + 8 * l + c))) rfl rfl (by have := hzb (217 + 16 * (8 * l + c) + k); omega) (by have := hzb (217 + 16 * (8 * l + c) + k); omega) (fun c1 => ?_) (fun c1 => ?_)
    · refine zn_iload_n (pc := 45) rfl rfl ?_
      obtain rfl : k = z (25 + 8 * l + c) := by omega
      exact zx_z (pc := 46) rfl rfl (zb_and _) rfl rfl
    · exfalso; omega
  | succ n ih =>
    intro k hn0
    refine zn_iload (pc := 5) rfl rfl ?_
    refine zn_aload_n (pc := 7) rfl rfl ?_
    refine zn_iload_n (pc := 8) rfl rfl ?_
    refine zn_iload_n (pc := 9) rfl rfl ?_
    refine zn_callVx (pc := 10) (J := zX10_lengthOf) (o := 50) (as := [.int (nI l), .int (nI c)]) (rest := [.int (nI k)]) rfl rfl rfl rfl rfl rfl rfl rfl (Nat.le_of_ble_eq_true rfl) (Nat.le_of_ble_eq_true rfl) (Nat.le_of_ble_eq_true rfl) (Nat.le_of_ble_eq_true rfl) (m_lengthOf (l := l) (c := c) (by omega) (by omega)) ?_
    refine zn_icmp_geN (pc := 13) (tgt := 45) (x := k) (y := (z (25 + 8 * l + c))) rfl rfl (by have := hzb (217 + 16 * (8 * l + c) + k); omega) (by have := hzb (217 + 16 * (8 * l + c) + k); omega) (fun c1 => ?_) (fun c1 => ?_)
    · refine zn_iload_n (pc := 45) rfl rfl ?_
      obtain rfl : k = z (25 + 8 * l + c) := by omega
      exact zx_z (pc := 46) rfl rfl (zb_and _) rfl rfl
    · refine zn_joinV (v := .int (zb (sBlank (mf z l c) (k + 1)))) (pj := 38) ?_ (fun K2 => ?_)
      · refine zn_istore_n (pc := 38) (L' := [some (.ref 50), some (.int (nI l)), some (.int (nI c)), some (.int (zb (sBlank (mf z l c) (k + 1)))), some (.int (nI k))]) rfl (by decide) rfl ?_
        refine zn_iincN (pc := 39) (L' := [some (.ref 50), some (.int (nI l)), some (.int (nI c)), some (.int (zb (sBlank (mf z l c) (k + 1)))), some (.int (nI (k + 1)))]) 1 rfl rfl rfl (by decide) rfl ?_
        refine zn_goto (pc := 42) (tgt := 5) rfl rfl ?_
        exact ih (k + 1) (by omega)
      · refine zn_iload_n (pc := 16) rfl rfl ?_
        refine zn_if_eqB (pc := 17) (tgt := 37) rfl rfl (fun c3 => ?_) (fun c3 => ?_)
        · refine zn_iconstN (pc := 37) 0 rfl rfl ?_
          exact zn_top (v' := .int (zb (sBlank (mf z l c) (k + 1)))) (by rw [zb_f (by rw [sBlank_s]; intro q; first | exact absurd q.1 (by assumption) | exact absurd q.2 (by assumption))]; rfl) K2
        · refine zn_aload_n (pc := 20) rfl rfl ?_
          refine zn_iload_n (pc := 21) rfl rfl ?_
          refine zn_iload_n (pc := 22) rfl rfl ?_
          refine zn_iload (pc := 23) rfl rfl ?_
          refine zn_callVx (pc := 25) (J := zX10_signOf) (o := 50) (as := [.int (nI l), .int (nI c), .int (nI k)]) (rest := []) rfl rfl rfl rfl rfl rfl rfl rfl (Nat.le_of_ble_eq_true rfl) (Nat.le_of_ble_eq_true rfl) (Nat.le_of_ble_eq_true rfl) (Nat.le_of_ble_eq_true rfl) (m_signOf (l := l) (c := c) (k := k) (by omega) (by omega) (by omega)) ?_
          refine zn_bipushN (pc := 28) 32 rfl rfl ?_
          refine zn_icmp_neN (pc := 30) (tgt := 37) (x := (z (217 + 16 * (8 * l + c) + k))) (y := 32) rfl rfl (by have := hzb (217 + 16 * (8 * l + c) + k); omega) (by have := hzb (217 + 16 * (8 * l + c) + k); omega) (fun c4 => ?_) (fun c4 => ?_)
          · refine zn_iconstN (pc := 37) 0 rfl rfl ?_
            exact zn_top (v' := .int (zb (sBlank (mf z l c) (k + 1)))) (by rw [zb_f (by rw [sBlank_s]; intro q; first | exact absurd q.1 (by assumption) | exact absurd q.2 (by assumption))]; rfl) K2
          · refine zn_iconstN (pc := 33) 1 rfl rfl ?_
            refine zn_goto (pc := 34) (tgt := 38) rfl rfl ?_
            exact zn_top (v' := .int (zb (sBlank (mf z l c) (k + 1)))) (by rw [zb_t (by rw [sBlank_s]; exact ⟨by assumption, by assumption⟩)]; rfl) K2
theorem m_isBlank  {l c : Nat} (hl : l < 24) (hc : c < 8) (h16 : z (25 + 8 * l + c) ≤ 16) (hzb : ∀ j, z j < 1000) : Zx g zX10_isBlank [.ref 50, .int (nI l), .int (nI c)] (mhp h F S z A X) (some (.int (zb (sBlank (mf z l c) (z (25 + 8 * l + c)))))) (mhp h F S z A X) := by
  show Zn g zX10_isBlank 0 [some (.ref 50), some (.int (nI l)), some (.int (nI c)), none, none] [] (mhp h F S z A X) 0 0 _
  refine zn_iconstN (pc := 0) 1 rfl rfl ?_
  refine zn_istore_n (pc := 1) (L' := [some (.ref 50), some (.int (nI l)), some (.int (nI c)), some (.int (nI 1)), none]) rfl (by decide) rfl ?_
  refine zn_iconstN (pc := 2) 0 rfl rfl ?_
  refine zn_istore (pc := 3) (L' := [some (.ref 50), some (.int (nI l)), some (.int (nI c)), some (.int (nI 1)), some (.int (nI 0))]) rfl (by decide) rfl ?_
  refine zn_sub (L' := [some (.ref 50), some (.int (nI l)), some (.int (nI c)), some (.int (zb (sBlank (mf z l c) 0))), some (.int (nI 0))]) ⟨rfl, rfl, rfl, by rw [zb_t (fun k hk => absurd hk (by omega))]; rfl, rfl, trivial⟩ (m_isBlank_l hl hc h16 hzb (z (25 + 8 * l + c)) 0 (by omega))
theorem m_figuresFrom_l {l c : Nat} (hl : l < 24) (hc : c < 8) (h16 : z (25 + 8 * l + c) ≤ 16) (hzb : ∀ j, z j < 1000) {f : Nat} : ∀ (n : Nat) (k R : Nat), k + n = z (25 + 8 * l + c) → f ≤ k → R = k - f + sfg (mf z l c) n k → Zn g zX10_figuresFrom 3 [some (.ref 50), some (.int (nI l)), some (.int (nI c)), some (.int (nI f)), some (.int (nI k))] [] (mhp h F S z A X) 0 0 (fun r' h' => r' = .inl (some (.int (nI R))) ∧ h' = (mhp h F S z A X)) := by
  intro n
  induction n with
  | zero =>
    intro k R hn0 hn1 hn2
    refine zn_iload (pc := 3) rfl rfl ?_
    refine zn_aload_n (pc := 5) rfl rfl ?_
    refine zn_iload_n (pc := 6) rfl rfl ?_
    refine zn_iload_n (pc := 7) rfl rfl ?_
    refine zn_callVx (pc := 8) (J := zX10_lengthOf) (o := 50) (as := [.int (nI l), .int (nI c)]) (rest := [.int (nI k)]) rfl rfl rfl rfl rfl rfl rfl rfl (Nat.le_of_ble_eq_true rfl) (Nat.le_of_ble_eq_true rfl) (Nat.le_of_ble_eq_true rfl) (Nat.le_of_ble_eq_true rfl) (m_lengthOf (l := l) (c := c) (by omega) (by omega)) ?_
    refine zn_icmp_geN (pc := 11) (tgt := 34) (x := k) (y := (z (25 + 8 * l + c))) rfl rfl (by have := hzb (217 + 16 * (8 * l + c) + k); omega) (by have := hzb (217 + 16 * (8 * l + c) + k); omega) (fun c1 => ?_) (fun c1 => ?_)
    · refine zn_iload (pc := 34) rfl rfl ?_
      refine zn_iload_n (pc := 36) rfl rfl ?_
      refine zn_isubN (pc := 37) (x := k) (y := f) rfl (by omega) ?_
      exact zx_i (pc := 38) rfl rfl (by rw [hn2]; simp only [sfg, Nat.add_zero]) rfl
    · exfalso; omega
  | succ n ih =>
    intro k R hn0 hn1 hn2
    refine zn_iload (pc := 3) rfl rfl ?_
    refine zn_aload_n (pc := 5) rfl rfl ?_
    refine zn_iload_n (pc := 6) rfl rfl ?_
    refine zn_iload_n (pc := 7) rfl rfl ?_
    refine zn_callVx (pc := 8) (J := zX10_lengthOf) (o := 50) (as := [.int (nI l), .int (nI c)]) (rest := [.int (nI k)]) rfl rfl rfl rfl rfl rfl rfl rfl (Nat.le_of_ble_eq_true rfl) (Nat.le_of_ble_eq_true rfl) (Nat.le_of_ble_eq_true rfl) (Nat.le_of_ble_eq_true rfl) (m_lengthOf (l := l) (c := c) (by omega) (by omega)) ?_
    refine zn_icmp_geN (pc := 11) (tgt := 34) (x := k) (y := (z (25 + 8 * l + c))) rfl rfl (by have := hzb (217 + 16 * (8 * l + c) + k); omega) (by have := hzb (217 + 16 * (8 * l + c) + k); omega) (fun c1 => ?_) (fun c1 => ?_)
    · refine zn_iload (pc := 34) rfl rfl ?_
      refine zn_iload_n (pc := 36) rfl rfl ?_
      refine zn_isubN (pc := 37) (x := k) (y := f) rfl (by omega) ?_
      exfalso; omega
    · refine zn_aload_n (pc := 14) rfl rfl ?_
      refine zn_iload_n (pc := 15) rfl rfl ?_
      refine zn_iload_n (pc := 16) rfl rfl ?_
      refine zn_iload (pc := 17) rfl rfl ?_
      refine zn_callVx (pc := 19) (J := zX10_signOf) (o := 50) (as := [.int (nI l), .int (nI c), .int (nI k)]) (rest := []) rfl rfl rfl rfl rfl rfl rfl rfl (Nat.le_of_ble_eq_true rfl) (Nat.le_of_ble_eq_true rfl) (Nat.le_of_ble_eq_true rfl) (Nat.le_of_ble_eq_true rfl) (m_signOf (l := l) (c := c) (k := k) (by omega) (by omega) (by omega)) ?_
      refine zn_callSx (pc := 22) (J := zX10_isFigure) (as := [.int (nI (z (217 + 16 * (8 * l + c) + k)))]) (rest := []) rfl (by decide) rfl rfl rfl rfl (Nat.le_of_ble_eq_true rfl) (Nat.le_of_ble_eq_true rfl) (Nat.le_of_ble_eq_true rfl) (Nat.le_of_ble_eq_true rfl) (m_isFigureN (c := (z (217 + 16 * (8 * l + c) + k))) (by have := hzb (217 + 16 * (8 * l + c) + k); omega)) ?_
      refine zn_if_eqB (pc := 25) (tgt := 34) rfl rfl (fun c2 => ?_) (fun c2 => ?_)
      · refine zn_iload (pc := 34) rfl rfl ?_
        refine zn_iload_n (pc := 36) rfl rfl ?_
        refine zn_isubN (pc := 37) (x := k) (y := f) rfl (by omega) ?_
        exact zx_i (pc := 38) rfl rfl (by rw [hn2]; simp only [sfg]; rw [if_neg (by assumption), Nat.add_zero]) rfl
      · refine zn_iincN (pc := 28) (L' := [some (.ref 50), some (.int (nI l)), some (.int (nI c)), some (.int (nI f)), some (.int (nI (k + 1)))]) 1 rfl rfl rfl (by decide) rfl ?_
        refine zn_goto (pc := 31) (tgt := 3) rfl rfl ?_
        exact ih (k + 1) R (by omega) (by omega) (by rw [hn2]; simp only [sfg]; rw [if_pos (by assumption)]; omega)
theorem m_figuresFrom  {l c : Nat} (hl : l < 24) (hc : c < 8) (h16 : z (25 + 8 * l + c) ≤ 16) (hzb : ∀ j, z j < 1000) {f : Nat} (hf : f ≤ z (25 + 8 * l + c)) : Zx g zX10_figuresFrom [.ref 50, .int (nI l), .int (nI c), .int (nI f)] (mhp h F S z A X) (some (.int (nI (sfg (mf z l c) (z (25 + 8 * l + c) - f) f)))) (mhp h F S z A X) := by
  show Zn g zX10_figuresFrom 0 [some (.ref 50), some (.int (nI l)), some (.int (nI c)), some (.int (nI f)), none] [] (mhp h F S z A X) 0 0 _
  refine zn_iload_n (pc := 0) rfl rfl ?_
  refine zn_istore (pc := 1) (L' := [some (.ref 50), some (.int (nI l)), some (.int (nI c)), some (.int (nI f)), some (.int (nI f))]) rfl (by decide) rfl ?_
  exact m_figuresFrom_l hl hc h16 hzb (z (25 + 8 * l + c) - f) f _ (by omega) (by omega) (by omega)
theorem m_wholeLength_l {l c : Nat} (hl : l < 24) (hc : c < 8) (h16 : z (25 + 8 * l + c) ≤ 16) (hzb : ∀ j, z j < 1000) : ∀ (n : Nat) (k R : Nat), k + n = z (25 + 8 * l + c) → R = swh (mf z l c) n k → Zn g zX10_wholeLength 2 [some (.ref 50), some (.int (nI l)), some (.int (nI c)), some (.int (nI k))] [] (mhp h F S z A X) 0 0 (fun r' h' => r' = .inl (some (.int (nI R))) ∧ h' = (mhp h F S z A X)) := by
  intro n
  induction n with
  | zero =>
    intro k R hn0 hn1
    refine zn_iload_n (pc := 2) rfl rfl ?_
    refine zn_aload_n (pc := 3) rfl rfl ?_
    refine zn_iload_n (pc := 4) rfl rfl ?_
    refine zn_iload_n (pc := 5) rfl rfl ?_
    refine zn_callVx (pc := 6) (J := zX10_lengthOf) (o := 50) (as := [.int (nI l), .int (nI c)]) (rest := [.int (nI k)]) rfl rfl rfl rfl rfl rfl rfl rfl (Nat.le_of_ble_eq_true rfl) (Nat.le_of_ble_eq_true rfl) (Nat.le_of_ble_eq_true rfl) (Nat.le_of_ble_eq_true rfl) (m_lengthOf (l := l) (c := c) (by omega) (by omega)) ?_
    refine zn_icmp_geN (pc := 9) (tgt := 30) (x := k) (y := (z (25 + 8 * l + c))) rfl rfl (by have := hzb (217 + 16 * (8 * l + c) + k); omega) (by have := hzb (217 + 16 * (8 * l + c) + k); omega) (fun c1 => ?_) (fun c1 => ?_)
    · refine zn_iload_n (pc := 30) rfl rfl ?_
      exact zx_i (pc := 31) rfl rfl (by rw [hn1]; simp only [swh]) rfl
    · exfalso; omega
  | succ n ih =>
    intro k R hn0 hn1
    refine zn_iload_n (pc := 2) rfl rfl ?_
    refine zn_aload_n (pc := 3) rfl rfl ?_
    refine zn_iload_n (pc := 4) rfl rfl ?_
    refine zn_iload_n (pc := 5) rfl rfl ?_
    refine zn_callVx (pc := 6) (J := zX10_lengthOf) (o := 50) (as := [.int (nI l), .int (nI c)]) (rest := [.int (nI k)]) rfl rfl rfl rfl rfl rfl rfl rfl (Nat.le_of_ble_eq_true rfl) (Nat.le_of_ble_eq_true rfl) (Nat.le_of_ble_eq_true rfl) (Nat.le_of_ble_eq_true rfl) (m_lengthOf (l := l) (c := c) (by omega) (by omega)) ?_
    refine zn_icmp_geN (pc := 9) (tgt := 30) (x := k) (y := (z (25 + 8 * l + c))) rfl rfl (by have := hzb (217 + 16 * (8 * l + c) + k); omega) (by have := hzb (217 + 16 * (8 * l + c) + k); omega) (fun c1 => ?_) (fun c1 => ?_)
    · refine zn_iload_n (pc := 30) rfl rfl ?_
      exfalso; omega
    · refine zn_aload_n (pc := 12) rfl rfl ?_
      refine zn_iload_n (pc := 13) rfl rfl ?_
      refine zn_iload_n (pc := 14) rfl rfl ?_
      refine zn_iload_n (pc := 15) rfl rfl ?_
      refine zn_callVx (pc := 16) (J := zX10_signOf) (o := 50) (as := [.int (nI l), .int (nI c), .int (nI k)]) (rest := []) rfl rfl rfl rfl rfl rfl rfl rfl (Nat.le_of_ble_eq_true rfl) (Nat.le_of_ble_eq_true rfl) (Nat.le_of_ble_eq_true rfl) (Nat.le_of_ble_eq_true rfl) (m_signOf (l := l) (c := c) (k := k) (by omega) (by omega) (by omega)) ?_
      refine zn_bipushN (pc := 19) 46 rfl rfl ?_
      refine zn_icmp_eqN (pc := 21) (tgt := 30) (x := (z (217 + 16 * (8 * l + c) + k))) (y := 46) rfl rfl (by have := hzb (217 + 16 * (8 * l + c) + k); omega) (by have := hzb (217 + 16 * (8 * l + c) + k); omega) (fun c2 => ?_) (fun c2 => ?_)
      · refine zn_iload_n (pc := 30) rfl rfl ?_
        exact zx_i (pc := 31) rfl rfl (by rw [hn1]; simp only [swh]; rw [if_pos (by assumption)]) rfl
      · refine zn_iincN (pc := 24) (L' := [some (.ref 50), some (.int (nI l)), some (.int (nI c)), some (.int (nI (k + 1)))]) 1 rfl rfl rfl (by decide) rfl ?_
        refine zn_goto (pc := 27) (tgt := 2) rfl rfl ?_
        exact ih (k + 1) R (by omega) (by rw [hn1]; simp only [swh]; rw [if_neg (by assumption)])
theorem m_wholeLength  {l c : Nat} (hl : l < 24) (hc : c < 8) (h16 : z (25 + 8 * l + c) ≤ 16) (hzb : ∀ j, z j < 1000) : Zx g zX10_wholeLength [.ref 50, .int (nI l), .int (nI c)] (mhp h F S z A X) (some (.int (nI (swh (mf z l c) (z (25 + 8 * l + c)) 0)))) (mhp h F S z A X) := by
  show Zn g zX10_wholeLength 0 [some (.ref 50), some (.int (nI l)), some (.int (nI c)), none] [] (mhp h F S z A X) 0 0 _
  refine zn_iconstN (pc := 0) 0 rfl rfl ?_
  refine zn_istore_n (pc := 1) (L' := [some (.ref 50), some (.int (nI l)), some (.int (nI c)), some (.int (nI 0))]) rfl (by decide) rfl ?_
  exact m_wholeLength_l hl hc h16 hzb (z (25 + 8 * l + c)) 0 _ (by omega) rfl
theorem m_partLength  {l c : Nat} (hl : l < 24) (hc : c < 8) (h16 : z (25 + 8 * l + c) ≤ 16) (hzb : ∀ j, z j < 1000) : Zx g zX10_partLength [.ref 50, .int (nI l), .int (nI c)] (mhp h F S z A X) (some (.int (nI (z (25 + 8 * l + c) - swh (mf z l c) (z (25 + 8 * l + c)) 0)))) (mhp h F S z A X) := by
  have hw := swh_le (mf z l c) (z (25 + 8 * l + c)) 0
  show Zn g zX10_partLength 0 [some (.ref 50), some (.int (nI l)), some (.int (nI c))] [] (mhp h F S z A X) 0 0 _
  refine zn_aload_n (pc := 0) rfl rfl ?_
  refine zn_iload_n (pc := 1) rfl rfl ?_
  refine zn_iload_n (pc := 2) rfl rfl ?_
  refine zn_callVx (pc := 3) (J := zX10_lengthOf) (o := 50) (as := [.int (nI l), .int (nI c)]) (rest := []) rfl rfl rfl rfl rfl rfl rfl rfl (Nat.le_of_ble_eq_true rfl) (Nat.le_of_ble_eq_true rfl) (Nat.le_of_ble_eq_true rfl) (Nat.le_of_ble_eq_true rfl) (m_lengthOf (l := l) (c := c) (by omega) (by omega)) ?_
  refine zn_aload_n (pc := 6) rfl rfl ?_
  refine zn_iload_n (pc := 7) rfl rfl ?_
  refine zn_iload_n (pc := 8) rfl rfl ?_
  refine zn_callVx (pc := 9) (J := zX10_wholeLength) (o := 50) (as := [.int (nI l), .int (nI c)]) (rest := [.int (nI (z (25 + 8 * l + c)))]) rfl rfl rfl rfl rfl rfl rfl rfl (Nat.le_of_ble_eq_true rfl) (Nat.le_of_ble_eq_true rfl) (Nat.le_of_ble_eq_true rfl) (Nat.le_of_ble_eq_true rfl) (m_wholeLength (l := l) (c := c) (by omega) (by omega) (by omega) hzb) ?_
  refine zn_isubN (pc := 12) (x := (z (25 + 8 * l + c))) (y := (swh (mf z l c) (z (25 + 8 * l + c)) 0)) rfl (by omega) ?_
  exact zx_i (pc := 13) rfl rfl rfl rfl
theorem m_isNumber  {l c : Nat} (hl : l < 24) (hc : c < 8) (h16 : z (25 + 8 * l + c) ≤ 16) (hzb : ∀ j, z j < 1000) : Zx g zX10_isNumber [.ref 50, .int (nI l), .int (nI c)] (mhp h F S z A X) (some (.int (zb (sNum (mf z l c) (z (25 + 8 * l + c)))))) (mhp h F S z A X) := by
  have hb0 := hzb (217 + 16 * (8 * l + c) + 0)
  have hb1 := hzb (217 + 16 * (8 * l + c) + sA (mf z l c) (z (25 + 8 * l + c)))
  have hP : sP (mf z l c) (z (25 + 8 * l + c)) ≤ 16 := by have := sfg_le (mf z l c) (z (25 + 8 * l + c) - (sA (mf z l c) (z (25 + 8 * l + c)) + 1)) (sA (mf z l c) (z (25 + 8 * l + c)) + 1); unfold sP; omega
  have hA := sA_le (mf z l c) (z (25 + 8 * l + c))
  have hS := sSg_le (mf z l c) (z (25 + 8 * l + c))
  have hW : sW (mf z l c) (z (25 + 8 * l + c)) ≤ 16 := by have := sfg_le (mf z l c) (z (25 + 8 * l + c) - sSg (mf z l c) (z (25 + 8 * l + c))) (sSg (mf z l c) (z (25 + 8 * l + c))); unfold sW; omega
  have num1 : (¬ (1 ≤ sW (mf z l c) (z (25 + 8 * l + c)) ∧ sW (mf z l c) (z (25 + 8 * l + c)) ≤ 9) ∨ sA (mf z l c) (z (25 + 8 * l + c)) = z (25 + 8 * l + c)) → ((1 ≤ sW (mf z l c) (z (25 + 8 * l + c)) ∧ sW (mf z l c) (z (25 + 8 * l + c)) ≤ 9) ↔ sNum (mf z l c) (z (25 + 8 * l + c))) := fun h9 => ⟨fun q => ⟨q, Or.inl (h9.elim (fun r => absurd q r) id)⟩, fun q => q.1⟩
  show Zn g zX10_isNumber 0 [some (.ref 50), some (.int (nI l)), some (.int (nI c)), none, none, none, none] [] (mhp h F S z A X) 0 0 _
  refine zn_joinV (v := .int (nI (sSg (mf z l c) (z (25 + 8 * l + c))))) (pj := 26) ?_ (fun K1 => ?_)
  · refine zn_istore_n (pc := 26) (L' := [some (.ref 50), some (.int (nI l)), some (.int (nI c)), some (.int (nI (sSg (mf z l c) (z (25 + 8 * l + c))))), none, none, none]) rfl (by decide) rfl ?_
    refine zn_aload_n (pc := 27) rfl rfl ?_
    refine zn_iload_n (pc := 28) rfl rfl ?_
    refine zn_iload_n (pc := 29) rfl rfl ?_
    refine zn_iload_n (pc := 30) rfl rfl ?_
    refine zn_callVx (pc := 31) (J := zX10_figuresFrom) (o := 50) (as := [.int (nI l), .int (nI c), .int (nI (sSg (mf z l c) (z (25 + 8 * l + c))))]) (rest := []) rfl rfl rfl rfl rfl rfl rfl rfl (Nat.le_of_ble_eq_true rfl) (Nat.le_of_ble_eq_true rfl) (Nat.le_of_ble_eq_true rfl) (Nat.le_of_ble_eq_true rfl) (m_figuresFrom (l := l) (c := c) (by omega) (by omega) (by omega) hzb (f := (sSg (mf z l c) (z (25 + 8 * l + c)))) (by omega)) ?_
    refine zn_top (v' := .int (nI (sW (mf z l c) (z (25 + 8 * l + c))))) rfl ?_
    refine zn_istore (pc := 34) (L' := [some (.ref 50), some (.int (nI l)), some (.int (nI c)), some (.int (nI (sSg (mf z l c) (z (25 + 8 * l + c))))), some (.int (nI (sW (mf z l c) (z (25 + 8 * l + c))))), none, none]) rfl (by decide) rfl ?_
    refine zn_iload_n (pc := 36) rfl rfl ?_
    refine zn_iload (pc := 37) rfl rfl ?_
    refine zn_iaddN (pc := 39) (x := (sSg (mf z l c) (z (25 + 8 * l + c)))) (y := (sW (mf z l c) (z (25 + 8 * l + c)))) rfl ?_
    refine zn_top (v' := .int (nI (sA (mf z l c) (z (25 + 8 * l + c))))) rfl ?_
    refine zn_istore (pc := 40) (L' := [some (.ref 50), some (.int (nI l)), some (.int (nI c)), some (.int (nI (sSg (mf z l c) (z (25 + 8 * l + c))))), some (.int (nI (sW (mf z l c) (z (25 + 8 * l + c))))), some (.int (nI (sA (mf z l c) (z (25 + 8 * l + c))))), none]) rfl (by decide) rfl ?_
    refine zn_iload (pc := 42) rfl rfl ?_
    refine zn_iconstN (pc := 44) 1 rfl rfl ?_
    refine zn_bipushN (pc := 45) 9 rfl rfl ?_
    refine zn_callSx (pc := 47) (J := zX10_within) (as := [.int (nI (sW (mf z l c) (z (25 + 8 * l + c)))), .int (nI 1), .int (nI 9)]) (rest := []) rfl (by decide) rfl rfl rfl rfl (Nat.le_of_ble_eq_true rfl) (Nat.le_of_ble_eq_true rfl) (Nat.le_of_ble_eq_true rfl) (Nat.le_of_ble_eq_true rfl) (m_withinN (v := (sW (mf z l c) (z (25 + 8 * l + c)))) (a := 1) (b := 9) (by omega) (by omega) (by omega)) ?_
    refine zn_if_eqB (pc := 50) (tgt := 64) rfl rfl (fun c2 => ?_) (fun c2 => ?_)
    · refine zn_iload (pc := 64) rfl rfl ?_
      refine zn_iconstN (pc := 66) 1 rfl rfl ?_
      refine zn_bipushN (pc := 67) 9 rfl rfl ?_
      refine zn_callSx (pc := 69) (J := zX10_within) (as := [.int (nI (sW (mf z l c) (z (25 + 8 * l + c)))), .int (nI 1), .int (nI 9)]) (rest := []) rfl (by decide) rfl rfl rfl rfl (Nat.le_of_ble_eq_true rfl) (Nat.le_of_ble_eq_true rfl) (Nat.le_of_ble_eq_true rfl) (Nat.le_of_ble_eq_true rfl) (m_withinN (v := (sW (mf z l c) (z (25 + 8 * l + c)))) (a := 1) (b := 9) (by omega) (by omega) (by omega)) ?_
      exact zx_z (pc := 72) rfl rfl (zb_and _) (by rw [zb_iff (show (1 ≤ (sW (mf z l c) (z (25 + 8 * l + c))) ∧ (sW (mf z l c) (z (25 + 8 * l + c))) ≤ 9) ↔ sNum (mf z l c) (z (25 + 8 * l + c)) from num1 (by first | exact Or.inl (by assumption) | exact Or.inr (by assumption)))]) rfl
    · refine zn_iload (pc := 53) rfl rfl ?_
      refine zn_aload_n (pc := 55) rfl rfl ?_
      refine zn_iload_n (pc := 56) rfl rfl ?_
      refine zn_iload_n (pc := 57) rfl rfl ?_
      refine zn_callVx (pc := 58) (J := zX10_lengthOf) (o := 50) (as := [.int (nI l), .int (nI c)]) (rest := [.int (nI (sA (mf z l c) (z (25 + 8 * l + c))))]) rfl rfl rfl rfl rfl rfl rfl rfl (Nat.le_of_ble_eq_true rfl) (Nat.le_of_ble_eq_true rfl) (Nat.le_of_ble_eq_true rfl) (Nat.le_of_ble_eq_true rfl) (m_lengthOf (l := l) (c := c) (by omega) (by omega)) ?_
      refine zn_icmp_neN (pc := 61) (tgt := 73) (x := (sA (mf z l c) (z (25 + 8 * l + c)))) (y := (z (25 + 8 * l + c))) rfl rfl (by omega) (by omega) (fun c3 => ?_) (fun c3 => ?_)
      · refine zn_aload_n (pc := 73) rfl rfl ?_
        refine zn_iload_n (pc := 74) rfl rfl ?_
        refine zn_iload_n (pc := 75) rfl rfl ?_
        refine zn_iload (pc := 76) rfl rfl ?_
        refine zn_iconstN (pc := 78) 1 rfl rfl ?_
        refine zn_iaddN (pc := 79) (x := (sA (mf z l c) (z (25 + 8 * l + c)))) (y := 1) rfl ?_
        refine zn_callVx (pc := 80) (J := zX10_figuresFrom) (o := 50) (as := [.int (nI l), .int (nI c), .int (nI ((sA (mf z l c) (z (25 + 8 * l + c))) + 1))]) (rest := []) rfl rfl rfl rfl rfl rfl rfl rfl (Nat.le_of_ble_eq_true rfl) (Nat.le_of_ble_eq_true rfl) (Nat.le_of_ble_eq_true rfl) (Nat.le_of_ble_eq_true rfl) (m_figuresFrom (l := l) (c := c) (by omega) (by omega) (by omega) hzb (f := ((sA (mf z l c) (z (25 + 8 * l + c))) + 1)) (by omega)) ?_
        refine zn_top (v' := .int (nI (sP (mf z l c) (z (25 + 8 * l + c))))) rfl ?_
        refine zn_istore (pc := 83) (L' := [some (.ref 50), some (.int (nI l)), some (.int (nI c)), some (.int (nI (sSg (mf z l c) (z (25 + 8 * l + c))))), some (.int (nI (sW (mf z l c) (z (25 + 8 * l + c))))), some (.int (nI (sA (mf z l c) (z (25 + 8 * l + c))))), some (.int (nI (sP (mf z l c) (z (25 + 8 * l + c)))))]) rfl (by decide) rfl ?_
        refine zn_aload_n (pc := 85) rfl rfl ?_
        refine zn_iload_n (pc := 86) rfl rfl ?_
        refine zn_iload_n (pc := 87) rfl rfl ?_
        refine zn_iload (pc := 88) rfl rfl ?_
        refine zn_callVx (pc := 90) (J := zX10_signOf) (o := 50) (as := [.int (nI l), .int (nI c), .int (nI (sA (mf z l c) (z (25 + 8 * l + c))))]) (rest := []) rfl rfl rfl rfl rfl rfl rfl rfl (Nat.le_of_ble_eq_true rfl) (Nat.le_of_ble_eq_true rfl) (Nat.le_of_ble_eq_true rfl) (Nat.le_of_ble_eq_true rfl) (m_signOf (l := l) (c := c) (k := (sA (mf z l c) (z (25 + 8 * l + c)))) (by omega) (by omega) (by omega)) ?_
        refine zn_bipushN (pc := 93) 46 rfl rfl ?_
        refine zn_icmp_neN (pc := 95) (tgt := 128) (x := (z (217 + 16 * (8 * l + c) + (sA (mf z l c) (z (25 + 8 * l + c)))))) (y := 46) rfl rfl (by omega) (by omega) (fun c4 => ?_) (fun c4 => ?_)
        · refine zn_iconstN (pc := 128) 0 rfl rfl ?_
          exact zx_z (pc := 129) rfl rfl (by decide) (by rw [zb_f (fun q9 => by rcases q9.2 with q9 | q9; exact absurd q9 (by assumption); first | exact absurd q9.1 (by assumption) | exact absurd q9.2.1 (by assumption) | exact absurd q9.2.2 (by assumption))]; rfl) rfl
        · refine zn_iload (pc := 98) rfl rfl ?_
          refine zn_iconstN (pc := 100) 1 rfl rfl ?_
          refine zn_iconstN (pc := 101) 4 rfl rfl ?_
          refine zn_callSx (pc := 102) (J := zX10_within) (as := [.int (nI (sP (mf z l c) (z (25 + 8 * l + c)))), .int (nI 1), .int (nI 4)]) (rest := []) rfl (by decide) rfl rfl rfl rfl (Nat.le_of_ble_eq_true rfl) (Nat.le_of_ble_eq_true rfl) (Nat.le_of_ble_eq_true rfl) (Nat.le_of_ble_eq_true rfl) (m_withinN (v := (sP (mf z l c) (z (25 + 8 * l + c)))) (a := 1) (b := 4) (by omega) (by omega) (by omega)) ?_
          refine zn_if_eqB (pc := 105) (tgt := 128) rfl rfl (fun c5 => ?_) (fun c5 => ?_)
          · refine zn_iconstN (pc := 128) 0 rfl rfl ?_
            exact zx_z (pc := 129) rfl rfl (by decide) (by rw [zb_f (fun q9 => by rcases q9.2 with q9 | q9; exact absurd q9 (by assumption); first | exact absurd q9.1 (by assumption) | exact absurd q9.2.1 (by assumption) | exact absurd q9.2.2 (by assumption))]; rfl) rfl
          · refine zn_iload (pc := 108) rfl rfl ?_
            refine zn_iconstN (pc := 110) 1 rfl rfl ?_
            refine zn_iaddN (pc := 111) (x := (sA (mf z l c) (z (25 + 8 * l + c)))) (y := 1) rfl ?_
            refine zn_iload (pc := 112) rfl rfl ?_
            refine zn_iaddN (pc := 114) (x := ((sA (mf z l c) (z (25 + 8 * l + c))) + 1)) (y := (sP (mf z l c) (z (25 + 8 * l + c)))) rfl ?_
            refine zn_aload_n (pc := 115) rfl rfl ?_
            refine zn_iload_n (pc := 116) rfl rfl ?_
            refine zn_iload_n (pc := 117) rfl rfl ?_
            refine zn_callVx (pc := 118) (J := zX10_lengthOf) (o := 50) (as := [.int (nI l), .int (nI c)]) (rest := [.int (nI (((sA (mf z l c) (z (25 + 8 * l + c))) + 1) + (sP (mf z l c) (z (25 + 8 * l + c)))))]) rfl rfl rfl rfl rfl rfl rfl rfl (Nat.le_of_ble_eq_true rfl) (Nat.le_of_ble_eq_true rfl) (Nat.le_of_ble_eq_true rfl) (Nat.le_of_ble_eq_true rfl) (m_lengthOf (l := l) (c := c) (by omega) (by omega)) ?_
            refine zn_icmp_neN (pc := 121) (tgt := 128) (x := (((sA (mf z l c) (z (25 + 8 * l + c))) + 1) + (sP (mf z l c) (z (25 + 8 * l + c))))) (y := (z (25 + 8 * l + c))) rfl rfl (by omega) (by omega) (fun c6 => ?_) (fun c6 => ?_)
            · refine zn_iconstN (pc := 128) 0 rfl rfl ?_
              exact zx_z (pc := 129) rfl rfl (by decide) (by rw [zb_f (fun q9 => by rcases q9.2 with q9 | q9; exact absurd q9 (by assumption); first | exact absurd q9.1 (by assumption) | exact absurd q9.2.1 (by assumption) | exact absurd q9.2.2 (by assumption))]; rfl) rfl
            · refine zn_iconstN (pc := 124) 1 rfl rfl ?_
              refine zn_goto (pc := 125) (tgt := 129) rfl rfl ?_
              exact zx_z (pc := 129) rfl rfl (by decide) (by rw [zb_t (⟨by assumption, Or.inr ⟨by assumption, by assumption, by assumption⟩⟩)]; rfl) rfl
      · refine zn_iload (pc := 64) rfl rfl ?_
        refine zn_iconstN (pc := 66) 1 rfl rfl ?_
        refine zn_bipushN (pc := 67) 9 rfl rfl ?_
        refine zn_callSx (pc := 69) (J := zX10_within) (as := [.int (nI (sW (mf z l c) (z (25 + 8 * l + c)))), .int (nI 1), .int (nI 9)]) (rest := []) rfl (by decide) rfl rfl rfl rfl (Nat.le_of_ble_eq_true rfl) (Nat.le_of_ble_eq_true rfl) (Nat.le_of_ble_eq_true rfl) (Nat.le_of_ble_eq_true rfl) (m_withinN (v := (sW (mf z l c) (z (25 + 8 * l + c)))) (a := 1) (b := 9) (by omega) (by omega) (by omega)) ?_
        exact zx_z (pc := 72) rfl rfl (zb_and _) (by rw [zb_iff (show (1 ≤ (sW (mf z l c) (z (25 + 8 * l + c))) ∧ (sW (mf z l c) (z (25 + 8 * l + c))) ≤ 9) ↔ sNum (mf z l c) (z (25 + 8 * l + c)) from num1 (by first | exact Or.inl (by assumption) | exact Or.inr (by assumption)))]) rfl
  · refine zn_aload_n (pc := 0) rfl rfl ?_
    refine zn_iload_n (pc := 1) rfl rfl ?_
    refine zn_iload_n (pc := 2) rfl rfl ?_
    refine zn_callVx (pc := 3) (J := zX10_lengthOf) (o := 50) (as := [.int (nI l), .int (nI c)]) (rest := []) rfl rfl rfl rfl rfl rfl rfl rfl (Nat.le_of_ble_eq_true rfl) (Nat.le_of_ble_eq_true rfl) (Nat.le_of_ble_eq_true rfl) (Nat.le_of_ble_eq_true rfl) (m_lengthOf (l := l) (c := c) (by omega) (by omega)) ?_
    refine zn_if_leN (pc := 6) (tgt := 25) (x := (z (25 + 8 * l + c))) rfl rfl (by omega) (fun c7 => ?_) (fun c7 => ?_)
    · refine zn_iconstN (pc := 25) 0 rfl rfl ?_
      exact zn_top (v' := .int (nI (sSg (mf z l c) (z (25 + 8 * l + c))))) (by congr 2; simp only [sSg, mf]; rw [if_neg (by omega)]) K1
    · refine zn_aload_n (pc := 9) rfl rfl ?_
      refine zn_iload_n (pc := 10) rfl rfl ?_
      refine zn_iload_n (pc := 11) rfl rfl ?_
      refine zn_iconstN (pc := 12) 0 rfl rfl ?_
      refine zn_callVx (pc := 13) (J := zX10_signOf) (o := 50) (as := [.int (nI l), .int (nI c), .int (nI 0)]) (rest := []) rfl rfl rfl rfl rfl rfl rfl rfl (Nat.le_of_ble_eq_true rfl) (Nat.le_of_ble_eq_true rfl) (Nat.le_of_ble_eq_true rfl) (Nat.le_of_ble_eq_true rfl) (m_signOf (l := l) (c := c) (k := 0) (by omega) (by omega) (by omega)) ?_
      refine zn_bipushN (pc := 16) 45 rfl rfl ?_
      refine zn_icmp_neN (pc := 18) (tgt := 25) (x := (z (217 + 16 * (8 * l + c) + 0))) (y := 45) rfl rfl (by omega) (by omega) (fun c8 => ?_) (fun c8 => ?_)
      · refine zn_iconstN (pc := 25) 0 rfl rfl ?_
        exact zn_top (v' := .int (nI (sSg (mf z l c) (z (25 + 8 * l + c))))) (by congr 2; simp only [sSg, mf]; rw [if_neg (by omega)]) K1
      · refine zn_iconstN (pc := 21) 1 rfl rfl ?_
        refine zn_goto (pc := 22) (tgt := 26) rfl rfl ?_
        exact zn_top (v' := .int (nI (sSg (mf z l c) (z (25 + 8 * l + c))))) (by congr 2; simp only [sSg, mf]; rw [if_pos (by omega)]) K1
theorem m_kindOf  {l c : Nat} (hl : l < 24) (hc : c < 8) (h16 : z (25 + 8 * l + c) ≤ 16) (hzb : ∀ j, z j < 1000) : Zx g zX10_kindOf [.ref 50, .int (nI l), .int (nI c)] (mhp h F S z A X) (some (.int (nI (skind (mf z l c) (z (25 + 8 * l + c)))))) (mhp h F S z A X) := by
  show Zn g zX10_kindOf 0 [some (.ref 50), some (.int (nI l)), some (.int (nI c))] [] (mhp h F S z A X) 0 0 _
  refine zn_aload_n (pc := 0) rfl rfl ?_
  refine zn_iload_n (pc := 1) rfl rfl ?_
  refine zn_iload_n (pc := 2) rfl rfl ?_
  refine zn_callVx (pc := 3) (J := zX10_isBlank) (o := 50) (as := [.int (nI l), .int (nI c)]) (rest := []) rfl rfl rfl rfl rfl rfl rfl rfl (Nat.le_of_ble_eq_true rfl) (Nat.le_of_ble_eq_true rfl) (Nat.le_of_ble_eq_true rfl) (Nat.le_of_ble_eq_true rfl) (m_isBlank (l := l) (c := c) (by omega) (by omega) (by omega) hzb) ?_
  refine zn_if_eqB (pc := 6) (tgt := 13) rfl rfl (fun c1 => ?_) (fun c1 => ?_)
  · refine zn_aload_n (pc := 13) rfl rfl ?_
    refine zn_iload_n (pc := 14) rfl rfl ?_
    refine zn_iload_n (pc := 15) rfl rfl ?_
    refine zn_callVx (pc := 16) (J := zX10_isNumber) (o := 50) (as := [.int (nI l), .int (nI c)]) (rest := []) rfl rfl rfl rfl rfl rfl rfl rfl (Nat.le_of_ble_eq_true rfl) (Nat.le_of_ble_eq_true rfl) (Nat.le_of_ble_eq_true rfl) (Nat.le_of_ble_eq_true rfl) (m_isNumber (l := l) (c := c) (by omega) (by omega) (by omega) hzb) ?_
    refine zn_if_eqB (pc := 19) (tgt := 26) rfl rfl (fun c2 => ?_) (fun c2 => ?_)
    · refine zn_iconstN (pc := 26) 2 rfl rfl ?_
      exact zx_i (pc := 27) rfl rfl (by unfold skind; rw [if_neg (by assumption), if_neg (by assumption)]) rfl
    · refine zn_iconstN (pc := 22) 1 rfl rfl ?_
      refine zn_goto (pc := 23) (tgt := 27) rfl rfl ?_
      exact zx_i (pc := 27) rfl rfl (by unfold skind; rw [if_neg (by assumption), if_pos (by assumption)]) rfl
  · refine zn_iconstN (pc := 9) 0 rfl rfl ?_
    refine zn_goto (pc := 10) (tgt := 27) rfl rfl ?_
    exact zx_i (pc := 27) rfl rfl (by unfold skind; rw [if_pos (by assumption)]) rfl
end m1
