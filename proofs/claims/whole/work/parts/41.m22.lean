section m1
variable {g : zG} {h hh : zH} {F : Nat → Nat} {S : Int64} {z : Nat → Nat} {A : Nat → Nat → Nat} {X : Nat → Int32}
def vS (f : Nat → Nat) : Nat → Nat
  | 0 => 0
  | n + 1 => vS f n + f n
theorem vS_le {f : Nat → Nat} {B : Nat} : ∀ {n : Nat}, (∀ i, i < n → f i ≤ B) → vS f n ≤ B * n
  | 0, _ => by simp [vS]
  | n + 1, h => by
    have h1 := vS_le (fun i hi => h i (by omega) : ∀ i, i < n → f i ≤ B)
    have h2 := h n (by omega)
    simp only [vS]
    rw [Nat.mul_succ]
    omega
theorem mX_le {A : Nat → Nat → Nat} {z : Nat → Nat} {n l : Nat} (ha : ∀ i j, A i j < 2 ^ 20) : ∀ (c : Nat), mX A z n l c ≤ c * 2 ^ 20
  | 0 => by simp [mX]
  | c + 1 => by
    have h1 := mX_le (z := z) (n := n) (l := l) ha c
    have h2 := ha 12 (bG (mOf A z l c n))
    simp only [mX]
    omega
theorem mLg_lt {n l : Nat} (ha : ∀ i j, A i j < 2 ^ 20) (h8 : z (1 + l) ≤ 8) (hzb : ∀ j, z j < 1000) : mLg A z n l < 2 ^ 24 := by
  have h1 := mX_le (z := z) (n := n) (l := l) ha (z (1 + l) - 1)
  have h2 := hzb (25 + 8 * l + (z (1 + l) - 1))
  unfold mLg
  omega
def mSg_ (z : Nat → Nat) (l : Nat) : Nat := vS (fun c => z (25 + 8 * l + c)) (z (1 + l))
def mKn (z : Nat → Nat) (k l c : Nat) : Nat := if mK z c l = k then 1 else 0
def mLo (A : Nat → Nat → Nat) (z : Nat → Nat) (n : Nat) : Nat → Nat
  | 0 => 0
  | l + 1 => max (mLo A z n l) (mLg A z n l)
theorem mLo_lt {n : Nat} (ha : ∀ i j, A i j < 2 ^ 20) (hzb : ∀ j, z j < 1000) : ∀ {l : Nat}, (∀ i, i < l → z (1 + i) ≤ 8) → mLo A z n l < 2 ^ 24
  | 0, _ => by simp [mLo]
  | l + 1, h => by
    have h1 := mLo_lt (n := n) ha hzb (fun i hi => h i (by omega) : ∀ i, i < l → z (1 + i) ≤ 8)
    have h2 := mLg_lt (n := n) (l := l) ha (h l (by omega)) hzb
    simp only [mLo]
    omega
def mFx (z : Nat → Nat) (l : Nat) : Nat → Nat
  | 0 => 0
  | c + 1 => if c + 1 < z (1 + l) then ((mFx z l c + z (25 + 8 * l + c)) / 8 + 1) * 8 else mFx z l c + z (25 + 8 * l + c)
theorem mFx_le {z : Nat → Nat} {l : Nat} (hzb : ∀ j, z j < 1000) : ∀ (c : Nat), mFx z l c ≤ c * 2000
  | 0 => by simp [mFx]
  | c + 1 => by
    have h1 := mFx_le (l := l) hzb c
    have h2 := hzb (25 + 8 * l + c)
    simp only [mFx]
    split <;> omega
def mCn (F : Nat → Nat) (A : Nat → Nat → Nat) (z : Nat → Nat) : Nat → Nat
  | 0 => z 0
  | 1 => vS (fun l => z (1 + l)) (z 0)
  | 2 => vS (mSg_ z) (z 0)
  | 3 => F 13
  | 4 => vS (fun l => vS (mKn z 1 l) (z (1 + l))) (z 0)
  | 5 => vS (fun l => vS (mKn z 0 l) (z (1 + l))) (z 0)
  | 6 => mLo A z (F 13) (z 0)
  | 7 => F 5
  | _ => F 6
def mLn_ (A : Nat → Nat → Nat) (z : Nat → Nat) (n l : Nat) : Nat → Nat
  | 0 => z (1 + l)
  | 1 => mLg A z n l
  | 2 => mSg_ z l
  | _ => mFx z l (z (1 + l))
def mCl (F : Nat → Nat) (A : Nat → Nat → Nat) (z : Nat → Nat) (l c : Nat) : Nat → Int32
  | 0 => nI (z (25 + 8 * l + c))
  | 1 => nI (mK z c l)
  | 2 => nI (mX A z (F 13) l c)
  | 3 => mSh F A z l c (mOf A z l c (F 13))
  | _ => oI (mOf A z l c (F 13))
theorem m_allCells_l (hz : mOK z) : ∀ (n : Nat) (l : Nat), l + n = z 0 → Zn g zX10_allCells 4 [some (.ref 50), some (.int (nI (vS (fun l => z (1 + l)) l))), some (.int (nI l))] [] (mhp h F S z A X) 0 0 (fun r' h' => r' = .inl (some (.int (nI (vS (fun l => z (1 + l)) (z 0))))) ∧ h' = (mhp h F S z A X)) := by
  intro n
  induction n with
  | zero =>
    intro l hn0
    have h0 := hz.1
    have h1 := hz.2.1
    refine zn_iload_n (pc := 4) rfl rfl ?_
    refine zn_aload_n (pc := 5) rfl rfl ?_
    refine zn_get (pc := 6) (v := .ref 51) rfl rfl rfl ?_
    refine zn_iconstN (pc := 9) 0 rfl rfl ?_
    refine zn_naLd (pc := 10) (o := 51) (n := 3289) (Z := z) (j := 0) rfl rfl (by omega) (Nat.le_of_ble_eq_true rfl) ?_
    refine zn_icmp_geN (pc := 11) (tgt := 28) (x := l) (y := (z 0)) rfl rfl (by omega) (by omega) (fun c1 => ?_) (fun c1 => ?_)
    · refine zn_iload_n (pc := 28) rfl rfl ?_
      have e9 : l = z 0 := by omega
      exact zx_i (pc := 29) rfl rfl (by rw [e9]) rfl
    · exfalso; omega
  | succ n ih =>
    intro l hn0
    have h0 := hz.1
    have h1 := hz.2.1
    refine zn_iload_n (pc := 4) rfl rfl ?_
    refine zn_aload_n (pc := 5) rfl rfl ?_
    refine zn_get (pc := 6) (v := .ref 51) rfl rfl rfl ?_
    refine zn_iconstN (pc := 9) 0 rfl rfl ?_
    refine zn_naLd (pc := 10) (o := 51) (n := 3289) (Z := z) (j := 0) rfl rfl (by omega) (Nat.le_of_ble_eq_true rfl) ?_
    refine zn_icmp_geN (pc := 11) (tgt := 28) (x := l) (y := (z 0)) rfl rfl (by omega) (by omega) (fun c1 => ?_) (fun c1 => ?_)
    · refine zn_iload_n (pc := 28) rfl rfl ?_
      have e9 : l = z 0 := by omega
      exact zx_i (pc := 29) rfl rfl (by rw [e9]) rfl
    · refine zn_iload_n (pc := 14) rfl rfl ?_
      refine zn_aload_n (pc := 15) rfl rfl ?_
      refine zn_iload_n (pc := 16) rfl rfl ?_
      refine zn_callVx (pc := 17) (J := zX10_cells) (o := 50) (as := [.int (nI l)]) (rest := [.int (nI (vS (fun l => z (1 + l)) l))]) rfl rfl rfl rfl rfl rfl rfl rfl (Nat.le_of_ble_eq_true rfl) (Nat.le_of_ble_eq_true rfl) (Nat.le_of_ble_eq_true rfl) (Nat.le_of_ble_eq_true rfl) (m_cells (l := l) (by omega)) ?_
      refine zn_iaddN (pc := 20) (x := (vS (fun l => z (1 + l)) l)) (y := (z (1 + l))) rfl ?_
      refine zn_istore_n (pc := 21) (L' := [some (.ref 50), some (.int (nI ((vS (fun l => z (1 + l)) l) + (z (1 + l))))), some (.int (nI l))]) rfl (by decide) rfl ?_
      refine zn_iincN (pc := 22) (L' := [some (.ref 50), some (.int (nI ((vS (fun l => z (1 + l)) l) + (z (1 + l))))), some (.int (nI (l + 1)))]) 1 rfl rfl rfl (by decide) rfl ?_
      refine zn_goto (pc := 25) (tgt := 4) rfl rfl ?_
      exact ih (l + 1) (by omega)
theorem m_allCells  (hz : mOK z) : Zx g zX10_allCells [.ref 50] (mhp h F S z A X) (some (.int (nI (vS (fun l => z (1 + l)) (z 0))))) (mhp h F S z A X) := by
  show Zn g zX10_allCells 0 [some (.ref 50), none, none] [] (mhp h F S z A X) 0 0 _
  refine zn_iconstN (pc := 0) 0 rfl rfl ?_
  refine zn_istore_n (pc := 1) (L' := [some (.ref 50), some (.int (nI 0)), none]) rfl (by decide) rfl ?_
  refine zn_iconstN (pc := 2) 0 rfl rfl ?_
  refine zn_istore_n (pc := 3) (L' := [some (.ref 50), some (.int (nI 0)), some (.int (nI 0))]) rfl (by decide) rfl ?_
  exact m_allCells_l hz (z 0) 0 (by omega)
theorem m_signsIn_l (hz : mOK z) {l : Nat} (hl : l < z 0) : ∀ (n : Nat) (c : Nat), c + n = z (1 + l) → Zn g zX10_signsIn 4 [some (.ref 50), some (.int (nI l)), some (.int (nI (vS (fun c => z (25 + 8 * l + c)) c))), some (.int (nI c))] [] (mhp h F S z A X) 0 0 (fun r' h' => r' = .inl (some (.int (nI (mSg_ z l)))) ∧ h' = (mhp h F S z A X)) := by
  intro n
  induction n with
  | zero =>
    intro c hn0
    have h0 := hz.1
    have h1 := hz.2.1
    have hzl := hz.2.2.1 l hl
    refine zn_iload_n (pc := 4) rfl rfl ?_
    refine zn_aload_n (pc := 5) rfl rfl ?_
    refine zn_iload_n (pc := 6) rfl rfl ?_
    refine zn_callVx (pc := 7) (J := zX10_cells) (o := 50) (as := [.int (nI l)]) (rest := [.int (nI c)]) rfl rfl rfl rfl rfl rfl rfl rfl (Nat.le_of_ble_eq_true rfl) (Nat.le_of_ble_eq_true rfl) (Nat.le_of_ble_eq_true rfl) (Nat.le_of_ble_eq_true rfl) (m_cells (l := l) (by omega)) ?_
    refine zn_icmp_geN (pc := 10) (tgt := 28) (x := c) (y := (z (1 + l))) rfl rfl (by omega) (by omega) (fun c1 => ?_) (fun c1 => ?_)
    · refine zn_iload_n (pc := 28) rfl rfl ?_
      have e9 : c = z (1 + l) := by omega
      exact zx_i (pc := 29) rfl rfl (by rw [e9]; rfl) rfl
    · exfalso; omega
  | succ n ih =>
    intro c hn0
    have h0 := hz.1
    have h1 := hz.2.1
    have hzl := hz.2.2.1 l hl
    refine zn_iload_n (pc := 4) rfl rfl ?_
    refine zn_aload_n (pc := 5) rfl rfl ?_
    refine zn_iload_n (pc := 6) rfl rfl ?_
    refine zn_callVx (pc := 7) (J := zX10_cells) (o := 50) (as := [.int (nI l)]) (rest := [.int (nI c)]) rfl rfl rfl rfl rfl rfl rfl rfl (Nat.le_of_ble_eq_true rfl) (Nat.le_of_ble_eq_true rfl) (Nat.le_of_ble_eq_true rfl) (Nat.le_of_ble_eq_true rfl) (m_cells (l := l) (by omega)) ?_
    refine zn_icmp_geN (pc := 10) (tgt := 28) (x := c) (y := (z (1 + l))) rfl rfl (by omega) (by omega) (fun c1 => ?_) (fun c1 => ?_)
    · refine zn_iload_n (pc := 28) rfl rfl ?_
      have e9 : c = z (1 + l) := by omega
      exact zx_i (pc := 29) rfl rfl (by rw [e9]; rfl) rfl
    · refine zn_iload_n (pc := 13) rfl rfl ?_
      refine zn_aload_n (pc := 14) rfl rfl ?_
      refine zn_iload_n (pc := 15) rfl rfl ?_
      refine zn_iload_n (pc := 16) rfl rfl ?_
      refine zn_callVx (pc := 17) (J := zX10_lengthOf) (o := 50) (as := [.int (nI l), .int (nI c)]) (rest := [.int (nI (vS (fun c => z (25 + 8 * l + c)) c))]) rfl rfl rfl rfl rfl rfl rfl rfl (Nat.le_of_ble_eq_true rfl) (Nat.le_of_ble_eq_true rfl) (Nat.le_of_ble_eq_true rfl) (Nat.le_of_ble_eq_true rfl) (m_lengthOf (l := l) (c := c) (by omega) (by omega)) ?_
      refine zn_iaddN (pc := 20) (x := (vS (fun c => z (25 + 8 * l + c)) c)) (y := (z (25 + 8 * l + c))) rfl ?_
      refine zn_istore_n (pc := 21) (L' := [some (.ref 50), some (.int (nI l)), some (.int (nI ((vS (fun c => z (25 + 8 * l + c)) c) + (z (25 + 8 * l + c))))), some (.int (nI c))]) rfl (by decide) rfl ?_
      refine zn_iincN (pc := 22) (L' := [some (.ref 50), some (.int (nI l)), some (.int (nI ((vS (fun c => z (25 + 8 * l + c)) c) + (z (25 + 8 * l + c))))), some (.int (nI (c + 1)))]) 1 rfl rfl rfl (by decide) rfl ?_
      refine zn_goto (pc := 25) (tgt := 4) rfl rfl ?_
      exact ih (c + 1) (by omega)
theorem m_signsIn  (hz : mOK z) {l : Nat} (hl : l < z 0) : Zx g zX10_signsIn [.ref 50, .int (nI l)] (mhp h F S z A X) (some (.int (nI (mSg_ z l)))) (mhp h F S z A X) := by
  show Zn g zX10_signsIn 0 [some (.ref 50), some (.int (nI l)), none, none] [] (mhp h F S z A X) 0 0 _
  refine zn_iconstN (pc := 0) 0 rfl rfl ?_
  refine zn_istore_n (pc := 1) (L' := [some (.ref 50), some (.int (nI l)), some (.int (nI 0)), none]) rfl (by decide) rfl ?_
  refine zn_iconstN (pc := 2) 0 rfl rfl ?_
  refine zn_istore_n (pc := 3) (L' := [some (.ref 50), some (.int (nI l)), some (.int (nI 0)), some (.int (nI 0))]) rfl (by decide) rfl ?_
  exact m_signsIn_l hz hl (z (1 + l)) 0 (by omega)
theorem m_allSigns_l (hz : mOK z) : ∀ (n : Nat) (l : Nat), l + n = z 0 → Zn g zX10_allSigns 4 [some (.ref 50), some (.int (nI (vS (mSg_ z) l))), some (.int (nI l))] [] (mhp h F S z A X) 0 0 (fun r' h' => r' = .inl (some (.int (nI (vS (mSg_ z) (z 0))))) ∧ h' = (mhp h F S z A X)) := by
  intro n
  induction n with
  | zero =>
    intro l hn0
    have h0 := hz.1
    have h1 := hz.2.1
    refine zn_iload_n (pc := 4) rfl rfl ?_
    refine zn_aload_n (pc := 5) rfl rfl ?_
    refine zn_get (pc := 6) (v := .ref 51) rfl rfl rfl ?_
    refine zn_iconstN (pc := 9) 0 rfl rfl ?_
    refine zn_naLd (pc := 10) (o := 51) (n := 3289) (Z := z) (j := 0) rfl rfl (by omega) (Nat.le_of_ble_eq_true rfl) ?_
    refine zn_icmp_geN (pc := 11) (tgt := 28) (x := l) (y := (z 0)) rfl rfl (by omega) (by omega) (fun c1 => ?_) (fun c1 => ?_)
    · refine zn_iload_n (pc := 28) rfl rfl ?_
      have e9 : l = z 0 := by omega
      exact zx_i (pc := 29) rfl rfl (by rw [e9]) rfl
    · exfalso; omega
  | succ n ih =>
    intro l hn0
    have h0 := hz.1
    have h1 := hz.2.1
    refine zn_iload_n (pc := 4) rfl rfl ?_
    refine zn_aload_n (pc := 5) rfl rfl ?_
    refine zn_get (pc := 6) (v := .ref 51) rfl rfl rfl ?_
    refine zn_iconstN (pc := 9) 0 rfl rfl ?_
    refine zn_naLd (pc := 10) (o := 51) (n := 3289) (Z := z) (j := 0) rfl rfl (by omega) (Nat.le_of_ble_eq_true rfl) ?_
    refine zn_icmp_geN (pc := 11) (tgt := 28) (x := l) (y := (z 0)) rfl rfl (by omega) (by omega) (fun c1 => ?_) (fun c1 => ?_)
    · refine zn_iload_n (pc := 28) rfl rfl ?_
      have e9 : l = z 0 := by omega
      exact zx_i (pc := 29) rfl rfl (by rw [e9]) rfl
    · refine zn_iload_n (pc := 14) rfl rfl ?_
      refine zn_aload_n (pc := 15) rfl rfl ?_
      refine zn_iload_n (pc := 16) rfl rfl ?_
      refine zn_callVx (pc := 17) (J := zX10_signsIn) (o := 50) (as := [.int (nI l)]) (rest := [.int (nI (vS (mSg_ z) l))]) rfl rfl rfl rfl rfl rfl rfl rfl (Nat.le_of_ble_eq_true rfl) (Nat.le_of_ble_eq_true rfl) (Nat.le_of_ble_eq_true rfl) (Nat.le_of_ble_eq_true rfl) (m_signsIn hz (l := l) (by omega)) ?_
      refine zn_iaddN (pc := 20) (x := (vS (mSg_ z) l)) (y := (mSg_ z l)) rfl ?_
      refine zn_istore_n (pc := 21) (L' := [some (.ref 50), some (.int (nI ((vS (mSg_ z) l) + (mSg_ z l)))), some (.int (nI l))]) rfl (by decide) rfl ?_
      refine zn_iincN (pc := 22) (L' := [some (.ref 50), some (.int (nI ((vS (mSg_ z) l) + (mSg_ z l)))), some (.int (nI (l + 1)))]) 1 rfl rfl rfl (by decide) rfl ?_
      refine zn_goto (pc := 25) (tgt := 4) rfl rfl ?_
      exact ih (l + 1) (by omega)
theorem m_allSigns  (hz : mOK z) : Zx g zX10_allSigns [.ref 50] (mhp h F S z A X) (some (.int (nI (vS (mSg_ z) (z 0))))) (mhp h F S z A X) := by
  show Zn g zX10_allSigns 0 [some (.ref 50), none, none] [] (mhp h F S z A X) 0 0 _
  refine zn_iconstN (pc := 0) 0 rfl rfl ?_
  refine zn_istore_n (pc := 1) (L' := [some (.ref 50), some (.int (nI 0)), none]) rfl (by decide) rfl ?_
  refine zn_iconstN (pc := 2) 0 rfl rfl ?_
  refine zn_istore_n (pc := 3) (L' := [some (.ref 50), some (.int (nI 0)), some (.int (nI 0))]) rfl (by decide) rfl ?_
  exact m_allSigns_l hz (z 0) 0 (by omega)
theorem m_ofKind_i (hz : mOK z) (hzb : ∀ j, z j < 1000) {k : Nat} (hk : k ≤ 2) {l : Nat} {Q : zR → zH → Prop} (hl : l < z 0) : ∀ (n : Nat) (c s : Nat), c + n = z (1 + l) → Zn g zX10_ofKind 4 [some (.ref 50), some (.int (nI k)), some (.int (nI (s + vS (mKn z k l) (z (1 + l))))), some (.int (nI (l + 1))), none] [] (mhp h F S z A X) 0 0 Q → Zn g zX10_ofKind 17 [some (.ref 50), some (.int (nI k)), some (.int (nI (s + vS (mKn z k l) c))), some (.int (nI l)), some (.int (nI c))] [] (mhp h F S z A X) 0 0 Q := by
  intro n
  induction n with
  | zero =>
    intro c s hn0 hn1
    have h0 := hz.1
    have h1 := hz.2.1
    have hzl := hz.2.2.1 l hl
    refine zn_iload (pc := 17) rfl rfl ?_
    refine zn_aload_n (pc := 19) rfl rfl ?_
    refine zn_iload_n (pc := 20) rfl rfl ?_
    refine zn_callVx (pc := 21) (J := zX10_cells) (o := 50) (as := [.int (nI l)]) (rest := [.int (nI c)]) rfl rfl rfl rfl rfl rfl rfl rfl (Nat.le_of_ble_eq_true rfl) (Nat.le_of_ble_eq_true rfl) (Nat.le_of_ble_eq_true rfl) (Nat.le_of_ble_eq_true rfl) (m_cells (l := l) (by omega)) ?_
    refine zn_icmp_geN (pc := 24) (tgt := 52) (x := c) (y := (z (1 + l))) rfl rfl (by have := skind_le (mf z l c) (z (25 + 8 * l + c)); omega) (by have := skind_le (mf z l c) (z (25 + 8 * l + c)); omega) (fun c1 => ?_) (fun c1 => ?_)
    · refine zn_iincN (pc := 52) (L' := [some (.ref 50), some (.int (nI k)), some (.int (nI (s + vS (mKn z k l) c))), some (.int (nI (l + 1))), some (.int (nI c))]) 1 rfl rfl rfl (by decide) rfl ?_
      refine zn_goto (pc := 55) (tgt := 4) rfl rfl ?_
      have e9 : c = z (1 + l) := by omega
      rw [← e9] at hn1
      exact zn_sub (L' := [some (.ref 50), some (.int (nI k)), some (.int (nI (s + vS (mKn z k l) c))), some (.int (nI (l + 1))), none]) ⟨rfl, rfl, rfl, rfl, trivial⟩ hn1
    · exfalso; omega
  | succ n ih =>
    intro c s hn0 hn1
    have h0 := hz.1
    have h1 := hz.2.1
    have hzl := hz.2.2.1 l hl
    refine zn_iload (pc := 17) rfl rfl ?_
    refine zn_aload_n (pc := 19) rfl rfl ?_
    refine zn_iload_n (pc := 20) rfl rfl ?_
    refine zn_callVx (pc := 21) (J := zX10_cells) (o := 50) (as := [.int (nI l)]) (rest := [.int (nI c)]) rfl rfl rfl rfl rfl rfl rfl rfl (Nat.le_of_ble_eq_true rfl) (Nat.le_of_ble_eq_true rfl) (Nat.le_of_ble_eq_true rfl) (Nat.le_of_ble_eq_true rfl) (m_cells (l := l) (by omega)) ?_
    refine zn_icmp_geN (pc := 24) (tgt := 52) (x := c) (y := (z (1 + l))) rfl rfl (by have := skind_le (mf z l c) (z (25 + 8 * l + c)); omega) (by have := skind_le (mf z l c) (z (25 + 8 * l + c)); omega) (fun c1 => ?_) (fun c1 => ?_)
    · refine zn_iincN (pc := 52) (L' := [some (.ref 50), some (.int (nI k)), some (.int (nI (s + vS (mKn z k l) c))), some (.int (nI (l + 1))), some (.int (nI c))]) 1 rfl rfl rfl (by decide) rfl ?_
      refine zn_goto (pc := 55) (tgt := 4) rfl rfl ?_
      have e9 : c = z (1 + l) := by omega
      rw [← e9] at hn1
      exact zn_sub (L' := [some (.ref 50), some (.int (nI k)), some (.int (nI (s + vS (mKn z k l) c))), some (.int (nI (l + 1))), none]) ⟨rfl, rfl, rfl, rfl, trivial⟩ hn1
    · have h16 := hz.2.2.2 l c hl (by omega)
      refine zn_iload_n (pc := 27) rfl rfl ?_
      refine zn_joinV (v := .int (nI (mKn z k l c))) (pj := 44) ?_ (fun K2 => ?_)
      · refine zn_iaddN (pc := 44) (x := (s + vS (mKn z k l) c)) (y := (mKn z k l c)) rfl ?_
        refine zn_istore_n (pc := 45) (L' := [some (.ref 50), some (.int (nI k)), some (.int (nI ((s + vS (mKn z k l) c) + (mKn z k l c)))), some (.int (nI l)), some (.int (nI c))]) rfl (by decide) rfl ?_
        refine zn_iincN (pc := 46) (L' := [some (.ref 50), some (.int (nI k)), some (.int (nI ((s + vS (mKn z k l) c) + (mKn z k l c)))), some (.int (nI l)), some (.int (nI (c + 1)))]) 1 rfl rfl rfl (by decide) rfl ?_
        refine zn_goto (pc := 49) (tgt := 17) rfl rfl ?_
        exact zn_sub (L' := [some (.ref 50), some (.int (nI k)), some (.int (nI (s + vS (mKn z k l) (c + 1)))), some (.int (nI l)), some (.int (nI (c + 1)))]) ⟨rfl, rfl, by simp only [vS, Nat.add_assoc], rfl, rfl, trivial⟩ (ih (c + 1) s (by omega) hn1)
      · refine zn_aload_n (pc := 28) rfl rfl ?_
        refine zn_iload_n (pc := 29) rfl rfl ?_
        refine zn_iload (pc := 30) rfl rfl ?_
        refine zn_callVx (pc := 32) (J := zX10_kindOf) (o := 50) (as := [.int (nI l), .int (nI c)]) (rest := [.int (nI (s + vS (mKn z k l) c))]) rfl rfl rfl rfl rfl rfl rfl rfl (Nat.le_of_ble_eq_true rfl) (Nat.le_of_ble_eq_true rfl) (Nat.le_of_ble_eq_true rfl) (Nat.le_of_ble_eq_true rfl) (m_kindOf (l := l) (c := c) (by omega) (by omega) (by omega) hzb) ?_
        refine zn_iload_n (pc := 35) rfl rfl ?_
        refine zn_icmp_neN (pc := 36) (tgt := 43) (x := (skind (mf z l c) (z (25 + 8 * l + c)))) (y := k) rfl rfl (by have := skind_le (mf z l c) (z (25 + 8 * l + c)); omega) (by have := skind_le (mf z l c) (z (25 + 8 * l + c)); omega) (fun c3 => ?_) (fun c3 => ?_)
        · refine zn_iconstN (pc := 43) 0 rfl rfl ?_
          exact zn_top (v' := .int (nI (mKn z k l c))) (by unfold mKn; rw [if_neg (by assumption)]) K2
        · refine zn_iconstN (pc := 39) 1 rfl rfl ?_
          refine zn_goto (pc := 40) (tgt := 44) rfl rfl ?_
          exact zn_top (v' := .int (nI (mKn z k l c))) (by unfold mKn; rw [if_pos (by assumption)]) K2
theorem m_ofKind_o (hz : mOK z) (hzb : ∀ j, z j < 1000) {k : Nat} (hk : k ≤ 2) : ∀ (n : Nat) (l : Nat), l + n = z 0 → Zn g zX10_ofKind 4 [some (.ref 50), some (.int (nI k)), some (.int (nI (vS (fun l => vS (mKn z k l) (z (1 + l))) l))), some (.int (nI l)), none] [] (mhp h F S z A X) 0 0 (fun r' h' => r' = .inl (some (.int (nI (vS (fun l => vS (mKn z k l) (z (1 + l))) (z 0))))) ∧ h' = (mhp h F S z A X)) := by
  intro n
  induction n with
  | zero =>
    intro l hn0
    have h0 := hz.1
    have h1 := hz.2.1
    refine zn_iload_n (pc := 4) rfl rfl ?_
    refine zn_aload_n (pc := 5) rfl rfl ?_
    refine zn_get (pc := 6) (v := .ref 51) rfl rfl rfl ?_
    refine zn_iconstN (pc := 9) 0 rfl rfl ?_
    refine zn_naLd (pc := 10) (o := 51) (n := 3289) (Z := z) (j := 0) rfl rfl (by omega) (Nat.le_of_ble_eq_true rfl) ?_
    refine zn_icmp_geN (pc := 11) (tgt := 58) (x := l) (y := (z 0)) rfl rfl (by omega) (by omega) (fun c1 => ?_) (fun c1 => ?_)
    · refine zn_iload_n (pc := 58) rfl rfl ?_
      have e9 : l = z 0 := by omega
      exact zx_i (pc := 59) rfl rfl (by rw [e9]) rfl
    · exfalso; omega
  | succ n ih =>
    intro l hn0
    have h0 := hz.1
    have h1 := hz.2.1
    refine zn_iload_n (pc := 4) rfl rfl ?_
    refine zn_aload_n (pc := 5) rfl rfl ?_
    refine zn_get (pc := 6) (v := .ref 51) rfl rfl rfl ?_
    refine zn_iconstN (pc := 9) 0 rfl rfl ?_
    refine zn_naLd (pc := 10) (o := 51) (n := 3289) (Z := z) (j := 0) rfl rfl (by omega) (Nat.le_of_ble_eq_true rfl) ?_
    refine zn_icmp_geN (pc := 11) (tgt := 58) (x := l) (y := (z 0)) rfl rfl (by omega) (by omega) (fun c1 => ?_) (fun c1 => ?_)
    · refine zn_iload_n (pc := 58) rfl rfl ?_
      have e9 : l = z 0 := by omega
      exact zx_i (pc := 59) rfl rfl (by rw [e9]) rfl
    · refine zn_iconstN (pc := 14) 0 rfl rfl ?_
      refine zn_istore (pc := 15) (L' := [some (.ref 50), some (.int (nI k)), some (.int (nI (vS (fun l => vS (mKn z k l) (z (1 + l))) l))), some (.int (nI l)), some (.int (nI 0))]) rfl (by decide) rfl ?_
      exact zn_sub (L' := [some (.ref 50), some (.int (nI k)), some (.int (nI (vS (fun l => vS (mKn z k l) (z (1 + l))) l + vS (mKn z k l) 0))), some (.int (nI l)), some (.int (nI 0))]) ⟨rfl, rfl, rfl, rfl, rfl, trivial⟩ (m_ofKind_i hz hzb hk (by omega) (z (1 + l)) 0 _ (by omega) (ih (l + 1) (by omega)))
theorem m_ofKind  (hz : mOK z) (hzb : ∀ j, z j < 1000) {k : Nat} (hk : k ≤ 2) : Zx g zX10_ofKind [.ref 50, .int (nI k)] (mhp h F S z A X) (some (.int (nI (vS (fun l => vS (mKn z k l) (z (1 + l))) (z 0))))) (mhp h F S z A X) := by
  show Zn g zX10_ofKind 0 [some (.ref 50), some (.int (nI k)), none, none, none] [] (mhp h F S z A X) 0 0 _
  refine zn_iconstN (pc := 0) 0 rfl rfl ?_
  refine zn_istore_n (pc := 1) (L' := [some (.ref 50), some (.int (nI k)), some (.int (nI 0)), none, none]) rfl (by decide) rfl ?_
  refine zn_iconstN (pc := 2) 0 rfl rfl ?_
  refine zn_istore_n (pc := 3) (L' := [some (.ref 50), some (.int (nI k)), some (.int (nI 0)), some (.int (nI 0)), none]) rfl (by decide) rfl ?_
  exact m_ofKind_o hz hzb hk (z 0) 0 (by omega)
theorem m_longest_l (hz : mOK z) (h168 : F 13 ≤ 168) (ha : ∀ i j, A i j < 2 ^ 20) (hv : mCov A z (F 13)) (hzb : ∀ j, z j < 1000) : ∀ (n : Nat) (l : Nat), l + n = z 0 → Zn g zX10_longest 4 [some (.ref 50), some (.int (nI (mLo A z (F 13) l))), some (.int (nI l))] [] (mhp h F S z A X) 0 0 (fun r' h' => r' = .inl (some (.int (nI (mLo A z (F 13) (z 0))))) ∧ h' = (mhp h F S z A X)) := by
  intro n
  induction n with
  | zero =>
    intro l hn0
    have h0 := hz.1
    have h1 := hz.2.1
    have q2 := mLo_lt (n := F 13) (l := l) ha hzb (fun i hi => (hz.2.2.1 i (by omega)).2)
    refine zn_iload_n (pc := 4) rfl rfl ?_
    refine zn_aload_n (pc := 5) rfl rfl ?_
    refine zn_get (pc := 6) (v := .ref 51) rfl rfl rfl ?_
    refine zn_iconstN (pc := 9) 0 rfl rfl ?_
    refine zn_naLd (pc := 10) (o := 51) (n := 3289) (Z := z) (j := 0) rfl rfl (by omega) (Nat.le_of_ble_eq_true rfl) ?_
    refine zn_icmp_geN (pc := 11) (tgt := 39) (x := l) (y := (z 0)) rfl rfl (by omega) (by omega) (fun c1 => ?_) (fun c1 => ?_)
    · refine zn_iload_n (pc := 39) rfl rfl ?_
      have e9 : l = z 0 := by omega
      exact zx_i (pc := 40) rfl rfl (by rw [e9]) rfl
    · exfalso; omega
  | succ n ih =>
    intro l hn0
    have h0 := hz.1
    have h1 := hz.2.1
    have q2 := mLo_lt (n := F 13) (l := l) ha hzb (fun i hi => (hz.2.2.1 i (by omega)).2)
    refine zn_iload_n (pc := 4) rfl rfl ?_
    refine zn_aload_n (pc := 5) rfl rfl ?_
    refine zn_get (pc := 6) (v := .ref 51) rfl rfl rfl ?_
    refine zn_iconstN (pc := 9) 0 rfl rfl ?_
    refine zn_naLd (pc := 10) (o := 51) (n := 3289) (Z := z) (j := 0) rfl rfl (by omega) (Nat.le_of_ble_eq_true rfl) ?_
    refine zn_icmp_geN (pc := 11) (tgt := 39) (x := l) (y := (z 0)) rfl rfl (by omega) (by omega) (fun c1 => ?_) (fun c1 => ?_)
    · refine zn_iload_n (pc := 39) rfl rfl ?_
      have e9 : l = z 0 := by omega
      exact zx_i (pc := 40) rfl rfl (by rw [e9]) rfl
    · have q1 := mLg_lt (n := F 13) (l := l) ha (hz.2.2.1 l (by omega)).2 hzb
      refine zn_joinV (v := .int (nI (mLo A z (F 13) (l + 1)))) (pj := 32) ?_ (fun K2 => ?_)
      · refine zn_istore_n (pc := 32) (L' := [some (.ref 50), some (.int (nI (mLo A z (F 13) (l + 1)))), some (.int (nI l))]) rfl (by decide) rfl ?_
        refine zn_iincN (pc := 33) (L' := [some (.ref 50), some (.int (nI (mLo A z (F 13) (l + 1)))), some (.int (nI (l + 1)))]) 1 rfl rfl rfl (by decide) rfl ?_
        refine zn_goto (pc := 36) (tgt := 4) rfl rfl ?_
        exact ih (l + 1) (by omega)
      · refine zn_aload_n (pc := 14) rfl rfl ?_
        refine zn_iload_n (pc := 15) rfl rfl ?_
        refine zn_callVx (pc := 16) (J := zX10_shownLength) (o := 50) (as := [.int (nI l)]) (rest := []) rfl rfl rfl rfl rfl rfl rfl rfl (Nat.le_of_ble_eq_true rfl) (Nat.le_of_ble_eq_true rfl) (Nat.le_of_ble_eq_true rfl) (Nat.le_of_ble_eq_true rfl) (m_shownLength hz h168 ha hv (l := l) (by omega)) ?_
        refine zn_iload_n (pc := 19) rfl rfl ?_
        refine zn_icmp_leN (pc := 20) (tgt := 31) (x := (mLg A z (F 13) l)) (y := (mLo A z (F 13) l)) rfl rfl (by omega) (by omega) (fun c3 => ?_) (fun c3 => ?_)
        · refine zn_iload_n (pc := 31) rfl rfl ?_
          exact zn_top (v' := .int (nI (mLo A z (F 13) (l + 1)))) (by simp only [mLo]; congr 2; omega) K2
        · refine zn_aload_n (pc := 23) rfl rfl ?_
          refine zn_iload_n (pc := 24) rfl rfl ?_
          refine zn_callVx (pc := 25) (J := zX10_shownLength) (o := 50) (as := [.int (nI l)]) (rest := []) rfl rfl rfl rfl rfl rfl rfl rfl (Nat.le_of_ble_eq_true rfl) (Nat.le_of_ble_eq_true rfl) (Nat.le_of_ble_eq_true rfl) (Nat.le_of_ble_eq_true rfl) (m_shownLength hz h168 ha hv (l := l) (by omega)) ?_
          refine zn_goto (pc := 28) (tgt := 32) rfl rfl ?_
          exact zn_top (v' := .int (nI (mLo A z (F 13) (l + 1)))) (by simp only [mLo]; congr 2; omega) K2
theorem m_longest  (hz : mOK z) (h168 : F 13 ≤ 168) (ha : ∀ i j, A i j < 2 ^ 20) (hv : mCov A z (F 13)) (hzb : ∀ j, z j < 1000) : Zx g zX10_longest [.ref 50] (mhp h F S z A X) (some (.int (nI (mLo A z (F 13) (z 0))))) (mhp h F S z A X) := by
  show Zn g zX10_longest 0 [some (.ref 50), none, none] [] (mhp h F S z A X) 0 0 _
  refine zn_iconstN (pc := 0) 0 rfl rfl ?_
  refine zn_istore_n (pc := 1) (L' := [some (.ref 50), some (.int (nI 0)), none]) rfl (by decide) rfl ?_
  refine zn_iconstN (pc := 2) 0 rfl rfl ?_
  refine zn_istore_n (pc := 3) (L' := [some (.ref 50), some (.int (nI 0)), some (.int (nI 0))]) rfl (by decide) rfl ?_
  exact m_longest_l hz h168 ha hv hzb (z 0) 0 (by omega)
theorem m_counted_0  (hz : mOK z) (h168 : F 13 ≤ 168) (ha : ∀ i j, A i j < 2 ^ 20) (hv : mCov A z (F 13)) (hzb : ∀ j, z j < 1000) : Zx g zX10_counted [.ref 50, .int (nI 0)] (mhp h F S z A X) (some (.int (nI (mCn F A z 0)))) (mhp h F S z A X) := by
  show Zn g zX10_counted 0 [some (.ref 50), some (.int (nI 0))] [] (mhp h F S z A X) 0 0 _
  refine zn_iload_n (pc := 0) rfl rfl ?_
  refine zn_tabIn (pc := 1) (x := nI 0) (off := 47) (tgt := 48) rfl (by decide +kernel) (by decide +kernel) (by rw [show (nI 0).toInt = 0 by decide +kernel]; rfl) rfl ?_
  refine zn_aload_n (pc := 48) rfl rfl ?_
  refine zn_get (pc := 49) (v := .ref 51) rfl rfl rfl ?_
  refine zn_iconstN (pc := 52) 0 rfl rfl ?_
  refine zn_naLd (pc := 53) (o := 51) (n := 3289) (Z := z) (j := 0) rfl rfl (by omega) (Nat.le_of_ble_eq_true rfl) ?_
  exact zx_i (pc := 54) rfl rfl rfl rfl
theorem m_counted_1  (hz : mOK z) (h168 : F 13 ≤ 168) (ha : ∀ i j, A i j < 2 ^ 20) (hv : mCov A z (F 13)) (hzb : ∀ j, z j < 1000) : Zx g zX10_counted [.ref 50, .int (nI 1)] (mhp h F S z A X) (some (.int (nI (mCn F A z 1)))) (mhp h F S z A X) := by
  show Zn g zX10_counted 0 [some (.ref 50), some (.int (nI 1))] [] (mhp h F S z A X) 0 0 _
  refine zn_iload_n (pc := 0) rfl rfl ?_
  refine zn_tabIn (pc := 1) (x := nI 1) (off := 54) (tgt := 55) rfl (by decide +kernel) (by decide +kernel) (by rw [show (nI 1).toInt = 1 by decide +kernel]; rfl) rfl ?_
  refine zn_aload_n (pc := 55) rfl rfl ?_
  refine zn_callVx (pc := 56) (J := zX10_allCells) (o := 50) (as := []) (rest := []) rfl rfl rfl rfl rfl rfl rfl rfl (Nat.le_of_ble_eq_true rfl) (Nat.le_of_ble_eq_true rfl) (Nat.le_of_ble_eq_true rfl) (Nat.le_of_ble_eq_true rfl) (m_allCells hz) ?_
  exact zx_i (pc := 59) rfl rfl rfl rfl
theorem m_counted_2  (hz : mOK z) (h168 : F 13 ≤ 168) (ha : ∀ i j, A i j < 2 ^ 20) (hv : mCov A z (F 13)) (hzb : ∀ j, z j < 1000) : Zx g zX10_counted [.ref 50, .int (nI 2)] (mhp h F S z A X) (some (.int (nI (mCn F A z 2)))) (mhp h F S z A X) := by
  show Zn g zX10_counted 0 [some (.ref 50), some (.int (nI 2))] [] (mhp h F S z A X) 0 0 _
  refine zn_iload_n (pc := 0) rfl rfl ?_
  refine zn_tabIn (pc := 1) (x := nI 2) (off := 59) (tgt := 60) rfl (by decide +kernel) (by decide +kernel) (by rw [show (nI 2).toInt = 2 by decide +kernel]; rfl) rfl ?_
  refine zn_aload_n (pc := 60) rfl rfl ?_
  refine zn_callVx (pc := 61) (J := zX10_allSigns) (o := 50) (as := []) (rest := []) rfl rfl rfl rfl rfl rfl rfl rfl (Nat.le_of_ble_eq_true rfl) (Nat.le_of_ble_eq_true rfl) (Nat.le_of_ble_eq_true rfl) (Nat.le_of_ble_eq_true rfl) (m_allSigns hz) ?_
  exact zx_i (pc := 64) rfl rfl rfl rfl
theorem m_counted_3  (hz : mOK z) (h168 : F 13 ≤ 168) (ha : ∀ i j, A i j < 2 ^ 20) (hv : mCov A z (F 13)) (hzb : ∀ j, z j < 1000) : Zx g zX10_counted [.ref 50, .int (nI 3)] (mhp h F S z A X) (some (.int (nI (mCn F A z 3)))) (mhp h F S z A X) := by
  show Zn g zX10_counted 0 [some (.ref 50), some (.int (nI 3))] [] (mhp h F S z A X) 0 0 _
  refine zn_iload_n (pc := 0) rfl rfl ?_
  refine zn_tabIn (pc := 1) (x := nI 3) (off := 64) (tgt := 65) rfl (by decide +kernel) (by decide +kernel) (by rw [show (nI 3).toInt = 3 by decide +kernel]; rfl) rfl ?_
  refine zn_aload_n (pc := 65) rfl rfl ?_
  refine zn_get (pc := 66) (v := .int (nI (F 13))) rfl rfl rfl ?_
  exact zx_i (pc := 69) rfl rfl rfl rfl
theorem m_counted_4  (hz : mOK z) (h168 : F 13 ≤ 168) (ha : ∀ i j, A i j < 2 ^ 20) (hv : mCov A z (F 13)) (hzb : ∀ j, z j < 1000) : Zx g zX10_counted [.ref 50, .int (nI 4)] (mhp h F S z A X) (some (.int (nI (mCn F A z 4)))) (mhp h F S z A X) := by
  show Zn g zX10_counted 0 [some (.ref 50), some (.int (nI 4))] [] (mhp h F S z A X) 0 0 _
  refine zn_iload_n (pc := 0) rfl rfl ?_
  refine zn_tabIn (pc := 1) (x := nI 4) (off := 69) (tgt := 70) rfl (by decide +kernel) (by decide +kernel) (by rw [show (nI 4).toInt = 4 by decide +kernel]; rfl) rfl ?_
  refine zn_aload_n (pc := 70) rfl rfl ?_
  refine zn_iconstN (pc := 71) 1 rfl rfl ?_
  refine zn_callVx (pc := 72) (J := zX10_ofKind) (o := 50) (as := [.int (nI 1)]) (rest := []) rfl rfl rfl rfl rfl rfl rfl rfl (Nat.le_of_ble_eq_true rfl) (Nat.le_of_ble_eq_true rfl) (Nat.le_of_ble_eq_true rfl) (Nat.le_of_ble_eq_true rfl) (m_ofKind hz hzb (k := 1) (by omega)) ?_
  exact zx_i (pc := 75) rfl rfl rfl rfl
theorem m_counted_5  (hz : mOK z) (h168 : F 13 ≤ 168) (ha : ∀ i j, A i j < 2 ^ 20) (hv : mCov A z (F 13)) (hzb : ∀ j, z j < 1000) : Zx g zX10_counted [.ref 50, .int (nI 5)] (mhp h F S z A X) (some (.int (nI (mCn F A z 5)))) (mhp h F S z A X) := by
  show Zn g zX10_counted 0 [some (.ref 50), some (.int (nI 5))] [] (mhp h F S z A X) 0 0 _
  refine zn_iload_n (pc := 0) rfl rfl ?_
  refine zn_tabIn (pc := 1) (x := nI 5) (off := 75) (tgt := 76) rfl (by decide +kernel) (by decide +kernel) (by rw [show (nI 5).toInt = 5 by decide +kernel]; rfl) rfl ?_
  refine zn_aload_n (pc := 76) rfl rfl ?_
  refine zn_iconstN (pc := 77) 0 rfl rfl ?_
  refine zn_callVx (pc := 78) (J := zX10_ofKind) (o := 50) (as := [.int (nI 0)]) (rest := []) rfl rfl rfl rfl rfl rfl rfl rfl (Nat.le_of_ble_eq_true rfl) (Nat.le_of_ble_eq_true rfl) (Nat.le_of_ble_eq_true rfl) (Nat.le_of_ble_eq_true rfl) (m_ofKind hz hzb (k := 0) (by omega)) ?_
  exact zx_i (pc := 81) rfl rfl rfl rfl
theorem m_counted_6  (hz : mOK z) (h168 : F 13 ≤ 168) (ha : ∀ i j, A i j < 2 ^ 20) (hv : mCov A z (F 13)) (hzb : ∀ j, z j < 1000) : Zx g zX10_counted [.ref 50, .int (nI 6)] (mhp h F S z A X) (some (.int (nI (mCn F A z 6)))) (mhp h F S z A X) := by
  show Zn g zX10_counted 0 [some (.ref 50), some (.int (nI 6))] [] (mhp h F S z A X) 0 0 _
  refine zn_iload_n (pc := 0) rfl rfl ?_
  refine zn_tabIn (pc := 1) (x := nI 6) (off := 81) (tgt := 82) rfl (by decide +kernel) (by decide +kernel) (by rw [show (nI 6).toInt = 6 by decide +kernel]; rfl) rfl ?_
  refine zn_aload_n (pc := 82) rfl rfl ?_
  refine zn_callVx (pc := 83) (J := zX10_longest) (o := 50) (as := []) (rest := []) rfl rfl rfl rfl rfl rfl rfl rfl (Nat.le_of_ble_eq_true rfl) (Nat.le_of_ble_eq_true rfl) (Nat.le_of_ble_eq_true rfl) (Nat.le_of_ble_eq_true rfl) (m_longest hz h168 ha hv hzb) ?_
  exact zx_i (pc := 86) rfl rfl rfl rfl
theorem m_counted_7  (hz : mOK z) (h168 : F 13 ≤ 168) (ha : ∀ i j, A i j < 2 ^ 20) (hv : mCov A z (F 13)) (hzb : ∀ j, z j < 1000) : Zx g zX10_counted [.ref 50, .int (nI 7)] (mhp h F S z A X) (some (.int (nI (mCn F A z 7)))) (mhp h F S z A X) := by
  show Zn g zX10_counted 0 [some (.ref 50), some (.int (nI 7))] [] (mhp h F S z A X) 0 0 _
  refine zn_iload_n (pc := 0) rfl rfl ?_
  refine zn_tabIn (pc := 1) (x := nI 7) (off := 86) (tgt := 87) rfl (by decide +kernel) (by decide +kernel) (by rw [show (nI 7).toInt = 7 by decide +kernel]; rfl) rfl ?_
  refine zn_aload_n (pc := 87) rfl rfl ?_
  refine zn_get (pc := 88) (v := .int (nI (F 5))) rfl rfl rfl ?_
  exact zx_i (pc := 91) rfl rfl rfl rfl
theorem m_counted_8  (hz : mOK z) (h168 : F 13 ≤ 168) (ha : ∀ i j, A i j < 2 ^ 20) (hv : mCov A z (F 13)) (hzb : ∀ j, z j < 1000) : Zx g zX10_counted [.ref 50, .int (nI 8)] (mhp h F S z A X) (some (.int (nI (mCn F A z 8)))) (mhp h F S z A X) := by
  show Zn g zX10_counted 0 [some (.ref 50), some (.int (nI 8))] [] (mhp h F S z A X) 0 0 _
  refine zn_iload_n (pc := 0) rfl rfl ?_
  refine zn_tabOut (pc := 1) (x := nI 8) (tgt := 92) rfl (by decide +kernel) rfl ?_
  refine zn_aload_n (pc := 92) rfl rfl ?_
  refine zn_get (pc := 93) (v := .int (nI (F 6))) rfl rfl rfl ?_
  exact zx_i (pc := 96) rfl rfl rfl rfl
theorem m_counted (hz : mOK z) (h168 : F 13 ≤ 168) (ha : ∀ i j, A i j < 2 ^ 20) (hv : mCov A z (F 13)) (hzb : ∀ j, z j < 1000) {k : Nat} (hk : k ≤ 8) : Zx g zX10_counted [.ref 50, .int (nI k)] (mhp h F S z A X) (some (.int (nI (mCn F A z k)))) (mhp h F S z A X) := by
  match k, hk with
  | 0, _ => exact m_counted_0 hz h168 ha hv hzb
  | 1, _ => exact m_counted_1 hz h168 ha hv hzb
  | 2, _ => exact m_counted_2 hz h168 ha hv hzb
  | 3, _ => exact m_counted_3 hz h168 ha hv hzb
  | 4, _ => exact m_counted_4 hz h168 ha hv hzb
  | 5, _ => exact m_counted_5 hz h168 ha hv hzb
  | 6, _ => exact m_counted_6 hz h168 ha hv hzb
  | 7, _ => exact m_counted_7 hz h168 ha hv hzb
  | 8, _ => exact m_counted_8 hz h168 ha hv hzb
  | n + 9, q => exact absurd q (by omega)
theorem m_fixedLength_l (hz : mOK z) {l : Nat} (hl : l < z 0) (hzb : ∀ j, z j < 1000) : ∀ (n : Nat) (c : Nat), c + n = z (1 + l) → Zn g zX10_fixedLength 4 [some (.ref 50), some (.int (nI l)), some (.int (nI (mFx z l c))), some (.int (nI c))] [] (mhp h F S z A X) 0 0 (fun r' h' => r' = .inl (some (.int (nI (mFx z l (z (1 + l)))))) ∧ h' = (mhp h F S z A X)) := by
  intro n
  induction n with
  | zero =>
    intro c hn0
    have h0 := hz.1
    have h1 := hz.2.1
    have hzl := hz.2.2.1 l hl
    have q1 := mFx_le (l := l) hzb c
    have q2 := hzb (25 + 8 * l + c)
    refine zn_iload_n (pc := 4) rfl rfl ?_
    refine zn_aload_n (pc := 5) rfl rfl ?_
    refine zn_iload_n (pc := 6) rfl rfl ?_
    refine zn_callVx (pc := 7) (J := zX10_cells) (o := 50) (as := [.int (nI l)]) (rest := [.int (nI c)]) rfl rfl rfl rfl rfl rfl rfl rfl (Nat.le_of_ble_eq_true rfl) (Nat.le_of_ble_eq_true rfl) (Nat.le_of_ble_eq_true rfl) (Nat.le_of_ble_eq_true rfl) (m_cells (l := l) (by omega)) ?_
    refine zn_icmp_geN (pc := 10) (tgt := 53) (x := c) (y := (z (1 + l))) rfl rfl (by omega) (by omega) (fun c1 => ?_) (fun c1 => ?_)
    · refine zn_iload_n (pc := 53) rfl rfl ?_
      have e9 : c = z (1 + l) := by omega
      exact zx_i (pc := 54) rfl rfl (by rw [e9]) rfl
    · exfalso; omega
  | succ n ih =>
    intro c hn0
    have h0 := hz.1
    have h1 := hz.2.1
    have hzl := hz.2.2.1 l hl
    have q1 := mFx_le (l := l) hzb c
    have q2 := hzb (25 + 8 * l + c)
    refine zn_iload_n (pc := 4) rfl rfl ?_
    refine zn_aload_n (pc := 5) rfl rfl ?_
    refine zn_iload_n (pc := 6) rfl rfl ?_
    refine zn_callVx (pc := 7) (J := zX10_cells) (o := 50) (as := [.int (nI l)]) (rest := [.int (nI c)]) rfl rfl rfl rfl rfl rfl rfl rfl (Nat.le_of_ble_eq_true rfl) (Nat.le_of_ble_eq_true rfl) (Nat.le_of_ble_eq_true rfl) (Nat.le_of_ble_eq_true rfl) (m_cells (l := l) (by omega)) ?_
    refine zn_icmp_geN (pc := 10) (tgt := 53) (x := c) (y := (z (1 + l))) rfl rfl (by omega) (by omega) (fun c1 => ?_) (fun c1 => ?_)
    · refine zn_iload_n (pc := 53) rfl rfl ?_
      have e9 : c = z (1 + l) := by omega
      exact zx_i (pc := 54) rfl rfl (by rw [e9]) rfl
    · refine zn_iload_n (pc := 13) rfl rfl ?_
      refine zn_aload_n (pc := 14) rfl rfl ?_
      refine zn_iload_n (pc := 15) rfl rfl ?_
      refine zn_iload_n (pc := 16) rfl rfl ?_
      refine zn_callVx (pc := 17) (J := zX10_lengthOf) (o := 50) (as := [.int (nI l), .int (nI c)]) (rest := [.int (nI (mFx z l c))]) rfl rfl rfl rfl rfl rfl rfl rfl (Nat.le_of_ble_eq_true rfl) (Nat.le_of_ble_eq_true rfl) (Nat.le_of_ble_eq_true rfl) (Nat.le_of_ble_eq_true rfl) (m_lengthOf (l := l) (c := c) (by omega) (by omega)) ?_
      refine zn_iaddN (pc := 20) (x := (mFx z l c)) (y := (z (25 + 8 * l + c))) rfl ?_
      refine zn_istore_n (pc := 21) (L' := [some (.ref 50), some (.int (nI l)), some (.int (nI (mFx z l c + (z (25 + 8 * l + c))))), some (.int (nI c))]) rfl (by decide) rfl ?_
      refine zn_joinV (v := .int (nI (mFx z l (c + 1)))) (pj := 46) ?_ (fun K2 => ?_)
      · refine zn_istore_n (pc := 46) (L' := [some (.ref 50), some (.int (nI l)), some (.int (nI (mFx z l (c + 1)))), some (.int (nI c))]) rfl (by decide) rfl ?_
        refine zn_iincN (pc := 47) (L' := [some (.ref 50), some (.int (nI l)), some (.int (nI (mFx z l (c + 1)))), some (.int (nI (c + 1)))]) 1 rfl rfl rfl (by decide) rfl ?_
        refine zn_goto (pc := 50) (tgt := 4) rfl rfl ?_
        exact ih (c + 1) (by omega)
      · refine zn_iload_n (pc := 22) rfl rfl ?_
        refine zn_iconstN (pc := 23) 1 rfl rfl ?_
        refine zn_iaddN (pc := 24) (x := c) (y := 1) rfl ?_
        refine zn_aload_n (pc := 25) rfl rfl ?_
        refine zn_iload_n (pc := 26) rfl rfl ?_
        refine zn_callVx (pc := 27) (J := zX10_cells) (o := 50) (as := [.int (nI l)]) (rest := [.int (nI (c + 1))]) rfl rfl rfl rfl rfl rfl rfl rfl (Nat.le_of_ble_eq_true rfl) (Nat.le_of_ble_eq_true rfl) (Nat.le_of_ble_eq_true rfl) (Nat.le_of_ble_eq_true rfl) (m_cells (l := l) (by omega)) ?_
        refine zn_icmp_geN (pc := 30) (tgt := 45) (x := (c + 1)) (y := (z (1 + l))) rfl rfl (by omega) (by omega) (fun c3 => ?_) (fun c3 => ?_)
        · refine zn_iload_n (pc := 45) rfl rfl ?_
          exact zn_top (v' := .int (nI (mFx z l (c + 1)))) (by simp only [mFx]; rw [if_neg (by omega)]) K2
        · refine zn_iload_n (pc := 33) rfl rfl ?_
          refine zn_bipushN (pc := 34) 8 rfl rfl ?_
          refine zn_idivN (pc := 36) (x := (mFx z l c + (z (25 + 8 * l + c)))) (y := 8) rfl (by omega) (by omega) (by omega) ?_
          refine zn_iconstN (pc := 37) 1 rfl rfl ?_
          refine zn_iaddN (pc := 38) (x := ((mFx z l c + (z (25 + 8 * l + c))) / 8)) (y := 1) rfl ?_
          refine zn_bipushN (pc := 39) 8 rfl rfl ?_
          refine zn_imulN (pc := 41) (x := (((mFx z l c + (z (25 + 8 * l + c))) / 8) + 1)) (y := 8) rfl ?_
          refine zn_goto (pc := 42) (tgt := 46) rfl rfl ?_
          exact zn_top (v' := .int (nI (mFx z l (c + 1)))) (by simp only [mFx]; rw [if_pos (by omega)]) K2
theorem m_fixedLength  (hz : mOK z) {l : Nat} (hl : l < z 0) (hzb : ∀ j, z j < 1000) : Zx g zX10_fixedLength [.ref 50, .int (nI l)] (mhp h F S z A X) (some (.int (nI (mFx z l (z (1 + l)))))) (mhp h F S z A X) := by
  show Zn g zX10_fixedLength 0 [some (.ref 50), some (.int (nI l)), none, none] [] (mhp h F S z A X) 0 0 _
  refine zn_iconstN (pc := 0) 0 rfl rfl ?_
  refine zn_istore_n (pc := 1) (L' := [some (.ref 50), some (.int (nI l)), some (.int (nI 0)), none]) rfl (by decide) rfl ?_
  refine zn_iconstN (pc := 2) 0 rfl rfl ?_
  refine zn_istore_n (pc := 3) (L' := [some (.ref 50), some (.int (nI l)), some (.int (nI 0)), some (.int (nI 0))]) rfl (by decide) rfl ?_
  exact m_fixedLength_l hz hl hzb (z (1 + l)) 0 (by omega)
theorem m_lineNow_0  (hz : mOK z) (h168 : F 13 ≤ 168) (ha : ∀ i j, A i j < 2 ^ 20) (hv : mCov A z (F 13)) (hzb : ∀ j, z j < 1000) {l : Nat} (hl : l < z 0) : Zx g zX10_lineNow [.ref 50, .int (nI l), .int (nI 0)] (mhp h F S z A X) (some (.int (nI (mLn_ A z (F 13) l 0)))) (mhp h F S z A X) := by
  have h0 := hz.1
  have h1 := hz.2.1
  have hzl := hz.2.2.1 l hl
  show Zn g zX10_lineNow 0 [some (.ref 50), some (.int (nI l)), some (.int (nI 0))] [] (mhp h F S z A X) 0 0 _
  refine zn_iload_n (pc := 0) rfl rfl ?_
  refine zn_if_neN (pc := 1) (tgt := 12) (x := 0) rfl rfl (by omega) (fun c1 => ?_) (fun c1 => ?_)
  · exfalso; omega
  · refine zn_aload_n (pc := 4) rfl rfl ?_
    refine zn_iload_n (pc := 5) rfl rfl ?_
    refine zn_callVx (pc := 6) (J := zX10_cells) (o := 50) (as := [.int (nI l)]) (rest := []) rfl rfl rfl rfl rfl rfl rfl rfl (Nat.le_of_ble_eq_true rfl) (Nat.le_of_ble_eq_true rfl) (Nat.le_of_ble_eq_true rfl) (Nat.le_of_ble_eq_true rfl) (m_cells (l := l) (by omega)) ?_
    refine zn_goto (pc := 9) (tgt := 43) rfl rfl ?_
    exact zx_i (pc := 43) rfl rfl rfl rfl
theorem m_lineNow_1  (hz : mOK z) (h168 : F 13 ≤ 168) (ha : ∀ i j, A i j < 2 ^ 20) (hv : mCov A z (F 13)) (hzb : ∀ j, z j < 1000) {l : Nat} (hl : l < z 0) : Zx g zX10_lineNow [.ref 50, .int (nI l), .int (nI 1)] (mhp h F S z A X) (some (.int (nI (mLn_ A z (F 13) l 1)))) (mhp h F S z A X) := by
  have h0 := hz.1
  have h1 := hz.2.1
  have hzl := hz.2.2.1 l hl
  show Zn g zX10_lineNow 0 [some (.ref 50), some (.int (nI l)), some (.int (nI 1))] [] (mhp h F S z A X) 0 0 _
  refine zn_iload_n (pc := 0) rfl rfl ?_
  refine zn_if_neN (pc := 1) (tgt := 12) (x := 1) rfl rfl (by omega) (fun c1 => ?_) (fun c1 => ?_)
  · refine zn_iload_n (pc := 12) rfl rfl ?_
    refine zn_iconstN (pc := 13) 1 rfl rfl ?_
    refine zn_icmp_neN (pc := 14) (tgt := 25) (x := 1) (y := 1) rfl rfl (by omega) (by omega) (fun c2 => ?_) (fun c2 => ?_)
    · exfalso; omega
    · refine zn_aload_n (pc := 17) rfl rfl ?_
      refine zn_iload_n (pc := 18) rfl rfl ?_
      refine zn_callVx (pc := 19) (J := zX10_shownLength) (o := 50) (as := [.int (nI l)]) (rest := []) rfl rfl rfl rfl rfl rfl rfl rfl (Nat.le_of_ble_eq_true rfl) (Nat.le_of_ble_eq_true rfl) (Nat.le_of_ble_eq_true rfl) (Nat.le_of_ble_eq_true rfl) (m_shownLength hz h168 ha hv (l := l) (by omega)) ?_
      refine zn_goto (pc := 22) (tgt := 43) rfl rfl ?_
      exact zx_i (pc := 43) rfl rfl rfl rfl
  · exfalso; omega
theorem m_lineNow_2  (hz : mOK z) (h168 : F 13 ≤ 168) (ha : ∀ i j, A i j < 2 ^ 20) (hv : mCov A z (F 13)) (hzb : ∀ j, z j < 1000) {l : Nat} (hl : l < z 0) : Zx g zX10_lineNow [.ref 50, .int (nI l), .int (nI 2)] (mhp h F S z A X) (some (.int (nI (mLn_ A z (F 13) l 2)))) (mhp h F S z A X) := by
  have h0 := hz.1
  have h1 := hz.2.1
  have hzl := hz.2.2.1 l hl
  show Zn g zX10_lineNow 0 [some (.ref 50), some (.int (nI l)), some (.int (nI 2))] [] (mhp h F S z A X) 0 0 _
  refine zn_iload_n (pc := 0) rfl rfl ?_
  refine zn_if_neN (pc := 1) (tgt := 12) (x := 2) rfl rfl (by omega) (fun c1 => ?_) (fun c1 => ?_)
  · refine zn_iload_n (pc := 12) rfl rfl ?_
    refine zn_iconstN (pc := 13) 1 rfl rfl ?_
    refine zn_icmp_neN (pc := 14) (tgt := 25) (x := 2) (y := 1) rfl rfl (by omega) (by omega) (fun c2 => ?_) (fun c2 => ?_)
    · refine zn_iload_n (pc := 25) rfl rfl ?_
      refine zn_iconstN (pc := 26) 2 rfl rfl ?_
      refine zn_icmp_neN (pc := 27) (tgt := 38) (x := 2) (y := 2) rfl rfl (by omega) (by omega) (fun c3 => ?_) (fun c3 => ?_)
      · exfalso; omega
      · refine zn_aload_n (pc := 30) rfl rfl ?_
        refine zn_iload_n (pc := 31) rfl rfl ?_
        refine zn_callVx (pc := 32) (J := zX10_signsIn) (o := 50) (as := [.int (nI l)]) (rest := []) rfl rfl rfl rfl rfl rfl rfl rfl (Nat.le_of_ble_eq_true rfl) (Nat.le_of_ble_eq_true rfl) (Nat.le_of_ble_eq_true rfl) (Nat.le_of_ble_eq_true rfl) (m_signsIn hz (l := l) (by omega)) ?_
        refine zn_goto (pc := 35) (tgt := 43) rfl rfl ?_
        exact zx_i (pc := 43) rfl rfl rfl rfl
    · exfalso; omega
  · exfalso; omega
theorem m_lineNow_3  (hz : mOK z) (h168 : F 13 ≤ 168) (ha : ∀ i j, A i j < 2 ^ 20) (hv : mCov A z (F 13)) (hzb : ∀ j, z j < 1000) {l : Nat} (hl : l < z 0) : Zx g zX10_lineNow [.ref 50, .int (nI l), .int (nI 3)] (mhp h F S z A X) (some (.int (nI (mLn_ A z (F 13) l 3)))) (mhp h F S z A X) := by
  have h0 := hz.1
  have h1 := hz.2.1
  have hzl := hz.2.2.1 l hl
  show Zn g zX10_lineNow 0 [some (.ref 50), some (.int (nI l)), some (.int (nI 3))] [] (mhp h F S z A X) 0 0 _
  refine zn_iload_n (pc := 0) rfl rfl ?_
  refine zn_if_neN (pc := 1) (tgt := 12) (x := 3) rfl rfl (by omega) (fun c1 => ?_) (fun c1 => ?_)
  · refine zn_iload_n (pc := 12) rfl rfl ?_
    refine zn_iconstN (pc := 13) 1 rfl rfl ?_
    refine zn_icmp_neN (pc := 14) (tgt := 25) (x := 3) (y := 1) rfl rfl (by omega) (by omega) (fun c2 => ?_) (fun c2 => ?_)
    · refine zn_iload_n (pc := 25) rfl rfl ?_
      refine zn_iconstN (pc := 26) 2 rfl rfl ?_
      refine zn_icmp_neN (pc := 27) (tgt := 38) (x := 3) (y := 2) rfl rfl (by omega) (by omega) (fun c3 => ?_) (fun c3 => ?_)
      · refine zn_aload_n (pc := 38) rfl rfl ?_
        refine zn_iload_n (pc := 39) rfl rfl ?_
        refine zn_callVx (pc := 40) (J := zX10_fixedLength) (o := 50) (as := [.int (nI l)]) (rest := []) rfl rfl rfl rfl rfl rfl rfl rfl (Nat.le_of_ble_eq_true rfl) (Nat.le_of_ble_eq_true rfl) (Nat.le_of_ble_eq_true rfl) (Nat.le_of_ble_eq_true rfl) (m_fixedLength hz (l := l) (by omega) hzb) ?_
        exact zx_i (pc := 43) rfl rfl rfl rfl
      · exfalso; omega
    · exfalso; omega
  · exfalso; omega
theorem m_lineNow (hz : mOK z) (h168 : F 13 ≤ 168) (ha : ∀ i j, A i j < 2 ^ 20) (hv : mCov A z (F 13)) (hzb : ∀ j, z j < 1000) {l : Nat} (hl : l < z 0) {k : Nat} (hk : k ≤ 3) : Zx g zX10_lineNow [.ref 50, .int (nI l), .int (nI k)] (mhp h F S z A X) (some (.int (nI (mLn_ A z (F 13) l k)))) (mhp h F S z A X) := by
  match k, hk with
  | 0, _ => exact m_lineNow_0 hz h168 ha hv hzb hl
  | 1, _ => exact m_lineNow_1 hz h168 ha hv hzb hl
  | 2, _ => exact m_lineNow_2 hz h168 ha hv hzb hl
  | 3, _ => exact m_lineNow_3 hz h168 ha hv hzb hl
  | n + 4, q => exact absurd q (by omega)
theorem m_cellNow_0  (hz : mOK z) (h168 : F 13 ≤ 168) (ha : ∀ i j, A i j < 2 ^ 20) (hv : mCov A z (F 13)) (hzb : ∀ j, z j < 1000) {l c : Nat} (hl : l < z 0) (hc : c < z (1 + l)) : Zx g zX10_cellNow [.ref 50, .int (nI l), .int (nI c), .int (nI 0)] (mhp h F S z A X) (some (.int (mCl F A z l c 0))) (mhp h F S z A X) := by
  have h0 := hz.1
  have h1 := hz.2.1
  have hzl := hz.2.2.1 l hl
  have hzc := hz.2.2.2 l c hl hc
  show Zn g zX10_cellNow 0 [some (.ref 50), some (.int (nI l)), some (.int (nI c)), some (.int (nI 0))] [] (mhp h F S z A X) 0 0 _
  refine zn_iload_n (pc := 0) rfl rfl ?_
  refine zn_tabIn (pc := 1) (x := nI 0) (off := 31) (tgt := 32) rfl (by decide +kernel) (by decide +kernel) (by rw [show (nI 0).toInt = 0 by decide +kernel]; rfl) rfl ?_
  refine zn_aload_n (pc := 32) rfl rfl ?_
  refine zn_iload_n (pc := 33) rfl rfl ?_
  refine zn_iload_n (pc := 34) rfl rfl ?_
  refine zn_callVx (pc := 35) (J := zX10_lengthOf) (o := 50) (as := [.int (nI l), .int (nI c)]) (rest := []) rfl rfl rfl rfl rfl rfl rfl rfl (Nat.le_of_ble_eq_true rfl) (Nat.le_of_ble_eq_true rfl) (Nat.le_of_ble_eq_true rfl) (Nat.le_of_ble_eq_true rfl) (m_lengthOf (l := l) (c := c) (by omega) (by omega)) ?_
  exact zx_i (pc := 38) rfl rfl rfl rfl
theorem m_cellNow_1  (hz : mOK z) (h168 : F 13 ≤ 168) (ha : ∀ i j, A i j < 2 ^ 20) (hv : mCov A z (F 13)) (hzb : ∀ j, z j < 1000) {l c : Nat} (hl : l < z 0) (hc : c < z (1 + l)) : Zx g zX10_cellNow [.ref 50, .int (nI l), .int (nI c), .int (nI 1)] (mhp h F S z A X) (some (.int (mCl F A z l c 1))) (mhp h F S z A X) := by
  have h0 := hz.1
  have h1 := hz.2.1
  have hzl := hz.2.2.1 l hl
  have hzc := hz.2.2.2 l c hl hc
  show Zn g zX10_cellNow 0 [some (.ref 50), some (.int (nI l)), some (.int (nI c)), some (.int (nI 1))] [] (mhp h F S z A X) 0 0 _
  refine zn_iload_n (pc := 0) rfl rfl ?_
  refine zn_tabIn (pc := 1) (x := nI 1) (off := 38) (tgt := 39) rfl (by decide +kernel) (by decide +kernel) (by rw [show (nI 1).toInt = 1 by decide +kernel]; rfl) rfl ?_
  refine zn_aload_n (pc := 39) rfl rfl ?_
  refine zn_iload_n (pc := 40) rfl rfl ?_
  refine zn_iload_n (pc := 41) rfl rfl ?_
  refine zn_callVx (pc := 42) (J := zX10_kindOf) (o := 50) (as := [.int (nI l), .int (nI c)]) (rest := []) rfl rfl rfl rfl rfl rfl rfl rfl (Nat.le_of_ble_eq_true rfl) (Nat.le_of_ble_eq_true rfl) (Nat.le_of_ble_eq_true rfl) (Nat.le_of_ble_eq_true rfl) (m_kindOf (l := l) (c := c) (by omega) (by omega) (by omega) hzb) ?_
  exact zx_i (pc := 45) rfl rfl rfl rfl
theorem m_cellNow_2  (hz : mOK z) (h168 : F 13 ≤ 168) (ha : ∀ i j, A i j < 2 ^ 20) (hv : mCov A z (F 13)) (hzb : ∀ j, z j < 1000) {l c : Nat} (hl : l < z 0) (hc : c < z (1 + l)) : Zx g zX10_cellNow [.ref 50, .int (nI l), .int (nI c), .int (nI 2)] (mhp h F S z A X) (some (.int (mCl F A z l c 2))) (mhp h F S z A X) := by
  have h0 := hz.1
  have h1 := hz.2.1
  have hzl := hz.2.2.1 l hl
  have hzc := hz.2.2.2 l c hl hc
  show Zn g zX10_cellNow 0 [some (.ref 50), some (.int (nI l)), some (.int (nI c)), some (.int (nI 2))] [] (mhp h F S z A X) 0 0 _
  refine zn_iload_n (pc := 0) rfl rfl ?_
  refine zn_tabIn (pc := 1) (x := nI 2) (off := 45) (tgt := 46) rfl (by decide +kernel) (by decide +kernel) (by rw [show (nI 2).toInt = 2 by decide +kernel]; rfl) rfl ?_
  refine zn_aload_n (pc := 46) rfl rfl ?_
  refine zn_iload_n (pc := 47) rfl rfl ?_
  refine zn_iload_n (pc := 48) rfl rfl ?_
  refine zn_callVx (pc := 49) (J := zX10_xOf) (o := 50) (as := [.int (nI l), .int (nI c)]) (rest := []) rfl rfl rfl rfl rfl rfl rfl rfl (Nat.le_of_ble_eq_true rfl) (Nat.le_of_ble_eq_true rfl) (Nat.le_of_ble_eq_true rfl) (Nat.le_of_ble_eq_true rfl) (m_xOf hz h168 ha hv (l := l) (c := c) (by omega) (by omega)) ?_
  exact zx_i (pc := 52) rfl rfl rfl rfl
theorem m_cellNow_3  (hz : mOK z) (h168 : F 13 ≤ 168) (ha : ∀ i j, A i j < 2 ^ 20) (hv : mCov A z (F 13)) (hzb : ∀ j, z j < 1000) {l c : Nat} (hl : l < z 0) (hc : c < z (1 + l)) : Zx g zX10_cellNow [.ref 50, .int (nI l), .int (nI c), .int (nI 3)] (mhp h F S z A X) (some (.int (mCl F A z l c 3))) (mhp h F S z A X) := by
  have h0 := hz.1
  have h1 := hz.2.1
  have hzl := hz.2.2.1 l hl
  have hzc := hz.2.2.2 l c hl hc
  show Zn g zX10_cellNow 0 [some (.ref 50), some (.int (nI l)), some (.int (nI c)), some (.int (nI 3))] [] (mhp h F S z A X) 0 0 _
  refine zn_iload_n (pc := 0) rfl rfl ?_
  refine zn_tabIn (pc := 1) (x := nI 3) (off := 52) (tgt := 53) rfl (by decide +kernel) (by decide +kernel) (by rw [show (nI 3).toInt = 3 by decide +kernel]; rfl) rfl ?_
  refine zn_aload_n (pc := 53) rfl rfl ?_
  refine zn_iload_n (pc := 54) rfl rfl ?_
  refine zn_iload_n (pc := 55) rfl rfl ?_
  refine zn_callVx (pc := 56) (J := zX10_shiftOf) (o := 50) (as := [.int (nI l), .int (nI c)]) (rest := []) rfl rfl rfl rfl rfl rfl rfl rfl (Nat.le_of_ble_eq_true rfl) (Nat.le_of_ble_eq_true rfl) (Nat.le_of_ble_eq_true rfl) (Nat.le_of_ble_eq_true rfl) (m_shiftOf hz (l := l) (c := c) (by omega) (by omega) hzb h168 ha) ?_
  exact zx_i (pc := 59) rfl rfl rfl rfl
theorem m_cellNow_4  (hz : mOK z) (h168 : F 13 ≤ 168) (ha : ∀ i j, A i j < 2 ^ 20) (hv : mCov A z (F 13)) (hzb : ∀ j, z j < 1000) {l c : Nat} (hl : l < z 0) (hc : c < z (1 + l)) : Zx g zX10_cellNow [.ref 50, .int (nI l), .int (nI c), .int (nI 4)] (mhp h F S z A X) (some (.int (mCl F A z l c 4))) (mhp h F S z A X) := by
  have h0 := hz.1
  have h1 := hz.2.1
  have hzl := hz.2.2.1 l hl
  have hzc := hz.2.2.2 l c hl hc
  show Zn g zX10_cellNow 0 [some (.ref 50), some (.int (nI l)), some (.int (nI c)), some (.int (nI 4))] [] (mhp h F S z A X) 0 0 _
  refine zn_iload_n (pc := 0) rfl rfl ?_
  refine zn_tabOut (pc := 1) (x := nI 4) (tgt := 60) rfl (by decide +kernel) rfl ?_
  refine zn_aload_n (pc := 60) rfl rfl ?_
  refine zn_iload_n (pc := 61) rfl rfl ?_
  refine zn_iload_n (pc := 62) rfl rfl ?_
  refine zn_callVx (pc := 63) (J := zX10_blockOf) (o := 50) (as := [.int (nI l), .int (nI c)]) (rest := []) rfl rfl rfl rfl rfl rfl rfl rfl (Nat.le_of_ble_eq_true rfl) (Nat.le_of_ble_eq_true rfl) (Nat.le_of_ble_eq_true rfl) (Nat.le_of_ble_eq_true rfl) (m_blockOf (l := l) (c := c) hz (by omega) (by omega) h168 ha) ?_
  exact zx_i (pc := 66) rfl rfl rfl rfl
theorem m_cellNow (hz : mOK z) (h168 : F 13 ≤ 168) (ha : ∀ i j, A i j < 2 ^ 20) (hv : mCov A z (F 13)) (hzb : ∀ j, z j < 1000) {l c : Nat} (hl : l < z 0) (hc : c < z (1 + l)) {k : Nat} (hk : k ≤ 4) : Zx g zX10_cellNow [.ref 50, .int (nI l), .int (nI c), .int (nI k)] (mhp h F S z A X) (some (.int (mCl F A z l c k))) (mhp h F S z A X) := by
  match k, hk with
  | 0, _ => exact m_cellNow_0 hz h168 ha hv hzb hl hc
  | 1, _ => exact m_cellNow_1 hz h168 ha hv hzb hl hc
  | 2, _ => exact m_cellNow_2 hz h168 ha hv hzb hl hc
  | 3, _ => exact m_cellNow_3 hz h168 ha hv hzb hl hc
  | 4, _ => exact m_cellNow_4 hz h168 ha hv hzb hl hc
  | n + 5, q => exact absurd q (by omega)
end m1
