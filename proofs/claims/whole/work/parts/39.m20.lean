section m1
variable {g : zG} {h hh : zH} {F : Nat → Nat} {S : Int64} {z : Nat → Nat} {A : Nat → Nat → Nat} {X : Nat → Int32}
/-- how many blanks stand from k on, at most m -/
def sbl (f : Nat → Nat) : Nat → Nat → Nat
  | 0, _ => 0
  | m + 1, k => if f k = 32 then sbl f m (k + 1) + 1 else 0
theorem sbl_le (f : Nat → Nat) : ∀ m k, sbl f m k ≤ m
  | 0, k => by simp [sbl]
  | m + 1, k => by
    simp only [sbl]
    have := sbl_le f m (k + 1)
    split <;> omega
/-- the runs of at least g blanks from k on in a cell of n signs -/
def sRs (f : Nat → Nat) (n g : Nat) : Nat → Nat → Nat
  | 0, _ => 0
  | m + 1, k => if k < n then (if g ≤ sbl f (n - k) k then 1 else 0) + sRs f n g m (k + sbl f (n - k) k + 1) else 0
def mRs (z : Nat → Nat) (l g : Nat) : Nat → Nat
  | 0 => 0
  | c + 1 => mRs z l g c + sRs (mf z l c) (z (25 + 8 * l + c)) g (z (25 + 8 * l + c)) 0
theorem sRs_le (f : Nat → Nat) (n g : Nat) : ∀ m k, sRs f n g m k ≤ m
  | 0, k => by simp [sRs]
  | m + 1, k => by
    simp only [sRs]
    have := sRs_le f n g m (k + sbl f (n - k) k + 1)
    repeat' split
    all_goals omega
theorem mRs_le {z : Nat → Nat} {l g : Nat} : ∀ {c : Nat}, (∀ i, i < c → z (25 + 8 * l + i) ≤ 16) → mRs z l g c ≤ 16 * c
  | 0, _ => by simp [mRs]
  | c + 1, h => by
    have h1 := mRs_le (g := g) (fun i hi => h i (by omega) : ∀ i, i < c → z (25 + 8 * l + i) ≤ 16)
    have h2 := sRs_le (mf z l c) (z (25 + 8 * l + c)) g (z (25 + 8 * l + c)) 0
    have h3 := h c (by omega)
    simp only [mRs]
    omega
theorem m_runAt_l {l c : Nat} (hl : l < 24) (hc : c < 8) (h16 : z (25 + 8 * l + c) ≤ 16) (hzb : ∀ j, z j < 1000) {f : Nat} : ∀ (n : Nat) (k R : Nat), k + n = z (25 + 8 * l + c) → f ≤ k → R = k - f + sbl (mf z l c) n k → Zn g zX10_runAt 3 [some (.ref 50), some (.int (nI l)), some (.int (nI c)), some (.int (nI f)), some (.int (nI k))] [] (mhp h F S z A X) 0 0 (fun r' h' => r' = .inl (some (.int (nI R))) ∧ h' = (mhp h F S z A X)) := by
  intro n
  induction n with
  | zero =>
    intro k R hn0 hn1 hn2
    refine zn_iload (pc := 3) rfl rfl ?_
    refine zn_aload_n (pc := 5) rfl rfl ?_
    refine zn_iload_n (pc := 6) rfl rfl ?_
    refine zn_iload_n (pc := 7) rfl rfl ?_
    refine zn_callVx (pc := 8) (J := zX10_lengthOf) (o := 50) (as := [.int (nI l), .int (nI c)]) (rest := [.int (nI k)]) rfl rfl rfl rfl rfl rfl rfl rfl (Nat.le_of_ble_eq_true rfl) (Nat.le_of_ble_eq_true rfl) (Nat.le_of_ble_eq_true rfl) (Nat.le_of_ble_eq_true rfl) (m_lengthOf (l := l) (c := c) (by omega) (by omega)) ?_
    refine zn_icmp_geN (pc := 11) (tgt := 33) (x := k) (y := (z (25 + 8 * l + c))) rfl rfl (by have := hzb (217 + 16 * (8 * l + c) + k); omega) (by have := hzb (217 + 16 * (8 * l + c) + k); omega) (fun c1 => ?_) (fun c1 => ?_)
    · refine zn_iload (pc := 33) rfl rfl ?_
      refine zn_iload_n (pc := 35) rfl rfl ?_
      refine zn_isubN (pc := 36) (x := k) (y := f) rfl (by omega) ?_
      exact zx_i (pc := 37) rfl rfl (by rw [hn2]; simp only [sbl, Nat.add_zero]) rfl
    · exfalso; omega
  | succ n ih =>
    intro k R hn0 hn1 hn2
    refine zn_iload (pc := 3) rfl rfl ?_
    refine zn_aload_n (pc := 5) rfl rfl ?_
    refine zn_iload_n (pc := 6) rfl rfl ?_
    refine zn_iload_n (pc := 7) rfl rfl ?_
    refine zn_callVx (pc := 8) (J := zX10_lengthOf) (o := 50) (as := [.int (nI l), .int (nI c)]) (rest := [.int (nI k)]) rfl rfl rfl rfl rfl rfl rfl rfl (Nat.le_of_ble_eq_true rfl) (Nat.le_of_ble_eq_true rfl) (Nat.le_of_ble_eq_true rfl) (Nat.le_of_ble_eq_true rfl) (m_lengthOf (l := l) (c := c) (by omega) (by omega)) ?_
    refine zn_icmp_geN (pc := 11) (tgt := 33) (x := k) (y := (z (25 + 8 * l + c))) rfl rfl (by have := hzb (217 + 16 * (8 * l + c) + k); omega) (by have := hzb (217 + 16 * (8 * l + c) + k); omega) (fun c1 => ?_) (fun c1 => ?_)
    · refine zn_iload (pc := 33) rfl rfl ?_
      refine zn_iload_n (pc := 35) rfl rfl ?_
      refine zn_isubN (pc := 36) (x := k) (y := f) rfl (by omega) ?_
      exfalso; omega
    · refine zn_aload_n (pc := 14) rfl rfl ?_
      refine zn_iload_n (pc := 15) rfl rfl ?_
      refine zn_iload_n (pc := 16) rfl rfl ?_
      refine zn_iload (pc := 17) rfl rfl ?_
      refine zn_callVx (pc := 19) (J := zX10_signOf) (o := 50) (as := [.int (nI l), .int (nI c), .int (nI k)]) (rest := []) rfl rfl rfl rfl rfl rfl rfl rfl (Nat.le_of_ble_eq_true rfl) (Nat.le_of_ble_eq_true rfl) (Nat.le_of_ble_eq_true rfl) (Nat.le_of_ble_eq_true rfl) (m_signOf (l := l) (c := c) (k := k) (by omega) (by omega) (by omega)) ?_
      refine zn_bipushN (pc := 22) 32 rfl rfl ?_
      refine zn_icmp_neN (pc := 24) (tgt := 33) (x := (z (217 + 16 * (8 * l + c) + k))) (y := 32) rfl rfl (by have := hzb (217 + 16 * (8 * l + c) + k); omega) (by have := hzb (217 + 16 * (8 * l + c) + k); omega) (fun c2 => ?_) (fun c2 => ?_)
      · refine zn_iload (pc := 33) rfl rfl ?_
        refine zn_iload_n (pc := 35) rfl rfl ?_
        refine zn_isubN (pc := 36) (x := k) (y := f) rfl (by omega) ?_
        exact zx_i (pc := 37) rfl rfl (by rw [hn2]; simp only [sbl]; rw [if_neg (by assumption), Nat.add_zero]) rfl
      · refine zn_iincN (pc := 27) (L' := [some (.ref 50), some (.int (nI l)), some (.int (nI c)), some (.int (nI f)), some (.int (nI (k + 1)))]) 1 rfl rfl rfl (by decide) rfl ?_
        refine zn_goto (pc := 30) (tgt := 3) rfl rfl ?_
        exact ih (k + 1) R (by omega) (by omega) (by rw [hn2]; simp only [sbl]; rw [if_pos (by assumption)]; omega)
theorem m_runAt  {l c : Nat} (hl : l < 24) (hc : c < 8) (h16 : z (25 + 8 * l + c) ≤ 16) (hzb : ∀ j, z j < 1000) {f : Nat} (hf : f ≤ z (25 + 8 * l + c)) : Zx g zX10_runAt [.ref 50, .int (nI l), .int (nI c), .int (nI f)] (mhp h F S z A X) (some (.int (nI (sbl (mf z l c) (z (25 + 8 * l + c) - f) f)))) (mhp h F S z A X) := by
  show Zn g zX10_runAt 0 [some (.ref 50), some (.int (nI l)), some (.int (nI c)), some (.int (nI f)), none] [] (mhp h F S z A X) 0 0 _
  refine zn_iload_n (pc := 0) rfl rfl ?_
  refine zn_istore (pc := 1) (L' := [some (.ref 50), some (.int (nI l)), some (.int (nI c)), some (.int (nI f)), some (.int (nI f))]) rfl (by decide) rfl ?_
  exact m_runAt_l hl hc h16 hzb (z (25 + 8 * l + c) - f) f _ (by omega) (by omega) (by omega)
theorem m_runs_i {gg : zG} {l g : Nat} (hz : mOK z) (hl : l < z 0) (hg : g < 1000) (hzb : ∀ j, z j < 1000) {c : Nat} {Q : zR → zH → Prop} (hc : c < z (1 + l)) : ∀ (n : Nat) (k s : Nat), z (25 + 8 * l + c) ≤ k + n → Zn gg zX10_runs 5 [some (.ref 50), some (.int (nI l)), some (.int (nI g)), some (.int (nI (s + sRs (mf z l c) (z (25 + 8 * l + c)) g n k))), some (.int (nI (c + 1))), none, none] [] (mhp h F S z A X) 0 0 Q → k ≤ z (25 + 8 * l + c) + 1 → Zn gg zX10_runs 18 [some (.ref 50), some (.int (nI l)), some (.int (nI g)), some (.int (nI s)), some (.int (nI c)), some (.int (nI k)), none] [] (mhp h F S z A X) 0 0 Q := by
  intro n
  induction n with
  | zero =>
    intro k s hn0 hn1 hn2
    have h1 := hz.2.1
    have hzl := hz.2.2.1 l hl
    have h16 := hz.2.2.2 l c hl hc
    have hr9 := sbl_le (mf z l c) (z (25 + 8 * l + c) - k) k
    refine zn_iload (pc := 18) rfl rfl ?_
    refine zn_aload_n (pc := 20) rfl rfl ?_
    refine zn_iload_n (pc := 21) rfl rfl ?_
    refine zn_iload (pc := 22) rfl rfl ?_
    refine zn_callVx (pc := 24) (J := zX10_lengthOf) (o := 50) (as := [.int (nI l), .int (nI c)]) (rest := [.int (nI k)]) rfl rfl rfl rfl rfl rfl rfl rfl (Nat.le_of_ble_eq_true rfl) (Nat.le_of_ble_eq_true rfl) (Nat.le_of_ble_eq_true rfl) (Nat.le_of_ble_eq_true rfl) (m_lengthOf (l := l) (c := c) (by omega) (by omega)) ?_
    refine zn_icmp_geN (pc := 27) (tgt := 67) (x := k) (y := (z (25 + 8 * l + c))) rfl rfl (by omega) (by omega) (fun c1 => ?_) (fun c1 => ?_)
    · refine zn_iincN (pc := 67) (L' := [some (.ref 50), some (.int (nI l)), some (.int (nI g)), some (.int (nI s)), some (.int (nI (c + 1))), some (.int (nI k)), none]) 1 rfl rfl rfl (by decide) rfl ?_
      refine zn_goto (pc := 70) (tgt := 5) rfl rfl ?_
      have e9 : s + sRs (mf z l c) (z (25 + 8 * l + c)) g 0 k = s := by simp only [sRs]; exact Nat.add_zero s
      rw [e9] at hn1
      exact zn_sub (L' := [some (.ref 50), some (.int (nI l)), some (.int (nI g)), some (.int (nI s)), some (.int (nI (c + 1))), none, none]) ⟨rfl, rfl, rfl, rfl, rfl, trivial⟩ hn1
    · exfalso; omega
  | succ n ih =>
    intro k s hn0 hn1 hn2
    have h1 := hz.2.1
    have hzl := hz.2.2.1 l hl
    have h16 := hz.2.2.2 l c hl hc
    have hr9 := sbl_le (mf z l c) (z (25 + 8 * l + c) - k) k
    refine zn_iload (pc := 18) rfl rfl ?_
    refine zn_aload_n (pc := 20) rfl rfl ?_
    refine zn_iload_n (pc := 21) rfl rfl ?_
    refine zn_iload (pc := 22) rfl rfl ?_
    refine zn_callVx (pc := 24) (J := zX10_lengthOf) (o := 50) (as := [.int (nI l), .int (nI c)]) (rest := [.int (nI k)]) rfl rfl rfl rfl rfl rfl rfl rfl (Nat.le_of_ble_eq_true rfl) (Nat.le_of_ble_eq_true rfl) (Nat.le_of_ble_eq_true rfl) (Nat.le_of_ble_eq_true rfl) (m_lengthOf (l := l) (c := c) (by omega) (by omega)) ?_
    refine zn_icmp_geN (pc := 27) (tgt := 67) (x := k) (y := (z (25 + 8 * l + c))) rfl rfl (by omega) (by omega) (fun c1 => ?_) (fun c1 => ?_)
    · refine zn_iincN (pc := 67) (L' := [some (.ref 50), some (.int (nI l)), some (.int (nI g)), some (.int (nI s)), some (.int (nI (c + 1))), some (.int (nI k)), none]) 1 rfl rfl rfl (by decide) rfl ?_
      refine zn_goto (pc := 70) (tgt := 5) rfl rfl ?_
      have e9 : s + sRs (mf z l c) (z (25 + 8 * l + c)) g (n + 1) k = s := by simp only [sRs]; rw [if_neg (by omega)]; exact Nat.add_zero s
      rw [e9] at hn1
      exact zn_sub (L' := [some (.ref 50), some (.int (nI l)), some (.int (nI g)), some (.int (nI s)), some (.int (nI (c + 1))), none, none]) ⟨rfl, rfl, rfl, rfl, rfl, trivial⟩ hn1
    · refine zn_aload_n (pc := 30) rfl rfl ?_
      refine zn_iload_n (pc := 31) rfl rfl ?_
      refine zn_iload (pc := 32) rfl rfl ?_
      refine zn_iload (pc := 34) rfl rfl ?_
      refine zn_callVx (pc := 36) (J := zX10_runAt) (o := 50) (as := [.int (nI l), .int (nI c), .int (nI k)]) (rest := []) rfl rfl rfl rfl rfl rfl rfl rfl (Nat.le_of_ble_eq_true rfl) (Nat.le_of_ble_eq_true rfl) (Nat.le_of_ble_eq_true rfl) (Nat.le_of_ble_eq_true rfl) (m_runAt (l := l) (c := c) (by omega) (by omega) (by omega) hzb (f := k) (by omega)) ?_
      refine zn_istore (pc := 39) (L' := [some (.ref 50), some (.int (nI l)), some (.int (nI g)), some (.int (nI s)), some (.int (nI c)), some (.int (nI k)), some (.int (nI (sbl (mf z l c) (z (25 + 8 * l + c) - k) k)))]) rfl (by decide) rfl ?_
      refine zn_iload_n (pc := 41) rfl rfl ?_
      refine zn_joinV (v := .int (nI (if g ≤ sbl (mf z l c) (z (25 + 8 * l + c) - k) k then 1 else 0))) (pj := 53) ?_ (fun K2 => ?_)
      · refine zn_iaddN (pc := 53) (x := s) (y := (if g ≤ sbl (mf z l c) (z (25 + 8 * l + c) - k) k then 1 else 0)) rfl ?_
        refine zn_istore_n (pc := 54) (L' := [some (.ref 50), some (.int (nI l)), some (.int (nI g)), some (.int (nI (s + (if g ≤ sbl (mf z l c) (z (25 + 8 * l + c) - k) k then 1 else 0)))), some (.int (nI c)), some (.int (nI k)), some (.int (nI (sbl (mf z l c) (z (25 + 8 * l + c) - k) k)))]) rfl (by decide) rfl ?_
        refine zn_iload (pc := 55) rfl rfl ?_
        refine zn_iload (pc := 57) rfl rfl ?_
        refine zn_iconstN (pc := 59) 1 rfl rfl ?_
        refine zn_iaddN (pc := 60) (x := (sbl (mf z l c) (z (25 + 8 * l + c) - k) k)) (y := 1) rfl ?_
        refine zn_iaddN (pc := 61) (x := k) (y := ((sbl (mf z l c) (z (25 + 8 * l + c) - k) k) + 1)) rfl ?_
        refine zn_istore (pc := 62) (L' := [some (.ref 50), some (.int (nI l)), some (.int (nI g)), some (.int (nI (s + (if g ≤ sbl (mf z l c) (z (25 + 8 * l + c) - k) k then 1 else 0)))), some (.int (nI c)), some (.int (nI (k + ((sbl (mf z l c) (z (25 + 8 * l + c) - k) k) + 1)))), some (.int (nI (sbl (mf z l c) (z (25 + 8 * l + c) - k) k)))]) rfl (by decide) rfl ?_
        refine zn_goto (pc := 64) (tgt := 18) rfl rfl ?_
        refine zn_sub (L' := [some (.ref 50), some (.int (nI l)), some (.int (nI g)), some (.int (nI (s + (if g ≤ sbl (mf z l c) (z (25 + 8 * l + c) - k) k then 1 else 0)))), some (.int (nI c)), some (.int (nI (k + (sbl (mf z l c) (z (25 + 8 * l + c) - k) k + 1)))), none]) ⟨rfl, rfl, rfl, rfl, rfl, rfl, trivial⟩ (ih (k + (sbl (mf z l c) (z (25 + 8 * l + c) - k) k + 1)) _ (by omega) ?_ (by omega))
        simp only [sRs] at hn1
        rw [if_pos (by omega), ← Nat.add_assoc s] at hn1
        exact hn1
      · refine zn_iload (pc := 42) rfl rfl ?_
        refine zn_iload_n (pc := 44) rfl rfl ?_
        refine zn_icmp_ltN (pc := 45) (tgt := 52) (x := (sbl (mf z l c) (z (25 + 8 * l + c) - k) k)) (y := g) rfl rfl (by omega) (by omega) (fun c3 => ?_) (fun c3 => ?_)
        · refine zn_iconstN (pc := 52) 0 rfl rfl ?_
          exact zn_top (v' := .int (nI (if g ≤ sbl (mf z l c) (z (25 + 8 * l + c) - k) k then 1 else 0))) (by rw [if_neg (by omega)]) K2
        · refine zn_iconstN (pc := 48) 1 rfl rfl ?_
          refine zn_goto (pc := 49) (tgt := 53) rfl rfl ?_
          exact zn_top (v' := .int (nI (if g ≤ sbl (mf z l c) (z (25 + 8 * l + c) - k) k then 1 else 0))) (by rw [if_pos (by omega)]) K2
theorem m_runs_o {gg : zG} {l g : Nat} (hz : mOK z) (hl : l < z 0) (hg : g < 1000) (hzb : ∀ j, z j < 1000) : ∀ (n : Nat) (c : Nat), c + n = z (1 + l) → Zn gg zX10_runs 5 [some (.ref 50), some (.int (nI l)), some (.int (nI g)), some (.int (nI (mRs z l g c))), some (.int (nI c)), none, none] [] (mhp h F S z A X) 0 0 (fun r' h' => r' = .inl (some (.int (nI (mRs z l g (z (1 + l)))))) ∧ h' = (mhp h F S z A X)) := by
  intro n
  induction n with
  | zero =>
    intro c hn0
    have h1 := hz.2.1
    have hzl := hz.2.2.1 l hl
    refine zn_iload (pc := 5) rfl rfl ?_
    refine zn_aload_n (pc := 7) rfl rfl ?_
    refine zn_iload_n (pc := 8) rfl rfl ?_
    refine zn_callVx (pc := 9) (J := zX10_cells) (o := 50) (as := [.int (nI l)]) (rest := [.int (nI c)]) rfl rfl rfl rfl rfl rfl rfl rfl (Nat.le_of_ble_eq_true rfl) (Nat.le_of_ble_eq_true rfl) (Nat.le_of_ble_eq_true rfl) (Nat.le_of_ble_eq_true rfl) (m_cells (l := l) (by omega)) ?_
    refine zn_icmp_geN (pc := 12) (tgt := 73) (x := c) (y := (z (1 + l))) rfl rfl (by omega) (by omega) (fun c1 => ?_) (fun c1 => ?_)
    · refine zn_iload_n (pc := 73) rfl rfl ?_
      obtain hce : c = z (1 + l) := by omega
      exact zx_i (pc := 74) rfl rfl (by rw [hce]) rfl
    · exfalso; omega
  | succ n ih =>
    intro c hn0
    have h1 := hz.2.1
    have hzl := hz.2.2.1 l hl
    refine zn_iload (pc := 5) rfl rfl ?_
    refine zn_aload_n (pc := 7) rfl rfl ?_
    refine zn_iload_n (pc := 8) rfl rfl ?_
    refine zn_callVx (pc := 9) (J := zX10_cells) (o := 50) (as := [.int (nI l)]) (rest := [.int (nI c)]) rfl rfl rfl rfl rfl rfl rfl rfl (Nat.le_of_ble_eq_true rfl) (Nat.le_of_ble_eq_true rfl) (Nat.le_of_ble_eq_true rfl) (Nat.le_of_ble_eq_true rfl) (m_cells (l := l) (by omega)) ?_
    refine zn_icmp_geN (pc := 12) (tgt := 73) (x := c) (y := (z (1 + l))) rfl rfl (by omega) (by omega) (fun c1 => ?_) (fun c1 => ?_)
    · refine zn_iload_n (pc := 73) rfl rfl ?_
      obtain hce : c = z (1 + l) := by omega
      exact zx_i (pc := 74) rfl rfl (by rw [hce]) rfl
    · refine zn_iconstN (pc := 15) 0 rfl rfl ?_
      refine zn_istore (pc := 16) (L' := [some (.ref 50), some (.int (nI l)), some (.int (nI g)), some (.int (nI (mRs z l g c))), some (.int (nI c)), some (.int (nI 0)), none]) rfl (by decide) rfl ?_
      exact zn_sub (L' := [some (.ref 50), some (.int (nI l)), some (.int (nI g)), some (.int (nI (mRs z l g c))), some (.int (nI c)), some (.int (nI 0)), none]) ⟨rfl, rfl, rfl, rfl, rfl, rfl, trivial⟩ (m_runs_i hz hl hg hzb (by omega) (z (25 + 8 * l + c)) 0 (mRs z l g c) (by omega) (ih (c + 1) (by omega)) (by omega))
theorem m_runs  {gg : zG} {l g : Nat} (hz : mOK z) (hl : l < z 0) (hg : g < 1000) (hzb : ∀ j, z j < 1000) : Zx gg zX10_runs [.ref 50, .int (nI l), .int (nI g)] (mhp h F S z A X) (some (.int (nI (mRs z l g (z (1 + l)))))) (mhp h F S z A X) := by
  have h1 := hz.2.1
  have hzl := hz.2.2.1 l hl
  show Zn gg zX10_runs 0 [some (.ref 50), some (.int (nI l)), some (.int (nI g)), none, none, none, none] [] (mhp h F S z A X) 0 0 _
  refine zn_iconstN (pc := 0) 0 rfl rfl ?_
  refine zn_istore_n (pc := 1) (L' := [some (.ref 50), some (.int (nI l)), some (.int (nI g)), some (.int (nI 0)), none, none, none]) rfl (by decide) rfl ?_
  refine zn_iconstN (pc := 2) 0 rfl rfl ?_
  refine zn_istore (pc := 3) (L' := [some (.ref 50), some (.int (nI l)), some (.int (nI g)), some (.int (nI 0)), some (.int (nI 0)), none, none]) rfl (by decide) rfl ?_
  exact m_runs_o hz hl hg hzb (z (1 + l)) 0 (by omega)
/-- the text when the run at k of cell c has become a tab -/
def mTb (z : Nat → Nat) (l c k r : Nat) : Nat → Nat := va_up (mgt (mopc z l (c + 1)) l c (k + r) l (c + 1)) (25 + 8 * l + c) k
/-- makeTabs: at place k of cell c; none: not over yet, or out of room -/
def mMt (l g : Nat) : Nat → Nat → Nat → (Nat → Nat) → Option (Nat → Nat)
  | 0, _, _, _ => none
  | m + 1, c, k, z => if c < z (1 + l) then (if k < z (25 + 8 * l + c) then (if g ≤ sbl (mf z l c) (z (25 + 8 * l + c) - k) k then (if z (1 + l) < 8 ∧ z (25 + 8 * l + c) ≤ 16 then mMt l g m c k (mTb z l c k (sbl (mf z l c) (z (25 + 8 * l + c) - k) k)) else none) else (if z (25 + 8 * l + c) ≤ 16 ∧ z (1 + l) ≤ 8 then mMt l g m c (k + (sbl (mf z l c) (z (25 + 8 * l + c) - k) k + 1)) z else none)) else (if z (1 + l) ≤ 8 then mMt l g m (c + 1) 0 z else none)) else (if z (1 + l) ≤ 8 then some z else none)
theorem mTb_b {l c k r : Nat} (hk : k < 1000) (h16 : mopc z l (c + 1) (25 + 8 * l + (c + 1)) + (mopc z l (c + 1) (25 + 8 * l + c) - (k + r)) < 1000) (hr : k + r < 1000) (hb : ∀ j, z j < 1000) (h8 : z (1 + l) < 8) (j : Nat) : mTb z l c k r j < 1000 := by
  have hb2 : ∀ j, mopc z l (c + 1) j < 1000 := by
    intro j
    simp only [mopc, mshc, va_up]
    repeat' split
    all_goals first | exact hb _ | omega
  simp only [mTb, mgt, mtail, va_up]
  repeat' split
  all_goals first | exact hb2 _ | omega
theorem mTb_1 {l c k r : Nat} (hl : l < 24) (hc : c < 8) : mTb z l c k r (1 + l) = z (1 + l) + 1 := by
  unfold mTb
  rw [va_upN (by omega), mgt_lo (by omega) (by omega) (by omega)]
  simp only [mopc, va_up]
  rw [if_neg (by omega), if_pos trivial]
theorem mMt_grd {l g m c k : Nat} {z R : Nat → Nat} (hm : mMt l g (m + 1) c k z = some R) (hc : c < z (1 + l)) (hk : k < z (25 + 8 * l + c)) : z (25 + 8 * l + c) ≤ 16 ∧ z (1 + l) ≤ 8 := by
  simp only [mMt] at hm
  rw [if_pos hc, if_pos hk] at hm
  split at hm
  · split at hm
    · omega
    · cases hm
  · split at hm
    · omega
    · cases hm
theorem mMt_end {l g m c k : Nat} {z R : Nat → Nat} (hm : mMt l g (m + 1) c k z = some R) (hc : c < z (1 + l)) (hk : z (25 + 8 * l + c) ≤ k) : z (1 + l) ≤ 8 ∧ mMt l g m (c + 1) 0 z = some R := by
  simp only [mMt] at hm
  rw [if_pos hc, if_neg (by omega)] at hm
  split at hm
  · exact ⟨by omega, hm⟩
  · cases hm
theorem mMt_out {l g m c k : Nat} {z R : Nat → Nat} (hm : mMt l g m c k z = some R) (hc : z (1 + l) ≤ c) : z (1 + l) ≤ 8 ∧ z = R := by
  cases m with
  | zero => simp [mMt] at hm
  | succ m =>
    simp only [mMt] at hm
    rw [if_neg (by omega)] at hm
    split at hm
    · cases hm; exact ⟨by omega, rfl⟩
    · cases hm
theorem m_makeTabs_h {gg : zG} {l g c m : Nat} {w R : Nat → Nat} (hl : l < 24) (hc8 : c < 1000) (hwb : ∀ j, w j < 1000) (hm : mMt l g m c 0 w = some R) (K : c < w (1 + l) → Zn gg zX10_makeTabs 14 [some (.ref 50), some (.int (nI l)), some (.int (nI g)), some (.int (nI c)), some (.int (nI 0)), none] [] (mhp h F S w A X) 0 0 (fun r' h' => r' = .inl none ∧ h' = (mhp h F S R A X))) : Zn gg zX10_makeTabs 2 [some (.ref 50), some (.int (nI l)), some (.int (nI g)), some (.int (nI c)), none, none] [] (mhp h F S w A X) 0 0 (fun r' h' => r' = .inl none ∧ h' = (mhp h F S R A X)) := by
  refine zn_iload_n (pc := 2) rfl rfl ?_
  refine zn_aload_n (pc := 3) rfl rfl ?_
  refine zn_iload_n (pc := 4) rfl rfl ?_
  refine zn_callVx (pc := 5) (J := zX10_cells) (o := 50) (as := [.int (nI l)]) (rest := [.int (nI c)]) rfl rfl rfl rfl rfl rfl rfl rfl (Nat.le_of_ble_eq_true rfl) (Nat.le_of_ble_eq_true rfl) (Nat.le_of_ble_eq_true rfl) (Nat.le_of_ble_eq_true rfl) (m_cells (l := l) (by omega)) ?_
  refine zn_icmp_geN (pc := 8) (tgt := 93) (x := c) (y := (w (1 + l))) rfl rfl (by have := hwb (1 + l); omega) (by have := hwb (1 + l); omega) (fun c1 => ?_) (fun c1 => ?_)
  · have e9 := mMt_out hm (by omega)
    rw [← e9.2]
    exact zx_v (pc := 93) rfl rfl rfl rfl
  · refine zn_iconstN (pc := 11) 0 rfl rfl ?_
    refine zn_istore (pc := 12) (L' := [some (.ref 50), some (.int (nI l)), some (.int (nI g)), some (.int (nI c)), some (.int (nI 0)), none]) rfl (by decide) rfl ?_
    exact K (by omega)
theorem m_makeTabs_l {gg : zG} {l g : Nat} (hl : l < 24) (hg : g < 1000) : ∀ (m c k : Nat) (w R : Nat → Nat), (∀ j, w j < 1000) → c < w (1 + l) → k < 100 → mMt l g m c k w = some R → Zn gg zX10_makeTabs 14 [some (.ref 50), some (.int (nI l)), some (.int (nI g)), some (.int (nI c)), some (.int (nI k)), none] [] (mhp h F S w A X) 0 0 (fun r' h' => r' = .inl none ∧ h' = (mhp h F S R A X)) := by
  intro m
  induction m with
  | zero =>
    intro c k w R hwb hcw hk hm
    simp [mMt] at hm
  | succ m ih =>
    intro c k w R hwb hcw hk hm
    have h8w : w (1 + l) ≤ 8 := by rcases Nat.lt_or_ge k (w (25 + 8 * l + c)) with q | q; exact (mMt_grd hm hcw q).2; exact (mMt_end hm hcw q).1
    refine zn_iload (pc := 14) rfl rfl ?_
    refine zn_aload_n (pc := 16) rfl rfl ?_
    refine zn_iload_n (pc := 17) rfl rfl ?_
    refine zn_iload_n (pc := 18) rfl rfl ?_
    refine zn_callVx (pc := 19) (J := zX10_lengthOf) (o := 50) (as := [.int (nI l), .int (nI c)]) (rest := [.int (nI k)]) rfl rfl rfl rfl rfl rfl rfl rfl (Nat.le_of_ble_eq_true rfl) (Nat.le_of_ble_eq_true rfl) (Nat.le_of_ble_eq_true rfl) (Nat.le_of_ble_eq_true rfl) (m_lengthOf (l := l) (c := c) (by omega) (by omega)) ?_
    refine zn_icmp_geN (pc := 22) (tgt := 87) (x := k) (y := (w (25 + 8 * l + c))) rfl rfl (by have := hwb (25 + 8 * l + c); have := hwb (1 + l); omega) (by have := hwb (25 + 8 * l + c); have := hwb (1 + l); omega) (fun c1 => ?_) (fun c1 => ?_)
    · obtain ⟨q8, qe⟩ := mMt_end hm hcw (by omega)
      refine zn_iincN (pc := 87) (L' := [some (.ref 50), some (.int (nI l)), some (.int (nI g)), some (.int (nI (c + 1))), some (.int (nI k)), none]) 1 rfl rfl rfl (by decide) rfl ?_
      refine zn_goto (pc := 90) (tgt := 2) rfl rfl ?_
      exact zn_sub (L' := [some (.ref 50), some (.int (nI l)), some (.int (nI g)), some (.int (nI (c + 1))), none, none]) ⟨rfl, rfl, rfl, rfl, trivial⟩ (m_makeTabs_h hl (by omega) hwb qe (fun q => ih (c + 1) 0 w R hwb q (by omega) qe))
    · obtain ⟨q16, q8⟩ := mMt_grd hm hcw (by omega)
      have hr9 := sbl_le (mf w l c) (w (25 + 8 * l + c) - k) k
      simp only [mMt] at hm
      rw [if_pos hcw, if_pos (by omega)] at hm
      refine zn_aload_n (pc := 25) rfl rfl ?_
      refine zn_iload_n (pc := 26) rfl rfl ?_
      refine zn_iload_n (pc := 27) rfl rfl ?_
      refine zn_iload (pc := 28) rfl rfl ?_
      refine zn_callVx (pc := 30) (J := zX10_runAt) (o := 50) (as := [.int (nI l), .int (nI c), .int (nI k)]) (rest := []) rfl rfl rfl rfl rfl rfl rfl rfl (Nat.le_of_ble_eq_true rfl) (Nat.le_of_ble_eq_true rfl) (Nat.le_of_ble_eq_true rfl) (Nat.le_of_ble_eq_true rfl) (m_runAt (l := l) (c := c) (by omega) (by omega) (by omega) hwb (f := k) (by omega)) ?_
      refine zn_istore (pc := 33) (L' := [some (.ref 50), some (.int (nI l)), some (.int (nI g)), some (.int (nI c)), some (.int (nI k)), some (.int (nI (sbl (mf w l c) (w (25 + 8 * l + c) - k) k)))]) rfl (by decide) rfl ?_
      refine zn_iload (pc := 35) rfl rfl ?_
      refine zn_iload_n (pc := 37) rfl rfl ?_
      refine zn_icmp_ltN (pc := 38) (tgt := 75) (x := (sbl (mf w l c) (w (25 + 8 * l + c) - k) k)) (y := g) rfl rfl (by have := hwb (25 + 8 * l + c); have := hwb (1 + l); omega) (by have := hwb (25 + 8 * l + c); have := hwb (1 + l); omega) (fun c2 => ?_) (fun c2 => ?_)
      · rw [if_neg (by omega), if_pos ⟨q16, q8⟩] at hm
        refine zn_iload (pc := 75) rfl rfl ?_
        refine zn_iload (pc := 77) rfl rfl ?_
        refine zn_iconstN (pc := 79) 1 rfl rfl ?_
        refine zn_iaddN (pc := 80) (x := (sbl (mf w l c) (w (25 + 8 * l + c) - k) k)) (y := 1) rfl ?_
        refine zn_iaddN (pc := 81) (x := k) (y := ((sbl (mf w l c) (w (25 + 8 * l + c) - k) k) + 1)) rfl ?_
        refine zn_istore (pc := 82) (L' := [some (.ref 50), some (.int (nI l)), some (.int (nI g)), some (.int (nI c)), some (.int (nI (k + ((sbl (mf w l c) (w (25 + 8 * l + c) - k) k) + 1)))), some (.int (nI (sbl (mf w l c) (w (25 + 8 * l + c) - k) k)))]) rfl (by decide) rfl ?_
        refine zn_goto (pc := 84) (tgt := 14) rfl rfl ?_
        exact zn_sub (L' := [some (.ref 50), some (.int (nI l)), some (.int (nI g)), some (.int (nI c)), some (.int (nI (k + (sbl (mf w l c) (w (25 + 8 * l + c) - k) k + 1)))), none]) ⟨rfl, rfl, rfl, rfl, rfl, trivial⟩ (ih c _ w R hwb hcw (by omega) hm)
      · rw [if_pos (by omega)] at hm
        have h8 : w (1 + l) < 8 := by rcases Nat.lt_or_ge (w (1 + l)) 8 with q | q; exact q; rw [if_neg (by omega)] at hm; cases hm
        rw [if_pos ⟨h8, q16⟩] at hm
        have e1 : mopc w l (c + 1) (25 + 8 * l + c) = w (25 + 8 * l + c) := by simp only [mopc, mshc, va_up]; rw [if_neg (by omega), if_neg (by omega), if_neg (by omega), if_neg (by omega)]
        have e2 : mopc w l (c + 1) (25 + 8 * l + (c + 1)) = 0 := by simp only [mopc, va_up]; rw [if_pos trivial]
        refine zn_aload_n (pc := 41) rfl rfl ?_
        refine zn_iload_n (pc := 42) rfl rfl ?_
        refine zn_iload_n (pc := 43) rfl rfl ?_
        refine zn_iconstN (pc := 44) 1 rfl rfl ?_
        refine zn_iaddN (pc := 45) (x := c) (y := 1) rfl ?_
        refine zn_callVx (pc := 46) (J := zX10_openCell) (o := 50) (as := [.int (nI l), .int (nI (c + 1))]) (rest := []) rfl rfl rfl rfl rfl rfl rfl rfl (Nat.le_of_ble_eq_true rfl) (Nat.le_of_ble_eq_true rfl) (Nat.le_of_ble_eq_true rfl) (Nat.le_of_ble_eq_true rfl) (m_openCell (l := l) (c := (c + 1)) (by omega) (by omega) (by omega)) ?_
        refine zn_aload_n (pc := 49) rfl rfl ?_
        refine zn_iload_n (pc := 50) rfl rfl ?_
        refine zn_iload_n (pc := 51) rfl rfl ?_
        refine zn_iload (pc := 52) rfl rfl ?_
        refine zn_iload (pc := 54) rfl rfl ?_
        refine zn_iaddN (pc := 56) (x := k) (y := (sbl (mf w l c) (w (25 + 8 * l + c) - k) k)) rfl ?_
        refine zn_iload_n (pc := 57) rfl rfl ?_
        refine zn_iload_n (pc := 58) rfl rfl ?_
        refine zn_iconstN (pc := 59) 1 rfl rfl ?_
        refine zn_iaddN (pc := 60) (x := c) (y := 1) rfl ?_
        refine zn_callVx (pc := 61) (J := zX10_giveTail) (o := 50) (as := [.int (nI l), .int (nI c), .int (nI (k + (sbl (mf w l c) (w (25 + 8 * l + c) - k) k))), .int (nI l), .int (nI (c + 1))]) (rest := []) rfl rfl rfl rfl rfl rfl rfl rfl (Nat.le_of_ble_eq_true rfl) (Nat.le_of_ble_eq_true rfl) (Nat.le_of_ble_eq_true rfl) (Nat.le_of_ble_eq_true rfl) (m_giveTail (l := l) (c := c) (f := (k + (sbl (mf w l c) (w (25 + 8 * l + c) - k) k))) (t := l) (u := (c + 1)) (by omega) (by omega) (by omega) (by omega) (by omega) (by omega) (by omega) (by omega)) ?_
        refine zn_aload_n (pc := 64) rfl rfl ?_
        refine zn_iload_n (pc := 65) rfl rfl ?_
        refine zn_iload_n (pc := 66) rfl rfl ?_
        refine zn_iload (pc := 67) rfl rfl ?_
        refine zn_callVx (pc := 69) (J := zX10_setLength) (o := 50) (as := [.int (nI l), .int (nI c), .int (nI k)]) (rest := []) rfl rfl rfl rfl rfl rfl rfl rfl (Nat.le_of_ble_eq_true rfl) (Nat.le_of_ble_eq_true rfl) (Nat.le_of_ble_eq_true rfl) (Nat.le_of_ble_eq_true rfl) (m_setLength (l := l) (c := c) (n := k) (by omega) (by omega)) ?_
        refine zn_goto (pc := 72) (tgt := 84) rfl rfl ?_
        refine zn_goto (pc := 84) (tgt := 14) rfl rfl ?_
        exact zn_sub (L' := [some (.ref 50), some (.int (nI l)), some (.int (nI g)), some (.int (nI c)), some (.int (nI k)), none]) ⟨rfl, rfl, rfl, rfl, rfl, trivial⟩ (ih c k _ R (mTb_b (by omega) (by rw [e1, e2]; omega) (by omega) hwb h8) (show c < mTb w l c k (sbl (mf w l c) (w (25 + 8 * l + c) - k) k) (1 + l) by rw [mTb_1 hl (by omega)]; omega) hk hm)
theorem m_makeTabs  {gg : zG} {l g m : Nat} {R : Nat → Nat} (hl : l < 24) (hg : g < 1000) (hzb : ∀ j, z j < 1000) (hm : mMt l g m 0 0 z = some R) : Zx gg zX10_makeTabs [.ref 50, .int (nI l), .int (nI g)] (mhp h F S z A X) none (mhp h F S R A X) := by
  show Zn gg zX10_makeTabs 0 [some (.ref 50), some (.int (nI l)), some (.int (nI g)), none, none, none] [] (mhp h F S z A X) 0 0 _
  refine zn_iconstN (pc := 0) 0 rfl rfl ?_
  refine zn_istore_n (pc := 1) (L' := [some (.ref 50), some (.int (nI l)), some (.int (nI g)), some (.int (nI 0)), none, none]) rfl (by decide) rfl ?_
  exact m_makeTabs_h hl (by omega) hzb hm (fun q => m_makeTabs_l hl hg m 0 0 z R hzb q (by omega) hm)
end m1
