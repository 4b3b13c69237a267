section m1
variable {g : zG} {h hh : zH} {F : Nat → Nat} {S : Int64} {z : Nat → Nat} {A : Nat → Nat → Nat} {X : Nat → Int32}
def mFi (z B : Nat → Nat) (m l : Nat) : Nat → Nat → Option Nat
  | 0, _ => none
  | n + 1, c => if sEq z B m l c m then some (100 * l + c) else mFi z B m l n (c + 1)
def mFo (z B : Nat → Nat) (m : Nat) : Nat → Nat → Nat → Option Nat
  | 0, _, _ => none
  | n + 1, l, c => (mFi z B m l (z (1 + l) - c) c).or (mFo z B m n (l + 1) 0)
theorem m_findNow_i (hz : mOK z) (hzb : ∀ j, z j < 1000) (hs : F 11 ≤ 120) (hb : ∀ j, A 5 j < 1000) {ln cl : Nat} (hln : ln < z 0) (hcl : cl < z (1 + ln)) {l : Nat} (hl : l < z 0) {R R2 : Option Nat} : ∀ (n : Nat) (c : Nat), c + n = z (1 + l) → R = (mFi z (A 5) (F 11) l n c).or R2 → Zn g zX10_findNow 2 [some (.ref 50), some (.int (nI ln)), some (.int (nI cl)), some (.int (nI (l + 1))), none] [] (mhp h F S z A X) 0 0 (fun r' h' => r' = .inl (some (.int (oI (R2)))) ∧ h' = (mhp h F S z A X)) → Zn g zX10_findNow 26 [some (.ref 50), some (.int (nI ln)), some (.int (nI cl)), some (.int (nI l)), some (.int (nI c))] [] (mhp h F S z A X) 0 0 (fun r' h' => r' = .inl (some (.int (oI (R)))) ∧ h' = (mhp h F S z A X)) := by
  intro n
  induction n with
  | zero =>
    intro c hn0 hn1 hn2
    have h0 := hz.1
    have h1 := hz.2.1
    have hzl := hz.2.2.1 l hl
    refine zn_iload (pc := 26) rfl rfl ?_
    refine zn_aload_n (pc := 28) rfl rfl ?_
    refine zn_iload_n (pc := 29) rfl rfl ?_
    refine zn_callVx (pc := 30) (J := zX10_cells) (o := 50) (as := [.int (nI l)]) (rest := [.int (nI c)]) rfl rfl rfl rfl rfl rfl rfl rfl (Nat.le_of_ble_eq_true rfl) (Nat.le_of_ble_eq_true rfl) (Nat.le_of_ble_eq_true rfl) (Nat.le_of_ble_eq_true rfl) (m_cells (l := l) (by omega)) ?_
    refine zn_icmp_geN (pc := 33) (tgt := 60) (x := c) (y := (z (1 + l))) rfl rfl (by omega) (by omega) (fun c1 => ?_) (fun c1 => ?_)
    · refine zn_iincN (pc := 60) (L' := [some (.ref 50), some (.int (nI ln)), some (.int (nI cl)), some (.int (nI (l + 1))), some (.int (nI c))]) 1 rfl rfl rfl (by decide) rfl ?_
      refine zn_goto (pc := 63) (tgt := 2) rfl rfl ?_
      have e8 : R = R2 := by rw [hn1]; simp only [mFi]; rfl
      rw [e8]
      exact zn_sub (L' := [some (.ref 50), some (.int (nI ln)), some (.int (nI cl)), some (.int (nI (l + 1))), none]) ⟨rfl, rfl, rfl, rfl, trivial⟩ hn2
    · exfalso; omega
  | succ n ih =>
    intro c hn0 hn1 hn2
    have h0 := hz.1
    have h1 := hz.2.1
    have hzl := hz.2.2.1 l hl
    refine zn_iload (pc := 26) rfl rfl ?_
    refine zn_aload_n (pc := 28) rfl rfl ?_
    refine zn_iload_n (pc := 29) rfl rfl ?_
    refine zn_callVx (pc := 30) (J := zX10_cells) (o := 50) (as := [.int (nI l)]) (rest := [.int (nI c)]) rfl rfl rfl rfl rfl rfl rfl rfl (Nat.le_of_ble_eq_true rfl) (Nat.le_of_ble_eq_true rfl) (Nat.le_of_ble_eq_true rfl) (Nat.le_of_ble_eq_true rfl) (m_cells (l := l) (by omega)) ?_
    refine zn_icmp_geN (pc := 33) (tgt := 60) (x := c) (y := (z (1 + l))) rfl rfl (by omega) (by omega) (fun c1 => ?_) (fun c1 => ?_)
    · refine zn_iincN (pc := 60) (L' := [some (.ref 50), some (.int (nI ln)), some (.int (nI cl)), some (.int (nI (l + 1))), some (.int (nI c))]) 1 rfl rfl rfl (by decide) rfl ?_
      refine zn_goto (pc := 63) (tgt := 2) rfl rfl ?_
      exfalso; omega
    · have h16 := hz.2.2.2 l c hl (by omega)
      refine zn_aload_n (pc := 36) rfl rfl ?_
      refine zn_iload_n (pc := 37) rfl rfl ?_
      refine zn_iload (pc := 38) rfl rfl ?_
      refine zn_callVx (pc := 40) (J := zX10_isBuffer) (o := 50) (as := [.int (nI l), .int (nI c)]) (rest := []) rfl rfl rfl rfl rfl rfl rfl rfl (Nat.le_of_ble_eq_true rfl) (Nat.le_of_ble_eq_true rfl) (Nat.le_of_ble_eq_true rfl) (Nat.le_of_ble_eq_true rfl) (m_isBuffer (l := l) (c := c) (by omega) (by omega) (by omega) hzb hs hb) ?_
      refine zn_if_eqB (pc := 43) (tgt := 54) rfl rfl (fun c2 => ?_) (fun c2 => ?_)
      · refine zn_iincN (pc := 54) (L' := [some (.ref 50), some (.int (nI ln)), some (.int (nI cl)), some (.int (nI l)), some (.int (nI (c + 1)))]) 1 rfl rfl rfl (by decide) rfl ?_
        refine zn_goto (pc := 57) (tgt := 26) rfl rfl ?_
        exact ih (c + 1) (by omega) (by rw [hn1]; simp only [mFi]; rw [if_neg (by assumption)]) hn2
      · refine zn_bipushN (pc := 46) 100 rfl rfl ?_
        refine zn_iload_n (pc := 48) rfl rfl ?_
        refine zn_imulN (pc := 49) (x := 100) (y := l) rfl ?_
        refine zn_iload (pc := 50) rfl rfl ?_
        refine zn_iaddN (pc := 52) (x := (100 * l)) (y := c) rfl ?_
        exact zx_i (pc := 53) rfl rfl (by rw [hn1]; simp only [mFi]; rw [if_pos (by assumption)]; rfl) rfl
theorem m_findNow_o (hz : mOK z) (hzb : ∀ j, z j < 1000) (hs : F 11 ≤ 120) (hb : ∀ j, A 5 j < 1000) {ln cl : Nat} (hln : ln < z 0) (hcl : cl < z (1 + ln)) : ∀ (n : Nat) (l : Nat) (R : Option Nat), l + n = z 0 → ln ≤ l → R = mFo z (A 5) (F 11) n l (if l = ln then cl + 1 else 0) → Zn g zX10_findNow 2 [some (.ref 50), some (.int (nI ln)), some (.int (nI cl)), some (.int (nI l)), none] [] (mhp h F S z A X) 0 0 (fun r' h' => r' = .inl (some (.int (oI (R)))) ∧ h' = (mhp h F S z A X)) := by
  intro n
  induction n with
  | zero =>
    intro l R hn0 hn1 hn2
    have h0 := hz.1
    have h1 := hz.2.1
    refine zn_iload_n (pc := 2) rfl rfl ?_
    refine zn_aload_n (pc := 3) rfl rfl ?_
    refine zn_get (pc := 4) (v := .ref 51) rfl rfl rfl ?_
    refine zn_iconstN (pc := 7) 0 rfl rfl ?_
    refine zn_naLd (pc := 8) (o := 51) (n := 3289) (Z := z) (j := 0) rfl rfl (by omega) (Nat.le_of_ble_eq_true rfl) ?_
    refine zn_icmp_geN (pc := 9) (tgt := 66) (x := l) (y := (z 0)) rfl rfl (by omega) (by omega) (fun c1 => ?_) (fun c1 => ?_)
    · refine zn_iconst (pc := 66) (-1) rfl rfl ?_
      exact zx_i (pc := 67) rfl rfl (by rw [hn2]; simp only [mFo]; rfl) rfl
    · exfalso; omega
  | succ n ih =>
    intro l R hn0 hn1 hn2
    have h0 := hz.1
    have h1 := hz.2.1
    refine zn_iload_n (pc := 2) rfl rfl ?_
    refine zn_aload_n (pc := 3) rfl rfl ?_
    refine zn_get (pc := 4) (v := .ref 51) rfl rfl rfl ?_
    refine zn_iconstN (pc := 7) 0 rfl rfl ?_
    refine zn_naLd (pc := 8) (o := 51) (n := 3289) (Z := z) (j := 0) rfl rfl (by omega) (Nat.le_of_ble_eq_true rfl) ?_
    refine zn_icmp_geN (pc := 9) (tgt := 66) (x := l) (y := (z 0)) rfl rfl (by omega) (by omega) (fun c1 => ?_) (fun c1 => ?_)
    · refine zn_iconst (pc := 66) (-1) rfl rfl ?_
      exfalso; omega
    · refine zn_joinV (v := .int (nI (if l = ln then cl + 1 else 0))) (pj := 24) ?_ (fun K2 => ?_)
      · refine zn_istore (pc := 24) (L' := [some (.ref 50), some (.int (nI ln)), some (.int (nI cl)), some (.int (nI l)), some (.int (nI (if l = ln then cl + 1 else 0)))]) rfl (by decide) rfl ?_
        simp only [mFo] at hn2
        have e7 : (if l + 1 = ln then cl + 1 else 0) = 0 := if_neg (by omega)
        refine m_findNow_i hz hzb hs hb hln hcl (by omega) (R2 := mFo z (A 5) (F 11) n (l + 1) 0) (z (1 + l) - (if l = ln then cl + 1 else 0)) _ ?_ hn2 ?_
        · split
          · rename_i e6; subst e6; omega
          · omega
        · have q9 := ih (l + 1) _ (by omega) (by omega) rfl
          rw [e7] at q9
          exact q9
      · refine zn_iload_n (pc := 12) rfl rfl ?_
        refine zn_iload_n (pc := 13) rfl rfl ?_
        refine zn_icmp_neN (pc := 14) (tgt := 23) (x := l) (y := ln) rfl rfl (by omega) (by omega) (fun c3 => ?_) (fun c3 => ?_)
        · refine zn_iconstN (pc := 23) 0 rfl rfl ?_
          exact zn_top (v' := .int (nI (if l = ln then cl + 1 else 0))) (by rw [if_neg (by omega)]) K2
        · refine zn_iload_n (pc := 17) rfl rfl ?_
          refine zn_iconstN (pc := 18) 1 rfl rfl ?_
          refine zn_iaddN (pc := 19) (x := cl) (y := 1) rfl ?_
          refine zn_goto (pc := 20) (tgt := 24) rfl rfl ?_
          exact zn_top (v' := .int (nI (if l = ln then cl + 1 else 0))) (by rw [if_pos (by omega)]) K2
theorem m_findNow  (hz : mOK z) (hzb : ∀ j, z j < 1000) (hs : F 11 ≤ 120) (hb : ∀ j, A 5 j < 1000) {ln cl : Nat} (hln : ln < z 0) (hcl : cl < z (1 + ln)) : Zx g zX10_findNow [.ref 50, .int (nI ln), .int (nI cl)] (mhp h F S z A X) (some (.int (oI (mFo z (A 5) (F 11) (z 0 - ln) ln (cl + 1))))) (mhp h F S z A X) := by
  show Zn g zX10_findNow 0 [some (.ref 50), some (.int (nI ln)), some (.int (nI cl)), none, none] [] (mhp h F S z A X) 0 0 _
  refine zn_iload_n (pc := 0) rfl rfl ?_
  refine zn_istore_n (pc := 1) (L' := [some (.ref 50), some (.int (nI ln)), some (.int (nI cl)), some (.int (nI ln)), none]) rfl (by decide) rfl ?_
  exact m_findNow_o hz hzb hs hb hln hcl (z 0 - ln) ln _ (by omega) (by omega) (by rw [if_pos rfl])
theorem m_find_1  (hz : mOK z) (x y : Int32) (hp : ¬ mCell z x y) : Zx g zX10_find [.ref 50, .int x, .int y] (mhp h F S z A X) (some (.int (nI 0))) (mhp h (va_up F 0 1) S z A X) := by
  show Zn g zX10_find 0 [some (.ref 50), some (.int x), some (.int y)] [] (mhp h F S z A X) 0 0 _
  refine zn_aload_n (pc := 0) rfl rfl ?_
  refine zn_aload_n (pc := 1) rfl rfl ?_
  refine zn_iload_n (pc := 2) rfl rfl ?_
  refine zn_iload_n (pc := 3) rfl rfl ?_
  refine zn_callVx (pc := 4) (J := zX10_isCell) (o := 50) (as := [.int x, .int y]) (rest := [.ref 50]) rfl rfl rfl rfl rfl rfl rfl rfl (Nat.le_of_ble_eq_true rfl) (Nat.le_of_ble_eq_true rfl) (Nat.le_of_ble_eq_true rfl) (Nat.le_of_ble_eq_true rfl) (m_isCell hz x y) ?_
  refine zn_if_neB (pc := 7) (tgt := 14) rfl rfl (fun c1 => ?_) (fun c1 => ?_)
  · exact absurd c1 hp
  · refine zn_iconstN (pc := 10) 1 rfl rfl ?_
    refine zn_goto (pc := 11) (tgt := 27) rfl rfl ?_
    refine zm_putI (pc := 27) (k := 0) (v := 1) rfl (by decide) rfl rfl ?_
    refine zn_aload_n (pc := 30) rfl rfl ?_
    refine zn_get (pc := 31) (v := .int (nI 1)) rfl rfl rfl ?_
    refine zn_if_leN (pc := 34) (tgt := 41) (x := 1) rfl rfl (by omega) (fun c2 => ?_) (fun c2 => ?_)
    · exfalso; omega
    · refine zn_iconstN (pc := 37) 0 rfl rfl ?_
      refine zn_goto (pc := 38) (tgt := 47) rfl rfl ?_
      exact zx_i (pc := 47) rfl rfl rfl rfl
theorem m_find_2  (hz : mOK z) {l c : Nat} (hl : l < z 0) (hc : c < z (1 + l)) (hs : F 11 ≤ 120) (hb : ∀ j, A 5 j < 1000) (hr : ¬ mrl (A 5) 0 (F 11) 0 0 0 0 = F 11) : Zx g zX10_find [.ref 50, .int (nI l), .int (nI c)] (mhp h F S z A X) (some (.int (nI 0))) (mhp h (va_up F 0 2) S z A X) := by
  have h0 := hz.1
  have h1 := hz.2.1
  have hzl := hz.2.2.1 l hl
  have hzc := hz.2.2.2 l c hl hc
  have hp := mCell_nI hz hl hc
  show Zn g zX10_find 0 [some (.ref 50), some (.int (nI l)), some (.int (nI c))] [] (mhp h F S z A X) 0 0 _
  refine zn_aload_n (pc := 0) rfl rfl ?_
  refine zn_aload_n (pc := 1) rfl rfl ?_
  refine zn_iload_n (pc := 2) rfl rfl ?_
  refine zn_iload_n (pc := 3) rfl rfl ?_
  refine zn_callVx (pc := 4) (J := zX10_isCell) (o := 50) (as := [.int (nI l), .int (nI c)]) (rest := [.ref 50]) rfl rfl rfl rfl rfl rfl rfl rfl (Nat.le_of_ble_eq_true rfl) (Nat.le_of_ble_eq_true rfl) (Nat.le_of_ble_eq_true rfl) (Nat.le_of_ble_eq_true rfl) (m_isCell hz (nI l) (nI c)) ?_
  refine zn_if_neB (pc := 7) (tgt := 14) rfl rfl (fun c1 => ?_) (fun c1 => ?_)
  · refine zn_aload_n (pc := 14) rfl rfl ?_
    refine zn_iconstN (pc := 15) 0 rfl rfl ?_
    refine zn_callVx (pc := 16) (J := zX10_isRight) (o := 50) (as := [.int (nI 0)]) (rest := [.ref 50]) rfl rfl rfl rfl rfl rfl rfl rfl (Nat.le_of_ble_eq_true rfl) (Nat.le_of_ble_eq_true rfl) (Nat.le_of_ble_eq_true rfl) (Nat.le_of_ble_eq_true rfl) (m_isRight (kd := 0) (by omega) hs hb) ?_
    refine zn_if_eqB (pc := 19) (tgt := 26) rfl rfl (fun c2 => ?_) (fun c2 => ?_)
    · refine zn_iconstN (pc := 26) 2 rfl rfl ?_
      refine zm_putI (pc := 27) (k := 0) (v := 2) rfl (by decide) rfl rfl ?_
      refine zn_aload_n (pc := 30) rfl rfl ?_
      refine zn_get (pc := 31) (v := .int (nI 2)) rfl rfl rfl ?_
      refine zn_if_leN (pc := 34) (tgt := 41) (x := 2) rfl rfl (by omega) (fun c3 => ?_) (fun c3 => ?_)
      · exfalso; omega
      · refine zn_iconstN (pc := 37) 0 rfl rfl ?_
        refine zn_goto (pc := 38) (tgt := 47) rfl rfl ?_
        exact zx_i (pc := 47) rfl rfl rfl rfl
    · exact absurd c2 hr
  · exact absurd hp c1
theorem m_find_0  (hz : mOK z) {l c : Nat} (hl : l < z 0) (hc : c < z (1 + l)) (hzb : ∀ j, z j < 1000) (hs : F 11 ≤ 120) (hb : ∀ j, A 5 j < 1000) (hr : mrl (A 5) 0 (F 11) 0 0 0 0 = F 11) : Zx g zX10_find [.ref 50, .int (nI l), .int (nI c)] (mhp h F S z A X) (some (.int (oI (mFo z (A 5) (F 11) (z 0 - l) l (c + 1))))) (mhp h (va_up F 0 0) S z A X) := by
  have h0 := hz.1
  have h1 := hz.2.1
  have hzl := hz.2.2.1 l hl
  have hzc := hz.2.2.2 l c hl hc
  have hp := mCell_nI hz hl hc
  show Zn g zX10_find 0 [some (.ref 50), some (.int (nI l)), some (.int (nI c))] [] (mhp h F S z A X) 0 0 _
  refine zn_aload_n (pc := 0) rfl rfl ?_
  refine zn_aload_n (pc := 1) rfl rfl ?_
  refine zn_iload_n (pc := 2) rfl rfl ?_
  refine zn_iload_n (pc := 3) rfl rfl ?_
  refine zn_callVx (pc := 4) (J := zX10_isCell) (o := 50) (as := [.int (nI l), .int (nI c)]) (rest := [.ref 50]) rfl rfl rfl rfl rfl rfl rfl rfl (Nat.le_of_ble_eq_true rfl) (Nat.le_of_ble_eq_true rfl) (Nat.le_of_ble_eq_true rfl) (Nat.le_of_ble_eq_true rfl) (m_isCell hz (nI l) (nI c)) ?_
  refine zn_if_neB (pc := 7) (tgt := 14) rfl rfl (fun c1 => ?_) (fun c1 => ?_)
  · refine zn_aload_n (pc := 14) rfl rfl ?_
    refine zn_iconstN (pc := 15) 0 rfl rfl ?_
    refine zn_callVx (pc := 16) (J := zX10_isRight) (o := 50) (as := [.int (nI 0)]) (rest := [.ref 50]) rfl rfl rfl rfl rfl rfl rfl rfl (Nat.le_of_ble_eq_true rfl) (Nat.le_of_ble_eq_true rfl) (Nat.le_of_ble_eq_true rfl) (Nat.le_of_ble_eq_true rfl) (m_isRight (kd := 0) (by omega) hs hb) ?_
    refine zn_if_eqB (pc := 19) (tgt := 26) rfl rfl (fun c2 => ?_) (fun c2 => ?_)
    · exact absurd hr c2
    · refine zn_iconstN (pc := 22) 0 rfl rfl ?_
      refine zn_goto (pc := 23) (tgt := 27) rfl rfl ?_
      refine zm_putI (pc := 27) (k := 0) (v := 0) rfl (by decide) rfl rfl ?_
      refine zn_aload_n (pc := 30) rfl rfl ?_
      refine zn_get (pc := 31) (v := .int (nI 0)) rfl rfl rfl ?_
      refine zn_if_leN (pc := 34) (tgt := 41) (x := 0) rfl rfl (by omega) (fun c3 => ?_) (fun c3 => ?_)
      · refine zn_aload_n (pc := 41) rfl rfl ?_
        refine zn_iload_n (pc := 42) rfl rfl ?_
        refine zn_iload_n (pc := 43) rfl rfl ?_
        refine zn_callVx (pc := 44) (J := zX10_findNow) (o := 50) (as := [.int (nI l), .int (nI c)]) (rest := []) rfl rfl rfl rfl rfl rfl rfl rfl (Nat.le_of_ble_eq_true rfl) (Nat.le_of_ble_eq_true rfl) (Nat.le_of_ble_eq_true rfl) (Nat.le_of_ble_eq_true rfl) (m_findNow (F := va_up F 0 0) hz hzb hs hb (ln := l) (cl := c) (by omega) (by omega)) ?_
        exact zx_i (pc := 47) rfl rfl rfl rfl
      · exfalso; omega
  · exact absurd hp c1
def mBn (A : Nat → Nat → Nat) (z : Nat → Nat) (b c f t : Nat) : Nat → Nat
  | 0 => A 6 b
  | 1 => A 7 b
  | 2 => A 8 b
  | 3 => A 12 b
  | 4 => A 9 b
  | 5 => A 10 b
  | 6 => bNum (mK z c) (t + 1 - f) f
  | _ => A 11 b
def bSm (z : Nat → Nat) (c : Nat) : Nat → Nat → Int64 → Int64
  | 0, _, s => s
  | m + 1, l, s => bSm z c m (l + 1) (s + if mK z c l = 1 then sVal (mf z l c) (mN z c l) else 0)
def bSum (z : Nat → Nat) (c f t : Nat) : Int64 := bSm z c (t + 1 - f) f 0
theorem m_blockNow_0  {b c f t : Nat} (hb : b < 168) (h6 : A 6 b = c) (h7 : A 7 b = f) (h8 : A 8 b = t) (hB : mBlk z c f t) (hzb : ∀ j, z j < 1000) : Zx g zX10_blockNow [.ref 50, .int (nI b), .int (nI 0)] (mhp h F S z A X) (some (.int (nI (mBn A z b c f t 0)))) (mhp h F S z A X) := by
  show Zn g zX10_blockNow 0 [some (.ref 50), some (.int (nI b)), some (.int (nI 0))] [] (mhp h F S z A X) 0 0 _
  refine zn_iload_n (pc := 0) rfl rfl ?_
  refine zn_tabIn (pc := 1) (x := nI 0) (off := 43) (tgt := 44) rfl (by decide +kernel) (by decide +kernel) (by rw [show (nI 0).toInt = 0 by decide +kernel]; rfl) rfl ?_
  refine zn_aload_n (pc := 44) rfl rfl ?_
  refine zn_get (pc := 45) (v := .ref 57) rfl rfl rfl ?_
  refine zn_iload_n (pc := 48) rfl rfl ?_
  refine zm_ldA (pc := 49) (i := 6) (n := 168) (Z := (A 6)) (j := b) rfl (by decide) (by decide) rfl mln6 rfl (by omega) (Nat.le_of_ble_eq_true rfl) ?_
  exact zx_i (pc := 50) rfl rfl rfl rfl
theorem m_blockNow_1  {b c f t : Nat} (hb : b < 168) (h6 : A 6 b = c) (h7 : A 7 b = f) (h8 : A 8 b = t) (hB : mBlk z c f t) (hzb : ∀ j, z j < 1000) : Zx g zX10_blockNow [.ref 50, .int (nI b), .int (nI 1)] (mhp h F S z A X) (some (.int (nI (mBn A z b c f t 1)))) (mhp h F S z A X) := by
  show Zn g zX10_blockNow 0 [some (.ref 50), some (.int (nI b)), some (.int (nI 1))] [] (mhp h F S z A X) 0 0 _
  refine zn_iload_n (pc := 0) rfl rfl ?_
  refine zn_tabIn (pc := 1) (x := nI 1) (off := 50) (tgt := 51) rfl (by decide +kernel) (by decide +kernel) (by rw [show (nI 1).toInt = 1 by decide +kernel]; rfl) rfl ?_
  refine zn_aload_n (pc := 51) rfl rfl ?_
  refine zn_get (pc := 52) (v := .ref 58) rfl rfl rfl ?_
  refine zn_iload_n (pc := 55) rfl rfl ?_
  refine zm_ldA (pc := 56) (i := 7) (n := 168) (Z := (A 7)) (j := b) rfl (by decide) (by decide) rfl mln7 rfl (by omega) (Nat.le_of_ble_eq_true rfl) ?_
  exact zx_i (pc := 57) rfl rfl rfl rfl
theorem m_blockNow_2  {b c f t : Nat} (hb : b < 168) (h6 : A 6 b = c) (h7 : A 7 b = f) (h8 : A 8 b = t) (hB : mBlk z c f t) (hzb : ∀ j, z j < 1000) : Zx g zX10_blockNow [.ref 50, .int (nI b), .int (nI 2)] (mhp h F S z A X) (some (.int (nI (mBn A z b c f t 2)))) (mhp h F S z A X) := by
  show Zn g zX10_blockNow 0 [some (.ref 50), some (.int (nI b)), some (.int (nI 2))] [] (mhp h F S z A X) 0 0 _
  refine zn_iload_n (pc := 0) rfl rfl ?_
  refine zn_tabIn (pc := 1) (x := nI 2) (off := 57) (tgt := 58) rfl (by decide +kernel) (by decide +kernel) (by rw [show (nI 2).toInt = 2 by decide +kernel]; rfl) rfl ?_
  refine zn_aload_n (pc := 58) rfl rfl ?_
  refine zn_get (pc := 59) (v := .ref 59) rfl rfl rfl ?_
  refine zn_iload_n (pc := 62) rfl rfl ?_
  refine zm_ldA (pc := 63) (i := 8) (n := 168) (Z := (A 8)) (j := b) rfl (by decide) (by decide) rfl mln8 rfl (by omega) (Nat.le_of_ble_eq_true rfl) ?_
  exact zx_i (pc := 64) rfl rfl rfl rfl
theorem m_blockNow_3  {b c f t : Nat} (hb : b < 168) (h6 : A 6 b = c) (h7 : A 7 b = f) (h8 : A 8 b = t) (hB : mBlk z c f t) (hzb : ∀ j, z j < 1000) : Zx g zX10_blockNow [.ref 50, .int (nI b), .int (nI 3)] (mhp h F S z A X) (some (.int (nI (mBn A z b c f t 3)))) (mhp h F S z A X) := by
  show Zn g zX10_blockNow 0 [some (.ref 50), some (.int (nI b)), some (.int (nI 3))] [] (mhp h F S z A X) 0 0 _
  refine zn_iload_n (pc := 0) rfl rfl ?_
  refine zn_tabIn (pc := 1) (x := nI 3) (off := 64) (tgt := 65) rfl (by decide +kernel) (by decide +kernel) (by rw [show (nI 3).toInt = 3 by decide +kernel]; rfl) rfl ?_
  refine zn_aload_n (pc := 65) rfl rfl ?_
  refine zn_get (pc := 66) (v := .ref 63) rfl rfl rfl ?_
  refine zn_iload_n (pc := 69) rfl rfl ?_
  refine zm_ldA (pc := 70) (i := 12) (n := 168) (Z := (A 12)) (j := b) rfl (by decide) (by decide) rfl mln12 rfl (by omega) (Nat.le_of_ble_eq_true rfl) ?_
  exact zx_i (pc := 71) rfl rfl rfl rfl
theorem m_blockNow_4  {b c f t : Nat} (hb : b < 168) (h6 : A 6 b = c) (h7 : A 7 b = f) (h8 : A 8 b = t) (hB : mBlk z c f t) (hzb : ∀ j, z j < 1000) : Zx g zX10_blockNow [.ref 50, .int (nI b), .int (nI 4)] (mhp h F S z A X) (some (.int (nI (mBn A z b c f t 4)))) (mhp h F S z A X) := by
  show Zn g zX10_blockNow 0 [some (.ref 50), some (.int (nI b)), some (.int (nI 4))] [] (mhp h F S z A X) 0 0 _
  refine zn_iload_n (pc := 0) rfl rfl ?_
  refine zn_tabIn (pc := 1) (x := nI 4) (off := 71) (tgt := 72) rfl (by decide +kernel) (by decide +kernel) (by rw [show (nI 4).toInt = 4 by decide +kernel]; rfl) rfl ?_
  refine zn_aload_n (pc := 72) rfl rfl ?_
  refine zn_get (pc := 73) (v := .ref 60) rfl rfl rfl ?_
  refine zn_iload_n (pc := 76) rfl rfl ?_
  refine zm_ldA (pc := 77) (i := 9) (n := 168) (Z := (A 9)) (j := b) rfl (by decide) (by decide) rfl mln9 rfl (by omega) (Nat.le_of_ble_eq_true rfl) ?_
  exact zx_i (pc := 78) rfl rfl rfl rfl
theorem m_blockNow_5  {b c f t : Nat} (hb : b < 168) (h6 : A 6 b = c) (h7 : A 7 b = f) (h8 : A 8 b = t) (hB : mBlk z c f t) (hzb : ∀ j, z j < 1000) : Zx g zX10_blockNow [.ref 50, .int (nI b), .int (nI 5)] (mhp h F S z A X) (some (.int (nI (mBn A z b c f t 5)))) (mhp h F S z A X) := by
  show Zn g zX10_blockNow 0 [some (.ref 50), some (.int (nI b)), some (.int (nI 5))] [] (mhp h F S z A X) 0 0 _
  refine zn_iload_n (pc := 0) rfl rfl ?_
  refine zn_tabIn (pc := 1) (x := nI 5) (off := 78) (tgt := 79) rfl (by decide +kernel) (by decide +kernel) (by rw [show (nI 5).toInt = 5 by decide +kernel]; rfl) rfl ?_
  refine zn_aload_n (pc := 79) rfl rfl ?_
  refine zn_get (pc := 80) (v := .ref 61) rfl rfl rfl ?_
  refine zn_iload_n (pc := 83) rfl rfl ?_
  refine zm_ldA (pc := 84) (i := 10) (n := 168) (Z := (A 10)) (j := b) rfl (by decide) (by decide) rfl mln10 rfl (by omega) (Nat.le_of_ble_eq_true rfl) ?_
  exact zx_i (pc := 85) rfl rfl rfl rfl
theorem m_blockNow_6  {b c f t : Nat} (hb : b < 168) (h6 : A 6 b = c) (h7 : A 7 b = f) (h8 : A 8 b = t) (hB : mBlk z c f t) (hzb : ∀ j, z j < 1000) : Zx g zX10_blockNow [.ref 50, .int (nI b), .int (nI 6)] (mhp h F S z A X) (some (.int (nI (mBn A z b c f t 6)))) (mhp h F S z A X) := by
  show Zn g zX10_blockNow 0 [some (.ref 50), some (.int (nI b)), some (.int (nI 6))] [] (mhp h F S z A X) 0 0 _
  refine zn_iload_n (pc := 0) rfl rfl ?_
  refine zn_tabIn (pc := 1) (x := nI 6) (off := 85) (tgt := 86) rfl (by decide +kernel) (by decide +kernel) (by rw [show (nI 6).toInt = 6 by decide +kernel]; rfl) rfl ?_
  refine zn_aload_n (pc := 86) rfl rfl ?_
  refine zn_iload_n (pc := 87) rfl rfl ?_
  refine zn_callVx (pc := 88) (J := zX10_numbersIn) (o := 50) (as := [.int (nI b)]) (rest := []) rfl rfl rfl rfl rfl rfl rfl rfl (Nat.le_of_ble_eq_true rfl) (Nat.le_of_ble_eq_true rfl) (Nat.le_of_ble_eq_true rfl) (Nat.le_of_ble_eq_true rfl) (m_numbersIn hb h6 h7 h8 hB hzb) ?_
  exact zx_i (pc := 91) rfl rfl rfl rfl
theorem m_blockNow_7  {b c f t : Nat} (hb : b < 168) (h6 : A 6 b = c) (h7 : A 7 b = f) (h8 : A 8 b = t) (hB : mBlk z c f t) (hzb : ∀ j, z j < 1000) : Zx g zX10_blockNow [.ref 50, .int (nI b), .int (nI 7)] (mhp h F S z A X) (some (.int (nI (mBn A z b c f t 7)))) (mhp h F S z A X) := by
  show Zn g zX10_blockNow 0 [some (.ref 50), some (.int (nI b)), some (.int (nI 7))] [] (mhp h F S z A X) 0 0 _
  refine zn_iload_n (pc := 0) rfl rfl ?_
  refine zn_tabOut (pc := 1) (x := nI 7) (tgt := 92) rfl (by decide +kernel) rfl ?_
  refine zn_aload_n (pc := 92) rfl rfl ?_
  refine zn_get (pc := 93) (v := .ref 62) rfl rfl rfl ?_
  refine zn_iload_n (pc := 96) rfl rfl ?_
  refine zm_ldA (pc := 97) (i := 11) (n := 168) (Z := (A 11)) (j := b) rfl (by decide) (by decide) rfl mln11 rfl (by omega) (Nat.le_of_ble_eq_true rfl) ?_
  exact zx_i (pc := 98) rfl rfl rfl rfl
theorem m_blockNow {b c f t : Nat} (hb : b < 168) (h6 : A 6 b = c) (h7 : A 7 b = f) (h8 : A 8 b = t) (hB : mBlk z c f t) (hzb : ∀ j, z j < 1000) {k : Nat} (hk : k ≤ 7) : Zx g zX10_blockNow [.ref 50, .int (nI b), .int (nI k)] (mhp h F S z A X) (some (.int (nI (mBn A z b c f t k)))) (mhp h F S z A X) := by
  match k, hk with
  | 0, _ => exact m_blockNow_0 hb h6 h7 h8 hB hzb
  | 1, _ => exact m_blockNow_1 hb h6 h7 h8 hB hzb
  | 2, _ => exact m_blockNow_2 hb h6 h7 h8 hB hzb
  | 3, _ => exact m_blockNow_3 hb h6 h7 h8 hB hzb
  | 4, _ => exact m_blockNow_4 hb h6 h7 h8 hB hzb
  | 5, _ => exact m_blockNow_5 hb h6 h7 h8 hB hzb
  | 6, _ => exact m_blockNow_6 hb h6 h7 h8 hB hzb
  | 7, _ => exact m_blockNow_7 hb h6 h7 h8 hB hzb
  | n + 8, q => exact absurd q (by omega)
theorem m_block_1  (hz : mOK z) (hzb : ∀ j, z j < 1000) (h4 : ∀ j, A 4 j ≤ 3) (hg : 1 ≤ F 10) (hg8 : F 10 ≤ 8) (hlw : F 9 ≤ 20) (hpd : F 8 ≤ 8) (x y : Int32) (hx : ¬ zin x (bAll z 7).length) : Zx g zX10_block [.ref 50, .int x, .int y] (mhp h F S z A X) (some (.int (nI 0))) (mhp h (va_up (va_up F 13 (bAll z 7).length) 0 1) S z (mL F z A (bAll z 7)) X) := by
  show Zn g zX10_block 0 [some (.ref 50), some (.int x), some (.int y)] [] (mhp h F S z A X) 0 0 _
  refine zn_aload_n (pc := 0) rfl rfl ?_
  refine zn_aload_n (pc := 1) rfl rfl ?_
  refine zn_iload_n (pc := 2) rfl rfl ?_
  refine zn_callVx (pc := 3) (J := zX10_isBlock) (o := 50) (as := [.int x]) (rest := [.ref 50]) rfl rfl rfl rfl rfl rfl rfl rfl (Nat.le_of_ble_eq_true rfl) (Nat.le_of_ble_eq_true rfl) (Nat.le_of_ble_eq_true rfl) (Nat.le_of_ble_eq_true rfl) (m_isBlock hz hzb h4 hg hg8 hlw hpd x) ?_
  refine zn_if_neB (pc := 6) (tgt := 13) rfl rfl (fun c1 => ?_) (fun c1 => ?_)
  · exact absurd c1 hx
  · refine zn_iconstN (pc := 9) 1 rfl rfl ?_
    refine zn_goto (pc := 10) (tgt := 28) rfl rfl ?_
    refine zm_putI (pc := 28) (k := 0) (v := 1) rfl (by decide) rfl rfl ?_
    refine zn_aload_n (pc := 31) rfl rfl ?_
    refine zn_get (pc := 32) (v := .int (nI 1)) rfl rfl rfl ?_
    refine zn_if_leN (pc := 35) (tgt := 42) (x := 1) rfl rfl (by omega) (fun c2 => ?_) (fun c2 => ?_)
    · exfalso; omega
    · refine zn_iconstN (pc := 38) 0 rfl rfl ?_
      refine zn_goto (pc := 39) (tgt := 48) rfl rfl ?_
      exact zx_i (pc := 48) rfl rfl rfl rfl
theorem m_block_2  (hz : mOK z) (hzb : ∀ j, z j < 1000) (h4 : ∀ j, A 4 j ≤ 3) (hg : 1 ≤ F 10) (hg8 : F 10 ≤ 8) (hlw : F 9 ≤ 20) (hpd : F 8 ≤ 8) {b c f t : Nat} (hP : (bAll z 7)[b]? = some (c, f, t)) (y : Int32) (hy : ¬ (nI 0 ≤ y ∧ y ≤ nI 7)) : Zx g zX10_block [.ref 50, .int (nI b), .int y] (mhp h F S z A X) (some (.int (nI 0))) (mhp h (va_up (va_up F 13 (bAll z 7).length) 0 2) S z (mL F z A (bAll z 7)) X) := by
  have h1 := hz.2.1
  have hl0 := bAll_len z 7
  obtain ⟨hb, hB, hE⟩ := bAll_get hz hP
  obtain ⟨g6, g7, g8, g9, g11, g10, g12⟩ := (mL_hold (F := F) (z := z) (A := A) (bAll z 7)).2 b c f t hP
  have hib : zin (nI b) (bAll z 7).length := (zin_nI (by omega)).mpr hb
  show Zn g zX10_block 0 [some (.ref 50), some (.int (nI b)), some (.int y)] [] (mhp h F S z A X) 0 0 _
  refine zn_aload_n (pc := 0) rfl rfl ?_
  refine zn_aload_n (pc := 1) rfl rfl ?_
  refine zn_iload_n (pc := 2) rfl rfl ?_
  refine zn_callVx (pc := 3) (J := zX10_isBlock) (o := 50) (as := [.int (nI b)]) (rest := [.ref 50]) rfl rfl rfl rfl rfl rfl rfl rfl (Nat.le_of_ble_eq_true rfl) (Nat.le_of_ble_eq_true rfl) (Nat.le_of_ble_eq_true rfl) (Nat.le_of_ble_eq_true rfl) (m_isBlock hz hzb h4 hg hg8 hlw hpd (nI b)) ?_
  refine zn_if_neB (pc := 6) (tgt := 13) rfl rfl (fun c1 => ?_) (fun c1 => ?_)
  · refine zn_iload_n (pc := 13) rfl rfl ?_
    refine zn_iconstN (pc := 14) 0 rfl rfl ?_
    refine zn_bipushN (pc := 15) 7 rfl rfl ?_
    refine zn_callSx (pc := 17) (J := zX10_within) (as := [.int y, .int (nI 0), .int (nI 7)]) (rest := [.ref 50]) rfl (by decide) rfl rfl rfl rfl (Nat.le_of_ble_eq_true rfl) (Nat.le_of_ble_eq_true rfl) (Nat.le_of_ble_eq_true rfl) (Nat.le_of_ble_eq_true rfl) (m_within y (nI 0) (nI 7)) ?_
    refine zn_if_eqB (pc := 20) (tgt := 27) rfl rfl (fun c2 => ?_) (fun c2 => ?_)
    · refine zn_iconstN (pc := 27) 2 rfl rfl ?_
      refine zm_putI (pc := 28) (k := 0) (v := 2) rfl (by decide) rfl rfl ?_
      refine zn_aload_n (pc := 31) rfl rfl ?_
      refine zn_get (pc := 32) (v := .int (nI 2)) rfl rfl rfl ?_
      refine zn_if_leN (pc := 35) (tgt := 42) (x := 2) rfl rfl (by omega) (fun c3 => ?_) (fun c3 => ?_)
      · exfalso; omega
      · refine zn_iconstN (pc := 38) 0 rfl rfl ?_
        refine zn_goto (pc := 39) (tgt := 48) rfl rfl ?_
        exact zx_i (pc := 48) rfl rfl rfl rfl
    · exact absurd c2 hy
  · exact absurd hib c1
theorem m_block_0  (hz : mOK z) (hzb : ∀ j, z j < 1000) (h4 : ∀ j, A 4 j ≤ 3) (hg : 1 ≤ F 10) (hg8 : F 10 ≤ 8) (hlw : F 9 ≤ 20) (hpd : F 8 ≤ 8) {b c f t : Nat} (hP : (bAll z 7)[b]? = some (c, f, t)) {k : Nat} (hk : k ≤ 7) : Zx g zX10_block [.ref 50, .int (nI b), .int (nI k)] (mhp h F S z A X) (some (.int (nI (mBn (mL F z A (bAll z 7)) z b c f t k)))) (mhp h (va_up (va_up F 13 (bAll z 7).length) 0 0) S z (mL F z A (bAll z 7)) X) := by
  have h1 := hz.2.1
  have hl0 := bAll_len z 7
  obtain ⟨hb, hB, hE⟩ := bAll_get hz hP
  obtain ⟨g6, g7, g8, g9, g11, g10, g12⟩ := (mL_hold (F := F) (z := z) (A := A) (bAll z 7)).2 b c f t hP
  have hib : zin (nI b) (bAll z 7).length := (zin_nI (by omega)).mpr hb
  have hq : 0 ≤ k ∧ k ≤ 7 := by omega
  show Zn g zX10_block 0 [some (.ref 50), some (.int (nI b)), some (.int (nI k))] [] (mhp h F S z A X) 0 0 _
  refine zn_aload_n (pc := 0) rfl rfl ?_
  refine zn_aload_n (pc := 1) rfl rfl ?_
  refine zn_iload_n (pc := 2) rfl rfl ?_
  refine zn_callVx (pc := 3) (J := zX10_isBlock) (o := 50) (as := [.int (nI b)]) (rest := [.ref 50]) rfl rfl rfl rfl rfl rfl rfl rfl (Nat.le_of_ble_eq_true rfl) (Nat.le_of_ble_eq_true rfl) (Nat.le_of_ble_eq_true rfl) (Nat.le_of_ble_eq_true rfl) (m_isBlock hz hzb h4 hg hg8 hlw hpd (nI b)) ?_
  refine zn_if_neB (pc := 6) (tgt := 13) rfl rfl (fun c1 => ?_) (fun c1 => ?_)
  · refine zn_iload_n (pc := 13) rfl rfl ?_
    refine zn_iconstN (pc := 14) 0 rfl rfl ?_
    refine zn_bipushN (pc := 15) 7 rfl rfl ?_
    refine zn_callSx (pc := 17) (J := zX10_within) (as := [.int (nI k), .int (nI 0), .int (nI 7)]) (rest := [.ref 50]) rfl (by decide) rfl rfl rfl rfl (Nat.le_of_ble_eq_true rfl) (Nat.le_of_ble_eq_true rfl) (Nat.le_of_ble_eq_true rfl) (Nat.le_of_ble_eq_true rfl) (m_withinN (v := k) (a := 0) (b := 7) (by omega) (by omega) (by omega)) ?_
    refine zn_if_eqB (pc := 20) (tgt := 27) rfl rfl (fun c2 => ?_) (fun c2 => ?_)
    · exact absurd hq c2
    · refine zn_iconstN (pc := 23) 0 rfl rfl ?_
      refine zn_goto (pc := 24) (tgt := 28) rfl rfl ?_
      refine zm_putI (pc := 28) (k := 0) (v := 0) rfl (by decide) rfl rfl ?_
      refine zn_aload_n (pc := 31) rfl rfl ?_
      refine zn_get (pc := 32) (v := .int (nI 0)) rfl rfl rfl ?_
      refine zn_if_leN (pc := 35) (tgt := 42) (x := 0) rfl rfl (by omega) (fun c3 => ?_) (fun c3 => ?_)
      · refine zn_aload_n (pc := 42) rfl rfl ?_
        refine zn_iload_n (pc := 43) rfl rfl ?_
        refine zn_iload_n (pc := 44) rfl rfl ?_
        refine zn_callVx (pc := 45) (J := zX10_blockNow) (o := 50) (as := [.int (nI b), .int (nI k)]) (rest := []) rfl rfl rfl rfl rfl rfl rfl rfl (Nat.le_of_ble_eq_true rfl) (Nat.le_of_ble_eq_true rfl) (Nat.le_of_ble_eq_true rfl) (Nat.le_of_ble_eq_true rfl) (m_blockNow (b := b) (by omega) g6 g7 g8 hB hzb (k := k) (by omega)) ?_
        exact zx_i (pc := 48) rfl rfl rfl rfl
      · exfalso; omega
  · exact absurd hib c1
theorem m_sumOf_l {b c f t : Nat} (hb : b < 168) (h6 : A 6 b = c) (h7 : A 7 b = f) (h8 : A 8 b = t) (hB : mBlk z c f t) (hzb : ∀ j, z j < 1000) : ∀ (n : Nat) (l : Nat) (s R : Int64), l + n = t + 1 → f ≤ l → R = bSm z c n l s → Zn g zX10_sumOf 10 [some (.ref 50), some (.int (nI b)), some (.long s), none, some (.int (nI l))] [] (mhp h F S z A X) 0 0 (fun r' h' => r' = .inl (some (.long R)) ∧ h' = (mhp h F S z A X)) := by
  intro n
  induction n with
  | zero =>
    intro l s R hn0 hn1 hn2
    obtain ⟨b1, b2, b3, b4, b5⟩ := id hB
    refine zn_iload (pc := 10) rfl rfl ?_
    refine zn_aload_n (pc := 12) rfl rfl ?_
    refine zn_get (pc := 13) (v := .ref 59) rfl rfl rfl ?_
    refine zn_iload_n (pc := 16) rfl rfl ?_
    refine zm_ldA (pc := 17) (i := 8) (n := 168) (Z := (A 8)) (j := b) rfl (by decide) (by decide) rfl mln8 rfl (by omega) (Nat.le_of_ble_eq_true rfl) ?_
    refine zn_top (v' := .int (nI t)) (by rw [h8]) ?_
    refine zn_icmp_gtN (pc := 18) (tgt := 62) (x := l) (y := t) rfl rfl (by have := skind_le (mf z l c) (z (25 + 8 * l + c)); omega) (by have := skind_le (mf z l c) (z (25 + 8 * l + c)); omega) (fun c1 => ?_) (fun c1 => ?_)
    · refine zn_lload_n (pc := 62) rfl rfl ?_
      exact zx_l (pc := 63) rfl rfl (by rw [hn2]; simp only [bSm]) rfl
    · exfalso; omega
  | succ n ih =>
    intro l s R hn0 hn1 hn2
    obtain ⟨b1, b2, b3, b4, b5⟩ := id hB
    refine zn_iload (pc := 10) rfl rfl ?_
    refine zn_aload_n (pc := 12) rfl rfl ?_
    refine zn_get (pc := 13) (v := .ref 59) rfl rfl rfl ?_
    refine zn_iload_n (pc := 16) rfl rfl ?_
    refine zm_ldA (pc := 17) (i := 8) (n := 168) (Z := (A 8)) (j := b) rfl (by decide) (by decide) rfl mln8 rfl (by omega) (Nat.le_of_ble_eq_true rfl) ?_
    refine zn_top (v' := .int (nI t)) (by rw [h8]) ?_
    refine zn_icmp_gtN (pc := 18) (tgt := 62) (x := l) (y := t) rfl rfl (by have := skind_le (mf z l c) (z (25 + 8 * l + c)); omega) (by have := skind_le (mf z l c) (z (25 + 8 * l + c)); omega) (fun c1 => ?_) (fun c1 => ?_)
    · refine zn_lload_n (pc := 62) rfl rfl ?_
      exfalso; omega
    · have b6 := b5 l (by omega) (by omega)
      refine zn_lload_n (pc := 21) rfl rfl ?_
      refine zn_joinV (v := .long (if mK z c l = 1 then sVal (mf z l c) (mN z c l) else 0)) (pj := 54) ?_ (fun K2 => ?_)
      · refine zn_ladd (pc := 54) rfl ?_
        refine zn_lstore_n (pc := 55) (L' := [some (.ref 50), some (.int (nI b)), some (.long (s + (if mK z c l = 1 then sVal (mf z l c) (mN z c l) else 0))), none, some (.int (nI l))]) rfl (by decide) rfl ?_
        refine zn_iincN (pc := 56) (L' := [some (.ref 50), some (.int (nI b)), some (.long (s + (if mK z c l = 1 then sVal (mf z l c) (mN z c l) else 0))), none, some (.int (nI (l + 1)))]) 1 rfl rfl rfl (by decide) rfl ?_
        refine zn_goto (pc := 59) (tgt := 10) rfl rfl ?_
        exact ih (l + 1) (s + (if mK z c l = 1 then sVal (mf z l c) (mN z c l) else 0)) R (by omega) (by omega) (by rw [hn2]; simp only [bSm])
      · refine zn_aload_n (pc := 22) rfl rfl ?_
        refine zn_iload (pc := 23) rfl rfl ?_
        refine zn_aload_n (pc := 25) rfl rfl ?_
        refine zn_get (pc := 26) (v := .ref 57) rfl rfl rfl ?_
        refine zn_iload_n (pc := 29) rfl rfl ?_
        refine zm_ldA (pc := 30) (i := 6) (n := 168) (Z := (A 6)) (j := b) rfl (by decide) (by decide) rfl mln6 rfl (by omega) (Nat.le_of_ble_eq_true rfl) ?_
        refine zn_top (v' := .int (nI c)) (by rw [h6]) ?_
        refine zn_callVx (pc := 31) (J := zX10_kindOf) (o := 50) (as := [.int (nI l), .int (nI c)]) (rest := [.long s]) rfl rfl rfl rfl rfl rfl rfl rfl (Nat.le_of_ble_eq_true rfl) (Nat.le_of_ble_eq_true rfl) (Nat.le_of_ble_eq_true rfl) (Nat.le_of_ble_eq_true rfl) (m_kindOf (l := l) (c := c) (by omega) (by omega) (by omega) hzb) ?_
        refine zn_iconstN (pc := 34) 1 rfl rfl ?_
        refine zn_icmp_neN (pc := 35) (tgt := 53) (x := (skind (mf z l c) (z (25 + 8 * l + c)))) (y := 1) rfl rfl (by have := skind_le (mf z l c) (z (25 + 8 * l + c)); omega) (by have := skind_le (mf z l c) (z (25 + 8 * l + c)); omega) (fun c3 => ?_) (fun c3 => ?_)
        · refine zn_lconst (pc := 53) 0 rfl rfl ?_
          exact zn_top (v' := .long (if mK z c l = 1 then sVal (mf z l c) (mN z c l) else 0)) (by rw [if_neg (by assumption)]) K2
        · refine zn_aload_n (pc := 38) rfl rfl ?_
          refine zn_iload (pc := 39) rfl rfl ?_
          refine zn_aload_n (pc := 41) rfl rfl ?_
          refine zn_get (pc := 42) (v := .ref 57) rfl rfl rfl ?_
          refine zn_iload_n (pc := 45) rfl rfl ?_
          refine zm_ldA (pc := 46) (i := 6) (n := 168) (Z := (A 6)) (j := b) rfl (by decide) (by decide) rfl mln6 rfl (by omega) (Nat.le_of_ble_eq_true rfl) ?_
          refine zn_top (v' := .int (nI c)) (by rw [h6]) ?_
          refine zn_callVx (pc := 47) (J := zX10_valueOf) (o := 50) (as := [.int (nI l), .int (nI c)]) (rest := [.long s]) rfl rfl rfl rfl rfl rfl rfl rfl (Nat.le_of_ble_eq_true rfl) (Nat.le_of_ble_eq_true rfl) (Nat.le_of_ble_eq_true rfl) (Nat.le_of_ble_eq_true rfl) (m_valueOf (l := l) (c := c) (by omega) (by omega) (by omega) hzb) ?_
          refine zn_goto (pc := 50) (tgt := 54) rfl rfl ?_
          exact zn_top (v' := .long (if mK z c l = 1 then sVal (mf z l c) (mN z c l) else 0)) (by rw [if_pos (by assumption)]) K2
theorem m_sumOf  {b c f t : Nat} (hb : b < 168) (h6 : A 6 b = c) (h7 : A 7 b = f) (h8 : A 8 b = t) (hB : mBlk z c f t) (hzb : ∀ j, z j < 1000) : Zx g zX10_sumOf [.ref 50, .int (nI b)] (mhp h F S z A X) (some (.long (bSum z c f t))) (mhp h F S z A X) := by
  obtain ⟨b1, b2, b3, b4, b5⟩ := id hB
  show Zn g zX10_sumOf 0 [some (.ref 50), some (.int (nI b)), none, none, none] [] (mhp h F S z A X) 0 0 _
  refine zn_lconst (pc := 0) 0 rfl rfl ?_
  refine zn_lstore_n (pc := 1) (L' := [some (.ref 50), some (.int (nI b)), some (.long 0), none, none]) rfl (by decide) rfl ?_
  refine zn_aload_n (pc := 2) rfl rfl ?_
  refine zn_get (pc := 3) (v := .ref 58) rfl rfl rfl ?_
  refine zn_iload_n (pc := 6) rfl rfl ?_
  refine zm_ldA (pc := 7) (i := 7) (n := 168) (Z := (A 7)) (j := b) rfl (by decide) (by decide) rfl mln7 rfl (by omega) (Nat.le_of_ble_eq_true rfl) ?_
  refine zn_top (v' := .int (nI f)) (by rw [h7]) ?_
  refine zn_istore (pc := 8) (L' := [some (.ref 50), some (.int (nI b)), some (.long 0), none, some (.int (nI f))]) rfl (by decide) rfl ?_
  exact m_sumOf_l hb h6 h7 h8 hB hzb (t + 1 - f) f 0 _ (by omega) (by omega) rfl
theorem m_sum_1  (hz : mOK z) (hzb : ∀ j, z j < 1000) (h4 : ∀ j, A 4 j ≤ 3) (hg : 1 ≤ F 10) (hg8 : F 10 ≤ 8) (hlw : F 9 ≤ 20) (hpd : F 8 ≤ 8) (x : Int32) (hx : ¬ zin x (bAll z 7).length) : Zx g zX10_sum [.ref 50, .int x] (mhp h F S z A X) (some (.long 0)) (mhp h (va_up (va_up F 13 (bAll z 7).length) 0 1) S z (mL F z A (bAll z 7)) X) := by
  show Zn g zX10_sum 0 [some (.ref 50), some (.int x)] [] (mhp h F S z A X) 0 0 _
  refine zn_aload_n (pc := 0) rfl rfl ?_
  refine zn_aload_n (pc := 1) rfl rfl ?_
  refine zn_iload_n (pc := 2) rfl rfl ?_
  refine zn_callVx (pc := 3) (J := zX10_isBlock) (o := 50) (as := [.int x]) (rest := [.ref 50]) rfl rfl rfl rfl rfl rfl rfl rfl (Nat.le_of_ble_eq_true rfl) (Nat.le_of_ble_eq_true rfl) (Nat.le_of_ble_eq_true rfl) (Nat.le_of_ble_eq_true rfl) (m_isBlock hz hzb h4 hg hg8 hlw hpd x) ?_
  refine zn_if_eqB (pc := 6) (tgt := 13) rfl rfl (fun c1 => ?_) (fun c1 => ?_)
  · refine zn_iconstN (pc := 13) 1 rfl rfl ?_
    refine zm_putI (pc := 14) (k := 0) (v := 1) rfl (by decide) rfl rfl ?_
    refine zn_aload_n (pc := 17) rfl rfl ?_
    refine zn_get (pc := 18) (v := .int (nI 1)) rfl rfl rfl ?_
    refine zn_if_leN (pc := 21) (tgt := 28) (x := 1) rfl rfl (by omega) (fun c2 => ?_) (fun c2 => ?_)
    · exfalso; omega
    · refine zn_lconst (pc := 24) 0 rfl rfl ?_
      refine zn_goto (pc := 25) (tgt := 33) rfl rfl ?_
      exact zx_l (pc := 33) rfl rfl rfl rfl
  · exact absurd c1 hx
theorem m_sum_0  (hz : mOK z) (hzb : ∀ j, z j < 1000) (h4 : ∀ j, A 4 j ≤ 3) (hg : 1 ≤ F 10) (hg8 : F 10 ≤ 8) (hlw : F 9 ≤ 20) (hpd : F 8 ≤ 8) {b c f t : Nat} (hP : (bAll z 7)[b]? = some (c, f, t)) : Zx g zX10_sum [.ref 50, .int (nI b)] (mhp h F S z A X) (some (.long (bSum z c f t))) (mhp h (va_up (va_up F 13 (bAll z 7).length) 0 0) S z (mL F z A (bAll z 7)) X) := by
  have h1 := hz.2.1
  have hl0 := bAll_len z 7
  obtain ⟨hb, hB, hE⟩ := bAll_get hz hP
  obtain ⟨g6, g7, g8, g9, g11, g10, g12⟩ := (mL_hold (F := F) (z := z) (A := A) (bAll z 7)).2 b c f t hP
  have hib : zin (nI b) (bAll z 7).length := (zin_nI (by omega)).mpr hb
  show Zn g zX10_sum 0 [some (.ref 50), some (.int (nI b))] [] (mhp h F S z A X) 0 0 _
  refine zn_aload_n (pc := 0) rfl rfl ?_
  refine zn_aload_n (pc := 1) rfl rfl ?_
  refine zn_iload_n (pc := 2) rfl rfl ?_
  refine zn_callVx (pc := 3) (J := zX10_isBlock) (o := 50) (as := [.int (nI b)]) (rest := [.ref 50]) rfl rfl rfl rfl rfl rfl rfl rfl (Nat.le_of_ble_eq_true rfl) (Nat.le_of_ble_eq_true rfl) (Nat.le_of_ble_eq_true rfl) (Nat.le_of_ble_eq_true rfl) (m_isBlock hz hzb h4 hg hg8 hlw hpd (nI b)) ?_
  refine zn_if_eqB (pc := 6) (tgt := 13) rfl rfl (fun c1 => ?_) (fun c1 => ?_)
  · exact absurd hib c1
  · refine zn_iconstN (pc := 9) 0 rfl rfl ?_
    refine zn_goto (pc := 10) (tgt := 14) rfl rfl ?_
    refine zm_putI (pc := 14) (k := 0) (v := 0) rfl (by decide) rfl rfl ?_
    refine zn_aload_n (pc := 17) rfl rfl ?_
    refine zn_get (pc := 18) (v := .int (nI 0)) rfl rfl rfl ?_
    refine zn_if_leN (pc := 21) (tgt := 28) (x := 0) rfl rfl (by omega) (fun c2 => ?_) (fun c2 => ?_)
    · refine zn_aload_n (pc := 28) rfl rfl ?_
      refine zn_iload_n (pc := 29) rfl rfl ?_
      refine zn_callVx (pc := 30) (J := zX10_sumOf) (o := 50) (as := [.int (nI b)]) (rest := []) rfl rfl rfl rfl rfl rfl rfl rfl (Nat.le_of_ble_eq_true rfl) (Nat.le_of_ble_eq_true rfl) (Nat.le_of_ble_eq_true rfl) (Nat.le_of_ble_eq_true rfl) (m_sumOf (b := b) (by omega) g6 g7 g8 hB hzb) ?_
      exact zx_l (pc := 33) rfl rfl rfl rfl
    · exfalso; omega
theorem m_mean_1  (hz : mOK z) (hzb : ∀ j, z j < 1000) (h4 : ∀ j, A 4 j ≤ 3) (hg : 1 ≤ F 10) (hg8 : F 10 ≤ 8) (hlw : F 9 ≤ 20) (hpd : F 8 ≤ 8) (x : Int32) (hx : ¬ zin x (bAll z 7).length) : Zx g zX10_mean [.ref 50, .int x] (mhp h F S z A X) (some (.double FP.dconst0)) (mhp h (va_up (va_up F 13 (bAll z 7).length) 0 1) S z (mL F z A (bAll z 7)) X) := by
  show Zn g zX10_mean 0 [some (.ref 50), some (.int x)] [] (mhp h F S z A X) 0 0 _
  refine zn_aload_n (pc := 0) rfl rfl ?_
  refine zn_aload_n (pc := 1) rfl rfl ?_
  refine zn_iload_n (pc := 2) rfl rfl ?_
  refine zn_callVx (pc := 3) (J := zX10_isBlock) (o := 50) (as := [.int x]) (rest := [.ref 50]) rfl rfl rfl rfl rfl rfl rfl rfl (Nat.le_of_ble_eq_true rfl) (Nat.le_of_ble_eq_true rfl) (Nat.le_of_ble_eq_true rfl) (Nat.le_of_ble_eq_true rfl) (m_isBlock hz hzb h4 hg hg8 hlw hpd x) ?_
  refine zn_if_eqB (pc := 6) (tgt := 13) rfl rfl (fun c1 => ?_) (fun c1 => ?_)
  · refine zn_iconstN (pc := 13) 1 rfl rfl ?_
    refine zm_putI (pc := 14) (k := 0) (v := 1) rfl (by decide) rfl rfl ?_
    refine zn_aload_n (pc := 17) rfl rfl ?_
    refine zn_get (pc := 18) (v := .int (nI 1)) rfl rfl rfl ?_
    refine zn_if_leN (pc := 21) (tgt := 26) (x := 1) rfl rfl (by omega) (fun c2 => ?_) (fun c2 => ?_)
    · exfalso; omega
    · refine zn_dconst0 (pc := 24) rfl ?_
      exact zx_d (pc := 25) rfl rfl rfl rfl
  · exact absurd c1 hx
theorem m_mean_n  (hz : mOK z) (hzb : ∀ j, z j < 1000) (h4 : ∀ j, A 4 j ≤ 3) (hg : 1 ≤ F 10) (hg8 : F 10 ≤ 8) (hlw : F 9 ≤ 20) (hpd : F 8 ≤ 8) {b c f t : Nat} (hP : (bAll z 7)[b]? = some (c, f, t)) (hn0 : bNum (mK z c) (t + 1 - f) f = 0) : Zx g zX10_mean [.ref 50, .int (nI b)] (mhp h F S z A X) (some (.double FP.dconst0)) (mhp h (va_up (va_up F 13 (bAll z 7).length) 0 0) S z (mL F z A (bAll z 7)) X) := by
  have h1 := hz.2.1
  have hl0 := bAll_len z 7
  obtain ⟨hb, hB, hE⟩ := bAll_get hz hP
  obtain ⟨g6, g7, g8, g9, g11, g10, g12⟩ := (mL_hold (F := F) (z := z) (A := A) (bAll z 7)).2 b c f t hP
  have hib : zin (nI b) (bAll z 7).length := (zin_nI (by omega)).mpr hb
  have hnb := bNum_le (mK z c) (t + 1 - f) f
  obtain ⟨b1, b2, b3, b4, b5⟩ := id hB
  show Zn g zX10_mean 0 [some (.ref 50), some (.int (nI b))] [] (mhp h F S z A X) 0 0 _
  refine zn_aload_n (pc := 0) rfl rfl ?_
  refine zn_aload_n (pc := 1) rfl rfl ?_
  refine zn_iload_n (pc := 2) rfl rfl ?_
  refine zn_callVx (pc := 3) (J := zX10_isBlock) (o := 50) (as := [.int (nI b)]) (rest := [.ref 50]) rfl rfl rfl rfl rfl rfl rfl rfl (Nat.le_of_ble_eq_true rfl) (Nat.le_of_ble_eq_true rfl) (Nat.le_of_ble_eq_true rfl) (Nat.le_of_ble_eq_true rfl) (m_isBlock hz hzb h4 hg hg8 hlw hpd (nI b)) ?_
  refine zn_if_eqB (pc := 6) (tgt := 13) rfl rfl (fun c1 => ?_) (fun c1 => ?_)
  · exact absurd hib c1
  · refine zn_iconstN (pc := 9) 0 rfl rfl ?_
    refine zn_goto (pc := 10) (tgt := 14) rfl rfl ?_
    refine zm_putI (pc := 14) (k := 0) (v := 0) rfl (by decide) rfl rfl ?_
    refine zn_aload_n (pc := 17) rfl rfl ?_
    refine zn_get (pc := 18) (v := .int (nI 0)) rfl rfl rfl ?_
    refine zn_if_leN (pc := 21) (tgt := 26) (x := 0) rfl rfl (by omega) (fun c2 => ?_) (fun c2 => ?_)
    · refine zn_aload_n (pc := 26) rfl rfl ?_
      refine zn_iload_n (pc := 27) rfl rfl ?_
      refine zn_callVx (pc := 28) (J := zX10_numbersIn) (o := 50) (as := [.int (nI b)]) (rest := []) rfl rfl rfl rfl rfl rfl rfl rfl (Nat.le_of_ble_eq_true rfl) (Nat.le_of_ble_eq_true rfl) (Nat.le_of_ble_eq_true rfl) (Nat.le_of_ble_eq_true rfl) (m_numbersIn (b := b) (by omega) g6 g7 g8 hB hzb) ?_
      refine zn_if_neN (pc := 31) (tgt := 38) (x := (bNum (mK z c) (t + 1 - f) f)) rfl rfl (by omega) (fun c3 => ?_) (fun c3 => ?_)
      · exfalso; omega
      · refine zn_dconst0 (pc := 34) rfl ?_
        refine zn_goto (pc := 35) (tgt := 55) rfl rfl ?_
        exact zx_d (pc := 55) rfl rfl rfl rfl
    · exfalso; omega
theorem m_mean_0  (hz : mOK z) (hzb : ∀ j, z j < 1000) (h4 : ∀ j, A 4 j ≤ 3) (hg : 1 ≤ F 10) (hg8 : F 10 ≤ 8) (hlw : F 9 ≤ 20) (hpd : F 8 ≤ 8) {b c f t : Nat} (hP : (bAll z 7)[b]? = some (c, f, t)) (hn0 : 0 < bNum (mK z c) (t + 1 - f) f) (hnan : vf_n64 (FP.ddiv (FP.l2d (bSum z c f t)) (FP.i2d (nI (10000 * (bNum (mK z c) (t + 1 - f) f)))))) : Zx g zX10_mean [.ref 50, .int (nI b)] (mhp h F S z A X) (some (.double (FP.ddiv (FP.l2d (bSum z c f t)) (FP.i2d (nI (10000 * (bNum (mK z c) (t + 1 - f) f))))))) (mhp h (va_up (va_up F 13 (bAll z 7).length) 0 0) S z (mL F z A (bAll z 7)) X) := by
  have h1 := hz.2.1
  have hl0 := bAll_len z 7
  obtain ⟨hb, hB, hE⟩ := bAll_get hz hP
  obtain ⟨g6, g7, g8, g9, g11, g10, g12⟩ := (mL_hold (F := F) (z := z) (A := A) (bAll z 7)).2 b c f t hP
  have hib : zin (nI b) (bAll z 7).length := (zin_nI (by omega)).mpr hb
  have hnb := bNum_le (mK z c) (t + 1 - f) f
  obtain ⟨b1, b2, b3, b4, b5⟩ := id hB
  show Zn g zX10_mean 0 [some (.ref 50), some (.int (nI b))] [] (mhp h F S z A X) 0 0 _
  refine zn_aload_n (pc := 0) rfl rfl ?_
  refine zn_aload_n (pc := 1) rfl rfl ?_
  refine zn_iload_n (pc := 2) rfl rfl ?_
  refine zn_callVx (pc := 3) (J := zX10_isBlock) (o := 50) (as := [.int (nI b)]) (rest := [.ref 50]) rfl rfl rfl rfl rfl rfl rfl rfl (Nat.le_of_ble_eq_true rfl) (Nat.le_of_ble_eq_true rfl) (Nat.le_of_ble_eq_true rfl) (Nat.le_of_ble_eq_true rfl) (m_isBlock hz hzb h4 hg hg8 hlw hpd (nI b)) ?_
  refine zn_if_eqB (pc := 6) (tgt := 13) rfl rfl (fun c1 => ?_) (fun c1 => ?_)
  · exact absurd hib c1
  · refine zn_iconstN (pc := 9) 0 rfl rfl ?_
    refine zn_goto (pc := 10) (tgt := 14) rfl rfl ?_
    refine zm_putI (pc := 14) (k := 0) (v := 0) rfl (by decide) rfl rfl ?_
    refine zn_aload_n (pc := 17) rfl rfl ?_
    refine zn_get (pc := 18) (v := .int (nI 0)) rfl rfl rfl ?_
    refine zn_if_leN (pc := 21) (tgt := 26) (x := 0) rfl rfl (by omega) (fun c2 => ?_) (fun c2 => ?_)
    · refine zn_aload_n (pc := 26) rfl rfl ?_
      refine zn_iload_n (pc := 27) rfl rfl ?_
      refine zn_callVx (pc := 28) (J := zX10_numbersIn) (o := 50) (as := [.int (nI b)]) (rest := []) rfl rfl rfl rfl rfl rfl rfl rfl (Nat.le_of_ble_eq_true rfl) (Nat.le_of_ble_eq_true rfl) (Nat.le_of_ble_eq_true rfl) (Nat.le_of_ble_eq_true rfl) (m_numbersIn (b := b) (by omega) g6 g7 g8 hB hzb) ?_
      refine zn_if_neN (pc := 31) (tgt := 38) (x := (bNum (mK z c) (t + 1 - f) f)) rfl rfl (by omega) (fun c3 => ?_) (fun c3 => ?_)
      · refine zn_aload_n (pc := 38) rfl rfl ?_
        refine zn_iload_n (pc := 39) rfl rfl ?_
        refine zn_callVx (pc := 40) (J := zX10_sumOf) (o := 50) (as := [.int (nI b)]) (rest := []) rfl rfl rfl rfl rfl rfl rfl rfl (Nat.le_of_ble_eq_true rfl) (Nat.le_of_ble_eq_true rfl) (Nat.le_of_ble_eq_true rfl) (Nat.le_of_ble_eq_true rfl) (m_sumOf (b := b) (by omega) g6 g7 g8 hB hzb) ?_
        refine zn_l2d (pc := 43) rfl ?_
        refine zn_sipushN (pc := 44) 10000 rfl rfl ?_
        refine zn_aload_n (pc := 47) rfl rfl ?_
        refine zn_iload_n (pc := 48) rfl rfl ?_
        refine zn_callVx (pc := 49) (J := zX10_numbersIn) (o := 50) (as := [.int (nI b)]) (rest := [.int (nI 10000), .double (FP.l2d (bSum z c f t))]) rfl rfl rfl rfl rfl rfl rfl rfl (Nat.le_of_ble_eq_true rfl) (Nat.le_of_ble_eq_true rfl) (Nat.le_of_ble_eq_true rfl) (Nat.le_of_ble_eq_true rfl) (m_numbersIn (b := b) (by omega) g6 g7 g8 hB hzb) ?_
        refine zn_imulN (pc := 52) (x := 10000) (y := (bNum (mK z c) (t + 1 - f) f)) rfl ?_
        refine zn_i2d (pc := 53) rfl ?_
        refine zn_ddiv (pc := 54) rfl hnan ?_
        exact zx_d (pc := 55) rfl rfl rfl rfl
      · exfalso; omega
    · exfalso; omega
def bTc (A : Nat → Nat → Nat) (l : Nat) : Nat → Nat
  | 0 => 0
  | b + 1 => bTc A l b + if A 7 b ≤ l + 1 ∧ l ≤ A 8 b + 1 then 1 else 0
theorem m_touched_l (h168 : F 13 ≤ 168) (ha : ∀ i j, A i j < 2 ^ 20) {l : Nat} (hl : l < 24) : ∀ (n : Nat) (b : Nat), b + n = F 13 → Zn g zX10_touched 35 [some (.ref 50), some (.int (nI l)), some (.int (nI (bTc A l b))), some (.int (nI b))] [] (mhp h F S z A X) 0 0 (fun r' h' => r' = .inl (some (.int (nI (bTc A l (F 13))))) ∧ h' = (mhp h F S z A X)) := by
  intro n
  induction n with
  | zero =>
    intro b hn0
    have a7 := ha 7 b
    have a8 := ha 8 b
    refine zn_iload_n (pc := 35) rfl rfl ?_
    refine zn_aload_n (pc := 36) rfl rfl ?_
    refine zn_get (pc := 37) (v := .int (nI (F 13))) rfl rfl rfl ?_
    refine zn_icmp_geN (pc := 40) (tgt := 81) (x := b) (y := (F 13)) rfl rfl (by omega) (by omega) (fun c1 => ?_) (fun c1 => ?_)
    · refine zn_iload_n (pc := 81) rfl rfl ?_
      have e8 : b = F 13 := by omega
      exact zx_i (pc := 82) rfl rfl (by rw [e8]) rfl
    · exfalso; omega
  | succ n ih =>
    intro b hn0
    have a7 := ha 7 b
    have a8 := ha 8 b
    refine zn_iload_n (pc := 35) rfl rfl ?_
    refine zn_aload_n (pc := 36) rfl rfl ?_
    refine zn_get (pc := 37) (v := .int (nI (F 13))) rfl rfl rfl ?_
    refine zn_icmp_geN (pc := 40) (tgt := 81) (x := b) (y := (F 13)) rfl rfl (by omega) (by omega) (fun c1 => ?_) (fun c1 => ?_)
    · refine zn_iload_n (pc := 81) rfl rfl ?_
      have e8 : b = F 13 := by omega
      exact zx_i (pc := 82) rfl rfl (by rw [e8]) rfl
    · refine zn_iload_n (pc := 43) rfl rfl ?_
      refine zn_joinV (v := .int (nI (if A 7 b ≤ l + 1 ∧ l ≤ A 8 b + 1 then 1 else 0))) (pj := 73) ?_ (fun K2 => ?_)
      · refine zn_iaddN (pc := 73) (x := (bTc A l b)) (y := (if A 7 b ≤ l + 1 ∧ l ≤ A 8 b + 1 then 1 else 0)) rfl ?_
        refine zn_istore_n (pc := 74) (L' := [some (.ref 50), some (.int (nI l)), some (.int (nI (bTc A l b + (if A 7 b ≤ l + 1 ∧ l ≤ A 8 b + 1 then 1 else 0)))), some (.int (nI b))]) rfl (by decide) rfl ?_
        refine zn_iincN (pc := 75) (L' := [some (.ref 50), some (.int (nI l)), some (.int (nI (bTc A l b + (if A 7 b ≤ l + 1 ∧ l ≤ A 8 b + 1 then 1 else 0)))), some (.int (nI (b + 1)))]) 1 rfl rfl rfl (by decide) rfl ?_
        refine zn_goto (pc := 78) (tgt := 35) rfl rfl ?_
        exact ih (b + 1) (by omega)
      · refine zn_aload_n (pc := 44) rfl rfl ?_
        refine zn_get (pc := 45) (v := .ref 58) rfl rfl rfl ?_
        refine zn_iload_n (pc := 48) rfl rfl ?_
        refine zm_ldA (pc := 49) (i := 7) (n := 168) (Z := (A 7)) (j := b) rfl (by decide) (by decide) rfl mln7 rfl (by omega) (Nat.le_of_ble_eq_true rfl) ?_
        refine zn_iload_n (pc := 50) rfl rfl ?_
        refine zn_iconstN (pc := 51) 1 rfl rfl ?_
        refine zn_iaddN (pc := 52) (x := l) (y := 1) rfl ?_
        refine zn_icmp_gtN (pc := 53) (tgt := 72) (x := ((A 7) b)) (y := (l + 1)) rfl rfl (by omega) (by omega) (fun c3 => ?_) (fun c3 => ?_)
        · refine zn_iconstN (pc := 72) 0 rfl rfl ?_
          exact zn_top (v' := .int (nI (if A 7 b ≤ l + 1 ∧ l ≤ A 8 b + 1 then 1 else 0))) (by rw [if_neg (by intro q; first | omega | (have q9 := (dm_iff (a := A 8 b) (l := l) (by omega) (by omega)).mp (by assumption); omega))]) K2
        · refine zn_aload_n (pc := 56) rfl rfl ?_
          refine zn_get (pc := 57) (v := .ref 59) rfl rfl rfl ?_
          refine zn_iload_n (pc := 60) rfl rfl ?_
          refine zm_ldA (pc := 61) (i := 8) (n := 168) (Z := (A 8)) (j := b) rfl (by decide) (by decide) rfl mln8 rfl (by omega) (Nat.le_of_ble_eq_true rfl) ?_
          refine zn_iload_n (pc := 62) rfl rfl ?_
          refine zn_iconstN (pc := 63) 1 rfl rfl ?_
          refine zn_isub (pc := 64) rfl ?_
          refine zn_icmp_lt (pc := 65) (tgt := 72) (x := (nI ((A 8) b))) (y := (nI l - 1)) rfl rfl (fun c4 => ?_) (fun c4 => ?_)
          · refine zn_iconstN (pc := 72) 0 rfl rfl ?_
            exact zn_top (v' := .int (nI (if A 7 b ≤ l + 1 ∧ l ≤ A 8 b + 1 then 1 else 0))) (by rw [if_neg (by intro q; first | omega | (have q9 := (dm_iff (a := A 8 b) (l := l) (by omega) (by omega)).mp (by assumption); omega))]) K2
          · refine zn_iconstN (pc := 68) 1 rfl rfl ?_
            refine zn_goto (pc := 69) (tgt := 73) rfl rfl ?_
            exact zn_top (v' := .int (nI (if A 7 b ≤ l + 1 ∧ l ≤ A 8 b + 1 then 1 else 0))) (by rw [if_pos ⟨by omega, by have q9 := mt (dm_iff (a := A 8 b) (l := l) (by omega) (by omega)).mpr (by assumption); omega⟩]) K2
theorem m_touched_1  (hz : mOK z) (x : Int32) (hp : ¬ zin x (z 0)) : Zx g zX10_touched [.ref 50, .int x] (mhp h F S z A X) (some (.int (nI 0))) (mhp h (va_up F 0 1) S z A X) := by
  have h0 := hz.1
  have h1 := hz.2.1
  show Zn g zX10_touched 0 [some (.ref 50), some (.int x), none, none] [] (mhp h F S z A X) 0 0 _
  refine zn_aload_n (pc := 0) rfl rfl ?_
  refine zn_aload_n (pc := 1) rfl rfl ?_
  refine zn_iload_n (pc := 2) rfl rfl ?_
  refine zn_callVx (pc := 3) (J := zX10_isLine) (o := 50) (as := [.int x]) (rest := [.ref 50]) rfl rfl rfl rfl rfl rfl rfl rfl (Nat.le_of_ble_eq_true rfl) (Nat.le_of_ble_eq_true rfl) (Nat.le_of_ble_eq_true rfl) (Nat.le_of_ble_eq_true rfl) (m_isLine (by omega) (by omega) x) ?_
  refine zn_if_eqB (pc := 6) (tgt := 13) rfl rfl (fun c1 => ?_) (fun c1 => ?_)
  · refine zn_iconstN (pc := 13) 1 rfl rfl ?_
    refine zm_putI (pc := 14) (k := 0) (v := 1) rfl (by decide) rfl rfl ?_
    refine zn_aload_n (pc := 17) rfl rfl ?_
    refine zn_get (pc := 18) (v := .int (nI 1)) rfl rfl rfl ?_
    refine zn_if_leN (pc := 21) (tgt := 26) (x := 1) rfl rfl (by omega) (fun c2 => ?_) (fun c2 => ?_)
    · exfalso; omega
    · refine zn_iconstN (pc := 24) 0 rfl rfl ?_
      exact zx_i (pc := 25) rfl rfl rfl rfl
  · exact absurd c1 hp
theorem m_touched_0  (hz : mOK z) (hzb : ∀ j, z j < 1000) (h4 : ∀ j, A 4 j ≤ 3) (hg : 1 ≤ F 10) (hg8 : F 10 ≤ 8) (hlw : F 9 ≤ 20) (hpd : F 8 ≤ 8) (ha : ∀ i j, A i j < 2 ^ 20) {l : Nat} (hl : l < z 0) : Zx g zX10_touched [.ref 50, .int (nI l)] (mhp h F S z A X) (some (.int (nI (bTc (mL (va_up F 0 0) z A (bAll z 7)) l (bAll z 7).length)))) (mhp h (va_up (va_up F 0 0) 13 (bAll z 7).length) S z (mL (va_up F 0 0) z A (bAll z 7)) X) := by
  have h0 := hz.1
  have h1 := hz.2.1
  have hzl := hz.2.2.1 l hl
  have hp : zin (nI l) (z 0) := (zin_nI (by omega)).mpr hl
  have h168 : (bAll z 7).length ≤ 168 := bAll_168 hz
  have ha2 : ∀ i j, mL (va_up F 0 0) z A (bAll z 7) i j < 2 ^ 20 := mL_b (F := va_up F 0 0) hz h4 hg8 hlw hpd ha
  have hv2 : mCov (mL (va_up F 0 0) z A (bAll z 7)) z (bAll z 7).length := mL_cov hz
  show Zn g zX10_touched 0 [some (.ref 50), some (.int (nI l)), none, none] [] (mhp h F S z A X) 0 0 _
  refine zn_aload_n (pc := 0) rfl rfl ?_
  refine zn_aload_n (pc := 1) rfl rfl ?_
  refine zn_iload_n (pc := 2) rfl rfl ?_
  refine zn_callVx (pc := 3) (J := zX10_isLine) (o := 50) (as := [.int (nI l)]) (rest := [.ref 50]) rfl rfl rfl rfl rfl rfl rfl rfl (Nat.le_of_ble_eq_true rfl) (Nat.le_of_ble_eq_true rfl) (Nat.le_of_ble_eq_true rfl) (Nat.le_of_ble_eq_true rfl) (m_isLine (by omega) (by omega) (nI l)) ?_
  refine zn_if_eqB (pc := 6) (tgt := 13) rfl rfl (fun c1 => ?_) (fun c1 => ?_)
  · exact absurd hp c1
  · refine zn_iconstN (pc := 9) 0 rfl rfl ?_
    refine zn_goto (pc := 10) (tgt := 14) rfl rfl ?_
    refine zm_putI (pc := 14) (k := 0) (v := 0) rfl (by decide) rfl rfl ?_
    refine zn_aload_n (pc := 17) rfl rfl ?_
    refine zn_get (pc := 18) (v := .int (nI 0)) rfl rfl rfl ?_
    refine zn_if_leN (pc := 21) (tgt := 26) (x := 0) rfl rfl (by omega) (fun c2 => ?_) (fun c2 => ?_)
    · refine zn_aload_n (pc := 26) rfl rfl ?_
      refine zn_callVx (pc := 27) (J := zX10_layBlocks) (o := 50) (as := []) (rest := []) rfl rfl rfl rfl rfl rfl rfl rfl (Nat.le_of_ble_eq_true rfl) (Nat.le_of_ble_eq_true rfl) (Nat.le_of_ble_eq_true rfl) (Nat.le_of_ble_eq_true rfl) (m_layBlocks hz hzb h4 hg hg8 hlw hpd) ?_
      refine zn_pop (pc := 30) rfl rfl ?_
      refine zn_iconstN (pc := 31) 0 rfl rfl ?_
      refine zn_istore_n (pc := 32) (L' := [some (.ref 50), some (.int (nI l)), some (.int (nI 0)), none]) rfl (by decide) rfl ?_
      refine zn_iconstN (pc := 33) 0 rfl rfl ?_
      refine zn_istore_n (pc := 34) (L' := [some (.ref 50), some (.int (nI l)), some (.int (nI 0)), some (.int (nI 0))]) rfl (by decide) rfl ?_
      exact m_touched_l (F := va_up (va_up F 0 0) 13 (bAll z 7).length) h168 ha2 (by omega) (bAll z 7).length 0 (show 0 + (bAll z 7).length = (bAll z 7).length by omega)
    · exfalso; omega
end m1
