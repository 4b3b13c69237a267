section m1
variable {g : zG} {h hh : zH} {F : Nat → Nat} {S : Int64} {z : Nat → Nat} {A : Nat → Nat → Nat} {X : Nat → Int32}
def hx (s x : Int64) : Int64 := lN 31 * s + x
def lI (n : Nat) : Int64 := (nI n).toInt64
def hF (f : Nat → Int64) : Nat → Int64 → Int64
  | 0, s => s
  | n + 1, s => hx (hF f n s) (f n)
/-- the cells of line l mixed in -/
def hC (F : Nat → Nat) (A : Nat → Nat → Nat) (z : Nat → Nat) (l : Nat) : Nat → Int64 → Int64
  | 0, s => s
  | c + 1, s => hF (fun k => lI (z (217 + 16 * (8 * l + c) + k))) (z (25 + 8 * l + c)) (hF (fun k => (mCl F A z l c k).toInt64) 5 (hC F A z l c s))
def hL (F : Nat → Nat) (A : Nat → Nat → Nat) (z : Nat → Nat) (l : Nat) (s : Int64) : Int64 := hC F A z l (z (1 + l)) (hF (fun k => lI (mLn_ A z (F 13) l k)) 4 s)
def hLs (F : Nat → Nat) (A : Nat → Nat → Nat) (z : Nat → Nat) : Nat → Int64 → Int64
  | 0, s => s
  | l + 1, s => hL F A z l (hLs F A z l s)
def hBs (A : Nat → Nat → Nat) (z : Nat → Nat) : Nat → Int64 → Int64
  | 0, s => s
  | b + 1, s => hx (hF (fun k => lI (mBn A z b (A 6 b) (A 7 b) (A 8 b) k)) 8 (hBs A z b s)) (bSum z (A 6 b) (A 7 b) (A 8 b))
def hD (F : Nat → Nat) (A : Nat → Nat → Nat) (z : Nat → Nat) : Int64 :=
  hF (fun k => lI (A 5 k)) (F 11) (hx (hBs A z (F 13) (hLs F A z (z 0) (hx (hx (hx (hF (fun k => lI (A 4 k)) 7 (hF (fun k => lI (mCn F A z k)) 9 (lN 1949))) (lI (F 8))) (lI (F 9))) (lI (F 10))))) (lI (F 11)))
theorem m_mix  {x : Int64} : Zx g zX10_mix [.ref 50, .long x] (mhp h F S z A X) none (mhp h F (hx S x) z A X) := by
  show Zn g zX10_mix 0 [some (.ref 50), some (.long x), none] [] (mhp h F S z A X) 0 0 _
  refine zn_aload_n (pc := 0) rfl rfl ?_
  refine zn_ldc2 (pc := 1) (v := 31) rfl ?_
  refine zn_aload_n (pc := 4) rfl rfl ?_
  refine zn_get (pc := 5) (v := .long S) rfl rfl rfl ?_
  refine zn_lmul (pc := 8) rfl ?_
  refine zn_lload_n (pc := 9) rfl rfl ?_
  refine zn_ladd (pc := 10) rfl ?_
  refine zm_putL (pc := 11) rfl ?_
  exact zx_v (pc := 14) rfl rfl rfl rfl
theorem m_mixLine_s (hz : mOK z) (h168 : F 13 ≤ 168) (ha : ∀ i j, A i j < 2 ^ 20) (hv : mCov A z (F 13)) (hzb : ∀ j, z j < 1000) {l c : Nat} (hl : l < z 0) (hc : c < z (1 + l)) {s : Int64} {Q : zR → zH → Prop} (K : Zn g zX10_mixLine 90 [some (.ref 50), some (.int (nI l)), some (.int (nI c)), none] [] (mhp h F (hF (fun k => lI (z (217 + 16 * (8 * l + c) + k))) (z (25 + 8 * l + c)) s) z A X) 0 0 Q) : ∀ (n : Nat) (k : Nat), k + n = z (25 + 8 * l + c) → Zn g zX10_mixLine 62 [some (.ref 50), some (.int (nI l)), some (.int (nI c)), some (.int (nI k))] [] (mhp h F (hF (fun k => lI (z (217 + 16 * (8 * l + c) + k))) (k) s) z A X) 0 0 Q := by
  intro n
  induction n with
  | zero =>
    intro k hn0
    have h0 := hz.1
    have h1 := hz.2.1
    have hzl := hz.2.2.1 l hl
    have hzc := hz.2.2.2 l c hl hc
    refine zn_iload_n (pc := 62) rfl rfl ?_
    refine zn_aload_n (pc := 63) rfl rfl ?_
    refine zn_iload_n (pc := 64) rfl rfl ?_
    refine zn_iload_n (pc := 65) rfl rfl ?_
    refine zn_callVx (pc := 66) (J := zX10_lengthOf) (o := 50) (as := [.int (nI l), .int (nI c)]) (rest := [.int (nI k)]) rfl rfl rfl rfl rfl rfl rfl rfl (Nat.le_of_ble_eq_true rfl) (Nat.le_of_ble_eq_true rfl) (Nat.le_of_ble_eq_true rfl) (Nat.le_of_ble_eq_true rfl) (m_lengthOf (l := l) (c := c) (by omega) (by omega)) ?_
    refine zn_icmp_geN (pc := 69) (tgt := 90) (x := k) (y := (z (25 + 8 * l + c))) rfl rfl (by omega) (by omega) (fun c1 => ?_) (fun c1 => ?_)
    · have e8 : k = z (25 + 8 * l + c) := by omega
      rw [e8]
      exact zn_sub (L' := [some (.ref 50), some (.int (nI l)), some (.int (nI c)), none]) ⟨rfl, rfl, rfl, trivial⟩ K
    · exfalso; omega
  | succ n ih =>
    intro k hn0
    have h0 := hz.1
    have h1 := hz.2.1
    have hzl := hz.2.2.1 l hl
    have hzc := hz.2.2.2 l c hl hc
    refine zn_iload_n (pc := 62) rfl rfl ?_
    refine zn_aload_n (pc := 63) rfl rfl ?_
    refine zn_iload_n (pc := 64) rfl rfl ?_
    refine zn_iload_n (pc := 65) rfl rfl ?_
    refine zn_callVx (pc := 66) (J := zX10_lengthOf) (o := 50) (as := [.int (nI l), .int (nI c)]) (rest := [.int (nI k)]) rfl rfl rfl rfl rfl rfl rfl rfl (Nat.le_of_ble_eq_true rfl) (Nat.le_of_ble_eq_true rfl) (Nat.le_of_ble_eq_true rfl) (Nat.le_of_ble_eq_true rfl) (m_lengthOf (l := l) (c := c) (by omega) (by omega)) ?_
    refine zn_icmp_geN (pc := 69) (tgt := 90) (x := k) (y := (z (25 + 8 * l + c))) rfl rfl (by omega) (by omega) (fun c1 => ?_) (fun c1 => ?_)
    · have e8 : k = z (25 + 8 * l + c) := by omega
      rw [e8]
      exact zn_sub (L' := [some (.ref 50), some (.int (nI l)), some (.int (nI c)), none]) ⟨rfl, rfl, rfl, trivial⟩ K
    · refine zn_aload_n (pc := 72) rfl rfl ?_
      refine zn_aload_n (pc := 73) rfl rfl ?_
      refine zn_iload_n (pc := 74) rfl rfl ?_
      refine zn_iload_n (pc := 75) rfl rfl ?_
      refine zn_iload_n (pc := 76) rfl rfl ?_
      refine zn_callVx (pc := 77) (J := zX10_signOf) (o := 50) (as := [.int (nI l), .int (nI c), .int (nI k)]) (rest := [.ref 50]) rfl rfl rfl rfl rfl rfl rfl rfl (Nat.le_of_ble_eq_true rfl) (Nat.le_of_ble_eq_true rfl) (Nat.le_of_ble_eq_true rfl) (Nat.le_of_ble_eq_true rfl) (m_signOf (l := l) (c := c) (k := k) (by omega) (by omega) (by omega)) ?_
      refine zn_i2l (pc := 80) rfl ?_
      refine zn_callVx (pc := 81) (J := zX10_mix) (o := 50) (as := [.long ((nI (z (217 + 16 * (8 * l + c) + k))).toInt64)]) (rest := []) rfl rfl rfl rfl rfl rfl rfl rfl (Nat.le_of_ble_eq_true rfl) (Nat.le_of_ble_eq_true rfl) (Nat.le_of_ble_eq_true rfl) (Nat.le_of_ble_eq_true rfl) (m_mix (x := ((nI (z (217 + 16 * (8 * l + c) + k))).toInt64))) ?_
      refine zn_iincN (pc := 84) (L' := [some (.ref 50), some (.int (nI l)), some (.int (nI c)), some (.int (nI (k + 1)))]) 1 rfl rfl rfl (by decide) rfl ?_
      refine zn_goto (pc := 87) (tgt := 62) rfl rfl ?_
      exact ih (k + 1) (by omega)
theorem m_mixLine_f (hz : mOK z) (h168 : F 13 ≤ 168) (ha : ∀ i j, A i j < 2 ^ 20) (hv : mCov A z (F 13)) (hzb : ∀ j, z j < 1000) {l c : Nat} (hl : l < z 0) (hc : c < z (1 + l)) {s : Int64} {Q : zR → zH → Prop} (K : Zn g zX10_mixLine 60 [some (.ref 50), some (.int (nI l)), some (.int (nI c)), none] [] (mhp h F (hF (fun k => (mCl F A z l c k).toInt64) (5) s) z A X) 0 0 Q) : ∀ (n : Nat) (k : Nat), k + n = 5 → Zn g zX10_mixLine 37 [some (.ref 50), some (.int (nI l)), some (.int (nI c)), some (.int (nI k))] [] (mhp h F (hF (fun k => (mCl F A z l c k).toInt64) (k) s) z A X) 0 0 Q := by
  intro n
  induction n with
  | zero =>
    intro k hn0
    have h0 := hz.1
    have h1 := hz.2.1
    have hzl := hz.2.2.1 l hl
    have hzc := hz.2.2.2 l c hl hc
    refine zn_iload_n (pc := 37) rfl rfl ?_
    refine zn_iconstN (pc := 38) 5 rfl rfl ?_
    refine zn_icmp_geN (pc := 39) (tgt := 60) (x := k) (y := 5) rfl rfl (by omega) (by omega) (fun c1 => ?_) (fun c1 => ?_)
    · have e8 : k = 5 := by omega
      rw [e8]
      exact zn_sub (L' := [some (.ref 50), some (.int (nI l)), some (.int (nI c)), none]) ⟨rfl, rfl, rfl, trivial⟩ K
    · exfalso; omega
  | succ n ih =>
    intro k hn0
    have h0 := hz.1
    have h1 := hz.2.1
    have hzl := hz.2.2.1 l hl
    have hzc := hz.2.2.2 l c hl hc
    refine zn_iload_n (pc := 37) rfl rfl ?_
    refine zn_iconstN (pc := 38) 5 rfl rfl ?_
    refine zn_icmp_geN (pc := 39) (tgt := 60) (x := k) (y := 5) rfl rfl (by omega) (by omega) (fun c1 => ?_) (fun c1 => ?_)
    · have e8 : k = 5 := by omega
      rw [e8]
      exact zn_sub (L' := [some (.ref 50), some (.int (nI l)), some (.int (nI c)), none]) ⟨rfl, rfl, rfl, trivial⟩ K
    · refine zn_aload_n (pc := 42) rfl rfl ?_
      refine zn_aload_n (pc := 43) rfl rfl ?_
      refine zn_iload_n (pc := 44) rfl rfl ?_
      refine zn_iload_n (pc := 45) rfl rfl ?_
      refine zn_iload_n (pc := 46) rfl rfl ?_
      refine zn_callVx (pc := 47) (J := zX10_cellNow) (o := 50) (as := [.int (nI l), .int (nI c), .int (nI k)]) (rest := [.ref 50]) rfl rfl rfl rfl rfl rfl rfl rfl (Nat.le_of_ble_eq_true rfl) (Nat.le_of_ble_eq_true rfl) (Nat.le_of_ble_eq_true rfl) (Nat.le_of_ble_eq_true rfl) (m_cellNow hz h168 ha hv hzb (l := l) (c := c) (by omega) (by omega) (k := k) (by omega)) ?_
      refine zn_i2l (pc := 50) rfl ?_
      refine zn_callVx (pc := 51) (J := zX10_mix) (o := 50) (as := [.long ((mCl F A z l c k).toInt64)]) (rest := []) rfl rfl rfl rfl rfl rfl rfl rfl (Nat.le_of_ble_eq_true rfl) (Nat.le_of_ble_eq_true rfl) (Nat.le_of_ble_eq_true rfl) (Nat.le_of_ble_eq_true rfl) (m_mix (x := ((mCl F A z l c k).toInt64))) ?_
      refine zn_iincN (pc := 54) (L' := [some (.ref 50), some (.int (nI l)), some (.int (nI c)), some (.int (nI (k + 1)))]) 1 rfl rfl rfl (by decide) rfl ?_
      refine zn_goto (pc := 57) (tgt := 37) rfl rfl ?_
      exact ih (k + 1) (by omega)
theorem m_mixLine_c3 {l c : Nat} {s : Int64} {Q : zR → zH → Prop} (K : Zn g zX10_mixLine 26 [some (.ref 50), some (.int (nI l)), some (.int (nI (c + 1))), none] [] (mhp h F s z A X) 0 0 Q) : Zn g zX10_mixLine 90 [some (.ref 50), some (.int (nI l)), some (.int (nI c)), none] [] (mhp h F s z A X) 0 0 Q := by
  refine zn_iincN (pc := 90) (L' := [some (.ref 50), some (.int (nI l)), some (.int (nI (c + 1))), none]) 1 rfl rfl rfl (by decide) rfl ?_
  refine zn_goto (pc := 93) (tgt := 26) rfl rfl ?_
  exact K
theorem m_mixLine_c2 (hz : mOK z) (h168 : F 13 ≤ 168) (ha : ∀ i j, A i j < 2 ^ 20) (hv : mCov A z (F 13)) (hzb : ∀ j, z j < 1000) {l c : Nat} (hl : l < z 0) (hc : c < z (1 + l)) {s : Int64} {Q : zR → zH → Prop} (K : Zn g zX10_mixLine 26 [some (.ref 50), some (.int (nI l)), some (.int (nI (c + 1))), none] [] (mhp h F (hF (fun k => lI (z (217 + 16 * (8 * l + c) + k))) (z (25 + 8 * l + c)) (hF (fun k => (mCl F A z l c k).toInt64) 5 s)) z A X) 0 0 Q) : Zn g zX10_mixLine 60 [some (.ref 50), some (.int (nI l)), some (.int (nI c)), none] [] (mhp h F (hF (fun k => (mCl F A z l c k).toInt64) 5 s) z A X) 0 0 Q := by
  refine zn_iconstN (pc := 60) 0 rfl rfl ?_
  refine zn_istore_n (pc := 61) (L' := [some (.ref 50), some (.int (nI l)), some (.int (nI c)), some (.int (nI 0))]) rfl (by decide) rfl ?_
  exact m_mixLine_s hz h168 ha hv hzb hl hc (s := hF (fun k => (mCl F A z l c k).toInt64) 5 s) (m_mixLine_c3 K) (z (25 + 8 * l + c)) 0 (by omega)
theorem m_mixLine_c (hz : mOK z) (h168 : F 13 ≤ 168) (ha : ∀ i j, A i j < 2 ^ 20) (hv : mCov A z (F 13)) (hzb : ∀ j, z j < 1000) {l : Nat} (hl : l < z 0) {s : Int64} : ∀ (n : Nat) (c : Nat), c + n = z (1 + l) → Zn g zX10_mixLine 26 [some (.ref 50), some (.int (nI l)), some (.int (nI c)), none] [] (mhp h F (hC F A z l c s) z A X) 0 0 (fun r' h' => r' = .inl none ∧ h' = (mhp h F (hC F A z l (z (1 + l)) s) z A X)) := by
  intro n
  induction n with
  | zero =>
    intro c hn0
    have h0 := hz.1
    have h1 := hz.2.1
    have hzl := hz.2.2.1 l hl
    refine zn_iload_n (pc := 26) rfl rfl ?_
    refine zn_aload_n (pc := 27) rfl rfl ?_
    refine zn_iload_n (pc := 28) rfl rfl ?_
    refine zn_callVx (pc := 29) (J := zX10_cells) (o := 50) (as := [.int (nI l)]) (rest := [.int (nI c)]) rfl rfl rfl rfl rfl rfl rfl rfl (Nat.le_of_ble_eq_true rfl) (Nat.le_of_ble_eq_true rfl) (Nat.le_of_ble_eq_true rfl) (Nat.le_of_ble_eq_true rfl) (m_cells (l := l) (by omega)) ?_
    refine zn_icmp_geN (pc := 32) (tgt := 96) (x := c) (y := (z (1 + l))) rfl rfl (by omega) (by omega) (fun c1 => ?_) (fun c1 => ?_)
    · have e8 : c = z (1 + l) := by omega
      exact zx_v (pc := 96) rfl rfl rfl (by rw [e8])
    · exfalso; omega
  | succ n ih =>
    intro c hn0
    have h0 := hz.1
    have h1 := hz.2.1
    have hzl := hz.2.2.1 l hl
    refine zn_iload_n (pc := 26) rfl rfl ?_
    refine zn_aload_n (pc := 27) rfl rfl ?_
    refine zn_iload_n (pc := 28) rfl rfl ?_
    refine zn_callVx (pc := 29) (J := zX10_cells) (o := 50) (as := [.int (nI l)]) (rest := [.int (nI c)]) rfl rfl rfl rfl rfl rfl rfl rfl (Nat.le_of_ble_eq_true rfl) (Nat.le_of_ble_eq_true rfl) (Nat.le_of_ble_eq_true rfl) (Nat.le_of_ble_eq_true rfl) (m_cells (l := l) (by omega)) ?_
    refine zn_icmp_geN (pc := 32) (tgt := 96) (x := c) (y := (z (1 + l))) rfl rfl (by omega) (by omega) (fun c1 => ?_) (fun c1 => ?_)
    · have e8 : c = z (1 + l) := by omega
      exact zx_v (pc := 96) rfl rfl rfl (by rw [e8])
    · refine zn_iconstN (pc := 35) 0 rfl rfl ?_
      refine zn_istore_n (pc := 36) (L' := [some (.ref 50), some (.int (nI l)), some (.int (nI c)), some (.int (nI 0))]) rfl (by decide) rfl ?_
      exact zn_sub (L' := [some (.ref 50), some (.int (nI l)), some (.int (nI c)), some (.int (nI 0))]) ⟨rfl, rfl, rfl, rfl, trivial⟩ (m_mixLine_f hz h168 ha hv hzb hl (by omega) (s := hC F A z l c s) (m_mixLine_c2 hz h168 ha hv hzb hl (by omega) (ih (c + 1) (by omega))) 5 0 (by omega))
theorem m_mixLine_w (hz : mOK z) (h168 : F 13 ≤ 168) (ha : ∀ i j, A i j < 2 ^ 20) (hv : mCov A z (F 13)) (hzb : ∀ j, z j < 1000) {l : Nat} (hl : l < z 0) {s : Int64} {Q : zR → zH → Prop} (K : Zn g zX10_mixLine 24 [some (.ref 50), some (.int (nI l)), none, none] [] (mhp h F (hF (fun k => lI (mLn_ A z (F 13) l k)) (4) s) z A X) 0 0 Q) : ∀ (n : Nat) (k : Nat), k + n = 4 → Zn g zX10_mixLine 2 [some (.ref 50), some (.int (nI l)), some (.int (nI k)), none] [] (mhp h F (hF (fun k => lI (mLn_ A z (F 13) l k)) (k) s) z A X) 0 0 Q := by
  intro n
  induction n with
  | zero =>
    intro k hn0
    have h0 := hz.1
    have h1 := hz.2.1
    have hzl := hz.2.2.1 l hl
    refine zn_iload_n (pc := 2) rfl rfl ?_
    refine zn_iconstN (pc := 3) 4 rfl rfl ?_
    refine zn_icmp_geN (pc := 4) (tgt := 24) (x := k) (y := 4) rfl rfl (by omega) (by omega) (fun c1 => ?_) (fun c1 => ?_)
    · have e8 : k = 4 := by omega
      rw [e8]
      exact zn_sub (L' := [some (.ref 50), some (.int (nI l)), none, none]) ⟨rfl, rfl, trivial⟩ K
    · exfalso; omega
  | succ n ih =>
    intro k hn0
    have h0 := hz.1
    have h1 := hz.2.1
    have hzl := hz.2.2.1 l hl
    refine zn_iload_n (pc := 2) rfl rfl ?_
    refine zn_iconstN (pc := 3) 4 rfl rfl ?_
    refine zn_icmp_geN (pc := 4) (tgt := 24) (x := k) (y := 4) rfl rfl (by omega) (by omega) (fun c1 => ?_) (fun c1 => ?_)
    · have e8 : k = 4 := by omega
      rw [e8]
      exact zn_sub (L' := [some (.ref 50), some (.int (nI l)), none, none]) ⟨rfl, rfl, trivial⟩ K
    · refine zn_aload_n (pc := 7) rfl rfl ?_
      refine zn_aload_n (pc := 8) rfl rfl ?_
      refine zn_iload_n (pc := 9) rfl rfl ?_
      refine zn_iload_n (pc := 10) rfl rfl ?_
      refine zn_callVx (pc := 11) (J := zX10_lineNow) (o := 50) (as := [.int (nI l), .int (nI k)]) (rest := [.ref 50]) rfl rfl rfl rfl rfl rfl rfl rfl (Nat.le_of_ble_eq_true rfl) (Nat.le_of_ble_eq_true rfl) (Nat.le_of_ble_eq_true rfl) (Nat.le_of_ble_eq_true rfl) (m_lineNow hz h168 ha hv hzb (l := l) (by omega) (k := k) (by omega)) ?_
      refine zn_i2l (pc := 14) rfl ?_
      refine zn_callVx (pc := 15) (J := zX10_mix) (o := 50) (as := [.long ((nI (mLn_ A z (F 13) l k)).toInt64)]) (rest := []) rfl rfl rfl rfl rfl rfl rfl rfl (Nat.le_of_ble_eq_true rfl) (Nat.le_of_ble_eq_true rfl) (Nat.le_of_ble_eq_true rfl) (Nat.le_of_ble_eq_true rfl) (m_mix (x := ((nI (mLn_ A z (F 13) l k)).toInt64))) ?_
      refine zn_iincN (pc := 18) (L' := [some (.ref 50), some (.int (nI l)), some (.int (nI (k + 1))), none]) 1 rfl rfl rfl (by decide) rfl ?_
      refine zn_goto (pc := 21) (tgt := 2) rfl rfl ?_
      exact ih (k + 1) (by omega)
theorem m_mixLine  (hz : mOK z) (h168 : F 13 ≤ 168) (ha : ∀ i j, A i j < 2 ^ 20) (hv : mCov A z (F 13)) (hzb : ∀ j, z j < 1000) {l : Nat} (hl : l < z 0) : Zx g zX10_mixLine [.ref 50, .int (nI l)] (mhp h F S z A X) none (mhp h F (hL F A z l S) z A X) := by
  show Zn g zX10_mixLine 0 [some (.ref 50), some (.int (nI l)), none, none] [] (mhp h F S z A X) 0 0 _
  refine zn_iconstN (pc := 0) 0 rfl rfl ?_
  refine zn_istore_n (pc := 1) (L' := [some (.ref 50), some (.int (nI l)), some (.int (nI 0)), none]) rfl (by decide) rfl ?_
  refine m_mixLine_w hz h168 ha hv hzb hl (s := S) ?_ 4 0 (by omega)
  refine zn_iconstN (pc := 24) 0 rfl rfl ?_
  refine zn_istore_n (pc := 25) (L' := [some (.ref 50), some (.int (nI l)), some (.int (nI 0)), none]) rfl (by decide) rfl ?_
  exact m_mixLine_c hz h168 ha hv hzb hl (s := hF (fun k => lI (mLn_ A z (F 13) l k)) 4 S) (z (1 + l)) 0 (by omega)
theorem m_digest_5 (hz : mOK z) (h168 : F 13 ≤ 168) (ha : ∀ i j, A i j < 2 ^ 20) (hv : mCov A z (F 13)) (hzb : ∀ j, z j < 1000) (hbk : ∀ b, b < F 13 → mBlk z (A 6 b) (A 7 b) (A 8 b)) (hs : F 11 ≤ 120) {s : Int64} {Q : zR → zH → Prop} (K : Zn g zX10_digest 202 [some (.ref 50), none, none] [] (mhp h F (hF (fun k => lI (A 5 k)) (F 11) s) z A X) 0 0 Q) : ∀ (n : Nat) (k : Nat), k + n = F 11 → Zn g zX10_digest 177 [some (.ref 50), some (.int (nI k)), none] [] (mhp h F (hF (fun k => lI (A 5 k)) (k) s) z A X) 0 0 Q := by
  intro n
  induction n with
  | zero =>
    intro k hn0
    have h0 := hz.1
    have h1 := hz.2.1
    refine zn_iload_n (pc := 177) rfl rfl ?_
    refine zn_aload_n (pc := 178) rfl rfl ?_
    refine zn_get (pc := 179) (v := .int (nI (F 11))) rfl rfl rfl ?_
    refine zn_icmp_geN (pc := 182) (tgt := 202) (x := k) (y := (F 11)) rfl rfl (by omega) (by omega) (fun c1 => ?_) (fun c1 => ?_)
    · have e8 : k = F 11 := by omega
      rw [e8]
      exact zn_sub (L' := [some (.ref 50), none, none]) ⟨rfl, trivial⟩ K
    · exfalso; omega
  | succ n ih =>
    intro k hn0
    have h0 := hz.1
    have h1 := hz.2.1
    refine zn_iload_n (pc := 177) rfl rfl ?_
    refine zn_aload_n (pc := 178) rfl rfl ?_
    refine zn_get (pc := 179) (v := .int (nI (F 11))) rfl rfl rfl ?_
    refine zn_icmp_geN (pc := 182) (tgt := 202) (x := k) (y := (F 11)) rfl rfl (by omega) (by omega) (fun c1 => ?_) (fun c1 => ?_)
    · have e8 : k = F 11 := by omega
      rw [e8]
      exact zn_sub (L' := [some (.ref 50), none, none]) ⟨rfl, trivial⟩ K
    · refine zn_aload_n (pc := 185) rfl rfl ?_
      refine zn_aload_n (pc := 186) rfl rfl ?_
      refine zn_get (pc := 187) (v := .ref 56) rfl rfl rfl ?_
      refine zn_iload_n (pc := 190) rfl rfl ?_
      refine zm_ldA (pc := 191) (i := 5) (n := 120) (Z := (A 5)) (j := k) rfl (by decide) (by decide) rfl mln5 rfl (by omega) (Nat.le_of_ble_eq_true rfl) ?_
      refine zn_i2l (pc := 192) rfl ?_
      refine zn_callVx (pc := 193) (J := zX10_mix) (o := 50) (as := [.long ((nI ((A 5) k)).toInt64)]) (rest := []) rfl rfl rfl rfl rfl rfl rfl rfl (Nat.le_of_ble_eq_true rfl) (Nat.le_of_ble_eq_true rfl) (Nat.le_of_ble_eq_true rfl) (Nat.le_of_ble_eq_true rfl) (m_mix (x := ((nI ((A 5) k)).toInt64))) ?_
      refine zn_iincN (pc := 196) (L' := [some (.ref 50), some (.int (nI (k + 1))), none]) 1 rfl rfl rfl (by decide) rfl ?_
      refine zn_goto (pc := 199) (tgt := 177) rfl rfl ?_
      exact ih (k + 1) (by omega)
theorem m_digest_b (hz : mOK z) (h168 : F 13 ≤ 168) (ha : ∀ i j, A i j < 2 ^ 20) (hv : mCov A z (F 13)) (hzb : ∀ j, z j < 1000) (hbk : ∀ b, b < F 13 → mBlk z (A 6 b) (A 7 b) (A 8 b)) (hs : F 11 ≤ 120) {s : Int64} {b : Nat} (hb9 : b < F 13) {Q : zR → zH → Prop} (K : Zn g zX10_digest 151 [some (.ref 50), some (.int (nI b)), none] [] (mhp h F (hF (fun k => lI (mBn A z b (A 6 b) (A 7 b) (A 8 b) k)) (8) s) z A X) 0 0 Q) : ∀ (n : Nat) (k : Nat), k + n = 8 → Zn g zX10_digest 128 [some (.ref 50), some (.int (nI b)), some (.int (nI k))] [] (mhp h F (hF (fun k => lI (mBn A z b (A 6 b) (A 7 b) (A 8 b) k)) (k) s) z A X) 0 0 Q := by
  intro n
  induction n with
  | zero =>
    intro k hn0
    have h0 := hz.1
    have h1 := hz.2.1
    refine zn_iload_n (pc := 128) rfl rfl ?_
    refine zn_bipushN (pc := 129) 8 rfl rfl ?_
    refine zn_icmp_geN (pc := 131) (tgt := 151) (x := k) (y := 8) rfl rfl (by omega) (by omega) (fun c1 => ?_) (fun c1 => ?_)
    · have e8 : k = 8 := by omega
      rw [e8]
      exact zn_sub (L' := [some (.ref 50), some (.int (nI b)), none]) ⟨rfl, rfl, trivial⟩ K
    · exfalso; omega
  | succ n ih =>
    intro k hn0
    have h0 := hz.1
    have h1 := hz.2.1
    refine zn_iload_n (pc := 128) rfl rfl ?_
    refine zn_bipushN (pc := 129) 8 rfl rfl ?_
    refine zn_icmp_geN (pc := 131) (tgt := 151) (x := k) (y := 8) rfl rfl (by omega) (by omega) (fun c1 => ?_) (fun c1 => ?_)
    · have e8 : k = 8 := by omega
      rw [e8]
      exact zn_sub (L' := [some (.ref 50), some (.int (nI b)), none]) ⟨rfl, rfl, trivial⟩ K
    · refine zn_aload_n (pc := 134) rfl rfl ?_
      refine zn_aload_n (pc := 135) rfl rfl ?_
      refine zn_iload_n (pc := 136) rfl rfl ?_
      refine zn_iload_n (pc := 137) rfl rfl ?_
      refine zn_callVx (pc := 138) (J := zX10_blockNow) (o := 50) (as := [.int (nI b), .int (nI k)]) (rest := [.ref 50]) rfl rfl rfl rfl rfl rfl rfl rfl (Nat.le_of_ble_eq_true rfl) (Nat.le_of_ble_eq_true rfl) (Nat.le_of_ble_eq_true rfl) (Nat.le_of_ble_eq_true rfl) (m_blockNow (b := b) (c := A 6 b) (f := A 7 b) (t := A 8 b) (by omega) rfl rfl rfl (hbk b (by omega)) hzb (k := k) (by omega)) ?_
      refine zn_i2l (pc := 141) rfl ?_
      refine zn_callVx (pc := 142) (J := zX10_mix) (o := 50) (as := [.long ((nI (mBn A z b (A 6 b) (A 7 b) (A 8 b) k)).toInt64)]) (rest := []) rfl rfl rfl rfl rfl rfl rfl rfl (Nat.le_of_ble_eq_true rfl) (Nat.le_of_ble_eq_true rfl) (Nat.le_of_ble_eq_true rfl) (Nat.le_of_ble_eq_true rfl) (m_mix (x := ((nI (mBn A z b (A 6 b) (A 7 b) (A 8 b) k)).toInt64))) ?_
      refine zn_iincN (pc := 145) (L' := [some (.ref 50), some (.int (nI b)), some (.int (nI (k + 1)))]) 1 rfl rfl rfl (by decide) rfl ?_
      refine zn_goto (pc := 148) (tgt := 128) rfl rfl ?_
      exact ih (k + 1) (by omega)
theorem m_digest_4 (hz : mOK z) (h168 : F 13 ≤ 168) (ha : ∀ i j, A i j < 2 ^ 20) (hv : mCov A z (F 13)) (hzb : ∀ j, z j < 1000) (hbk : ∀ b, b < F 13 → mBlk z (A 6 b) (A 7 b) (A 8 b)) (hs : F 11 ≤ 120) {s : Int64} {Q : zR → zH → Prop} (K : Zn g zX10_digest 166 [some (.ref 50), none, none] [] (mhp h F (hBs A z (F 13) s) z A X) 0 0 Q) : ∀ (n : Nat) (b : Nat), b + n = F 13 → Zn g zX10_digest 118 [some (.ref 50), some (.int (nI b)), none] [] (mhp h F (hBs A z b s) z A X) 0 0 Q := by
  intro n
  induction n with
  | zero =>
    intro b hn0
    have h0 := hz.1
    have h1 := hz.2.1
    refine zn_iload_n (pc := 118) rfl rfl ?_
    refine zn_aload_n (pc := 119) rfl rfl ?_
    refine zn_get (pc := 120) (v := .int (nI (F 13))) rfl rfl rfl ?_
    refine zn_icmp_geN (pc := 123) (tgt := 166) (x := b) (y := (F 13)) rfl rfl (by omega) (by omega) (fun c1 => ?_) (fun c1 => ?_)
    · have e8 : b = F 13 := by omega
      rw [e8]
      exact zn_sub (L' := [some (.ref 50), none, none]) ⟨rfl, trivial⟩ K
    · exfalso; omega
  | succ n ih =>
    intro b hn0
    have h0 := hz.1
    have h1 := hz.2.1
    refine zn_iload_n (pc := 118) rfl rfl ?_
    refine zn_aload_n (pc := 119) rfl rfl ?_
    refine zn_get (pc := 120) (v := .int (nI (F 13))) rfl rfl rfl ?_
    refine zn_icmp_geN (pc := 123) (tgt := 166) (x := b) (y := (F 13)) rfl rfl (by omega) (by omega) (fun c1 => ?_) (fun c1 => ?_)
    · have e8 : b = F 13 := by omega
      rw [e8]
      exact zn_sub (L' := [some (.ref 50), none, none]) ⟨rfl, trivial⟩ K
    · refine zn_iconstN (pc := 126) 0 rfl rfl ?_
      refine zn_istore_n (pc := 127) (L' := [some (.ref 50), some (.int (nI b)), some (.int (nI 0))]) rfl (by decide) rfl ?_
      refine m_digest_b hz h168 ha hv hzb hbk hs (by omega) (s := hBs A z b s) ?_ 8 0 (by omega)
      refine zn_aload_n (pc := 151) rfl rfl ?_
      refine zn_aload_n (pc := 152) rfl rfl ?_
      refine zn_iload_n (pc := 153) rfl rfl ?_
      refine zn_callVx (pc := 154) (J := zX10_sumOf) (o := 50) (as := [.int (nI b)]) (rest := [.ref 50]) rfl rfl rfl rfl rfl rfl rfl rfl (Nat.le_of_ble_eq_true rfl) (Nat.le_of_ble_eq_true rfl) (Nat.le_of_ble_eq_true rfl) (Nat.le_of_ble_eq_true rfl) (m_sumOf (b := b) (c := A 6 b) (f := A 7 b) (t := A 8 b) (by omega) rfl rfl rfl (hbk b (by omega)) hzb) ?_
      refine zn_callVx (pc := 157) (J := zX10_mix) (o := 50) (as := [.long (bSum z (A 6 b) (A 7 b) (A 8 b))]) (rest := []) rfl rfl rfl rfl rfl rfl rfl rfl (Nat.le_of_ble_eq_true rfl) (Nat.le_of_ble_eq_true rfl) (Nat.le_of_ble_eq_true rfl) (Nat.le_of_ble_eq_true rfl) (m_mix (x := (bSum z (A 6 b) (A 7 b) (A 8 b)))) ?_
      refine zn_iincN (pc := 160) (L' := [some (.ref 50), some (.int (nI (b + 1))), none]) 1 rfl rfl rfl (by decide) rfl ?_
      refine zn_goto (pc := 163) (tgt := 118) rfl rfl ?_
      exact ih (b + 1) (by omega)
theorem m_digest_3 (hz : mOK z) (h168 : F 13 ≤ 168) (ha : ∀ i j, A i j < 2 ^ 20) (hv : mCov A z (F 13)) (hzb : ∀ j, z j < 1000) (hbk : ∀ b, b < F 13 → mBlk z (A 6 b) (A 7 b) (A 8 b)) (hs : F 11 ≤ 120) {s : Int64} {Q : zR → zH → Prop} (K : Zn g zX10_digest 116 [some (.ref 50), none, none] [] (mhp h F (hLs F A z (z 0) s) z A X) 0 0 Q) : ∀ (n : Nat) (l : Nat), l + n = z 0 → Zn g zX10_digest 95 [some (.ref 50), some (.int (nI l)), none] [] (mhp h F (hLs F A z (l) s) z A X) 0 0 Q := by
  intro n
  induction n with
  | zero =>
    intro l hn0
    have h0 := hz.1
    have h1 := hz.2.1
    refine zn_iload_n (pc := 95) rfl rfl ?_
    refine zn_aload_n (pc := 96) rfl rfl ?_
    refine zn_get (pc := 97) (v := .ref 51) rfl rfl rfl ?_
    refine zn_iconstN (pc := 100) 0 rfl rfl ?_
    refine zn_naLd (pc := 101) (o := 51) (n := 3289) (Z := z) (j := 0) rfl rfl (by omega) (Nat.le_of_ble_eq_true rfl) ?_
    refine zn_icmp_geN (pc := 102) (tgt := 116) (x := l) (y := (z 0)) rfl rfl (by omega) (by omega) (fun c1 => ?_) (fun c1 => ?_)
    · have e8 : l = z 0 := by omega
      rw [e8]
      exact zn_sub (L' := [some (.ref 50), none, none]) ⟨rfl, trivial⟩ K
    · exfalso; omega
  | succ n ih =>
    intro l hn0
    have h0 := hz.1
    have h1 := hz.2.1
    refine zn_iload_n (pc := 95) rfl rfl ?_
    refine zn_aload_n (pc := 96) rfl rfl ?_
    refine zn_get (pc := 97) (v := .ref 51) rfl rfl rfl ?_
    refine zn_iconstN (pc := 100) 0 rfl rfl ?_
    refine zn_naLd (pc := 101) (o := 51) (n := 3289) (Z := z) (j := 0) rfl rfl (by omega) (Nat.le_of_ble_eq_true rfl) ?_
    refine zn_icmp_geN (pc := 102) (tgt := 116) (x := l) (y := (z 0)) rfl rfl (by omega) (by omega) (fun c1 => ?_) (fun c1 => ?_)
    · have e8 : l = z 0 := by omega
      rw [e8]
      exact zn_sub (L' := [some (.ref 50), none, none]) ⟨rfl, trivial⟩ K
    · refine zn_aload_n (pc := 105) rfl rfl ?_
      refine zn_iload_n (pc := 106) rfl rfl ?_
      refine zn_callVx (pc := 107) (J := zX10_mixLine) (o := 50) (as := [.int (nI l)]) (rest := []) rfl rfl rfl rfl rfl rfl rfl rfl (Nat.le_of_ble_eq_true rfl) (Nat.le_of_ble_eq_true rfl) (Nat.le_of_ble_eq_true rfl) (Nat.le_of_ble_eq_true rfl) (m_mixLine hz h168 ha hv hzb (l := l) (by omega)) ?_
      refine zn_iincN (pc := 110) (L' := [some (.ref 50), some (.int (nI (l + 1))), none]) 1 rfl rfl rfl (by decide) rfl ?_
      refine zn_goto (pc := 113) (tgt := 95) rfl rfl ?_
      exact ih (l + 1) (by omega)
theorem m_digest_2 (hz : mOK z) (h168 : F 13 ≤ 168) (ha : ∀ i j, A i j < 2 ^ 20) (hv : mCov A z (F 13)) (hzb : ∀ j, z j < 1000) (hbk : ∀ b, b < F 13 → mBlk z (A 6 b) (A 7 b) (A 8 b)) (hs : F 11 ≤ 120) {s : Int64} {Q : zR → zH → Prop} (K : Zn g zX10_digest 66 [some (.ref 50), none, none] [] (mhp h F (hF (fun k => lI (A 4 k)) (7) s) z A X) 0 0 Q) : ∀ (n : Nat) (k : Nat), k + n = 7 → Zn g zX10_digest 43 [some (.ref 50), some (.int (nI k)), none] [] (mhp h F (hF (fun k => lI (A 4 k)) (k) s) z A X) 0 0 Q := by
  intro n
  induction n with
  | zero =>
    intro k hn0
    have h0 := hz.1
    have h1 := hz.2.1
    refine zn_iload_n (pc := 43) rfl rfl ?_
    refine zn_bipushN (pc := 44) 7 rfl rfl ?_
    refine zn_icmp_geN (pc := 46) (tgt := 66) (x := k) (y := 7) rfl rfl (by omega) (by omega) (fun c1 => ?_) (fun c1 => ?_)
    · have e8 : k = 7 := by omega
      rw [e8]
      exact zn_sub (L' := [some (.ref 50), none, none]) ⟨rfl, trivial⟩ K
    · exfalso; omega
  | succ n ih =>
    intro k hn0
    have h0 := hz.1
    have h1 := hz.2.1
    refine zn_iload_n (pc := 43) rfl rfl ?_
    refine zn_bipushN (pc := 44) 7 rfl rfl ?_
    refine zn_icmp_geN (pc := 46) (tgt := 66) (x := k) (y := 7) rfl rfl (by omega) (by omega) (fun c1 => ?_) (fun c1 => ?_)
    · have e8 : k = 7 := by omega
      rw [e8]
      exact zn_sub (L' := [some (.ref 50), none, none]) ⟨rfl, trivial⟩ K
    · refine zn_aload_n (pc := 49) rfl rfl ?_
      refine zn_aload_n (pc := 50) rfl rfl ?_
      refine zn_get (pc := 51) (v := .ref 55) rfl rfl rfl ?_
      refine zn_iload_n (pc := 54) rfl rfl ?_
      refine zm_ldA (pc := 55) (i := 4) (n := 7) (Z := (A 4)) (j := k) rfl (by decide) (by decide) rfl mln4 rfl (by omega) (Nat.le_of_ble_eq_true rfl) ?_
      refine zn_i2l (pc := 56) rfl ?_
      refine zn_callVx (pc := 57) (J := zX10_mix) (o := 50) (as := [.long ((nI ((A 4) k)).toInt64)]) (rest := []) rfl rfl rfl rfl rfl rfl rfl rfl (Nat.le_of_ble_eq_true rfl) (Nat.le_of_ble_eq_true rfl) (Nat.le_of_ble_eq_true rfl) (Nat.le_of_ble_eq_true rfl) (m_mix (x := ((nI ((A 4) k)).toInt64))) ?_
      refine zn_iincN (pc := 60) (L' := [some (.ref 50), some (.int (nI (k + 1))), none]) 1 rfl rfl rfl (by decide) rfl ?_
      refine zn_goto (pc := 63) (tgt := 43) rfl rfl ?_
      exact ih (k + 1) (by omega)
theorem m_digest_1 (hz : mOK z) (h168 : F 13 ≤ 168) (ha : ∀ i j, A i j < 2 ^ 20) (hv : mCov A z (F 13)) (hzb : ∀ j, z j < 1000) (hbk : ∀ b, b < F 13 → mBlk z (A 6 b) (A 7 b) (A 8 b)) (hs : F 11 ≤ 120) {s : Int64} {Q : zR → zH → Prop} (K : Zn g zX10_digest 41 [some (.ref 50), none, none] [] (mhp h F (hF (fun k => lI (mCn F A z k)) (9) s) z A X) 0 0 Q) : ∀ (n : Nat) (k : Nat), k + n = 9 → Zn g zX10_digest 19 [some (.ref 50), some (.int (nI k)), none] [] (mhp h F (hF (fun k => lI (mCn F A z k)) (k) s) z A X) 0 0 Q := by
  intro n
  induction n with
  | zero =>
    intro k hn0
    have h0 := hz.1
    have h1 := hz.2.1
    refine zn_iload_n (pc := 19) rfl rfl ?_
    refine zn_bipushN (pc := 20) 9 rfl rfl ?_
    refine zn_icmp_geN (pc := 22) (tgt := 41) (x := k) (y := 9) rfl rfl (by omega) (by omega) (fun c1 => ?_) (fun c1 => ?_)
    · have e8 : k = 9 := by omega
      rw [e8]
      exact zn_sub (L' := [some (.ref 50), none, none]) ⟨rfl, trivial⟩ K
    · exfalso; omega
  | succ n ih =>
    intro k hn0
    have h0 := hz.1
    have h1 := hz.2.1
    refine zn_iload_n (pc := 19) rfl rfl ?_
    refine zn_bipushN (pc := 20) 9 rfl rfl ?_
    refine zn_icmp_geN (pc := 22) (tgt := 41) (x := k) (y := 9) rfl rfl (by omega) (by omega) (fun c1 => ?_) (fun c1 => ?_)
    · have e8 : k = 9 := by omega
      rw [e8]
      exact zn_sub (L' := [some (.ref 50), none, none]) ⟨rfl, trivial⟩ K
    · refine zn_aload_n (pc := 25) rfl rfl ?_
      refine zn_aload_n (pc := 26) rfl rfl ?_
      refine zn_iload_n (pc := 27) rfl rfl ?_
      refine zn_callVx (pc := 28) (J := zX10_counted) (o := 50) (as := [.int (nI k)]) (rest := [.ref 50]) rfl rfl rfl rfl rfl rfl rfl rfl (Nat.le_of_ble_eq_true rfl) (Nat.le_of_ble_eq_true rfl) (Nat.le_of_ble_eq_true rfl) (Nat.le_of_ble_eq_true rfl) (m_counted hz h168 ha hv hzb (k := k) (by omega)) ?_
      refine zn_i2l (pc := 31) rfl ?_
      refine zn_callVx (pc := 32) (J := zX10_mix) (o := 50) (as := [.long ((nI (mCn F A z k)).toInt64)]) (rest := []) rfl rfl rfl rfl rfl rfl rfl rfl (Nat.le_of_ble_eq_true rfl) (Nat.le_of_ble_eq_true rfl) (Nat.le_of_ble_eq_true rfl) (Nat.le_of_ble_eq_true rfl) (m_mix (x := ((nI (mCn F A z k)).toInt64))) ?_
      refine zn_iincN (pc := 35) (L' := [some (.ref 50), some (.int (nI (k + 1))), none]) 1 rfl rfl rfl (by decide) rfl ?_
      refine zn_goto (pc := 38) (tgt := 19) rfl rfl ?_
      exact ih (k + 1) (by omega)
end m1
