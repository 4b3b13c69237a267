section m1
variable {g : zG} {h hh : zH} {F : Nat → Nat} {S : Int64} {z : Nat → Nat} {A : Nat → Nat → Nat} {X : Nat → Int32}
def csL (z : Nat → Nat) (l c : Nat) : Nat := vS (fun j => z (25 + 8 * l + j) + 1) c
/-- where cell c of line l begins in the row of codes -/
def CS (z : Nat → Nat) (l c : Nat) : Nat := vS (fun i => csL z i (z (1 + i))) l + csL z l c
def cCel (z : Nat → Nat) (C : Nat → Nat → Nat) (V : Nat → Int64) : Prop := (∀ l, l < z 0 → C 0 l = z (1 + l)) ∧ ∀ l c, l < z 0 → c < z (1 + l) → C 1 (8 * l + c) = CS z l c ∧ C 2 (8 * l + c) = z (25 + 8 * l + c) ∧ C 3 (8 * l + c) = mK z c l ∧ C 4 (8 * l + c) = (if mK z c l = 1 then mH z c l else 0) ∧ V (8 * l + c) = (if mK z c l = 1 then sVal (mf z l c) (mN z c l) else 0)
def cOK (hh : zH) (B : Nat) (z : Nat → Nat) : Prop := ∃ C V, hh.1 (B + 1) = some (.inr (1, [.int (nI (z 0)), .ref (B + 2), .ref (B + 3), .ref (B + 4), .ref (B + 5), .ref (B + 6), .ref (B + 7)])) ∧ (∀ i, i < 5 → hh.1 (B + (2 + i)) = some (mNA (cln i) (C i))) ∧ hh.1 (B + 7) = some (.inl (192, .inr (.inl V))) ∧ cCel z C V
theorem cOK_l {B m : Nat} {C D : Nat → Nat → Nat} {V W : Nat → Int64} {Xs : Nat → Nat} {Bn : Nat → Int32} (hc : cCel z C V) : cOK (lhp B h (z 0) C V m D W Xs Bn) B z := by
  refine ⟨C, V, ov_i (k := 1) (by omega), fun i hi => ?_, ov_i (k := 7) (by omega), hc⟩
  refine (ov_i (by omega)).trans ?_
  unfold lob
  rw [if_neg (by omega), if_neg (by omega), if_pos (by omega), Nat.add_sub_cancel_left]
theorem zin_mk {x : Int32} {n : Nat} (hn : n < 2 ^ 31) (h1 : ¬ x < 0) (h2 : ¬ nI n ≤ x) : zin x n := by
  rw [Int32.lt_iff_toInt_lt] at h1
  rw [Int32.le_iff_toInt_le, nI_toInt hn] at h2
  unfold zin
  rw [show (0 : Int32).toInt = 0 by decide +kernel] at h1
  omega
theorem zin_n0 {x : Int32} {n : Nat} (h1 : x < 0) : ¬ zin x n := by
  rw [Int32.lt_iff_toInt_lt, show (0 : Int32).toInt = 0 by decide +kernel] at h1
  unfold zin
  omega
theorem zin_n1 {x : Int32} {n : Nat} (hn : n < 2 ^ 31) (h2 : nI n ≤ x) : ¬ zin x n := by
  rw [Int32.le_iff_toInt_le, nI_toInt hn] at h2
  unfold zin
  omega
theorem c_lines_10  {v : Nat} {vs : List Value} (hk : hh.1 11 = some (.inr (1, .int (nI v) :: vs))) : Zx g zX1_lines [.ref 11] (hh) (some (.int (nI v))) (hh) := by
  show Zn g zX1_lines 0 [some (.ref 11)] [] (hh) 0 0 _
  refine zn_aload_n (pc := 0) rfl rfl ?_
  refine zn_get (pc := 1) (v := .int (nI v)) rfl hk rfl ?_
  exact zx_i (pc := 4) rfl rfl rfl rfl
theorem c_hasLine_10  (hz : mOK z) (hk : cOK hh 10 z) (x : Int32) : Zx g zX1_hasLine [.ref 11, .int x] (hh) (some (.int (zb (zin x (z 0))))) (hh) := by
  have h0 := hz.1
  have h1 := hz.2.1
  obtain ⟨C, V, o1, oa, o7, k0, kk⟩ := id hk
  have a0 : hh.1 12 = some (mNA 24 (C 0)) := oa 0 (by decide)
  have a1 : hh.1 13 = some (mNA 192 (C 1)) := oa 1 (by decide)
  have a2 : hh.1 14 = some (mNA 192 (C 2)) := oa 2 (by decide)
  have a3 : hh.1 15 = some (mNA 192 (C 3)) := oa 3 (by decide)
  have a4 : hh.1 16 = some (mNA 192 (C 4)) := oa 4 (by decide)
  show Zn g zX1_hasLine 0 [some (.ref 11), some (.int x)] [] (hh) 0 0 _
  refine zn_iload_n (pc := 0) rfl rfl ?_
  refine zn_if_lt (pc := 1) (tgt := 16) (x := x) rfl rfl (fun c1 => ?_) (fun c1 => ?_)
  · refine zn_iconstN (pc := 16) 0 rfl rfl ?_
    exact zx_z (pc := 17) rfl rfl (by decide) (by rw [zb_f (by first | exact zin_n0 (by assumption) | exact zin_n1 (by omega) (by assumption))]; rfl) rfl
  · refine zn_iload_n (pc := 4) rfl rfl ?_
    refine zn_aload_n (pc := 5) rfl rfl ?_
    refine zn_get (pc := 6) (v := .int (nI (z 0))) rfl o1 rfl ?_
    refine zn_icmp_ge (pc := 9) (tgt := 16) (x := x) (y := (nI (z 0))) rfl rfl (fun c2 => ?_) (fun c2 => ?_)
    · refine zn_iconstN (pc := 16) 0 rfl rfl ?_
      exact zx_z (pc := 17) rfl rfl (by decide) (by rw [zb_f (by first | exact zin_n0 (by assumption) | exact zin_n1 (by omega) (by assumption))]; rfl) rfl
    · refine zn_iconstN (pc := 12) 1 rfl rfl ?_
      refine zn_goto (pc := 13) (tgt := 17) rfl rfl ?_
      exact zx_z (pc := 17) rfl rfl (by decide) (by rw [zb_t (zin_mk (by omega) (by assumption) (by assumption))]; rfl) rfl
theorem c_hasCell_10  (hz : mOK z) (hk : cOK hh 10 z) (x y : Int32) : Zx g zX1_hasCell [.ref 11, .int x, .int y] (hh) (some (.int (zb (mCell z x y)))) (hh) := by
  have h0 := hz.1
  have h1 := hz.2.1
  obtain ⟨C, V, o1, oa, o7, k0, kk⟩ := id hk
  have a0 : hh.1 12 = some (mNA 24 (C 0)) := oa 0 (by decide)
  have a1 : hh.1 13 = some (mNA 192 (C 1)) := oa 1 (by decide)
  have a2 : hh.1 14 = some (mNA 192 (C 2)) := oa 2 (by decide)
  have a3 : hh.1 15 = some (mNA 192 (C 3)) := oa 3 (by decide)
  have a4 : hh.1 16 = some (mNA 192 (C 4)) := oa 4 (by decide)
  show Zn g zX1_hasCell 0 [some (.ref 11), some (.int x), some (.int y)] [] (hh) 0 0 _
  refine zn_iload_n (pc := 0) rfl rfl ?_
  refine zn_if_lt (pc := 1) (tgt := 30) (x := x) rfl rfl (fun c1 => ?_) (fun c1 => ?_)
  · refine zn_iconstN (pc := 30) 0 rfl rfl ?_
    exact zx_z (pc := 31) rfl rfl (by decide) (by rw [zb_f (fun q9 => absurd q9.1 (by first | exact zin_n0 (by assumption) | exact zin_n1 (by omega) (by assumption)))]; rfl) rfl
  · refine zn_iload_n (pc := 4) rfl rfl ?_
    refine zn_aload_n (pc := 5) rfl rfl ?_
    refine zn_get (pc := 6) (v := .int (nI (z 0))) rfl o1 rfl ?_
    refine zn_icmp_ge (pc := 9) (tgt := 30) (x := x) (y := (nI (z 0))) rfl rfl (fun c2 => ?_) (fun c2 => ?_)
    · refine zn_iconstN (pc := 30) 0 rfl rfl ?_
      exact zx_z (pc := 31) rfl rfl (by decide) (by rw [zb_f (fun q9 => absurd q9.1 (by first | exact zin_n0 (by assumption) | exact zin_n1 (by omega) (by assumption)))]; rfl) rfl
    · obtain ⟨l, hl, rfl⟩ := zin_ex (zin_mk (by omega) (by assumption) c2) (by omega)
      have el := nI_clamp (n := l) (by omega)
      have hzl := hz.2.2.1 l hl
      have k0l := k0 l hl
      refine zn_iload_n (pc := 12) rfl rfl ?_
      refine zn_if_lt (pc := 13) (tgt := 30) (x := y) rfl rfl (fun c3 => ?_) (fun c3 => ?_)
      · refine zn_iconstN (pc := 30) 0 rfl rfl ?_
        exact zx_z (pc := 31) rfl rfl (by decide) (by rw [zb_f (fun q9 => absurd q9.2 (by rw [el]; first | exact zin_n0 (by assumption) | exact zin_n1 (by omega) (by assumption)))]; rfl) rfl
      · refine zn_iload_n (pc := 16) rfl rfl ?_
        refine zn_aload_n (pc := 17) rfl rfl ?_
        refine zn_get (pc := 18) (v := .ref 12) rfl o1 rfl ?_
        refine zn_iload_n (pc := 21) rfl rfl ?_
        refine zn_naLd (pc := 22) (o := 12) (n := 24) (Z := (C 0)) (j := l) rfl a0 (by omega) (Nat.le_of_ble_eq_true rfl) ?_
        refine zn_top (v' := .int (nI (z (1 + l)))) (by rw [k0l]) ?_
        refine zn_icmp_ge (pc := 23) (tgt := 30) (x := y) (y := (nI (z (1 + l)))) rfl rfl (fun c4 => ?_) (fun c4 => ?_)
        · refine zn_iconstN (pc := 30) 0 rfl rfl ?_
          exact zx_z (pc := 31) rfl rfl (by decide) (by rw [zb_f (fun q9 => absurd q9.2 (by rw [el]; first | exact zin_n0 (by assumption) | exact zin_n1 (by omega) (by assumption)))]; rfl) rfl
        · refine zn_iconstN (pc := 26) 1 rfl rfl ?_
          refine zn_goto (pc := 27) (tgt := 31) rfl rfl ?_
          exact zx_z (pc := 31) rfl rfl (by decide) (by rw [zb_t ⟨(zin_nI (by omega)).mpr hl, by rw [el]; exact zin_mk (by omega) (by assumption) (by assumption)⟩]; rfl) rfl
theorem c_endsWithTab_10  (hz : mOK z) (hk : cOK hh 10 z) (x : Int32) {c : Nat} (hc : c < 8) : Zx g zX1_endsWithTab [.ref 11, .int x, .int (nI c)] (hh) (some (.int (zb (mEnd z x c)))) (hh) := by
  have h0 := hz.1
  have h1 := hz.2.1
  obtain ⟨C, V, o1, oa, o7, k0, kk⟩ := id hk
  have a0 : hh.1 12 = some (mNA 24 (C 0)) := oa 0 (by decide)
  have a1 : hh.1 13 = some (mNA 192 (C 1)) := oa 1 (by decide)
  have a2 : hh.1 14 = some (mNA 192 (C 2)) := oa 2 (by decide)
  have a3 : hh.1 15 = some (mNA 192 (C 3)) := oa 3 (by decide)
  have a4 : hh.1 16 = some (mNA 192 (C 4)) := oa 4 (by decide)
  show Zn g zX1_endsWithTab 0 [some (.ref 11), some (.int x), some (.int (nI c))] [] (hh) 0 0 _
  refine zn_iload_n (pc := 0) rfl rfl ?_
  refine zn_if_lt (pc := 1) (tgt := 32) (x := x) rfl rfl (fun c1 => ?_) (fun c1 => ?_)
  · refine zn_iconstN (pc := 32) 0 rfl rfl ?_
    exact zx_z (pc := 33) rfl rfl (by decide) (by rw [zb_f (fun q9 => absurd q9.1 (by first | exact zin_n0 (by assumption) | exact zin_n1 (by omega) (by assumption)))]; rfl) rfl
  · refine zn_iload_n (pc := 4) rfl rfl ?_
    refine zn_aload_n (pc := 5) rfl rfl ?_
    refine zn_get (pc := 6) (v := .int (nI (z 0))) rfl o1 rfl ?_
    refine zn_icmp_ge (pc := 9) (tgt := 32) (x := x) (y := (nI (z 0))) rfl rfl (fun c2 => ?_) (fun c2 => ?_)
    · refine zn_iconstN (pc := 32) 0 rfl rfl ?_
      exact zx_z (pc := 33) rfl rfl (by decide) (by rw [zb_f (fun q9 => absurd q9.1 (by first | exact zin_n0 (by assumption) | exact zin_n1 (by omega) (by assumption)))]; rfl) rfl
    · obtain ⟨l, hl, rfl⟩ := zin_ex (zin_mk (by omega) (by assumption) c2) (by omega)
      have el := nI_clamp (n := l) (by omega)
      have hzl := hz.2.2.1 l hl
      have k0l := k0 l hl
      refine zn_iload_n (pc := 12) rfl rfl ?_
      refine zn_if_ltN (pc := 13) (tgt := 32) (x := c) rfl rfl (by omega) ?_
      refine zn_iload_n (pc := 16) rfl rfl ?_
      refine zn_aload_n (pc := 17) rfl rfl ?_
      refine zn_get (pc := 18) (v := .ref 12) rfl o1 rfl ?_
      refine zn_iload_n (pc := 21) rfl rfl ?_
      refine zn_naLd (pc := 22) (o := 12) (n := 24) (Z := (C 0)) (j := l) rfl a0 (by omega) (Nat.le_of_ble_eq_true rfl) ?_
      refine zn_top (v' := .int (nI (z (1 + l)))) (by rw [k0l]) ?_
      refine zn_iconstN (pc := 23) 1 rfl rfl ?_
      refine zn_isubN (pc := 24) (x := (z (1 + l))) (y := 1) rfl (by omega) ?_
      refine zn_icmp_geN (pc := 25) (tgt := 32) (x := c) (y := ((z (1 + l)) - 1)) rfl rfl (by omega) (by omega) (fun c4 => ?_) (fun c4 => ?_)
      · refine zn_iconstN (pc := 32) 0 rfl rfl ?_
        exact zx_z (pc := 33) rfl rfl (by decide) (by rw [zb_f (fun q9 => absurd q9.2 (by rw [el]; omega))]; rfl) rfl
      · refine zn_iconstN (pc := 28) 1 rfl rfl ?_
        refine zn_goto (pc := 29) (tgt := 33) rfl rfl ?_
        exact zx_z (pc := 33) rfl rfl (by decide) (by rw [zb_t ⟨(zin_nI (by omega)).mpr hl, by rw [el]; omega⟩]; rfl) rfl
theorem c_endsN_10 (hz : mOK z) (hk : cOK hh 10 z) {l c : Nat} (hl : l < 2 ^ 31) (hc : c < 8) : Zx g zX1_endsWithTab [.ref 11, .int (nI l), .int (nI c)] hh (some (.int (zb (mE z c l)))) hh := by
  have := c_endsWithTab_10 (g := g) hz hk (nI l) hc
  rwa [zb_iff (show mEnd z (nI l) c ↔ mE z c l by unfold mEnd; rw [nI_clamp hl, zin_nI hl])] at this
theorem c_endsP_10 (hz : mOK z) (hk : cOK hh 10 z) {l c : Nat} (hl : l < 2 ^ 30) (hc : c < 8) : Zx g zX1_endsWithTab [.ref 11, .int (nI l - 1), .int (nI c)] hh (some (.int (zb (0 < l ∧ mE z c (l - 1))))) hh := by
  cases l with
  | zero =>
    have := c_endsWithTab_10 (g := g) hz hk (nI 0 - 1) hc
    rwa [zb_iff (show mEnd z (nI 0 - 1) c ↔ (0 < 0 ∧ mE z c (0 - 1)) from ⟨fun q => absurd q.1.1 (by decide +kernel), fun q => absurd q.1 (by omega)⟩)] at this
  | succ k =>
    have := c_endsN_10 (g := g) hz hk (l := k) (c := c) (by omega) hc
    rw [nI_pred, zb_iff (show (0 < k + 1 ∧ mE z c (k + 1 - 1)) ↔ mE z c k from ⟨fun q => q.2, fun q => ⟨by omega, q⟩⟩)]
    exact this
theorem c_cellsOf_10  (hz : mOK z) (hk : cOK hh 10 z) {l : Nat} (hl : l < z 0) : Zx g zX1_cellsOf [.ref 11, .int (nI l)] (hh) (some (.int (nI (z (1 + l))))) (hh) := by
  have h0 := hz.1
  have h1 := hz.2.1
  obtain ⟨C, V, o1, oa, o7, k0, kk⟩ := id hk
  have a0 : hh.1 12 = some (mNA 24 (C 0)) := oa 0 (by decide)
  have a1 : hh.1 13 = some (mNA 192 (C 1)) := oa 1 (by decide)
  have a2 : hh.1 14 = some (mNA 192 (C 2)) := oa 2 (by decide)
  have a3 : hh.1 15 = some (mNA 192 (C 3)) := oa 3 (by decide)
  have a4 : hh.1 16 = some (mNA 192 (C 4)) := oa 4 (by decide)
  have k0l := k0 l hl
  show Zn g zX1_cellsOf 0 [some (.ref 11), some (.int (nI l))] [] (hh) 0 0 _
  refine zn_iload_n (pc := 0) rfl rfl ?_
  refine zn_if_ltN (pc := 1) (tgt := 21) (x := l) rfl rfl (by omega) ?_
  refine zn_iload_n (pc := 4) rfl rfl ?_
  refine zn_aload_n (pc := 5) rfl rfl ?_
  refine zn_get (pc := 6) (v := .int (nI (z 0))) rfl o1 rfl ?_
  refine zn_icmp_geN (pc := 9) (tgt := 21) (x := l) (y := (z 0)) rfl rfl (by omega) (by omega) (fun c2 => ?_) (fun c2 => ?_)
  · exfalso; omega
  · refine zn_aload_n (pc := 12) rfl rfl ?_
    refine zn_get (pc := 13) (v := .ref 12) rfl o1 rfl ?_
    refine zn_iload_n (pc := 16) rfl rfl ?_
    refine zn_naLd (pc := 17) (o := 12) (n := 24) (Z := (C 0)) (j := l) rfl a0 (by omega) (Nat.le_of_ble_eq_true rfl) ?_
    refine zn_top (v' := .int (nI (z (1 + l)))) (by rw [k0l]) ?_
    refine zn_goto (pc := 18) (tgt := 22) rfl rfl ?_
    exact zx_i (pc := 22) rfl rfl rfl rfl
theorem c_start_10  (hz : mOK z) (hk : cOK hh 10 z) {l c : Nat} (hl : l < z 0) (hc : c < z (1 + l)) : Zx g zX1_start [.ref 11, .int (nI l), .int (nI c)] (hh) (some (.int (nI (CS z l c)))) (hh) := by
  have h0 := hz.1
  have h1 := hz.2.1
  obtain ⟨C, V, o1, oa, o7, k0, kk⟩ := id hk
  have a0 : hh.1 12 = some (mNA 24 (C 0)) := oa 0 (by decide)
  have a1 : hh.1 13 = some (mNA 192 (C 1)) := oa 1 (by decide)
  have a2 : hh.1 14 = some (mNA 192 (C 2)) := oa 2 (by decide)
  have a3 : hh.1 15 = some (mNA 192 (C 3)) := oa 3 (by decide)
  have a4 : hh.1 16 = some (mNA 192 (C 4)) := oa 4 (by decide)
  have hzl := hz.2.2.1 l hl
  have hzc := hz.2.2.2 l c hl hc
  have hp := mCell_nI hz hl hc
  obtain ⟨k1, k2, k3, k4, k5⟩ := kk l c hl hc
  show Zn g zX1_start 0 [some (.ref 11), some (.int (nI l)), some (.int (nI c))] [] (hh) 0 0 _
  refine zn_aload_n (pc := 0) rfl rfl ?_
  refine zn_iload_n (pc := 1) rfl rfl ?_
  refine zn_iload_n (pc := 2) rfl rfl ?_
  refine zn_callVx (pc := 3) (J := zX1_hasCell) (o := 11) (as := [.int (nI l), .int (nI c)]) (rest := []) rfl rfl rfl rfl o1 rfl rfl rfl (Nat.le_of_ble_eq_true rfl) (Nat.le_of_ble_eq_true rfl) (Nat.le_of_ble_eq_true rfl) (Nat.le_of_ble_eq_true rfl) (c_hasCell_10 hz hk (nI l) (nI c)) ?_
  refine zn_if_eqB (pc := 6) (tgt := 22) rfl rfl (fun c1 => ?_) (fun c1 => ?_)
  · exact absurd hp c1
  · refine zn_aload_n (pc := 9) rfl rfl ?_
    refine zn_get (pc := 10) (v := .ref 13) rfl o1 rfl ?_
    refine zn_iload_n (pc := 13) rfl rfl ?_
    refine zn_iload_n (pc := 14) rfl rfl ?_
    refine zn_callSx (pc := 15) (J := zX1_slot) (as := [.int (nI l), .int (nI c)]) (rest := [.ref 13]) rfl (by decide) rfl rfl rfl rfl (Nat.le_of_ble_eq_true rfl) (Nat.le_of_ble_eq_true rfl) (Nat.le_of_ble_eq_true rfl) (Nat.le_of_ble_eq_true rfl) (c_slot (l := l) (c := c)) ?_
    refine zn_naLd (pc := 18) (o := 13) (n := 192) (Z := (C 1)) (j := (8 * l + c)) rfl a1 (by omega) (Nat.le_of_ble_eq_true rfl) ?_
    refine zn_top (v' := .int (nI (CS z l c))) (by rw [k1]) ?_
    refine zn_goto (pc := 19) (tgt := 23) rfl rfl ?_
    exact zx_i (pc := 23) rfl rfl rfl rfl
theorem c_length_10  (hz : mOK z) (hk : cOK hh 10 z) {l c : Nat} (hl : l < z 0) (hc : c < z (1 + l)) : Zx g zX1_length [.ref 11, .int (nI l), .int (nI c)] (hh) (some (.int (nI (z (25 + 8 * l + c))))) (hh) := by
  have h0 := hz.1
  have h1 := hz.2.1
  obtain ⟨C, V, o1, oa, o7, k0, kk⟩ := id hk
  have a0 : hh.1 12 = some (mNA 24 (C 0)) := oa 0 (by decide)
  have a1 : hh.1 13 = some (mNA 192 (C 1)) := oa 1 (by decide)
  have a2 : hh.1 14 = some (mNA 192 (C 2)) := oa 2 (by decide)
  have a3 : hh.1 15 = some (mNA 192 (C 3)) := oa 3 (by decide)
  have a4 : hh.1 16 = some (mNA 192 (C 4)) := oa 4 (by decide)
  have hzl := hz.2.2.1 l hl
  have hzc := hz.2.2.2 l c hl hc
  have hp := mCell_nI hz hl hc
  obtain ⟨k1, k2, k3, k4, k5⟩ := kk l c hl hc
  show Zn g zX1_length 0 [some (.ref 11), some (.int (nI l)), some (.int (nI c))] [] (hh) 0 0 _
  refine zn_aload_n (pc := 0) rfl rfl ?_
  refine zn_iload_n (pc := 1) rfl rfl ?_
  refine zn_iload_n (pc := 2) rfl rfl ?_
  refine zn_callVx (pc := 3) (J := zX1_hasCell) (o := 11) (as := [.int (nI l), .int (nI c)]) (rest := []) rfl rfl rfl rfl o1 rfl rfl rfl (Nat.le_of_ble_eq_true rfl) (Nat.le_of_ble_eq_true rfl) (Nat.le_of_ble_eq_true rfl) (Nat.le_of_ble_eq_true rfl) (c_hasCell_10 hz hk (nI l) (nI c)) ?_
  refine zn_if_eqB (pc := 6) (tgt := 22) rfl rfl (fun c1 => ?_) (fun c1 => ?_)
  · exact absurd hp c1
  · refine zn_aload_n (pc := 9) rfl rfl ?_
    refine zn_get (pc := 10) (v := .ref 14) rfl o1 rfl ?_
    refine zn_iload_n (pc := 13) rfl rfl ?_
    refine zn_iload_n (pc := 14) rfl rfl ?_
    refine zn_callSx (pc := 15) (J := zX1_slot) (as := [.int (nI l), .int (nI c)]) (rest := [.ref 14]) rfl (by decide) rfl rfl rfl rfl (Nat.le_of_ble_eq_true rfl) (Nat.le_of_ble_eq_true rfl) (Nat.le_of_ble_eq_true rfl) (Nat.le_of_ble_eq_true rfl) (c_slot (l := l) (c := c)) ?_
    refine zn_naLd (pc := 18) (o := 14) (n := 192) (Z := (C 2)) (j := (8 * l + c)) rfl a2 (by omega) (Nat.le_of_ble_eq_true rfl) ?_
    refine zn_top (v' := .int (nI (z (25 + 8 * l + c)))) (by rw [k2]) ?_
    refine zn_goto (pc := 19) (tgt := 23) rfl rfl ?_
    exact zx_i (pc := 23) rfl rfl rfl rfl
theorem c_kind_10  (hz : mOK z) (hk : cOK hh 10 z) {l c : Nat} (hl : l < z 0) (hc : c < z (1 + l)) : Zx g zX1_kind [.ref 11, .int (nI l), .int (nI c)] (hh) (some (.int (nI (mK z c l)))) (hh) := by
  have h0 := hz.1
  have h1 := hz.2.1
  obtain ⟨C, V, o1, oa, o7, k0, kk⟩ := id hk
  have a0 : hh.1 12 = some (mNA 24 (C 0)) := oa 0 (by decide)
  have a1 : hh.1 13 = some (mNA 192 (C 1)) := oa 1 (by decide)
  have a2 : hh.1 14 = some (mNA 192 (C 2)) := oa 2 (by decide)
  have a3 : hh.1 15 = some (mNA 192 (C 3)) := oa 3 (by decide)
  have a4 : hh.1 16 = some (mNA 192 (C 4)) := oa 4 (by decide)
  have hzl := hz.2.2.1 l hl
  have hzc := hz.2.2.2 l c hl hc
  have hp := mCell_nI hz hl hc
  obtain ⟨k1, k2, k3, k4, k5⟩ := kk l c hl hc
  show Zn g zX1_kind 0 [some (.ref 11), some (.int (nI l)), some (.int (nI c))] [] (hh) 0 0 _
  refine zn_aload_n (pc := 0) rfl rfl ?_
  refine zn_iload_n (pc := 1) rfl rfl ?_
  refine zn_iload_n (pc := 2) rfl rfl ?_
  refine zn_callVx (pc := 3) (J := zX1_hasCell) (o := 11) (as := [.int (nI l), .int (nI c)]) (rest := []) rfl rfl rfl rfl o1 rfl rfl rfl (Nat.le_of_ble_eq_true rfl) (Nat.le_of_ble_eq_true rfl) (Nat.le_of_ble_eq_true rfl) (Nat.le_of_ble_eq_true rfl) (c_hasCell_10 hz hk (nI l) (nI c)) ?_
  refine zn_if_eqB (pc := 6) (tgt := 22) rfl rfl (fun c1 => ?_) (fun c1 => ?_)
  · exact absurd hp c1
  · refine zn_aload_n (pc := 9) rfl rfl ?_
    refine zn_get (pc := 10) (v := .ref 15) rfl o1 rfl ?_
    refine zn_iload_n (pc := 13) rfl rfl ?_
    refine zn_iload_n (pc := 14) rfl rfl ?_
    refine zn_callSx (pc := 15) (J := zX1_slot) (as := [.int (nI l), .int (nI c)]) (rest := [.ref 15]) rfl (by decide) rfl rfl rfl rfl (Nat.le_of_ble_eq_true rfl) (Nat.le_of_ble_eq_true rfl) (Nat.le_of_ble_eq_true rfl) (Nat.le_of_ble_eq_true rfl) (c_slot (l := l) (c := c)) ?_
    refine zn_naLd (pc := 18) (o := 15) (n := 192) (Z := (C 3)) (j := (8 * l + c)) rfl a3 (by omega) (Nat.le_of_ble_eq_true rfl) ?_
    refine zn_top (v' := .int (nI (mK z c l))) (by rw [k3]) ?_
    refine zn_goto (pc := 19) (tgt := 23) rfl rfl ?_
    exact zx_i (pc := 23) rfl rfl rfl rfl
theorem c_whole_10  (hz : mOK z) (hk : cOK hh 10 z) {l c : Nat} (hl : l < z 0) (hc : c < z (1 + l)) : Zx g zX1_whole [.ref 11, .int (nI l), .int (nI c)] (hh) (some (.int (nI (if mK z c l = 1 then mH z c l else 0)))) (hh) := by
  have h0 := hz.1
  have h1 := hz.2.1
  obtain ⟨C, V, o1, oa, o7, k0, kk⟩ := id hk
  have a0 : hh.1 12 = some (mNA 24 (C 0)) := oa 0 (by decide)
  have a1 : hh.1 13 = some (mNA 192 (C 1)) := oa 1 (by decide)
  have a2 : hh.1 14 = some (mNA 192 (C 2)) := oa 2 (by decide)
  have a3 : hh.1 15 = some (mNA 192 (C 3)) := oa 3 (by decide)
  have a4 : hh.1 16 = some (mNA 192 (C 4)) := oa 4 (by decide)
  have hzl := hz.2.2.1 l hl
  have hzc := hz.2.2.2 l c hl hc
  have hp := mCell_nI hz hl hc
  obtain ⟨k1, k2, k3, k4, k5⟩ := kk l c hl hc
  show Zn g zX1_whole 0 [some (.ref 11), some (.int (nI l)), some (.int (nI c))] [] (hh) 0 0 _
  refine zn_aload_n (pc := 0) rfl rfl ?_
  refine zn_iload_n (pc := 1) rfl rfl ?_
  refine zn_iload_n (pc := 2) rfl rfl ?_
  refine zn_callVx (pc := 3) (J := zX1_hasCell) (o := 11) (as := [.int (nI l), .int (nI c)]) (rest := []) rfl rfl rfl rfl o1 rfl rfl rfl (Nat.le_of_ble_eq_true rfl) (Nat.le_of_ble_eq_true rfl) (Nat.le_of_ble_eq_true rfl) (Nat.le_of_ble_eq_true rfl) (c_hasCell_10 hz hk (nI l) (nI c)) ?_
  refine zn_if_eqB (pc := 6) (tgt := 22) rfl rfl (fun c1 => ?_) (fun c1 => ?_)
  · exact absurd hp c1
  · refine zn_aload_n (pc := 9) rfl rfl ?_
    refine zn_get (pc := 10) (v := .ref 16) rfl o1 rfl ?_
    refine zn_iload_n (pc := 13) rfl rfl ?_
    refine zn_iload_n (pc := 14) rfl rfl ?_
    refine zn_callSx (pc := 15) (J := zX1_slot) (as := [.int (nI l), .int (nI c)]) (rest := [.ref 16]) rfl (by decide) rfl rfl rfl rfl (Nat.le_of_ble_eq_true rfl) (Nat.le_of_ble_eq_true rfl) (Nat.le_of_ble_eq_true rfl) (Nat.le_of_ble_eq_true rfl) (c_slot (l := l) (c := c)) ?_
    refine zn_naLd (pc := 18) (o := 16) (n := 192) (Z := (C 4)) (j := (8 * l + c)) rfl a4 (by omega) (Nat.le_of_ble_eq_true rfl) ?_
    refine zn_top (v' := .int (nI (if mK z c l = 1 then mH z c l else 0))) (by rw [k4]) ?_
    refine zn_goto (pc := 19) (tgt := 23) rfl rfl ?_
    exact zx_i (pc := 23) rfl rfl rfl rfl
theorem c_value_10  (hz : mOK z) (hk : cOK hh 10 z) {l c : Nat} (hl : l < z 0) (hc : c < z (1 + l)) : Zx g zX1_value [.ref 11, .int (nI l), .int (nI c)] (hh) (some (.long (if mK z c l = 1 then sVal (mf z l c) (mN z c l) else 0))) (hh) := by
  have h0 := hz.1
  have h1 := hz.2.1
  obtain ⟨C, V, o1, oa, o7, k0, kk⟩ := id hk
  have a0 : hh.1 12 = some (mNA 24 (C 0)) := oa 0 (by decide)
  have a1 : hh.1 13 = some (mNA 192 (C 1)) := oa 1 (by decide)
  have a2 : hh.1 14 = some (mNA 192 (C 2)) := oa 2 (by decide)
  have a3 : hh.1 15 = some (mNA 192 (C 3)) := oa 3 (by decide)
  have a4 : hh.1 16 = some (mNA 192 (C 4)) := oa 4 (by decide)
  have hzl := hz.2.2.1 l hl
  have hzc := hz.2.2.2 l c hl hc
  have hp := mCell_nI hz hl hc
  obtain ⟨k1, k2, k3, k4, k5⟩ := kk l c hl hc
  show Zn g zX1_value 0 [some (.ref 11), some (.int (nI l)), some (.int (nI c))] [] (hh) 0 0 _
  refine zn_aload_n (pc := 0) rfl rfl ?_
  refine zn_iload_n (pc := 1) rfl rfl ?_
  refine zn_iload_n (pc := 2) rfl rfl ?_
  refine zn_callVx (pc := 3) (J := zX1_hasCell) (o := 11) (as := [.int (nI l), .int (nI c)]) (rest := []) rfl rfl rfl rfl o1 rfl rfl rfl (Nat.le_of_ble_eq_true rfl) (Nat.le_of_ble_eq_true rfl) (Nat.le_of_ble_eq_true rfl) (Nat.le_of_ble_eq_true rfl) (c_hasCell_10 hz hk (nI l) (nI c)) ?_
  refine zn_if_eqB (pc := 6) (tgt := 22) rfl rfl (fun c1 => ?_) (fun c1 => ?_)
  · exact absurd hp c1
  · refine zn_aload_n (pc := 9) rfl rfl ?_
    refine zn_get (pc := 10) (v := .ref 17) rfl o1 rfl ?_
    refine zn_iload_n (pc := 13) rfl rfl ?_
    refine zn_iload_n (pc := 14) rfl rfl ?_
    refine zn_callSx (pc := 15) (J := zX1_slot) (as := [.int (nI l), .int (nI c)]) (rest := [.ref 17]) rfl (by decide) rfl rfl rfl rfl (Nat.le_of_ble_eq_true rfl) (Nat.le_of_ble_eq_true rfl) (Nat.le_of_ble_eq_true rfl) (Nat.le_of_ble_eq_true rfl) (c_slot (l := l) (c := c)) ?_
    refine zn_laldN (pc := 18) (o := 17) (n := 192) (f := V) (j := (8 * l + c)) rfl (by omega) o7 (by omega) (Nat.le_of_ble_eq_true rfl) ?_
    refine zn_top (v' := .long (if mK z c l = 1 then sVal (mf z l c) (mN z c l) else 0)) (by rw [k5]) ?_
    refine zn_goto (pc := 19) (tgt := 23) rfl rfl ?_
    exact zx_l (pc := 23) rfl rfl rfl rfl
theorem c_lines_30  {v : Nat} {vs : List Value} (hk : hh.1 31 = some (.inr (1, .int (nI v) :: vs))) : Zx g zX1_lines [.ref 31] (hh) (some (.int (nI v))) (hh) := by
  show Zn g zX1_lines 0 [some (.ref 31)] [] (hh) 0 0 _
  refine zn_aload_n (pc := 0) rfl rfl ?_
  refine zn_get (pc := 1) (v := .int (nI v)) rfl hk rfl ?_
  exact zx_i (pc := 4) rfl rfl rfl rfl
theorem c_hasLine_30  (hz : mOK z) (hk : cOK hh 30 z) (x : Int32) : Zx g zX1_hasLine [.ref 31, .int x] (hh) (some (.int (zb (zin x (z 0))))) (hh) := by
  have h0 := hz.1
  have h1 := hz.2.1
  obtain ⟨C, V, o1, oa, o7, k0, kk⟩ := id hk
  have a0 : hh.1 32 = some (mNA 24 (C 0)) := oa 0 (by decide)
  have a1 : hh.1 33 = some (mNA 192 (C 1)) := oa 1 (by decide)
  have a2 : hh.1 34 = some (mNA 192 (C 2)) := oa 2 (by decide)
  have a3 : hh.1 35 = some (mNA 192 (C 3)) := oa 3 (by decide)
  have a4 : hh.1 36 = some (mNA 192 (C 4)) := oa 4 (by decide)
  show Zn g zX1_hasLine 0 [some (.ref 31), some (.int x)] [] (hh) 0 0 _
  refine zn_iload_n (pc := 0) rfl rfl ?_
  refine zn_if_lt (pc := 1) (tgt := 16) (x := x) rfl rfl (fun c1 => ?_) (fun c1 => ?_)
  · refine zn_iconstN (pc := 16) 0 rfl rfl ?_
    exact zx_z (pc := 17) rfl rfl (by decide) (by rw [zb_f (by first | exact zin_n0 (by assumption) | exact zin_n1 (by omega) (by assumption))]; rfl) rfl
  · refine zn_iload_n (pc := 4) rfl rfl ?_
    refine zn_aload_n (pc := 5) rfl rfl ?_
    refine zn_get (pc := 6) (v := .int (nI (z 0))) rfl o1 rfl ?_
    refine zn_icmp_ge (pc := 9) (tgt := 16) (x := x) (y := (nI (z 0))) rfl rfl (fun c2 => ?_) (fun c2 => ?_)
    · refine zn_iconstN (pc := 16) 0 rfl rfl ?_
      exact zx_z (pc := 17) rfl rfl (by decide) (by rw [zb_f (by first | exact zin_n0 (by assumption) | exact zin_n1 (by omega) (by assumption))]; rfl) rfl
    · refine zn_iconstN (pc := 12) 1 rfl rfl ?_
      refine zn_goto (pc := 13) (tgt := 17) rfl rfl ?_
      exact zx_z (pc := 17) rfl rfl (by decide) (by rw [zb_t (zin_mk (by omega) (by assumption) (by assumption))]; rfl) rfl
theorem c_hasCell_30  (hz : mOK z) (hk : cOK hh 30 z) (x y : Int32) : Zx g zX1_hasCell [.ref 31, .int x, .int y] (hh) (some (.int (zb (mCell z x y)))) (hh) := by
  have h0 := hz.1
  have h1 := hz.2.1
  obtain ⟨C, V, o1, oa, o7, k0, kk⟩ := id hk
  have a0 : hh.1 32 = some (mNA 24 (C 0)) := oa 0 (by decide)
  have a1 : hh.1 33 = some (mNA 192 (C 1)) := oa 1 (by decide)
  have a2 : hh.1 34 = some (mNA 192 (C 2)) := oa 2 (by decide)
  have a3 : hh.1 35 = some (mNA 192 (C 3)) := oa 3 (by decide)
  have a4 : hh.1 36 = some (mNA 192 (C 4)) := oa 4 (by decide)
  show Zn g zX1_hasCell 0 [some (.ref 31), some (.int x), some (.int y)] [] (hh) 0 0 _
  refine zn_iload_n (pc := 0) rfl rfl ?_
  refine zn_if_lt (pc := 1) (tgt := 30) (x := x) rfl rfl (fun c1 => ?_) (fun c1 => ?_)
  · refine zn_iconstN (pc := 30) 0 rfl rfl ?_
    exact zx_z (pc := 31) rfl rfl (by decide) (by rw [zb_f (fun q9 => absurd q9.1 (by first | exact zin_n0 (by assumption) | exact zin_n1 (by omega) (by assumption)))]; rfl) rfl
  · refine zn_iload_n (pc := 4) rfl rfl ?_
    refine zn_aload_n (pc := 5) rfl rfl ?_
    refine zn_get (pc := 6) (v := .int (nI (z 0))) rfl o1 rfl ?_
    refine zn_icmp_ge (pc := 9) (tgt := 30) (x := x) (y := (nI (z 0))) rfl rfl (fun c2 => ?_) (fun c2 => ?_)
    · refine zn_iconstN (pc := 30) 0 rfl rfl ?_
      exact zx_z (pc := 31) rfl rfl (by decide) (by rw [zb_f (fun q9 => absurd q9.1 (by first | exact zin_n0 (by assumption) | exact zin_n1 (by omega) (by assumption)))]; rfl) rfl
    · obtain ⟨l, hl, rfl⟩ := zin_ex (zin_mk (by omega) (by assumption) c2) (by omega)
      have el := nI_clamp (n := l) (by omega)
      have hzl := hz.2.2.1 l hl
      have k0l := k0 l hl
      refine zn_iload_n (pc := 12) rfl rfl ?_
      refine zn_if_lt (pc := 13) (tgt := 30) (x := y) rfl rfl (fun c3 => ?_) (fun c3 => ?_)
      · refine zn_iconstN (pc := 30) 0 rfl rfl ?_
        exact zx_z (pc := 31) rfl rfl (by decide) (by rw [zb_f (fun q9 => absurd q9.2 (by rw [el]; first | exact zin_n0 (by assumption) | exact zin_n1 (by omega) (by assumption)))]; rfl) rfl
      · refine zn_iload_n (pc := 16) rfl rfl ?_
        refine zn_aload_n (pc := 17) rfl rfl ?_
        refine zn_get (pc := 18) (v := .ref 32) rfl o1 rfl ?_
        refine zn_iload_n (pc := 21) rfl rfl ?_
        refine zn_naLd (pc := 22) (o := 32) (n := 24) (Z := (C 0)) (j := l) rfl a0 (by omega) (Nat.le_of_ble_eq_true rfl) ?_
        refine zn_top (v' := .int (nI (z (1 + l)))) (by rw [k0l]) ?_
        refine zn_icmp_ge (pc := 23) (tgt := 30) (x := y) (y := (nI (z (1 + l)))) rfl rfl (fun c4 => ?_) (fun c4 => ?_)
        · refine zn_iconstN (pc := 30) 0 rfl rfl ?_
          exact zx_z (pc := 31) rfl rfl (by decide) (by rw [zb_f (fun q9 => absurd q9.2 (by rw [el]; first | exact zin_n0 (by assumption) | exact zin_n1 (by omega) (by assumption)))]; rfl) rfl
        · refine zn_iconstN (pc := 26) 1 rfl rfl ?_
          refine zn_goto (pc := 27) (tgt := 31) rfl rfl ?_
          exact zx_z (pc := 31) rfl rfl (by decide) (by rw [zb_t ⟨(zin_nI (by omega)).mpr hl, by rw [el]; exact zin_mk (by omega) (by assumption) (by assumption)⟩]; rfl) rfl
theorem c_endsWithTab_30  (hz : mOK z) (hk : cOK hh 30 z) (x : Int32) {c : Nat} (hc : c < 8) : Zx g zX1_endsWithTab [.ref 31, .int x, .int (nI c)] (hh) (some (.int (zb (mEnd z x c)))) (hh) := by
  have h0 := hz.1
  have h1 := hz.2.1
  obtain ⟨C, V, o1, oa, o7, k0, kk⟩ := id hk
  have a0 : hh.1 32 = some (mNA 24 (C 0)) := oa 0 (by decide)
  have a1 : hh.1 33 = some (mNA 192 (C 1)) := oa 1 (by decide)
  have a2 : hh.1 34 = some (mNA 192 (C 2)) := oa 2 (by decide)
  have a3 : hh.1 35 = some (mNA 192 (C 3)) := oa 3 (by decide)
  have a4 : hh.1 36 = some (mNA 192 (C 4)) := oa 4 (by decide)
  show Zn g zX1_endsWithTab 0 [some (.ref 31), some (.int x), some (.int (nI c))] [] (hh) 0 0 _
  refine zn_iload_n (pc := 0) rfl rfl ?_
  refine zn_if_lt (pc := 1) (tgt := 32) (x := x) rfl rfl (fun c1 => ?_) (fun c1 => ?_)
  · refine zn_iconstN (pc := 32) 0 rfl rfl ?_
    exact zx_z (pc := 33) rfl rfl (by decide) (by rw [zb_f (fun q9 => absurd q9.1 (by first | exact zin_n0 (by assumption) | exact zin_n1 (by omega) (by assumption)))]; rfl) rfl
  · refine zn_iload_n (pc := 4) rfl rfl ?_
    refine zn_aload_n (pc := 5) rfl rfl ?_
    refine zn_get (pc := 6) (v := .int (nI (z 0))) rfl o1 rfl ?_
    refine zn_icmp_ge (pc := 9) (tgt := 32) (x := x) (y := (nI (z 0))) rfl rfl (fun c2 => ?_) (fun c2 => ?_)
    · refine zn_iconstN (pc := 32) 0 rfl rfl ?_
      exact zx_z (pc := 33) rfl rfl (by decide) (by rw [zb_f (fun q9 => absurd q9.1 (by first | exact zin_n0 (by assumption) | exact zin_n1 (by omega) (by assumption)))]; rfl) rfl
    · obtain ⟨l, hl, rfl⟩ := zin_ex (zin_mk (by omega) (by assumption) c2) (by omega)
      have el := nI_clamp (n := l) (by omega)
      have hzl := hz.2.2.1 l hl
      have k0l := k0 l hl
      refine zn_iload_n (pc := 12) rfl rfl ?_
      refine zn_if_ltN (pc := 13) (tgt := 32) (x := c) rfl rfl (by omega) ?_
      refine zn_iload_n (pc := 16) rfl rfl ?_
      refine zn_aload_n (pc := 17) rfl rfl ?_
      refine zn_get (pc := 18) (v := .ref 32) rfl o1 rfl ?_
      refine zn_iload_n (pc := 21) rfl rfl ?_
      refine zn_naLd (pc := 22) (o := 32) (n := 24) (Z := (C 0)) (j := l) rfl a0 (by omega) (Nat.le_of_ble_eq_true rfl) ?_
      refine zn_top (v' := .int (nI (z (1 + l)))) (by rw [k0l]) ?_
      refine zn_iconstN (pc := 23) 1 rfl rfl ?_
      refine zn_isubN (pc := 24) (x := (z (1 + l))) (y := 1) rfl (by omega) ?_
      refine zn_icmp_geN (pc := 25) (tgt := 32) (x := c) (y := ((z (1 + l)) - 1)) rfl rfl (by omega) (by omega) (fun c4 => ?_) (fun c4 => ?_)
      · refine zn_iconstN (pc := 32) 0 rfl rfl ?_
        exact zx_z (pc := 33) rfl rfl (by decide) (by rw [zb_f (fun q9 => absurd q9.2 (by rw [el]; omega))]; rfl) rfl
      · refine zn_iconstN (pc := 28) 1 rfl rfl ?_
        refine zn_goto (pc := 29) (tgt := 33) rfl rfl ?_
        exact zx_z (pc := 33) rfl rfl (by decide) (by rw [zb_t ⟨(zin_nI (by omega)).mpr hl, by rw [el]; omega⟩]; rfl) rfl
theorem c_endsN_30 (hz : mOK z) (hk : cOK hh 30 z) {l c : Nat} (hl : l < 2 ^ 31) (hc : c < 8) : Zx g zX1_endsWithTab [.ref 31, .int (nI l), .int (nI c)] hh (some (.int (zb (mE z c l)))) hh := by
  have := c_endsWithTab_30 (g := g) hz hk (nI l) hc
  rwa [zb_iff (show mEnd z (nI l) c ↔ mE z c l by unfold mEnd; rw [nI_clamp hl, zin_nI hl])] at this
theorem c_endsP_30 (hz : mOK z) (hk : cOK hh 30 z) {l c : Nat} (hl : l < 2 ^ 30) (hc : c < 8) : Zx g zX1_endsWithTab [.ref 31, .int (nI l - 1), .int (nI c)] hh (some (.int (zb (0 < l ∧ mE z c (l - 1))))) hh := by
  cases l with
  | zero =>
    have := c_endsWithTab_30 (g := g) hz hk (nI 0 - 1) hc
    rwa [zb_iff (show mEnd z (nI 0 - 1) c ↔ (0 < 0 ∧ mE z c (0 - 1)) from ⟨fun q => absurd q.1.1 (by decide +kernel), fun q => absurd q.1 (by omega)⟩)] at this
  | succ k =>
    have := c_endsN_30 (g := g) hz hk (l := k) (c := c) (by omega) hc
    rw [nI_pred, zb_iff (show (0 < k + 1 ∧ mE z c (k + 1 - 1)) ↔ mE z c k from ⟨fun q => q.2, fun q => ⟨by omega, q⟩⟩)]
    exact this
theorem c_cellsOf_30  (hz : mOK z) (hk : cOK hh 30 z) {l : Nat} (hl : l < z 0) : Zx g zX1_cellsOf [.ref 31, .int (nI l)] (hh) (some (.int (nI (z (1 + l))))) (hh) := by
  have h0 := hz.1
  have h1 := hz.2.1
  obtain ⟨C, V, o1, oa, o7, k0, kk⟩ := id hk
  have a0 : hh.1 32 = some (mNA 24 (C 0)) := oa 0 (by decide)
  have a1 : hh.1 33 = some (mNA 192 (C 1)) := oa 1 (by decide)
  have a2 : hh.1 34 = some (mNA 192 (C 2)) := oa 2 (by decide)
  have a3 : hh.1 35 = some (mNA 192 (C 3)) := oa 3 (by decide)
  have a4 : hh.1 36 = some (mNA 192 (C 4)) := oa 4 (by decide)
  have k0l := k0 l hl
  show Zn g zX1_cellsOf 0 [some (.ref 31), some (.int (nI l))] [] (hh) 0 0 _
  refine zn_iload_n (pc := 0) rfl rfl ?_
  refine zn_if_ltN (pc := 1) (tgt := 21) (x := l) rfl rfl (by omega) ?_
  refine zn_iload_n (pc := 4) rfl rfl ?_
  refine zn_aload_n (pc := 5) rfl rfl ?_
  refine zn_get (pc := 6) (v := .int (nI (z 0))) rfl o1 rfl ?_
  refine zn_icmp_geN (pc := 9) (tgt := 21) (x := l) (y := (z 0)) rfl rfl (by omega) (by omega) (fun c2 => ?_) (fun c2 => ?_)
  · exfalso; omega
  · refine zn_aload_n (pc := 12) rfl rfl ?_
    refine zn_get (pc := 13) (v := .ref 32) rfl o1 rfl ?_
    refine zn_iload_n (pc := 16) rfl rfl ?_
    refine zn_naLd (pc := 17) (o := 32) (n := 24) (Z := (C 0)) (j := l) rfl a0 (by omega) (Nat.le_of_ble_eq_true rfl) ?_
    refine zn_top (v' := .int (nI (z (1 + l)))) (by rw [k0l]) ?_
    refine zn_goto (pc := 18) (tgt := 22) rfl rfl ?_
    exact zx_i (pc := 22) rfl rfl rfl rfl
theorem c_start_30  (hz : mOK z) (hk : cOK hh 30 z) {l c : Nat} (hl : l < z 0) (hc : c < z (1 + l)) : Zx g zX1_start [.ref 31, .int (nI l), .int (nI c)] (hh) (some (.int (nI (CS z l c)))) (hh) := by
  have h0 := hz.1
  have h1 := hz.2.1
  obtain ⟨C, V, o1, oa, o7, k0, kk⟩ := id hk
  have a0 : hh.1 32 = some (mNA 24 (C 0)) := oa 0 (by decide)
  have a1 : hh.1 33 = some (mNA 192 (C 1)) := oa 1 (by decide)
  have a2 : hh.1 34 = some (mNA 192 (C 2)) := oa 2 (by decide)
  have a3 : hh.1 35 = some (mNA 192 (C 3)) := oa 3 (by decide)
  have a4 : hh.1 36 = some (mNA 192 (C 4)) := oa 4 (by decide)
  have hzl := hz.2.2.1 l hl
  have hzc := hz.2.2.2 l c hl hc
  have hp := mCell_nI hz hl hc
  obtain ⟨k1, k2, k3, k4, k5⟩ := kk l c hl hc
  show Zn g zX1_start 0 [some (.ref 31), some (.int (nI l)), some (.int (nI c))] [] (hh) 0 0 _
  refine zn_aload_n (pc := 0) rfl rfl ?_
  refine zn_iload_n (pc := 1) rfl rfl ?_
  refine zn_iload_n (pc := 2) rfl rfl ?_
  refine zn_callVx (pc := 3) (J := zX1_hasCell) (o := 31) (as := [.int (nI l), .int (nI c)]) (rest := []) rfl rfl rfl rfl o1 rfl rfl rfl (Nat.le_of_ble_eq_true rfl) (Nat.le_of_ble_eq_true rfl) (Nat.le_of_ble_eq_true rfl) (Nat.le_of_ble_eq_true rfl) (c_hasCell_30 hz hk (nI l) (nI c)) ?_
  refine zn_if_eqB (pc := 6) (tgt := 22) rfl rfl (fun c1 => ?_) (fun c1 => ?_)
  · exact absurd hp c1
  · refine zn_aload_n (pc := 9) rfl rfl ?_
    refine zn_get (pc := 10) (v := .ref 33) rfl o1 rfl ?_
    refine zn_iload_n (pc := 13) rfl rfl ?_
    refine zn_iload_n (pc := 14) rfl rfl ?_
    refine zn_callSx (pc := 15) (J := zX1_slot) (as := [.int (nI l), .int (nI c)]) (rest := [.ref 33]) rfl (by decide) rfl rfl rfl rfl (Nat.le_of_ble_eq_true rfl) (Nat.le_of_ble_eq_true rfl) (Nat.le_of_ble_eq_true rfl) (Nat.le_of_ble_eq_true rfl) (c_slot (l := l) (c := c)) ?_
    refine zn_naLd (pc := 18) (o := 33) (n := 192) (Z := (C 1)) (j := (8 * l + c)) rfl a1 (by omega) (Nat.le_of_ble_eq_true rfl) ?_
    refine zn_top (v' := .int (nI (CS z l c))) (by rw [k1]) ?_
    refine zn_goto (pc := 19) (tgt := 23) rfl rfl ?_
    exact zx_i (pc := 23) rfl rfl rfl rfl
theorem c_length_30  (hz : mOK z) (hk : cOK hh 30 z) {l c : Nat} (hl : l < z 0) (hc : c < z (1 + l)) : Zx g zX1_length [.ref 31, .int (nI l), .int (nI c)] (hh) (some (.int (nI (z (25 + 8 * l + c))))) (hh) := by
  have h0 := hz.1
  have h1 := hz.2.1
  obtain ⟨C, V, o1, oa, o7, k0, kk⟩ := id hk
  have a0 : hh.1 32 = some (mNA 24 (C 0)) := oa 0 (by decide)
  have a1 : hh.1 33 = some (mNA 192 (C 1)) := oa 1 (by decide)
  have a2 : hh.1 34 = some (mNA 192 (C 2)) := oa 2 (by decide)
  have a3 : hh.1 35 = some (mNA 192 (C 3)) := oa 3 (by decide)
  have a4 : hh.1 36 = some (mNA 192 (C 4)) := oa 4 (by decide)
  have hzl := hz.2.2.1 l hl
  have hzc := hz.2.2.2 l c hl hc
  have hp := mCell_nI hz hl hc
  obtain ⟨k1, k2, k3, k4, k5⟩ := kk l c hl hc
  show Zn g zX1_length 0 [some (.ref 31), some (.int (nI l)), some (.int (nI c))] [] (hh) 0 0 _
  refine zn_aload_n (pc := 0) rfl rfl ?_
  refine zn_iload_n (pc := 1) rfl rfl ?_
  refine zn_iload_n (pc := 2) rfl rfl ?_
  refine zn_callVx (pc := 3) (J := zX1_hasCell) (o := 31) (as := [.int (nI l), .int (nI c)]) (rest := []) rfl rfl rfl rfl o1 rfl rfl rfl (Nat.le_of_ble_eq_true rfl) (Nat.le_of_ble_eq_true rfl) (Nat.le_of_ble_eq_true rfl) (Nat.le_of_ble_eq_true rfl) (c_hasCell_30 hz hk (nI l) (nI c)) ?_
  refine zn_if_eqB (pc := 6) (tgt := 22) rfl rfl (fun c1 => ?_) (fun c1 => ?_)
  · exact absurd hp c1
  · refine zn_aload_n (pc := 9) rfl rfl ?_
    refine zn_get (pc := 10) (v := .ref 34) rfl o1 rfl ?_
    refine zn_iload_n (pc := 13) rfl rfl ?_
    refine zn_iload_n (pc := 14) rfl rfl ?_
    refine zn_callSx (pc := 15) (J := zX1_slot) (as := [.int (nI l), .int (nI c)]) (rest := [.ref 34]) rfl (by decide) rfl rfl rfl rfl (Nat.le_of_ble_eq_true rfl) (Nat.le_of_ble_eq_true rfl) (Nat.le_of_ble_eq_true rfl) (Nat.le_of_ble_eq_true rfl) (c_slot (l := l) (c := c)) ?_
    refine zn_naLd (pc := 18) (o := 34) (n := 192) (Z := (C 2)) (j := (8 * l + c)) rfl a2 (by omega) (Nat.le_of_ble_eq_true rfl) ?_
    refine zn_top (v' := .int (nI (z (25 + 8 * l + c)))) (by rw [k2]) ?_
    refine zn_goto (pc := 19) (tgt := 23) rfl rfl ?_
    exact zx_i (pc := 23) rfl rfl rfl rfl
theorem c_kind_30  (hz : mOK z) (hk : cOK hh 30 z) {l c : Nat} (hl : l < z 0) (hc : c < z (1 + l)) : Zx g zX1_kind [.ref 31, .int (nI l), .int (nI c)] (hh) (some (.int (nI (mK z c l)))) (hh) := by
  have h0 := hz.1
  have h1 := hz.2.1
  obtain ⟨C, V, o1, oa, o7, k0, kk⟩ := id hk
  have a0 : hh.1 32 = some (mNA 24 (C 0)) := oa 0 (by decide)
  have a1 : hh.1 33 = some (mNA 192 (C 1)) := oa 1 (by decide)
  have a2 : hh.1 34 = some (mNA 192 (C 2)) := oa 2 (by decide)
  have a3 : hh.1 35 = some (mNA 192 (C 3)) := oa 3 (by decide)
  have a4 : hh.1 36 = some (mNA 192 (C 4)) := oa 4 (by decide)
  have hzl := hz.2.2.1 l hl
  have hzc := hz.2.2.2 l c hl hc
  have hp := mCell_nI hz hl hc
  obtain ⟨k1, k2, k3, k4, k5⟩ := kk l c hl hc
  show Zn g zX1_kind 0 [some (.ref 31), some (.int (nI l)), some (.int (nI c))] [] (hh) 0 0 _
  refine zn_aload_n (pc := 0) rfl rfl ?_
  refine zn_iload_n (pc := 1) rfl rfl ?_
  refine zn_iload_n (pc := 2) rfl rfl ?_
  refine zn_callVx (pc := 3) (J := zX1_hasCell) (o := 31) (as := [.int (nI l), .int (nI c)]) (rest := []) rfl rfl rfl rfl o1 rfl rfl rfl (Nat.le_of_ble_eq_true rfl) (Nat.le_of_ble_eq_true rfl) (Nat.le_of_ble_eq_true rfl) (Nat.le_of_ble_eq_true rfl) (c_hasCell_30 hz hk (nI l) (nI c)) ?_
  refine zn_if_eqB (pc := 6) (tgt := 22) rfl rfl (fun c1 => ?_) (fun c1 => ?_)
  · exact absurd hp c1
  · refine zn_aload_n (pc := 9) rfl rfl ?_
    refine zn_get (pc := 10) (v := .ref 35) rfl o1 rfl ?_
    refine zn_iload_n (pc := 13) rfl rfl ?_
    refine zn_iload_n (pc := 14) rfl rfl ?_
    refine zn_callSx (pc := 15) (J := zX1_slot) (as := [.int (nI l), .int (nI c)]) (rest := [.ref 35]) rfl (by decide) rfl rfl rfl rfl (Nat.le_of_ble_eq_true rfl) (Nat.le_of_ble_eq_true rfl) (Nat.le_of_ble_eq_true rfl) (Nat.le_of_ble_eq_true rfl) (c_slot (l := l) (c := c)) ?_
    refine zn_naLd (pc := 18) (o := 35) (n := 192) (Z := (C 3)) (j := (8 * l + c)) rfl a3 (by omega) (Nat.le_of_ble_eq_true rfl) ?_
    refine zn_top (v' := .int (nI (mK z c l))) (by rw [k3]) ?_
    refine zn_goto (pc := 19) (tgt := 23) rfl rfl ?_
    exact zx_i (pc := 23) rfl rfl rfl rfl
theorem c_whole_30  (hz : mOK z) (hk : cOK hh 30 z) {l c : Nat} (hl : l < z 0) (hc : c < z (1 + l)) : Zx g zX1_whole [.ref 31, .int (nI l), .int (nI c)] (hh) (some (.int (nI (if mK z c l = 1 then mH z c l else 0)))) (hh) := by
  have h0 := hz.1
  have h1 := hz.2.1
  obtain ⟨C, V, o1, oa, o7, k0, kk⟩ := id hk
  have a0 : hh.1 32 = some (mNA 24 (C 0)) := oa 0 (by decide)
  have a1 : hh.1 33 = some (mNA 192 (C 1)) := oa 1 (by decide)
  have a2 : hh.1 34 = some (mNA 192 (C 2)) := oa 2 (by decide)
  have a3 : hh.1 35 = some (mNA 192 (C 3)) := oa 3 (by decide)
  have a4 : hh.1 36 = some (mNA 192 (C 4)) := oa 4 (by decide)
  have hzl := hz.2.2.1 l hl
  have hzc := hz.2.2.2 l c hl hc
  have hp := mCell_nI hz hl hc
  obtain ⟨k1, k2, k3, k4, k5⟩ := kk l c hl hc
  show Zn g zX1_whole 0 [some (.ref 31), some (.int (nI l)), some (.int (nI c))] [] (hh) 0 0 _
  refine zn_aload_n (pc := 0) rfl rfl ?_
  refine zn_iload_n (pc := 1) rfl rfl ?_
  refine zn_iload_n (pc := 2) rfl rfl ?_
  refine zn_callVx (pc := 3) (J := zX1_hasCell) (o := 31) (as := [.int (nI l), .int (nI c)]) (rest := []) rfl rfl rfl rfl o1 rfl rfl rfl (Nat.le_of_ble_eq_true rfl) (Nat.le_of_ble_eq_true rfl) (Nat.le_of_ble_eq_true rfl) (Nat.le_of_ble_eq_true rfl) (c_hasCell_30 hz hk (nI l) (nI c)) ?_
  refine zn_if_eqB (pc := 6) (tgt := 22) rfl rfl (fun c1 => ?_) (fun c1 => ?_)
  · exact absurd hp c1
  · refine zn_aload_n (pc := 9) rfl rfl ?_
    refine zn_get (pc := 10) (v := .ref 36) rfl o1 rfl ?_
    refine zn_iload_n (pc := 13) rfl rfl ?_
    refine zn_iload_n (pc := 14) rfl rfl ?_
    refine zn_callSx (pc := 15) (J := zX1_slot) (as := [.int (nI l), .int (nI c)]) (rest := [.ref 36]) rfl (by decide) rfl rfl rfl rfl (Nat.le_of_ble_eq_true rfl) (Nat.le_of_ble_eq_true rfl) (Nat.le_of_ble_eq_true rfl) (Nat.le_of_ble_eq_true rfl) (c_slot (l := l) (c := c)) ?_
    refine zn_naLd (pc := 18) (o := 36) (n := 192) (Z := (C 4)) (j := (8 * l + c)) rfl a4 (by omega) (Nat.le_of_ble_eq_true rfl) ?_
    refine zn_top (v' := .int (nI (if mK z c l = 1 then mH z c l else 0))) (by rw [k4]) ?_
    refine zn_goto (pc := 19) (tgt := 23) rfl rfl ?_
    exact zx_i (pc := 23) rfl rfl rfl rfl
theorem c_value_30  (hz : mOK z) (hk : cOK hh 30 z) {l c : Nat} (hl : l < z 0) (hc : c < z (1 + l)) : Zx g zX1_value [.ref 31, .int (nI l), .int (nI c)] (hh) (some (.long (if mK z c l = 1 then sVal (mf z l c) (mN z c l) else 0))) (hh) := by
  have h0 := hz.1
  have h1 := hz.2.1
  obtain ⟨C, V, o1, oa, o7, k0, kk⟩ := id hk
  have a0 : hh.1 32 = some (mNA 24 (C 0)) := oa 0 (by decide)
  have a1 : hh.1 33 = some (mNA 192 (C 1)) := oa 1 (by decide)
  have a2 : hh.1 34 = some (mNA 192 (C 2)) := oa 2 (by decide)
  have a3 : hh.1 35 = some (mNA 192 (C 3)) := oa 3 (by decide)
  have a4 : hh.1 36 = some (mNA 192 (C 4)) := oa 4 (by decide)
  have hzl := hz.2.2.1 l hl
  have hzc := hz.2.2.2 l c hl hc
  have hp := mCell_nI hz hl hc
  obtain ⟨k1, k2, k3, k4, k5⟩ := kk l c hl hc
  show Zn g zX1_value 0 [some (.ref 31), some (.int (nI l)), some (.int (nI c))] [] (hh) 0 0 _
  refine zn_aload_n (pc := 0) rfl rfl ?_
  refine zn_iload_n (pc := 1) rfl rfl ?_
  refine zn_iload_n (pc := 2) rfl rfl ?_
  refine zn_callVx (pc := 3) (J := zX1_hasCell) (o := 31) (as := [.int (nI l), .int (nI c)]) (rest := []) rfl rfl rfl rfl o1 rfl rfl rfl (Nat.le_of_ble_eq_true rfl) (Nat.le_of_ble_eq_true rfl) (Nat.le_of_ble_eq_true rfl) (Nat.le_of_ble_eq_true rfl) (c_hasCell_30 hz hk (nI l) (nI c)) ?_
  refine zn_if_eqB (pc := 6) (tgt := 22) rfl rfl (fun c1 => ?_) (fun c1 => ?_)
  · exact absurd hp c1
  · refine zn_aload_n (pc := 9) rfl rfl ?_
    refine zn_get (pc := 10) (v := .ref 37) rfl o1 rfl ?_
    refine zn_iload_n (pc := 13) rfl rfl ?_
    refine zn_iload_n (pc := 14) rfl rfl ?_
    refine zn_callSx (pc := 15) (J := zX1_slot) (as := [.int (nI l), .int (nI c)]) (rest := [.ref 37]) rfl (by decide) rfl rfl rfl rfl (Nat.le_of_ble_eq_true rfl) (Nat.le_of_ble_eq_true rfl) (Nat.le_of_ble_eq_true rfl) (Nat.le_of_ble_eq_true rfl) (c_slot (l := l) (c := c)) ?_
    refine zn_laldN (pc := 18) (o := 37) (n := 192) (f := V) (j := (8 * l + c)) rfl (by omega) o7 (by omega) (Nat.le_of_ble_eq_true rfl) ?_
    refine zn_top (v' := .long (if mK z c l = 1 then sVal (mf z l c) (mN z c l) else 0)) (by rw [k5]) ?_
    refine zn_goto (pc := 19) (tgt := 23) rfl rfl ?_
    exact zx_l (pc := 23) rfl rfl rfl rfl
theorem c_linesK_10 (hk : cOK hh 10 z) : Zx g zX1_lines [.ref 11] hh (some (.int (nI (z 0)))) hh := by
  obtain ⟨C, V, o1, -⟩ := hk
  exact c_lines_10 o1
theorem c_linesK_30 (hk : cOK hh 30 z) : Zx g zX1_lines [.ref 31] hh (some (.int (nI (z 0)))) hh := by
  obtain ⟨C, V, o1, -⟩ := hk
  exact c_lines_30 o1
end m1
