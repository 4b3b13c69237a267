section m1
variable {g : zG} {h hh : zH} {F : Nat → Nat} {S : Int64} {z : Nat → Nat} {A : Nat → Nat → Nat} {X : Nat → Int32}
theorem m_digest_e {s : Int64} : Zn g zX10_digest 202 [some (.ref 50), none, none] [] (mhp h F s z A X) 0 0 (fun r' h' => r' = .inl (some (.long s)) ∧ h' = (mhp h F s z A X)) := by
  refine zn_aload_n (pc := 202) rfl rfl ?_
  refine zn_get (pc := 203) (v := .long s) rfl rfl rfl ?_
  exact zx_l (pc := 206) rfl rfl rfl rfl
theorem m_digest_p5 (hz : mOK z) (h168 : F 13 ≤ 168) (ha : ∀ i j, A i j < 2 ^ 20) (hv : mCov A z (F 13)) (hzb : ∀ j, z j < 1000) (hbk : ∀ b, b < F 13 → mBlk z (A 6 b) (A 7 b) (A 8 b)) (hs : F 11 ≤ 120) {s : Int64} : Zn g zX10_digest 166 [some (.ref 50), none, none] [] (mhp h F s z A X) 0 0 (fun r' h' => r' = .inl (some (.long (hF (fun k => lI (A 5 k)) (F 11) (hx (s) (lI (F 11)))))) ∧ h' = (mhp h F (hF (fun k => lI (A 5 k)) (F 11) (hx (s) (lI (F 11)))) z A X)) := by
  refine zn_aload_n (pc := 166) rfl rfl ?_
  refine zn_aload_n (pc := 167) rfl rfl ?_
  refine zn_get (pc := 168) (v := .int (nI (F 11))) rfl rfl rfl ?_
  refine zn_i2l (pc := 171) rfl ?_
  refine zn_callVx (pc := 172) (J := zX10_mix) (o := 50) (as := [.long ((nI (F 11)).toInt64)]) (rest := []) rfl rfl rfl rfl rfl rfl rfl rfl (Nat.le_of_ble_eq_true rfl) (Nat.le_of_ble_eq_true rfl) (Nat.le_of_ble_eq_true rfl) (Nat.le_of_ble_eq_true rfl) (m_mix (x := ((nI (F 11)).toInt64))) ?_
  refine zn_iconstN (pc := 175) 0 rfl rfl ?_
  refine zn_istore_n (pc := 176) (L' := [some (.ref 50), some (.int (nI 0)), none]) rfl (by decide) rfl ?_
  exact m_digest_5 hz h168 ha hv hzb hbk hs (s := hx s (lI (F 11))) m_digest_e (F 11) 0 (by omega)
theorem m_digest_p4 (hz : mOK z) (h168 : F 13 ≤ 168) (ha : ∀ i j, A i j < 2 ^ 20) (hv : mCov A z (F 13)) (hzb : ∀ j, z j < 1000) (hbk : ∀ b, b < F 13 → mBlk z (A 6 b) (A 7 b) (A 8 b)) (hs : F 11 ≤ 120) {s : Int64} : Zn g zX10_digest 116 [some (.ref 50), none, none] [] (mhp h F s z A X) 0 0 (fun r' h' => r' = .inl (some (.long (hF (fun k => lI (A 5 k)) (F 11) (hx (hBs A z (F 13) (s)) (lI (F 11)))))) ∧ h' = (mhp h F (hF (fun k => lI (A 5 k)) (F 11) (hx (hBs A z (F 13) (s)) (lI (F 11)))) z A X)) := by
  refine zn_iconstN (pc := 116) 0 rfl rfl ?_
  refine zn_istore_n (pc := 117) (L' := [some (.ref 50), some (.int (nI 0)), none]) rfl (by decide) rfl ?_
  exact m_digest_4 hz h168 ha hv hzb hbk hs (s := s) (m_digest_p5 hz h168 ha hv hzb hbk hs) (F 13) 0 (by omega)
theorem m_digest_p3 (hz : mOK z) (h168 : F 13 ≤ 168) (ha : ∀ i j, A i j < 2 ^ 20) (hv : mCov A z (F 13)) (hzb : ∀ j, z j < 1000) (hbk : ∀ b, b < F 13 → mBlk z (A 6 b) (A 7 b) (A 8 b)) (hs : F 11 ≤ 120) {s : Int64} : Zn g zX10_digest 66 [some (.ref 50), none, none] [] (mhp h F s z A X) 0 0 (fun r' h' => r' = .inl (some (.long (hF (fun k => lI (A 5 k)) (F 11) (hx (hBs A z (F 13) (hLs F A z (z 0) (hx (hx (hx (s) (lI (F 8))) (lI (F 9))) (lI (F 10))))) (lI (F 11)))))) ∧ h' = (mhp h F (hF (fun k => lI (A 5 k)) (F 11) (hx (hBs A z (F 13) (hLs F A z (z 0) (hx (hx (hx (s) (lI (F 8))) (lI (F 9))) (lI (F 10))))) (lI (F 11)))) z A X)) := by
  refine zn_aload_n (pc := 66) rfl rfl ?_
  refine zn_aload_n (pc := 67) rfl rfl ?_
  refine zn_get (pc := 68) (v := .int (nI (F 8))) rfl rfl rfl ?_
  refine zn_i2l (pc := 71) rfl ?_
  refine zn_callVx (pc := 72) (J := zX10_mix) (o := 50) (as := [.long ((nI (F 8)).toInt64)]) (rest := []) rfl rfl rfl rfl rfl rfl rfl rfl (Nat.le_of_ble_eq_true rfl) (Nat.le_of_ble_eq_true rfl) (Nat.le_of_ble_eq_true rfl) (Nat.le_of_ble_eq_true rfl) (m_mix (x := ((nI (F 8)).toInt64))) ?_
  refine zn_aload_n (pc := 75) rfl rfl ?_
  refine zn_aload_n (pc := 76) rfl rfl ?_
  refine zn_get (pc := 77) (v := .int (nI (F 9))) rfl rfl rfl ?_
  refine zn_i2l (pc := 80) rfl ?_
  refine zn_callVx (pc := 81) (J := zX10_mix) (o := 50) (as := [.long ((nI (F 9)).toInt64)]) (rest := []) rfl rfl rfl rfl rfl rfl rfl rfl (Nat.le_of_ble_eq_true rfl) (Nat.le_of_ble_eq_true rfl) (Nat.le_of_ble_eq_true rfl) (Nat.le_of_ble_eq_true rfl) (m_mix (x := ((nI (F 9)).toInt64))) ?_
  refine zn_aload_n (pc := 84) rfl rfl ?_
  refine zn_aload_n (pc := 85) rfl rfl ?_
  refine zn_get (pc := 86) (v := .int (nI (F 10))) rfl rfl rfl ?_
  refine zn_i2l (pc := 89) rfl ?_
  refine zn_callVx (pc := 90) (J := zX10_mix) (o := 50) (as := [.long ((nI (F 10)).toInt64)]) (rest := []) rfl rfl rfl rfl rfl rfl rfl rfl (Nat.le_of_ble_eq_true rfl) (Nat.le_of_ble_eq_true rfl) (Nat.le_of_ble_eq_true rfl) (Nat.le_of_ble_eq_true rfl) (m_mix (x := ((nI (F 10)).toInt64))) ?_
  refine zn_iconstN (pc := 93) 0 rfl rfl ?_
  refine zn_istore_n (pc := 94) (L' := [some (.ref 50), some (.int (nI 0)), none]) rfl (by decide) rfl ?_
  exact m_digest_3 hz h168 ha hv hzb hbk hs (s := hx (hx (hx s ((nI (F 8)).toInt64)) ((nI (F 9)).toInt64)) ((nI (F 10)).toInt64)) (m_digest_p4 hz h168 ha hv hzb hbk hs) (z 0) 0 (by omega)
theorem m_digest_p2 (hz : mOK z) (h168 : F 13 ≤ 168) (ha : ∀ i j, A i j < 2 ^ 20) (hv : mCov A z (F 13)) (hzb : ∀ j, z j < 1000) (hbk : ∀ b, b < F 13 → mBlk z (A 6 b) (A 7 b) (A 8 b)) (hs : F 11 ≤ 120) {s : Int64} : Zn g zX10_digest 41 [some (.ref 50), none, none] [] (mhp h F s z A X) 0 0 (fun r' h' => r' = .inl (some (.long (hF (fun k => lI (A 5 k)) (F 11) (hx (hBs A z (F 13) (hLs F A z (z 0) (hx (hx (hx (hF (fun k => lI (A 4 k)) 7 (s)) (lI (F 8))) (lI (F 9))) (lI (F 10))))) (lI (F 11)))))) ∧ h' = (mhp h F (hF (fun k => lI (A 5 k)) (F 11) (hx (hBs A z (F 13) (hLs F A z (z 0) (hx (hx (hx (hF (fun k => lI (A 4 k)) 7 (s)) (lI (F 8))) (lI (F 9))) (lI (F 10))))) (lI (F 11)))) z A X)) := by
  refine zn_iconstN (pc := 41) 0 rfl rfl ?_
  refine zn_istore_n (pc := 42) (L' := [some (.ref 50), some (.int (nI 0)), none]) rfl (by decide) rfl ?_
  exact m_digest_2 hz h168 ha hv hzb hbk hs (s := s) (m_digest_p3 hz h168 ha hv hzb hbk hs) 7 0 (by omega)
theorem m_digest_p1 (hz : mOK z) (h168 : F 13 ≤ 168) (ha : ∀ i j, A i j < 2 ^ 20) (hv : mCov A z (F 13)) (hzb : ∀ j, z j < 1000) (hbk : ∀ b, b < F 13 → mBlk z (A 6 b) (A 7 b) (A 8 b)) (hs : F 11 ≤ 120) {s : Int64} : Zn g zX10_digest 17 [some (.ref 50), none, none] [] (mhp h F s z A X) 0 0 (fun r' h' => r' = .inl (some (.long (hF (fun k => lI (A 5 k)) (F 11) (hx (hBs A z (F 13) (hLs F A z (z 0) (hx (hx (hx (hF (fun k => lI (A 4 k)) 7 (hF (fun k => lI (mCn F A z k)) 9 (s))) (lI (F 8))) (lI (F 9))) (lI (F 10))))) (lI (F 11)))))) ∧ h' = (mhp h F (hF (fun k => lI (A 5 k)) (F 11) (hx (hBs A z (F 13) (hLs F A z (z 0) (hx (hx (hx (hF (fun k => lI (A 4 k)) 7 (hF (fun k => lI (mCn F A z k)) 9 (s))) (lI (F 8))) (lI (F 9))) (lI (F 10))))) (lI (F 11)))) z A X)) := by
  refine zn_iconstN (pc := 17) 0 rfl rfl ?_
  refine zn_istore_n (pc := 18) (L' := [some (.ref 50), some (.int (nI 0)), none]) rfl (by decide) rfl ?_
  exact m_digest_1 hz h168 ha hv hzb hbk hs (s := s) (m_digest_p2 hz h168 ha hv hzb hbk hs) 9 0 (by omega)
theorem mL_blk {F9 : Nat → Nat} (hz : mOK z) {b : Nat} (hb : b < (bAll z 7).length) : mBlk z (mL F9 z A (bAll z 7) 6 b) (mL F9 z A (bAll z 7) 7 b) (mL F9 z A (bAll z 7) 8 b) := by
  rcases h9 : (bAll z 7)[b] with ⟨c, f, t⟩
  have hP : (bAll z 7)[b]? = some (c, f, t) := by rw [List.getElem?_eq_getElem hb, h9]
  obtain ⟨g6, g7, g8, -⟩ := (mL_hold (F := F9) (z := z) (A := A) (bAll z 7)).2 b c f t hP
  rw [g6, g7, g8]
  exact (bAll_get hz hP).2.1
theorem m_digest  (hz : mOK z) (hzb : ∀ j, z j < 1000) (h4 : ∀ j, A 4 j ≤ 3) (hg : 1 ≤ F 10) (hg8 : F 10 ≤ 8) (hlw : F 9 ≤ 20) (hpd : F 8 ≤ 8) (ha : ∀ i j, A i j < 2 ^ 20) (hs : F 11 ≤ 120) : Zx g zX10_digest [.ref 50] (mhp h F S z A X) (some (.long (hD (va_up (va_up F 0 0) 13 (bAll z 7).length) (mL (va_up F 0 0) z A (bAll z 7)) z))) (mhp h (va_up (va_up F 0 0) 13 (bAll z 7).length) (hD (va_up (va_up F 0 0) 13 (bAll z 7).length) (mL (va_up F 0 0) z A (bAll z 7)) z) z (mL (va_up F 0 0) z A (bAll z 7)) X) := by
  have h168 : (bAll z 7).length ≤ 168 := bAll_168 hz
  have ha2 : ∀ i j, mL (va_up F 0 0) z A (bAll z 7) i j < 2 ^ 20 := mL_b (F := va_up F 0 0) hz h4 hg8 hlw hpd ha
  have hv2 : mCov (mL (va_up F 0 0) z A (bAll z 7)) z (bAll z 7).length := mL_cov hz
  show Zn g zX10_digest 0 [some (.ref 50), none, none] [] (mhp h F S z A X) 0 0 _
  refine zn_aload_n (pc := 0) rfl rfl ?_
  refine zn_iconstN (pc := 1) 0 rfl rfl ?_
  refine zm_putI (pc := 2) (k := 0) (v := 0) rfl (by decide) rfl rfl ?_
  refine zn_aload_n (pc := 5) rfl rfl ?_
  refine zn_ldc2 (pc := 6) (v := 1949) rfl ?_
  refine zm_putL (pc := 9) rfl ?_
  refine zn_aload_n (pc := 12) rfl rfl ?_
  refine zn_callVx (pc := 13) (J := zX10_layBlocks) (o := 50) (as := []) (rest := []) rfl rfl rfl rfl rfl rfl rfl rfl (Nat.le_of_ble_eq_true rfl) (Nat.le_of_ble_eq_true rfl) (Nat.le_of_ble_eq_true rfl) (Nat.le_of_ble_eq_true rfl) (m_layBlocks hz hzb h4 hg hg8 hlw hpd) ?_
  refine zn_pop (pc := 16) rfl rfl ?_
  exact m_digest_p1 (F := va_up (va_up F 0 0) 13 (bAll z 7).length) (A := mL (va_up F 0 0) z A (bAll z 7)) hz h168 ha2 hv2 hzb (fun b hb => mL_blk hz hb) hs
theorem va_b {v : Nat → Nat} {k : Nat} (ha : ∀ i j, A i j < 2 ^ 20) (hv : ∀ j, v j < 2 ^ 20) (i j : Nat) : va_up A k v i j < 2 ^ 20 := by
  by_cases e : i = k
  · rw [e, va_upS]; exact hv j
  · rw [va_upN e]; exact ha i j
theorem msd_b {u : Nat → Nat} {k B : Nat} (hu : ∀ j, u j < B) (hz : ∀ j, z j < B) (j : Nat) : msd u z k j < B := by
  unfold msd
  split
  · exact hz j
  · exact hu j
/-- where the cells begin, -1 for none: the first k places -/
def mOx (A : Nat → Nat → Nat) (z : Nat → Nat) (n : Nat) (X : Nat → Int32) (k : Nat) : Nat → Int32 := fun j => if j < k then (if j % 8 < z (1 + j / 8) then nI (mX A z n (j / 8) (j % 8)) else -1) else X j
def mCd (X : Nat → Int32) (A : Nat → Nat → Nat) (z : Nat → Nat) (n l c : Nat) : Nat := if X (8 * l + c) ≠ -1 ∧ X (8 * l + c) ≠ nI (mX A z n l c) then 1 else 0
def mCx (X : Nat → Int32) (A : Nat → Nat → Nat) (z : Nat → Nat) (n m : Nat) : Nat := vS (fun l => vS (mCd X A z n l) (z (1 + l))) (min m (z 0))
theorem mx_eq {X' : Nat → Int32} (e : X = X') : mhp h F S z A X = mhp h F S z A X' := by rw [e]
theorem m_changedX_1i (hz : mOK z) (h168 : F 13 ≤ 168) (ha : ∀ i j, A i j < 2 ^ 20) (hv : mCov A z (F 13)) (hzb : ∀ j, z j < 1000) {l0 c0 q0 v0 : Nat} {l : Nat} (hl : l < z 0) {Q : zR → zH → Prop} (K : Zn g zX10_changedX 8 [some (.ref 50), some (.int (nI l0)), some (.int (nI c0)), some (.int (nI q0)), some (.int (nI v0)), some (.int (nI (l + 1))), none, none, none, none] [] (mhp h F S z A (mOx A z (F 13) X (8 * (l + 1)))) 0 0 Q) : ∀ (n : Nat) (c : Nat), c + n = 8 → Zn g zX10_changedX 22 [some (.ref 50), some (.int (nI l0)), some (.int (nI c0)), some (.int (nI q0)), some (.int (nI v0)), some (.int (nI l)), some (.int (nI c)), none, none, none] [] (mhp h F S z A (mOx A z (F 13) X (8 * l + c))) 0 0 Q := by
  intro n
  induction n with
  | zero =>
    intro c hn0
    have h0 := hz.1
    have h1 := hz.2.1
    have hzl := hz.2.2.1 l hl
    refine zn_iload (pc := 22) rfl rfl ?_
    refine zn_bipushN (pc := 24) 8 rfl rfl ?_
    refine zn_icmp_geN (pc := 26) (tgt := 71) (x := c) (y := 8) rfl rfl (by omega) (by omega) (fun c1 => ?_) (fun c1 => ?_)
    · refine zn_iincN (pc := 71) (L' := [some (.ref 50), some (.int (nI l0)), some (.int (nI c0)), some (.int (nI q0)), some (.int (nI v0)), some (.int (nI (l + 1))), some (.int (nI c)), none, none, none]) 1 rfl rfl rfl (by decide) rfl ?_
      refine zn_goto (pc := 74) (tgt := 8) rfl rfl ?_
      have e8 : 8 * l + c = 8 * (l + 1) := by omega
      rw [e8]
      exact zn_sub (L' := [some (.ref 50), some (.int (nI l0)), some (.int (nI c0)), some (.int (nI q0)), some (.int (nI v0)), some (.int (nI (l + 1))), none, none, none, none]) ⟨rfl, rfl, rfl, rfl, rfl, rfl, trivial⟩ K
    · exfalso; omega
  | succ n ih =>
    intro c hn0
    have h0 := hz.1
    have h1 := hz.2.1
    have hzl := hz.2.2.1 l hl
    refine zn_iload (pc := 22) rfl rfl ?_
    refine zn_bipushN (pc := 24) 8 rfl rfl ?_
    refine zn_icmp_geN (pc := 26) (tgt := 71) (x := c) (y := 8) rfl rfl (by omega) (by omega) (fun c1 => ?_) (fun c1 => ?_)
    · refine zn_iincN (pc := 71) (L' := [some (.ref 50), some (.int (nI l0)), some (.int (nI c0)), some (.int (nI q0)), some (.int (nI v0)), some (.int (nI (l + 1))), some (.int (nI c)), none, none, none]) 1 rfl rfl rfl (by decide) rfl ?_
      refine zn_goto (pc := 74) (tgt := 8) rfl rfl ?_
      have e8 : 8 * l + c = 8 * (l + 1) := by omega
      rw [e8]
      exact zn_sub (L' := [some (.ref 50), some (.int (nI l0)), some (.int (nI c0)), some (.int (nI q0)), some (.int (nI v0)), some (.int (nI (l + 1))), none, none, none, none]) ⟨rfl, rfl, rfl, rfl, rfl, rfl, trivial⟩ K
    · refine zn_aload_n (pc := 29) rfl rfl ?_
      refine zn_get (pc := 30) (v := .ref 65) rfl rfl rfl ?_
      refine zn_bipushN (pc := 33) 8 rfl rfl ?_
      refine zn_iload (pc := 35) rfl rfl ?_
      refine zn_imulN (pc := 37) (x := 8) (y := l) rfl ?_
      refine zn_iload (pc := 38) rfl rfl ?_
      refine zn_iaddN (pc := 40) (x := (8 * l)) (y := c) rfl ?_
      refine zn_joinV (v := .int (if c < z (1 + l) then nI (mX A z (F 13) l c) else -1)) (pj := 64) ?_ (fun K2 => ?_)
      · refine zm_stX (pc := 64) (j := ((8 * l) + c)) (v := (if c < z (1 + l) then nI (mX A z (F 13) l c) else -1)) rfl (by omega) ?_
        refine zn_iincN (pc := 65) (L' := [some (.ref 50), some (.int (nI l0)), some (.int (nI c0)), some (.int (nI q0)), some (.int (nI v0)), some (.int (nI l)), some (.int (nI (c + 1))), none, none, none]) 1 rfl rfl rfl (by decide) rfl ?_
        refine zn_goto (pc := 68) (tgt := 22) rfl rfl ?_
        refine zn_heq (h' := mhp h F S z A (mOx A z (F 13) X (8 * l + (c + 1)))) (mx_eq ?_) (ih (c + 1) (by omega))
        · funext j
          simp only [upd, mOx]
          by_cases q1 : j = 8 * l + c
          · rw [if_pos q1, if_pos (show j < 8 * l + (c + 1) by omega), show j % 8 = c by omega, show j / 8 = l by omega]
          · rw [if_neg q1]
            by_cases q2 : j < 8 * l + c
            · rw [if_pos q2, if_pos (show j < 8 * l + (c + 1) by omega)]
            · rw [if_neg q2, if_neg (show ¬ j < 8 * l + (c + 1) by omega)]
      · refine zn_iload (pc := 41) rfl rfl ?_
        refine zn_aload_n (pc := 43) rfl rfl ?_
        refine zn_iload (pc := 44) rfl rfl ?_
        refine zn_callVx (pc := 46) (J := zX10_cells) (o := 50) (as := [.int (nI l)]) (rest := [.int (nI c), .int (nI ((8 * l) + c)), .ref 65]) rfl rfl rfl rfl rfl rfl rfl rfl (Nat.le_of_ble_eq_true rfl) (Nat.le_of_ble_eq_true rfl) (Nat.le_of_ble_eq_true rfl) (Nat.le_of_ble_eq_true rfl) (m_cells (l := l) (by omega)) ?_
        refine zn_icmp_geN (pc := 49) (tgt := 63) (x := c) (y := (z (1 + l))) rfl rfl (by omega) (by omega) (fun c3 => ?_) (fun c3 => ?_)
        · refine zn_iconst (pc := 63) (-1) rfl rfl ?_
          exact zn_top (v' := .int (if c < z (1 + l) then nI (mX A z (F 13) l c) else -1)) (by rw [if_neg (by omega)]) K2
        · refine zn_aload_n (pc := 52) rfl rfl ?_
          refine zn_iload (pc := 53) rfl rfl ?_
          refine zn_iload (pc := 55) rfl rfl ?_
          refine zn_callVx (pc := 57) (J := zX10_xOf) (o := 50) (as := [.int (nI l), .int (nI c)]) (rest := [.int (nI ((8 * l) + c)), .ref 65]) rfl rfl rfl rfl rfl rfl rfl rfl (Nat.le_of_ble_eq_true rfl) (Nat.le_of_ble_eq_true rfl) (Nat.le_of_ble_eq_true rfl) (Nat.le_of_ble_eq_true rfl) (m_xOf hz h168 ha hv (l := l) (c := c) (by omega) (by omega)) ?_
          refine zn_goto (pc := 60) (tgt := 64) rfl rfl ?_
          exact zn_top (v' := .int (if c < z (1 + l) then nI (mX A z (F 13) l c) else -1)) (by rw [if_pos (by omega)]) K2
theorem m_changedX_1 (hz : mOK z) (h168 : F 13 ≤ 168) (ha : ∀ i j, A i j < 2 ^ 20) (hv : mCov A z (F 13)) (hzb : ∀ j, z j < 1000) {l0 c0 q0 v0 : Nat} {Q : zR → zH → Prop} (K : Zn g zX10_changedX 77 [some (.ref 50), some (.int (nI l0)), some (.int (nI c0)), some (.int (nI q0)), some (.int (nI v0)), none, none, none, none, none] [] (mhp h F S z A (mOx A z (F 13) X (8 * z 0))) 0 0 Q) : ∀ (n : Nat) (l : Nat), l + n = z 0 → Zn g zX10_changedX 8 [some (.ref 50), some (.int (nI l0)), some (.int (nI c0)), some (.int (nI q0)), some (.int (nI v0)), some (.int (nI l)), none, none, none, none] [] (mhp h F S z A (mOx A z (F 13) X (8 * l))) 0 0 Q := by
  intro n
  induction n with
  | zero =>
    intro l hn0
    have h0 := hz.1
    have h1 := hz.2.1
    refine zn_iload (pc := 8) rfl rfl ?_
    refine zn_aload_n (pc := 10) rfl rfl ?_
    refine zn_get (pc := 11) (v := .ref 51) rfl rfl rfl ?_
    refine zn_iconstN (pc := 14) 0 rfl rfl ?_
    refine zn_naLd (pc := 15) (o := 51) (n := 3289) (Z := z) (j := 0) rfl rfl (by omega) (Nat.le_of_ble_eq_true rfl) ?_
    refine zn_icmp_geN (pc := 16) (tgt := 77) (x := l) (y := (z 0)) rfl rfl (by omega) (by omega) (fun c1 => ?_) (fun c1 => ?_)
    · have e8 : l = z 0 := by omega
      rw [e8]
      exact zn_sub (L' := [some (.ref 50), some (.int (nI l0)), some (.int (nI c0)), some (.int (nI q0)), some (.int (nI v0)), none, none, none, none, none]) ⟨rfl, rfl, rfl, rfl, rfl, trivial⟩ K
    · exfalso; omega
  | succ n ih =>
    intro l hn0
    have h0 := hz.1
    have h1 := hz.2.1
    refine zn_iload (pc := 8) rfl rfl ?_
    refine zn_aload_n (pc := 10) rfl rfl ?_
    refine zn_get (pc := 11) (v := .ref 51) rfl rfl rfl ?_
    refine zn_iconstN (pc := 14) 0 rfl rfl ?_
    refine zn_naLd (pc := 15) (o := 51) (n := 3289) (Z := z) (j := 0) rfl rfl (by omega) (Nat.le_of_ble_eq_true rfl) ?_
    refine zn_icmp_geN (pc := 16) (tgt := 77) (x := l) (y := (z 0)) rfl rfl (by omega) (by omega) (fun c1 => ?_) (fun c1 => ?_)
    · have e8 : l = z 0 := by omega
      rw [e8]
      exact zn_sub (L' := [some (.ref 50), some (.int (nI l0)), some (.int (nI c0)), some (.int (nI q0)), some (.int (nI v0)), none, none, none, none, none]) ⟨rfl, rfl, rfl, rfl, rfl, trivial⟩ K
    · refine zn_iconstN (pc := 19) 0 rfl rfl ?_
      refine zn_istore (pc := 20) (L' := [some (.ref 50), some (.int (nI l0)), some (.int (nI c0)), some (.int (nI q0)), some (.int (nI v0)), some (.int (nI l)), some (.int (nI 0)), none, none, none]) rfl (by decide) rfl ?_
      exact zn_sub (L' := [some (.ref 50), some (.int (nI l0)), some (.int (nI c0)), some (.int (nI q0)), some (.int (nI v0)), some (.int (nI l)), some (.int (nI 0)), none, none, none]) ⟨rfl, rfl, rfl, rfl, rfl, rfl, rfl, trivial⟩ (m_changedX_1i hz h168 ha hv hzb (by omega) (ih (l + 1) (by omega)) 8 0 (by omega))
theorem m_changedX_2i (hz : mOK z) (h168 : F 13 ≤ 168) (ha : ∀ i j, A i j < 2 ^ 20) (hv : mCov A z (F 13)) (hzb : ∀ j, z j < 1000) {l0 c0 q0 v0 : Nat} {l m s : Nat} (hl : l < z 0) {Q : zR → zH → Prop} (K : Zn g zX10_changedX 110 [some (.ref 50), some (.int (nI l0)), some (.int (nI c0)), some (.int (nI q0)), some (.int (nI v0)), some (.int (nI m)), some (.int (nI (s + vS (mCd X A z (F 13) l) (z (1 + l))))), some (.int (nI (l + 1))), none, none] [] (mhp h F S z A X) 0 0 Q) : ∀ (n : Nat) (c : Nat), c + n = z (1 + l) → Zn g zX10_changedX 131 [some (.ref 50), some (.int (nI l0)), some (.int (nI c0)), some (.int (nI q0)), some (.int (nI v0)), some (.int (nI m)), some (.int (nI (s + vS (mCd X A z (F 13) l) c))), some (.int (nI l)), some (.int (nI c)), none] [] (mhp h F S z A X) 0 0 Q := by
  intro n
  induction n with
  | zero =>
    intro c hn0
    have h0 := hz.1
    have h1 := hz.2.1
    have hzl := hz.2.2.1 l hl
    have q1 := mX_le (z := z) (n := F 13) (l := l) ha c
    refine zn_iload (pc := 131) rfl rfl ?_
    refine zn_aload_n (pc := 133) rfl rfl ?_
    refine zn_iload (pc := 134) rfl rfl ?_
    refine zn_callVx (pc := 136) (J := zX10_cells) (o := 50) (as := [.int (nI l)]) (rest := [.int (nI c)]) rfl rfl rfl rfl rfl rfl rfl rfl (Nat.le_of_ble_eq_true rfl) (Nat.le_of_ble_eq_true rfl) (Nat.le_of_ble_eq_true rfl) (Nat.le_of_ble_eq_true rfl) (m_cells (l := l) (by omega)) ?_
    refine zn_icmp_geN (pc := 139) (tgt := 192) (x := c) (y := (z (1 + l))) rfl rfl (by omega) (by omega) (fun c1 => ?_) (fun c1 => ?_)
    · refine zn_iincN (pc := 192) (L' := [some (.ref 50), some (.int (nI l0)), some (.int (nI c0)), some (.int (nI q0)), some (.int (nI v0)), some (.int (nI m)), some (.int (nI (s + vS (mCd X A z (F 13) l) c))), some (.int (nI (l + 1))), some (.int (nI c)), none]) 1 rfl rfl rfl (by decide) rfl ?_
      refine zn_goto (pc := 195) (tgt := 110) rfl rfl ?_
      have e8 : c = z (1 + l) := by omega
      rw [← e8] at K
      exact zn_sub (L' := [some (.ref 50), some (.int (nI l0)), some (.int (nI c0)), some (.int (nI q0)), some (.int (nI v0)), some (.int (nI m)), some (.int (nI (s + vS (mCd X A z (F 13) l) c))), some (.int (nI (l + 1))), none, none]) ⟨rfl, rfl, rfl, rfl, rfl, rfl, rfl, rfl, trivial⟩ K
    · exfalso; omega
  | succ n ih =>
    intro c hn0
    have h0 := hz.1
    have h1 := hz.2.1
    have hzl := hz.2.2.1 l hl
    have q1 := mX_le (z := z) (n := F 13) (l := l) ha c
    refine zn_iload (pc := 131) rfl rfl ?_
    refine zn_aload_n (pc := 133) rfl rfl ?_
    refine zn_iload (pc := 134) rfl rfl ?_
    refine zn_callVx (pc := 136) (J := zX10_cells) (o := 50) (as := [.int (nI l)]) (rest := [.int (nI c)]) rfl rfl rfl rfl rfl rfl rfl rfl (Nat.le_of_ble_eq_true rfl) (Nat.le_of_ble_eq_true rfl) (Nat.le_of_ble_eq_true rfl) (Nat.le_of_ble_eq_true rfl) (m_cells (l := l) (by omega)) ?_
    refine zn_icmp_geN (pc := 139) (tgt := 192) (x := c) (y := (z (1 + l))) rfl rfl (by omega) (by omega) (fun c1 => ?_) (fun c1 => ?_)
    · refine zn_iincN (pc := 192) (L' := [some (.ref 50), some (.int (nI l0)), some (.int (nI c0)), some (.int (nI q0)), some (.int (nI v0)), some (.int (nI m)), some (.int (nI (s + vS (mCd X A z (F 13) l) c))), some (.int (nI (l + 1))), some (.int (nI c)), none]) 1 rfl rfl rfl (by decide) rfl ?_
      refine zn_goto (pc := 195) (tgt := 110) rfl rfl ?_
      have e8 : c = z (1 + l) := by omega
      rw [← e8] at K
      exact zn_sub (L' := [some (.ref 50), some (.int (nI l0)), some (.int (nI c0)), some (.int (nI q0)), some (.int (nI v0)), some (.int (nI m)), some (.int (nI (s + vS (mCd X A z (F 13) l) c))), some (.int (nI (l + 1))), none, none]) ⟨rfl, rfl, rfl, rfl, rfl, rfl, rfl, rfl, trivial⟩ K
    · refine zn_aload_n (pc := 142) rfl rfl ?_
      refine zn_get (pc := 143) (v := .ref 65) rfl rfl rfl ?_
      refine zn_bipushN (pc := 146) 8 rfl rfl ?_
      refine zn_iload (pc := 148) rfl rfl ?_
      refine zn_imulN (pc := 150) (x := 8) (y := l) rfl ?_
      refine zn_iload (pc := 151) rfl rfl ?_
      refine zn_iaddN (pc := 153) (x := (8 * l)) (y := c) rfl ?_
      refine zn_ialdN (pc := 154) (o := 65) (n := 192) (f := X) (j := ((8 * l) + c)) rfl rfl (by omega) (Nat.le_of_ble_eq_true rfl) ?_
      refine zn_istore (pc := 155) (L' := [some (.ref 50), some (.int (nI l0)), some (.int (nI c0)), some (.int (nI q0)), some (.int (nI v0)), some (.int (nI m)), some (.int (nI (s + vS (mCd X A z (F 13) l) c))), some (.int (nI l)), some (.int (nI c)), some (.int (X ((8 * l) + c)))]) rfl (by decide) rfl ?_
      refine zn_iload (pc := 157) rfl rfl ?_
      refine zn_joinV (v := .int (nI (mCd X A z (F 13) l c))) (pj := 183) ?_ (fun K2 => ?_)
      · refine zn_iaddN (pc := 183) (x := (s + vS (mCd X A z (F 13) l) c)) (y := (mCd X A z (F 13) l c)) rfl ?_
        refine zn_istore (pc := 184) (L' := [some (.ref 50), some (.int (nI l0)), some (.int (nI c0)), some (.int (nI q0)), some (.int (nI v0)), some (.int (nI m)), some (.int (nI ((s + vS (mCd X A z (F 13) l) c) + (mCd X A z (F 13) l c)))), some (.int (nI l)), some (.int (nI c)), some (.int (X ((8 * l) + c)))]) rfl (by decide) rfl ?_
        refine zn_iincN (pc := 186) (L' := [some (.ref 50), some (.int (nI l0)), some (.int (nI c0)), some (.int (nI q0)), some (.int (nI v0)), some (.int (nI m)), some (.int (nI ((s + vS (mCd X A z (F 13) l) c) + (mCd X A z (F 13) l c)))), some (.int (nI l)), some (.int (nI (c + 1))), some (.int (X ((8 * l) + c)))]) 1 rfl rfl rfl (by decide) rfl ?_
        refine zn_goto (pc := 189) (tgt := 131) rfl rfl ?_
        exact zn_sub (L' := [some (.ref 50), some (.int (nI l0)), some (.int (nI c0)), some (.int (nI q0)), some (.int (nI v0)), some (.int (nI m)), some (.int (nI (s + vS (mCd X A z (F 13) l) (c + 1)))), some (.int (nI l)), some (.int (nI (c + 1))), none]) ⟨rfl, rfl, rfl, rfl, rfl, rfl, by simp only [vS, Nat.add_assoc], rfl, rfl, trivial⟩ (ih (c + 1) (by omega))
      · refine zn_iload (pc := 159) rfl rfl ?_
        refine zn_iconst (pc := 161) (-1) rfl rfl ?_
        refine zn_icmp_eq (pc := 162) (tgt := 182) (x := (X ((8 * l) + c))) (y := (-1)) rfl rfl (fun c3 => ?_) (fun c3 => ?_)
        · refine zn_iconstN (pc := 182) 0 rfl rfl ?_
          exact zn_top (v' := .int (nI (mCd X A z (F 13) l c))) (by unfold mCd; rw [if_neg (by intro q; first | exact absurd (by assumption) q.1 | exact absurd (by assumption) q.2)]) K2
        · refine zn_iload (pc := 165) rfl rfl ?_
          refine zn_aload_n (pc := 167) rfl rfl ?_
          refine zn_iload (pc := 168) rfl rfl ?_
          refine zn_iload (pc := 170) rfl rfl ?_
          refine zn_callVx (pc := 172) (J := zX10_xOf) (o := 50) (as := [.int (nI l), .int (nI c)]) (rest := [.int (X ((8 * l) + c)), .int (nI (s + vS (mCd X A z (F 13) l) c))]) rfl rfl rfl rfl rfl rfl rfl rfl (Nat.le_of_ble_eq_true rfl) (Nat.le_of_ble_eq_true rfl) (Nat.le_of_ble_eq_true rfl) (Nat.le_of_ble_eq_true rfl) (m_xOf hz h168 ha hv (l := l) (c := c) (by omega) (by omega)) ?_
          refine zn_icmp_eq (pc := 175) (tgt := 182) (x := (X ((8 * l) + c))) (y := (nI (mX A z (F 13) l c))) rfl rfl (fun c4 => ?_) (fun c4 => ?_)
          · refine zn_iconstN (pc := 182) 0 rfl rfl ?_
            exact zn_top (v' := .int (nI (mCd X A z (F 13) l c))) (by unfold mCd; rw [if_neg (by intro q; first | exact absurd (by assumption) q.1 | exact absurd (by assumption) q.2)]) K2
          · refine zn_iconstN (pc := 178) 1 rfl rfl ?_
            refine zn_goto (pc := 179) (tgt := 183) rfl rfl ?_
            exact zn_top (v' := .int (nI (mCd X A z (F 13) l c))) (by unfold mCd; rw [if_pos ⟨by assumption, by assumption⟩]) K2
theorem m_changedX_2 (hz : mOK z) (h168 : F 13 ≤ 168) (ha : ∀ i j, A i j < 2 ^ 20) (hv : mCov A z (F 13)) (hzb : ∀ j, z j < 1000) {l0 c0 q0 v0 : Nat} {m : Nat} (hm : m ≤ 24) {Q : zR → zH → Prop} (K : Zn g zX10_changedX 198 [some (.ref 50), some (.int (nI l0)), some (.int (nI c0)), some (.int (nI q0)), some (.int (nI v0)), none, some (.int (nI (vS (fun l => vS (mCd X A z (F 13) l) (z (1 + l))) (min m (z 0))))), none, none, none] [] (mhp h F S z A X) 0 0 Q) : ∀ (n : Nat) (l : Nat), l + n = min m (z 0) → Zn g zX10_changedX 110 [some (.ref 50), some (.int (nI l0)), some (.int (nI c0)), some (.int (nI q0)), some (.int (nI v0)), some (.int (nI m)), some (.int (nI (vS (fun l => vS (mCd X A z (F 13) l) (z (1 + l))) l))), some (.int (nI l)), none, none] [] (mhp h F S z A X) 0 0 Q := by
  intro n
  induction n with
  | zero =>
    intro l hn0
    have h0 := hz.1
    have h1 := hz.2.1
    refine zn_iload (pc := 110) rfl rfl ?_
    refine zn_iload (pc := 112) rfl rfl ?_
    refine zn_icmp_geN (pc := 114) (tgt := 198) (x := l) (y := m) rfl rfl (by omega) (by omega) (fun c1 => ?_) (fun c1 => ?_)
    · have e8 : l = min m (z 0) := by omega
      rw [← e8] at K
      exact zn_sub (L' := [some (.ref 50), some (.int (nI l0)), some (.int (nI c0)), some (.int (nI q0)), some (.int (nI v0)), none, some (.int (nI (vS (fun l => vS (mCd X A z (F 13) l) (z (1 + l))) l))), none, none, none]) ⟨rfl, rfl, rfl, rfl, rfl, rfl, trivial⟩ K
    · refine zn_iload (pc := 117) rfl rfl ?_
      refine zn_aload_n (pc := 119) rfl rfl ?_
      refine zn_get (pc := 120) (v := .ref 51) rfl rfl rfl ?_
      refine zn_iconstN (pc := 123) 0 rfl rfl ?_
      refine zn_naLd (pc := 124) (o := 51) (n := 3289) (Z := z) (j := 0) rfl rfl (by omega) (Nat.le_of_ble_eq_true rfl) ?_
      refine zn_icmp_geN (pc := 125) (tgt := 198) (x := l) (y := (z 0)) rfl rfl (by omega) (by omega) (fun c2 => ?_) (fun c2 => ?_)
      · have e8 : l = min m (z 0) := by omega
        rw [← e8] at K
        exact zn_sub (L' := [some (.ref 50), some (.int (nI l0)), some (.int (nI c0)), some (.int (nI q0)), some (.int (nI v0)), none, some (.int (nI (vS (fun l => vS (mCd X A z (F 13) l) (z (1 + l))) l))), none, none, none]) ⟨rfl, rfl, rfl, rfl, rfl, rfl, trivial⟩ K
      · exfalso; omega
  | succ n ih =>
    intro l hn0
    have h0 := hz.1
    have h1 := hz.2.1
    refine zn_iload (pc := 110) rfl rfl ?_
    refine zn_iload (pc := 112) rfl rfl ?_
    refine zn_icmp_geN (pc := 114) (tgt := 198) (x := l) (y := m) rfl rfl (by omega) (by omega) (fun c1 => ?_) (fun c1 => ?_)
    · have e8 : l = min m (z 0) := by omega
      rw [← e8] at K
      exact zn_sub (L' := [some (.ref 50), some (.int (nI l0)), some (.int (nI c0)), some (.int (nI q0)), some (.int (nI v0)), none, some (.int (nI (vS (fun l => vS (mCd X A z (F 13) l) (z (1 + l))) l))), none, none, none]) ⟨rfl, rfl, rfl, rfl, rfl, rfl, trivial⟩ K
    · refine zn_iload (pc := 117) rfl rfl ?_
      refine zn_aload_n (pc := 119) rfl rfl ?_
      refine zn_get (pc := 120) (v := .ref 51) rfl rfl rfl ?_
      refine zn_iconstN (pc := 123) 0 rfl rfl ?_
      refine zn_naLd (pc := 124) (o := 51) (n := 3289) (Z := z) (j := 0) rfl rfl (by omega) (Nat.le_of_ble_eq_true rfl) ?_
      refine zn_icmp_geN (pc := 125) (tgt := 198) (x := l) (y := (z 0)) rfl rfl (by omega) (by omega) (fun c2 => ?_) (fun c2 => ?_)
      · have e8 : l = min m (z 0) := by omega
        rw [← e8] at K
        exact zn_sub (L' := [some (.ref 50), some (.int (nI l0)), some (.int (nI c0)), some (.int (nI q0)), some (.int (nI v0)), none, some (.int (nI (vS (fun l => vS (mCd X A z (F 13) l) (z (1 + l))) l))), none, none, none]) ⟨rfl, rfl, rfl, rfl, rfl, rfl, trivial⟩ K
      · refine zn_iconstN (pc := 128) 0 rfl rfl ?_
        refine zn_istore (pc := 129) (L' := [some (.ref 50), some (.int (nI l0)), some (.int (nI c0)), some (.int (nI q0)), some (.int (nI v0)), some (.int (nI m)), some (.int (nI (vS (fun l => vS (mCd X A z (F 13) l) (z (1 + l))) l))), some (.int (nI l)), some (.int (nI 0)), none]) rfl (by decide) rfl ?_
        exact zn_sub (L' := [some (.ref 50), some (.int (nI l0)), some (.int (nI c0)), some (.int (nI q0)), some (.int (nI v0)), some (.int (nI m)), some (.int (nI (vS (fun l => vS (mCd X A z (F 13) l) (z (1 + l))) l + vS (mCd X A z (F 13) l) 0))), some (.int (nI l)), some (.int (nI 0)), none]) ⟨rfl, rfl, rfl, rfl, rfl, rfl, rfl, rfl, rfl, trivial⟩ (m_changedX_2i hz h168 ha hv hzb (by omega) (ih (l + 1) (by omega)) (z (1 + l)) 0 (by omega))
theorem m_changedX_3 {u : Nat → Nat} (hu : A 1 = u) {l0 c0 q0 v0 : Nat} {r : Nat} : ∀ (n : Nat) (k : Nat), k + n = 3289 → Zn g zX10_changedX 201 [some (.ref 50), some (.int (nI l0)), some (.int (nI c0)), some (.int (nI q0)), some (.int (nI v0)), none, some (.int (nI r)), some (.int (nI k)), none, none] [] (mhp h F S (msd z u k) A X) 0 0 (fun r' h' => r' = .inl (some (.int (nI r))) ∧ h' = (mhp h F S (msd z u 3289) A X)) := by
  intro n
  induction n with
  | zero =>
    intro k hn0
    refine zn_iload (pc := 201) rfl rfl ?_
    refine zn_sipushN (pc := 203) 3289 rfl rfl ?_
    refine zn_icmp_geN (pc := 206) (tgt := 229) (x := k) (y := 3289) rfl rfl (by omega) (by omega) (fun c1 => ?_) (fun c1 => ?_)
    · refine zn_iload (pc := 229) rfl rfl ?_
      have e8 : k = 3289 := by omega
      exact zx_i (pc := 231) rfl rfl rfl (by rw [e8])
    · exfalso; omega
  | succ n ih =>
    intro k hn0
    refine zn_iload (pc := 201) rfl rfl ?_
    refine zn_sipushN (pc := 203) 3289 rfl rfl ?_
    refine zn_icmp_geN (pc := 206) (tgt := 229) (x := k) (y := 3289) rfl rfl (by omega) (by omega) (fun c1 => ?_) (fun c1 => ?_)
    · refine zn_iload (pc := 229) rfl rfl ?_
      have e8 : k = 3289 := by omega
      exact zx_i (pc := 231) rfl rfl rfl (by rw [e8])
    · refine zn_aload_n (pc := 209) rfl rfl ?_
      refine zn_get (pc := 210) (v := .ref 51) rfl rfl rfl ?_
      refine zn_iload (pc := 213) rfl rfl ?_
      refine zn_aload_n (pc := 215) rfl rfl ?_
      refine zn_get (pc := 216) (v := .ref 52) rfl rfl rfl ?_
      refine zn_iload (pc := 219) rfl rfl ?_
      refine zm_ldA (pc := 221) (i := 1) (n := 3289) (Z := (A 1)) (j := k) rfl (by decide) (by decide) rfl mln1 rfl (by omega) (Nat.le_of_ble_eq_true rfl) ?_
      refine zn_top (v' := .int (nI (u k))) (by rw [hu]) ?_
      refine zm_stz (pc := 222) (j := k) (v := (u k)) rfl (by omega) ?_
      refine zn_iincN (pc := 223) (L' := [some (.ref 50), some (.int (nI l0)), some (.int (nI c0)), some (.int (nI q0)), some (.int (nI v0)), none, some (.int (nI r)), some (.int (nI (k + 1))), none, none]) 1 rfl rfl rfl (by decide) rfl ?_
      refine zn_goto (pc := 226) (tgt := 201) rfl rfl ?_
      refine zn_heq (h' := mhp h F S (msd z u (k + 1)) A X) (congrArg (fun w => mhp h F S w A X) ?_) (ih (k + 1) (by omega))
      · funext j
        simp only [va_up, msd]
        repeat' split
        all_goals first | omega | rfl | exact congrArg u (by omega)
end m1
