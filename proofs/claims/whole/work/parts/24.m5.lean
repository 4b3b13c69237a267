section m1
variable {g : zG} {h hh : zH} {F : Nat → Nat} {S : Int64} {z : Nat → Nat} {A : Nat → Nat → Nat} {X : Nat → Int32}
theorem mrl_le (f : Nat → Nat) (kd : Nat) : ∀ n k s b e, mrl f kd n k s b e ≤ k + n
  | 0, k, s, b, e => by simp [mrl]
  | n + 1, k, s, b, e => by
    simp only [mrl]
    have h1 := mrl_le f kd n (k + 1) 0 (b + 1) e
    have h2 := mrl_le f kd n (k + 1) 0 0 (e + 1)
    have h3 := mrl_le f kd n (k + 1) (s + 1) b e
    repeat' split
    all_goals omega
/-- the buffer f from k on, n places, laid into line l of z -/
def mlay (f : Nat → Nat) : Nat → Nat → Nat → (Nat → Nat) → Nat → Nat
  | 0, _, _, z => z
  | n + 1, k, l, z => if f k = 124 then mlay f n (k + 1) l (va_up (va_up z (1 + l) (z (1 + l) + 1)) (25 + 8 * l + (z (1 + l) - 1 + 1)) 0) else if f k = 47 then mlay f n (k + 1) (l + 1) (va_up (va_up (va_up z 0 (z 0 + 1)) (1 + (l + 1)) 1) (25 + 8 * (l + 1) + 0) 0) else mlay f n (k + 1) l (va_up (va_up z (217 + 16 * (8 * l + (z (1 + l) - 1)) + z (25 + 8 * l + (z (1 + l) - 1))) (f k)) (25 + 8 * l + (z (1 + l) - 1)) (z (25 + 8 * l + (z (1 + l) - 1)) + 1))
abbrev mCode (x : Int32) : Prop := x = nI 9 ∨ x = nI 10 ∨ mSg x
abbrev mRoom (z : Nat → Nat) (x y cd : Int32) : Prop := (cd = nI 9 ∧ z (1 + x.toNatClampNeg) < 8) ∨ (cd ≠ nI 9 ∧ cd = nI 10 ∧ z 0 < 24) ∨ (cd ≠ nI 9 ∧ cd ≠ nI 10 ∧ z (25 + 8 * x.toNatClampNeg + y.toNatClampNeg) < 16)
def mtyp (z : Nat → Nat) (x y k cd : Int32) : Nat := if ¬ mPlace z x y k then 1 else if ¬ mCode cd then 2 else if mRoom z x y cd then 0 else 3
theorem m_isRight  {kd : Nat} (hk : kd ≤ 2) (hs : F 11 ≤ 120) (hb : ∀ j, A 5 j < 1000) : Zx g zX10_isRight [.ref 50, .int (nI kd)] (mhp h F S z A X) (some (.int (zb (mrl (A 5) kd (F 11) 0 0 0 0 = F 11)))) (mhp h F S z A X) := by
  show Zn g zX10_isRight 0 [some (.ref 50), some (.int (nI kd))] [] (mhp h F S z A X) 0 0 _
  refine zn_aload_n (pc := 0) rfl rfl ?_
  refine zn_iload_n (pc := 1) rfl rfl ?_
  refine zn_callVx (pc := 2) (J := zX10_rightLength) (o := 50) (as := [.int (nI kd)]) (rest := []) rfl rfl rfl rfl rfl rfl rfl rfl (Nat.le_of_ble_eq_true rfl) (Nat.le_of_ble_eq_true rfl) (Nat.le_of_ble_eq_true rfl) (Nat.le_of_ble_eq_true rfl) (m_rightLength (kd := kd) (by omega) hs hb) ?_
  refine zn_aload_n (pc := 5) rfl rfl ?_
  refine zn_get (pc := 6) (v := .int (nI (F 11))) rfl rfl rfl ?_
  refine zn_icmp_neN (pc := 9) (tgt := 16) (x := (mrl (A 5) kd (F 11) 0 0 0 0)) (y := (F 11)) rfl rfl (by have := mrl_le (A 5) kd (F 11) 0 0 0 0; omega) (by have := mrl_le (A 5) kd (F 11) 0 0 0 0; omega) (fun c1 => ?_) (fun c1 => ?_)
  · refine zn_iconstN (pc := 16) 0 rfl rfl ?_
    exact zx_z (pc := 17) rfl rfl (by decide) (by rw [zb_f (by omega)]; rfl) rfl
  · refine zn_iconstN (pc := 12) 1 rfl rfl ?_
    refine zn_goto (pc := 13) (tgt := 17) rfl rfl ?_
    exact zx_z (pc := 17) rfl rfl (by decide) (by rw [zb_t (by omega)]; rfl) rfl
theorem m_firstError_1  (x : Int32) (hx : ¬ (nI 0 ≤ x ∧ x ≤ nI 2)) : Zx g zX10_firstError [.ref 50, .int x] (mhp h F S z A X) (some (.int (nI 0))) (mhp h (va_up F 0 1) S z A X) := by
  show Zn g zX10_firstError 0 [some (.ref 50), some (.int x)] [] (mhp h F S z A X) 0 0 _
  refine zn_aload_n (pc := 0) rfl rfl ?_
  refine zn_iload_n (pc := 1) rfl rfl ?_
  refine zn_iconstN (pc := 2) 0 rfl rfl ?_
  refine zn_iconstN (pc := 3) 2 rfl rfl ?_
  refine zn_callSx (pc := 4) (J := zX10_within) (as := [.int x, .int (nI 0), .int (nI 2)]) (rest := [.ref 50]) rfl (by decide) rfl rfl rfl rfl (Nat.le_of_ble_eq_true rfl) (Nat.le_of_ble_eq_true rfl) (Nat.le_of_ble_eq_true rfl) (Nat.le_of_ble_eq_true rfl) (m_within x (nI 0) (nI 2)) ?_
  refine zn_if_eqB (pc := 7) (tgt := 14) rfl rfl (fun c1 => ?_) (fun c1 => ?_)
  · refine zn_iconstN (pc := 14) 1 rfl rfl ?_
    refine zm_putI (pc := 15) (k := 0) (v := 1) rfl (by decide) rfl rfl ?_
    refine zn_aload_n (pc := 18) rfl rfl ?_
    refine zn_get (pc := 19) (v := .int (nI 1)) rfl rfl rfl ?_
    refine zn_if_leN (pc := 22) (tgt := 29) (x := 1) rfl rfl (by omega) (fun c2 => ?_) (fun c2 => ?_)
    · exfalso; omega
    · refine zn_iconstN (pc := 25) 0 rfl rfl ?_
      refine zn_goto (pc := 26) (tgt := 34) rfl rfl ?_
      exact zx_i (pc := 34) rfl rfl rfl rfl
  · exact absurd c1 hx
theorem m_firstError_0  {kd : Nat} (hk : kd ≤ 2) (hs : F 11 ≤ 120) (hb : ∀ j, A 5 j < 1000) : Zx g zX10_firstError [.ref 50, .int (nI kd)] (mhp h F S z A X) (some (.int (nI (mrl (A 5) kd (F 11) 0 0 0 0)))) (mhp h (va_up F 0 0) S z A X) := by
  show Zn g zX10_firstError 0 [some (.ref 50), some (.int (nI kd))] [] (mhp h F S z A X) 0 0 _
  refine zn_aload_n (pc := 0) rfl rfl ?_
  refine zn_iload_n (pc := 1) rfl rfl ?_
  refine zn_iconstN (pc := 2) 0 rfl rfl ?_
  refine zn_iconstN (pc := 3) 2 rfl rfl ?_
  refine zn_callSx (pc := 4) (J := zX10_within) (as := [.int (nI kd), .int (nI 0), .int (nI 2)]) (rest := [.ref 50]) rfl (by decide) rfl rfl rfl rfl (Nat.le_of_ble_eq_true rfl) (Nat.le_of_ble_eq_true rfl) (Nat.le_of_ble_eq_true rfl) (Nat.le_of_ble_eq_true rfl) (m_within (nI kd) (nI 0) (nI 2)) ?_
  refine zn_if_eqB (pc := 7) (tgt := 14) rfl rfl (fun c1 => ?_) (fun c1 => ?_)
  · exact absurd ⟨(nI_leI (by omega) (by omega)).mpr (by omega), (nI_leI (by omega) (by omega)).mpr (by omega)⟩ c1
  · refine zn_iconstN (pc := 10) 0 rfl rfl ?_
    refine zn_goto (pc := 11) (tgt := 15) rfl rfl ?_
    refine zm_putI (pc := 15) (k := 0) (v := 0) rfl (by decide) rfl rfl ?_
    refine zn_aload_n (pc := 18) rfl rfl ?_
    refine zn_get (pc := 19) (v := .int (nI 0)) rfl rfl rfl ?_
    refine zn_if_leN (pc := 22) (tgt := 29) (x := 0) rfl rfl (by omega) (fun c2 => ?_) (fun c2 => ?_)
    · refine zn_aload_n (pc := 29) rfl rfl ?_
      refine zn_iload_n (pc := 30) rfl rfl ?_
      refine zn_callVx (pc := 31) (J := zX10_rightLength) (o := 50) (as := [.int (nI kd)]) (rest := []) rfl rfl rfl rfl rfl rfl rfl rfl (Nat.le_of_ble_eq_true rfl) (Nat.le_of_ble_eq_true rfl) (Nat.le_of_ble_eq_true rfl) (Nat.le_of_ble_eq_true rfl) (m_rightLength (kd := kd) (by omega) hs hb) ?_
      exact zx_i (pc := 34) rfl rfl rfl rfl
    · exfalso; omega
theorem m_isCode  (x : Int32) : Zx g zX10_isCode [.ref 50, .int x] (mhp h F S z A X) (some (.int (zb (mCode x)))) (mhp h F S z A X) := by
  show Zn g zX10_isCode 0 [some (.ref 50), some (.int x)] [] (mhp h F S z A X) 0 0 _
  refine zn_iload_n (pc := 0) rfl rfl ?_
  refine zn_bipushN (pc := 1) 9 rfl rfl ?_
  refine zn_icmp_eq (pc := 3) (tgt := 19) (x := x) (y := (nI 9)) rfl rfl (fun c1 => ?_) (fun c1 => ?_)
  · refine zn_iconstN (pc := 19) 1 rfl rfl ?_
    refine zn_goto (pc := 20) (tgt := 24) rfl rfl ?_
    exact zx_z (pc := 24) rfl rfl (by decide) (by rw [zb_t (by simp_all [mCode])]; rfl) rfl
  · refine zn_iload_n (pc := 6) rfl rfl ?_
    refine zn_bipushN (pc := 7) 10 rfl rfl ?_
    refine zn_icmp_eq (pc := 9) (tgt := 19) (x := x) (y := (nI 10)) rfl rfl (fun c2 => ?_) (fun c2 => ?_)
    · refine zn_iconstN (pc := 19) 1 rfl rfl ?_
      refine zn_goto (pc := 20) (tgt := 24) rfl rfl ?_
      exact zx_z (pc := 24) rfl rfl (by decide) (by rw [zb_t (by simp_all [mCode])]; rfl) rfl
    · refine zn_iload_n (pc := 12) rfl rfl ?_
      refine zn_callSx (pc := 13) (J := zX10_isSign) (as := [.int x]) (rest := []) rfl (by decide) rfl rfl rfl rfl (Nat.le_of_ble_eq_true rfl) (Nat.le_of_ble_eq_true rfl) (Nat.le_of_ble_eq_true rfl) (Nat.le_of_ble_eq_true rfl) (m_isSign x) ?_
      refine zn_if_eqB (pc := 16) (tgt := 23) rfl rfl (fun c3 => ?_) (fun c3 => ?_)
      · refine zn_iconstN (pc := 23) 0 rfl rfl ?_
        exact zx_z (pc := 24) rfl rfl (by decide) (by rw [zb_f (by simp_all [mCode])]; rfl) rfl
      · refine zn_iconstN (pc := 19) 1 rfl rfl ?_
        refine zn_goto (pc := 20) (tgt := 24) rfl rfl ?_
        exact zx_z (pc := 24) rfl rfl (by decide) (by rw [zb_t (by simp_all [mCode])]; rfl) rfl
theorem m_typing  (hz : mOK z) (x y k cd : Int32) : Zx g zX10_typing [.ref 50, .int x, .int y, .int k, .int cd] (mhp h F S z A X) (some (.int (nI (mtyp z x y k cd)))) (mhp h F S z A X) := by
  have h0 := hz.1
  have h1 := hz.2.1
  show Zn g zX10_typing 0 [some (.ref 50), some (.int x), some (.int y), some (.int k), some (.int cd), none] [] (mhp h F S z A X) 0 0 _
  refine zn_aload_n (pc := 0) rfl rfl ?_
  refine zn_iload_n (pc := 1) rfl rfl ?_
  refine zn_iload_n (pc := 2) rfl rfl ?_
  refine zn_iload_n (pc := 3) rfl rfl ?_
  refine zn_callVx (pc := 4) (J := zX10_isPlace) (o := 50) (as := [.int x, .int y, .int k]) (rest := []) rfl rfl rfl rfl rfl rfl rfl rfl (Nat.le_of_ble_eq_true rfl) (Nat.le_of_ble_eq_true rfl) (Nat.le_of_ble_eq_true rfl) (Nat.le_of_ble_eq_true rfl) (m_isPlace hz x y k) ?_
  refine zn_if_neB (pc := 7) (tgt := 12) rfl rfl (fun c1 => ?_) (fun c1 => ?_)
  · have hPl := c1
    obtain ⟨⟨hq1, hq2⟩, hq3⟩ := id c1
    obtain ⟨l, hl, rfl⟩ := zin_ex hq1 (by omega)
    have el := nI_clamp (n := l) (by omega)
    rw [el] at hq2 hq3
    have hzl := hz.2.2.1 l hl
    obtain ⟨c, hc, rfl⟩ := zin_ex hq2 (by omega)
    have ec := nI_clamp (n := c) (by omega)
    rw [ec] at hq3
    have hzc := hz.2.2.2 l c hl hc
    obtain ⟨q, hq, rfl⟩ := zin_ex hq3 (by omega)
    refine zn_aload_n (pc := 12) rfl rfl ?_
    refine zn_iload (pc := 13) rfl rfl ?_
    refine zn_callVx (pc := 15) (J := zX10_isCode) (o := 50) (as := [.int cd]) (rest := []) rfl rfl rfl rfl rfl rfl rfl rfl (Nat.le_of_ble_eq_true rfl) (Nat.le_of_ble_eq_true rfl) (Nat.le_of_ble_eq_true rfl) (Nat.le_of_ble_eq_true rfl) (m_isCode cd) ?_
    refine zn_if_neB (pc := 18) (tgt := 23) rfl rfl (fun c2 => ?_) (fun c2 => ?_)
    · refine zn_joinV (v := .int (zb (mRoom z (nI l) (nI c) cd))) (pj := 90) ?_ (fun K3 => ?_)
      · refine zn_istore (pc := 90) (L' := [some (.ref 50), some (.int (nI l)), some (.int (nI c)), some (.int (nI q)), some (.int cd), some (.int (zb (mRoom z (nI l) (nI c) cd)))]) rfl (by decide) rfl ?_
        refine zn_iload (pc := 92) rfl rfl ?_
        refine zn_if_eqB (pc := 94) (tgt := 101) rfl rfl (fun c4 => ?_) (fun c4 => ?_)
        · refine zn_iconstN (pc := 101) 3 rfl rfl ?_
          exact zx_i (pc := 102) rfl rfl (by rw [show mtyp z (nI l) (nI c) (nI q) cd = 3 by unfold mtyp; rw [if_neg (fun hh9 => hh9 hPl), if_neg (fun hh9 => hh9 (by assumption)), if_neg (by assumption)]]) rfl
        · refine zn_iconstN (pc := 97) 0 rfl rfl ?_
          refine zn_goto (pc := 98) (tgt := 102) rfl rfl ?_
          exact zx_i (pc := 102) rfl rfl (by rw [show mtyp z (nI l) (nI c) (nI q) cd = 0 by unfold mtyp; rw [if_neg (fun hh9 => hh9 hPl), if_neg (fun hh9 => hh9 (by assumption)), if_pos (by assumption)]]) rfl
      · refine zn_iload (pc := 23) rfl rfl ?_
        refine zn_bipushN (pc := 25) 9 rfl rfl ?_
        refine zn_icmp_ne (pc := 27) (tgt := 48) (x := cd) (y := (nI 9)) rfl rfl (fun c5 => ?_) (fun c5 => ?_)
        · refine zn_iload (pc := 48) rfl rfl ?_
          refine zn_bipushN (pc := 50) 10 rfl rfl ?_
          refine zn_icmp_ne (pc := 52) (tgt := 74) (x := cd) (y := (nI 10)) rfl rfl (fun c6 => ?_) (fun c6 => ?_)
          · refine zn_aload_n (pc := 74) rfl rfl ?_
            refine zn_iload_n (pc := 75) rfl rfl ?_
            refine zn_iload_n (pc := 76) rfl rfl ?_
            refine zn_callVx (pc := 77) (J := zX10_lengthOf) (o := 50) (as := [.int (nI l), .int (nI c)]) (rest := []) rfl rfl rfl rfl rfl rfl rfl rfl (Nat.le_of_ble_eq_true rfl) (Nat.le_of_ble_eq_true rfl) (Nat.le_of_ble_eq_true rfl) (Nat.le_of_ble_eq_true rfl) (m_lengthOf (l := l) (c := c) (by omega) (by omega)) ?_
            refine zn_bipushN (pc := 80) 16 rfl rfl ?_
            refine zn_icmp_geN (pc := 82) (tgt := 89) (x := (z (25 + 8 * l + c))) (y := 16) rfl rfl (by omega) (by omega) (fun c7 => ?_) (fun c7 => ?_)
            · refine zn_iconstN (pc := 89) 0 rfl rfl ?_
              exact zn_top (v' := .int (zb (mRoom z (nI l) (nI c) cd))) (by rw [zb_f (by unfold mRoom; rw [el, ec]; simp_all)]; rfl) K3
            · refine zn_iconstN (pc := 85) 1 rfl rfl ?_
              refine zn_goto (pc := 86) (tgt := 90) rfl rfl ?_
              exact zn_top (v' := .int (zb (mRoom z (nI l) (nI c) cd))) (by rw [zb_t (by unfold mRoom; rw [el, ec]; simp_all)]; rfl) K3
          · refine zn_aload_n (pc := 55) rfl rfl ?_
            refine zn_get (pc := 56) (v := .ref 51) rfl rfl rfl ?_
            refine zn_iconstN (pc := 59) 0 rfl rfl ?_
            refine zn_naLd (pc := 60) (o := 51) (n := 3289) (Z := z) (j := 0) rfl rfl (by omega) (Nat.le_of_ble_eq_true rfl) ?_
            refine zn_bipushN (pc := 61) 24 rfl rfl ?_
            refine zn_icmp_geN (pc := 63) (tgt := 70) (x := (z 0)) (y := 24) rfl rfl (by omega) (by omega) (fun c8 => ?_) (fun c8 => ?_)
            · refine zn_iconstN (pc := 70) 0 rfl rfl ?_
              refine zn_goto (pc := 71) (tgt := 90) rfl rfl ?_
              exact zn_top (v' := .int (zb (mRoom z (nI l) (nI c) cd))) (by rw [zb_f (by unfold mRoom; rw [el, ec]; simp_all)]; rfl) K3
            · refine zn_iconstN (pc := 66) 1 rfl rfl ?_
              refine zn_goto (pc := 67) (tgt := 90) rfl rfl ?_
              exact zn_top (v' := .int (zb (mRoom z (nI l) (nI c) cd))) (by rw [zb_t (by unfold mRoom; rw [el, ec]; simp_all)]; rfl) K3
        · refine zn_aload_n (pc := 30) rfl rfl ?_
          refine zn_iload_n (pc := 31) rfl rfl ?_
          refine zn_callVx (pc := 32) (J := zX10_cells) (o := 50) (as := [.int (nI l)]) (rest := []) rfl rfl rfl rfl rfl rfl rfl rfl (Nat.le_of_ble_eq_true rfl) (Nat.le_of_ble_eq_true rfl) (Nat.le_of_ble_eq_true rfl) (Nat.le_of_ble_eq_true rfl) (m_cells (l := l) (by omega)) ?_
          refine zn_bipushN (pc := 35) 8 rfl rfl ?_
          refine zn_icmp_geN (pc := 37) (tgt := 44) (x := (z (1 + l))) (y := 8) rfl rfl (by omega) (by omega) (fun c9 => ?_) (fun c9 => ?_)
          · refine zn_iconstN (pc := 44) 0 rfl rfl ?_
            refine zn_goto (pc := 45) (tgt := 90) rfl rfl ?_
            exact zn_top (v' := .int (zb (mRoom z (nI l) (nI c) cd))) (by rw [zb_f (by unfold mRoom; rw [el, ec]; simp_all)]; rfl) K3
          · refine zn_iconstN (pc := 40) 1 rfl rfl ?_
            refine zn_goto (pc := 41) (tgt := 90) rfl rfl ?_
            exact zn_top (v' := .int (zb (mRoom z (nI l) (nI c) cd))) (by rw [zb_t (by unfold mRoom; rw [el, ec]; simp_all)]; rfl) K3
    · refine zn_iconstN (pc := 21) 2 rfl rfl ?_
      exact zx_i (pc := 22) rfl rfl (by rw [show mtyp z (nI l) (nI c) (nI q) cd = 2 by unfold mtyp; rw [if_neg (fun hh9 => hh9 hPl), if_pos (by assumption)]]) rfl
  · refine zn_iconstN (pc := 10) 1 rfl rfl ?_
    exact zx_i (pc := 11) rfl rfl (by rw [show mtyp z x y k cd = 1 from if_pos (by assumption)]) rfl
/-- the signs of cell (l, c) from k on go one further (there are n) -/
def mshs (z : Nat → Nat) (l c n k : Nat) : Nat → Nat := fun j => if 217 + 16 * (8 * l + c) + k < j ∧ j ≤ 217 + 16 * (8 * l + c) + n then z (j - 1) else z j
def mpsg (z : Nat → Nat) (l c q v : Nat) : Nat → Nat := va_up (va_up (mshs z l c (z (25 + 8 * l + c)) q) (217 + 16 * (8 * l + c) + q) v) (25 + 8 * l + c) (z (25 + 8 * l + c) + 1)
def mptb (z : Nat → Nat) (l c q : Nat) : Nat → Nat := mgt (mopc z l (c + 1)) l c q l (c + 1)
theorem m_putSign_l {l c q v : Nat} (hl : l < 24) (hc : c < 8) (hq : q ≤ z (25 + 8 * l + c)) (h16 : z (25 + 8 * l + c) < 16) : ∀ (n : Nat) (k : Nat), k = q + n → k ≤ z (25 + 8 * l + c) → Zn g zX10_putSign 8 [some (.ref 50), some (.int (nI l)), some (.int (nI c)), some (.int (nI q)), some (.int (nI v)), some (.int (nI k))] [] (mhp h F S (mshs z l c (z (25 + 8 * l + c)) k) A X) 0 0 (fun r' h' => r' = .inl (some (.int (nI (z (25 + 8 * l + c) + 1)))) ∧ h' = (mhp h F S (mpsg z l c q v) A X)) := by
  intro n
  induction n with
  | zero =>
    intro k hn0 hn1
    refine zn_iload (pc := 8) rfl rfl ?_
    refine zn_iload_n (pc := 10) rfl rfl ?_
    refine zn_icmp_leN (pc := 11) (tgt := 42) (x := k) (y := q) rfl rfl (by omega) (by omega) (fun c1 => ?_) (fun c1 => ?_)
    · refine zn_aload_n (pc := 42) rfl rfl ?_
      refine zn_get (pc := 43) (v := .ref 51) rfl rfl rfl ?_
      refine zn_iload_n (pc := 46) rfl rfl ?_
      refine zn_iload_n (pc := 47) rfl rfl ?_
      refine zn_iload_n (pc := 48) rfl rfl ?_
      refine zn_callSx (pc := 49) (J := zX10_place) (as := [.int (nI l), .int (nI c), .int (nI q)]) (rest := [.ref 51]) rfl (by decide) rfl rfl rfl rfl (Nat.le_of_ble_eq_true rfl) (Nat.le_of_ble_eq_true rfl) (Nat.le_of_ble_eq_true rfl) (Nat.le_of_ble_eq_true rfl) (m_place l c q) ?_
      refine zn_iload (pc := 52) rfl rfl ?_
      refine zm_stz (pc := 54) (j := (217 + 16 * (8 * l + c) + q)) (v := v) rfl (by omega) ?_
      refine zn_aload_n (pc := 55) rfl rfl ?_
      refine zn_iload_n (pc := 56) rfl rfl ?_
      refine zn_iload_n (pc := 57) rfl rfl ?_
      refine zn_aload_n (pc := 58) rfl rfl ?_
      refine zn_iload_n (pc := 59) rfl rfl ?_
      refine zn_iload_n (pc := 60) rfl rfl ?_
      refine zn_callVx (pc := 61) (J := zX10_lengthOf) (o := 50) (as := [.int (nI l), .int (nI c)]) (rest := [.int (nI c), .int (nI l), .ref 50]) rfl rfl rfl rfl rfl rfl rfl rfl (Nat.le_of_ble_eq_true rfl) (Nat.le_of_ble_eq_true rfl) (Nat.le_of_ble_eq_true rfl) (Nat.le_of_ble_eq_true rfl) (m_lengthOf (l := l) (c := c) (by omega) (by omega)) ?_
      refine zn_top (v' := .int (nI (z (25 + 8 * l + c)))) (by congr 2; simp only [va_up, mshs]; rw [if_neg (by omega), if_neg (by omega)]) ?_
      refine zn_iconstN (pc := 64) 1 rfl rfl ?_
      refine zn_iaddN (pc := 65) (x := (z (25 + 8 * l + c))) (y := 1) rfl ?_
      refine zn_callVx (pc := 66) (J := zX10_setLength) (o := 50) (as := [.int (nI l), .int (nI c), .int (nI ((z (25 + 8 * l + c)) + 1))]) (rest := []) rfl rfl rfl rfl rfl rfl rfl rfl (Nat.le_of_ble_eq_true rfl) (Nat.le_of_ble_eq_true rfl) (Nat.le_of_ble_eq_true rfl) (Nat.le_of_ble_eq_true rfl) (m_setLength (l := l) (c := c) (n := ((z (25 + 8 * l + c)) + 1)) (by omega) (by omega)) ?_
      refine zn_aload_n (pc := 69) rfl rfl ?_
      refine zn_iload_n (pc := 70) rfl rfl ?_
      refine zn_iload_n (pc := 71) rfl rfl ?_
      refine zn_callVx (pc := 72) (J := zX10_lengthOf) (o := 50) (as := [.int (nI l), .int (nI c)]) (rest := []) rfl rfl rfl rfl rfl rfl rfl rfl (Nat.le_of_ble_eq_true rfl) (Nat.le_of_ble_eq_true rfl) (Nat.le_of_ble_eq_true rfl) (Nat.le_of_ble_eq_true rfl) (m_lengthOf (l := l) (c := c) (by omega) (by omega)) ?_
      refine zn_top (v' := .int (nI (z (25 + 8 * l + c) + 1))) (by rw [va_upS]) ?_
      obtain rfl : k = q := by omega
      exact zx_i (pc := 75) rfl rfl rfl rfl
    · exfalso; omega
  | succ n ih =>
    intro k hn0 hn1
    refine zn_iload (pc := 8) rfl rfl ?_
    refine zn_iload_n (pc := 10) rfl rfl ?_
    refine zn_icmp_leN (pc := 11) (tgt := 42) (x := k) (y := q) rfl rfl (by omega) (by omega) (fun c1 => ?_) (fun c1 => ?_)
    · refine zn_aload_n (pc := 42) rfl rfl ?_
      refine zn_get (pc := 43) (v := .ref 51) rfl rfl rfl ?_
      refine zn_iload_n (pc := 46) rfl rfl ?_
      refine zn_iload_n (pc := 47) rfl rfl ?_
      refine zn_iload_n (pc := 48) rfl rfl ?_
      refine zn_callSx (pc := 49) (J := zX10_place) (as := [.int (nI l), .int (nI c), .int (nI q)]) (rest := [.ref 51]) rfl (by decide) rfl rfl rfl rfl (Nat.le_of_ble_eq_true rfl) (Nat.le_of_ble_eq_true rfl) (Nat.le_of_ble_eq_true rfl) (Nat.le_of_ble_eq_true rfl) (m_place l c q) ?_
      refine zn_iload (pc := 52) rfl rfl ?_
      refine zm_stz (pc := 54) (j := (217 + 16 * (8 * l + c) + q)) (v := v) rfl (by omega) ?_
      refine zn_aload_n (pc := 55) rfl rfl ?_
      refine zn_iload_n (pc := 56) rfl rfl ?_
      refine zn_iload_n (pc := 57) rfl rfl ?_
      refine zn_aload_n (pc := 58) rfl rfl ?_
      refine zn_iload_n (pc := 59) rfl rfl ?_
      refine zn_iload_n (pc := 60) rfl rfl ?_
      refine zn_callVx (pc := 61) (J := zX10_lengthOf) (o := 50) (as := [.int (nI l), .int (nI c)]) (rest := [.int (nI c), .int (nI l), .ref 50]) rfl rfl rfl rfl rfl rfl rfl rfl (Nat.le_of_ble_eq_true rfl) (Nat.le_of_ble_eq_true rfl) (Nat.le_of_ble_eq_true rfl) (Nat.le_of_ble_eq_true rfl) (m_lengthOf (l := l) (c := c) (by omega) (by omega)) ?_
      refine zn_top (v' := .int (nI (z (25 + 8 * l + c)))) (by congr 2; simp only [va_up, mshs]; rw [if_neg (by omega), if_neg (by omega)]) ?_
      refine zn_iconstN (pc := 64) 1 rfl rfl ?_
      refine zn_iaddN (pc := 65) (x := (z (25 + 8 * l + c))) (y := 1) rfl ?_
      refine zn_callVx (pc := 66) (J := zX10_setLength) (o := 50) (as := [.int (nI l), .int (nI c), .int (nI ((z (25 + 8 * l + c)) + 1))]) (rest := []) rfl rfl rfl rfl rfl rfl rfl rfl (Nat.le_of_ble_eq_true rfl) (Nat.le_of_ble_eq_true rfl) (Nat.le_of_ble_eq_true rfl) (Nat.le_of_ble_eq_true rfl) (m_setLength (l := l) (c := c) (n := ((z (25 + 8 * l + c)) + 1)) (by omega) (by omega)) ?_
      refine zn_aload_n (pc := 69) rfl rfl ?_
      refine zn_iload_n (pc := 70) rfl rfl ?_
      refine zn_iload_n (pc := 71) rfl rfl ?_
      refine zn_callVx (pc := 72) (J := zX10_lengthOf) (o := 50) (as := [.int (nI l), .int (nI c)]) (rest := []) rfl rfl rfl rfl rfl rfl rfl rfl (Nat.le_of_ble_eq_true rfl) (Nat.le_of_ble_eq_true rfl) (Nat.le_of_ble_eq_true rfl) (Nat.le_of_ble_eq_true rfl) (m_lengthOf (l := l) (c := c) (by omega) (by omega)) ?_
      refine zn_top (v' := .int (nI (z (25 + 8 * l + c) + 1))) (by rw [va_upS]) ?_
      obtain rfl : k = q := by omega
      exact zx_i (pc := 75) rfl rfl rfl rfl
    · refine zn_aload_n (pc := 14) rfl rfl ?_
      refine zn_get (pc := 15) (v := .ref 51) rfl rfl rfl ?_
      refine zn_iload_n (pc := 18) rfl rfl ?_
      refine zn_iload_n (pc := 19) rfl rfl ?_
      refine zn_iload (pc := 20) rfl rfl ?_
      refine zn_callSx (pc := 22) (J := zX10_place) (as := [.int (nI l), .int (nI c), .int (nI k)]) (rest := [.ref 51]) rfl (by decide) rfl rfl rfl rfl (Nat.le_of_ble_eq_true rfl) (Nat.le_of_ble_eq_true rfl) (Nat.le_of_ble_eq_true rfl) (Nat.le_of_ble_eq_true rfl) (m_place l c k) ?_
      refine zn_aload_n (pc := 25) rfl rfl ?_
      refine zn_iload_n (pc := 26) rfl rfl ?_
      refine zn_iload_n (pc := 27) rfl rfl ?_
      refine zn_iload (pc := 28) rfl rfl ?_
      refine zn_iconstN (pc := 30) 1 rfl rfl ?_
      refine zn_isubN (pc := 31) (x := k) (y := 1) rfl (by omega) ?_
      refine zn_callVx (pc := 32) (J := zX10_signOf) (o := 50) (as := [.int (nI l), .int (nI c), .int (nI (k - 1))]) (rest := [.int (nI (217 + 16 * (8 * l + c) + k)), .ref 51]) rfl rfl rfl rfl rfl rfl rfl rfl (Nat.le_of_ble_eq_true rfl) (Nat.le_of_ble_eq_true rfl) (Nat.le_of_ble_eq_true rfl) (Nat.le_of_ble_eq_true rfl) (m_signOf (l := l) (c := c) (k := (k - 1)) (by omega) (by omega) (by omega)) ?_
      refine zm_stz (pc := 35) (j := (217 + 16 * (8 * l + c) + k)) (v := ((mshs z l c (z (25 + 8 * l + c)) k) (217 + 16 * (8 * l + c) + (k - 1)))) rfl (by omega) ?_
      refine zn_iinc (pc := 36) (L' := [some (.ref 50), some (.int (nI l)), some (.int (nI c)), some (.int (nI q)), some (.int (nI v)), some (.int (nI k - 1))]) (v := nI k - 1) rfl rfl (dm_dec _) (by decide) rfl ?_
      refine zn_goto (pc := 39) (tgt := 8) rfl rfl ?_
      refine zn_heq (h' := mhp h F S (mshs z l c (z (25 + 8 * l + c)) (k - 1)) A X) (congrArg (fun w => mhp h F S w A X) ?_) (zn_sub (L' := [some (.ref 50), some (.int (nI l)), some (.int (nI c)), some (.int (nI q)), some (.int (nI v)), some (.int (nI (k - 1)))]) ⟨rfl, rfl, rfl, rfl, rfl, by rw [show k = k - 1 + 1 by omega, nI_pred]; rfl, trivial⟩ (ih (k - 1) (by omega) (by omega)))
      · funext j
        simp only [va_up, mshs]
        repeat' split
        all_goals first | omega | exact congrArg z (by omega)
theorem m_putSign  {l c q v : Nat} (hl : l < 24) (hc : c < 8) (hq : q ≤ z (25 + 8 * l + c)) (h16 : z (25 + 8 * l + c) < 16) : Zx g zX10_putSign [.ref 50, .int (nI l), .int (nI c), .int (nI q), .int (nI v)] (mhp h F S z A X) (some (.int (nI (z (25 + 8 * l + c) + 1)))) (mhp h F S (mpsg z l c q v) A X) := by
  show Zn g zX10_putSign 0 [some (.ref 50), some (.int (nI l)), some (.int (nI c)), some (.int (nI q)), some (.int (nI v)), none] [] (mhp h F S z A X) 0 0 _
  refine zn_aload_n (pc := 0) rfl rfl ?_
  refine zn_iload_n (pc := 1) rfl rfl ?_
  refine zn_iload_n (pc := 2) rfl rfl ?_
  refine zn_callVx (pc := 3) (J := zX10_lengthOf) (o := 50) (as := [.int (nI l), .int (nI c)]) (rest := []) rfl rfl rfl rfl rfl rfl rfl rfl (Nat.le_of_ble_eq_true rfl) (Nat.le_of_ble_eq_true rfl) (Nat.le_of_ble_eq_true rfl) (Nat.le_of_ble_eq_true rfl) (m_lengthOf (l := l) (c := c) (by omega) (by omega)) ?_
  refine zn_istore (pc := 6) (L' := [some (.ref 50), some (.int (nI l)), some (.int (nI c)), some (.int (nI q)), some (.int (nI v)), some (.int (nI (z (25 + 8 * l + c))))]) rfl (by decide) rfl ?_
  refine zn_heq (h' := mhp h F S (mshs z l c (z (25 + 8 * l + c)) (z (25 + 8 * l + c))) A X) (congrArg (fun w => mhp h F S w A X) ?_) (m_putSign_l hl hc hq h16 (z (25 + 8 * l + c) - q) (z (25 + 8 * l + c)) (by omega) (by omega))
  · funext j
    simp only [va_up, mshs]
    repeat' split
    all_goals first | omega | exact congrArg z (by omega)
end m1
