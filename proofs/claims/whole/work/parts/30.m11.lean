section m1
variable {g : zG} {h hh : zH} {F : Nat → Nat} {S : Int64} {z : Nat → Nat} {A : Nat → Nat → Nat} {X : Nat → Int32}
/-! blocks: K l, N l, H l are kind, length, whole length of the cell of line l in the block's column -/
def bNum (K : Nat → Nat) : Nat → Nat → Nat
  | 0, _ => 0
  | m + 1, l => (if K l = 1 then 1 else 0) + bNum K m (l + 1)
theorem bNum_le (K : Nat → Nat) : ∀ m l, bNum K m l ≤ m
  | 0, l => by simp [bNum]
  | m + 1, l => by
    simp only [bNum]
    have := bNum_le K m (l + 1)
    split <;> omega
/-- every line from f to below k is a head or no word -/
abbrev bOks (K : Nat → Nat) (f t k : Nat) : Prop := ∀ l, l < k → f ≤ l → ((l = f ∧ f < t) ∨ K l < 2)
abbrev bDec (K : Nat → Nat) (f t : Nat) : Prop := 0 < bNum K (t + 1 - f) f ∧ bOks K f t (t + 1)
theorem bOks_s {K : Nat → Nat} {f t k : Nat} (hk : f ≤ k) : bOks K f t (k + 1) ↔ bOks K f t k ∧ ((k = f ∧ f < t) ∨ K k < 2) := by
  constructor
  · exact fun h => ⟨fun l h1 h2 => h l (by omega) h2, h k (by omega) hk⟩
  · intro h l h1 h2
    rcases Nat.lt_or_ge l k with q | q
    · exact h.1 l q h2
    · rw [show l = k by omega]; exact h.2
def bMax (v : Nat → Nat) : Nat → Nat → Nat → Nat
  | 0, _, a => a
  | m + 1, l, a => bMax v m (l + 1) (max a (v l))
theorem bMax_le {v : Nat → Nat} {B : Nat} : ∀ m l a, a ≤ B → (∀ j, j < m → v (l + j) ≤ B) → bMax v m l a ≤ B
  | 0, l, a, h, _ => h
  | m + 1, l, a, h, hv => by
    refine bMax_le m (l + 1) _ ?_ (fun j hj => ?_)
    · have := hv 0 (by omega)
      rw [Nat.add_zero] at this
      omega
    · have := hv (j + 1) (by omega)
      rwa [show l + 1 + j = l + (j + 1) by omega]
def bAl (s : Nat) (K : Nat → Nat) (f t : Nat) : Nat := if s < 3 then s else if bDec K f t then 3 else 0
def bPart (al : Nat) (K N H : Nat → Nat) (f t : Nat) : Nat := bMax (fun l => if al = 3 ∧ K l = 1 then N l - H l else 0) (t + 1 - f) f 0
def bCont (al : Nat) (K N H : Nat → Nat) (f t : Nat) : Nat := max (bMax (fun l => if al = 3 ∧ K l = 1 then H l else 0) (t + 1 - f) f 0 + bPart al K N H f t) (bMax (fun l => if al = 3 ∧ K l = 1 then 0 else N l) (t + 1 - f) f 0)
def bWid (cn lw pd gr : Nat) : Nat := (max cn lw + pd + gr - 1) / gr * gr
abbrev mK (z : Nat → Nat) (c l : Nat) : Nat := skind (mf z l c) (z (25 + 8 * l + c))
abbrev mN (z : Nat → Nat) (c l : Nat) : Nat := z (25 + 8 * l + c)
abbrev mH (z : Nat → Nat) (c l : Nat) : Nat := swh (mf z l c) (z (25 + 8 * l + c)) 0
/-- a block of column c, lines f to t, of the text z -/
abbrev mBlk (z : Nat → Nat) (c f t : Nat) : Prop := c < 7 ∧ f ≤ t ∧ t < z 0 ∧ z 0 ≤ 24 ∧ (∀ l, f ≤ l → l ≤ t → z (25 + 8 * l + c) ≤ 16)
theorem m_numbersIn_l {b c f t : Nat} (hb : b < 168) (h6 : A 6 b = c) (h7 : A 7 b = f) (h8 : A 8 b = t) (hB : mBlk z c f t) (hzb : ∀ j, z j < 1000) : ∀ (n : Nat) (l s R : Nat), l + n = t + 1 → f ≤ l → R = s + bNum (mK z c) n l → s ≤ l → Zn g zX10_numbersIn 9 [some (.ref 50), some (.int (nI b)), some (.int (nI s)), some (.int (nI l))] [] (mhp h F S z A X) 0 0 (fun r' h' => r' = .inl (some (.int (nI R))) ∧ h' = (mhp h F S z A X)) := by
  intro n
  induction n with
  | zero =>
    intro l s R hn0 hn1 hn2 hn3
    obtain ⟨b1, b2, b3, b4, b5⟩ := id hB
    refine zn_iload_n (pc := 9) rfl rfl ?_
    refine zn_aload_n (pc := 10) rfl rfl ?_
    refine zn_get (pc := 11) (v := .ref 59) rfl rfl rfl ?_
    refine zn_iload_n (pc := 14) rfl rfl ?_
    refine zm_ldA (pc := 15) (i := 8) (n := 168) (Z := (A 8)) (j := b) rfl (by decide) (by decide) rfl mln8 rfl (by omega) (Nat.le_of_ble_eq_true rfl) ?_
    refine zn_top (v' := .int (nI t)) (by rw [h8]) ?_
    refine zn_icmp_gtN (pc := 16) (tgt := 48) (x := l) (y := t) rfl rfl (by have := skind_le (mf z l c) (z (25 + 8 * l + c)); omega) (by have := skind_le (mf z l c) (z (25 + 8 * l + c)); omega) (fun c1 => ?_) (fun c1 => ?_)
    · refine zn_iload_n (pc := 48) rfl rfl ?_
      exact zx_i (pc := 49) rfl rfl (by rw [hn2]; simp only [bNum, Nat.add_zero]) rfl
    · exfalso; omega
  | succ n ih =>
    intro l s R hn0 hn1 hn2 hn3
    obtain ⟨b1, b2, b3, b4, b5⟩ := id hB
    refine zn_iload_n (pc := 9) rfl rfl ?_
    refine zn_aload_n (pc := 10) rfl rfl ?_
    refine zn_get (pc := 11) (v := .ref 59) rfl rfl rfl ?_
    refine zn_iload_n (pc := 14) rfl rfl ?_
    refine zm_ldA (pc := 15) (i := 8) (n := 168) (Z := (A 8)) (j := b) rfl (by decide) (by decide) rfl mln8 rfl (by omega) (Nat.le_of_ble_eq_true rfl) ?_
    refine zn_top (v' := .int (nI t)) (by rw [h8]) ?_
    refine zn_icmp_gtN (pc := 16) (tgt := 48) (x := l) (y := t) rfl rfl (by have := skind_le (mf z l c) (z (25 + 8 * l + c)); omega) (by have := skind_le (mf z l c) (z (25 + 8 * l + c)); omega) (fun c1 => ?_) (fun c1 => ?_)
    · refine zn_iload_n (pc := 48) rfl rfl ?_
      exfalso; omega
    · have b6 := b5 l (by omega) (by omega)
      refine zn_iload_n (pc := 19) rfl rfl ?_
      refine zn_joinV (v := .int (nI (if mK z c l = 1 then 1 else 0))) (pj := 40) ?_ (fun K2 => ?_)
      · refine zn_iaddN (pc := 40) (x := s) (y := (if mK z c l = 1 then 1 else 0)) rfl ?_
        refine zn_istore_n (pc := 41) (L' := [some (.ref 50), some (.int (nI b)), some (.int (nI (s + (if mK z c l = 1 then 1 else 0)))), some (.int (nI l))]) rfl (by decide) rfl ?_
        refine zn_iincN (pc := 42) (L' := [some (.ref 50), some (.int (nI b)), some (.int (nI (s + (if mK z c l = 1 then 1 else 0)))), some (.int (nI (l + 1)))]) 1 rfl rfl rfl (by decide) rfl ?_
        refine zn_goto (pc := 45) (tgt := 9) rfl rfl ?_
        exact ih (l + 1) (s + if mK z c l = 1 then 1 else 0) R (by omega) (by omega) (by rw [hn2]; simp only [bNum]; omega) (by split <;> omega)
      · refine zn_aload_n (pc := 20) rfl rfl ?_
        refine zn_iload_n (pc := 21) rfl rfl ?_
        refine zn_aload_n (pc := 22) rfl rfl ?_
        refine zn_get (pc := 23) (v := .ref 57) rfl rfl rfl ?_
        refine zn_iload_n (pc := 26) rfl rfl ?_
        refine zm_ldA (pc := 27) (i := 6) (n := 168) (Z := (A 6)) (j := b) rfl (by decide) (by decide) rfl mln6 rfl (by omega) (Nat.le_of_ble_eq_true rfl) ?_
        refine zn_top (v' := .int (nI c)) (by rw [h6]) ?_
        refine zn_callVx (pc := 28) (J := zX10_kindOf) (o := 50) (as := [.int (nI l), .int (nI c)]) (rest := [.int (nI s)]) rfl rfl rfl rfl rfl rfl rfl rfl (Nat.le_of_ble_eq_true rfl) (Nat.le_of_ble_eq_true rfl) (Nat.le_of_ble_eq_true rfl) (Nat.le_of_ble_eq_true rfl) (m_kindOf (l := l) (c := c) (by omega) (by omega) (by omega) hzb) ?_
        refine zn_iconstN (pc := 31) 1 rfl rfl ?_
        refine zn_icmp_neN (pc := 32) (tgt := 39) (x := (skind (mf z l c) (z (25 + 8 * l + c)))) (y := 1) rfl rfl (by have := skind_le (mf z l c) (z (25 + 8 * l + c)); omega) (by have := skind_le (mf z l c) (z (25 + 8 * l + c)); omega) (fun c3 => ?_) (fun c3 => ?_)
        · refine zn_iconstN (pc := 39) 0 rfl rfl ?_
          exact zn_top (v' := .int (nI (if mK z c l = 1 then 1 else 0))) (by rw [if_neg (by assumption)]) K2
        · refine zn_iconstN (pc := 35) 1 rfl rfl ?_
          refine zn_goto (pc := 36) (tgt := 40) rfl rfl ?_
          exact zn_top (v' := .int (nI (if mK z c l = 1 then 1 else 0))) (by rw [if_pos (by assumption)]) K2
theorem m_numbersIn  {b c f t : Nat} (hb : b < 168) (h6 : A 6 b = c) (h7 : A 7 b = f) (h8 : A 8 b = t) (hB : mBlk z c f t) (hzb : ∀ j, z j < 1000) : Zx g zX10_numbersIn [.ref 50, .int (nI b)] (mhp h F S z A X) (some (.int (nI (bNum (mK z c) (t + 1 - f) f)))) (mhp h F S z A X) := by
  obtain ⟨b1, b2, b3, b4, b5⟩ := id hB
  show Zn g zX10_numbersIn 0 [some (.ref 50), some (.int (nI b)), none, none] [] (mhp h F S z A X) 0 0 _
  refine zn_iconstN (pc := 0) 0 rfl rfl ?_
  refine zn_istore_n (pc := 1) (L' := [some (.ref 50), some (.int (nI b)), some (.int (nI 0)), none]) rfl (by decide) rfl ?_
  refine zn_aload_n (pc := 2) rfl rfl ?_
  refine zn_get (pc := 3) (v := .ref 58) rfl rfl rfl ?_
  refine zn_iload_n (pc := 6) rfl rfl ?_
  refine zm_ldA (pc := 7) (i := 7) (n := 168) (Z := (A 7)) (j := b) rfl (by decide) (by decide) rfl mln7 rfl (by omega) (Nat.le_of_ble_eq_true rfl) ?_
  refine zn_top (v' := .int (nI f)) (by rw [h7]) ?_
  refine zn_istore_n (pc := 8) (L' := [some (.ref 50), some (.int (nI b)), some (.int (nI 0)), some (.int (nI f))]) rfl (by decide) rfl ?_
  exact m_numbersIn_l hb h6 h7 h8 hB hzb (t + 1 - f) f 0 _ (by omega) (by omega) (by omega) (by omega)
theorem m_isDecimal_l {b c f t : Nat} (hb : b < 168) (h6 : A 6 b = c) (h7 : A 7 b = f) (h8 : A 8 b = t) (hB : mBlk z c f t) (hzb : ∀ j, z j < 1000) {p : Prop} [Decidable p] : ∀ (n : Nat) (l : Nat), l + n = t + 1 → f ≤ l → Zn g zX10_isDecimal 21 [some (.ref 50), some (.int (nI b)), some (.int (zb (p ∧ bOks (mK z c) f t l))), some (.int (nI l)), none] [] (mhp h F S z A X) 0 0 (fun r' h' => r' = .inl (some (.int (zb (p ∧ bOks (mK z c) f t (t + 1))))) ∧ h' = (mhp h F S z A X)) := by
  intro n
  induction n with
  | zero =>
    intro l hn0 hn1
    obtain ⟨b1, b2, b3, b4, b5⟩ := id hB
    refine zn_iload_n (pc := 21) rfl rfl ?_
    refine zn_aload_n (pc := 22) rfl rfl ?_
    refine zn_get (pc := 23) (v := .ref 59) rfl rfl rfl ?_
    refine zn_iload_n (pc := 26) rfl rfl ?_
    refine zm_ldA (pc := 27) (i := 8) (n := 168) (Z := (A 8)) (j := b) rfl (by decide) (by decide) rfl mln8 rfl (by omega) (Nat.le_of_ble_eq_true rfl) ?_
    refine zn_top (v' := .int (nI t)) (by rw [h8]) ?_
    refine zn_icmp_gtN (pc := 28) (tgt := 99) (x := l) (y := t) rfl rfl (by have := skind_le (mf z l c) (z (25 + 8 * l + c)); omega) (by have := skind_le (mf z l c) (z (25 + 8 * l + c)); omega) (fun c1 => ?_) (fun c1 => ?_)
    · refine zn_iload_n (pc := 99) rfl rfl ?_
      obtain rfl : l = t + 1 := by omega
      exact zx_z (pc := 100) rfl rfl (zb_and _) rfl rfl
    · exfalso; omega
  | succ n ih =>
    intro l hn0 hn1
    obtain ⟨b1, b2, b3, b4, b5⟩ := id hB
    refine zn_iload_n (pc := 21) rfl rfl ?_
    refine zn_aload_n (pc := 22) rfl rfl ?_
    refine zn_get (pc := 23) (v := .ref 59) rfl rfl rfl ?_
    refine zn_iload_n (pc := 26) rfl rfl ?_
    refine zm_ldA (pc := 27) (i := 8) (n := 168) (Z := (A 8)) (j := b) rfl (by decide) (by decide) rfl mln8 rfl (by omega) (Nat.le_of_ble_eq_true rfl) ?_
    refine zn_top (v' := .int (nI t)) (by rw [h8]) ?_
    refine zn_icmp_gtN (pc := 28) (tgt := 99) (x := l) (y := t) rfl rfl (by have := skind_le (mf z l c) (z (25 + 8 * l + c)); omega) (by have := skind_le (mf z l c) (z (25 + 8 * l + c)); omega) (fun c1 => ?_) (fun c1 => ?_)
    · refine zn_iload_n (pc := 99) rfl rfl ?_
      obtain rfl : l = t + 1 := by omega
      exact zx_z (pc := 100) rfl rfl (zb_and _) rfl rfl
    · have b6 := b5 l (by omega) (by omega)
      have b7 := @bOks_s (mK z c) f t l hn1
      refine zn_joinV (v := .int (zb (l = f ∧ f < t))) (pj := 61) ?_ (fun K2 => ?_)
      · refine zn_istore (pc := 61) (L' := [some (.ref 50), some (.int (nI b)), some (.int (zb (p ∧ bOks (mK z c) f t l))), some (.int (nI l)), some (.int (zb (l = f ∧ f < t)))]) rfl (by decide) rfl ?_
        refine zn_joinV (v := .int (zb (p ∧ bOks (mK z c) f t (l + 1)))) (pj := 92) ?_ (fun K3 => ?_)
        · refine zn_istore_n (pc := 92) (L' := [some (.ref 50), some (.int (nI b)), some (.int (zb (p ∧ bOks (mK z c) f t (l + 1)))), some (.int (nI l)), some (.int (zb (l = f ∧ f < t)))]) rfl (by decide) rfl ?_
          refine zn_iincN (pc := 93) (L' := [some (.ref 50), some (.int (nI b)), some (.int (zb (p ∧ bOks (mK z c) f t (l + 1)))), some (.int (nI (l + 1))), some (.int (zb (l = f ∧ f < t)))]) 1 rfl rfl rfl (by decide) rfl ?_
          refine zn_goto (pc := 96) (tgt := 21) rfl rfl ?_
          refine zn_sub (L' := [some (.ref 50), some (.int (nI b)), some (.int (zb (p ∧ bOks (mK z c) f t (l + 1)))), some (.int (nI (l + 1))), none]) ⟨rfl, rfl, rfl, rfl, trivial⟩ (ih (l + 1) (by omega) (by omega))
        · refine zn_iload_n (pc := 63) rfl rfl ?_
          refine zn_if_eqB (pc := 64) (tgt := 91) rfl rfl (fun c4 => ?_) (fun c4 => ?_)
          · refine zn_iconstN (pc := 91) 0 rfl rfl ?_
            exact zn_top (v' := .int (zb (p ∧ bOks (mK z c) f t (l + 1)))) (by rw [zb_f (by rw [b7]; intro q; first | exact absurd (show p ∧ bOks (mK z c) f t l from ⟨q.1, q.2.1⟩) (by assumption) | (rcases q.2.2 with q2 | q2; exact absurd q2 (by assumption); have q3 : skind (mf z l c) (z (25 + 8 * l + c)) < 2 := q2; omega))]; rfl) K3
          · refine zn_iload (pc := 67) rfl rfl ?_
            refine zn_if_neB (pc := 69) (tgt := 87) rfl rfl (fun c5 => ?_) (fun c5 => ?_)
            · refine zn_iconstN (pc := 87) 1 rfl rfl ?_
              refine zn_goto (pc := 88) (tgt := 92) rfl rfl ?_
              exact zn_top (v' := .int (zb (p ∧ bOks (mK z c) f t (l + 1)))) (by rw [zb_t (by rw [b7]; exact ⟨(by assumption : p ∧ bOks (mK z c) f t l).1, (by assumption : p ∧ bOks (mK z c) f t l).2, by first | exact Or.inl (by assumption) | exact Or.inr (by assumption)⟩)]; rfl) K3
            · refine zn_aload_n (pc := 72) rfl rfl ?_
              refine zn_iload_n (pc := 73) rfl rfl ?_
              refine zn_aload_n (pc := 74) rfl rfl ?_
              refine zn_get (pc := 75) (v := .ref 57) rfl rfl rfl ?_
              refine zn_iload_n (pc := 78) rfl rfl ?_
              refine zm_ldA (pc := 79) (i := 6) (n := 168) (Z := (A 6)) (j := b) rfl (by decide) (by decide) rfl mln6 rfl (by omega) (Nat.le_of_ble_eq_true rfl) ?_
              refine zn_top (v' := .int (nI c)) (by rw [h6]) ?_
              refine zn_callVx (pc := 80) (J := zX10_kindOf) (o := 50) (as := [.int (nI l), .int (nI c)]) (rest := []) rfl rfl rfl rfl rfl rfl rfl rfl (Nat.le_of_ble_eq_true rfl) (Nat.le_of_ble_eq_true rfl) (Nat.le_of_ble_eq_true rfl) (Nat.le_of_ble_eq_true rfl) (m_kindOf (l := l) (c := c) (by omega) (by omega) (by omega) hzb) ?_
              refine zn_iconstN (pc := 83) 2 rfl rfl ?_
              refine zn_icmp_geN (pc := 84) (tgt := 91) (x := (skind (mf z l c) (z (25 + 8 * l + c)))) (y := 2) rfl rfl (by have := skind_le (mf z l c) (z (25 + 8 * l + c)); omega) (by have := skind_le (mf z l c) (z (25 + 8 * l + c)); omega) (fun c6 => ?_) (fun c6 => ?_)
              · refine zn_iconstN (pc := 91) 0 rfl rfl ?_
                exact zn_top (v' := .int (zb (p ∧ bOks (mK z c) f t (l + 1)))) (by rw [zb_f (by rw [b7]; intro q; first | exact absurd (show p ∧ bOks (mK z c) f t l from ⟨q.1, q.2.1⟩) (by assumption) | (rcases q.2.2 with q2 | q2; exact absurd q2 (by assumption); have q3 : skind (mf z l c) (z (25 + 8 * l + c)) < 2 := q2; omega))]; rfl) K3
              · refine zn_iconstN (pc := 87) 1 rfl rfl ?_
                refine zn_goto (pc := 88) (tgt := 92) rfl rfl ?_
                exact zn_top (v' := .int (zb (p ∧ bOks (mK z c) f t (l + 1)))) (by rw [zb_t (by rw [b7]; exact ⟨(by assumption : p ∧ bOks (mK z c) f t l).1, (by assumption : p ∧ bOks (mK z c) f t l).2, by first | exact Or.inl (by assumption) | exact Or.inr (by assumption)⟩)]; rfl) K3
      · refine zn_iload_n (pc := 31) rfl rfl ?_
        refine zn_aload_n (pc := 32) rfl rfl ?_
        refine zn_get (pc := 33) (v := .ref 58) rfl rfl rfl ?_
        refine zn_iload_n (pc := 36) rfl rfl ?_
        refine zm_ldA (pc := 37) (i := 7) (n := 168) (Z := (A 7)) (j := b) rfl (by decide) (by decide) rfl mln7 rfl (by omega) (Nat.le_of_ble_eq_true rfl) ?_
        refine zn_top (v' := .int (nI f)) (by rw [h7]) ?_
        refine zn_icmp_neN (pc := 38) (tgt := 60) (x := l) (y := f) rfl rfl (by have := skind_le (mf z l c) (z (25 + 8 * l + c)); omega) (by have := skind_le (mf z l c) (z (25 + 8 * l + c)); omega) (fun c7 => ?_) (fun c7 => ?_)
        · refine zn_iconstN (pc := 60) 0 rfl rfl ?_
          exact zn_top (v' := .int (zb (l = f ∧ f < t))) (by rw [zb_f (by omega)]; rfl) K2
        · refine zn_aload_n (pc := 41) rfl rfl ?_
          refine zn_get (pc := 42) (v := .ref 59) rfl rfl rfl ?_
          refine zn_iload_n (pc := 45) rfl rfl ?_
          refine zm_ldA (pc := 46) (i := 8) (n := 168) (Z := (A 8)) (j := b) rfl (by decide) (by decide) rfl mln8 rfl (by omega) (Nat.le_of_ble_eq_true rfl) ?_
          refine zn_top (v' := .int (nI t)) (by rw [h8]) ?_
          refine zn_aload_n (pc := 47) rfl rfl ?_
          refine zn_get (pc := 48) (v := .ref 58) rfl rfl rfl ?_
          refine zn_iload_n (pc := 51) rfl rfl ?_
          refine zm_ldA (pc := 52) (i := 7) (n := 168) (Z := (A 7)) (j := b) rfl (by decide) (by decide) rfl mln7 rfl (by omega) (Nat.le_of_ble_eq_true rfl) ?_
          refine zn_top (v' := .int (nI f)) (by rw [h7]) ?_
          refine zn_icmp_leN (pc := 53) (tgt := 60) (x := t) (y := f) rfl rfl (by have := skind_le (mf z l c) (z (25 + 8 * l + c)); omega) (by have := skind_le (mf z l c) (z (25 + 8 * l + c)); omega) (fun c8 => ?_) (fun c8 => ?_)
          · refine zn_iconstN (pc := 60) 0 rfl rfl ?_
            exact zn_top (v' := .int (zb (l = f ∧ f < t))) (by rw [zb_f (by omega)]; rfl) K2
          · refine zn_iconstN (pc := 56) 1 rfl rfl ?_
            refine zn_goto (pc := 57) (tgt := 61) rfl rfl ?_
            exact zn_top (v' := .int (zb (l = f ∧ f < t))) (by rw [zb_t (by omega)]; rfl) K2
theorem m_isDecimal  {b c f t : Nat} (hb : b < 168) (h6 : A 6 b = c) (h7 : A 7 b = f) (h8 : A 8 b = t) (hB : mBlk z c f t) (hzb : ∀ j, z j < 1000) : Zx g zX10_isDecimal [.ref 50, .int (nI b)] (mhp h F S z A X) (some (.int (zb (bDec (mK z c) f t)))) (mhp h F S z A X) := by
  obtain ⟨b1, b2, b3, b4, b5⟩ := id hB
  have hN := bNum_le (mK z c) (t + 1 - f) f
  show Zn g zX10_isDecimal 0 [some (.ref 50), some (.int (nI b)), none, none, none] [] (mhp h F S z A X) 0 0 _
  refine zn_joinV (v := .int (zb (0 < bNum (mK z c) (t + 1 - f) f))) (pj := 13) ?_ (fun K1 => ?_)
  · refine zn_istore_n (pc := 13) (L' := [some (.ref 50), some (.int (nI b)), some (.int (zb (0 < bNum (mK z c) (t + 1 - f) f))), none, none]) rfl (by decide) rfl ?_
    refine zn_aload_n (pc := 14) rfl rfl ?_
    refine zn_get (pc := 15) (v := .ref 58) rfl rfl rfl ?_
    refine zn_iload_n (pc := 18) rfl rfl ?_
    refine zm_ldA (pc := 19) (i := 7) (n := 168) (Z := (A 7)) (j := b) rfl (by decide) (by decide) rfl mln7 rfl (by omega) (Nat.le_of_ble_eq_true rfl) ?_
    refine zn_top (v' := .int (nI f)) (by rw [h7]) ?_
    refine zn_istore_n (pc := 20) (L' := [some (.ref 50), some (.int (nI b)), some (.int (zb (0 < bNum (mK z c) (t + 1 - f) f))), some (.int (nI f)), none]) rfl (by decide) rfl ?_
    refine zn_sub (L' := [some (.ref 50), some (.int (nI b)), some (.int (zb ((0 < bNum (mK z c) (t + 1 - f) f) ∧ bOks (mK z c) f t f))), some (.int (nI f)), none]) ⟨rfl, rfl, congrArg (fun w => some (Value.int w)) (zb_iff (show (0 < bNum (mK z c) (t + 1 - f) f) ↔ ((0 < bNum (mK z c) (t + 1 - f) f) ∧ bOks (mK z c) f t f) from ⟨fun q => ⟨q, fun l h1 h2 => absurd h1 (by omega)⟩, fun q => q.1⟩)), rfl, trivial⟩ (m_isDecimal_l hb h6 h7 h8 hB hzb (t + 1 - f) f (by omega) (by omega))
  · refine zn_aload_n (pc := 0) rfl rfl ?_
    refine zn_iload_n (pc := 1) rfl rfl ?_
    refine zn_callVx (pc := 2) (J := zX10_numbersIn) (o := 50) (as := [.int (nI b)]) (rest := []) rfl rfl rfl rfl rfl rfl rfl rfl (Nat.le_of_ble_eq_true rfl) (Nat.le_of_ble_eq_true rfl) (Nat.le_of_ble_eq_true rfl) (Nat.le_of_ble_eq_true rfl) (m_numbersIn hb h6 h7 h8 hB hzb) ?_
    refine zn_if_leN (pc := 5) (tgt := 12) (x := (bNum (mK z c) (t + 1 - f) f)) rfl rfl (by omega) (fun c2 => ?_) (fun c2 => ?_)
    · refine zn_iconstN (pc := 12) 0 rfl rfl ?_
      exact zn_top (v' := .int (zb (0 < bNum (mK z c) (t + 1 - f) f))) (by rw [zb_f (by omega)]; rfl) K1
    · refine zn_iconstN (pc := 8) 1 rfl rfl ?_
      refine zn_goto (pc := 9) (tgt := 13) rfl rfl ?_
      exact zn_top (v' := .int (zb (0 < bNum (mK z c) (t + 1 - f) f))) (by rw [zb_t (by omega)]; rfl) K1
theorem m_measure_l {b c f t : Nat} (hb : b < 168) (h6 : A 6 b = c) (h7 : A 7 b = f) (h8 : A 8 b = t) (hB : mBlk z c f t) (hzb : ∀ j, z j < 1000) (h4 : A 4 c ≤ 3) (hg : 1 ≤ F 10) (hg8 : F 10 ≤ 8) (hlw : F 9 ≤ 20) (hpd : F 8 ≤ 8) {al : Nat} (hal : al ≤ 3) : ∀ (n : Nat) (l m w p : Nat), l + n = t + 1 → f ≤ l → bMax (fun l => if al = 3 ∧ mK z c l = 1 then 0 else mN z c l) (t + 1 - f) f 0 = bMax (fun l => if al = 3 ∧ mK z c l = 1 then 0 else mN z c l) n l m → bMax (fun l => if al = 3 ∧ mK z c l = 1 then mH z c l else 0) (t + 1 - f) f 0 = bMax (fun l => if al = 3 ∧ mK z c l = 1 then mH z c l else 0) n l w → bMax (fun l => if al = 3 ∧ mK z c l = 1 then mN z c l - mH z c l else 0) (t + 1 - f) f 0 = bMax (fun l => if al = 3 ∧ mK z c l = 1 then mN z c l - mH z c l else 0) n l p → m ≤ 16 → w ≤ 16 → p ≤ 16 → Zn g zX10_measure 65 [some (.ref 50), some (.int (nI b)), some (.int (nI c)), some (.int (nI m)), some (.int (nI w)), some (.int (nI l)), none] [] (mhp h F S z (va_up (va_up A 9 (va_up (A 9) b (al))) 11 (va_up (A 11) b (p))) X) 0 0 (fun r' h' => r' = .inl none ∧ h' = (mhp h F S z (va_up (va_up (va_up (va_up A 9 (va_up (A 9) b (al))) 11 (va_up (A 11) b (bPart (al) (mK z c) (mN z c) (mH z c) f t))) 10 (va_up (A 10) b (bCont (al) (mK z c) (mN z c) (mH z c) f t))) 12 (va_up (A 12) b (bWid (bCont (al) (mK z c) (mN z c) (mH z c) f t) (F 9) (F 8) (F 10)))) X)) := by
  intro n
  induction n with
  | zero =>
    intro l m w p hn0 hn1 hn2 hn3 hn4 hn5 hn6 hn7
    obtain ⟨b1, b2, b3, b4, b5⟩ := id hB
    refine zn_iload (pc := 65) rfl rfl ?_
    refine zn_aload_n (pc := 67) rfl rfl ?_
    refine zn_get (pc := 68) (v := .ref 59) rfl rfl rfl ?_
    refine zn_iload_n (pc := 71) rfl rfl ?_
    refine zm_ldA (pc := 72) (i := 8) (n := 168) (Z := (A 8)) (j := b) rfl (by decide) (by decide) rfl mln8 ((va_upN (by decide)).trans (va_upN (by decide))) (by omega) (Nat.le_of_ble_eq_true rfl) ?_
    refine zn_top (v' := .int (nI t)) (by rw [h8]) ?_
    refine zn_icmp_gtN (pc := 73) (tgt := 212) (x := l) (y := t) rfl rfl (by omega) (by omega) (fun c1 => ?_) (fun c1 => ?_)
    · refine zn_aload_n (pc := 212) rfl rfl ?_
      refine zn_get (pc := 213) (v := .ref 61) rfl rfl rfl ?_
      refine zn_iload_n (pc := 216) rfl rfl ?_
      refine zn_joinV (v := .int (nI (max (w + p) m))) (pj := 243) ?_ (fun K2 => ?_)
      · refine zm_stA (pc := 243) (i := 10) (n := 168) (j := b) (v := (max (w + p) m)) rfl (by decide) (by decide) rfl mln10 (by omega) (Nat.le_of_ble_eq_true rfl) ?_
        refine zn_joinV (v := .int (nI (max (max (w + p) m) (F 9)))) (pj := 270) ?_ (fun K3 => ?_)
        · refine zn_aload_n (pc := 270) rfl rfl ?_
          refine zn_get (pc := 271) (v := .int (nI (F 8))) rfl rfl rfl ?_
          refine zn_iaddN (pc := 274) (x := (max (max (w + p) m) (F 9))) (y := (F 8)) rfl ?_
          refine zn_istore (pc := 275) (L' := [some (.ref 50), some (.int (nI b)), some (.int (nI c)), some (.int (nI m)), some (.int (nI w)), some (.int (nI ((max (max (w + p) m) (F 9)) + (F 8)))), none]) rfl (by decide) rfl ?_
          refine zn_aload_n (pc := 277) rfl rfl ?_
          refine zn_get (pc := 278) (v := .ref 63) rfl rfl rfl ?_
          refine zn_iload_n (pc := 281) rfl rfl ?_
          refine zn_iload (pc := 282) rfl rfl ?_
          refine zn_aload_n (pc := 284) rfl rfl ?_
          refine zn_get (pc := 285) (v := .int (nI (F 10))) rfl rfl rfl ?_
          refine zn_iaddN (pc := 288) (x := ((max (max (w + p) m) (F 9)) + (F 8))) (y := (F 10)) rfl ?_
          refine zn_iconstN (pc := 289) 1 rfl rfl ?_
          refine zn_isubN (pc := 290) (x := (((max (max (w + p) m) (F 9)) + (F 8)) + (F 10))) (y := 1) rfl (by omega) ?_
          refine zn_aload_n (pc := 291) rfl rfl ?_
          refine zn_get (pc := 292) (v := .int (nI (F 10))) rfl rfl rfl ?_
          refine zn_idivN (pc := 295) (x := ((((max (max (w + p) m) (F 9)) + (F 8)) + (F 10)) - 1)) (y := (F 10)) rfl (by omega) (by omega) (by omega) ?_
          refine zn_aload_n (pc := 296) rfl rfl ?_
          refine zn_get (pc := 297) (v := .int (nI (F 10))) rfl rfl rfl ?_
          refine zn_imulN (pc := 300) (x := (((((max (max (w + p) m) (F 9)) + (F 8)) + (F 10)) - 1) / (F 10))) (y := (F 10)) rfl ?_
          refine zm_stA (pc := 301) (i := 12) (n := 168) (j := b) (v := ((((((max (max (w + p) m) (F 9)) + (F 8)) + (F 10)) - 1) / (F 10)) * (F 10))) rfl (by decide) (by decide) rfl mln12 (by omega) (Nat.le_of_ble_eq_true rfl) ?_
          have e1 : bPart al (mK z c) (mN z c) (mH z c) f t = p := by unfold bPart; rw [hn4]; simp only [bMax]
          have e2 : bCont al (mK z c) (mN z c) (mH z c) f t = max (w + p) m := by unfold bCont; rw [e1, hn2, hn3]; simp only [bMax]
          rw [e2, e1]
          exact zx_v (pc := 302) rfl rfl rfl rfl
        · refine zn_aload_n (pc := 244) rfl rfl ?_
          refine zn_get (pc := 245) (v := .ref 61) rfl rfl rfl ?_
          refine zn_iload_n (pc := 248) rfl rfl ?_
          refine zm_ldA (pc := 249) (i := 10) (n := 168) (Z := (va_up (A 10) b (max (w + p) m))) (j := b) rfl (by decide) (by decide) rfl mln10 (va_upS _ _ _) (by omega) (Nat.le_of_ble_eq_true rfl) ?_
          refine zn_top (v' := .int (nI (max (w + p) m))) (by rw [va_upS]) ?_
          refine zn_aload_n (pc := 250) rfl rfl ?_
          refine zn_get (pc := 251) (v := .int (nI (F 9))) rfl rfl rfl ?_
          refine zn_icmp_leN (pc := 254) (tgt := 266) (x := (max (w + p) m)) (y := (F 9)) rfl rfl (by omega) (by omega) (fun c4 => ?_) (fun c4 => ?_)
          · refine zn_aload_n (pc := 266) rfl rfl ?_
            refine zn_get (pc := 267) (v := .int (nI (F 9))) rfl rfl rfl ?_
            exact zn_top (v' := .int (nI (max (max (w + p) m) (F 9)))) (by congr 2; omega) K3
          · refine zn_aload_n (pc := 257) rfl rfl ?_
            refine zn_get (pc := 258) (v := .ref 61) rfl rfl rfl ?_
            refine zn_iload_n (pc := 261) rfl rfl ?_
            refine zm_ldA (pc := 262) (i := 10) (n := 168) (Z := (va_up (A 10) b (max (w + p) m))) (j := b) rfl (by decide) (by decide) rfl mln10 (va_upS _ _ _) (by omega) (Nat.le_of_ble_eq_true rfl) ?_
            refine zn_top (v' := .int (nI (max (w + p) m))) (by rw [va_upS]) ?_
            refine zn_goto (pc := 263) (tgt := 270) rfl rfl ?_
            exact zn_top (v' := .int (nI (max (max (w + p) m) (F 9)))) (by congr 2; omega) K3
      · refine zn_iload (pc := 217) rfl rfl ?_
        refine zn_aload_n (pc := 219) rfl rfl ?_
        refine zn_get (pc := 220) (v := .ref 62) rfl rfl rfl ?_
        refine zn_iload_n (pc := 223) rfl rfl ?_
        refine zm_ldA (pc := 224) (i := 11) (n := 168) (Z := (va_up (A 11) b (p))) (j := b) rfl (by decide) (by decide) rfl mln11 (va_upS _ _ _) (by omega) (Nat.le_of_ble_eq_true rfl) ?_
        refine zn_top (v' := .int (nI p)) (by rw [va_upS]) ?_
        refine zn_iaddN (pc := 225) (x := w) (y := p) rfl ?_
        refine zn_iload_n (pc := 226) rfl rfl ?_
        refine zn_icmp_leN (pc := 227) (tgt := 242) (x := (w + p)) (y := m) rfl rfl (by omega) (by omega) (fun c5 => ?_) (fun c5 => ?_)
        · refine zn_iload_n (pc := 242) rfl rfl ?_
          exact zn_top (v' := .int (nI (max (w + p) m))) (by congr 2; omega) K2
        · refine zn_iload (pc := 230) rfl rfl ?_
          refine zn_aload_n (pc := 232) rfl rfl ?_
          refine zn_get (pc := 233) (v := .ref 62) rfl rfl rfl ?_
          refine zn_iload_n (pc := 236) rfl rfl ?_
          refine zm_ldA (pc := 237) (i := 11) (n := 168) (Z := (va_up (A 11) b (p))) (j := b) rfl (by decide) (by decide) rfl mln11 (va_upS _ _ _) (by omega) (Nat.le_of_ble_eq_true rfl) ?_
          refine zn_top (v' := .int (nI p)) (by rw [va_upS]) ?_
          refine zn_iaddN (pc := 238) (x := w) (y := p) rfl ?_
          refine zn_goto (pc := 239) (tgt := 243) rfl rfl ?_
          exact zn_top (v' := .int (nI (max (w + p) m))) (by congr 2; omega) K2
    · exfalso; omega
  | succ n ih =>
    intro l m w p hn0 hn1 hn2 hn3 hn4 hn5 hn6 hn7
    obtain ⟨b1, b2, b3, b4, b5⟩ := id hB
    refine zn_iload (pc := 65) rfl rfl ?_
    refine zn_aload_n (pc := 67) rfl rfl ?_
    refine zn_get (pc := 68) (v := .ref 59) rfl rfl rfl ?_
    refine zn_iload_n (pc := 71) rfl rfl ?_
    refine zm_ldA (pc := 72) (i := 8) (n := 168) (Z := (A 8)) (j := b) rfl (by decide) (by decide) rfl mln8 ((va_upN (by decide)).trans (va_upN (by decide))) (by omega) (Nat.le_of_ble_eq_true rfl) ?_
    refine zn_top (v' := .int (nI t)) (by rw [h8]) ?_
    refine zn_icmp_gtN (pc := 73) (tgt := 212) (x := l) (y := t) rfl rfl (by omega) (by omega) (fun c1 => ?_) (fun c1 => ?_)
    · exfalso; omega
    · have b6 := b5 l (by omega) (by omega)
      have k2 := skind_le (mf z l c) (z (25 + 8 * l + c))
      have w2 := swh_le (mf z l c) (z (25 + 8 * l + c)) 0
      refine zn_joinV (v := .int (zb (al = 3 ∧ mK z c l = 1))) (pj := 102) ?_ (fun K2 => ?_)
      · refine zn_istore (pc := 102) (L' := [some (.ref 50), some (.int (nI b)), some (.int (nI c)), some (.int (nI m)), some (.int (nI w)), some (.int (nI l)), some (.int (zb (al = 3 ∧ mK z c l = 1)))]) rfl (by decide) rfl ?_
        refine zn_joinV (v := .int (nI (max m ((fun l => if al = 3 ∧ mK z c l = 1 then 0 else mN z c l) l)))) (pj := 131) ?_ (fun K3 => ?_)
        · refine zn_istore_n (pc := 131) (L' := [some (.ref 50), some (.int (nI b)), some (.int (nI c)), some (.int (nI (max m ((fun l => if al = 3 ∧ mK z c l = 1 then 0 else mN z c l) l)))), some (.int (nI w)), some (.int (nI l)), some (.int (zb (al = 3 ∧ mK z c l = 1)))]) rfl (by decide) rfl ?_
          refine zn_joinV (v := .int (nI (max w ((fun l => if al = 3 ∧ mK z c l = 1 then mH z c l else 0) l)))) (pj := 161) ?_ (fun K4 => ?_)
          · refine zn_istore (pc := 161) (L' := [some (.ref 50), some (.int (nI b)), some (.int (nI c)), some (.int (nI (max m ((fun l => if al = 3 ∧ mK z c l = 1 then 0 else mN z c l) l)))), some (.int (nI (max w ((fun l => if al = 3 ∧ mK z c l = 1 then mH z c l else 0) l)))), some (.int (nI l)), some (.int (zb (al = 3 ∧ mK z c l = 1)))]) rfl (by decide) rfl ?_
            refine zn_aload_n (pc := 163) rfl rfl ?_
            refine zn_get (pc := 164) (v := .ref 62) rfl rfl rfl ?_
            refine zn_iload_n (pc := 167) rfl rfl ?_
            refine zn_joinV (v := .int (nI (max p ((fun l => if al = 3 ∧ mK z c l = 1 then mN z c l - mH z c l else 0) l)))) (pj := 205) ?_ (fun K5 => ?_)
            · refine zm_stA (pc := 205) (i := 11) (n := 168) (j := b) (v := (max p ((fun l => if al = 3 ∧ mK z c l = 1 then mN z c l - mH z c l else 0) l))) rfl (by decide) (by decide) rfl mln11 (by omega) (Nat.le_of_ble_eq_true rfl) ?_
              refine zn_iincN (pc := 206) (L' := [some (.ref 50), some (.int (nI b)), some (.int (nI c)), some (.int (nI (max m ((fun l => if al = 3 ∧ mK z c l = 1 then 0 else mN z c l) l)))), some (.int (nI (max w ((fun l => if al = 3 ∧ mK z c l = 1 then mH z c l else 0) l)))), some (.int (nI (l + 1))), some (.int (zb (al = 3 ∧ mK z c l = 1)))]) 1 rfl rfl rfl (by decide) rfl ?_
              refine zn_goto (pc := 209) (tgt := 65) rfl rfl ?_
              refine zn_heq (h' := mhp h F S z (va_up (va_up A 9 (va_up (A 9) b (al))) 11 (va_up (A 11) b (max p ((fun l => if al = 3 ∧ mK z c l = 1 then mN z c l - mH z c l else 0) l)))) X) (mh_eq rfl rfl ?_) (zn_sub (L' := [some (.ref 50), some (.int (nI b)), some (.int (nI c)), some (.int (nI (max m ((fun l => if al = 3 ∧ mK z c l = 1 then 0 else mN z c l) l)))), some (.int (nI (max w ((fun l => if al = 3 ∧ mK z c l = 1 then mH z c l else 0) l)))), some (.int (nI (l + 1))), none]) ⟨rfl, rfl, rfl, rfl, rfl, rfl, trivial⟩ (ih (l + 1) (max m ((fun l => if al = 3 ∧ mK z c l = 1 then 0 else mN z c l) l)) (max w ((fun l => if al = 3 ∧ mK z c l = 1 then mH z c l else 0) l)) (max p ((fun l => if al = 3 ∧ mK z c l = 1 then mN z c l - mH z c l else 0) l)) (by omega) (by omega) (by rw [hn2]; simp only [bMax]) (by rw [hn3]; simp only [bMax]) (by rw [hn4]; simp only [bMax]) (by simp only [mN, mH]; split <;> omega) (by simp only [mN, mH]; split <;> omega) (by simp only [mN, mH]; split <;> omega)))
              · rw [bx_uu]
                refine congrArg (va_up (va_up A 9 (va_up (A 9) b al)) 11) ?_
                show va_up (va_up (va_up A 9 (va_up (A 9) b al)) 11 (va_up (A 11) b p) 11) b _ = _
                rw [va_upS, bx_uu]
            · refine zn_iload (pc := 168) rfl rfl ?_
              refine zn_if_eqB (pc := 170) (tgt := 199) rfl rfl (fun c6 => ?_) (fun c6 => ?_)
              · refine zn_aload_n (pc := 199) rfl rfl ?_
                refine zn_get (pc := 200) (v := .ref 62) rfl rfl rfl ?_
                refine zn_iload_n (pc := 203) rfl rfl ?_
                refine zm_ldA (pc := 204) (i := 11) (n := 168) (Z := (va_up (A 11) b (p))) (j := b) rfl (by decide) (by decide) rfl mln11 (va_upS _ _ _) (by omega) (Nat.le_of_ble_eq_true rfl) ?_
                refine zn_top (v' := .int (nI p)) (by rw [va_upS]) ?_
                exact zn_top (v' := .int (nI (max p ((fun l => if al = 3 ∧ mK z c l = 1 then mN z c l - mH z c l else 0) l)))) (by congr 2; simp only; first | (rw [if_neg (by assumption)]; omega) | (rw [if_pos (by assumption)]; show _ = max p (z (25 + 8 * l + c) - swh (mf z l c) (z (25 + 8 * l + c)) 0); omega)) K5
              · refine zn_aload_n (pc := 173) rfl rfl ?_
                refine zn_iload (pc := 174) rfl rfl ?_
                refine zn_iload_n (pc := 176) rfl rfl ?_
                refine zn_callVx (pc := 177) (J := zX10_partLength) (o := 50) (as := [.int (nI l), .int (nI c)]) (rest := [.int (nI b), .ref 62]) rfl rfl rfl rfl rfl rfl rfl rfl (Nat.le_of_ble_eq_true rfl) (Nat.le_of_ble_eq_true rfl) (Nat.le_of_ble_eq_true rfl) (Nat.le_of_ble_eq_true rfl) (m_partLength (l := l) (c := c) (by omega) (by omega) (by omega) hzb) ?_
                refine zn_aload_n (pc := 180) rfl rfl ?_
                refine zn_get (pc := 181) (v := .ref 62) rfl rfl rfl ?_
                refine zn_iload_n (pc := 184) rfl rfl ?_
                refine zm_ldA (pc := 185) (i := 11) (n := 168) (Z := (va_up (A 11) b (p))) (j := b) rfl (by decide) (by decide) rfl mln11 (va_upS _ _ _) (by omega) (Nat.le_of_ble_eq_true rfl) ?_
                refine zn_top (v' := .int (nI p)) (by rw [va_upS]) ?_
                refine zn_icmp_leN (pc := 186) (tgt := 199) (x := (z (25 + 8 * l + c) - swh (mf z l c) (z (25 + 8 * l + c)) 0)) (y := p) rfl rfl (by omega) (by omega) (fun c7 => ?_) (fun c7 => ?_)
                · refine zn_aload_n (pc := 199) rfl rfl ?_
                  refine zn_get (pc := 200) (v := .ref 62) rfl rfl rfl ?_
                  refine zn_iload_n (pc := 203) rfl rfl ?_
                  refine zm_ldA (pc := 204) (i := 11) (n := 168) (Z := (va_up (A 11) b (p))) (j := b) rfl (by decide) (by decide) rfl mln11 (va_upS _ _ _) (by omega) (Nat.le_of_ble_eq_true rfl) ?_
                  refine zn_top (v' := .int (nI p)) (by rw [va_upS]) ?_
                  exact zn_top (v' := .int (nI (max p ((fun l => if al = 3 ∧ mK z c l = 1 then mN z c l - mH z c l else 0) l)))) (by congr 2; simp only; first | (rw [if_neg (by assumption)]; omega) | (rw [if_pos (by assumption)]; show _ = max p (z (25 + 8 * l + c) - swh (mf z l c) (z (25 + 8 * l + c)) 0); omega)) K5
                · refine zn_aload_n (pc := 189) rfl rfl ?_
                  refine zn_iload (pc := 190) rfl rfl ?_
                  refine zn_iload_n (pc := 192) rfl rfl ?_
                  refine zn_callVx (pc := 193) (J := zX10_partLength) (o := 50) (as := [.int (nI l), .int (nI c)]) (rest := [.int (nI b), .ref 62]) rfl rfl rfl rfl rfl rfl rfl rfl (Nat.le_of_ble_eq_true rfl) (Nat.le_of_ble_eq_true rfl) (Nat.le_of_ble_eq_true rfl) (Nat.le_of_ble_eq_true rfl) (m_partLength (l := l) (c := c) (by omega) (by omega) (by omega) hzb) ?_
                  refine zn_goto (pc := 196) (tgt := 205) rfl rfl ?_
                  exact zn_top (v' := .int (nI (max p ((fun l => if al = 3 ∧ mK z c l = 1 then mN z c l - mH z c l else 0) l)))) (by congr 2; simp only; first | (rw [if_neg (by assumption)]; omega) | (rw [if_pos (by assumption)]; show _ = max p (z (25 + 8 * l + c) - swh (mf z l c) (z (25 + 8 * l + c)) 0); omega)) K5
          · refine zn_iload (pc := 132) rfl rfl ?_
            refine zn_if_eqB (pc := 134) (tgt := 159) rfl rfl (fun c8 => ?_) (fun c8 => ?_)
            · refine zn_iload (pc := 159) rfl rfl ?_
              exact zn_top (v' := .int (nI (max w ((fun l => if al = 3 ∧ mK z c l = 1 then mH z c l else 0) l)))) (by congr 2; simp only; first | (rw [if_neg (by assumption)]; omega) | (rw [if_pos (by assumption)]; show _ = max w (swh (mf z l c) (z (25 + 8 * l + c)) 0); omega)) K4
            · refine zn_aload_n (pc := 137) rfl rfl ?_
              refine zn_iload (pc := 138) rfl rfl ?_
              refine zn_iload_n (pc := 140) rfl rfl ?_
              refine zn_callVx (pc := 141) (J := zX10_wholeLength) (o := 50) (as := [.int (nI l), .int (nI c)]) (rest := []) rfl rfl rfl rfl rfl rfl rfl rfl (Nat.le_of_ble_eq_true rfl) (Nat.le_of_ble_eq_true rfl) (Nat.le_of_ble_eq_true rfl) (Nat.le_of_ble_eq_true rfl) (m_wholeLength (l := l) (c := c) (by omega) (by omega) (by omega) hzb) ?_
              refine zn_iload (pc := 144) rfl rfl ?_
              refine zn_icmp_leN (pc := 146) (tgt := 159) (x := (swh (mf z l c) (z (25 + 8 * l + c)) 0)) (y := w) rfl rfl (by omega) (by omega) (fun c9 => ?_) (fun c9 => ?_)
              · refine zn_iload (pc := 159) rfl rfl ?_
                exact zn_top (v' := .int (nI (max w ((fun l => if al = 3 ∧ mK z c l = 1 then mH z c l else 0) l)))) (by congr 2; simp only; first | (rw [if_neg (by assumption)]; omega) | (rw [if_pos (by assumption)]; show _ = max w (swh (mf z l c) (z (25 + 8 * l + c)) 0); omega)) K4
              · refine zn_aload_n (pc := 149) rfl rfl ?_
                refine zn_iload (pc := 150) rfl rfl ?_
                refine zn_iload_n (pc := 152) rfl rfl ?_
                refine zn_callVx (pc := 153) (J := zX10_wholeLength) (o := 50) (as := [.int (nI l), .int (nI c)]) (rest := []) rfl rfl rfl rfl rfl rfl rfl rfl (Nat.le_of_ble_eq_true rfl) (Nat.le_of_ble_eq_true rfl) (Nat.le_of_ble_eq_true rfl) (Nat.le_of_ble_eq_true rfl) (m_wholeLength (l := l) (c := c) (by omega) (by omega) (by omega) hzb) ?_
                refine zn_goto (pc := 156) (tgt := 161) rfl rfl ?_
                exact zn_top (v' := .int (nI (max w ((fun l => if al = 3 ∧ mK z c l = 1 then mH z c l else 0) l)))) (by congr 2; simp only; first | (rw [if_neg (by assumption)]; omega) | (rw [if_pos (by assumption)]; show _ = max w (swh (mf z l c) (z (25 + 8 * l + c)) 0); omega)) K4
        · refine zn_iload (pc := 104) rfl rfl ?_
          refine zn_if_neB (pc := 106) (tgt := 130) rfl rfl (fun c10 => ?_) (fun c10 => ?_)
          · refine zn_iload_n (pc := 130) rfl rfl ?_
            exact zn_top (v' := .int (nI (max m ((fun l => if al = 3 ∧ mK z c l = 1 then 0 else mN z c l) l)))) (by congr 2; simp only; first | (rw [if_pos (by assumption)]; omega) | (rw [if_neg (by assumption)]; show _ = max m (z (25 + 8 * l + c)); omega)) K3
          · refine zn_aload_n (pc := 109) rfl rfl ?_
            refine zn_iload (pc := 110) rfl rfl ?_
            refine zn_iload_n (pc := 112) rfl rfl ?_
            refine zn_callVx (pc := 113) (J := zX10_lengthOf) (o := 50) (as := [.int (nI l), .int (nI c)]) (rest := []) rfl rfl rfl rfl rfl rfl rfl rfl (Nat.le_of_ble_eq_true rfl) (Nat.le_of_ble_eq_true rfl) (Nat.le_of_ble_eq_true rfl) (Nat.le_of_ble_eq_true rfl) (m_lengthOf (l := l) (c := c) (by omega) (by omega)) ?_
            refine zn_iload_n (pc := 116) rfl rfl ?_
            refine zn_icmp_leN (pc := 117) (tgt := 130) (x := (z (25 + 8 * l + c))) (y := m) rfl rfl (by omega) (by omega) (fun c11 => ?_) (fun c11 => ?_)
            · refine zn_iload_n (pc := 130) rfl rfl ?_
              exact zn_top (v' := .int (nI (max m ((fun l => if al = 3 ∧ mK z c l = 1 then 0 else mN z c l) l)))) (by congr 2; simp only; first | (rw [if_pos (by assumption)]; omega) | (rw [if_neg (by assumption)]; show _ = max m (z (25 + 8 * l + c)); omega)) K3
            · refine zn_aload_n (pc := 120) rfl rfl ?_
              refine zn_iload (pc := 121) rfl rfl ?_
              refine zn_iload_n (pc := 123) rfl rfl ?_
              refine zn_callVx (pc := 124) (J := zX10_lengthOf) (o := 50) (as := [.int (nI l), .int (nI c)]) (rest := []) rfl rfl rfl rfl rfl rfl rfl rfl (Nat.le_of_ble_eq_true rfl) (Nat.le_of_ble_eq_true rfl) (Nat.le_of_ble_eq_true rfl) (Nat.le_of_ble_eq_true rfl) (m_lengthOf (l := l) (c := c) (by omega) (by omega)) ?_
              refine zn_goto (pc := 127) (tgt := 131) rfl rfl ?_
              exact zn_top (v' := .int (nI (max m ((fun l => if al = 3 ∧ mK z c l = 1 then 0 else mN z c l) l)))) (by congr 2; simp only; first | (rw [if_pos (by assumption)]; omega) | (rw [if_neg (by assumption)]; show _ = max m (z (25 + 8 * l + c)); omega)) K3
      · refine zn_aload_n (pc := 76) rfl rfl ?_
        refine zn_get (pc := 77) (v := .ref 60) rfl rfl rfl ?_
        refine zn_iload_n (pc := 80) rfl rfl ?_
        refine zm_ldA (pc := 81) (i := 9) (n := 168) (Z := (va_up (A 9) b (al))) (j := b) rfl (by decide) (by decide) rfl mln9 ((va_upN (by decide)).trans (va_upS _ _ _)) (by omega) (Nat.le_of_ble_eq_true rfl) ?_
        refine zn_top (v' := .int (nI al)) (by rw [va_upS]) ?_
        refine zn_iconstN (pc := 82) 3 rfl rfl ?_
        refine zn_icmp_neN (pc := 83) (tgt := 101) (x := al) (y := 3) rfl rfl (by omega) (by omega) (fun c12 => ?_) (fun c12 => ?_)
        · refine zn_iconstN (pc := 101) 0 rfl rfl ?_
          exact zn_top (v' := .int (zb (al = 3 ∧ mK z c l = 1))) (by rw [zb_f (by intro q; first | exact absurd q.1 (by assumption) | exact absurd q.2 (by assumption))]; rfl) K2
        · refine zn_aload_n (pc := 86) rfl rfl ?_
          refine zn_iload (pc := 87) rfl rfl ?_
          refine zn_iload_n (pc := 89) rfl rfl ?_
          refine zn_callVx (pc := 90) (J := zX10_kindOf) (o := 50) (as := [.int (nI l), .int (nI c)]) (rest := []) rfl rfl rfl rfl rfl rfl rfl rfl (Nat.le_of_ble_eq_true rfl) (Nat.le_of_ble_eq_true rfl) (Nat.le_of_ble_eq_true rfl) (Nat.le_of_ble_eq_true rfl) (m_kindOf (l := l) (c := c) (by omega) (by omega) (by omega) hzb) ?_
          refine zn_iconstN (pc := 93) 1 rfl rfl ?_
          refine zn_icmp_neN (pc := 94) (tgt := 101) (x := (skind (mf z l c) (z (25 + 8 * l + c)))) (y := 1) rfl rfl (by omega) (by omega) (fun c13 => ?_) (fun c13 => ?_)
          · refine zn_iconstN (pc := 101) 0 rfl rfl ?_
            exact zn_top (v' := .int (zb (al = 3 ∧ mK z c l = 1))) (by rw [zb_f (by intro q; first | exact absurd q.1 (by assumption) | exact absurd q.2 (by assumption))]; rfl) K2
          · refine zn_iconstN (pc := 97) 1 rfl rfl ?_
            refine zn_goto (pc := 98) (tgt := 102) rfl rfl ?_
            exact zn_top (v' := .int (zb (al = 3 ∧ mK z c l = 1))) (by rw [zb_t ⟨by assumption, by assumption⟩]; rfl) K2
end m1
