section m1
variable {g : zG} {h hh : zH} {F : Nat → Nat} {S : Int64} {z : Nat → Nat} {A : Nat → Nat → Nat} {X : Nat → Int32}
/-- x put behind those of the first n of o that don't come behind it -/
def mIns (bh : Nat → Nat → Prop) [∀ a b, Decidable (bh a b)] (x : Nat) : Nat → (Nat → Nat) → Nat → Nat
  | 0, o => va_up o 0 x
  | n + 1, o => if bh (o n) x then mIns bh x n (va_up o (n + 1) (o n)) else va_up o (n + 1) x
/-- the lines from f on, k of them, in order -/
def mOrd (bh : Nat → Nat → Prop) [∀ a b, Decidable (bh a b)] (f : Nat) (o : Nat → Nat) : Nat → Nat → Nat
  | 0 => o
  | k + 1 => mIns bh (f + k) k (mOrd bh f o k)
theorem mIns_hi (bh : Nat → Nat → Prop) [∀ a b, Decidable (bh a b)] (x : Nat) : ∀ (n : Nat) (o : Nat → Nat) (i : Nat), n < i → mIns bh x n o i = o i
  | 0, o, i, h => va_upN (by omega)
  | n + 1, o, i, h => by
    simp only [mIns]
    split
    · rw [mIns_hi bh x n _ i (by omega), va_upN (by omega)]
    · rw [va_upN (by omega)]
theorem mIns_in (bh : Nat → Nat → Prop) [∀ a b, Decidable (bh a b)] {P : Nat → Prop} {x : Nat} (hx : P x) : ∀ (n : Nat) (o : Nat → Nat), (∀ i, i < n → P (o i)) → ∀ i, i ≤ n → P (mIns bh x n o i)
  | 0, o, _, i, h => by
    rw [show i = 0 by omega]
    simp only [mIns, va_upS]
    exact hx
  | n + 1, o, ho, i, h => by
    simp only [mIns]
    split
    · rcases Nat.lt_or_ge n i with q | q
      · rw [mIns_hi bh x n _ i q, show i = n + 1 by omega, va_upS]
        exact ho n (by omega)
      · exact mIns_in bh hx n _ (fun j hj => by rw [va_upN (by omega)]; exact ho j (by omega)) i q
    · rcases Nat.lt_or_ge i (n + 1) with q | q
      · rw [va_upN (by omega)]; exact ho i q
      · rw [show i = n + 1 by omega, va_upS]; exact hx
theorem mOrd_in (bh : Nat → Nat → Prop) [∀ a b, Decidable (bh a b)] (f : Nat) (o : Nat → Nat) : ∀ (k i : Nat), i < k → f ≤ mOrd bh f o k i ∧ mOrd bh f o k i < f + k
  | 0, i, h => absurd h (by omega)
  | k + 1, i, h => mIns_in bh (P := fun v => f ≤ v ∧ v < f + (k + 1)) (by omega) k _ (fun j hj => by have := mOrd_in bh f o k j hj; omega) i (by omega)
def mTk (z u o : Nat → Nat) (f : Nat) : Nat → Nat → Nat
  | 0 => z
  | k + 1 => mtk (mTk z u o f k) u (f + k) (o k)
def mMv (o : Nat → Nat) (f : Nat) : Nat → Nat
  | 0 => 0
  | k + 1 => mMv o f k + if o k = f + k then 0 else 1
theorem m_sortNow_i {b c d t fr m : Nat} {Q : zR → zH → Prop} (hb : b < 168) (h6 : A 6 b = c) (hd : d ≤ 1) (hc : c < 8) (ht : t < 24) (hm : fr + m = t + 1) (hln : ∀ l, fr ≤ l → l ≤ t → z (25 + 8 * l + c) ≤ 16) (hzb : ∀ j, z j < 1000) {k : Nat} (hk : k < m) : ∀ (n : Nat) (o : Nat → Nat), (n ≤ k ∧ ∀ i, i < n → fr ≤ o i ∧ o i ≤ t) → Zn g zX10_sortNow 15 [some (.ref 50), some (.int (nI b)), some (.int (nI fr)), some (.int (nI d)), some (.int (nI m)), some (.int (nI (k + 1))), none] [] (mhp h F S z (va_up A 13 (mIns (mBh z c d) (fr + k) n o)) X) 0 0 Q → Zn g zX10_sortNow 26 [some (.ref 50), some (.int (nI b)), some (.int (nI fr)), some (.int (nI d)), some (.int (nI m)), some (.int (nI k)), some (.int (nI n))] [] (mhp h F S z (va_up A 13 o) X) 0 0 Q := by
  intro n
  induction n with
  | zero =>
    intro o hn0 hn1
    refine zn_iload (pc := 26) rfl rfl ?_
    refine zn_if_leN (pc := 28) (tgt := 80) (x := 0) rfl rfl (by omega) (fun c1 => ?_) (fun c1 => ?_)
    · refine zn_aload_n (pc := 80) rfl rfl ?_
      refine zn_get (pc := 81) (v := .ref 64) rfl rfl rfl ?_
      refine zn_iload (pc := 84) rfl rfl ?_
      refine zn_iload_n (pc := 86) rfl rfl ?_
      refine zn_iload (pc := 87) rfl rfl ?_
      refine zn_iaddN (pc := 89) (x := fr) (y := k) rfl ?_
      refine zm_stA (pc := 90) (i := 13) (n := 24) (j := 0) (v := (fr + k)) rfl (by decide) (by decide) rfl mln13 (by omega) (Nat.le_of_ble_eq_true rfl) ?_
      refine zn_iincN (pc := 91) (L' := [some (.ref 50), some (.int (nI b)), some (.int (nI fr)), some (.int (nI d)), some (.int (nI m)), some (.int (nI (k + 1))), some (.int (nI 0))]) 1 rfl rfl rfl (by decide) rfl ?_
      refine zn_goto (pc := 94) (tgt := 15) rfl rfl ?_
      exact zn_sub (L' := [some (.ref 50), some (.int (nI b)), some (.int (nI fr)), some (.int (nI d)), some (.int (nI m)), some (.int (nI (k + 1))), none]) ⟨rfl, rfl, rfl, rfl, rfl, rfl, trivial⟩ (zn_heq (mh_eq rfl rfl (by rw [bx_uu, va_upS]; rfl)) hn1)
    · exfalso; omega
  | succ n ih =>
    intro o hn0 hn1
    refine zn_iload (pc := 26) rfl rfl ?_
    refine zn_if_leN (pc := 28) (tgt := 80) (x := (n + 1)) rfl rfl (by omega) (fun c1 => ?_) (fun c1 => ?_)
    · exfalso; omega
    · have q1 := hn0.2 n (by omega)
      refine zn_aload_n (pc := 31) rfl rfl ?_
      refine zn_aload_n (pc := 32) rfl rfl ?_
      refine zn_get (pc := 33) (v := .ref 64) rfl rfl rfl ?_
      refine zn_iload (pc := 36) rfl rfl ?_
      refine zn_iconstN (pc := 38) 1 rfl rfl ?_
      refine zn_isubN (pc := 39) (x := (n + 1)) (y := 1) rfl (by omega) ?_
      refine zn_top (v' := .int (nI n)) rfl ?_
      refine zm_ldA (pc := 40) (i := 13) (n := 24) (Z := o) (j := n) rfl (by decide) (by decide) rfl mln13 (va_upS _ _ _) (by omega) (Nat.le_of_ble_eq_true rfl) ?_
      refine zn_iload_n (pc := 41) rfl rfl ?_
      refine zn_iload (pc := 42) rfl rfl ?_
      refine zn_iaddN (pc := 44) (x := fr) (y := k) rfl ?_
      refine zn_aload_n (pc := 45) rfl rfl ?_
      refine zn_get (pc := 46) (v := .ref 57) rfl rfl rfl ?_
      refine zn_iload_n (pc := 49) rfl rfl ?_
      refine zm_ldA (pc := 50) (i := 6) (n := 168) (Z := (A 6)) (j := b) rfl (by decide) (by decide) rfl mln6 (va_upN (by decide)) (by omega) (Nat.le_of_ble_eq_true rfl) ?_
      refine zn_top (v' := .int (nI c)) (by rw [h6]) ?_
      refine zn_iload_n (pc := 51) rfl rfl ?_
      refine zn_callVx (pc := 52) (J := zX10_isBehind) (o := 50) (as := [.int (nI (o n)), .int (nI (fr + k)), .int (nI c), .int (nI d)]) (rest := []) rfl rfl rfl rfl rfl rfl rfl rfl (Nat.le_of_ble_eq_true rfl) (Nat.le_of_ble_eq_true rfl) (Nat.le_of_ble_eq_true rfl) (Nat.le_of_ble_eq_true rfl) (m_isBehind (l := (o n)) (o := (fr + k)) (c := c) (d := d) (by omega) (by omega) hc (hln _ (by omega) (by omega)) (hln _ (by omega) (by omega)) hzb hd) ?_
      refine zn_if_eqB (pc := 55) (tgt := 80) rfl rfl (fun c2 => ?_) (fun c2 => ?_)
      · refine zn_aload_n (pc := 80) rfl rfl ?_
        refine zn_get (pc := 81) (v := .ref 64) rfl rfl rfl ?_
        refine zn_iload (pc := 84) rfl rfl ?_
        refine zn_iload_n (pc := 86) rfl rfl ?_
        refine zn_iload (pc := 87) rfl rfl ?_
        refine zn_iaddN (pc := 89) (x := fr) (y := k) rfl ?_
        refine zm_stA (pc := 90) (i := 13) (n := 24) (j := (n + 1)) (v := (fr + k)) rfl (by decide) (by decide) rfl mln13 (by omega) (Nat.le_of_ble_eq_true rfl) ?_
        refine zn_iincN (pc := 91) (L' := [some (.ref 50), some (.int (nI b)), some (.int (nI fr)), some (.int (nI d)), some (.int (nI m)), some (.int (nI (k + 1))), some (.int (nI (n + 1)))]) 1 rfl rfl rfl (by decide) rfl ?_
        refine zn_goto (pc := 94) (tgt := 15) rfl rfl ?_
        simp only [mIns] at hn1
        rw [if_neg (by assumption)] at hn1
        exact zn_sub (L' := [some (.ref 50), some (.int (nI b)), some (.int (nI fr)), some (.int (nI d)), some (.int (nI m)), some (.int (nI (k + 1))), none]) ⟨rfl, rfl, rfl, rfl, rfl, rfl, trivial⟩ (zn_heq (mh_eq rfl rfl (by rw [bx_uu, va_upS])) hn1)
      · refine zn_aload_n (pc := 58) rfl rfl ?_
        refine zn_get (pc := 59) (v := .ref 64) rfl rfl rfl ?_
        refine zn_iload (pc := 62) rfl rfl ?_
        refine zn_aload_n (pc := 64) rfl rfl ?_
        refine zn_get (pc := 65) (v := .ref 64) rfl rfl rfl ?_
        refine zn_iload (pc := 68) rfl rfl ?_
        refine zn_iconstN (pc := 70) 1 rfl rfl ?_
        refine zn_isubN (pc := 71) (x := (n + 1)) (y := 1) rfl (by omega) ?_
        refine zn_top (v' := .int (nI n)) rfl ?_
        refine zm_ldA (pc := 72) (i := 13) (n := 24) (Z := o) (j := n) rfl (by decide) (by decide) rfl mln13 (va_upS _ _ _) (by omega) (Nat.le_of_ble_eq_true rfl) ?_
        refine zm_stA (pc := 73) (i := 13) (n := 24) (j := (n + 1)) (v := (o n)) rfl (by decide) (by decide) rfl mln13 (by omega) (Nat.le_of_ble_eq_true rfl) ?_
        refine zn_iinc (pc := 74) (L' := [some (.ref 50), some (.int (nI b)), some (.int (nI fr)), some (.int (nI d)), some (.int (nI m)), some (.int (nI k)), some (.int (nI (n + 1) - 1))]) (v := nI (n + 1) - 1) rfl rfl (dm_dec _) (by decide) rfl ?_
        refine zn_goto (pc := 77) (tgt := 26) rfl rfl ?_
        simp only [mIns] at hn1
        rw [if_pos (by assumption)] at hn1
        exact zn_sub (L' := [some (.ref 50), some (.int (nI b)), some (.int (nI fr)), some (.int (nI d)), some (.int (nI m)), some (.int (nI k)), some (.int (nI n))]) ⟨rfl, rfl, rfl, rfl, rfl, rfl, by rw [nI_pred], trivial⟩ (zn_heq (mh_eq rfl rfl (by rw [bx_uu, va_upS])) (ih _ ⟨by omega, fun i hi => by rw [va_upN (by omega)]; exact hn0.2 i (by omega)⟩ hn1))
theorem m_sortNow_o {b c d t fr m : Nat} {Q : zR → zH → Prop} (hb : b < 168) (h6 : A 6 b = c) (hd : d ≤ 1) (hc : c < 8) (ht : t < 24) (hm : fr + m = t + 1) (hln : ∀ l, fr ≤ l → l ≤ t → z (25 + 8 * l + c) ≤ 16) (hzb : ∀ j, z j < 1000) (K : Zn g zX10_sortNow 97 [some (.ref 50), some (.int (nI b)), some (.int (nI fr)), some (.int (nI d)), some (.int (nI m)), none, none] [] (mhp h F S z (va_up A 13 (mOrd (mBh z c d) fr (A 13) m)) X) 0 0 Q) : ∀ (n : Nat) (k : Nat), k + n = m → Zn g zX10_sortNow 15 [some (.ref 50), some (.int (nI b)), some (.int (nI fr)), some (.int (nI d)), some (.int (nI m)), some (.int (nI k)), none] [] (mhp h F S z (va_up A 13 (mOrd (mBh z c d) fr (A 13) k)) X) 0 0 Q := by
  intro n
  induction n with
  | zero =>
    intro k hn0
    refine zn_iload (pc := 15) rfl rfl ?_
    refine zn_iload (pc := 17) rfl rfl ?_
    refine zn_icmp_geN (pc := 19) (tgt := 97) (x := k) (y := m) rfl rfl (by omega) (by omega) (fun c1 => ?_) (fun c1 => ?_)
    · rw [show k = m by omega]
      exact zn_sub (L' := [some (.ref 50), some (.int (nI b)), some (.int (nI fr)), some (.int (nI d)), some (.int (nI m)), none, none]) ⟨rfl, rfl, rfl, rfl, rfl, trivial⟩ K
    · exfalso; omega
  | succ n ih =>
    intro k hn0
    refine zn_iload (pc := 15) rfl rfl ?_
    refine zn_iload (pc := 17) rfl rfl ?_
    refine zn_icmp_geN (pc := 19) (tgt := 97) (x := k) (y := m) rfl rfl (by omega) (by omega) (fun c1 => ?_) (fun c1 => ?_)
    · rw [show k = m by omega]
      exact zn_sub (L' := [some (.ref 50), some (.int (nI b)), some (.int (nI fr)), some (.int (nI d)), some (.int (nI m)), none, none]) ⟨rfl, rfl, rfl, rfl, rfl, trivial⟩ K
    · refine zn_iload (pc := 22) rfl rfl ?_
      refine zn_istore (pc := 24) (L' := [some (.ref 50), some (.int (nI b)), some (.int (nI fr)), some (.int (nI d)), some (.int (nI m)), some (.int (nI k)), some (.int (nI k))]) rfl (by decide) rfl ?_
      refine m_sortNow_i hb h6 hd hc ht hm hln hzb (by omega) k _ ⟨by omega, fun i hi => ?_⟩ (ih (k + 1) (by omega))
      have := mOrd_in (mBh z c d) fr (A 13) k i hi
      omega
theorem m_sortNow_t {b c d t fr m : Nat} {o u : Nat → Nat} (ht : t < 24) (hm : fr + m = t + 1) (ho : ∀ i, i < m → o i < 24) : ∀ (n : Nat) (k : Nat), k + n = m → Zn g zX10_sortNow 107 [some (.ref 50), some (.int (nI b)), some (.int (nI fr)), some (.int (nI d)), some (.int (nI m)), some (.int (nI (mMv o fr k))), some (.int (nI k))] [] (mhp h F S (mTk z u o fr k) (va_up (va_up A 13 o) 1 u) X) 0 0 (fun r' h' => r' = .inl (some (.int (nI (mMv o fr m)))) ∧ h' = (mhp h F S (mTk z u o fr m) (va_up (va_up A 13 o) 1 u) X)) := by
  intro n
  induction n with
  | zero =>
    intro k hn0
    refine zn_iload (pc := 107) rfl rfl ?_
    refine zn_iload (pc := 109) rfl rfl ?_
    refine zn_icmp_geN (pc := 111) (tgt := 159) (x := k) (y := m) rfl rfl (by omega) (by omega) (fun c1 => ?_) (fun c1 => ?_)
    · refine zn_iload (pc := 159) rfl rfl ?_
      obtain rfl : k = m := by omega
      exact zx_i (pc := 161) rfl rfl rfl rfl
    · exfalso; omega
  | succ n ih =>
    intro k hn0
    refine zn_iload (pc := 107) rfl rfl ?_
    refine zn_iload (pc := 109) rfl rfl ?_
    refine zn_icmp_geN (pc := 111) (tgt := 159) (x := k) (y := m) rfl rfl (by omega) (by omega) (fun c1 => ?_) (fun c1 => ?_)
    · refine zn_iload (pc := 159) rfl rfl ?_
      obtain rfl : k = m := by omega
      exact zx_i (pc := 161) rfl rfl rfl rfl
    · have q1 := ho k (by omega)
      refine zn_aload_n (pc := 114) rfl rfl ?_
      refine zn_iload_n (pc := 115) rfl rfl ?_
      refine zn_iload (pc := 116) rfl rfl ?_
      refine zn_iaddN (pc := 118) (x := fr) (y := k) rfl ?_
      refine zn_aload_n (pc := 119) rfl rfl ?_
      refine zn_get (pc := 120) (v := .ref 64) rfl rfl rfl ?_
      refine zn_iload (pc := 123) rfl rfl ?_
      refine zm_ldA (pc := 125) (i := 13) (n := 24) (Z := o) (j := k) rfl (by decide) (by decide) rfl mln13 ((va_upN (by decide)).trans (va_upS _ _ _)) (by omega) (Nat.le_of_ble_eq_true rfl) ?_
      refine zn_callVx (pc := 126) (J := zX10_takeAside) (o := 50) (as := [.int (nI (fr + k)), .int (nI (o k))]) (rest := []) rfl rfl rfl rfl rfl rfl rfl rfl (Nat.le_of_ble_eq_true rfl) (Nat.le_of_ble_eq_true rfl) (Nat.le_of_ble_eq_true rfl) (Nat.le_of_ble_eq_true rfl) (m_takeAside (t := (fr + k)) (l := (o k)) (u := u) (by omega) (by omega) (va_upS _ _ _)) ?_
      refine zn_iload (pc := 129) rfl rfl ?_
      refine zn_joinV (v := .int (nI (if o k = fr + k then 0 else 1))) (pj := 150) ?_ (fun K2 => ?_)
      · refine zn_iaddN (pc := 150) (x := (mMv o fr k)) (y := (if o k = fr + k then 0 else 1)) rfl ?_
        refine zn_istore (pc := 151) (L' := [some (.ref 50), some (.int (nI b)), some (.int (nI fr)), some (.int (nI d)), some (.int (nI m)), some (.int (nI (mMv o fr k + (if o k = fr + k then 0 else 1)))), some (.int (nI k))]) rfl (by decide) rfl ?_
        refine zn_iincN (pc := 153) (L' := [some (.ref 50), some (.int (nI b)), some (.int (nI fr)), some (.int (nI d)), some (.int (nI m)), some (.int (nI (mMv o fr k + (if o k = fr + k then 0 else 1)))), some (.int (nI (k + 1)))]) 1 rfl rfl rfl (by decide) rfl ?_
        refine zn_goto (pc := 156) (tgt := 107) rfl rfl ?_
        exact ih (k + 1) (by omega)
      · refine zn_aload_n (pc := 131) rfl rfl ?_
        refine zn_get (pc := 132) (v := .ref 64) rfl rfl rfl ?_
        refine zn_iload (pc := 135) rfl rfl ?_
        refine zm_ldA (pc := 137) (i := 13) (n := 24) (Z := o) (j := k) rfl (by decide) (by decide) rfl mln13 ((va_upN (by decide)).trans (va_upS _ _ _)) (by omega) (Nat.le_of_ble_eq_true rfl) ?_
        refine zn_iload_n (pc := 138) rfl rfl ?_
        refine zn_iload (pc := 139) rfl rfl ?_
        refine zn_iaddN (pc := 141) (x := fr) (y := k) rfl ?_
        refine zn_icmp_neN (pc := 142) (tgt := 149) (x := (o k)) (y := (fr + k)) rfl rfl (by omega) (by omega) (fun c3 => ?_) (fun c3 => ?_)
        · refine zn_iconstN (pc := 149) 1 rfl rfl ?_
          exact zn_top (v' := .int (nI (if o k = fr + k then 0 else 1))) (by rw [if_neg (by omega)]) K2
        · refine zn_iconstN (pc := 145) 0 rfl rfl ?_
          refine zn_goto (pc := 146) (tgt := 150) rfl rfl ?_
          exact zn_top (v' := .int (nI (if o k = fr + k then 0 else 1))) (by rw [if_pos (by omega)]) K2
theorem m_sortNow  {b c d t fr m : Nat} (hb : b < 168) (h6 : A 6 b = c) (hd : d ≤ 1) (hc : c < 8) (ht : t < 24) (h8 : A 8 b = t) (hm : fr + m = t + 1) (hln : ∀ l, fr ≤ l → l ≤ t → z (25 + 8 * l + c) ≤ 16) (hzb : ∀ j, z j < 1000) : Zx g zX10_sortNow [.ref 50, .int (nI b), .int (nI fr), .int (nI d)] (mhp h F S z A X) (some (.int (nI (mMv (mOrd (mBh z c d) fr (A 13) m) fr m)))) (mhp h F S (mTk z (msd (A 1) z 3289) (mOrd (mBh z c d) fr (A 13) m) fr m) (va_up (va_up A 13 (mOrd (mBh z c d) fr (A 13) m)) 1 (msd (A 1) z 3289)) X) := by
  show Zn g zX10_sortNow 0 [some (.ref 50), some (.int (nI b)), some (.int (nI fr)), some (.int (nI d)), none, none, none] [] (mhp h F S z A X) 0 0 _
  refine zn_aload_n (pc := 0) rfl rfl ?_
  refine zn_get (pc := 1) (v := .ref 59) rfl rfl rfl ?_
  refine zn_iload_n (pc := 4) rfl rfl ?_
  refine zm_ldA (pc := 5) (i := 8) (n := 168) (Z := (A 8)) (j := b) rfl (by decide) (by decide) rfl mln8 rfl (by omega) (Nat.le_of_ble_eq_true rfl) ?_
  refine zn_top (v' := .int (nI t)) (by rw [h8]) ?_
  refine zn_iconstN (pc := 6) 1 rfl rfl ?_
  refine zn_iaddN (pc := 7) (x := t) (y := 1) rfl ?_
  refine zn_iload_n (pc := 8) rfl rfl ?_
  refine zn_isubN (pc := 9) (x := (t + 1)) (y := fr) rfl (by omega) ?_
  refine zn_top (v' := .int (nI m)) (by congr 2; omega) ?_
  refine zn_istore (pc := 10) (L' := [some (.ref 50), some (.int (nI b)), some (.int (nI fr)), some (.int (nI d)), some (.int (nI m)), none, none]) rfl (by decide) rfl ?_
  refine zn_iconstN (pc := 12) 0 rfl rfl ?_
  refine zn_istore (pc := 13) (L' := [some (.ref 50), some (.int (nI b)), some (.int (nI fr)), some (.int (nI d)), some (.int (nI m)), some (.int (nI 0)), none]) rfl (by decide) rfl ?_
  refine zn_heq (h' := mhp h F S z (va_up A 13 (mOrd (mBh z c d) fr (A 13) 0)) X) (mh_eq rfl rfl (va_self A 13).symm) (m_sortNow_o hb h6 hd hc ht hm hln hzb ?_ m 0 (by omega))
  refine zn_aload_n (pc := 97) rfl rfl ?_
  refine zn_callVx (pc := 98) (J := zX10_setAside) (o := 50) (as := []) (rest := []) rfl rfl rfl rfl rfl rfl rfl rfl (Nat.le_of_ble_eq_true rfl) (Nat.le_of_ble_eq_true rfl) (Nat.le_of_ble_eq_true rfl) (Nat.le_of_ble_eq_true rfl) m_setAside ?_
  refine zn_iconstN (pc := 101) 0 rfl rfl ?_
  refine zn_istore (pc := 102) (L' := [some (.ref 50), some (.int (nI b)), some (.int (nI fr)), some (.int (nI d)), some (.int (nI m)), some (.int (nI 0)), none]) rfl (by decide) rfl ?_
  refine zn_iconstN (pc := 104) 0 rfl rfl ?_
  refine zn_istore (pc := 105) (L' := [some (.ref 50), some (.int (nI b)), some (.int (nI fr)), some (.int (nI d)), some (.int (nI m)), some (.int (nI 0)), some (.int (nI 0))]) rfl (by decide) rfl ?_
  exact zn_sub (L' := [some (.ref 50), some (.int (nI b)), some (.int (nI fr)), some (.int (nI d)), some (.int (nI m)), some (.int (nI 0)), some (.int (nI 0))]) ⟨rfl, rfl, rfl, rfl, rfl, rfl, rfl, trivial⟩ (m_sortNow_t (c := c) ht hm (fun i hi => by have := mOrd_in (mBh z c d) fr (A 13) m i hi; omega) m 0 (by omega))
end m1
