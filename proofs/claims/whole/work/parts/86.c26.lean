section m1
variable {g : zG} {h hh : zH} {F : Nat → Nat} {S : Int64} {z : Nat → Nat} {A : Nat → Nat → Nat} {X : Nat → Int32}
/-! orders of lines -/
def oid (n : Nat) : Nat → Nat := fun i => if i < n then i else 0
def omv (O : Nat → Nat) (a b : Nat) : Nat → Nat := fun i => if i = b then O a else if a ≤ i ∧ i < b then O (i + 1) else if b < i ∧ i ≤ a then O (i - 1) else O i
def mv1 (O : Nat → Nat) (a k : Nat) : Nat → Nat := fun i => if a ≤ i ∧ i < k then O (i + 1) else O i
def mv2 (O : Nat → Nat) (a k : Nat) : Nat → Nat := fun i => if k < i ∧ i ≤ a then O (i - 1) else O i
theorem oid_s {k : Nat} : va_up (oid k) k k = oid (k + 1) := by
  funext i
  simp only [va_up, oid]
  (repeat' split) <;> omega
theorem oid_0 : oid 0 = fun _ => 0 := by
  funext i
  simp only [oid]
  rw [if_neg (by omega)]
theorem mv1_s {O : Nat → Nat} {a k : Nat} (hk : a ≤ k) : va_up (mv1 O a k) k (mv1 O a k (k + 1)) = mv1 O a (k + 1) := by
  funext i
  simp only [va_up, mv1]
  (repeat' split) <;> first | omega | exact congrArg O (by omega)
theorem mv2_s {O : Nat → Nat} {a k : Nat} (hk : k ≤ a) (h1 : 1 ≤ k) : va_up (mv2 O a k) k (mv2 O a k (k - 1)) = mv2 O a (k - 1) := by
  funext i
  simp only [va_up, mv2]
  (repeat' split) <;> first | omega | exact congrArg O (by omega)
theorem mv1_e {O : Nat → Nat} {a b : Nat} (h : a ≤ b) : va_up (mv1 O a b) b (O a) = omv O a b := by
  funext i
  simp only [va_up, mv1, omv]
  (repeat' split) <;> first | omega | exact congrArg O (by omega)
theorem mv2_e {O : Nat → Nat} {a b : Nat} (h : b ≤ a) : va_up (mv2 O a b) b (O a) = omv O a b := by
  funext i
  simp only [va_up, mv2, omv]
  (repeat' split) <;> first | omega | exact congrArg O (by omega)
theorem mv1_0 {O : Nat → Nat} {a : Nat} : mv1 O a a = O := by
  funext i
  simp only [mv1]
  rw [if_neg (by omega)]
theorem mv2_0 {O : Nat → Nat} {a : Nat} : mv2 O a a = O := by
  funext i
  simp only [mv2]
  rw [if_neg (by omega)]
theorem new_or {n : Nat} : zup (zup (znew (znew h (.inr (6, [.null, .int 0]))) (mNA 24 (fun _ => 0))) h.2 (.inr (6, [.ref (h.2 + 1), .int 0]))) h.2 (.inr (6, [.ref (h.2 + 1), .int (nI n)])) = pgs (hgr h 2) 6 24 h.2 (h.2 + 1) (oid 0) n := by
  rw [oid_0]
  refine Prod.ext (funext fun i => ?_) rfl
  unfold pgs zup znew hgr
  simp only
  by_cases e : i = h.2
  · simp [e]
  · by_cases e2 : i = h.2 + 1
    · simp [e2]
    · simp [e, e2]
theorem c_oi_l {n : Nat} (hn : n ≤ 24) : ∀ (n9 : Nat) (k : Nat), k + n9 = n → Zn g zX6_init 24 [some (.ref h.2), some (.int (nI n)), some (.int (nI k))] [] (pgs (hgr h 2) 6 24 h.2 (h.2 + 1) (oid k) n) 0 0 (fun r' h' => r' = .inl none ∧ h' = (pgs (hgr h 2) 6 24 h.2 (h.2 + 1) (oid n) n)) := by
  intro n9
  induction n9 with
  | zero =>
    intro k hn0
    have hpq : h.2 ≠ h.2 + 1 := by omega
    have hq0 : 0 < h.2 + 1 := by omega
    refine zn_iload_n (pc := 24) rfl rfl ?_
    refine zn_aload_n (pc := 25) rfl rfl ?_
    refine zn_get (pc := 26) (v := .int (nI n)) rfl pg_o rfl ?_
    refine zn_icmp_geN (pc := 29) (tgt := 45) (x := k) (y := n) rfl rfl (by omega) (by omega) (fun c1 => ?_) (fun c1 => ?_)
    · have e8 : k = n := by omega
      exact zx_v (pc := 45) rfl rfl rfl (by rw [e8])
    · exfalso; omega
  | succ n9 ih =>
    intro k hn0
    have hpq : h.2 ≠ h.2 + 1 := by omega
    have hq0 : 0 < h.2 + 1 := by omega
    refine zn_iload_n (pc := 24) rfl rfl ?_
    refine zn_aload_n (pc := 25) rfl rfl ?_
    refine zn_get (pc := 26) (v := .int (nI n)) rfl pg_o rfl ?_
    refine zn_icmp_geN (pc := 29) (tgt := 45) (x := k) (y := n) rfl rfl (by omega) (by omega) (fun c1 => ?_) (fun c1 => ?_)
    · have e8 : k = n := by omega
      exact zx_v (pc := 45) rfl rfl rfl (by rw [e8])
    · refine zn_aload_n (pc := 32) rfl rfl ?_
      refine zn_get (pc := 33) (v := .ref (h.2 + 1)) rfl pg_o rfl ?_
      refine zn_iload_n (pc := 36) rfl rfl ?_
      refine zn_iload_n (pc := 37) rfl rfl ?_
      refine zp_st (pc := 38) (j := k) (x := k) rfl hq0 hpq (by omega) (Nat.le_of_ble_eq_true rfl) ?_
      refine zn_iincN (pc := 39) (L' := [some (.ref h.2), some (.int (nI n)), some (.int (nI (k + 1)))]) 1 rfl rfl rfl (by decide) rfl ?_
      refine zn_goto (pc := 42) (tgt := 24) rfl rfl ?_
      rw [oid_s]
      exact ih (k + 1) (by omega)
theorem c_oinit {n : Nat} (hn : n ≤ 24) : Zm g zX6_init [.ref h.2, .int (nI n)] (znew h (.inr (6, [.null, .int 0]))) 1 24 (fun r' h' => r' = .inl none ∧ h' = pgs (hgr h 2) 6 24 h.2 (h.2 + 1) (oid n) n) := by
  show Zn g zX6_init 0 [some (.ref h.2), some (.int (nI n)), none] [] (znew h (.inr (6, [.null, .int 0]))) 1 24 _
  refine zn_aload_n (pc := 0) rfl rfl ?_
  refine zn_obj (pc := 1) rfl (Nat.le_of_ble_eq_true rfl) (Nat.le_of_ble_eq_true rfl) ?_
  refine zn_aload_n (pc := 4) rfl rfl ?_
  refine zn_bipushN (pc := 5) 24 rfl rfl ?_
  refine zn_newI (pc := 7) rfl (by omega) ?_
  refine zf_putA (pc := 9) (fs' := [.ref (h.2 + 1), .int 0]) rfl ((znew_n (by show h.2 ≠ h.2 + 1; omega)).trans znew_s) (Nat.le_of_ble_eq_true rfl) rfl rfl ?_
  refine zn_aload_n (pc := 12) rfl rfl ?_
  refine zn_iload_n (pc := 13) rfl rfl ?_
  refine zn_bipushN (pc := 14) 24 rfl rfl ?_
  refine zn_minN (pc := 16) (x := n) (y := 24) rfl (Nat.le_of_ble_eq_true rfl) (Nat.le_of_ble_eq_true rfl) (by omega) (by omega) ?_
  rw [show min n 24 = n by omega]
  refine zf_put (pc := 19) (fs' := [.ref (h.2 + 1), .int (nI n)]) rfl (zup_s _ _ _) (Nat.le_of_ble_eq_true rfl) rfl rfl ?_
  refine zn_heq new_or ?_
  refine zn_iconstN (pc := 22) 0 rfl rfl ?_
  refine zn_istore_n (pc := 23) (L' := [some (.ref h.2), some (.int (nI n)), some (.int (nI 0))]) rfl (by decide) rfl ?_
  exact c_oi_l hn n 0 (by omega)
theorem c_lineAt  {o n : Nat} {O : Nat → Nat} (ho1 : hh.1 o = some (.inr (6, [.ref (o + 1), .int (nI n)]))) (ho2 : hh.1 (o + 1) = some (mNA 24 O)) (hn : n ≤ 24) {i : Nat} (hi : i < n) : Zx g zX6_lineAt [.ref o, .int (nI i)] (hh) (some (.int (nI (O i)))) (hh) := by
  show Zn g zX6_lineAt 0 [some (.ref o), some (.int (nI i))] [] (hh) 0 0 _
  refine zn_iload_n (pc := 0) rfl rfl ?_
  refine zn_if_ltN (pc := 1) (tgt := 21) (x := i) rfl rfl (by omega) ?_
  refine zn_iload_n (pc := 4) rfl rfl ?_
  refine zn_aload_n (pc := 5) rfl rfl ?_
  refine zn_get (pc := 6) (v := .int (nI n)) rfl ho1 rfl ?_
  refine zn_icmp_geN (pc := 9) (tgt := 21) (x := i) (y := n) rfl rfl (by omega) (by omega) (fun c2 => ?_) (fun c2 => ?_)
  · exfalso; omega
  · refine zn_aload_n (pc := 12) rfl rfl ?_
    refine zn_get (pc := 13) (v := .ref (o + 1)) rfl ho1 rfl ?_
    refine zn_iload_n (pc := 16) rfl rfl ?_
    refine zn_naLd (pc := 17) (o := (o + 1)) (n := 24) (Z := O) (j := i) rfl ho2 (by omega) (Nat.le_of_ble_eq_true rfl) ?_
    refine zn_goto (pc := 18) (tgt := 22) rfl rfl ?_
    exact zx_i (pc := 22) rfl rfl rfl rfl
theorem c_mv_u {o n : Nat} {O : Nat → Nat} (hpq : o ≠ o + 1) (hq0 : 0 < o + 1) (hn : n ≤ 24) {a b : Nat} (ha : a < n) (hb : b < n) : ∀ (m : Nat) (k : Nat), k + m = b → a ≤ k → Zn g zX6_move 35 [some (.ref o), some (.int (nI a)), some (.int (nI b)), some (.int (nI (O a))), some (.int (nI k))] [] (pgs h 6 24 o (o + 1) (mv1 O a k) n) 0 0 (fun r' h' => r' = .inl none ∧ h' = (pgs h 6 24 o (o + 1) (omv O a b) n)) := by
  intro m
  induction m with
  | zero =>
    intro k hn0 hn1
    refine zn_iload (pc := 35) rfl rfl ?_
    refine zn_iload_n (pc := 37) rfl rfl ?_
    refine zn_icmp_geN (pc := 38) (tgt := 63) (x := k) (y := b) rfl rfl (by omega) (by omega) (fun c1 => ?_) (fun c1 => ?_)
    · refine zn_iload_n (pc := 63) rfl rfl ?_
      refine zn_istore (pc := 64) (L' := [some (.ref o), some (.int (nI a)), some (.int (nI b)), some (.int (nI (O a))), some (.int (nI a))]) rfl (by decide) rfl ?_
      refine zn_iload (pc := 66) rfl rfl ?_
      refine zn_iload_n (pc := 68) rfl rfl ?_
      refine zn_icmp_leN (pc := 69) (tgt := 94) (x := a) (y := b) rfl rfl (by omega) (by omega) (fun c2 => ?_) (fun c2 => ?_)
      · refine zn_aload_n (pc := 94) rfl rfl ?_
        refine zn_get (pc := 95) (v := .ref (o + 1)) rfl pg_o rfl ?_
        refine zn_iload_n (pc := 98) rfl rfl ?_
        refine zn_iload_n (pc := 99) rfl rfl ?_
        refine zp_st (pc := 100) (j := b) (x := (O a)) rfl hq0 hpq (by omega) (Nat.le_of_ble_eq_true rfl) ?_
        have e8 : k = b := by omega
        exact zx_v (pc := 101) rfl rfl rfl (by rw [e8, mv1_e (by omega)])
      · exfalso; omega
    · exfalso; omega
  | succ m ih =>
    intro k hn0 hn1
    refine zn_iload (pc := 35) rfl rfl ?_
    refine zn_iload_n (pc := 37) rfl rfl ?_
    refine zn_icmp_geN (pc := 38) (tgt := 63) (x := k) (y := b) rfl rfl (by omega) (by omega) (fun c1 => ?_) (fun c1 => ?_)
    · refine zn_iload_n (pc := 63) rfl rfl ?_
      refine zn_istore (pc := 64) (L' := [some (.ref o), some (.int (nI a)), some (.int (nI b)), some (.int (nI (O a))), some (.int (nI a))]) rfl (by decide) rfl ?_
      refine zn_iload (pc := 66) rfl rfl ?_
      refine zn_iload_n (pc := 68) rfl rfl ?_
      refine zn_icmp_leN (pc := 69) (tgt := 94) (x := a) (y := b) rfl rfl (by omega) (by omega) (fun c2 => ?_) (fun c2 => ?_)
      · refine zn_aload_n (pc := 94) rfl rfl ?_
        refine zn_get (pc := 95) (v := .ref (o + 1)) rfl pg_o rfl ?_
        refine zn_iload_n (pc := 98) rfl rfl ?_
        refine zn_iload_n (pc := 99) rfl rfl ?_
        refine zp_st (pc := 100) (j := b) (x := (O a)) rfl hq0 hpq (by omega) (Nat.le_of_ble_eq_true rfl) ?_
        have e8 : k = b := by omega
        exact zx_v (pc := 101) rfl rfl rfl (by rw [e8, mv1_e (by omega)])
      · exfalso; omega
    · refine zn_aload_n (pc := 41) rfl rfl ?_
      refine zn_get (pc := 42) (v := .ref (o + 1)) rfl pg_o rfl ?_
      refine zn_iload (pc := 45) rfl rfl ?_
      refine zn_aload_n (pc := 47) rfl rfl ?_
      refine zn_get (pc := 48) (v := .ref (o + 1)) rfl pg_o rfl ?_
      refine zn_iload (pc := 51) rfl rfl ?_
      refine zn_iconstN (pc := 53) 1 rfl rfl ?_
      refine zn_iaddN (pc := 54) (x := k) (y := 1) rfl ?_
      refine zn_naLd (pc := 55) (o := (o + 1)) (n := 24) (Z := (mv1 O a k)) (j := (k + 1)) rfl (pg_a hpq) (by omega) (Nat.le_of_ble_eq_true rfl) ?_
      refine zp_st (pc := 56) (j := k) (x := ((mv1 O a k) (k + 1))) rfl hq0 hpq (by omega) (Nat.le_of_ble_eq_true rfl) ?_
      refine zn_iincN (pc := 57) (L' := [some (.ref o), some (.int (nI a)), some (.int (nI b)), some (.int (nI (O a))), some (.int (nI (k + 1)))]) 1 rfl rfl rfl (by decide) rfl ?_
      refine zn_goto (pc := 60) (tgt := 35) rfl rfl ?_
      rw [mv1_s hn1]
      exact ih (k + 1) (by omega) (by omega)
theorem c_mv_d {o n : Nat} {O : Nat → Nat} (hpq : o ≠ o + 1) (hq0 : 0 < o + 1) (hn : n ≤ 24) {a b : Nat} (ha : a < n) (hb : b < n) : ∀ (m : Nat) (k : Nat), k = b + m → k ≤ a → Zn g zX6_move 66 [some (.ref o), some (.int (nI a)), some (.int (nI b)), some (.int (nI (O a))), some (.int (nI k))] [] (pgs h 6 24 o (o + 1) (mv2 O a k) n) 0 0 (fun r' h' => r' = .inl none ∧ h' = (pgs h 6 24 o (o + 1) (omv O a b) n)) := by
  intro m
  induction m with
  | zero =>
    intro k hn0 hn1
    refine zn_iload (pc := 66) rfl rfl ?_
    refine zn_iload_n (pc := 68) rfl rfl ?_
    refine zn_icmp_leN (pc := 69) (tgt := 94) (x := k) (y := b) rfl rfl (by omega) (by omega) (fun c1 => ?_) (fun c1 => ?_)
    · refine zn_aload_n (pc := 94) rfl rfl ?_
      refine zn_get (pc := 95) (v := .ref (o + 1)) rfl pg_o rfl ?_
      refine zn_iload_n (pc := 98) rfl rfl ?_
      refine zn_iload_n (pc := 99) rfl rfl ?_
      refine zp_st (pc := 100) (j := b) (x := (O a)) rfl hq0 hpq (by omega) (Nat.le_of_ble_eq_true rfl) ?_
      have e8 : k = b := by omega
      exact zx_v (pc := 101) rfl rfl rfl (by rw [e8, mv2_e (by omega)])
    · exfalso; omega
  | succ m ih =>
    intro k hn0 hn1
    refine zn_iload (pc := 66) rfl rfl ?_
    refine zn_iload_n (pc := 68) rfl rfl ?_
    refine zn_icmp_leN (pc := 69) (tgt := 94) (x := k) (y := b) rfl rfl (by omega) (by omega) (fun c1 => ?_) (fun c1 => ?_)
    · refine zn_aload_n (pc := 94) rfl rfl ?_
      refine zn_get (pc := 95) (v := .ref (o + 1)) rfl pg_o rfl ?_
      refine zn_iload_n (pc := 98) rfl rfl ?_
      refine zn_iload_n (pc := 99) rfl rfl ?_
      refine zp_st (pc := 100) (j := b) (x := (O a)) rfl hq0 hpq (by omega) (Nat.le_of_ble_eq_true rfl) ?_
      have e8 : k = b := by omega
      exact zx_v (pc := 101) rfl rfl rfl (by rw [e8, mv2_e (by omega)])
    · refine zn_aload_n (pc := 72) rfl rfl ?_
      refine zn_get (pc := 73) (v := .ref (o + 1)) rfl pg_o rfl ?_
      refine zn_iload (pc := 76) rfl rfl ?_
      refine zn_aload_n (pc := 78) rfl rfl ?_
      refine zn_get (pc := 79) (v := .ref (o + 1)) rfl pg_o rfl ?_
      refine zn_iload (pc := 82) rfl rfl ?_
      refine zn_iconstN (pc := 84) 1 rfl rfl ?_
      refine zn_isubN (pc := 85) (x := k) (y := 1) rfl (by omega) ?_
      refine zn_naLd (pc := 86) (o := (o + 1)) (n := 24) (Z := (mv2 O a k)) (j := (k - 1)) rfl (pg_a hpq) (by omega) (Nat.le_of_ble_eq_true rfl) ?_
      refine zp_st (pc := 87) (j := k) (x := ((mv2 O a k) (k - 1))) rfl hq0 hpq (by omega) (Nat.le_of_ble_eq_true rfl) ?_
      refine zn_iinc (pc := 88) (L' := [some (.ref o), some (.int (nI a)), some (.int (nI b)), some (.int (nI (O a))), some (.int (nI k - 1))]) (v := nI k - 1) rfl rfl (dm_dec _) (by decide) rfl ?_
      refine zn_goto (pc := 91) (tgt := 66) rfl rfl ?_
      rw [mv2_s hn1 (by omega)]
      refine zn_sub (L' := [some (.ref o), some (.int (nI a)), some (.int (nI b)), some (.int (nI (O a))), some (.int (nI (k - 1)))]) ⟨rfl, rfl, rfl, rfl, by rw [nI_mm1 (by omega)], trivial⟩ ?_
      exact ih (k - 1) (by omega) (by omega)
theorem c_move_u  {o n : Nat} {O : Nat → Nat} (hpq : o ≠ o + 1) (hq0 : 0 < o + 1) (hn : n ≤ 24) {a b : Nat} (ha : a < n) (hb : b < n) (hab : a ≤ b) : Zx g zX6_move [.ref o, .int (nI a), .int (nI b)] (pgs h 6 24 o (o + 1) O n) none (pgs h 6 24 o (o + 1) (omv O a b) n) := by
  show Zn g zX6_move 0 [some (.ref o), some (.int (nI a)), some (.int (nI b)), none, none] [] (pgs h 6 24 o (o + 1) O n) 0 0 _
  refine zn_iload_n (pc := 0) rfl rfl ?_
  refine zn_if_ltN (pc := 1) (tgt := 24) (x := a) rfl rfl (by omega) ?_
  refine zn_iload_n (pc := 4) rfl rfl ?_
  refine zn_aload_n (pc := 5) rfl rfl ?_
  refine zn_get (pc := 6) (v := .int (nI n)) rfl pg_o rfl ?_
  refine zn_icmp_geN (pc := 9) (tgt := 24) (x := a) (y := n) rfl rfl (by omega) (by omega) (fun c2 => ?_) (fun c2 => ?_)
  · exfalso; omega
  · refine zn_iload_n (pc := 12) rfl rfl ?_
    refine zn_if_ltN (pc := 13) (tgt := 24) (x := b) rfl rfl (by omega) ?_
    refine zn_iload_n (pc := 16) rfl rfl ?_
    refine zn_aload_n (pc := 17) rfl rfl ?_
    refine zn_get (pc := 18) (v := .int (nI n)) rfl pg_o rfl ?_
    refine zn_icmp_ltN (pc := 21) (tgt := 25) (x := b) (y := n) rfl rfl (by omega) (by omega) (fun c4 => ?_) (fun c4 => ?_)
    · refine zn_aload_n (pc := 25) rfl rfl ?_
      refine zn_get (pc := 26) (v := .ref (o + 1)) rfl pg_o rfl ?_
      refine zn_iload_n (pc := 29) rfl rfl ?_
      refine zn_naLd (pc := 30) (o := (o + 1)) (n := 24) (Z := O) (j := a) rfl (pg_a hpq) (by omega) (Nat.le_of_ble_eq_true rfl) ?_
      refine zn_istore_n (pc := 31) (L' := [some (.ref o), some (.int (nI a)), some (.int (nI b)), some (.int (nI (O a))), none]) rfl (by decide) rfl ?_
      refine zn_iload_n (pc := 32) rfl rfl ?_
      refine zn_istore (pc := 33) (L' := [some (.ref o), some (.int (nI a)), some (.int (nI b)), some (.int (nI (O a))), some (.int (nI a))]) rfl (by decide) rfl ?_
      refine zn_heq (h' := pgs h 6 24 o (o + 1) (mv1 O a a) n) (by rw [mv1_0]) ?_
      exact c_mv_u hpq hq0 hn ha hb (b - a) a (by omega) (by omega)
    · exfalso; omega
theorem c_move_d  {o n : Nat} {O : Nat → Nat} (hpq : o ≠ o + 1) (hq0 : 0 < o + 1) (hn : n ≤ 24) {a b : Nat} (ha : a < n) (hb : b < n) (hab : b ≤ a) : Zx g zX6_move [.ref o, .int (nI a), .int (nI b)] (pgs h 6 24 o (o + 1) O n) none (pgs h 6 24 o (o + 1) (omv O a b) n) := by
  show Zn g zX6_move 0 [some (.ref o), some (.int (nI a)), some (.int (nI b)), none, none] [] (pgs h 6 24 o (o + 1) O n) 0 0 _
  refine zn_iload_n (pc := 0) rfl rfl ?_
  refine zn_if_ltN (pc := 1) (tgt := 24) (x := a) rfl rfl (by omega) ?_
  refine zn_iload_n (pc := 4) rfl rfl ?_
  refine zn_aload_n (pc := 5) rfl rfl ?_
  refine zn_get (pc := 6) (v := .int (nI n)) rfl pg_o rfl ?_
  refine zn_icmp_geN (pc := 9) (tgt := 24) (x := a) (y := n) rfl rfl (by omega) (by omega) (fun c2 => ?_) (fun c2 => ?_)
  · exfalso; omega
  · refine zn_iload_n (pc := 12) rfl rfl ?_
    refine zn_if_ltN (pc := 13) (tgt := 24) (x := b) rfl rfl (by omega) ?_
    refine zn_iload_n (pc := 16) rfl rfl ?_
    refine zn_aload_n (pc := 17) rfl rfl ?_
    refine zn_get (pc := 18) (v := .int (nI n)) rfl pg_o rfl ?_
    refine zn_icmp_ltN (pc := 21) (tgt := 25) (x := b) (y := n) rfl rfl (by omega) (by omega) (fun c4 => ?_) (fun c4 => ?_)
    · refine zn_aload_n (pc := 25) rfl rfl ?_
      refine zn_get (pc := 26) (v := .ref (o + 1)) rfl pg_o rfl ?_
      refine zn_iload_n (pc := 29) rfl rfl ?_
      refine zn_naLd (pc := 30) (o := (o + 1)) (n := 24) (Z := O) (j := a) rfl (pg_a hpq) (by omega) (Nat.le_of_ble_eq_true rfl) ?_
      refine zn_istore_n (pc := 31) (L' := [some (.ref o), some (.int (nI a)), some (.int (nI b)), some (.int (nI (O a))), none]) rfl (by decide) rfl ?_
      refine zn_iload_n (pc := 32) rfl rfl ?_
      refine zn_istore (pc := 33) (L' := [some (.ref o), some (.int (nI a)), some (.int (nI b)), some (.int (nI (O a))), some (.int (nI a))]) rfl (by decide) rfl ?_
      refine zn_iload (pc := 35) rfl rfl ?_
      refine zn_iload_n (pc := 37) rfl rfl ?_
      refine zn_icmp_geN (pc := 38) (tgt := 63) (x := a) (y := b) rfl rfl (by omega) (by omega) (fun c5 => ?_) (fun c5 => ?_)
      · refine zn_iload_n (pc := 63) rfl rfl ?_
        refine zn_istore (pc := 64) (L' := [some (.ref o), some (.int (nI a)), some (.int (nI b)), some (.int (nI (O a))), some (.int (nI a))]) rfl (by decide) rfl ?_
        refine zn_heq (h' := pgs h 6 24 o (o + 1) (mv2 O a a) n) (by rw [mv2_0]) ?_
        exact c_mv_d hpq hq0 hn ha hb (a - b) a (by omega) (by omega)
      · exfalso; omega
    · exfalso; omega
theorem c_move {o n : Nat} {O : Nat → Nat} (hn : n ≤ 24) {a b : Nat} (ha : a < n) (hb : b < n) : Zx g zX6_move [.ref o, .int (nI a), .int (nI b)] (pgs h 6 24 o (o + 1) O n) none (pgs h 6 24 o (o + 1) (omv O a b) n) := by
  rcases Nat.le_total a b with r | r
  · exact c_move_u (by omega) (by omega) hn ha hb r
  · exact c_move_d (by omega) (by omega) hn ha hb r
def oMd (O : Nat → Nat) (i : Nat) : Nat := if O i = i then 0 else 1
theorem oMd_le (O : Nat → Nat) (i : Nat) : oMd O i ≤ 1 := by unfold oMd; split <;> omega
theorem c_md_l {o n : Nat} {O : Nat → Nat} (ho1 : hh.1 o = some (.inr (6, [.ref (o + 1), .int (nI n)]))) (ho2 : hh.1 (o + 1) = some (mNA 24 O)) (hn : n ≤ 24) (hO : ∀ i, i < n → O i < 24) : ∀ (m : Nat) (k : Nat), k + m = n → Zn g zX6_moved 4 [some (.ref o), some (.int (nI (vS (oMd O) k))), some (.int (nI k))] [] (hh) 0 0 (fun r' h' => r' = .inl (some (.int (nI (vS (oMd O) n)))) ∧ h' = (hh)) := by
  intro m
  induction m with
  | zero =>
    intro k hn0
    refine zn_iload_n (pc := 4) rfl rfl ?_
    refine zn_aload_n (pc := 5) rfl rfl ?_
    refine zn_get (pc := 6) (v := .int (nI n)) rfl ho1 rfl ?_
    refine zn_icmp_geN (pc := 9) (tgt := 36) (x := k) (y := n) rfl rfl (by omega) (by omega) (fun c1 => ?_) (fun c1 => ?_)
    · refine zn_iload_n (pc := 36) rfl rfl ?_
      have e8 : k = n := by omega
      exact zx_i (pc := 37) rfl rfl (by rw [e8]) rfl
    · exfalso; omega
  | succ m ih =>
    intro k hn0
    refine zn_iload_n (pc := 4) rfl rfl ?_
    refine zn_aload_n (pc := 5) rfl rfl ?_
    refine zn_get (pc := 6) (v := .int (nI n)) rfl ho1 rfl ?_
    refine zn_icmp_geN (pc := 9) (tgt := 36) (x := k) (y := n) rfl rfl (by omega) (by omega) (fun c1 => ?_) (fun c1 => ?_)
    · refine zn_iload_n (pc := 36) rfl rfl ?_
      have e8 : k = n := by omega
      exact zx_i (pc := 37) rfl rfl (by rw [e8]) rfl
    · refine zn_iload_n (pc := 12) rfl rfl ?_
      refine zn_joinV (v := .int (nI (oMd O k))) (pj := 28) ?_ (fun K2 => ?_)
      · refine zn_iaddN (pc := 28) (x := (vS (oMd O) k)) (y := (oMd O k)) rfl ?_
        refine zn_istore_n (pc := 29) (L' := [some (.ref o), some (.int (nI ((vS (oMd O) k) + (oMd O k)))), some (.int (nI k))]) rfl (by decide) rfl ?_
        refine zn_iincN (pc := 30) (L' := [some (.ref o), some (.int (nI ((vS (oMd O) k) + (oMd O k)))), some (.int (nI (k + 1)))]) 1 rfl rfl rfl (by decide) rfl ?_
        refine zn_goto (pc := 33) (tgt := 4) rfl rfl ?_
        exact ih (k + 1) (by omega)
      · refine zn_aload_n (pc := 13) rfl rfl ?_
        refine zn_get (pc := 14) (v := .ref (o + 1)) rfl ho1 rfl ?_
        refine zn_iload_n (pc := 17) rfl rfl ?_
        refine zn_naLd (pc := 18) (o := (o + 1)) (n := 24) (Z := O) (j := k) rfl ho2 (by omega) (Nat.le_of_ble_eq_true rfl) ?_
        refine zn_iload_n (pc := 19) rfl rfl ?_
        refine zn_icmp_neN (pc := 20) (tgt := 27) (x := (O k)) (y := k) rfl rfl (by have := hO k (by omega); omega) (by omega) (fun c3 => ?_) (fun c3 => ?_)
        · refine zn_iconstN (pc := 27) 1 rfl rfl ?_
          exact zn_top (v' := .int (nI (oMd O k))) (by unfold oMd; rw [if_neg (by omega)]) K2
        · refine zn_iconstN (pc := 23) 0 rfl rfl ?_
          refine zn_goto (pc := 24) (tgt := 28) rfl rfl ?_
          exact zn_top (v' := .int (nI (oMd O k))) (by unfold oMd; rw [if_pos (by omega)]) K2
theorem c_moved  {o n : Nat} {O : Nat → Nat} (ho1 : hh.1 o = some (.inr (6, [.ref (o + 1), .int (nI n)]))) (ho2 : hh.1 (o + 1) = some (mNA 24 O)) (hn : n ≤ 24) (hO : ∀ i, i < n → O i < 24) : Zx g zX6_moved [.ref o] (hh) (some (.int (nI (vS (oMd O) n)))) (hh) := by
  show Zn g zX6_moved 0 [some (.ref o), none, none] [] (hh) 0 0 _
  refine zn_iconstN (pc := 0) 0 rfl rfl ?_
  refine zn_istore_n (pc := 1) (L' := [some (.ref o), some (.int (nI 0)), none]) rfl (by decide) rfl ?_
  refine zn_iconstN (pc := 2) 0 rfl rfl ?_
  refine zn_istore_n (pc := 3) (L' := [some (.ref o), some (.int (nI 0)), some (.int (nI 0))]) rfl (by decide) rfl ?_
  exact c_md_l ho1 ho2 hn hO n 0 (by omega)
end m1
