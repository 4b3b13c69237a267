section m1
variable {g : zG} {h hh : zH} {F : Nat → Nat} {S : Int64} {z : Nat → Nat} {A : Nat → Nat → Nat} {X : Nat → Int32}
/-! an object of a row and a number (Page, Input, Order), laid over a heap -/
def pgs (h : zH) (ci m p q : Nat) (Z : Nat → Nat) (v : Nat) : zH := zup (zup h q (mNA m Z)) p (.inr (ci, [.ref q, .int (nI v)]))
section pgs
variable {ci m p q v v' : Nat} {Z Z' : Nat → Nat}
theorem pg_o : (pgs h ci m p q Z v).1 p = some (.inr (ci, [.ref q, .int (nI v)])) := zup_s _ _ _
theorem pg_a (hpq : p ≠ q) : (pgs h ci m p q Z v).1 q = some (mNA m Z) := (zup_n (Ne.symm hpq)).trans (zup_s _ _ _)
theorem pg_n {i : Nat} (h1 : i ≠ p) (h2 : i ≠ q) : (pgs h ci m p q Z v).1 i = h.1 i := (zup_n h1).trans (zup_n h2)
theorem pgs_z (hpq : p ≠ q) : zup (pgs h ci m p q Z v) q (mNA m Z') = pgs h ci m p q Z' v := by
  refine Prod.ext (funext fun i => ?_) rfl
  unfold pgs zup
  simp only
  by_cases e : i = q
  · subst e; rw [if_pos rfl, if_neg (Ne.symm hpq), if_pos rfl]
  · rw [if_neg e, if_neg e, if_neg e]
theorem pgs_v : zup (pgs h ci m p q Z v) p (.inr (ci, [.ref q, .int (nI v')])) = pgs h ci m p q Z v' := zup_u _ _ _ _
theorem pgs_self (hp : h.1 p = some (.inr (ci, [.ref q, .int (nI v)]))) (hq : h.1 q = some (mNA m Z)) : pgs h ci m p q Z v = h := by
  refine Prod.ext (funext fun i => ?_) rfl
  unfold pgs zup
  simp only
  by_cases e : i = p
  · subst e; rw [if_pos rfl, hp]
  · rw [if_neg e]
    by_cases e2 : i = q
    · subst e2; rw [if_pos rfl, hq]
    · rw [if_neg e2]
theorem pgs_pgs (hpq : p ≠ q) : pgs (pgs h ci m p q Z v) ci m p q Z' v' = pgs h ci m p q Z' v' := by
  refine Prod.ext (funext fun i => ?_) rfl
  unfold pgs zup
  simp only
  by_cases e : i = p
  · rw [if_pos e, if_pos e]
  · rw [if_neg e, if_neg e]
    by_cases e2 : i = q
    · rw [if_pos e2, if_neg e, if_pos e2]
    · rw [if_neg e2, if_neg e2, if_neg e, if_neg e2]
theorem pgs_cg (e1 : Z = Z') (e2 : v = v') : pgs h ci m p q Z v = pgs h ci m p q Z' v' := by rw [e1, e2]
variable {I : zI} {pc a b : Nat} {L : zL} {st : List Value} {mc ms : Nat} {Q : zR → zH → Prop}
theorem zp_st {j x : Nat} (hf : zF I pc = some (.iastore, 1, a, b)) (hq0 : 0 < q) (hpq : p ≠ q) (hj : j < m) (hm : m < 2 ^ 31) (K : Zn g I (pc + 1) L st (pgs h ci m p q (va_up Z j x) v) mc ms Q) : Zn g I pc L (.int (nI x) :: .int (nI j) :: .ref q :: st) (pgs h ci m p q Z v) mc ms Q :=
  zn_naSt hf hq0 (pg_a hpq) hj hm (by rw [pgs_z hpq]; exact K)
theorem zp_put {idx x : Nat} (hf : zF I pc = some (.putfield idx, 3, ci, 1)) (hty : zty ci 1 = .int) (K : Zn g I (pc + 3) L st (pgs h ci m p q Z x) mc ms Q) : Zn g I pc L (.int (nI x) :: .ref p :: st) (pgs h ci m p q Z v) mc ms Q := by
  refine zn_put hf pg_o (Nat.le_of_ble_eq_true rfl) ?_ ?_
  · rw [hty]; show (true && (Value.int (nI x) == Value.int (nI x))) = true; simp
  · show Zn g I (pc + 3) L st (zup (pgs h ci m p q Z v) p (.inr (ci, [.ref q, .int (nI x)]))) mc ms Q
    rw [pgs_v]; exact K
theorem cpN {f f' : Nat → Nat} {s d n : Nat} : va_cpy (fun j => nI (f j)) (fun j => nI (f' j)) s d n = fun j => nI (va_cpy f f' s d n j) := by
  funext j
  unfold va_cpy
  split <;> rfl
theorem zp_cpy {idx s d n : Nat} (hf : zF I pc = some (.invokestatic idx, 3, 5000, b)) (hq0 : 0 < q) (hpq : p ≠ q) (hm : m < 2 ^ 30) (h1 : s + n ≤ m) (h2 : d + n ≤ m) (hfr : 1 ≤ zFr I) (hlo : (st.map fun v => v.category).sum + 18 ≤ zLo I) (K : Zn g I (pc + 3) L st (pgs h ci m p q (va_cpy Z Z s d n) v) mc ms Q) : Zn g I pc L (.int (nI n) :: .int (nI d) :: .ref q :: .int (nI s) :: .ref q :: st) (pgs h ci m p q Z v) mc ms Q := by
  refine zn_copy hf hq0 hq0 (pg_a hpq) (pg_a hpq) (nI_pos (by omega)) (nI_pos (by omega)) (nI_pos (by omega)) (by rw [nI_clamp (by omega), nI_clamp (by omega)]; exact h1) (by rw [nI_clamp (by omega), nI_clamp (by omega)]; exact h2) hfr hlo ?_
  rw [nI_clamp (by omega), nI_clamp (by omega), nI_clamp (by omega), cpN]
  show Zn g I (pc + 3) L st (zup (pgs h ci m p q Z v) q (mNA m (va_cpy Z Z s d n))) mc ms Q
  rw [pgs_z hpq]; exact K
end pgs
theorem c_open  {p q sz : Nat} {Z : Nat → Nat} (hpq : p ≠ q) (hq0 : 0 < q) {a n : Nat} (ha : a ≤ sz) (hs : sz + n ≤ 3264) : Zx g zX7_open [.ref p, .int (nI a), .int (nI n)] (pgs h 7 3264 p q Z sz) (some (.int (nI 1))) (pgs h 7 3264 p q (va_cpy Z Z a (a + n) (sz - a)) (sz + n)) := by
  show Zn g zX7_open 0 [some (.ref p), some (.int (nI a)), some (.int (nI n))] [] (pgs h 7 3264 p q Z sz) 0 0 _
  refine zn_iload_n (pc := 0) rfl rfl ?_
  refine zn_if_ltN (pc := 1) (tgt := 30) (x := a) rfl rfl (by omega) ?_
  refine zn_iload_n (pc := 4) rfl rfl ?_
  refine zn_aload_n (pc := 5) rfl rfl ?_
  refine zn_get (pc := 6) (v := .int (nI sz)) rfl pg_o rfl ?_
  refine zn_icmp_gtN (pc := 9) (tgt := 30) (x := a) (y := sz) rfl rfl (by omega) (by omega) (fun c2 => ?_) (fun c2 => ?_)
  · exfalso; omega
  · refine zn_iload_n (pc := 12) rfl rfl ?_
    refine zn_if_ltN (pc := 13) (tgt := 30) (x := n) rfl rfl (by omega) ?_
    refine zn_iload_n (pc := 16) rfl rfl ?_
    refine zn_aload_n (pc := 17) rfl rfl ?_
    refine zn_get (pc := 18) (v := .ref q) rfl pg_o rfl ?_
    refine zn_alenN (pc := 21) (n := 3264) rfl (pg_a hpq) ?_
    refine zn_aload_n (pc := 22) rfl rfl ?_
    refine zn_get (pc := 23) (v := .int (nI sz)) rfl pg_o rfl ?_
    refine zn_isubN (pc := 26) (x := 3264) (y := sz) rfl (by omega) ?_
    refine zn_icmp_leN (pc := 27) (tgt := 32) (x := n) (y := (3264 - sz)) rfl rfl (by omega) (by omega) (fun c4 => ?_) (fun c4 => ?_)
    · refine zn_aload_n (pc := 32) rfl rfl ?_
      refine zn_get (pc := 33) (v := .ref q) rfl pg_o rfl ?_
      refine zn_iload_n (pc := 36) rfl rfl ?_
      refine zn_aload_n (pc := 37) rfl rfl ?_
      refine zn_get (pc := 38) (v := .ref q) rfl pg_o rfl ?_
      refine zn_iload_n (pc := 41) rfl rfl ?_
      refine zn_iload_n (pc := 42) rfl rfl ?_
      refine zn_iaddN (pc := 43) (x := a) (y := n) rfl ?_
      refine zn_aload_n (pc := 44) rfl rfl ?_
      refine zn_get (pc := 45) (v := .int (nI sz)) rfl pg_o rfl ?_
      refine zn_iload_n (pc := 48) rfl rfl ?_
      refine zn_isubN (pc := 49) (x := sz) (y := a) rfl (by omega) ?_
      refine zp_cpy (pc := 50) (s := a) (d := (a + n)) (n := (sz - a)) rfl hq0 hpq (Nat.le_of_ble_eq_true rfl) (by omega) (by omega) (Nat.le_of_ble_eq_true rfl) (Nat.le_of_ble_eq_true rfl) ?_
      refine zn_aload_n (pc := 53) rfl rfl ?_
      refine zn_dup (pc := 54) rfl rfl ?_
      refine zn_get (pc := 55) (v := .int (nI sz)) rfl pg_o rfl ?_
      refine zn_iload_n (pc := 58) rfl rfl ?_
      refine zn_iaddN (pc := 59) (x := sz) (y := n) rfl ?_
      refine zp_put (pc := 60) (x := (sz + n)) rfl rfl ?_
      refine zn_iconstN (pc := 63) 1 rfl rfl ?_
      exact zx_z (pc := 64) rfl rfl (by decide) rfl rfl
    · exfalso; omega
theorem c_cut  {p q sz : Nat} {Z : Nat → Nat} (hpq : p ≠ q) (hq0 : 0 < q) {a n : Nat} (ha : a + n ≤ sz) (hs : sz ≤ 3264) : Zx g zX7_cut [.ref p, .int (nI a), .int (nI n)] (pgs h 7 3264 p q Z sz) none (pgs h 7 3264 p q (va_cpy Z Z (a + n) a (sz - a - n)) (sz - n)) := by
  show Zn g zX7_cut 0 [some (.ref p), some (.int (nI a)), some (.int (nI n))] [] (pgs h 7 3264 p q Z sz) 0 0 _
  refine zn_iload_n (pc := 0) rfl rfl ?_
  refine zn_if_ltN (pc := 1) (tgt := 26) (x := a) rfl rfl (by omega) ?_
  refine zn_iload_n (pc := 4) rfl rfl ?_
  refine zn_if_ltN (pc := 5) (tgt := 26) (x := n) rfl rfl (by omega) ?_
  refine zn_iload_n (pc := 8) rfl rfl ?_
  refine zn_aload_n (pc := 9) rfl rfl ?_
  refine zn_get (pc := 10) (v := .int (nI sz)) rfl pg_o rfl ?_
  refine zn_icmp_gtN (pc := 13) (tgt := 26) (x := a) (y := sz) rfl rfl (by omega) (by omega) (fun c3 => ?_) (fun c3 => ?_)
  · exfalso; omega
  · refine zn_iload_n (pc := 16) rfl rfl ?_
    refine zn_aload_n (pc := 17) rfl rfl ?_
    refine zn_get (pc := 18) (v := .int (nI sz)) rfl pg_o rfl ?_
    refine zn_iload_n (pc := 21) rfl rfl ?_
    refine zn_isubN (pc := 22) (x := sz) (y := a) rfl (by omega) ?_
    refine zn_icmp_leN (pc := 23) (tgt := 27) (x := n) (y := (sz - a)) rfl rfl (by omega) (by omega) (fun c4 => ?_) (fun c4 => ?_)
    · refine zn_aload_n (pc := 27) rfl rfl ?_
      refine zn_get (pc := 28) (v := .ref q) rfl pg_o rfl ?_
      refine zn_iload_n (pc := 31) rfl rfl ?_
      refine zn_iload_n (pc := 32) rfl rfl ?_
      refine zn_iaddN (pc := 33) (x := a) (y := n) rfl ?_
      refine zn_aload_n (pc := 34) rfl rfl ?_
      refine zn_get (pc := 35) (v := .ref q) rfl pg_o rfl ?_
      refine zn_iload_n (pc := 38) rfl rfl ?_
      refine zn_aload_n (pc := 39) rfl rfl ?_
      refine zn_get (pc := 40) (v := .int (nI sz)) rfl pg_o rfl ?_
      refine zn_iload_n (pc := 43) rfl rfl ?_
      refine zn_isubN (pc := 44) (x := sz) (y := a) rfl (by omega) ?_
      refine zn_iload_n (pc := 45) rfl rfl ?_
      refine zn_isubN (pc := 46) (x := (sz - a)) (y := n) rfl (by omega) ?_
      refine zp_cpy (pc := 47) (s := (a + n)) (d := a) (n := ((sz - a) - n)) rfl hq0 hpq (Nat.le_of_ble_eq_true rfl) (by omega) (by omega) (Nat.le_of_ble_eq_true rfl) (Nat.le_of_ble_eq_true rfl) ?_
      refine zn_aload_n (pc := 50) rfl rfl ?_
      refine zn_dup (pc := 51) rfl rfl ?_
      refine zn_get (pc := 52) (v := .int (nI sz)) rfl pg_o rfl ?_
      refine zn_iload_n (pc := 55) rfl rfl ?_
      refine zn_isubN (pc := 56) (x := sz) (y := n) rfl (by omega) ?_
      refine zp_put (pc := 57) (x := (sz - n)) rfl rfl ?_
      exact zx_v (pc := 60) rfl rfl rfl rfl
    · exfalso; omega
theorem c_put  {p q sz : Nat} {Z : Nat → Nat} (hpq : p ≠ q) (hq0 : 0 < q) {a x : Nat} (ha : a ≤ sz) (hs : sz + 1 ≤ 3264) : Zx g zX7_put [.ref p, .int (nI a), .int (nI x)] (pgs h 7 3264 p q Z sz) none (pgs h 7 3264 p q (va_up (va_cpy Z Z a (a + 1) (sz - a)) a x) (sz + 1)) := by
  show Zn g zX7_put 0 [some (.ref p), some (.int (nI a)), some (.int (nI x))] [] (pgs h 7 3264 p q Z sz) 0 0 _
  refine zn_aload_n (pc := 0) rfl rfl ?_
  refine zn_iload_n (pc := 1) rfl rfl ?_
  refine zn_iconstN (pc := 2) 1 rfl rfl ?_
  refine zn_callVx (pc := 3) (J := zX7_open) (o := p) (as := [.int (nI a), .int (nI 1)]) (rest := []) rfl rfl rfl rfl pg_o rfl rfl rfl (Nat.le_of_ble_eq_true rfl) (Nat.le_of_ble_eq_true rfl) (Nat.le_of_ble_eq_true rfl) (Nat.le_of_ble_eq_true rfl) (c_open hpq hq0 (a := a) (n := 1) (by omega) (by omega)) ?_
  refine zn_if_eqN (pc := 6) (tgt := 16) (x := 1) rfl rfl (by omega) (fun c1 => ?_) (fun c1 => ?_)
  · exact absurd c1 (by decide)
  · refine zn_aload_n (pc := 9) rfl rfl ?_
    refine zn_get (pc := 10) (v := .ref q) rfl pg_o rfl ?_
    refine zn_iload_n (pc := 13) rfl rfl ?_
    refine zn_iload_n (pc := 14) rfl rfl ?_
    refine zp_st (pc := 15) (j := a) (x := x) rfl hq0 hpq (by omega) (Nat.le_of_ble_eq_true rfl) ?_
    exact zx_v (pc := 16) rfl rfl rfl rfl
theorem c_add  {p q sz : Nat} {Z : Nat → Nat} (hpq : p ≠ q) (hq0 : 0 < q) {x : Nat} (hs : sz < 3264) : Zx g zX7_add [.ref p, .int (nI x)] (pgs h 7 3264 p q Z sz) none (pgs h 7 3264 p q (va_up Z sz x) (sz + 1)) := by
  show Zn g zX7_add 0 [some (.ref p), some (.int (nI x))] [] (pgs h 7 3264 p q Z sz) 0 0 _
  refine zn_aload_n (pc := 0) rfl rfl ?_
  refine zn_get (pc := 1) (v := .int (nI sz)) rfl pg_o rfl ?_
  refine zn_aload_n (pc := 4) rfl rfl ?_
  refine zn_get (pc := 5) (v := .ref q) rfl pg_o rfl ?_
  refine zn_alenN (pc := 8) (n := 3264) rfl (pg_a hpq) ?_
  refine zn_icmp_geN (pc := 9) (tgt := 32) (x := sz) (y := 3264) rfl rfl (by omega) (by omega) (fun c1 => ?_) (fun c1 => ?_)
  · exfalso; omega
  · refine zn_aload_n (pc := 12) rfl rfl ?_
    refine zn_get (pc := 13) (v := .ref q) rfl pg_o rfl ?_
    refine zn_aload_n (pc := 16) rfl rfl ?_
    refine zn_get (pc := 17) (v := .int (nI sz)) rfl pg_o rfl ?_
    refine zn_iload_n (pc := 20) rfl rfl ?_
    refine zp_st (pc := 21) (j := sz) (x := x) rfl hq0 hpq (by omega) (Nat.le_of_ble_eq_true rfl) ?_
    refine zn_aload_n (pc := 22) rfl rfl ?_
    refine zn_dup (pc := 23) rfl rfl ?_
    refine zn_get (pc := 24) (v := .int (nI sz)) rfl pg_o rfl ?_
    refine zn_iconstN (pc := 27) 1 rfl rfl ?_
    refine zn_iaddN (pc := 28) (x := sz) (y := 1) rfl ?_
    refine zp_put (pc := 29) (x := (sz + 1)) rfl rfl ?_
    exact zx_v (pc := 32) rfl rfl rfl rfl
theorem c_clear  {p q sz : Nat} {Z : Nat → Nat} (hpq : p ≠ q) (hq0 : 0 < q) : Zx g zX7_clear [.ref p] (pgs h 7 3264 p q Z sz) none (pgs h 7 3264 p q Z 0) := by
  show Zn g zX7_clear 0 [some (.ref p)] [] (pgs h 7 3264 p q Z sz) 0 0 _
  refine zn_aload_n (pc := 0) rfl rfl ?_
  refine zn_iconstN (pc := 1) 0 rfl rfl ?_
  refine zp_put (pc := 2) (x := 0) rfl rfl ?_
  exact zx_v (pc := 5) rfl rfl rfl rfl
theorem h23 : (2 : Nat) ≠ 3 := by decide
theorem h03 : 0 < (3 : Nat) := by decide
def pcd (c : Nat) : Nat := if c = 124 then 9 else if c = 47 then 10 else c
theorem c_ilen  {m : Nat} (hi2 : hh.1 2 = some (.inr (4, [.ref 3, .int (nI m)]))) : Zx g zX4_length [.ref 2] (hh) (some (.int (nI m))) (hh) := by
  show Zn g zX4_length 0 [some (.ref 2)] [] (hh) 0 0 _
  refine zn_aload_n (pc := 0) rfl rfl ?_
  refine zn_get (pc := 1) (v := .int (nI m)) rfl hi2 rfl ?_
  exact zx_i (pc := 4) rfl rfl rfl rfl
theorem c_isFull  {m : Nat} {Bf : Nat → Nat} (hm : m ≤ 120) (hB : ∀ j, Bf j < 1000) (hi2 : hh.1 2 = some (.inr (4, [.ref 3, .int (nI m)]))) (hi3 : hh.1 3 = some (mNA 120 Bf)) : Zx g zX4_isFull [.ref 2] (hh) (some (.int (zb (m = 120)))) (hh) := by
  show Zn g zX4_isFull 0 [some (.ref 2)] [] (hh) 0 0 _
  refine zn_aload_n (pc := 0) rfl rfl ?_
  refine zn_get (pc := 1) (v := .int (nI m)) rfl hi2 rfl ?_
  refine zn_aload_n (pc := 4) rfl rfl ?_
  refine zn_get (pc := 5) (v := .ref 3) rfl hi2 rfl ?_
  refine zn_alenN (pc := 8) (n := 120) rfl hi3 ?_
  refine zn_icmp_ltN (pc := 9) (tgt := 16) (x := m) (y := 120) rfl rfl (by omega) (by omega) (fun c1 => ?_) (fun c1 => ?_)
  · refine zn_iconstN (pc := 16) 0 rfl rfl ?_
    exact zx_z (pc := 17) rfl rfl (by decide) (by rw [zb_f (by omega)]; rfl) rfl
  · refine zn_iconstN (pc := 12) 1 rfl rfl ?_
    refine zn_goto (pc := 13) (tgt := 17) rfl rfl ?_
    exact zx_z (pc := 17) rfl rfl (by decide) (by rw [zb_t (by omega)]; rfl) rfl
theorem c_iadd  {m : Nat} {Bf : Nat → Nat} (hm : m ≤ 120) (hB : ∀ j, Bf j < 1000) {x : Nat} (hs : m < 120) : Zx g zX4_add [.ref 2, .int (nI x)] (pgs h 4 120 2 3 Bf m) (some (.int (nI (m + 1)))) (pgs h 4 120 2 3 (va_up Bf m x) (m + 1)) := by
  have hpq := h23
  have hq0 := h03
  show Zn g zX4_add 0 [some (.ref 2), some (.int (nI x))] [] (pgs h 4 120 2 3 Bf m) 0 0 _
  refine zn_aload_n (pc := 0) rfl rfl ?_
  refine zn_get (pc := 1) (v := .int (nI m)) rfl pg_o rfl ?_
  refine zn_aload_n (pc := 4) rfl rfl ?_
  refine zn_get (pc := 5) (v := .ref 3) rfl pg_o rfl ?_
  refine zn_alenN (pc := 8) (n := 120) rfl (pg_a hpq) ?_
  refine zn_icmp_geN (pc := 9) (tgt := 32) (x := m) (y := 120) rfl rfl (by omega) (by omega) (fun c1 => ?_) (fun c1 => ?_)
  · exfalso; omega
  · refine zn_aload_n (pc := 12) rfl rfl ?_
    refine zn_get (pc := 13) (v := .ref 3) rfl pg_o rfl ?_
    refine zn_aload_n (pc := 16) rfl rfl ?_
    refine zn_get (pc := 17) (v := .int (nI m)) rfl pg_o rfl ?_
    refine zn_iload_n (pc := 20) rfl rfl ?_
    refine zp_st (pc := 21) (j := m) (x := x) rfl hq0 hpq (by omega) (Nat.le_of_ble_eq_true rfl) ?_
    refine zn_aload_n (pc := 22) rfl rfl ?_
    refine zn_dup (pc := 23) rfl rfl ?_
    refine zn_get (pc := 24) (v := .int (nI m)) rfl pg_o rfl ?_
    refine zn_iconstN (pc := 27) 1 rfl rfl ?_
    refine zn_iaddN (pc := 28) (x := m) (y := 1) rfl ?_
    refine zp_put (pc := 29) (x := (m + 1)) rfl rfl ?_
    refine zn_aload_n (pc := 32) rfl rfl ?_
    refine zn_get (pc := 33) (v := .int (nI (m + 1))) rfl pg_o rfl ?_
    exact zx_i (pc := 36) rfl rfl rfl rfl
theorem c_empty  {m : Nat} {Bf : Nat → Nat} : Zx g zX4_empty [.ref 2] (pgs h 4 120 2 3 Bf m) (some (.int (nI m))) (pgs h 4 120 2 3 Bf 0) := by
  have hpq := h23
  have hq0 := h03
  show Zn g zX4_empty 0 [some (.ref 2), none] [] (pgs h 4 120 2 3 Bf m) 0 0 _
  refine zn_aload_n (pc := 0) rfl rfl ?_
  refine zn_get (pc := 1) (v := .int (nI m)) rfl pg_o rfl ?_
  refine zn_istore_n (pc := 4) (L' := [some (.ref 2), some (.int (nI m))]) rfl (by decide) rfl ?_
  refine zn_aload_n (pc := 5) rfl rfl ?_
  refine zn_iconstN (pc := 6) 0 rfl rfl ?_
  refine zp_put (pc := 7) (x := 0) rfl rfl ?_
  refine zn_iload_n (pc := 10) rfl rfl ?_
  exact zx_i (pc := 11) rfl rfl rfl rfl
theorem c_icode  {m : Nat} {Bf : Nat → Nat} (hm : m ≤ 120) (hB : ∀ j, Bf j < 1000) (hi2 : hh.1 2 = some (.inr (4, [.ref 3, .int (nI m)]))) (hi3 : hh.1 3 = some (mNA 120 Bf)) {a : Nat} (ha : a < m) : Zx g zX4_codeAt [.ref 2, .int (nI a)] (hh) (some (.int (nI (Bf a)))) (hh) := by
  show Zn g zX4_codeAt 0 [some (.ref 2), some (.int (nI a))] [] (hh) 0 0 _
  refine zn_iload_n (pc := 0) rfl rfl ?_
  refine zn_if_ltN (pc := 1) (tgt := 21) (x := a) rfl rfl (by omega) ?_
  refine zn_iload_n (pc := 4) rfl rfl ?_
  refine zn_aload_n (pc := 5) rfl rfl ?_
  refine zn_get (pc := 6) (v := .int (nI m)) rfl hi2 rfl ?_
  refine zn_icmp_geN (pc := 9) (tgt := 21) (x := a) (y := m) rfl rfl (by omega) (by omega) (fun c2 => ?_) (fun c2 => ?_)
  · exfalso; omega
  · refine zn_aload_n (pc := 12) rfl rfl ?_
    refine zn_get (pc := 13) (v := .ref 3) rfl hi2 rfl ?_
    refine zn_iload_n (pc := 16) rfl rfl ?_
    refine zn_naLd (pc := 17) (o := 3) (n := 120) (Z := Bf) (j := a) rfl hi3 (by omega) (Nat.le_of_ble_eq_true rfl) ?_
    refine zn_goto (pc := 18) (tgt := 22) rfl rfl ?_
    exact zx_i (pc := 22) rfl rfl rfl rfl
theorem c_pcode  {m : Nat} {Bf : Nat → Nat} (hm : m ≤ 120) (hB : ∀ j, Bf j < 1000) (hi2 : hh.1 2 = some (.inr (4, [.ref 3, .int (nI m)]))) (hi3 : hh.1 3 = some (mNA 120 Bf)) {a : Nat} (ha : a < m) : Zx g zX4_pageCodeAt [.ref 2, .int (nI a)] (hh) (some (.int (nI (pcd (Bf a))))) (hh) := by
  show Zn g zX4_pageCodeAt 0 [some (.ref 2), some (.int (nI a)), none] [] (hh) 0 0 _
  refine zn_aload_n (pc := 0) rfl rfl ?_
  refine zn_iload_n (pc := 1) rfl rfl ?_
  refine zn_callVx (pc := 2) (J := zX4_codeAt) (o := 2) (as := [.int (nI a)]) (rest := []) rfl rfl rfl rfl hi2 rfl rfl rfl (Nat.le_of_ble_eq_true rfl) (Nat.le_of_ble_eq_true rfl) (Nat.le_of_ble_eq_true rfl) (Nat.le_of_ble_eq_true rfl) (c_icode hm hB hi2 hi3 (a := a) (by omega)) ?_
  refine zn_istore_n (pc := 5) (L' := [some (.ref 2), some (.int (nI a)), some (.int (nI (Bf a)))]) rfl (by decide) rfl ?_
  refine zn_iload_n (pc := 6) rfl rfl ?_
  refine zn_bipushN (pc := 7) 124 rfl rfl ?_
  refine zn_icmp_neN (pc := 9) (tgt := 15) (x := (Bf a)) (y := 124) rfl rfl (by have := hB a; omega) (by have := hB a; omega) (fun c1 => ?_) (fun c1 => ?_)
  · refine zn_iload_n (pc := 15) rfl rfl ?_
    refine zn_bipushN (pc := 16) 47 rfl rfl ?_
    refine zn_icmp_neN (pc := 18) (tgt := 26) (x := (Bf a)) (y := 47) rfl rfl (by have := hB a; omega) (by have := hB a; omega) (fun c2 => ?_) (fun c2 => ?_)
    · refine zn_iload_n (pc := 26) rfl rfl ?_
      exact zx_i (pc := 27) rfl rfl (by unfold pcd; rw [if_neg (by assumption), if_neg (by assumption)]) rfl
    · refine zn_bipushN (pc := 21) 10 rfl rfl ?_
      refine zn_goto (pc := 23) (tgt := 27) rfl rfl ?_
      exact zx_i (pc := 27) rfl rfl (by unfold pcd; rw [if_neg (by assumption), if_pos (by assumption)]) rfl
  · refine zn_bipushN (pc := 12) 9 rfl rfl ?_
    exact zx_i (pc := 14) rfl rfl (by unfold pcd; rw [if_pos (by assumption)]) rfl
theorem c_ff_l {m : Nat} {Bf : Nat → Nat} (hm : m ≤ 120) (hB : ∀ j, Bf j < 1000) (hi2 : hh.1 2 = some (.inr (4, [.ref 3, .int (nI m)]))) (hi3 : hh.1 3 = some (mNA 120 Bf)) {kd R : Nat} (hk : kd ≤ 2) : ∀ (n : Nat) (k s b e : Nat), k + n = m → R = mrl Bf kd n k s b e → s ≤ 16 → b ≤ 7 → e ≤ 23 → Zn g zX4_firstFault 10 [some (.ref 2), some (.int (nI kd)), some (.int (nI s)), some (.int (nI (b + 1))), some (.int (nI (e + 1))), some (.int (nI k)), none] [] (hh) 0 0 (fun r' h' => r' = .inl (some (.int (nI R))) ∧ h' = (hh)) := by
  intro n
  induction n with
  | zero =>
    intro k s b e hn0 hn1 hn2 hn3 hn4
    refine zn_iload (pc := 10) rfl rfl ?_
    refine zn_aload_n (pc := 12) rfl rfl ?_
    refine zn_get (pc := 13) (v := .int (nI m)) rfl hi2 rfl ?_
    refine zn_icmp_geN (pc := 16) (tgt := 112) (x := k) (y := m) rfl rfl (by have := hB k; omega) (by have := hB k; omega) (fun c1 => ?_) (fun c1 => ?_)
    · refine zn_aload_n (pc := 112) rfl rfl ?_
      refine zn_get (pc := 113) (v := .int (nI m)) rfl hi2 rfl ?_
      exact zx_i (pc := 116) rfl rfl (by rw [hn1]; simp only [mrl]; rw [show k = m by omega]) rfl
    · exfalso; omega
  | succ n ih =>
    intro k s b e hn0 hn1 hn2 hn3 hn4
    refine zn_iload (pc := 10) rfl rfl ?_
    refine zn_aload_n (pc := 12) rfl rfl ?_
    refine zn_get (pc := 13) (v := .int (nI m)) rfl hi2 rfl ?_
    refine zn_icmp_geN (pc := 16) (tgt := 112) (x := k) (y := m) rfl rfl (by have := hB k; omega) (by have := hB k; omega) (fun c1 => ?_) (fun c1 => ?_)
    · refine zn_aload_n (pc := 112) rfl rfl ?_
      refine zn_get (pc := 113) (v := .int (nI m)) rfl hi2 rfl ?_
      exfalso; omega
    · refine zn_aload_n (pc := 19) rfl rfl ?_
      refine zn_get (pc := 20) (v := .ref 3) rfl hi2 rfl ?_
      refine zn_iload (pc := 23) rfl rfl ?_
      refine zn_naLd (pc := 25) (o := 3) (n := 120) (Z := Bf) (j := k) rfl hi3 (by omega) (Nat.le_of_ble_eq_true rfl) ?_
      refine zn_istore (pc := 26) (L' := [some (.ref 2), some (.int (nI kd)), some (.int (nI s)), some (.int (nI (b + 1))), some (.int (nI (e + 1))), some (.int (nI k)), some (.int (nI (Bf k)))]) rfl (by decide) rfl ?_
      refine zn_iload (pc := 28) rfl rfl ?_
      refine zn_bipushN (pc := 30) 124 rfl rfl ?_
      refine zn_icmp_neN (pc := 32) (tgt := 54) (x := (Bf k)) (y := 124) rfl rfl (by have := hB k; omega) (by have := hB k; omega) (fun c2 => ?_) (fun c2 => ?_)
      · refine zn_iload (pc := 54) rfl rfl ?_
        refine zn_bipushN (pc := 56) 47 rfl rfl ?_
        refine zn_icmp_neN (pc := 58) (tgt := 83) (x := (Bf k)) (y := 47) rfl rfl (by have := hB k; omega) (by have := hB k; omega) (fun c3 => ?_) (fun c3 => ?_)
        · refine zn_iload (pc := 83) rfl rfl ?_
          refine zn_callSx (pc := 85) (J := zX9_isSign) (as := [.int (nI (Bf k))]) (rest := []) rfl (by decide) rfl rfl rfl rfl (Nat.le_of_ble_eq_true rfl) (Nat.le_of_ble_eq_true rfl) (Nat.le_of_ble_eq_true rfl) (Nat.le_of_ble_eq_true rfl) (c_isSign (nI (Bf k))) ?_
          refine zn_if_eqB (pc := 88) (tgt := 103) rfl rfl (fun c4 => ?_) (fun c4 => ?_)
          · refine zn_iload (pc := 103) rfl rfl ?_
            exact zx_i (pc := 105) rfl rfl (by rw [hn1]; simp only [mrl]; rw [if_neg (by omega), if_neg (by omega), if_neg (by first | (intro q9; exact absurd q9.1 (by assumption)) | (intro q9; omega))]) rfl
          · refine zn_iload_n (pc := 91) rfl rfl ?_
            refine zn_bipushN (pc := 92) 16 rfl rfl ?_
            refine zn_icmp_geN (pc := 94) (tgt := 103) (x := s) (y := 16) rfl rfl (by have := hB k; omega) (by have := hB k; omega) (fun c5 => ?_) (fun c5 => ?_)
            · refine zn_iload (pc := 103) rfl rfl ?_
              exact zx_i (pc := 105) rfl rfl (by rw [hn1]; simp only [mrl]; rw [if_neg (by omega), if_neg (by omega), if_neg (by first | (intro q9; exact absurd q9.1 (by assumption)) | (intro q9; omega))]) rfl
            · refine zn_iincN (pc := 97) (L' := [some (.ref 2), some (.int (nI kd)), some (.int (nI (s + 1))), some (.int (nI (b + 1))), some (.int (nI (e + 1))), some (.int (nI k)), some (.int (nI (Bf k)))]) 1 rfl rfl rfl (by decide) rfl ?_
              refine zn_goto (pc := 100) (tgt := 106) rfl rfl ?_
              refine zn_iincN (pc := 106) (L' := [some (.ref 2), some (.int (nI kd)), some (.int (nI (s + 1))), some (.int (nI (b + 1))), some (.int (nI (e + 1))), some (.int (nI (k + 1))), some (.int (nI (Bf k)))]) 1 rfl rfl rfl (by decide) rfl ?_
              refine zn_goto (pc := 109) (tgt := 10) rfl rfl ?_
              exact zn_sub (L' := [some (.ref 2), some (.int (nI kd)), some (.int (nI (s + 1))), some (.int (nI (b + 1))), some (.int (nI (e + 1))), some (.int (nI (k + 1))), none]) ⟨rfl, rfl, rfl, rfl, rfl, rfl, trivial⟩ (ih (k + 1) (s + 1) (b) (e) (by omega) (by rw [hn1]; simp only [mrl]; rw [if_neg (by omega), if_neg (by omega), if_pos ⟨by assumption, by omega⟩]) (by omega) (by omega) (by omega))
        · refine zn_iload_n (pc := 61) rfl rfl ?_
          refine zn_iconstN (pc := 62) 2 rfl rfl ?_
          refine zn_icmp_ltN (pc := 63) (tgt := 83) (x := kd) (y := 2) rfl rfl (by have := hB k; omega) (by have := hB k; omega) (fun c6 => ?_) (fun c6 => ?_)
          · refine zn_iload (pc := 83) rfl rfl ?_
            refine zn_callSx (pc := 85) (J := zX9_isSign) (as := [.int (nI (Bf k))]) (rest := []) rfl (by decide) rfl rfl rfl rfl (Nat.le_of_ble_eq_true rfl) (Nat.le_of_ble_eq_true rfl) (Nat.le_of_ble_eq_true rfl) (Nat.le_of_ble_eq_true rfl) (c_isSign (nI (Bf k))) ?_
            refine zn_if_eqB (pc := 88) (tgt := 103) rfl rfl (fun c7 => ?_) (fun c7 => ?_)
            · refine zn_iload (pc := 103) rfl rfl ?_
              exact zx_i (pc := 105) rfl rfl (by rw [hn1]; simp only [mrl]; rw [if_neg (by omega), if_neg (by omega), if_neg (by first | (intro q9; exact absurd q9.1 (by assumption)) | (intro q9; omega))]) rfl
            · refine zn_iload_n (pc := 91) rfl rfl ?_
              refine zn_bipushN (pc := 92) 16 rfl rfl ?_
              refine zn_icmp_geN (pc := 94) (tgt := 103) (x := s) (y := 16) rfl rfl (by have := hB k; omega) (by have := hB k; omega) (fun c8 => ?_) (fun c8 => ?_)
              · refine zn_iload (pc := 103) rfl rfl ?_
                exact zx_i (pc := 105) rfl rfl (by rw [hn1]; simp only [mrl]; rw [if_neg (by omega), if_neg (by omega), if_neg (by first | (intro q9; exact absurd q9.1 (by assumption)) | (intro q9; omega))]) rfl
              · refine zn_iincN (pc := 97) (L' := [some (.ref 2), some (.int (nI kd)), some (.int (nI (s + 1))), some (.int (nI (b + 1))), some (.int (nI (e + 1))), some (.int (nI k)), some (.int (nI (Bf k)))]) 1 rfl rfl rfl (by decide) rfl ?_
                refine zn_goto (pc := 100) (tgt := 106) rfl rfl ?_
                refine zn_iincN (pc := 106) (L' := [some (.ref 2), some (.int (nI kd)), some (.int (nI (s + 1))), some (.int (nI (b + 1))), some (.int (nI (e + 1))), some (.int (nI (k + 1))), some (.int (nI (Bf k)))]) 1 rfl rfl rfl (by decide) rfl ?_
                refine zn_goto (pc := 109) (tgt := 10) rfl rfl ?_
                exact zn_sub (L' := [some (.ref 2), some (.int (nI kd)), some (.int (nI (s + 1))), some (.int (nI (b + 1))), some (.int (nI (e + 1))), some (.int (nI (k + 1))), none]) ⟨rfl, rfl, rfl, rfl, rfl, rfl, trivial⟩ (ih (k + 1) (s + 1) (b) (e) (by omega) (by rw [hn1]; simp only [mrl]; rw [if_neg (by omega), if_neg (by omega), if_pos ⟨by assumption, by omega⟩]) (by omega) (by omega) (by omega))
          · refine zn_iload (pc := 66) rfl rfl ?_
            refine zn_bipushN (pc := 68) 24 rfl rfl ?_
            refine zn_icmp_geN (pc := 70) (tgt := 83) (x := (e + 1)) (y := 24) rfl rfl (by have := hB k; omega) (by have := hB k; omega) (fun c9 => ?_) (fun c9 => ?_)
            · refine zn_iload (pc := 83) rfl rfl ?_
              refine zn_callSx (pc := 85) (J := zX9_isSign) (as := [.int (nI (Bf k))]) (rest := []) rfl (by decide) rfl rfl rfl rfl (Nat.le_of_ble_eq_true rfl) (Nat.le_of_ble_eq_true rfl) (Nat.le_of_ble_eq_true rfl) (Nat.le_of_ble_eq_true rfl) (c_isSign (nI (Bf k))) ?_
              refine zn_if_eqB (pc := 88) (tgt := 103) rfl rfl (fun c10 => ?_) (fun c10 => ?_)
              · refine zn_iload (pc := 103) rfl rfl ?_
                exact zx_i (pc := 105) rfl rfl (by rw [hn1]; simp only [mrl]; rw [if_neg (by omega), if_neg (by omega), if_neg (by first | (intro q9; exact absurd q9.1 (by assumption)) | (intro q9; omega))]) rfl
              · refine zn_iload_n (pc := 91) rfl rfl ?_
                refine zn_bipushN (pc := 92) 16 rfl rfl ?_
                refine zn_icmp_geN (pc := 94) (tgt := 103) (x := s) (y := 16) rfl rfl (by have := hB k; omega) (by have := hB k; omega) (fun c11 => ?_) (fun c11 => ?_)
                · refine zn_iload (pc := 103) rfl rfl ?_
                  exact zx_i (pc := 105) rfl rfl (by rw [hn1]; simp only [mrl]; rw [if_neg (by omega), if_neg (by omega), if_neg (by first | (intro q9; exact absurd q9.1 (by assumption)) | (intro q9; omega))]) rfl
                · refine zn_iincN (pc := 97) (L' := [some (.ref 2), some (.int (nI kd)), some (.int (nI (s + 1))), some (.int (nI (b + 1))), some (.int (nI (e + 1))), some (.int (nI k)), some (.int (nI (Bf k)))]) 1 rfl rfl rfl (by decide) rfl ?_
                  refine zn_goto (pc := 100) (tgt := 106) rfl rfl ?_
                  refine zn_iincN (pc := 106) (L' := [some (.ref 2), some (.int (nI kd)), some (.int (nI (s + 1))), some (.int (nI (b + 1))), some (.int (nI (e + 1))), some (.int (nI (k + 1))), some (.int (nI (Bf k)))]) 1 rfl rfl rfl (by decide) rfl ?_
                  refine zn_goto (pc := 109) (tgt := 10) rfl rfl ?_
                  exact zn_sub (L' := [some (.ref 2), some (.int (nI kd)), some (.int (nI (s + 1))), some (.int (nI (b + 1))), some (.int (nI (e + 1))), some (.int (nI (k + 1))), none]) ⟨rfl, rfl, rfl, rfl, rfl, rfl, trivial⟩ (ih (k + 1) (s + 1) (b) (e) (by omega) (by rw [hn1]; simp only [mrl]; rw [if_neg (by omega), if_neg (by omega), if_pos ⟨by assumption, by omega⟩]) (by omega) (by omega) (by omega))
            · refine zn_iincN (pc := 73) (L' := [some (.ref 2), some (.int (nI kd)), some (.int (nI s)), some (.int (nI (b + 1))), some (.int (nI (e + 1 + 1))), some (.int (nI k)), some (.int (nI (Bf k)))]) 1 rfl rfl rfl (by decide) rfl ?_
              refine zn_iconstN (pc := 76) 1 rfl rfl ?_
              refine zn_istore_n (pc := 77) (L' := [some (.ref 2), some (.int (nI kd)), some (.int (nI s)), some (.int (nI 1)), some (.int (nI (e + 1 + 1))), some (.int (nI k)), some (.int (nI (Bf k)))]) rfl (by decide) rfl ?_
              refine zn_iconstN (pc := 78) 0 rfl rfl ?_
              refine zn_istore_n (pc := 79) (L' := [some (.ref 2), some (.int (nI kd)), some (.int (nI 0)), some (.int (nI 1)), some (.int (nI (e + 1 + 1))), some (.int (nI k)), some (.int (nI (Bf k)))]) rfl (by decide) rfl ?_
              refine zn_goto (pc := 80) (tgt := 106) rfl rfl ?_
              refine zn_iincN (pc := 106) (L' := [some (.ref 2), some (.int (nI kd)), some (.int (nI 0)), some (.int (nI 1)), some (.int (nI (e + 1 + 1))), some (.int (nI (k + 1))), some (.int (nI (Bf k)))]) 1 rfl rfl rfl (by decide) rfl ?_
              refine zn_goto (pc := 109) (tgt := 10) rfl rfl ?_
              exact zn_sub (L' := [some (.ref 2), some (.int (nI kd)), some (.int (nI 0)), some (.int (nI (0 + 1))), some (.int (nI (e + 1 + 1))), some (.int (nI (k + 1))), none]) ⟨rfl, rfl, rfl, rfl, rfl, rfl, trivial⟩ (ih (k + 1) (0) (0) (e + 1) (by omega) (by rw [hn1]; simp only [mrl]; rw [if_neg (by omega), if_pos (by omega)]) (by omega) (by omega) (by omega))
      · refine zn_iload_n (pc := 35) rfl rfl ?_
        refine zn_iconstN (pc := 36) 1 rfl rfl ?_
        refine zn_icmp_ltN (pc := 37) (tgt := 54) (x := kd) (y := 1) rfl rfl (by have := hB k; omega) (by have := hB k; omega) (fun c12 => ?_) (fun c12 => ?_)
        · refine zn_iload (pc := 54) rfl rfl ?_
          refine zn_bipushN (pc := 56) 47 rfl rfl ?_
          refine zn_icmp_neN (pc := 58) (tgt := 83) (x := (Bf k)) (y := 47) rfl rfl (by have := hB k; omega) (by have := hB k; omega) (fun c13 => ?_) (fun c13 => ?_)
          · refine zn_iload (pc := 83) rfl rfl ?_
            refine zn_callSx (pc := 85) (J := zX9_isSign) (as := [.int (nI (Bf k))]) (rest := []) rfl (by decide) rfl rfl rfl rfl (Nat.le_of_ble_eq_true rfl) (Nat.le_of_ble_eq_true rfl) (Nat.le_of_ble_eq_true rfl) (Nat.le_of_ble_eq_true rfl) (c_isSign (nI (Bf k))) ?_
            refine zn_if_eqB (pc := 88) (tgt := 103) rfl rfl (fun c14 => ?_) (fun c14 => ?_)
            · refine zn_iload (pc := 103) rfl rfl ?_
              exact zx_i (pc := 105) rfl rfl (by rw [hn1]; simp only [mrl]; rw [if_neg (by omega), if_neg (by omega), if_neg (by first | (intro q9; exact absurd q9.1 (by assumption)) | (intro q9; omega))]) rfl
            · refine zn_iload_n (pc := 91) rfl rfl ?_
              refine zn_bipushN (pc := 92) 16 rfl rfl ?_
              refine zn_icmp_geN (pc := 94) (tgt := 103) (x := s) (y := 16) rfl rfl (by have := hB k; omega) (by have := hB k; omega) (fun c15 => ?_) (fun c15 => ?_)
              · refine zn_iload (pc := 103) rfl rfl ?_
                exact zx_i (pc := 105) rfl rfl (by rw [hn1]; simp only [mrl]; rw [if_neg (by omega), if_neg (by omega), if_neg (by first | (intro q9; exact absurd q9.1 (by assumption)) | (intro q9; omega))]) rfl
              · refine zn_iincN (pc := 97) (L' := [some (.ref 2), some (.int (nI kd)), some (.int (nI (s + 1))), some (.int (nI (b + 1))), some (.int (nI (e + 1))), some (.int (nI k)), some (.int (nI (Bf k)))]) 1 rfl rfl rfl (by decide) rfl ?_
                refine zn_goto (pc := 100) (tgt := 106) rfl rfl ?_
                refine zn_iincN (pc := 106) (L' := [some (.ref 2), some (.int (nI kd)), some (.int (nI (s + 1))), some (.int (nI (b + 1))), some (.int (nI (e + 1))), some (.int (nI (k + 1))), some (.int (nI (Bf k)))]) 1 rfl rfl rfl (by decide) rfl ?_
                refine zn_goto (pc := 109) (tgt := 10) rfl rfl ?_
                exact zn_sub (L' := [some (.ref 2), some (.int (nI kd)), some (.int (nI (s + 1))), some (.int (nI (b + 1))), some (.int (nI (e + 1))), some (.int (nI (k + 1))), none]) ⟨rfl, rfl, rfl, rfl, rfl, rfl, trivial⟩ (ih (k + 1) (s + 1) (b) (e) (by omega) (by rw [hn1]; simp only [mrl]; rw [if_neg (by omega), if_neg (by omega), if_pos ⟨by assumption, by omega⟩]) (by omega) (by omega) (by omega))
          · refine zn_iload_n (pc := 61) rfl rfl ?_
            refine zn_iconstN (pc := 62) 2 rfl rfl ?_
            refine zn_icmp_ltN (pc := 63) (tgt := 83) (x := kd) (y := 2) rfl rfl (by have := hB k; omega) (by have := hB k; omega) (fun c16 => ?_) (fun c16 => ?_)
            · refine zn_iload (pc := 83) rfl rfl ?_
              refine zn_callSx (pc := 85) (J := zX9_isSign) (as := [.int (nI (Bf k))]) (rest := []) rfl (by decide) rfl rfl rfl rfl (Nat.le_of_ble_eq_true rfl) (Nat.le_of_ble_eq_true rfl) (Nat.le_of_ble_eq_true rfl) (Nat.le_of_ble_eq_true rfl) (c_isSign (nI (Bf k))) ?_
              refine zn_if_eqB (pc := 88) (tgt := 103) rfl rfl (fun c17 => ?_) (fun c17 => ?_)
              · refine zn_iload (pc := 103) rfl rfl ?_
                exact zx_i (pc := 105) rfl rfl (by rw [hn1]; simp only [mrl]; rw [if_neg (by omega), if_neg (by omega), if_neg (by first | (intro q9; exact absurd q9.1 (by assumption)) | (intro q9; omega))]) rfl
              · refine zn_iload_n (pc := 91) rfl rfl ?_
                refine zn_bipushN (pc := 92) 16 rfl rfl ?_
                refine zn_icmp_geN (pc := 94) (tgt := 103) (x := s) (y := 16) rfl rfl (by have := hB k; omega) (by have := hB k; omega) (fun c18 => ?_) (fun c18 => ?_)
                · refine zn_iload (pc := 103) rfl rfl ?_
                  exact zx_i (pc := 105) rfl rfl (by rw [hn1]; simp only [mrl]; rw [if_neg (by omega), if_neg (by omega), if_neg (by first | (intro q9; exact absurd q9.1 (by assumption)) | (intro q9; omega))]) rfl
                · refine zn_iincN (pc := 97) (L' := [some (.ref 2), some (.int (nI kd)), some (.int (nI (s + 1))), some (.int (nI (b + 1))), some (.int (nI (e + 1))), some (.int (nI k)), some (.int (nI (Bf k)))]) 1 rfl rfl rfl (by decide) rfl ?_
                  refine zn_goto (pc := 100) (tgt := 106) rfl rfl ?_
                  refine zn_iincN (pc := 106) (L' := [some (.ref 2), some (.int (nI kd)), some (.int (nI (s + 1))), some (.int (nI (b + 1))), some (.int (nI (e + 1))), some (.int (nI (k + 1))), some (.int (nI (Bf k)))]) 1 rfl rfl rfl (by decide) rfl ?_
                  refine zn_goto (pc := 109) (tgt := 10) rfl rfl ?_
                  exact zn_sub (L' := [some (.ref 2), some (.int (nI kd)), some (.int (nI (s + 1))), some (.int (nI (b + 1))), some (.int (nI (e + 1))), some (.int (nI (k + 1))), none]) ⟨rfl, rfl, rfl, rfl, rfl, rfl, trivial⟩ (ih (k + 1) (s + 1) (b) (e) (by omega) (by rw [hn1]; simp only [mrl]; rw [if_neg (by omega), if_neg (by omega), if_pos ⟨by assumption, by omega⟩]) (by omega) (by omega) (by omega))
            · refine zn_iload (pc := 66) rfl rfl ?_
              refine zn_bipushN (pc := 68) 24 rfl rfl ?_
              refine zn_icmp_geN (pc := 70) (tgt := 83) (x := (e + 1)) (y := 24) rfl rfl (by have := hB k; omega) (by have := hB k; omega) (fun c19 => ?_) (fun c19 => ?_)
              · refine zn_iload (pc := 83) rfl rfl ?_
                refine zn_callSx (pc := 85) (J := zX9_isSign) (as := [.int (nI (Bf k))]) (rest := []) rfl (by decide) rfl rfl rfl rfl (Nat.le_of_ble_eq_true rfl) (Nat.le_of_ble_eq_true rfl) (Nat.le_of_ble_eq_true rfl) (Nat.le_of_ble_eq_true rfl) (c_isSign (nI (Bf k))) ?_
                refine zn_if_eqB (pc := 88) (tgt := 103) rfl rfl (fun c20 => ?_) (fun c20 => ?_)
                · refine zn_iload (pc := 103) rfl rfl ?_
                  exact zx_i (pc := 105) rfl rfl (by rw [hn1]; simp only [mrl]; rw [if_neg (by omega), if_neg (by omega), if_neg (by first | (intro q9; exact absurd q9.1 (by assumption)) | (intro q9; omega))]) rfl
                · refine zn_iload_n (pc := 91) rfl rfl ?_
                  refine zn_bipushN (pc := 92) 16 rfl rfl ?_
                  refine zn_icmp_geN (pc := 94) (tgt := 103) (x := s) (y := 16) rfl rfl (by have := hB k; omega) (by have := hB k; omega) (fun c21 => ?_) (fun c21 => ?_)
                  · refine zn_iload (pc := 103) rfl rfl ?_
                    exact zx_i (pc := 105) rfl rfl (by rw [hn1]; simp only [mrl]; rw [if_neg (by omega), if_neg (by omega), if_neg (by first | (intro q9; exact absurd q9.1 (by assumption)) | (intro q9; omega))]) rfl
                  · refine zn_iincN (pc := 97) (L' := [some (.ref 2), some (.int (nI kd)), some (.int (nI (s + 1))), some (.int (nI (b + 1))), some (.int (nI (e + 1))), some (.int (nI k)), some (.int (nI (Bf k)))]) 1 rfl rfl rfl (by decide) rfl ?_
                    refine zn_goto (pc := 100) (tgt := 106) rfl rfl ?_
                    refine zn_iincN (pc := 106) (L' := [some (.ref 2), some (.int (nI kd)), some (.int (nI (s + 1))), some (.int (nI (b + 1))), some (.int (nI (e + 1))), some (.int (nI (k + 1))), some (.int (nI (Bf k)))]) 1 rfl rfl rfl (by decide) rfl ?_
                    refine zn_goto (pc := 109) (tgt := 10) rfl rfl ?_
                    exact zn_sub (L' := [some (.ref 2), some (.int (nI kd)), some (.int (nI (s + 1))), some (.int (nI (b + 1))), some (.int (nI (e + 1))), some (.int (nI (k + 1))), none]) ⟨rfl, rfl, rfl, rfl, rfl, rfl, trivial⟩ (ih (k + 1) (s + 1) (b) (e) (by omega) (by rw [hn1]; simp only [mrl]; rw [if_neg (by omega), if_neg (by omega), if_pos ⟨by assumption, by omega⟩]) (by omega) (by omega) (by omega))
              · refine zn_iincN (pc := 73) (L' := [some (.ref 2), some (.int (nI kd)), some (.int (nI s)), some (.int (nI (b + 1))), some (.int (nI (e + 1 + 1))), some (.int (nI k)), some (.int (nI (Bf k)))]) 1 rfl rfl rfl (by decide) rfl ?_
                refine zn_iconstN (pc := 76) 1 rfl rfl ?_
                refine zn_istore_n (pc := 77) (L' := [some (.ref 2), some (.int (nI kd)), some (.int (nI s)), some (.int (nI 1)), some (.int (nI (e + 1 + 1))), some (.int (nI k)), some (.int (nI (Bf k)))]) rfl (by decide) rfl ?_
                refine zn_iconstN (pc := 78) 0 rfl rfl ?_
                refine zn_istore_n (pc := 79) (L' := [some (.ref 2), some (.int (nI kd)), some (.int (nI 0)), some (.int (nI 1)), some (.int (nI (e + 1 + 1))), some (.int (nI k)), some (.int (nI (Bf k)))]) rfl (by decide) rfl ?_
                refine zn_goto (pc := 80) (tgt := 106) rfl rfl ?_
                refine zn_iincN (pc := 106) (L' := [some (.ref 2), some (.int (nI kd)), some (.int (nI 0)), some (.int (nI 1)), some (.int (nI (e + 1 + 1))), some (.int (nI (k + 1))), some (.int (nI (Bf k)))]) 1 rfl rfl rfl (by decide) rfl ?_
                refine zn_goto (pc := 109) (tgt := 10) rfl rfl ?_
                exact zn_sub (L' := [some (.ref 2), some (.int (nI kd)), some (.int (nI 0)), some (.int (nI (0 + 1))), some (.int (nI (e + 1 + 1))), some (.int (nI (k + 1))), none]) ⟨rfl, rfl, rfl, rfl, rfl, rfl, trivial⟩ (ih (k + 1) (0) (0) (e + 1) (by omega) (by rw [hn1]; simp only [mrl]; rw [if_neg (by omega), if_pos (by omega)]) (by omega) (by omega) (by omega))
        · refine zn_iload_n (pc := 40) rfl rfl ?_
          refine zn_bipushN (pc := 41) 8 rfl rfl ?_
          refine zn_icmp_geN (pc := 43) (tgt := 54) (x := (b + 1)) (y := 8) rfl rfl (by have := hB k; omega) (by have := hB k; omega) (fun c22 => ?_) (fun c22 => ?_)
          · refine zn_iload (pc := 54) rfl rfl ?_
            refine zn_bipushN (pc := 56) 47 rfl rfl ?_
            refine zn_icmp_neN (pc := 58) (tgt := 83) (x := (Bf k)) (y := 47) rfl rfl (by have := hB k; omega) (by have := hB k; omega) (fun c23 => ?_) (fun c23 => ?_)
            · refine zn_iload (pc := 83) rfl rfl ?_
              refine zn_callSx (pc := 85) (J := zX9_isSign) (as := [.int (nI (Bf k))]) (rest := []) rfl (by decide) rfl rfl rfl rfl (Nat.le_of_ble_eq_true rfl) (Nat.le_of_ble_eq_true rfl) (Nat.le_of_ble_eq_true rfl) (Nat.le_of_ble_eq_true rfl) (c_isSign (nI (Bf k))) ?_
              refine zn_if_eqB (pc := 88) (tgt := 103) rfl rfl (fun c24 => ?_) (fun c24 => ?_)
              · refine zn_iload (pc := 103) rfl rfl ?_
                exact zx_i (pc := 105) rfl rfl (by rw [hn1]; simp only [mrl]; rw [if_neg (by omega), if_neg (by omega), if_neg (by first | (intro q9; exact absurd q9.1 (by assumption)) | (intro q9; omega))]) rfl
              · refine zn_iload_n (pc := 91) rfl rfl ?_
                refine zn_bipushN (pc := 92) 16 rfl rfl ?_
                refine zn_icmp_geN (pc := 94) (tgt := 103) (x := s) (y := 16) rfl rfl (by have := hB k; omega) (by have := hB k; omega) (fun c25 => ?_) (fun c25 => ?_)
                · refine zn_iload (pc := 103) rfl rfl ?_
                  exact zx_i (pc := 105) rfl rfl (by rw [hn1]; simp only [mrl]; rw [if_neg (by omega), if_neg (by omega), if_neg (by first | (intro q9; exact absurd q9.1 (by assumption)) | (intro q9; omega))]) rfl
                · refine zn_iincN (pc := 97) (L' := [some (.ref 2), some (.int (nI kd)), some (.int (nI (s + 1))), some (.int (nI (b + 1))), some (.int (nI (e + 1))), some (.int (nI k)), some (.int (nI (Bf k)))]) 1 rfl rfl rfl (by decide) rfl ?_
                  refine zn_goto (pc := 100) (tgt := 106) rfl rfl ?_
                  refine zn_iincN (pc := 106) (L' := [some (.ref 2), some (.int (nI kd)), some (.int (nI (s + 1))), some (.int (nI (b + 1))), some (.int (nI (e + 1))), some (.int (nI (k + 1))), some (.int (nI (Bf k)))]) 1 rfl rfl rfl (by decide) rfl ?_
                  refine zn_goto (pc := 109) (tgt := 10) rfl rfl ?_
                  exact zn_sub (L' := [some (.ref 2), some (.int (nI kd)), some (.int (nI (s + 1))), some (.int (nI (b + 1))), some (.int (nI (e + 1))), some (.int (nI (k + 1))), none]) ⟨rfl, rfl, rfl, rfl, rfl, rfl, trivial⟩ (ih (k + 1) (s + 1) (b) (e) (by omega) (by rw [hn1]; simp only [mrl]; rw [if_neg (by omega), if_neg (by omega), if_pos ⟨by assumption, by omega⟩]) (by omega) (by omega) (by omega))
            · refine zn_iload_n (pc := 61) rfl rfl ?_
              refine zn_iconstN (pc := 62) 2 rfl rfl ?_
              refine zn_icmp_ltN (pc := 63) (tgt := 83) (x := kd) (y := 2) rfl rfl (by have := hB k; omega) (by have := hB k; omega) (fun c26 => ?_) (fun c26 => ?_)
              · refine zn_iload (pc := 83) rfl rfl ?_
                refine zn_callSx (pc := 85) (J := zX9_isSign) (as := [.int (nI (Bf k))]) (rest := []) rfl (by decide) rfl rfl rfl rfl (Nat.le_of_ble_eq_true rfl) (Nat.le_of_ble_eq_true rfl) (Nat.le_of_ble_eq_true rfl) (Nat.le_of_ble_eq_true rfl) (c_isSign (nI (Bf k))) ?_
                refine zn_if_eqB (pc := 88) (tgt := 103) rfl rfl (fun c27 => ?_) (fun c27 => ?_)
                · refine zn_iload (pc := 103) rfl rfl ?_
                  exact zx_i (pc := 105) rfl rfl (by rw [hn1]; simp only [mrl]; rw [if_neg (by omega), if_neg (by omega), if_neg (by first | (intro q9; exact absurd q9.1 (by assumption)) | (intro q9; omega))]) rfl
                · refine zn_iload_n (pc := 91) rfl rfl ?_
                  refine zn_bipushN (pc := 92) 16 rfl rfl ?_
                  refine zn_icmp_geN (pc := 94) (tgt := 103) (x := s) (y := 16) rfl rfl (by have := hB k; omega) (by have := hB k; omega) (fun c28 => ?_) (fun c28 => ?_)
                  · refine zn_iload (pc := 103) rfl rfl ?_
                    exact zx_i (pc := 105) rfl rfl (by rw [hn1]; simp only [mrl]; rw [if_neg (by omega), if_neg (by omega), if_neg (by first | (intro q9; exact absurd q9.1 (by assumption)) | (intro q9; omega))]) rfl
                  · refine zn_iincN (pc := 97) (L' := [some (.ref 2), some (.int (nI kd)), some (.int (nI (s + 1))), some (.int (nI (b + 1))), some (.int (nI (e + 1))), some (.int (nI k)), some (.int (nI (Bf k)))]) 1 rfl rfl rfl (by decide) rfl ?_
                    refine zn_goto (pc := 100) (tgt := 106) rfl rfl ?_
                    refine zn_iincN (pc := 106) (L' := [some (.ref 2), some (.int (nI kd)), some (.int (nI (s + 1))), some (.int (nI (b + 1))), some (.int (nI (e + 1))), some (.int (nI (k + 1))), some (.int (nI (Bf k)))]) 1 rfl rfl rfl (by decide) rfl ?_
                    refine zn_goto (pc := 109) (tgt := 10) rfl rfl ?_
                    exact zn_sub (L' := [some (.ref 2), some (.int (nI kd)), some (.int (nI (s + 1))), some (.int (nI (b + 1))), some (.int (nI (e + 1))), some (.int (nI (k + 1))), none]) ⟨rfl, rfl, rfl, rfl, rfl, rfl, trivial⟩ (ih (k + 1) (s + 1) (b) (e) (by omega) (by rw [hn1]; simp only [mrl]; rw [if_neg (by omega), if_neg (by omega), if_pos ⟨by assumption, by omega⟩]) (by omega) (by omega) (by omega))
              · refine zn_iload (pc := 66) rfl rfl ?_
                refine zn_bipushN (pc := 68) 24 rfl rfl ?_
                refine zn_icmp_geN (pc := 70) (tgt := 83) (x := (e + 1)) (y := 24) rfl rfl (by have := hB k; omega) (by have := hB k; omega) (fun c29 => ?_) (fun c29 => ?_)
                · refine zn_iload (pc := 83) rfl rfl ?_
                  refine zn_callSx (pc := 85) (J := zX9_isSign) (as := [.int (nI (Bf k))]) (rest := []) rfl (by decide) rfl rfl rfl rfl (Nat.le_of_ble_eq_true rfl) (Nat.le_of_ble_eq_true rfl) (Nat.le_of_ble_eq_true rfl) (Nat.le_of_ble_eq_true rfl) (c_isSign (nI (Bf k))) ?_
                  refine zn_if_eqB (pc := 88) (tgt := 103) rfl rfl (fun c30 => ?_) (fun c30 => ?_)
                  · refine zn_iload (pc := 103) rfl rfl ?_
                    exact zx_i (pc := 105) rfl rfl (by rw [hn1]; simp only [mrl]; rw [if_neg (by omega), if_neg (by omega), if_neg (by first | (intro q9; exact absurd q9.1 (by assumption)) | (intro q9; omega))]) rfl
                  · refine zn_iload_n (pc := 91) rfl rfl ?_
                    refine zn_bipushN (pc := 92) 16 rfl rfl ?_
                    refine zn_icmp_geN (pc := 94) (tgt := 103) (x := s) (y := 16) rfl rfl (by have := hB k; omega) (by have := hB k; omega) (fun c31 => ?_) (fun c31 => ?_)
                    · refine zn_iload (pc := 103) rfl rfl ?_
                      exact zx_i (pc := 105) rfl rfl (by rw [hn1]; simp only [mrl]; rw [if_neg (by omega), if_neg (by omega), if_neg (by first | (intro q9; exact absurd q9.1 (by assumption)) | (intro q9; omega))]) rfl
                    · refine zn_iincN (pc := 97) (L' := [some (.ref 2), some (.int (nI kd)), some (.int (nI (s + 1))), some (.int (nI (b + 1))), some (.int (nI (e + 1))), some (.int (nI k)), some (.int (nI (Bf k)))]) 1 rfl rfl rfl (by decide) rfl ?_
                      refine zn_goto (pc := 100) (tgt := 106) rfl rfl ?_
                      refine zn_iincN (pc := 106) (L' := [some (.ref 2), some (.int (nI kd)), some (.int (nI (s + 1))), some (.int (nI (b + 1))), some (.int (nI (e + 1))), some (.int (nI (k + 1))), some (.int (nI (Bf k)))]) 1 rfl rfl rfl (by decide) rfl ?_
                      refine zn_goto (pc := 109) (tgt := 10) rfl rfl ?_
                      exact zn_sub (L' := [some (.ref 2), some (.int (nI kd)), some (.int (nI (s + 1))), some (.int (nI (b + 1))), some (.int (nI (e + 1))), some (.int (nI (k + 1))), none]) ⟨rfl, rfl, rfl, rfl, rfl, rfl, trivial⟩ (ih (k + 1) (s + 1) (b) (e) (by omega) (by rw [hn1]; simp only [mrl]; rw [if_neg (by omega), if_neg (by omega), if_pos ⟨by assumption, by omega⟩]) (by omega) (by omega) (by omega))
                · refine zn_iincN (pc := 73) (L' := [some (.ref 2), some (.int (nI kd)), some (.int (nI s)), some (.int (nI (b + 1))), some (.int (nI (e + 1 + 1))), some (.int (nI k)), some (.int (nI (Bf k)))]) 1 rfl rfl rfl (by decide) rfl ?_
                  refine zn_iconstN (pc := 76) 1 rfl rfl ?_
                  refine zn_istore_n (pc := 77) (L' := [some (.ref 2), some (.int (nI kd)), some (.int (nI s)), some (.int (nI 1)), some (.int (nI (e + 1 + 1))), some (.int (nI k)), some (.int (nI (Bf k)))]) rfl (by decide) rfl ?_
                  refine zn_iconstN (pc := 78) 0 rfl rfl ?_
                  refine zn_istore_n (pc := 79) (L' := [some (.ref 2), some (.int (nI kd)), some (.int (nI 0)), some (.int (nI 1)), some (.int (nI (e + 1 + 1))), some (.int (nI k)), some (.int (nI (Bf k)))]) rfl (by decide) rfl ?_
                  refine zn_goto (pc := 80) (tgt := 106) rfl rfl ?_
                  refine zn_iincN (pc := 106) (L' := [some (.ref 2), some (.int (nI kd)), some (.int (nI 0)), some (.int (nI 1)), some (.int (nI (e + 1 + 1))), some (.int (nI (k + 1))), some (.int (nI (Bf k)))]) 1 rfl rfl rfl (by decide) rfl ?_
                  refine zn_goto (pc := 109) (tgt := 10) rfl rfl ?_
                  exact zn_sub (L' := [some (.ref 2), some (.int (nI kd)), some (.int (nI 0)), some (.int (nI (0 + 1))), some (.int (nI (e + 1 + 1))), some (.int (nI (k + 1))), none]) ⟨rfl, rfl, rfl, rfl, rfl, rfl, trivial⟩ (ih (k + 1) (0) (0) (e + 1) (by omega) (by rw [hn1]; simp only [mrl]; rw [if_neg (by omega), if_pos (by omega)]) (by omega) (by omega) (by omega))
          · refine zn_iincN (pc := 46) (L' := [some (.ref 2), some (.int (nI kd)), some (.int (nI s)), some (.int (nI (b + 1 + 1))), some (.int (nI (e + 1))), some (.int (nI k)), some (.int (nI (Bf k)))]) 1 rfl rfl rfl (by decide) rfl ?_
            refine zn_iconstN (pc := 49) 0 rfl rfl ?_
            refine zn_istore_n (pc := 50) (L' := [some (.ref 2), some (.int (nI kd)), some (.int (nI 0)), some (.int (nI (b + 1 + 1))), some (.int (nI (e + 1))), some (.int (nI k)), some (.int (nI (Bf k)))]) rfl (by decide) rfl ?_
            refine zn_goto (pc := 51) (tgt := 106) rfl rfl ?_
            refine zn_iincN (pc := 106) (L' := [some (.ref 2), some (.int (nI kd)), some (.int (nI 0)), some (.int (nI (b + 1 + 1))), some (.int (nI (e + 1))), some (.int (nI (k + 1))), some (.int (nI (Bf k)))]) 1 rfl rfl rfl (by decide) rfl ?_
            refine zn_goto (pc := 109) (tgt := 10) rfl rfl ?_
            exact zn_sub (L' := [some (.ref 2), some (.int (nI kd)), some (.int (nI 0)), some (.int (nI (b + 1 + 1))), some (.int (nI (e + 1))), some (.int (nI (k + 1))), none]) ⟨rfl, rfl, rfl, rfl, rfl, rfl, trivial⟩ (ih (k + 1) (0) (b + 1) (e) (by omega) (by rw [hn1]; simp only [mrl]; rw [if_pos (by omega)]) (by omega) (by omega) (by omega))
theorem c_firstFault  {m : Nat} {Bf : Nat → Nat} (hm : m ≤ 120) (hB : ∀ j, Bf j < 1000) (hi2 : hh.1 2 = some (.inr (4, [.ref 3, .int (nI m)]))) (hi3 : hh.1 3 = some (mNA 120 Bf)) {kd : Nat} (hk : kd ≤ 2) : Zx g zX4_firstFault [.ref 2, .int (nI kd)] (hh) (some (.int (nI (mrl Bf kd m 0 0 0 0)))) (hh) := by
  show Zn g zX4_firstFault 0 [some (.ref 2), some (.int (nI kd)), none, none, none, none, none] [] (hh) 0 0 _
  refine zn_iconstN (pc := 0) 0 rfl rfl ?_
  refine zn_istore_n (pc := 1) (L' := [some (.ref 2), some (.int (nI kd)), some (.int (nI 0)), none, none, none, none]) rfl (by decide) rfl ?_
  refine zn_iconstN (pc := 2) 1 rfl rfl ?_
  refine zn_istore_n (pc := 3) (L' := [some (.ref 2), some (.int (nI kd)), some (.int (nI 0)), some (.int (nI 1)), none, none, none]) rfl (by decide) rfl ?_
  refine zn_iconstN (pc := 4) 1 rfl rfl ?_
  refine zn_istore (pc := 5) (L' := [some (.ref 2), some (.int (nI kd)), some (.int (nI 0)), some (.int (nI 1)), some (.int (nI 1)), none, none]) rfl (by decide) rfl ?_
  refine zn_iconstN (pc := 7) 0 rfl rfl ?_
  refine zn_istore (pc := 8) (L' := [some (.ref 2), some (.int (nI kd)), some (.int (nI 0)), some (.int (nI 1)), some (.int (nI 1)), some (.int (nI 0)), none]) rfl (by decide) rfl ?_
  exact c_ff_l hm hB hi2 hi3 hk m 0 0 0 0 (by omega) rfl (by omega) (by omega) (by omega)
theorem c_imix_l {m : Nat} {Bf : Nat → Nat} (hm : m ≤ 120) (hB : ∀ j, Bf j < 1000) (hi2 : hh.1 2 = some (.inr (4, [.ref 3, .int (nI m)]))) (hi3 : hh.1 3 = some (mNA 120 Bf)) {s s9 : Int64} : ∀ (n : Nat) (k : Nat), k + n = m → Zn g zX4_mixInto 13 [some (.ref 2), some (.long s9), none, some (.long (hF (fun k => lI (Bf k)) k s)), none, some (.int (nI k))] [] (hh) 0 0 (fun r' h' => r' = .inl (some (.long (hF (fun k => lI (Bf k)) m s))) ∧ h' = (hh)) := by
  intro n
  induction n with
  | zero =>
    intro k hn0
    refine zn_iload (pc := 13) rfl rfl ?_
    refine zn_aload_n (pc := 15) rfl rfl ?_
    refine zn_get (pc := 16) (v := .int (nI m)) rfl hi2 rfl ?_
    refine zn_icmp_geN (pc := 19) (tgt := 41) (x := k) (y := m) rfl rfl (by omega) (by omega) (fun c1 => ?_) (fun c1 => ?_)
    · refine zn_lload_n (pc := 41) rfl rfl ?_
      have e8 : k = m := by omega
      exact zx_l (pc := 42) rfl rfl (by rw [e8]) rfl
    · exfalso; omega
  | succ n ih =>
    intro k hn0
    refine zn_iload (pc := 13) rfl rfl ?_
    refine zn_aload_n (pc := 15) rfl rfl ?_
    refine zn_get (pc := 16) (v := .int (nI m)) rfl hi2 rfl ?_
    refine zn_icmp_geN (pc := 19) (tgt := 41) (x := k) (y := m) rfl rfl (by omega) (by omega) (fun c1 => ?_) (fun c1 => ?_)
    · refine zn_lload_n (pc := 41) rfl rfl ?_
      have e8 : k = m := by omega
      exact zx_l (pc := 42) rfl rfl (by rw [e8]) rfl
    · refine zn_lload_n (pc := 22) rfl rfl ?_
      refine zn_aload_n (pc := 23) rfl rfl ?_
      refine zn_get (pc := 24) (v := .ref 3) rfl hi2 rfl ?_
      refine zn_iload (pc := 27) rfl rfl ?_
      refine zn_naLd (pc := 29) (o := 3) (n := 120) (Z := Bf) (j := k) rfl hi3 (by omega) (Nat.le_of_ble_eq_true rfl) ?_
      refine zn_i2l (pc := 30) rfl ?_
      refine zn_callSx (pc := 31) (J := zX9_mix) (as := [.long (hF (fun k => lI (Bf k)) k s), .long ((nI (Bf k)).toInt64)]) (rest := []) rfl (by decide) rfl rfl rfl rfl (Nat.le_of_ble_eq_true rfl) (Nat.le_of_ble_eq_true rfl) (Nat.le_of_ble_eq_true rfl) (Nat.le_of_ble_eq_true rfl) (c_mix (s := (hF (fun k => lI (Bf k)) k s)) (x := ((nI (Bf k)).toInt64))) ?_
      refine zn_lstore_n (pc := 34) (L' := [some (.ref 2), some (.long s9), none, some (.long (hx (hF (fun k => lI (Bf k)) k s) ((nI (Bf k)).toInt64))), none, some (.int (nI k))]) rfl (by decide) rfl ?_
      refine zn_iincN (pc := 35) (L' := [some (.ref 2), some (.long s9), none, some (.long (hx (hF (fun k => lI (Bf k)) k s) ((nI (Bf k)).toInt64))), none, some (.int (nI (k + 1)))]) 1 rfl rfl rfl (by decide) rfl ?_
      refine zn_goto (pc := 38) (tgt := 13) rfl rfl ?_
      exact ih (k + 1) (by omega)
theorem c_imix  {m : Nat} {Bf : Nat → Nat} (hm : m ≤ 120) (hB : ∀ j, Bf j < 1000) (hi2 : hh.1 2 = some (.inr (4, [.ref 3, .int (nI m)]))) (hi3 : hh.1 3 = some (mNA 120 Bf)) {s : Int64} : Zx g zX4_mixInto [.ref 2, .long s] (hh) (some (.long (hF (fun k => lI (Bf k)) m (hx s (lI m))))) (hh) := by
  show Zn g zX4_mixInto 0 [some (.ref 2), some (.long s), none, none, none, none] [] (hh) 0 0 _
  refine zn_lload_n (pc := 0) rfl rfl ?_
  refine zn_aload_n (pc := 1) rfl rfl ?_
  refine zn_get (pc := 2) (v := .int (nI m)) rfl hi2 rfl ?_
  refine zn_i2l (pc := 5) rfl ?_
  refine zn_callSx (pc := 6) (J := zX9_mix) (as := [.long s, .long ((nI m).toInt64)]) (rest := []) rfl (by decide) rfl rfl rfl rfl (Nat.le_of_ble_eq_true rfl) (Nat.le_of_ble_eq_true rfl) (Nat.le_of_ble_eq_true rfl) (Nat.le_of_ble_eq_true rfl) (c_mix (s := s) (x := ((nI m).toInt64))) ?_
  refine zn_lstore_n (pc := 9) (L' := [some (.ref 2), some (.long s), none, some (.long (hx s ((nI m).toInt64))), none, none]) rfl (by decide) rfl ?_
  refine zn_iconstN (pc := 10) 0 rfl rfl ?_
  refine zn_istore (pc := 11) (L' := [some (.ref 2), some (.long s), none, some (.long (hx s ((nI m).toInt64))), none, some (.int (nI 0))]) rfl (by decide) rfl ?_
  exact c_imix_l hm hB hi2 hi3 m 0 (by omega)
end m1
