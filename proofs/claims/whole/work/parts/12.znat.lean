/-! rules over natural numbers (nI n), and calls that answer by a function -/
section zNat
variable {g : zG} {I J : zI} {pc a b : Nat} {L L' : zL} {st rest as : List Value} {h h1 : zH} {mc ms : Nat} {Q : zR → zH → Prop}
def Zx (g : zG) (J : zI) (as : List Value) (h : zH) (r : Option Value) (h1 : zH) : Prop := Zm g J as h 0 0 (fun r' h' => r' = .inl r ∧ h' = h1)
abbrev Zf (g : zG) (J : zI) (as : List Value) (h : zH) (v : Value) : Prop := Zx g J as h (some v) h
theorem zn_constN (v : Nat) (x : Int32) (hx : x = nI v) (k : Zn g I pc L (.int (nI v) :: st) h mc ms Q) : Zn g I pc L (.int x :: st) h mc ms Q := by rw [hx]; exact k
theorem zn_iconstN {n : Int} (v : Nat) (hf : zF I pc = some (.iconst n, 1, a, b)) (hv : Int32.ofInt n = nI v) (k : Zn g I (pc + 1) L (.int (nI v) :: st) h mc ms Q) : Zn g I pc L st h mc ms Q := zn_iconst (nI v) hv hf k
theorem zn_bipushN {n : Int} (v : Nat) (hf : zF I pc = some (.bipush n, 2, a, b)) (hv : (Int8.ofInt n).toInt32 = nI v) (k : Zn g I (pc + 2) L (.int (nI v) :: st) h mc ms Q) : Zn g I pc L st h mc ms Q := zn_bipush (nI v) hv hf k
theorem zn_sipushN {n : Int} (v : Nat) (hf : zF I pc = some (.sipush n, 3, a, b)) (hv : (Int16.ofInt n).toInt32 = nI v) (k : Zn g I (pc + 3) L (.int (nI v) :: st) h mc ms Q) : Zn g I pc L st h mc ms Q := zn_sipush (nI v) hv hf k
theorem zn_iaddN {x y : Nat} (hf : zF I pc = some (.iadd, 1, a, b)) (k : Zn g I (pc + 1) L (.int (nI (x + y)) :: st) h mc ms Q) : Zn g I pc L (.int (nI y) :: .int (nI x) :: st) h mc ms Q := zn_iadd hf (by rw [nI_add]; exact k)
theorem zn_isubN {x y : Nat} (hf : zF I pc = some (.isub, 1, a, b)) (hle : y ≤ x) (k : Zn g I (pc + 1) L (.int (nI (x - y)) :: st) h mc ms Q) : Zn g I pc L (.int (nI y) :: .int (nI x) :: st) h mc ms Q := zn_isub hf (by rw [pk_sub hle]; exact k)
theorem zn_imulN {x y : Nat} (hf : zF I pc = some (.imul, 1, a, b)) (k : Zn g I (pc + 1) L (.int (nI (x * y)) :: st) h mc ms Q) : Zn g I pc L (.int (nI y) :: .int (nI x) :: st) h mc ms Q := zn_imul hf (by rw [pk_mul]; exact k)
theorem zn_idivN {x y : Nat} (hf : zF I pc = some (.idiv, 1, a, b)) (hx : x < 2 ^ 31) (h0 : 0 < y) (hy : y < 2 ^ 31) (k : Zn g I (pc + 1) L (.int (nI (x / y)) :: st) h mc ms Q) : Zn g I pc L (.int (nI y) :: .int (nI x) :: st) h mc ms Q := zn_idiv hf (nI_ne0 h0 hy) (by rw [pk_div hx h0 hy]; exact k)
theorem zn_iremN {x y : Nat} (hf : zF I pc = some (.irem, 1, a, b)) (hx : x < 2 ^ 31) (h0 : 0 < y) (hy : y < 2 ^ 31) (k : Zn g I (pc + 1) L (.int (nI (x % y)) :: st) h mc ms Q) : Zn g I pc L (.int (nI y) :: .int (nI x) :: st) h mc ms Q := zn_irem hf (nI_ne0 h0 hy) (by rw [pk_rem hx h0 hy]; exact k)
theorem zn_iincN {i : Nat} {n : Int} {x : Nat} (c : Nat) (hf : zF I pc = some (.iinc i n, 3, a, b)) (hc : Int32.ofInt n = nI c) (hx : L[i]? = some (some (.int (nI x)))) (hi : i < zMx I) (hs : zset1 L i (.int (nI (x + c))) = L') (k : Zn g I (pc + 3) L' st h mc ms Q) : Zn g I pc L st h mc ms Q := zn_iinc hf hx (by rw [hc, nI_add]) hi hs k
/-- counting down -/
theorem zn_idecN {i : Nat} {n : Int} {x : Nat} (hf : zF I pc = some (.iinc i n, 3, a, b)) (hc : Int32.ofInt n = -1) (hx : L[i]? = some (some (.int (nI (x + 1))))) (hi : i < zMx I) (hs : zset1 L i (.int (nI x)) = L') (k : Zn g I (pc + 3) L' st h mc ms Q) : Zn g I pc L st h mc ms Q := zn_iinc hf hx (by rw [hc]; exact pk_m1 x) hi hs k
theorem zn_icmp_eqN {x y : Nat} {off : Int} {tgt : Nat} (hf : zF I pc = some (.if_icmp .eq off, 3, a, b)) (ht : (pc : Int) + off = (tgt : Int)) (hx : x < 2 ^ 31) (hy : y < 2 ^ 31) (kt : x = y → Zn g I tgt L st h mc ms Q) (kf : x ≠ y → Zn g I (pc + 3) L st h mc ms Q) : Zn g I pc L (.int (nI y) :: .int (nI x) :: st) h mc ms Q := zn_icmp_eq hf ht (fun z => kt ((nI_eq hx hy).mp z)) (fun z => kf fun q => z ((nI_eq hx hy).mpr q))
theorem zn_icmp_neN {x y : Nat} {off : Int} {tgt : Nat} (hf : zF I pc = some (.if_icmp .ne off, 3, a, b)) (ht : (pc : Int) + off = (tgt : Int)) (hx : x < 2 ^ 31) (hy : y < 2 ^ 31) (kt : x ≠ y → Zn g I tgt L st h mc ms Q) (kf : x = y → Zn g I (pc + 3) L st h mc ms Q) : Zn g I pc L (.int (nI y) :: .int (nI x) :: st) h mc ms Q := zn_icmp_ne hf ht (fun z => kt fun q => z ((nI_eq hx hy).mpr q)) (fun z => kf ((nI_eq hx hy).mp z))
theorem zn_icmp_ltN {x y : Nat} {off : Int} {tgt : Nat} (hf : zF I pc = some (.if_icmp .lt off, 3, a, b)) (ht : (pc : Int) + off = (tgt : Int)) (hx : x < 2 ^ 31) (hy : y < 2 ^ 31) (kt : x < y → Zn g I tgt L st h mc ms Q) (kf : y ≤ x → Zn g I (pc + 3) L st h mc ms Q) : Zn g I pc L (.int (nI y) :: .int (nI x) :: st) h mc ms Q := zn_icmp_lt hf ht (fun z => kt ((nI_ltI hx hy).mp z)) (fun z => kf (by rcases Nat.lt_or_ge x y with q | q; exact absurd ((nI_ltI hx hy).mpr q) z; exact q))
theorem zn_icmp_geN {x y : Nat} {off : Int} {tgt : Nat} (hf : zF I pc = some (.if_icmp .ge off, 3, a, b)) (ht : (pc : Int) + off = (tgt : Int)) (hx : x < 2 ^ 31) (hy : y < 2 ^ 31) (kt : y ≤ x → Zn g I tgt L st h mc ms Q) (kf : x < y → Zn g I (pc + 3) L st h mc ms Q) : Zn g I pc L (.int (nI y) :: .int (nI x) :: st) h mc ms Q := zn_icmp_ge hf ht (fun z => kt ((nI_leI hy hx).mp z)) (fun z => kf (by rcases Nat.lt_or_ge x y with q | q; exact q; exact absurd ((nI_leI hy hx).mpr q) z))
theorem zn_icmp_gtN {x y : Nat} {off : Int} {tgt : Nat} (hf : zF I pc = some (.if_icmp .gt off, 3, a, b)) (ht : (pc : Int) + off = (tgt : Int)) (hx : x < 2 ^ 31) (hy : y < 2 ^ 31) (kt : y < x → Zn g I tgt L st h mc ms Q) (kf : x ≤ y → Zn g I (pc + 3) L st h mc ms Q) : Zn g I pc L (.int (nI y) :: .int (nI x) :: st) h mc ms Q := zn_icmp_gt hf ht (fun z => kt ((nI_ltI hy hx).mp z)) (fun z => kf (by rcases Nat.lt_or_ge y x with q | q; exact absurd ((nI_ltI hy hx).mpr q) z; exact q))
theorem zn_icmp_leN {x y : Nat} {off : Int} {tgt : Nat} (hf : zF I pc = some (.if_icmp .le off, 3, a, b)) (ht : (pc : Int) + off = (tgt : Int)) (hx : x < 2 ^ 31) (hy : y < 2 ^ 31) (kt : x ≤ y → Zn g I tgt L st h mc ms Q) (kf : y < x → Zn g I (pc + 3) L st h mc ms Q) : Zn g I pc L (.int (nI y) :: .int (nI x) :: st) h mc ms Q := zn_icmp_le hf ht (fun z => kt ((nI_leI hx hy).mp z)) (fun z => kf (by rcases Nat.lt_or_ge y x with q | q; exact q; exact absurd ((nI_leI hx hy).mpr q) z))
theorem zn_if_eqN {x : Nat} {off : Int} {tgt : Nat} (hf : zF I pc = some (.ifCond .eq off, 3, a, b)) (ht : (pc : Int) + off = (tgt : Int)) (hx : x < 2 ^ 31) (kt : x = 0 → Zn g I tgt L st h mc ms Q) (kf : x ≠ 0 → Zn g I (pc + 3) L st h mc ms Q) : Zn g I pc L (.int (nI x) :: st) h mc ms Q := zn_if_eq hf ht (fun z => kt ((nI_eq hx (by omega)).mp z)) (fun z => kf fun q => z (by rw [q]; rfl))
theorem zn_if_neN {x : Nat} {off : Int} {tgt : Nat} (hf : zF I pc = some (.ifCond .ne off, 3, a, b)) (ht : (pc : Int) + off = (tgt : Int)) (hx : x < 2 ^ 31) (kt : x ≠ 0 → Zn g I tgt L st h mc ms Q) (kf : x = 0 → Zn g I (pc + 3) L st h mc ms Q) : Zn g I pc L (.int (nI x) :: st) h mc ms Q := zn_if_ne hf ht (fun z => kt fun q => z (by rw [q]; rfl)) (fun z => kf ((nI_eq hx (by omega)).mp z))
theorem zn_if_ltN {x : Nat} {off : Int} {tgt : Nat} (hf : zF I pc = some (.ifCond .lt off, 3, a, b)) (ht : (pc : Int) + off = (tgt : Int)) (hx : x < 2 ^ 31) (kf : Zn g I (pc + 3) L st h mc ms Q) : Zn g I pc L (.int (nI x) :: st) h mc ms Q := zn_if_lt hf ht (fun z => absurd z (nI_pos hx)) (fun _ => kf)
theorem zn_if_geN {x : Nat} {off : Int} {tgt : Nat} (hf : zF I pc = some (.ifCond .ge off, 3, a, b)) (ht : (pc : Int) + off = (tgt : Int)) (hx : x < 2 ^ 31) (kt : Zn g I tgt L st h mc ms Q) : Zn g I pc L (.int (nI x) :: st) h mc ms Q := zn_if_ge hf ht (fun _ => kt) (fun z => absurd (nI_pos' hx) z)
theorem zn_if_gtN {x : Nat} {off : Int} {tgt : Nat} (hf : zF I pc = some (.ifCond .gt off, 3, a, b)) (ht : (pc : Int) + off = (tgt : Int)) (hx : x < 2 ^ 31) (kt : 0 < x → Zn g I tgt L st h mc ms Q) (kf : x = 0 → Zn g I (pc + 3) L st h mc ms Q) : Zn g I pc L (.int (nI x) :: st) h mc ms Q := zn_if_gt hf ht (fun z => kt ((nI_ltI (by omega) hx).mp z)) (fun z => kf (by rcases Nat.eq_zero_or_pos x with q | q; exact q; exact absurd ((nI_ltI (by omega) hx).mpr q) z))
theorem zn_if_leN {x : Nat} {off : Int} {tgt : Nat} (hf : zF I pc = some (.ifCond .le off, 3, a, b)) (ht : (pc : Int) + off = (tgt : Int)) (hx : x < 2 ^ 31) (kt : x = 0 → Zn g I tgt L st h mc ms Q) (kf : 0 < x → Zn g I (pc + 3) L st h mc ms Q) : Zn g I pc L (.int (nI x) :: st) h mc ms Q := zn_if_le hf ht (fun z => kt (by rcases Nat.eq_zero_or_pos x with q | q; exact q; exact absurd z (nI_nle q hx))) (fun z => kf (by rcases Nat.eq_zero_or_pos x with q | q; exact absurd (show nI x ≤ 0 by rw [q]; decide) z; exact q))
theorem zn_ialdN {o n j : Nat} {f : Nat → Int32} (hf : zF I pc = some (.iaload, 1, a, b)) (ho : h.1 o = some (.inl (n, .inl f))) (hj : j < n) (hn : n < 2 ^ 31) (K : Zn g I (pc + 1) L (.int (f j) :: st) h mc ms Q) : Zn g I pc L (.int (nI j) :: .ref o :: st) h mc ms Q := zn_iald hf ho (vp_in_nI hj hn) (by rw [nI_clamp (by omega)]; exact K)
theorem zn_laldN {o n j : Nat} {f : Nat → Int64} (hf : zF I pc = some (.laload, 1, a, b)) (hp : 0 < o) (ho : h.1 o = some (.inl (n, .inr (.inl f)))) (hj : j < n) (hn : n < 2 ^ 31) (K : Zn g I (pc + 1) L (.long (f j) :: st) h mc ms Q) : Zn g I pc L (.int (nI j) :: .ref o :: st) h mc ms Q := zn_lald hf hp ho (vp_in_nI hj hn) (by rw [nI_clamp (by omega)]; exact K)
theorem zn_daldN {o n j : Nat} {f : Nat → UInt64} (hf : zF I pc = some (.daload, 1, a, b)) (hp : 0 < o) (ho : h.1 o = some (.inl (n, .inr (.inr (.inr (.inl f)))))) (hj : j < n) (hn : n < 2 ^ 31) (K : Zn g I (pc + 1) L (.double (f j) :: st) h mc ms Q) : Zn g I pc L (.int (nI j) :: .ref o :: st) h mc ms Q := zn_dald hf hp ho (vp_in_nI hj hn) (by rw [nI_clamp (by omega)]; exact K)
theorem zn_aaldN {o n j : Nat} {f : Nat → Option Nat} (hf : zF I pc = some (.aaload, 1, a, b)) (hp : 0 < o) (ho : h.1 o = some (.inl (n, .inr (.inr (.inr (.inr f)))))) (hj : j < n) (hn : n < 2 ^ 31) (K : Zn g I (pc + 1) L (va_rf (f j) :: st) h mc ms Q) : Zn g I pc L (.int (nI j) :: .ref o :: st) h mc ms Q := zn_aald hf hp ho (vp_in_nI hj hn) (by rw [nI_clamp (by omega)]; exact K)
theorem zn_iastN {o n j : Nat} {f : Nat → Int32} {x : Int32} (hf : zF I pc = some (.iastore, 1, a, b)) (hp : 0 < o) (ho : h.1 o = some (.inl (n, .inl f))) (hj : j < n) (hn : n < 2 ^ 31) (K : Zn g I (pc + 1) L st (zup h o (.inl (n, .inl (upd f j x)))) mc ms Q) : Zn g I pc L (.int x :: .int (nI j) :: .ref o :: st) h mc ms Q := zn_iast hf hp ho (vp_in_nI hj hn) (by rw [nI_clamp (by omega)]; exact K)
theorem zn_lastN {o n j : Nat} {f : Nat → Int64} {x : Int64} (hf : zF I pc = some (.lastore, 1, a, b)) (hp : 0 < o) (ho : h.1 o = some (.inl (n, .inr (.inl f)))) (hj : j < n) (hn : n < 2 ^ 31) (K : Zn g I (pc + 1) L st (zup h o (.inl (n, .inr (.inl (vp_updL f j x))))) mc ms Q) : Zn g I pc L (.long x :: .int (nI j) :: .ref o :: st) h mc ms Q := zn_last hf hp ho (vp_in_nI hj hn) (by rw [nI_clamp (by omega)]; exact K)
theorem zn_dastN {o n j : Nat} {f : Nat → UInt64} {x : UInt64} (hf : zF I pc = some (.dastore, 1, a, b)) (hp : 0 < o) (ho : h.1 o = some (.inl (n, .inr (.inr (.inr (.inl f)))))) (hj : j < n) (hn : n < 2 ^ 31) (K : Zn g I (pc + 1) L st (zup h o (.inl (n, .inr (.inr (.inr (.inl (va_up f j x))))))) mc ms Q) : Zn g I pc L (.double x :: .int (nI j) :: .ref o :: st) h mc ms Q := zn_dast hf hp ho (vp_in_nI hj hn) (by rw [nI_clamp (by omega)]; exact K)
theorem zn_aastN {o n v j : Nat} {vs : List Value} {f : Nat → Option Nat} (hf : zF I pc = some (.aastore, 1, a, b)) (hp : 0 < o) (ho : h.1 o = some (.inl (n, .inr (.inr (.inr (.inr f)))))) (hv : h.1 v = some (.inr (7, vs))) (hj : j < n) (hn : n < 2 ^ 31) (K : Zn g I (pc + 1) L st (zup h o (.inl (n, .inr (.inr (.inr (.inr (va_up f j (some v)))))))) mc ms Q) : Zn g I pc L (.ref v :: .int (nI j) :: .ref o :: st) h mc ms Q := zn_aast hf hp ho hv (vp_in_nI hj hn) (by rw [nI_clamp (by omega)]; exact K)
/-- a method of an object that answers r and leaves the heap h1 -/
theorem zn_callVx {idx o ci : Nat} {fs : List Value} {r : Option Value} (hf : zF I pc = some (.invokevirtual idx, 3, a, b)) (hJ : zP a = J) (hst : st = as.reverse ++ .ref o :: rest) (hb : as.length = b) (ho : h.1 o = some (.inr (ci, fs))) (hcl : (vwCl[ci]?).map (fun q => q.1) = some (zNm J).cls) (hexI : zEx I = []) (hexJ : zEx J = [])
    (hfr : zFr J + 1 ≤ zFr I) (hlo : 8 + (zMx J + 11) + zLo J ≤ zLo I) (hsl : (zsl (.ref o :: as)).length ≤ zMx J) (hre : (rest.map fun v => v.category).sum ≤ 8)
    (hm : Zx g J (.ref o :: as) h r h1) (K : Zn g I (pc + 3) L (r.toList ++ rest) h1 mc ms Q) : Zn g I pc L st h mc ms Q :=
  zn_mono (zn_callV (mc2 := mc) (ms2 := ms) (Q := Q) hf hJ hst hb ho hcl hexI hexJ hfr hlo hsl hre hm (fun v h' q => by obtain ⟨q1, q2⟩ := q; cases q1; subst q2; exact K) (fun E h' q => by obtain ⟨q1, -⟩ := q; cases q1)) (by omega) (by omega) (fun _ _ q => q)
theorem zn_callSx {idx : Nat} {r : Option Value} (hf : zF I pc = some (.invokestatic idx, 3, a, b)) (ha : a < 5000) (hJ : zP a = J) (hst : st = as.reverse ++ rest) (hb : as.length = b) (hexJ : zEx J = [])
    (hfr : zFr J + 1 ≤ zFr I) (hlo : 8 + (zMx J + 11) + zLo J ≤ zLo I) (hsl : (zsl as).length ≤ zMx J) (hre : (rest.map fun v => v.category).sum ≤ 8)
    (hm : Zx g J as h r h1) (K : Zn g I (pc + 3) L (r.toList ++ rest) h1 mc ms Q) : Zn g I pc L st h mc ms Q :=
  zn_mono (zn_callS (mc2 := mc) (ms2 := ms) (Q := Q) hf ha hJ hst hb hexJ hfr hlo hsl hre (fun E h' q => by obtain ⟨q1, -⟩ := q; cases q1) hm (fun v h' q => by obtain ⟨q1, q2⟩ := q; cases q1; subst q2; exact K)) (by omega) (by omega) (fun _ _ q => q)
/-- ends -/
theorem zx_i {v : Int32} {r : Option Value} (hf : zF I pc = some (.ireturn, 1, a, b)) (hr : zRt I = some .int) (hv : r = some (.int v)) (hh : h = h1) : Zn g I pc L [.int v] h mc ms (fun r' h' => r' = .inl r ∧ h' = h1) := zn_iret hf hr ⟨by rw [hv], hh⟩
theorem zx_z {v : Int32} {r : Option Value} (hf : zF I pc = some (.ireturn, 1, a, b)) (hr : zRt I = some .boolean) (hn : v &&& 1 = v) (hv : r = some (.int v)) (hh : h = h1) : Zn g I pc L [.int v] h mc ms (fun r' h' => r' = .inl r ∧ h' = h1) := zn_zret hf hr hn ⟨by rw [hv], hh⟩
theorem zx_l {v : Int64} {r : Option Value} (hf : zF I pc = some (.lreturn, 1, a, b)) (hr : zRt I = some .long) (hv : r = some (.long v)) (hh : h = h1) : Zn g I pc L [.long v] h mc ms (fun r' h' => r' = .inl r ∧ h' = h1) := zn_lret hf hr ⟨by rw [hv], hh⟩
theorem zx_v {r : Option Value} (hf : zF I pc = some (.return_, 1, a, b)) (hr : zRt I = none) (hv : r = none) (hh : h = h1) : Zn g I pc L [] h mc ms (fun r' h' => r' = .inl r ∧ h' = h1) := zn_vret hf hr ⟨by rw [hv], hh⟩
theorem zup_s (h : zH) (i : Nat) (o : zO) : (zup h i o).1 i = some o := by simp [zup]
theorem zup_n {h : zH} {i j : Nat} {o : zO} (hn : j ≠ i) : (zup h i o).1 j = h.1 j := by simp [zup, hn]
theorem zup_u (h : zH) (i : Nat) (o o' : zO) : zup (zup h i o) i o' = zup h i o' := by
  unfold zup
  refine Prod.ext (funext fun j => ?_) rfl
  by_cases hj : j = i <;> simp [hj]
/-- a truth as an int -/
def zb (p : Prop) [Decidable p] : Int32 := if p then 1 else 0
theorem zb_and (p : Prop) [Decidable p] : zb p &&& 1 = zb p := by unfold zb; split <;> decide
theorem zb_t {p : Prop} [Decidable p] (hp : p) : zb p = 1 := if_pos hp
theorem zb_f {p : Prop} [Decidable p] (hp : ¬ p) : zb p = 0 := if_neg hp
theorem zn_if_eqB {p : Prop} [Decidable p] {off : Int} {tgt : Nat} (hf : zF I pc = some (.ifCond .eq off, 3, a, b)) (ht : (pc : Int) + off = (tgt : Int)) (kt : ¬ p → Zn g I tgt L st h mc ms Q) (kf : p → Zn g I (pc + 3) L st h mc ms Q) : Zn g I pc L (.int (zb p) :: st) h mc ms Q := zn_if_eq hf ht (fun z => kt fun hp => by rw [zb_t hp] at z; exact absurd z (by decide)) (fun z => kf (by by_cases hp : p; exact hp; exact absurd (zb_f hp) z))
theorem zn_if_neB {p : Prop} [Decidable p] {off : Int} {tgt : Nat} (hf : zF I pc = some (.ifCond .ne off, 3, a, b)) (ht : (pc : Int) + off = (tgt : Int)) (kt : p → Zn g I tgt L st h mc ms Q) (kf : ¬ p → Zn g I (pc + 3) L st h mc ms Q) : Zn g I pc L (.int (zb p) :: st) h mc ms Q := zn_if_ne hf ht (fun z => kt (by by_cases hp : p; exact hp; exact absurd (zb_f hp) z)) (fun z => kf fun hp => by rw [zb_t hp] at z; exact absurd z (by decide))
theorem zb_iff {p q : Prop} [Decidable p] [Decidable q] (e : p ↔ q) : zb p = zb q := by
  unfold zb
  by_cases hp : p
  · rw [if_pos hp, if_pos (e.mp hp)]
  · rw [if_neg hp, if_neg (fun z => hp (e.mpr z))]
abbrev zin (x : Int32) (n : Nat) : Prop := 0 ≤ x.toInt ∧ x.toInt < (n : Int)
theorem zin_ex {x : Int32} {n : Nat} (hx : zin x n) (hn : n < 2 ^ 31) : ∃ l : Nat, l < n ∧ x = nI l := vp_in_of (vp_in_iff.mpr hx) hn
theorem zin_nI {l n : Nat} (hl : l < 2 ^ 31) : zin (nI l) n ↔ l < n := by
  unfold zin
  rw [nI_toInt hl]
  omega
theorem zin_w {x : Int32} {n : Nat} (h0 : 1 ≤ n) (hn : n < 2 ^ 31) : (nI 0 ≤ x ∧ x ≤ nI (n - 1)) ↔ zin x n := by
  rw [Int32.le_iff_toInt_le, Int32.le_iff_toInt_le, nI_toInt (by omega), nI_toInt (by omega)]
  unfold zin
  omega
theorem zin_le {x : Int32} {n : Nat} (hn : n < 2 ^ 31 - 1) : (nI 0 ≤ x ∧ x ≤ nI n) ↔ zin x (n + 1) := by
  rw [Int32.le_iff_toInt_le, Int32.le_iff_toInt_le, nI_toInt (by omega), nI_toInt (by omega)]
  unfold zin
  omega
theorem zn_heq {h' : zH} (e : h = h') (K : Zn g I pc L st h' mc ms Q) : Zn g I pc L st h mc ms Q := by rw [e]; exact K
theorem zn_seq {st' : List Value} (e : st = st') (K : Zn g I pc L st' h mc ms Q) : Zn g I pc L st h mc ms Q := by rw [e]; exact K
end zNat
