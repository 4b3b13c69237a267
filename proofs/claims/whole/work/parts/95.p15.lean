section p15
/-! the mean is a number -/
def nn64 (n : Nat) : Prop := n < 18446744073709551616 ∧ (n / 4503599627370496 % 2048 = 2047 → n % 4503599627370496 = 0)
theorem nn_asm (s : Bool) {E T : Nat} (h : (E ≤ 2046 ∧ T < 4503599627370496) ∨ (E = 2047 ∧ T = 0)) : nn64 (FP.Core.assemble FP.Core.b64 s E T) := by
  have e : FP.Core.assemble FP.Core.b64 s E T = (s.toNat * 2048 + E) * 4503599627370496 + T := rfl
  rw [e]
  have hs : s.toNat ≤ 1 := by cases s <;> decide
  unfold nn64
  omega
theorem b64_tails : FP.Core.b64.tails = 4503599627370496 := rfl
theorem b64_qmin : FP.Core.b64.qmin = -1074 := by decide
theorem b64_qmax : FP.Core.b64.qmax = 971 := by decide
theorem nn_fin (s : Bool) {c : Nat} {q : Int} (hc : c < 9007199254740992) (hq : q ≤ 971) : nn64 (FP.Core.encode FP.Core.b64 (.fin s c q)) := by
  show nn64 (if c < FP.Core.b64.tails then FP.Core.assemble FP.Core.b64 s 0 c else FP.Core.assemble FP.Core.b64 s ((q - FP.Core.b64.qmin).toNat + 1) (c - FP.Core.b64.tails))
  rw [b64_tails, b64_qmin]
  split
  · exact nn_asm s (Or.inl ⟨by omega, by omega⟩)
  · exact nn_asm s (Or.inl ⟨by omega, by omega⟩)
theorem nn_inf (s : Bool) : nn64 (FP.Core.encode FP.Core.b64 (.inf s)) := nn_asm s (Or.inr ⟨rfl, rfl⟩)
theorem nn_bound (s : Bool) {c : Nat} {q : Int} (hc : c < 9007199254740992) : nn64 (FP.Core.encode FP.Core.b64 (FP.Core.bound FP.Core.b64 s c q)) := by
  unfold FP.Core.bound
  rw [b64_qmax]
  split
  · rename_i h
    exact nn_fin s hc h
  · exact nn_inf s
theorem nn_rr (s : Bool) (a b : Nat) (e : Int) : nn64 (FP.Core.encode FP.Core.b64 (FP.Core.roundRatio FP.Core.b64 s a b e)) := by
  unfold FP.Core.roundRatio
  split
  · rw [b64_qmin]
    exact nn_fin s (by omega) (by omega)
  · unfold FP.Core.roundAt FP.Core.settle
    split
    · rename_i h
      exact nn_bound s h
    · rw [b64_tails]
      exact nn_bound s (by omega)
theorem nn_dec {n : Nat} (h : nn64 n) : FP.Core.decode FP.Core.b64 n ≠ .nan := by
  unfold FP.Core.decode
  split
  · rename_i h1
    have h2 : FP.Core.fieldT FP.Core.b64 n = 0 := h.2 h1
    rw [if_pos h2]
    intro q
    cases q
  · split <;> (intro q; cases q)
theorem toN64 {n : Nat} (h : n < 18446744073709551616) : (UInt64.ofNat n).toNat = n := by
  rw [UInt64.toNat_ofNat']
  exact Nat.mod_eq_of_lt h
theorem l2d_nn (x : Int64) : FP.Core.decode FP.Core.b64 (FP.l2d x).toNat ≠ .nan := by
  have h : nn64 (FP.Core.encode FP.Core.b64 (FP.Core.round FP.Core.b64 (FP.Core.ofInt x.toInt))) := nn_rr _ _ _ _
  show FP.Core.decode FP.Core.b64 (UInt64.ofNat (FP.Core.encode FP.Core.b64 (FP.Core.round FP.Core.b64 (FP.Core.ofInt x.toInt)))).toNat ≠ .nan
  rw [toN64 h.1]
  exact nn_dec h
def isf : FP.Core.Datum → Bool
  | .fin _ d _ => d != 0
  | _ => false
theorem i2d_f : ∀ n : Nat, n < 25 → 1 ≤ n → isf (FP.Core.decode FP.Core.b64 (FP.i2d (nI (10000 * n))).toNat) = true := by decide +kernel
theorem div_nn {x y : UInt64} (hx : FP.Core.decode FP.Core.b64 x.toNat ≠ .nan) (hy : isf (FP.Core.decode FP.Core.b64 y.toNat) = true) : nn64 (FP.ddiv x y).toNat := by
  have h : nn64 (FP.Core.encode FP.Core.b64 (FP.Core.quotient FP.Core.b64 (FP.Core.decode FP.Core.b64 x.toNat) (FP.Core.decode FP.Core.b64 y.toNat))) := by
    cases hb : FP.Core.decode FP.Core.b64 y.toNat with
    | nan => rw [hb] at hy; cases hy
    | inf t => rw [hb] at hy; cases hy
    | fin t d r =>
      rw [hb] at hy
      have hd : d ≠ 0 := by
        have : (d != 0) = true := hy
        simpa using this
      cases ha : FP.Core.decode FP.Core.b64 x.toNat with
      | nan => exact absurd ha hx
      | inf s => exact nn_inf _
      | fin s c q =>
        show nn64 (FP.Core.encode FP.Core.b64 (if d = 0 then (if c = 0 then .nan else .inf (s != t)) else FP.Core.roundRatio FP.Core.b64 (s != t) c d (q - r)))
        rw [if_neg hd]
        exact nn_rr _ _ _ _
  show nn64 (UInt64.ofNat (FP.Core.encode FP.Core.b64 (FP.Core.quotient FP.Core.b64 (FP.Core.decode FP.Core.b64 x.toNat) (FP.Core.decode FP.Core.b64 y.toNat)))).toNat
  rw [toN64 h.1]
  exact h
theorem vf_of {r : UInt64} (h : nn64 r.toNat) : vf_n64 r := by
  unfold vf_n64
  rw [UInt64.le_iff_toNat_le, UInt64.toNat_and]
  have e1 : (0x7fffffffffffffff : UInt64).toNat = 2 ^ 63 - 1 := by decide
  have e2 : (0x7ff0000000000000 : UInt64).toNat = 9218868437227405312 := by decide
  rw [e1, e2, Nat.and_two_pow_sub_one_eq_mod]
  obtain ⟨h1, h2⟩ := h
  have e3 : (2 : Nat) ^ 63 = 9223372036854775808 := by decide
  rw [e3]
  omega
theorem mean_vf (s : Int64) {n : Nat} (h1 : 1 ≤ n) (h2 : n ≤ 24) : vf_n64 (FP.ddiv (FP.l2d s) (FP.i2d (nI (10000 * n)))) := vf_of (div_nn (l2d_nn s) (i2d_f n (by omega) h1))
theorem mean_nn (s : Int64) {n : Nat} (h1 : 1 ≤ n) (h2 : n ≤ 24) : FP.Core.decode FP.Core.b64 (FP.ddiv (FP.l2d s) (FP.i2d (nI (10000 * n)))).toNat ≠ .nan := nn_dec (div_nn (l2d_nn s) (i2d_f n (by omega) h1))
theorem dcmp_self {r : UInt64} (h : FP.Core.decode FP.Core.b64 r.toNat ≠ .nan) : FP.dcmp r r = some .eq := by
  show FP.Core.order (FP.Core.decode FP.Core.b64 r.toNat) (FP.Core.decode FP.Core.b64 r.toNat) = some .eq
  cases hd : FP.Core.decode FP.Core.b64 r.toNat with
  | nan => exact absurd hd h
  | inf s =>
    show some (compare _ _) = some Ordering.eq
    rw [Int.compare_eq_eq.mpr rfl]
  | fin s c q =>
    show some (compare _ _) = some Ordering.eq
    rw [Int.compare_eq_eq.mpr rfl]
theorem dc0_nn : FP.Core.decode FP.Core.b64 (FP.dconst0).toNat ≠ .nan := by decide +kernel
end p15
