/-! THE REFERENCE's HEAP: its object is 50, its rows 51 to 65; ints and rows as natural numbers -/
def mNA (n : Nat) (Z : Nat → Nat) : zO := .inl (n, .inl (fun j => nI (Z j)))
def mfl (F : Nat → Nat) (S : Int64) : List Value := [.int (nI (F 0)), .ref 51, .ref 52, .ref 53, .ref 54, .int (nI (F 5)), .int (nI (F 6)), .ref 55, .int (nI (F 8)), .int (nI (F 9)), .int (nI (F 10)), .int (nI (F 11)), .ref 56, .int (nI (F 13)), .ref 57, .ref 58, .ref 59, .ref 60, .ref 61, .ref 62, .ref 63, .ref 64, .ref 65, .long S]
def mln (j : Nat) : Nat := if j ≤ 1 then 3289 else if j ≤ 3 then 32890 else if j = 4 then 7 else if j = 5 then 120 else if j ≤ 12 then 168 else 24
def mhp (h : zH) (F : Nat → Nat) (S : Int64) (z : Nat → Nat) (A : Nat → Nat → Nat) (X : Nat → Int32) : zH :=
  (fun i => if i = 50 then some (.inr (9, mfl F S)) else if i = 51 then some (mNA 3289 z) else if i = 65 then some (.inl (192, .inl X)) else if 51 ≤ i ∧ i < 65 then some (mNA (mln (i - 51)) (A (i - 51))) else h.1 i, h.2)
section mRules
variable {g : zG} {I J : zI} {pc a b : Nat} {L L' : zL} {st rest as : List Value} {h h1 : zH} {mc ms : Nat} {Q : zR → zH → Prop} {F : Nat → Nat} {S : Int64} {z : Nat → Nat} {A : Nat → Nat → Nat} {X : Nat → Int32}
theorem mh_a {j : Nat} (h1 : 1 ≤ j) (h2 : j ≤ 13) : (mhp h F S z A X).1 (51 + j) = some (mNA (mln j) (A j)) := by
  unfold mhp
  have e : 51 + j - 51 = j := by omega
  simp only
  rw [if_neg (by omega), if_neg (by omega), if_neg (by omega), if_pos (by omega), e]
theorem nI_upd (Z : Nat → Nat) (k v : Nat) : upd (fun j => nI (Z j)) k (nI v) = fun j => nI (va_up Z k v j) := by
  funext j
  by_cases hj : j = k <;> simp [upd, va_up, hj]
theorem mh_z {z' : Nat → Nat} : zup (mhp h F S z A X) 51 (mNA 3289 z') = mhp h F S z' A X := by
  refine Prod.ext (funext fun i => ?_) rfl
  by_cases hi : i = 51
  · subst hi; simp [zup, mhp]
  · simp [zup, mhp, hi]
theorem mh_x {X' : Nat → Int32} : zup (mhp h F S z A X) 65 (.inl (192, .inl X')) = mhp h F S z A X' := by
  refine Prod.ext (funext fun i => ?_) rfl
  by_cases hi : i = 65
  · subst hi; simp [zup, mhp]
  · simp [zup, mhp, hi]
theorem mh_A {j : Nat} {Z' : Nat → Nat} (h1 : 1 ≤ j) (h2 : j ≤ 13) : zup (mhp h F S z A X) (51 + j) (mNA (mln j) Z') = mhp h F S z (va_up A j Z') X := by
  refine Prod.ext (funext fun i => ?_) rfl
  by_cases hi : i = 51 + j
  · subst hi
    rw [mh_a h1 h2, zup_s]
    simp [va_up]
  · show (zup _ _ _).1 i = _
    rw [zup_n hi]
    unfold mhp
    simp only
    by_cases c1 : i = 50
    · simp [c1]
    · by_cases c2 : i = 51
      · simp [c2]
      · by_cases c3 : i = 65
        · simp [c3]
        · by_cases c4 : 51 ≤ i ∧ i < 65
          · have : i - 51 ≠ j := by omega
            simp [c1, c2, c3, c4, va_up, this]
          · simp [c1, c2, c3, c4]
theorem mh_F {k v : Nat} (hk : (mfl F S).set k (.int (nI v)) = mfl (va_up F k v) S) : zup (mhp h F S z A X) 50 (.inr (9, (mfl F S).set k (.int (nI v)))) = mhp h (va_up F k v) S z A X := by
  rw [hk]
  refine Prod.ext (funext fun i => ?_) rfl
  by_cases hi : i = 50
  · subst hi; simp [zup, mhp]
  · simp [zup, mhp, hi]
theorem mh_S {S' : Int64} : zup (mhp h F S z A X) 50 (.inr (9, (mfl F S).set 23 (.long S'))) = mhp h F S' z A X := by
  refine Prod.ext (funext fun i => ?_) rfl
  by_cases hi : i = 50
  · subst hi; simp [zup, mhp, mfl]
  · simp [zup, mhp, hi]
theorem zn_naLd {o n j : Nat} {Z : Nat → Nat} (hf : zF I pc = some (.iaload, 1, a, b)) (ho : h.1 o = some (mNA n Z)) (hj : j < n) (hn : n < 2 ^ 31) (K : Zn g I (pc + 1) L (.int (nI (Z j)) :: st) h mc ms Q) : Zn g I pc L (.int (nI j) :: .ref o :: st) h mc ms Q := zn_ialdN hf ho hj hn K
theorem zn_naSt {o n j v : Nat} {Z : Nat → Nat} (hf : zF I pc = some (.iastore, 1, a, b)) (hp : 0 < o) (ho : h.1 o = some (mNA n Z)) (hj : j < n) (hn : n < 2 ^ 31) (K : Zn g I (pc + 1) L st (zup h o (mNA n (va_up Z j v))) mc ms Q) : Zn g I pc L (.int (nI v) :: .int (nI j) :: .ref o :: st) h mc ms Q := zn_iastN hf hp ho hj hn (by rw [nI_upd]; exact K)
theorem zm_stz {j v : Nat} (hf : zF I pc = some (.iastore, 1, a, b)) (hj : j < 3289) (K : Zn g I (pc + 1) L st (mhp h F S (va_up z j v) A X) mc ms Q) : Zn g I pc L (.int (nI v) :: .int (nI j) :: .ref 51 :: st) (mhp h F S z A X) mc ms Q := zn_naSt hf (by decide) rfl hj (by decide) (by rw [mh_z]; exact K)
theorem zm_stA {i n j v o : Nat} (hf : zF I pc = some (.iastore, 1, a, b)) (h1 : 1 ≤ i) (h2 : i ≤ 13) (ho : 51 + i = o) (hl : mln i = n) (hj : j < n) (hn : n < 2 ^ 31) (K : Zn g I (pc + 1) L st (mhp h F S z (va_up A i (va_up (A i) j v)) X) mc ms Q) : Zn g I pc L (.int (nI v) :: .int (nI j) :: .ref o :: st) (mhp h F S z A X) mc ms Q := by
  subst ho; subst hl
  exact zn_naSt hf (by omega) (mh_a h1 h2) hj hn (by rw [mh_A h1 h2]; exact K)
theorem zm_stX {j : Nat} {v : Int32} (hf : zF I pc = some (.iastore, 1, a, b)) (hj : j < 192) (K : Zn g I (pc + 1) L st (mhp h F S z A (upd X j v)) mc ms Q) : Zn g I pc L (.int v :: .int (nI j) :: .ref 65 :: st) (mhp h F S z A X) mc ms Q := zn_iastN hf (by decide) (n := 192) (f := X) rfl hj (by decide) (by rw [mh_x]; exact K)
theorem zm_putI {idx k v : Nat} (hf : zF I pc = some (.putfield idx, 3, 9, k)) (hk : k < 24) (hz : zty 9 k = .int) (hs : (mfl F S).set k (.int (nI v)) = mfl (va_up F k v) S) (K : Zn g I (pc + 3) L st (mhp h (va_up F k v) S z A X) mc ms Q) : Zn g I pc L (.int (nI v) :: .ref 50 :: st) (mhp h F S z A X) mc ms Q := by
  refine zn_put (fs := mfl F S) hf rfl hk ?_ ?_
  · rw [hz]; show (true && (Value.int (nI v) == Value.int (nI v))) = true; simp
  · rw [mh_F hs]; exact K
theorem zm_putL {idx : Nat} {v : Int64} (hf : zF I pc = some (.putfield idx, 3, 9, 23)) (K : Zn g I (pc + 3) L st (mhp h F v z A X) mc ms Q) : Zn g I pc L (.long v :: .ref 50 :: st) (mhp h F S z A X) mc ms Q := by
  refine zn_put (fs := mfl F S) hf rfl (show 23 < 24 by decide) ?_ ?_
  · show (true && (Value.long v == Value.long v)) = true; simp
  · rw [mh_S]; exact K
end mRules
