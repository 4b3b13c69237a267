section m1
variable {g : zG} {h hh : zH} {F : Nat → Nat} {S : Int64} {z : Nat → Nat} {A : Nat → Nat → Nat} {X : Nat → Int32}
theorem zn_joinV {I : zI} {pc pj : Nat} {L : zL} {st : List Value} {mc ms : Nat} {Q : zR → zH → Prop} {v : Value} (K : Zn g I pj L (v :: st) hh mc ms Q) (D : Zn g I pj L (v :: st) hh mc ms Q → Zn g I pc L st hh mc ms Q) : Zn g I pc L st hh mc ms Q := D K
theorem mh_eq {F' : Nat → Nat} {z' : Nat → Nat} {A' : Nat → Nat → Nat} (e1 : F = F') (e2 : z = z') (e3 : A = A') : mhp h F S z A X = mhp h F' S z' A' X := by rw [e1, e2, e3]
theorem mln1 : mln 1 = 3289 := by simp [mln]
theorem mln2 : mln 2 = 32890 := by simp [mln]
theorem mln3 : mln 3 = 32890 := by simp [mln]
theorem mln4 : mln 4 = 7 := by simp [mln]
theorem mln5 : mln 5 = 120 := by simp [mln]
theorem mln6 : mln 6 = 168 := by simp [mln]
theorem mln7 : mln 7 = 168 := by simp [mln]
theorem mln8 : mln 8 = 168 := by simp [mln]
theorem mln9 : mln 9 = 168 := by simp [mln]
theorem mln10 : mln 10 = 168 := by simp [mln]
theorem mln11 : mln 11 = 168 := by simp [mln]
theorem mln12 : mln 12 = 168 := by simp [mln]
theorem mln13 : mln 13 = 24 := by simp [mln]
theorem zm_ldA {I : zI} {pc a b : Nat} {L : zL} {st : List Value} {mc ms : Nat} {Q : zR → zH → Prop} {i n j o : Nat} {Z : Nat → Nat} (hf : zF I pc = some (.iaload, 1, a, b)) (h1 : 1 ≤ i) (h2 : i ≤ 13) (ho : 51 + i = o) (hl : mln i = n) (hZ : A i = Z) (hj : j < n) (hn : n < 2 ^ 31) (K : Zn g I (pc + 1) L (.int (nI (Z j)) :: st) (mhp h F S z A X) mc ms Q) : Zn g I pc L (.int (nI j) :: .ref o :: st) (mhp h F S z A X) mc ms Q := by
  subst ho; subst hl; subst hZ
  exact zn_naLd hf (mh_a h1 h2) hj hn K
theorem va_upS {α : Type} (f : Nat → α) (i : Nat) (v : α) : va_up f i v i = v := by simp [va_up]
theorem va_upN {α : Type} {f : Nat → α} {i j : Nat} {v : α} (hn : j ≠ i) : va_up f i v j = f j := by simp [va_up, hn]
theorem va_self {α : Type} (f : Nat → α) (i : Nat) : va_up f i (f i) = f := by
  funext j
  by_cases hj : j = i <;> simp [va_up, hj]
theorem nI_sgn {x : Int32} {n : Nat} (hn : n < 2 ^ 31) : x = nI n ↔ x.toInt = n := by rw [← Int32.toInt_inj, nI_toInt hn]
theorem m_isPlace  (hz : mOK z) (x y k : Int32) : Zx g zX10_isPlace [.ref 50, .int x, .int y, .int k] (mhp h F S z A X) (some (.int (zb (mPlace z x y k)))) (mhp h F S z A X) := by
  have h0 := hz.1
  have h1 := hz.2.1
  show Zn g zX10_isPlace 0 [some (.ref 50), some (.int x), some (.int y), some (.int k)] [] (mhp h F S z A X) 0 0 _
  refine zn_aload_n (pc := 0) rfl rfl ?_
  refine zn_iload_n (pc := 1) rfl rfl ?_
  refine zn_iload_n (pc := 2) rfl rfl ?_
  refine zn_callVx (pc := 3) (J := zX10_isCell) (o := 50) (as := [.int x, .int y]) (rest := []) rfl rfl rfl rfl rfl rfl rfl rfl (Nat.le_of_ble_eq_true rfl) (Nat.le_of_ble_eq_true rfl) (Nat.le_of_ble_eq_true rfl) (Nat.le_of_ble_eq_true rfl) (m_isCell hz x y) ?_
  refine zn_if_eqB (pc := 6) (tgt := 27) rfl rfl (fun c1 => ?_) (fun c1 => ?_)
  · refine zn_iconstN (pc := 27) 0 rfl rfl ?_
    exact zx_z (pc := 28) rfl rfl (by decide) (by rw [zb_f (by exact fun q => c1 q.1)]; rfl) rfl
  · obtain ⟨hq1, hq2⟩ := id c1
    obtain ⟨l, hl, rfl⟩ := zin_ex hq1 (by omega)
    have el := nI_clamp (n := l) (by omega)
    rw [el] at hq2
    have hzl := hz.2.2.1 l hl
    obtain ⟨c, hc, rfl⟩ := zin_ex hq2 (by omega)
    have ec := nI_clamp (n := c) (by omega)
    have hzc := hz.2.2.2 l c hl hc
    refine zn_iload_n (pc := 9) rfl rfl ?_
    refine zn_iconstN (pc := 10) 0 rfl rfl ?_
    refine zn_aload_n (pc := 11) rfl rfl ?_
    refine zn_iload_n (pc := 12) rfl rfl ?_
    refine zn_iload_n (pc := 13) rfl rfl ?_
    refine zn_callVx (pc := 14) (J := zX10_lengthOf) (o := 50) (as := [.int (nI l), .int (nI c)]) (rest := [.int (nI 0), .int k]) rfl rfl rfl rfl rfl rfl rfl rfl (Nat.le_of_ble_eq_true rfl) (Nat.le_of_ble_eq_true rfl) (Nat.le_of_ble_eq_true rfl) (Nat.le_of_ble_eq_true rfl) (m_lengthOf (l := l) (c := c) (by omega) (by omega)) ?_
    refine zn_callSx (pc := 17) (J := zX10_within) (as := [.int k, .int (nI 0), .int (nI (z (25 + 8 * l + c)))]) (rest := []) rfl (by decide) rfl rfl rfl rfl (Nat.le_of_ble_eq_true rfl) (Nat.le_of_ble_eq_true rfl) (Nat.le_of_ble_eq_true rfl) (Nat.le_of_ble_eq_true rfl) (m_within k (nI 0) (nI (z (25 + 8 * l + c)))) ?_
    refine zn_if_eqB (pc := 20) (tgt := 27) rfl rfl (fun c2 => ?_) (fun c2 => ?_)
    · refine zn_iconstN (pc := 27) 0 rfl rfl ?_
      exact zx_z (pc := 28) rfl rfl (by decide) (by rw [zb_f (by unfold mPlace; rw [el, ec]; exact fun q => ‹¬ _› ((zin_le (by omega)).mpr q.2))]; rfl) rfl
    · refine zn_iconstN (pc := 23) 1 rfl rfl ?_
      refine zn_goto (pc := 24) (tgt := 28) rfl rfl ?_
      exact zx_z (pc := 28) rfl rfl (by decide) (by rw [zb_t (by unfold mPlace; rw [el, ec]; exact ⟨c1, (zin_le (by omega)).mp ‹_›⟩)]; rfl) rfl
/-- u, its first rows given up, k - 3289 places moved -/
def msv (u : Nat → Nat) (k : Nat) : Nat → Nat := fun j => if j < k - 3289 then u (j + 3289) else u j
/-- u with k places of z from b on -/
def mrow (u z : Nat → Nat) (b k : Nat) : Nat → Nat := fun j => if b ≤ j ∧ j < b + k then z (j - b) else u j
def msave (u z : Nat → Nat) (n : Nat) : Nat → Nat := if n = 10 then mrow (msv u 32890) z 29601 3289 else mrow u z (3289 * n) 3289
theorem m_save_2 {u : Nat → Nat} {m : Nat} (hm : m ≤ 9) : ∀ (n : Nat) (k : Nat), k + n = 3289 → Zn g zX10_save 53 [some (.ref 50), some (.int (nI k))] [] (mhp h (va_up F 5 m) S z (va_up A 2 (mrow u z (3289 * m) k)) X) 0 0 (fun r' h' => r' = .inl none ∧ h' = (mhp h (va_up (va_up F 5 (m + 1)) 6 0) S z (va_up A 2 (mrow u z (3289 * m) 3289)) X)) := by
  intro n
  induction n with
  | zero =>
    intro k hn0
    refine zn_iload_n (pc := 53) rfl rfl ?_
    refine zn_sipushN (pc := 54) 3289 rfl rfl ?_
    refine zn_icmp_geN (pc := 57) (tgt := 87) (x := k) (y := 3289) rfl rfl (by omega) (by omega) (fun c1 => ?_) (fun c1 => ?_)
    · refine zn_aload_n (pc := 87) rfl rfl ?_
      refine zn_dup (pc := 88) rfl rfl ?_
      refine zn_get (pc := 89) (v := .int (nI m)) rfl rfl rfl ?_
      refine zn_iconstN (pc := 92) 1 rfl rfl ?_
      refine zn_iaddN (pc := 93) (x := m) (y := 1) rfl ?_
      refine zm_putI (pc := 94) (k := 5) (v := (m + 1)) rfl (by decide) rfl rfl ?_
      refine zn_aload_n (pc := 97) rfl rfl ?_
      refine zn_iconstN (pc := 98) 0 rfl rfl ?_
      refine zm_putI (pc := 99) (k := 6) (v := 0) rfl (by decide) rfl rfl ?_
      obtain rfl : k = 3289 := by omega
      exact zx_v (pc := 102) rfl rfl rfl (mh_eq (by rw [bx_uu]) rfl rfl)
    · refine zn_aload_n (pc := 60) rfl rfl ?_
      refine zn_get (pc := 61) (v := .ref 53) rfl rfl rfl ?_
      refine zn_sipushN (pc := 64) 3289 rfl rfl ?_
      refine zn_aload_n (pc := 67) rfl rfl ?_
      refine zn_get (pc := 68) (v := .int (nI m)) rfl rfl rfl ?_
      refine zn_imulN (pc := 71) (x := 3289) (y := m) rfl ?_
      refine zn_iload_n (pc := 72) rfl rfl ?_
      refine zn_iaddN (pc := 73) (x := (3289 * m)) (y := k) rfl ?_
      refine zn_aload_n (pc := 74) rfl rfl ?_
      refine zn_get (pc := 75) (v := .ref 51) rfl rfl rfl ?_
      refine zn_iload_n (pc := 78) rfl rfl ?_
      refine zn_naLd (pc := 79) (o := 51) (n := 3289) (Z := z) (j := k) rfl rfl (by omega) (Nat.le_of_ble_eq_true rfl) ?_
      refine zm_stA (pc := 80) (i := 2) (n := 32890) (j := ((3289 * m) + k)) (v := (z k)) rfl (by decide) (by decide) rfl mln2 (by omega) (Nat.le_of_ble_eq_true rfl) ?_
      refine zn_iincN (pc := 81) (L' := [some (.ref 50), some (.int (nI (k + 1)))]) 1 rfl rfl rfl (by decide) rfl ?_
      refine zn_goto (pc := 84) (tgt := 53) rfl rfl ?_
      exfalso; omega
  | succ n ih =>
    intro k hn0
    refine zn_iload_n (pc := 53) rfl rfl ?_
    refine zn_sipushN (pc := 54) 3289 rfl rfl ?_
    refine zn_icmp_geN (pc := 57) (tgt := 87) (x := k) (y := 3289) rfl rfl (by omega) (by omega) (fun c1 => ?_) (fun c1 => ?_)
    · refine zn_aload_n (pc := 87) rfl rfl ?_
      refine zn_dup (pc := 88) rfl rfl ?_
      refine zn_get (pc := 89) (v := .int (nI m)) rfl rfl rfl ?_
      refine zn_iconstN (pc := 92) 1 rfl rfl ?_
      refine zn_iaddN (pc := 93) (x := m) (y := 1) rfl ?_
      refine zm_putI (pc := 94) (k := 5) (v := (m + 1)) rfl (by decide) rfl rfl ?_
      refine zn_aload_n (pc := 97) rfl rfl ?_
      refine zn_iconstN (pc := 98) 0 rfl rfl ?_
      refine zm_putI (pc := 99) (k := 6) (v := 0) rfl (by decide) rfl rfl ?_
      obtain rfl : k = 3289 := by omega
      exact zx_v (pc := 102) rfl rfl rfl (mh_eq (by rw [bx_uu]) rfl rfl)
    · refine zn_aload_n (pc := 60) rfl rfl ?_
      refine zn_get (pc := 61) (v := .ref 53) rfl rfl rfl ?_
      refine zn_sipushN (pc := 64) 3289 rfl rfl ?_
      refine zn_aload_n (pc := 67) rfl rfl ?_
      refine zn_get (pc := 68) (v := .int (nI m)) rfl rfl rfl ?_
      refine zn_imulN (pc := 71) (x := 3289) (y := m) rfl ?_
      refine zn_iload_n (pc := 72) rfl rfl ?_
      refine zn_iaddN (pc := 73) (x := (3289 * m)) (y := k) rfl ?_
      refine zn_aload_n (pc := 74) rfl rfl ?_
      refine zn_get (pc := 75) (v := .ref 51) rfl rfl rfl ?_
      refine zn_iload_n (pc := 78) rfl rfl ?_
      refine zn_naLd (pc := 79) (o := 51) (n := 3289) (Z := z) (j := k) rfl rfl (by omega) (Nat.le_of_ble_eq_true rfl) ?_
      refine zm_stA (pc := 80) (i := 2) (n := 32890) (j := ((3289 * m) + k)) (v := (z k)) rfl (by decide) (by decide) rfl mln2 (by omega) (Nat.le_of_ble_eq_true rfl) ?_
      refine zn_iincN (pc := 81) (L' := [some (.ref 50), some (.int (nI (k + 1)))]) 1 rfl rfl rfl (by decide) rfl ?_
      refine zn_goto (pc := 84) (tgt := 53) rfl rfl ?_
      refine zn_heq (h' := mhp h (va_up F 5 m) S z (va_up A 2 (mrow u z (3289 * m) (k + 1))) X) (mh_eq rfl rfl ?_) (ih (k + 1) (by omega))
      · rw [bx_uu]
        refine congrArg (va_up A 2) ?_
        funext j
        simp only [va_up, ↓reduceIte, mrow]
        repeat' split
        all_goals first | omega | exact congrArg u (by omega) | exact congrArg z (by omega)
theorem m_save_1 {u : Nat → Nat} : ∀ (n : Nat) (k : Nat), k + n = 32890 → 3289 ≤ k → Zn g zX10_save 13 [some (.ref 50), some (.int (nI k))] [] (mhp h (va_up F 5 10) S z (va_up A 2 (msv u k)) X) 0 0 (fun r' h' => r' = .inl none ∧ h' = (mhp h (va_up (va_up F 5 10) 6 0) S z (va_up A 2 (mrow (msv u 32890) z 29601 3289)) X)) := by
  intro n
  induction n with
  | zero =>
    intro k hn0 hn1
    refine zn_iload_n (pc := 13) rfl rfl ?_
    refine zn_ldc (pc := 14) (v := 32890) rfl ?_
    refine zn_icmp_geN (pc := 16) (tgt := 41) (x := k) (y := 32890) rfl rfl (by omega) (by omega) (fun c1 => ?_) (fun c1 => ?_)
    · refine zn_aload_n (pc := 41) rfl rfl ?_
      refine zn_dup (pc := 42) rfl rfl ?_
      refine zn_get (pc := 43) (v := .int (nI 10)) rfl rfl rfl ?_
      refine zn_iconstN (pc := 46) 1 rfl rfl ?_
      refine zn_isubN (pc := 47) (x := 10) (y := 1) rfl (by omega) ?_
      refine zm_putI (pc := 48) (k := 5) (v := (10 - 1)) rfl (by decide) rfl rfl ?_
      refine zn_iconstN (pc := 51) 0 rfl rfl ?_
      refine zn_istore_n (pc := 52) (L' := [some (.ref 50), some (.int (nI 0))]) rfl (by decide) rfl ?_
      obtain rfl : k = 32890 := by omega
      refine zn_heq (h' := mhp h (va_up F 5 9) S z (va_up A 2 (mrow (msv u 32890) z (3289 * 9) 0)) X) (mh_eq (by rw [bx_uu]) rfl (congrArg (va_up A 2) ?_)) (zn_sub (L' := [some (.ref 50), some (.int (nI 0))]) ⟨rfl, rfl, trivial⟩ (m_save_2 (u := msv u 32890) (m := 9) (by omega) 3289 0 (by omega)))
      · funext j
        simp only [mrow]
        split
        · omega
        · rfl
    · refine zn_aload_n (pc := 19) rfl rfl ?_
      refine zn_get (pc := 20) (v := .ref 53) rfl rfl rfl ?_
      refine zn_iload_n (pc := 23) rfl rfl ?_
      refine zn_sipushN (pc := 24) 3289 rfl rfl ?_
      refine zn_isubN (pc := 27) (x := k) (y := 3289) rfl (by omega) ?_
      refine zn_aload_n (pc := 28) rfl rfl ?_
      refine zn_get (pc := 29) (v := .ref 53) rfl rfl rfl ?_
      refine zn_iload_n (pc := 32) rfl rfl ?_
      refine zm_ldA (pc := 33) (i := 2) (n := 32890) (Z := (msv u k)) (j := k) rfl (by decide) (by decide) rfl mln2 (va_upS _ _ _) (by omega) (Nat.le_of_ble_eq_true rfl) ?_
      refine zm_stA (pc := 34) (i := 2) (n := 32890) (j := (k - 3289)) (v := ((msv u k) k)) rfl (by decide) (by decide) rfl mln2 (by omega) (Nat.le_of_ble_eq_true rfl) ?_
      refine zn_iincN (pc := 35) (L' := [some (.ref 50), some (.int (nI (k + 1)))]) 1 rfl rfl rfl (by decide) rfl ?_
      refine zn_goto (pc := 38) (tgt := 13) rfl rfl ?_
      exfalso; omega
  | succ n ih =>
    intro k hn0 hn1
    refine zn_iload_n (pc := 13) rfl rfl ?_
    refine zn_ldc (pc := 14) (v := 32890) rfl ?_
    refine zn_icmp_geN (pc := 16) (tgt := 41) (x := k) (y := 32890) rfl rfl (by omega) (by omega) (fun c1 => ?_) (fun c1 => ?_)
    · refine zn_aload_n (pc := 41) rfl rfl ?_
      refine zn_dup (pc := 42) rfl rfl ?_
      refine zn_get (pc := 43) (v := .int (nI 10)) rfl rfl rfl ?_
      refine zn_iconstN (pc := 46) 1 rfl rfl ?_
      refine zn_isubN (pc := 47) (x := 10) (y := 1) rfl (by omega) ?_
      refine zm_putI (pc := 48) (k := 5) (v := (10 - 1)) rfl (by decide) rfl rfl ?_
      refine zn_iconstN (pc := 51) 0 rfl rfl ?_
      refine zn_istore_n (pc := 52) (L' := [some (.ref 50), some (.int (nI 0))]) rfl (by decide) rfl ?_
      obtain rfl : k = 32890 := by omega
      refine zn_heq (h' := mhp h (va_up F 5 9) S z (va_up A 2 (mrow (msv u 32890) z (3289 * 9) 0)) X) (mh_eq (by rw [bx_uu]) rfl (congrArg (va_up A 2) ?_)) (zn_sub (L' := [some (.ref 50), some (.int (nI 0))]) ⟨rfl, rfl, trivial⟩ (m_save_2 (u := msv u 32890) (m := 9) (by omega) 3289 0 (by omega)))
      · funext j
        simp only [mrow]
        split
        · omega
        · rfl
    · refine zn_aload_n (pc := 19) rfl rfl ?_
      refine zn_get (pc := 20) (v := .ref 53) rfl rfl rfl ?_
      refine zn_iload_n (pc := 23) rfl rfl ?_
      refine zn_sipushN (pc := 24) 3289 rfl rfl ?_
      refine zn_isubN (pc := 27) (x := k) (y := 3289) rfl (by omega) ?_
      refine zn_aload_n (pc := 28) rfl rfl ?_
      refine zn_get (pc := 29) (v := .ref 53) rfl rfl rfl ?_
      refine zn_iload_n (pc := 32) rfl rfl ?_
      refine zm_ldA (pc := 33) (i := 2) (n := 32890) (Z := (msv u k)) (j := k) rfl (by decide) (by decide) rfl mln2 (va_upS _ _ _) (by omega) (Nat.le_of_ble_eq_true rfl) ?_
      refine zm_stA (pc := 34) (i := 2) (n := 32890) (j := (k - 3289)) (v := ((msv u k) k)) rfl (by decide) (by decide) rfl mln2 (by omega) (Nat.le_of_ble_eq_true rfl) ?_
      refine zn_iincN (pc := 35) (L' := [some (.ref 50), some (.int (nI (k + 1)))]) 1 rfl rfl rfl (by decide) rfl ?_
      refine zn_goto (pc := 38) (tgt := 13) rfl rfl ?_
      refine zn_heq (h' := mhp h (va_up F 5 10) S z (va_up A 2 (msv u (k + 1))) X) (mh_eq rfl rfl ?_) (ih (k + 1) (by omega) (by omega))
      · rw [bx_uu]
        refine congrArg (va_up A 2) ?_
        funext j
        simp only [va_up, ↓reduceIte, msv]
        repeat' split
        all_goals first | omega | exact congrArg u (by omega) | exact congrArg z (by omega)
theorem m_save  {n : Nat} (hn : F 5 = n) (h10 : n ≤ 10) : Zx g zX10_save [.ref 50] (mhp h F S z A X) none (mhp h (va_up (va_up F 5 (min n 9 + 1)) 6 0) S z (va_up A 2 (msave (A 2) z n)) X) := by
  show Zn g zX10_save 0 [some (.ref 50), none] [] (mhp h F S z A X) 0 0 _
  refine zn_aload_n (pc := 0) rfl rfl ?_
  refine zn_get (pc := 1) (v := .int (nI (F 5))) rfl rfl rfl ?_
  refine zn_bipushN (pc := 4) 10 rfl rfl ?_
  refine zn_icmp_neN (pc := 6) (tgt := 51) (x := (F 5)) (y := 10) rfl rfl (by omega) (by omega) (fun c1 => ?_) (fun c1 => ?_)
  · have n10 : n ≠ 10 := by omega
    refine zn_iconstN (pc := 51) 0 rfl rfl ?_
    refine zn_istore_n (pc := 52) (L' := [some (.ref 50), some (.int (nI 0))]) rfl (by decide) rfl ?_
    rw [show msave (A 2) z n = mrow (A 2) z (3289 * n) 3289 from if_neg n10, show min n 9 + 1 = n + 1 by omega]
    refine zn_heq (h' := mhp h (va_up F 5 n) S z (va_up A 2 (mrow (A 2) z (3289 * n) 0)) X) (mh_eq (by rw [← hn, va_self]) rfl ?_) (m_save_2 (u := A 2) (m := n) (by omega) 3289 0 (by omega))
    · rw [show mrow (A 2) z (3289 * n) 0 = A 2 by funext j; simp only [mrow]; split; omega; rfl, va_self]
  · have e10 : n = 10 := by omega
    subst e10
    refine zn_sipushN (pc := 9) 3289 rfl rfl ?_
    refine zn_istore_n (pc := 12) (L' := [some (.ref 50), some (.int (nI 3289))]) rfl (by decide) rfl ?_
    refine zn_heq (h' := mhp h (va_up F 5 10) S z (va_up A 2 (msv (A 2) 3289)) X) (mh_eq (by rw [← hn, va_self]) rfl ?_) (m_save_1 (u := A 2) 29601 3289 (by omega) (by omega))
    · rw [show msv (A 2) 3289 = A 2 by funext j; simp [msv], va_self]
end m1
