section p4
variable {z z' z2 : Nat → Nat} {l c l' c' : Nat}
/-! EDITS, CELL BY CELL: cell (l', c') of z' is cell (l, c) of z; line l' of z' is line l of z -/
def SC (z' : Nat → Nat) (l' c' : Nat) (z : Nat → Nat) (l c : Nat) : Prop := z' (25 + 8 * l' + c') = z (25 + 8 * l + c) ∧ ∀ k, k < 16 → z' (217 + 16 * (8 * l' + c') + k) = z (217 + 16 * (8 * l + c) + k)
def SL (z' : Nat → Nat) (l' : Nat) (z : Nat → Nat) (l : Nat) : Prop := z' (1 + l') = z (1 + l) ∧ ∀ c, c < 8 → SC z' l' c z l c
theorem SC.rfl : SC z l c z l c := ⟨Eq.refl _, fun _ _ => Eq.refl _⟩
theorem SL.rfl : SL z l z l := ⟨Eq.refl _, fun _ _ => SC.rfl⟩
theorem SC.trans {l2 c2 : Nat} (a : SC z2 l2 c2 z' l' c') (b : SC z' l' c' z l c) : SC z2 l2 c2 z l c := ⟨a.1.trans b.1, fun k hk => (a.2 k hk).trans (b.2 k hk)⟩
theorem SL.trans {l2 : Nat} (a : SL z2 l2 z' l') (b : SL z' l' z l) : SL z2 l2 z l := ⟨a.1.trans b.1, fun c hc => (a.2 c hc).trans (b.2 c hc)⟩
/-- a cell, a line that may be in a text -/
def GC (z : Nat → Nat) (l c : Nat) : Prop := z (25 + 8 * l + c) ≤ 16 ∧ ∀ k, k < z (25 + 8 * l + c) → 32 ≤ z (217 + 16 * (8 * l + c) + k)
def GL (z : Nat → Nat) (l : Nat) : Prop := 1 ≤ z (1 + l) ∧ z (1 + l) ≤ 8 ∧ ∀ c, c < z (1 + l) → GC z l c
theorem SC.gc (h : SC z' l' c' z l c) (q : GC z l c) : GC z' l' c' := by
  refine ⟨by rw [h.1]; exact q.1, fun k hk => ?_⟩
  rw [h.1] at hk
  have := q.1
  rw [h.2 k (by omega)]
  exact q.2 k hk
theorem SL.gl (h : SL z' l' z l) (q : GL z l) : GL z' l' := by
  refine ⟨by rw [h.1]; exact q.1, by rw [h.1]; exact q.2.1, fun c hc => ?_⟩
  rw [h.1] at hc
  have := q.2.1
  exact (h.2 c (by omega)).gc (q.2.2 c hc)
theorem tOK.gl (h : tOK z) (hl : l < z 0) : GL z l := ⟨(h.ok.2.2.1 l hl).1, (h.ok.2.2.1 l hl).2, fun c hc => ⟨h.ok.2.2.2 l c hl hc, fun k hk => h.sg l c k hl hc hk⟩⟩
theorem tOK.gc (h : tOK z) (hl : l < z 0) (hc : c < z (1 + l)) : GC z l c := (h.gl hl).2.2 c hc
theorem tOK_of (h0 : 1 ≤ z 0) (h24 : z 0 ≤ 24) (hb : ∀ j, z j < 1000) (hg : ∀ l, l < z 0 → GL z l) : tOK z :=
  ⟨⟨h0, h24, fun l hl => ⟨(hg l hl).1, (hg l hl).2.1⟩, fun l c hl hc => ((hg l hl).2.2 c hc).1⟩, hb, fun l c k hl hc hk => ((hg l hl).2.2 c hc).2 k hk⟩
theorem SC.fs_eq (h : SC z' l' c' z l c) (q : z (25 + 8 * l + c) ≤ 16) : fs z' l' c' = fs z l c := by
  unfold fs
  rw [h.1]
  refine pl_cg (fun i hi => ?_)
  rw [Nat.zero_add]
  exact h.2 i (by omega)
theorem SL.fL_eq (h : SL z' l' z l) (q : GL z l) : fL z' l' = fL z l := by
  unfold fL
  rw [h.1]
  refine fm_cg _ _ _ (fun c hc => ?_)
  have h8 := q.2.1
  rw [Nat.zero_add]
  unfold fc fe
  rw [(h.2 c (by omega)).fs_eq (q.2.2 c hc).1, h.1]
/-- what stands before a cell, behind a cell -/
theorem fpre_eq (h1 : ∀ i, i < l → SL z' i z i ∧ GL z i) (h2 : ∀ j, j < c → SC z' l j z l j ∧ GC z l j) (h3 : c < z' (1 + l)) (h4 : c < z (1 + l)) : fpre z' l c = fpre z l c := by
  unfold fpre
  rw [fm_cg (f := fL z') (f' := fL z) l 0 0 (fun i hi => by rw [Nat.zero_add]; exact (h1 i hi).1.fL_eq (h1 i hi).2), fm_cg (f := fc z' l) (f' := fc z l) c 0 0 (fun j hj => by
    rw [Nat.zero_add]
    unfold fc fe
    rw [(h2 j hj).1.fs_eq (h2 j hj).2.1, if_pos (by omega), if_pos (by omega)])]
theorem fpost_eq (h1 : z' (1 + l') - (c' + 1) = z (1 + l) - (c + 1)) (h2 : ∀ i, i < z (1 + l) - (c + 1) → SC z' l' (c' + 1 + i) z l (c + 1 + i) ∧ GC z l (c + 1 + i)) (h3 : z' 0 - (l' + 1) = z 0 - (l + 1)) (h4 : ∀ i, i < z 0 - (l + 1) → SL z' (l' + 1 + i) z (l + 1 + i) ∧ GL z (l + 1 + i)) : fpost z' l' c' = fpost z l c := by
  unfold fpost
  rw [h1, h3, fm_cg (f := fc z' l') (f' := fc z l) _ (c' + 1) (c + 1) (fun i hi => by
    unfold fc fe
    rw [(h2 i hi).1.fs_eq (h2 i hi).2.1]
    by_cases q : i + 1 < z (1 + l) - (c + 1)
    · rw [if_pos (by omega), if_pos (by omega)]
    · rw [if_neg (by omega), if_neg (by omega)]), fm_cg (f := fL z') (f' := fL z) _ (l' + 1) (l + 1) (fun i hi => (h4 i hi).1.fL_eq (h4 i hi).2)]
theorem fe_eq (h1 : z' (1 + l') - (c' + 1) = z (1 + l) - (c + 1)) : fe z' l' c' = fe z l c := by
  unfold fe
  by_cases q : c + 1 < z (1 + l)
  · rw [if_pos (by omega), if_pos q]
  · rw [if_neg (by omega), if_neg q]
theorem fpost_c (hc : c + 1 < z (1 + l)) : fpost z l c = fs z l (c + 1) ++ (fe z l (c + 1) :: fpost z l (c + 1)) := by
  unfold fpost
  rw [show z (1 + l) - (c + 1) = (z (1 + l) - (c + 1 + 1)) + 1 by omega]
  show (fc z l (c + 1) ++ fm (fc z l) (z (1 + l) - (c + 1 + 1)) (c + 1 + 1)) ++ _ = _
  unfold fc
  simp only [List.append_assoc, List.cons_append, List.nil_append]
theorem fpost_l (hc : c + 1 = z (1 + l)) (hl : l + 1 < z 0) (h1 : 1 ≤ z (1 + (l + 1))) : fpost z l c = fs z (l + 1) 0 ++ (fe z (l + 1) 0 :: fpost z (l + 1) 0) := by
  unfold fpost
  rw [hc, Nat.sub_self, show z 0 - (l + 1) = (z 0 - (l + 1 + 1)) + 1 by omega]
  show [] ++ (fL z (l + 1) ++ fm (fL z) (z 0 - (l + 1 + 1)) (l + 1 + 1)) = _
  rw [fL_at (c := 0) (by omega)]
  show [] ++ ((([] : List Nat) ++ (fc z (l + 1) 0 ++ _)) ++ _) = _
  unfold fc
  simp only [List.append_assoc, List.cons_append, List.nil_append]
theorem fpost_end (hc : c + 1 = z (1 + l)) (hl : l + 1 = z 0) : fpost z l c = [] := by
  unfold fpost
  rw [hc, Nat.sub_self, hl, Nat.sub_self]
  rfl
/-! pages as lists -/
def PL (Z : Nat → Nat) (sz : Nat) (X : List Nat) : Prop := pl Z sz 0 ++ [10] = X
theorem FL.toPL {Z : Nat → Nat} {sz : Nat} (h : FL z Z sz) : PL Z sz (fT z) := h
theorem PL.split {Z : Nat → Nat} {sz a : Nat} {X Y : List Nat} (h : PL Z sz (X ++ Y)) (ha : X.length = a) (hs : a ≤ sz) : pl Z a 0 = X ∧ pl Z (sz - a) a ++ [10] = Y := by
  unfold PL at h
  rw [show sz = a + (sz - a) by omega, pl_add, List.append_assoc, Nat.zero_add] at h
  exact List.append_inj h (by rw [pl_len, ha])
theorem PL.put {Z : Nat → Nat} {sz a x : Nat} {X Y : List Nat} (h : PL Z sz (X ++ Y)) (ha : X.length = a) (hs : a ≤ sz) : PL (va_up (va_cpy Z Z a (a + 1) (sz - a)) a x) (sz + 1) (X ++ x :: Y) := by
  obtain ⟨e1, e2⟩ := h.split ha hs
  unfold PL
  rw [show sz + 1 = a + (1 + (sz - a)) by omega, pl_add, pl_add, Nat.zero_add, List.append_assoc, List.append_assoc, ← e1, ← e2]
  congr 1
  · exact pl_cg (fun i hi => by simp only [va_up, va_cpy]; rw [if_neg (by omega), if_neg (by omega)])
  · show [_] ++ (_ ++ [10]) = x :: (_ ++ [10])
    rw [show va_up (va_cpy Z Z a (a + 1) (sz - a)) a x a = x from va_upS _ _ _]
    show x :: (_ ++ [10]) = x :: (_ ++ [10])
    congr 2
    exact pl_cg (fun i hi => by simp only [va_up, va_cpy]; rw [if_neg (by omega), if_pos (by omega)]; exact congrArg Z (by omega))
theorem PL.cut {Z : Nat → Nat} {sz a n : Nat} {X M Y : List Nat} (h : PL Z sz (X ++ (M ++ Y))) (ha : X.length = a) (hm : M.length = n) (hs : a + n ≤ sz) : PL (va_cpy Z Z (a + n) a (sz - a - n)) (sz - n) (X ++ Y) := by
  obtain ⟨e1, -⟩ := h.split ha (by omega)
  rw [← List.append_assoc] at h
  obtain ⟨-, e2⟩ := h.split (a := a + n) (by rw [List.length_append]; omega) hs
  unfold PL
  rw [show sz - n = a + (sz - (a + n)) by omega, pl_add, Nat.zero_add, List.append_assoc, ← e1, ← e2]
  congr 1
  · exact pl_cg (fun i hi => by simp only [va_cpy]; rw [if_neg (by omega)])
  · congr 1
    exact pl_cg (fun i hi => by simp only [va_cpy]; rw [if_pos (by omega)]; exact congrArg Z (by omega))
theorem PL.ins {Z Bf : Nat → Nat} {sz a m : Nat} {X Y : List Nat} (h : PL Z sz (X ++ Y)) (ha : X.length = a) (hs : a ≤ sz) : PL (zpi Z a m sz Bf m) (sz + m) (X ++ (pl (fun j => pcd (Bf j)) m 0 ++ Y)) := by
  obtain ⟨e1, e2⟩ := h.split ha hs
  unfold PL
  rw [show sz + m = a + (m + (sz - a)) by omega, pl_add, pl_add, Nat.zero_add, List.append_assoc, List.append_assoc, ← e1, ← e2]
  congr 1
  · exact pl_cg (fun i hi => by simp only [zpi, va_cpy]; rw [if_neg (by omega), if_neg (by omega)])
  · congr 1
    · exact pl_cg (fun i hi => by simp only [zpi]; rw [if_pos (by omega)]; exact congrArg (fun w => pcd (Bf w)) (by omega))
    · congr 1
      exact pl_cg (fun i hi => by simp only [zpi, va_cpy]; rw [if_neg (by omega), if_pos (by omega)]; exact congrArg Z (by omega))
theorem PL.len {Z : Nat → Nat} {sz : Nat} {X : List Nat} (h : PL Z sz X) : X.length = sz + 1 := by rw [← h, List.length_append, pl_len]; rfl
theorem pl_zaf {Z Y : Nat → Nat} {sz f k : Nat} : pl (zaf Z sz Y f k) (sz + k) 0 = pl Z sz 0 ++ pl Y k f := by
  rw [pl_add, Nat.zero_add]
  congr 1
  · exact pl_cg (fun i hi => by simp only [zaf]; rw [if_neg (by omega)])
  · exact pl_cg (fun i hi => by simp only [zaf]; rw [if_pos (by omega)]; exact congrArg Y (by omega))
theorem pl_up {Z : Nat → Nat} {sz x : Nat} : pl (va_up Z sz x) (sz + 1) 0 = pl Z sz 0 ++ [x] := by
  rw [pl_snoc, Nat.zero_add, va_upS]
  congr 1
  exact pl_cg (fun i hi => va_upN (by omega))
theorem pl_cpy0 {Y Z : Nat → Nat} {n : Nat} : pl (va_cpy Y Z 0 0 n) n 0 = pl Y n 0 := pl_cg (fun i hi => by simp only [va_cpy]; rw [if_pos (by omega)]; exact congrArg Y (by omega))

/-! the reference's steps on lines and cells -/
theorem mopl_a {i : Nat} (hi : i < l) (hl : l ≤ z 0) (h24 : z 0 < 24) : SL (mopl z l) i z i := ⟨by simp only [va_up, ↓reduceIte, mopl, mshf] <;> (repeat' split) <;> first | omega | exact congrArg z (by omega), fun c9 hc9 => ⟨by simp only [va_up, ↓reduceIte, mopl, mshf] <;> (repeat' split) <;> first | omega | exact congrArg z (by omega), fun k9 hk9 => by simp only [va_up, ↓reduceIte, mopl, mshf] <;> (repeat' split) <;> first | omega | exact congrArg z (by omega)⟩⟩
theorem mopl_b {i : Nat} (hi : l ≤ i) (hi2 : i < z 0) (h24 : z 0 < 24) : SL (mopl z l) (i + 1) z i := ⟨by simp only [va_up, ↓reduceIte, mopl, mshf] <;> (repeat' split) <;> first | omega | exact congrArg z (by omega), fun c9 hc9 => ⟨by simp only [va_up, ↓reduceIte, mopl, mshf] <;> (repeat' split) <;> first | omega | exact congrArg z (by omega), fun k9 hk9 => by simp only [va_up, ↓reduceIte, mopl, mshf] <;> (repeat' split) <;> first | omega | exact congrArg z (by omega)⟩⟩
theorem mopl_n (hl : l ≤ z 0) (h24 : z 0 < 24) : mopl z l (1 + l) = 1 ∧ mopl z l (25 + 8 * l + 0) = 0 := ⟨by simp only [va_up, ↓reduceIte, mopl, mshf] <;> (repeat' split) <;> first | omega | exact congrArg z (by omega), by simp only [va_up, ↓reduceIte, mopl, mshf] <;> (repeat' split) <;> first | omega | exact congrArg z (by omega)⟩
theorem mopl_bd (hb : ∀ j, z j < 1000) (h24 : z 0 ≤ 24) (j : Nat) : mopl z l j < 1000 := by
  have h1 := hb (j - 1)
  have h2 := hb (j - 8)
  have h3 := hb (j - 128)
  have h4 := hb j
  simp only [mopl, mshf, va_up]
  (repeat' split) <;> omega
theorem mcll_0 : mcll z l 0 = z 0 - 1 := by simp only [mcll, va_up, ↓reduceIte]
theorem mcll_a {i : Nat} (hi : i < l) (hl : l < z 0) (h24 : z 0 ≤ 24) : SL (mcll z l) i z i := ⟨by simp only [va_up, ↓reduceIte, mcll, mbck] <;> (repeat' split) <;> first | omega | exact congrArg z (by omega), fun c9 hc9 => ⟨by simp only [va_up, ↓reduceIte, mcll, mbck] <;> (repeat' split) <;> first | omega | exact congrArg z (by omega), fun k9 hk9 => by simp only [va_up, ↓reduceIte, mcll, mbck] <;> (repeat' split) <;> first | omega | exact congrArg z (by omega)⟩⟩
theorem mcll_b {i : Nat} (hi : l ≤ i) (hi2 : i + 1 < z 0) (h24 : z 0 ≤ 24) : SL (mcll z l) i z (i + 1) := ⟨by simp only [va_up, ↓reduceIte, mcll, mbck] <;> (repeat' split) <;> first | omega | exact congrArg z (by omega), fun c9 hc9 => ⟨by simp only [va_up, ↓reduceIte, mcll, mbck] <;> (repeat' split) <;> first | omega | exact congrArg z (by omega), fun k9 hk9 => by simp only [va_up, ↓reduceIte, mcll, mbck] <;> (repeat' split) <;> first | omega | exact congrArg z (by omega)⟩⟩
theorem mcll_bd (hb : ∀ j, z j < 1000) (j : Nat) : mcll z l j < 1000 := by
  have h1 := hb (j + 1)
  have h2 := hb (j + 8)
  have h3 := hb (j + 128)
  have h4 := hb j
  have h5 := hb 0
  simp only [mcll, mbck, va_up]
  (repeat' split) <;> omega
theorem mopc_0 : mopc z l c 0 = z 0 := by simp only [va_up, ↓reduceIte, mopc, mshc] <;> (repeat' split) <;> first | omega | exact congrArg z (by omega)
theorem mopc_l {i : Nat} (hi : i ≠ l) (hl : l < 24) (hi2 : i < 24) (h8 : z (1 + l) < 8) (hc : c ≤ z (1 + l)) : SL (mopc z l c) i z i := ⟨by simp only [va_up, ↓reduceIte, mopc, mshc] <;> (repeat' split) <;> first | omega | exact congrArg z (by omega), fun c9 hc9 => ⟨by simp only [va_up, ↓reduceIte, mopc, mshc] <;> (repeat' split) <;> first | omega | exact congrArg z (by omega), fun k9 hk9 => by simp only [va_up, ↓reduceIte, mopc, mshc] <;> (repeat' split) <;> first | omega | exact congrArg z (by omega)⟩⟩
theorem mopc_a {j : Nat} (hj : j < c) (hl : l < 24) (h8 : z (1 + l) < 8) (hc : c ≤ z (1 + l)) : SC (mopc z l c) l j z l j := ⟨by simp only [va_up, ↓reduceIte, mopc, mshc] <;> (repeat' split) <;> first | omega | exact congrArg z (by omega), fun k9 hk9 => by simp only [va_up, ↓reduceIte, mopc, mshc] <;> (repeat' split) <;> first | omega | exact congrArg z (by omega)⟩
theorem mopc_b {j : Nat} (hj : c ≤ j) (hj2 : j < z (1 + l)) (hl : l < 24) (h8 : z (1 + l) < 8) : SC (mopc z l c) l (j + 1) z l j := ⟨by simp only [va_up, ↓reduceIte, mopc, mshc] <;> (repeat' split) <;> first | omega | exact congrArg z (by omega), fun k9 hk9 => by simp only [va_up, ↓reduceIte, mopc, mshc] <;> (repeat' split) <;> first | omega | exact congrArg z (by omega)⟩
theorem mopc_n (hl : l < 24) (h8 : z (1 + l) < 8) (hc : c ≤ z (1 + l)) : mopc z l c (25 + 8 * l + c) = 0 := by simp only [va_up, ↓reduceIte, mopc, mshc] <;> (repeat' split) <;> first | omega | exact congrArg z (by omega)
theorem mopc_bd (hb : ∀ j, z j < 1000) (h8 : z (1 + l) ≤ 8) (j : Nat) : mopc z l c j < 1000 := by
  have h1 := hb (j - 1)
  have h2 := hb (j - 16)
  have h4 := hb j
  simp only [mopc, mshc, va_up]
  (repeat' split) <;> omega
theorem mclc_0 (hl : l < 24) : mclc z l c 0 = z 0 := by simp only [va_up, ↓reduceIte, mclc, mbcc] <;> (repeat' split) <;> first | omega | exact congrArg z (by omega)
theorem mclc_c (hl : l < 24) : mclc z l c (1 + l) = z (1 + l) - 1 := by simp only [va_up, ↓reduceIte, mclc, mbcc] <;> (repeat' split) <;> first | omega | exact congrArg z (by omega)
theorem mclc_l {i : Nat} (hi : i ≠ l) (hl : l < 24) (hi2 : i < 24) (h8 : z (1 + l) ≤ 8) (hc : c < z (1 + l)) : SL (mclc z l c) i z i := ⟨by simp only [va_up, ↓reduceIte, mclc, mbcc] <;> (repeat' split) <;> first | omega | exact congrArg z (by omega), fun c9 hc9 => ⟨by simp only [va_up, ↓reduceIte, mclc, mbcc] <;> (repeat' split) <;> first | omega | exact congrArg z (by omega), fun k9 hk9 => by simp only [va_up, ↓reduceIte, mclc, mbcc] <;> (repeat' split) <;> first | omega | exact congrArg z (by omega)⟩⟩
theorem mclc_a {j : Nat} (hj : j < c) (hl : l < 24) (h8 : z (1 + l) ≤ 8) (hc : c < z (1 + l)) : SC (mclc z l c) l j z l j := ⟨by simp only [va_up, ↓reduceIte, mclc, mbcc] <;> (repeat' split) <;> first | omega | exact congrArg z (by omega), fun k9 hk9 => by simp only [va_up, ↓reduceIte, mclc, mbcc] <;> (repeat' split) <;> first | omega | exact congrArg z (by omega)⟩
theorem mclc_d {j : Nat} (hj : c ≤ j) (hj2 : j + 1 < z (1 + l)) (hl : l < 24) (h8 : z (1 + l) ≤ 8) : SC (mclc z l c) l j z l (j + 1) := ⟨by simp only [va_up, ↓reduceIte, mclc, mbcc] <;> (repeat' split) <;> first | omega | exact congrArg z (by omega), fun k9 hk9 => by simp only [va_up, ↓reduceIte, mclc, mbcc] <;> (repeat' split) <;> first | omega | exact congrArg z (by omega)⟩
theorem mgt_0 {f t u : Nat} : mgt z l c f t u 0 = z 0 := mgt_lo (by omega) (by omega) (by omega)
theorem mgt_k {f t u i : Nat} (hi : i < 24) : mgt z l c f t u (1 + i) = z (1 + i) := mgt_lo (by omega) (by omega) (by omega)
theorem mgt_o {f t u i j : Nat} (hl : l < 24) (ht : t < 24) (hi : i < 24) (hj : j < 8) (hu : u < 8) (hc : c < 8) (h1 : 8 * i + j ≠ 8 * l + c) (h2 : 8 * i + j ≠ 8 * t + u) (hf : z (25 + 8 * t + u) + (z (25 + 8 * l + c) - f) ≤ 16) : SC (mgt z l c f t u) i j z i j := ⟨by simp only [va_up, ↓reduceIte, mgt, mtail] <;> (repeat' split) <;> first | omega | exact congrArg z (by omega), fun k9 hk9 => by simp only [va_up, ↓reduceIte, mgt, mtail] <;> (repeat' split) <;> first | omega | exact congrArg z (by omega)⟩
theorem mgt_l {f t u i : Nat} (hl : l < 24) (ht : t < 24) (hi : i < 24) (hu : u < 8) (hc : c < 8) (h1 : i ≠ l) (h2 : i ≠ t) (hf : z (25 + 8 * t + u) + (z (25 + 8 * l + c) - f) ≤ 16) : SL (mgt z l c f t u) i z i := ⟨mgt_k hi, fun j hj => mgt_o hl ht hi hj hu hc (by omega) (by omega) hf⟩
theorem mgt_f {f t u : Nat} (hl : l < 24) (hc : c < 8) (ht : t < 24) (hu : u < 8) (hn : 8 * t + u ≠ 8 * l + c) : mgt z l c f t u (25 + 8 * l + c) = f := by simp only [va_up, ↓reduceIte, mgt, mtail] <;> (repeat' split) <;> first | omega | exact congrArg z (by omega)
theorem mgt_t {f t u : Nat} (hl : l < 24) (hc : c < 8) (ht : t < 24) (hu : u < 8) (hn : 8 * t + u ≠ 8 * l + c) : mgt z l c f t u (25 + 8 * t + u) = z (25 + 8 * t + u) + (z (25 + 8 * l + c) - f) := by simp only [va_up, ↓reduceIte, mgt, mtail] <;> (repeat' split) <;> first | omega | exact congrArg z (by omega)
theorem mgt_fs {f t u k : Nat} (hl : l < 24) (hc : c < 8) (ht : t < 24) (hu : u < 8) (hn : 8 * t + u ≠ 8 * l + c) (hk : k < 16) (hf : z (25 + 8 * t + u) + (z (25 + 8 * l + c) - f) ≤ 16) : mgt z l c f t u (217 + 16 * (8 * l + c) + k) = z (217 + 16 * (8 * l + c) + k) := by simp only [va_up, ↓reduceIte, mgt, mtail] <;> (repeat' split) <;> first | omega | exact congrArg z (by omega)
theorem mgt_ts {f t u k : Nat} (hl : l < 24) (hc : c < 8) (ht : t < 24) (hu : u < 8) (hk : k < z (25 + 8 * t + u)) (h16 : z (25 + 8 * t + u) ≤ 16) : mgt z l c f t u (217 + 16 * (8 * t + u) + k) = z (217 + 16 * (8 * t + u) + k) := by simp only [va_up, ↓reduceIte, mgt, mtail] <;> (repeat' split) <;> first | omega | exact congrArg z (by omega)
theorem mgt_tt {f t u k : Nat} (hl : l < 24) (hc : c < 8) (ht : t < 24) (hu : u < 8) (hk : k < z (25 + 8 * l + c) - f) (hf : z (25 + 8 * t + u) + (z (25 + 8 * l + c) - f) ≤ 16) : mgt z l c f t u (217 + 16 * (8 * t + u) + (z (25 + 8 * t + u) + k)) = z (217 + 16 * (8 * l + c) + (f + k)) := by simp only [va_up, ↓reduceIte, mgt, mtail] <;> (repeat' split) <;> first | omega | exact congrArg z (by omega)
theorem mgt_bd {f t u : Nat} (hb : ∀ j, z j < 1000) (hf : f < 1000) (hs : z (25 + 8 * t + u) + (z (25 + 8 * l + c) - f) < 1000) (j : Nat) : mgt z l c f t u j < 1000 := by
  have h1 := hb (217 + 16 * (8 * l + c) + f + (j - (217 + 16 * (8 * t + u) + z (25 + 8 * t + u))))
  have h4 := hb j
  simp only [mgt, mtail, va_up]
  (repeat' split) <;> omega
end p4
