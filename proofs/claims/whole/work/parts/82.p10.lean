section p10
variable {z : Nat → Nat} {l c q sz : Nat} {Z : Nat → Nat}
/-! lines of a page -/
theorem FL.spl {X : List Nat} (h : FL z Z sz) (e : fT z = X) : PL Z sz X := by rw [← e]; exact h
theorem CS_fm : (fm (fL z) l 0).length = CS z l 0 := by rw [fLs_len]; rfl
theorem CS_nx : CS z (l + 1) 0 = CS z l 0 + csL z l (z (1 + l)) := by
  show vS (fun i => csL z i (z (1 + i))) l + csL z l (z (1 + l)) + 0 = vS (fun i => csL z i (z (1 + i))) l + 0 + csL z l (z (1 + l))
  omega
theorem LE_eq (h1 : 1 ≤ z (1 + l)) : CS z l (z (1 + l) - 1) + z (25 + 8 * l + (z (1 + l) - 1)) + 1 = CS z l 0 + csL z l (z (1 + l)) := by
  rw [← CS_nx, CS_l (show z (1 + l) - 1 + 1 = z (1 + l) by omega)]
  omega
theorem csL_pos (h1 : 1 ≤ z (1 + l)) : 1 ≤ csL z l (z (1 + l)) := by
  obtain ⟨n, hn⟩ : ∃ n, z (1 + l) = n + 1 := ⟨z (1 + l) - 1, by omega⟩
  rw [hn]
  show 1 ≤ csL z l n + (z (25 + 8 * l + n) + 1)
  omega
/-- a line without its end -/
def fB (z : Nat → Nat) (l : Nat) : List Nat := fm (fc z l) (z (1 + l) - 1) 0 ++ fs z l (z (1 + l) - 1)
theorem fL_B (h1 : 1 ≤ z (1 + l)) : fL z l = fB z l ++ [10] := by
  rw [fL_at (show z (1 + l) - 1 < z (1 + l) by omega)]
  unfold fB fc fe
  rw [if_neg (by omega), show z (1 + l) - (z (1 + l) - 1 + 1) = 0 by omega]
  simp only [List.append_assoc]
  rfl
theorem fB_len (h1 : 1 ≤ z (1 + l)) : (fB z l).length + 1 = csL z l (z (1 + l)) := by
  rw [← fL_len, fL_B h1, List.length_append]
  rfl
/-- a line is taken out of a page -/
theorem rml_a (hz : tOK z) (h : FL z Z sz) (hl : l + 1 < z 0) : CS z l 0 + csL z l (z (1 + l)) ≤ sz ∧ FL (mcll z l) (va_cpy Z Z (CS z l 0 + csL z l (z (1 + l))) (CS z l 0) (sz - CS z l 0 - csL z l (z (1 + l)))) (sz - csL z l (z (1 + l))) := by
  have hs : PL Z sz (fm (fL z) l 0 ++ (fL z l ++ fm (fL z) (z 0 - (l + 1)) (l + 1))) := h.spl (fT_at (by omega))
  have hle := hs.len
  rw [List.length_append, List.length_append, CS_fm, fL_len] at hle
  have hy : 1 ≤ (fm (fL z) (z 0 - (l + 1)) (l + 1)).length := by
    obtain ⟨k, hk⟩ : ∃ k, z 0 - (l + 1) = k + 1 := ⟨z 0 - (l + 1) - 1, by omega⟩
    rw [hk]
    show 1 ≤ (fL z (l + 1) ++ fm (fL z) k (l + 1 + 1)).length
    have := csL_pos (hz.gl hl).1
    rw [List.length_append, fL_len]
    omega
  refine ⟨by omega, ?_⟩
  show PL _ _ (fT (mcll z l))
  rw [(cll_T hz (by omega) (by omega)).2]
  exact hs.cut CS_fm (fL_len l) (by omega)
theorem rml_b (hz : tOK z) (h : FL z Z sz) (hl : l + 1 = z 0) (h1 : 1 < z 0) : 1 ≤ CS z l 0 ∧ CS z l 0 - 1 + csL z l (z (1 + l)) ≤ sz ∧ FL (mcll z l) (va_cpy Z Z (CS z l 0 - 1 + csL z l (z (1 + l))) (CS z l 0 - 1) (sz - (CS z l 0 - 1) - csL z l (z (1 + l)))) (sz - csL z l (z (1 + l))) := by
  obtain ⟨k, hk⟩ : ∃ k, l = k + 1 := ⟨l - 1, by omega⟩
  subst hk
  have g1 := (hz.gl (show k < z 0 by omega)).1
  have g2 := (hz.gl (show k + 1 < z 0 by omega)).1
  have e1 : fm (fL z) (k + 1) 0 = (fm (fL z) k 0 ++ fB z k) ++ [10] := by rw [fm_snoc, Nat.zero_add, fL_B g1, List.append_assoc]
  have e2 : fT z = (fm (fL z) k 0 ++ fB z k) ++ ((10 :: fB z (k + 1)) ++ [10]) := by
    rw [fT_at (show k + 1 < z 0 by omega), show z 0 - (k + 1 + 1) = 0 by omega, e1, fL_B g2]
    show _ ++ (_ ++ []) = _
    simp only [List.append_assoc, List.cons_append, List.nil_append, List.append_nil]
  have c1 : (fm (fL z) k 0 ++ fB z k).length + 1 = CS z (k + 1) 0 := by rw [← CS_fm, e1, List.length_append (bs := [10])]; rfl
  have hs := h.spl e2
  have hle := hs.len
  rw [List.length_append (as := fm (fL z) k 0 ++ fB z k), List.length_append (as := 10 :: fB z (k + 1)), List.length_cons] at hle
  have b2 := fB_len g2
  have b3 : ([10] : List Nat).length = 1 := rfl
  refine ⟨by omega, by omega, ?_⟩
  show PL _ _ (fT (mcll z (k + 1)))
  rw [(cll_T hz (by omega) (by omega)).2, e1, show z 0 - (k + 1 + 1) = 0 by omega]
  show PL _ _ ((fm (fL z) k 0 ++ fB z k) ++ [10] ++ [])
  rw [List.append_nil]
  exact hs.cut (by omega) (by rw [List.length_cons]; omega) (by omega)
/-- a line is put into a page -/
theorem isl_a {f : Nat → Nat} {m : Nat} (hz : tOK z) (h : FL z Z sz) (hl : l < z 0) (h24 : z 0 < 24) (hf : ∀ j, f j < 1000) (hr : mrl f 1 m 0 0 0 0 = m) : CS z l 0 ≤ sz ∧ FL (mlay f m 0 l (mopl z l)) (zpi (va_up (va_cpy Z Z (CS z l 0) (CS z l 0 + 1) (sz - CS z l 0)) (CS z l 0) 10) (CS z l 0) m (sz + 1) f m) (sz + 1 + m) := by
  have hs : PL Z sz (fm (fL z) l 0 ++ (fL z l ++ fm (fL z) (z 0 - (l + 1)) (l + 1))) := h.spl (fT_at hl)
  have hle := hs.len
  have hp := csL_pos (hz.gl hl).1
  rw [List.length_append, List.length_append, CS_fm, fL_len] at hle
  refine ⟨by omega, ?_⟩
  show PL _ _ (fT (mlay f m 0 l (mopl z l)))
  rw [(insl_T hf hz (by omega) h24 hr).2.1, show z 0 - l = (z 0 - (l + 1)) + 1 by omega]
  exact (hs.put (x := 10) CS_fm (by omega)).ins CS_fm (by omega)
theorem isl_b {f : Nat → Nat} {m : Nat} (hz : tOK z) (h : FL z Z sz) (hl : l = z 0) (h24 : z 0 < 24) (hf : ∀ j, f j < 1000) (hr : mrl f 1 m 0 0 0 0 = m) : FL (mlay f m 0 l (mopl z l)) (zpi (va_up (va_cpy Z Z sz (sz + 1) (sz - sz)) sz 10) (sz + 1) m (sz + 1) f m) (sz + 1 + m) := by
  have hs : PL Z sz (pl Z sz 0 ++ [10]) := rfl
  have e : fm (fL z) l 0 = pl Z sz 0 ++ [10] := by
    rw [hl]
    exact h.symm
  show PL _ _ (fT (mlay f m 0 l (mopl z l)))
  rw [(insl_T hf hz (by omega) h24 hr).2.1, e, show z 0 - l = 0 by omega]
  have r := hs.put (x := 10) (pl_len Z sz 0) (Nat.le_refl _)
  rw [show pl Z sz 0 ++ 10 :: [10] = (pl Z sz 0 ++ [10]) ++ [10] by simp only [List.append_assoc]; rfl] at r
  exact r.ins (a := sz + 1) (by rw [List.length_append, pl_len]; first | done | rfl) (Nat.le_refl _)
theorem mrl_all {f : Nat → Nat} (hf : ∀ j, f j < 1000) : ∀ (n k s b e : Nat), mrl f 0 n k s b e = k + n → ∀ j, k ≤ j → j < k + n → 32 ≤ f j ∧ f j ≠ 124 ∧ f j ≠ 47
  | 0, k, _, _, _, _, j, h1, h2 => absurd h1 (by omega)
  | n + 1, k, s, b, e, hm, j, h1, h2 => by
    have c1 : f k ≠ 124 := fun q => absurd (mrl_bar hm q).1 (by omega)
    have c2 : f k ≠ 47 := fun q => absurd (mrl_end hm q).1 (by omega)
    obtain ⟨m1, m2, m3⟩ := mrl_sgn hm c1 c2
    have v := sg_nat (hf k) m1
    rcases Nat.eq_or_lt_of_le h1 with r | r
    · subst r; exact v
    · exact mrl_all hf n (k + 1) (s + 1) b e m3 j (by omega) (by omega)
/-- a cell of a page is set -/
theorem set_P {f : Nat → Nat} {m : Nat} (hz : tOK z) (h : FL z Z sz) (hl : l < z 0) (hc : c < z (1 + l)) (hf : ∀ j, f j < 1000) (hr : mrl f 0 m 0 0 0 0 = m) : CS z l c + z (25 + 8 * l + c) ≤ sz ∧ m ≤ 16 ∧ tOK (mset z f l c m) ∧ FL (mset z f l c m) (zpi (va_cpy Z Z (CS z l c + z (25 + 8 * l + c)) (CS z l c) (sz - CS z l c - z (25 + 8 * l + c))) (CS z l c) m (sz - z (25 + 8 * l + c)) f m) (sz - z (25 + 8 * l + c) + m) := by
  have hce := h.cell hl hc
  have h16 : m ≤ 16 := by
    have := mrl0_le f m 0 0 0 0 (by rw [hr]; omega) (by omega)
    omega
  have ha := mrl_all hf m 0 0 0 0 (by rw [hr]; omega)
  obtain ⟨t1, t2⟩ := set_T (f := f) hz hl hc h16 (fun k hk => ⟨(ha k (by omega) (by omega)).1, hf k⟩)
  refine ⟨hce, h16, t1, ?_⟩
  show PL _ _ (fT (mset z f l c m))
  have hs := h.spl (fT_cell hl hc)
  have r := (hs.cut (fpre_len l c) (fs_len l c) (by omega)).ins (m := m) (Bf := f) (fpre_len l c) (by omega)
  rw [t2]
  rw [show pl (fun j => pcd (f j)) m 0 = pl f m 0 from pl_cg (fun i hi => by
    have := ha (0 + i) (by omega) (by omega)
    unfold pcd
    rw [if_neg this.2.1, if_neg this.2.2])] at r
  exact r
end p10
