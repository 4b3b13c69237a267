section p1
variable {z : Nat → Nat}
/-! TEXTS AS LISTS: a page is the row of its codes; a text, a line end behind each of its lines, is fT z -/
def fm (f : Nat → List Nat) : Nat → Nat → List Nat
  | 0, _ => []
  | n + 1, a => f a ++ fm f n (a + 1)
theorem fm_add (f : Nat → List Nat) : ∀ (n m a : Nat), fm f (n + m) a = fm f n a ++ fm f m (a + n)
  | 0, m, a => by rw [Nat.zero_add]; rfl
  | n + 1, m, a => by
    rw [show n + 1 + m = (n + m) + 1 by omega]
    show f a ++ fm f (n + m) (a + 1) = (f a ++ fm f n (a + 1)) ++ _
    rw [fm_add f n m (a + 1), List.append_assoc, show a + 1 + n = a + (n + 1) by omega]
theorem fm_one (f : Nat → List Nat) (a : Nat) : fm f 1 a = f a := List.append_nil _
theorem fm_snoc (f : Nat → List Nat) (n a : Nat) : fm f (n + 1) a = fm f n a ++ f (a + n) := by rw [fm_add, fm_one]
theorem fm_cg {f f' : Nat → List Nat} : ∀ (n a b : Nat), (∀ i, i < n → f (a + i) = f' (b + i)) → fm f n a = fm f' n b
  | 0, _, _, _ => rfl
  | n + 1, a, b, h => by
    have h0 : f a = f' b := h 0 (by omega)
    have h1 : fm f n (a + 1) = fm f' n (b + 1) := fm_cg n (a + 1) (b + 1) (fun i hi => by
      have := h (i + 1) (by omega)
      rwa [show a + 1 + i = a + (i + 1) by omega, show b + 1 + i = b + (i + 1) by omega])
    show f a ++ fm f n (a + 1) = f' b ++ fm f' n (b + 1)
    rw [h0, h1]
theorem fm_len (f : Nat → List Nat) : ∀ n, (fm f n 0).length = vS (fun i => (f i).length) n
  | 0 => rfl
  | n + 1 => by
    rw [fm_snoc, List.length_append, fm_len f n, Nat.zero_add]
    rfl
/-- the codes Z a, Z (a + 1) .. (n of them) -/
def pl (Z : Nat → Nat) (n a : Nat) : List Nat := fm (fun j => [Z j]) n a
theorem pl_len (Z : Nat → Nat) : ∀ n a, (pl Z n a).length = n
  | 0, _ => rfl
  | n + 1, a => by
    show ([Z a] ++ pl Z n (a + 1)).length = n + 1
    rw [List.length_append, pl_len Z n (a + 1), List.length_singleton, Nat.add_comm]
theorem pl_add (Z : Nat → Nat) (n m a : Nat) : pl Z (n + m) a = pl Z n a ++ pl Z m (a + n) := fm_add _ n m a
theorem pl_cons (Z : Nat → Nat) (n a : Nat) : pl Z (n + 1) a = Z a :: pl Z n (a + 1) := rfl
theorem pl_snoc (Z : Nat → Nat) (n a : Nat) : pl Z (n + 1) a = pl Z n a ++ [Z (a + n)] := fm_snoc _ n a
theorem pl_cg {Z Z' : Nat → Nat} {n a b : Nat} (h : ∀ i, i < n → Z (a + i) = Z' (b + i)) : pl Z n a = pl Z' n b := fm_cg n a b (fun i hi => by show [_] = [_]; rw [h i hi])
theorem pl_get (Z : Nat → Nat) : ∀ (n a k : Nat), k < n → (pl Z n a)[k]? = some (Z (a + k))
  | 0, _, _, h => absurd h (by omega)
  | n + 1, a, 0, _ => rfl
  | n + 1, a, k + 1, h => by
    rw [pl_cons, List.getElem?_cons_succ, pl_get Z n (a + 1) k (by omega), show a + 1 + k = a + (k + 1) by omega]
/-- cell (l, c): its end, its signs, both -/
def fe (z : Nat → Nat) (l c : Nat) : Nat := if c + 1 < z (1 + l) then 9 else 10
def fs (z : Nat → Nat) (l c : Nat) : List Nat := pl (mf z l c) (z (25 + 8 * l + c)) 0
def fc (z : Nat → Nat) (l c : Nat) : List Nat := fs z l c ++ [fe z l c]
def fL (z : Nat → Nat) (l : Nat) : List Nat := fm (fc z l) (z (1 + l)) 0
def fT (z : Nat → Nat) : List Nat := fm (fL z) (z 0) 0
theorem fs_len (l c : Nat) : (fs z l c).length = z (25 + 8 * l + c) := pl_len _ _ _
theorem fc_len (l c : Nat) : (fc z l c).length = z (25 + 8 * l + c) + 1 := by unfold fc; rw [List.length_append, fs_len]; rfl
theorem vS_cg {f f' : Nat → Nat} : ∀ {n : Nat}, (∀ i, i < n → f i = f' i) → vS f n = vS f' n
  | 0, _ => rfl
  | n + 1, h => by
    show vS f n + f n = vS f' n + f' n
    rw [vS_cg (fun i hi => h i (by omega)), h n (by omega)]
theorem fcs_len (l c : Nat) : (fm (fc z l) c 0).length = csL z l c := by
  rw [fm_len]
  exact vS_cg (fun i _ => fc_len l i)
theorem fL_len (l : Nat) : (fL z l).length = csL z l (z (1 + l)) := fcs_len l _
theorem fLs_len (l : Nat) : (fm (fL z) l 0).length = vS (fun i => csL z i (z (1 + i))) l := by
  rw [fm_len]
  exact vS_cg (fun i _ => fL_len i)
/-- what stands before a cell, and behind its end -/
def fpre (z : Nat → Nat) (l c : Nat) : List Nat := fm (fL z) l 0 ++ fm (fc z l) c 0
def fpost (z : Nat → Nat) (l c : Nat) : List Nat := fm (fc z l) (z (1 + l) - (c + 1)) (c + 1) ++ fm (fL z) (z 0 - (l + 1)) (l + 1)
theorem fpre_len (l c : Nat) : (fpre z l c).length = CS z l c := by
  unfold fpre CS
  rw [List.length_append, fLs_len, fcs_len]
theorem fL_at {l c : Nat} (hc : c < z (1 + l)) : fL z l = fm (fc z l) c 0 ++ (fc z l c ++ fm (fc z l) (z (1 + l) - (c + 1)) (c + 1)) := by
  unfold fL
  have e : z (1 + l) = c + (1 + (z (1 + l) - (c + 1))) := by omega
  rw [show fm (fc z l) (z (1 + l)) 0 = fm (fc z l) (c + (1 + (z (1 + l) - (c + 1)))) 0 from congrArg (fun n => fm (fc z l) n 0) e, fm_add, fm_add, fm_one, Nat.zero_add]
theorem fT_at {l : Nat} (hl : l < z 0) : fT z = fm (fL z) l 0 ++ (fL z l ++ fm (fL z) (z 0 - (l + 1)) (l + 1)) := by
  unfold fT
  have e : z 0 = l + (1 + (z 0 - (l + 1))) := by omega
  rw [show fm (fL z) (z 0) 0 = fm (fL z) (l + (1 + (z 0 - (l + 1)))) 0 from congrArg (fun n => fm (fL z) n 0) e, fm_add, fm_add, fm_one, Nat.zero_add]
theorem fT_cell {l c : Nat} (hl : l < z 0) (hc : c < z (1 + l)) : fT z = fpre z l c ++ (fs z l c ++ (fe z l c :: fpost z l c)) := by
  rw [fT_at hl, fL_at hc]
  unfold fpre fpost fc
  simp only [List.append_assoc, List.cons_append, List.nil_append]
theorem CS_c (l c : Nat) : CS z l (c + 1) = CS z l c + (z (25 + 8 * l + c) + 1) := by
  unfold CS
  rw [show csL z l (c + 1) = csL z l c + (z (25 + 8 * l + c) + 1) from rfl]
  omega
theorem CS_l {l c : Nat} (hc : c + 1 = z (1 + l)) : CS z (l + 1) 0 = CS z l c + (z (25 + 8 * l + c) + 1) := by
  rw [← CS_c, hc]
  rfl
theorem CS_0 : CS z 0 0 = 0 := rfl
/-- a page's codes and its text -/
def FL (z Z : Nat → Nat) (sz : Nat) : Prop := pl Z sz 0 ++ [10] = fT z
theorem FL.len {Z : Nat → Nat} {sz : Nat} (h : FL z Z sz) : (fT z).length = sz + 1 := by rw [← h, List.length_append, pl_len]; rfl
theorem FL.get {Z : Nat → Nat} {sz k : Nat} (h : FL z Z sz) (hk : k < sz) : (fT z)[k]? = some (Z k) := by
  rw [← h, List.getElem?_append_left (by rw [pl_len]; exact hk), pl_get Z sz 0 k hk, Nat.zero_add]
theorem app_mid {α : Type} {A B : List α} {x : α} : (A ++ x :: B)[A.length]? = some x := by
  rw [List.getElem?_append_right (Nat.le_refl _), Nat.sub_self]; rfl
theorem FL.cell {Z : Nat → Nat} {sz l c : Nat} (h : FL z Z sz) (hl : l < z 0) (hc : c < z (1 + l)) : CS z l c + z (25 + 8 * l + c) ≤ sz := by
  have e := h.len
  rw [fT_cell hl hc, List.length_append, List.length_append, fpre_len, fs_len, List.length_cons] at e
  omega
theorem FL.sign {Z : Nat → Nat} {sz l c k : Nat} (h : FL z Z sz) (hl : l < z 0) (hc : c < z (1 + l)) (hk : k < z (25 + 8 * l + c)) : Z (CS z l c + k) = z (217 + 16 * (8 * l + c) + k) := by
  have e := h.cell hl hc
  have q := h.get (k := CS z l c + k) (by omega)
  rw [fT_cell hl hc, List.getElem?_append_right (by rw [fpre_len]; omega), fpre_len, Nat.add_sub_cancel_left, List.getElem?_append_left (by rw [fs_len]; exact hk)] at q
  unfold fs at q
  rw [pl_get _ _ _ _ hk, Nat.zero_add] at q
  exact (Option.some.inj q).symm
theorem fpost_ne {l c : Nat} (h1 : ∀ l, l < z 0 → 1 ≤ z (1 + l)) (hl : l < z 0) (hc : c < z (1 + l)) (h : c + 1 < z (1 + l) ∨ l + 1 < z 0) : 1 ≤ (fpost z l c).length := by
  unfold fpost
  rw [List.length_append]
  rcases h with h | h
  · obtain ⟨k, hk⟩ : ∃ k, z (1 + l) - (c + 1) = k + 1 := ⟨z (1 + l) - (c + 1) - 1, by omega⟩
    rw [hk]
    show 1 ≤ (fc z l (c + 1) ++ fm (fc z l) k (c + 1 + 1)).length + _
    rw [List.length_append, fc_len]
    omega
  · obtain ⟨k, hk⟩ : ∃ k, z 0 - (l + 1) = k + 1 := ⟨z 0 - (l + 1) - 1, by omega⟩
    rw [hk]
    show 1 ≤ _ + (fL z (l + 1) ++ fm (fL z) k (l + 1 + 1)).length
    rw [List.length_append, fL_at (show 0 < z (1 + (l + 1)) from h1 (l + 1) h), List.length_append, List.length_append, fc_len]
    omega
theorem FL.more {Z : Nat → Nat} {sz l c : Nat} (h : FL z Z sz) (h1 : ∀ l, l < z 0 → 1 ≤ z (1 + l)) (hl : l < z 0) (hc : c < z (1 + l)) (hm : c + 1 < z (1 + l) ∨ l + 1 < z 0) : CS z l c + z (25 + 8 * l + c) < sz ∧ Z (CS z l c + z (25 + 8 * l + c)) = fe z l c := by
  have e := h.len
  have n := fpost_ne h1 hl hc hm
  rw [fT_cell hl hc, List.length_append, List.length_append, fpre_len, fs_len, List.length_cons] at e
  have s : CS z l c + z (25 + 8 * l + c) < sz := by omega
  refine ⟨s, ?_⟩
  have q := h.get s
  rw [fT_cell hl hc, ← List.append_assoc] at q
  have r := app_mid (A := fpre z l c ++ fs z l c) (x := fe z l c) (B := fpost z l c)
  rw [List.length_append, fpre_len, fs_len, q] at r
  exact Option.some.inj r
theorem FL.last {Z : Nat → Nat} {sz l c : Nat} (h : FL z Z sz) (hl : l + 1 = z 0) (hc : c + 1 = z (1 + l)) : CS z l c + z (25 + 8 * l + c) = sz := by
  have e := h.len
  rw [fT_cell (show l < z 0 by omega) (show c < z (1 + l) by omega), List.length_append, List.length_append, fpre_len, fs_len, List.length_cons] at e
  unfold fpost at e
  rw [hc, Nat.sub_self, hl, Nat.sub_self] at e
  change _ + (_ + (0 + 1)) = _ at e
  omega
end p1
