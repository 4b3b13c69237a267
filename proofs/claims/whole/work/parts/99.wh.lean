section wh
variable {g : zG}
/-! heaps of the start: things B, B + 1, .. are the list l, those below are b's; n is the next number -/
def hy (n B : Nat) (b : Nat → Option zO) (l : List zO) : zH := (fun i => if i < B then b i else l[i - B]?, n)
theorem hy_at {n B k i : Nat} {b : Nat → Option zO} {l : List zO} (hi : B + k = i) : (hy n B b l).1 i = l[k]? := by
  subst hi
  show (if B + k < B then b (B + k) else l[B + k - B]?) = l[k]?
  rw [if_neg (by omega), Nat.add_sub_cancel_left]
theorem hy_lo {n B i : Nat} {b : Nat → Option zO} {l : List zO} (hi : i < B) : (hy n B b l).1 i = b i := if_pos hi
theorem hy_no {n B i : Nat} {b : Nat → Option zO} {l : List zO} (hi : B + l.length ≤ i) : (hy n B b l).1 i = none := by
  show (if i < B then b i else l[i - B]?) = none
  rw [if_neg (by omega), List.getElem?_eq_none (by omega)]
theorem hy_new {n n' B : Nat} {b : Nat → Option zO} {l l' : List zO} {o : zO} (hn : n = B + l.length) (hn' : n + 1 = n') (e : l ++ [o] = l') : znew (hy n B b l) o = hy n' B b l' := by
  subst e; subst hn'; subst hn
  refine Prod.ext (funext fun i => ?_) rfl
  show (if i = B + l.length then some o else if i < B then b i else l[i - B]?) = if i < B then b i else (l ++ [o])[i - B]?
  by_cases e : i = B + l.length
  · subst e
    rw [if_pos rfl, if_neg (by omega), Nat.add_sub_cancel_left, List.getElem?_append_right (Nat.le_refl _), Nat.sub_self]
    rfl
  · rw [if_neg e]
    by_cases c : i < B
    · rw [if_pos c, if_pos c]
    · rw [if_neg c, if_neg c]
      by_cases h : i - B < l.length
      · rw [List.getElem?_append_left h]
      · rw [List.getElem?_eq_none (by omega), List.getElem?_eq_none (by rw [List.length_append]; show l.length + 1 ≤ i - B; omega)]
theorem hy_up {n B k i : Nat} {b : Nat → Option zO} {l l' : List zO} {o : zO} (hi : B + k = i) (hk : k < l.length) (e : l.set k o = l') : zup (hy n B b l) i o = hy n B b l' := by
  subst e; subst hi
  refine Prod.ext (funext fun j => ?_) rfl
  show (if j = B + k then some o else if j < B then b j else l[j - B]?) = if j < B then b j else (l.set k o)[j - B]?
  by_cases e : j = B + k
  · subst e
    rw [if_pos rfl, if_neg (by omega), Nat.add_sub_cancel_left, List.getElem?_set_self hk]
  · rw [if_neg e]
    by_cases c : j < B
    · rw [if_pos c, if_pos c]
    · rw [if_neg c, if_neg c, List.getElem?_set_ne (by omega)]
theorem hy_app {n n' B B' : Nat} {b : Nat → Option zO} {l l2 l3 : List zO} (hB : B + l.length = B') (e : l ++ l2 = l3) : hy n B' (hy n' B b l).1 l2 = hy n B b l3 := by
  subst e; subst hB
  refine Prod.ext (funext fun i => ?_) rfl
  show (if i < B + l.length then (if i < B then b i else l[i - B]?) else l2[i - (B + l.length)]?) = if i < B then b i else (l ++ l2)[i - B]?
  by_cases c : i < B
  · rw [if_pos (by omega), if_pos c, if_pos c]
  · rw [if_neg c, if_neg c]
    by_cases h : i < B + l.length
    · rw [if_pos h, List.getElem?_append_left (by omega)]
    · rw [if_neg h, List.getElem?_append_right (by omega), Nat.sub_sub]
theorem hy_spl {n n' B B' : Nat} {b : Nat → Option zO} {l l2 l3 : List zO} (hB : B + l.length = B') (e : l ++ l2 = l3) : hy n B b l3 = hy n B' (hy n' B b l).1 l2 := (hy_app hB e).symm
theorem hy_of {h : zH} {o : zO} {B n' : Nat} (h2 : h.2 = B) (hn' : B + 1 = n') (hno : ∀ i, B ≤ i → h.1 i = none) : znew h o = hy n' B h.1 [o] := by
  subst h2; subst hn'
  refine Prod.ext (funext fun i => ?_) rfl
  show (if i = h.2 then some o else h.1 i) = if i < h.2 then h.1 i else [o][i - h.2]?
  by_cases e : i = h.2
  · subst e
    rw [if_pos rfl, if_neg (by omega), Nat.sub_self]
    rfl
  · rw [if_neg e]
    by_cases c : i < h.2
    · rw [if_pos c]
    · rw [if_neg c, hno i (by omega), List.getElem?_eq_none (by show 1 ≤ i - h.2; omega)]
section
variable {I : zI} {pc a b : Nat} {L : zL} {st : List Value} {mc ms : Nat} {Q : zR → zH → Prop} {h : zH}
theorem zn_newL {N : Nat} (hf : zF I pc = some (.newarray .long, 2, a, b)) (hN : N < 60000) (K : Zn g I (pc + 2) L (.ref h.2 :: st) (znew h (.inl (N, .inr (.inl (fun _ => 0))))) mc ms Q) : Zn g I pc L (.int (nI N) :: st) h (mc + 1) (ms + N) Q := zn_newa_l hf (nI_pos (by omega)) (nI_clamp (by omega)) (by omega) zg_la K
theorem zn_newD {N : Nat} (hf : zF I pc = some (.newarray .double, 2, a, b)) (hN : N < 60000) (K : Zn g I (pc + 2) L (.ref h.2 :: st) (znew h (.inl (N, .inr (.inr (.inr (.inl (fun _ => 0))))))) mc ms Q) : Zn g I pc L (.int (nI N) :: st) h (mc + 1) (ms + N) Q := zn_newa_d hf (nI_pos (by omega)) (nI_clamp (by omega)) (by omega) zg_da K
theorem zn_nw0 {idx : Nat} (hf : zF I pc = some (.new idx, 3, 0, 0)) (K : Zn g I (pc + 3) L (.ref h.2 :: st) (znew h (.inr (0, [.int 0, .null, .null, .null, .null, .null, .null, .null, .null, .null]))) mc ms Q) : Zn g I pc L st h (mc + 1) (ms + 10) Q := zn_new hf K
theorem zn_nw1 {idx : Nat} (hf : zF I pc = some (.new idx, 3, 1, 0)) (K : Zn g I (pc + 3) L (.ref h.2 :: st) (znew h (.inr (1, [.int 0, .null, .null, .null, .null, .null, .null]))) mc ms Q) : Zn g I pc L st h (mc + 1) (ms + 7) Q := zn_new hf K
theorem zn_nw2 {idx : Nat} (hf : zF I pc = some (.new idx, 3, 2, 0)) (K : Zn g I (pc + 3) L (.ref h.2 :: st) (znew h (.inr (2, [.null, .int 0, .int 0, .int 0]))) mc ms Q) : Zn g I pc L st h (mc + 1) (ms + 4) Q := zn_new hf K
theorem zn_nw3 {idx : Nat} (hf : zF I pc = some (.new idx, 3, 3, 0)) (K : Zn g I (pc + 3) L (.ref h.2 :: st) (znew h (.inr (3, [.null, .null, .int 0, .int 0, .int 0]))) mc ms Q) : Zn g I pc L st h (mc + 1) (ms + 5) Q := zn_new hf K
theorem zn_nw4 {idx : Nat} (hf : zF I pc = some (.new idx, 3, 4, 0)) (K : Zn g I (pc + 3) L (.ref h.2 :: st) (znew h (.inr (4, [.null, .int 0]))) mc ms Q) : Zn g I pc L st h (mc + 1) (ms + 2) Q := zn_new hf K
theorem zn_nw5 {idx : Nat} (hf : zF I pc = some (.new idx, 3, 5, 0)) (K : Zn g I (pc + 3) L (.ref h.2 :: st) (znew h (.inr (5, [.null, .null, .null, .null]))) mc ms Q) : Zn g I pc L st h (mc + 1) (ms + 4) Q := zn_new hf K
theorem zn_nw7 {idx : Nat} (hf : zF I pc = some (.new idx, 3, 7, 0)) (K : Zn g I (pc + 3) L (.ref h.2 :: st) (znew h (.inr (7, [.null, .int 0]))) mc ms Q) : Zn g I pc L st h (mc + 1) (ms + 2) Q := zn_new hf K
theorem zn_nw8 {idx : Nat} (hf : zF I pc = some (.new idx, 3, 8, 0)) (K : Zn g I (pc + 3) L (.ref h.2 :: st) (znew h (.inr (8, [.null, .null, .null, .null, .null]))) mc ms Q) : Zn g I pc L st h (mc + 1) (ms + 5) Q := zn_new hf K
theorem zn_nw9 {idx : Nat} (hf : zF I pc = some (.new idx, 3, 9, 0)) (K : Zn g I (pc + 3) L (.ref h.2 :: st) (znew h (.inr (9, [.int 0, .null, .null, .null, .null, .int 0, .int 0, .null, .int 0, .int 0, .int 0, .int 0, .null, .int 0, .null, .null, .null, .null, .null, .null, .null, .null, .null, .long 0]))) mc ms Q) : Zn g I pc L st h (mc + 1) (ms + 24) Q := zn_new hf K
end
def o_X4_2 : List zO := [.inr (4, [.ref 3, .int (nI 0)]), mNA 120 (fun _ => 0)]
theorem k_X4_2 {b : Nat → Option zO} : Zm g zX4_init [.ref 2] (hy 3 2 b [.inr (4, [.null, .int 0])]) 1 120 (fun r h' => r = .inl none ∧ h' = hy 4 2 b [.inr (4, [.ref 3, .int (nI 0)]), mNA 120 (fun _ => 0)]) := by
  show Zn g zX4_init 0 [some (.ref 2)] [] (hy 3 2 b [.inr (4, [.null, .int 0])]) 1 120 _
  refine zn_aload_n (pc := 0) rfl rfl ?_
  refine zn_obj (pc := 1) rfl (Nat.le_of_ble_eq_true rfl) (Nat.le_of_ble_eq_true rfl) ?_
  refine zn_aload_n (pc := 4) rfl rfl ?_
  refine zn_bipushN (pc := 5) 120 rfl rfl ?_
  refine zn_newI (pc := 7) (N := 120) (mc := 0) (ms := 0) rfl (by decide) ?_
  refine zn_heq (h' := hy 4 2 b [.inr (4, [.null, .int 0]), mNA 120 (fun _ => 0)]) (hy_new rfl rfl rfl) ?_
  refine zf_putA (pc := 9) (o := 2) (v := 3) (fs := [.null, .int 0]) (fs' := [.ref 3, .int 0]) rfl (hy_at (k := 0) rfl) (Nat.le_of_ble_eq_true rfl) rfl rfl ?_
  refine zn_heq (h' := hy 4 2 b [.inr (4, [.ref 3, .int 0]), mNA 120 (fun _ => 0)]) (hy_up (k := 0) rfl (Nat.le_of_ble_eq_true rfl) rfl) ?_
  refine zn_aload_n (pc := 12) rfl rfl ?_
  refine zn_iconstN (pc := 13) 0 rfl rfl ?_
  refine zf_put (pc := 14) (o := 2) (v := 0) (fs := [.ref 3, .int 0]) (fs' := [.ref 3, .int (nI 0)]) rfl (hy_at (k := 0) rfl) (Nat.le_of_ble_eq_true rfl) rfl rfl ?_
  refine zn_heq (h' := hy 4 2 b [.inr (4, [.ref 3, .int (nI 0)]), mNA 120 (fun _ => 0)]) (hy_up (k := 0) rfl (Nat.le_of_ble_eq_true rfl) rfl) ?_
  exact zn_vret (pc := 17) rfl rfl ⟨rfl, rfl⟩
def o_X2_4 : List zO := [.inr (2, [.ref 5, .int (nI 2), .int (nI 0), .int (nI 1)]), mNA 7 (va_up (va_up (va_up (va_up (va_up (va_up (va_up (fun _ => 0) 0 3) 1 3) 2 3) 3 3) 4 3) 5 3) 6 3)]
theorem k_X2_4 {b : Nat → Option zO} : Zm g zX2_init [.ref 4] (hy 5 4 b [.inr (2, [.null, .int 0, .int 0, .int 0])]) 1 7 (fun r h' => r = .inl none ∧ h' = hy 6 4 b [.inr (2, [.ref 5, .int (nI 2), .int (nI 0), .int (nI 1)]), mNA 7 (va_up (va_up (va_up (va_up (va_up (va_up (va_up (fun _ => 0) 0 3) 1 3) 2 3) 3 3) 4 3) 5 3) 6 3)]) := by
  show Zn g zX2_init 0 [some (.ref 4)] [] (hy 5 4 b [.inr (2, [.null, .int 0, .int 0, .int 0])]) 1 7 _
  refine zn_aload_n (pc := 0) rfl rfl ?_
  refine zn_obj (pc := 1) rfl (Nat.le_of_ble_eq_true rfl) (Nat.le_of_ble_eq_true rfl) ?_
  refine zn_aload_n (pc := 4) rfl rfl ?_
  refine zn_bipushN (pc := 5) 7 rfl rfl ?_
  refine zn_newI (pc := 7) (N := 7) (mc := 0) (ms := 0) rfl (by decide) ?_
  refine zn_heq (h' := hy 6 4 b [.inr (2, [.null, .int 0, .int 0, .int 0]), mNA 7 (fun _ => 0)]) (hy_new rfl rfl rfl) ?_
  refine zn_dup (pc := 9) rfl rfl ?_
  refine zn_iconstN (pc := 10) 0 rfl rfl ?_
  refine zn_iconstN (pc := 11) 3 rfl rfl ?_
  refine zn_naSt (pc := 12) (o := 5) (n := 7) (j := 0) (v := 3) (Z := (fun _ => 0)) rfl (by decide) (hy_at (k := 1) rfl) (by decide) (by decide) ?_
  refine zn_heq (h' := hy 6 4 b [.inr (2, [.null, .int 0, .int 0, .int 0]), mNA 7 (va_up (fun _ => 0) 0 3)]) (hy_up (k := 1) rfl (Nat.le_of_ble_eq_true rfl) rfl) ?_
  refine zn_dup (pc := 13) rfl rfl ?_
  refine zn_iconstN (pc := 14) 1 rfl rfl ?_
  refine zn_iconstN (pc := 15) 3 rfl rfl ?_
  refine zn_naSt (pc := 16) (o := 5) (n := 7) (j := 1) (v := 3) (Z := (va_up (fun _ => 0) 0 3)) rfl (by decide) (hy_at (k := 1) rfl) (by decide) (by decide) ?_
  refine zn_heq (h' := hy 6 4 b [.inr (2, [.null, .int 0, .int 0, .int 0]), mNA 7 (va_up (va_up (fun _ => 0) 0 3) 1 3)]) (hy_up (k := 1) rfl (Nat.le_of_ble_eq_true rfl) rfl) ?_
  refine zn_dup (pc := 17) rfl rfl ?_
  refine zn_iconstN (pc := 18) 2 rfl rfl ?_
  refine zn_iconstN (pc := 19) 3 rfl rfl ?_
  refine zn_naSt (pc := 20) (o := 5) (n := 7) (j := 2) (v := 3) (Z := (va_up (va_up (fun _ => 0) 0 3) 1 3)) rfl (by decide) (hy_at (k := 1) rfl) (by decide) (by decide) ?_
  refine zn_heq (h' := hy 6 4 b [.inr (2, [.null, .int 0, .int 0, .int 0]), mNA 7 (va_up (va_up (va_up (fun _ => 0) 0 3) 1 3) 2 3)]) (hy_up (k := 1) rfl (Nat.le_of_ble_eq_true rfl) rfl) ?_
  refine zn_dup (pc := 21) rfl rfl ?_
  refine zn_iconstN (pc := 22) 3 rfl rfl ?_
  refine zn_iconstN (pc := 23) 3 rfl rfl ?_
  refine zn_naSt (pc := 24) (o := 5) (n := 7) (j := 3) (v := 3) (Z := (va_up (va_up (va_up (fun _ => 0) 0 3) 1 3) 2 3)) rfl (by decide) (hy_at (k := 1) rfl) (by decide) (by decide) ?_
  refine zn_heq (h' := hy 6 4 b [.inr (2, [.null, .int 0, .int 0, .int 0]), mNA 7 (va_up (va_up (va_up (va_up (fun _ => 0) 0 3) 1 3) 2 3) 3 3)]) (hy_up (k := 1) rfl (Nat.le_of_ble_eq_true rfl) rfl) ?_
  refine zn_dup (pc := 25) rfl rfl ?_
  refine zn_iconstN (pc := 26) 4 rfl rfl ?_
  refine zn_iconstN (pc := 27) 3 rfl rfl ?_
  refine zn_naSt (pc := 28) (o := 5) (n := 7) (j := 4) (v := 3) (Z := (va_up (va_up (va_up (va_up (fun _ => 0) 0 3) 1 3) 2 3) 3 3)) rfl (by decide) (hy_at (k := 1) rfl) (by decide) (by decide) ?_
  refine zn_heq (h' := hy 6 4 b [.inr (2, [.null, .int 0, .int 0, .int 0]), mNA 7 (va_up (va_up (va_up (va_up (va_up (fun _ => 0) 0 3) 1 3) 2 3) 3 3) 4 3)]) (hy_up (k := 1) rfl (Nat.le_of_ble_eq_true rfl) rfl) ?_
  refine zn_dup (pc := 29) rfl rfl ?_
  refine zn_iconstN (pc := 30) 5 rfl rfl ?_
  refine zn_iconstN (pc := 31) 3 rfl rfl ?_
  refine zn_naSt (pc := 32) (o := 5) (n := 7) (j := 5) (v := 3) (Z := (va_up (va_up (va_up (va_up (va_up (fun _ => 0) 0 3) 1 3) 2 3) 3 3) 4 3)) rfl (by decide) (hy_at (k := 1) rfl) (by decide) (by decide) ?_
  refine zn_heq (h' := hy 6 4 b [.inr (2, [.null, .int 0, .int 0, .int 0]), mNA 7 (va_up (va_up (va_up (va_up (va_up (va_up (fun _ => 0) 0 3) 1 3) 2 3) 3 3) 4 3) 5 3)]) (hy_up (k := 1) rfl (Nat.le_of_ble_eq_true rfl) rfl) ?_
  refine zn_dup (pc := 33) rfl rfl ?_
  refine zn_bipushN (pc := 34) 6 rfl rfl ?_
  refine zn_iconstN (pc := 36) 3 rfl rfl ?_
  refine zn_naSt (pc := 37) (o := 5) (n := 7) (j := 6) (v := 3) (Z := (va_up (va_up (va_up (va_up (va_up (va_up (fun _ => 0) 0 3) 1 3) 2 3) 3 3) 4 3) 5 3)) rfl (by decide) (hy_at (k := 1) rfl) (by decide) (by decide) ?_
  refine zn_heq (h' := hy 6 4 b [.inr (2, [.null, .int 0, .int 0, .int 0]), mNA 7 (va_up (va_up (va_up (va_up (va_up (va_up (va_up (fun _ => 0) 0 3) 1 3) 2 3) 3 3) 4 3) 5 3) 6 3)]) (hy_up (k := 1) rfl (Nat.le_of_ble_eq_true rfl) rfl) ?_
  refine zf_putA (pc := 38) (o := 4) (v := 5) (fs := [.null, .int 0, .int 0, .int 0]) (fs' := [.ref 5, .int 0, .int 0, .int 0]) rfl (hy_at (k := 0) rfl) (Nat.le_of_ble_eq_true rfl) rfl rfl ?_
  refine zn_heq (h' := hy 6 4 b [.inr (2, [.ref 5, .int 0, .int 0, .int 0]), mNA 7 (va_up (va_up (va_up (va_up (va_up (va_up (va_up (fun _ => 0) 0 3) 1 3) 2 3) 3 3) 4 3) 5 3) 6 3)]) (hy_up (k := 0) rfl (Nat.le_of_ble_eq_true rfl) rfl) ?_
  refine zn_aload_n (pc := 41) rfl rfl ?_
  refine zn_iconstN (pc := 42) 2 rfl rfl ?_
  refine zf_put (pc := 43) (o := 4) (v := 2) (fs := [.ref 5, .int 0, .int 0, .int 0]) (fs' := [.ref 5, .int (nI 2), .int 0, .int 0]) rfl (hy_at (k := 0) rfl) (Nat.le_of_ble_eq_true rfl) rfl rfl ?_
  refine zn_heq (h' := hy 6 4 b [.inr (2, [.ref 5, .int (nI 2), .int 0, .int 0]), mNA 7 (va_up (va_up (va_up (va_up (va_up (va_up (va_up (fun _ => 0) 0 3) 1 3) 2 3) 3 3) 4 3) 5 3) 6 3)]) (hy_up (k := 0) rfl (Nat.le_of_ble_eq_true rfl) rfl) ?_
  refine zn_aload_n (pc := 46) rfl rfl ?_
  refine zn_iconstN (pc := 47) 0 rfl rfl ?_
  refine zf_put (pc := 48) (o := 4) (v := 0) (fs := [.ref 5, .int (nI 2), .int 0, .int 0]) (fs' := [.ref 5, .int (nI 2), .int (nI 0), .int 0]) rfl (hy_at (k := 0) rfl) (Nat.le_of_ble_eq_true rfl) rfl rfl ?_
  refine zn_heq (h' := hy 6 4 b [.inr (2, [.ref 5, .int (nI 2), .int (nI 0), .int 0]), mNA 7 (va_up (va_up (va_up (va_up (va_up (va_up (va_up (fun _ => 0) 0 3) 1 3) 2 3) 3 3) 4 3) 5 3) 6 3)]) (hy_up (k := 0) rfl (Nat.le_of_ble_eq_true rfl) rfl) ?_
  refine zn_aload_n (pc := 51) rfl rfl ?_
  refine zn_iconstN (pc := 52) 1 rfl rfl ?_
  refine zf_put (pc := 53) (o := 4) (v := 1) (fs := [.ref 5, .int (nI 2), .int (nI 0), .int 0]) (fs' := [.ref 5, .int (nI 2), .int (nI 0), .int (nI 1)]) rfl (hy_at (k := 0) rfl) (Nat.le_of_ble_eq_true rfl) rfl rfl ?_
  refine zn_heq (h' := hy 6 4 b [.inr (2, [.ref 5, .int (nI 2), .int (nI 0), .int (nI 1)]), mNA 7 (va_up (va_up (va_up (va_up (va_up (va_up (va_up (fun _ => 0) 0 3) 1 3) 2 3) 3 3) 4 3) 5 3) 6 3)]) (hy_up (k := 0) rfl (Nat.le_of_ble_eq_true rfl) rfl) ?_
  exact zn_vret (pc := 56) rfl rfl ⟨rfl, rfl⟩
def o_X7_8 : List zO := [.inr (7, [.ref 9, .int (nI 0)]), mNA 3264 (fun _ => 0)]
theorem k_X7_8 {b : Nat → Option zO} : Zm g zX7_init [.ref 8] (hy 9 8 b [.inr (7, [.null, .int 0])]) 1 3264 (fun r h' => r = .inl none ∧ h' = hy 10 8 b [.inr (7, [.ref 9, .int (nI 0)]), mNA 3264 (fun _ => 0)]) := by
  show Zn g zX7_init 0 [some (.ref 8)] [] (hy 9 8 b [.inr (7, [.null, .int 0])]) 1 3264 _
  refine zn_aload_n (pc := 0) rfl rfl ?_
  refine zn_obj (pc := 1) rfl (Nat.le_of_ble_eq_true rfl) (Nat.le_of_ble_eq_true rfl) ?_
  refine zn_aload_n (pc := 4) rfl rfl ?_
  refine zn_sipushN (pc := 5) 3264 rfl rfl ?_
  refine zn_newI (pc := 8) (N := 3264) (mc := 0) (ms := 0) rfl (by decide) ?_
  refine zn_heq (h' := hy 10 8 b [.inr (7, [.null, .int 0]), mNA 3264 (fun _ => 0)]) (hy_new rfl rfl rfl) ?_
  refine zf_putA (pc := 10) (o := 8) (v := 9) (fs := [.null, .int 0]) (fs' := [.ref 9, .int 0]) rfl (hy_at (k := 0) rfl) (Nat.le_of_ble_eq_true rfl) rfl rfl ?_
  refine zn_heq (h' := hy 10 8 b [.inr (7, [.ref 9, .int 0]), mNA 3264 (fun _ => 0)]) (hy_up (k := 0) rfl (Nat.le_of_ble_eq_true rfl) rfl) ?_
  refine zn_aload_n (pc := 13) rfl rfl ?_
  refine zn_iconstN (pc := 14) 0 rfl rfl ?_
  refine zf_put (pc := 15) (o := 8) (v := 0) (fs := [.ref 9, .int 0]) (fs' := [.ref 9, .int (nI 0)]) rfl (hy_at (k := 0) rfl) (Nat.le_of_ble_eq_true rfl) rfl rfl ?_
  refine zn_heq (h' := hy 10 8 b [.inr (7, [.ref 9, .int (nI 0)]), mNA 3264 (fun _ => 0)]) (hy_up (k := 0) rfl (Nat.le_of_ble_eq_true rfl) rfl) ?_
  exact zn_vret (pc := 18) rfl rfl ⟨rfl, rfl⟩
def o_X3_6 : List zO := [.inr (3, [.ref 7, .ref 8, .int (nI 0), .int (nI 0), .int (nI 0)]), .inl (11, .inr (.inr (.inr (.inr (va_up (fun _ => none) 0 (some 8)))))), .inr (7, [.ref 9, .int (nI 0)]), mNA 3264 (fun _ => 0)]
theorem k_X3_6 {b : Nat → Option zO} : Zm g zX3_init [.ref 6] (hy 7 6 b [.inr (3, [.null, .null, .int 0, .int 0, .int 0])]) 3 3277 (fun r h' => r = .inl none ∧ h' = hy 10 6 b [.inr (3, [.ref 7, .ref 8, .int (nI 0), .int (nI 0), .int (nI 0)]), .inl (11, .inr (.inr (.inr (.inr (va_up (fun _ => none) 0 (some 8)))))), .inr (7, [.ref 9, .int (nI 0)]), mNA 3264 (fun _ => 0)]) := by
  show Zn g zX3_init 0 [some (.ref 6)] [] (hy 7 6 b [.inr (3, [.null, .null, .int 0, .int 0, .int 0])]) 3 3277 _
  refine zn_aload_n (pc := 0) rfl rfl ?_
  refine zn_obj (pc := 1) rfl (Nat.le_of_ble_eq_true rfl) (Nat.le_of_ble_eq_true rfl) ?_
  refine zn_aload_n (pc := 4) rfl rfl ?_
  refine zn_bipushN (pc := 5) 11 rfl rfl ?_
  refine zn_anew (pc := 7) (N := 11) (mc := 2) (ms := 3266) rfl (nI_pos (by decide)) (nI_clamp (by decide)) (by decide) ?_
  refine zn_heq (h' := hy 8 6 b [.inr (3, [.null, .null, .int 0, .int 0, .int 0]), .inl (11, .inr (.inr (.inr (.inr (fun _ => none)))))]) (hy_new rfl rfl rfl) ?_
  refine zf_putA (pc := 10) (o := 6) (v := 7) (fs := [.null, .null, .int 0, .int 0, .int 0]) (fs' := [.ref 7, .null, .int 0, .int 0, .int 0]) rfl (hy_at (k := 0) rfl) (Nat.le_of_ble_eq_true rfl) rfl rfl ?_
  refine zn_heq (h' := hy 8 6 b [.inr (3, [.ref 7, .null, .int 0, .int 0, .int 0]), .inl (11, .inr (.inr (.inr (.inr (fun _ => none)))))]) (hy_up (k := 0) rfl (Nat.le_of_ble_eq_true rfl) rfl) ?_
  refine zn_aload_n (pc := 13) rfl rfl ?_
  refine zn_nw7 (pc := 14) (mc := 1) (ms := 3264) rfl ?_
  refine zn_heq (h' := hy 9 6 b [.inr (3, [.ref 7, .null, .int 0, .int 0, .int 0]), .inl (11, .inr (.inr (.inr (.inr (fun _ => none))))), .inr (7, [.null, .int 0])]) (hy_new rfl rfl rfl) ?_
  refine zn_dup (pc := 17) rfl rfl ?_
  refine zn_heq (h' := hy 9 8 (hy 8 6 b [.inr (3, [.ref 7, .null, .int 0, .int 0, .int 0]), .inl (11, .inr (.inr (.inr (.inr (fun _ => none)))))]).1 [.inr (7, [.null, .int 0])]) (hy_spl rfl rfl) ?_
  refine zn_callIm (pc := 18) (J := zX7_init) (o := 8) (as := []) (rest := [.ref 8, .ref 6]) (mc1 := 1) (ms1 := 3264) (mc := 0) (ms := 0) rfl (by decide) rfl rfl rfl (Nat.le_of_ble_eq_true rfl) (Nat.le_of_ble_eq_true rfl) (Nat.le_of_ble_eq_true rfl) (Nat.le_of_ble_eq_true rfl) (fun E h9 q => by cases q.1) k_X7_8 ?_
  rintro v9 h9 ⟨e1, e2⟩
  cases e1
  subst e2
  refine zn_heq (h' := hy 10 6 b [.inr (3, [.ref 7, .null, .int 0, .int 0, .int 0]), .inl (11, .inr (.inr (.inr (.inr (fun _ => none))))), .inr (7, [.ref 9, .int (nI 0)]), mNA 3264 (fun _ => 0)]) (hy_app rfl rfl) ?_
  refine zf_putR (pc := 21) (o := 6) (v := 8) (fs := [.ref 7, .null, .int 0, .int 0, .int 0]) (fs' := [.ref 7, .ref 8, .int 0, .int 0, .int 0]) rfl (hy_at (k := 0) rfl) (Nat.le_of_ble_eq_true rfl) rfl rfl ?_
  refine zn_heq (h' := hy 10 6 b [.inr (3, [.ref 7, .ref 8, .int 0, .int 0, .int 0]), .inl (11, .inr (.inr (.inr (.inr (fun _ => none))))), .inr (7, [.ref 9, .int (nI 0)]), mNA 3264 (fun _ => 0)]) (hy_up (k := 0) rfl (Nat.le_of_ble_eq_true rfl) rfl) ?_
  refine zn_aload_n (pc := 24) rfl rfl ?_
  refine zn_iconstN (pc := 25) 0 rfl rfl ?_
  refine zf_put (pc := 26) (o := 6) (v := 0) (fs := [.ref 7, .ref 8, .int 0, .int 0, .int 0]) (fs' := [.ref 7, .ref 8, .int (nI 0), .int 0, .int 0]) rfl (hy_at (k := 0) rfl) (Nat.le_of_ble_eq_true rfl) rfl rfl ?_
  refine zn_heq (h' := hy 10 6 b [.inr (3, [.ref 7, .ref 8, .int (nI 0), .int 0, .int 0]), .inl (11, .inr (.inr (.inr (.inr (fun _ => none))))), .inr (7, [.ref 9, .int (nI 0)]), mNA 3264 (fun _ => 0)]) (hy_up (k := 0) rfl (Nat.le_of_ble_eq_true rfl) rfl) ?_
  refine zn_aload_n (pc := 29) rfl rfl ?_
  refine zn_iconstN (pc := 30) 0 rfl rfl ?_
  refine zf_put (pc := 31) (o := 6) (v := 0) (fs := [.ref 7, .ref 8, .int (nI 0), .int 0, .int 0]) (fs' := [.ref 7, .ref 8, .int (nI 0), .int (nI 0), .int 0]) rfl (hy_at (k := 0) rfl) (Nat.le_of_ble_eq_true rfl) rfl rfl ?_
  refine zn_heq (h' := hy 10 6 b [.inr (3, [.ref 7, .ref 8, .int (nI 0), .int (nI 0), .int 0]), .inl (11, .inr (.inr (.inr (.inr (fun _ => none))))), .inr (7, [.ref 9, .int (nI 0)]), mNA 3264 (fun _ => 0)]) (hy_up (k := 0) rfl (Nat.le_of_ble_eq_true rfl) rfl) ?_
  refine zn_aload_n (pc := 34) rfl rfl ?_
  refine zn_iconstN (pc := 35) 0 rfl rfl ?_
  refine zf_put (pc := 36) (o := 6) (v := 0) (fs := [.ref 7, .ref 8, .int (nI 0), .int (nI 0), .int 0]) (fs' := [.ref 7, .ref 8, .int (nI 0), .int (nI 0), .int (nI 0)]) rfl (hy_at (k := 0) rfl) (Nat.le_of_ble_eq_true rfl) rfl rfl ?_
  refine zn_heq (h' := hy 10 6 b [.inr (3, [.ref 7, .ref 8, .int (nI 0), .int (nI 0), .int (nI 0)]), .inl (11, .inr (.inr (.inr (.inr (fun _ => none))))), .inr (7, [.ref 9, .int (nI 0)]), mNA 3264 (fun _ => 0)]) (hy_up (k := 0) rfl (Nat.le_of_ble_eq_true rfl) rfl) ?_
  refine zn_aload_n (pc := 39) rfl rfl ?_
  refine zn_get (pc := 40) (o := 6) (fs := [.ref 7, .ref 8, .int (nI 0), .int (nI 0), .int (nI 0)]) (v := .ref 7) rfl (hy_at (k := 0) rfl) rfl ?_
  refine zn_iconstN (pc := 43) 0 rfl rfl ?_
  refine zn_aload_n (pc := 44) rfl rfl ?_
  refine zn_get (pc := 45) (o := 6) (fs := [.ref 7, .ref 8, .int (nI 0), .int (nI 0), .int (nI 0)]) (v := .ref 8) rfl (hy_at (k := 0) rfl) rfl ?_
  refine zn_aastN (pc := 48) (o := 7) (n := 11) (v := 8) (j := 0) (vs := [.ref 9, .int (nI 0)]) (f := (fun _ => none)) rfl (by decide) (hy_at (k := 1) rfl) (hy_at (k := 2) rfl) (by decide) (by decide) ?_
  refine zn_heq (h' := hy 10 6 b [.inr (3, [.ref 7, .ref 8, .int (nI 0), .int (nI 0), .int (nI 0)]), .inl (11, .inr (.inr (.inr (.inr (va_up (fun _ => none) 0 (some 8)))))), .inr (7, [.ref 9, .int (nI 0)]), mNA 3264 (fun _ => 0)]) (hy_up (k := 1) rfl (Nat.le_of_ble_eq_true rfl) rfl) ?_
  exact zn_vret (pc := 49) rfl rfl ⟨rfl, rfl⟩
def o_X1_11 : List zO := [.inr (1, [.int (nI 0), .ref 12, .ref 13, .ref 14, .ref 15, .ref 16, .ref 17]), mNA 24 (fun _ => 0), mNA 192 (fun _ => 0), mNA 192 (fun _ => 0), mNA 192 (fun _ => 0), mNA 192 (fun _ => 0), .inl (192, .inr (.inl (fun _ => 0)))]
theorem k_X1_11 {b : Nat → Option zO} : Zm g zX1_init [.ref 11] (hy 12 11 b [.inr (1, [.int 0, .null, .null, .null, .null, .null, .null])]) 6 984 (fun r h' => r = .inl none ∧ h' = hy 18 11 b [.inr (1, [.int (nI 0), .ref 12, .ref 13, .ref 14, .ref 15, .ref 16, .ref 17]), mNA 24 (fun _ => 0), mNA 192 (fun _ => 0), mNA 192 (fun _ => 0), mNA 192 (fun _ => 0), mNA 192 (fun _ => 0), .inl (192, .inr (.inl (fun _ => 0)))]) := by
  show Zn g zX1_init 0 [some (.ref 11)] [] (hy 12 11 b [.inr (1, [.int 0, .null, .null, .null, .null, .null, .null])]) 6 984 _
  refine zn_aload_n (pc := 0) rfl rfl ?_
  refine zn_obj (pc := 1) rfl (Nat.le_of_ble_eq_true rfl) (Nat.le_of_ble_eq_true rfl) ?_
  refine zn_aload_n (pc := 4) rfl rfl ?_
  refine zn_iconstN (pc := 5) 0 rfl rfl ?_
  refine zf_put (pc := 6) (o := 11) (v := 0) (fs := [.int 0, .null, .null, .null, .null, .null, .null]) (fs' := [.int (nI 0), .null, .null, .null, .null, .null, .null]) rfl (hy_at (k := 0) rfl) (Nat.le_of_ble_eq_true rfl) rfl rfl ?_
  refine zn_heq (h' := hy 12 11 b [.inr (1, [.int (nI 0), .null, .null, .null, .null, .null, .null])]) (hy_up (k := 0) rfl (Nat.le_of_ble_eq_true rfl) rfl) ?_
  refine zn_aload_n (pc := 9) rfl rfl ?_
  refine zn_bipushN (pc := 10) 24 rfl rfl ?_
  refine zn_newI (pc := 12) (N := 24) (mc := 5) (ms := 960) rfl (by decide) ?_
  refine zn_heq (h' := hy 13 11 b [.inr (1, [.int (nI 0), .null, .null, .null, .null, .null, .null]), mNA 24 (fun _ => 0)]) (hy_new rfl rfl rfl) ?_
  refine zf_putA (pc := 14) (o := 11) (v := 12) (fs := [.int (nI 0), .null, .null, .null, .null, .null, .null]) (fs' := [.int (nI 0), .ref 12, .null, .null, .null, .null, .null]) rfl (hy_at (k := 0) rfl) (Nat.le_of_ble_eq_true rfl) rfl rfl ?_
  refine zn_heq (h' := hy 13 11 b [.inr (1, [.int (nI 0), .ref 12, .null, .null, .null, .null, .null]), mNA 24 (fun _ => 0)]) (hy_up (k := 0) rfl (Nat.le_of_ble_eq_true rfl) rfl) ?_
  refine zn_aload_n (pc := 17) rfl rfl ?_
  refine zn_sipushN (pc := 18) 192 rfl rfl ?_
  refine zn_newI (pc := 21) (N := 192) (mc := 4) (ms := 768) rfl (by decide) ?_
  refine zn_heq (h' := hy 14 11 b [.inr (1, [.int (nI 0), .ref 12, .null, .null, .null, .null, .null]), mNA 24 (fun _ => 0), mNA 192 (fun _ => 0)]) (hy_new rfl rfl rfl) ?_
  refine zf_putA (pc := 23) (o := 11) (v := 13) (fs := [.int (nI 0), .ref 12, .null, .null, .null, .null, .null]) (fs' := [.int (nI 0), .ref 12, .ref 13, .null, .null, .null, .null]) rfl (hy_at (k := 0) rfl) (Nat.le_of_ble_eq_true rfl) rfl rfl ?_
  refine zn_heq (h' := hy 14 11 b [.inr (1, [.int (nI 0), .ref 12, .ref 13, .null, .null, .null, .null]), mNA 24 (fun _ => 0), mNA 192 (fun _ => 0)]) (hy_up (k := 0) rfl (Nat.le_of_ble_eq_true rfl) rfl) ?_
  refine zn_aload_n (pc := 26) rfl rfl ?_
  refine zn_sipushN (pc := 27) 192 rfl rfl ?_
  refine zn_newI (pc := 30) (N := 192) (mc := 3) (ms := 576) rfl (by decide) ?_
  refine zn_heq (h' := hy 15 11 b [.inr (1, [.int (nI 0), .ref 12, .ref 13, .null, .null, .null, .null]), mNA 24 (fun _ => 0), mNA 192 (fun _ => 0), mNA 192 (fun _ => 0)]) (hy_new rfl rfl rfl) ?_
  refine zf_putA (pc := 32) (o := 11) (v := 14) (fs := [.int (nI 0), .ref 12, .ref 13, .null, .null, .null, .null]) (fs' := [.int (nI 0), .ref 12, .ref 13, .ref 14, .null, .null, .null]) rfl (hy_at (k := 0) rfl) (Nat.le_of_ble_eq_true rfl) rfl rfl ?_
  refine zn_heq (h' := hy 15 11 b [.inr (1, [.int (nI 0), .ref 12, .ref 13, .ref 14, .null, .null, .null]), mNA 24 (fun _ => 0), mNA 192 (fun _ => 0), mNA 192 (fun _ => 0)]) (hy_up (k := 0) rfl (Nat.le_of_ble_eq_true rfl) rfl) ?_
  refine zn_aload_n (pc := 35) rfl rfl ?_
  refine zn_sipushN (pc := 36) 192 rfl rfl ?_
  refine zn_newI (pc := 39) (N := 192) (mc := 2) (ms := 384) rfl (by decide) ?_
  refine zn_heq (h' := hy 16 11 b [.inr (1, [.int (nI 0), .ref 12, .ref 13, .ref 14, .null, .null, .null]), mNA 24 (fun _ => 0), mNA 192 (fun _ => 0), mNA 192 (fun _ => 0), mNA 192 (fun _ => 0)]) (hy_new rfl rfl rfl) ?_
  refine zf_putA (pc := 41) (o := 11) (v := 15) (fs := [.int (nI 0), .ref 12, .ref 13, .ref 14, .null, .null, .null]) (fs' := [.int (nI 0), .ref 12, .ref 13, .ref 14, .ref 15, .null, .null]) rfl (hy_at (k := 0) rfl) (Nat.le_of_ble_eq_true rfl) rfl rfl ?_
  refine zn_heq (h' := hy 16 11 b [.inr (1, [.int (nI 0), .ref 12, .ref 13, .ref 14, .ref 15, .null, .null]), mNA 24 (fun _ => 0), mNA 192 (fun _ => 0), mNA 192 (fun _ => 0), mNA 192 (fun _ => 0)]) (hy_up (k := 0) rfl (Nat.le_of_ble_eq_true rfl) rfl) ?_
  refine zn_aload_n (pc := 44) rfl rfl ?_
  refine zn_sipushN (pc := 45) 192 rfl rfl ?_
  refine zn_newI (pc := 48) (N := 192) (mc := 1) (ms := 192) rfl (by decide) ?_
  refine zn_heq (h' := hy 17 11 b [.inr (1, [.int (nI 0), .ref 12, .ref 13, .ref 14, .ref 15, .null, .null]), mNA 24 (fun _ => 0), mNA 192 (fun _ => 0), mNA 192 (fun _ => 0), mNA 192 (fun _ => 0), mNA 192 (fun _ => 0)]) (hy_new rfl rfl rfl) ?_
  refine zf_putA (pc := 50) (o := 11) (v := 16) (fs := [.int (nI 0), .ref 12, .ref 13, .ref 14, .ref 15, .null, .null]) (fs' := [.int (nI 0), .ref 12, .ref 13, .ref 14, .ref 15, .ref 16, .null]) rfl (hy_at (k := 0) rfl) (Nat.le_of_ble_eq_true rfl) rfl rfl ?_
  refine zn_heq (h' := hy 17 11 b [.inr (1, [.int (nI 0), .ref 12, .ref 13, .ref 14, .ref 15, .ref 16, .null]), mNA 24 (fun _ => 0), mNA 192 (fun _ => 0), mNA 192 (fun _ => 0), mNA 192 (fun _ => 0), mNA 192 (fun _ => 0)]) (hy_up (k := 0) rfl (Nat.le_of_ble_eq_true rfl) rfl) ?_
  refine zn_aload_n (pc := 53) rfl rfl ?_
  refine zn_sipushN (pc := 54) 192 rfl rfl ?_
  refine zn_newL (pc := 57) (N := 192) (mc := 0) (ms := 0) rfl (by decide) ?_
  refine zn_heq (h' := hy 18 11 b [.inr (1, [.int (nI 0), .ref 12, .ref 13, .ref 14, .ref 15, .ref 16, .null]), mNA 24 (fun _ => 0), mNA 192 (fun _ => 0), mNA 192 (fun _ => 0), mNA 192 (fun _ => 0), mNA 192 (fun _ => 0), .inl (192, .inr (.inl (fun _ => 0)))]) (hy_new rfl rfl rfl) ?_
  refine zf_putA (pc := 59) (o := 11) (v := 17) (fs := [.int (nI 0), .ref 12, .ref 13, .ref 14, .ref 15, .ref 16, .null]) (fs' := [.int (nI 0), .ref 12, .ref 13, .ref 14, .ref 15, .ref 16, .ref 17]) rfl (hy_at (k := 0) rfl) (Nat.le_of_ble_eq_true rfl) rfl rfl ?_
  refine zn_heq (h' := hy 18 11 b [.inr (1, [.int (nI 0), .ref 12, .ref 13, .ref 14, .ref 15, .ref 16, .ref 17]), mNA 24 (fun _ => 0), mNA 192 (fun _ => 0), mNA 192 (fun _ => 0), mNA 192 (fun _ => 0), mNA 192 (fun _ => 0), .inl (192, .inr (.inl (fun _ => 0)))]) (hy_up (k := 0) rfl (Nat.le_of_ble_eq_true rfl) rfl) ?_
  exact zn_vret (pc := 62) rfl rfl ⟨rfl, rfl⟩
def o_X0_18 : List zO := [.inr (0, [.int (nI 0), .ref 19, .ref 20, .ref 21, .ref 22, .ref 23, .ref 24, .ref 25, .ref 26, .ref 27]), mNA 84 (fun _ => 0), mNA 84 (fun _ => 0), mNA 84 (fun _ => 0), mNA 84 (fun _ => 0), mNA 84 (fun _ => 0), mNA 84 (fun _ => 0), mNA 84 (fun _ => 0), mNA 84 (fun _ => 0), .inl (84, .inr (.inl (fun _ => 0)))]
theorem k_X0_18 {b : Nat → Option zO} : Zm g zX0_init [.ref 18] (hy 19 18 b [.inr (0, [.int 0, .null, .null, .null, .null, .null, .null, .null, .null, .null])]) 9 756 (fun r h' => r = .inl none ∧ h' = hy 28 18 b [.inr (0, [.int (nI 0), .ref 19, .ref 20, .ref 21, .ref 22, .ref 23, .ref 24, .ref 25, .ref 26, .ref 27]), mNA 84 (fun _ => 0), mNA 84 (fun _ => 0), mNA 84 (fun _ => 0), mNA 84 (fun _ => 0), mNA 84 (fun _ => 0), mNA 84 (fun _ => 0), mNA 84 (fun _ => 0), mNA 84 (fun _ => 0), .inl (84, .inr (.inl (fun _ => 0)))]) := by
  show Zn g zX0_init 0 [some (.ref 18)] [] (hy 19 18 b [.inr (0, [.int 0, .null, .null, .null, .null, .null, .null, .null, .null, .null])]) 9 756 _
  refine zn_aload_n (pc := 0) rfl rfl ?_
  refine zn_obj (pc := 1) rfl (Nat.le_of_ble_eq_true rfl) (Nat.le_of_ble_eq_true rfl) ?_
  refine zn_aload_n (pc := 4) rfl rfl ?_
  refine zn_iconstN (pc := 5) 0 rfl rfl ?_
  refine zf_put (pc := 6) (o := 18) (v := 0) (fs := [.int 0, .null, .null, .null, .null, .null, .null, .null, .null, .null]) (fs' := [.int (nI 0), .null, .null, .null, .null, .null, .null, .null, .null, .null]) rfl (hy_at (k := 0) rfl) (Nat.le_of_ble_eq_true rfl) rfl rfl ?_
  refine zn_heq (h' := hy 19 18 b [.inr (0, [.int (nI 0), .null, .null, .null, .null, .null, .null, .null, .null, .null])]) (hy_up (k := 0) rfl (Nat.le_of_ble_eq_true rfl) rfl) ?_
  refine zn_aload_n (pc := 9) rfl rfl ?_
  refine zn_bipushN (pc := 10) 84 rfl rfl ?_
  refine zn_newI (pc := 12) (N := 84) (mc := 8) (ms := 672) rfl (by decide) ?_
  refine zn_heq (h' := hy 20 18 b [.inr (0, [.int (nI 0), .null, .null, .null, .null, .null, .null, .null, .null, .null]), mNA 84 (fun _ => 0)]) (hy_new rfl rfl rfl) ?_
  refine zf_putA (pc := 14) (o := 18) (v := 19) (fs := [.int (nI 0), .null, .null, .null, .null, .null, .null, .null, .null, .null]) (fs' := [.int (nI 0), .ref 19, .null, .null, .null, .null, .null, .null, .null, .null]) rfl (hy_at (k := 0) rfl) (Nat.le_of_ble_eq_true rfl) rfl rfl ?_
  refine zn_heq (h' := hy 20 18 b [.inr (0, [.int (nI 0), .ref 19, .null, .null, .null, .null, .null, .null, .null, .null]), mNA 84 (fun _ => 0)]) (hy_up (k := 0) rfl (Nat.le_of_ble_eq_true rfl) rfl) ?_
  refine zn_aload_n (pc := 17) rfl rfl ?_
  refine zn_bipushN (pc := 18) 84 rfl rfl ?_
  refine zn_newI (pc := 20) (N := 84) (mc := 7) (ms := 588) rfl (by decide) ?_
  refine zn_heq (h' := hy 21 18 b [.inr (0, [.int (nI 0), .ref 19, .null, .null, .null, .null, .null, .null, .null, .null]), mNA 84 (fun _ => 0), mNA 84 (fun _ => 0)]) (hy_new rfl rfl rfl) ?_
  refine zf_putA (pc := 22) (o := 18) (v := 20) (fs := [.int (nI 0), .ref 19, .null, .null, .null, .null, .null, .null, .null, .null]) (fs' := [.int (nI 0), .ref 19, .ref 20, .null, .null, .null, .null, .null, .null, .null]) rfl (hy_at (k := 0) rfl) (Nat.le_of_ble_eq_true rfl) rfl rfl ?_
  refine zn_heq (h' := hy 21 18 b [.inr (0, [.int (nI 0), .ref 19, .ref 20, .null, .null, .null, .null, .null, .null, .null]), mNA 84 (fun _ => 0), mNA 84 (fun _ => 0)]) (hy_up (k := 0) rfl (Nat.le_of_ble_eq_true rfl) rfl) ?_
  refine zn_aload_n (pc := 25) rfl rfl ?_
  refine zn_bipushN (pc := 26) 84 rfl rfl ?_
  refine zn_newI (pc := 28) (N := 84) (mc := 6) (ms := 504) rfl (by decide) ?_
  refine zn_heq (h' := hy 22 18 b [.inr (0, [.int (nI 0), .ref 19, .ref 20, .null, .null, .null, .null, .null, .null, .null]), mNA 84 (fun _ => 0), mNA 84 (fun _ => 0), mNA 84 (fun _ => 0)]) (hy_new rfl rfl rfl) ?_
  refine zf_putA (pc := 30) (o := 18) (v := 21) (fs := [.int (nI 0), .ref 19, .ref 20, .null, .null, .null, .null, .null, .null, .null]) (fs' := [.int (nI 0), .ref 19, .ref 20, .ref 21, .null, .null, .null, .null, .null, .null]) rfl (hy_at (k := 0) rfl) (Nat.le_of_ble_eq_true rfl) rfl rfl ?_
  refine zn_heq (h' := hy 22 18 b [.inr (0, [.int (nI 0), .ref 19, .ref 20, .ref 21, .null, .null, .null, .null, .null, .null]), mNA 84 (fun _ => 0), mNA 84 (fun _ => 0), mNA 84 (fun _ => 0)]) (hy_up (k := 0) rfl (Nat.le_of_ble_eq_true rfl) rfl) ?_
  refine zn_aload_n (pc := 33) rfl rfl ?_
  refine zn_bipushN (pc := 34) 84 rfl rfl ?_
  refine zn_newI (pc := 36) (N := 84) (mc := 5) (ms := 420) rfl (by decide) ?_
  refine zn_heq (h' := hy 23 18 b [.inr (0, [.int (nI 0), .ref 19, .ref 20, .ref 21, .null, .null, .null, .null, .null, .null]), mNA 84 (fun _ => 0), mNA 84 (fun _ => 0), mNA 84 (fun _ => 0), mNA 84 (fun _ => 0)]) (hy_new rfl rfl rfl) ?_
  refine zf_putA (pc := 38) (o := 18) (v := 22) (fs := [.int (nI 0), .ref 19, .ref 20, .ref 21, .null, .null, .null, .null, .null, .null]) (fs' := [.int (nI 0), .ref 19, .ref 20, .ref 21, .ref 22, .null, .null, .null, .null, .null]) rfl (hy_at (k := 0) rfl) (Nat.le_of_ble_eq_true rfl) rfl rfl ?_
  refine zn_heq (h' := hy 23 18 b [.inr (0, [.int (nI 0), .ref 19, .ref 20, .ref 21, .ref 22, .null, .null, .null, .null, .null]), mNA 84 (fun _ => 0), mNA 84 (fun _ => 0), mNA 84 (fun _ => 0), mNA 84 (fun _ => 0)]) (hy_up (k := 0) rfl (Nat.le_of_ble_eq_true rfl) rfl) ?_
  refine zn_aload_n (pc := 41) rfl rfl ?_
  refine zn_bipushN (pc := 42) 84 rfl rfl ?_
  refine zn_newI (pc := 44) (N := 84) (mc := 4) (ms := 336) rfl (by decide) ?_
  refine zn_heq (h' := hy 24 18 b [.inr (0, [.int (nI 0), .ref 19, .ref 20, .ref 21, .ref 22, .null, .null, .null, .null, .null]), mNA 84 (fun _ => 0), mNA 84 (fun _ => 0), mNA 84 (fun _ => 0), mNA 84 (fun _ => 0), mNA 84 (fun _ => 0)]) (hy_new rfl rfl rfl) ?_
  refine zf_putA (pc := 46) (o := 18) (v := 23) (fs := [.int (nI 0), .ref 19, .ref 20, .ref 21, .ref 22, .null, .null, .null, .null, .null]) (fs' := [.int (nI 0), .ref 19, .ref 20, .ref 21, .ref 22, .ref 23, .null, .null, .null, .null]) rfl (hy_at (k := 0) rfl) (Nat.le_of_ble_eq_true rfl) rfl rfl ?_
  refine zn_heq (h' := hy 24 18 b [.inr (0, [.int (nI 0), .ref 19, .ref 20, .ref 21, .ref 22, .ref 23, .null, .null, .null, .null]), mNA 84 (fun _ => 0), mNA 84 (fun _ => 0), mNA 84 (fun _ => 0), mNA 84 (fun _ => 0), mNA 84 (fun _ => 0)]) (hy_up (k := 0) rfl (Nat.le_of_ble_eq_true rfl) rfl) ?_
  refine zn_aload_n (pc := 49) rfl rfl ?_
  refine zn_bipushN (pc := 50) 84 rfl rfl ?_
  refine zn_newI (pc := 52) (N := 84) (mc := 3) (ms := 252) rfl (by decide) ?_
  refine zn_heq (h' := hy 25 18 b [.inr (0, [.int (nI 0), .ref 19, .ref 20, .ref 21, .ref 22, .ref 23, .null, .null, .null, .null]), mNA 84 (fun _ => 0), mNA 84 (fun _ => 0), mNA 84 (fun _ => 0), mNA 84 (fun _ => 0), mNA 84 (fun _ => 0), mNA 84 (fun _ => 0)]) (hy_new rfl rfl rfl) ?_
  refine zf_putA (pc := 54) (o := 18) (v := 24) (fs := [.int (nI 0), .ref 19, .ref 20, .ref 21, .ref 22, .ref 23, .null, .null, .null, .null]) (fs' := [.int (nI 0), .ref 19, .ref 20, .ref 21, .ref 22, .ref 23, .ref 24, .null, .null, .null]) rfl (hy_at (k := 0) rfl) (Nat.le_of_ble_eq_true rfl) rfl rfl ?_
  refine zn_heq (h' := hy 25 18 b [.inr (0, [.int (nI 0), .ref 19, .ref 20, .ref 21, .ref 22, .ref 23, .ref 24, .null, .null, .null]), mNA 84 (fun _ => 0), mNA 84 (fun _ => 0), mNA 84 (fun _ => 0), mNA 84 (fun _ => 0), mNA 84 (fun _ => 0), mNA 84 (fun _ => 0)]) (hy_up (k := 0) rfl (Nat.le_of_ble_eq_true rfl) rfl) ?_
  refine zn_aload_n (pc := 57) rfl rfl ?_
  refine zn_bipushN (pc := 58) 84 rfl rfl ?_
  refine zn_newI (pc := 60) (N := 84) (mc := 2) (ms := 168) rfl (by decide) ?_
  refine zn_heq (h' := hy 26 18 b [.inr (0, [.int (nI 0), .ref 19, .ref 20, .ref 21, .ref 22, .ref 23, .ref 24, .null, .null, .null]), mNA 84 (fun _ => 0), mNA 84 (fun _ => 0), mNA 84 (fun _ => 0), mNA 84 (fun _ => 0), mNA 84 (fun _ => 0), mNA 84 (fun _ => 0), mNA 84 (fun _ => 0)]) (hy_new rfl rfl rfl) ?_
  refine zf_putA (pc := 62) (o := 18) (v := 25) (fs := [.int (nI 0), .ref 19, .ref 20, .ref 21, .ref 22, .ref 23, .ref 24, .null, .null, .null]) (fs' := [.int (nI 0), .ref 19, .ref 20, .ref 21, .ref 22, .ref 23, .ref 24, .ref 25, .null, .null]) rfl (hy_at (k := 0) rfl) (Nat.le_of_ble_eq_true rfl) rfl rfl ?_
  refine zn_heq (h' := hy 26 18 b [.inr (0, [.int (nI 0), .ref 19, .ref 20, .ref 21, .ref 22, .ref 23, .ref 24, .ref 25, .null, .null]), mNA 84 (fun _ => 0), mNA 84 (fun _ => 0), mNA 84 (fun _ => 0), mNA 84 (fun _ => 0), mNA 84 (fun _ => 0), mNA 84 (fun _ => 0), mNA 84 (fun _ => 0)]) (hy_up (k := 0) rfl (Nat.le_of_ble_eq_true rfl) rfl) ?_
  refine zn_aload_n (pc := 65) rfl rfl ?_
  refine zn_bipushN (pc := 66) 84 rfl rfl ?_
  refine zn_newI (pc := 68) (N := 84) (mc := 1) (ms := 84) rfl (by decide) ?_
  refine zn_heq (h' := hy 27 18 b [.inr (0, [.int (nI 0), .ref 19, .ref 20, .ref 21, .ref 22, .ref 23, .ref 24, .ref 25, .null, .null]), mNA 84 (fun _ => 0), mNA 84 (fun _ => 0), mNA 84 (fun _ => 0), mNA 84 (fun _ => 0), mNA 84 (fun _ => 0), mNA 84 (fun _ => 0), mNA 84 (fun _ => 0), mNA 84 (fun _ => 0)]) (hy_new rfl rfl rfl) ?_
  refine zf_putA (pc := 70) (o := 18) (v := 26) (fs := [.int (nI 0), .ref 19, .ref 20, .ref 21, .ref 22, .ref 23, .ref 24, .ref 25, .null, .null]) (fs' := [.int (nI 0), .ref 19, .ref 20, .ref 21, .ref 22, .ref 23, .ref 24, .ref 25, .ref 26, .null]) rfl (hy_at (k := 0) rfl) (Nat.le_of_ble_eq_true rfl) rfl rfl ?_
  refine zn_heq (h' := hy 27 18 b [.inr (0, [.int (nI 0), .ref 19, .ref 20, .ref 21, .ref 22, .ref 23, .ref 24, .ref 25, .ref 26, .null]), mNA 84 (fun _ => 0), mNA 84 (fun _ => 0), mNA 84 (fun _ => 0), mNA 84 (fun _ => 0), mNA 84 (fun _ => 0), mNA 84 (fun _ => 0), mNA 84 (fun _ => 0), mNA 84 (fun _ => 0)]) (hy_up (k := 0) rfl (Nat.le_of_ble_eq_true rfl) rfl) ?_
  refine zn_aload_n (pc := 73) rfl rfl ?_
  refine zn_bipushN (pc := 74) 84 rfl rfl ?_
  refine zn_newL (pc := 76) (N := 84) (mc := 0) (ms := 0) rfl (by decide) ?_
  refine zn_heq (h' := hy 28 18 b [.inr (0, [.int (nI 0), .ref 19, .ref 20, .ref 21, .ref 22, .ref 23, .ref 24, .ref 25, .ref 26, .null]), mNA 84 (fun _ => 0), mNA 84 (fun _ => 0), mNA 84 (fun _ => 0), mNA 84 (fun _ => 0), mNA 84 (fun _ => 0), mNA 84 (fun _ => 0), mNA 84 (fun _ => 0), mNA 84 (fun _ => 0), .inl (84, .inr (.inl (fun _ => 0)))]) (hy_new rfl rfl rfl) ?_
  refine zf_putA (pc := 78) (o := 18) (v := 27) (fs := [.int (nI 0), .ref 19, .ref 20, .ref 21, .ref 22, .ref 23, .ref 24, .ref 25, .ref 26, .null]) (fs' := [.int (nI 0), .ref 19, .ref 20, .ref 21, .ref 22, .ref 23, .ref 24, .ref 25, .ref 26, .ref 27]) rfl (hy_at (k := 0) rfl) (Nat.le_of_ble_eq_true rfl) rfl rfl ?_
  refine zn_heq (h' := hy 28 18 b [.inr (0, [.int (nI 0), .ref 19, .ref 20, .ref 21, .ref 22, .ref 23, .ref 24, .ref 25, .ref 26, .ref 27]), mNA 84 (fun _ => 0), mNA 84 (fun _ => 0), mNA 84 (fun _ => 0), mNA 84 (fun _ => 0), mNA 84 (fun _ => 0), mNA 84 (fun _ => 0), mNA 84 (fun _ => 0), mNA 84 (fun _ => 0), .inl (84, .inr (.inl (fun _ => 0)))]) (hy_up (k := 0) rfl (Nat.le_of_ble_eq_true rfl) rfl) ?_
  exact zn_vret (pc := 81) rfl rfl ⟨rfl, rfl⟩
def o_X5_10 : List zO := [.inr (5, [.ref 11, .ref 18, .ref 28, .ref 29]), .inr (1, [.int (nI 0), .ref 12, .ref 13, .ref 14, .ref 15, .ref 16, .ref 17]), mNA 24 (fun _ => 0), mNA 192 (fun _ => 0), mNA 192 (fun _ => 0), mNA 192 (fun _ => 0), mNA 192 (fun _ => 0), .inl (192, .inr (.inl (fun _ => 0))), .inr (0, [.int (nI 0), .ref 19, .ref 20, .ref 21, .ref 22, .ref 23, .ref 24, .ref 25, .ref 26, .ref 27]), mNA 84 (fun _ => 0), mNA 84 (fun _ => 0), mNA 84 (fun _ => 0), mNA 84 (fun _ => 0), mNA 84 (fun _ => 0), mNA 84 (fun _ => 0), mNA 84 (fun _ => 0), mNA 84 (fun _ => 0), .inl (84, .inr (.inl (fun _ => 0))), mNA 192 (fun _ => 0), mNA 192 (fun _ => 0)]
theorem k_X5_10 {b : Nat → Option zO} : Zm g zX5_init [.ref 10] (hy 11 10 b [.inr (5, [.null, .null, .null, .null])]) 19 2141 (fun r h' => r = .inl none ∧ h' = hy 30 10 b [.inr (5, [.ref 11, .ref 18, .ref 28, .ref 29]), .inr (1, [.int (nI 0), .ref 12, .ref 13, .ref 14, .ref 15, .ref 16, .ref 17]), mNA 24 (fun _ => 0), mNA 192 (fun _ => 0), mNA 192 (fun _ => 0), mNA 192 (fun _ => 0), mNA 192 (fun _ => 0), .inl (192, .inr (.inl (fun _ => 0))), .inr (0, [.int (nI 0), .ref 19, .ref 20, .ref 21, .ref 22, .ref 23, .ref 24, .ref 25, .ref 26, .ref 27]), mNA 84 (fun _ => 0), mNA 84 (fun _ => 0), mNA 84 (fun _ => 0), mNA 84 (fun _ => 0), mNA 84 (fun _ => 0), mNA 84 (fun _ => 0), mNA 84 (fun _ => 0), mNA 84 (fun _ => 0), .inl (84, .inr (.inl (fun _ => 0))), mNA 192 (fun _ => 0), mNA 192 (fun _ => 0)]) := by
  show Zn g zX5_init 0 [some (.ref 10)] [] (hy 11 10 b [.inr (5, [.null, .null, .null, .null])]) 19 2141 _
  refine zn_aload_n (pc := 0) rfl rfl ?_
  refine zn_obj (pc := 1) rfl (Nat.le_of_ble_eq_true rfl) (Nat.le_of_ble_eq_true rfl) ?_
  refine zn_aload_n (pc := 4) rfl rfl ?_
  refine zn_nw1 (pc := 5) (mc := 18) (ms := 2134) rfl ?_
  refine zn_heq (h' := hy 12 10 b [.inr (5, [.null, .null, .null, .null]), .inr (1, [.int 0, .null, .null, .null, .null, .null, .null])]) (hy_new rfl rfl rfl) ?_
  refine zn_dup (pc := 8) rfl rfl ?_
  refine zn_heq (h' := hy 12 11 (hy 11 10 b [.inr (5, [.null, .null, .null, .null])]).1 [.inr (1, [.int 0, .null, .null, .null, .null, .null, .null])]) (hy_spl rfl rfl) ?_
  refine zn_callIm (pc := 9) (J := zX1_init) (o := 11) (as := []) (rest := [.ref 11, .ref 10]) (mc1 := 6) (ms1 := 984) (mc := 12) (ms := 1150) rfl (by decide) rfl rfl rfl (Nat.le_of_ble_eq_true rfl) (Nat.le_of_ble_eq_true rfl) (Nat.le_of_ble_eq_true rfl) (Nat.le_of_ble_eq_true rfl) (fun E h9 q => by cases q.1) k_X1_11 ?_
  rintro v9 h9 ⟨e1, e2⟩
  cases e1
  subst e2
  refine zn_heq (h' := hy 18 10 b [.inr (5, [.null, .null, .null, .null]), .inr (1, [.int (nI 0), .ref 12, .ref 13, .ref 14, .ref 15, .ref 16, .ref 17]), mNA 24 (fun _ => 0), mNA 192 (fun _ => 0), mNA 192 (fun _ => 0), mNA 192 (fun _ => 0), mNA 192 (fun _ => 0), .inl (192, .inr (.inl (fun _ => 0)))]) (hy_app rfl rfl) ?_
  refine zf_putR (pc := 12) (o := 10) (v := 11) (fs := [.null, .null, .null, .null]) (fs' := [.ref 11, .null, .null, .null]) rfl (hy_at (k := 0) rfl) (Nat.le_of_ble_eq_true rfl) rfl rfl ?_
  refine zn_heq (h' := hy 18 10 b [.inr (5, [.ref 11, .null, .null, .null]), .inr (1, [.int (nI 0), .ref 12, .ref 13, .ref 14, .ref 15, .ref 16, .ref 17]), mNA 24 (fun _ => 0), mNA 192 (fun _ => 0), mNA 192 (fun _ => 0), mNA 192 (fun _ => 0), mNA 192 (fun _ => 0), .inl (192, .inr (.inl (fun _ => 0)))]) (hy_up (k := 0) rfl (Nat.le_of_ble_eq_true rfl) rfl) ?_
  refine zn_aload_n (pc := 15) rfl rfl ?_
  refine zn_nw0 (pc := 16) (mc := 11) (ms := 1140) rfl ?_
  refine zn_heq (h' := hy 19 10 b [.inr (5, [.ref 11, .null, .null, .null]), .inr (1, [.int (nI 0), .ref 12, .ref 13, .ref 14, .ref 15, .ref 16, .ref 17]), mNA 24 (fun _ => 0), mNA 192 (fun _ => 0), mNA 192 (fun _ => 0), mNA 192 (fun _ => 0), mNA 192 (fun _ => 0), .inl (192, .inr (.inl (fun _ => 0))), .inr (0, [.int 0, .null, .null, .null, .null, .null, .null, .null, .null, .null])]) (hy_new rfl rfl rfl) ?_
  refine zn_dup (pc := 19) rfl rfl ?_
  refine zn_heq (h' := hy 19 18 (hy 18 10 b [.inr (5, [.ref 11, .null, .null, .null]), .inr (1, [.int (nI 0), .ref 12, .ref 13, .ref 14, .ref 15, .ref 16, .ref 17]), mNA 24 (fun _ => 0), mNA 192 (fun _ => 0), mNA 192 (fun _ => 0), mNA 192 (fun _ => 0), mNA 192 (fun _ => 0), .inl (192, .inr (.inl (fun _ => 0)))]).1 [.inr (0, [.int 0, .null, .null, .null, .null, .null, .null, .null, .null, .null])]) (hy_spl rfl rfl) ?_
  refine zn_callIm (pc := 20) (J := zX0_init) (o := 18) (as := []) (rest := [.ref 18, .ref 10]) (mc1 := 9) (ms1 := 756) (mc := 2) (ms := 384) rfl (by decide) rfl rfl rfl (Nat.le_of_ble_eq_true rfl) (Nat.le_of_ble_eq_true rfl) (Nat.le_of_ble_eq_true rfl) (Nat.le_of_ble_eq_true rfl) (fun E h9 q => by cases q.1) k_X0_18 ?_
  rintro v9 h9 ⟨e1, e2⟩
  cases e1
  subst e2
  refine zn_heq (h' := hy 28 10 b [.inr (5, [.ref 11, .null, .null, .null]), .inr (1, [.int (nI 0), .ref 12, .ref 13, .ref 14, .ref 15, .ref 16, .ref 17]), mNA 24 (fun _ => 0), mNA 192 (fun _ => 0), mNA 192 (fun _ => 0), mNA 192 (fun _ => 0), mNA 192 (fun _ => 0), .inl (192, .inr (.inl (fun _ => 0))), .inr (0, [.int (nI 0), .ref 19, .ref 20, .ref 21, .ref 22, .ref 23, .ref 24, .ref 25, .ref 26, .ref 27]), mNA 84 (fun _ => 0), mNA 84 (fun _ => 0), mNA 84 (fun _ => 0), mNA 84 (fun _ => 0), mNA 84 (fun _ => 0), mNA 84 (fun _ => 0), mNA 84 (fun _ => 0), mNA 84 (fun _ => 0), .inl (84, .inr (.inl (fun _ => 0)))]) (hy_app rfl rfl) ?_
  refine zf_putR (pc := 23) (o := 10) (v := 18) (fs := [.ref 11, .null, .null, .null]) (fs' := [.ref 11, .ref 18, .null, .null]) rfl (hy_at (k := 0) rfl) (Nat.le_of_ble_eq_true rfl) rfl rfl ?_
  refine zn_heq (h' := hy 28 10 b [.inr (5, [.ref 11, .ref 18, .null, .null]), .inr (1, [.int (nI 0), .ref 12, .ref 13, .ref 14, .ref 15, .ref 16, .ref 17]), mNA 24 (fun _ => 0), mNA 192 (fun _ => 0), mNA 192 (fun _ => 0), mNA 192 (fun _ => 0), mNA 192 (fun _ => 0), .inl (192, .inr (.inl (fun _ => 0))), .inr (0, [.int (nI 0), .ref 19, .ref 20, .ref 21, .ref 22, .ref 23, .ref 24, .ref 25, .ref 26, .ref 27]), mNA 84 (fun _ => 0), mNA 84 (fun _ => 0), mNA 84 (fun _ => 0), mNA 84 (fun _ => 0), mNA 84 (fun _ => 0), mNA 84 (fun _ => 0), mNA 84 (fun _ => 0), mNA 84 (fun _ => 0), .inl (84, .inr (.inl (fun _ => 0)))]) (hy_up (k := 0) rfl (Nat.le_of_ble_eq_true rfl) rfl) ?_
  refine zn_aload_n (pc := 26) rfl rfl ?_
  refine zn_sipushN (pc := 27) 192 rfl rfl ?_
  refine zn_newI (pc := 30) (N := 192) (mc := 1) (ms := 192) rfl (by decide) ?_
  refine zn_heq (h' := hy 29 10 b [.inr (5, [.ref 11, .ref 18, .null, .null]), .inr (1, [.int (nI 0), .ref 12, .ref 13, .ref 14, .ref 15, .ref 16, .ref 17]), mNA 24 (fun _ => 0), mNA 192 (fun _ => 0), mNA 192 (fun _ => 0), mNA 192 (fun _ => 0), mNA 192 (fun _ => 0), .inl (192, .inr (.inl (fun _ => 0))), .inr (0, [.int (nI 0), .ref 19, .ref 20, .ref 21, .ref 22, .ref 23, .ref 24, .ref 25, .ref 26, .ref 27]), mNA 84 (fun _ => 0), mNA 84 (fun _ => 0), mNA 84 (fun _ => 0), mNA 84 (fun _ => 0), mNA 84 (fun _ => 0), mNA 84 (fun _ => 0), mNA 84 (fun _ => 0), mNA 84 (fun _ => 0), .inl (84, .inr (.inl (fun _ => 0))), mNA 192 (fun _ => 0)]) (hy_new rfl rfl rfl) ?_
  refine zf_putA (pc := 32) (o := 10) (v := 28) (fs := [.ref 11, .ref 18, .null, .null]) (fs' := [.ref 11, .ref 18, .ref 28, .null]) rfl (hy_at (k := 0) rfl) (Nat.le_of_ble_eq_true rfl) rfl rfl ?_
  refine zn_heq (h' := hy 29 10 b [.inr (5, [.ref 11, .ref 18, .ref 28, .null]), .inr (1, [.int (nI 0), .ref 12, .ref 13, .ref 14, .ref 15, .ref 16, .ref 17]), mNA 24 (fun _ => 0), mNA 192 (fun _ => 0), mNA 192 (fun _ => 0), mNA 192 (fun _ => 0), mNA 192 (fun _ => 0), .inl (192, .inr (.inl (fun _ => 0))), .inr (0, [.int (nI 0), .ref 19, .ref 20, .ref 21, .ref 22, .ref 23, .ref 24, .ref 25, .ref 26, .ref 27]), mNA 84 (fun _ => 0), mNA 84 (fun _ => 0), mNA 84 (fun _ => 0), mNA 84 (fun _ => 0), mNA 84 (fun _ => 0), mNA 84 (fun _ => 0), mNA 84 (fun _ => 0), mNA 84 (fun _ => 0), .inl (84, .inr (.inl (fun _ => 0))), mNA 192 (fun _ => 0)]) (hy_up (k := 0) rfl (Nat.le_of_ble_eq_true rfl) rfl) ?_
  refine zn_aload_n (pc := 35) rfl rfl ?_
  refine zn_sipushN (pc := 36) 192 rfl rfl ?_
  refine zn_newI (pc := 39) (N := 192) (mc := 0) (ms := 0) rfl (by decide) ?_
  refine zn_heq (h' := hy 30 10 b [.inr (5, [.ref 11, .ref 18, .ref 28, .null]), .inr (1, [.int (nI 0), .ref 12, .ref 13, .ref 14, .ref 15, .ref 16, .ref 17]), mNA 24 (fun _ => 0), mNA 192 (fun _ => 0), mNA 192 (fun _ => 0), mNA 192 (fun _ => 0), mNA 192 (fun _ => 0), .inl (192, .inr (.inl (fun _ => 0))), .inr (0, [.int (nI 0), .ref 19, .ref 20, .ref 21, .ref 22, .ref 23, .ref 24, .ref 25, .ref 26, .ref 27]), mNA 84 (fun _ => 0), mNA 84 (fun _ => 0), mNA 84 (fun _ => 0), mNA 84 (fun _ => 0), mNA 84 (fun _ => 0), mNA 84 (fun _ => 0), mNA 84 (fun _ => 0), mNA 84 (fun _ => 0), .inl (84, .inr (.inl (fun _ => 0))), mNA 192 (fun _ => 0), mNA 192 (fun _ => 0)]) (hy_new rfl rfl rfl) ?_
  refine zf_putA (pc := 41) (o := 10) (v := 29) (fs := [.ref 11, .ref 18, .ref 28, .null]) (fs' := [.ref 11, .ref 18, .ref 28, .ref 29]) rfl (hy_at (k := 0) rfl) (Nat.le_of_ble_eq_true rfl) rfl rfl ?_
  refine zn_heq (h' := hy 30 10 b [.inr (5, [.ref 11, .ref 18, .ref 28, .ref 29]), .inr (1, [.int (nI 0), .ref 12, .ref 13, .ref 14, .ref 15, .ref 16, .ref 17]), mNA 24 (fun _ => 0), mNA 192 (fun _ => 0), mNA 192 (fun _ => 0), mNA 192 (fun _ => 0), mNA 192 (fun _ => 0), .inl (192, .inr (.inl (fun _ => 0))), .inr (0, [.int (nI 0), .ref 19, .ref 20, .ref 21, .ref 22, .ref 23, .ref 24, .ref 25, .ref 26, .ref 27]), mNA 84 (fun _ => 0), mNA 84 (fun _ => 0), mNA 84 (fun _ => 0), mNA 84 (fun _ => 0), mNA 84 (fun _ => 0), mNA 84 (fun _ => 0), mNA 84 (fun _ => 0), mNA 84 (fun _ => 0), .inl (84, .inr (.inl (fun _ => 0))), mNA 192 (fun _ => 0), mNA 192 (fun _ => 0)]) (hy_up (k := 0) rfl (Nat.le_of_ble_eq_true rfl) rfl) ?_
  exact zn_vret (pc := 44) rfl rfl ⟨rfl, rfl⟩
def o_X1_31 : List zO := [.inr (1, [.int (nI 0), .ref 32, .ref 33, .ref 34, .ref 35, .ref 36, .ref 37]), mNA 24 (fun _ => 0), mNA 192 (fun _ => 0), mNA 192 (fun _ => 0), mNA 192 (fun _ => 0), mNA 192 (fun _ => 0), .inl (192, .inr (.inl (fun _ => 0)))]
theorem k_X1_31 {b : Nat → Option zO} : Zm g zX1_init [.ref 31] (hy 32 31 b [.inr (1, [.int 0, .null, .null, .null, .null, .null, .null])]) 6 984 (fun r h' => r = .inl none ∧ h' = hy 38 31 b [.inr (1, [.int (nI 0), .ref 32, .ref 33, .ref 34, .ref 35, .ref 36, .ref 37]), mNA 24 (fun _ => 0), mNA 192 (fun _ => 0), mNA 192 (fun _ => 0), mNA 192 (fun _ => 0), mNA 192 (fun _ => 0), .inl (192, .inr (.inl (fun _ => 0)))]) := by
  show Zn g zX1_init 0 [some (.ref 31)] [] (hy 32 31 b [.inr (1, [.int 0, .null, .null, .null, .null, .null, .null])]) 6 984 _
  refine zn_aload_n (pc := 0) rfl rfl ?_
  refine zn_obj (pc := 1) rfl (Nat.le_of_ble_eq_true rfl) (Nat.le_of_ble_eq_true rfl) ?_
  refine zn_aload_n (pc := 4) rfl rfl ?_
  refine zn_iconstN (pc := 5) 0 rfl rfl ?_
  refine zf_put (pc := 6) (o := 31) (v := 0) (fs := [.int 0, .null, .null, .null, .null, .null, .null]) (fs' := [.int (nI 0), .null, .null, .null, .null, .null, .null]) rfl (hy_at (k := 0) rfl) (Nat.le_of_ble_eq_true rfl) rfl rfl ?_
  refine zn_heq (h' := hy 32 31 b [.inr (1, [.int (nI 0), .null, .null, .null, .null, .null, .null])]) (hy_up (k := 0) rfl (Nat.le_of_ble_eq_true rfl) rfl) ?_
  refine zn_aload_n (pc := 9) rfl rfl ?_
  refine zn_bipushN (pc := 10) 24 rfl rfl ?_
  refine zn_newI (pc := 12) (N := 24) (mc := 5) (ms := 960) rfl (by decide) ?_
  refine zn_heq (h' := hy 33 31 b [.inr (1, [.int (nI 0), .null, .null, .null, .null, .null, .null]), mNA 24 (fun _ => 0)]) (hy_new rfl rfl rfl) ?_
  refine zf_putA (pc := 14) (o := 31) (v := 32) (fs := [.int (nI 0), .null, .null, .null, .null, .null, .null]) (fs' := [.int (nI 0), .ref 32, .null, .null, .null, .null, .null]) rfl (hy_at (k := 0) rfl) (Nat.le_of_ble_eq_true rfl) rfl rfl ?_
  refine zn_heq (h' := hy 33 31 b [.inr (1, [.int (nI 0), .ref 32, .null, .null, .null, .null, .null]), mNA 24 (fun _ => 0)]) (hy_up (k := 0) rfl (Nat.le_of_ble_eq_true rfl) rfl) ?_
  refine zn_aload_n (pc := 17) rfl rfl ?_
  refine zn_sipushN (pc := 18) 192 rfl rfl ?_
  refine zn_newI (pc := 21) (N := 192) (mc := 4) (ms := 768) rfl (by decide) ?_
  refine zn_heq (h' := hy 34 31 b [.inr (1, [.int (nI 0), .ref 32, .null, .null, .null, .null, .null]), mNA 24 (fun _ => 0), mNA 192 (fun _ => 0)]) (hy_new rfl rfl rfl) ?_
  refine zf_putA (pc := 23) (o := 31) (v := 33) (fs := [.int (nI 0), .ref 32, .null, .null, .null, .null, .null]) (fs' := [.int (nI 0), .ref 32, .ref 33, .null, .null, .null, .null]) rfl (hy_at (k := 0) rfl) (Nat.le_of_ble_eq_true rfl) rfl rfl ?_
  refine zn_heq (h' := hy 34 31 b [.inr (1, [.int (nI 0), .ref 32, .ref 33, .null, .null, .null, .null]), mNA 24 (fun _ => 0), mNA 192 (fun _ => 0)]) (hy_up (k := 0) rfl (Nat.le_of_ble_eq_true rfl) rfl) ?_
  refine zn_aload_n (pc := 26) rfl rfl ?_
  refine zn_sipushN (pc := 27) 192 rfl rfl ?_
  refine zn_newI (pc := 30) (N := 192) (mc := 3) (ms := 576) rfl (by decide) ?_
  refine zn_heq (h' := hy 35 31 b [.inr (1, [.int (nI 0), .ref 32, .ref 33, .null, .null, .null, .null]), mNA 24 (fun _ => 0), mNA 192 (fun _ => 0), mNA 192 (fun _ => 0)]) (hy_new rfl rfl rfl) ?_
  refine zf_putA (pc := 32) (o := 31) (v := 34) (fs := [.int (nI 0), .ref 32, .ref 33, .null, .null, .null, .null]) (fs' := [.int (nI 0), .ref 32, .ref 33, .ref 34, .null, .null, .null]) rfl (hy_at (k := 0) rfl) (Nat.le_of_ble_eq_true rfl) rfl rfl ?_
  refine zn_heq (h' := hy 35 31 b [.inr (1, [.int (nI 0), .ref 32, .ref 33, .ref 34, .null, .null, .null]), mNA 24 (fun _ => 0), mNA 192 (fun _ => 0), mNA 192 (fun _ => 0)]) (hy_up (k := 0) rfl (Nat.le_of_ble_eq_true rfl) rfl) ?_
  refine zn_aload_n (pc := 35) rfl rfl ?_
  refine zn_sipushN (pc := 36) 192 rfl rfl ?_
  refine zn_newI (pc := 39) (N := 192) (mc := 2) (ms := 384) rfl (by decide) ?_
  refine zn_heq (h' := hy 36 31 b [.inr (1, [.int (nI 0), .ref 32, .ref 33, .ref 34, .null, .null, .null]), mNA 24 (fun _ => 0), mNA 192 (fun _ => 0), mNA 192 (fun _ => 0), mNA 192 (fun _ => 0)]) (hy_new rfl rfl rfl) ?_
  refine zf_putA (pc := 41) (o := 31) (v := 35) (fs := [.int (nI 0), .ref 32, .ref 33, .ref 34, .null, .null, .null]) (fs' := [.int (nI 0), .ref 32, .ref 33, .ref 34, .ref 35, .null, .null]) rfl (hy_at (k := 0) rfl) (Nat.le_of_ble_eq_true rfl) rfl rfl ?_
  refine zn_heq (h' := hy 36 31 b [.inr (1, [.int (nI 0), .ref 32, .ref 33, .ref 34, .ref 35, .null, .null]), mNA 24 (fun _ => 0), mNA 192 (fun _ => 0), mNA 192 (fun _ => 0), mNA 192 (fun _ => 0)]) (hy_up (k := 0) rfl (Nat.le_of_ble_eq_true rfl) rfl) ?_
  refine zn_aload_n (pc := 44) rfl rfl ?_
  refine zn_sipushN (pc := 45) 192 rfl rfl ?_
  refine zn_newI (pc := 48) (N := 192) (mc := 1) (ms := 192) rfl (by decide) ?_
  refine zn_heq (h' := hy 37 31 b [.inr (1, [.int (nI 0), .ref 32, .ref 33, .ref 34, .ref 35, .null, .null]), mNA 24 (fun _ => 0), mNA 192 (fun _ => 0), mNA 192 (fun _ => 0), mNA 192 (fun _ => 0), mNA 192 (fun _ => 0)]) (hy_new rfl rfl rfl) ?_
  refine zf_putA (pc := 50) (o := 31) (v := 36) (fs := [.int (nI 0), .ref 32, .ref 33, .ref 34, .ref 35, .null, .null]) (fs' := [.int (nI 0), .ref 32, .ref 33, .ref 34, .ref 35, .ref 36, .null]) rfl (hy_at (k := 0) rfl) (Nat.le_of_ble_eq_true rfl) rfl rfl ?_
  refine zn_heq (h' := hy 37 31 b [.inr (1, [.int (nI 0), .ref 32, .ref 33, .ref 34, .ref 35, .ref 36, .null]), mNA 24 (fun _ => 0), mNA 192 (fun _ => 0), mNA 192 (fun _ => 0), mNA 192 (fun _ => 0), mNA 192 (fun _ => 0)]) (hy_up (k := 0) rfl (Nat.le_of_ble_eq_true rfl) rfl) ?_
  refine zn_aload_n (pc := 53) rfl rfl ?_
  refine zn_sipushN (pc := 54) 192 rfl rfl ?_
  refine zn_newL (pc := 57) (N := 192) (mc := 0) (ms := 0) rfl (by decide) ?_
  refine zn_heq (h' := hy 38 31 b [.inr (1, [.int (nI 0), .ref 32, .ref 33, .ref 34, .ref 35, .ref 36, .null]), mNA 24 (fun _ => 0), mNA 192 (fun _ => 0), mNA 192 (fun _ => 0), mNA 192 (fun _ => 0), mNA 192 (fun _ => 0), .inl (192, .inr (.inl (fun _ => 0)))]) (hy_new rfl rfl rfl) ?_
  refine zf_putA (pc := 59) (o := 31) (v := 37) (fs := [.int (nI 0), .ref 32, .ref 33, .ref 34, .ref 35, .ref 36, .null]) (fs' := [.int (nI 0), .ref 32, .ref 33, .ref 34, .ref 35, .ref 36, .ref 37]) rfl (hy_at (k := 0) rfl) (Nat.le_of_ble_eq_true rfl) rfl rfl ?_
  refine zn_heq (h' := hy 38 31 b [.inr (1, [.int (nI 0), .ref 32, .ref 33, .ref 34, .ref 35, .ref 36, .ref 37]), mNA 24 (fun _ => 0), mNA 192 (fun _ => 0), mNA 192 (fun _ => 0), mNA 192 (fun _ => 0), mNA 192 (fun _ => 0), .inl (192, .inr (.inl (fun _ => 0)))]) (hy_up (k := 0) rfl (Nat.le_of_ble_eq_true rfl) rfl) ?_
  exact zn_vret (pc := 62) rfl rfl ⟨rfl, rfl⟩
def o_X0_38 : List zO := [.inr (0, [.int (nI 0), .ref 39, .ref 40, .ref 41, .ref 42, .ref 43, .ref 44, .ref 45, .ref 46, .ref 47]), mNA 84 (fun _ => 0), mNA 84 (fun _ => 0), mNA 84 (fun _ => 0), mNA 84 (fun _ => 0), mNA 84 (fun _ => 0), mNA 84 (fun _ => 0), mNA 84 (fun _ => 0), mNA 84 (fun _ => 0), .inl (84, .inr (.inl (fun _ => 0)))]
theorem k_X0_38 {b : Nat → Option zO} : Zm g zX0_init [.ref 38] (hy 39 38 b [.inr (0, [.int 0, .null, .null, .null, .null, .null, .null, .null, .null, .null])]) 9 756 (fun r h' => r = .inl none ∧ h' = hy 48 38 b [.inr (0, [.int (nI 0), .ref 39, .ref 40, .ref 41, .ref 42, .ref 43, .ref 44, .ref 45, .ref 46, .ref 47]), mNA 84 (fun _ => 0), mNA 84 (fun _ => 0), mNA 84 (fun _ => 0), mNA 84 (fun _ => 0), mNA 84 (fun _ => 0), mNA 84 (fun _ => 0), mNA 84 (fun _ => 0), mNA 84 (fun _ => 0), .inl (84, .inr (.inl (fun _ => 0)))]) := by
  show Zn g zX0_init 0 [some (.ref 38)] [] (hy 39 38 b [.inr (0, [.int 0, .null, .null, .null, .null, .null, .null, .null, .null, .null])]) 9 756 _
  refine zn_aload_n (pc := 0) rfl rfl ?_
  refine zn_obj (pc := 1) rfl (Nat.le_of_ble_eq_true rfl) (Nat.le_of_ble_eq_true rfl) ?_
  refine zn_aload_n (pc := 4) rfl rfl ?_
  refine zn_iconstN (pc := 5) 0 rfl rfl ?_
  refine zf_put (pc := 6) (o := 38) (v := 0) (fs := [.int 0, .null, .null, .null, .null, .null, .null, .null, .null, .null]) (fs' := [.int (nI 0), .null, .null, .null, .null, .null, .null, .null, .null, .null]) rfl (hy_at (k := 0) rfl) (Nat.le_of_ble_eq_true rfl) rfl rfl ?_
  refine zn_heq (h' := hy 39 38 b [.inr (0, [.int (nI 0), .null, .null, .null, .null, .null, .null, .null, .null, .null])]) (hy_up (k := 0) rfl (Nat.le_of_ble_eq_true rfl) rfl) ?_
  refine zn_aload_n (pc := 9) rfl rfl ?_
  refine zn_bipushN (pc := 10) 84 rfl rfl ?_
  refine zn_newI (pc := 12) (N := 84) (mc := 8) (ms := 672) rfl (by decide) ?_
  refine zn_heq (h' := hy 40 38 b [.inr (0, [.int (nI 0), .null, .null, .null, .null, .null, .null, .null, .null, .null]), mNA 84 (fun _ => 0)]) (hy_new rfl rfl rfl) ?_
  refine zf_putA (pc := 14) (o := 38) (v := 39) (fs := [.int (nI 0), .null, .null, .null, .null, .null, .null, .null, .null, .null]) (fs' := [.int (nI 0), .ref 39, .null, .null, .null, .null, .null, .null, .null, .null]) rfl (hy_at (k := 0) rfl) (Nat.le_of_ble_eq_true rfl) rfl rfl ?_
  refine zn_heq (h' := hy 40 38 b [.inr (0, [.int (nI 0), .ref 39, .null, .null, .null, .null, .null, .null, .null, .null]), mNA 84 (fun _ => 0)]) (hy_up (k := 0) rfl (Nat.le_of_ble_eq_true rfl) rfl) ?_
  refine zn_aload_n (pc := 17) rfl rfl ?_
  refine zn_bipushN (pc := 18) 84 rfl rfl ?_
  refine zn_newI (pc := 20) (N := 84) (mc := 7) (ms := 588) rfl (by decide) ?_
  refine zn_heq (h' := hy 41 38 b [.inr (0, [.int (nI 0), .ref 39, .null, .null, .null, .null, .null, .null, .null, .null]), mNA 84 (fun _ => 0), mNA 84 (fun _ => 0)]) (hy_new rfl rfl rfl) ?_
  refine zf_putA (pc := 22) (o := 38) (v := 40) (fs := [.int (nI 0), .ref 39, .null, .null, .null, .null, .null, .null, .null, .null]) (fs' := [.int (nI 0), .ref 39, .ref 40, .null, .null, .null, .null, .null, .null, .null]) rfl (hy_at (k := 0) rfl) (Nat.le_of_ble_eq_true rfl) rfl rfl ?_
  refine zn_heq (h' := hy 41 38 b [.inr (0, [.int (nI 0), .ref 39, .ref 40, .null, .null, .null, .null, .null, .null, .null]), mNA 84 (fun _ => 0), mNA 84 (fun _ => 0)]) (hy_up (k := 0) rfl (Nat.le_of_ble_eq_true rfl) rfl) ?_
  refine zn_aload_n (pc := 25) rfl rfl ?_
  refine zn_bipushN (pc := 26) 84 rfl rfl ?_
  refine zn_newI (pc := 28) (N := 84) (mc := 6) (ms := 504) rfl (by decide) ?_
  refine zn_heq (h' := hy 42 38 b [.inr (0, [.int (nI 0), .ref 39, .ref 40, .null, .null, .null, .null, .null, .null, .null]), mNA 84 (fun _ => 0), mNA 84 (fun _ => 0), mNA 84 (fun _ => 0)]) (hy_new rfl rfl rfl) ?_
  refine zf_putA (pc := 30) (o := 38) (v := 41) (fs := [.int (nI 0), .ref 39, .ref 40, .null, .null, .null, .null, .null, .null, .null]) (fs' := [.int (nI 0), .ref 39, .ref 40, .ref 41, .null, .null, .null, .null, .null, .null]) rfl (hy_at (k := 0) rfl) (Nat.le_of_ble_eq_true rfl) rfl rfl ?_
  refine zn_heq (h' := hy 42 38 b [.inr (0, [.int (nI 0), .ref 39, .ref 40, .ref 41, .null, .null, .null, .null, .null, .null]), mNA 84 (fun _ => 0), mNA 84 (fun _ => 0), mNA 84 (fun _ => 0)]) (hy_up (k := 0) rfl (Nat.le_of_ble_eq_true rfl) rfl) ?_
  refine zn_aload_n (pc := 33) rfl rfl ?_
  refine zn_bipushN (pc := 34) 84 rfl rfl ?_
  refine zn_newI (pc := 36) (N := 84) (mc := 5) (ms := 420) rfl (by decide) ?_
  refine zn_heq (h' := hy 43 38 b [.inr (0, [.int (nI 0), .ref 39, .ref 40, .ref 41, .null, .null, .null, .null, .null, .null]), mNA 84 (fun _ => 0), mNA 84 (fun _ => 0), mNA 84 (fun _ => 0), mNA 84 (fun _ => 0)]) (hy_new rfl rfl rfl) ?_
  refine zf_putA (pc := 38) (o := 38) (v := 42) (fs := [.int (nI 0), .ref 39, .ref 40, .ref 41, .null, .null, .null, .null, .null, .null]) (fs' := [.int (nI 0), .ref 39, .ref 40, .ref 41, .ref 42, .null, .null, .null, .null, .null]) rfl (hy_at (k := 0) rfl) (Nat.le_of_ble_eq_true rfl) rfl rfl ?_
  refine zn_heq (h' := hy 43 38 b [.inr (0, [.int (nI 0), .ref 39, .ref 40, .ref 41, .ref 42, .null, .null, .null, .null, .null]), mNA 84 (fun _ => 0), mNA 84 (fun _ => 0), mNA 84 (fun _ => 0), mNA 84 (fun _ => 0)]) (hy_up (k := 0) rfl (Nat.le_of_ble_eq_true rfl) rfl) ?_
  refine zn_aload_n (pc := 41) rfl rfl ?_
  refine zn_bipushN (pc := 42) 84 rfl rfl ?_
  refine zn_newI (pc := 44) (N := 84) (mc := 4) (ms := 336) rfl (by decide) ?_
  refine zn_heq (h' := hy 44 38 b [.inr (0, [.int (nI 0), .ref 39, .ref 40, .ref 41, .ref 42, .null, .null, .null, .null, .null]), mNA 84 (fun _ => 0), mNA 84 (fun _ => 0), mNA 84 (fun _ => 0), mNA 84 (fun _ => 0), mNA 84 (fun _ => 0)]) (hy_new rfl rfl rfl) ?_
  refine zf_putA (pc := 46) (o := 38) (v := 43) (fs := [.int (nI 0), .ref 39, .ref 40, .ref 41, .ref 42, .null, .null, .null, .null, .null]) (fs' := [.int (nI 0), .ref 39, .ref 40, .ref 41, .ref 42, .ref 43, .null, .null, .null, .null]) rfl (hy_at (k := 0) rfl) (Nat.le_of_ble_eq_true rfl) rfl rfl ?_
  refine zn_heq (h' := hy 44 38 b [.inr (0, [.int (nI 0), .ref 39, .ref 40, .ref 41, .ref 42, .ref 43, .null, .null, .null, .null]), mNA 84 (fun _ => 0), mNA 84 (fun _ => 0), mNA 84 (fun _ => 0), mNA 84 (fun _ => 0), mNA 84 (fun _ => 0)]) (hy_up (k := 0) rfl (Nat.le_of_ble_eq_true rfl) rfl) ?_
  refine zn_aload_n (pc := 49) rfl rfl ?_
  refine zn_bipushN (pc := 50) 84 rfl rfl ?_
  refine zn_newI (pc := 52) (N := 84) (mc := 3) (ms := 252) rfl (by decide) ?_
  refine zn_heq (h' := hy 45 38 b [.inr (0, [.int (nI 0), .ref 39, .ref 40, .ref 41, .ref 42, .ref 43, .null, .null, .null, .null]), mNA 84 (fun _ => 0), mNA 84 (fun _ => 0), mNA 84 (fun _ => 0), mNA 84 (fun _ => 0), mNA 84 (fun _ => 0), mNA 84 (fun _ => 0)]) (hy_new rfl rfl rfl) ?_
  refine zf_putA (pc := 54) (o := 38) (v := 44) (fs := [.int (nI 0), .ref 39, .ref 40, .ref 41, .ref 42, .ref 43, .null, .null, .null, .null]) (fs' := [.int (nI 0), .ref 39, .ref 40, .ref 41, .ref 42, .ref 43, .ref 44, .null, .null, .null]) rfl (hy_at (k := 0) rfl) (Nat.le_of_ble_eq_true rfl) rfl rfl ?_
  refine zn_heq (h' := hy 45 38 b [.inr (0, [.int (nI 0), .ref 39, .ref 40, .ref 41, .ref 42, .ref 43, .ref 44, .null, .null, .null]), mNA 84 (fun _ => 0), mNA 84 (fun _ => 0), mNA 84 (fun _ => 0), mNA 84 (fun _ => 0), mNA 84 (fun _ => 0), mNA 84 (fun _ => 0)]) (hy_up (k := 0) rfl (Nat.le_of_ble_eq_true rfl) rfl) ?_
  refine zn_aload_n (pc := 57) rfl rfl ?_
  refine zn_bipushN (pc := 58) 84 rfl rfl ?_
  refine zn_newI (pc := 60) (N := 84) (mc := 2) (ms := 168) rfl (by decide) ?_
  refine zn_heq (h' := hy 46 38 b [.inr (0, [.int (nI 0), .ref 39, .ref 40, .ref 41, .ref 42, .ref 43, .ref 44, .null, .null, .null]), mNA 84 (fun _ => 0), mNA 84 (fun _ => 0), mNA 84 (fun _ => 0), mNA 84 (fun _ => 0), mNA 84 (fun _ => 0), mNA 84 (fun _ => 0), mNA 84 (fun _ => 0)]) (hy_new rfl rfl rfl) ?_
  refine zf_putA (pc := 62) (o := 38) (v := 45) (fs := [.int (nI 0), .ref 39, .ref 40, .ref 41, .ref 42, .ref 43, .ref 44, .null, .null, .null]) (fs' := [.int (nI 0), .ref 39, .ref 40, .ref 41, .ref 42, .ref 43, .ref 44, .ref 45, .null, .null]) rfl (hy_at (k := 0) rfl) (Nat.le_of_ble_eq_true rfl) rfl rfl ?_
  refine zn_heq (h' := hy 46 38 b [.inr (0, [.int (nI 0), .ref 39, .ref 40, .ref 41, .ref 42, .ref 43, .ref 44, .ref 45, .null, .null]), mNA 84 (fun _ => 0), mNA 84 (fun _ => 0), mNA 84 (fun _ => 0), mNA 84 (fun _ => 0), mNA 84 (fun _ => 0), mNA 84 (fun _ => 0), mNA 84 (fun _ => 0)]) (hy_up (k := 0) rfl (Nat.le_of_ble_eq_true rfl) rfl) ?_
  refine zn_aload_n (pc := 65) rfl rfl ?_
  refine zn_bipushN (pc := 66) 84 rfl rfl ?_
  refine zn_newI (pc := 68) (N := 84) (mc := 1) (ms := 84) rfl (by decide) ?_
  refine zn_heq (h' := hy 47 38 b [.inr (0, [.int (nI 0), .ref 39, .ref 40, .ref 41, .ref 42, .ref 43, .ref 44, .ref 45, .null, .null]), mNA 84 (fun _ => 0), mNA 84 (fun _ => 0), mNA 84 (fun _ => 0), mNA 84 (fun _ => 0), mNA 84 (fun _ => 0), mNA 84 (fun _ => 0), mNA 84 (fun _ => 0), mNA 84 (fun _ => 0)]) (hy_new rfl rfl rfl) ?_
  refine zf_putA (pc := 70) (o := 38) (v := 46) (fs := [.int (nI 0), .ref 39, .ref 40, .ref 41, .ref 42, .ref 43, .ref 44, .ref 45, .null, .null]) (fs' := [.int (nI 0), .ref 39, .ref 40, .ref 41, .ref 42, .ref 43, .ref 44, .ref 45, .ref 46, .null]) rfl (hy_at (k := 0) rfl) (Nat.le_of_ble_eq_true rfl) rfl rfl ?_
  refine zn_heq (h' := hy 47 38 b [.inr (0, [.int (nI 0), .ref 39, .ref 40, .ref 41, .ref 42, .ref 43, .ref 44, .ref 45, .ref 46, .null]), mNA 84 (fun _ => 0), mNA 84 (fun _ => 0), mNA 84 (fun _ => 0), mNA 84 (fun _ => 0), mNA 84 (fun _ => 0), mNA 84 (fun _ => 0), mNA 84 (fun _ => 0), mNA 84 (fun _ => 0)]) (hy_up (k := 0) rfl (Nat.le_of_ble_eq_true rfl) rfl) ?_
  refine zn_aload_n (pc := 73) rfl rfl ?_
  refine zn_bipushN (pc := 74) 84 rfl rfl ?_
  refine zn_newL (pc := 76) (N := 84) (mc := 0) (ms := 0) rfl (by decide) ?_
  refine zn_heq (h' := hy 48 38 b [.inr (0, [.int (nI 0), .ref 39, .ref 40, .ref 41, .ref 42, .ref 43, .ref 44, .ref 45, .ref 46, .null]), mNA 84 (fun _ => 0), mNA 84 (fun _ => 0), mNA 84 (fun _ => 0), mNA 84 (fun _ => 0), mNA 84 (fun _ => 0), mNA 84 (fun _ => 0), mNA 84 (fun _ => 0), mNA 84 (fun _ => 0), .inl (84, .inr (.inl (fun _ => 0)))]) (hy_new rfl rfl rfl) ?_
  refine zf_putA (pc := 78) (o := 38) (v := 47) (fs := [.int (nI 0), .ref 39, .ref 40, .ref 41, .ref 42, .ref 43, .ref 44, .ref 45, .ref 46, .null]) (fs' := [.int (nI 0), .ref 39, .ref 40, .ref 41, .ref 42, .ref 43, .ref 44, .ref 45, .ref 46, .ref 47]) rfl (hy_at (k := 0) rfl) (Nat.le_of_ble_eq_true rfl) rfl rfl ?_
  refine zn_heq (h' := hy 48 38 b [.inr (0, [.int (nI 0), .ref 39, .ref 40, .ref 41, .ref 42, .ref 43, .ref 44, .ref 45, .ref 46, .ref 47]), mNA 84 (fun _ => 0), mNA 84 (fun _ => 0), mNA 84 (fun _ => 0), mNA 84 (fun _ => 0), mNA 84 (fun _ => 0), mNA 84 (fun _ => 0), mNA 84 (fun _ => 0), mNA 84 (fun _ => 0), .inl (84, .inr (.inl (fun _ => 0)))]) (hy_up (k := 0) rfl (Nat.le_of_ble_eq_true rfl) rfl) ?_
  exact zn_vret (pc := 81) rfl rfl ⟨rfl, rfl⟩
def o_X5_30 : List zO := [.inr (5, [.ref 31, .ref 38, .ref 48, .ref 49]), .inr (1, [.int (nI 0), .ref 32, .ref 33, .ref 34, .ref 35, .ref 36, .ref 37]), mNA 24 (fun _ => 0), mNA 192 (fun _ => 0), mNA 192 (fun _ => 0), mNA 192 (fun _ => 0), mNA 192 (fun _ => 0), .inl (192, .inr (.inl (fun _ => 0))), .inr (0, [.int (nI 0), .ref 39, .ref 40, .ref 41, .ref 42, .ref 43, .ref 44, .ref 45, .ref 46, .ref 47]), mNA 84 (fun _ => 0), mNA 84 (fun _ => 0), mNA 84 (fun _ => 0), mNA 84 (fun _ => 0), mNA 84 (fun _ => 0), mNA 84 (fun _ => 0), mNA 84 (fun _ => 0), mNA 84 (fun _ => 0), .inl (84, .inr (.inl (fun _ => 0))), mNA 192 (fun _ => 0), mNA 192 (fun _ => 0)]
theorem k_X5_30 {b : Nat → Option zO} : Zm g zX5_init [.ref 30] (hy 31 30 b [.inr (5, [.null, .null, .null, .null])]) 19 2141 (fun r h' => r = .inl none ∧ h' = hy 50 30 b [.inr (5, [.ref 31, .ref 38, .ref 48, .ref 49]), .inr (1, [.int (nI 0), .ref 32, .ref 33, .ref 34, .ref 35, .ref 36, .ref 37]), mNA 24 (fun _ => 0), mNA 192 (fun _ => 0), mNA 192 (fun _ => 0), mNA 192 (fun _ => 0), mNA 192 (fun _ => 0), .inl (192, .inr (.inl (fun _ => 0))), .inr (0, [.int (nI 0), .ref 39, .ref 40, .ref 41, .ref 42, .ref 43, .ref 44, .ref 45, .ref 46, .ref 47]), mNA 84 (fun _ => 0), mNA 84 (fun _ => 0), mNA 84 (fun _ => 0), mNA 84 (fun _ => 0), mNA 84 (fun _ => 0), mNA 84 (fun _ => 0), mNA 84 (fun _ => 0), mNA 84 (fun _ => 0), .inl (84, .inr (.inl (fun _ => 0))), mNA 192 (fun _ => 0), mNA 192 (fun _ => 0)]) := by
  show Zn g zX5_init 0 [some (.ref 30)] [] (hy 31 30 b [.inr (5, [.null, .null, .null, .null])]) 19 2141 _
  refine zn_aload_n (pc := 0) rfl rfl ?_
  refine zn_obj (pc := 1) rfl (Nat.le_of_ble_eq_true rfl) (Nat.le_of_ble_eq_true rfl) ?_
  refine zn_aload_n (pc := 4) rfl rfl ?_
  refine zn_nw1 (pc := 5) (mc := 18) (ms := 2134) rfl ?_
  refine zn_heq (h' := hy 32 30 b [.inr (5, [.null, .null, .null, .null]), .inr (1, [.int 0, .null, .null, .null, .null, .null, .null])]) (hy_new rfl rfl rfl) ?_
  refine zn_dup (pc := 8) rfl rfl ?_
  refine zn_heq (h' := hy 32 31 (hy 31 30 b [.inr (5, [.null, .null, .null, .null])]).1 [.inr (1, [.int 0, .null, .null, .null, .null, .null, .null])]) (hy_spl rfl rfl) ?_
  refine zn_callIm (pc := 9) (J := zX1_init) (o := 31) (as := []) (rest := [.ref 31, .ref 30]) (mc1 := 6) (ms1 := 984) (mc := 12) (ms := 1150) rfl (by decide) rfl rfl rfl (Nat.le_of_ble_eq_true rfl) (Nat.le_of_ble_eq_true rfl) (Nat.le_of_ble_eq_true rfl) (Nat.le_of_ble_eq_true rfl) (fun E h9 q => by cases q.1) k_X1_31 ?_
  rintro v9 h9 ⟨e1, e2⟩
  cases e1
  subst e2
  refine zn_heq (h' := hy 38 30 b [.inr (5, [.null, .null, .null, .null]), .inr (1, [.int (nI 0), .ref 32, .ref 33, .ref 34, .ref 35, .ref 36, .ref 37]), mNA 24 (fun _ => 0), mNA 192 (fun _ => 0), mNA 192 (fun _ => 0), mNA 192 (fun _ => 0), mNA 192 (fun _ => 0), .inl (192, .inr (.inl (fun _ => 0)))]) (hy_app rfl rfl) ?_
  refine zf_putR (pc := 12) (o := 30) (v := 31) (fs := [.null, .null, .null, .null]) (fs' := [.ref 31, .null, .null, .null]) rfl (hy_at (k := 0) rfl) (Nat.le_of_ble_eq_true rfl) rfl rfl ?_
  refine zn_heq (h' := hy 38 30 b [.inr (5, [.ref 31, .null, .null, .null]), .inr (1, [.int (nI 0), .ref 32, .ref 33, .ref 34, .ref 35, .ref 36, .ref 37]), mNA 24 (fun _ => 0), mNA 192 (fun _ => 0), mNA 192 (fun _ => 0), mNA 192 (fun _ => 0), mNA 192 (fun _ => 0), .inl (192, .inr (.inl (fun _ => 0)))]) (hy_up (k := 0) rfl (Nat.le_of_ble_eq_true rfl) rfl) ?_
  refine zn_aload_n (pc := 15) rfl rfl ?_
  refine zn_nw0 (pc := 16) (mc := 11) (ms := 1140) rfl ?_
  refine zn_heq (h' := hy 39 30 b [.inr (5, [.ref 31, .null, .null, .null]), .inr (1, [.int (nI 0), .ref 32, .ref 33, .ref 34, .ref 35, .ref 36, .ref 37]), mNA 24 (fun _ => 0), mNA 192 (fun _ => 0), mNA 192 (fun _ => 0), mNA 192 (fun _ => 0), mNA 192 (fun _ => 0), .inl (192, .inr (.inl (fun _ => 0))), .inr (0, [.int 0, .null, .null, .null, .null, .null, .null, .null, .null, .null])]) (hy_new rfl rfl rfl) ?_
  refine zn_dup (pc := 19) rfl rfl ?_
  refine zn_heq (h' := hy 39 38 (hy 38 30 b [.inr (5, [.ref 31, .null, .null, .null]), .inr (1, [.int (nI 0), .ref 32, .ref 33, .ref 34, .ref 35, .ref 36, .ref 37]), mNA 24 (fun _ => 0), mNA 192 (fun _ => 0), mNA 192 (fun _ => 0), mNA 192 (fun _ => 0), mNA 192 (fun _ => 0), .inl (192, .inr (.inl (fun _ => 0)))]).1 [.inr (0, [.int 0, .null, .null, .null, .null, .null, .null, .null, .null, .null])]) (hy_spl rfl rfl) ?_
  refine zn_callIm (pc := 20) (J := zX0_init) (o := 38) (as := []) (rest := [.ref 38, .ref 30]) (mc1 := 9) (ms1 := 756) (mc := 2) (ms := 384) rfl (by decide) rfl rfl rfl (Nat.le_of_ble_eq_true rfl) (Nat.le_of_ble_eq_true rfl) (Nat.le_of_ble_eq_true rfl) (Nat.le_of_ble_eq_true rfl) (fun E h9 q => by cases q.1) k_X0_38 ?_
  rintro v9 h9 ⟨e1, e2⟩
  cases e1
  subst e2
  refine zn_heq (h' := hy 48 30 b [.inr (5, [.ref 31, .null, .null, .null]), .inr (1, [.int (nI 0), .ref 32, .ref 33, .ref 34, .ref 35, .ref 36, .ref 37]), mNA 24 (fun _ => 0), mNA 192 (fun _ => 0), mNA 192 (fun _ => 0), mNA 192 (fun _ => 0), mNA 192 (fun _ => 0), .inl (192, .inr (.inl (fun _ => 0))), .inr (0, [.int (nI 0), .ref 39, .ref 40, .ref 41, .ref 42, .ref 43, .ref 44, .ref 45, .ref 46, .ref 47]), mNA 84 (fun _ => 0), mNA 84 (fun _ => 0), mNA 84 (fun _ => 0), mNA 84 (fun _ => 0), mNA 84 (fun _ => 0), mNA 84 (fun _ => 0), mNA 84 (fun _ => 0), mNA 84 (fun _ => 0), .inl (84, .inr (.inl (fun _ => 0)))]) (hy_app rfl rfl) ?_
  refine zf_putR (pc := 23) (o := 30) (v := 38) (fs := [.ref 31, .null, .null, .null]) (fs' := [.ref 31, .ref 38, .null, .null]) rfl (hy_at (k := 0) rfl) (Nat.le_of_ble_eq_true rfl) rfl rfl ?_
  refine zn_heq (h' := hy 48 30 b [.inr (5, [.ref 31, .ref 38, .null, .null]), .inr (1, [.int (nI 0), .ref 32, .ref 33, .ref 34, .ref 35, .ref 36, .ref 37]), mNA 24 (fun _ => 0), mNA 192 (fun _ => 0), mNA 192 (fun _ => 0), mNA 192 (fun _ => 0), mNA 192 (fun _ => 0), .inl (192, .inr (.inl (fun _ => 0))), .inr (0, [.int (nI 0), .ref 39, .ref 40, .ref 41, .ref 42, .ref 43, .ref 44, .ref 45, .ref 46, .ref 47]), mNA 84 (fun _ => 0), mNA 84 (fun _ => 0), mNA 84 (fun _ => 0), mNA 84 (fun _ => 0), mNA 84 (fun _ => 0), mNA 84 (fun _ => 0), mNA 84 (fun _ => 0), mNA 84 (fun _ => 0), .inl (84, .inr (.inl (fun _ => 0)))]) (hy_up (k := 0) rfl (Nat.le_of_ble_eq_true rfl) rfl) ?_
  refine zn_aload_n (pc := 26) rfl rfl ?_
  refine zn_sipushN (pc := 27) 192 rfl rfl ?_
  refine zn_newI (pc := 30) (N := 192) (mc := 1) (ms := 192) rfl (by decide) ?_
  refine zn_heq (h' := hy 49 30 b [.inr (5, [.ref 31, .ref 38, .null, .null]), .inr (1, [.int (nI 0), .ref 32, .ref 33, .ref 34, .ref 35, .ref 36, .ref 37]), mNA 24 (fun _ => 0), mNA 192 (fun _ => 0), mNA 192 (fun _ => 0), mNA 192 (fun _ => 0), mNA 192 (fun _ => 0), .inl (192, .inr (.inl (fun _ => 0))), .inr (0, [.int (nI 0), .ref 39, .ref 40, .ref 41, .ref 42, .ref 43, .ref 44, .ref 45, .ref 46, .ref 47]), mNA 84 (fun _ => 0), mNA 84 (fun _ => 0), mNA 84 (fun _ => 0), mNA 84 (fun _ => 0), mNA 84 (fun _ => 0), mNA 84 (fun _ => 0), mNA 84 (fun _ => 0), mNA 84 (fun _ => 0), .inl (84, .inr (.inl (fun _ => 0))), mNA 192 (fun _ => 0)]) (hy_new rfl rfl rfl) ?_
  refine zf_putA (pc := 32) (o := 30) (v := 48) (fs := [.ref 31, .ref 38, .null, .null]) (fs' := [.ref 31, .ref 38, .ref 48, .null]) rfl (hy_at (k := 0) rfl) (Nat.le_of_ble_eq_true rfl) rfl rfl ?_
  refine zn_heq (h' := hy 49 30 b [.inr (5, [.ref 31, .ref 38, .ref 48, .null]), .inr (1, [.int (nI 0), .ref 32, .ref 33, .ref 34, .ref 35, .ref 36, .ref 37]), mNA 24 (fun _ => 0), mNA 192 (fun _ => 0), mNA 192 (fun _ => 0), mNA 192 (fun _ => 0), mNA 192 (fun _ => 0), .inl (192, .inr (.inl (fun _ => 0))), .inr (0, [.int (nI 0), .ref 39, .ref 40, .ref 41, .ref 42, .ref 43, .ref 44, .ref 45, .ref 46, .ref 47]), mNA 84 (fun _ => 0), mNA 84 (fun _ => 0), mNA 84 (fun _ => 0), mNA 84 (fun _ => 0), mNA 84 (fun _ => 0), mNA 84 (fun _ => 0), mNA 84 (fun _ => 0), mNA 84 (fun _ => 0), .inl (84, .inr (.inl (fun _ => 0))), mNA 192 (fun _ => 0)]) (hy_up (k := 0) rfl (Nat.le_of_ble_eq_true rfl) rfl) ?_
  refine zn_aload_n (pc := 35) rfl rfl ?_
  refine zn_sipushN (pc := 36) 192 rfl rfl ?_
  refine zn_newI (pc := 39) (N := 192) (mc := 0) (ms := 0) rfl (by decide) ?_
  refine zn_heq (h' := hy 50 30 b [.inr (5, [.ref 31, .ref 38, .ref 48, .null]), .inr (1, [.int (nI 0), .ref 32, .ref 33, .ref 34, .ref 35, .ref 36, .ref 37]), mNA 24 (fun _ => 0), mNA 192 (fun _ => 0), mNA 192 (fun _ => 0), mNA 192 (fun _ => 0), mNA 192 (fun _ => 0), .inl (192, .inr (.inl (fun _ => 0))), .inr (0, [.int (nI 0), .ref 39, .ref 40, .ref 41, .ref 42, .ref 43, .ref 44, .ref 45, .ref 46, .ref 47]), mNA 84 (fun _ => 0), mNA 84 (fun _ => 0), mNA 84 (fun _ => 0), mNA 84 (fun _ => 0), mNA 84 (fun _ => 0), mNA 84 (fun _ => 0), mNA 84 (fun _ => 0), mNA 84 (fun _ => 0), .inl (84, .inr (.inl (fun _ => 0))), mNA 192 (fun _ => 0), mNA 192 (fun _ => 0)]) (hy_new rfl rfl rfl) ?_
  refine zf_putA (pc := 41) (o := 30) (v := 49) (fs := [.ref 31, .ref 38, .ref 48, .null]) (fs' := [.ref 31, .ref 38, .ref 48, .ref 49]) rfl (hy_at (k := 0) rfl) (Nat.le_of_ble_eq_true rfl) rfl rfl ?_
  refine zn_heq (h' := hy 50 30 b [.inr (5, [.ref 31, .ref 38, .ref 48, .ref 49]), .inr (1, [.int (nI 0), .ref 32, .ref 33, .ref 34, .ref 35, .ref 36, .ref 37]), mNA 24 (fun _ => 0), mNA 192 (fun _ => 0), mNA 192 (fun _ => 0), mNA 192 (fun _ => 0), mNA 192 (fun _ => 0), .inl (192, .inr (.inl (fun _ => 0))), .inr (0, [.int (nI 0), .ref 39, .ref 40, .ref 41, .ref 42, .ref 43, .ref 44, .ref 45, .ref 46, .ref 47]), mNA 84 (fun _ => 0), mNA 84 (fun _ => 0), mNA 84 (fun _ => 0), mNA 84 (fun _ => 0), mNA 84 (fun _ => 0), mNA 84 (fun _ => 0), mNA 84 (fun _ => 0), mNA 84 (fun _ => 0), .inl (84, .inr (.inl (fun _ => 0))), mNA 192 (fun _ => 0), mNA 192 (fun _ => 0)]) (hy_up (k := 0) rfl (Nat.le_of_ble_eq_true rfl) rfl) ?_
  exact zn_vret (pc := 44) rfl rfl ⟨rfl, rfl⟩
end wh
