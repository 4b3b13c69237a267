section wh
/-! heaps as lists of objects: the start -/
def hs (l : List zO) : zH := (fun i => l[i]?, l.length)
theorem hs_new (l : List zO) (o : zO) : znew (hs l) o = hs (l ++ [o]) := by
  refine Prod.ext (funext fun i => ?_) ?_
  · show (if i = l.length then some o else l[i]?) = (l ++ [o])[i]?
    by_cases e : i = l.length
    · subst e
      rw [if_pos rfl, List.getElem?_append_right (Nat.le_refl _), Nat.sub_self]
      rfl
    · rw [if_neg e]
      by_cases h : i < l.length
      · rw [List.getElem?_append_left h]
      · rw [List.getElem?_eq_none (by omega), List.getElem?_eq_none (by rw [List.length_append]; show l.length + 1 ≤ i; omega)]
  · show l.length + 1 = (l ++ [o]).length
    rw [List.length_append]
    rfl
theorem hs_up (l : List zO) {i : Nat} (o : zO) (h : i < l.length) : zup (hs l) i o = hs (l.set i o) := by
  refine Prod.ext (funext fun j => ?_) ?_
  · show (if j = i then some o else l[j]?) = (l.set i o)[j]?
    by_cases e : j = i
    · subst e
      rw [if_pos rfl, List.getElem?_set_self h]
    · rw [if_neg e, List.getElem?_set_ne (fun q => e q.symm)]
  · show l.length = (l.set i o).length
    rw [List.length_set]
theorem hs_no (l : List zO) {i : Nat} (h : l.length ≤ i) : (hs l).1 i = none := List.getElem?_eq_none h
end wh
