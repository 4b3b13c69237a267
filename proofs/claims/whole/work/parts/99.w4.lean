section w4
variable {g : zG} {hh : zH} {F z : Nat → Nat} {S : Int64} {A : Nat → Nat → Nat} {X : Nat → Int32} {n : Nat} {f : Nat → Int32}
/-! each call, both sides: edits and the input -/
theorem nI_rng {x : Int32} {a b : Nat} (ha : a < 2 ^ 31) (hb : b < 2 ^ 31 - 1) (h : nI a ≤ x ∧ x ≤ nI b) : ∃ v, x = nI v ∧ a ≤ v ∧ v ≤ b := by
  have h1 := h.1
  have h2 := h.2
  rw [Int32.le_iff_toInt_le, nI_toInt ha] at h1
  rw [Int32.le_iff_toInt_le, nI_toInt (by omega)] at h2
  obtain ⟨v, v1, v2⟩ := zin_ex (x := x) (n := b + 1) ⟨by omega, by omega⟩ (by omega)
  refine ⟨v, v2, ?_, by omega⟩
  rw [v2, nI_toInt (by omega)] at h1
  omega
theorem cell_ex (hz : mOK z) {x y : Int32} (h : mCell z x y) : ∃ l c, l < z 0 ∧ c < z (1 + l) ∧ x = nI l ∧ y = nI c := by
  have h24 := hz.2.1
  obtain ⟨l, hl, rfl⟩ := zin_ex h.1 (by omega)
  have h2 := h.2
  have h8 := (hz.2.2.1 l hl).2
  rw [nI_clamp (by omega)] at h2
  obtain ⟨c, hc, rfl⟩ := zin_ex h2 (by omega)
  exact ⟨l, c, hl, hc, rfl, rfl⟩
theorem row_b {u z : Nat → Nat} {b k : Nat} (hu : ∀ j, u j < 2 ^ 20) (hz : ∀ j, z j < 1000) (j : Nat) : mrow u z b k j < 2 ^ 20 := by
  unfold mrow
  split
  · have := hz (j - b)
    omega
  · exact hu j
theorem AB.sv (h : AB A) (hz : ∀ j, z j < 1000) {u : Nat} : AB (va_up A 2 (msave (A 2) z u)) := va_b h (fun j => by
  unfold msave
  split
  · refine row_b (fun i => ?_) hz j
    unfold msv
    split
    · exact h 2 _
    · exact h 2 _
  · exact row_b (h 2) hz j)
theorem AB.rw3 (h : AB A) (hz : ∀ j, z j < 1000) {k b m : Nat} : AB (va_up A k (mrow (A k) z b m)) := va_b h (row_b (h k) hz)
theorem up_b {r : Nat → Nat} {k v : Nat} (h : ∀ j, r j < 2 ^ 20) (hv : v < 2 ^ 20) (j : Nat) : va_up r k v j < 2 ^ 20 := by
  unfold va_up
  split
  · exact hv
  · exact h j
theorem P_append (hJ : JJ n f hh F S z A X) (x : Int32) : PR tyI g zL_append zX10_append [.int x] n f hh := by
  obtain ⟨pf, now, p, Z, sz, hS⟩ := ST.ex hJ.2.1
  have hAB := hJ.2.2.1
  by_cases hx : nI 32 ≤ x ∧ x ≤ nI 126
  · obtain ⟨c, rfl, c1, c2⟩ := nI_rng (by decide) (by decide) hx
    have him := hS.im
    by_cases hs : F 11 < 120
    · exact PR_ok (F1 := va_up F 11 (F 11 + 1)) (A1 := va_up A 5 (va_up (A 5) (F 11) c)) (z2 := z) hJ wfI W_append (Nat.zero_le _) (Nat.zero_le _) (zn_mono (q_append hS ⟨c1, c2⟩ hs) (Nat.le_refl _) (Nat.le_refl _) (fun r h9 q => ⟨q.1, by rw [q.2]; exact ⟨pf, now, p, hS.1.1.input (by omega) (zb_up hS.ib (by omega)), hS.L.input⟩, by rw [q.2]; exact input_fr⟩)) (fun h => m_append_0 hx hs) rfl ⟨rfl, rfl, rfl, rfl, rfl, rfl⟩ ⟨rfl, rfl, rfl, rfl⟩ (va_b hAB (up_b (hAB 5) (by omega)))
    · exact PR_th (i := 1) (b := nI 0) hJ W_append rfl (by omega) (q_append_2 hS ⟨c1, c2⟩ (by omega)) (fun h => m_append_2 _ hx (by omega)) rfl ⟨rfl, rfl, rfl, rfl, rfl, rfl⟩ ⟨rfl, rfl, rfl, rfl⟩ hAB
  · exact PR_th (i := 0) (b := nI 0) hJ W_append rfl (by omega) (q_append_1 hS hx) (fun h => m_append_1 x hx) rfl ⟨rfl, rfl, rfl, rfl, rfl, rfl⟩ ⟨rfl, rfl, rfl, rfl⟩ hAB
theorem P_firstError (hJ : JJ n f hh F S z A X) (x : Int32) : PR tyI g zL_firstError zX10_firstError [.int x] n f hh := by
  obtain ⟨pf, now, p, Z, sz, hS⟩ := ST.ex hJ.2.1
  have hAB := hJ.2.2.1
  by_cases hx : nI 0 ≤ x ∧ x ≤ nI 2
  · obtain ⟨k, rfl, k1, k2⟩ := nI_rng (by decide) (by decide) hx
    exact PR_qu hJ wfI W_firstError (q_firstError hS k2) (fun h => m_firstError_0 k2 hS.im hS.ib) rfl ⟨rfl, rfl, rfl, rfl, rfl, rfl⟩ ⟨rfl, rfl, rfl, rfl⟩ hAB
  · exact PR_th (i := 0) (b := nI 0) hJ W_firstError rfl (by omega) (q_firstError_1 hS hx) (fun h => m_firstError_1 x hx) rfl ⟨rfl, rfl, rfl, rfl, rfl, rfl⟩ ⟨rfl, rfl, rfl, rfl⟩ hAB
theorem P_load (hJ : JJ n f hh F S z A X) : PR tyI g zL_load zX10_load [] n f hh := by
  obtain ⟨pf, now, p, Z, sz, hS⟩ := ST.ex hJ.2.1
  have hAB := hJ.2.2.1
  have hur := hS.ur
  by_cases hr : mrl (A 5) 2 (F 11) 0 0 0 0 = F 11
  · exact PR_ok hJ wfI W_load (by omega) (by omega) (q_load hS hr) (fun h => m_load_0 (by omega) hS.im hS.ib hr) rfl ⟨rfl, rfl, rfl, rfl, rfl, rfl⟩ ⟨rfl, rfl, rfl, rfl⟩ (hAB.sv hS.tk.bd)
  · exact PR_th (i := 0) (b := nI 0) hJ W_load rfl (by omega) (q_load_1 hS hr) (fun h => m_load_1 hS.im hS.ib hr) rfl ⟨rfl, rfl, rfl, rfl, rfl, rfl⟩ ⟨rfl, rfl, rfl, rfl⟩ hAB
theorem P_setCell (hJ : JJ n f hh F S z A X) (x y : Int32) : PR tyI g zL_setCell zX10_setCell [.int x, .int y] n f hh := by
  obtain ⟨pf, now, p, Z, sz, hS⟩ := ST.ex hJ.2.1
  have hAB := hJ.2.2.1
  have hur := hS.ur
  by_cases hC : mCell z x y
  · obtain ⟨l, c, hl, hc, rfl, rfl⟩ := cell_ex hS.tk.ok hC
    by_cases hr : mrl (A 5) 0 (F 11) 0 0 0 0 = F 11
    · exact PR_ok hJ wfI W_setCell (by omega) (by omega) (q_setCell hS hl hc hr) (fun h => m_setCell_0 hS.tk.ok hl hc (by omega) hS.im hS.ib hr) rfl ⟨rfl, rfl, rfl, rfl, rfl, rfl⟩ ⟨rfl, rfl, rfl, rfl⟩ (hAB.sv hS.tk.bd)
    · exact PR_th (i := 1) (b := nI 0) hJ W_setCell rfl (by omega) (q_setCell_2 hS hl hc hr) (fun h => m_setCell_2 hS.tk.ok hl hc hS.im hS.ib hr) rfl ⟨rfl, rfl, rfl, rfl, rfl, rfl⟩ ⟨rfl, rfl, rfl, rfl⟩ hAB
  · exact PR_th (i := 0) (b := nI 0) hJ W_setCell rfl (by omega) (q_setCell_1 hS hC) (fun h => m_setCell_1 hS.tk.ok x y hC) rfl ⟨rfl, rfl, rfl, rfl, rfl, rfl⟩ ⟨rfl, rfl, rfl, rfl⟩ hAB
theorem P_insertLine (hJ : JJ n f hh F S z A X) (x : Int32) : PR tyI g zL_insertLine zX10_insertLine [.int x] n f hh := by
  obtain ⟨pf, now, p, Z, sz, hS⟩ := ST.ex hJ.2.1
  have hAB := hJ.2.2.1
  have hur := hS.ur
  have h0 := hS.tk.ok.1
  have h1 := hS.tk.ok.2.1
  by_cases hx : nI 0 ≤ x ∧ x ≤ nI (z 0)
  · obtain ⟨l, rfl, k1, hl⟩ := nI_rng (by decide) (by omega) hx
    by_cases hr : mrl (A 5) 1 (F 11) 0 0 0 0 = F 11
    · by_cases h9 : z 0 < 24
      · have e3 := (insl_T hS.ib hS.tk hl h9 hr).2.2
        have hm : ∀ h, Zx g zX10_insertLine [.ref 50, .int (nI l)] (mhp h F S z A X) (some (.int (nI (z 0 + 1)))) _ := fun h => by
          have := m_insertLine_0 (g := g) (h := h) (S := S) (X := X) h0 h1 hl hS.im hS.ib (by omega) h9 hr
          rw [e3] at this
          exact this
        by_cases e : l < z 0
        · exact PR_ok hJ wfI W_insertLine (by omega) (by omega) (q_insertLine_a hS e h9 hr) hm rfl ⟨rfl, rfl, rfl, rfl, rfl, rfl⟩ ⟨rfl, rfl, rfl, rfl⟩ (hAB.sv hS.tk.bd)
        · exact PR_ok hJ wfI W_insertLine (by omega) (by omega) (q_insertLine_b hS (by omega) h9 hr) hm rfl ⟨rfl, rfl, rfl, rfl, rfl, rfl⟩ ⟨rfl, rfl, rfl, rfl⟩ (hAB.sv hS.tk.bd)
      · exact PR_th (i := 1) (b := nI 0) hJ W_insertLine rfl (by omega) (q_insertLine_3 hS hl hr h9) (fun h => m_insertLine_2 h0 h1 hl hS.im hS.ib (fun q => h9 q.2)) rfl ⟨rfl, rfl, rfl, rfl, rfl, rfl⟩ ⟨rfl, rfl, rfl, rfl⟩ hAB
    · exact PR_th (i := 1) (b := nI 0) hJ W_insertLine rfl (by omega) (q_insertLine_2 hS hl hr) (fun h => m_insertLine_2 h0 h1 hl hS.im hS.ib (fun q => hr q.1)) rfl ⟨rfl, rfl, rfl, rfl, rfl, rfl⟩ ⟨rfl, rfl, rfl, rfl⟩ hAB
  · exact PR_th (i := 0) (b := nI 0) hJ W_insertLine rfl (by omega) (q_insertLine_1 hS hx) (fun h => m_insertLine_1 x hx) rfl ⟨rfl, rfl, rfl, rfl, rfl, rfl⟩ ⟨rfl, rfl, rfl, rfl⟩ hAB
theorem P_removeLine (hJ : JJ n f hh F S z A X) (x : Int32) : PR tyI g zL_removeLine zX10_removeLine [.int x] n f hh := by
  obtain ⟨pf, now, p, Z, sz, hS⟩ := ST.ex hJ.2.1
  have hAB := hJ.2.2.1
  have hur := hS.ur
  have h0 := hS.tk.ok.1
  have h1 := hS.tk.ok.2.1
  by_cases hx : zin x (z 0)
  · obtain ⟨l, hl, rfl⟩ := zin_ex hx (by omega)
    by_cases h2 : 1 < z 0
    · by_cases e : l + 1 < z 0
      · exact PR_ok hJ wfI W_removeLine (by omega) (by omega) (q_removeLine_a hS e) (fun h => m_removeLine_0 h0 h1 hl (by omega) h2) rfl ⟨rfl, rfl, rfl, rfl, rfl, rfl⟩ ⟨rfl, rfl, rfl, rfl⟩ (hAB.sv hS.tk.bd)
      · exact PR_ok hJ wfI W_removeLine (by omega) (by omega) (q_removeLine_b hS (by omega) h2) (fun h => m_removeLine_0 h0 h1 hl (by omega) h2) rfl ⟨rfl, rfl, rfl, rfl, rfl, rfl⟩ ⟨rfl, rfl, rfl, rfl⟩ (hAB.sv hS.tk.bd)
    · exact PR_th (i := 1) (b := nI 0) hJ W_removeLine rfl (by omega) (q_removeLine_2 hS hl (by omega)) (fun h => m_removeLine_2 h0 h1 hl (by omega)) rfl ⟨rfl, rfl, rfl, rfl, rfl, rfl⟩ ⟨rfl, rfl, rfl, rfl⟩ hAB
  · exact PR_th (i := 0) (b := nI 0) hJ W_removeLine rfl (by omega) (q_removeLine_1 hS hx) (fun h => m_removeLine_1 h0 h1 x hx) rfl ⟨rfl, rfl, rfl, rfl, rfl, rfl⟩ ⟨rfl, rfl, rfl, rfl⟩ hAB
theorem P_letter (hJ : JJ n f hh F S z A X) (x y k : Int32) : PR tyI g zL_letter zX10_letter [.int x, .int y, .int k] n f hh := by
  obtain ⟨pf, now, p, Z, sz, hS⟩ := ST.ex hJ.2.1
  have hAB := hJ.2.2.1
  have h1 := hS.tk.ok.2.1
  by_cases hC : mCell z x y
  · obtain ⟨l, c, hl, hc, rfl, rfl⟩ := cell_ex hS.tk.ok hC
    have h8 := (hS.tk.ok.2.2.1 l hl).2
    have h16 := hS.tk.ok.2.2.2 l c hl hc
    by_cases hk : zin k (z (25 + 8 * l + c))
    · obtain ⟨q, hq, rfl⟩ := zin_ex hk (by omega)
      exact PR_qu hJ wfI W_letter (q_letter hS hl hc hq) (fun h => m_letter_0 hS.tk.ok hl hc hq) rfl ⟨rfl, rfl, rfl, rfl, rfl, rfl⟩ ⟨rfl, rfl, rfl, rfl⟩ hAB
    · exact PR_th (i := 0) (b := nI 0) hJ W_letter rfl (by omega) (q_letter_2 hS hl hc hk) (fun h => m_letter_1 hS.tk.ok _ _ k (fun q => hk (by have := q.2; rwa [nI_clamp (by omega), nI_clamp (by omega)] at this))) rfl ⟨rfl, rfl, rfl, rfl, rfl, rfl⟩ ⟨rfl, rfl, rfl, rfl⟩ hAB
  · exact PR_th (i := 0) (b := nI 0) hJ W_letter rfl (by omega) (q_letter_1 hS hC) (fun h => m_letter_1 hS.tk.ok x y k (fun q => hC q.1)) rfl ⟨rfl, rfl, rfl, rfl, rfl, rfl⟩ ⟨rfl, rfl, rfl, rfl⟩ hAB
theorem P_find (hJ : JJ n f hh F S z A X) (x y : Int32) : PR tyI g zL_find zX10_find [.int x, .int y] n f hh := by
  obtain ⟨pf, now, p, Z, sz, hS⟩ := ST.ex hJ.2.1
  have hAB := hJ.2.2.1
  by_cases hC : mCell z x y
  · obtain ⟨l, c, hl, hc, rfl, rfl⟩ := cell_ex hS.tk.ok hC
    by_cases hr : mrl (A 5) 0 (F 11) 0 0 0 0 = F 11
    · exact PR_qu hJ wfI W_find (q_find hS hl hc hr) (fun h => m_find_0 hS.tk.ok hl hc hS.tk.bd hS.im hS.ib hr) rfl ⟨rfl, rfl, rfl, rfl, rfl, rfl⟩ ⟨rfl, rfl, rfl, rfl⟩ hAB
    · exact PR_th (i := 1) (b := nI 0) hJ W_find rfl (by omega) (q_find_2 hS hl hc hr) (fun h => m_find_2 hS.tk.ok hl hc hS.im hS.ib hr) rfl ⟨rfl, rfl, rfl, rfl, rfl, rfl⟩ ⟨rfl, rfl, rfl, rfl⟩ hAB
  · exact PR_th (i := 0) (b := nI 0) hJ W_find rfl (by omega) (q_find_1 hS hC) (fun h => m_find_1 hS.tk.ok x y hC) rfl ⟨rfl, rfl, rfl, rfl, rfl, rfl⟩ ⟨rfl, rfl, rfl, rfl⟩ hAB
theorem P_retab (hJ : JJ n f hh F S z A X) (x y : Int32) : PR tyI g zL_retab zX10_retab [.int x, .int y] n f hh := by
  obtain ⟨pf, now, p, Z, sz, hS⟩ := ST.ex hJ.2.1
  have hAB := hJ.2.2.1
  have hur := hS.ur
  have h1 := hS.tk.ok.2.1
  by_cases hx : zin x (z 0)
  · obtain ⟨l, hl, rfl⟩ := zin_ex hx (by omega)
    by_cases hy : nI 1 ≤ y ∧ y ≤ nI 16
    · obtain ⟨q, rfl, q1, q2⟩ := nI_rng (by decide) (by decide) hy
      by_cases hr : z (1 + l) + mRs z l q (z (1 + l)) ≤ 8
      · obtain ⟨m, R, r1, r2⟩ := retab_E hS.tk hl q1 hr
        exact PR_ok hJ wfI W_retab (by omega) (by omega) (q_retab hS hl q1 q2 hr r2) (fun h => m_retab_0 hS.tk.ok hl hS.tk.bd (by omega) ⟨q1, q2⟩ hr r1) rfl ⟨rfl, rfl, rfl, rfl, rfl, rfl⟩ ⟨rfl, rfl, rfl, rfl⟩ (hAB.sv hS.tk.bd)
      · exact PR_th (i := 2) (b := nI 0) hJ W_retab rfl (by omega) (q_retab_3 hS hl q1 q2 hr) (fun h => m_retab_3 hS.tk.ok hl hS.tk.bd ⟨q1, q2⟩ (by omega)) rfl ⟨rfl, rfl, rfl, rfl, rfl, rfl⟩ ⟨rfl, rfl, rfl, rfl⟩ hAB
    · exact PR_th (i := 1) (b := nI 0) hJ W_retab rfl (by omega) (q_retab_2 hS hl hy) (fun h => m_retab_2 hS.tk.ok hl y hy) rfl ⟨rfl, rfl, rfl, rfl, rfl, rfl⟩ ⟨rfl, rfl, rfl, rfl⟩ hAB
  · exact PR_th (i := 0) (b := nI 0) hJ W_retab rfl (by omega) (q_retab_1 hS hx) (fun h => m_retab_1 hS.tk.ok x y hx) rfl ⟨rfl, rfl, rfl, rfl, rfl, rfl⟩ ⟨rfl, rfl, rfl, rfl⟩ hAB
theorem P_undo (hJ : JJ n f hh F S z A X) : PR tyI g zL_undo zX10_undo [] n f hh := by
  obtain ⟨pf, now, p, Z, sz, hS⟩ := ST.ex hJ.2.1
  have hAB := hJ.2.2.1
  have hur := hS.ur
  rcases Nat.eq_zero_or_eq_succ_pred (F 5) with h5 | h5
  · exact PR_th (i := 0) (b := nI 0) hJ W_undo rfl (by omega) (q_undo_1 hS h5) (fun h => m_undo_1 h5) rfl ⟨rfl, rfl, rfl, rfl, rfl, rfl⟩ ⟨rfl, rfl, rfl, rfl⟩ hAB
  · exact PR_ok hJ wfI W_undo (by omega) (by omega) (q_undo hS h5) (fun h => m_undo_0 h5 (by omega)) rfl ⟨rfl, rfl, rfl, rfl, rfl, rfl⟩ ⟨rfl, rfl, rfl, rfl⟩ (hAB.rw3 hS.tk.bd)
theorem P_redo (hJ : JJ n f hh F S z A X) : PR tyI g zL_redo zX10_redo [] n f hh := by
  obtain ⟨pf, now, p, Z, sz, hS⟩ := ST.ex hJ.2.1
  have hAB := hJ.2.2.1
  have hur := hS.ur
  rcases Nat.eq_zero_or_eq_succ_pred (F 6) with h5 | h5
  · exact PR_th (i := 0) (b := nI 0) hJ W_redo rfl (by omega) (q_redo_1 hS h5) (fun h => m_redo_1 h5) rfl ⟨rfl, rfl, rfl, rfl, rfl, rfl⟩ ⟨rfl, rfl, rfl, rfl⟩ hAB
  · exact PR_ok hJ wfI W_redo (by omega) (by omega) (q_redo hS h5) (fun h => m_redo_0 h5 (by omega)) rfl ⟨rfl, rfl, rfl, rfl, rfl, rfl⟩ ⟨rfl, rfl, rfl, rfl⟩ (hAB.rw3 hS.tk.bd)
theorem P_setAlignment (hJ : JJ n f hh F S z A X) (x y : Int32) : PR tyI g zL_setAlignment zX10_setAlignment [.int x, .int y] n f hh := by
  obtain ⟨pf, now, p, Z, sz, hS⟩ := ST.ex hJ.2.1
  have hAB := hJ.2.2.1
  by_cases hx : (nI 0 ≤ x ∧ x ≤ nI 6) ∧ (nI 0 ≤ y ∧ y ≤ nI 3)
  · obtain ⟨c, rfl, c1, c2⟩ := nI_rng (by decide) (by decide) hx.1
    obtain ⟨a, rfl, a1, a2⟩ := nI_rng (by decide) (by decide) hx.2
    exact PR_ok hJ wfI W_setAlignment (by omega) (by omega) (q_setAl hS c2 a2) (fun h => m_setAlignment_0 c2 a2) rfl ⟨rfl, rfl, rfl, rfl, rfl, rfl⟩ ⟨rfl, rfl, rfl, rfl⟩ (va_b hAB (up_b (hAB 4) (by omega)))
  · exact PR_th (i := 0) (b := nI 0) hJ W_setAlignment rfl (by omega) (q_setAl_1 hS hx) (fun h => m_setAlignment_1 x y hx) rfl ⟨rfl, rfl, rfl, rfl, rfl, rfl⟩ ⟨rfl, rfl, rfl, rfl⟩ hAB
theorem P_setSpacing (hJ : JJ n f hh F S z A X) (x y : Int32) : PR tyI g zL_setSpacing zX10_setSpacing [.int x, .int y] n f hh := by
  obtain ⟨pf, now, p, Z, sz, hS⟩ := ST.ex hJ.2.1
  have hAB := hJ.2.2.1
  have d01 : nI 0 ≠ nI 1 := by decide
  have d02 : nI 0 ≠ nI 2 := by decide
  have d12 : nI 1 ≠ nI 2 := by decide
  by_cases hx : zin x 3
  · obtain ⟨k, hk, rfl⟩ := zin_ex hx (by decide)
    match k, hk with
    | 0, _ =>
      by_cases hy : nI 0 ≤ y ∧ y ≤ nI 8
      · obtain ⟨v, rfl, v1, v2⟩ := nI_rng (by decide) (by decide) hy
        exact PR_ok hJ wfI W_setSpacing (by omega) (by omega) (q_setSp_0 hS ⟨v1, v2⟩) (fun h => m_setSpacing_00 ⟨v1, v2⟩) rfl ⟨rfl, rfl, rfl, rfl, rfl, rfl⟩ ⟨rfl, rfl, rfl, rfl⟩ hAB
      · exact PR_th (i := 0) (b := nI 0) hJ W_setSpacing rfl (by omega) (q_setSp_0t hS hy) (fun h => m_setSpacing_1 _ y (fun q => q.elim (fun q => hy q.2) (fun q => q.elim (fun q => d01 q.1) (fun q => d02 q.1)))) rfl ⟨rfl, rfl, rfl, rfl, rfl, rfl⟩ ⟨rfl, rfl, rfl, rfl⟩ hAB
    | 1, _ =>
      by_cases hy : nI 0 ≤ y ∧ y ≤ nI 20
      · obtain ⟨v, rfl, v1, v2⟩ := nI_rng (by decide) (by decide) hy
        exact PR_ok hJ wfI W_setSpacing (by omega) (by omega) (q_setSp_1 hS ⟨v1, v2⟩) (fun h => m_setSpacing_01 ⟨v1, v2⟩) rfl ⟨rfl, rfl, rfl, rfl, rfl, rfl⟩ ⟨rfl, rfl, rfl, rfl⟩ hAB
      · exact PR_th (i := 0) (b := nI 0) hJ W_setSpacing rfl (by omega) (q_setSp_1t hS hy) (fun h => m_setSpacing_1 _ y (fun q => q.elim (fun q => d01 q.1.symm) (fun q => q.elim (fun q => hy q.2) (fun q => d12 q.1)))) rfl ⟨rfl, rfl, rfl, rfl, rfl, rfl⟩ ⟨rfl, rfl, rfl, rfl⟩ hAB
    | 2, _ =>
      by_cases hy : nI 1 ≤ y ∧ y ≤ nI 8
      · obtain ⟨v, rfl, v1, v2⟩ := nI_rng (by decide) (by decide) hy
        exact PR_ok hJ wfI W_setSpacing (by omega) (by omega) (q_setSp_2 hS ⟨v1, v2⟩) (fun h => m_setSpacing_02 ⟨v1, v2⟩) rfl ⟨rfl, rfl, rfl, rfl, rfl, rfl⟩ ⟨rfl, rfl, rfl, rfl⟩ hAB
      · exact PR_th (i := 0) (b := nI 0) hJ W_setSpacing rfl (by omega) (q_setSp_2t hS hy) (fun h => m_setSpacing_1 _ y (fun q => q.elim (fun q => d02 q.1.symm) (fun q => q.elim (fun q => d12 q.1.symm) (fun q => hy q.2)))) rfl ⟨rfl, rfl, rfl, rfl, rfl, rfl⟩ ⟨rfl, rfl, rfl, rfl⟩ hAB
  · have hb : x.toInt < 0 ∨ 2 < x.toInt := by
      unfold zin at hx
      omega
    exact PR_th (i := 0) (b := nI 0) hJ W_setSpacing rfl (by omega) (q_setSp_o hS hb) (fun h => m_setSpacing_1 x y (by
      rintro (q | q | q)
      · exact hx (by rw [q.1]; decide)
      · exact hx (by rw [q.1]; decide)
      · exact hx (by rw [q.1]; decide))) rfl ⟨rfl, rfl, rfl, rfl, rfl, rfl⟩ ⟨rfl, rfl, rfl, rfl⟩ hAB
end w4
