section w6
variable {g : zG} {hh : zH} {F z : Nat → Nat} {S : Int64} {A : Nat → Nat → Nat} {X : Nat → Int32} {n : Nat} {f : Nat → Int32} {l c b : Nat}
/-! each call, both sides: queries -/
theorem P_count (hJ : JJ n f hh F S z A X) (x : Int32) : PR tyI g zL_count zX10_count [.int x] n f hh := by
  obtain ⟨pf, now, p, Z, sz, hS⟩ := ST.ex hJ.2.1
  have hAB := hJ.2.2.1
  obtain ⟨-, -, o8, o9, o10, o11, o4⟩ := hS.fo
  have hv := (pR_ok (F := F) (A := A) hS.tk.ok o4 o11 o9 o8).cov
  by_cases hx : nI 0 ≤ x ∧ x ≤ nI 8
  · obtain ⟨k, rfl, k1, k2⟩ := nI_rng (by decide) (by decide) hx
    have hc := q_count (g := g) hS k2
    rw [mCn_cg (F := FF F z) (F' := va_up (va_up F 0 0) 13 (bAll z 7).length) (A' := mL (va_up F 0 0) z A (bAll z 7)) hv (RSm_of (F := F) rfl rfl rfl) rfl rfl rfl rfl k] at hc
    exact PR_qu hJ wfI W_count hc (fun h => m_count_0 hS.tk.ok hS.tk.bd o4 o10 o11 o9 o8 hAB k2) rfl ⟨rfl, rfl, rfl, rfl, rfl, rfl⟩ ⟨mL_lo _ (by omega), mL_lo _ (by omega), mL_lo _ (by omega), mL_lo _ (by omega)⟩ (mL_b (F := va_up F 0 0) hS.tk.ok o4 o11 o9 o8 hAB)
  · exact PR_th (i := 0) (b := nI 0) hJ W_count rfl (by omega) (q_count_1 hS hx) (fun h => m_count_1 hS.tk.ok hS.tk.bd o4 o10 o11 o9 o8 x hx) rfl ⟨rfl, rfl, rfl, rfl, rfl, rfl⟩ ⟨mL_lo _ (by omega), mL_lo _ (by omega), mL_lo _ (by omega), mL_lo _ (by omega)⟩ (mL_b (F := va_up F 0 1) hS.tk.ok o4 o11 o9 o8 hAB)
theorem P_line (hJ : JJ n f hh F S z A X) (x y : Int32) : PR tyI g zL_line zX10_line [.int x, .int y] n f hh := by
  obtain ⟨pf, now, p, Z, sz, hS⟩ := ST.ex hJ.2.1
  have hAB := hJ.2.2.1
  obtain ⟨-, -, o8, o9, o10, o11, o4⟩ := hS.fo
  have hv := (pR_ok (F := F) (A := A) hS.tk.ok o4 o11 o9 o8).cov
  have h24 := hS.tk.ok.2.1
  by_cases hx : zin x (z 0)
  · obtain ⟨l, hl, rfl⟩ := zin_ex hx (by omega)
    by_cases hy : nI 0 ≤ y ∧ y ≤ nI 3
    · obtain ⟨k, rfl, k1, k2⟩ := nI_rng (by decide) (by decide) hy
      have hc := q_line (g := g) hS hl k2
      rw [mLnn_cg (A' := mL (va_up F 0 0) z A (bAll z 7)) hv (RSm_of (F := F) rfl rfl rfl) hl k] at hc
      exact PR_qu hJ wfI W_line hc (fun h => m_line_0 hS.tk.ok hS.tk.bd o4 o10 o11 o9 o8 hAB hl k2) rfl ⟨rfl, rfl, rfl, rfl, rfl, rfl⟩ ⟨mL_lo _ (by omega), mL_lo _ (by omega), mL_lo _ (by omega), mL_lo _ (by omega)⟩ (mL_b (F := va_up F 0 0) hS.tk.ok o4 o11 o9 o8 hAB)
    · exact PR_th (i := 1) (b := nI 0) hJ W_line rfl (by omega) (q_line_2 hS hl hy) (fun h => m_line_2 hS.tk.ok hS.tk.bd o4 o10 o11 o9 o8 hl y hy) rfl ⟨rfl, rfl, rfl, rfl, rfl, rfl⟩ ⟨mL_lo _ (by omega), mL_lo _ (by omega), mL_lo _ (by omega), mL_lo _ (by omega)⟩ (mL_b (F := va_up F 0 2) hS.tk.ok o4 o11 o9 o8 hAB)
  · exact PR_th (i := 0) (b := nI 0) hJ W_line rfl (by omega) (q_line_1 hS hx) (fun h => m_line_1 hS.tk.ok hS.tk.bd o4 o10 o11 o9 o8 x y hx) rfl ⟨rfl, rfl, rfl, rfl, rfl, rfl⟩ ⟨mL_lo _ (by omega), mL_lo _ (by omega), mL_lo _ (by omega), mL_lo _ (by omega)⟩ (mL_b (F := va_up F 0 1) hS.tk.ok o4 o11 o9 o8 hAB)
theorem P_cell (hJ : JJ n f hh F S z A X) (x y k : Int32) : PR tyI g zL_cell zX10_cell [.int x, .int y, .int k] n f hh := by
  obtain ⟨pf, now, p, Z, sz, hS⟩ := ST.ex hJ.2.1
  have hAB := hJ.2.2.1
  obtain ⟨-, -, o8, o9, o10, o11, o4⟩ := hS.fo
  have hv := (pR_ok (F := F) (A := A) hS.tk.ok o4 o11 o9 o8).cov
  by_cases hC : mCell z x y
  · obtain ⟨l, c, hl, hc, rfl, rfl⟩ := cell_ex hS.tk.ok hC
    by_cases hy : nI 0 ≤ k ∧ k ≤ nI 4
    · obtain ⟨k, rfl, k1, k2⟩ := nI_rng (by decide) (by decide) hy
      have hq := q_cell (g := g) hS hl hc k2
      rw [mCl_cg (F := FF F z) (F' := va_up (va_up F 0 0) 13 (bAll z 7).length) (A' := mL (va_up F 0 0) z A (bAll z 7)) hv (RSm_of (F := F) rfl rfl rfl) rfl rfl rfl hl hc k] at hq
      exact PR_qu hJ wfI W_cell hq (fun h => m_cell_0 hS.tk.ok hS.tk.bd o4 o10 o11 o9 o8 hAB hl hc k2) rfl ⟨rfl, rfl, rfl, rfl, rfl, rfl⟩ ⟨mL_lo _ (by omega), mL_lo _ (by omega), mL_lo _ (by omega), mL_lo _ (by omega)⟩ (mL_b (F := va_up F 0 0) hS.tk.ok o4 o11 o9 o8 hAB)
    · exact PR_th (i := 1) (b := nI 0) hJ W_cell rfl (by omega) (q_cell_2 hS hl hc hy) (fun h => m_cell_2 hS.tk.ok hS.tk.bd o4 o10 o11 o9 o8 hl hc k hy) rfl ⟨rfl, rfl, rfl, rfl, rfl, rfl⟩ ⟨mL_lo _ (by omega), mL_lo _ (by omega), mL_lo _ (by omega), mL_lo _ (by omega)⟩ (mL_b (F := va_up F 0 2) hS.tk.ok o4 o11 o9 o8 hAB)
  · exact PR_th (i := 0) (b := nI 0) hJ W_cell rfl (by omega) (q_cell_1 hS hC) (fun h => m_cell_1 hS.tk.ok hS.tk.bd o4 o10 o11 o9 o8 x y k hC) rfl ⟨rfl, rfl, rfl, rfl, rfl, rfl⟩ ⟨mL_lo _ (by omega), mL_lo _ (by omega), mL_lo _ (by omega), mL_lo _ (by omega)⟩ (mL_b (F := va_up F 0 1) hS.tk.ok o4 o11 o9 o8 hAB)
theorem nn_ex {y : Int32} (h : ¬ y < 0) : ∃ q, q < 2 ^ 31 ∧ y = nI q := by
  have h1 : 0 ≤ y.toInt := by
    rw [Int32.lt_iff_toInt_lt] at h
    exact Int.not_lt.mp h
  have h2 : y.toInt < 2 ^ 31 := Int32.toInt_lt y
  refine ⟨y.toInt.toNat, by omega, ?_⟩
  apply Int32.toInt_inj.mp
  rw [nI_toInt (by omega)]
  omega
theorem P_hit (hJ : JJ n f hh F S z A X) (x y : Int32) : PR tyI g zL_hit zX10_hit [.int x, .int y] n f hh := by
  obtain ⟨pf, now, p, Z, sz, hS⟩ := ST.ex hJ.2.1
  have hAB := hJ.2.2.1
  obtain ⟨-, -, o8, o9, o10, o11, o4⟩ := hS.fo
  have hv := (pR_ok (F := F) (A := A) hS.tk.ok o4 o11 o9 o8).cov
  have h24 := hS.tk.ok.2.1
  by_cases hx : zin x (z 0)
  · obtain ⟨l, hl, rfl⟩ := zin_ex hx (by omega)
    by_cases hy : y < 0
    · exact PR_th (i := 0) (b := nI 0) hJ W_hit rfl (by omega) (q_hit_2 hS hl hy) (fun h => m_hit_1 hS.tk.ok hS.tk.bd o4 o10 o11 o9 o8 _ y (fun q => q.2 hy)) rfl ⟨rfl, rfl, rfl, rfl, rfl, rfl⟩ ⟨mL_lo _ (by omega), mL_lo _ (by omega), mL_lo _ (by omega), mL_lo _ (by omega)⟩ (mL_b (F := va_up F 0 1) hS.tk.ok o4 o11 o9 o8 hAB)
    · obtain ⟨q, hq, rfl⟩ := nn_ex hy
      have hc := q_hit (g := g) hS hl hq
      rw [mHt_cg (A' := mL (va_up F 0 0) z A (bAll z 7)) hv (RSm_of (F := F) rfl rfl rfl) hl (Nat.le_refl _)] at hc
      exact PR_qu hJ wfI W_hit hc (fun h => m_hit_0 hS.tk.ok hS.tk.bd o4 o10 o11 o9 o8 hAB hl hq) rfl ⟨rfl, rfl, rfl, rfl, rfl, rfl⟩ ⟨mL_lo _ (by omega), mL_lo _ (by omega), mL_lo _ (by omega), mL_lo _ (by omega)⟩ (mL_b (F := va_up F 0 0) hS.tk.ok o4 o11 o9 o8 hAB)
  · exact PR_th (i := 0) (b := nI 0) hJ W_hit rfl (by omega) (q_hit_1 hS hx) (fun h => m_hit_1 hS.tk.ok hS.tk.bd o4 o10 o11 o9 o8 x y (fun q => hx q.1)) rfl ⟨rfl, rfl, rfl, rfl, rfl, rfl⟩ ⟨mL_lo _ (by omega), mL_lo _ (by omega), mL_lo _ (by omega), mL_lo _ (by omega)⟩ (mL_b (F := va_up F 0 1) hS.tk.ok o4 o11 o9 o8 hAB)
theorem P_touched (hJ : JJ n f hh F S z A X) (x : Int32) : PR tyI g zL_touched zX10_touched [.int x] n f hh := by
  obtain ⟨pf, now, p, Z, sz, hS⟩ := ST.ex hJ.2.1
  have hAB := hJ.2.2.1
  obtain ⟨-, -, o8, o9, o10, o11, o4⟩ := hS.fo
  have h24 := hS.tk.ok.2.1
  by_cases hx : zin x (z 0)
  · obtain ⟨l, hl, rfl⟩ := zin_ex hx (by omega)
    have hc := q_touched (g := g) hS hl
    rw [bTc_cg (A' := mL (va_up F 0 0) z A (bAll z 7)) (n := nbb z) (RSm_of (F := F) rfl rfl rfl) (Nat.le_refl _)] at hc
    exact PR_qu hJ wfI W_touched hc (fun h => m_touched_0 hS.tk.ok hS.tk.bd o4 o10 o11 o9 o8 hAB hl) rfl ⟨rfl, rfl, rfl, rfl, rfl, rfl⟩ ⟨mL_lo _ (by omega), mL_lo _ (by omega), mL_lo _ (by omega), mL_lo _ (by omega)⟩ (mL_b (F := va_up F 0 0) hS.tk.ok o4 o11 o9 o8 hAB)
  · exact PR_th (i := 0) (b := nI 0) hJ W_touched rfl (by omega) (q_touched_1 hS hx) (fun h => m_touched_1 hS.tk.ok x hx) rfl ⟨rfl, rfl, rfl, rfl, rfl, rfl⟩ ⟨rfl, rfl, rfl, rfl⟩ hAB
theorem P_block (hJ : JJ n f hh F S z A X) (x y : Int32) : PR tyI g zL_block zX10_block [.int x, .int y] n f hh := by
  obtain ⟨pf, now, p, Z, sz, hS⟩ := ST.ex hJ.2.1
  have hAB := hJ.2.2.1
  obtain ⟨-, -, o8, o9, o10, o11, o4⟩ := hS.fo
  have hnb := hS.nb
  by_cases hx : zin x (nbb z)
  · obtain ⟨b, hb, rfl⟩ := zin_ex hx (by omega)
    obtain ⟨c, f9, t, hP, e6, e7, e8⟩ := blk_ex (F := F) (A := A) hb
    by_cases hy : nI 0 ≤ y ∧ y ≤ nI 7
    · obtain ⟨k, rfl, k1, k2⟩ := nI_rng (by decide) (by decide) hy
      have hc := q_block (g := g) hS hb k2
      rw [e6, e7, e8, mBn_cg (A' := mL F z A (bAll z 7)) (n := nbb z) (RSm_of (F := F) rfl rfl rfl) hb] at hc
      exact PR_qu hJ wfI W_block hc (fun h => m_block_0 hS.tk.ok hS.tk.bd o4 o10 o11 o9 o8 hP k2) rfl ⟨rfl, rfl, rfl, rfl, rfl, rfl⟩ ⟨mL_lo _ (by omega), mL_lo _ (by omega), mL_lo _ (by omega), mL_lo _ (by omega)⟩ (mL_b hS.tk.ok o4 o11 o9 o8 hAB)
    · exact PR_th (i := 1) (b := nI 0) hJ W_block rfl (by omega) (q_block_2 hS hb hy) (fun h => m_block_2 hS.tk.ok hS.tk.bd o4 o10 o11 o9 o8 hP y hy) rfl ⟨rfl, rfl, rfl, rfl, rfl, rfl⟩ ⟨mL_lo _ (by omega), mL_lo _ (by omega), mL_lo _ (by omega), mL_lo _ (by omega)⟩ (mL_b hS.tk.ok o4 o11 o9 o8 hAB)
  · exact PR_th (i := 0) (b := nI 0) hJ W_block rfl (by omega) (q_block_1 hS hx) (fun h => m_block_1 hS.tk.ok hS.tk.bd o4 o10 o11 o9 o8 x y hx) rfl ⟨rfl, rfl, rfl, rfl, rfl, rfl⟩ ⟨mL_lo _ (by omega), mL_lo _ (by omega), mL_lo _ (by omega), mL_lo _ (by omega)⟩ (mL_b hS.tk.ok o4 o11 o9 o8 hAB)
theorem P_sum (hJ : JJ n f hh F S z A X) (x : Int32) : PR tyL g zL_sum zX10_sum [.int x] n f hh := by
  obtain ⟨pf, now, p, Z, sz, hS⟩ := ST.ex hJ.2.1
  have hAB := hJ.2.2.1
  obtain ⟨-, -, o8, o9, o10, o11, o4⟩ := hS.fo
  have hnb := hS.nb
  by_cases hx : zin x (nbb z)
  · obtain ⟨b, hb, rfl⟩ := zin_ex hx (by omega)
    obtain ⟨c, f9, t, hP, e6, e7, e8⟩ := blk_ex (F := F) (A := A) hb
    have hc := q_sum (g := g) hS hb
    rw [e6, e7, e8] at hc
    exact PR_qu hJ wfL W_sum hc (fun h => m_sum_0 hS.tk.ok hS.tk.bd o4 o10 o11 o9 o8 hP) rfl ⟨rfl, rfl, rfl, rfl, rfl, rfl⟩ ⟨mL_lo _ (by omega), mL_lo _ (by omega), mL_lo _ (by omega), mL_lo _ (by omega)⟩ (mL_b hS.tk.ok o4 o11 o9 o8 hAB)
  · exact PR_th (i := 0) (b := (0 : Int64)) hJ W_sum rfl (by omega) (q_sum_1 hS hx) (fun h => m_sum_1 hS.tk.ok hS.tk.bd o4 o10 o11 o9 o8 x hx) rfl ⟨rfl, rfl, rfl, rfl, rfl, rfl⟩ ⟨mL_lo _ (by omega), mL_lo _ (by omega), mL_lo _ (by omega), mL_lo _ (by omega)⟩ (mL_b hS.tk.ok o4 o11 o9 o8 hAB)
theorem P_mean (hJ : JJ n f hh F S z A X) (x : Int32) : PR tyD g zL_mean zX10_mean [.int x] n f hh := by
  obtain ⟨pf, now, p, Z, sz, hS⟩ := ST.ex hJ.2.1
  have hAB := hJ.2.2.1
  obtain ⟨-, -, o8, o9, o10, o11, o4⟩ := hS.fo
  have hnb := hS.nb
  by_cases hx : zin x (nbb z)
  · obtain ⟨b, hb, rfl⟩ := zin_ex hx (by omega)
    have hB := ((pR_ok (F := F) (A := A) hS.tk.ok o4 o11 o9 o8).blk b hb).1
    obtain ⟨c, f9, t, hP, rfl, rfl, rfl⟩ := blk_ex (F := F) (A := A) hb
    by_cases h0 : 0 < bNum (mK z (pRR F z A 6 b)) (pRR F z A 8 b + 1 - pRR F z A 7 b) (pRR F z A 7 b)
    · have hl := bNum_le (mK z (pRR F z A 6 b)) (pRR F z A 8 b + 1 - pRR F z A 7 b) (pRR F z A 7 b)
      have hn := mean_vf (bSum z (pRR F z A 6 b) (pRR F z A 7 b) (pRR F z A 8 b)) h0 (by have := hB.2.2.1; have := hB.2.2.2.1; omega)
      exact PR_qu hJ wfD W_mean (q_mean hS hb h0 hn) (fun h => m_mean_0 hS.tk.ok hS.tk.bd o4 o10 o11 o9 o8 hP h0 hn) rfl ⟨rfl, rfl, rfl, rfl, rfl, rfl⟩ ⟨mL_lo _ (by omega), mL_lo _ (by omega), mL_lo _ (by omega), mL_lo _ (by omega)⟩ (mL_b hS.tk.ok o4 o11 o9 o8 hAB)
    · exact PR_qu hJ wfD W_mean (q_mean_n hS hb (by omega)) (fun h => m_mean_n hS.tk.ok hS.tk.bd o4 o10 o11 o9 o8 hP (by omega)) rfl ⟨rfl, rfl, rfl, rfl, rfl, rfl⟩ ⟨mL_lo _ (by omega), mL_lo _ (by omega), mL_lo _ (by omega), mL_lo _ (by omega)⟩ (mL_b hS.tk.ok o4 o11 o9 o8 hAB)
  · exact PR_th (i := 0) (b := FP.dconst0) hJ W_mean rfl (by omega) (q_mean_1 hS hx) (fun h => m_mean_1 hS.tk.ok hS.tk.bd o4 o10 o11 o9 o8 x hx) rfl ⟨rfl, rfl, rfl, rfl, rfl, rfl⟩ ⟨mL_lo _ (by omega), mL_lo _ (by omega), mL_lo _ (by omega), mL_lo _ (by omega)⟩ (mL_b hS.tk.ok o4 o11 o9 o8 hAB)
theorem P_insertColumn (hJ : JJ n f hh F S z A X) (x : Int32) : PR tyI g zL_insertColumn zX10_insertColumn [.int x] n f hh := by
  obtain ⟨pf, now, p, Z, sz, hS⟩ := ST.ex hJ.2.1
  have hAB := hJ.2.2.1
  obtain ⟨-, -, o8, o9, o10, o11, o4⟩ := hS.fo
  have hnb := hS.nb
  have hur := hS.ur
  have hM : AB (mL F z A (bAll z 7)) := mL_b hS.tk.ok o4 o11 o9 o8 hAB
  by_cases hx : zin x (nbb z)
  · obtain ⟨b, hb, rfl⟩ := zin_ex hx (by omega)
    obtain ⟨c, f9, t, hP, e6, e7, e8⟩ := blk_ex (F := F) (A := A) hb
    by_cases hr : bRoom z f9 (t + 1)
    · exact PR_ok hJ wfI W_insertColumn (by omega) (by omega) (q_insCol hS hb e6 e7 e8 hr) (fun h => m_insertColumn_0 hS.tk.ok hS.tk.bd o4 o10 o11 o9 o8 (by omega) hP hr) rfl ⟨rfl, rfl, rfl, rfl, rfl, rfl⟩ ⟨by show msave (mL F z A (bAll z 7) 2) z (F 5) = msave (A 2) z (F 5); rw [mL_lo _ (by omega)], mL_lo _ (by omega), mL_lo _ (by omega), mL_lo _ (by omega)⟩ (hM.sv hS.tk.bd)
    · exact PR_th (i := 1) (b := nI 0) hJ W_insertColumn rfl (by omega) (q_insCol_2 hS hb e6 e7 e8 hr) (fun h => m_insertColumn_2 hS.tk.ok hS.tk.bd o4 o10 o11 o9 o8 hP hr) rfl ⟨rfl, rfl, rfl, rfl, rfl, rfl⟩ ⟨mL_lo _ (by omega), mL_lo _ (by omega), mL_lo _ (by omega), mL_lo _ (by omega)⟩ hM
  · exact PR_th (i := 0) (b := nI 0) hJ W_insertColumn rfl (by omega) (q_insCol_1 hS hx) (fun h => m_insertColumn_1 hS.tk.ok hS.tk.bd o4 o10 o11 o9 o8 x hx) rfl ⟨rfl, rfl, rfl, rfl, rfl, rfl⟩ ⟨mL_lo _ (by omega), mL_lo _ (by omega), mL_lo _ (by omega), mL_lo _ (by omega)⟩ hM
theorem P_removeColumn (hJ : JJ n f hh F S z A X) (x : Int32) : PR tyI g zL_removeColumn zX10_removeColumn [.int x] n f hh := by
  obtain ⟨pf, now, p, Z, sz, hS⟩ := ST.ex hJ.2.1
  have hAB := hJ.2.2.1
  obtain ⟨-, -, o8, o9, o10, o11, o4⟩ := hS.fo
  have hnb := hS.nb
  have hur := hS.ur
  have hM : AB (mL F z A (bAll z 7)) := mL_b hS.tk.ok o4 o11 o9 o8 hAB
  by_cases hx : zin x (nbb z)
  · obtain ⟨b, hb, rfl⟩ := zin_ex hx (by omega)
    obtain ⟨c, f9, t, hP, e6, e7, e8⟩ := blk_ex (F := F) (A := A) hb
    exact PR_ok hJ wfI W_removeColumn (by omega) (by omega) (q_remCol hS hb e6 e7 e8) (fun h => m_removeColumn_0 hS.tk.ok hS.tk.bd o4 o10 o11 o9 o8 (by omega) hP) rfl ⟨rfl, rfl, rfl, rfl, rfl, rfl⟩ ⟨by show msave (mL F z A (bAll z 7) 2) z (F 5) = msave (A 2) z (F 5); rw [mL_lo _ (by omega)], mL_lo _ (by omega), mL_lo _ (by omega), mL_lo _ (by omega)⟩ (hM.sv hS.tk.bd)
  · exact PR_th (i := 0) (b := nI 0) hJ W_removeColumn rfl (by omega) (q_remCol_1 hS hx) (fun h => m_removeColumn_1 hS.tk.ok hS.tk.bd o4 o10 o11 o9 o8 x hx) rfl ⟨rfl, rfl, rfl, rfl, rfl, rfl⟩ ⟨mL_lo _ (by omega), mL_lo _ (by omega), mL_lo _ (by omega), mL_lo _ (by omega)⟩ hM
theorem msd_eq {u : Nat → Nat} : ∀ j, j < 3289 → msd u z 3289 j = z j := fun j hj => if_pos hj
theorem P_moveLine (hJ : JJ n f hh F S z A X) (x y : Int32) : PR tyI g zL_moveLine zX10_moveLine [.int x, .int y] n f hh := by
  obtain ⟨pf, now, p, Z, sz, hS⟩ := ST.ex hJ.2.1
  have hAB := hJ.2.2.1
  obtain ⟨-, -, o8, o9, o10, o11, o4⟩ := hS.fo
  have hur := hS.ur
  have h0 := hS.tk.ok.1
  have h1 := hS.tk.ok.2.1
  by_cases hx : zin x (z 0)
  · obtain ⟨l, hl, rfl⟩ := zin_ex hx (by omega)
    by_cases hy : zin y (z 0)
    · obtain ⟨t, ht, rfl⟩ := zin_ex hy (by omega)
      have hT := (mmv_T (u := msd (A 1) z 3289) hS.tk hl ht msd_eq).1
      have hB2 : AB (va_up (va_up A 2 (msave (A 2) z (F 5))) 1 (msd (A 1) z 3289)) := va_b (hAB.sv hS.tk.bd) (msd_b (hAB 1) (fun j => Nat.lt_trans (hS.tk.bd j) (by decide)))
      exact PR_ok hJ wfI W_moveLine (by omega) (by omega) (q_moveLine (u := msd (A 1) z 3289) hS hl ht msd_eq) (fun h => m_moveLine_0 hS.tk.ok hl ht (by omega) hT.ok hT.bd o4 o10 o11 o9 o8) rfl ⟨rfl, rfl, rfl, rfl, rfl, rfl⟩ ⟨mL_lo _ (by omega), mL_lo _ (by omega), mL_lo _ (by omega), mL_lo _ (by omega)⟩ (mL_b (F := va_up (va_up (va_up F 0 0) 5 (min (F 5) 9 + 1)) 6 0) hT.ok o4 o11 o9 o8 hB2)
    · exact PR_th (i := 0) (b := nI 0) hJ W_moveLine rfl (by omega) (q_moveLine_2 hS hl hy) (fun h => m_moveLine_1 h0 h1 _ y (fun q => hy q.2)) rfl ⟨rfl, rfl, rfl, rfl, rfl, rfl⟩ ⟨rfl, rfl, rfl, rfl⟩ hAB
  · exact PR_th (i := 0) (b := nI 0) hJ W_moveLine rfl (by omega) (q_moveLine_1 hS hx) (fun h => m_moveLine_1 h0 h1 x y (fun q => hx q.1)) rfl ⟨rfl, rfl, rfl, rfl, rfl, rfl⟩ ⟨rfl, rfl, rfl, rfl⟩ hAB
theorem mIns_b (bh : Nat → Nat → Prop) [∀ a b, Decidable (bh a b)] {x : Nat} (hx : x < 2 ^ 20) : ∀ (n : Nat) (o : Nat → Nat), (∀ j, o j < 2 ^ 20) → ∀ j, mIns bh x n o j < 2 ^ 20
  | 0, o, h, j => up_b h hx j
  | n + 1, o, h, j => by
    simp only [mIns]
    split
    · exact mIns_b bh hx n _ (up_b h (h n)) j
    · exact up_b h hx j
theorem mOrd_b (bh : Nat → Nat → Prop) [∀ a b, Decidable (bh a b)] {a : Nat} {o : Nat → Nat} (h : ∀ j, o j < 2 ^ 20) : ∀ (k : Nat), a + k < 2 ^ 20 → ∀ j, mOrd bh a o k j < 2 ^ 20
  | 0, _, j => h j
  | k + 1, hk, j => mIns_b bh (by omega) k _ (mOrd_b bh h k (by omega)) j
theorem P_sort (hJ : JJ n f hh F S z A X) (x y : Int32) {d : Nat} (hd : d ≤ 1) : PR tyI g zL_sort zX10_sort [.int x, .int y, .int (nI d)] n f hh := by
  obtain ⟨pf, now, p, Z, sz, hS⟩ := ST.ex hJ.2.1
  have hAB := hJ.2.2.1
  obtain ⟨-, -, o8, o9, o10, o11, o4⟩ := hS.fo
  have hnb := hS.nb
  have hur := hS.ur
  have hM : AB (mL F z A (bAll z 7)) := mL_b hS.tk.ok o4 o11 o9 o8 hAB
  by_cases hx : zin x (nbb z)
  · obtain ⟨b, hb, rfl⟩ := zin_ex hx (by omega)
    have hB := ((pR_ok (F := F) (A := A) hS.tk.ok o4 o11 o9 o8).blk b hb).1
    obtain ⟨c, f9, t, hP, e6, e7, e8⟩ := blk_ex (F := F) (A := A) hb
    rw [e6, e7, e8] at hB
    have h24 := hB.2.2.2.1
    have ht := hB.2.2.1
    by_cases hy : nI 0 ≤ y ∧ y ≤ nI (t - f9 + 1)
    · obtain ⟨s, rfl, s1, s2⟩ := nI_rng (by decide) (by omega) hy
      refine PR_ok hJ wfI W_sort (by omega) (by omega) (q_sort (o0 := (va_up (mL F z A (bAll z 7)) 2 (msave ((mL F z A (bAll z 7)) 2) z (F 5))) 13) (u := msd ((va_up (mL F z A (bAll z 7)) 2 (msave ((mL F z A (bAll z 7)) 2) z (F 5))) 1) z 3289) hS hb e6 e7 e8 hd s2 msd_eq) (fun h => m_sort_0 hS.tk.ok hS.tk.bd o4 o10 o11 o9 o8 (by omega) hP hd s2) rfl ⟨rfl, rfl, rfl, rfl, rfl, rfl⟩ ⟨?_, mL_lo _ (by omega), mL_lo _ (by omega), mL_lo _ (by omega)⟩ ?_
      · show msave (mL F z A (bAll z 7) 2) z (F 5) = msave (A 2) z (F 5)
        rw [mL_lo _ (by omega)]
      · have h2 := hM.sv (u := F 5) hS.tk.bd
        exact va_b (va_b h2 (mOrd_b _ (h2 13) _ (by omega))) (msd_b (h2 1) (fun j => Nat.lt_trans (hS.tk.bd j) (by decide)))
    · exact PR_th (i := 1) (b := nI 0) hJ W_sort rfl (by omega) (q_sort_2 hS hb e6 e7 e8 hy) (fun h => m_sort_2 hS.tk.ok hS.tk.bd o4 o10 o11 o9 o8 hP y hy) rfl ⟨rfl, rfl, rfl, rfl, rfl, rfl⟩ ⟨mL_lo _ (by omega), mL_lo _ (by omega), mL_lo _ (by omega), mL_lo _ (by omega)⟩ hM
  · exact PR_th (i := 0) (b := nI 0) hJ W_sort rfl (by omega) (q_sort_1 hS hx) (fun h => m_sort_1 hS.tk.ok hS.tk.bd o4 o10 o11 o9 o8 x y hx) rfl ⟨rfl, rfl, rfl, rfl, rfl, rfl⟩ ⟨mL_lo _ (by omega), mL_lo _ (by omega), mL_lo _ (by omega), mL_lo _ (by omega)⟩ hM
end w6
