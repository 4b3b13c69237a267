section w7
variable {g : zG} {hh : zH} {F z : Nat → Nat} {S : Int64} {A : Nat → Nat → Nat} {X : Nat → Int32} {n : Nat} {f : Nat → Int32} {l c b q : Nat}
/-! type, erase, digest, clearInput -/
theorem code_ex {x : Int32} (h : mCode x) : ∃ v, x = nI v ∧ v < 1000 ∧ (v = 9 ∨ v = 10 ∨ (32 ≤ v ∧ v ≠ 9 ∧ v ≠ 10)) := by
  rcases h with h | h | h
  · exact ⟨9, h, by omega, by omega⟩
  · exact ⟨10, h, by omega, by omega⟩
  · rcases h with h | h | h | h | h
    · obtain ⟨v, e, v1, v2⟩ := nI_rng (by decide) (by decide) h
      exact ⟨v, e, by omega, by omega⟩
    · obtain ⟨v, e, v1, v2⟩ := nI_rng (by decide) (by decide) h
      exact ⟨v, e, by omega, by omega⟩
    · obtain ⟨v, e, v1, v2⟩ := nI_rng (by decide) (by decide) h
      exact ⟨v, e, by omega, by omega⟩
    · exact ⟨32, h, by omega, by omega⟩
    · rcases h with h | h | h | h | h | h | h | h <;> exact ⟨_, h, by omega, by omega⟩
theorem typ_1 {x y k cd : Int32} (h : ¬ mPlace z x y k) : mtyp z x y k cd = 1 := by unfold mtyp; rw [if_pos h]
theorem typ_2 {x y k cd : Int32} (h : mPlace z x y k) (h2 : ¬ mCode cd) : mtyp z x y k cd = 2 := by unfold mtyp; rw [if_neg (fun q => q h), if_pos h2]
theorem typ_3 {x y k cd : Int32} (h : mPlace z x y k) (h2 : mCode cd) (h3 : ¬ mRoom z x y cd) : mtyp z x y k cd = 3 := by unfold mtyp; rw [if_neg (fun q => q h), if_neg (fun q => q h2), if_neg h3]
theorem typ_0 {x y k cd : Int32} (h : mPlace z x y k) (h2 : mCode cd) (h3 : mRoom z x y cd) : mtyp z x y k cd = 0 := by unfold mtyp; rw [if_neg (fun q => q h), if_neg (fun q => q h2), if_pos h3]
theorem place_nI (hz : mOK z) (hl : l < z 0) (hc : c < z (1 + l)) {k : Int32} : mPlace z (nI l) (nI c) k ↔ zin k (z (25 + 8 * l + c) + 1) := by
  have h24 := hz.2.1
  have h8 := (hz.2.2.1 l hl).2
  unfold mPlace
  rw [nI_clamp (by omega), nI_clamp (by omega)]
  exact ⟨fun q => q.2, fun q => ⟨(mCell_iff (by omega) (by omega)).mpr ⟨hl, hc⟩, q⟩⟩
theorem P_type (hJ : JJ n f hh F S z A X) (x y k cd : Int32) : PR tyI g zL_type zX10_type [.int x, .int y, .int k, .int cd] n f hh := by
  obtain ⟨pf, now, p, Z, sz, hS⟩ := ST.ex hJ.2.1
  have hAB := hJ.2.2.1
  have hur := hS.ur
  have h24 := hS.tk.ok.2.1
  by_cases hC : mCell z x y
  · obtain ⟨l, c, hl, hc, rfl, rfl⟩ := cell_ex hS.tk.ok hC
    have h8 := (hS.tk.ok.2.2.1 l hl).2
    have h16 := hS.tk.ok.2.2.2 l c hl hc
    have hpl := place_nI (k := k) hS.tk.ok hl hc
    by_cases hk : zin k (z (25 + 8 * l + c) + 1)
    · have hP := hpl.mpr hk
      obtain ⟨q, hq, rfl⟩ := zin_ex hk (by omega)
      by_cases hcd : mCode cd
      · by_cases hr : cRoom z l c cd
        · have ht := typ_0 hP hcd ((cRoom_iff (by omega) (by omega)).mpr hr)
          obtain ⟨v, rfl, v1, v2⟩ := code_ex hcd
          have d1 : nI 9 ≠ nI 10 := by decide
          rcases v2 with rfl | rfl | v2
          · have h9 : z (1 + l) < 8 := by
              rcases hr with r | r | r
              · exact absurd r.1 d1
              · exact r.2.2
              · exact absurd rfl r.2.1
            exact PR_ok hJ wfI W_type (by omega) (by omega) (q_type_t hS hl hc (by omega) hcd hr h9) (fun h => m_type_t hS.tk.ok (by omega) (by omega) h9 hc (by omega) h16 ht) rfl ⟨rfl, rfl, rfl, rfl, rfl, rfl⟩ ⟨rfl, rfl, rfl, rfl⟩ (hAB.sv hS.tk.bd)
          · have h9 : z 0 < 24 := by
              rcases hr with r | r | r
              · exact r.2
              · exact absurd rfl r.1
              · exact absurd rfl r.1
            exact PR_ok hJ wfI W_type (by omega) (by omega) (q_type_e hS hl hc (by omega) hcd hr h9) (fun h => m_type_e hS.tk.ok (by omega) hl h9 h8 hc (by omega) h16 ht) rfl ⟨rfl, rfl, rfl, rfl, rfl, rfl⟩ ⟨rfl, rfl, rfl, rfl⟩ (hAB.sv hS.tk.bd)
          · have h15 : z (25 + 8 * l + c) < 16 := by
              rcases hr with r | r | r
              · exact absurd r.1 (nI_ne (by omega) (by omega) (by omega))
              · exact absurd r.2.1 (nI_ne (by omega) (by omega) (by omega))
              · exact r.2.2
            exact PR_ok hJ wfI W_type (by omega) (by omega) (q_type_s hS hl hc (by omega) hcd hr h15 v2.1 v1) (fun h => m_type_s hS.tk.ok (by omega) (by omega) (by omega) (by omega) h15 v2.2.1 v2.2.2 v1 ht) rfl ⟨rfl, rfl, rfl, rfl, rfl, rfl⟩ ⟨rfl, rfl, rfl, rfl⟩ (hAB.sv hS.tk.bd)
        · have ht := typ_3 hP hcd (fun q => hr ((cRoom_iff (by omega) (by omega)).mp q))
          exact PR_th (i := 2) (b := nI 0) hJ W_type rfl (by omega) (q_type_4 hS hl hc (by omega) hcd hr) (fun h => m_type_1 hS.tk.ok _ _ _ cd (by rw [ht]; omega)) ht ⟨rfl, rfl, rfl, rfl, rfl, rfl⟩ ⟨rfl, rfl, rfl, rfl⟩ hAB
      · have ht := typ_2 hP hcd
        exact PR_th (i := 1) (b := nI 0) hJ W_type rfl (by omega) (q_type_3 hS hl hc (by omega) hcd) (fun h => m_type_1 hS.tk.ok _ _ _ cd (by rw [ht]; omega)) ht ⟨rfl, rfl, rfl, rfl, rfl, rfl⟩ ⟨rfl, rfl, rfl, rfl⟩ hAB
    · have ht := typ_1 (cd := cd) (fun q => hk (hpl.mp q))
      exact PR_th (i := 0) (b := nI 0) hJ W_type rfl (by omega) (q_type_2 hS hl hc hk) (fun h => m_type_1 hS.tk.ok _ _ k cd (by rw [ht]; omega)) ht ⟨rfl, rfl, rfl, rfl, rfl, rfl⟩ ⟨rfl, rfl, rfl, rfl⟩ hAB
  · have ht := typ_1 (cd := cd) (k := k) (fun q => hC q.1)
    exact PR_th (i := 0) (b := nI 0) hJ W_type rfl (by omega) (q_type_1 hS hC) (fun h => m_type_1 hS.tk.ok x y k cd (by rw [ht]; omega)) ht ⟨rfl, rfl, rfl, rfl, rfl, rfl⟩ ⟨rfl, rfl, rfl, rfl⟩ hAB
theorem era_of (hl : l < z 0) (hc : c < z (1 + l)) (hq : q ≤ z (25 + 8 * l + c)) (h : mmay z l c (mbeh z l c q)) : cEra z l c q := by
  unfold mbeh at h
  by_cases h1 : q < z (25 + 8 * l + c)
  · exact Or.inl h1
  · rw [if_neg h1] at h
    by_cases h2 : c + 1 < z (1 + l)
    · rw [if_pos h2] at h
      rcases h with r | r | r
      · exact Or.inr (Or.inl ⟨h1, ⟨hl, h2⟩, r.2⟩)
      · exact absurd rfl r.1
      · exact absurd rfl r.1
    · rw [if_neg h2] at h
      by_cases h3 : l + 1 < z 0
      · rw [if_pos h3] at h
        rcases h with r | r | r
        · exact absurd r.1 (by decide)
        · exact Or.inr (Or.inr ⟨h1, fun q => h2 q.2, h3, r.2.2.1, r.2.2.2⟩)
        · exact absurd rfl r.2.1
      · rw [if_neg h3] at h
        rcases h with r | r | r
        · exact absurd r.1 (by decide)
        · exact absurd r.2.1 (by decide)
        · exact absurd rfl r.2.2
theorem P_erase (hJ : JJ n f hh F S z A X) (x y k : Int32) : PR tyI g zL_erase zX10_erase [.int x, .int y, .int k] n f hh := by
  obtain ⟨pf, now, p, Z, sz, hS⟩ := ST.ex hJ.2.1
  have hAB := hJ.2.2.1
  have hur := hS.ur
  have h24 := hS.tk.ok.2.1
  by_cases hC : mCell z x y
  · obtain ⟨l, c, hl, hc, rfl, rfl⟩ := cell_ex hS.tk.ok hC
    have h8 := (hS.tk.ok.2.2.1 l hl).2
    have h16 := hS.tk.ok.2.2.2 l c hl hc
    have hpl := place_nI (k := k) hS.tk.ok hl hc
    by_cases hk : zin k (z (25 + 8 * l + c) + 1)
    · obtain ⟨q, hq, rfl⟩ := zin_ex hk (by omega)
      by_cases he : cEra z l c q
      · have he0 := he
        rcases he0 with r | r | r
        · have s32 := hS.tk.sg l c q hl hc r
          exact PR_ok hJ wfI W_erase (by omega) (by omega) (q_erase_s hS hl hc (by omega) he r) (fun h => m_erase_s hS.tk.ok hl hc (by omega) (by omega) r rfl (by omega) (by omega) (hS.tk.bd _)) rfl ⟨rfl, rfl, rfl, rfl, rfl, rfl⟩ ⟨rfl, rfl, rfl, rfl⟩ (hAB.sv hS.tk.bd)
        · exact PR_ok hJ wfI W_erase (by omega) (by omega) (q_erase_t hS hl hc (by omega) he (by omega) r.2.1.2 r.2.2) (fun h => m_erase_t hS.tk.ok hl hc (by omega) (by omega) (by omega) r.2.1.2 r.2.2) rfl ⟨rfl, rfl, rfl, rfl, rfl, rfl⟩ ⟨rfl, rfl, rfl, rfl⟩ (hAB.sv hS.tk.bd)
        · have hc1 : c + 1 = z (1 + l) := by
            have : ¬ c + 1 < z (1 + l) := fun q => r.2.1 ⟨hl, q⟩
            omega
          have h9 : z (1 + l) + z (1 + (l + 1)) ≤ 9 := by have := r.2.2.2.2; omega
          exact PR_ok hJ wfI W_erase (by omega) (by omega) (q_erase_e hS hl hc (by omega) he (by omega) hc1 r.2.2.1 r.2.2.2.1 h9) (fun h => m_erase_e hS.tk.ok hl hc (by omega) (by omega) (by omega) hc1 r.2.2.1 r.2.2.2.1 h9) rfl ⟨rfl, rfl, rfl, rfl, rfl, rfl⟩ ⟨rfl, rfl, rfl, rfl⟩ (hAB.sv hS.tk.bd)
      · exact PR_th (i := 1) (b := nI 0) hJ W_erase rfl (by omega) (q_erase_3 hS hl hc (by omega) he) (fun h => m_erase_2 hS.tk.ok hl hc (by omega) (fun r => by have s32 := hS.tk.sg l c q hl hc r; have := hS.tk.bd (217 + 16 * (8 * l + c) + q); omega) (fun m => he (era_of hl hc (by omega) m))) rfl ⟨rfl, rfl, rfl, rfl, rfl, rfl⟩ ⟨rfl, rfl, rfl, rfl⟩ hAB
    · exact PR_th (i := 0) (b := nI 0) hJ W_erase rfl (by omega) (q_erase_2 hS hl hc hk) (fun h => m_erase_1 hS.tk.ok _ _ k (fun q => hk (hpl.mp q))) rfl ⟨rfl, rfl, rfl, rfl, rfl, rfl⟩ ⟨rfl, rfl, rfl, rfl⟩ hAB
  · exact PR_th (i := 0) (b := nI 0) hJ W_erase rfl (by omega) (q_erase_1 hS hC) (fun h => m_erase_1 hS.tk.ok x y k (fun q => hC q.1)) rfl ⟨rfl, rfl, rfl, rfl, rfl, rfl⟩ ⟨rfl, rfl, rfl, rfl⟩ hAB
/-- a call without a wrapper -/
def PQ (g : zG) (C M : zI) (n : Nat) (f : Nat → Int32) (hh : zH) : Prop := ∃ (v : Value) (h1 h2 : zH), Zx g C [.ref 1] hh (some v) h1 ∧ Zx g M [.ref 50] h1 (some v) h2 ∧ Jk n f 0 h2 ∧ h1.1 50 = hh.1 50
theorem P_clearInput (hJ : JJ n f hh F S z A X) : ∃ (v : Int32) (h1 h2 : zH), Zx g zX9_clearInput [.ref 1] hh (some (.int v)) h1 ∧ Zx g zX10_clearInput [.ref 50] h1 (some (.int v)) h2 ∧ Jk n f 0 h2 ∧ ∃ fs, h1.1 50 = some (.inr (9, fs)) := by
  obtain ⟨pf, now, p, Z, sz, hS⟩ := ST.ex hJ.2.1
  obtain ⟨j1, j2, j3, j4, ⟨u6, j5⟩, ⟨u7, j6⟩⟩ := hJ
  have fr : FRm hh (pgs hh 4 120 2 3 (A 5) 0) := input_fr
  have e1 : pgs hh 4 120 2 3 (A 5) 0 = mhp (pgs hh 4 120 2 3 (A 5) 0) F S z A X := mhp_eq j1 (fun i a b => fr.2 i (by omega))
  have hi : INV (pgs hh 4 120 2 3 (A 5) 0) (va_up F 11 0) z (va_up A 5 (A 5)) := ⟨pf, now, p, hS.1.1.input (by omega) hS.ib, hS.L.input⟩
  refine ⟨_, _, _, q_clear hS, ?_, ⟨va_up (va_up F 0 0) 11 0, S, z, A, X, ⟨mhp_id, (hi.rf (RF.ref hi.wf)).cg ⟨rfl, rfl, rfl, rfl, rfl, rfl⟩ ⟨rfl, rfl, rfl, rfl⟩, j3, ?_, ⟨u6, ?_⟩, ⟨u7, ?_⟩⟩, rfl⟩, ⟨mfl F S, ?_⟩⟩
  · have := m_clearInput (g := g) (h := pgs hh 4 120 2 3 (A 5) 0) (F := F) (S := S) (z := z) (A := A) (X := X)
    rw [← e1] at this
    exact this
  · rw [mhp_out (by omega), fr.2 0 (by omega)]
    exact j4
  · rw [mhp_out (by omega), fr.2 66 (by omega)]
    exact j5
  · rw [mhp_out (by omega), fr.2 67 (by omega)]
    exact j6
  · rw [e1]
    rfl
theorem P_digest (hJ : JJ n f hh F S z A X) : ∃ (v : Int64) (h2 : zH), Zx g zX9_digest [.ref 1] hh (some (.long v)) hh ∧ Zx g zX10_digest [.ref 50] hh (some (.long v)) h2 ∧ Jk n f 0 h2 ∧ ∃ fs, hh.1 50 = some (.inr (9, fs)) := by
  obtain ⟨pf, now, p, Z, sz, hS⟩ := ST.ex hJ.2.1
  obtain ⟨j1, j2, j3, j4, ⟨u6, j5⟩, ⟨u7, j6⟩⟩ := hJ
  obtain ⟨-, -, o8, o9, o10, o11, o4⟩ := hS.fo
  have hv := (pR_ok (F := F) (A := A) hS.tk.ok o4 o11 o9 o8).cov
  have hR : RSm (nbb z) (pRR F z A) (mL (va_up F 0 0) z A (bAll z 7)) := RSm_of (F := F) rfl rfl rfl
  have hc := q_digest (g := g) hS
  have e5 : mL (va_up F 0 0) z A (bAll z 7) 5 = A 5 := mL_lo _ (by omega)
  have e4 : mL (va_up F 0 0) z A (bAll z 7) 4 = A 4 := mL_lo _ (by omega)
  have ed : hD (va_up (va_up F 0 0) 13 (bAll z 7).length) (mL (va_up F 0 0) z A (bAll z 7)) z = hF (fun k => lI (A 5 k)) (F 11) (hx (hBs (pRR F z A) z (nbb z) (hLs (FF F z) (pRR F z A) z (z 0) (hx (hx (hx (hF (fun k => lI (A 4 k)) 7 (hF (fun k => lI (mCn (FF F z) (pRR F z A) z k)) 9 (lN 1949))) (lI (F 8))) (lI (F 9))) (lI (F 10))))) (lI (F 11))) := by
    unfold hD
    rw [e5, e4]
    have i1 : hF (fun k => lI (mCn (FF F z) (pRR F z A) z k)) 9 (lN 1949) = hF (fun k => lI (mCn (va_up (va_up F 0 0) 13 (bAll z 7).length) (mL (va_up F 0 0) z A (bAll z 7)) z k)) 9 (lN 1949) := hF_cg rfl (fun k _ => by rw [mCn_cg (F := FF F z) (F' := va_up (va_up F 0 0) 13 (bAll z 7).length) hv hR rfl rfl rfl rfl k])
    rw [i1]
    have i2 := hLs_cg (F := FF F z) (F' := va_up (va_up F 0 0) 13 (bAll z 7).length) (s := hx (hx (hx (hF (fun k => lI (A 4 k)) 7 (hF (fun k => lI (mCn (va_up (va_up F 0 0) 13 (bAll z 7).length) (mL (va_up F 0 0) z A (bAll z 7)) z k)) 9 (lN 1949))) (lI (F 8))) (lI (F 9))) (lI (F 10))) hv hR rfl rfl rfl rfl (Nat.le_refl (z 0))
    rw [i2]
    rw [hBs_cg hR rfl (Nat.le_refl _)]
    rfl
  rw [← ed] at hc
  refine ⟨_, _, hc, ?_, ⟨va_up (va_up F 0 0) 13 (bAll z 7).length, hD (va_up (va_up F 0 0) 13 (bAll z 7).length) (mL (va_up F 0 0) z A (bAll z 7)) z, z, mL (va_up F 0 0) z A (bAll z 7), X, ⟨mhp_id, (j2.rf (RF.ref j2.wf)).cg ⟨rfl, rfl, rfl, rfl, rfl, rfl⟩ ⟨mL_lo _ (by omega), mL_lo _ (by omega), mL_lo _ (by omega), mL_lo _ (by omega)⟩, mL_b (F := va_up F 0 0) hS.tk.ok o4 o11 o9 o8 j3, ?_, ⟨u6, ?_⟩, ⟨u7, ?_⟩⟩, rfl⟩, ⟨mfl F S, ?_⟩⟩
  · have := m_digest (g := g) (h := hh) (F := F) (S := S) (z := z) (A := A) (X := X) hS.tk.ok hS.tk.bd o4 o10 o11 o9 o8 j3 hS.im
    rw [← j1] at this
    exact this
  · rw [mhp_out (by omega)]
    exact j4
  · rw [mhp_out (by omega)]
    exact j5
  · rw [mhp_out (by omega)]
    exact j6
  · rw [j1]
    rfl
end w7
