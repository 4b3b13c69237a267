section wa
variable {g : zG} {hh : zH} {F z : Nat → Nat} {S : Int64} {A : Nat → Nat → Nat} {X : Nat → Int32} {n : Nat} {f : Nat → Int32}
theorem P_ifTyped (hJ : JJ n f hh F S z A X) (x y k cd : Int32) : PR tyI g zL_ifTyped zX10_ifTyped [.int x, .int y, .int k, .int cd] n f hh := by
  obtain ⟨pf, now, p, Z, sz, hS⟩ := ST.ex hJ.2.1
  have hAB := hJ.2.2.1
  obtain ⟨-, -, o8, o9, o10, o11, o4⟩ := hS.fo
  have h24 := hS.tk.ok.2.1
  by_cases hC : mCell z x y
  · obtain ⟨l, c, hl, hc, rfl, rfl⟩ := cell_ex hS.tk.ok hC
    have h8 := (hS.tk.ok.2.2.1 l hl).2
    have h16 := hS.tk.ok.2.2.2 l c hl hc
    have hpl := place_nI (k := k) hS.tk.ok hl hc
    by_cases hk : zin k (z (25 + 8 * l + c) + 1)
    · have hP := hpl.mpr hk
      obtain ⟨q, hq, rfl⟩ := zin_ex hk (by omega)
      by_cases hcd : mCode cd
      · by_cases hr : cRoom z l c cd
        · have ht := typ_0 hP hcd ((cRoom_iff (by omega) (by omega)).mpr hr)
          obtain ⟨v, rfl, v1, v2⟩ := code_ex hcd
          have d1 : nI 9 ≠ nI 10 := by decide
          rcases v2 with rfl | rfl | v2
          · have h9 : z (1 + l) < 8 := by
              rcases hr with r | r | r
              · exact absurd r.1 d1
              · exact r.2.2
              · exact absurd rfl r.2.1
            have hT := (ptb_T (q := q) hS.tk hl hc (by omega) h9).1
            exact P_ift hJ hT (fun j hj => ptb_hi hS.tk hl hc h9 hj) W_ifTyped (q_ift_t hS hl hc (by omega) hcd hr h9) (fun h => m_ifTyped_t hS.tk.ok hS.tk.bd o4 o10 o11 o9 o8 hAB (by omega) h9 hc (by omega) h16 hT.ok hT.bd ht)
          · have h9 : z 0 < 24 := by
              rcases hr with r | r | r
              · exact r.2
              · exact absurd rfl r.1
              · exact absurd rfl r.1
            have hT := (pen_T (q := q) hS.tk hl hc (by omega) h9).1
            exact P_ift hJ hT (fun j hj => pen_hi hS.tk hl hc h9 hj) W_ifTyped (q_ift_e hS hl hc (by omega) hcd hr h9) (fun h => m_ifTyped_e hS.tk.ok hS.tk.bd o4 o10 o11 o9 o8 hAB hl h9 h8 hc (by omega) h16 hT.ok hT.bd ht)
          · have h15 : z (25 + 8 * l + c) < 16 := by
              rcases hr with r | r | r
              · exact absurd r.1 (nI_ne (by omega) (by omega) (by omega))
              · exact absurd r.2.1 (nI_ne (by omega) (by omega) (by omega))
              · exact r.2.2
            have hT := (psg_T (q := q) (v := v) hS.tk hl hc (by omega) h15 v2.1 v1).1
            exact P_ift hJ hT (fun j hj => psg_hi (by omega) (by omega) h15 (by omega) hj) W_ifTyped (q_ift_s hS hl hc (by omega) hcd hr h15 v2.1 v1) (fun h => m_ifTyped_s hS.tk.ok hS.tk.bd o4 o10 o11 o9 o8 hAB (by omega) (by omega) (by omega) h15 v2.2.1 v2.2.2 v1 hT.ok hT.bd ht)
        · have ht := typ_3 hP hcd (fun q => hr ((cRoom_iff (by omega) (by omega)).mp q))
          exact PR_th (i := 2) (b := nI 0) hJ W_ifTyped rfl (by omega) (q_ift_4 hS hl hc (by omega) hcd hr) (fun h => m_ifTyped_1 hS.tk.ok _ _ _ cd (by rw [ht]; omega)) ht ⟨rfl, rfl, rfl, rfl, rfl, rfl⟩ ⟨rfl, rfl, rfl, rfl⟩ hAB
      · have ht := typ_2 hP hcd
        exact PR_th (i := 1) (b := nI 0) hJ W_ifTyped rfl (by omega) (q_ift_3 hS hl hc (by omega) hcd) (fun h => m_ifTyped_1 hS.tk.ok _ _ _ cd (by rw [ht]; omega)) ht ⟨rfl, rfl, rfl, rfl, rfl, rfl⟩ ⟨rfl, rfl, rfl, rfl⟩ hAB
    · have ht := typ_1 (cd := cd) (fun q => hk (hpl.mp q))
      exact PR_th (i := 0) (b := nI 0) hJ W_ifTyped rfl (by omega) (q_ift_2 hS hl hc hk) (fun h => m_ifTyped_1 hS.tk.ok _ _ k cd (by rw [ht]; omega)) ht ⟨rfl, rfl, rfl, rfl, rfl, rfl⟩ ⟨rfl, rfl, rfl, rfl⟩ hAB
  · have ht := typ_1 (cd := cd) (k := k) (fun q => hC q.1)
    exact PR_th (i := 0) (b := nI 0) hJ W_ifTyped rfl (by omega) (q_ift_1 hS hC) (fun h => m_ifTyped_1 hS.tk.ok x y k cd (by rw [ht]; omega)) ht ⟨rfl, rfl, rfl, rfl, rfl, rfl⟩ ⟨rfl, rfl, rfl, rfl⟩ hAB
end wa
