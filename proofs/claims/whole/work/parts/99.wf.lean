section wf
theorem zq_of {I : zI} {l : List zRow} (hd : l.all (fun q => decide (decode (zBy I) q.1 = .ok (q.2.1, q.2.2.1))) = true) (hl : ∀ q ∈ l.filter (fun q => zisl q.2.1), zLk I q.1 q.2.1 q.2.2.2.1 q.2.2.2.2) : ∀ q ∈ l, decode (zBy I) q.1 = .ok (q.2.1, q.2.2.1) ∧ zLk I q.1 q.2.1 q.2.2.2.1 q.2.2.2.2 := by
  intro q hm
  refine ⟨of_decide_eq_true (List.all_eq_true.mp hd _ hm), ?_⟩
  cases hz : zisl q.2.1 with
  | false => exact zLk_not hz
  | true => exact hl _ (List.mem_filter.mpr ⟨hm, hz⟩)
theorem zq_ap {P : zRow → Prop} {a b : List zRow} (h1 : ∀ q ∈ a, P q) (h2 : ∀ q ∈ b, P q) : ∀ q ∈ a ++ b, P q := fun q hq => (List.mem_append.mp hq).elim (h1 q) (h2 q)
theorem zok_all {I : zI} (h : ∀ q ∈ zTb I, decode (zBy I) q.1 = .ok (q.2.1, q.2.2.1) ∧ zLk I q.1 q.2.1 q.2.2.2.1 q.2.2.2.2) : zOK I := by
  intro pc ins len a b hf
  have hm := zlook_mem _ _ _ hf
  have r := h _ hm
  exact r
set_option maxRecDepth 100000 in
theorem zq_0 : ∀ q ∈ zL_law_t0, decode (zBy zL_law) q.1 = .ok (q.2.1, q.2.2.1) ∧ zLk zL_law q.1 q.2.1 q.2.2.2.1 q.2.2.2.2 := zq_of (by decide +kernel) (zls_c znw_RL_8 (zls_c zc_RL_110_s (zls_c znw_RL_111 (zls_c zc_RL_113_s (zls_c zc_RL_114_s zls_n)))))
set_option maxRecDepth 100000 in
theorem zq_1 : ∀ q ∈ zL_law_t1, decode (zBy zL_law) q.1 = .ok (q.2.1, q.2.2.1) ∧ zLk zL_law q.1 q.2.1 q.2.2.2.1 q.2.2.2.2 := zq_of (by decide +kernel) (zls_c zc_RL_119_v (zls_c zc_RL_120_v (zls_c zc_RL_123_v (zls_c zc_RL_126_v (zls_c zc_RL_127_s zls_n)))))
set_option maxRecDepth 100000 in
theorem zq_2 : ∀ q ∈ zL_law_t2, decode (zBy zL_law) q.1 = .ok (q.2.1, q.2.2.1) ∧ zLk zL_law q.1 q.2.1 q.2.2.2.1 q.2.2.2.2 := zq_of (by decide +kernel) (zls_c zc_RL_129_v (zls_c zc_RL_120_v (zls_c zc_RL_130_s (zls_c zc_RL_133_v (zls_c zc_RL_120_v zls_n)))))
set_option maxRecDepth 100000 in
theorem zq_3 : ∀ q ∈ zL_law_t3, decode (zBy zL_law) q.1 = .ok (q.2.1, q.2.2.1) ∧ zLk zL_law q.1 q.2.1 q.2.2.2.1 q.2.2.2.2 := zq_of (by decide +kernel) (zls_c zc_RL_134_s zls_n)
set_option maxRecDepth 100000 in
theorem zq_4 : ∀ q ∈ zL_law_t4, decode (zBy zL_law) q.1 = .ok (q.2.1, q.2.2.1) ∧ zLk zL_law q.1 q.2.1 q.2.2.2.1 q.2.2.2.2 := zq_of (by decide +kernel) (zls_c zc_RL_137_v (zls_c zc_RL_120_v zls_n))
set_option maxRecDepth 100000 in
theorem zq_5 : ∀ q ∈ zL_law_t5, decode (zBy zL_law) q.1 = .ok (q.2.1, q.2.2.1) ∧ zLk zL_law q.1 q.2.1 q.2.2.2.1 q.2.2.2.2 := zq_of (by decide +kernel) (zls_c zc_RL_138_s (zls_c zc_RL_141_v (zls_c zc_RL_120_v zls_n)))
set_option maxRecDepth 100000 in
theorem zq_6 : ∀ q ∈ zL_law_t6, decode (zBy zL_law) q.1 = .ok (q.2.1, q.2.2.1) ∧ zLk zL_law q.1 q.2.1 q.2.2.2.1 q.2.2.2.2 := zq_of (by decide +kernel) (zls_c zc_RL_142_s (zls_c zc_RL_145_v (zls_c zc_RL_120_v zls_n)))
set_option maxRecDepth 100000 in
theorem zq_7 : ∀ q ∈ zL_law_t7, decode (zBy zL_law) q.1 = .ok (q.2.1, q.2.2.1) ∧ zLk zL_law q.1 q.2.1 q.2.2.2.1 q.2.2.2.2 := zq_of (by decide +kernel) (zls_c zc_RL_146_s (zls_c zc_RL_148_v (zls_c zc_RL_120_v zls_n)))
set_option maxRecDepth 100000 in
theorem zq_8 : ∀ q ∈ zL_law_t8, decode (zBy zL_law) q.1 = .ok (q.2.1, q.2.2.1) ∧ zLk zL_law q.1 q.2.1 q.2.2.2.1 q.2.2.2.2 := zq_of (by decide +kernel) (zls_c zc_RL_149_s (zls_c zc_RL_151_v (zls_c zc_RL_120_v zls_n)))
set_option maxRecDepth 100000 in
theorem zq_9 : ∀ q ∈ zL_law_t9, decode (zBy zL_law) q.1 = .ok (q.2.1, q.2.2.1) ∧ zLk zL_law q.1 q.2.1 q.2.2.2.1 q.2.2.2.2 := zq_of (by decide +kernel) (zls_c zc_RL_152_s (zls_c zc_RL_154_v (zls_c zc_RL_120_v zls_n)))
set_option maxRecDepth 100000 in
theorem zq_10 : ∀ q ∈ zL_law_t10, decode (zBy zL_law) q.1 = .ok (q.2.1, q.2.2.1) ∧ zLk zL_law q.1 q.2.1 q.2.2.2.1 q.2.2.2.2 := zq_of (by decide +kernel) (zls_c zc_RL_155_s zls_n)
set_option maxRecDepth 100000 in
theorem zq_11 : ∀ q ∈ zL_law_t11, decode (zBy zL_law) q.1 = .ok (q.2.1, q.2.2.1) ∧ zLk zL_law q.1 q.2.1 q.2.2.2.1 q.2.2.2.2 := zq_of (by decide +kernel) (zls_c zc_RL_158_v (zls_c zc_RL_120_v zls_n))
set_option maxRecDepth 100000 in
theorem zq_12 : ∀ q ∈ zL_law_t12, decode (zBy zL_law) q.1 = .ok (q.2.1, q.2.2.1) ∧ zLk zL_law q.1 q.2.1 q.2.2.2.1 q.2.2.2.2 := zq_of (by decide +kernel) (zls_c zc_RL_159_s (zls_c zc_RL_161_v (zls_c zc_RL_120_v (zls_c zc_RL_162_s zls_n))))
set_option maxRecDepth 100000 in
theorem zq_13 : ∀ q ∈ zL_law_t13, decode (zBy zL_law) q.1 = .ok (q.2.1, q.2.2.1) ∧ zLk zL_law q.1 q.2.1 q.2.2.2.1 q.2.2.2.2 := zq_of (by decide +kernel) (zls_c zc_RL_164_v (zls_c zc_RL_120_v (zls_c zc_RL_165_s zls_n)))
set_option maxRecDepth 100000 in
theorem zq_14 : ∀ q ∈ zL_law_t14, decode (zBy zL_law) q.1 = .ok (q.2.1, q.2.2.1) ∧ zLk zL_law q.1 q.2.1 q.2.2.2.1 q.2.2.2.2 := zq_of (by decide +kernel) (zls_c zc_RL_167_v (zls_c zc_RL_120_v (zls_c zc_RL_168_s (zls_c zc_RL_170_v (zls_c zc_RL_120_v zls_n)))))
set_option maxRecDepth 100000 in
theorem zq_15 : ∀ q ∈ zL_law_t15, decode (zBy zL_law) q.1 = .ok (q.2.1, q.2.2.1) ∧ zLk zL_law q.1 q.2.1 q.2.2.2.1 q.2.2.2.2 := zq_of (by decide +kernel) (zls_c zc_RL_171_s (zls_c zc_RL_173_v (zls_c zc_RL_120_v zls_n)))
set_option maxRecDepth 100000 in
theorem zq_16 : ∀ q ∈ zL_law_t16, decode (zBy zL_law) q.1 = .ok (q.2.1, q.2.2.1) ∧ zLk zL_law q.1 q.2.1 q.2.2.2.1 q.2.2.2.2 := zq_of (by decide +kernel) (zls_c zc_RL_174_s (zls_c zc_RL_176_v (zls_c zc_RL_120_v zls_n)))
set_option maxRecDepth 100000 in
theorem zq_17 : ∀ q ∈ zL_law_t17, decode (zBy zL_law) q.1 = .ok (q.2.1, q.2.2.1) ∧ zLk zL_law q.1 q.2.1 q.2.2.2.1 q.2.2.2.2 := zq_of (by decide +kernel) (zls_c zc_RL_177_s (zls_c zc_RL_179_v (zls_c zc_RL_120_v zls_n)))
set_option maxRecDepth 100000 in
theorem zq_18 : ∀ q ∈ zL_law_t18, decode (zBy zL_law) q.1 = .ok (q.2.1, q.2.2.1) ∧ zLk zL_law q.1 q.2.1 q.2.2.2.1 q.2.2.2.2 := zq_of (by decide +kernel) (zls_c zc_RL_180_s (zls_c zc_RL_182_v (zls_c zc_RL_120_v zls_n)))
set_option maxRecDepth 100000 in
theorem zq_19 : ∀ q ∈ zL_law_t19, decode (zBy zL_law) q.1 = .ok (q.2.1, q.2.2.1) ∧ zLk zL_law q.1 q.2.1 q.2.2.2.1 q.2.2.2.2 := zq_of (by decide +kernel) (zls_c zc_RL_183_s (zls_c zc_RL_185_v (zls_c zc_RL_120_v zls_n)))
set_option maxRecDepth 100000 in
theorem zq_20 : ∀ q ∈ zL_law_t20, decode (zBy zL_law) q.1 = .ok (q.2.1, q.2.2.1) ∧ zLk zL_law q.1 q.2.1 q.2.2.2.1 q.2.2.2.2 := zq_of (by decide +kernel) (zls_c zc_RL_186_s zls_n)
set_option maxRecDepth 100000 in
theorem zq_21 : ∀ q ∈ zL_law_t21, decode (zBy zL_law) q.1 = .ok (q.2.1, q.2.2.1) ∧ zLk zL_law q.1 q.2.1 q.2.2.2.1 q.2.2.2.2 := zq_of (by decide +kernel) (zls_c zc_RL_188_v (zls_c zc_RL_120_v zls_n))
set_option maxRecDepth 100000 in
theorem zq_22 : ∀ q ∈ zL_law_t22, decode (zBy zL_law) q.1 = .ok (q.2.1, q.2.2.1) ∧ zLk zL_law q.1 q.2.1 q.2.2.2.1 q.2.2.2.2 := zq_of (by decide +kernel) (zls_c zc_RL_189_s (zls_c zc_RL_191_v (zls_c zc_RL_120_v zls_n)))
set_option maxRecDepth 100000 in
theorem zq_23 : ∀ q ∈ zL_law_t23, decode (zBy zL_law) q.1 = .ok (q.2.1, q.2.2.1) ∧ zLk zL_law q.1 q.2.1 q.2.2.2.1 q.2.2.2.2 := zq_of (by decide +kernel) (zls_c zc_RL_192_s (zls_c zc_RL_194_v (zls_c zc_RL_120_v zls_n)))
set_option maxRecDepth 100000 in
theorem zq_24 : ∀ q ∈ zL_law_t24, decode (zBy zL_law) q.1 = .ok (q.2.1, q.2.2.1) ∧ zLk zL_law q.1 q.2.1 q.2.2.2.1 q.2.2.2.2 := zq_of (by decide +kernel) (zls_c zc_RL_195_s (zls_c zc_RL_197_v (zls_c zc_RL_120_v zls_n)))
set_option maxRecDepth 100000 in
theorem zq_25 : ∀ q ∈ zL_law_t25, decode (zBy zL_law) q.1 = .ok (q.2.1, q.2.2.1) ∧ zLk zL_law q.1 q.2.1 q.2.2.2.1 q.2.2.2.2 := zq_of (by decide +kernel) (zls_c zc_RL_198_s (zls_c zc_RL_200_v (zls_c zc_RL_120_v zls_n)))
set_option maxRecDepth 100000 in
theorem zq_26 : ∀ q ∈ zL_law_t26, decode (zBy zL_law) q.1 = .ok (q.2.1, q.2.2.1) ∧ zLk zL_law q.1 q.2.1 q.2.2.2.1 q.2.2.2.2 := zq_of (by decide +kernel) (zls_c zc_RL_201_s (zls_c zc_RL_203_v zls_n))
set_option maxRecDepth 100000 in
theorem zq_27 : ∀ q ∈ zL_law_t27, decode (zBy zL_law) q.1 = .ok (q.2.1, q.2.2.1) ∧ zLk zL_law q.1 q.2.1 q.2.2.2.1 q.2.2.2.2 := zq_of (by decide +kernel) (zls_c zc_RL_120_v (zls_c zc_RL_204_s (zls_c zc_RL_206_v (zls_c zc_RL_120_v zls_n))))
set_option maxRecDepth 100000 in
theorem zq_28 : ∀ q ∈ zL_law_t28, decode (zBy zL_law) q.1 = .ok (q.2.1, q.2.2.1) ∧ zLk zL_law q.1 q.2.1 q.2.2.2.1 q.2.2.2.2 := zq_of (by decide +kernel) (zls_c zc_RL_207_s (zls_c zc_RL_210_v (zls_c zc_RL_120_v zls_n)))
set_option maxRecDepth 100000 in
theorem zq_29 : ∀ q ∈ zL_law_t29, decode (zBy zL_law) q.1 = .ok (q.2.1, q.2.2.1) ∧ zLk zL_law q.1 q.2.1 q.2.2.2.1 q.2.2.2.2 := zq_of (by decide +kernel) (zls_c zc_RL_211_s (zls_c zc_RL_213_v (zls_c zc_RL_120_v zls_n)))
set_option maxRecDepth 100000 in
theorem zq_30 : ∀ q ∈ zL_law_t30, decode (zBy zL_law) q.1 = .ok (q.2.1, q.2.2.1) ∧ zLk zL_law q.1 q.2.1 q.2.2.2.1 q.2.2.2.2 := zq_of (by decide +kernel) (zls_c zc_RL_214_s zls_n)
set_option maxRecDepth 100000 in
theorem zq_31 : ∀ q ∈ zL_law_t31, decode (zBy zL_law) q.1 = .ok (q.2.1, q.2.2.1) ∧ zLk zL_law q.1 q.2.1 q.2.2.2.1 q.2.2.2.2 := zq_of (by decide +kernel) (zls_c zc_RL_216_v (zls_c zc_RL_120_v (zls_c zc_RL_217_v zls_n)))
set_option maxRecDepth 100000 in
theorem zq_32 : ∀ q ∈ zL_law_t32, decode (zBy zL_law) q.1 = .ok (q.2.1, q.2.2.1) ∧ zLk zL_law q.1 q.2.1 q.2.2.2.1 q.2.2.2.2 := zq_of (by decide +kernel) (zls_c zc_RL_221_v zls_n)
theorem zok_L_law : zOK zL_law := zok_all (zq_ap (zq_ap (zq_ap (zq_ap (zq_ap (zq_ap (zq_ap (zq_ap (zq_ap (zq_ap (zq_ap (zq_ap (zq_ap (zq_ap (zq_ap (zq_ap (zq_ap (zq_ap (zq_ap (zq_ap (zq_ap (zq_ap (zq_ap (zq_ap (zq_ap (zq_ap (zq_ap (zq_ap (zq_ap (zq_ap (zq_ap (zq_ap zq_0 zq_1) zq_2) zq_3) zq_4) zq_5) zq_6) zq_7) zq_8) zq_9) zq_10) zq_11) zq_12) zq_13) zq_14) zq_15) zq_16) zq_17) zq_18) zq_19) zq_20) zq_21) zq_22) zq_23) zq_24) zq_25) zq_26) zq_27) zq_28) zq_29) zq_30) zq_31) zq_32)
end wf
