section wd
variable {g : zG} {hh : zH} {n i mc ms k0 : Nat} {f : Nat → Int32} {Q : zR → zH → Prop}
theorem lc_1 (hi : i + 5 ≤ n) (hn : n < 2 ^ 20) (hJ : Jk n f k0 hh) (K : ∀ h2 k, Jk n f k h2 → Zn g zL_law 2123 (LO i) [] h2 mc ms Q) : Zn g zL_law 240 (LO i) [] hh (5 + mc) (3300 + ms) Q := by
  obtain ⟨F, S, z, A, X, hJJ, -⟩ := hJ
  obtain ⟨pf, now, p, Z, sz, hS⟩ := ST.ex hJJ.2.1
  obtain ⟨v, h1, h2, c1, c2, j2, fs, s50⟩ := P_clearInput (g := g) hJJ
  refine zn_aload_n (pc := 240) (sk_2 (by decide) rfl) rfl ?_
  refine zn_callVx (pc := 241) (J := zX9_clearInput) (o := 1) (as := []) (rest := []) (sk_2 (by decide) rfl) rfl rfl rfl hS.t rfl rfl rfl (Nat.le_of_ble_eq_true rfl) (Nat.le_of_ble_eq_true rfl) (Nat.le_of_ble_eq_true rfl) (Nat.le_of_ble_eq_true rfl) c1 ?_
  show Zn g zL_law 244 (LO i) [.int v] h1 _ _ Q
  refine zn_aload_n (pc := 244) (sk_2 (by decide) rfl) rfl ?_
  refine zn_callVx (pc := 245) (J := zX10_clearInput) (o := 50) (as := []) (rest := [.int v]) (sk_2 (by decide) rfl) rfl rfl rfl s50 rfl rfl rfl (Nat.le_of_ble_eq_true rfl) (Nat.le_of_ble_eq_true rfl) (Nat.le_of_ble_eq_true rfl) (Nat.le_of_ble_eq_true rfl) c2 ?_
  show Zn g zL_law 248 (LO i) [.int v, .int v] h2 _ _ Q
  exact zn_icmp_eq (pc := 248) (tgt := 2123) (sk_2 (by decide) rfl) rfl (fun _ => zn_mono (K h2 0 j2) (by omega) (by omega) (fun _ _ q => q)) (fun q => absurd rfl q)
theorem lc_30 (hi : i + 5 ≤ n) (hn : n < 2 ^ 20) (hJ : Jk n f k0 hh) (K : ∀ h2 k, Jk n f k h2 → Zn g zL_law 2123 (LO i) [] h2 mc ms Q) : Zn g zL_law 2109 (LO i) [] hh (5 + mc) (3300 + ms) Q := by
  obtain ⟨F, S, z, A, X, hJJ, -⟩ := hJ
  obtain ⟨pf, now, p, Z, sz, hS⟩ := ST.ex hJJ.2.1
  obtain ⟨v, h2, c1, c2, j2, fs, s50⟩ := P_digest (g := g) hJJ
  refine zn_aload_n (pc := 2109) (sk_31 (by decide) rfl) rfl ?_
  refine zn_callVx (pc := 2110) (J := zX9_digest) (o := 1) (as := []) (rest := []) (sk_31 (by decide) rfl) rfl rfl rfl hS.t rfl rfl rfl (Nat.le_of_ble_eq_true rfl) (Nat.le_of_ble_eq_true rfl) (Nat.le_of_ble_eq_true rfl) (Nat.le_of_ble_eq_true rfl) c1 ?_
  show Zn g zL_law 2113 (LO i) [.long v] hh _ _ Q
  refine zn_aload_n (pc := 2113) (sk_31 (by decide) rfl) rfl ?_
  refine zn_callVx (pc := 2114) (J := zX10_digest) (o := 50) (as := []) (rest := [.long v]) (sk_31 (by decide) rfl) rfl rfl rfl s50 rfl rfl rfl (Nat.le_of_ble_eq_true rfl) (Nat.le_of_ble_eq_true rfl) (Nat.le_of_ble_eq_true rfl) (Nat.le_of_ble_eq_true rfl) c2 ?_
  show Zn g zL_law 2117 (LO i) [.long v, .long v] h2 _ _ Q
  refine zn_lcmp (pc := 2117) (sk_31 (by decide) rfl) ?_
  exact zn_if_eq (pc := 2118) (tgt := 2123) (sk_31 (by decide) rfl) rfl (fun _ => zn_mono (K h2 0 j2) (by omega) (by omega) (fun _ _ q => q)) (fun q => absurd (lcmp_self v) q)
theorem and31 (a : Int32) : ∃ j, j < 32 ∧ a &&& nI 31 = nI j := by
  have h1 : (a &&& nI 31).toBitVec.toNat < 32 := by
    have e : (a &&& nI 31).toBitVec = a.toBitVec &&& (nI 31).toBitVec := rfl
    rw [e, BitVec.toNat_and]
    have e2 : (nI 31).toBitVec.toNat = 31 := by decide
    rw [e2]
    exact Nat.lt_of_le_of_lt Nat.and_le_right (by decide)
  have h2 : (a &&& nI 31).toInt = ((a &&& nI 31).toBitVec.toNat : Int) := BitVec.toInt_eq_toNat_of_lt (by omega)
  exact zin_ex ⟨by omega, by omega⟩ (by decide)
theorem lw_step (hi : i + 5 ≤ n) (hn : n < 2 ^ 20) (hJ : Jk n f k0 hh) (K : ∀ h2 k, Jk n f k h2 → Zn g zL_law 2123 (LO i) [] h2 mc ms Q) : Zn g zL_law 37 (LO i) [] hh (5 + mc) (3300 + ms) Q := by
  have h0 : hh.1 0 = some (.inl (n, .inl f)) := by
    obtain ⟨F, S, z, A, X, hJJ, -⟩ := hJ
    exact hJJ.2.2.2.1
  refine zn_aload_n (pc := 37) (sk_0 (by decide) rfl) rfl ?_
  refine zn_iload (pc := 38) (sk_0 (by decide) rfl) rfl ?_
  refine zn_ialdN (pc := 40) (sk_0 (by decide) rfl) h0 (by omega) (by omega) ?_
  refine zn_bipushN (pc := 41) 31 (sk_0 (by decide) rfl) rfl ?_
  refine zn_iand (pc := 43) (sk_0 (by decide) rfl) ?_
  obtain ⟨j, hj, e⟩ := and31 (f i)
  rw [e]
  have tI := nI_toInt (n := j) (by omega)
  by_cases j0 : j = 0
  · subst j0
    exact zn_tabIn (pc := 44) (tgt := 184) (off := 140) (sk_0 (by decide) rfl) (by rw [tI]; omega) (by rw [tI]; omega) (by rw [tI]; rfl) rfl (lc_0 hi hn hJ K)
  by_cases j1 : j = 1
  · subst j1
    exact zn_tabIn (pc := 44) (tgt := 240) (off := 196) (sk_0 (by decide) rfl) (by rw [tI]; omega) (by rw [tI]; omega) (by rw [tI]; rfl) rfl (lc_1 hi hn hJ K)
  by_cases j2 : j = 2
  · subst j2
    exact zn_tabIn (pc := 44) (tgt := 253) (off := 209) (sk_0 (by decide) rfl) (by rw [tI]; omega) (by rw [tI]; omega) (by rw [tI]; rfl) rfl (lc_2 hi hn hJ K)
  by_cases j3 : j = 3
  · subst j3
    exact zn_tabIn (pc := 44) (tgt := 309) (off := 265) (sk_0 (by decide) rfl) (by rw [tI]; omega) (by rw [tI]; omega) (by rw [tI]; rfl) rfl (lc_3 hi hn hJ K)
  by_cases j4 : j = 4
  · subst j4
    exact zn_tabIn (pc := 44) (tgt := 353) (off := 309) (sk_0 (by decide) rfl) (by rw [tI]; omega) (by rw [tI]; omega) (by rw [tI]; rfl) rfl (lc_4 hi hn hJ K)
  by_cases j5 : j = 5
  · subst j5
    exact zn_tabIn (pc := 44) (tgt := 445) (off := 401) (sk_0 (by decide) rfl) (by rw [tI]; omega) (by rw [tI]; omega) (by rw [tI]; rfl) rfl (lc_5 hi hn hJ K)
  by_cases j6 : j = 6
  · subst j6
    exact zn_tabIn (pc := 44) (tgt := 525) (off := 481) (sk_0 (by decide) rfl) (by rw [tI]; omega) (by rw [tI]; omega) (by rw [tI]; rfl) rfl (lc_6 hi hn hJ K)
  by_cases j7 : j = 7
  · subst j7
    exact zn_tabIn (pc := 44) (tgt := 593) (off := 549) (sk_0 (by decide) rfl) (by rw [tI]; omega) (by rw [tI]; omega) (by rw [tI]; rfl) rfl (lc_7 hi hn hJ K)
  by_cases j8 : j = 8
  · subst j8
    exact zn_tabIn (pc := 44) (tgt := 649) (off := 605) (sk_0 (by decide) rfl) (by rw [tI]; omega) (by rw [tI]; omega) (by rw [tI]; rfl) rfl (lc_8 hi hn hJ K)
  by_cases j9 : j = 9
  · subst j9
    exact zn_tabIn (pc := 44) (tgt := 705) (off := 661) (sk_0 (by decide) rfl) (by rw [tI]; omega) (by rw [tI]; omega) (by rw [tI]; rfl) rfl (lc_9 hi hn hJ K)
  by_cases j10 : j = 10
  · subst j10
    exact zn_tabIn (pc := 44) (tgt := 773) (off := 729) (sk_0 (by decide) rfl) (by rw [tI]; omega) (by rw [tI]; omega) (by rw [tI]; rfl) rfl (lc_10 hi hn hJ K)
  by_cases j11 : j = 11
  · subst j11
    exact zn_tabIn (pc := 44) (tgt := 869) (off := 825) (sk_0 (by decide) rfl) (by rw [tI]; omega) (by rw [tI]; omega) (by rw [tI]; rfl) rfl (lc_11 hi hn hJ K)
  by_cases j12 : j = 12
  · subst j12
    exact zn_tabIn (pc := 44) (tgt := 925) (off := 881) (sk_0 (by decide) rfl) (by rw [tI]; omega) (by rw [tI]; omega) (by rw [tI]; rfl) rfl (lc_12 hi hn hJ K)
  by_cases j13 : j = 13
  · subst j13
    exact zn_tabIn (pc := 44) (tgt := 981) (off := 937) (sk_0 (by decide) rfl) (by rw [tI]; omega) (by rw [tI]; omega) (by rw [tI]; rfl) rfl (lc_13 hi hn hJ K)
  by_cases j14 : j = 14
  · subst j14
    exact zn_tabIn (pc := 44) (tgt := 1049) (off := 1005) (sk_0 (by decide) rfl) (by rw [tI]; omega) (by rw [tI]; omega) (by rw [tI]; rfl) rfl (lc_14 hi hn hJ K)
  by_cases j15 : j = 15
  · subst j15
    exact zn_tabIn (pc := 44) (tgt := 1093) (off := 1049) (sk_0 (by decide) rfl) (by rw [tI]; omega) (by rw [tI]; omega) (by rw [tI]; rfl) rfl (lc_15 hi hn hJ K)
  by_cases j16 : j = 16
  · subst j16
    exact zn_tabIn (pc := 44) (tgt := 1137) (off := 1093) (sk_0 (by decide) rfl) (by rw [tI]; omega) (by rw [tI]; omega) (by rw [tI]; rfl) rfl (lc_16 hi hn hJ K)
  by_cases j17 : j = 17
  · subst j17
    exact zn_tabIn (pc := 44) (tgt := 1205) (off := 1161) (sk_0 (by decide) rfl) (by rw [tI]; omega) (by rw [tI]; omega) (by rw [tI]; rfl) rfl (lc_17 hi hn hJ K)
  by_cases j18 : j = 18
  · subst j18
    exact zn_tabIn (pc := 44) (tgt := 1273) (off := 1229) (sk_0 (by decide) rfl) (by rw [tI]; omega) (by rw [tI]; omega) (by rw [tI]; rfl) rfl (lc_18 hi hn hJ K)
  by_cases j19 : j = 19
  · subst j19
    exact zn_tabIn (pc := 44) (tgt := 1329) (off := 1285) (sk_0 (by decide) rfl) (by rw [tI]; omega) (by rw [tI]; omega) (by rw [tI]; rfl) rfl (lc_19 hi hn hJ K)
  by_cases j20 : j = 20
  · subst j20
    exact zn_tabIn (pc := 44) (tgt := 1397) (off := 1353) (sk_0 (by decide) rfl) (by rw [tI]; omega) (by rw [tI]; omega) (by rw [tI]; rfl) rfl (lc_20 hi hn hJ K)
  by_cases j21 : j = 21
  · subst j21
    exact zn_tabIn (pc := 44) (tgt := 1477) (off := 1433) (sk_0 (by decide) rfl) (by rw [tI]; omega) (by rw [tI]; omega) (by rw [tI]; rfl) rfl (lc_21 hi hn hJ K)
  by_cases j22 : j = 22
  · subst j22
    exact zn_tabIn (pc := 44) (tgt := 1557) (off := 1513) (sk_0 (by decide) rfl) (by rw [tI]; omega) (by rw [tI]; omega) (by rw [tI]; rfl) rfl (lc_22 hi hn hJ K)
  by_cases j23 : j = 23
  · subst j23
    exact zn_tabIn (pc := 44) (tgt := 1625) (off := 1581) (sk_0 (by decide) rfl) (by rw [tI]; omega) (by rw [tI]; omega) (by rw [tI]; rfl) rfl (lc_23 hi hn hJ K)
  by_cases j24 : j = 24
  · subst j24
    exact zn_tabIn (pc := 44) (tgt := 1693) (off := 1649) (sk_0 (by decide) rfl) (by rw [tI]; omega) (by rw [tI]; omega) (by rw [tI]; rfl) rfl (lc_24 hi hn hJ K)
  by_cases j25 : j = 25
  · subst j25
    exact zn_tabIn (pc := 44) (tgt := 1761) (off := 1717) (sk_0 (by decide) rfl) (by rw [tI]; omega) (by rw [tI]; omega) (by rw [tI]; rfl) rfl (lc_25 hi hn hJ K)
  by_cases j26 : j = 26
  · subst j26
    exact zn_tabIn (pc := 44) (tgt := 1829) (off := 1785) (sk_0 (by decide) rfl) (by rw [tI]; omega) (by rw [tI]; omega) (by rw [tI]; rfl) rfl (lc_26 hi hn hJ K)
  by_cases j27 : j = 27
  · subst j27
    exact zn_tabIn (pc := 44) (tgt := 1884) (off := 1840) (sk_0 (by decide) rfl) (by rw [tI]; omega) (by rw [tI]; omega) (by rw [tI]; rfl) rfl (lc_27 hi hn hJ K)
  by_cases j28 : j = 28
  · subst j28
    exact zn_tabIn (pc := 44) (tgt := 1961) (off := 1917) (sk_0 (by decide) rfl) (by rw [tI]; omega) (by rw [tI]; omega) (by rw [tI]; rfl) rfl (lc_28 hi hn hJ K)
  by_cases j29 : j = 29
  · subst j29
    exact zn_tabIn (pc := 44) (tgt := 2017) (off := 1973) (sk_0 (by decide) rfl) (by rw [tI]; omega) (by rw [tI]; omega) (by rw [tI]; rfl) rfl (lc_29 hi hn hJ K)
  by_cases j30 : j = 30
  · subst j30
    exact zn_tabIn (pc := 44) (tgt := 2109) (off := 2065) (sk_0 (by decide) rfl) (by rw [tI]; omega) (by rw [tI]; omega) (by rw [tI]; rfl) rfl (lc_30 hi hn hJ K)
  refine zn_tabOut (pc := 44) (tgt := 2123) (sk_0 (by decide) rfl) (by rw [tI]; omega) rfl ?_
  exact zn_mono (K hh k0 hJ) (by omega) (by omega) (fun _ _ q => q)
end wd
