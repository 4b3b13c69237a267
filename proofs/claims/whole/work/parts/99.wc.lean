section wc
variable {g : zG} {hh : zH} {n i mc ms k0 : Nat} {f : Nat → Int32} {Q : zR → zH → Prop}
abbrev LO (i : Nat) : zL := [some (.ref 0), some (.ref 1), some (.ref 50), some (.ref 66), some (.ref 67), some (.int (nI i)), none, none, none]
theorem lcmp_self (x : Int64) : lg_cmp x x = 0 := by
  simp [lg_cmp]
theorem lc_0 (hi : i + 5 ≤ n) (hn : n < 2 ^ 20) (hJ : Jk n f k0 hh) (K : ∀ h2 k, Jk n f k h2 → Zn g zL_law 2123 (LO i) [] h2 mc ms Q) : Zn g zL_law 184 (LO i) [] hh (5 + mc) (3300 + ms) Q := by
  obtain ⟨F, S, z, A, X, hJJ, -⟩ := hJ
  have h0 := hJJ.2.2.2.1
  obtain ⟨k, hk, hZ⟩ := P_append (g := g) hJJ (f (i + 1))
  refine zn_aload_n (pc := 184) (sk_1 (by decide) rfl) rfl ?_
  refine zn_aload_n (pc := 185) (sk_1 (by decide) rfl) rfl ?_
  refine zn_iload (pc := 186) (sk_1 (by decide) rfl) rfl ?_
  refine zn_iconstN (pc := 188) 1 (sk_1 (by decide) rfl) rfl ?_
  refine zn_iaddN (pc := 189) (sk_1 (by decide) rfl) ?_
  refine zn_ialdN (pc := 190) (sk_1 (by decide) rfl) h0 (by omega) (by omega) ?_
  refine zn_aload_n (pc := 191) (sk_1 (by decide) rfl) rfl ?_
  refine zn_callSX (pc := 192) (mc1 := 5) (ms1 := 3300) (mc2 := mc) (ms2 := ms) (J := zL_append) (as := [.ref 1, .int (f (i + 1)), .ref 66]) (rest := []) (sk_1 (by decide) rfl) (by decide) rfl rfl rfl rfl (by decide) (Nat.le_of_ble_eq_true rfl) (Nat.le_of_ble_eq_true rfl) (Nat.le_of_ble_eq_true rfl) (Nat.le_of_ble_eq_true rfl) hZ ?_ (fun E9 h9 q => by cases q.1)
  rintro v9 h1 ⟨e9, ⟨s0, fs, s50⟩, b, h2, hM, hJ2, hB⟩
  cases e9
  show Zn g zL_law 195 [some (.ref 0), some (.ref 1), some (.ref 50), some (.ref 66), some (.ref 67), some (.int (nI i)), none, none, none] [.int (nI k)] h1 mc ms Q
  refine zn_istore (pc := 195) (L' := [some (.ref 0), some (.ref 1), some (.ref 50), some (.ref 66), some (.ref 67), some (.int (nI i)), some (.int (nI k)), none, none]) (sk_1 (by decide) rfl) (by decide) rfl ?_
  refine zn_aload_n (pc := 197) (sk_1 (by decide) rfl) rfl ?_
  refine zn_aload_n (pc := 198) (sk_1 (by decide) rfl) rfl ?_
  refine zn_iload (pc := 199) (sk_1 (by decide) rfl) rfl ?_
  refine zn_iconstN (pc := 201) 1 (sk_1 (by decide) rfl) rfl ?_
  refine zn_iaddN (pc := 202) (sk_1 (by decide) rfl) ?_
  refine zn_ialdN (pc := 203) (sk_1 (by decide) rfl) s0 (by omega) (by omega) ?_
  refine zn_callVx (pc := 204) (J := zX10_append) (o := 50) (as := [.int (f (i + 1))]) (rest := []) (sk_1 (by decide) rfl) rfl rfl rfl s50 rfl rfl rfl (Nat.le_of_ble_eq_true rfl) (Nat.le_of_ble_eq_true rfl) (Nat.le_of_ble_eq_true rfl) (Nat.le_of_ble_eq_true rfl) hM ?_
  show Zn g zL_law 207 [some (.ref 0), some (.ref 1), some (.ref 50), some (.ref 66), some (.ref 67), some (.int (nI i)), some (.int (nI k)), none, none] [.int b] h2 mc ms Q
  refine zn_istore (pc := 207) (L' := [some (.ref 0), some (.ref 1), some (.ref 50), some (.ref 66), some (.ref 67), some (.int (nI i)), some (.int (nI k)), some (.int b), none]) (sk_1 (by decide) rfl) (by decide) rfl ?_
  refine zn_aload_n (pc := 209) (sk_1 (by decide) rfl) rfl ?_
  obtain ⟨F2, S2, z2, A2, X2, hJ3, e0⟩ := id hJ2
  have hth : Zx g zX10_thrown [.ref 50] h2 (some (.int (nI k))) h2 := by
    have := m_thrown (g := g) (h := h2) (F := F2) (S := S2) (z := z2) (A := A2) (X := X2)
    rw [← hJ3.1, e0] at this
    exact this
  have t50 : h2.1 50 = some (.inr (9, mfl F2 S2)) := by rw [hJ3.1]; rfl
  refine zn_callVx (pc := 210) (J := zX10_thrown) (o := 50) (as := []) (rest := []) (sk_1 (by decide) rfl) rfl rfl rfl t50 rfl rfl rfl (Nat.le_of_ble_eq_true rfl) (Nat.le_of_ble_eq_true rfl) (Nat.le_of_ble_eq_true rfl) (Nat.le_of_ble_eq_true rfl) hth ?_
  show Zn g zL_law 213 [some (.ref 0), some (.ref 1), some (.ref 50), some (.ref 66), some (.ref 67), some (.int (nI i)), some (.int (nI k)), some (.int b), none] [.int (nI k)] h2 mc ms Q
  refine zn_iload (pc := 213) (sk_1 (by decide) rfl) rfl ?_
  refine zn_icmp_eq (pc := 215) (tgt := 220) (sk_1 (by decide) rfl) rfl (fun _ => ?_) (fun q => absurd rfl q)
  refine zn_iload (pc := 220) (sk_1 (by decide) rfl) rfl ?_
  have fin : Zn g zL_law 237 [some (.ref 0), some (.ref 1), some (.ref 50), some (.ref 66), some (.ref 67), some (.int (nI i)), some (.int (nI k)), some (.int b), none] [] h2 mc ms Q := by
    refine zn_goto (pc := 237) (tgt := 2123) (sk_1 (by decide) rfl) rfl ?_
    exact zn_sub (L' := LO i) ⟨rfl, rfl, rfl, rfl, rfl, rfl, trivial⟩ (K h2 k hJ2)
  refine zn_if_neN (pc := 222) (tgt := 237) (sk_1 (by decide) rfl) rfl (by omega) (fun _ => fin) (fun k0 => ?_)
  obtain ⟨x9, hx9, u9, eu, hu⟩ := hB k0
  subst eu
  refine zn_aload_n (pc := 225) (sk_1 (by decide) rfl) rfl ?_
  refine zn_iconstN (pc := 226) 0 (sk_1 (by decide) rfl) rfl ?_
  refine zn_laldN (pc := 227) (sk_1 (by decide) rfl) (by decide) hx9 (by decide) (by decide) ?_
  refine zn_iload (pc := 228) (sk_1 (by decide) rfl) rfl ?_
  refine zn_i2l (pc := 230) (sk_1 (by decide) rfl) ?_
  refine zn_lcmp (pc := 231) (sk_1 (by decide) rfl) ?_
  exact zn_if_eq (pc := 232) (tgt := 237) (sk_1 (by decide) rfl) rfl (fun _ => fin) (fun q => absurd (by rw [hu]; exact lcmp_self _) q)
theorem lc_2 (hi : i + 5 ≤ n) (hn : n < 2 ^ 20) (hJ : Jk n f k0 hh) (K : ∀ h2 k, Jk n f k h2 → Zn g zL_law 2123 (LO i) [] h2 mc ms Q) : Zn g zL_law 253 (LO i) [] hh (5 + mc) (3300 + ms) Q := by
  obtain ⟨F, S, z, A, X, hJJ, -⟩ := hJ
  have h0 := hJJ.2.2.2.1
  obtain ⟨k, hk, hZ⟩ := P_firstError (g := g) hJJ (f (i + 1))
  refine zn_aload_n (pc := 253) (sk_3 (by decide) rfl) rfl ?_
  refine zn_aload_n (pc := 254) (sk_3 (by decide) rfl) rfl ?_
  refine zn_iload (pc := 255) (sk_3 (by decide) rfl) rfl ?_
  refine zn_iconstN (pc := 257) 1 (sk_3 (by decide) rfl) rfl ?_
  refine zn_iaddN (pc := 258) (sk_3 (by decide) rfl) ?_
  refine zn_ialdN (pc := 259) (sk_3 (by decide) rfl) h0 (by omega) (by omega) ?_
  refine zn_aload_n (pc := 260) (sk_3 (by decide) rfl) rfl ?_
  refine zn_callSX (pc := 261) (mc1 := 5) (ms1 := 3300) (mc2 := mc) (ms2 := ms) (J := zL_firstError) (as := [.ref 1, .int (f (i + 1)), .ref 66]) (rest := []) (sk_3 (by decide) rfl) (by decide) rfl rfl rfl rfl (by decide) (Nat.le_of_ble_eq_true rfl) (Nat.le_of_ble_eq_true rfl) (Nat.le_of_ble_eq_true rfl) (Nat.le_of_ble_eq_true rfl) hZ ?_ (fun E9 h9 q => by cases q.1)
  rintro v9 h1 ⟨e9, ⟨s0, fs, s50⟩, b, h2, hM, hJ2, hB⟩
  cases e9
  show Zn g zL_law 264 [some (.ref 0), some (.ref 1), some (.ref 50), some (.ref 66), some (.ref 67), some (.int (nI i)), none, none, none] [.int (nI k)] h1 mc ms Q
  refine zn_istore (pc := 264) (L' := [some (.ref 0), some (.ref 1), some (.ref 50), some (.ref 66), some (.ref 67), some (.int (nI i)), some (.int (nI k)), none, none]) (sk_3 (by decide) rfl) (by decide) rfl ?_
  refine zn_aload_n (pc := 266) (sk_3 (by decide) rfl) rfl ?_
  refine zn_aload_n (pc := 267) (sk_3 (by decide) rfl) rfl ?_
  refine zn_iload (pc := 268) (sk_3 (by decide) rfl) rfl ?_
  refine zn_iconstN (pc := 270) 1 (sk_3 (by decide) rfl) rfl ?_
  refine zn_iaddN (pc := 271) (sk_3 (by decide) rfl) ?_
  refine zn_ialdN (pc := 272) (sk_3 (by decide) rfl) s0 (by omega) (by omega) ?_
  refine zn_callVx (pc := 273) (J := zX10_firstError) (o := 50) (as := [.int (f (i + 1))]) (rest := []) (sk_3 (by decide) rfl) rfl rfl rfl s50 rfl rfl rfl (Nat.le_of_ble_eq_true rfl) (Nat.le_of_ble_eq_true rfl) (Nat.le_of_ble_eq_true rfl) (Nat.le_of_ble_eq_true rfl) hM ?_
  show Zn g zL_law 276 [some (.ref 0), some (.ref 1), some (.ref 50), some (.ref 66), some (.ref 67), some (.int (nI i)), some (.int (nI k)), none, none] [.int b] h2 mc ms Q
  refine zn_istore (pc := 276) (L' := [some (.ref 0), some (.ref 1), some (.ref 50), some (.ref 66), some (.ref 67), some (.int (nI i)), some (.int (nI k)), some (.int b), none]) (sk_3 (by decide) rfl) (by decide) rfl ?_
  refine zn_aload_n (pc := 278) (sk_3 (by decide) rfl) rfl ?_
  obtain ⟨F2, S2, z2, A2, X2, hJ3, e0⟩ := id hJ2
  have hth : Zx g zX10_thrown [.ref 50] h2 (some (.int (nI k))) h2 := by
    have := m_thrown (g := g) (h := h2) (F := F2) (S := S2) (z := z2) (A := A2) (X := X2)
    rw [← hJ3.1, e0] at this
    exact this
  have t50 : h2.1 50 = some (.inr (9, mfl F2 S2)) := by rw [hJ3.1]; rfl
  refine zn_callVx (pc := 279) (J := zX10_thrown) (o := 50) (as := []) (rest := []) (sk_3 (by decide) rfl) rfl rfl rfl t50 rfl rfl rfl (Nat.le_of_ble_eq_true rfl) (Nat.le_of_ble_eq_true rfl) (Nat.le_of_ble_eq_true rfl) (Nat.le_of_ble_eq_true rfl) hth ?_
  show Zn g zL_law 282 [some (.ref 0), some (.ref 1), some (.ref 50), some (.ref 66), some (.ref 67), some (.int (nI i)), some (.int (nI k)), some (.int b), none] [.int (nI k)] h2 mc ms Q
  refine zn_iload (pc := 282) (sk_3 (by decide) rfl) rfl ?_
  refine zn_icmp_eq (pc := 284) (tgt := 289) (sk_3 (by decide) rfl) rfl (fun _ => ?_) (fun q => absurd rfl q)
  refine zn_iload (pc := 289) (sk_3 (by decide) rfl) rfl ?_
  have fin : Zn g zL_law 306 [some (.ref 0), some (.ref 1), some (.ref 50), some (.ref 66), some (.ref 67), some (.int (nI i)), some (.int (nI k)), some (.int b), none] [] h2 mc ms Q := by
    refine zn_goto (pc := 306) (tgt := 2123) (sk_3 (by decide) rfl) rfl ?_
    exact zn_sub (L' := LO i) ⟨rfl, rfl, rfl, rfl, rfl, rfl, trivial⟩ (K h2 k hJ2)
  refine zn_if_neN (pc := 291) (tgt := 306) (sk_3 (by decide) rfl) rfl (by omega) (fun _ => fin) (fun k0 => ?_)
  obtain ⟨x9, hx9, u9, eu, hu⟩ := hB k0
  subst eu
  refine zn_aload_n (pc := 294) (sk_3 (by decide) rfl) rfl ?_
  refine zn_iconstN (pc := 295) 0 (sk_3 (by decide) rfl) rfl ?_
  refine zn_laldN (pc := 296) (sk_3 (by decide) rfl) (by decide) hx9 (by decide) (by decide) ?_
  refine zn_iload (pc := 297) (sk_3 (by decide) rfl) rfl ?_
  refine zn_i2l (pc := 299) (sk_3 (by decide) rfl) ?_
  refine zn_lcmp (pc := 300) (sk_3 (by decide) rfl) ?_
  exact zn_if_eq (pc := 301) (tgt := 306) (sk_3 (by decide) rfl) rfl (fun _ => fin) (fun q => absurd (by rw [hu]; exact lcmp_self _) q)
theorem lc_3 (hi : i + 5 ≤ n) (hn : n < 2 ^ 20) (hJ : Jk n f k0 hh) (K : ∀ h2 k, Jk n f k h2 → Zn g zL_law 2123 (LO i) [] h2 mc ms Q) : Zn g zL_law 309 (LO i) [] hh (5 + mc) (3300 + ms) Q := by
  obtain ⟨F, S, z, A, X, hJJ, -⟩ := hJ
  have h0 := hJJ.2.2.2.1
  obtain ⟨k, hk, hZ⟩ := P_load (g := g) hJJ 
  refine zn_aload_n (pc := 309) (sk_4 (by decide) rfl) rfl ?_
  refine zn_aload_n (pc := 310) (sk_4 (by decide) rfl) rfl ?_
  refine zn_callSX (pc := 311) (mc1 := 5) (ms1 := 3300) (mc2 := mc) (ms2 := ms) (J := zL_load) (as := [.ref 1, .ref 66]) (rest := []) (sk_4 (by decide) rfl) (by decide) rfl rfl rfl rfl (by decide) (Nat.le_of_ble_eq_true rfl) (Nat.le_of_ble_eq_true rfl) (Nat.le_of_ble_eq_true rfl) (Nat.le_of_ble_eq_true rfl) hZ ?_ (fun E9 h9 q => by cases q.1)
  rintro v9 h1 ⟨e9, ⟨s0, fs, s50⟩, b, h2, hM, hJ2, hB⟩
  cases e9
  show Zn g zL_law 314 [some (.ref 0), some (.ref 1), some (.ref 50), some (.ref 66), some (.ref 67), some (.int (nI i)), none, none, none] [.int (nI k)] h1 mc ms Q
  refine zn_istore (pc := 314) (L' := [some (.ref 0), some (.ref 1), some (.ref 50), some (.ref 66), some (.ref 67), some (.int (nI i)), some (.int (nI k)), none, none]) (sk_4 (by decide) rfl) (by decide) rfl ?_
  refine zn_aload_n (pc := 316) (sk_4 (by decide) rfl) rfl ?_
  refine zn_callVx (pc := 317) (J := zX10_load) (o := 50) (as := []) (rest := []) (sk_4 (by decide) rfl) rfl rfl rfl s50 rfl rfl rfl (Nat.le_of_ble_eq_true rfl) (Nat.le_of_ble_eq_true rfl) (Nat.le_of_ble_eq_true rfl) (Nat.le_of_ble_eq_true rfl) hM ?_
  show Zn g zL_law 320 [some (.ref 0), some (.ref 1), some (.ref 50), some (.ref 66), some (.ref 67), some (.int (nI i)), some (.int (nI k)), none, none] [.int b] h2 mc ms Q
  refine zn_istore (pc := 320) (L' := [some (.ref 0), some (.ref 1), some (.ref 50), some (.ref 66), some (.ref 67), some (.int (nI i)), some (.int (nI k)), some (.int b), none]) (sk_4 (by decide) rfl) (by decide) rfl ?_
  refine zn_aload_n (pc := 322) (sk_4 (by decide) rfl) rfl ?_
  obtain ⟨F2, S2, z2, A2, X2, hJ3, e0⟩ := id hJ2
  have hth : Zx g zX10_thrown [.ref 50] h2 (some (.int (nI k))) h2 := by
    have := m_thrown (g := g) (h := h2) (F := F2) (S := S2) (z := z2) (A := A2) (X := X2)
    rw [← hJ3.1, e0] at this
    exact this
  have t50 : h2.1 50 = some (.inr (9, mfl F2 S2)) := by rw [hJ3.1]; rfl
  refine zn_callVx (pc := 323) (J := zX10_thrown) (o := 50) (as := []) (rest := []) (sk_4 (by decide) rfl) rfl rfl rfl t50 rfl rfl rfl (Nat.le_of_ble_eq_true rfl) (Nat.le_of_ble_eq_true rfl) (Nat.le_of_ble_eq_true rfl) (Nat.le_of_ble_eq_true rfl) hth ?_
  show Zn g zL_law 326 [some (.ref 0), some (.ref 1), some (.ref 50), some (.ref 66), some (.ref 67), some (.int (nI i)), some (.int (nI k)), some (.int b), none] [.int (nI k)] h2 mc ms Q
  refine zn_iload (pc := 326) (sk_4 (by decide) rfl) rfl ?_
  refine zn_icmp_eq (pc := 328) (tgt := 333) (sk_4 (by decide) rfl) rfl (fun _ => ?_) (fun q => absurd rfl q)
  refine zn_iload (pc := 333) (sk_4 (by decide) rfl) rfl ?_
  have fin : Zn g zL_law 350 [some (.ref 0), some (.ref 1), some (.ref 50), some (.ref 66), some (.ref 67), some (.int (nI i)), some (.int (nI k)), some (.int b), none] [] h2 mc ms Q := by
    refine zn_goto (pc := 350) (tgt := 2123) (sk_4 (by decide) rfl) rfl ?_
    exact zn_sub (L' := LO i) ⟨rfl, rfl, rfl, rfl, rfl, rfl, trivial⟩ (K h2 k hJ2)
  refine zn_if_neN (pc := 335) (tgt := 350) (sk_4 (by decide) rfl) rfl (by omega) (fun _ => fin) (fun k0 => ?_)
  obtain ⟨x9, hx9, u9, eu, hu⟩ := hB k0
  subst eu
  refine zn_aload_n (pc := 338) (sk_4 (by decide) rfl) rfl ?_
  refine zn_iconstN (pc := 339) 0 (sk_4 (by decide) rfl) rfl ?_
  refine zn_laldN (pc := 340) (sk_4 (by decide) rfl) (by decide) hx9 (by decide) (by decide) ?_
  refine zn_iload (pc := 341) (sk_4 (by decide) rfl) rfl ?_
  refine zn_i2l (pc := 343) (sk_4 (by decide) rfl) ?_
  refine zn_lcmp (pc := 344) (sk_4 (by decide) rfl) ?_
  exact zn_if_eq (pc := 345) (tgt := 350) (sk_4 (by decide) rfl) rfl (fun _ => fin) (fun q => absurd (by rw [hu]; exact lcmp_self _) q)
theorem lc_4 (hi : i + 5 ≤ n) (hn : n < 2 ^ 20) (hJ : Jk n f k0 hh) (K : ∀ h2 k, Jk n f k h2 → Zn g zL_law 2123 (LO i) [] h2 mc ms Q) : Zn g zL_law 353 (LO i) [] hh (5 + mc) (3300 + ms) Q := by
  obtain ⟨F, S, z, A, X, hJJ, -⟩ := hJ
  have h0 := hJJ.2.2.2.1
  obtain ⟨k, hk, hZ⟩ := P_type (g := g) hJJ (f (i + 1)) (f (i + 2)) (f (i + 3)) (f (i + 4))
  refine zn_aload_n (pc := 353) (sk_5 (by decide) rfl) rfl ?_
  refine zn_aload_n (pc := 354) (sk_5 (by decide) rfl) rfl ?_
  refine zn_iload (pc := 355) (sk_5 (by decide) rfl) rfl ?_
  refine zn_iconstN (pc := 357) 1 (sk_5 (by decide) rfl) rfl ?_
  refine zn_iaddN (pc := 358) (sk_5 (by decide) rfl) ?_
  refine zn_ialdN (pc := 359) (sk_5 (by decide) rfl) h0 (by omega) (by omega) ?_
  refine zn_aload_n (pc := 360) (sk_5 (by decide) rfl) rfl ?_
  refine zn_iload (pc := 361) (sk_5 (by decide) rfl) rfl ?_
  refine zn_iconstN (pc := 363) 2 (sk_5 (by decide) rfl) rfl ?_
  refine zn_iaddN (pc := 364) (sk_5 (by decide) rfl) ?_
  refine zn_ialdN (pc := 365) (sk_5 (by decide) rfl) h0 (by omega) (by omega) ?_
  refine zn_aload_n (pc := 366) (sk_5 (by decide) rfl) rfl ?_
  refine zn_iload (pc := 367) (sk_5 (by decide) rfl) rfl ?_
  refine zn_iconstN (pc := 369) 3 (sk_5 (by decide) rfl) rfl ?_
  refine zn_iaddN (pc := 370) (sk_5 (by decide) rfl) ?_
  refine zn_ialdN (pc := 371) (sk_5 (by decide) rfl) h0 (by omega) (by omega) ?_
  refine zn_aload_n (pc := 372) (sk_5 (by decide) rfl) rfl ?_
  refine zn_iload (pc := 373) (sk_5 (by decide) rfl) rfl ?_
  refine zn_iconstN (pc := 375) 4 (sk_5 (by decide) rfl) rfl ?_
  refine zn_iaddN (pc := 376) (sk_5 (by decide) rfl) ?_
  refine zn_ialdN (pc := 377) (sk_5 (by decide) rfl) h0 (by omega) (by omega) ?_
  refine zn_aload_n (pc := 378) (sk_5 (by decide) rfl) rfl ?_
  refine zn_callSX (pc := 379) (mc1 := 5) (ms1 := 3300) (mc2 := mc) (ms2 := ms) (J := zL_type) (as := [.ref 1, .int (f (i + 1)), .int (f (i + 2)), .int (f (i + 3)), .int (f (i + 4)), .ref 66]) (rest := []) (sk_5 (by decide) rfl) (by decide) rfl rfl rfl rfl (by decide) (Nat.le_of_ble_eq_true rfl) (Nat.le_of_ble_eq_true rfl) (Nat.le_of_ble_eq_true rfl) (Nat.le_of_ble_eq_true rfl) hZ ?_ (fun E9 h9 q => by cases q.1)
  rintro v9 h1 ⟨e9, ⟨s0, fs, s50⟩, b, h2, hM, hJ2, hB⟩
  cases e9
  show Zn g zL_law 382 [some (.ref 0), some (.ref 1), some (.ref 50), some (.ref 66), some (.ref 67), some (.int (nI i)), none, none, none] [.int (nI k)] h1 mc ms Q
  refine zn_istore (pc := 382) (L' := [some (.ref 0), some (.ref 1), some (.ref 50), some (.ref 66), some (.ref 67), some (.int (nI i)), some (.int (nI k)), none, none]) (sk_5 (by decide) rfl) (by decide) rfl ?_
  refine zn_aload_n (pc := 384) (sk_5 (by decide) rfl) rfl ?_
  refine zn_aload_n (pc := 385) (sk_5 (by decide) rfl) rfl ?_
  refine zn_iload (pc := 386) (sk_5 (by decide) rfl) rfl ?_
  refine zn_iconstN (pc := 388) 1 (sk_5 (by decide) rfl) rfl ?_
  refine zn_iaddN (pc := 389) (sk_5 (by decide) rfl) ?_
  refine zn_ialdN (pc := 390) (sk_5 (by decide) rfl) s0 (by omega) (by omega) ?_
  refine zn_aload_n (pc := 391) (sk_5 (by decide) rfl) rfl ?_
  refine zn_iload (pc := 392) (sk_5 (by decide) rfl) rfl ?_
  refine zn_iconstN (pc := 394) 2 (sk_5 (by decide) rfl) rfl ?_
  refine zn_iaddN (pc := 395) (sk_5 (by decide) rfl) ?_
  refine zn_ialdN (pc := 396) (sk_5 (by decide) rfl) s0 (by omega) (by omega) ?_
  refine zn_aload_n (pc := 397) (sk_5 (by decide) rfl) rfl ?_
  refine zn_iload (pc := 398) (sk_5 (by decide) rfl) rfl ?_
  refine zn_iconstN (pc := 400) 3 (sk_5 (by decide) rfl) rfl ?_
  refine zn_iaddN (pc := 401) (sk_5 (by decide) rfl) ?_
  refine zn_ialdN (pc := 402) (sk_5 (by decide) rfl) s0 (by omega) (by omega) ?_
  refine zn_aload_n (pc := 403) (sk_5 (by decide) rfl) rfl ?_
  refine zn_iload (pc := 404) (sk_5 (by decide) rfl) rfl ?_
  refine zn_iconstN (pc := 406) 4 (sk_5 (by decide) rfl) rfl ?_
  refine zn_iaddN (pc := 407) (sk_5 (by decide) rfl) ?_
  refine zn_ialdN (pc := 408) (sk_5 (by decide) rfl) s0 (by omega) (by omega) ?_
  refine zn_callVx (pc := 409) (J := zX10_type) (o := 50) (as := [.int (f (i + 1)), .int (f (i + 2)), .int (f (i + 3)), .int (f (i + 4))]) (rest := []) (sk_5 (by decide) rfl) rfl rfl rfl s50 rfl rfl rfl (Nat.le_of_ble_eq_true rfl) (Nat.le_of_ble_eq_true rfl) (Nat.le_of_ble_eq_true rfl) (Nat.le_of_ble_eq_true rfl) hM ?_
  show Zn g zL_law 412 [some (.ref 0), some (.ref 1), some (.ref 50), some (.ref 66), some (.ref 67), some (.int (nI i)), some (.int (nI k)), none, none] [.int b] h2 mc ms Q
  refine zn_istore (pc := 412) (L' := [some (.ref 0), some (.ref 1), some (.ref 50), some (.ref 66), some (.ref 67), some (.int (nI i)), some (.int (nI k)), some (.int b), none]) (sk_5 (by decide) rfl) (by decide) rfl ?_
  refine zn_aload_n (pc := 414) (sk_5 (by decide) rfl) rfl ?_
  obtain ⟨F2, S2, z2, A2, X2, hJ3, e0⟩ := id hJ2
  have hth : Zx g zX10_thrown [.ref 50] h2 (some (.int (nI k))) h2 := by
    have := m_thrown (g := g) (h := h2) (F := F2) (S := S2) (z := z2) (A := A2) (X := X2)
    rw [← hJ3.1, e0] at this
    exact this
  have t50 : h2.1 50 = some (.inr (9, mfl F2 S2)) := by rw [hJ3.1]; rfl
  refine zn_callVx (pc := 415) (J := zX10_thrown) (o := 50) (as := []) (rest := []) (sk_5 (by decide) rfl) rfl rfl rfl t50 rfl rfl rfl (Nat.le_of_ble_eq_true rfl) (Nat.le_of_ble_eq_true rfl) (Nat.le_of_ble_eq_true rfl) (Nat.le_of_ble_eq_true rfl) hth ?_
  show Zn g zL_law 418 [some (.ref 0), some (.ref 1), some (.ref 50), some (.ref 66), some (.ref 67), some (.int (nI i)), some (.int (nI k)), some (.int b), none] [.int (nI k)] h2 mc ms Q
  refine zn_iload (pc := 418) (sk_5 (by decide) rfl) rfl ?_
  refine zn_icmp_eq (pc := 420) (tgt := 425) (sk_5 (by decide) rfl) rfl (fun _ => ?_) (fun q => absurd rfl q)
  refine zn_iload (pc := 425) (sk_5 (by decide) rfl) rfl ?_
  have fin : Zn g zL_law 442 [some (.ref 0), some (.ref 1), some (.ref 50), some (.ref 66), some (.ref 67), some (.int (nI i)), some (.int (nI k)), some (.int b), none] [] h2 mc ms Q := by
    refine zn_goto (pc := 442) (tgt := 2123) (sk_5 (by decide) rfl) rfl ?_
    exact zn_sub (L' := LO i) ⟨rfl, rfl, rfl, rfl, rfl, rfl, trivial⟩ (K h2 k hJ2)
  refine zn_if_neN (pc := 427) (tgt := 442) (sk_5 (by decide) rfl) rfl (by omega) (fun _ => fin) (fun k0 => ?_)
  obtain ⟨x9, hx9, u9, eu, hu⟩ := hB k0
  subst eu
  refine zn_aload_n (pc := 430) (sk_5 (by decide) rfl) rfl ?_
  refine zn_iconstN (pc := 431) 0 (sk_5 (by decide) rfl) rfl ?_
  refine zn_laldN (pc := 432) (sk_5 (by decide) rfl) (by decide) hx9 (by decide) (by decide) ?_
  refine zn_iload (pc := 433) (sk_5 (by decide) rfl) rfl ?_
  refine zn_i2l (pc := 435) (sk_5 (by decide) rfl) ?_
  refine zn_lcmp (pc := 436) (sk_5 (by decide) rfl) ?_
  exact zn_if_eq (pc := 437) (tgt := 442) (sk_5 (by decide) rfl) rfl (fun _ => fin) (fun q => absurd (by rw [hu]; exact lcmp_self _) q)
theorem lc_5 (hi : i + 5 ≤ n) (hn : n < 2 ^ 20) (hJ : Jk n f k0 hh) (K : ∀ h2 k, Jk n f k h2 → Zn g zL_law 2123 (LO i) [] h2 mc ms Q) : Zn g zL_law 445 (LO i) [] hh (5 + mc) (3300 + ms) Q := by
  obtain ⟨F, S, z, A, X, hJJ, -⟩ := hJ
  have h0 := hJJ.2.2.2.1
  obtain ⟨k, hk, hZ⟩ := P_erase (g := g) hJJ (f (i + 1)) (f (i + 2)) (f (i + 3))
  refine zn_aload_n (pc := 445) (sk_6 (by decide) rfl) rfl ?_
  refine zn_aload_n (pc := 446) (sk_6 (by decide) rfl) rfl ?_
  refine zn_iload (pc := 447) (sk_6 (by decide) rfl) rfl ?_
  refine zn_iconstN (pc := 449) 1 (sk_6 (by decide) rfl) rfl ?_
  refine zn_iaddN (pc := 450) (sk_6 (by decide) rfl) ?_
  refine zn_ialdN (pc := 451) (sk_6 (by decide) rfl) h0 (by omega) (by omega) ?_
  refine zn_aload_n (pc := 452) (sk_6 (by decide) rfl) rfl ?_
  refine zn_iload (pc := 453) (sk_6 (by decide) rfl) rfl ?_
  refine zn_iconstN (pc := 455) 2 (sk_6 (by decide) rfl) rfl ?_
  refine zn_iaddN (pc := 456) (sk_6 (by decide) rfl) ?_
  refine zn_ialdN (pc := 457) (sk_6 (by decide) rfl) h0 (by omega) (by omega) ?_
  refine zn_aload_n (pc := 458) (sk_6 (by decide) rfl) rfl ?_
  refine zn_iload (pc := 459) (sk_6 (by decide) rfl) rfl ?_
  refine zn_iconstN (pc := 461) 3 (sk_6 (by decide) rfl) rfl ?_
  refine zn_iaddN (pc := 462) (sk_6 (by decide) rfl) ?_
  refine zn_ialdN (pc := 463) (sk_6 (by decide) rfl) h0 (by omega) (by omega) ?_
  refine zn_aload_n (pc := 464) (sk_6 (by decide) rfl) rfl ?_
  refine zn_callSX (pc := 465) (mc1 := 5) (ms1 := 3300) (mc2 := mc) (ms2 := ms) (J := zL_erase) (as := [.ref 1, .int (f (i + 1)), .int (f (i + 2)), .int (f (i + 3)), .ref 66]) (rest := []) (sk_6 (by decide) rfl) (by decide) rfl rfl rfl rfl (by decide) (Nat.le_of_ble_eq_true rfl) (Nat.le_of_ble_eq_true rfl) (Nat.le_of_ble_eq_true rfl) (Nat.le_of_ble_eq_true rfl) hZ ?_ (fun E9 h9 q => by cases q.1)
  rintro v9 h1 ⟨e9, ⟨s0, fs, s50⟩, b, h2, hM, hJ2, hB⟩
  cases e9
  show Zn g zL_law 468 [some (.ref 0), some (.ref 1), some (.ref 50), some (.ref 66), some (.ref 67), some (.int (nI i)), none, none, none] [.int (nI k)] h1 mc ms Q
  refine zn_istore (pc := 468) (L' := [some (.ref 0), some (.ref 1), some (.ref 50), some (.ref 66), some (.ref 67), some (.int (nI i)), some (.int (nI k)), none, none]) (sk_6 (by decide) rfl) (by decide) rfl ?_
  refine zn_aload_n (pc := 470) (sk_6 (by decide) rfl) rfl ?_
  refine zn_aload_n (pc := 471) (sk_6 (by decide) rfl) rfl ?_
  refine zn_iload (pc := 472) (sk_6 (by decide) rfl) rfl ?_
  refine zn_iconstN (pc := 474) 1 (sk_6 (by decide) rfl) rfl ?_
  refine zn_iaddN (pc := 475) (sk_6 (by decide) rfl) ?_
  refine zn_ialdN (pc := 476) (sk_6 (by decide) rfl) s0 (by omega) (by omega) ?_
  refine zn_aload_n (pc := 477) (sk_6 (by decide) rfl) rfl ?_
  refine zn_iload (pc := 478) (sk_6 (by decide) rfl) rfl ?_
  refine zn_iconstN (pc := 480) 2 (sk_6 (by decide) rfl) rfl ?_
  refine zn_iaddN (pc := 481) (sk_6 (by decide) rfl) ?_
  refine zn_ialdN (pc := 482) (sk_6 (by decide) rfl) s0 (by omega) (by omega) ?_
  refine zn_aload_n (pc := 483) (sk_6 (by decide) rfl) rfl ?_
  refine zn_iload (pc := 484) (sk_6 (by decide) rfl) rfl ?_
  refine zn_iconstN (pc := 486) 3 (sk_6 (by decide) rfl) rfl ?_
  refine zn_iaddN (pc := 487) (sk_6 (by decide) rfl) ?_
  refine zn_ialdN (pc := 488) (sk_6 (by decide) rfl) s0 (by omega) (by omega) ?_
  refine zn_callVx (pc := 489) (J := zX10_erase) (o := 50) (as := [.int (f (i + 1)), .int (f (i + 2)), .int (f (i + 3))]) (rest := []) (sk_6 (by decide) rfl) rfl rfl rfl s50 rfl rfl rfl (Nat.le_of_ble_eq_true rfl) (Nat.le_of_ble_eq_true rfl) (Nat.le_of_ble_eq_true rfl) (Nat.le_of_ble_eq_true rfl) hM ?_
  show Zn g zL_law 492 [some (.ref 0), some (.ref 1), some (.ref 50), some (.ref 66), some (.ref 67), some (.int (nI i)), some (.int (nI k)), none, none] [.int b] h2 mc ms Q
  refine zn_istore (pc := 492) (L' := [some (.ref 0), some (.ref 1), some (.ref 50), some (.ref 66), some (.ref 67), some (.int (nI i)), some (.int (nI k)), some (.int b), none]) (sk_6 (by decide) rfl) (by decide) rfl ?_
  refine zn_aload_n (pc := 494) (sk_6 (by decide) rfl) rfl ?_
  obtain ⟨F2, S2, z2, A2, X2, hJ3, e0⟩ := id hJ2
  have hth : Zx g zX10_thrown [.ref 50] h2 (some (.int (nI k))) h2 := by
    have := m_thrown (g := g) (h := h2) (F := F2) (S := S2) (z := z2) (A := A2) (X := X2)
    rw [← hJ3.1, e0] at this
    exact this
  have t50 : h2.1 50 = some (.inr (9, mfl F2 S2)) := by rw [hJ3.1]; rfl
  refine zn_callVx (pc := 495) (J := zX10_thrown) (o := 50) (as := []) (rest := []) (sk_6 (by decide) rfl) rfl rfl rfl t50 rfl rfl rfl (Nat.le_of_ble_eq_true rfl) (Nat.le_of_ble_eq_true rfl) (Nat.le_of_ble_eq_true rfl) (Nat.le_of_ble_eq_true rfl) hth ?_
  show Zn g zL_law 498 [some (.ref 0), some (.ref 1), some (.ref 50), some (.ref 66), some (.ref 67), some (.int (nI i)), some (.int (nI k)), some (.int b), none] [.int (nI k)] h2 mc ms Q
  refine zn_iload (pc := 498) (sk_6 (by decide) rfl) rfl ?_
  refine zn_icmp_eq (pc := 500) (tgt := 505) (sk_6 (by decide) rfl) rfl (fun _ => ?_) (fun q => absurd rfl q)
  refine zn_iload (pc := 505) (sk_6 (by decide) rfl) rfl ?_
  have fin : Zn g zL_law 522 [some (.ref 0), some (.ref 1), some (.ref 50), some (.ref 66), some (.ref 67), some (.int (nI i)), some (.int (nI k)), some (.int b), none] [] h2 mc ms Q := by
    refine zn_goto (pc := 522) (tgt := 2123) (sk_6 (by decide) rfl) rfl ?_
    exact zn_sub (L' := LO i) ⟨rfl, rfl, rfl, rfl, rfl, rfl, trivial⟩ (K h2 k hJ2)
  refine zn_if_neN (pc := 507) (tgt := 522) (sk_6 (by decide) rfl) rfl (by omega) (fun _ => fin) (fun k0 => ?_)
  obtain ⟨x9, hx9, u9, eu, hu⟩ := hB k0
  subst eu
  refine zn_aload_n (pc := 510) (sk_6 (by decide) rfl) rfl ?_
  refine zn_iconstN (pc := 511) 0 (sk_6 (by decide) rfl) rfl ?_
  refine zn_laldN (pc := 512) (sk_6 (by decide) rfl) (by decide) hx9 (by decide) (by decide) ?_
  refine zn_iload (pc := 513) (sk_6 (by decide) rfl) rfl ?_
  refine zn_i2l (pc := 515) (sk_6 (by decide) rfl) ?_
  refine zn_lcmp (pc := 516) (sk_6 (by decide) rfl) ?_
  exact zn_if_eq (pc := 517) (tgt := 522) (sk_6 (by decide) rfl) rfl (fun _ => fin) (fun q => absurd (by rw [hu]; exact lcmp_self _) q)
theorem lc_6 (hi : i + 5 ≤ n) (hn : n < 2 ^ 20) (hJ : Jk n f k0 hh) (K : ∀ h2 k, Jk n f k h2 → Zn g zL_law 2123 (LO i) [] h2 mc ms Q) : Zn g zL_law 525 (LO i) [] hh (5 + mc) (3300 + ms) Q := by
  obtain ⟨F, S, z, A, X, hJJ, -⟩ := hJ
  have h0 := hJJ.2.2.2.1
  obtain ⟨k, hk, hZ⟩ := P_setCell (g := g) hJJ (f (i + 1)) (f (i + 2))
  refine zn_aload_n (pc := 525) (sk_7 (by decide) rfl) rfl ?_
  refine zn_aload_n (pc := 526) (sk_7 (by decide) rfl) rfl ?_
  refine zn_iload (pc := 527) (sk_7 (by decide) rfl) rfl ?_
  refine zn_iconstN (pc := 529) 1 (sk_7 (by decide) rfl) rfl ?_
  refine zn_iaddN (pc := 530) (sk_7 (by decide) rfl) ?_
  refine zn_ialdN (pc := 531) (sk_7 (by decide) rfl) h0 (by omega) (by omega) ?_
  refine zn_aload_n (pc := 532) (sk_7 (by decide) rfl) rfl ?_
  refine zn_iload (pc := 533) (sk_7 (by decide) rfl) rfl ?_
  refine zn_iconstN (pc := 535) 2 (sk_7 (by decide) rfl) rfl ?_
  refine zn_iaddN (pc := 536) (sk_7 (by decide) rfl) ?_
  refine zn_ialdN (pc := 537) (sk_7 (by decide) rfl) h0 (by omega) (by omega) ?_
  refine zn_aload_n (pc := 538) (sk_7 (by decide) rfl) rfl ?_
  refine zn_callSX (pc := 539) (mc1 := 5) (ms1 := 3300) (mc2 := mc) (ms2 := ms) (J := zL_setCell) (as := [.ref 1, .int (f (i + 1)), .int (f (i + 2)), .ref 66]) (rest := []) (sk_7 (by decide) rfl) (by decide) rfl rfl rfl rfl (by decide) (Nat.le_of_ble_eq_true rfl) (Nat.le_of_ble_eq_true rfl) (Nat.le_of_ble_eq_true rfl) (Nat.le_of_ble_eq_true rfl) hZ ?_ (fun E9 h9 q => by cases q.1)
  rintro v9 h1 ⟨e9, ⟨s0, fs, s50⟩, b, h2, hM, hJ2, hB⟩
  cases e9
  show Zn g zL_law 542 [some (.ref 0), some (.ref 1), some (.ref 50), some (.ref 66), some (.ref 67), some (.int (nI i)), none, none, none] [.int (nI k)] h1 mc ms Q
  refine zn_istore (pc := 542) (L' := [some (.ref 0), some (.ref 1), some (.ref 50), some (.ref 66), some (.ref 67), some (.int (nI i)), some (.int (nI k)), none, none]) (sk_7 (by decide) rfl) (by decide) rfl ?_
  refine zn_aload_n (pc := 544) (sk_7 (by decide) rfl) rfl ?_
  refine zn_aload_n (pc := 545) (sk_7 (by decide) rfl) rfl ?_
  refine zn_iload (pc := 546) (sk_7 (by decide) rfl) rfl ?_
  refine zn_iconstN (pc := 548) 1 (sk_7 (by decide) rfl) rfl ?_
  refine zn_iaddN (pc := 549) (sk_7 (by decide) rfl) ?_
  refine zn_ialdN (pc := 550) (sk_7 (by decide) rfl) s0 (by omega) (by omega) ?_
  refine zn_aload_n (pc := 551) (sk_7 (by decide) rfl) rfl ?_
  refine zn_iload (pc := 552) (sk_7 (by decide) rfl) rfl ?_
  refine zn_iconstN (pc := 554) 2 (sk_7 (by decide) rfl) rfl ?_
  refine zn_iaddN (pc := 555) (sk_7 (by decide) rfl) ?_
  refine zn_ialdN (pc := 556) (sk_7 (by decide) rfl) s0 (by omega) (by omega) ?_
  refine zn_callVx (pc := 557) (J := zX10_setCell) (o := 50) (as := [.int (f (i + 1)), .int (f (i + 2))]) (rest := []) (sk_7 (by decide) rfl) rfl rfl rfl s50 rfl rfl rfl (Nat.le_of_ble_eq_true rfl) (Nat.le_of_ble_eq_true rfl) (Nat.le_of_ble_eq_true rfl) (Nat.le_of_ble_eq_true rfl) hM ?_
  show Zn g zL_law 560 [some (.ref 0), some (.ref 1), some (.ref 50), some (.ref 66), some (.ref 67), some (.int (nI i)), some (.int (nI k)), none, none] [.int b] h2 mc ms Q
  refine zn_istore (pc := 560) (L' := [some (.ref 0), some (.ref 1), some (.ref 50), some (.ref 66), some (.ref 67), some (.int (nI i)), some (.int (nI k)), some (.int b), none]) (sk_7 (by decide) rfl) (by decide) rfl ?_
  refine zn_aload_n (pc := 562) (sk_7 (by decide) rfl) rfl ?_
  obtain ⟨F2, S2, z2, A2, X2, hJ3, e0⟩ := id hJ2
  have hth : Zx g zX10_thrown [.ref 50] h2 (some (.int (nI k))) h2 := by
    have := m_thrown (g := g) (h := h2) (F := F2) (S := S2) (z := z2) (A := A2) (X := X2)
    rw [← hJ3.1, e0] at this
    exact this
  have t50 : h2.1 50 = some (.inr (9, mfl F2 S2)) := by rw [hJ3.1]; rfl
  refine zn_callVx (pc := 563) (J := zX10_thrown) (o := 50) (as := []) (rest := []) (sk_7 (by decide) rfl) rfl rfl rfl t50 rfl rfl rfl (Nat.le_of_ble_eq_true rfl) (Nat.le_of_ble_eq_true rfl) (Nat.le_of_ble_eq_true rfl) (Nat.le_of_ble_eq_true rfl) hth ?_
  show Zn g zL_law 566 [some (.ref 0), some (.ref 1), some (.ref 50), some (.ref 66), some (.ref 67), some (.int (nI i)), some (.int (nI k)), some (.int b), none] [.int (nI k)] h2 mc ms Q
  refine zn_iload (pc := 566) (sk_7 (by decide) rfl) rfl ?_
  refine zn_icmp_eq (pc := 568) (tgt := 573) (sk_7 (by decide) rfl) rfl (fun _ => ?_) (fun q => absurd rfl q)
  refine zn_iload (pc := 573) (sk_7 (by decide) rfl) rfl ?_
  have fin : Zn g zL_law 590 [some (.ref 0), some (.ref 1), some (.ref 50), some (.ref 66), some (.ref 67), some (.int (nI i)), some (.int (nI k)), some (.int b), none] [] h2 mc ms Q := by
    refine zn_goto (pc := 590) (tgt := 2123) (sk_7 (by decide) rfl) rfl ?_
    exact zn_sub (L' := LO i) ⟨rfl, rfl, rfl, rfl, rfl, rfl, trivial⟩ (K h2 k hJ2)
  refine zn_if_neN (pc := 575) (tgt := 590) (sk_7 (by decide) rfl) rfl (by omega) (fun _ => fin) (fun k0 => ?_)
  obtain ⟨x9, hx9, u9, eu, hu⟩ := hB k0
  subst eu
  refine zn_aload_n (pc := 578) (sk_7 (by decide) rfl) rfl ?_
  refine zn_iconstN (pc := 579) 0 (sk_7 (by decide) rfl) rfl ?_
  refine zn_laldN (pc := 580) (sk_7 (by decide) rfl) (by decide) hx9 (by decide) (by decide) ?_
  refine zn_iload (pc := 581) (sk_7 (by decide) rfl) rfl ?_
  refine zn_i2l (pc := 583) (sk_7 (by decide) rfl) ?_
  refine zn_lcmp (pc := 584) (sk_7 (by decide) rfl) ?_
  exact zn_if_eq (pc := 585) (tgt := 590) (sk_7 (by decide) rfl) rfl (fun _ => fin) (fun q => absurd (by rw [hu]; exact lcmp_self _) q)
theorem lc_7 (hi : i + 5 ≤ n) (hn : n < 2 ^ 20) (hJ : Jk n f k0 hh) (K : ∀ h2 k, Jk n f k h2 → Zn g zL_law 2123 (LO i) [] h2 mc ms Q) : Zn g zL_law 593 (LO i) [] hh (5 + mc) (3300 + ms) Q := by
  obtain ⟨F, S, z, A, X, hJJ, -⟩ := hJ
  have h0 := hJJ.2.2.2.1
  obtain ⟨k, hk, hZ⟩ := P_insertLine (g := g) hJJ (f (i + 1))
  refine zn_aload_n (pc := 593) (sk_8 (by decide) rfl) rfl ?_
  refine zn_aload_n (pc := 594) (sk_8 (by decide) rfl) rfl ?_
  refine zn_iload (pc := 595) (sk_8 (by decide) rfl) rfl ?_
  refine zn_iconstN (pc := 597) 1 (sk_8 (by decide) rfl) rfl ?_
  refine zn_iaddN (pc := 598) (sk_8 (by decide) rfl) ?_
  refine zn_ialdN (pc := 599) (sk_8 (by decide) rfl) h0 (by omega) (by omega) ?_
  refine zn_aload_n (pc := 600) (sk_8 (by decide) rfl) rfl ?_
  refine zn_callSX (pc := 601) (mc1 := 5) (ms1 := 3300) (mc2 := mc) (ms2 := ms) (J := zL_insertLine) (as := [.ref 1, .int (f (i + 1)), .ref 66]) (rest := []) (sk_8 (by decide) rfl) (by decide) rfl rfl rfl rfl (by decide) (Nat.le_of_ble_eq_true rfl) (Nat.le_of_ble_eq_true rfl) (Nat.le_of_ble_eq_true rfl) (Nat.le_of_ble_eq_true rfl) hZ ?_ (fun E9 h9 q => by cases q.1)
  rintro v9 h1 ⟨e9, ⟨s0, fs, s50⟩, b, h2, hM, hJ2, hB⟩
  cases e9
  show Zn g zL_law 604 [some (.ref 0), some (.ref 1), some (.ref 50), some (.ref 66), some (.ref 67), some (.int (nI i)), none, none, none] [.int (nI k)] h1 mc ms Q
  refine zn_istore (pc := 604) (L' := [some (.ref 0), some (.ref 1), some (.ref 50), some (.ref 66), some (.ref 67), some (.int (nI i)), some (.int (nI k)), none, none]) (sk_8 (by decide) rfl) (by decide) rfl ?_
  refine zn_aload_n (pc := 606) (sk_8 (by decide) rfl) rfl ?_
  refine zn_aload_n (pc := 607) (sk_8 (by decide) rfl) rfl ?_
  refine zn_iload (pc := 608) (sk_8 (by decide) rfl) rfl ?_
  refine zn_iconstN (pc := 610) 1 (sk_8 (by decide) rfl) rfl ?_
  refine zn_iaddN (pc := 611) (sk_8 (by decide) rfl) ?_
  refine zn_ialdN (pc := 612) (sk_8 (by decide) rfl) s0 (by omega) (by omega) ?_
  refine zn_callVx (pc := 613) (J := zX10_insertLine) (o := 50) (as := [.int (f (i + 1))]) (rest := []) (sk_8 (by decide) rfl) rfl rfl rfl s50 rfl rfl rfl (Nat.le_of_ble_eq_true rfl) (Nat.le_of_ble_eq_true rfl) (Nat.le_of_ble_eq_true rfl) (Nat.le_of_ble_eq_true rfl) hM ?_
  show Zn g zL_law 616 [some (.ref 0), some (.ref 1), some (.ref 50), some (.ref 66), some (.ref 67), some (.int (nI i)), some (.int (nI k)), none, none] [.int b] h2 mc ms Q
  refine zn_istore (pc := 616) (L' := [some (.ref 0), some (.ref 1), some (.ref 50), some (.ref 66), some (.ref 67), some (.int (nI i)), some (.int (nI k)), some (.int b), none]) (sk_8 (by decide) rfl) (by decide) rfl ?_
  refine zn_aload_n (pc := 618) (sk_8 (by decide) rfl) rfl ?_
  obtain ⟨F2, S2, z2, A2, X2, hJ3, e0⟩ := id hJ2
  have hth : Zx g zX10_thrown [.ref 50] h2 (some (.int (nI k))) h2 := by
    have := m_thrown (g := g) (h := h2) (F := F2) (S := S2) (z := z2) (A := A2) (X := X2)
    rw [← hJ3.1, e0] at this
    exact this
  have t50 : h2.1 50 = some (.inr (9, mfl F2 S2)) := by rw [hJ3.1]; rfl
  refine zn_callVx (pc := 619) (J := zX10_thrown) (o := 50) (as := []) (rest := []) (sk_8 (by decide) rfl) rfl rfl rfl t50 rfl rfl rfl (Nat.le_of_ble_eq_true rfl) (Nat.le_of_ble_eq_true rfl) (Nat.le_of_ble_eq_true rfl) (Nat.le_of_ble_eq_true rfl) hth ?_
  show Zn g zL_law 622 [some (.ref 0), some (.ref 1), some (.ref 50), some (.ref 66), some (.ref 67), some (.int (nI i)), some (.int (nI k)), some (.int b), none] [.int (nI k)] h2 mc ms Q
  refine zn_iload (pc := 622) (sk_8 (by decide) rfl) rfl ?_
  refine zn_icmp_eq (pc := 624) (tgt := 629) (sk_8 (by decide) rfl) rfl (fun _ => ?_) (fun q => absurd rfl q)
  refine zn_iload (pc := 629) (sk_8 (by decide) rfl) rfl ?_
  have fin : Zn g zL_law 646 [some (.ref 0), some (.ref 1), some (.ref 50), some (.ref 66), some (.ref 67), some (.int (nI i)), some (.int (nI k)), some (.int b), none] [] h2 mc ms Q := by
    refine zn_goto (pc := 646) (tgt := 2123) (sk_8 (by decide) rfl) rfl ?_
    exact zn_sub (L' := LO i) ⟨rfl, rfl, rfl, rfl, rfl, rfl, trivial⟩ (K h2 k hJ2)
  refine zn_if_neN (pc := 631) (tgt := 646) (sk_8 (by decide) rfl) rfl (by omega) (fun _ => fin) (fun k0 => ?_)
  obtain ⟨x9, hx9, u9, eu, hu⟩ := hB k0
  subst eu
  refine zn_aload_n (pc := 634) (sk_8 (by decide) rfl) rfl ?_
  refine zn_iconstN (pc := 635) 0 (sk_8 (by decide) rfl) rfl ?_
  refine zn_laldN (pc := 636) (sk_8 (by decide) rfl) (by decide) hx9 (by decide) (by decide) ?_
  refine zn_iload (pc := 637) (sk_8 (by decide) rfl) rfl ?_
  refine zn_i2l (pc := 639) (sk_8 (by decide) rfl) ?_
  refine zn_lcmp (pc := 640) (sk_8 (by decide) rfl) ?_
  exact zn_if_eq (pc := 641) (tgt := 646) (sk_8 (by decide) rfl) rfl (fun _ => fin) (fun q => absurd (by rw [hu]; exact lcmp_self _) q)
theorem lc_8 (hi : i + 5 ≤ n) (hn : n < 2 ^ 20) (hJ : Jk n f k0 hh) (K : ∀ h2 k, Jk n f k h2 → Zn g zL_law 2123 (LO i) [] h2 mc ms Q) : Zn g zL_law 649 (LO i) [] hh (5 + mc) (3300 + ms) Q := by
  obtain ⟨F, S, z, A, X, hJJ, -⟩ := hJ
  have h0 := hJJ.2.2.2.1
  obtain ⟨k, hk, hZ⟩ := P_removeLine (g := g) hJJ (f (i + 1))
  refine zn_aload_n (pc := 649) (sk_9 (by decide) rfl) rfl ?_
  refine zn_aload_n (pc := 650) (sk_9 (by decide) rfl) rfl ?_
  refine zn_iload (pc := 651) (sk_9 (by decide) rfl) rfl ?_
  refine zn_iconstN (pc := 653) 1 (sk_9 (by decide) rfl) rfl ?_
  refine zn_iaddN (pc := 654) (sk_9 (by decide) rfl) ?_
  refine zn_ialdN (pc := 655) (sk_9 (by decide) rfl) h0 (by omega) (by omega) ?_
  refine zn_aload_n (pc := 656) (sk_9 (by decide) rfl) rfl ?_
  refine zn_callSX (pc := 657) (mc1 := 5) (ms1 := 3300) (mc2 := mc) (ms2 := ms) (J := zL_removeLine) (as := [.ref 1, .int (f (i + 1)), .ref 66]) (rest := []) (sk_9 (by decide) rfl) (by decide) rfl rfl rfl rfl (by decide) (Nat.le_of_ble_eq_true rfl) (Nat.le_of_ble_eq_true rfl) (Nat.le_of_ble_eq_true rfl) (Nat.le_of_ble_eq_true rfl) hZ ?_ (fun E9 h9 q => by cases q.1)
  rintro v9 h1 ⟨e9, ⟨s0, fs, s50⟩, b, h2, hM, hJ2, hB⟩
  cases e9
  show Zn g zL_law 660 [some (.ref 0), some (.ref 1), some (.ref 50), some (.ref 66), some (.ref 67), some (.int (nI i)), none, none, none] [.int (nI k)] h1 mc ms Q
  refine zn_istore (pc := 660) (L' := [some (.ref 0), some (.ref 1), some (.ref 50), some (.ref 66), some (.ref 67), some (.int (nI i)), some (.int (nI k)), none, none]) (sk_9 (by decide) rfl) (by decide) rfl ?_
  refine zn_aload_n (pc := 662) (sk_9 (by decide) rfl) rfl ?_
  refine zn_aload_n (pc := 663) (sk_9 (by decide) rfl) rfl ?_
  refine zn_iload (pc := 664) (sk_9 (by decide) rfl) rfl ?_
  refine zn_iconstN (pc := 666) 1 (sk_9 (by decide) rfl) rfl ?_
  refine zn_iaddN (pc := 667) (sk_9 (by decide) rfl) ?_
  refine zn_ialdN (pc := 668) (sk_9 (by decide) rfl) s0 (by omega) (by omega) ?_
  refine zn_callVx (pc := 669) (J := zX10_removeLine) (o := 50) (as := [.int (f (i + 1))]) (rest := []) (sk_9 (by decide) rfl) rfl rfl rfl s50 rfl rfl rfl (Nat.le_of_ble_eq_true rfl) (Nat.le_of_ble_eq_true rfl) (Nat.le_of_ble_eq_true rfl) (Nat.le_of_ble_eq_true rfl) hM ?_
  show Zn g zL_law 672 [some (.ref 0), some (.ref 1), some (.ref 50), some (.ref 66), some (.ref 67), some (.int (nI i)), some (.int (nI k)), none, none] [.int b] h2 mc ms Q
  refine zn_istore (pc := 672) (L' := [some (.ref 0), some (.ref 1), some (.ref 50), some (.ref 66), some (.ref 67), some (.int (nI i)), some (.int (nI k)), some (.int b), none]) (sk_9 (by decide) rfl) (by decide) rfl ?_
  refine zn_aload_n (pc := 674) (sk_9 (by decide) rfl) rfl ?_
  obtain ⟨F2, S2, z2, A2, X2, hJ3, e0⟩ := id hJ2
  have hth : Zx g zX10_thrown [.ref 50] h2 (some (.int (nI k))) h2 := by
    have := m_thrown (g := g) (h := h2) (F := F2) (S := S2) (z := z2) (A := A2) (X := X2)
    rw [← hJ3.1, e0] at this
    exact this
  have t50 : h2.1 50 = some (.inr (9, mfl F2 S2)) := by rw [hJ3.1]; rfl
  refine zn_callVx (pc := 675) (J := zX10_thrown) (o := 50) (as := []) (rest := []) (sk_9 (by decide) rfl) rfl rfl rfl t50 rfl rfl rfl (Nat.le_of_ble_eq_true rfl) (Nat.le_of_ble_eq_true rfl) (Nat.le_of_ble_eq_true rfl) (Nat.le_of_ble_eq_true rfl) hth ?_
  show Zn g zL_law 678 [some (.ref 0), some (.ref 1), some (.ref 50), some (.ref 66), some (.ref 67), some (.int (nI i)), some (.int (nI k)), some (.int b), none] [.int (nI k)] h2 mc ms Q
  refine zn_iload (pc := 678) (sk_9 (by decide) rfl) rfl ?_
  refine zn_icmp_eq (pc := 680) (tgt := 685) (sk_9 (by decide) rfl) rfl (fun _ => ?_) (fun q => absurd rfl q)
  refine zn_iload (pc := 685) (sk_9 (by decide) rfl) rfl ?_
  have fin : Zn g zL_law 702 [some (.ref 0), some (.ref 1), some (.ref 50), some (.ref 66), some (.ref 67), some (.int (nI i)), some (.int (nI k)), some (.int b), none] [] h2 mc ms Q := by
    refine zn_goto (pc := 702) (tgt := 2123) (sk_9 (by decide) rfl) rfl ?_
    exact zn_sub (L' := LO i) ⟨rfl, rfl, rfl, rfl, rfl, rfl, trivial⟩ (K h2 k hJ2)
  refine zn_if_neN (pc := 687) (tgt := 702) (sk_9 (by decide) rfl) rfl (by omega) (fun _ => fin) (fun k0 => ?_)
  obtain ⟨x9, hx9, u9, eu, hu⟩ := hB k0
  subst eu
  refine zn_aload_n (pc := 690) (sk_9 (by decide) rfl) rfl ?_
  refine zn_iconstN (pc := 691) 0 (sk_9 (by decide) rfl) rfl ?_
  refine zn_laldN (pc := 692) (sk_9 (by decide) rfl) (by decide) hx9 (by decide) (by decide) ?_
  refine zn_iload (pc := 693) (sk_9 (by decide) rfl) rfl ?_
  refine zn_i2l (pc := 695) (sk_9 (by decide) rfl) ?_
  refine zn_lcmp (pc := 696) (sk_9 (by decide) rfl) ?_
  exact zn_if_eq (pc := 697) (tgt := 702) (sk_9 (by decide) rfl) rfl (fun _ => fin) (fun q => absurd (by rw [hu]; exact lcmp_self _) q)
theorem lc_9 (hi : i + 5 ≤ n) (hn : n < 2 ^ 20) (hJ : Jk n f k0 hh) (K : ∀ h2 k, Jk n f k h2 → Zn g zL_law 2123 (LO i) [] h2 mc ms Q) : Zn g zL_law 705 (LO i) [] hh (5 + mc) (3300 + ms) Q := by
  obtain ⟨F, S, z, A, X, hJJ, -⟩ := hJ
  have h0 := hJJ.2.2.2.1
  obtain ⟨k, hk, hZ⟩ := P_moveLine (g := g) hJJ (f (i + 1)) (f (i + 2))
  refine zn_aload_n (pc := 705) (sk_10 (by decide) rfl) rfl ?_
  refine zn_aload_n (pc := 706) (sk_10 (by decide) rfl) rfl ?_
  refine zn_iload (pc := 707) (sk_10 (by decide) rfl) rfl ?_
  refine zn_iconstN (pc := 709) 1 (sk_10 (by decide) rfl) rfl ?_
  refine zn_iaddN (pc := 710) (sk_10 (by decide) rfl) ?_
  refine zn_ialdN (pc := 711) (sk_10 (by decide) rfl) h0 (by omega) (by omega) ?_
  refine zn_aload_n (pc := 712) (sk_10 (by decide) rfl) rfl ?_
  refine zn_iload (pc := 713) (sk_10 (by decide) rfl) rfl ?_
  refine zn_iconstN (pc := 715) 2 (sk_10 (by decide) rfl) rfl ?_
  refine zn_iaddN (pc := 716) (sk_10 (by decide) rfl) ?_
  refine zn_ialdN (pc := 717) (sk_10 (by decide) rfl) h0 (by omega) (by omega) ?_
  refine zn_aload_n (pc := 718) (sk_10 (by decide) rfl) rfl ?_
  refine zn_callSX (pc := 719) (mc1 := 5) (ms1 := 3300) (mc2 := mc) (ms2 := ms) (J := zL_moveLine) (as := [.ref 1, .int (f (i + 1)), .int (f (i + 2)), .ref 66]) (rest := []) (sk_10 (by decide) rfl) (by decide) rfl rfl rfl rfl (by decide) (Nat.le_of_ble_eq_true rfl) (Nat.le_of_ble_eq_true rfl) (Nat.le_of_ble_eq_true rfl) (Nat.le_of_ble_eq_true rfl) hZ ?_ (fun E9 h9 q => by cases q.1)
  rintro v9 h1 ⟨e9, ⟨s0, fs, s50⟩, b, h2, hM, hJ2, hB⟩
  cases e9
  show Zn g zL_law 722 [some (.ref 0), some (.ref 1), some (.ref 50), some (.ref 66), some (.ref 67), some (.int (nI i)), none, none, none] [.int (nI k)] h1 mc ms Q
  refine zn_istore (pc := 722) (L' := [some (.ref 0), some (.ref 1), some (.ref 50), some (.ref 66), some (.ref 67), some (.int (nI i)), some (.int (nI k)), none, none]) (sk_10 (by decide) rfl) (by decide) rfl ?_
  refine zn_aload_n (pc := 724) (sk_10 (by decide) rfl) rfl ?_
  refine zn_aload_n (pc := 725) (sk_10 (by decide) rfl) rfl ?_
  refine zn_iload (pc := 726) (sk_10 (by decide) rfl) rfl ?_
  refine zn_iconstN (pc := 728) 1 (sk_10 (by decide) rfl) rfl ?_
  refine zn_iaddN (pc := 729) (sk_10 (by decide) rfl) ?_
  refine zn_ialdN (pc := 730) (sk_10 (by decide) rfl) s0 (by omega) (by omega) ?_
  refine zn_aload_n (pc := 731) (sk_10 (by decide) rfl) rfl ?_
  refine zn_iload (pc := 732) (sk_10 (by decide) rfl) rfl ?_
  refine zn_iconstN (pc := 734) 2 (sk_10 (by decide) rfl) rfl ?_
  refine zn_iaddN (pc := 735) (sk_10 (by decide) rfl) ?_
  refine zn_ialdN (pc := 736) (sk_10 (by decide) rfl) s0 (by omega) (by omega) ?_
  refine zn_callVx (pc := 737) (J := zX10_moveLine) (o := 50) (as := [.int (f (i + 1)), .int (f (i + 2))]) (rest := []) (sk_10 (by decide) rfl) rfl rfl rfl s50 rfl rfl rfl (Nat.le_of_ble_eq_true rfl) (Nat.le_of_ble_eq_true rfl) (Nat.le_of_ble_eq_true rfl) (Nat.le_of_ble_eq_true rfl) hM ?_
  show Zn g zL_law 740 [some (.ref 0), some (.ref 1), some (.ref 50), some (.ref 66), some (.ref 67), some (.int (nI i)), some (.int (nI k)), none, none] [.int b] h2 mc ms Q
  refine zn_istore (pc := 740) (L' := [some (.ref 0), some (.ref 1), some (.ref 50), some (.ref 66), some (.ref 67), some (.int (nI i)), some (.int (nI k)), some (.int b), none]) (sk_10 (by decide) rfl) (by decide) rfl ?_
  refine zn_aload_n (pc := 742) (sk_10 (by decide) rfl) rfl ?_
  obtain ⟨F2, S2, z2, A2, X2, hJ3, e0⟩ := id hJ2
  have hth : Zx g zX10_thrown [.ref 50] h2 (some (.int (nI k))) h2 := by
    have := m_thrown (g := g) (h := h2) (F := F2) (S := S2) (z := z2) (A := A2) (X := X2)
    rw [← hJ3.1, e0] at this
    exact this
  have t50 : h2.1 50 = some (.inr (9, mfl F2 S2)) := by rw [hJ3.1]; rfl
  refine zn_callVx (pc := 743) (J := zX10_thrown) (o := 50) (as := []) (rest := []) (sk_10 (by decide) rfl) rfl rfl rfl t50 rfl rfl rfl (Nat.le_of_ble_eq_true rfl) (Nat.le_of_ble_eq_true rfl) (Nat.le_of_ble_eq_true rfl) (Nat.le_of_ble_eq_true rfl) hth ?_
  show Zn g zL_law 746 [some (.ref 0), some (.ref 1), some (.ref 50), some (.ref 66), some (.ref 67), some (.int (nI i)), some (.int (nI k)), some (.int b), none] [.int (nI k)] h2 mc ms Q
  refine zn_iload (pc := 746) (sk_10 (by decide) rfl) rfl ?_
  refine zn_icmp_eq (pc := 748) (tgt := 753) (sk_10 (by decide) rfl) rfl (fun _ => ?_) (fun q => absurd rfl q)
  refine zn_iload (pc := 753) (sk_10 (by decide) rfl) rfl ?_
  have fin : Zn g zL_law 770 [some (.ref 0), some (.ref 1), some (.ref 50), some (.ref 66), some (.ref 67), some (.int (nI i)), some (.int (nI k)), some (.int b), none] [] h2 mc ms Q := by
    refine zn_goto (pc := 770) (tgt := 2123) (sk_10 (by decide) rfl) rfl ?_
    exact zn_sub (L' := LO i) ⟨rfl, rfl, rfl, rfl, rfl, rfl, trivial⟩ (K h2 k hJ2)
  refine zn_if_neN (pc := 755) (tgt := 770) (sk_10 (by decide) rfl) rfl (by omega) (fun _ => fin) (fun k0 => ?_)
  obtain ⟨x9, hx9, u9, eu, hu⟩ := hB k0
  subst eu
  refine zn_aload_n (pc := 758) (sk_10 (by decide) rfl) rfl ?_
  refine zn_iconstN (pc := 759) 0 (sk_10 (by decide) rfl) rfl ?_
  refine zn_laldN (pc := 760) (sk_10 (by decide) rfl) (by decide) hx9 (by decide) (by decide) ?_
  refine zn_iload (pc := 761) (sk_10 (by decide) rfl) rfl ?_
  refine zn_i2l (pc := 763) (sk_10 (by decide) rfl) ?_
  refine zn_lcmp (pc := 764) (sk_10 (by decide) rfl) ?_
  exact zn_if_eq (pc := 765) (tgt := 770) (sk_10 (by decide) rfl) rfl (fun _ => fin) (fun q => absurd (by rw [hu]; exact lcmp_self _) q)
theorem lc_10 (hi : i + 5 ≤ n) (hn : n < 2 ^ 20) (hJ : Jk n f k0 hh) (K : ∀ h2 k, Jk n f k h2 → Zn g zL_law 2123 (LO i) [] h2 mc ms Q) : Zn g zL_law 773 (LO i) [] hh (5 + mc) (3300 + ms) Q := by
  obtain ⟨F, S, z, A, X, hJJ, -⟩ := hJ
  have h0 := hJJ.2.2.2.1
  by_cases hd : f (i + 3) = 0
  · obtain ⟨k, hk, hZ⟩ := P_sort (g := g) (d := 0) hJJ (f (i + 1)) (f (i + 2)) (by omega)
    refine zn_aload_n (pc := 773) (sk_11 (by decide) rfl) rfl ?_
    refine zn_aload_n (pc := 774) (sk_11 (by decide) rfl) rfl ?_
    refine zn_iload (pc := 775) (sk_11 (by decide) rfl) rfl ?_
    refine zn_iconstN (pc := 777) 1 (sk_11 (by decide) rfl) rfl ?_
    refine zn_iaddN (pc := 778) (sk_11 (by decide) rfl) ?_
    refine zn_ialdN (pc := 779) (sk_11 (by decide) rfl) h0 (by omega) (by omega) ?_
    refine zn_aload_n (pc := 780) (sk_11 (by decide) rfl) rfl ?_
    refine zn_iload (pc := 781) (sk_11 (by decide) rfl) rfl ?_
    refine zn_iconstN (pc := 783) 2 (sk_11 (by decide) rfl) rfl ?_
    refine zn_iaddN (pc := 784) (sk_11 (by decide) rfl) ?_
    refine zn_ialdN (pc := 785) (sk_11 (by decide) rfl) h0 (by omega) (by omega) ?_
    refine zn_aload_n (pc := 786) (sk_11 (by decide) rfl) rfl ?_
    refine zn_iload (pc := 787) (sk_11 (by decide) rfl) rfl ?_
    refine zn_iconstN (pc := 789) 3 (sk_11 (by decide) rfl) rfl ?_
    refine zn_iaddN (pc := 790) (sk_11 (by decide) rfl) ?_
    refine zn_ialdN (pc := 791) (sk_11 (by decide) rfl) h0 (by omega) (by omega) ?_
    refine zn_if_eq (pc := 792) (tgt := 799) (sk_11 (by decide) rfl) rfl (fun _ => ?_) (fun q => absurd hd q)
    refine zn_iconstN (pc := 799) 0 (sk_11 (by decide) rfl) rfl ?_
    refine zn_aload_n (pc := 800) (sk_11 (by decide) rfl) rfl ?_
    refine zn_callSX (pc := 801) (mc1 := 5) (ms1 := 3300) (mc2 := mc) (ms2 := ms) (J := zL_sort) (as := [.ref 1, .int (f (i + 1)), .int (f (i + 2)), .int (nI 0), .ref 66]) (rest := []) (sk_11 (by decide) rfl) (by decide) rfl rfl rfl rfl (by decide) (Nat.le_of_ble_eq_true rfl) (Nat.le_of_ble_eq_true rfl) (Nat.le_of_ble_eq_true rfl) (Nat.le_of_ble_eq_true rfl) hZ ?_ (fun E9 h9 q => by cases q.1)
    rintro v9 h1 ⟨e9, ⟨s0, fs, s50⟩, b, h2, hM, hJ2, hB⟩
    cases e9
    show Zn g zL_law 804 [some (.ref 0), some (.ref 1), some (.ref 50), some (.ref 66), some (.ref 67), some (.int (nI i)), none, none, none] [.int (nI k)] h1 mc ms Q
    refine zn_istore (pc := 804) (L' := [some (.ref 0), some (.ref 1), some (.ref 50), some (.ref 66), some (.ref 67), some (.int (nI i)), some (.int (nI k)), none, none]) (sk_11 (by decide) rfl) (by decide) rfl ?_
    refine zn_aload_n (pc := 806) (sk_11 (by decide) rfl) rfl ?_
    refine zn_aload_n (pc := 807) (sk_11 (by decide) rfl) rfl ?_
    refine zn_iload (pc := 808) (sk_11 (by decide) rfl) rfl ?_
    refine zn_iconstN (pc := 810) 1 (sk_11 (by decide) rfl) rfl ?_
    refine zn_iaddN (pc := 811) (sk_11 (by decide) rfl) ?_
    refine zn_ialdN (pc := 812) (sk_11 (by decide) rfl) s0 (by omega) (by omega) ?_
    refine zn_aload_n (pc := 813) (sk_11 (by decide) rfl) rfl ?_
    refine zn_iload (pc := 814) (sk_11 (by decide) rfl) rfl ?_
    refine zn_iconstN (pc := 816) 2 (sk_11 (by decide) rfl) rfl ?_
    refine zn_iaddN (pc := 817) (sk_11 (by decide) rfl) ?_
    refine zn_ialdN (pc := 818) (sk_11 (by decide) rfl) s0 (by omega) (by omega) ?_
    refine zn_aload_n (pc := 819) (sk_11 (by decide) rfl) rfl ?_
    refine zn_iload (pc := 820) (sk_11 (by decide) rfl) rfl ?_
    refine zn_iconstN (pc := 822) 3 (sk_11 (by decide) rfl) rfl ?_
    refine zn_iaddN (pc := 823) (sk_11 (by decide) rfl) ?_
    refine zn_ialdN (pc := 824) (sk_11 (by decide) rfl) s0 (by omega) (by omega) ?_
    refine zn_if_eq (pc := 825) (tgt := 832) (sk_11 (by decide) rfl) rfl (fun _ => ?_) (fun q => absurd hd q)
    refine zn_iconstN (pc := 832) 0 (sk_11 (by decide) rfl) rfl ?_
    refine zn_callVx (pc := 833) (J := zX10_sort) (o := 50) (as := [.int (f (i + 1)), .int (f (i + 2)), .int (nI 0)]) (rest := []) (sk_11 (by decide) rfl) rfl rfl rfl s50 rfl rfl rfl (Nat.le_of_ble_eq_true rfl) (Nat.le_of_ble_eq_true rfl) (Nat.le_of_ble_eq_true rfl) (Nat.le_of_ble_eq_true rfl) hM ?_
    show Zn g zL_law 836 [some (.ref 0), some (.ref 1), some (.ref 50), some (.ref 66), some (.ref 67), some (.int (nI i)), some (.int (nI k)), none, none] [.int b] h2 mc ms Q
    refine zn_istore (pc := 836) (L' := [some (.ref 0), some (.ref 1), some (.ref 50), some (.ref 66), some (.ref 67), some (.int (nI i)), some (.int (nI k)), some (.int b), none]) (sk_11 (by decide) rfl) (by decide) rfl ?_
    refine zn_aload_n (pc := 838) (sk_11 (by decide) rfl) rfl ?_
    obtain ⟨F2, S2, z2, A2, X2, hJ3, e0⟩ := id hJ2
    have hth : Zx g zX10_thrown [.ref 50] h2 (some (.int (nI k))) h2 := by
      have := m_thrown (g := g) (h := h2) (F := F2) (S := S2) (z := z2) (A := A2) (X := X2)
      rw [← hJ3.1, e0] at this
      exact this
    have t50 : h2.1 50 = some (.inr (9, mfl F2 S2)) := by rw [hJ3.1]; rfl
    refine zn_callVx (pc := 839) (J := zX10_thrown) (o := 50) (as := []) (rest := []) (sk_11 (by decide) rfl) rfl rfl rfl t50 rfl rfl rfl (Nat.le_of_ble_eq_true rfl) (Nat.le_of_ble_eq_true rfl) (Nat.le_of_ble_eq_true rfl) (Nat.le_of_ble_eq_true rfl) hth ?_
    show Zn g zL_law 842 [some (.ref 0), some (.ref 1), some (.ref 50), some (.ref 66), some (.ref 67), some (.int (nI i)), some (.int (nI k)), some (.int b), none] [.int (nI k)] h2 mc ms Q
    refine zn_iload (pc := 842) (sk_11 (by decide) rfl) rfl ?_
    refine zn_icmp_eq (pc := 844) (tgt := 849) (sk_11 (by decide) rfl) rfl (fun _ => ?_) (fun q => absurd rfl q)
    refine zn_iload (pc := 849) (sk_11 (by decide) rfl) rfl ?_
    have fin : Zn g zL_law 866 [some (.ref 0), some (.ref 1), some (.ref 50), some (.ref 66), some (.ref 67), some (.int (nI i)), some (.int (nI k)), some (.int b), none] [] h2 mc ms Q := by
      refine zn_goto (pc := 866) (tgt := 2123) (sk_11 (by decide) rfl) rfl ?_
      exact zn_sub (L' := LO i) ⟨rfl, rfl, rfl, rfl, rfl, rfl, trivial⟩ (K h2 k hJ2)
    refine zn_if_neN (pc := 851) (tgt := 866) (sk_11 (by decide) rfl) rfl (by omega) (fun _ => fin) (fun k0 => ?_)
    obtain ⟨x9, hx9, u9, eu, hu⟩ := hB k0
    subst eu
    refine zn_aload_n (pc := 854) (sk_11 (by decide) rfl) rfl ?_
    refine zn_iconstN (pc := 855) 0 (sk_11 (by decide) rfl) rfl ?_
    refine zn_laldN (pc := 856) (sk_11 (by decide) rfl) (by decide) hx9 (by decide) (by decide) ?_
    refine zn_iload (pc := 857) (sk_11 (by decide) rfl) rfl ?_
    refine zn_i2l (pc := 859) (sk_11 (by decide) rfl) ?_
    refine zn_lcmp (pc := 860) (sk_11 (by decide) rfl) ?_
    exact zn_if_eq (pc := 861) (tgt := 866) (sk_11 (by decide) rfl) rfl (fun _ => fin) (fun q => absurd (by rw [hu]; exact lcmp_self _) q)
  · obtain ⟨k, hk, hZ⟩ := P_sort (g := g) (d := 1) hJJ (f (i + 1)) (f (i + 2)) (by omega)
    refine zn_aload_n (pc := 773) (sk_11 (by decide) rfl) rfl ?_
    refine zn_aload_n (pc := 774) (sk_11 (by decide) rfl) rfl ?_
    refine zn_iload (pc := 775) (sk_11 (by decide) rfl) rfl ?_
    refine zn_iconstN (pc := 777) 1 (sk_11 (by decide) rfl) rfl ?_
    refine zn_iaddN (pc := 778) (sk_11 (by decide) rfl) ?_
    refine zn_ialdN (pc := 779) (sk_11 (by decide) rfl) h0 (by omega) (by omega) ?_
    refine zn_aload_n (pc := 780) (sk_11 (by decide) rfl) rfl ?_
    refine zn_iload (pc := 781) (sk_11 (by decide) rfl) rfl ?_
    refine zn_iconstN (pc := 783) 2 (sk_11 (by decide) rfl) rfl ?_
    refine zn_iaddN (pc := 784) (sk_11 (by decide) rfl) ?_
    refine zn_ialdN (pc := 785) (sk_11 (by decide) rfl) h0 (by omega) (by omega) ?_
    refine zn_aload_n (pc := 786) (sk_11 (by decide) rfl) rfl ?_
    refine zn_iload (pc := 787) (sk_11 (by decide) rfl) rfl ?_
    refine zn_iconstN (pc := 789) 3 (sk_11 (by decide) rfl) rfl ?_
    refine zn_iaddN (pc := 790) (sk_11 (by decide) rfl) ?_
    refine zn_ialdN (pc := 791) (sk_11 (by decide) rfl) h0 (by omega) (by omega) ?_
    refine zn_if_eq (pc := 792) (tgt := 799) (sk_11 (by decide) rfl) rfl (fun q => absurd q hd) (fun _ => ?_)
    refine zn_iconstN (pc := 795) 1 (sk_11 (by decide) rfl) rfl ?_
    refine zn_goto (pc := 796) (tgt := 800) (sk_11 (by decide) rfl) rfl ?_
    refine zn_aload_n (pc := 800) (sk_11 (by decide) rfl) rfl ?_
    refine zn_callSX (pc := 801) (mc1 := 5) (ms1 := 3300) (mc2 := mc) (ms2 := ms) (J := zL_sort) (as := [.ref 1, .int (f (i + 1)), .int (f (i + 2)), .int (nI 1), .ref 66]) (rest := []) (sk_11 (by decide) rfl) (by decide) rfl rfl rfl rfl (by decide) (Nat.le_of_ble_eq_true rfl) (Nat.le_of_ble_eq_true rfl) (Nat.le_of_ble_eq_true rfl) (Nat.le_of_ble_eq_true rfl) hZ ?_ (fun E9 h9 q => by cases q.1)
    rintro v9 h1 ⟨e9, ⟨s0, fs, s50⟩, b, h2, hM, hJ2, hB⟩
    cases e9
    show Zn g zL_law 804 [some (.ref 0), some (.ref 1), some (.ref 50), some (.ref 66), some (.ref 67), some (.int (nI i)), none, none, none] [.int (nI k)] h1 mc ms Q
    refine zn_istore (pc := 804) (L' := [some (.ref 0), some (.ref 1), some (.ref 50), some (.ref 66), some (.ref 67), some (.int (nI i)), some (.int (nI k)), none, none]) (sk_11 (by decide) rfl) (by decide) rfl ?_
    refine zn_aload_n (pc := 806) (sk_11 (by decide) rfl) rfl ?_
    refine zn_aload_n (pc := 807) (sk_11 (by decide) rfl) rfl ?_
    refine zn_iload (pc := 808) (sk_11 (by decide) rfl) rfl ?_
    refine zn_iconstN (pc := 810) 1 (sk_11 (by decide) rfl) rfl ?_
    refine zn_iaddN (pc := 811) (sk_11 (by decide) rfl) ?_
    refine zn_ialdN (pc := 812) (sk_11 (by decide) rfl) s0 (by omega) (by omega) ?_
    refine zn_aload_n (pc := 813) (sk_11 (by decide) rfl) rfl ?_
    refine zn_iload (pc := 814) (sk_11 (by decide) rfl) rfl ?_
    refine zn_iconstN (pc := 816) 2 (sk_11 (by decide) rfl) rfl ?_
    refine zn_iaddN (pc := 817) (sk_11 (by decide) rfl) ?_
    refine zn_ialdN (pc := 818) (sk_11 (by decide) rfl) s0 (by omega) (by omega) ?_
    refine zn_aload_n (pc := 819) (sk_11 (by decide) rfl) rfl ?_
    refine zn_iload (pc := 820) (sk_11 (by decide) rfl) rfl ?_
    refine zn_iconstN (pc := 822) 3 (sk_11 (by decide) rfl) rfl ?_
    refine zn_iaddN (pc := 823) (sk_11 (by decide) rfl) ?_
    refine zn_ialdN (pc := 824) (sk_11 (by decide) rfl) s0 (by omega) (by omega) ?_
    refine zn_if_eq (pc := 825) (tgt := 832) (sk_11 (by decide) rfl) rfl (fun q => absurd q hd) (fun _ => ?_)
    refine zn_iconstN (pc := 828) 1 (sk_11 (by decide) rfl) rfl ?_
    refine zn_goto (pc := 829) (tgt := 833) (sk_11 (by decide) rfl) rfl ?_
    refine zn_callVx (pc := 833) (J := zX10_sort) (o := 50) (as := [.int (f (i + 1)), .int (f (i + 2)), .int (nI 1)]) (rest := []) (sk_11 (by decide) rfl) rfl rfl rfl s50 rfl rfl rfl (Nat.le_of_ble_eq_true rfl) (Nat.le_of_ble_eq_true rfl) (Nat.le_of_ble_eq_true rfl) (Nat.le_of_ble_eq_true rfl) hM ?_
    show Zn g zL_law 836 [some (.ref 0), some (.ref 1), some (.ref 50), some (.ref 66), some (.ref 67), some (.int (nI i)), some (.int (nI k)), none, none] [.int b] h2 mc ms Q
    refine zn_istore (pc := 836) (L' := [some (.ref 0), some (.ref 1), some (.ref 50), some (.ref 66), some (.ref 67), some (.int (nI i)), some (.int (nI k)), some (.int b), none]) (sk_11 (by decide) rfl) (by decide) rfl ?_
    refine zn_aload_n (pc := 838) (sk_11 (by decide) rfl) rfl ?_
    obtain ⟨F2, S2, z2, A2, X2, hJ3, e0⟩ := id hJ2
    have hth : Zx g zX10_thrown [.ref 50] h2 (some (.int (nI k))) h2 := by
      have := m_thrown (g := g) (h := h2) (F := F2) (S := S2) (z := z2) (A := A2) (X := X2)
      rw [← hJ3.1, e0] at this
      exact this
    have t50 : h2.1 50 = some (.inr (9, mfl F2 S2)) := by rw [hJ3.1]; rfl
    refine zn_callVx (pc := 839) (J := zX10_thrown) (o := 50) (as := []) (rest := []) (sk_11 (by decide) rfl) rfl rfl rfl t50 rfl rfl rfl (Nat.le_of_ble_eq_true rfl) (Nat.le_of_ble_eq_true rfl) (Nat.le_of_ble_eq_true rfl) (Nat.le_of_ble_eq_true rfl) hth ?_
    show Zn g zL_law 842 [some (.ref 0), some (.ref 1), some (.ref 50), some (.ref 66), some (.ref 67), some (.int (nI i)), some (.int (nI k)), some (.int b), none] [.int (nI k)] h2 mc ms Q
    refine zn_iload (pc := 842) (sk_11 (by decide) rfl) rfl ?_
    refine zn_icmp_eq (pc := 844) (tgt := 849) (sk_11 (by decide) rfl) rfl (fun _ => ?_) (fun q => absurd rfl q)
    refine zn_iload (pc := 849) (sk_11 (by decide) rfl) rfl ?_
    have fin : Zn g zL_law 866 [some (.ref 0), some (.ref 1), some (.ref 50), some (.ref 66), some (.ref 67), some (.int (nI i)), some (.int (nI k)), some (.int b), none] [] h2 mc ms Q := by
      refine zn_goto (pc := 866) (tgt := 2123) (sk_11 (by decide) rfl) rfl ?_
      exact zn_sub (L' := LO i) ⟨rfl, rfl, rfl, rfl, rfl, rfl, trivial⟩ (K h2 k hJ2)
    refine zn_if_neN (pc := 851) (tgt := 866) (sk_11 (by decide) rfl) rfl (by omega) (fun _ => fin) (fun k0 => ?_)
    obtain ⟨x9, hx9, u9, eu, hu⟩ := hB k0
    subst eu
    refine zn_aload_n (pc := 854) (sk_11 (by decide) rfl) rfl ?_
    refine zn_iconstN (pc := 855) 0 (sk_11 (by decide) rfl) rfl ?_
    refine zn_laldN (pc := 856) (sk_11 (by decide) rfl) (by decide) hx9 (by decide) (by decide) ?_
    refine zn_iload (pc := 857) (sk_11 (by decide) rfl) rfl ?_
    refine zn_i2l (pc := 859) (sk_11 (by decide) rfl) ?_
    refine zn_lcmp (pc := 860) (sk_11 (by decide) rfl) ?_
    exact zn_if_eq (pc := 861) (tgt := 866) (sk_11 (by decide) rfl) rfl (fun _ => fin) (fun q => absurd (by rw [hu]; exact lcmp_self _) q)
theorem lc_11 (hi : i + 5 ≤ n) (hn : n < 2 ^ 20) (hJ : Jk n f k0 hh) (K : ∀ h2 k, Jk n f k h2 → Zn g zL_law 2123 (LO i) [] h2 mc ms Q) : Zn g zL_law 869 (LO i) [] hh (5 + mc) (3300 + ms) Q := by
  obtain ⟨F, S, z, A, X, hJJ, -⟩ := hJ
  have h0 := hJJ.2.2.2.1
  obtain ⟨k, hk, hZ⟩ := P_insertColumn (g := g) hJJ (f (i + 1))
  refine zn_aload_n (pc := 869) (sk_12 (by decide) rfl) rfl ?_
  refine zn_aload_n (pc := 870) (sk_12 (by decide) rfl) rfl ?_
  refine zn_iload (pc := 871) (sk_12 (by decide) rfl) rfl ?_
  refine zn_iconstN (pc := 873) 1 (sk_12 (by decide) rfl) rfl ?_
  refine zn_iaddN (pc := 874) (sk_12 (by decide) rfl) ?_
  refine zn_ialdN (pc := 875) (sk_12 (by decide) rfl) h0 (by omega) (by omega) ?_
  refine zn_aload_n (pc := 876) (sk_12 (by decide) rfl) rfl ?_
  refine zn_callSX (pc := 877) (mc1 := 5) (ms1 := 3300) (mc2 := mc) (ms2 := ms) (J := zL_insertColumn) (as := [.ref 1, .int (f (i + 1)), .ref 66]) (rest := []) (sk_12 (by decide) rfl) (by decide) rfl rfl rfl rfl (by decide) (Nat.le_of_ble_eq_true rfl) (Nat.le_of_ble_eq_true rfl) (Nat.le_of_ble_eq_true rfl) (Nat.le_of_ble_eq_true rfl) hZ ?_ (fun E9 h9 q => by cases q.1)
  rintro v9 h1 ⟨e9, ⟨s0, fs, s50⟩, b, h2, hM, hJ2, hB⟩
  cases e9
  show Zn g zL_law 880 [some (.ref 0), some (.ref 1), some (.ref 50), some (.ref 66), some (.ref 67), some (.int (nI i)), none, none, none] [.int (nI k)] h1 mc ms Q
  refine zn_istore (pc := 880) (L' := [some (.ref 0), some (.ref 1), some (.ref 50), some (.ref 66), some (.ref 67), some (.int (nI i)), some (.int (nI k)), none, none]) (sk_12 (by decide) rfl) (by decide) rfl ?_
  refine zn_aload_n (pc := 882) (sk_12 (by decide) rfl) rfl ?_
  refine zn_aload_n (pc := 883) (sk_12 (by decide) rfl) rfl ?_
  refine zn_iload (pc := 884) (sk_12 (by decide) rfl) rfl ?_
  refine zn_iconstN (pc := 886) 1 (sk_12 (by decide) rfl) rfl ?_
  refine zn_iaddN (pc := 887) (sk_12 (by decide) rfl) ?_
  refine zn_ialdN (pc := 888) (sk_12 (by decide) rfl) s0 (by omega) (by omega) ?_
  refine zn_callVx (pc := 889) (J := zX10_insertColumn) (o := 50) (as := [.int (f (i + 1))]) (rest := []) (sk_12 (by decide) rfl) rfl rfl rfl s50 rfl rfl rfl (Nat.le_of_ble_eq_true rfl) (Nat.le_of_ble_eq_true rfl) (Nat.le_of_ble_eq_true rfl) (Nat.le_of_ble_eq_true rfl) hM ?_
  show Zn g zL_law 892 [some (.ref 0), some (.ref 1), some (.ref 50), some (.ref 66), some (.ref 67), some (.int (nI i)), some (.int (nI k)), none, none] [.int b] h2 mc ms Q
  refine zn_istore (pc := 892) (L' := [some (.ref 0), some (.ref 1), some (.ref 50), some (.ref 66), some (.ref 67), some (.int (nI i)), some (.int (nI k)), some (.int b), none]) (sk_12 (by decide) rfl) (by decide) rfl ?_
  refine zn_aload_n (pc := 894) (sk_12 (by decide) rfl) rfl ?_
  obtain ⟨F2, S2, z2, A2, X2, hJ3, e0⟩ := id hJ2
  have hth : Zx g zX10_thrown [.ref 50] h2 (some (.int (nI k))) h2 := by
    have := m_thrown (g := g) (h := h2) (F := F2) (S := S2) (z := z2) (A := A2) (X := X2)
    rw [← hJ3.1, e0] at this
    exact this
  have t50 : h2.1 50 = some (.inr (9, mfl F2 S2)) := by rw [hJ3.1]; rfl
  refine zn_callVx (pc := 895) (J := zX10_thrown) (o := 50) (as := []) (rest := []) (sk_12 (by decide) rfl) rfl rfl rfl t50 rfl rfl rfl (Nat.le_of_ble_eq_true rfl) (Nat.le_of_ble_eq_true rfl) (Nat.le_of_ble_eq_true rfl) (Nat.le_of_ble_eq_true rfl) hth ?_
  show Zn g zL_law 898 [some (.ref 0), some (.ref 1), some (.ref 50), some (.ref 66), some (.ref 67), some (.int (nI i)), some (.int (nI k)), some (.int b), none] [.int (nI k)] h2 mc ms Q
  refine zn_iload (pc := 898) (sk_12 (by decide) rfl) rfl ?_
  refine zn_icmp_eq (pc := 900) (tgt := 905) (sk_12 (by decide) rfl) rfl (fun _ => ?_) (fun q => absurd rfl q)
  refine zn_iload (pc := 905) (sk_12 (by decide) rfl) rfl ?_
  have fin : Zn g zL_law 922 [some (.ref 0), some (.ref 1), some (.ref 50), some (.ref 66), some (.ref 67), some (.int (nI i)), some (.int (nI k)), some (.int b), none] [] h2 mc ms Q := by
    refine zn_goto (pc := 922) (tgt := 2123) (sk_12 (by decide) rfl) rfl ?_
    exact zn_sub (L' := LO i) ⟨rfl, rfl, rfl, rfl, rfl, rfl, trivial⟩ (K h2 k hJ2)
  refine zn_if_neN (pc := 907) (tgt := 922) (sk_12 (by decide) rfl) rfl (by omega) (fun _ => fin) (fun k0 => ?_)
  obtain ⟨x9, hx9, u9, eu, hu⟩ := hB k0
  subst eu
  refine zn_aload_n (pc := 910) (sk_12 (by decide) rfl) rfl ?_
  refine zn_iconstN (pc := 911) 0 (sk_12 (by decide) rfl) rfl ?_
  refine zn_laldN (pc := 912) (sk_12 (by decide) rfl) (by decide) hx9 (by decide) (by decide) ?_
  refine zn_iload (pc := 913) (sk_12 (by decide) rfl) rfl ?_
  refine zn_i2l (pc := 915) (sk_12 (by decide) rfl) ?_
  refine zn_lcmp (pc := 916) (sk_12 (by decide) rfl) ?_
  exact zn_if_eq (pc := 917) (tgt := 922) (sk_12 (by decide) rfl) rfl (fun _ => fin) (fun q => absurd (by rw [hu]; exact lcmp_self _) q)
theorem lc_12 (hi : i + 5 ≤ n) (hn : n < 2 ^ 20) (hJ : Jk n f k0 hh) (K : ∀ h2 k, Jk n f k h2 → Zn g zL_law 2123 (LO i) [] h2 mc ms Q) : Zn g zL_law 925 (LO i) [] hh (5 + mc) (3300 + ms) Q := by
  obtain ⟨F, S, z, A, X, hJJ, -⟩ := hJ
  have h0 := hJJ.2.2.2.1
  obtain ⟨k, hk, hZ⟩ := P_removeColumn (g := g) hJJ (f (i + 1))
  refine zn_aload_n (pc := 925) (sk_13 (by decide) rfl) rfl ?_
  refine zn_aload_n (pc := 926) (sk_13 (by decide) rfl) rfl ?_
  refine zn_iload (pc := 927) (sk_13 (by decide) rfl) rfl ?_
  refine zn_iconstN (pc := 929) 1 (sk_13 (by decide) rfl) rfl ?_
  refine zn_iaddN (pc := 930) (sk_13 (by decide) rfl) ?_
  refine zn_ialdN (pc := 931) (sk_13 (by decide) rfl) h0 (by omega) (by omega) ?_
  refine zn_aload_n (pc := 932) (sk_13 (by decide) rfl) rfl ?_
  refine zn_callSX (pc := 933) (mc1 := 5) (ms1 := 3300) (mc2 := mc) (ms2 := ms) (J := zL_removeColumn) (as := [.ref 1, .int (f (i + 1)), .ref 66]) (rest := []) (sk_13 (by decide) rfl) (by decide) rfl rfl rfl rfl (by decide) (Nat.le_of_ble_eq_true rfl) (Nat.le_of_ble_eq_true rfl) (Nat.le_of_ble_eq_true rfl) (Nat.le_of_ble_eq_true rfl) hZ ?_ (fun E9 h9 q => by cases q.1)
  rintro v9 h1 ⟨e9, ⟨s0, fs, s50⟩, b, h2, hM, hJ2, hB⟩
  cases e9
  show Zn g zL_law 936 [some (.ref 0), some (.ref 1), some (.ref 50), some (.ref 66), some (.ref 67), some (.int (nI i)), none, none, none] [.int (nI k)] h1 mc ms Q
  refine zn_istore (pc := 936) (L' := [some (.ref 0), some (.ref 1), some (.ref 50), some (.ref 66), some (.ref 67), some (.int (nI i)), some (.int (nI k)), none, none]) (sk_13 (by decide) rfl) (by decide) rfl ?_
  refine zn_aload_n (pc := 938) (sk_13 (by decide) rfl) rfl ?_
  refine zn_aload_n (pc := 939) (sk_13 (by decide) rfl) rfl ?_
  refine zn_iload (pc := 940) (sk_13 (by decide) rfl) rfl ?_
  refine zn_iconstN (pc := 942) 1 (sk_13 (by decide) rfl) rfl ?_
  refine zn_iaddN (pc := 943) (sk_13 (by decide) rfl) ?_
  refine zn_ialdN (pc := 944) (sk_13 (by decide) rfl) s0 (by omega) (by omega) ?_
  refine zn_callVx (pc := 945) (J := zX10_removeColumn) (o := 50) (as := [.int (f (i + 1))]) (rest := []) (sk_13 (by decide) rfl) rfl rfl rfl s50 rfl rfl rfl (Nat.le_of_ble_eq_true rfl) (Nat.le_of_ble_eq_true rfl) (Nat.le_of_ble_eq_true rfl) (Nat.le_of_ble_eq_true rfl) hM ?_
  show Zn g zL_law 948 [some (.ref 0), some (.ref 1), some (.ref 50), some (.ref 66), some (.ref 67), some (.int (nI i)), some (.int (nI k)), none, none] [.int b] h2 mc ms Q
  refine zn_istore (pc := 948) (L' := [some (.ref 0), some (.ref 1), some (.ref 50), some (.ref 66), some (.ref 67), some (.int (nI i)), some (.int (nI k)), some (.int b), none]) (sk_13 (by decide) rfl) (by decide) rfl ?_
  refine zn_aload_n (pc := 950) (sk_13 (by decide) rfl) rfl ?_
  obtain ⟨F2, S2, z2, A2, X2, hJ3, e0⟩ := id hJ2
  have hth : Zx g zX10_thrown [.ref 50] h2 (some (.int (nI k))) h2 := by
    have := m_thrown (g := g) (h := h2) (F := F2) (S := S2) (z := z2) (A := A2) (X := X2)
    rw [← hJ3.1, e0] at this
    exact this
  have t50 : h2.1 50 = some (.inr (9, mfl F2 S2)) := by rw [hJ3.1]; rfl
  refine zn_callVx (pc := 951) (J := zX10_thrown) (o := 50) (as := []) (rest := []) (sk_13 (by decide) rfl) rfl rfl rfl t50 rfl rfl rfl (Nat.le_of_ble_eq_true rfl) (Nat.le_of_ble_eq_true rfl) (Nat.le_of_ble_eq_true rfl) (Nat.le_of_ble_eq_true rfl) hth ?_
  show Zn g zL_law 954 [some (.ref 0), some (.ref 1), some (.ref 50), some (.ref 66), some (.ref 67), some (.int (nI i)), some (.int (nI k)), some (.int b), none] [.int (nI k)] h2 mc ms Q
  refine zn_iload (pc := 954) (sk_13 (by decide) rfl) rfl ?_
  refine zn_icmp_eq (pc := 956) (tgt := 961) (sk_13 (by decide) rfl) rfl (fun _ => ?_) (fun q => absurd rfl q)
  refine zn_iload (pc := 961) (sk_13 (by decide) rfl) rfl ?_
  have fin : Zn g zL_law 978 [some (.ref 0), some (.ref 1), some (.ref 50), some (.ref 66), some (.ref 67), some (.int (nI i)), some (.int (nI k)), some (.int b), none] [] h2 mc ms Q := by
    refine zn_goto (pc := 978) (tgt := 2123) (sk_13 (by decide) rfl) rfl ?_
    exact zn_sub (L' := LO i) ⟨rfl, rfl, rfl, rfl, rfl, rfl, trivial⟩ (K h2 k hJ2)
  refine zn_if_neN (pc := 963) (tgt := 978) (sk_13 (by decide) rfl) rfl (by omega) (fun _ => fin) (fun k0 => ?_)
  obtain ⟨x9, hx9, u9, eu, hu⟩ := hB k0
  subst eu
  refine zn_aload_n (pc := 966) (sk_13 (by decide) rfl) rfl ?_
  refine zn_iconstN (pc := 967) 0 (sk_13 (by decide) rfl) rfl ?_
  refine zn_laldN (pc := 968) (sk_13 (by decide) rfl) (by decide) hx9 (by decide) (by decide) ?_
  refine zn_iload (pc := 969) (sk_13 (by decide) rfl) rfl ?_
  refine zn_i2l (pc := 971) (sk_13 (by decide) rfl) ?_
  refine zn_lcmp (pc := 972) (sk_13 (by decide) rfl) ?_
  exact zn_if_eq (pc := 973) (tgt := 978) (sk_13 (by decide) rfl) rfl (fun _ => fin) (fun q => absurd (by rw [hu]; exact lcmp_self _) q)
theorem lc_13 (hi : i + 5 ≤ n) (hn : n < 2 ^ 20) (hJ : Jk n f k0 hh) (K : ∀ h2 k, Jk n f k h2 → Zn g zL_law 2123 (LO i) [] h2 mc ms Q) : Zn g zL_law 981 (LO i) [] hh (5 + mc) (3300 + ms) Q := by
  obtain ⟨F, S, z, A, X, hJJ, -⟩ := hJ
  have h0 := hJJ.2.2.2.1
  obtain ⟨k, hk, hZ⟩ := P_retab (g := g) hJJ (f (i + 1)) (f (i + 2))
  refine zn_aload_n (pc := 981) (sk_14 (by decide) rfl) rfl ?_
  refine zn_aload_n (pc := 982) (sk_14 (by decide) rfl) rfl ?_
  refine zn_iload (pc := 983) (sk_14 (by decide) rfl) rfl ?_
  refine zn_iconstN (pc := 985) 1 (sk_14 (by decide) rfl) rfl ?_
  refine zn_iaddN (pc := 986) (sk_14 (by decide) rfl) ?_
  refine zn_ialdN (pc := 987) (sk_14 (by decide) rfl) h0 (by omega) (by omega) ?_
  refine zn_aload_n (pc := 988) (sk_14 (by decide) rfl) rfl ?_
  refine zn_iload (pc := 989) (sk_14 (by decide) rfl) rfl ?_
  refine zn_iconstN (pc := 991) 2 (sk_14 (by decide) rfl) rfl ?_
  refine zn_iaddN (pc := 992) (sk_14 (by decide) rfl) ?_
  refine zn_ialdN (pc := 993) (sk_14 (by decide) rfl) h0 (by omega) (by omega) ?_
  refine zn_aload_n (pc := 994) (sk_14 (by decide) rfl) rfl ?_
  refine zn_callSX (pc := 995) (mc1 := 5) (ms1 := 3300) (mc2 := mc) (ms2 := ms) (J := zL_retab) (as := [.ref 1, .int (f (i + 1)), .int (f (i + 2)), .ref 66]) (rest := []) (sk_14 (by decide) rfl) (by decide) rfl rfl rfl rfl (by decide) (Nat.le_of_ble_eq_true rfl) (Nat.le_of_ble_eq_true rfl) (Nat.le_of_ble_eq_true rfl) (Nat.le_of_ble_eq_true rfl) hZ ?_ (fun E9 h9 q => by cases q.1)
  rintro v9 h1 ⟨e9, ⟨s0, fs, s50⟩, b, h2, hM, hJ2, hB⟩
  cases e9
  show Zn g zL_law 998 [some (.ref 0), some (.ref 1), some (.ref 50), some (.ref 66), some (.ref 67), some (.int (nI i)), none, none, none] [.int (nI k)] h1 mc ms Q
  refine zn_istore (pc := 998) (L' := [some (.ref 0), some (.ref 1), some (.ref 50), some (.ref 66), some (.ref 67), some (.int (nI i)), some (.int (nI k)), none, none]) (sk_14 (by decide) rfl) (by decide) rfl ?_
  refine zn_aload_n (pc := 1000) (sk_14 (by decide) rfl) rfl ?_
  refine zn_aload_n (pc := 1001) (sk_14 (by decide) rfl) rfl ?_
  refine zn_iload (pc := 1002) (sk_14 (by decide) rfl) rfl ?_
  refine zn_iconstN (pc := 1004) 1 (sk_14 (by decide) rfl) rfl ?_
  refine zn_iaddN (pc := 1005) (sk_14 (by decide) rfl) ?_
  refine zn_ialdN (pc := 1006) (sk_14 (by decide) rfl) s0 (by omega) (by omega) ?_
  refine zn_aload_n (pc := 1007) (sk_14 (by decide) rfl) rfl ?_
  refine zn_iload (pc := 1008) (sk_14 (by decide) rfl) rfl ?_
  refine zn_iconstN (pc := 1010) 2 (sk_14 (by decide) rfl) rfl ?_
  refine zn_iaddN (pc := 1011) (sk_14 (by decide) rfl) ?_
  refine zn_ialdN (pc := 1012) (sk_14 (by decide) rfl) s0 (by omega) (by omega) ?_
  refine zn_callVx (pc := 1013) (J := zX10_retab) (o := 50) (as := [.int (f (i + 1)), .int (f (i + 2))]) (rest := []) (sk_14 (by decide) rfl) rfl rfl rfl s50 rfl rfl rfl (Nat.le_of_ble_eq_true rfl) (Nat.le_of_ble_eq_true rfl) (Nat.le_of_ble_eq_true rfl) (Nat.le_of_ble_eq_true rfl) hM ?_
  show Zn g zL_law 1016 [some (.ref 0), some (.ref 1), some (.ref 50), some (.ref 66), some (.ref 67), some (.int (nI i)), some (.int (nI k)), none, none] [.int b] h2 mc ms Q
  refine zn_istore (pc := 1016) (L' := [some (.ref 0), some (.ref 1), some (.ref 50), some (.ref 66), some (.ref 67), some (.int (nI i)), some (.int (nI k)), some (.int b), none]) (sk_14 (by decide) rfl) (by decide) rfl ?_
  refine zn_aload_n (pc := 1018) (sk_14 (by decide) rfl) rfl ?_
  obtain ⟨F2, S2, z2, A2, X2, hJ3, e0⟩ := id hJ2
  have hth : Zx g zX10_thrown [.ref 50] h2 (some (.int (nI k))) h2 := by
    have := m_thrown (g := g) (h := h2) (F := F2) (S := S2) (z := z2) (A := A2) (X := X2)
    rw [← hJ3.1, e0] at this
    exact this
  have t50 : h2.1 50 = some (.inr (9, mfl F2 S2)) := by rw [hJ3.1]; rfl
  refine zn_callVx (pc := 1019) (J := zX10_thrown) (o := 50) (as := []) (rest := []) (sk_14 (by decide) rfl) rfl rfl rfl t50 rfl rfl rfl (Nat.le_of_ble_eq_true rfl) (Nat.le_of_ble_eq_true rfl) (Nat.le_of_ble_eq_true rfl) (Nat.le_of_ble_eq_true rfl) hth ?_
  show Zn g zL_law 1022 [some (.ref 0), some (.ref 1), some (.ref 50), some (.ref 66), some (.ref 67), some (.int (nI i)), some (.int (nI k)), some (.int b), none] [.int (nI k)] h2 mc ms Q
  refine zn_iload (pc := 1022) (sk_14 (by decide) rfl) rfl ?_
  refine zn_icmp_eq (pc := 1024) (tgt := 1029) (sk_14 (by decide) rfl) rfl (fun _ => ?_) (fun q => absurd rfl q)
  refine zn_iload (pc := 1029) (sk_14 (by decide) rfl) rfl ?_
  have fin : Zn g zL_law 1046 [some (.ref 0), some (.ref 1), some (.ref 50), some (.ref 66), some (.ref 67), some (.int (nI i)), some (.int (nI k)), some (.int b), none] [] h2 mc ms Q := by
    refine zn_goto (pc := 1046) (tgt := 2123) (sk_14 (by decide) rfl) rfl ?_
    exact zn_sub (L' := LO i) ⟨rfl, rfl, rfl, rfl, rfl, rfl, trivial⟩ (K h2 k hJ2)
  refine zn_if_neN (pc := 1031) (tgt := 1046) (sk_14 (by decide) rfl) rfl (by omega) (fun _ => fin) (fun k0 => ?_)
  obtain ⟨x9, hx9, u9, eu, hu⟩ := hB k0
  subst eu
  refine zn_aload_n (pc := 1034) (sk_14 (by decide) rfl) rfl ?_
  refine zn_iconstN (pc := 1035) 0 (sk_14 (by decide) rfl) rfl ?_
  refine zn_laldN (pc := 1036) (sk_14 (by decide) rfl) (by decide) hx9 (by decide) (by decide) ?_
  refine zn_iload (pc := 1037) (sk_14 (by decide) rfl) rfl ?_
  refine zn_i2l (pc := 1039) (sk_14 (by decide) rfl) ?_
  refine zn_lcmp (pc := 1040) (sk_14 (by decide) rfl) ?_
  exact zn_if_eq (pc := 1041) (tgt := 1046) (sk_14 (by decide) rfl) rfl (fun _ => fin) (fun q => absurd (by rw [hu]; exact lcmp_self _) q)
theorem lc_14 (hi : i + 5 ≤ n) (hn : n < 2 ^ 20) (hJ : Jk n f k0 hh) (K : ∀ h2 k, Jk n f k h2 → Zn g zL_law 2123 (LO i) [] h2 mc ms Q) : Zn g zL_law 1049 (LO i) [] hh (5 + mc) (3300 + ms) Q := by
  obtain ⟨F, S, z, A, X, hJJ, -⟩ := hJ
  have h0 := hJJ.2.2.2.1
  obtain ⟨k, hk, hZ⟩ := P_undo (g := g) hJJ 
  refine zn_aload_n (pc := 1049) (sk_15 (by decide) rfl) rfl ?_
  refine zn_aload_n (pc := 1050) (sk_15 (by decide) rfl) rfl ?_
  refine zn_callSX (pc := 1051) (mc1 := 5) (ms1 := 3300) (mc2 := mc) (ms2 := ms) (J := zL_undo) (as := [.ref 1, .ref 66]) (rest := []) (sk_15 (by decide) rfl) (by decide) rfl rfl rfl rfl (by decide) (Nat.le_of_ble_eq_true rfl) (Nat.le_of_ble_eq_true rfl) (Nat.le_of_ble_eq_true rfl) (Nat.le_of_ble_eq_true rfl) hZ ?_ (fun E9 h9 q => by cases q.1)
  rintro v9 h1 ⟨e9, ⟨s0, fs, s50⟩, b, h2, hM, hJ2, hB⟩
  cases e9
  show Zn g zL_law 1054 [some (.ref 0), some (.ref 1), some (.ref 50), some (.ref 66), some (.ref 67), some (.int (nI i)), none, none, none] [.int (nI k)] h1 mc ms Q
  refine zn_istore (pc := 1054) (L' := [some (.ref 0), some (.ref 1), some (.ref 50), some (.ref 66), some (.ref 67), some (.int (nI i)), some (.int (nI k)), none, none]) (sk_15 (by decide) rfl) (by decide) rfl ?_
  refine zn_aload_n (pc := 1056) (sk_15 (by decide) rfl) rfl ?_
  refine zn_callVx (pc := 1057) (J := zX10_undo) (o := 50) (as := []) (rest := []) (sk_15 (by decide) rfl) rfl rfl rfl s50 rfl rfl rfl (Nat.le_of_ble_eq_true rfl) (Nat.le_of_ble_eq_true rfl) (Nat.le_of_ble_eq_true rfl) (Nat.le_of_ble_eq_true rfl) hM ?_
  show Zn g zL_law 1060 [some (.ref 0), some (.ref 1), some (.ref 50), some (.ref 66), some (.ref 67), some (.int (nI i)), some (.int (nI k)), none, none] [.int b] h2 mc ms Q
  refine zn_istore (pc := 1060) (L' := [some (.ref 0), some (.ref 1), some (.ref 50), some (.ref 66), some (.ref 67), some (.int (nI i)), some (.int (nI k)), some (.int b), none]) (sk_15 (by decide) rfl) (by decide) rfl ?_
  refine zn_aload_n (pc := 1062) (sk_15 (by decide) rfl) rfl ?_
  obtain ⟨F2, S2, z2, A2, X2, hJ3, e0⟩ := id hJ2
  have hth : Zx g zX10_thrown [.ref 50] h2 (some (.int (nI k))) h2 := by
    have := m_thrown (g := g) (h := h2) (F := F2) (S := S2) (z := z2) (A := A2) (X := X2)
    rw [← hJ3.1, e0] at this
    exact this
  have t50 : h2.1 50 = some (.inr (9, mfl F2 S2)) := by rw [hJ3.1]; rfl
  refine zn_callVx (pc := 1063) (J := zX10_thrown) (o := 50) (as := []) (rest := []) (sk_15 (by decide) rfl) rfl rfl rfl t50 rfl rfl rfl (Nat.le_of_ble_eq_true rfl) (Nat.le_of_ble_eq_true rfl) (Nat.le_of_ble_eq_true rfl) (Nat.le_of_ble_eq_true rfl) hth ?_
  show Zn g zL_law 1066 [some (.ref 0), some (.ref 1), some (.ref 50), some (.ref 66), some (.ref 67), some (.int (nI i)), some (.int (nI k)), some (.int b), none] [.int (nI k)] h2 mc ms Q
  refine zn_iload (pc := 1066) (sk_15 (by decide) rfl) rfl ?_
  refine zn_icmp_eq (pc := 1068) (tgt := 1073) (sk_15 (by decide) rfl) rfl (fun _ => ?_) (fun q => absurd rfl q)
  refine zn_iload (pc := 1073) (sk_15 (by decide) rfl) rfl ?_
  have fin : Zn g zL_law 1090 [some (.ref 0), some (.ref 1), some (.ref 50), some (.ref 66), some (.ref 67), some (.int (nI i)), some (.int (nI k)), some (.int b), none] [] h2 mc ms Q := by
    refine zn_goto (pc := 1090) (tgt := 2123) (sk_15 (by decide) rfl) rfl ?_
    exact zn_sub (L' := LO i) ⟨rfl, rfl, rfl, rfl, rfl, rfl, trivial⟩ (K h2 k hJ2)
  refine zn_if_neN (pc := 1075) (tgt := 1090) (sk_15 (by decide) rfl) rfl (by omega) (fun _ => fin) (fun k0 => ?_)
  obtain ⟨x9, hx9, u9, eu, hu⟩ := hB k0
  subst eu
  refine zn_aload_n (pc := 1078) (sk_15 (by decide) rfl) rfl ?_
  refine zn_iconstN (pc := 1079) 0 (sk_15 (by decide) rfl) rfl ?_
  refine zn_laldN (pc := 1080) (sk_15 (by decide) rfl) (by decide) hx9 (by decide) (by decide) ?_
  refine zn_iload (pc := 1081) (sk_15 (by decide) rfl) rfl ?_
  refine zn_i2l (pc := 1083) (sk_15 (by decide) rfl) ?_
  refine zn_lcmp (pc := 1084) (sk_15 (by decide) rfl) ?_
  exact zn_if_eq (pc := 1085) (tgt := 1090) (sk_15 (by decide) rfl) rfl (fun _ => fin) (fun q => absurd (by rw [hu]; exact lcmp_self _) q)
theorem lc_15 (hi : i + 5 ≤ n) (hn : n < 2 ^ 20) (hJ : Jk n f k0 hh) (K : ∀ h2 k, Jk n f k h2 → Zn g zL_law 2123 (LO i) [] h2 mc ms Q) : Zn g zL_law 1093 (LO i) [] hh (5 + mc) (3300 + ms) Q := by
  obtain ⟨F, S, z, A, X, hJJ, -⟩ := hJ
  have h0 := hJJ.2.2.2.1
  obtain ⟨k, hk, hZ⟩ := P_redo (g := g) hJJ 
  refine zn_aload_n (pc := 1093) (sk_16 (by decide) rfl) rfl ?_
  refine zn_aload_n (pc := 1094) (sk_16 (by decide) rfl) rfl ?_
  refine zn_callSX (pc := 1095) (mc1 := 5) (ms1 := 3300) (mc2 := mc) (ms2 := ms) (J := zL_redo) (as := [.ref 1, .ref 66]) (rest := []) (sk_16 (by decide) rfl) (by decide) rfl rfl rfl rfl (by decide) (Nat.le_of_ble_eq_true rfl) (Nat.le_of_ble_eq_true rfl) (Nat.le_of_ble_eq_true rfl) (Nat.le_of_ble_eq_true rfl) hZ ?_ (fun E9 h9 q => by cases q.1)
  rintro v9 h1 ⟨e9, ⟨s0, fs, s50⟩, b, h2, hM, hJ2, hB⟩
  cases e9
  show Zn g zL_law 1098 [some (.ref 0), some (.ref 1), some (.ref 50), some (.ref 66), some (.ref 67), some (.int (nI i)), none, none, none] [.int (nI k)] h1 mc ms Q
  refine zn_istore (pc := 1098) (L' := [some (.ref 0), some (.ref 1), some (.ref 50), some (.ref 66), some (.ref 67), some (.int (nI i)), some (.int (nI k)), none, none]) (sk_16 (by decide) rfl) (by decide) rfl ?_
  refine zn_aload_n (pc := 1100) (sk_16 (by decide) rfl) rfl ?_
  refine zn_callVx (pc := 1101) (J := zX10_redo) (o := 50) (as := []) (rest := []) (sk_16 (by decide) rfl) rfl rfl rfl s50 rfl rfl rfl (Nat.le_of_ble_eq_true rfl) (Nat.le_of_ble_eq_true rfl) (Nat.le_of_ble_eq_true rfl) (Nat.le_of_ble_eq_true rfl) hM ?_
  show Zn g zL_law 1104 [some (.ref 0), some (.ref 1), some (.ref 50), some (.ref 66), some (.ref 67), some (.int (nI i)), some (.int (nI k)), none, none] [.int b] h2 mc ms Q
  refine zn_istore (pc := 1104) (L' := [some (.ref 0), some (.ref 1), some (.ref 50), some (.ref 66), some (.ref 67), some (.int (nI i)), some (.int (nI k)), some (.int b), none]) (sk_16 (by decide) rfl) (by decide) rfl ?_
  refine zn_aload_n (pc := 1106) (sk_16 (by decide) rfl) rfl ?_
  obtain ⟨F2, S2, z2, A2, X2, hJ3, e0⟩ := id hJ2
  have hth : Zx g zX10_thrown [.ref 50] h2 (some (.int (nI k))) h2 := by
    have := m_thrown (g := g) (h := h2) (F := F2) (S := S2) (z := z2) (A := A2) (X := X2)
    rw [← hJ3.1, e0] at this
    exact this
  have t50 : h2.1 50 = some (.inr (9, mfl F2 S2)) := by rw [hJ3.1]; rfl
  refine zn_callVx (pc := 1107) (J := zX10_thrown) (o := 50) (as := []) (rest := []) (sk_16 (by decide) rfl) rfl rfl rfl t50 rfl rfl rfl (Nat.le_of_ble_eq_true rfl) (Nat.le_of_ble_eq_true rfl) (Nat.le_of_ble_eq_true rfl) (Nat.le_of_ble_eq_true rfl) hth ?_
  show Zn g zL_law 1110 [some (.ref 0), some (.ref 1), some (.ref 50), some (.ref 66), some (.ref 67), some (.int (nI i)), some (.int (nI k)), some (.int b), none] [.int (nI k)] h2 mc ms Q
  refine zn_iload (pc := 1110) (sk_16 (by decide) rfl) rfl ?_
  refine zn_icmp_eq (pc := 1112) (tgt := 1117) (sk_16 (by decide) rfl) rfl (fun _ => ?_) (fun q => absurd rfl q)
  refine zn_iload (pc := 1117) (sk_16 (by decide) rfl) rfl ?_
  have fin : Zn g zL_law 1134 [some (.ref 0), some (.ref 1), some (.ref 50), some (.ref 66), some (.ref 67), some (.int (nI i)), some (.int (nI k)), some (.int b), none] [] h2 mc ms Q := by
    refine zn_goto (pc := 1134) (tgt := 2123) (sk_16 (by decide) rfl) rfl ?_
    exact zn_sub (L' := LO i) ⟨rfl, rfl, rfl, rfl, rfl, rfl, trivial⟩ (K h2 k hJ2)
  refine zn_if_neN (pc := 1119) (tgt := 1134) (sk_16 (by decide) rfl) rfl (by omega) (fun _ => fin) (fun k0 => ?_)
  obtain ⟨x9, hx9, u9, eu, hu⟩ := hB k0
  subst eu
  refine zn_aload_n (pc := 1122) (sk_16 (by decide) rfl) rfl ?_
  refine zn_iconstN (pc := 1123) 0 (sk_16 (by decide) rfl) rfl ?_
  refine zn_laldN (pc := 1124) (sk_16 (by decide) rfl) (by decide) hx9 (by decide) (by decide) ?_
  refine zn_iload (pc := 1125) (sk_16 (by decide) rfl) rfl ?_
  refine zn_i2l (pc := 1127) (sk_16 (by decide) rfl) ?_
  refine zn_lcmp (pc := 1128) (sk_16 (by decide) rfl) ?_
  exact zn_if_eq (pc := 1129) (tgt := 1134) (sk_16 (by decide) rfl) rfl (fun _ => fin) (fun q => absurd (by rw [hu]; exact lcmp_self _) q)
theorem lc_16 (hi : i + 5 ≤ n) (hn : n < 2 ^ 20) (hJ : Jk n f k0 hh) (K : ∀ h2 k, Jk n f k h2 → Zn g zL_law 2123 (LO i) [] h2 mc ms Q) : Zn g zL_law 1137 (LO i) [] hh (5 + mc) (3300 + ms) Q := by
  obtain ⟨F, S, z, A, X, hJJ, -⟩ := hJ
  have h0 := hJJ.2.2.2.1
  obtain ⟨k, hk, hZ⟩ := P_setAlignment (g := g) hJJ (f (i + 1)) (f (i + 2))
  refine zn_aload_n (pc := 1137) (sk_17 (by decide) rfl) rfl ?_
  refine zn_aload_n (pc := 1138) (sk_17 (by decide) rfl) rfl ?_
  refine zn_iload (pc := 1139) (sk_17 (by decide) rfl) rfl ?_
  refine zn_iconstN (pc := 1141) 1 (sk_17 (by decide) rfl) rfl ?_
  refine zn_iaddN (pc := 1142) (sk_17 (by decide) rfl) ?_
  refine zn_ialdN (pc := 1143) (sk_17 (by decide) rfl) h0 (by omega) (by omega) ?_
  refine zn_aload_n (pc := 1144) (sk_17 (by decide) rfl) rfl ?_
  refine zn_iload (pc := 1145) (sk_17 (by decide) rfl) rfl ?_
  refine zn_iconstN (pc := 1147) 2 (sk_17 (by decide) rfl) rfl ?_
  refine zn_iaddN (pc := 1148) (sk_17 (by decide) rfl) ?_
  refine zn_ialdN (pc := 1149) (sk_17 (by decide) rfl) h0 (by omega) (by omega) ?_
  refine zn_aload_n (pc := 1150) (sk_17 (by decide) rfl) rfl ?_
  refine zn_callSX (pc := 1151) (mc1 := 5) (ms1 := 3300) (mc2 := mc) (ms2 := ms) (J := zL_setAlignment) (as := [.ref 1, .int (f (i + 1)), .int (f (i + 2)), .ref 66]) (rest := []) (sk_17 (by decide) rfl) (by decide) rfl rfl rfl rfl (by decide) (Nat.le_of_ble_eq_true rfl) (Nat.le_of_ble_eq_true rfl) (Nat.le_of_ble_eq_true rfl) (Nat.le_of_ble_eq_true rfl) hZ ?_ (fun E9 h9 q => by cases q.1)
  rintro v9 h1 ⟨e9, ⟨s0, fs, s50⟩, b, h2, hM, hJ2, hB⟩
  cases e9
  show Zn g zL_law 1154 [some (.ref 0), some (.ref 1), some (.ref 50), some (.ref 66), some (.ref 67), some (.int (nI i)), none, none, none] [.int (nI k)] h1 mc ms Q
  refine zn_istore (pc := 1154) (L' := [some (.ref 0), some (.ref 1), some (.ref 50), some (.ref 66), some (.ref 67), some (.int (nI i)), some (.int (nI k)), none, none]) (sk_17 (by decide) rfl) (by decide) rfl ?_
  refine zn_aload_n (pc := 1156) (sk_17 (by decide) rfl) rfl ?_
  refine zn_aload_n (pc := 1157) (sk_17 (by decide) rfl) rfl ?_
  refine zn_iload (pc := 1158) (sk_17 (by decide) rfl) rfl ?_
  refine zn_iconstN (pc := 1160) 1 (sk_17 (by decide) rfl) rfl ?_
  refine zn_iaddN (pc := 1161) (sk_17 (by decide) rfl) ?_
  refine zn_ialdN (pc := 1162) (sk_17 (by decide) rfl) s0 (by omega) (by omega) ?_
  refine zn_aload_n (pc := 1163) (sk_17 (by decide) rfl) rfl ?_
  refine zn_iload (pc := 1164) (sk_17 (by decide) rfl) rfl ?_
  refine zn_iconstN (pc := 1166) 2 (sk_17 (by decide) rfl) rfl ?_
  refine zn_iaddN (pc := 1167) (sk_17 (by decide) rfl) ?_
  refine zn_ialdN (pc := 1168) (sk_17 (by decide) rfl) s0 (by omega) (by omega) ?_
  refine zn_callVx (pc := 1169) (J := zX10_setAlignment) (o := 50) (as := [.int (f (i + 1)), .int (f (i + 2))]) (rest := []) (sk_17 (by decide) rfl) rfl rfl rfl s50 rfl rfl rfl (Nat.le_of_ble_eq_true rfl) (Nat.le_of_ble_eq_true rfl) (Nat.le_of_ble_eq_true rfl) (Nat.le_of_ble_eq_true rfl) hM ?_
  show Zn g zL_law 1172 [some (.ref 0), some (.ref 1), some (.ref 50), some (.ref 66), some (.ref 67), some (.int (nI i)), some (.int (nI k)), none, none] [.int b] h2 mc ms Q
  refine zn_istore (pc := 1172) (L' := [some (.ref 0), some (.ref 1), some (.ref 50), some (.ref 66), some (.ref 67), some (.int (nI i)), some (.int (nI k)), some (.int b), none]) (sk_17 (by decide) rfl) (by decide) rfl ?_
  refine zn_aload_n (pc := 1174) (sk_17 (by decide) rfl) rfl ?_
  obtain ⟨F2, S2, z2, A2, X2, hJ3, e0⟩ := id hJ2
  have hth : Zx g zX10_thrown [.ref 50] h2 (some (.int (nI k))) h2 := by
    have := m_thrown (g := g) (h := h2) (F := F2) (S := S2) (z := z2) (A := A2) (X := X2)
    rw [← hJ3.1, e0] at this
    exact this
  have t50 : h2.1 50 = some (.inr (9, mfl F2 S2)) := by rw [hJ3.1]; rfl
  refine zn_callVx (pc := 1175) (J := zX10_thrown) (o := 50) (as := []) (rest := []) (sk_17 (by decide) rfl) rfl rfl rfl t50 rfl rfl rfl (Nat.le_of_ble_eq_true rfl) (Nat.le_of_ble_eq_true rfl) (Nat.le_of_ble_eq_true rfl) (Nat.le_of_ble_eq_true rfl) hth ?_
  show Zn g zL_law 1178 [some (.ref 0), some (.ref 1), some (.ref 50), some (.ref 66), some (.ref 67), some (.int (nI i)), some (.int (nI k)), some (.int b), none] [.int (nI k)] h2 mc ms Q
  refine zn_iload (pc := 1178) (sk_17 (by decide) rfl) rfl ?_
  refine zn_icmp_eq (pc := 1180) (tgt := 1185) (sk_17 (by decide) rfl) rfl (fun _ => ?_) (fun q => absurd rfl q)
  refine zn_iload (pc := 1185) (sk_17 (by decide) rfl) rfl ?_
  have fin : Zn g zL_law 1202 [some (.ref 0), some (.ref 1), some (.ref 50), some (.ref 66), some (.ref 67), some (.int (nI i)), some (.int (nI k)), some (.int b), none] [] h2 mc ms Q := by
    refine zn_goto (pc := 1202) (tgt := 2123) (sk_17 (by decide) rfl) rfl ?_
    exact zn_sub (L' := LO i) ⟨rfl, rfl, rfl, rfl, rfl, rfl, trivial⟩ (K h2 k hJ2)
  refine zn_if_neN (pc := 1187) (tgt := 1202) (sk_17 (by decide) rfl) rfl (by omega) (fun _ => fin) (fun k0 => ?_)
  obtain ⟨x9, hx9, u9, eu, hu⟩ := hB k0
  subst eu
  refine zn_aload_n (pc := 1190) (sk_17 (by decide) rfl) rfl ?_
  refine zn_iconstN (pc := 1191) 0 (sk_17 (by decide) rfl) rfl ?_
  refine zn_laldN (pc := 1192) (sk_17 (by decide) rfl) (by decide) hx9 (by decide) (by decide) ?_
  refine zn_iload (pc := 1193) (sk_17 (by decide) rfl) rfl ?_
  refine zn_i2l (pc := 1195) (sk_17 (by decide) rfl) ?_
  refine zn_lcmp (pc := 1196) (sk_17 (by decide) rfl) ?_
  exact zn_if_eq (pc := 1197) (tgt := 1202) (sk_17 (by decide) rfl) rfl (fun _ => fin) (fun q => absurd (by rw [hu]; exact lcmp_self _) q)
theorem lc_17 (hi : i + 5 ≤ n) (hn : n < 2 ^ 20) (hJ : Jk n f k0 hh) (K : ∀ h2 k, Jk n f k h2 → Zn g zL_law 2123 (LO i) [] h2 mc ms Q) : Zn g zL_law 1205 (LO i) [] hh (5 + mc) (3300 + ms) Q := by
  obtain ⟨F, S, z, A, X, hJJ, -⟩ := hJ
  have h0 := hJJ.2.2.2.1
  obtain ⟨k, hk, hZ⟩ := P_setSpacing (g := g) hJJ (f (i + 1)) (f (i + 2))
  refine zn_aload_n (pc := 1205) (sk_18 (by decide) rfl) rfl ?_
  refine zn_aload_n (pc := 1206) (sk_18 (by decide) rfl) rfl ?_
  refine zn_iload (pc := 1207) (sk_18 (by decide) rfl) rfl ?_
  refine zn_iconstN (pc := 1209) 1 (sk_18 (by decide) rfl) rfl ?_
  refine zn_iaddN (pc := 1210) (sk_18 (by decide) rfl) ?_
  refine zn_ialdN (pc := 1211) (sk_18 (by decide) rfl) h0 (by omega) (by omega) ?_
  refine zn_aload_n (pc := 1212) (sk_18 (by decide) rfl) rfl ?_
  refine zn_iload (pc := 1213) (sk_18 (by decide) rfl) rfl ?_
  refine zn_iconstN (pc := 1215) 2 (sk_18 (by decide) rfl) rfl ?_
  refine zn_iaddN (pc := 1216) (sk_18 (by decide) rfl) ?_
  refine zn_ialdN (pc := 1217) (sk_18 (by decide) rfl) h0 (by omega) (by omega) ?_
  refine zn_aload_n (pc := 1218) (sk_18 (by decide) rfl) rfl ?_
  refine zn_callSX (pc := 1219) (mc1 := 5) (ms1 := 3300) (mc2 := mc) (ms2 := ms) (J := zL_setSpacing) (as := [.ref 1, .int (f (i + 1)), .int (f (i + 2)), .ref 66]) (rest := []) (sk_18 (by decide) rfl) (by decide) rfl rfl rfl rfl (by decide) (Nat.le_of_ble_eq_true rfl) (Nat.le_of_ble_eq_true rfl) (Nat.le_of_ble_eq_true rfl) (Nat.le_of_ble_eq_true rfl) hZ ?_ (fun E9 h9 q => by cases q.1)
  rintro v9 h1 ⟨e9, ⟨s0, fs, s50⟩, b, h2, hM, hJ2, hB⟩
  cases e9
  show Zn g zL_law 1222 [some (.ref 0), some (.ref 1), some (.ref 50), some (.ref 66), some (.ref 67), some (.int (nI i)), none, none, none] [.int (nI k)] h1 mc ms Q
  refine zn_istore (pc := 1222) (L' := [some (.ref 0), some (.ref 1), some (.ref 50), some (.ref 66), some (.ref 67), some (.int (nI i)), some (.int (nI k)), none, none]) (sk_18 (by decide) rfl) (by decide) rfl ?_
  refine zn_aload_n (pc := 1224) (sk_18 (by decide) rfl) rfl ?_
  refine zn_aload_n (pc := 1225) (sk_18 (by decide) rfl) rfl ?_
  refine zn_iload (pc := 1226) (sk_18 (by decide) rfl) rfl ?_
  refine zn_iconstN (pc := 1228) 1 (sk_18 (by decide) rfl) rfl ?_
  refine zn_iaddN (pc := 1229) (sk_18 (by decide) rfl) ?_
  refine zn_ialdN (pc := 1230) (sk_18 (by decide) rfl) s0 (by omega) (by omega) ?_
  refine zn_aload_n (pc := 1231) (sk_18 (by decide) rfl) rfl ?_
  refine zn_iload (pc := 1232) (sk_18 (by decide) rfl) rfl ?_
  refine zn_iconstN (pc := 1234) 2 (sk_18 (by decide) rfl) rfl ?_
  refine zn_iaddN (pc := 1235) (sk_18 (by decide) rfl) ?_
  refine zn_ialdN (pc := 1236) (sk_18 (by decide) rfl) s0 (by omega) (by omega) ?_
  refine zn_callVx (pc := 1237) (J := zX10_setSpacing) (o := 50) (as := [.int (f (i + 1)), .int (f (i + 2))]) (rest := []) (sk_18 (by decide) rfl) rfl rfl rfl s50 rfl rfl rfl (Nat.le_of_ble_eq_true rfl) (Nat.le_of_ble_eq_true rfl) (Nat.le_of_ble_eq_true rfl) (Nat.le_of_ble_eq_true rfl) hM ?_
  show Zn g zL_law 1240 [some (.ref 0), some (.ref 1), some (.ref 50), some (.ref 66), some (.ref 67), some (.int (nI i)), some (.int (nI k)), none, none] [.int b] h2 mc ms Q
  refine zn_istore (pc := 1240) (L' := [some (.ref 0), some (.ref 1), some (.ref 50), some (.ref 66), some (.ref 67), some (.int (nI i)), some (.int (nI k)), some (.int b), none]) (sk_18 (by decide) rfl) (by decide) rfl ?_
  refine zn_aload_n (pc := 1242) (sk_18 (by decide) rfl) rfl ?_
  obtain ⟨F2, S2, z2, A2, X2, hJ3, e0⟩ := id hJ2
  have hth : Zx g zX10_thrown [.ref 50] h2 (some (.int (nI k))) h2 := by
    have := m_thrown (g := g) (h := h2) (F := F2) (S := S2) (z := z2) (A := A2) (X := X2)
    rw [← hJ3.1, e0] at this
    exact this
  have t50 : h2.1 50 = some (.inr (9, mfl F2 S2)) := by rw [hJ3.1]; rfl
  refine zn_callVx (pc := 1243) (J := zX10_thrown) (o := 50) (as := []) (rest := []) (sk_18 (by decide) rfl) rfl rfl rfl t50 rfl rfl rfl (Nat.le_of_ble_eq_true rfl) (Nat.le_of_ble_eq_true rfl) (Nat.le_of_ble_eq_true rfl) (Nat.le_of_ble_eq_true rfl) hth ?_
  show Zn g zL_law 1246 [some (.ref 0), some (.ref 1), some (.ref 50), some (.ref 66), some (.ref 67), some (.int (nI i)), some (.int (nI k)), some (.int b), none] [.int (nI k)] h2 mc ms Q
  refine zn_iload (pc := 1246) (sk_18 (by decide) rfl) rfl ?_
  refine zn_icmp_eq (pc := 1248) (tgt := 1253) (sk_18 (by decide) rfl) rfl (fun _ => ?_) (fun q => absurd rfl q)
  refine zn_iload (pc := 1253) (sk_18 (by decide) rfl) rfl ?_
  have fin : Zn g zL_law 1270 [some (.ref 0), some (.ref 1), some (.ref 50), some (.ref 66), some (.ref 67), some (.int (nI i)), some (.int (nI k)), some (.int b), none] [] h2 mc ms Q := by
    refine zn_goto (pc := 1270) (tgt := 2123) (sk_18 (by decide) rfl) rfl ?_
    exact zn_sub (L' := LO i) ⟨rfl, rfl, rfl, rfl, rfl, rfl, trivial⟩ (K h2 k hJ2)
  refine zn_if_neN (pc := 1255) (tgt := 1270) (sk_18 (by decide) rfl) rfl (by omega) (fun _ => fin) (fun k0 => ?_)
  obtain ⟨x9, hx9, u9, eu, hu⟩ := hB k0
  subst eu
  refine zn_aload_n (pc := 1258) (sk_18 (by decide) rfl) rfl ?_
  refine zn_iconstN (pc := 1259) 0 (sk_18 (by decide) rfl) rfl ?_
  refine zn_laldN (pc := 1260) (sk_18 (by decide) rfl) (by decide) hx9 (by decide) (by decide) ?_
  refine zn_iload (pc := 1261) (sk_18 (by decide) rfl) rfl ?_
  refine zn_i2l (pc := 1263) (sk_18 (by decide) rfl) ?_
  refine zn_lcmp (pc := 1264) (sk_18 (by decide) rfl) ?_
  exact zn_if_eq (pc := 1265) (tgt := 1270) (sk_18 (by decide) rfl) rfl (fun _ => fin) (fun q => absurd (by rw [hu]; exact lcmp_self _) q)
theorem lc_18 (hi : i + 5 ≤ n) (hn : n < 2 ^ 20) (hJ : Jk n f k0 hh) (K : ∀ h2 k, Jk n f k h2 → Zn g zL_law 2123 (LO i) [] h2 mc ms Q) : Zn g zL_law 1273 (LO i) [] hh (5 + mc) (3300 + ms) Q := by
  obtain ⟨F, S, z, A, X, hJJ, -⟩ := hJ
  have h0 := hJJ.2.2.2.1
  obtain ⟨k, hk, hZ⟩ := P_count (g := g) hJJ (f (i + 1))
  refine zn_aload_n (pc := 1273) (sk_19 (by decide) rfl) rfl ?_
  refine zn_aload_n (pc := 1274) (sk_19 (by decide) rfl) rfl ?_
  refine zn_iload (pc := 1275) (sk_19 (by decide) rfl) rfl ?_
  refine zn_iconstN (pc := 1277) 1 (sk_19 (by decide) rfl) rfl ?_
  refine zn_iaddN (pc := 1278) (sk_19 (by decide) rfl) ?_
  refine zn_ialdN (pc := 1279) (sk_19 (by decide) rfl) h0 (by omega) (by omega) ?_
  refine zn_aload_n (pc := 1280) (sk_19 (by decide) rfl) rfl ?_
  refine zn_callSX (pc := 1281) (mc1 := 5) (ms1 := 3300) (mc2 := mc) (ms2 := ms) (J := zL_count) (as := [.ref 1, .int (f (i + 1)), .ref 66]) (rest := []) (sk_19 (by decide) rfl) (by decide) rfl rfl rfl rfl (by decide) (Nat.le_of_ble_eq_true rfl) (Nat.le_of_ble_eq_true rfl) (Nat.le_of_ble_eq_true rfl) (Nat.le_of_ble_eq_true rfl) hZ ?_ (fun E9 h9 q => by cases q.1)
  rintro v9 h1 ⟨e9, ⟨s0, fs, s50⟩, b, h2, hM, hJ2, hB⟩
  cases e9
  show Zn g zL_law 1284 [some (.ref 0), some (.ref 1), some (.ref 50), some (.ref 66), some (.ref 67), some (.int (nI i)), none, none, none] [.int (nI k)] h1 mc ms Q
  refine zn_istore (pc := 1284) (L' := [some (.ref 0), some (.ref 1), some (.ref 50), some (.ref 66), some (.ref 67), some (.int (nI i)), some (.int (nI k)), none, none]) (sk_19 (by decide) rfl) (by decide) rfl ?_
  refine zn_aload_n (pc := 1286) (sk_19 (by decide) rfl) rfl ?_
  refine zn_aload_n (pc := 1287) (sk_19 (by decide) rfl) rfl ?_
  refine zn_iload (pc := 1288) (sk_19 (by decide) rfl) rfl ?_
  refine zn_iconstN (pc := 1290) 1 (sk_19 (by decide) rfl) rfl ?_
  refine zn_iaddN (pc := 1291) (sk_19 (by decide) rfl) ?_
  refine zn_ialdN (pc := 1292) (sk_19 (by decide) rfl) s0 (by omega) (by omega) ?_
  refine zn_callVx (pc := 1293) (J := zX10_count) (o := 50) (as := [.int (f (i + 1))]) (rest := []) (sk_19 (by decide) rfl) rfl rfl rfl s50 rfl rfl rfl (Nat.le_of_ble_eq_true rfl) (Nat.le_of_ble_eq_true rfl) (Nat.le_of_ble_eq_true rfl) (Nat.le_of_ble_eq_true rfl) hM ?_
  show Zn g zL_law 1296 [some (.ref 0), some (.ref 1), some (.ref 50), some (.ref 66), some (.ref 67), some (.int (nI i)), some (.int (nI k)), none, none] [.int b] h2 mc ms Q
  refine zn_istore (pc := 1296) (L' := [some (.ref 0), some (.ref 1), some (.ref 50), some (.ref 66), some (.ref 67), some (.int (nI i)), some (.int (nI k)), some (.int b), none]) (sk_19 (by decide) rfl) (by decide) rfl ?_
  refine zn_aload_n (pc := 1298) (sk_19 (by decide) rfl) rfl ?_
  obtain ⟨F2, S2, z2, A2, X2, hJ3, e0⟩ := id hJ2
  have hth : Zx g zX10_thrown [.ref 50] h2 (some (.int (nI k))) h2 := by
    have := m_thrown (g := g) (h := h2) (F := F2) (S := S2) (z := z2) (A := A2) (X := X2)
    rw [← hJ3.1, e0] at this
    exact this
  have t50 : h2.1 50 = some (.inr (9, mfl F2 S2)) := by rw [hJ3.1]; rfl
  refine zn_callVx (pc := 1299) (J := zX10_thrown) (o := 50) (as := []) (rest := []) (sk_19 (by decide) rfl) rfl rfl rfl t50 rfl rfl rfl (Nat.le_of_ble_eq_true rfl) (Nat.le_of_ble_eq_true rfl) (Nat.le_of_ble_eq_true rfl) (Nat.le_of_ble_eq_true rfl) hth ?_
  show Zn g zL_law 1302 [some (.ref 0), some (.ref 1), some (.ref 50), some (.ref 66), some (.ref 67), some (.int (nI i)), some (.int (nI k)), some (.int b), none] [.int (nI k)] h2 mc ms Q
  refine zn_iload (pc := 1302) (sk_19 (by decide) rfl) rfl ?_
  refine zn_icmp_eq (pc := 1304) (tgt := 1309) (sk_19 (by decide) rfl) rfl (fun _ => ?_) (fun q => absurd rfl q)
  refine zn_iload (pc := 1309) (sk_19 (by decide) rfl) rfl ?_
  have fin : Zn g zL_law 1326 [some (.ref 0), some (.ref 1), some (.ref 50), some (.ref 66), some (.ref 67), some (.int (nI i)), some (.int (nI k)), some (.int b), none] [] h2 mc ms Q := by
    refine zn_goto (pc := 1326) (tgt := 2123) (sk_19 (by decide) rfl) rfl ?_
    exact zn_sub (L' := LO i) ⟨rfl, rfl, rfl, rfl, rfl, rfl, trivial⟩ (K h2 k hJ2)
  refine zn_if_neN (pc := 1311) (tgt := 1326) (sk_19 (by decide) rfl) rfl (by omega) (fun _ => fin) (fun k0 => ?_)
  obtain ⟨x9, hx9, u9, eu, hu⟩ := hB k0
  subst eu
  refine zn_aload_n (pc := 1314) (sk_19 (by decide) rfl) rfl ?_
  refine zn_iconstN (pc := 1315) 0 (sk_19 (by decide) rfl) rfl ?_
  refine zn_laldN (pc := 1316) (sk_19 (by decide) rfl) (by decide) hx9 (by decide) (by decide) ?_
  refine zn_iload (pc := 1317) (sk_19 (by decide) rfl) rfl ?_
  refine zn_i2l (pc := 1319) (sk_19 (by decide) rfl) ?_
  refine zn_lcmp (pc := 1320) (sk_19 (by decide) rfl) ?_
  exact zn_if_eq (pc := 1321) (tgt := 1326) (sk_19 (by decide) rfl) rfl (fun _ => fin) (fun q => absurd (by rw [hu]; exact lcmp_self _) q)
theorem lc_19 (hi : i + 5 ≤ n) (hn : n < 2 ^ 20) (hJ : Jk n f k0 hh) (K : ∀ h2 k, Jk n f k h2 → Zn g zL_law 2123 (LO i) [] h2 mc ms Q) : Zn g zL_law 1329 (LO i) [] hh (5 + mc) (3300 + ms) Q := by
  obtain ⟨F, S, z, A, X, hJJ, -⟩ := hJ
  have h0 := hJJ.2.2.2.1
  obtain ⟨k, hk, hZ⟩ := P_line (g := g) hJJ (f (i + 1)) (f (i + 2))
  refine zn_aload_n (pc := 1329) (sk_20 (by decide) rfl) rfl ?_
  refine zn_aload_n (pc := 1330) (sk_20 (by decide) rfl) rfl ?_
  refine zn_iload (pc := 1331) (sk_20 (by decide) rfl) rfl ?_
  refine zn_iconstN (pc := 1333) 1 (sk_20 (by decide) rfl) rfl ?_
  refine zn_iaddN (pc := 1334) (sk_20 (by decide) rfl) ?_
  refine zn_ialdN (pc := 1335) (sk_20 (by decide) rfl) h0 (by omega) (by omega) ?_
  refine zn_aload_n (pc := 1336) (sk_20 (by decide) rfl) rfl ?_
  refine zn_iload (pc := 1337) (sk_20 (by decide) rfl) rfl ?_
  refine zn_iconstN (pc := 1339) 2 (sk_20 (by decide) rfl) rfl ?_
  refine zn_iaddN (pc := 1340) (sk_20 (by decide) rfl) ?_
  refine zn_ialdN (pc := 1341) (sk_20 (by decide) rfl) h0 (by omega) (by omega) ?_
  refine zn_aload_n (pc := 1342) (sk_20 (by decide) rfl) rfl ?_
  refine zn_callSX (pc := 1343) (mc1 := 5) (ms1 := 3300) (mc2 := mc) (ms2 := ms) (J := zL_line) (as := [.ref 1, .int (f (i + 1)), .int (f (i + 2)), .ref 66]) (rest := []) (sk_20 (by decide) rfl) (by decide) rfl rfl rfl rfl (by decide) (Nat.le_of_ble_eq_true rfl) (Nat.le_of_ble_eq_true rfl) (Nat.le_of_ble_eq_true rfl) (Nat.le_of_ble_eq_true rfl) hZ ?_ (fun E9 h9 q => by cases q.1)
  rintro v9 h1 ⟨e9, ⟨s0, fs, s50⟩, b, h2, hM, hJ2, hB⟩
  cases e9
  show Zn g zL_law 1346 [some (.ref 0), some (.ref 1), some (.ref 50), some (.ref 66), some (.ref 67), some (.int (nI i)), none, none, none] [.int (nI k)] h1 mc ms Q
  refine zn_istore (pc := 1346) (L' := [some (.ref 0), some (.ref 1), some (.ref 50), some (.ref 66), some (.ref 67), some (.int (nI i)), some (.int (nI k)), none, none]) (sk_20 (by decide) rfl) (by decide) rfl ?_
  refine zn_aload_n (pc := 1348) (sk_20 (by decide) rfl) rfl ?_
  refine zn_aload_n (pc := 1349) (sk_20 (by decide) rfl) rfl ?_
  refine zn_iload (pc := 1350) (sk_20 (by decide) rfl) rfl ?_
  refine zn_iconstN (pc := 1352) 1 (sk_20 (by decide) rfl) rfl ?_
  refine zn_iaddN (pc := 1353) (sk_20 (by decide) rfl) ?_
  refine zn_ialdN (pc := 1354) (sk_20 (by decide) rfl) s0 (by omega) (by omega) ?_
  refine zn_aload_n (pc := 1355) (sk_20 (by decide) rfl) rfl ?_
  refine zn_iload (pc := 1356) (sk_20 (by decide) rfl) rfl ?_
  refine zn_iconstN (pc := 1358) 2 (sk_20 (by decide) rfl) rfl ?_
  refine zn_iaddN (pc := 1359) (sk_20 (by decide) rfl) ?_
  refine zn_ialdN (pc := 1360) (sk_20 (by decide) rfl) s0 (by omega) (by omega) ?_
  refine zn_callVx (pc := 1361) (J := zX10_line) (o := 50) (as := [.int (f (i + 1)), .int (f (i + 2))]) (rest := []) (sk_20 (by decide) rfl) rfl rfl rfl s50 rfl rfl rfl (Nat.le_of_ble_eq_true rfl) (Nat.le_of_ble_eq_true rfl) (Nat.le_of_ble_eq_true rfl) (Nat.le_of_ble_eq_true rfl) hM ?_
  show Zn g zL_law 1364 [some (.ref 0), some (.ref 1), some (.ref 50), some (.ref 66), some (.ref 67), some (.int (nI i)), some (.int (nI k)), none, none] [.int b] h2 mc ms Q
  refine zn_istore (pc := 1364) (L' := [some (.ref 0), some (.ref 1), some (.ref 50), some (.ref 66), some (.ref 67), some (.int (nI i)), some (.int (nI k)), some (.int b), none]) (sk_20 (by decide) rfl) (by decide) rfl ?_
  refine zn_aload_n (pc := 1366) (sk_20 (by decide) rfl) rfl ?_
  obtain ⟨F2, S2, z2, A2, X2, hJ3, e0⟩ := id hJ2
  have hth : Zx g zX10_thrown [.ref 50] h2 (some (.int (nI k))) h2 := by
    have := m_thrown (g := g) (h := h2) (F := F2) (S := S2) (z := z2) (A := A2) (X := X2)
    rw [← hJ3.1, e0] at this
    exact this
  have t50 : h2.1 50 = some (.inr (9, mfl F2 S2)) := by rw [hJ3.1]; rfl
  refine zn_callVx (pc := 1367) (J := zX10_thrown) (o := 50) (as := []) (rest := []) (sk_20 (by decide) rfl) rfl rfl rfl t50 rfl rfl rfl (Nat.le_of_ble_eq_true rfl) (Nat.le_of_ble_eq_true rfl) (Nat.le_of_ble_eq_true rfl) (Nat.le_of_ble_eq_true rfl) hth ?_
  show Zn g zL_law 1370 [some (.ref 0), some (.ref 1), some (.ref 50), some (.ref 66), some (.ref 67), some (.int (nI i)), some (.int (nI k)), some (.int b), none] [.int (nI k)] h2 mc ms Q
  refine zn_iload (pc := 1370) (sk_20 (by decide) rfl) rfl ?_
  refine zn_icmp_eq (pc := 1372) (tgt := 1377) (sk_20 (by decide) rfl) rfl (fun _ => ?_) (fun q => absurd rfl q)
  refine zn_iload (pc := 1377) (sk_20 (by decide) rfl) rfl ?_
  have fin : Zn g zL_law 1394 [some (.ref 0), some (.ref 1), some (.ref 50), some (.ref 66), some (.ref 67), some (.int (nI i)), some (.int (nI k)), some (.int b), none] [] h2 mc ms Q := by
    refine zn_goto (pc := 1394) (tgt := 2123) (sk_20 (by decide) rfl) rfl ?_
    exact zn_sub (L' := LO i) ⟨rfl, rfl, rfl, rfl, rfl, rfl, trivial⟩ (K h2 k hJ2)
  refine zn_if_neN (pc := 1379) (tgt := 1394) (sk_20 (by decide) rfl) rfl (by omega) (fun _ => fin) (fun k0 => ?_)
  obtain ⟨x9, hx9, u9, eu, hu⟩ := hB k0
  subst eu
  refine zn_aload_n (pc := 1382) (sk_20 (by decide) rfl) rfl ?_
  refine zn_iconstN (pc := 1383) 0 (sk_20 (by decide) rfl) rfl ?_
  refine zn_laldN (pc := 1384) (sk_20 (by decide) rfl) (by decide) hx9 (by decide) (by decide) ?_
  refine zn_iload (pc := 1385) (sk_20 (by decide) rfl) rfl ?_
  refine zn_i2l (pc := 1387) (sk_20 (by decide) rfl) ?_
  refine zn_lcmp (pc := 1388) (sk_20 (by decide) rfl) ?_
  exact zn_if_eq (pc := 1389) (tgt := 1394) (sk_20 (by decide) rfl) rfl (fun _ => fin) (fun q => absurd (by rw [hu]; exact lcmp_self _) q)
theorem lc_20 (hi : i + 5 ≤ n) (hn : n < 2 ^ 20) (hJ : Jk n f k0 hh) (K : ∀ h2 k, Jk n f k h2 → Zn g zL_law 2123 (LO i) [] h2 mc ms Q) : Zn g zL_law 1397 (LO i) [] hh (5 + mc) (3300 + ms) Q := by
  obtain ⟨F, S, z, A, X, hJJ, -⟩ := hJ
  have h0 := hJJ.2.2.2.1
  obtain ⟨k, hk, hZ⟩ := P_cell (g := g) hJJ (f (i + 1)) (f (i + 2)) (f (i + 3))
  refine zn_aload_n (pc := 1397) (sk_21 (by decide) rfl) rfl ?_
  refine zn_aload_n (pc := 1398) (sk_21 (by decide) rfl) rfl ?_
  refine zn_iload (pc := 1399) (sk_21 (by decide) rfl) rfl ?_
  refine zn_iconstN (pc := 1401) 1 (sk_21 (by decide) rfl) rfl ?_
  refine zn_iaddN (pc := 1402) (sk_21 (by decide) rfl) ?_
  refine zn_ialdN (pc := 1403) (sk_21 (by decide) rfl) h0 (by omega) (by omega) ?_
  refine zn_aload_n (pc := 1404) (sk_21 (by decide) rfl) rfl ?_
  refine zn_iload (pc := 1405) (sk_21 (by decide) rfl) rfl ?_
  refine zn_iconstN (pc := 1407) 2 (sk_21 (by decide) rfl) rfl ?_
  refine zn_iaddN (pc := 1408) (sk_21 (by decide) rfl) ?_
  refine zn_ialdN (pc := 1409) (sk_21 (by decide) rfl) h0 (by omega) (by omega) ?_
  refine zn_aload_n (pc := 1410) (sk_21 (by decide) rfl) rfl ?_
  refine zn_iload (pc := 1411) (sk_21 (by decide) rfl) rfl ?_
  refine zn_iconstN (pc := 1413) 3 (sk_21 (by decide) rfl) rfl ?_
  refine zn_iaddN (pc := 1414) (sk_21 (by decide) rfl) ?_
  refine zn_ialdN (pc := 1415) (sk_21 (by decide) rfl) h0 (by omega) (by omega) ?_
  refine zn_aload_n (pc := 1416) (sk_21 (by decide) rfl) rfl ?_
  refine zn_callSX (pc := 1417) (mc1 := 5) (ms1 := 3300) (mc2 := mc) (ms2 := ms) (J := zL_cell) (as := [.ref 1, .int (f (i + 1)), .int (f (i + 2)), .int (f (i + 3)), .ref 66]) (rest := []) (sk_21 (by decide) rfl) (by decide) rfl rfl rfl rfl (by decide) (Nat.le_of_ble_eq_true rfl) (Nat.le_of_ble_eq_true rfl) (Nat.le_of_ble_eq_true rfl) (Nat.le_of_ble_eq_true rfl) hZ ?_ (fun E9 h9 q => by cases q.1)
  rintro v9 h1 ⟨e9, ⟨s0, fs, s50⟩, b, h2, hM, hJ2, hB⟩
  cases e9
  show Zn g zL_law 1420 [some (.ref 0), some (.ref 1), some (.ref 50), some (.ref 66), some (.ref 67), some (.int (nI i)), none, none, none] [.int (nI k)] h1 mc ms Q
  refine zn_istore (pc := 1420) (L' := [some (.ref 0), some (.ref 1), some (.ref 50), some (.ref 66), some (.ref 67), some (.int (nI i)), some (.int (nI k)), none, none]) (sk_21 (by decide) rfl) (by decide) rfl ?_
  refine zn_aload_n (pc := 1422) (sk_21 (by decide) rfl) rfl ?_
  refine zn_aload_n (pc := 1423) (sk_21 (by decide) rfl) rfl ?_
  refine zn_iload (pc := 1424) (sk_21 (by decide) rfl) rfl ?_
  refine zn_iconstN (pc := 1426) 1 (sk_21 (by decide) rfl) rfl ?_
  refine zn_iaddN (pc := 1427) (sk_21 (by decide) rfl) ?_
  refine zn_ialdN (pc := 1428) (sk_21 (by decide) rfl) s0 (by omega) (by omega) ?_
  refine zn_aload_n (pc := 1429) (sk_21 (by decide) rfl) rfl ?_
  refine zn_iload (pc := 1430) (sk_21 (by decide) rfl) rfl ?_
  refine zn_iconstN (pc := 1432) 2 (sk_21 (by decide) rfl) rfl ?_
  refine zn_iaddN (pc := 1433) (sk_21 (by decide) rfl) ?_
  refine zn_ialdN (pc := 1434) (sk_21 (by decide) rfl) s0 (by omega) (by omega) ?_
  refine zn_aload_n (pc := 1435) (sk_21 (by decide) rfl) rfl ?_
  refine zn_iload (pc := 1436) (sk_21 (by decide) rfl) rfl ?_
  refine zn_iconstN (pc := 1438) 3 (sk_21 (by decide) rfl) rfl ?_
  refine zn_iaddN (pc := 1439) (sk_21 (by decide) rfl) ?_
  refine zn_ialdN (pc := 1440) (sk_21 (by decide) rfl) s0 (by omega) (by omega) ?_
  refine zn_callVx (pc := 1441) (J := zX10_cell) (o := 50) (as := [.int (f (i + 1)), .int (f (i + 2)), .int (f (i + 3))]) (rest := []) (sk_21 (by decide) rfl) rfl rfl rfl s50 rfl rfl rfl (Nat.le_of_ble_eq_true rfl) (Nat.le_of_ble_eq_true rfl) (Nat.le_of_ble_eq_true rfl) (Nat.le_of_ble_eq_true rfl) hM ?_
  show Zn g zL_law 1444 [some (.ref 0), some (.ref 1), some (.ref 50), some (.ref 66), some (.ref 67), some (.int (nI i)), some (.int (nI k)), none, none] [.int b] h2 mc ms Q
  refine zn_istore (pc := 1444) (L' := [some (.ref 0), some (.ref 1), some (.ref 50), some (.ref 66), some (.ref 67), some (.int (nI i)), some (.int (nI k)), some (.int b), none]) (sk_21 (by decide) rfl) (by decide) rfl ?_
  refine zn_aload_n (pc := 1446) (sk_21 (by decide) rfl) rfl ?_
  obtain ⟨F2, S2, z2, A2, X2, hJ3, e0⟩ := id hJ2
  have hth : Zx g zX10_thrown [.ref 50] h2 (some (.int (nI k))) h2 := by
    have := m_thrown (g := g) (h := h2) (F := F2) (S := S2) (z := z2) (A := A2) (X := X2)
    rw [← hJ3.1, e0] at this
    exact this
  have t50 : h2.1 50 = some (.inr (9, mfl F2 S2)) := by rw [hJ3.1]; rfl
  refine zn_callVx (pc := 1447) (J := zX10_thrown) (o := 50) (as := []) (rest := []) (sk_21 (by decide) rfl) rfl rfl rfl t50 rfl rfl rfl (Nat.le_of_ble_eq_true rfl) (Nat.le_of_ble_eq_true rfl) (Nat.le_of_ble_eq_true rfl) (Nat.le_of_ble_eq_true rfl) hth ?_
  show Zn g zL_law 1450 [some (.ref 0), some (.ref 1), some (.ref 50), some (.ref 66), some (.ref 67), some (.int (nI i)), some (.int (nI k)), some (.int b), none] [.int (nI k)] h2 mc ms Q
  refine zn_iload (pc := 1450) (sk_21 (by decide) rfl) rfl ?_
  refine zn_icmp_eq (pc := 1452) (tgt := 1457) (sk_21 (by decide) rfl) rfl (fun _ => ?_) (fun q => absurd rfl q)
  refine zn_iload (pc := 1457) (sk_21 (by decide) rfl) rfl ?_
  have fin : Zn g zL_law 1474 [some (.ref 0), some (.ref 1), some (.ref 50), some (.ref 66), some (.ref 67), some (.int (nI i)), some (.int (nI k)), some (.int b), none] [] h2 mc ms Q := by
    refine zn_goto (pc := 1474) (tgt := 2123) (sk_21 (by decide) rfl) rfl ?_
    exact zn_sub (L' := LO i) ⟨rfl, rfl, rfl, rfl, rfl, rfl, trivial⟩ (K h2 k hJ2)
  refine zn_if_neN (pc := 1459) (tgt := 1474) (sk_21 (by decide) rfl) rfl (by omega) (fun _ => fin) (fun k0 => ?_)
  obtain ⟨x9, hx9, u9, eu, hu⟩ := hB k0
  subst eu
  refine zn_aload_n (pc := 1462) (sk_21 (by decide) rfl) rfl ?_
  refine zn_iconstN (pc := 1463) 0 (sk_21 (by decide) rfl) rfl ?_
  refine zn_laldN (pc := 1464) (sk_21 (by decide) rfl) (by decide) hx9 (by decide) (by decide) ?_
  refine zn_iload (pc := 1465) (sk_21 (by decide) rfl) rfl ?_
  refine zn_i2l (pc := 1467) (sk_21 (by decide) rfl) ?_
  refine zn_lcmp (pc := 1468) (sk_21 (by decide) rfl) ?_
  exact zn_if_eq (pc := 1469) (tgt := 1474) (sk_21 (by decide) rfl) rfl (fun _ => fin) (fun q => absurd (by rw [hu]; exact lcmp_self _) q)
theorem lc_21 (hi : i + 5 ≤ n) (hn : n < 2 ^ 20) (hJ : Jk n f k0 hh) (K : ∀ h2 k, Jk n f k h2 → Zn g zL_law 2123 (LO i) [] h2 mc ms Q) : Zn g zL_law 1477 (LO i) [] hh (5 + mc) (3300 + ms) Q := by
  obtain ⟨F, S, z, A, X, hJJ, -⟩ := hJ
  have h0 := hJJ.2.2.2.1
  obtain ⟨k, hk, hZ⟩ := P_letter (g := g) hJJ (f (i + 1)) (f (i + 2)) (f (i + 3))
  refine zn_aload_n (pc := 1477) (sk_22 (by decide) rfl) rfl ?_
  refine zn_aload_n (pc := 1478) (sk_22 (by decide) rfl) rfl ?_
  refine zn_iload (pc := 1479) (sk_22 (by decide) rfl) rfl ?_
  refine zn_iconstN (pc := 1481) 1 (sk_22 (by decide) rfl) rfl ?_
  refine zn_iaddN (pc := 1482) (sk_22 (by decide) rfl) ?_
  refine zn_ialdN (pc := 1483) (sk_22 (by decide) rfl) h0 (by omega) (by omega) ?_
  refine zn_aload_n (pc := 1484) (sk_22 (by decide) rfl) rfl ?_
  refine zn_iload (pc := 1485) (sk_22 (by decide) rfl) rfl ?_
  refine zn_iconstN (pc := 1487) 2 (sk_22 (by decide) rfl) rfl ?_
  refine zn_iaddN (pc := 1488) (sk_22 (by decide) rfl) ?_
  refine zn_ialdN (pc := 1489) (sk_22 (by decide) rfl) h0 (by omega) (by omega) ?_
  refine zn_aload_n (pc := 1490) (sk_22 (by decide) rfl) rfl ?_
  refine zn_iload (pc := 1491) (sk_22 (by decide) rfl) rfl ?_
  refine zn_iconstN (pc := 1493) 3 (sk_22 (by decide) rfl) rfl ?_
  refine zn_iaddN (pc := 1494) (sk_22 (by decide) rfl) ?_
  refine zn_ialdN (pc := 1495) (sk_22 (by decide) rfl) h0 (by omega) (by omega) ?_
  refine zn_aload_n (pc := 1496) (sk_22 (by decide) rfl) rfl ?_
  refine zn_callSX (pc := 1497) (mc1 := 5) (ms1 := 3300) (mc2 := mc) (ms2 := ms) (J := zL_letter) (as := [.ref 1, .int (f (i + 1)), .int (f (i + 2)), .int (f (i + 3)), .ref 66]) (rest := []) (sk_22 (by decide) rfl) (by decide) rfl rfl rfl rfl (by decide) (Nat.le_of_ble_eq_true rfl) (Nat.le_of_ble_eq_true rfl) (Nat.le_of_ble_eq_true rfl) (Nat.le_of_ble_eq_true rfl) hZ ?_ (fun E9 h9 q => by cases q.1)
  rintro v9 h1 ⟨e9, ⟨s0, fs, s50⟩, b, h2, hM, hJ2, hB⟩
  cases e9
  show Zn g zL_law 1500 [some (.ref 0), some (.ref 1), some (.ref 50), some (.ref 66), some (.ref 67), some (.int (nI i)), none, none, none] [.int (nI k)] h1 mc ms Q
  refine zn_istore (pc := 1500) (L' := [some (.ref 0), some (.ref 1), some (.ref 50), some (.ref 66), some (.ref 67), some (.int (nI i)), some (.int (nI k)), none, none]) (sk_22 (by decide) rfl) (by decide) rfl ?_
  refine zn_aload_n (pc := 1502) (sk_22 (by decide) rfl) rfl ?_
  refine zn_aload_n (pc := 1503) (sk_22 (by decide) rfl) rfl ?_
  refine zn_iload (pc := 1504) (sk_22 (by decide) rfl) rfl ?_
  refine zn_iconstN (pc := 1506) 1 (sk_22 (by decide) rfl) rfl ?_
  refine zn_iaddN (pc := 1507) (sk_22 (by decide) rfl) ?_
  refine zn_ialdN (pc := 1508) (sk_22 (by decide) rfl) s0 (by omega) (by omega) ?_
  refine zn_aload_n (pc := 1509) (sk_22 (by decide) rfl) rfl ?_
  refine zn_iload (pc := 1510) (sk_22 (by decide) rfl) rfl ?_
  refine zn_iconstN (pc := 1512) 2 (sk_22 (by decide) rfl) rfl ?_
  refine zn_iaddN (pc := 1513) (sk_22 (by decide) rfl) ?_
  refine zn_ialdN (pc := 1514) (sk_22 (by decide) rfl) s0 (by omega) (by omega) ?_
  refine zn_aload_n (pc := 1515) (sk_22 (by decide) rfl) rfl ?_
  refine zn_iload (pc := 1516) (sk_22 (by decide) rfl) rfl ?_
  refine zn_iconstN (pc := 1518) 3 (sk_22 (by decide) rfl) rfl ?_
  refine zn_iaddN (pc := 1519) (sk_22 (by decide) rfl) ?_
  refine zn_ialdN (pc := 1520) (sk_22 (by decide) rfl) s0 (by omega) (by omega) ?_
  refine zn_callVx (pc := 1521) (J := zX10_letter) (o := 50) (as := [.int (f (i + 1)), .int (f (i + 2)), .int (f (i + 3))]) (rest := []) (sk_22 (by decide) rfl) rfl rfl rfl s50 rfl rfl rfl (Nat.le_of_ble_eq_true rfl) (Nat.le_of_ble_eq_true rfl) (Nat.le_of_ble_eq_true rfl) (Nat.le_of_ble_eq_true rfl) hM ?_
  show Zn g zL_law 1524 [some (.ref 0), some (.ref 1), some (.ref 50), some (.ref 66), some (.ref 67), some (.int (nI i)), some (.int (nI k)), none, none] [.int b] h2 mc ms Q
  refine zn_istore (pc := 1524) (L' := [some (.ref 0), some (.ref 1), some (.ref 50), some (.ref 66), some (.ref 67), some (.int (nI i)), some (.int (nI k)), some (.int b), none]) (sk_22 (by decide) rfl) (by decide) rfl ?_
  refine zn_aload_n (pc := 1526) (sk_22 (by decide) rfl) rfl ?_
  obtain ⟨F2, S2, z2, A2, X2, hJ3, e0⟩ := id hJ2
  have hth : Zx g zX10_thrown [.ref 50] h2 (some (.int (nI k))) h2 := by
    have := m_thrown (g := g) (h := h2) (F := F2) (S := S2) (z := z2) (A := A2) (X := X2)
    rw [← hJ3.1, e0] at this
    exact this
  have t50 : h2.1 50 = some (.inr (9, mfl F2 S2)) := by rw [hJ3.1]; rfl
  refine zn_callVx (pc := 1527) (J := zX10_thrown) (o := 50) (as := []) (rest := []) (sk_22 (by decide) rfl) rfl rfl rfl t50 rfl rfl rfl (Nat.le_of_ble_eq_true rfl) (Nat.le_of_ble_eq_true rfl) (Nat.le_of_ble_eq_true rfl) (Nat.le_of_ble_eq_true rfl) hth ?_
  show Zn g zL_law 1530 [some (.ref 0), some (.ref 1), some (.ref 50), some (.ref 66), some (.ref 67), some (.int (nI i)), some (.int (nI k)), some (.int b), none] [.int (nI k)] h2 mc ms Q
  refine zn_iload (pc := 1530) (sk_22 (by decide) rfl) rfl ?_
  refine zn_icmp_eq (pc := 1532) (tgt := 1537) (sk_22 (by decide) rfl) rfl (fun _ => ?_) (fun q => absurd rfl q)
  refine zn_iload (pc := 1537) (sk_22 (by decide) rfl) rfl ?_
  have fin : Zn g zL_law 1554 [some (.ref 0), some (.ref 1), some (.ref 50), some (.ref 66), some (.ref 67), some (.int (nI i)), some (.int (nI k)), some (.int b), none] [] h2 mc ms Q := by
    refine zn_goto (pc := 1554) (tgt := 2123) (sk_22 (by decide) rfl) rfl ?_
    exact zn_sub (L' := LO i) ⟨rfl, rfl, rfl, rfl, rfl, rfl, trivial⟩ (K h2 k hJ2)
  refine zn_if_neN (pc := 1539) (tgt := 1554) (sk_22 (by decide) rfl) rfl (by omega) (fun _ => fin) (fun k0 => ?_)
  obtain ⟨x9, hx9, u9, eu, hu⟩ := hB k0
  subst eu
  refine zn_aload_n (pc := 1542) (sk_22 (by decide) rfl) rfl ?_
  refine zn_iconstN (pc := 1543) 0 (sk_22 (by decide) rfl) rfl ?_
  refine zn_laldN (pc := 1544) (sk_22 (by decide) rfl) (by decide) hx9 (by decide) (by decide) ?_
  refine zn_iload (pc := 1545) (sk_22 (by decide) rfl) rfl ?_
  refine zn_i2l (pc := 1547) (sk_22 (by decide) rfl) ?_
  refine zn_lcmp (pc := 1548) (sk_22 (by decide) rfl) ?_
  exact zn_if_eq (pc := 1549) (tgt := 1554) (sk_22 (by decide) rfl) rfl (fun _ => fin) (fun q => absurd (by rw [hu]; exact lcmp_self _) q)
theorem lc_22 (hi : i + 5 ≤ n) (hn : n < 2 ^ 20) (hJ : Jk n f k0 hh) (K : ∀ h2 k, Jk n f k h2 → Zn g zL_law 2123 (LO i) [] h2 mc ms Q) : Zn g zL_law 1557 (LO i) [] hh (5 + mc) (3300 + ms) Q := by
  obtain ⟨F, S, z, A, X, hJJ, -⟩ := hJ
  have h0 := hJJ.2.2.2.1
  obtain ⟨k, hk, hZ⟩ := P_shown (g := g) hJJ (f (i + 1)) (f (i + 2))
  refine zn_aload_n (pc := 1557) (sk_23 (by decide) rfl) rfl ?_
  refine zn_aload_n (pc := 1558) (sk_23 (by decide) rfl) rfl ?_
  refine zn_iload (pc := 1559) (sk_23 (by decide) rfl) rfl ?_
  refine zn_iconstN (pc := 1561) 1 (sk_23 (by decide) rfl) rfl ?_
  refine zn_iaddN (pc := 1562) (sk_23 (by decide) rfl) ?_
  refine zn_ialdN (pc := 1563) (sk_23 (by decide) rfl) h0 (by omega) (by omega) ?_
  refine zn_aload_n (pc := 1564) (sk_23 (by decide) rfl) rfl ?_
  refine zn_iload (pc := 1565) (sk_23 (by decide) rfl) rfl ?_
  refine zn_iconstN (pc := 1567) 2 (sk_23 (by decide) rfl) rfl ?_
  refine zn_iaddN (pc := 1568) (sk_23 (by decide) rfl) ?_
  refine zn_ialdN (pc := 1569) (sk_23 (by decide) rfl) h0 (by omega) (by omega) ?_
  refine zn_aload_n (pc := 1570) (sk_23 (by decide) rfl) rfl ?_
  refine zn_callSX (pc := 1571) (mc1 := 5) (ms1 := 3300) (mc2 := mc) (ms2 := ms) (J := zL_shown) (as := [.ref 1, .int (f (i + 1)), .int (f (i + 2)), .ref 66]) (rest := []) (sk_23 (by decide) rfl) (by decide) rfl rfl rfl rfl (by decide) (Nat.le_of_ble_eq_true rfl) (Nat.le_of_ble_eq_true rfl) (Nat.le_of_ble_eq_true rfl) (Nat.le_of_ble_eq_true rfl) hZ ?_ (fun E9 h9 q => by cases q.1)
  rintro v9 h1 ⟨e9, ⟨s0, fs, s50⟩, b, h2, hM, hJ2, hB⟩
  cases e9
  show Zn g zL_law 1574 [some (.ref 0), some (.ref 1), some (.ref 50), some (.ref 66), some (.ref 67), some (.int (nI i)), none, none, none] [.int (nI k)] h1 mc ms Q
  refine zn_istore (pc := 1574) (L' := [some (.ref 0), some (.ref 1), some (.ref 50), some (.ref 66), some (.ref 67), some (.int (nI i)), some (.int (nI k)), none, none]) (sk_23 (by decide) rfl) (by decide) rfl ?_
  refine zn_aload_n (pc := 1576) (sk_23 (by decide) rfl) rfl ?_
  refine zn_aload_n (pc := 1577) (sk_23 (by decide) rfl) rfl ?_
  refine zn_iload (pc := 1578) (sk_23 (by decide) rfl) rfl ?_
  refine zn_iconstN (pc := 1580) 1 (sk_23 (by decide) rfl) rfl ?_
  refine zn_iaddN (pc := 1581) (sk_23 (by decide) rfl) ?_
  refine zn_ialdN (pc := 1582) (sk_23 (by decide) rfl) s0 (by omega) (by omega) ?_
  refine zn_aload_n (pc := 1583) (sk_23 (by decide) rfl) rfl ?_
  refine zn_iload (pc := 1584) (sk_23 (by decide) rfl) rfl ?_
  refine zn_iconstN (pc := 1586) 2 (sk_23 (by decide) rfl) rfl ?_
  refine zn_iaddN (pc := 1587) (sk_23 (by decide) rfl) ?_
  refine zn_ialdN (pc := 1588) (sk_23 (by decide) rfl) s0 (by omega) (by omega) ?_
  refine zn_callVx (pc := 1589) (J := zX10_shown) (o := 50) (as := [.int (f (i + 1)), .int (f (i + 2))]) (rest := []) (sk_23 (by decide) rfl) rfl rfl rfl s50 rfl rfl rfl (Nat.le_of_ble_eq_true rfl) (Nat.le_of_ble_eq_true rfl) (Nat.le_of_ble_eq_true rfl) (Nat.le_of_ble_eq_true rfl) hM ?_
  show Zn g zL_law 1592 [some (.ref 0), some (.ref 1), some (.ref 50), some (.ref 66), some (.ref 67), some (.int (nI i)), some (.int (nI k)), none, none] [.int b] h2 mc ms Q
  refine zn_istore (pc := 1592) (L' := [some (.ref 0), some (.ref 1), some (.ref 50), some (.ref 66), some (.ref 67), some (.int (nI i)), some (.int (nI k)), some (.int b), none]) (sk_23 (by decide) rfl) (by decide) rfl ?_
  refine zn_aload_n (pc := 1594) (sk_23 (by decide) rfl) rfl ?_
  obtain ⟨F2, S2, z2, A2, X2, hJ3, e0⟩ := id hJ2
  have hth : Zx g zX10_thrown [.ref 50] h2 (some (.int (nI k))) h2 := by
    have := m_thrown (g := g) (h := h2) (F := F2) (S := S2) (z := z2) (A := A2) (X := X2)
    rw [← hJ3.1, e0] at this
    exact this
  have t50 : h2.1 50 = some (.inr (9, mfl F2 S2)) := by rw [hJ3.1]; rfl
  refine zn_callVx (pc := 1595) (J := zX10_thrown) (o := 50) (as := []) (rest := []) (sk_23 (by decide) rfl) rfl rfl rfl t50 rfl rfl rfl (Nat.le_of_ble_eq_true rfl) (Nat.le_of_ble_eq_true rfl) (Nat.le_of_ble_eq_true rfl) (Nat.le_of_ble_eq_true rfl) hth ?_
  show Zn g zL_law 1598 [some (.ref 0), some (.ref 1), some (.ref 50), some (.ref 66), some (.ref 67), some (.int (nI i)), some (.int (nI k)), some (.int b), none] [.int (nI k)] h2 mc ms Q
  refine zn_iload (pc := 1598) (sk_23 (by decide) rfl) rfl ?_
  refine zn_icmp_eq (pc := 1600) (tgt := 1605) (sk_23 (by decide) rfl) rfl (fun _ => ?_) (fun q => absurd rfl q)
  refine zn_iload (pc := 1605) (sk_23 (by decide) rfl) rfl ?_
  have fin : Zn g zL_law 1622 [some (.ref 0), some (.ref 1), some (.ref 50), some (.ref 66), some (.ref 67), some (.int (nI i)), some (.int (nI k)), some (.int b), none] [] h2 mc ms Q := by
    refine zn_goto (pc := 1622) (tgt := 2123) (sk_23 (by decide) rfl) rfl ?_
    exact zn_sub (L' := LO i) ⟨rfl, rfl, rfl, rfl, rfl, rfl, trivial⟩ (K h2 k hJ2)
  refine zn_if_neN (pc := 1607) (tgt := 1622) (sk_23 (by decide) rfl) rfl (by omega) (fun _ => fin) (fun k0 => ?_)
  obtain ⟨x9, hx9, u9, eu, hu⟩ := hB k0
  subst eu
  refine zn_aload_n (pc := 1610) (sk_23 (by decide) rfl) rfl ?_
  refine zn_iconstN (pc := 1611) 0 (sk_23 (by decide) rfl) rfl ?_
  refine zn_laldN (pc := 1612) (sk_23 (by decide) rfl) (by decide) hx9 (by decide) (by decide) ?_
  refine zn_iload (pc := 1613) (sk_23 (by decide) rfl) rfl ?_
  refine zn_i2l (pc := 1615) (sk_23 (by decide) rfl) ?_
  refine zn_lcmp (pc := 1616) (sk_23 (by decide) rfl) ?_
  exact zn_if_eq (pc := 1617) (tgt := 1622) (sk_23 (by decide) rfl) rfl (fun _ => fin) (fun q => absurd (by rw [hu]; exact lcmp_self _) q)
theorem lc_23 (hi : i + 5 ≤ n) (hn : n < 2 ^ 20) (hJ : Jk n f k0 hh) (K : ∀ h2 k, Jk n f k h2 → Zn g zL_law 2123 (LO i) [] h2 mc ms Q) : Zn g zL_law 1625 (LO i) [] hh (5 + mc) (3300 + ms) Q := by
  obtain ⟨F, S, z, A, X, hJJ, -⟩ := hJ
  have h0 := hJJ.2.2.2.1
  obtain ⟨k, hk, hZ⟩ := P_hit (g := g) hJJ (f (i + 1)) (f (i + 2))
  refine zn_aload_n (pc := 1625) (sk_24 (by decide) rfl) rfl ?_
  refine zn_aload_n (pc := 1626) (sk_24 (by decide) rfl) rfl ?_
  refine zn_iload (pc := 1627) (sk_24 (by decide) rfl) rfl ?_
  refine zn_iconstN (pc := 1629) 1 (sk_24 (by decide) rfl) rfl ?_
  refine zn_iaddN (pc := 1630) (sk_24 (by decide) rfl) ?_
  refine zn_ialdN (pc := 1631) (sk_24 (by decide) rfl) h0 (by omega) (by omega) ?_
  refine zn_aload_n (pc := 1632) (sk_24 (by decide) rfl) rfl ?_
  refine zn_iload (pc := 1633) (sk_24 (by decide) rfl) rfl ?_
  refine zn_iconstN (pc := 1635) 2 (sk_24 (by decide) rfl) rfl ?_
  refine zn_iaddN (pc := 1636) (sk_24 (by decide) rfl) ?_
  refine zn_ialdN (pc := 1637) (sk_24 (by decide) rfl) h0 (by omega) (by omega) ?_
  refine zn_aload_n (pc := 1638) (sk_24 (by decide) rfl) rfl ?_
  refine zn_callSX (pc := 1639) (mc1 := 5) (ms1 := 3300) (mc2 := mc) (ms2 := ms) (J := zL_hit) (as := [.ref 1, .int (f (i + 1)), .int (f (i + 2)), .ref 66]) (rest := []) (sk_24 (by decide) rfl) (by decide) rfl rfl rfl rfl (by decide) (Nat.le_of_ble_eq_true rfl) (Nat.le_of_ble_eq_true rfl) (Nat.le_of_ble_eq_true rfl) (Nat.le_of_ble_eq_true rfl) hZ ?_ (fun E9 h9 q => by cases q.1)
  rintro v9 h1 ⟨e9, ⟨s0, fs, s50⟩, b, h2, hM, hJ2, hB⟩
  cases e9
  show Zn g zL_law 1642 [some (.ref 0), some (.ref 1), some (.ref 50), some (.ref 66), some (.ref 67), some (.int (nI i)), none, none, none] [.int (nI k)] h1 mc ms Q
  refine zn_istore (pc := 1642) (L' := [some (.ref 0), some (.ref 1), some (.ref 50), some (.ref 66), some (.ref 67), some (.int (nI i)), some (.int (nI k)), none, none]) (sk_24 (by decide) rfl) (by decide) rfl ?_
  refine zn_aload_n (pc := 1644) (sk_24 (by decide) rfl) rfl ?_
  refine zn_aload_n (pc := 1645) (sk_24 (by decide) rfl) rfl ?_
  refine zn_iload (pc := 1646) (sk_24 (by decide) rfl) rfl ?_
  refine zn_iconstN (pc := 1648) 1 (sk_24 (by decide) rfl) rfl ?_
  refine zn_iaddN (pc := 1649) (sk_24 (by decide) rfl) ?_
  refine zn_ialdN (pc := 1650) (sk_24 (by decide) rfl) s0 (by omega) (by omega) ?_
  refine zn_aload_n (pc := 1651) (sk_24 (by decide) rfl) rfl ?_
  refine zn_iload (pc := 1652) (sk_24 (by decide) rfl) rfl ?_
  refine zn_iconstN (pc := 1654) 2 (sk_24 (by decide) rfl) rfl ?_
  refine zn_iaddN (pc := 1655) (sk_24 (by decide) rfl) ?_
  refine zn_ialdN (pc := 1656) (sk_24 (by decide) rfl) s0 (by omega) (by omega) ?_
  refine zn_callVx (pc := 1657) (J := zX10_hit) (o := 50) (as := [.int (f (i + 1)), .int (f (i + 2))]) (rest := []) (sk_24 (by decide) rfl) rfl rfl rfl s50 rfl rfl rfl (Nat.le_of_ble_eq_true rfl) (Nat.le_of_ble_eq_true rfl) (Nat.le_of_ble_eq_true rfl) (Nat.le_of_ble_eq_true rfl) hM ?_
  show Zn g zL_law 1660 [some (.ref 0), some (.ref 1), some (.ref 50), some (.ref 66), some (.ref 67), some (.int (nI i)), some (.int (nI k)), none, none] [.int b] h2 mc ms Q
  refine zn_istore (pc := 1660) (L' := [some (.ref 0), some (.ref 1), some (.ref 50), some (.ref 66), some (.ref 67), some (.int (nI i)), some (.int (nI k)), some (.int b), none]) (sk_24 (by decide) rfl) (by decide) rfl ?_
  refine zn_aload_n (pc := 1662) (sk_24 (by decide) rfl) rfl ?_
  obtain ⟨F2, S2, z2, A2, X2, hJ3, e0⟩ := id hJ2
  have hth : Zx g zX10_thrown [.ref 50] h2 (some (.int (nI k))) h2 := by
    have := m_thrown (g := g) (h := h2) (F := F2) (S := S2) (z := z2) (A := A2) (X := X2)
    rw [← hJ3.1, e0] at this
    exact this
  have t50 : h2.1 50 = some (.inr (9, mfl F2 S2)) := by rw [hJ3.1]; rfl
  refine zn_callVx (pc := 1663) (J := zX10_thrown) (o := 50) (as := []) (rest := []) (sk_24 (by decide) rfl) rfl rfl rfl t50 rfl rfl rfl (Nat.le_of_ble_eq_true rfl) (Nat.le_of_ble_eq_true rfl) (Nat.le_of_ble_eq_true rfl) (Nat.le_of_ble_eq_true rfl) hth ?_
  show Zn g zL_law 1666 [some (.ref 0), some (.ref 1), some (.ref 50), some (.ref 66), some (.ref 67), some (.int (nI i)), some (.int (nI k)), some (.int b), none] [.int (nI k)] h2 mc ms Q
  refine zn_iload (pc := 1666) (sk_24 (by decide) rfl) rfl ?_
  refine zn_icmp_eq (pc := 1668) (tgt := 1673) (sk_24 (by decide) rfl) rfl (fun _ => ?_) (fun q => absurd rfl q)
  refine zn_iload (pc := 1673) (sk_24 (by decide) rfl) rfl ?_
  have fin : Zn g zL_law 1690 [some (.ref 0), some (.ref 1), some (.ref 50), some (.ref 66), some (.ref 67), some (.int (nI i)), some (.int (nI k)), some (.int b), none] [] h2 mc ms Q := by
    refine zn_goto (pc := 1690) (tgt := 2123) (sk_24 (by decide) rfl) rfl ?_
    exact zn_sub (L' := LO i) ⟨rfl, rfl, rfl, rfl, rfl, rfl, trivial⟩ (K h2 k hJ2)
  refine zn_if_neN (pc := 1675) (tgt := 1690) (sk_24 (by decide) rfl) rfl (by omega) (fun _ => fin) (fun k0 => ?_)
  obtain ⟨x9, hx9, u9, eu, hu⟩ := hB k0
  subst eu
  refine zn_aload_n (pc := 1678) (sk_24 (by decide) rfl) rfl ?_
  refine zn_iconstN (pc := 1679) 0 (sk_24 (by decide) rfl) rfl ?_
  refine zn_laldN (pc := 1680) (sk_24 (by decide) rfl) (by decide) hx9 (by decide) (by decide) ?_
  refine zn_iload (pc := 1681) (sk_24 (by decide) rfl) rfl ?_
  refine zn_i2l (pc := 1683) (sk_24 (by decide) rfl) ?_
  refine zn_lcmp (pc := 1684) (sk_24 (by decide) rfl) ?_
  exact zn_if_eq (pc := 1685) (tgt := 1690) (sk_24 (by decide) rfl) rfl (fun _ => fin) (fun q => absurd (by rw [hu]; exact lcmp_self _) q)
theorem lc_24 (hi : i + 5 ≤ n) (hn : n < 2 ^ 20) (hJ : Jk n f k0 hh) (K : ∀ h2 k, Jk n f k h2 → Zn g zL_law 2123 (LO i) [] h2 mc ms Q) : Zn g zL_law 1693 (LO i) [] hh (5 + mc) (3300 + ms) Q := by
  obtain ⟨F, S, z, A, X, hJJ, -⟩ := hJ
  have h0 := hJJ.2.2.2.1
  obtain ⟨k, hk, hZ⟩ := P_find (g := g) hJJ (f (i + 1)) (f (i + 2))
  refine zn_aload_n (pc := 1693) (sk_25 (by decide) rfl) rfl ?_
  refine zn_aload_n (pc := 1694) (sk_25 (by decide) rfl) rfl ?_
  refine zn_iload (pc := 1695) (sk_25 (by decide) rfl) rfl ?_
  refine zn_iconstN (pc := 1697) 1 (sk_25 (by decide) rfl) rfl ?_
  refine zn_iaddN (pc := 1698) (sk_25 (by decide) rfl) ?_
  refine zn_ialdN (pc := 1699) (sk_25 (by decide) rfl) h0 (by omega) (by omega) ?_
  refine zn_aload_n (pc := 1700) (sk_25 (by decide) rfl) rfl ?_
  refine zn_iload (pc := 1701) (sk_25 (by decide) rfl) rfl ?_
  refine zn_iconstN (pc := 1703) 2 (sk_25 (by decide) rfl) rfl ?_
  refine zn_iaddN (pc := 1704) (sk_25 (by decide) rfl) ?_
  refine zn_ialdN (pc := 1705) (sk_25 (by decide) rfl) h0 (by omega) (by omega) ?_
  refine zn_aload_n (pc := 1706) (sk_25 (by decide) rfl) rfl ?_
  refine zn_callSX (pc := 1707) (mc1 := 5) (ms1 := 3300) (mc2 := mc) (ms2 := ms) (J := zL_find) (as := [.ref 1, .int (f (i + 1)), .int (f (i + 2)), .ref 66]) (rest := []) (sk_25 (by decide) rfl) (by decide) rfl rfl rfl rfl (by decide) (Nat.le_of_ble_eq_true rfl) (Nat.le_of_ble_eq_true rfl) (Nat.le_of_ble_eq_true rfl) (Nat.le_of_ble_eq_true rfl) hZ ?_ (fun E9 h9 q => by cases q.1)
  rintro v9 h1 ⟨e9, ⟨s0, fs, s50⟩, b, h2, hM, hJ2, hB⟩
  cases e9
  show Zn g zL_law 1710 [some (.ref 0), some (.ref 1), some (.ref 50), some (.ref 66), some (.ref 67), some (.int (nI i)), none, none, none] [.int (nI k)] h1 mc ms Q
  refine zn_istore (pc := 1710) (L' := [some (.ref 0), some (.ref 1), some (.ref 50), some (.ref 66), some (.ref 67), some (.int (nI i)), some (.int (nI k)), none, none]) (sk_25 (by decide) rfl) (by decide) rfl ?_
  refine zn_aload_n (pc := 1712) (sk_25 (by decide) rfl) rfl ?_
  refine zn_aload_n (pc := 1713) (sk_25 (by decide) rfl) rfl ?_
  refine zn_iload (pc := 1714) (sk_25 (by decide) rfl) rfl ?_
  refine zn_iconstN (pc := 1716) 1 (sk_25 (by decide) rfl) rfl ?_
  refine zn_iaddN (pc := 1717) (sk_25 (by decide) rfl) ?_
  refine zn_ialdN (pc := 1718) (sk_25 (by decide) rfl) s0 (by omega) (by omega) ?_
  refine zn_aload_n (pc := 1719) (sk_25 (by decide) rfl) rfl ?_
  refine zn_iload (pc := 1720) (sk_25 (by decide) rfl) rfl ?_
  refine zn_iconstN (pc := 1722) 2 (sk_25 (by decide) rfl) rfl ?_
  refine zn_iaddN (pc := 1723) (sk_25 (by decide) rfl) ?_
  refine zn_ialdN (pc := 1724) (sk_25 (by decide) rfl) s0 (by omega) (by omega) ?_
  refine zn_callVx (pc := 1725) (J := zX10_find) (o := 50) (as := [.int (f (i + 1)), .int (f (i + 2))]) (rest := []) (sk_25 (by decide) rfl) rfl rfl rfl s50 rfl rfl rfl (Nat.le_of_ble_eq_true rfl) (Nat.le_of_ble_eq_true rfl) (Nat.le_of_ble_eq_true rfl) (Nat.le_of_ble_eq_true rfl) hM ?_
  show Zn g zL_law 1728 [some (.ref 0), some (.ref 1), some (.ref 50), some (.ref 66), some (.ref 67), some (.int (nI i)), some (.int (nI k)), none, none] [.int b] h2 mc ms Q
  refine zn_istore (pc := 1728) (L' := [some (.ref 0), some (.ref 1), some (.ref 50), some (.ref 66), some (.ref 67), some (.int (nI i)), some (.int (nI k)), some (.int b), none]) (sk_25 (by decide) rfl) (by decide) rfl ?_
  refine zn_aload_n (pc := 1730) (sk_25 (by decide) rfl) rfl ?_
  obtain ⟨F2, S2, z2, A2, X2, hJ3, e0⟩ := id hJ2
  have hth : Zx g zX10_thrown [.ref 50] h2 (some (.int (nI k))) h2 := by
    have := m_thrown (g := g) (h := h2) (F := F2) (S := S2) (z := z2) (A := A2) (X := X2)
    rw [← hJ3.1, e0] at this
    exact this
  have t50 : h2.1 50 = some (.inr (9, mfl F2 S2)) := by rw [hJ3.1]; rfl
  refine zn_callVx (pc := 1731) (J := zX10_thrown) (o := 50) (as := []) (rest := []) (sk_25 (by decide) rfl) rfl rfl rfl t50 rfl rfl rfl (Nat.le_of_ble_eq_true rfl) (Nat.le_of_ble_eq_true rfl) (Nat.le_of_ble_eq_true rfl) (Nat.le_of_ble_eq_true rfl) hth ?_
  show Zn g zL_law 1734 [some (.ref 0), some (.ref 1), some (.ref 50), some (.ref 66), some (.ref 67), some (.int (nI i)), some (.int (nI k)), some (.int b), none] [.int (nI k)] h2 mc ms Q
  refine zn_iload (pc := 1734) (sk_25 (by decide) rfl) rfl ?_
  refine zn_icmp_eq (pc := 1736) (tgt := 1741) (sk_25 (by decide) rfl) rfl (fun _ => ?_) (fun q => absurd rfl q)
  refine zn_iload (pc := 1741) (sk_25 (by decide) rfl) rfl ?_
  have fin : Zn g zL_law 1758 [some (.ref 0), some (.ref 1), some (.ref 50), some (.ref 66), some (.ref 67), some (.int (nI i)), some (.int (nI k)), some (.int b), none] [] h2 mc ms Q := by
    refine zn_goto (pc := 1758) (tgt := 2123) (sk_25 (by decide) rfl) rfl ?_
    exact zn_sub (L' := LO i) ⟨rfl, rfl, rfl, rfl, rfl, rfl, trivial⟩ (K h2 k hJ2)
  refine zn_if_neN (pc := 1743) (tgt := 1758) (sk_25 (by decide) rfl) rfl (by omega) (fun _ => fin) (fun k0 => ?_)
  obtain ⟨x9, hx9, u9, eu, hu⟩ := hB k0
  subst eu
  refine zn_aload_n (pc := 1746) (sk_25 (by decide) rfl) rfl ?_
  refine zn_iconstN (pc := 1747) 0 (sk_25 (by decide) rfl) rfl ?_
  refine zn_laldN (pc := 1748) (sk_25 (by decide) rfl) (by decide) hx9 (by decide) (by decide) ?_
  refine zn_iload (pc := 1749) (sk_25 (by decide) rfl) rfl ?_
  refine zn_i2l (pc := 1751) (sk_25 (by decide) rfl) ?_
  refine zn_lcmp (pc := 1752) (sk_25 (by decide) rfl) ?_
  exact zn_if_eq (pc := 1753) (tgt := 1758) (sk_25 (by decide) rfl) rfl (fun _ => fin) (fun q => absurd (by rw [hu]; exact lcmp_self _) q)
theorem lc_25 (hi : i + 5 ≤ n) (hn : n < 2 ^ 20) (hJ : Jk n f k0 hh) (K : ∀ h2 k, Jk n f k h2 → Zn g zL_law 2123 (LO i) [] h2 mc ms Q) : Zn g zL_law 1761 (LO i) [] hh (5 + mc) (3300 + ms) Q := by
  obtain ⟨F, S, z, A, X, hJJ, -⟩ := hJ
  have h0 := hJJ.2.2.2.1
  obtain ⟨k, hk, hZ⟩ := P_block (g := g) hJJ (f (i + 1)) (f (i + 2))
  refine zn_aload_n (pc := 1761) (sk_26 (by decide) rfl) rfl ?_
  refine zn_aload_n (pc := 1762) (sk_26 (by decide) rfl) rfl ?_
  refine zn_iload (pc := 1763) (sk_26 (by decide) rfl) rfl ?_
  refine zn_iconstN (pc := 1765) 1 (sk_26 (by decide) rfl) rfl ?_
  refine zn_iaddN (pc := 1766) (sk_26 (by decide) rfl) ?_
  refine zn_ialdN (pc := 1767) (sk_26 (by decide) rfl) h0 (by omega) (by omega) ?_
  refine zn_aload_n (pc := 1768) (sk_26 (by decide) rfl) rfl ?_
  refine zn_iload (pc := 1769) (sk_26 (by decide) rfl) rfl ?_
  refine zn_iconstN (pc := 1771) 2 (sk_26 (by decide) rfl) rfl ?_
  refine zn_iaddN (pc := 1772) (sk_26 (by decide) rfl) ?_
  refine zn_ialdN (pc := 1773) (sk_26 (by decide) rfl) h0 (by omega) (by omega) ?_
  refine zn_aload_n (pc := 1774) (sk_26 (by decide) rfl) rfl ?_
  refine zn_callSX (pc := 1775) (mc1 := 5) (ms1 := 3300) (mc2 := mc) (ms2 := ms) (J := zL_block) (as := [.ref 1, .int (f (i + 1)), .int (f (i + 2)), .ref 66]) (rest := []) (sk_26 (by decide) rfl) (by decide) rfl rfl rfl rfl (by decide) (Nat.le_of_ble_eq_true rfl) (Nat.le_of_ble_eq_true rfl) (Nat.le_of_ble_eq_true rfl) (Nat.le_of_ble_eq_true rfl) hZ ?_ (fun E9 h9 q => by cases q.1)
  rintro v9 h1 ⟨e9, ⟨s0, fs, s50⟩, b, h2, hM, hJ2, hB⟩
  cases e9
  show Zn g zL_law 1778 [some (.ref 0), some (.ref 1), some (.ref 50), some (.ref 66), some (.ref 67), some (.int (nI i)), none, none, none] [.int (nI k)] h1 mc ms Q
  refine zn_istore (pc := 1778) (L' := [some (.ref 0), some (.ref 1), some (.ref 50), some (.ref 66), some (.ref 67), some (.int (nI i)), some (.int (nI k)), none, none]) (sk_26 (by decide) rfl) (by decide) rfl ?_
  refine zn_aload_n (pc := 1780) (sk_26 (by decide) rfl) rfl ?_
  refine zn_aload_n (pc := 1781) (sk_26 (by decide) rfl) rfl ?_
  refine zn_iload (pc := 1782) (sk_26 (by decide) rfl) rfl ?_
  refine zn_iconstN (pc := 1784) 1 (sk_26 (by decide) rfl) rfl ?_
  refine zn_iaddN (pc := 1785) (sk_26 (by decide) rfl) ?_
  refine zn_ialdN (pc := 1786) (sk_26 (by decide) rfl) s0 (by omega) (by omega) ?_
  refine zn_aload_n (pc := 1787) (sk_26 (by decide) rfl) rfl ?_
  refine zn_iload (pc := 1788) (sk_26 (by decide) rfl) rfl ?_
  refine zn_iconstN (pc := 1790) 2 (sk_26 (by decide) rfl) rfl ?_
  refine zn_iaddN (pc := 1791) (sk_26 (by decide) rfl) ?_
  refine zn_ialdN (pc := 1792) (sk_26 (by decide) rfl) s0 (by omega) (by omega) ?_
  refine zn_callVx (pc := 1793) (J := zX10_block) (o := 50) (as := [.int (f (i + 1)), .int (f (i + 2))]) (rest := []) (sk_26 (by decide) rfl) rfl rfl rfl s50 rfl rfl rfl (Nat.le_of_ble_eq_true rfl) (Nat.le_of_ble_eq_true rfl) (Nat.le_of_ble_eq_true rfl) (Nat.le_of_ble_eq_true rfl) hM ?_
  show Zn g zL_law 1796 [some (.ref 0), some (.ref 1), some (.ref 50), some (.ref 66), some (.ref 67), some (.int (nI i)), some (.int (nI k)), none, none] [.int b] h2 mc ms Q
  refine zn_istore (pc := 1796) (L' := [some (.ref 0), some (.ref 1), some (.ref 50), some (.ref 66), some (.ref 67), some (.int (nI i)), some (.int (nI k)), some (.int b), none]) (sk_26 (by decide) rfl) (by decide) rfl ?_
  refine zn_aload_n (pc := 1798) (sk_26 (by decide) rfl) rfl ?_
  obtain ⟨F2, S2, z2, A2, X2, hJ3, e0⟩ := id hJ2
  have hth : Zx g zX10_thrown [.ref 50] h2 (some (.int (nI k))) h2 := by
    have := m_thrown (g := g) (h := h2) (F := F2) (S := S2) (z := z2) (A := A2) (X := X2)
    rw [← hJ3.1, e0] at this
    exact this
  have t50 : h2.1 50 = some (.inr (9, mfl F2 S2)) := by rw [hJ3.1]; rfl
  refine zn_callVx (pc := 1799) (J := zX10_thrown) (o := 50) (as := []) (rest := []) (sk_26 (by decide) rfl) rfl rfl rfl t50 rfl rfl rfl (Nat.le_of_ble_eq_true rfl) (Nat.le_of_ble_eq_true rfl) (Nat.le_of_ble_eq_true rfl) (Nat.le_of_ble_eq_true rfl) hth ?_
  show Zn g zL_law 1802 [some (.ref 0), some (.ref 1), some (.ref 50), some (.ref 66), some (.ref 67), some (.int (nI i)), some (.int (nI k)), some (.int b), none] [.int (nI k)] h2 mc ms Q
  refine zn_iload (pc := 1802) (sk_26 (by decide) rfl) rfl ?_
  refine zn_icmp_eq (pc := 1804) (tgt := 1809) (sk_26 (by decide) rfl) rfl (fun _ => ?_) (fun q => absurd rfl q)
  refine zn_iload (pc := 1809) (sk_26 (by decide) rfl) rfl ?_
  have fin : Zn g zL_law 1826 [some (.ref 0), some (.ref 1), some (.ref 50), some (.ref 66), some (.ref 67), some (.int (nI i)), some (.int (nI k)), some (.int b), none] [] h2 mc ms Q := by
    refine zn_goto (pc := 1826) (tgt := 2123) (sk_26 (by decide) rfl) rfl ?_
    exact zn_sub (L' := LO i) ⟨rfl, rfl, rfl, rfl, rfl, rfl, trivial⟩ (K h2 k hJ2)
  refine zn_if_neN (pc := 1811) (tgt := 1826) (sk_26 (by decide) rfl) rfl (by omega) (fun _ => fin) (fun k0 => ?_)
  obtain ⟨x9, hx9, u9, eu, hu⟩ := hB k0
  subst eu
  refine zn_aload_n (pc := 1814) (sk_26 (by decide) rfl) rfl ?_
  refine zn_iconstN (pc := 1815) 0 (sk_26 (by decide) rfl) rfl ?_
  refine zn_laldN (pc := 1816) (sk_26 (by decide) rfl) (by decide) hx9 (by decide) (by decide) ?_
  refine zn_iload (pc := 1817) (sk_26 (by decide) rfl) rfl ?_
  refine zn_i2l (pc := 1819) (sk_26 (by decide) rfl) ?_
  refine zn_lcmp (pc := 1820) (sk_26 (by decide) rfl) ?_
  exact zn_if_eq (pc := 1821) (tgt := 1826) (sk_26 (by decide) rfl) rfl (fun _ => fin) (fun q => absurd (by rw [hu]; exact lcmp_self _) q)
theorem lc_26 (hi : i + 5 ≤ n) (hn : n < 2 ^ 20) (hJ : Jk n f k0 hh) (K : ∀ h2 k, Jk n f k h2 → Zn g zL_law 2123 (LO i) [] h2 mc ms Q) : Zn g zL_law 1829 (LO i) [] hh (5 + mc) (3300 + ms) Q := by
  obtain ⟨F, S, z, A, X, hJJ, -⟩ := hJ
  have h0 := hJJ.2.2.2.1
  obtain ⟨k, hk, hZ⟩ := P_sum (g := g) hJJ (f (i + 1))
  refine zn_aload_n (pc := 1829) (sk_27 (by decide) rfl) rfl ?_
  refine zn_aload_n (pc := 1830) (sk_27 (by decide) rfl) rfl ?_
  refine zn_iload (pc := 1831) (sk_27 (by decide) rfl) rfl ?_
  refine zn_iconstN (pc := 1833) 1 (sk_27 (by decide) rfl) rfl ?_
  refine zn_iaddN (pc := 1834) (sk_27 (by decide) rfl) ?_
  refine zn_ialdN (pc := 1835) (sk_27 (by decide) rfl) h0 (by omega) (by omega) ?_
  refine zn_aload_n (pc := 1836) (sk_27 (by decide) rfl) rfl ?_
  refine zn_callSX (pc := 1837) (mc1 := 5) (ms1 := 3300) (mc2 := mc) (ms2 := ms) (J := zL_sum) (as := [.ref 1, .int (f (i + 1)), .ref 66]) (rest := []) (sk_27 (by decide) rfl) (by decide) rfl rfl rfl rfl (by decide) (Nat.le_of_ble_eq_true rfl) (Nat.le_of_ble_eq_true rfl) (Nat.le_of_ble_eq_true rfl) (Nat.le_of_ble_eq_true rfl) hZ ?_ (fun E9 h9 q => by cases q.1)
  rintro v9 h1 ⟨e9, ⟨s0, fs, s50⟩, b, h2, hM, hJ2, hB⟩
  cases e9
  show Zn g zL_law 1840 [some (.ref 0), some (.ref 1), some (.ref 50), some (.ref 66), some (.ref 67), some (.int (nI i)), none, none, none] [.int (nI k)] h1 mc ms Q
  refine zn_istore (pc := 1840) (L' := [some (.ref 0), some (.ref 1), some (.ref 50), some (.ref 66), some (.ref 67), some (.int (nI i)), some (.int (nI k)), none, none]) (sk_27 (by decide) rfl) (by decide) rfl ?_
  refine zn_aload_n (pc := 1842) (sk_27 (by decide) rfl) rfl ?_
  refine zn_aload_n (pc := 1843) (sk_27 (by decide) rfl) rfl ?_
  refine zn_iload (pc := 1844) (sk_27 (by decide) rfl) rfl ?_
  refine zn_iconstN (pc := 1846) 1 (sk_27 (by decide) rfl) rfl ?_
  refine zn_iaddN (pc := 1847) (sk_27 (by decide) rfl) ?_
  refine zn_ialdN (pc := 1848) (sk_27 (by decide) rfl) s0 (by omega) (by omega) ?_
  refine zn_callVx (pc := 1849) (J := zX10_sum) (o := 50) (as := [.int (f (i + 1))]) (rest := []) (sk_27 (by decide) rfl) rfl rfl rfl s50 rfl rfl rfl (Nat.le_of_ble_eq_true rfl) (Nat.le_of_ble_eq_true rfl) (Nat.le_of_ble_eq_true rfl) (Nat.le_of_ble_eq_true rfl) hM ?_
  show Zn g zL_law 1852 [some (.ref 0), some (.ref 1), some (.ref 50), some (.ref 66), some (.ref 67), some (.int (nI i)), some (.int (nI k)), none, none] [.long b] h2 mc ms Q
  refine zn_lstore (pc := 1852) (L' := [some (.ref 0), some (.ref 1), some (.ref 50), some (.ref 66), some (.ref 67), some (.int (nI i)), some (.int (nI k)), some (.long b), none]) (sk_27 (by decide) rfl) (by decide) rfl ?_
  refine zn_aload_n (pc := 1854) (sk_27 (by decide) rfl) rfl ?_
  obtain ⟨F2, S2, z2, A2, X2, hJ3, e0⟩ := id hJ2
  have hth : Zx g zX10_thrown [.ref 50] h2 (some (.int (nI k))) h2 := by
    have := m_thrown (g := g) (h := h2) (F := F2) (S := S2) (z := z2) (A := A2) (X := X2)
    rw [← hJ3.1, e0] at this
    exact this
  have t50 : h2.1 50 = some (.inr (9, mfl F2 S2)) := by rw [hJ3.1]; rfl
  refine zn_callVx (pc := 1855) (J := zX10_thrown) (o := 50) (as := []) (rest := []) (sk_27 (by decide) rfl) rfl rfl rfl t50 rfl rfl rfl (Nat.le_of_ble_eq_true rfl) (Nat.le_of_ble_eq_true rfl) (Nat.le_of_ble_eq_true rfl) (Nat.le_of_ble_eq_true rfl) hth ?_
  show Zn g zL_law 1858 [some (.ref 0), some (.ref 1), some (.ref 50), some (.ref 66), some (.ref 67), some (.int (nI i)), some (.int (nI k)), some (.long b), none] [.int (nI k)] h2 mc ms Q
  refine zn_iload (pc := 1858) (sk_27 (by decide) rfl) rfl ?_
  refine zn_icmp_eq (pc := 1860) (tgt := 1865) (sk_27 (by decide) rfl) rfl (fun _ => ?_) (fun q => absurd rfl q)
  refine zn_iload (pc := 1865) (sk_27 (by decide) rfl) rfl ?_
  have fin : Zn g zL_law 1881 [some (.ref 0), some (.ref 1), some (.ref 50), some (.ref 66), some (.ref 67), some (.int (nI i)), some (.int (nI k)), some (.long b), none] [] h2 mc ms Q := by
    refine zn_goto (pc := 1881) (tgt := 2123) (sk_27 (by decide) rfl) rfl ?_
    exact zn_sub (L' := LO i) ⟨rfl, rfl, rfl, rfl, rfl, rfl, trivial⟩ (K h2 k hJ2)
  refine zn_if_neN (pc := 1867) (tgt := 1881) (sk_27 (by decide) rfl) rfl (by omega) (fun _ => fin) (fun k0 => ?_)
  obtain ⟨x9, hx9, u9, eu, hu⟩ := hB k0
  subst eu
  refine zn_aload_n (pc := 1870) (sk_27 (by decide) rfl) rfl ?_
  refine zn_iconstN (pc := 1871) 0 (sk_27 (by decide) rfl) rfl ?_
  refine zn_laldN (pc := 1872) (sk_27 (by decide) rfl) (by decide) hx9 (by decide) (by decide) ?_
  refine zn_lload (pc := 1873) (sk_27 (by decide) rfl) rfl ?_
  refine zn_lcmp (pc := 1875) (sk_27 (by decide) rfl) ?_
  exact zn_if_eq (pc := 1876) (tgt := 1881) (sk_27 (by decide) rfl) rfl (fun _ => fin) (fun q => absurd (by rw [hu]; exact lcmp_self _) q)
theorem lc_27 (hi : i + 5 ≤ n) (hn : n < 2 ^ 20) (hJ : Jk n f k0 hh) (K : ∀ h2 k, Jk n f k h2 → Zn g zL_law 2123 (LO i) [] h2 mc ms Q) : Zn g zL_law 1884 (LO i) [] hh (5 + mc) (3300 + ms) Q := by
  obtain ⟨F, S, z, A, X, hJJ, -⟩ := hJ
  have h0 := hJJ.2.2.2.1
  obtain ⟨k, hk, hZ⟩ := P_mean (g := g) hJJ (f (i + 1))
  refine zn_aload_n (pc := 1884) (sk_28 (by decide) rfl) rfl ?_
  refine zn_aload_n (pc := 1885) (sk_28 (by decide) rfl) rfl ?_
  refine zn_iload (pc := 1886) (sk_28 (by decide) rfl) rfl ?_
  refine zn_iconstN (pc := 1888) 1 (sk_28 (by decide) rfl) rfl ?_
  refine zn_iaddN (pc := 1889) (sk_28 (by decide) rfl) ?_
  refine zn_ialdN (pc := 1890) (sk_28 (by decide) rfl) h0 (by omega) (by omega) ?_
  refine zn_aload (pc := 1891) (sk_28 (by decide) rfl) rfl ?_
  refine zn_callSX (pc := 1893) (mc1 := 5) (ms1 := 3300) (mc2 := mc) (ms2 := ms) (J := zL_mean) (as := [.ref 1, .int (f (i + 1)), .ref 67]) (rest := []) (sk_28 (by decide) rfl) (by decide) rfl rfl rfl rfl (by decide) (Nat.le_of_ble_eq_true rfl) (Nat.le_of_ble_eq_true rfl) (Nat.le_of_ble_eq_true rfl) (Nat.le_of_ble_eq_true rfl) hZ ?_ (fun E9 h9 q => by cases q.1)
  rintro v9 h1 ⟨e9, ⟨s0, fs, s50⟩, b, h2, hM, hJ2, hB⟩
  cases e9
  show Zn g zL_law 1896 [some (.ref 0), some (.ref 1), some (.ref 50), some (.ref 66), some (.ref 67), some (.int (nI i)), none, none, none] [.int (nI k)] h1 mc ms Q
  refine zn_istore (pc := 1896) (L' := [some (.ref 0), some (.ref 1), some (.ref 50), some (.ref 66), some (.ref 67), some (.int (nI i)), some (.int (nI k)), none, none]) (sk_28 (by decide) rfl) (by decide) rfl ?_
  refine zn_aload_n (pc := 1898) (sk_28 (by decide) rfl) rfl ?_
  refine zn_aload_n (pc := 1899) (sk_28 (by decide) rfl) rfl ?_
  refine zn_iload (pc := 1900) (sk_28 (by decide) rfl) rfl ?_
  refine zn_iconstN (pc := 1902) 1 (sk_28 (by decide) rfl) rfl ?_
  refine zn_iaddN (pc := 1903) (sk_28 (by decide) rfl) ?_
  refine zn_ialdN (pc := 1904) (sk_28 (by decide) rfl) s0 (by omega) (by omega) ?_
  refine zn_callVx (pc := 1905) (J := zX10_mean) (o := 50) (as := [.int (f (i + 1))]) (rest := []) (sk_28 (by decide) rfl) rfl rfl rfl s50 rfl rfl rfl (Nat.le_of_ble_eq_true rfl) (Nat.le_of_ble_eq_true rfl) (Nat.le_of_ble_eq_true rfl) (Nat.le_of_ble_eq_true rfl) hM ?_
  show Zn g zL_law 1908 [some (.ref 0), some (.ref 1), some (.ref 50), some (.ref 66), some (.ref 67), some (.int (nI i)), some (.int (nI k)), none, none] [.double b] h2 mc ms Q
  refine zn_dstore (pc := 1908) (L' := [some (.ref 0), some (.ref 1), some (.ref 50), some (.ref 66), some (.ref 67), some (.int (nI i)), some (.int (nI k)), some (.double b), none]) (sk_28 (by decide) rfl) (by decide) rfl ?_
  refine zn_aload_n (pc := 1910) (sk_28 (by decide) rfl) rfl ?_
  obtain ⟨F2, S2, z2, A2, X2, hJ3, e0⟩ := id hJ2
  have hth : Zx g zX10_thrown [.ref 50] h2 (some (.int (nI k))) h2 := by
    have := m_thrown (g := g) (h := h2) (F := F2) (S := S2) (z := z2) (A := A2) (X := X2)
    rw [← hJ3.1, e0] at this
    exact this
  have t50 : h2.1 50 = some (.inr (9, mfl F2 S2)) := by rw [hJ3.1]; rfl
  refine zn_callVx (pc := 1911) (J := zX10_thrown) (o := 50) (as := []) (rest := []) (sk_28 (by decide) rfl) rfl rfl rfl t50 rfl rfl rfl (Nat.le_of_ble_eq_true rfl) (Nat.le_of_ble_eq_true rfl) (Nat.le_of_ble_eq_true rfl) (Nat.le_of_ble_eq_true rfl) hth ?_
  show Zn g zL_law 1914 [some (.ref 0), some (.ref 1), some (.ref 50), some (.ref 66), some (.ref 67), some (.int (nI i)), some (.int (nI k)), some (.double b), none] [.int (nI k)] h2 mc ms Q
  refine zn_iload (pc := 1914) (sk_28 (by decide) rfl) rfl ?_
  refine zn_icmp_eq (pc := 1916) (tgt := 1921) (sk_28 (by decide) rfl) rfl (fun _ => ?_) (fun q => absurd rfl q)
  refine zn_iload (pc := 1921) (sk_28 (by decide) rfl) rfl ?_
  have fin : Zn g zL_law 1958 [some (.ref 0), some (.ref 1), some (.ref 50), some (.ref 66), some (.ref 67), some (.int (nI i)), some (.int (nI k)), some (.double b), none] [] h2 mc ms Q := by
    refine zn_goto (pc := 1958) (tgt := 2123) (sk_28 (by decide) rfl) rfl ?_
    exact zn_sub (L' := LO i) ⟨rfl, rfl, rfl, rfl, rfl, rfl, trivial⟩ (K h2 k hJ2)
  refine zn_if_neN (pc := 1923) (tgt := 1958) (sk_28 (by decide) rfl) rfl (by omega) (fun _ => fin) (fun k0 => ?_)
  obtain ⟨x9, hx9, u9, eu, hu⟩ := hB k0
  subst eu
  refine zn_aload (pc := 1926) (sk_28 (by decide) rfl) rfl ?_
  refine zn_iconstN (pc := 1928) 0 (sk_28 (by decide) rfl) rfl ?_
  refine zn_daldN (pc := 1929) (sk_28 (by decide) rfl) (by decide) hx9 (by decide) (by decide) ?_
  refine zn_dload (pc := 1930) (sk_28 (by decide) rfl) rfl ?_
  refine zn_dcmp (pc := 1932) (sk_28 (by decide) rfl) ?_
  rw [hu]
  refine zn_if_eq (pc := 1933) (tgt := 1958) (sk_28 (by decide) rfl) rfl (fun _ => fin) (fun q1 => ?_)
  refine zn_aload (pc := 1936) (sk_28 (by decide) rfl) rfl ?_
  refine zn_iconstN (pc := 1938) 0 (sk_28 (by decide) rfl) rfl ?_
  refine zn_daldN (pc := 1939) (sk_28 (by decide) rfl) (by decide) hx9 (by decide) (by decide) ?_
  refine zn_aload (pc := 1940) (sk_28 (by decide) rfl) rfl ?_
  refine zn_iconstN (pc := 1942) 0 (sk_28 (by decide) rfl) rfl ?_
  refine zn_daldN (pc := 1943) (sk_28 (by decide) rfl) (by decide) hx9 (by decide) (by decide) ?_
  refine zn_dcmp (pc := 1944) (sk_28 (by decide) rfl) ?_
  rw [hu]
  refine zn_if_eq (pc := 1945) (tgt := 1956) (sk_28 (by decide) rfl) rfl (fun q => absurd q q1) (fun _ => ?_)
  refine zn_dload (pc := 1948) (sk_28 (by decide) rfl) rfl ?_
  refine zn_dload (pc := 1950) (sk_28 (by decide) rfl) rfl ?_
  refine zn_dcmp (pc := 1952) (sk_28 (by decide) rfl) ?_
  exact zn_if_ne (pc := 1953) (tgt := 1958) (sk_28 (by decide) rfl) rfl (fun _ => fin) (fun q => absurd q q1)
theorem lc_28 (hi : i + 5 ≤ n) (hn : n < 2 ^ 20) (hJ : Jk n f k0 hh) (K : ∀ h2 k, Jk n f k h2 → Zn g zL_law 2123 (LO i) [] h2 mc ms Q) : Zn g zL_law 1961 (LO i) [] hh (5 + mc) (3300 + ms) Q := by
  obtain ⟨F, S, z, A, X, hJJ, -⟩ := hJ
  have h0 := hJJ.2.2.2.1
  obtain ⟨k, hk, hZ⟩ := P_touched (g := g) hJJ (f (i + 1))
  refine zn_aload_n (pc := 1961) (sk_29 (by decide) rfl) rfl ?_
  refine zn_aload_n (pc := 1962) (sk_29 (by decide) rfl) rfl ?_
  refine zn_iload (pc := 1963) (sk_29 (by decide) rfl) rfl ?_
  refine zn_iconstN (pc := 1965) 1 (sk_29 (by decide) rfl) rfl ?_
  refine zn_iaddN (pc := 1966) (sk_29 (by decide) rfl) ?_
  refine zn_ialdN (pc := 1967) (sk_29 (by decide) rfl) h0 (by omega) (by omega) ?_
  refine zn_aload_n (pc := 1968) (sk_29 (by decide) rfl) rfl ?_
  refine zn_callSX (pc := 1969) (mc1 := 5) (ms1 := 3300) (mc2 := mc) (ms2 := ms) (J := zL_touched) (as := [.ref 1, .int (f (i + 1)), .ref 66]) (rest := []) (sk_29 (by decide) rfl) (by decide) rfl rfl rfl rfl (by decide) (Nat.le_of_ble_eq_true rfl) (Nat.le_of_ble_eq_true rfl) (Nat.le_of_ble_eq_true rfl) (Nat.le_of_ble_eq_true rfl) hZ ?_ (fun E9 h9 q => by cases q.1)
  rintro v9 h1 ⟨e9, ⟨s0, fs, s50⟩, b, h2, hM, hJ2, hB⟩
  cases e9
  show Zn g zL_law 1972 [some (.ref 0), some (.ref 1), some (.ref 50), some (.ref 66), some (.ref 67), some (.int (nI i)), none, none, none] [.int (nI k)] h1 mc ms Q
  refine zn_istore (pc := 1972) (L' := [some (.ref 0), some (.ref 1), some (.ref 50), some (.ref 66), some (.ref 67), some (.int (nI i)), some (.int (nI k)), none, none]) (sk_29 (by decide) rfl) (by decide) rfl ?_
  refine zn_aload_n (pc := 1974) (sk_29 (by decide) rfl) rfl ?_
  refine zn_aload_n (pc := 1975) (sk_29 (by decide) rfl) rfl ?_
  refine zn_iload (pc := 1976) (sk_29 (by decide) rfl) rfl ?_
  refine zn_iconstN (pc := 1978) 1 (sk_29 (by decide) rfl) rfl ?_
  refine zn_iaddN (pc := 1979) (sk_29 (by decide) rfl) ?_
  refine zn_ialdN (pc := 1980) (sk_29 (by decide) rfl) s0 (by omega) (by omega) ?_
  refine zn_callVx (pc := 1981) (J := zX10_touched) (o := 50) (as := [.int (f (i + 1))]) (rest := []) (sk_29 (by decide) rfl) rfl rfl rfl s50 rfl rfl rfl (Nat.le_of_ble_eq_true rfl) (Nat.le_of_ble_eq_true rfl) (Nat.le_of_ble_eq_true rfl) (Nat.le_of_ble_eq_true rfl) hM ?_
  show Zn g zL_law 1984 [some (.ref 0), some (.ref 1), some (.ref 50), some (.ref 66), some (.ref 67), some (.int (nI i)), some (.int (nI k)), none, none] [.int b] h2 mc ms Q
  refine zn_istore (pc := 1984) (L' := [some (.ref 0), some (.ref 1), some (.ref 50), some (.ref 66), some (.ref 67), some (.int (nI i)), some (.int (nI k)), some (.int b), none]) (sk_29 (by decide) rfl) (by decide) rfl ?_
  refine zn_aload_n (pc := 1986) (sk_29 (by decide) rfl) rfl ?_
  obtain ⟨F2, S2, z2, A2, X2, hJ3, e0⟩ := id hJ2
  have hth : Zx g zX10_thrown [.ref 50] h2 (some (.int (nI k))) h2 := by
    have := m_thrown (g := g) (h := h2) (F := F2) (S := S2) (z := z2) (A := A2) (X := X2)
    rw [← hJ3.1, e0] at this
    exact this
  have t50 : h2.1 50 = some (.inr (9, mfl F2 S2)) := by rw [hJ3.1]; rfl
  refine zn_callVx (pc := 1987) (J := zX10_thrown) (o := 50) (as := []) (rest := []) (sk_29 (by decide) rfl) rfl rfl rfl t50 rfl rfl rfl (Nat.le_of_ble_eq_true rfl) (Nat.le_of_ble_eq_true rfl) (Nat.le_of_ble_eq_true rfl) (Nat.le_of_ble_eq_true rfl) hth ?_
  show Zn g zL_law 1990 [some (.ref 0), some (.ref 1), some (.ref 50), some (.ref 66), some (.ref 67), some (.int (nI i)), some (.int (nI k)), some (.int b), none] [.int (nI k)] h2 mc ms Q
  refine zn_iload (pc := 1990) (sk_29 (by decide) rfl) rfl ?_
  refine zn_icmp_eq (pc := 1992) (tgt := 1997) (sk_29 (by decide) rfl) rfl (fun _ => ?_) (fun q => absurd rfl q)
  refine zn_iload (pc := 1997) (sk_29 (by decide) rfl) rfl ?_
  have fin : Zn g zL_law 2014 [some (.ref 0), some (.ref 1), some (.ref 50), some (.ref 66), some (.ref 67), some (.int (nI i)), some (.int (nI k)), some (.int b), none] [] h2 mc ms Q := by
    refine zn_goto (pc := 2014) (tgt := 2123) (sk_29 (by decide) rfl) rfl ?_
    exact zn_sub (L' := LO i) ⟨rfl, rfl, rfl, rfl, rfl, rfl, trivial⟩ (K h2 k hJ2)
  refine zn_if_neN (pc := 1999) (tgt := 2014) (sk_29 (by decide) rfl) rfl (by omega) (fun _ => fin) (fun k0 => ?_)
  obtain ⟨x9, hx9, u9, eu, hu⟩ := hB k0
  subst eu
  refine zn_aload_n (pc := 2002) (sk_29 (by decide) rfl) rfl ?_
  refine zn_iconstN (pc := 2003) 0 (sk_29 (by decide) rfl) rfl ?_
  refine zn_laldN (pc := 2004) (sk_29 (by decide) rfl) (by decide) hx9 (by decide) (by decide) ?_
  refine zn_iload (pc := 2005) (sk_29 (by decide) rfl) rfl ?_
  refine zn_i2l (pc := 2007) (sk_29 (by decide) rfl) ?_
  refine zn_lcmp (pc := 2008) (sk_29 (by decide) rfl) ?_
  exact zn_if_eq (pc := 2009) (tgt := 2014) (sk_29 (by decide) rfl) rfl (fun _ => fin) (fun q => absurd (by rw [hu]; exact lcmp_self _) q)
theorem lc_29 (hi : i + 5 ≤ n) (hn : n < 2 ^ 20) (hJ : Jk n f k0 hh) (K : ∀ h2 k, Jk n f k h2 → Zn g zL_law 2123 (LO i) [] h2 mc ms Q) : Zn g zL_law 2017 (LO i) [] hh (5 + mc) (3300 + ms) Q := by
  obtain ⟨F, S, z, A, X, hJJ, -⟩ := hJ
  have h0 := hJJ.2.2.2.1
  obtain ⟨k, hk, hZ⟩ := P_ifTyped (g := g) hJJ (f (i + 1)) (f (i + 2)) (f (i + 3)) (f (i + 4))
  refine zn_aload_n (pc := 2017) (sk_30 (by decide) rfl) rfl ?_
  refine zn_aload_n (pc := 2018) (sk_30 (by decide) rfl) rfl ?_
  refine zn_iload (pc := 2019) (sk_30 (by decide) rfl) rfl ?_
  refine zn_iconstN (pc := 2021) 1 (sk_30 (by decide) rfl) rfl ?_
  refine zn_iaddN (pc := 2022) (sk_30 (by decide) rfl) ?_
  refine zn_ialdN (pc := 2023) (sk_30 (by decide) rfl) h0 (by omega) (by omega) ?_
  refine zn_aload_n (pc := 2024) (sk_30 (by decide) rfl) rfl ?_
  refine zn_iload (pc := 2025) (sk_30 (by decide) rfl) rfl ?_
  refine zn_iconstN (pc := 2027) 2 (sk_30 (by decide) rfl) rfl ?_
  refine zn_iaddN (pc := 2028) (sk_30 (by decide) rfl) ?_
  refine zn_ialdN (pc := 2029) (sk_30 (by decide) rfl) h0 (by omega) (by omega) ?_
  refine zn_aload_n (pc := 2030) (sk_30 (by decide) rfl) rfl ?_
  refine zn_iload (pc := 2031) (sk_30 (by decide) rfl) rfl ?_
  refine zn_iconstN (pc := 2033) 3 (sk_30 (by decide) rfl) rfl ?_
  refine zn_iaddN (pc := 2034) (sk_30 (by decide) rfl) ?_
  refine zn_ialdN (pc := 2035) (sk_30 (by decide) rfl) h0 (by omega) (by omega) ?_
  refine zn_aload_n (pc := 2036) (sk_30 (by decide) rfl) rfl ?_
  refine zn_iload (pc := 2037) (sk_30 (by decide) rfl) rfl ?_
  refine zn_iconstN (pc := 2039) 4 (sk_30 (by decide) rfl) rfl ?_
  refine zn_iaddN (pc := 2040) (sk_30 (by decide) rfl) ?_
  refine zn_ialdN (pc := 2041) (sk_30 (by decide) rfl) h0 (by omega) (by omega) ?_
  refine zn_aload_n (pc := 2042) (sk_30 (by decide) rfl) rfl ?_
  refine zn_callSX (pc := 2043) (mc1 := 5) (ms1 := 3300) (mc2 := mc) (ms2 := ms) (J := zL_ifTyped) (as := [.ref 1, .int (f (i + 1)), .int (f (i + 2)), .int (f (i + 3)), .int (f (i + 4)), .ref 66]) (rest := []) (sk_30 (by decide) rfl) (by decide) rfl rfl rfl rfl (by decide) (Nat.le_of_ble_eq_true rfl) (Nat.le_of_ble_eq_true rfl) (Nat.le_of_ble_eq_true rfl) (Nat.le_of_ble_eq_true rfl) hZ ?_ (fun E9 h9 q => by cases q.1)
  rintro v9 h1 ⟨e9, ⟨s0, fs, s50⟩, b, h2, hM, hJ2, hB⟩
  cases e9
  show Zn g zL_law 2046 [some (.ref 0), some (.ref 1), some (.ref 50), some (.ref 66), some (.ref 67), some (.int (nI i)), none, none, none] [.int (nI k)] h1 mc ms Q
  refine zn_istore (pc := 2046) (L' := [some (.ref 0), some (.ref 1), some (.ref 50), some (.ref 66), some (.ref 67), some (.int (nI i)), some (.int (nI k)), none, none]) (sk_30 (by decide) rfl) (by decide) rfl ?_
  refine zn_aload_n (pc := 2048) (sk_30 (by decide) rfl) rfl ?_
  refine zn_aload_n (pc := 2049) (sk_30 (by decide) rfl) rfl ?_
  refine zn_iload (pc := 2050) (sk_30 (by decide) rfl) rfl ?_
  refine zn_iconstN (pc := 2052) 1 (sk_30 (by decide) rfl) rfl ?_
  refine zn_iaddN (pc := 2053) (sk_30 (by decide) rfl) ?_
  refine zn_ialdN (pc := 2054) (sk_30 (by decide) rfl) s0 (by omega) (by omega) ?_
  refine zn_aload_n (pc := 2055) (sk_30 (by decide) rfl) rfl ?_
  refine zn_iload (pc := 2056) (sk_30 (by decide) rfl) rfl ?_
  refine zn_iconstN (pc := 2058) 2 (sk_30 (by decide) rfl) rfl ?_
  refine zn_iaddN (pc := 2059) (sk_30 (by decide) rfl) ?_
  refine zn_ialdN (pc := 2060) (sk_30 (by decide) rfl) s0 (by omega) (by omega) ?_
  refine zn_aload_n (pc := 2061) (sk_30 (by decide) rfl) rfl ?_
  refine zn_iload (pc := 2062) (sk_30 (by decide) rfl) rfl ?_
  refine zn_iconstN (pc := 2064) 3 (sk_30 (by decide) rfl) rfl ?_
  refine zn_iaddN (pc := 2065) (sk_30 (by decide) rfl) ?_
  refine zn_ialdN (pc := 2066) (sk_30 (by decide) rfl) s0 (by omega) (by omega) ?_
  refine zn_aload_n (pc := 2067) (sk_30 (by decide) rfl) rfl ?_
  refine zn_iload (pc := 2068) (sk_30 (by decide) rfl) rfl ?_
  refine zn_iconstN (pc := 2070) 4 (sk_30 (by decide) rfl) rfl ?_
  refine zn_iaddN (pc := 2071) (sk_30 (by decide) rfl) ?_
  refine zn_ialdN (pc := 2072) (sk_30 (by decide) rfl) s0 (by omega) (by omega) ?_
  refine zn_callVx (pc := 2073) (J := zX10_ifTyped) (o := 50) (as := [.int (f (i + 1)), .int (f (i + 2)), .int (f (i + 3)), .int (f (i + 4))]) (rest := []) (sk_30 (by decide) rfl) rfl rfl rfl s50 rfl rfl rfl (Nat.le_of_ble_eq_true rfl) (Nat.le_of_ble_eq_true rfl) (Nat.le_of_ble_eq_true rfl) (Nat.le_of_ble_eq_true rfl) hM ?_
  show Zn g zL_law 2076 [some (.ref 0), some (.ref 1), some (.ref 50), some (.ref 66), some (.ref 67), some (.int (nI i)), some (.int (nI k)), none, none] [.int b] h2 mc ms Q
  refine zn_istore (pc := 2076) (L' := [some (.ref 0), some (.ref 1), some (.ref 50), some (.ref 66), some (.ref 67), some (.int (nI i)), some (.int (nI k)), some (.int b), none]) (sk_30 (by decide) rfl) (by decide) rfl ?_
  refine zn_aload_n (pc := 2078) (sk_30 (by decide) rfl) rfl ?_
  obtain ⟨F2, S2, z2, A2, X2, hJ3, e0⟩ := id hJ2
  have hth : Zx g zX10_thrown [.ref 50] h2 (some (.int (nI k))) h2 := by
    have := m_thrown (g := g) (h := h2) (F := F2) (S := S2) (z := z2) (A := A2) (X := X2)
    rw [← hJ3.1, e0] at this
    exact this
  have t50 : h2.1 50 = some (.inr (9, mfl F2 S2)) := by rw [hJ3.1]; rfl
  refine zn_callVx (pc := 2079) (J := zX10_thrown) (o := 50) (as := []) (rest := []) (sk_30 (by decide) rfl) rfl rfl rfl t50 rfl rfl rfl (Nat.le_of_ble_eq_true rfl) (Nat.le_of_ble_eq_true rfl) (Nat.le_of_ble_eq_true rfl) (Nat.le_of_ble_eq_true rfl) hth ?_
  show Zn g zL_law 2082 [some (.ref 0), some (.ref 1), some (.ref 50), some (.ref 66), some (.ref 67), some (.int (nI i)), some (.int (nI k)), some (.int b), none] [.int (nI k)] h2 mc ms Q
  refine zn_iload (pc := 2082) (sk_30 (by decide) rfl) rfl ?_
  refine zn_icmp_eq (pc := 2084) (tgt := 2089) (sk_30 (by decide) rfl) rfl (fun _ => ?_) (fun q => absurd rfl q)
  refine zn_iload (pc := 2089) (sk_30 (by decide) rfl) rfl ?_
  have fin : Zn g zL_law 2106 [some (.ref 0), some (.ref 1), some (.ref 50), some (.ref 66), some (.ref 67), some (.int (nI i)), some (.int (nI k)), some (.int b), none] [] h2 mc ms Q := by
    refine zn_goto (pc := 2106) (tgt := 2123) (sk_30 (by decide) rfl) rfl ?_
    exact zn_sub (L' := LO i) ⟨rfl, rfl, rfl, rfl, rfl, rfl, trivial⟩ (K h2 k hJ2)
  refine zn_if_neN (pc := 2091) (tgt := 2106) (sk_30 (by decide) rfl) rfl (by omega) (fun _ => fin) (fun k0 => ?_)
  obtain ⟨x9, hx9, u9, eu, hu⟩ := hB k0
  subst eu
  refine zn_aload_n (pc := 2094) (sk_30 (by decide) rfl) rfl ?_
  refine zn_iconstN (pc := 2095) 0 (sk_30 (by decide) rfl) rfl ?_
  refine zn_laldN (pc := 2096) (sk_30 (by decide) rfl) (by decide) hx9 (by decide) (by decide) ?_
  refine zn_iload (pc := 2097) (sk_30 (by decide) rfl) rfl ?_
  refine zn_i2l (pc := 2099) (sk_30 (by decide) rfl) ?_
  refine zn_lcmp (pc := 2100) (sk_30 (by decide) rfl) ?_
  exact zn_if_eq (pc := 2101) (tgt := 2106) (sk_30 (by decide) rfl) rfl (fun _ => fin) (fun q => absurd (by rw [hu]; exact lcmp_self _) q)
end wc
