section m1
variable {g : zG} {h hh : zH} {F : Nat → Nat} {S : Int64} {z : Nat → Nat} {A : Nat → Nat → Nat} {X : Nat → Int32}
theorem c_collect_l10 {C : Nat → Nat → Nat} {V : Nat → Int64} {Xs : Nat → Nat} {Bn : Nat → Int32} (hz : mOK z) (hcel : cCel z C V) {pd lw gr : Nat} {al : Nat → Nat} (hf4 : h.1 4 = some (.inr (2, [.ref 5, .int (nI pd), .int (nI lw), .int (nI gr)]))) (hf5 : h.1 5 = some (mNA 7 al)) (hpd : pd ≤ 8) (hlw : lw ≤ 20) (hg : 1 ≤ gr) (hg8 : gr ≤ 8) (hal : ∀ j, al j ≤ 3) {c : Nat} {Q : zR → zH → Prop} (hc : c < 7) (K : ∀ (D : Nat → Nat → Nat) (W : Nat → Int64), cHold z al pd lw gr D W (bAll z (c + 1)) → Zn g zX0_collect 7 [some (.ref 18), some (.ref 11), some (.ref 4), some (.int (nI (c + 1))), none, none] [] (lhp 10 h (z 0) C V ((bAll z (c + 1)).length) D W Xs Bn) 0 0 Q) : ∀ (n : Nat) (l : Nat) (P : List (Nat × Nat × Nat)) (D : Nat → Nat → Nat) (W : Nat → Int64), l + n = z 0 → P = bAll z c ++ bUp z c l → cHold z al pd lw gr D W P → Zn g zX0_collect 16 [some (.ref 18), some (.ref 11), some (.ref 4), some (.int (nI c)), some (.int (nI l)), none] [] (lhp 10 h (z 0) C V P.length D W Xs Bn) 0 0 Q := by
  intro n
  induction n with
  | zero =>
    intro l P D W hn0 hn1 hn2
    have h1 := hz.2.1
    refine zn_iload (pc := 16) rfl rfl ?_
    refine zn_aload_n (pc := 18) rfl rfl ?_
    refine zn_callVx (pc := 19) (J := zX1_lines) (o := 11) (as := []) (rest := [.int (nI l)]) rfl rfl rfl rfl rfl rfl rfl rfl (Nat.le_of_ble_eq_true rfl) (Nat.le_of_ble_eq_true rfl) (Nat.le_of_ble_eq_true rfl) (Nat.le_of_ble_eq_true rfl) (c_linesK_10 (cOK_l hcel)) ?_
    refine zn_icmp_geN (pc := 22) (tgt := 131) (x := l) (y := (z 0)) rfl rfl (by omega) (by omega) (fun c1 => ?_) (fun c1 => ?_)
    · refine zn_iincN (pc := 131) (L' := [some (.ref 18), some (.ref 11), some (.ref 4), some (.int (nI (c + 1))), some (.int (nI l)), none]) 1 rfl rfl rfl (by decide) rfl ?_
      refine zn_goto (pc := 134) (tgt := 7) rfl rfl ?_
      have e8 : l = z 0 := by omega
      rw [e8] at hn1
      subst hn1
      exact zn_sub (L' := [some (.ref 18), some (.ref 11), some (.ref 4), some (.int (nI (c + 1))), none, none]) ⟨rfl, rfl, rfl, rfl, trivial⟩ (K D W hn2)
    · exfalso; omega
  | succ n ih =>
    intro l P D W hn0 hn1 hn2
    have h1 := hz.2.1
    refine zn_iload (pc := 16) rfl rfl ?_
    refine zn_aload_n (pc := 18) rfl rfl ?_
    refine zn_callVx (pc := 19) (J := zX1_lines) (o := 11) (as := []) (rest := [.int (nI l)]) rfl rfl rfl rfl rfl rfl rfl rfl (Nat.le_of_ble_eq_true rfl) (Nat.le_of_ble_eq_true rfl) (Nat.le_of_ble_eq_true rfl) (Nat.le_of_ble_eq_true rfl) (c_linesK_10 (cOK_l hcel)) ?_
    refine zn_icmp_geN (pc := 22) (tgt := 131) (x := l) (y := (z 0)) rfl rfl (by omega) (by omega) (fun c1 => ?_) (fun c1 => ?_)
    · refine zn_iincN (pc := 131) (L' := [some (.ref 18), some (.ref 11), some (.ref 4), some (.int (nI (c + 1))), some (.int (nI l)), none]) 1 rfl rfl rfl (by decide) rfl ?_
      refine zn_goto (pc := 134) (tgt := 7) rfl rfl ?_
      have e8 : l = z 0 := by omega
      rw [e8] at hn1
      subst hn1
      exact zn_sub (L' := [some (.ref 18), some (.ref 11), some (.ref 4), some (.int (nI (c + 1))), none, none]) ⟨rfl, rfl, rfl, rfl, trivial⟩ (K D W hn2)
    · refine zn_joinV (v := .int (zb (bBeg z c l))) (pj := 52) ?_ (fun K2 => ?_)
      · refine zn_istore (pc := 52) (L' := [some (.ref 18), some (.ref 11), some (.ref 4), some (.int (nI c)), some (.int (nI l)), some (.int (zb (bBeg z c l)))]) rfl (by decide) rfl ?_
        refine zn_iload (pc := 54) rfl rfl ?_
        refine zn_if_eqB (pc := 56) (tgt := 125) rfl rfl (fun c3 => ?_) (fun c3 => ?_)
        · refine zn_iincN (pc := 125) (L' := [some (.ref 18), some (.ref 11), some (.ref 4), some (.int (nI c)), some (.int (nI (l + 1))), some (.int (zb (bBeg z c l)))]) 1 rfl rfl rfl (by decide) rfl ?_
          refine zn_goto (pc := 128) (tgt := 16) rfl rfl ?_
          exact zn_sub (L' := [some (.ref 18), some (.ref 11), some (.ref 4), some (.int (nI c)), some (.int (nI (l + 1))), none]) ⟨rfl, rfl, rfl, rfl, rfl, trivial⟩ (ih (l + 1) P D W (by omega) (by rw [hn1]; simp only [bUp]; rw [if_neg (by assumption), List.append_nil]) hn2)
        · have hR := bRun_ok (z 0) l (c3).1
          have hR2 : bRun z c (z 0) l < 24 := by have := (hR.2 _ hR.1 (Nat.le_refl _)).1; omega
          have hP84 : P.length < 84 := by rw [hn1, List.length_append]; have q1 := bAll_len2 h1 c; have q2 := (bUp_len2 z c l).2 (c3).2; omega
          refine zn_aload_n (pc := 59) rfl rfl ?_
          refine zn_get (pc := 60) (v := .int (nI P.length)) rfl rfl rfl ?_
          refine zn_bipushN (pc := 63) 84 rfl rfl ?_
          refine zn_icmp_geN (pc := 65) (tgt := 125) (x := P.length) (y := 84) rfl rfl (by omega) (by omega) (fun c4 => ?_) (fun c4 => ?_)
          · exfalso; omega
          · refine zn_aload_n (pc := 68) rfl rfl ?_
            refine zn_get (pc := 69) (v := .ref 19) rfl rfl rfl ?_
            refine zn_aload_n (pc := 72) rfl rfl ?_
            refine zn_get (pc := 73) (v := .int (nI P.length)) rfl rfl rfl ?_
            refine zn_iload_n (pc := 76) rfl rfl ?_
            refine zl_stD (pc := 77) (i := 0) (j := P.length) (v := c) rfl (by decide) rfl (by omega) ?_
            refine zn_aload_n (pc := 78) rfl rfl ?_
            refine zn_get (pc := 79) (v := .ref 20) rfl rfl rfl ?_
            refine zn_aload_n (pc := 82) rfl rfl ?_
            refine zn_get (pc := 83) (v := .int (nI P.length)) rfl rfl rfl ?_
            refine zn_iload (pc := 86) rfl rfl ?_
            refine zl_stD (pc := 88) (i := 1) (j := P.length) (v := l) rfl (by decide) rfl (by omega) ?_
            refine zn_aload_n (pc := 89) rfl rfl ?_
            refine zn_get (pc := 90) (v := .ref 21) rfl rfl rfl ?_
            refine zn_aload_n (pc := 93) rfl rfl ?_
            refine zn_get (pc := 94) (v := .int (nI P.length)) rfl rfl rfl ?_
            refine zn_aload_n (pc := 97) rfl rfl ?_
            refine zn_iload_n (pc := 98) rfl rfl ?_
            refine zn_iload (pc := 99) rfl rfl ?_
            refine zn_callSx (pc := 101) (J := zX0_lastLine) (as := [.ref 11, .int (nI c), .int (nI l)]) (rest := [.int (nI P.length), .ref 21]) rfl (by decide) rfl rfl rfl rfl (Nat.le_of_ble_eq_true rfl) (Nat.le_of_ble_eq_true rfl) (Nat.le_of_ble_eq_true rfl) (Nat.le_of_ble_eq_true rfl) (c_lastLine_10 hz (cOK_l hcel) (c := c) (f := l) (by omega) (by omega)) ?_
            refine zl_stD (pc := 104) (i := 2) (j := P.length) (v := (bRun z c (z 0) l)) rfl (by decide) rfl (by omega) ?_
            refine zn_aload_n (pc := 105) rfl rfl ?_
            refine zn_aload_n (pc := 106) rfl rfl ?_
            refine zn_get (pc := 107) (v := .int (nI P.length)) rfl rfl rfl ?_
            refine zn_aload_n (pc := 110) rfl rfl ?_
            refine zn_aload_n (pc := 111) rfl rfl ?_
            refine zn_callVx (pc := 112) (J := zX0_measureBlock) (o := 18) (as := [.int (nI P.length), .ref 11, .ref 4]) (rest := []) rfl rfl rfl rfl rfl rfl rfl rfl (Nat.le_of_ble_eq_true rfl) (Nat.le_of_ble_eq_true rfl) (Nat.le_of_ble_eq_true rfl) (Nat.le_of_ble_eq_true rfl) (c_measureBlock_10 (D := va_up (va_up (va_up D 0 (va_up (D 0) P.length c)) 1 (va_up (D 1) P.length l)) 2 (va_up (D 2) P.length (bRun z c (z 0) l))) (W := W) (b := P.length) (c := c) (f := l) (t := bRun z c (z 0) l) hz hcel hf4 hf5 hpd hlw hg hg8 hal hP84 (va_upS _ _ _) (va_upS _ _ _) (va_upS _ _ _) hc hR.1 hR2 (fun i q1 q2 => hR.2 i q1 q2)) ?_
            refine zn_aload_n (pc := 115) rfl rfl ?_
            refine zn_dup (pc := 116) rfl rfl ?_
            refine zn_get (pc := 117) (v := .int (nI P.length)) rfl rfl rfl ?_
            refine zn_iconstN (pc := 120) 1 rfl rfl ?_
            refine zn_iaddN (pc := 121) (x := P.length) (y := 1) rfl ?_
            refine zl_putm (pc := 122) (v := (P.length + 1)) rfl rfl ?_
            refine zn_iincN (pc := 125) (L' := [some (.ref 18), some (.ref 11), some (.ref 4), some (.int (nI c)), some (.int (nI (l + 1))), some (.int (zb (bBeg z c l)))]) 1 rfl rfl rfl (by decide) rfl ?_
            refine zn_goto (pc := 128) (tgt := 16) rfl rfl ?_
            refine zn_heq (h' := lhp 10 h (z 0) C V ((P ++ [(c, l, bRun z c (z 0) l)]).length) (cAdd z D P.length c l (bRun z c (z 0) l) (bAl (al c) (mK z c) l (bRun z c (z 0) l)) (bWid (bCont (bAl (al c) (mK z c) l (bRun z c (z 0) l)) (mK z c) (mN z c) (mH z c) l (bRun z c (z 0) l)) lw pd gr)) (va_up W P.length (bSum z c l (bRun z c (z 0) l))) Xs Bn) ?_ (zn_sub (L' := [some (.ref 18), some (.ref 11), some (.ref 4), some (.int (nI c)), some (.int (nI (l + 1))), none]) ⟨rfl, rfl, rfl, rfl, rfl, trivial⟩ (ih (l + 1) _ _ _ (by omega) (by rw [hn1]; simp only [bUp]; rw [if_pos (by assumption), List.append_assoc]) (cHold_add hn2)))
            rw [List.length_append]
            rfl
      · refine zn_aload_n (pc := 25) rfl rfl ?_
        refine zn_iload (pc := 26) rfl rfl ?_
        refine zn_iload_n (pc := 28) rfl rfl ?_
        refine zn_callVx (pc := 29) (J := zX1_endsWithTab) (o := 11) (as := [.int (nI l), .int (nI c)]) (rest := []) rfl rfl rfl rfl rfl rfl rfl rfl (Nat.le_of_ble_eq_true rfl) (Nat.le_of_ble_eq_true rfl) (Nat.le_of_ble_eq_true rfl) (Nat.le_of_ble_eq_true rfl) (c_endsN_10 hz (cOK_l hcel) (l := l) (c := c) (by omega) (by omega)) ?_
        refine zn_if_eqB (pc := 32) (tgt := 51) rfl rfl (fun c5 => ?_) (fun c5 => ?_)
        · refine zn_iconstN (pc := 51) 0 rfl rfl ?_
          exact zn_top (v' := .int (zb (bBeg z c l))) (by rw [zb_f (by intro q9; first | exact absurd q9.1 (by assumption) | exact absurd (by assumption) q9.2)]; rfl) K2
        · refine zn_aload_n (pc := 35) rfl rfl ?_
          refine zn_iload (pc := 36) rfl rfl ?_
          refine zn_iconstN (pc := 38) 1 rfl rfl ?_
          refine zn_isub (pc := 39) rfl ?_
          refine zn_iload_n (pc := 40) rfl rfl ?_
          refine zn_callVx (pc := 41) (J := zX1_endsWithTab) (o := 11) (as := [.int (nI l - 1), .int (nI c)]) (rest := []) rfl rfl rfl rfl rfl rfl rfl rfl (Nat.le_of_ble_eq_true rfl) (Nat.le_of_ble_eq_true rfl) (Nat.le_of_ble_eq_true rfl) (Nat.le_of_ble_eq_true rfl) (c_endsP_10 hz (cOK_l hcel) (l := l) (c := c) (by omega) (by omega)) ?_
          refine zn_if_neB (pc := 44) (tgt := 51) rfl rfl (fun c6 => ?_) (fun c6 => ?_)
          · refine zn_iconstN (pc := 51) 0 rfl rfl ?_
            exact zn_top (v' := .int (zb (bBeg z c l))) (by rw [zb_f (by intro q9; first | exact absurd q9.1 (by assumption) | exact absurd (by assumption) q9.2)]; rfl) K2
          · refine zn_iconstN (pc := 47) 1 rfl rfl ?_
            refine zn_goto (pc := 48) (tgt := 52) rfl rfl ?_
            exact zn_top (v' := .int (zb (bBeg z c l))) (by rw [zb_t ⟨by assumption, by assumption⟩]; rfl) K2
theorem c_collect_c10 {C : Nat → Nat → Nat} {V : Nat → Int64} {Xs : Nat → Nat} {Bn : Nat → Int32} (hz : mOK z) (hcel : cCel z C V) {pd lw gr : Nat} {al : Nat → Nat} (hf4 : h.1 4 = some (.inr (2, [.ref 5, .int (nI pd), .int (nI lw), .int (nI gr)]))) (hf5 : h.1 5 = some (mNA 7 al)) (hpd : pd ≤ 8) (hlw : lw ≤ 20) (hg : 1 ≤ gr) (hg8 : gr ≤ 8) (hal : ∀ j, al j ≤ 3) : ∀ (n : Nat) (c : Nat) (D : Nat → Nat → Nat) (W : Nat → Int64), c + n = 7 → cHold z al pd lw gr D W (bAll z c) → Zn g zX0_collect 7 [some (.ref 18), some (.ref 11), some (.ref 4), some (.int (nI c)), none, none] [] (lhp 10 h (z 0) C V ((bAll z c).length) D W Xs Bn) 0 0 (fun r' h' => r' = .inl none ∧ ∃ D' W', h' = lhp 10 h (z 0) C V ((bAll z 7).length) D' W' Xs Bn ∧ cHold z al pd lw gr D' W' (bAll z 7)) := by
  intro n
  induction n with
  | zero =>
    intro c D W hn0 hn1
    refine zn_iload_n (pc := 7) rfl rfl ?_
    refine zn_bipushN (pc := 8) 7 rfl rfl ?_
    refine zn_icmp_geN (pc := 10) (tgt := 137) (x := c) (y := 7) rfl rfl (by omega) (by omega) (fun c1 => ?_) (fun c1 => ?_)
    · have e8 : c = 7 := by omega
      subst e8
      exact zn_vret (pc := 137) rfl rfl ⟨rfl, D, W, rfl, hn1⟩
    · exfalso; omega
  | succ n ih =>
    intro c D W hn0 hn1
    refine zn_iload_n (pc := 7) rfl rfl ?_
    refine zn_bipushN (pc := 8) 7 rfl rfl ?_
    refine zn_icmp_geN (pc := 10) (tgt := 137) (x := c) (y := 7) rfl rfl (by omega) (by omega) (fun c1 => ?_) (fun c1 => ?_)
    · have e8 : c = 7 := by omega
      subst e8
      exact zn_vret (pc := 137) rfl rfl ⟨rfl, D, W, rfl, hn1⟩
    · refine zn_iconstN (pc := 13) 0 rfl rfl ?_
      refine zn_istore (pc := 14) (L' := [some (.ref 18), some (.ref 11), some (.ref 4), some (.int (nI c)), some (.int (nI 0)), none]) rfl (by decide) rfl ?_
      exact c_collect_l10 hz hcel hf4 hf5 hpd hlw hg hg8 hal (by omega) (fun D' W' q => ih (c + 1) D' W' (by omega) q) (z 0) 0 (bAll z c) D W (by omega) (by simp only [bUp, List.append_nil]) hn1
theorem c_collect_10 {m : Nat} {C D : Nat → Nat → Nat} {V W : Nat → Int64} {Xs : Nat → Nat} {Bn : Nat → Int32} (hz : mOK z) (hcel : cCel z C V) {pd lw gr : Nat} {al : Nat → Nat} (hf4 : h.1 4 = some (.inr (2, [.ref 5, .int (nI pd), .int (nI lw), .int (nI gr)]))) (hf5 : h.1 5 = some (mNA 7 al)) (hpd : pd ≤ 8) (hlw : lw ≤ 20) (hg : 1 ≤ gr) (hg8 : gr ≤ 8) (hal : ∀ j, al j ≤ 3) : Zm g zX0_collect [.ref 18, .ref 11, .ref 4] (lhp 10 h (z 0) C V m D W Xs Bn) 0 0 (fun r' h' => r' = .inl none ∧ ∃ D' W', h' = lhp 10 h (z 0) C V ((bAll z 7).length) D' W' Xs Bn ∧ cHold z al pd lw gr D' W' (bAll z 7)) := by
  show Zn g zX0_collect 0 [some (.ref 18), some (.ref 11), some (.ref 4), none, none, none] [] (lhp 10 h (z 0) C V m D W Xs Bn) 0 0 _
  refine zn_aload_n (pc := 0) rfl rfl ?_
  refine zn_iconstN (pc := 1) 0 rfl rfl ?_
  refine zl_putm (pc := 2) (v := 0) rfl rfl ?_
  refine zn_iconstN (pc := 5) 0 rfl rfl ?_
  refine zn_istore_n (pc := 6) (L' := [some (.ref 18), some (.ref 11), some (.ref 4), some (.int (nI 0)), none, none]) rfl (by decide) rfl ?_
  exact c_collect_c10 hz hcel hf4 hf5 hpd hlw hg hg8 hal 7 0 D W (by omega) (fun i c f t q => by simp [bAll] at q)
theorem c_collect_l30 {C : Nat → Nat → Nat} {V : Nat → Int64} {Xs : Nat → Nat} {Bn : Nat → Int32} (hz : mOK z) (hcel : cCel z C V) {pd lw gr : Nat} {al : Nat → Nat} (hf4 : h.1 4 = some (.inr (2, [.ref 5, .int (nI pd), .int (nI lw), .int (nI gr)]))) (hf5 : h.1 5 = some (mNA 7 al)) (hpd : pd ≤ 8) (hlw : lw ≤ 20) (hg : 1 ≤ gr) (hg8 : gr ≤ 8) (hal : ∀ j, al j ≤ 3) {c : Nat} {Q : zR → zH → Prop} (hc : c < 7) (K : ∀ (D : Nat → Nat → Nat) (W : Nat → Int64), cHold z al pd lw gr D W (bAll z (c + 1)) → Zn g zX0_collect 7 [some (.ref 38), some (.ref 31), some (.ref 4), some (.int (nI (c + 1))), none, none] [] (lhp 30 h (z 0) C V ((bAll z (c + 1)).length) D W Xs Bn) 0 0 Q) : ∀ (n : Nat) (l : Nat) (P : List (Nat × Nat × Nat)) (D : Nat → Nat → Nat) (W : Nat → Int64), l + n = z 0 → P = bAll z c ++ bUp z c l → cHold z al pd lw gr D W P → Zn g zX0_collect 16 [some (.ref 38), some (.ref 31), some (.ref 4), some (.int (nI c)), some (.int (nI l)), none] [] (lhp 30 h (z 0) C V P.length D W Xs Bn) 0 0 Q := by
  intro n
  induction n with
  | zero =>
    intro l P D W hn0 hn1 hn2
    have h1 := hz.2.1
    refine zn_iload (pc := 16) rfl rfl ?_
    refine zn_aload_n (pc := 18) rfl rfl ?_
    refine zn_callVx (pc := 19) (J := zX1_lines) (o := 31) (as := []) (rest := [.int (nI l)]) rfl rfl rfl rfl rfl rfl rfl rfl (Nat.le_of_ble_eq_true rfl) (Nat.le_of_ble_eq_true rfl) (Nat.le_of_ble_eq_true rfl) (Nat.le_of_ble_eq_true rfl) (c_linesK_30 (cOK_l hcel)) ?_
    refine zn_icmp_geN (pc := 22) (tgt := 131) (x := l) (y := (z 0)) rfl rfl (by omega) (by omega) (fun c1 => ?_) (fun c1 => ?_)
    · refine zn_iincN (pc := 131) (L' := [some (.ref 38), some (.ref 31), some (.ref 4), some (.int (nI (c + 1))), some (.int (nI l)), none]) 1 rfl rfl rfl (by decide) rfl ?_
      refine zn_goto (pc := 134) (tgt := 7) rfl rfl ?_
      have e8 : l = z 0 := by omega
      rw [e8] at hn1
      subst hn1
      exact zn_sub (L' := [some (.ref 38), some (.ref 31), some (.ref 4), some (.int (nI (c + 1))), none, none]) ⟨rfl, rfl, rfl, rfl, trivial⟩ (K D W hn2)
    · exfalso; omega
  | succ n ih =>
    intro l P D W hn0 hn1 hn2
    have h1 := hz.2.1
    refine zn_iload (pc := 16) rfl rfl ?_
    refine zn_aload_n (pc := 18) rfl rfl ?_
    refine zn_callVx (pc := 19) (J := zX1_lines) (o := 31) (as := []) (rest := [.int (nI l)]) rfl rfl rfl rfl rfl rfl rfl rfl (Nat.le_of_ble_eq_true rfl) (Nat.le_of_ble_eq_true rfl) (Nat.le_of_ble_eq_true rfl) (Nat.le_of_ble_eq_true rfl) (c_linesK_30 (cOK_l hcel)) ?_
    refine zn_icmp_geN (pc := 22) (tgt := 131) (x := l) (y := (z 0)) rfl rfl (by omega) (by omega) (fun c1 => ?_) (fun c1 => ?_)
    · refine zn_iincN (pc := 131) (L' := [some (.ref 38), some (.ref 31), some (.ref 4), some (.int (nI (c + 1))), some (.int (nI l)), none]) 1 rfl rfl rfl (by decide) rfl ?_
      refine zn_goto (pc := 134) (tgt := 7) rfl rfl ?_
      have e8 : l = z 0 := by omega
      rw [e8] at hn1
      subst hn1
      exact zn_sub (L' := [some (.ref 38), some (.ref 31), some (.ref 4), some (.int (nI (c + 1))), none, none]) ⟨rfl, rfl, rfl, rfl, trivial⟩ (K D W hn2)
    · refine zn_joinV (v := .int (zb (bBeg z c l))) (pj := 52) ?_ (fun K2 => ?_)
      · refine zn_istore (pc := 52) (L' := [some (.ref 38), some (.ref 31), some (.ref 4), some (.int (nI c)), some (.int (nI l)), some (.int (zb (bBeg z c l)))]) rfl (by decide) rfl ?_
        refine zn_iload (pc := 54) rfl rfl ?_
        refine zn_if_eqB (pc := 56) (tgt := 125) rfl rfl (fun c3 => ?_) (fun c3 => ?_)
        · refine zn_iincN (pc := 125) (L' := [some (.ref 38), some (.ref 31), some (.ref 4), some (.int (nI c)), some (.int (nI (l + 1))), some (.int (zb (bBeg z c l)))]) 1 rfl rfl rfl (by decide) rfl ?_
          refine zn_goto (pc := 128) (tgt := 16) rfl rfl ?_
          exact zn_sub (L' := [some (.ref 38), some (.ref 31), some (.ref 4), some (.int (nI c)), some (.int (nI (l + 1))), none]) ⟨rfl, rfl, rfl, rfl, rfl, trivial⟩ (ih (l + 1) P D W (by omega) (by rw [hn1]; simp only [bUp]; rw [if_neg (by assumption), List.append_nil]) hn2)
        · have hR := bRun_ok (z 0) l (c3).1
          have hR2 : bRun z c (z 0) l < 24 := by have := (hR.2 _ hR.1 (Nat.le_refl _)).1; omega
          have hP84 : P.length < 84 := by rw [hn1, List.length_append]; have q1 := bAll_len2 h1 c; have q2 := (bUp_len2 z c l).2 (c3).2; omega
          refine zn_aload_n (pc := 59) rfl rfl ?_
          refine zn_get (pc := 60) (v := .int (nI P.length)) rfl rfl rfl ?_
          refine zn_bipushN (pc := 63) 84 rfl rfl ?_
          refine zn_icmp_geN (pc := 65) (tgt := 125) (x := P.length) (y := 84) rfl rfl (by omega) (by omega) (fun c4 => ?_) (fun c4 => ?_)
          · exfalso; omega
          · refine zn_aload_n (pc := 68) rfl rfl ?_
            refine zn_get (pc := 69) (v := .ref 39) rfl rfl rfl ?_
            refine zn_aload_n (pc := 72) rfl rfl ?_
            refine zn_get (pc := 73) (v := .int (nI P.length)) rfl rfl rfl ?_
            refine zn_iload_n (pc := 76) rfl rfl ?_
            refine zl_stD (pc := 77) (i := 0) (j := P.length) (v := c) rfl (by decide) rfl (by omega) ?_
            refine zn_aload_n (pc := 78) rfl rfl ?_
            refine zn_get (pc := 79) (v := .ref 40) rfl rfl rfl ?_
            refine zn_aload_n (pc := 82) rfl rfl ?_
            refine zn_get (pc := 83) (v := .int (nI P.length)) rfl rfl rfl ?_
            refine zn_iload (pc := 86) rfl rfl ?_
            refine zl_stD (pc := 88) (i := 1) (j := P.length) (v := l) rfl (by decide) rfl (by omega) ?_
            refine zn_aload_n (pc := 89) rfl rfl ?_
            refine zn_get (pc := 90) (v := .ref 41) rfl rfl rfl ?_
            refine zn_aload_n (pc := 93) rfl rfl ?_
            refine zn_get (pc := 94) (v := .int (nI P.length)) rfl rfl rfl ?_
            refine zn_aload_n (pc := 97) rfl rfl ?_
            refine zn_iload_n (pc := 98) rfl rfl ?_
            refine zn_iload (pc := 99) rfl rfl ?_
            refine zn_callSx (pc := 101) (J := zX0_lastLine) (as := [.ref 31, .int (nI c), .int (nI l)]) (rest := [.int (nI P.length), .ref 41]) rfl (by decide) rfl rfl rfl rfl (Nat.le_of_ble_eq_true rfl) (Nat.le_of_ble_eq_true rfl) (Nat.le_of_ble_eq_true rfl) (Nat.le_of_ble_eq_true rfl) (c_lastLine_30 hz (cOK_l hcel) (c := c) (f := l) (by omega) (by omega)) ?_
            refine zl_stD (pc := 104) (i := 2) (j := P.length) (v := (bRun z c (z 0) l)) rfl (by decide) rfl (by omega) ?_
            refine zn_aload_n (pc := 105) rfl rfl ?_
            refine zn_aload_n (pc := 106) rfl rfl ?_
            refine zn_get (pc := 107) (v := .int (nI P.length)) rfl rfl rfl ?_
            refine zn_aload_n (pc := 110) rfl rfl ?_
            refine zn_aload_n (pc := 111) rfl rfl ?_
            refine zn_callVx (pc := 112) (J := zX0_measureBlock) (o := 38) (as := [.int (nI P.length), .ref 31, .ref 4]) (rest := []) rfl rfl rfl rfl rfl rfl rfl rfl (Nat.le_of_ble_eq_true rfl) (Nat.le_of_ble_eq_true rfl) (Nat.le_of_ble_eq_true rfl) (Nat.le_of_ble_eq_true rfl) (c_measureBlock_30 (D := va_up (va_up (va_up D 0 (va_up (D 0) P.length c)) 1 (va_up (D 1) P.length l)) 2 (va_up (D 2) P.length (bRun z c (z 0) l))) (W := W) (b := P.length) (c := c) (f := l) (t := bRun z c (z 0) l) hz hcel hf4 hf5 hpd hlw hg hg8 hal hP84 (va_upS _ _ _) (va_upS _ _ _) (va_upS _ _ _) hc hR.1 hR2 (fun i q1 q2 => hR.2 i q1 q2)) ?_
            refine zn_aload_n (pc := 115) rfl rfl ?_
            refine zn_dup (pc := 116) rfl rfl ?_
            refine zn_get (pc := 117) (v := .int (nI P.length)) rfl rfl rfl ?_
            refine zn_iconstN (pc := 120) 1 rfl rfl ?_
            refine zn_iaddN (pc := 121) (x := P.length) (y := 1) rfl ?_
            refine zl_putm (pc := 122) (v := (P.length + 1)) rfl rfl ?_
            refine zn_iincN (pc := 125) (L' := [some (.ref 38), some (.ref 31), some (.ref 4), some (.int (nI c)), some (.int (nI (l + 1))), some (.int (zb (bBeg z c l)))]) 1 rfl rfl rfl (by decide) rfl ?_
            refine zn_goto (pc := 128) (tgt := 16) rfl rfl ?_
            refine zn_heq (h' := lhp 30 h (z 0) C V ((P ++ [(c, l, bRun z c (z 0) l)]).length) (cAdd z D P.length c l (bRun z c (z 0) l) (bAl (al c) (mK z c) l (bRun z c (z 0) l)) (bWid (bCont (bAl (al c) (mK z c) l (bRun z c (z 0) l)) (mK z c) (mN z c) (mH z c) l (bRun z c (z 0) l)) lw pd gr)) (va_up W P.length (bSum z c l (bRun z c (z 0) l))) Xs Bn) ?_ (zn_sub (L' := [some (.ref 38), some (.ref 31), some (.ref 4), some (.int (nI c)), some (.int (nI (l + 1))), none]) ⟨rfl, rfl, rfl, rfl, rfl, trivial⟩ (ih (l + 1) _ _ _ (by omega) (by rw [hn1]; simp only [bUp]; rw [if_pos (by assumption), List.append_assoc]) (cHold_add hn2)))
            rw [List.length_append]
            rfl
      · refine zn_aload_n (pc := 25) rfl rfl ?_
        refine zn_iload (pc := 26) rfl rfl ?_
        refine zn_iload_n (pc := 28) rfl rfl ?_
        refine zn_callVx (pc := 29) (J := zX1_endsWithTab) (o := 31) (as := [.int (nI l), .int (nI c)]) (rest := []) rfl rfl rfl rfl rfl rfl rfl rfl (Nat.le_of_ble_eq_true rfl) (Nat.le_of_ble_eq_true rfl) (Nat.le_of_ble_eq_true rfl) (Nat.le_of_ble_eq_true rfl) (c_endsN_30 hz (cOK_l hcel) (l := l) (c := c) (by omega) (by omega)) ?_
        refine zn_if_eqB (pc := 32) (tgt := 51) rfl rfl (fun c5 => ?_) (fun c5 => ?_)
        · refine zn_iconstN (pc := 51) 0 rfl rfl ?_
          exact zn_top (v' := .int (zb (bBeg z c l))) (by rw [zb_f (by intro q9; first | exact absurd q9.1 (by assumption) | exact absurd (by assumption) q9.2)]; rfl) K2
        · refine zn_aload_n (pc := 35) rfl rfl ?_
          refine zn_iload (pc := 36) rfl rfl ?_
          refine zn_iconstN (pc := 38) 1 rfl rfl ?_
          refine zn_isub (pc := 39) rfl ?_
          refine zn_iload_n (pc := 40) rfl rfl ?_
          refine zn_callVx (pc := 41) (J := zX1_endsWithTab) (o := 31) (as := [.int (nI l - 1), .int (nI c)]) (rest := []) rfl rfl rfl rfl rfl rfl rfl rfl (Nat.le_of_ble_eq_true rfl) (Nat.le_of_ble_eq_true rfl) (Nat.le_of_ble_eq_true rfl) (Nat.le_of_ble_eq_true rfl) (c_endsP_30 hz (cOK_l hcel) (l := l) (c := c) (by omega) (by omega)) ?_
          refine zn_if_neB (pc := 44) (tgt := 51) rfl rfl (fun c6 => ?_) (fun c6 => ?_)
          · refine zn_iconstN (pc := 51) 0 rfl rfl ?_
            exact zn_top (v' := .int (zb (bBeg z c l))) (by rw [zb_f (by intro q9; first | exact absurd q9.1 (by assumption) | exact absurd (by assumption) q9.2)]; rfl) K2
          · refine zn_iconstN (pc := 47) 1 rfl rfl ?_
            refine zn_goto (pc := 48) (tgt := 52) rfl rfl ?_
            exact zn_top (v' := .int (zb (bBeg z c l))) (by rw [zb_t ⟨by assumption, by assumption⟩]; rfl) K2
theorem c_collect_c30 {C : Nat → Nat → Nat} {V : Nat → Int64} {Xs : Nat → Nat} {Bn : Nat → Int32} (hz : mOK z) (hcel : cCel z C V) {pd lw gr : Nat} {al : Nat → Nat} (hf4 : h.1 4 = some (.inr (2, [.ref 5, .int (nI pd), .int (nI lw), .int (nI gr)]))) (hf5 : h.1 5 = some (mNA 7 al)) (hpd : pd ≤ 8) (hlw : lw ≤ 20) (hg : 1 ≤ gr) (hg8 : gr ≤ 8) (hal : ∀ j, al j ≤ 3) : ∀ (n : Nat) (c : Nat) (D : Nat → Nat → Nat) (W : Nat → Int64), c + n = 7 → cHold z al pd lw gr D W (bAll z c) → Zn g zX0_collect 7 [some (.ref 38), some (.ref 31), some (.ref 4), some (.int (nI c)), none, none] [] (lhp 30 h (z 0) C V ((bAll z c).length) D W Xs Bn) 0 0 (fun r' h' => r' = .inl none ∧ ∃ D' W', h' = lhp 30 h (z 0) C V ((bAll z 7).length) D' W' Xs Bn ∧ cHold z al pd lw gr D' W' (bAll z 7)) := by
  intro n
  induction n with
  | zero =>
    intro c D W hn0 hn1
    refine zn_iload_n (pc := 7) rfl rfl ?_
    refine zn_bipushN (pc := 8) 7 rfl rfl ?_
    refine zn_icmp_geN (pc := 10) (tgt := 137) (x := c) (y := 7) rfl rfl (by omega) (by omega) (fun c1 => ?_) (fun c1 => ?_)
    · have e8 : c = 7 := by omega
      subst e8
      exact zn_vret (pc := 137) rfl rfl ⟨rfl, D, W, rfl, hn1⟩
    · exfalso; omega
  | succ n ih =>
    intro c D W hn0 hn1
    refine zn_iload_n (pc := 7) rfl rfl ?_
    refine zn_bipushN (pc := 8) 7 rfl rfl ?_
    refine zn_icmp_geN (pc := 10) (tgt := 137) (x := c) (y := 7) rfl rfl (by omega) (by omega) (fun c1 => ?_) (fun c1 => ?_)
    · have e8 : c = 7 := by omega
      subst e8
      exact zn_vret (pc := 137) rfl rfl ⟨rfl, D, W, rfl, hn1⟩
    · refine zn_iconstN (pc := 13) 0 rfl rfl ?_
      refine zn_istore (pc := 14) (L' := [some (.ref 38), some (.ref 31), some (.ref 4), some (.int (nI c)), some (.int (nI 0)), none]) rfl (by decide) rfl ?_
      exact c_collect_l30 hz hcel hf4 hf5 hpd hlw hg hg8 hal (by omega) (fun D' W' q => ih (c + 1) D' W' (by omega) q) (z 0) 0 (bAll z c) D W (by omega) (by simp only [bUp, List.append_nil]) hn1
theorem c_collect_30 {m : Nat} {C D : Nat → Nat → Nat} {V W : Nat → Int64} {Xs : Nat → Nat} {Bn : Nat → Int32} (hz : mOK z) (hcel : cCel z C V) {pd lw gr : Nat} {al : Nat → Nat} (hf4 : h.1 4 = some (.inr (2, [.ref 5, .int (nI pd), .int (nI lw), .int (nI gr)]))) (hf5 : h.1 5 = some (mNA 7 al)) (hpd : pd ≤ 8) (hlw : lw ≤ 20) (hg : 1 ≤ gr) (hg8 : gr ≤ 8) (hal : ∀ j, al j ≤ 3) : Zm g zX0_collect [.ref 38, .ref 31, .ref 4] (lhp 30 h (z 0) C V m D W Xs Bn) 0 0 (fun r' h' => r' = .inl none ∧ ∃ D' W', h' = lhp 30 h (z 0) C V ((bAll z 7).length) D' W' Xs Bn ∧ cHold z al pd lw gr D' W' (bAll z 7)) := by
  show Zn g zX0_collect 0 [some (.ref 38), some (.ref 31), some (.ref 4), none, none, none] [] (lhp 30 h (z 0) C V m D W Xs Bn) 0 0 _
  refine zn_aload_n (pc := 0) rfl rfl ?_
  refine zn_iconstN (pc := 1) 0 rfl rfl ?_
  refine zl_putm (pc := 2) (v := 0) rfl rfl ?_
  refine zn_iconstN (pc := 5) 0 rfl rfl ?_
  refine zn_istore_n (pc := 6) (L' := [some (.ref 38), some (.ref 31), some (.ref 4), some (.int (nI 0)), none, none]) rfl (by decide) rfl ?_
  exact c_collect_c30 hz hcel hf4 hf5 hpd hlw hg hg8 hal 7 0 D W (by omega) (fun i c f t q => by simp [bAll] at q)
end m1
