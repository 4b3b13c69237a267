section m1
variable {g : zG} {h hh : zH} {F : Nat → Nat} {S : Int64} {z : Nat → Nat} {A : Nat → Nat → Nat} {X : Nat → Int32}
theorem zf_put {I : zI} {pc idx o ci k v : Nat} {L : zL} {st : List Value} {mc ms : Nat} {Q : zR → zH → Prop} {fs fs' : List Value} (hf : zF I pc = some (.putfield idx, 3, ci, k)) (ho : hh.1 o = some (.inr (ci, fs))) (hk : k < fs.length) (hty : zty ci k = .int) (hs : fs.set k (.int (nI v)) = fs') (K : Zn g I (pc + 3) L st (zup hh o (.inr (ci, fs'))) mc ms Q) : Zn g I pc L (.int (nI v) :: .ref o :: st) hh mc ms Q := by
  refine zn_put hf ho hk ?_ ?_
  · rw [hty]; show (true && (Value.int (nI v) == Value.int (nI v))) = true; simp
  · rw [hs]; exact K
theorem c_changeAlignment  {pd lw gr : Nat} {al : Nat → Nat} (hf4 : hh.1 4 = some (.inr (2, [.ref 5, .int (nI pd), .int (nI lw), .int (nI gr)]))) (hf5 : hh.1 5 = some (mNA 7 al)) (hpd : pd ≤ 8) (hlw : lw ≤ 20) (hg : 1 ≤ gr) (hg8 : gr ≤ 8) (hal : ∀ j, al j ≤ 3) {c a : Nat} (hc : c < 7) : Zx g zX2_changeAlignment [.ref 4, .int (nI c), .int (nI a)] (hh) (some (.int (nI (al c)))) (zup hh 5 (mNA 7 (va_up al c a))) := by
  show Zn g zX2_changeAlignment 0 [some (.ref 4), some (.int (nI c)), some (.int (nI a)), none] [] (hh) 0 0 _
  refine zn_aload_n (pc := 0) rfl rfl ?_
  refine zn_iload_n (pc := 1) rfl rfl ?_
  refine zn_callVx (pc := 2) (J := zX2_alignment) (o := 4) (as := [.int (nI c)]) (rest := []) rfl rfl rfl rfl hf4 rfl rfl rfl (Nat.le_of_ble_eq_true rfl) (Nat.le_of_ble_eq_true rfl) (Nat.le_of_ble_eq_true rfl) (Nat.le_of_ble_eq_true rfl) (c_alignment hf4 hf5 hpd hlw hg hg8 hal (c := c) (by omega)) ?_
  refine zn_istore_n (pc := 5) (L' := [some (.ref 4), some (.int (nI c)), some (.int (nI a)), some (.int (nI (al c)))]) rfl (by decide) rfl ?_
  refine zn_iload_n (pc := 6) rfl rfl ?_
  refine zn_if_ltN (pc := 7) (tgt := 26) (x := c) rfl rfl (by omega) ?_
  refine zn_iload_n (pc := 10) rfl rfl ?_
  refine zn_aload_n (pc := 11) rfl rfl ?_
  refine zn_get (pc := 12) (v := .ref 5) rfl hf4 rfl ?_
  refine zn_alenN (pc := 15) (n := 7) rfl hf5 ?_
  refine zn_icmp_geN (pc := 16) (tgt := 26) (x := c) (y := 7) rfl rfl (by omega) (by omega) (fun c2 => ?_) (fun c2 => ?_)
  · exfalso; omega
  · refine zn_aload_n (pc := 19) rfl rfl ?_
    refine zn_get (pc := 20) (v := .ref 5) rfl hf4 rfl ?_
    refine zn_iload_n (pc := 23) rfl rfl ?_
    refine zn_iload_n (pc := 24) rfl rfl ?_
    refine zn_naSt (pc := 25) (o := 5) (n := 7) (Z := al) (j := c) (v := a) rfl (by decide) hf5 (by omega) (Nat.le_of_ble_eq_true rfl) ?_
    refine zn_iload_n (pc := 26) rfl rfl ?_
    exact zx_i (pc := 27) rfl rfl rfl rfl
theorem c_changeSpacing_0  {pd lw gr : Nat} {al : Nat → Nat} (hf4 : hh.1 4 = some (.inr (2, [.ref 5, .int (nI pd), .int (nI lw), .int (nI gr)]))) (hf5 : hh.1 5 = some (mNA 7 al)) (hpd : pd ≤ 8) (hlw : lw ≤ 20) (hg : 1 ≤ gr) (hg8 : gr ≤ 8) (hal : ∀ j, al j ≤ 3) {v : Nat} : Zx g zX2_changeSpacing [.ref 4, .int (nI 0), .int (nI v)] (hh) (some (.int (nI pd))) (zup hh 4 (.inr (2, [.ref 5, .int (nI v), .int (nI lw), .int (nI gr)]))) := by
  show Zn g zX2_changeSpacing 0 [some (.ref 4), some (.int (nI 0)), some (.int (nI v)), none] [] (hh) 0 0 _
  refine zn_iload_n (pc := 0) rfl rfl ?_
  refine zn_if_neN (pc := 1) (tgt := 17) (x := 0) rfl rfl (by omega) (fun c1 => ?_) (fun c1 => ?_)
  · exfalso; omega
  · refine zn_aload_n (pc := 4) rfl rfl ?_
    refine zn_get (pc := 5) (v := .int (nI pd)) rfl hf4 rfl ?_
    refine zn_istore_n (pc := 8) (L' := [some (.ref 4), some (.int (nI 0)), some (.int (nI v)), some (.int (nI pd))]) rfl (by decide) rfl ?_
    refine zn_aload_n (pc := 9) rfl rfl ?_
    refine zn_iload_n (pc := 10) rfl rfl ?_
    refine zf_put (pc := 11) (fs := [.ref 5, .int (nI pd), .int (nI lw), .int (nI gr)]) (fs' := [.ref 5, .int (nI v), .int (nI lw), .int (nI gr)]) (v := v) rfl hf4 (Nat.le_of_ble_eq_true rfl) rfl rfl ?_
    refine zn_goto (pc := 14) (tgt := 45) rfl rfl ?_
    refine zn_iload_n (pc := 45) rfl rfl ?_
    exact zx_i (pc := 46) rfl rfl rfl rfl
theorem c_changeSpacing_1  {pd lw gr : Nat} {al : Nat → Nat} (hf4 : hh.1 4 = some (.inr (2, [.ref 5, .int (nI pd), .int (nI lw), .int (nI gr)]))) (hf5 : hh.1 5 = some (mNA 7 al)) (hpd : pd ≤ 8) (hlw : lw ≤ 20) (hg : 1 ≤ gr) (hg8 : gr ≤ 8) (hal : ∀ j, al j ≤ 3) {v : Nat} : Zx g zX2_changeSpacing [.ref 4, .int (nI 1), .int (nI v)] (hh) (some (.int (nI lw))) (zup hh 4 (.inr (2, [.ref 5, .int (nI pd), .int (nI v), .int (nI gr)]))) := by
  show Zn g zX2_changeSpacing 0 [some (.ref 4), some (.int (nI 1)), some (.int (nI v)), none] [] (hh) 0 0 _
  refine zn_iload_n (pc := 0) rfl rfl ?_
  refine zn_if_neN (pc := 1) (tgt := 17) (x := 1) rfl rfl (by omega) (fun c1 => ?_) (fun c1 => ?_)
  · refine zn_iload_n (pc := 17) rfl rfl ?_
    refine zn_iconstN (pc := 18) 1 rfl rfl ?_
    refine zn_icmp_neN (pc := 19) (tgt := 35) (x := 1) (y := 1) rfl rfl (by omega) (by omega) (fun c2 => ?_) (fun c2 => ?_)
    · exfalso; omega
    · refine zn_aload_n (pc := 22) rfl rfl ?_
      refine zn_get (pc := 23) (v := .int (nI lw)) rfl hf4 rfl ?_
      refine zn_istore_n (pc := 26) (L' := [some (.ref 4), some (.int (nI 1)), some (.int (nI v)), some (.int (nI lw))]) rfl (by decide) rfl ?_
      refine zn_aload_n (pc := 27) rfl rfl ?_
      refine zn_iload_n (pc := 28) rfl rfl ?_
      refine zf_put (pc := 29) (fs := [.ref 5, .int (nI pd), .int (nI lw), .int (nI gr)]) (fs' := [.ref 5, .int (nI pd), .int (nI v), .int (nI gr)]) (v := v) rfl hf4 (Nat.le_of_ble_eq_true rfl) rfl rfl ?_
      refine zn_goto (pc := 32) (tgt := 45) rfl rfl ?_
      refine zn_iload_n (pc := 45) rfl rfl ?_
      exact zx_i (pc := 46) rfl rfl rfl rfl
  · exfalso; omega
theorem c_changeSpacing_2  {pd lw gr : Nat} {al : Nat → Nat} (hf4 : hh.1 4 = some (.inr (2, [.ref 5, .int (nI pd), .int (nI lw), .int (nI gr)]))) (hf5 : hh.1 5 = some (mNA 7 al)) (hpd : pd ≤ 8) (hlw : lw ≤ 20) (hg : 1 ≤ gr) (hg8 : gr ≤ 8) (hal : ∀ j, al j ≤ 3) {v : Nat} : Zx g zX2_changeSpacing [.ref 4, .int (nI 2), .int (nI v)] (hh) (some (.int (nI gr))) (zup hh 4 (.inr (2, [.ref 5, .int (nI pd), .int (nI lw), .int (nI v)]))) := by
  show Zn g zX2_changeSpacing 0 [some (.ref 4), some (.int (nI 2)), some (.int (nI v)), none] [] (hh) 0 0 _
  refine zn_iload_n (pc := 0) rfl rfl ?_
  refine zn_if_neN (pc := 1) (tgt := 17) (x := 2) rfl rfl (by omega) (fun c1 => ?_) (fun c1 => ?_)
  · refine zn_iload_n (pc := 17) rfl rfl ?_
    refine zn_iconstN (pc := 18) 1 rfl rfl ?_
    refine zn_icmp_neN (pc := 19) (tgt := 35) (x := 2) (y := 1) rfl rfl (by omega) (by omega) (fun c2 => ?_) (fun c2 => ?_)
    · refine zn_aload_n (pc := 35) rfl rfl ?_
      refine zn_get (pc := 36) (v := .int (nI gr)) rfl hf4 rfl ?_
      refine zn_istore_n (pc := 39) (L' := [some (.ref 4), some (.int (nI 2)), some (.int (nI v)), some (.int (nI gr))]) rfl (by decide) rfl ?_
      refine zn_aload_n (pc := 40) rfl rfl ?_
      refine zn_iload_n (pc := 41) rfl rfl ?_
      refine zf_put (pc := 42) (fs := [.ref 5, .int (nI pd), .int (nI lw), .int (nI gr)]) (fs' := [.ref 5, .int (nI pd), .int (nI lw), .int (nI v)]) (v := v) rfl hf4 (Nat.le_of_ble_eq_true rfl) rfl rfl ?_
      refine zn_iload_n (pc := 45) rfl rfl ?_
      exact zx_i (pc := 46) rfl rfl rfl rfl
    · exfalso; omega
  · exfalso; omega
theorem c_allowsSpacing_0  (y : Int32) : Zx g zX2_allowsSpacing [.ref 4, .int (nI 0), .int y] hh (some (.int (zb (nI 0 ≤ y ∧ y ≤ nI 8)))) hh := by
  have e0 : Int32.toInt 0 = (nI 0).toInt := rfl
  show Zn g zX2_allowsSpacing 0 [some (.ref 4), some (.int (nI 0)), some (.int y)] [] hh 0 0 _
  refine zn_iload_n (pc := 0) rfl rfl ?_
  refine zn_tabIn (pc := 1) (x := nI 0) (off := 27) (tgt := 28) rfl (by decide +kernel) (by decide +kernel) (by rw [show (nI 0).toInt = 0 by decide +kernel]; rfl) rfl ?_
  refine zn_iload_n (pc := 28) rfl rfl ?_
  refine zn_if_lt (pc := 29) (tgt := 42) (x := y) rfl rfl (fun c1 => ?_) (fun c1 => ?_)
  · refine zn_iconstN (pc := 42) 0 rfl rfl ?_
    exact zx_z (pc := 43) rfl rfl (by decide) (by rw [zb_f (by simp only [← Int32.toInt_inj, Int32.lt_iff_toInt_lt, Int32.le_iff_toInt_le] at *; omega)]; rfl) rfl
  · refine zn_iload_n (pc := 32) rfl rfl ?_
    refine zn_bipushN (pc := 33) 8 rfl rfl ?_
    refine zn_icmp_gt (pc := 35) (tgt := 42) (x := y) (y := (nI 8)) rfl rfl (fun c2 => ?_) (fun c2 => ?_)
    · refine zn_iconstN (pc := 42) 0 rfl rfl ?_
      exact zx_z (pc := 43) rfl rfl (by decide) (by rw [zb_f (by simp only [← Int32.toInt_inj, Int32.lt_iff_toInt_lt, Int32.le_iff_toInt_le] at *; omega)]; rfl) rfl
    · refine zn_iconstN (pc := 38) 1 rfl rfl ?_
      refine zn_goto (pc := 39) (tgt := 43) rfl rfl ?_
      exact zx_z (pc := 43) rfl rfl (by decide) (by rw [zb_t (by simp only [← Int32.toInt_inj, Int32.lt_iff_toInt_lt, Int32.le_iff_toInt_le] at *; omega)]; rfl) rfl
theorem c_allowsSpacing_1  (y : Int32) : Zx g zX2_allowsSpacing [.ref 4, .int (nI 1), .int y] hh (some (.int (zb (nI 0 ≤ y ∧ y ≤ nI 20)))) hh := by
  have e0 : Int32.toInt 0 = (nI 0).toInt := rfl
  show Zn g zX2_allowsSpacing 0 [some (.ref 4), some (.int (nI 1)), some (.int y)] [] hh 0 0 _
  refine zn_iload_n (pc := 0) rfl rfl ?_
  refine zn_tabIn (pc := 1) (x := nI 1) (off := 43) (tgt := 44) rfl (by decide +kernel) (by decide +kernel) (by rw [show (nI 1).toInt = 1 by decide +kernel]; rfl) rfl ?_
  refine zn_iload_n (pc := 44) rfl rfl ?_
  refine zn_if_lt (pc := 45) (tgt := 58) (x := y) rfl rfl (fun c1 => ?_) (fun c1 => ?_)
  · refine zn_iconstN (pc := 58) 0 rfl rfl ?_
    exact zx_z (pc := 59) rfl rfl (by decide) (by rw [zb_f (by simp only [← Int32.toInt_inj, Int32.lt_iff_toInt_lt, Int32.le_iff_toInt_le] at *; omega)]; rfl) rfl
  · refine zn_iload_n (pc := 48) rfl rfl ?_
    refine zn_bipushN (pc := 49) 20 rfl rfl ?_
    refine zn_icmp_gt (pc := 51) (tgt := 58) (x := y) (y := (nI 20)) rfl rfl (fun c2 => ?_) (fun c2 => ?_)
    · refine zn_iconstN (pc := 58) 0 rfl rfl ?_
      exact zx_z (pc := 59) rfl rfl (by decide) (by rw [zb_f (by simp only [← Int32.toInt_inj, Int32.lt_iff_toInt_lt, Int32.le_iff_toInt_le] at *; omega)]; rfl) rfl
    · refine zn_iconstN (pc := 54) 1 rfl rfl ?_
      refine zn_goto (pc := 55) (tgt := 59) rfl rfl ?_
      exact zx_z (pc := 59) rfl rfl (by decide) (by rw [zb_t (by simp only [← Int32.toInt_inj, Int32.lt_iff_toInt_lt, Int32.le_iff_toInt_le] at *; omega)]; rfl) rfl
theorem c_allowsSpacing_2  (y : Int32) : Zx g zX2_allowsSpacing [.ref 4, .int (nI 2), .int y] hh (some (.int (zb (nI 1 ≤ y ∧ y ≤ nI 8)))) hh := by
  have e0 : Int32.toInt 0 = (nI 0).toInt := rfl
  show Zn g zX2_allowsSpacing 0 [some (.ref 4), some (.int (nI 2)), some (.int y)] [] hh 0 0 _
  refine zn_iload_n (pc := 0) rfl rfl ?_
  refine zn_tabIn (pc := 1) (x := nI 2) (off := 59) (tgt := 60) rfl (by decide +kernel) (by decide +kernel) (by rw [show (nI 2).toInt = 2 by decide +kernel]; rfl) rfl ?_
  refine zn_iload_n (pc := 60) rfl rfl ?_
  refine zn_iconstN (pc := 61) 1 rfl rfl ?_
  refine zn_icmp_lt (pc := 62) (tgt := 75) (x := y) (y := (nI 1)) rfl rfl (fun c1 => ?_) (fun c1 => ?_)
  · refine zn_iconstN (pc := 75) 0 rfl rfl ?_
    exact zx_z (pc := 76) rfl rfl (by decide) (by rw [zb_f (by simp only [← Int32.toInt_inj, Int32.lt_iff_toInt_lt, Int32.le_iff_toInt_le] at *; omega)]; rfl) rfl
  · refine zn_iload_n (pc := 65) rfl rfl ?_
    refine zn_bipushN (pc := 66) 8 rfl rfl ?_
    refine zn_icmp_gt (pc := 68) (tgt := 75) (x := y) (y := (nI 8)) rfl rfl (fun c2 => ?_) (fun c2 => ?_)
    · refine zn_iconstN (pc := 75) 0 rfl rfl ?_
      exact zx_z (pc := 76) rfl rfl (by decide) (by rw [zb_f (by simp only [← Int32.toInt_inj, Int32.lt_iff_toInt_lt, Int32.le_iff_toInt_le] at *; omega)]; rfl) rfl
    · refine zn_iconstN (pc := 71) 1 rfl rfl ?_
      refine zn_goto (pc := 72) (tgt := 76) rfl rfl ?_
      exact zx_z (pc := 76) rfl rfl (by decide) (by rw [zb_t (by simp only [← Int32.toInt_inj, Int32.lt_iff_toInt_lt, Int32.le_iff_toInt_le] at *; omega)]; rfl) rfl
theorem c_allowsSpacing_o (x y : Int32) (hx : x.toInt < 0 ∨ 2 < x.toInt) : Zx g zX2_allowsSpacing [.ref 4, .int x, .int y] hh (some (.int (zb False))) hh := by
  show Zn g zX2_allowsSpacing 0 [some (.ref 4), some (.int x), some (.int y)] [] hh 0 0 _
  refine zn_iload_n (pc := 0) rfl rfl ?_
  refine zn_tabOut (pc := 1) (x := x) (tgt := 77) rfl hx rfl ?_
  refine zn_iconstN (pc := 77) 0 rfl rfl ?_
  exact zx_z (pc := 78) rfl rfl (by decide) (by rw [zb_f (fun q => q)]; rfl) rfl
theorem c_fmix_l {pd lw gr : Nat} {al : Nat → Nat} (hf4 : hh.1 4 = some (.inr (2, [.ref 5, .int (nI pd), .int (nI lw), .int (nI gr)]))) (hf5 : hh.1 5 = some (mNA 7 al)) (hpd : pd ≤ 8) (hlw : lw ≤ 20) (hg : 1 ≤ gr) (hg8 : gr ≤ 8) (hal : ∀ j, al j ≤ 3) {s s9 : Int64} : ∀ (n : Nat) (k : Nat), k + n = 7 → Zn g zX2_mixInto 16 [some (.ref 4), some (.long s9), none, some (.long (hF (fun k => lI (al k)) k s)), none, some (.ref 5), some (.int (nI 7)), some (.int (nI k)), none] [] (hh) 0 0 (fun r' h' => r' = .inl (some (.long (hx (hx (hx (hF (fun k => lI (al k)) 7 s) (lI pd)) (lI lw)) (lI gr)))) ∧ h' = (hh)) := by
  intro n
  induction n with
  | zero =>
    intro k hn0
    refine zn_iload (pc := 16) rfl rfl ?_
    refine zn_iload (pc := 18) rfl rfl ?_
    refine zn_icmp_geN (pc := 20) (tgt := 44) (x := k) (y := 7) rfl rfl (by omega) (by omega) (fun c1 => ?_) (fun c1 => ?_)
    · have e8 : k = 7 := by omega
      subst e8
      refine zn_sub (L' := [some (.ref 4), some (.long s9), none, some (.long (hF (fun k => lI (al k)) 7 s)), none, some (.ref 5), some (.int (nI 7)), none, none]) ⟨rfl, rfl, rfl, rfl, rfl, trivial⟩ ?_
      refine zn_lload_n (pc := 44) rfl rfl ?_
      refine zn_aload_n (pc := 45) rfl rfl ?_
      refine zn_get (pc := 46) (v := .int (nI pd)) rfl hf4 rfl ?_
      refine zn_i2l (pc := 49) rfl ?_
      refine zn_callSx (pc := 50) (J := zX9_mix) (as := [.long (hF (fun k => lI (al k)) 7 s), .long ((nI pd).toInt64)]) (rest := []) rfl (by decide) rfl rfl rfl rfl (Nat.le_of_ble_eq_true rfl) (Nat.le_of_ble_eq_true rfl) (Nat.le_of_ble_eq_true rfl) (Nat.le_of_ble_eq_true rfl) (c_mix (s := (hF (fun k => lI (al k)) 7 s)) (x := ((nI pd).toInt64))) ?_
      refine zn_lstore_n (pc := 53) (L' := [some (.ref 4), some (.long s9), none, some (.long (hx (hF (fun k => lI (al k)) 7 s) ((nI pd).toInt64))), none, some (.ref 5), some (.int (nI 7)), none, none]) rfl (by decide) rfl ?_
      refine zn_lload_n (pc := 54) rfl rfl ?_
      refine zn_aload_n (pc := 55) rfl rfl ?_
      refine zn_get (pc := 56) (v := .int (nI lw)) rfl hf4 rfl ?_
      refine zn_i2l (pc := 59) rfl ?_
      refine zn_callSx (pc := 60) (J := zX9_mix) (as := [.long (hx (hF (fun k => lI (al k)) 7 s) ((nI pd).toInt64)), .long ((nI lw).toInt64)]) (rest := []) rfl (by decide) rfl rfl rfl rfl (Nat.le_of_ble_eq_true rfl) (Nat.le_of_ble_eq_true rfl) (Nat.le_of_ble_eq_true rfl) (Nat.le_of_ble_eq_true rfl) (c_mix (s := (hx (hF (fun k => lI (al k)) 7 s) ((nI pd).toInt64))) (x := ((nI lw).toInt64))) ?_
      refine zn_lstore_n (pc := 63) (L' := [some (.ref 4), some (.long s9), none, some (.long (hx (hx (hF (fun k => lI (al k)) 7 s) ((nI pd).toInt64)) ((nI lw).toInt64))), none, some (.ref 5), some (.int (nI 7)), none, none]) rfl (by decide) rfl ?_
      refine zn_lload_n (pc := 64) rfl rfl ?_
      refine zn_aload_n (pc := 65) rfl rfl ?_
      refine zn_get (pc := 66) (v := .int (nI gr)) rfl hf4 rfl ?_
      refine zn_i2l (pc := 69) rfl ?_
      refine zn_callSx (pc := 70) (J := zX9_mix) (as := [.long (hx (hx (hF (fun k => lI (al k)) 7 s) ((nI pd).toInt64)) ((nI lw).toInt64)), .long ((nI gr).toInt64)]) (rest := []) rfl (by decide) rfl rfl rfl rfl (Nat.le_of_ble_eq_true rfl) (Nat.le_of_ble_eq_true rfl) (Nat.le_of_ble_eq_true rfl) (Nat.le_of_ble_eq_true rfl) (c_mix (s := (hx (hx (hF (fun k => lI (al k)) 7 s) ((nI pd).toInt64)) ((nI lw).toInt64))) (x := ((nI gr).toInt64))) ?_
      exact zx_l (pc := 73) rfl rfl rfl rfl
    · exfalso; omega
  | succ n ih =>
    intro k hn0
    refine zn_iload (pc := 16) rfl rfl ?_
    refine zn_iload (pc := 18) rfl rfl ?_
    refine zn_icmp_geN (pc := 20) (tgt := 44) (x := k) (y := 7) rfl rfl (by omega) (by omega) (fun c1 => ?_) (fun c1 => ?_)
    · have e8 : k = 7 := by omega
      subst e8
      refine zn_sub (L' := [some (.ref 4), some (.long s9), none, some (.long (hF (fun k => lI (al k)) 7 s)), none, some (.ref 5), some (.int (nI 7)), none, none]) ⟨rfl, rfl, rfl, rfl, rfl, trivial⟩ ?_
      refine zn_lload_n (pc := 44) rfl rfl ?_
      refine zn_aload_n (pc := 45) rfl rfl ?_
      refine zn_get (pc := 46) (v := .int (nI pd)) rfl hf4 rfl ?_
      refine zn_i2l (pc := 49) rfl ?_
      refine zn_callSx (pc := 50) (J := zX9_mix) (as := [.long (hF (fun k => lI (al k)) 7 s), .long ((nI pd).toInt64)]) (rest := []) rfl (by decide) rfl rfl rfl rfl (Nat.le_of_ble_eq_true rfl) (Nat.le_of_ble_eq_true rfl) (Nat.le_of_ble_eq_true rfl) (Nat.le_of_ble_eq_true rfl) (c_mix (s := (hF (fun k => lI (al k)) 7 s)) (x := ((nI pd).toInt64))) ?_
      refine zn_lstore_n (pc := 53) (L' := [some (.ref 4), some (.long s9), none, some (.long (hx (hF (fun k => lI (al k)) 7 s) ((nI pd).toInt64))), none, some (.ref 5), some (.int (nI 7)), none, none]) rfl (by decide) rfl ?_
      refine zn_lload_n (pc := 54) rfl rfl ?_
      refine zn_aload_n (pc := 55) rfl rfl ?_
      refine zn_get (pc := 56) (v := .int (nI lw)) rfl hf4 rfl ?_
      refine zn_i2l (pc := 59) rfl ?_
      refine zn_callSx (pc := 60) (J := zX9_mix) (as := [.long (hx (hF (fun k => lI (al k)) 7 s) ((nI pd).toInt64)), .long ((nI lw).toInt64)]) (rest := []) rfl (by decide) rfl rfl rfl rfl (Nat.le_of_ble_eq_true rfl) (Nat.le_of_ble_eq_true rfl) (Nat.le_of_ble_eq_true rfl) (Nat.le_of_ble_eq_true rfl) (c_mix (s := (hx (hF (fun k => lI (al k)) 7 s) ((nI pd).toInt64))) (x := ((nI lw).toInt64))) ?_
      refine zn_lstore_n (pc := 63) (L' := [some (.ref 4), some (.long s9), none, some (.long (hx (hx (hF (fun k => lI (al k)) 7 s) ((nI pd).toInt64)) ((nI lw).toInt64))), none, some (.ref 5), some (.int (nI 7)), none, none]) rfl (by decide) rfl ?_
      refine zn_lload_n (pc := 64) rfl rfl ?_
      refine zn_aload_n (pc := 65) rfl rfl ?_
      refine zn_get (pc := 66) (v := .int (nI gr)) rfl hf4 rfl ?_
      refine zn_i2l (pc := 69) rfl ?_
      refine zn_callSx (pc := 70) (J := zX9_mix) (as := [.long (hx (hx (hF (fun k => lI (al k)) 7 s) ((nI pd).toInt64)) ((nI lw).toInt64)), .long ((nI gr).toInt64)]) (rest := []) rfl (by decide) rfl rfl rfl rfl (Nat.le_of_ble_eq_true rfl) (Nat.le_of_ble_eq_true rfl) (Nat.le_of_ble_eq_true rfl) (Nat.le_of_ble_eq_true rfl) (c_mix (s := (hx (hx (hF (fun k => lI (al k)) 7 s) ((nI pd).toInt64)) ((nI lw).toInt64))) (x := ((nI gr).toInt64))) ?_
      exact zx_l (pc := 73) rfl rfl rfl rfl
    · refine zn_aload (pc := 23) rfl rfl ?_
      refine zn_iload (pc := 25) rfl rfl ?_
      refine zn_naLd (pc := 27) (o := 5) (n := 7) (Z := al) (j := k) rfl hf5 (by omega) (Nat.le_of_ble_eq_true rfl) ?_
      refine zn_istore (pc := 28) (L' := [some (.ref 4), some (.long s9), none, some (.long (hF (fun k => lI (al k)) k s)), none, some (.ref 5), some (.int (nI 7)), some (.int (nI k)), some (.int (nI (al k)))]) rfl (by decide) rfl ?_
      refine zn_lload_n (pc := 30) rfl rfl ?_
      refine zn_iload (pc := 31) rfl rfl ?_
      refine zn_i2l (pc := 33) rfl ?_
      refine zn_callSx (pc := 34) (J := zX9_mix) (as := [.long (hF (fun k => lI (al k)) k s), .long ((nI (al k)).toInt64)]) (rest := []) rfl (by decide) rfl rfl rfl rfl (Nat.le_of_ble_eq_true rfl) (Nat.le_of_ble_eq_true rfl) (Nat.le_of_ble_eq_true rfl) (Nat.le_of_ble_eq_true rfl) (c_mix (s := (hF (fun k => lI (al k)) k s)) (x := ((nI (al k)).toInt64))) ?_
      refine zn_lstore_n (pc := 37) (L' := [some (.ref 4), some (.long s9), none, some (.long (hx (hF (fun k => lI (al k)) k s) ((nI (al k)).toInt64))), none, some (.ref 5), some (.int (nI 7)), some (.int (nI k)), some (.int (nI (al k)))]) rfl (by decide) rfl ?_
      refine zn_iincN (pc := 38) (L' := [some (.ref 4), some (.long s9), none, some (.long (hx (hF (fun k => lI (al k)) k s) ((nI (al k)).toInt64))), none, some (.ref 5), some (.int (nI 7)), some (.int (nI (k + 1))), some (.int (nI (al k)))]) 1 rfl rfl rfl (by decide) rfl ?_
      refine zn_goto (pc := 41) (tgt := 16) rfl rfl ?_
      exact zn_sub (L' := [some (.ref 4), some (.long s9), none, some (.long (hF (fun k => lI (al k)) (k + 1) s)), none, some (.ref 5), some (.int (nI 7)), some (.int (nI (k + 1))), none]) ⟨rfl, rfl, rfl, rfl, rfl, rfl, trivial⟩ (ih (k + 1) (by omega))
theorem c_fmix  {pd lw gr : Nat} {al : Nat → Nat} (hf4 : hh.1 4 = some (.inr (2, [.ref 5, .int (nI pd), .int (nI lw), .int (nI gr)]))) (hf5 : hh.1 5 = some (mNA 7 al)) (hpd : pd ≤ 8) (hlw : lw ≤ 20) (hg : 1 ≤ gr) (hg8 : gr ≤ 8) (hal : ∀ j, al j ≤ 3) {s : Int64} : Zx g zX2_mixInto [.ref 4, .long s] (hh) (some (.long (hx (hx (hx (hF (fun k => lI (al k)) 7 s) (lI pd)) (lI lw)) (lI gr)))) (hh) := by
  show Zn g zX2_mixInto 0 [some (.ref 4), some (.long s), none, none, none, none, none, none, none] [] (hh) 0 0 _
  refine zn_lload_n (pc := 0) rfl rfl ?_
  refine zn_lstore_n (pc := 1) (L' := [some (.ref 4), some (.long s), none, some (.long s), none, none, none, none, none]) rfl (by decide) rfl ?_
  refine zn_aload_n (pc := 2) rfl rfl ?_
  refine zn_get (pc := 3) (v := .ref 5) rfl hf4 rfl ?_
  refine zn_astore (pc := 6) (L' := [some (.ref 4), some (.long s), none, some (.long s), none, some (.ref 5), none, none, none]) rfl (by decide) rfl ?_
  refine zn_aload (pc := 8) rfl rfl ?_
  refine zn_alenN (pc := 10) (n := 7) rfl hf5 ?_
  refine zn_istore (pc := 11) (L' := [some (.ref 4), some (.long s), none, some (.long s), none, some (.ref 5), some (.int (nI 7)), none, none]) rfl (by decide) rfl ?_
  refine zn_iconstN (pc := 13) 0 rfl rfl ?_
  refine zn_istore (pc := 14) (L' := [some (.ref 4), some (.long s), none, some (.long s), none, some (.ref 5), some (.int (nI 7)), some (.int (nI 0)), none]) rfl (by decide) rfl ?_
  exact c_fmix_l hf4 hf5 hpd hlw hg hg8 hal 7 0 (by omega)
theorem nsg {x : Int32} (h1 : ¬ (nI 97 ≤ x ∧ x ≤ nI 122)) (h2 : ¬ (nI 65 ≤ x ∧ x ≤ nI 90)) (h3 : ¬ (nI 48 ≤ x ∧ x ≤ nI 57)) (hx : x.toInt < 32 ∨ 58 < x.toInt) : ¬ mSg x := by
  intro q
  have e : ∀ k : Nat, k < 1000 → x = nI k → x.toInt = k := fun k hk e => by rw [e, nI_toInt (by omega)]
  rcases q with q | q | q | q | q | q | q | q | q | q | q | q
  · exact h1 q
  · exact h2 q
  · exact h3 q
  all_goals (have := e _ (by omega) q; omega)
theorem c_isSign  (x : Int32) : Zx g zX9_isSign [.int x] hh (some (.int (zb (mSg x)))) hh := by
  show Zn g zX9_isSign 0 [some (.int x)] [] hh 0 0 _
  refine zn_iload_n (pc := 0) rfl rfl ?_
  refine zn_bipushN (pc := 1) 97 rfl rfl ?_
  refine zn_icmp_lt (pc := 3) (tgt := 12) (x := x) (y := (nI 97)) rfl rfl (fun c1 => ?_) (fun c1 => ?_)
  · have g1 : ¬ (nI 97 ≤ x ∧ x ≤ nI 122) := fun q => absurd c1 (by rw [Int32.not_lt]; exact q.1)
    refine zn_iload_n (pc := 12) rfl rfl ?_
    refine zn_bipushN (pc := 13) 65 rfl rfl ?_
    refine zn_icmp_lt (pc := 15) (tgt := 24) (x := x) (y := (nI 65)) rfl rfl (fun c2 => ?_) (fun c2 => ?_)
    · have g2 : ¬ (nI 65 ≤ x ∧ x ≤ nI 90) := fun q => absurd c2 (by rw [Int32.not_lt]; exact q.1)
      refine zn_iload_n (pc := 24) rfl rfl ?_
      refine zn_callSx (pc := 25) (J := zX9_isDigit) (as := [.int x]) (rest := []) rfl (by decide) rfl rfl rfl rfl (Nat.le_of_ble_eq_true rfl) (Nat.le_of_ble_eq_true rfl) (Nat.le_of_ble_eq_true rfl) (Nat.le_of_ble_eq_true rfl) (c_isDigitI x) ?_
      refine zn_if_eqB (pc := 28) (tgt := 33) rfl rfl (fun c3 => ?_) (fun c3 => ?_)
      · refine zn_iload_n (pc := 33) rfl rfl ?_
        by_cases hx : x.toInt < 32 ∨ 58 < x.toInt
        · refine zn_tabOut (pc := 34) (x := x) (tgt := 158) rfl hx rfl ?_
          refine zn_iconstN (pc := 158) 0 rfl rfl ?_
          exact zx_z (pc := 159) rfl rfl (by decide) (by rw [zb_f (nsg (by assumption) (by assumption) (by assumption) hx)]; rfl) rfl
        · have hx2 : zin x 59 := ⟨by omega, by omega⟩
          obtain ⟨n, hn, rfl⟩ := zin_ex hx2 (by omega)
          rw [nI_toInt (by omega)] at hx
          rcases (show n = 32 ∨ n = 33 ∨ n = 34 ∨ n = 35 ∨ n = 36 ∨ n = 37 ∨ n = 38 ∨ n = 39 ∨ n = 40 ∨ n = 41 ∨ n = 42 ∨ n = 43 ∨ n = 44 ∨ n = 45 ∨ n = 46 ∨ n = 47 ∨ n = 48 ∨ n = 49 ∨ n = 50 ∨ n = 51 ∨ n = 52 ∨ n = 53 ∨ n = 54 ∨ n = 55 ∨ n = 56 ∨ n = 57 ∨ n = 58 by omega) with r | r | r | r | r | r | r | r | r | r | r | r | r | r | r | r | r | r | r | r | r | r | r | r | r | r | r
          · subst r
            refine zn_tabIn (pc := 34) (x := nI 32) (off := 122) (tgt := 156) rfl (by decide +kernel) (by decide +kernel) (by rw [show (nI 32).toInt = 32 by decide +kernel]; rfl) rfl ?_
            refine zn_iconstN (pc := 156) 1 rfl rfl ?_
            exact zx_z (pc := 157) rfl rfl (by decide) (by decide +kernel) rfl
          · subst r
            refine zn_tabIn (pc := 34) (x := nI 33) (off := 124) (tgt := 158) rfl (by decide +kernel) (by decide +kernel) (by rw [show (nI 33).toInt = 33 by decide +kernel]; rfl) rfl ?_
            refine zn_iconstN (pc := 158) 0 rfl rfl ?_
            exact zx_z (pc := 159) rfl rfl (by decide) (by decide +kernel) rfl
          · subst r
            refine zn_tabIn (pc := 34) (x := nI 34) (off := 124) (tgt := 158) rfl (by decide +kernel) (by decide +kernel) (by rw [show (nI 34).toInt = 34 by decide +kernel]; rfl) rfl ?_
            refine zn_iconstN (pc := 158) 0 rfl rfl ?_
            exact zx_z (pc := 159) rfl rfl (by decide) (by decide +kernel) rfl
          · subst r
            refine zn_tabIn (pc := 34) (x := nI 35) (off := 124) (tgt := 158) rfl (by decide +kernel) (by decide +kernel) (by rw [show (nI 35).toInt = 35 by decide +kernel]; rfl) rfl ?_
            refine zn_iconstN (pc := 158) 0 rfl rfl ?_
            exact zx_z (pc := 159) rfl rfl (by decide) (by decide +kernel) rfl
          · subst r
            refine zn_tabIn (pc := 34) (x := nI 36) (off := 124) (tgt := 158) rfl (by decide +kernel) (by decide +kernel) (by rw [show (nI 36).toInt = 36 by decide +kernel]; rfl) rfl ?_
            refine zn_iconstN (pc := 158) 0 rfl rfl ?_
            exact zx_z (pc := 159) rfl rfl (by decide) (by decide +kernel) rfl
          · subst r
            refine zn_tabIn (pc := 34) (x := nI 37) (off := 122) (tgt := 156) rfl (by decide +kernel) (by decide +kernel) (by rw [show (nI 37).toInt = 37 by decide +kernel]; rfl) rfl ?_
            refine zn_iconstN (pc := 156) 1 rfl rfl ?_
            exact zx_z (pc := 157) rfl rfl (by decide) (by decide +kernel) rfl
          · subst r
            refine zn_tabIn (pc := 34) (x := nI 38) (off := 124) (tgt := 158) rfl (by decide +kernel) (by decide +kernel) (by rw [show (nI 38).toInt = 38 by decide +kernel]; rfl) rfl ?_
            refine zn_iconstN (pc := 158) 0 rfl rfl ?_
            exact zx_z (pc := 159) rfl rfl (by decide) (by decide +kernel) rfl
          · subst r
            refine zn_tabIn (pc := 34) (x := nI 39) (off := 124) (tgt := 158) rfl (by decide +kernel) (by decide +kernel) (by rw [show (nI 39).toInt = 39 by decide +kernel]; rfl) rfl ?_
            refine zn_iconstN (pc := 158) 0 rfl rfl ?_
            exact zx_z (pc := 159) rfl rfl (by decide) (by decide +kernel) rfl
          · subst r
            refine zn_tabIn (pc := 34) (x := nI 40) (off := 122) (tgt := 156) rfl (by decide +kernel) (by decide +kernel) (by rw [show (nI 40).toInt = 40 by decide +kernel]; rfl) rfl ?_
            refine zn_iconstN (pc := 156) 1 rfl rfl ?_
            exact zx_z (pc := 157) rfl rfl (by decide) (by decide +kernel) rfl
          · subst r
            refine zn_tabIn (pc := 34) (x := nI 41) (off := 122) (tgt := 156) rfl (by decide +kernel) (by decide +kernel) (by rw [show (nI 41).toInt = 41 by decide +kernel]; rfl) rfl ?_
            refine zn_iconstN (pc := 156) 1 rfl rfl ?_
            exact zx_z (pc := 157) rfl rfl (by decide) (by decide +kernel) rfl
          · subst r
            refine zn_tabIn (pc := 34) (x := nI 42) (off := 124) (tgt := 158) rfl (by decide +kernel) (by decide +kernel) (by rw [show (nI 42).toInt = 42 by decide +kernel]; rfl) rfl ?_
            refine zn_iconstN (pc := 158) 0 rfl rfl ?_
            exact zx_z (pc := 159) rfl rfl (by decide) (by decide +kernel) rfl
          · subst r
            refine zn_tabIn (pc := 34) (x := nI 43) (off := 122) (tgt := 156) rfl (by decide +kernel) (by decide +kernel) (by rw [show (nI 43).toInt = 43 by decide +kernel]; rfl) rfl ?_
            refine zn_iconstN (pc := 156) 1 rfl rfl ?_
            exact zx_z (pc := 157) rfl rfl (by decide) (by decide +kernel) rfl
          · subst r
            refine zn_tabIn (pc := 34) (x := nI 44) (off := 122) (tgt := 156) rfl (by decide +kernel) (by decide +kernel) (by rw [show (nI 44).toInt = 44 by decide +kernel]; rfl) rfl ?_
            refine zn_iconstN (pc := 156) 1 rfl rfl ?_
            exact zx_z (pc := 157) rfl rfl (by decide) (by decide +kernel) rfl
          · subst r
            refine zn_tabIn (pc := 34) (x := nI 45) (off := 122) (tgt := 156) rfl (by decide +kernel) (by decide +kernel) (by rw [show (nI 45).toInt = 45 by decide +kernel]; rfl) rfl ?_
            refine zn_iconstN (pc := 156) 1 rfl rfl ?_
            exact zx_z (pc := 157) rfl rfl (by decide) (by decide +kernel) rfl
          · subst r
            refine zn_tabIn (pc := 34) (x := nI 46) (off := 122) (tgt := 156) rfl (by decide +kernel) (by decide +kernel) (by rw [show (nI 46).toInt = 46 by decide +kernel]; rfl) rfl ?_
            refine zn_iconstN (pc := 156) 1 rfl rfl ?_
            exact zx_z (pc := 157) rfl rfl (by decide) (by decide +kernel) rfl
          · subst r
            refine zn_tabIn (pc := 34) (x := nI 47) (off := 124) (tgt := 158) rfl (by decide +kernel) (by decide +kernel) (by rw [show (nI 47).toInt = 47 by decide +kernel]; rfl) rfl ?_
            refine zn_iconstN (pc := 158) 0 rfl rfl ?_
            exact zx_z (pc := 159) rfl rfl (by decide) (by decide +kernel) rfl
          · subst r; exact absurd (show nI 48 ≤ nI 48 ∧ nI 48 ≤ nI 57 by decide +kernel) (by assumption)
          · subst r; exact absurd (show nI 48 ≤ nI 49 ∧ nI 49 ≤ nI 57 by decide +kernel) (by assumption)
          · subst r; exact absurd (show nI 48 ≤ nI 50 ∧ nI 50 ≤ nI 57 by decide +kernel) (by assumption)
          · subst r; exact absurd (show nI 48 ≤ nI 51 ∧ nI 51 ≤ nI 57 by decide +kernel) (by assumption)
          · subst r; exact absurd (show nI 48 ≤ nI 52 ∧ nI 52 ≤ nI 57 by decide +kernel) (by assumption)
          · subst r; exact absurd (show nI 48 ≤ nI 53 ∧ nI 53 ≤ nI 57 by decide +kernel) (by assumption)
          · subst r; exact absurd (show nI 48 ≤ nI 54 ∧ nI 54 ≤ nI 57 by decide +kernel) (by assumption)
          · subst r; exact absurd (show nI 48 ≤ nI 55 ∧ nI 55 ≤ nI 57 by decide +kernel) (by assumption)
          · subst r; exact absurd (show nI 48 ≤ nI 56 ∧ nI 56 ≤ nI 57 by decide +kernel) (by assumption)
          · subst r; exact absurd (show nI 48 ≤ nI 57 ∧ nI 57 ≤ nI 57 by decide +kernel) (by assumption)
          · subst r
            refine zn_tabIn (pc := 34) (x := nI 58) (off := 122) (tgt := 156) rfl (by decide +kernel) (by decide +kernel) (by rw [show (nI 58).toInt = 58 by decide +kernel]; rfl) rfl ?_
            refine zn_iconstN (pc := 156) 1 rfl rfl ?_
            exact zx_z (pc := 157) rfl rfl (by decide) (by decide +kernel) rfl
      · refine zn_iconstN (pc := 31) 1 rfl rfl ?_
        exact zx_z (pc := 32) rfl rfl (by decide) (by rw [zb_t (by first | exact Or.inl ⟨by rw [← Int32.not_lt]; assumption, by assumption⟩ | exact Or.inr (Or.inl ⟨by rw [← Int32.not_lt]; assumption, by assumption⟩) | exact Or.inr (Or.inr (Or.inl (by assumption))))]; rfl) rfl
    · refine zn_iload_n (pc := 18) rfl rfl ?_
      refine zn_bipushN (pc := 19) 90 rfl rfl ?_
      refine zn_icmp_le (pc := 21) (tgt := 31) (x := x) (y := (nI 90)) rfl rfl (fun c4 => ?_) (fun c4 => ?_)
      · refine zn_iconstN (pc := 31) 1 rfl rfl ?_
        exact zx_z (pc := 32) rfl rfl (by decide) (by rw [zb_t (by first | exact Or.inl ⟨by rw [← Int32.not_lt]; assumption, by assumption⟩ | exact Or.inr (Or.inl ⟨by rw [← Int32.not_lt]; assumption, by assumption⟩) | exact Or.inr (Or.inr (Or.inl (by assumption))))]; rfl) rfl
      · have g2 : ¬ (nI 65 ≤ x ∧ x ≤ nI 90) := fun q => c4 q.2
        refine zn_iload_n (pc := 24) rfl rfl ?_
        refine zn_callSx (pc := 25) (J := zX9_isDigit) (as := [.int x]) (rest := []) rfl (by decide) rfl rfl rfl rfl (Nat.le_of_ble_eq_true rfl) (Nat.le_of_ble_eq_true rfl) (Nat.le_of_ble_eq_true rfl) (Nat.le_of_ble_eq_true rfl) (c_isDigitI x) ?_
        refine zn_if_eqB (pc := 28) (tgt := 33) rfl rfl (fun c5 => ?_) (fun c5 => ?_)
        · refine zn_iload_n (pc := 33) rfl rfl ?_
          by_cases hx : x.toInt < 32 ∨ 58 < x.toInt
          · refine zn_tabOut (pc := 34) (x := x) (tgt := 158) rfl hx rfl ?_
            refine zn_iconstN (pc := 158) 0 rfl rfl ?_
            exact zx_z (pc := 159) rfl rfl (by decide) (by rw [zb_f (nsg (by assumption) (by assumption) (by assumption) hx)]; rfl) rfl
          · have hx2 : zin x 59 := ⟨by omega, by omega⟩
            obtain ⟨n, hn, rfl⟩ := zin_ex hx2 (by omega)
            rw [nI_toInt (by omega)] at hx
            rcases (show n = 32 ∨ n = 33 ∨ n = 34 ∨ n = 35 ∨ n = 36 ∨ n = 37 ∨ n = 38 ∨ n = 39 ∨ n = 40 ∨ n = 41 ∨ n = 42 ∨ n = 43 ∨ n = 44 ∨ n = 45 ∨ n = 46 ∨ n = 47 ∨ n = 48 ∨ n = 49 ∨ n = 50 ∨ n = 51 ∨ n = 52 ∨ n = 53 ∨ n = 54 ∨ n = 55 ∨ n = 56 ∨ n = 57 ∨ n = 58 by omega) with r | r | r | r | r | r | r | r | r | r | r | r | r | r | r | r | r | r | r | r | r | r | r | r | r | r | r
            · subst r
              refine zn_tabIn (pc := 34) (x := nI 32) (off := 122) (tgt := 156) rfl (by decide +kernel) (by decide +kernel) (by rw [show (nI 32).toInt = 32 by decide +kernel]; rfl) rfl ?_
              refine zn_iconstN (pc := 156) 1 rfl rfl ?_
              exact zx_z (pc := 157) rfl rfl (by decide) (by decide +kernel) rfl
            · subst r
              refine zn_tabIn (pc := 34) (x := nI 33) (off := 124) (tgt := 158) rfl (by decide +kernel) (by decide +kernel) (by rw [show (nI 33).toInt = 33 by decide +kernel]; rfl) rfl ?_
              refine zn_iconstN (pc := 158) 0 rfl rfl ?_
              exact zx_z (pc := 159) rfl rfl (by decide) (by decide +kernel) rfl
            · subst r
              refine zn_tabIn (pc := 34) (x := nI 34) (off := 124) (tgt := 158) rfl (by decide +kernel) (by decide +kernel) (by rw [show (nI 34).toInt = 34 by decide +kernel]; rfl) rfl ?_
              refine zn_iconstN (pc := 158) 0 rfl rfl ?_
              exact zx_z (pc := 159) rfl rfl (by decide) (by decide +kernel) rfl
            · subst r
              refine zn_tabIn (pc := 34) (x := nI 35) (off := 124) (tgt := 158) rfl (by decide +kernel) (by decide +kernel) (by rw [show (nI 35).toInt = 35 by decide +kernel]; rfl) rfl ?_
              refine zn_iconstN (pc := 158) 0 rfl rfl ?_
              exact zx_z (pc := 159) rfl rfl (by decide) (by decide +kernel) rfl
            · subst r
              refine zn_tabIn (pc := 34) (x := nI 36) (off := 124) (tgt := 158) rfl (by decide +kernel) (by decide +kernel) (by rw [show (nI 36).toInt = 36 by decide +kernel]; rfl) rfl ?_
              refine zn_iconstN (pc := 158) 0 rfl rfl ?_
              exact zx_z (pc := 159) rfl rfl (by decide) (by decide +kernel) rfl
            · subst r
              refine zn_tabIn (pc := 34) (x := nI 37) (off := 122) (tgt := 156) rfl (by decide +kernel) (by decide +kernel) (by rw [show (nI 37).toInt = 37 by decide +kernel]; rfl) rfl ?_
              refine zn_iconstN (pc := 156) 1 rfl rfl ?_
              exact zx_z (pc := 157) rfl rfl (by decide) (by decide +kernel) rfl
            · subst r
              refine zn_tabIn (pc := 34) (x := nI 38) (off := 124) (tgt := 158) rfl (by decide +kernel) (by decide +kernel) (by rw [show (nI 38).toInt = 38 by decide +kernel]; rfl) rfl ?_
              refine zn_iconstN (pc := 158) 0 rfl rfl ?_
              exact zx_z (pc := 159) rfl rfl (by decide) (by decide +kernel) rfl
            · subst r
              refine zn_tabIn (pc := 34) (x := nI 39) (off := 124) (tgt := 158) rfl (by decide +kernel) (by decide +kernel) (by rw [show (nI 39).toInt = 39 by decide +kernel]; rfl) rfl ?_
              refine zn_iconstN (pc := 158) 0 rfl rfl ?_
              exact zx_z (pc := 159) rfl rfl (by decide) (by decide +kernel) rfl
            · subst r
              refine zn_tabIn (pc := 34) (x := nI 40) (off := 122) (tgt := 156) rfl (by decide +kernel) (by decide +kernel) (by rw [show (nI 40).toInt = 40 by decide +kernel]; rfl) rfl ?_
              refine zn_iconstN (pc := 156) 1 rfl rfl ?_
              exact zx_z (pc := 157) rfl rfl (by decide) (by decide +kernel) rfl
            · subst r
              refine zn_tabIn (pc := 34) (x := nI 41) (off := 122) (tgt := 156) rfl (by decide +kernel) (by decide +kernel) (by rw [show (nI 41).toInt = 41 by decide +kernel]; rfl) rfl ?_
              refine zn_iconstN (pc := 156) 1 rfl rfl ?_
              exact zx_z (pc := 157) rfl rfl (by decide) (by decide +kernel) rfl
            · subst r
              refine zn_tabIn (pc := 34) (x := nI 42) (off := 124) (tgt := 158) rfl (by decide +kernel) (by decide +kernel) (by rw [show (nI 42).toInt = 42 by decide +kernel]; rfl) rfl ?_
              refine zn_iconstN (pc := 158) 0 rfl rfl ?_
              exact zx_z (pc := 159) rfl rfl (by decide) (by decide +kernel) rfl
            · subst r
              refine zn_tabIn (pc := 34) (x := nI 43) (off := 122) (tgt := 156) rfl (by decide +kernel) (by decide +kernel) (by rw [show (nI 43).toInt = 43 by decide +kernel]; rfl) rfl ?_
              refine zn_iconstN (pc := 156) 1 rfl rfl ?_
              exact zx_z (pc := 157) rfl rfl (by decide) (by decide +kernel) rfl
            · subst r
              refine zn_tabIn (pc := 34) (x := nI 44) (off := 122) (tgt := 156) rfl (by decide +kernel) (by decide +kernel) (by rw [show (nI 44).toInt = 44 by decide +kernel]; rfl) rfl ?_
              refine zn_iconstN (pc := 156) 1 rfl rfl ?_
              exact zx_z (pc := 157) rfl rfl (by decide) (by decide +kernel) rfl
            · subst r
              refine zn_tabIn (pc := 34) (x := nI 45) (off := 122) (tgt := 156) rfl (by decide +kernel) (by decide +kernel) (by rw [show (nI 45).toInt = 45 by decide +kernel]; rfl) rfl ?_
              refine zn_iconstN (pc := 156) 1 rfl rfl ?_
              exact zx_z (pc := 157) rfl rfl (by decide) (by decide +kernel) rfl
            · subst r
              refine zn_tabIn (pc := 34) (x := nI 46) (off := 122) (tgt := 156) rfl (by decide +kernel) (by decide +kernel) (by rw [show (nI 46).toInt = 46 by decide +kernel]; rfl) rfl ?_
              refine zn_iconstN (pc := 156) 1 rfl rfl ?_
              exact zx_z (pc := 157) rfl rfl (by decide) (by decide +kernel) rfl
            · subst r
              refine zn_tabIn (pc := 34) (x := nI 47) (off := 124) (tgt := 158) rfl (by decide +kernel) (by decide +kernel) (by rw [show (nI 47).toInt = 47 by decide +kernel]; rfl) rfl ?_
              refine zn_iconstN (pc := 158) 0 rfl rfl ?_
              exact zx_z (pc := 159) rfl rfl (by decide) (by decide +kernel) rfl
            · subst r; exact absurd (show nI 48 ≤ nI 48 ∧ nI 48 ≤ nI 57 by decide +kernel) (by assumption)
            · subst r; exact absurd (show nI 48 ≤ nI 49 ∧ nI 49 ≤ nI 57 by decide +kernel) (by assumption)
            · subst r; exact absurd (show nI 48 ≤ nI 50 ∧ nI 50 ≤ nI 57 by decide +kernel) (by assumption)
            · subst r; exact absurd (show nI 48 ≤ nI 51 ∧ nI 51 ≤ nI 57 by decide +kernel) (by assumption)
            · subst r; exact absurd (show nI 48 ≤ nI 52 ∧ nI 52 ≤ nI 57 by decide +kernel) (by assumption)
            · subst r; exact absurd (show nI 48 ≤ nI 53 ∧ nI 53 ≤ nI 57 by decide +kernel) (by assumption)
            · subst r; exact absurd (show nI 48 ≤ nI 54 ∧ nI 54 ≤ nI 57 by decide +kernel) (by assumption)
            · subst r; exact absurd (show nI 48 ≤ nI 55 ∧ nI 55 ≤ nI 57 by decide +kernel) (by assumption)
            · subst r; exact absurd (show nI 48 ≤ nI 56 ∧ nI 56 ≤ nI 57 by decide +kernel) (by assumption)
            · subst r; exact absurd (show nI 48 ≤ nI 57 ∧ nI 57 ≤ nI 57 by decide +kernel) (by assumption)
            · subst r
              refine zn_tabIn (pc := 34) (x := nI 58) (off := 122) (tgt := 156) rfl (by decide +kernel) (by decide +kernel) (by rw [show (nI 58).toInt = 58 by decide +kernel]; rfl) rfl ?_
              refine zn_iconstN (pc := 156) 1 rfl rfl ?_
              exact zx_z (pc := 157) rfl rfl (by decide) (by decide +kernel) rfl
        · refine zn_iconstN (pc := 31) 1 rfl rfl ?_
          exact zx_z (pc := 32) rfl rfl (by decide) (by rw [zb_t (by first | exact Or.inl ⟨by rw [← Int32.not_lt]; assumption, by assumption⟩ | exact Or.inr (Or.inl ⟨by rw [← Int32.not_lt]; assumption, by assumption⟩) | exact Or.inr (Or.inr (Or.inl (by assumption))))]; rfl) rfl
  · refine zn_iload_n (pc := 6) rfl rfl ?_
    refine zn_bipushN (pc := 7) 122 rfl rfl ?_
    refine zn_icmp_le (pc := 9) (tgt := 31) (x := x) (y := (nI 122)) rfl rfl (fun c6 => ?_) (fun c6 => ?_)
    · refine zn_iconstN (pc := 31) 1 rfl rfl ?_
      exact zx_z (pc := 32) rfl rfl (by decide) (by rw [zb_t (by first | exact Or.inl ⟨by rw [← Int32.not_lt]; assumption, by assumption⟩ | exact Or.inr (Or.inl ⟨by rw [← Int32.not_lt]; assumption, by assumption⟩) | exact Or.inr (Or.inr (Or.inl (by assumption))))]; rfl) rfl
    · have g1 : ¬ (nI 97 ≤ x ∧ x ≤ nI 122) := fun q => c6 q.2
      refine zn_iload_n (pc := 12) rfl rfl ?_
      refine zn_bipushN (pc := 13) 65 rfl rfl ?_
      refine zn_icmp_lt (pc := 15) (tgt := 24) (x := x) (y := (nI 65)) rfl rfl (fun c7 => ?_) (fun c7 => ?_)
      · have g2 : ¬ (nI 65 ≤ x ∧ x ≤ nI 90) := fun q => absurd c7 (by rw [Int32.not_lt]; exact q.1)
        refine zn_iload_n (pc := 24) rfl rfl ?_
        refine zn_callSx (pc := 25) (J := zX9_isDigit) (as := [.int x]) (rest := []) rfl (by decide) rfl rfl rfl rfl (Nat.le_of_ble_eq_true rfl) (Nat.le_of_ble_eq_true rfl) (Nat.le_of_ble_eq_true rfl) (Nat.le_of_ble_eq_true rfl) (c_isDigitI x) ?_
        refine zn_if_eqB (pc := 28) (tgt := 33) rfl rfl (fun c8 => ?_) (fun c8 => ?_)
        · refine zn_iload_n (pc := 33) rfl rfl ?_
          by_cases hx : x.toInt < 32 ∨ 58 < x.toInt
          · refine zn_tabOut (pc := 34) (x := x) (tgt := 158) rfl hx rfl ?_
            refine zn_iconstN (pc := 158) 0 rfl rfl ?_
            exact zx_z (pc := 159) rfl rfl (by decide) (by rw [zb_f (nsg (by assumption) (by assumption) (by assumption) hx)]; rfl) rfl
          · have hx2 : zin x 59 := ⟨by omega, by omega⟩
            obtain ⟨n, hn, rfl⟩ := zin_ex hx2 (by omega)
            rw [nI_toInt (by omega)] at hx
            rcases (show n = 32 ∨ n = 33 ∨ n = 34 ∨ n = 35 ∨ n = 36 ∨ n = 37 ∨ n = 38 ∨ n = 39 ∨ n = 40 ∨ n = 41 ∨ n = 42 ∨ n = 43 ∨ n = 44 ∨ n = 45 ∨ n = 46 ∨ n = 47 ∨ n = 48 ∨ n = 49 ∨ n = 50 ∨ n = 51 ∨ n = 52 ∨ n = 53 ∨ n = 54 ∨ n = 55 ∨ n = 56 ∨ n = 57 ∨ n = 58 by omega) with r | r | r | r | r | r | r | r | r | r | r | r | r | r | r | r | r | r | r | r | r | r | r | r | r | r | r
            · subst r
              refine zn_tabIn (pc := 34) (x := nI 32) (off := 122) (tgt := 156) rfl (by decide +kernel) (by decide +kernel) (by rw [show (nI 32).toInt = 32 by decide +kernel]; rfl) rfl ?_
              refine zn_iconstN (pc := 156) 1 rfl rfl ?_
              exact zx_z (pc := 157) rfl rfl (by decide) (by decide +kernel) rfl
            · subst r
              refine zn_tabIn (pc := 34) (x := nI 33) (off := 124) (tgt := 158) rfl (by decide +kernel) (by decide +kernel) (by rw [show (nI 33).toInt = 33 by decide +kernel]; rfl) rfl ?_
              refine zn_iconstN (pc := 158) 0 rfl rfl ?_
              exact zx_z (pc := 159) rfl rfl (by decide) (by decide +kernel) rfl
            · subst r
              refine zn_tabIn (pc := 34) (x := nI 34) (off := 124) (tgt := 158) rfl (by decide +kernel) (by decide +kernel) (by rw [show (nI 34).toInt = 34 by decide +kernel]; rfl) rfl ?_
              refine zn_iconstN (pc := 158) 0 rfl rfl ?_
              exact zx_z (pc := 159) rfl rfl (by decide) (by decide +kernel) rfl
            · subst r
              refine zn_tabIn (pc := 34) (x := nI 35) (off := 124) (tgt := 158) rfl (by decide +kernel) (by decide +kernel) (by rw [show (nI 35).toInt = 35 by decide +kernel]; rfl) rfl ?_
              refine zn_iconstN (pc := 158) 0 rfl rfl ?_
              exact zx_z (pc := 159) rfl rfl (by decide) (by decide +kernel) rfl
            · subst r
              refine zn_tabIn (pc := 34) (x := nI 36) (off := 124) (tgt := 158) rfl (by decide +kernel) (by decide +kernel) (by rw [show (nI 36).toInt = 36 by decide +kernel]; rfl) rfl ?_
              refine zn_iconstN (pc := 158) 0 rfl rfl ?_
              exact zx_z (pc := 159) rfl rfl (by decide) (by decide +kernel) rfl
            · subst r
              refine zn_tabIn (pc := 34) (x := nI 37) (off := 122) (tgt := 156) rfl (by decide +kernel) (by decide +kernel) (by rw [show (nI 37).toInt = 37 by decide +kernel]; rfl) rfl ?_
              refine zn_iconstN (pc := 156) 1 rfl rfl ?_
              exact zx_z (pc := 157) rfl rfl (by decide) (by decide +kernel) rfl
            · subst r
              refine zn_tabIn (pc := 34) (x := nI 38) (off := 124) (tgt := 158) rfl (by decide +kernel) (by decide +kernel) (by rw [show (nI 38).toInt = 38 by decide +kernel]; rfl) rfl ?_
              refine zn_iconstN (pc := 158) 0 rfl rfl ?_
              exact zx_z (pc := 159) rfl rfl (by decide) (by decide +kernel) rfl
            · subst r
              refine zn_tabIn (pc := 34) (x := nI 39) (off := 124) (tgt := 158) rfl (by decide +kernel) (by decide +kernel) (by rw [show (nI 39).toInt = 39 by decide +kernel]; rfl) rfl ?_
              refine zn_iconstN (pc := 158) 0 rfl rfl ?_
              exact zx_z (pc := 159) rfl rfl (by decide) (by decide +kernel) rfl
            · subst r
              refine zn_tabIn (pc := 34) (x := nI 40) (off := 122) (tgt := 156) rfl (by decide +kernel) (by decide +kernel) (by rw [show (nI 40).toInt = 40 by decide +kernel]; rfl) rfl ?_
              refine zn_iconstN (pc := 156) 1 rfl rfl ?_
              exact zx_z (pc := 157) rfl rfl (by decide) (by decide +kernel) rfl
            · subst r
              refine zn_tabIn (pc := 34) (x := nI 41) (off := 122) (tgt := 156) rfl (by decide +kernel) (by decide +kernel) (by rw [show (nI 41).toInt = 41 by decide +kernel]; rfl) rfl ?_
              refine zn_iconstN (pc := 156) 1 rfl rfl ?_
              exact zx_z (pc := 157) rfl rfl (by decide) (by decide +kernel) rfl
            · subst r
              refine zn_tabIn (pc := 34) (x := nI 42) (off := 124) (tgt := 158) rfl (by decide +kernel) (by decide +kernel) (by rw [show (nI 42).toInt = 42 by decide +kernel]; rfl) rfl ?_
              refine zn_iconstN (pc := 158) 0 rfl rfl ?_
              exact zx_z (pc := 159) rfl rfl (by decide) (by decide +kernel) rfl
            · subst r
              refine zn_tabIn (pc := 34) (x := nI 43) (off := 122) (tgt := 156) rfl (by decide +kernel) (by decide +kernel) (by rw [show (nI 43).toInt = 43 by decide +kernel]; rfl) rfl ?_
              refine zn_iconstN (pc := 156) 1 rfl rfl ?_
              exact zx_z (pc := 157) rfl rfl (by decide) (by decide +kernel) rfl
            · subst r
              refine zn_tabIn (pc := 34) (x := nI 44) (off := 122) (tgt := 156) rfl (by decide +kernel) (by decide +kernel) (by rw [show (nI 44).toInt = 44 by decide +kernel]; rfl) rfl ?_
              refine zn_iconstN (pc := 156) 1 rfl rfl ?_
              exact zx_z (pc := 157) rfl rfl (by decide) (by decide +kernel) rfl
            · subst r
              refine zn_tabIn (pc := 34) (x := nI 45) (off := 122) (tgt := 156) rfl (by decide +kernel) (by decide +kernel) (by rw [show (nI 45).toInt = 45 by decide +kernel]; rfl) rfl ?_
              refine zn_iconstN (pc := 156) 1 rfl rfl ?_
              exact zx_z (pc := 157) rfl rfl (by decide) (by decide +kernel) rfl
            · subst r
              refine zn_tabIn (pc := 34) (x := nI 46) (off := 122) (tgt := 156) rfl (by decide +kernel) (by decide +kernel) (by rw [show (nI 46).toInt = 46 by decide +kernel]; rfl) rfl ?_
              refine zn_iconstN (pc := 156) 1 rfl rfl ?_
              exact zx_z (pc := 157) rfl rfl (by decide) (by decide +kernel) rfl
            · subst r
              refine zn_tabIn (pc := 34) (x := nI 47) (off := 124) (tgt := 158) rfl (by decide +kernel) (by decide +kernel) (by rw [show (nI 47).toInt = 47 by decide +kernel]; rfl) rfl ?_
              refine zn_iconstN (pc := 158) 0 rfl rfl ?_
              exact zx_z (pc := 159) rfl rfl (by decide) (by decide +kernel) rfl
            · subst r; exact absurd (show nI 48 ≤ nI 48 ∧ nI 48 ≤ nI 57 by decide +kernel) (by assumption)
            · subst r; exact absurd (show nI 48 ≤ nI 49 ∧ nI 49 ≤ nI 57 by decide +kernel) (by assumption)
            · subst r; exact absurd (show nI 48 ≤ nI 50 ∧ nI 50 ≤ nI 57 by decide +kernel) (by assumption)
            · subst r; exact absurd (show nI 48 ≤ nI 51 ∧ nI 51 ≤ nI 57 by decide +kernel) (by assumption)
            · subst r; exact absurd (show nI 48 ≤ nI 52 ∧ nI 52 ≤ nI 57 by decide +kernel) (by assumption)
            · subst r; exact absurd (show nI 48 ≤ nI 53 ∧ nI 53 ≤ nI 57 by decide +kernel) (by assumption)
            · subst r; exact absurd (show nI 48 ≤ nI 54 ∧ nI 54 ≤ nI 57 by decide +kernel) (by assumption)
            · subst r; exact absurd (show nI 48 ≤ nI 55 ∧ nI 55 ≤ nI 57 by decide +kernel) (by assumption)
            · subst r; exact absurd (show nI 48 ≤ nI 56 ∧ nI 56 ≤ nI 57 by decide +kernel) (by assumption)
            · subst r; exact absurd (show nI 48 ≤ nI 57 ∧ nI 57 ≤ nI 57 by decide +kernel) (by assumption)
            · subst r
              refine zn_tabIn (pc := 34) (x := nI 58) (off := 122) (tgt := 156) rfl (by decide +kernel) (by decide +kernel) (by rw [show (nI 58).toInt = 58 by decide +kernel]; rfl) rfl ?_
              refine zn_iconstN (pc := 156) 1 rfl rfl ?_
              exact zx_z (pc := 157) rfl rfl (by decide) (by decide +kernel) rfl
        · refine zn_iconstN (pc := 31) 1 rfl rfl ?_
          exact zx_z (pc := 32) rfl rfl (by decide) (by rw [zb_t (by first | exact Or.inl ⟨by rw [← Int32.not_lt]; assumption, by assumption⟩ | exact Or.inr (Or.inl ⟨by rw [← Int32.not_lt]; assumption, by assumption⟩) | exact Or.inr (Or.inr (Or.inl (by assumption))))]; rfl) rfl
      · refine zn_iload_n (pc := 18) rfl rfl ?_
        refine zn_bipushN (pc := 19) 90 rfl rfl ?_
        refine zn_icmp_le (pc := 21) (tgt := 31) (x := x) (y := (nI 90)) rfl rfl (fun c9 => ?_) (fun c9 => ?_)
        · refine zn_iconstN (pc := 31) 1 rfl rfl ?_
          exact zx_z (pc := 32) rfl rfl (by decide) (by rw [zb_t (by first | exact Or.inl ⟨by rw [← Int32.not_lt]; assumption, by assumption⟩ | exact Or.inr (Or.inl ⟨by rw [← Int32.not_lt]; assumption, by assumption⟩) | exact Or.inr (Or.inr (Or.inl (by assumption))))]; rfl) rfl
        · have g2 : ¬ (nI 65 ≤ x ∧ x ≤ nI 90) := fun q => c9 q.2
          refine zn_iload_n (pc := 24) rfl rfl ?_
          refine zn_callSx (pc := 25) (J := zX9_isDigit) (as := [.int x]) (rest := []) rfl (by decide) rfl rfl rfl rfl (Nat.le_of_ble_eq_true rfl) (Nat.le_of_ble_eq_true rfl) (Nat.le_of_ble_eq_true rfl) (Nat.le_of_ble_eq_true rfl) (c_isDigitI x) ?_
          refine zn_if_eqB (pc := 28) (tgt := 33) rfl rfl (fun c10 => ?_) (fun c10 => ?_)
          · refine zn_iload_n (pc := 33) rfl rfl ?_
            by_cases hx : x.toInt < 32 ∨ 58 < x.toInt
            · refine zn_tabOut (pc := 34) (x := x) (tgt := 158) rfl hx rfl ?_
              refine zn_iconstN (pc := 158) 0 rfl rfl ?_
              exact zx_z (pc := 159) rfl rfl (by decide) (by rw [zb_f (nsg (by assumption) (by assumption) (by assumption) hx)]; rfl) rfl
            · have hx2 : zin x 59 := ⟨by omega, by omega⟩
              obtain ⟨n, hn, rfl⟩ := zin_ex hx2 (by omega)
              rw [nI_toInt (by omega)] at hx
              rcases (show n = 32 ∨ n = 33 ∨ n = 34 ∨ n = 35 ∨ n = 36 ∨ n = 37 ∨ n = 38 ∨ n = 39 ∨ n = 40 ∨ n = 41 ∨ n = 42 ∨ n = 43 ∨ n = 44 ∨ n = 45 ∨ n = 46 ∨ n = 47 ∨ n = 48 ∨ n = 49 ∨ n = 50 ∨ n = 51 ∨ n = 52 ∨ n = 53 ∨ n = 54 ∨ n = 55 ∨ n = 56 ∨ n = 57 ∨ n = 58 by omega) with r | r | r | r | r | r | r | r | r | r | r | r | r | r | r | r | r | r | r | r | r | r | r | r | r | r | r
              · subst r
                refine zn_tabIn (pc := 34) (x := nI 32) (off := 122) (tgt := 156) rfl (by decide +kernel) (by decide +kernel) (by rw [show (nI 32).toInt = 32 by decide +kernel]; rfl) rfl ?_
                refine zn_iconstN (pc := 156) 1 rfl rfl ?_
                exact zx_z (pc := 157) rfl rfl (by decide) (by decide +kernel) rfl
              · subst r
                refine zn_tabIn (pc := 34) (x := nI 33) (off := 124) (tgt := 158) rfl (by decide +kernel) (by decide +kernel) (by rw [show (nI 33).toInt = 33 by decide +kernel]; rfl) rfl ?_
                refine zn_iconstN (pc := 158) 0 rfl rfl ?_
                exact zx_z (pc := 159) rfl rfl (by decide) (by decide +kernel) rfl
              · subst r
                refine zn_tabIn (pc := 34) (x := nI 34) (off := 124) (tgt := 158) rfl (by decide +kernel) (by decide +kernel) (by rw [show (nI 34).toInt = 34 by decide +kernel]; rfl) rfl ?_
                refine zn_iconstN (pc := 158) 0 rfl rfl ?_
                exact zx_z (pc := 159) rfl rfl (by decide) (by decide +kernel) rfl
              · subst r
                refine zn_tabIn (pc := 34) (x := nI 35) (off := 124) (tgt := 158) rfl (by decide +kernel) (by decide +kernel) (by rw [show (nI 35).toInt = 35 by decide +kernel]; rfl) rfl ?_
                refine zn_iconstN (pc := 158) 0 rfl rfl ?_
                exact zx_z (pc := 159) rfl rfl (by decide) (by decide +kernel) rfl
              · subst r
                refine zn_tabIn (pc := 34) (x := nI 36) (off := 124) (tgt := 158) rfl (by decide +kernel) (by decide +kernel) (by rw [show (nI 36).toInt = 36 by decide +kernel]; rfl) rfl ?_
                refine zn_iconstN (pc := 158) 0 rfl rfl ?_
                exact zx_z (pc := 159) rfl rfl (by decide) (by decide +kernel) rfl
              · subst r
                refine zn_tabIn (pc := 34) (x := nI 37) (off := 122) (tgt := 156) rfl (by decide +kernel) (by decide +kernel) (by rw [show (nI 37).toInt = 37 by decide +kernel]; rfl) rfl ?_
                refine zn_iconstN (pc := 156) 1 rfl rfl ?_
                exact zx_z (pc := 157) rfl rfl (by decide) (by decide +kernel) rfl
              · subst r
                refine zn_tabIn (pc := 34) (x := nI 38) (off := 124) (tgt := 158) rfl (by decide +kernel) (by decide +kernel) (by rw [show (nI 38).toInt = 38 by decide +kernel]; rfl) rfl ?_
                refine zn_iconstN (pc := 158) 0 rfl rfl ?_
                exact zx_z (pc := 159) rfl rfl (by decide) (by decide +kernel) rfl
              · subst r
                refine zn_tabIn (pc := 34) (x := nI 39) (off := 124) (tgt := 158) rfl (by decide +kernel) (by decide +kernel) (by rw [show (nI 39).toInt = 39 by decide +kernel]; rfl) rfl ?_
                refine zn_iconstN (pc := 158) 0 rfl rfl ?_
                exact zx_z (pc := 159) rfl rfl (by decide) (by decide +kernel) rfl
              · subst r
                refine zn_tabIn (pc := 34) (x := nI 40) (off := 122) (tgt := 156) rfl (by decide +kernel) (by decide +kernel) (by rw [show (nI 40).toInt = 40 by decide +kernel]; rfl) rfl ?_
                refine zn_iconstN (pc := 156) 1 rfl rfl ?_
                exact zx_z (pc := 157) rfl rfl (by decide) (by decide +kernel) rfl
              · subst r
                refine zn_tabIn (pc := 34) (x := nI 41) (off := 122) (tgt := 156) rfl (by decide +kernel) (by decide +kernel) (by rw [show (nI 41).toInt = 41 by decide +kernel]; rfl) rfl ?_
                refine zn_iconstN (pc := 156) 1 rfl rfl ?_
                exact zx_z (pc := 157) rfl rfl (by decide) (by decide +kernel) rfl
              · subst r
                refine zn_tabIn (pc := 34) (x := nI 42) (off := 124) (tgt := 158) rfl (by decide +kernel) (by decide +kernel) (by rw [show (nI 42).toInt = 42 by decide +kernel]; rfl) rfl ?_
                refine zn_iconstN (pc := 158) 0 rfl rfl ?_
                exact zx_z (pc := 159) rfl rfl (by decide) (by decide +kernel) rfl
              · subst r
                refine zn_tabIn (pc := 34) (x := nI 43) (off := 122) (tgt := 156) rfl (by decide +kernel) (by decide +kernel) (by rw [show (nI 43).toInt = 43 by decide +kernel]; rfl) rfl ?_
                refine zn_iconstN (pc := 156) 1 rfl rfl ?_
                exact zx_z (pc := 157) rfl rfl (by decide) (by decide +kernel) rfl
              · subst r
                refine zn_tabIn (pc := 34) (x := nI 44) (off := 122) (tgt := 156) rfl (by decide +kernel) (by decide +kernel) (by rw [show (nI 44).toInt = 44 by decide +kernel]; rfl) rfl ?_
                refine zn_iconstN (pc := 156) 1 rfl rfl ?_
                exact zx_z (pc := 157) rfl rfl (by decide) (by decide +kernel) rfl
              · subst r
                refine zn_tabIn (pc := 34) (x := nI 45) (off := 122) (tgt := 156) rfl (by decide +kernel) (by decide +kernel) (by rw [show (nI 45).toInt = 45 by decide +kernel]; rfl) rfl ?_
                refine zn_iconstN (pc := 156) 1 rfl rfl ?_
                exact zx_z (pc := 157) rfl rfl (by decide) (by decide +kernel) rfl
              · subst r
                refine zn_tabIn (pc := 34) (x := nI 46) (off := 122) (tgt := 156) rfl (by decide +kernel) (by decide +kernel) (by rw [show (nI 46).toInt = 46 by decide +kernel]; rfl) rfl ?_
                refine zn_iconstN (pc := 156) 1 rfl rfl ?_
                exact zx_z (pc := 157) rfl rfl (by decide) (by decide +kernel) rfl
              · subst r
                refine zn_tabIn (pc := 34) (x := nI 47) (off := 124) (tgt := 158) rfl (by decide +kernel) (by decide +kernel) (by rw [show (nI 47).toInt = 47 by decide +kernel]; rfl) rfl ?_
                refine zn_iconstN (pc := 158) 0 rfl rfl ?_
                exact zx_z (pc := 159) rfl rfl (by decide) (by decide +kernel) rfl
              · subst r; exact absurd (show nI 48 ≤ nI 48 ∧ nI 48 ≤ nI 57 by decide +kernel) (by assumption)
              · subst r; exact absurd (show nI 48 ≤ nI 49 ∧ nI 49 ≤ nI 57 by decide +kernel) (by assumption)
              · subst r; exact absurd (show nI 48 ≤ nI 50 ∧ nI 50 ≤ nI 57 by decide +kernel) (by assumption)
              · subst r; exact absurd (show nI 48 ≤ nI 51 ∧ nI 51 ≤ nI 57 by decide +kernel) (by assumption)
              · subst r; exact absurd (show nI 48 ≤ nI 52 ∧ nI 52 ≤ nI 57 by decide +kernel) (by assumption)
              · subst r; exact absurd (show nI 48 ≤ nI 53 ∧ nI 53 ≤ nI 57 by decide +kernel) (by assumption)
              · subst r; exact absurd (show nI 48 ≤ nI 54 ∧ nI 54 ≤ nI 57 by decide +kernel) (by assumption)
              · subst r; exact absurd (show nI 48 ≤ nI 55 ∧ nI 55 ≤ nI 57 by decide +kernel) (by assumption)
              · subst r; exact absurd (show nI 48 ≤ nI 56 ∧ nI 56 ≤ nI 57 by decide +kernel) (by assumption)
              · subst r; exact absurd (show nI 48 ≤ nI 57 ∧ nI 57 ≤ nI 57 by decide +kernel) (by assumption)
              · subst r
                refine zn_tabIn (pc := 34) (x := nI 58) (off := 122) (tgt := 156) rfl (by decide +kernel) (by decide +kernel) (by rw [show (nI 58).toInt = 58 by decide +kernel]; rfl) rfl ?_
                refine zn_iconstN (pc := 156) 1 rfl rfl ?_
                exact zx_z (pc := 157) rfl rfl (by decide) (by decide +kernel) rfl
          · refine zn_iconstN (pc := 31) 1 rfl rfl ?_
            exact zx_z (pc := 32) rfl rfl (by decide) (by rw [zb_t (by first | exact Or.inl ⟨by rw [← Int32.not_lt]; assumption, by assumption⟩ | exact Or.inr (Or.inl ⟨by rw [← Int32.not_lt]; assumption, by assumption⟩) | exact Or.inr (Or.inr (Or.inl (by assumption))))]; rfl) rfl
end m1
