section m1
variable {g : zG} {h hh : zH} {F : Nat → Nat} {S : Int64} {z : Nat → Nat} {A : Nat → Nat → Nat} {X : Nat → Int32}
theorem zg_ia : Cond.arrayClass .int ∈ zgt := zg_in 145 (by decide +kernel) (by decide +kernel)
theorem zg_la : Cond.arrayClass .long ∈ zgt := zg_in 235 (by decide +kernel) (by decide +kernel)
theorem zg_da : Cond.arrayClass .double ∈ zgt := zg_in 1694 (by decide +kernel) (by decide +kernel)
theorem zn_newI {I : zI} {pc a b : Nat} {L : zL} {st : List Value} {mc ms : Nat} {Q : zR → zH → Prop} {N : Nat} (hf : zF I pc = some (.newarray .int, 2, a, b)) (hN : N < 60000) (K : Zn g I (pc + 2) L (.ref h.2 :: st) (znew h (mNA N (fun _ => 0))) mc ms Q) : Zn g I pc L (.int (nI N) :: st) h (mc + 1) (ms + N) Q := zn_newa_i hf (nI_pos (by omega)) (nI_clamp (by omega)) (by omega) zg_ia K
/-- a new page -/
def hgr (h : zH) (n : Nat) : zH := (h.1, h.2 + n)
theorem new_pg {ci m : Nat} : zup (zup (znew (znew h (.inr (ci, [.null, .int 0]))) (mNA m (fun _ => 0))) h.2 (.inr (ci, [.ref (h.2 + 1), .int 0]))) h.2 (.inr (ci, [.ref (h.2 + 1), .int (nI 0)])) = pgs (hgr h 2) ci m h.2 (h.2 + 1) (fun _ => 0) 0 := by
  refine Prod.ext (funext fun i => ?_) rfl
  unfold pgs zup znew hgr
  simp only
  by_cases e : i = h.2
  · simp [e]
  · by_cases e2 : i = h.2 + 1
    · simp [e2]
    · simp [e, e2]
theorem znew_s {o : zO} : (znew h o).1 h.2 = some o := by simp [znew]
theorem znew_n {o : zO} {i : Nat} (hi : i ≠ h.2) : (znew h o).1 i = h.1 i := by simp [znew, hi]
theorem c_pinit : Zm g zX7_init [.ref h.2] (znew h (.inr (7, [.null, .int 0]))) 1 3264 (fun r' h' => r' = .inl none ∧ h' = pgs (hgr h 2) 7 3264 h.2 (h.2 + 1) (fun _ => 0) 0) := by
  show Zn g zX7_init 0 [some (.ref h.2)] [] (znew h (.inr (7, [.null, .int 0]))) 1 3264 _
  refine zn_aload_n (pc := 0) rfl rfl ?_
  refine zn_obj (pc := 1) rfl (Nat.le_of_ble_eq_true rfl) (Nat.le_of_ble_eq_true rfl) ?_
  refine zn_aload_n (pc := 4) rfl rfl ?_
  refine zn_sipushN (pc := 5) 3264 rfl rfl ?_
  refine zn_newI (pc := 8) rfl (by omega) ?_
  refine zf_putA (pc := 10) (fs' := [.ref (h.2 + 1), .int 0]) rfl ((znew_n (by show h.2 ≠ h.2 + 1; omega)).trans znew_s) (Nat.le_of_ble_eq_true rfl) rfl rfl ?_
  refine zn_aload_n (pc := 13) rfl rfl ?_
  refine zn_iconstN (pc := 14) 0 rfl rfl ?_
  refine zf_put (pc := 15) (fs' := [.ref (h.2 + 1), .int (nI 0)]) rfl (zup_s _ _ _) (Nat.le_of_ble_eq_true rfl) rfl rfl ?_
  exact zx_v (pc := 18) rfl rfl rfl new_pg
theorem c_save_e {P p Sz sz un re nx now : Nat} {Zp Z : Nat → Nat} (h6 : h.1 6 = some (.inr (3, [.ref 7, .ref p, .int (nI now), .int (nI un), .int (nI re)]))) (hp2 : h.1 p = some (.inr (7, [.ref (p + 1), .int (nI sz)]))) (hq2 : h.1 (p + 1) = some (mNA 3264 Z)) (hsy : sz ≤ 3264) (hY : ∀ j, Z j < 1000) (n1 : p ≠ P) (n2 : p ≠ P + 1) (n3 : p + 1 ≠ P) (hP : 7 < P) (hu : un ≤ 10) : Zn g zX3_save 31 [some (.ref 6), some (.int (nI nx)), some (.ref P)] [] (pgs h 7 3264 P (P + 1) Zp Sz) 0 0 (fun r' h' => r' = .inl (some (.ref P)) ∧ h' = zup (pgs h 7 3264 P (P + 1) (va_cpy Z Zp 0 0 sz) sz) 6 (.inr (3, [.ref 7, .ref P, .int (nI nx), .int (nI (min (un + 1) 10)), .int (nI 0)]))) := by
  refine zn_aload_n (pc := 31) rfl rfl ?_
  refine zn_aload_n (pc := 32) rfl rfl ?_
  refine zn_get (pc := 33) (v := .ref p) rfl ((pg_n (by omega) (by omega)).trans h6) rfl ?_
  refine zn_callVx (pc := 36) (J := zX7_becomeCopyOf) (o := P) (as := [.ref p]) (rest := []) rfl rfl rfl rfl pg_o rfl rfl rfl (Nat.le_of_ble_eq_true rfl) (Nat.le_of_ble_eq_true rfl) (Nat.le_of_ble_eq_true rfl) (Nat.le_of_ble_eq_true rfl) (c_becomeCopyOf (by omega) (by omega) hp2 hq2 hsy hY n1 n2 n3 (by omega) (by omega)) ?_
  refine zn_aload_n (pc := 39) rfl rfl ?_
  refine zn_aload_n (pc := 40) rfl rfl ?_
  refine zf_putR (pc := 41) (fs' := [.ref 7, .ref P, .int (nI now), .int (nI un), .int (nI re)]) rfl ((pg_n (by omega) (by omega)).trans h6) (Nat.le_of_ble_eq_true rfl) rfl rfl ?_
  refine zn_aload_n (pc := 44) rfl rfl ?_
  refine zn_iload_n (pc := 45) rfl rfl ?_
  refine zf_put (pc := 46) (fs' := [.ref 7, .ref P, .int (nI nx), .int (nI un), .int (nI re)]) rfl (zup_s _ _ _) (Nat.le_of_ble_eq_true rfl) rfl rfl ?_
  refine zn_aload_n (pc := 49) rfl rfl ?_
  refine zn_aload_n (pc := 50) rfl rfl ?_
  refine zn_get (pc := 51) (v := .int (nI un)) rfl (zup_s _ _ _) rfl ?_
  refine zn_iconstN (pc := 54) 1 rfl rfl ?_
  refine zn_iaddN (pc := 55) (x := un) (y := 1) rfl ?_
  refine zn_bipushN (pc := 56) 10 rfl rfl ?_
  refine zn_minN (pc := 58) (x := (un + 1)) (y := 10) rfl (Nat.le_of_ble_eq_true rfl) (Nat.le_of_ble_eq_true rfl) (by omega) (by omega) ?_
  refine zf_put (pc := 61) (fs' := [.ref 7, .ref P, .int (nI nx), .int (nI (min (un + 1) 10)), .int (nI re)]) rfl (zup_s _ _ _) (Nat.le_of_ble_eq_true rfl) rfl rfl ?_
  refine zn_aload_n (pc := 64) rfl rfl ?_
  refine zn_iconstN (pc := 65) 0 rfl rfl ?_
  refine zf_put (pc := 66) (fs' := [.ref 7, .ref P, .int (nI nx), .int (nI (min (un + 1) 10)), .int (nI 0)]) rfl (zup_s _ _ _) (Nat.le_of_ble_eq_true rfl) rfl rfl ?_
  refine zn_aload_n (pc := 69) rfl rfl ?_
  exact zx_a (pc := 70) rfl rfl rfl (by rw [zup_u, zup_u, zup_u])
theorem q_place  {pf : Nat → Option Nat} {now p sz : Nat} {Z : Nat → Nat} (hS : ST hh F z A pf now p Z sz) : Zx g zX3_placeBehind [.ref 6] (hh) (some (.int (nI ((now + 1) % 11)))) (hh) := by
  have h24 := hS.tk.ok.2.1
  have h01 := hS.tk.ok.1
  have h120 := hS.im
  have hnb := hS.nb
  have hszz := hS.s3
  have hur := hS.ur
  have hnw := hS.nw
  show Zn g zX3_placeBehind 0 [some (.ref 6)] [] (hh) 0 0 _
  refine zn_aload_n (pc := 0) rfl rfl ?_
  refine zn_get (pc := 1) (v := .int (nI now)) rfl hS.h6 rfl ?_
  refine zn_bipushN (pc := 4) 10 rfl rfl ?_
  refine zn_icmp_geN (pc := 6) (tgt := 18) (x := now) (y := 10) rfl rfl (by omega) (by omega) (fun c1 => ?_) (fun c1 => ?_)
  · refine zn_iconstN (pc := 18) 0 rfl rfl ?_
    exact zx_i (pc := 19) rfl rfl (congrArg (fun x => some (Value.int (nI x))) (show (now + 1) % 11 = 0 by omega)) rfl
  · refine zn_aload_n (pc := 9) rfl rfl ?_
    refine zn_get (pc := 10) (v := .int (nI now)) rfl hS.h6 rfl ?_
    refine zn_iconstN (pc := 13) 1 rfl rfl ?_
    refine zn_iaddN (pc := 14) (x := now) (y := 1) rfl ?_
    refine zn_goto (pc := 15) (tgt := 19) rfl rfl ?_
    exact zx_i (pc := 19) rfl rfl (congrArg (fun x => some (Value.int (nI x))) (show (now + 1) % 11 = now + 1 by omega)) rfl
theorem q_save_r {pf : Nat → Option Nat} {now p sz : Nat} {Z : Nat → Nat} (hS : ST hh F z A pf now p Z sz) {P Sz : Nat} {Zp : Nat → Nat} (hpf : pf ((now + 1) % 11) = some P) (hP : PGe hh P Zp Sz) (hne : p ≠ P) : Zm g zX3_save [.ref 6] hh 0 0 (fun r' h' => r' = .inl (some (.ref P)) ∧ h' = zup (pgs hh 7 3264 P (P + 1) (va_cpy Z Zp 0 0 sz) sz) 6 (.inr (3, [.ref 7, .ref P, .int (nI ((now + 1) % 11)), .int (nI (min (F 5 + 1) 10)), .int (nI 0)]))) := by
  have h24 := hS.tk.ok.2.1
  have h01 := hS.tk.ok.1
  have h120 := hS.im
  have hnb := hS.nb
  have hszz := hS.s3
  have hur := hS.ur
  have hnw := hS.nw
  show Zn g zX3_save 0 [some (.ref 6), none, none] [] hh 0 0 _
  refine zn_aload_n (pc := 0) rfl rfl ?_
  refine zn_callVx (pc := 1) (J := zX3_placeBehind) (o := 6) (as := []) (rest := []) rfl rfl rfl rfl hS.h6 rfl rfl rfl (Nat.le_of_ble_eq_true rfl) (Nat.le_of_ble_eq_true rfl) (Nat.le_of_ble_eq_true rfl) (Nat.le_of_ble_eq_true rfl) (q_place hS) ?_
  refine zn_istore_n (pc := 4) (L' := [some (.ref 6), some (.int (nI ((now + 1) % 11))), none]) rfl (by decide) rfl ?_
  refine zn_aload_n (pc := 5) rfl rfl ?_
  refine zn_get (pc := 6) (v := .ref 7) rfl hS.h6 rfl ?_
  refine zn_iload_n (pc := 9) rfl rfl ?_
  refine zn_aaldR (pc := 10) (o := 7) (n := 11) (f := pf) (j := ((now + 1) % 11)) (x := P) rfl (by omega) hS.h7 (by omega) (Nat.le_of_ble_eq_true rfl) hpf ?_
  refine zn_astore_n (pc := 11) (L' := [some (.ref 6), some (.int (nI ((now + 1) % 11))), some (.ref P)]) rfl (by decide) rfl ?_
  refine zn_aload_n (pc := 12) rfl rfl ?_
  refine zn_ifnonnull (pc := 13) (tgt := 31) rfl rfl ?_
  obtain ⟨m1, m2, m3⟩ := hP.ne hS.2.1 hne
  refine zn_heq (h' := pgs hh 7 3264 P (P + 1) Zp Sz) (pgs_self hP.1 hP.2.1).symm ?_
  exact c_save_e (p := p) (Z := Z) hS.h6 hS.po hS.qo hS.s3 hS.Zb hne m1 m2 (by have := hP.2.2.2.2; omega) (by omega)
theorem pgs_c7 {p q v m : Nat} {Z : Nat → Nat} {o : zO} (hp : 7 < p ∧ 7 < q) : zup (pgs h 7 m p q Z v) 7 o = pgs (zup h 7 o) 7 m p q Z v := by
  refine Prod.ext (funext fun i => ?_) rfl
  unfold pgs zup
  simp only
  by_cases e : i = 7
  · subst e; rw [if_pos rfl, if_neg (by omega), if_neg (by omega), if_pos rfl]
  · rw [if_neg e]
    by_cases e2 : i = p
    · rw [if_pos e2, if_pos e2]
    · rw [if_neg e2, if_neg e2]
      by_cases e3 : i = q
      · rw [if_pos e3, if_pos e3]
      · rw [if_neg e3, if_neg e3, if_neg e]
theorem q_save_n {pf : Nat → Option Nat} {now p sz : Nat} {Z : Nat → Nat} (hS : ST hh F z A pf now p Z sz) (hpf : pf ((now + 1) % 11) = none) : Zm g zX3_save [.ref 6] hh 2 3266 (fun r' h' => r' = .inl (some (.ref hh.2)) ∧ h' = zup (pgs (zup (hgr hh 2) 7 (rfA (va_up pf ((now + 1) % 11) (some hh.2)))) 7 3264 hh.2 (hh.2 + 1) (va_cpy Z (fun _ => 0) 0 0 sz) sz) 6 (.inr (3, [.ref 7, .ref hh.2, .int (nI ((now + 1) % 11)), .int (nI (min (F 5 + 1) 10)), .int (nI 0)]))) := by
  have h24 := hS.tk.ok.2.1
  have h01 := hS.tk.ok.1
  have h120 := hS.im
  have hnb := hS.nb
  have hszz := hS.s3
  have hur := hS.ur
  have hnw := hS.nw
  have hpp := hS.pp
  have h68 := hS.wf.1
  show Zn g zX3_save 0 [some (.ref 6), none, none] [] hh 2 3266 _
  refine zn_aload_n (pc := 0) rfl rfl ?_
  refine zn_callVx (pc := 1) (J := zX3_placeBehind) (o := 6) (as := []) (rest := []) rfl rfl rfl rfl hS.h6 rfl rfl rfl (Nat.le_of_ble_eq_true rfl) (Nat.le_of_ble_eq_true rfl) (Nat.le_of_ble_eq_true rfl) (Nat.le_of_ble_eq_true rfl) (q_place hS) ?_
  refine zn_istore_n (pc := 4) (L' := [some (.ref 6), some (.int (nI ((now + 1) % 11))), none]) rfl (by decide) rfl ?_
  refine zn_aload_n (pc := 5) rfl rfl ?_
  refine zn_get (pc := 6) (v := .ref 7) rfl hS.h6 rfl ?_
  refine zn_iload_n (pc := 9) rfl rfl ?_
  refine zn_aaldU (pc := 10) (o := 7) (n := 11) (f := pf) (j := ((now + 1) % 11)) rfl (by omega) hS.h7 (by omega) (Nat.le_of_ble_eq_true rfl) hpf ?_
  refine zn_astore_nN (pc := 11) (L' := [some (.ref 6), some (.int (nI ((now + 1) % 11))), some (.null)]) rfl (by decide) rfl ?_
  refine zn_aload_nN (pc := 12) rfl rfl ?_
  refine zn_ifnonnullN (pc := 13) rfl ?_
  refine zn_new7 (pc := 16) rfl ?_
  refine zn_dup (pc := 19) rfl rfl ?_
  refine zn_callIm (pc := 20) (J := zX7_init) (o := hh.2) (mc1 := 1) (ms1 := 3264) (mc := 0) (ms := 0) (as := []) (rest := [.ref hh.2]) rfl (by decide) rfl rfl rfl (Nat.le_of_ble_eq_true rfl) (Nat.le_of_ble_eq_true rfl) (Nat.le_of_ble_eq_true rfl) (Nat.le_of_ble_eq_true rfl) (fun E h9 q9 => by cases q9.1) c_pinit ?_
  rintro v h2 ⟨e1, e2⟩
  cases e1
  subst e2
  refine zn_astore_n (pc := 23) (L' := [some (.ref 6), some (.int (nI ((now + 1) % 11))), some (.ref hh.2)]) rfl (by decide) rfl ?_
  refine zn_aload_n (pc := 24) rfl rfl ?_
  refine zn_get (pc := 25) (v := .ref 7) rfl ((pg_n (by omega) (by omega)).trans hS.h6) rfl ?_
  refine zn_iload_n (pc := 28) rfl rfl ?_
  refine zn_aload_n (pc := 29) rfl rfl ?_
  refine zn_aastN (pc := 30) (o := 7) (n := 11) (f := pf) (j := (now + 1) % 11) (v := hh.2) rfl (by omega) ((pg_n (by omega) (by omega)).trans hS.h7) pg_o (by omega) (Nat.le_of_ble_eq_true rfl) ?_
  refine zn_heq (h' := pgs (zup (hgr hh 2) 7 (rfA (va_up pf ((now + 1) % 11) (some hh.2)))) 7 3264 hh.2 (hh.2 + 1) (fun _ => 0) 0) (pgs_c7 (by omega)) ?_
  have hlt := hS.2.1.lt hS.wf
  exact c_save_e (p := p) (Z := Z) ((zup_n (by omega)).trans hS.h6) ((zup_n (by omega)).trans hS.po) ((zup_n (by omega)).trans hS.qo) hS.s3 hS.Zb (by omega) (by omega) (by omega) (by omega) (by omega)
end m1
