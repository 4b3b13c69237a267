section p9
variable {g : zG} {h hh h' hb : zH} {F F' z z' : Nat → Nat} {A A' : Nat → Nat → Nat} {pf pf' : Nat → Option Nat} {now p sz P Sz : Nat} {Z Zp : Nat → Nat}
/-! a text is saved: the reference's numbers and rows -/
def svF (F : Nat → Nat) : Nat → Nat := va_up (va_up F 5 (min (F 5) 9 + 1)) 6 0
def svA (F z : Nat → Nat) (A : Nat → Nat → Nat) : Nat → Nat → Nat := va_up A 2 (msave (A 2) z (F 5))
theorem svF5 : svF F 5 = min (F 5) 9 + 1 := by unfold svF; rw [va_upN (by omega), va_upS]
theorem svF6 : svF F 6 = 0 := va_upS _ _ _
theorem svFn {k : Nat} (h1 : k ≠ 5) (h2 : k ≠ 6) : svF F k = F k := by unfold svF; rw [va_upN h2, va_upN h1]
theorem svA2 : svA F z A 2 = msave (A 2) z (F 5) := va_upS _ _ _
theorem svAn {k : Nat} (h1 : k ≠ 2) : svA F z A k = A k := va_upN h1
theorem kU_0 (hn : F 5 ≤ 10) {j : Nat} (hj : j < 3289) : kU (svF F) (svA F z A) 0 j = z j := by
  simp only [kU]
  rw [if_pos hj, svF5, svA2]
  unfold msave
  split
  · unfold mrow
    rw [if_pos (by omega)]
    exact congrArg z (by omega)
  · unfold mrow
    rw [if_pos (by omega)]
    exact congrArg z (by omega)
theorem kU_s (hn : F 5 ≤ 10) {d : Nat} (hd : d + 1 < min (F 5) 9 + 1) : kU (svF F) (svA F z A) (d + 1) = kU F A d := by
  funext j
  simp only [kU]
  rw [svF5, svA2]
  split
  · unfold msave
    split
    · unfold mrow msv
      rw [if_neg (by omega), if_pos (by omega)]
      exact congrArg (A 2) (by omega)
    · unfold mrow
      rw [if_neg (by omega)]
      exact congrArg (A 2) (by omega)
  · rfl
theorem kU_b (hz : ∀ j, z j < 1000) (hn : F 5 ≤ 10) (j : Nat) : kU (svF F) (svA F z A) 0 j < 1000 := by
  rcases Nat.lt_or_ge j 3289 with r | r
  · rw [kU_0 hn r]; exact hz j
  · simp only [kU]; rw [if_neg (by omega)]; omega
theorem pRR_s : pRR (svF F) z' (svA F z A) = pRR F z' A := by
  show pR z' (svA F z A 4) (svF F 8) (svF F 9) (svF F 10) = pR z' (A 4) (F 8) (F 9) (F 10)
  rw [svAn (by omega), svFn (by omega) (by omega), svFn (by omega) (by omega), svFn (by omega) (by omega)]
def svh (hb : zH) (Z Zp : Nat → Nat) (sz P nx un : Nat) : zH := zup (pgs hb 7 3264 P (P + 1) (va_cpy Z Zp 0 0 sz) sz) 6 (.inr (3, [.ref 7, .ref P, .int (nI nx), .int (nI (min (un + 1) 10)), .int (nI 0)]))
theorem svh_n {nx un i : Nat} (h6 : i ≠ 6) (h1 : i ≠ P) (h2 : i ≠ P + 1) : (svh hb Z Zp sz P nx un).1 i = hb.1 i := (zup_n h6).trans (pg_n h1 h2)
theorem svh_p {nx un : Nat} (h6 : 7 < P) : (svh hb Z Zp sz P nx un).1 P = some (.inr (7, [.ref (P + 1), .int (nI sz)])) := (zup_n (by omega)).trans pg_o
theorem svh_q {nx un : Nat} (h6 : 7 < P) : (svh hb Z Zp sz P nx un).1 (P + 1) = some (mNA 3264 (va_cpy Z Zp 0 0 sz)) := (zup_n (by omega)).trans (pg_a (by omega))
theorem save_core (hS : ST hh F z A pf now p Z sz) (hZp : ∀ j, Zp j < 1000) (b2 : hh.2 ≤ hb.2) (bn : ∀ i, hb.2 ≤ i → hb.1 i = none) (bi : ∀ i, i ≠ 7 → hb.1 i = hh.1 i) (b7 : hb.1 7 = some (rfA pf')) (f1 : pf' ((now + 1) % 11) = some P) (f2 : ∀ i, i ≤ 10 → i ≠ (now + 1) % 11 → pf' i = pf i)
    (hP : P = 8 ∨ 68 ≤ P) (hPb : P + 1 < hb.2) (hd : ∀ i p', i ≤ 10 → i ≠ (now + 1) % 11 → pf i = some p' → p' ≠ P ∧ p' ≠ P + 1 ∧ p' + 1 ≠ P) :
    ST (svh hb Z Zp sz P ((now + 1) % 11) (F 5)) (svF F) z (svA F z A) pf' ((now + 1) % 11) P (va_cpy Z Zp 0 0 sz) sz ∧ FRm hh (svh hb Z Zp sz P ((now + 1) % 11) (F 5)) ∧ PGe (svh hb Z Zp sz P ((now + 1) % 11) (F 5)) p Z sz ∧ p ≠ P ∧ p ≠ P + 1 ∧ p + 1 ≠ P ∧ (∀ i, i ≠ 6 → i ≠ 7 → i ≠ P → i ≠ P + 1 → (svh hb Z Zp sz P ((now + 1) % 11) (F 5)).1 i = hh.1 i) := by
  have hnw := hS.nw
  have hur := hS.ur
  have h68 := hS.wf.1
  have hpn : pf now = some p := hS.hi.2.2.2.2.1
  obtain ⟨n1, n2, n3⟩ := hd now p (by omega) (by omega) hpn
  have key : ∀ i, i ≠ 6 → i ≠ 7 → i ≠ P → i ≠ P + 1 → (svh hb Z Zp sz P ((now + 1) % 11) (F 5)).1 i = hh.1 i := fun i a1 a2 a3 a4 => (svh_n a1 a3 a4).trans (bi i a2)
  have hZ2 : ∀ j, va_cpy Z Zp 0 0 sz j < 1000 := zb_cpy hS.Zb hZp
  have hfl : FL z (va_cpy Z Zp 0 0 sz) sz := by
    unfold FL
    rw [pl_cpy0]
    exact hS.fl
  have hPG : PGe (svh hb Z Zp sz P ((now + 1) % 11) (F 5)) P (va_cpy Z Zp 0 0 sz) sz := ⟨svh_p (by omega), svh_q (by omega), hS.s3, hZ2, hP⟩
  have hold : PGe (svh hb Z Zp sz P ((now + 1) % 11) (F 5)) p Z sz := by
    have hpp := hS.pp
    exact hS.2.1.at (key p (by omega) (by omega) (by omega) (by omega)) (key (p + 1) (by omega) (by omega) (by omega) (by omega))
  have hpg : ∀ i p', i ≤ 10 → i ≠ (now + 1) % 11 → pf i = some p' → ∀ j, j = p' ∨ j = p' + 1 → (svh hb Z Zp sz P ((now + 1) % 11) (F 5)).1 j = hh.1 j := by
    intro i p' hi hn hp j hj
    obtain ⟨m1, m2, m3⟩ := hd i p' hi hn hp
    obtain ⟨Z1, s1, r1⟩ := hS.hi.2.2.2.2.2.1 i p' hi hp
    have := r1.2.2.2.2
    exact key j (by omega) (by omega) (by omega) (by omega)
  refine ⟨⟨⟨⟨?_, ⟨?_, ?_⟩, ?_, ?_, ?_, ?_, ?_⟩, ?_⟩, hPG, hfl⟩, ⟨b2, fun i hi => key i (by omega) (by omega) (by omega) (by omega)⟩, hold, n1, n2, n3, key⟩
  · exact hS.1.1.1.fr (key 1 (by omega) (by omega) (by omega) (by omega))
  · show 68 ≤ hb.2
    omega
  · intro i hi
    have hi' : hb.2 ≤ i := hi
    rw [svh_n (by omega) (by omega) (by omega)]
    exact bn i hi'
  · have r := hS.io.fr (h' := svh hb Z Zp sz P ((now + 1) % 11) (F 5)) (fun i a b => key i (by omega) (by omega) (by omega) (by omega))
    unfold IOb
    rw [svFn (by omega) (by omega), svAn (by omega)]
    exact r
  · have r := hS.fo.fr (h' := svh hb Z Zp sz P ((now + 1) % 11) (F 5)) (fun i a b => key i (by omega) (by omega) (by omega) (by omega))
    unfold FOb
    rw [svFn (by omega) (by omega), svFn (by omega) (by omega), svFn (by omega) (by omega), svAn (by omega)]
    exact r
  · refine ⟨?_, ?_, by omega, ?_, f1, ?_, ?_, ⟨_, _, hPG, hfl, hS.tk⟩, ?_, ?_⟩
    · rw [svF5, svF6]
      unfold svh
      rw [show min (F 5 + 1) 10 = min (F 5) 9 + 1 by omega]
      exact zup_s _ _ _
    · exact (svh_n (by omega) (by omega) (by omega)).trans b7
    · rw [svF5, svF6]; omega
    · intro i p' hi hp
      by_cases e : i = (now + 1) % 11
      · rw [e, f1] at hp
        cases hp
        exact ⟨_, _, hPG⟩
      · rw [f2 i hi e] at hp
        obtain ⟨Z1, s1, r1⟩ := hS.hi.2.2.2.2.2.1 i p' hi hp
        exact ⟨Z1, s1, r1.at (hpg i p' hi e hp _ (Or.inl rfl)) (hpg i p' hi e hp _ (Or.inr rfl))⟩
    · intro i j p' hi hj hpi hpj
      by_cases e : i = (now + 1) % 11
      · by_cases e2 : j = (now + 1) % 11
        · omega
        · rw [e, f1] at hpi
          cases hpi
          rw [f2 j hj e2] at hpj
          exact absurd rfl (hd j P hj e2 hpj).1
      · by_cases e2 : j = (now + 1) % 11
        · rw [e2, f1] at hpj
          cases hpj
          rw [f2 i hi e] at hpi
          exact absurd rfl (hd i P hi e hpi).1
        · rw [f2 i hi e] at hpi
          rw [f2 j hj e2] at hpj
          exact hS.hi.2.2.2.2.2.2.1 i j p' hi hj hpi hpj
    · intro d hd9
      rw [svF5] at hd9
      by_cases e : d = 0
      · subst e
        refine ⟨p, ?_, Pg_cg ⟨Z, sz, hold, hS.fl, hS.tk⟩ (fun j hj => kU_0 (by omega) hj) (kU_b hS.tk.bd (by omega))⟩
        rw [show ((now + 1) % 11 + 10 - 0) % 11 = now by omega, f2 now (by omega) (by omega)]
        exact hpn
      · obtain ⟨d', rfl⟩ : ∃ d', d = d' + 1 := ⟨d - 1, by omega⟩
        obtain ⟨p', r1, r2⟩ := hS.hi.2.2.2.2.2.2.2.2.1 d' (by omega)
        rw [kU_s (by omega) (by omega)]
        refine ⟨p', ?_, r2.at (hpg _ p' (by omega) (by omega) r1)⟩
        rw [show ((now + 1) % 11 + 10 - (d' + 1)) % 11 = (now + 10 - d') % 11 by omega, f2 _ (by omega) (by omega)]
        exact r1
    · intro d hd9
      rw [svF6] at hd9
      omega
  · exact hS.1.1.2.2.2.2.2.1.fr (fun i a b => key i (by omega) (by omega) (by omega) (by omega))
  · exact hS.1.1.2.2.2.2.2.2.fr (fun i a b => key i (by omega) (by omega) (by omega) (by omega))
  · rw [pRR_s]
    exact hS.L.fr (fun i a b => key i (by omega) (by omega) (by omega) (by omega))
/-- what save leaves: the state, saved, with a page of its own -/
def SVD (hh : zH) (F z : Nat → Nat) (A : Nat → Nat → Nat) (p : Nat) (Z : Nat → Nat) (sz : Nat) (P : Nat) (h' : zH) : Prop := ∃ pf' now' Z2, ST h' (svF F) z (svA F z A) pf' now' P Z2 sz ∧ FRm hh h' ∧ PGe h' p Z sz ∧ (p ≠ P ∧ p ≠ P + 1 ∧ p + 1 ≠ P) ∧ (∀ i, i ≠ 6 → i ≠ 7 → i ≠ P → i ≠ P + 1 → h'.1 i = hh.1 i) ∧ (hh.2 ≤ P ∨ ∃ Zp Sz, PGe hh P Zp Sz)
theorem q_save (hS : ST hh F z A pf now p Z sz) : Zm g zX3_save [.ref 6] hh 2 3266 (fun r h' => ∃ P, r = .inl (some (.ref P)) ∧ SVD hh F z A p Z sz P h') := by
  have hnw := hS.nw
  have h68 := hS.wf.1
  have hpn : pf now = some p := hS.hi.2.2.2.2.1
  cases hpf : pf ((now + 1) % 11) with
  | none =>
    refine zn_mono (q_save_n hS hpf) (Nat.le_refl _) (Nat.le_refl _) (fun r h' q => ?_)
    obtain ⟨q1, q2⟩ := q
    subst q2
    have R := save_core (hb := zup (hgr hh 2) 7 (rfA (va_up pf ((now + 1) % 11) (some hh.2)))) (Zp := fun _ => 0) (P := hh.2) hS (fun _ => by omega) (by show hh.2 ≤ hh.2 + 2; omega) (fun i hi => by
      have hi' : hh.2 + 2 ≤ i := hi
      rw [zup_n (by omega)]
      exact hS.wf.2 i (by omega)) (fun i hi => (zup_n hi)) (zup_s _ _ _) (va_upS _ _ _) (fun i _ hi => va_upN hi) (Or.inr (by omega)) (by show hh.2 + 1 < hh.2 + 2; omega) (fun i p' hi hn hp => by
      obtain ⟨Z1, s1, r1⟩ := hS.hi.2.2.2.2.2.1 i p' hi hp
      have := r1.lt hS.wf
      omega)
    exact ⟨hh.2, q1, va_up pf ((now + 1) % 11) (some hh.2), (now + 1) % 11, _, R.1, R.2.1, R.2.2.1, ⟨R.2.2.2.1, R.2.2.2.2.1, R.2.2.2.2.2.1⟩, R.2.2.2.2.2.2, Or.inl (Nat.le_refl _)⟩
  | some P =>
    obtain ⟨Zp, Sz, hP⟩ := hS.hi.2.2.2.2.2.1 _ P (by omega) hpf
    have hne : p ≠ P := fun e => by
      have := hS.hi.2.2.2.2.2.2.1 now ((now + 1) % 11) p (by omega) (by omega) hpn (by rw [e]; exact hpf)
      omega
    refine zn_mono (q_save_r hS hpf hP hne) (by omega) (by omega) (fun r h' q => ?_)
    obtain ⟨q1, q2⟩ := q
    subst q2
    have R := save_core (hb := hh) (Zp := Zp) (P := P) hS hP.2.2.2.1 (Nat.le_refl _) hS.wf.2 (fun i _ => rfl) hS.h7 hpf (fun i _ _ => rfl) hP.2.2.2.2 (hP.lt hS.wf).1 (fun i p' hi hn hp => by
      obtain ⟨Z1, s1, r1⟩ := hS.hi.2.2.2.2.2.1 i p' hi hp
      have hne2 : p' ≠ P := fun e => hn (hS.hi.2.2.2.2.2.2.1 i ((now + 1) % 11) p' hi (by omega) hp (by rw [e]; exact hpf))
      obtain ⟨m1, m2, m3⟩ := hP.ne r1 hne2
      exact ⟨hne2, m1, m2⟩)
    exact ⟨P, q1, pf, (now + 1) % 11, _, R.1, R.2.1, R.2.2.1, ⟨R.2.2.2.1, R.2.2.2.2.1, R.2.2.2.2.2.1⟩, R.2.2.2.2.2.2, Or.inr ⟨Zp, Sz, hP⟩⟩
end p9
