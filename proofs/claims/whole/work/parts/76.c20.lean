section m1
variable {g : zG} {h hh : zH} {F : Nat → Nat} {S : Int64} {z : Nat → Nat} {A : Nat → Nat → Nat} {X : Nat → Int32}
def cCq (f g : Nat → Nat) (n m k : Nat) : Int32 := if k < n ∧ k < m then (if f k < g k then -1 else if f k = g k then 0 else 1) else (if n < m then -1 else if n = m then 0 else 1)
def cCmp (f g : Nat → Nat) (n m : Nat) : Int32 := cCq f g n m (sCk f g n m n 0)
theorem icmp_0 {x y : Nat} (h : (if x < y then (-1 : Int32) else if x = y then 0 else 1) = 0) : x = y := by
  by_cases h1 : x < y
  · rw [if_pos h1] at h; exact absurd h (by decide)
  · rw [if_neg h1] at h
    by_cases h2 : x = y
    · exact h2
    · rw [if_neg h2] at h; exact absurd h (by decide)
theorem q_cw_l {pf : Nat → Option Nat} {now p sz : Nat} {Z : Nat → Nat} (hS : ST hh F z A pf now p Z sz) {l o c : Nat} (hl : l < z 0) (ho : o < z 0) (hc : c < z (1 + l)) (hco : c < z (1 + o)) : ∀ (n : Nat) (k R : Nat), k + n = z (25 + 8 * l + c) → R = sCk (mf z l c) (mf z o c) (z (25 + 8 * l + c)) (z (25 + 8 * o + c)) n k → Zn g zX9_compareWords 25 [some (.ref 1), some (.int (nI l)), some (.int (nI o)), some (.int (nI c)), some (.int (nI (z (25 + 8 * l + c)))), some (.int (nI (z (25 + 8 * o + c)))), some (.int (nI k)), none] [] (hh) 0 0 (fun r' h' => r' = .inl (some (.int (cCq (mf z l c) (mf z o c) (z (25 + 8 * l + c)) (z (25 + 8 * o + c)) R))) ∧ h' = (hh)) := by
  intro n
  induction n with
  | zero =>
    intro k R hn0 hn1
    have h24 := hS.tk.ok.2.1
    have h01 := hS.tk.ok.1
    have h120 := hS.im
    have hnb := hS.nb
    have hszz := hS.s3
    have hur := hS.ur
    have hnw := hS.nw
    have h8 := (hS.tk.gl hl).2.1
    have h8o := (hS.tk.gl ho).2.1
    have h16 := hS.tk.ok.2.2.2 l c hl hc
    have h16o := hS.tk.ok.2.2.2 o c ho hco
    refine zn_iload (pc := 25) rfl rfl ?_
    refine zn_iload (pc := 27) rfl rfl ?_
    refine zn_icmp_geN (pc := 29) (tgt := 74) (x := k) (y := (z (25 + 8 * l + c))) rfl rfl (by have := hS.tk.bd (217 + 16 * (8 * l + c) + k); have := hS.tk.bd (217 + 16 * (8 * o + c) + k); omega) (by have := hS.tk.bd (217 + 16 * (8 * l + c) + k); have := hS.tk.bd (217 + 16 * (8 * o + c) + k); omega) (fun c1 => ?_) (fun c1 => ?_)
    · refine zn_iload (pc := 74) rfl rfl ?_
      refine zn_iload (pc := 76) rfl rfl ?_
      refine zn_callSx (pc := 78) (J := zJ6_compare_7cf53) (as := [.int (nI (z (25 + 8 * l + c))), .int (nI (z (25 + 8 * o + c)))]) (rest := []) rfl (by decide) rfl rfl rfl rfl (Nat.le_of_ble_eq_true rfl) (Nat.le_of_ble_eq_true rfl) (Nat.le_of_ble_eq_true rfl) (Nat.le_of_ble_eq_true rfl) (c_icmp (x := (z (25 + 8 * l + c))) (y := (z (25 + 8 * o + c))) (by have := hS.tk.bd (217 + 16 * (8 * l + c) + k); have := hS.tk.bd (217 + 16 * (8 * o + c) + k); omega) (by have := hS.tk.bd (217 + 16 * (8 * l + c) + k); have := hS.tk.bd (217 + 16 * (8 * o + c) + k); omega)) ?_
      have eR : R = k := by rw [hn1]; simp only [sCk]
      rw [eR]
      exact zx_i (pc := 81) rfl rfl (by unfold cCq; rw [if_neg (by omega)]) rfl
    · exfalso; omega
  | succ n ih =>
    intro k R hn0 hn1
    have h24 := hS.tk.ok.2.1
    have h01 := hS.tk.ok.1
    have h120 := hS.im
    have hnb := hS.nb
    have hszz := hS.s3
    have hur := hS.ur
    have hnw := hS.nw
    have h8 := (hS.tk.gl hl).2.1
    have h8o := (hS.tk.gl ho).2.1
    have h16 := hS.tk.ok.2.2.2 l c hl hc
    have h16o := hS.tk.ok.2.2.2 o c ho hco
    refine zn_iload (pc := 25) rfl rfl ?_
    refine zn_iload (pc := 27) rfl rfl ?_
    refine zn_icmp_geN (pc := 29) (tgt := 74) (x := k) (y := (z (25 + 8 * l + c))) rfl rfl (by have := hS.tk.bd (217 + 16 * (8 * l + c) + k); have := hS.tk.bd (217 + 16 * (8 * o + c) + k); omega) (by have := hS.tk.bd (217 + 16 * (8 * l + c) + k); have := hS.tk.bd (217 + 16 * (8 * o + c) + k); omega) (fun c1 => ?_) (fun c1 => ?_)
    · refine zn_iload (pc := 74) rfl rfl ?_
      refine zn_iload (pc := 76) rfl rfl ?_
      refine zn_callSx (pc := 78) (J := zJ6_compare_7cf53) (as := [.int (nI (z (25 + 8 * l + c))), .int (nI (z (25 + 8 * o + c)))]) (rest := []) rfl (by decide) rfl rfl rfl rfl (Nat.le_of_ble_eq_true rfl) (Nat.le_of_ble_eq_true rfl) (Nat.le_of_ble_eq_true rfl) (Nat.le_of_ble_eq_true rfl) (c_icmp (x := (z (25 + 8 * l + c))) (y := (z (25 + 8 * o + c))) (by have := hS.tk.bd (217 + 16 * (8 * l + c) + k); have := hS.tk.bd (217 + 16 * (8 * o + c) + k); omega) (by have := hS.tk.bd (217 + 16 * (8 * l + c) + k); have := hS.tk.bd (217 + 16 * (8 * o + c) + k); omega)) ?_
      have eR : R = k := by rw [hn1]; simp only [sCk]; rw [if_neg (by omega)]
      rw [eR]
      exact zx_i (pc := 81) rfl rfl (by unfold cCq; rw [if_neg (by omega)]) rfl
    · refine zn_iload (pc := 32) rfl rfl ?_
      refine zn_iload (pc := 34) rfl rfl ?_
      refine zn_icmp_geN (pc := 36) (tgt := 74) (x := k) (y := (z (25 + 8 * o + c))) rfl rfl (by have := hS.tk.bd (217 + 16 * (8 * l + c) + k); have := hS.tk.bd (217 + 16 * (8 * o + c) + k); omega) (by have := hS.tk.bd (217 + 16 * (8 * l + c) + k); have := hS.tk.bd (217 + 16 * (8 * o + c) + k); omega) (fun c2 => ?_) (fun c2 => ?_)
      · refine zn_iload (pc := 74) rfl rfl ?_
        refine zn_iload (pc := 76) rfl rfl ?_
        refine zn_callSx (pc := 78) (J := zJ6_compare_7cf53) (as := [.int (nI (z (25 + 8 * l + c))), .int (nI (z (25 + 8 * o + c)))]) (rest := []) rfl (by decide) rfl rfl rfl rfl (Nat.le_of_ble_eq_true rfl) (Nat.le_of_ble_eq_true rfl) (Nat.le_of_ble_eq_true rfl) (Nat.le_of_ble_eq_true rfl) (c_icmp (x := (z (25 + 8 * l + c))) (y := (z (25 + 8 * o + c))) (by have := hS.tk.bd (217 + 16 * (8 * l + c) + k); have := hS.tk.bd (217 + 16 * (8 * o + c) + k); omega) (by have := hS.tk.bd (217 + 16 * (8 * l + c) + k); have := hS.tk.bd (217 + 16 * (8 * o + c) + k); omega)) ?_
        have eR : R = k := by rw [hn1]; simp only [sCk]; rw [if_neg (by omega)]
        rw [eR]
        exact zx_i (pc := 81) rfl rfl (by unfold cCq; rw [if_neg (by omega)]) rfl
      · refine zn_aload_n (pc := 39) rfl rfl ?_
        refine zn_iload_n (pc := 40) rfl rfl ?_
        refine zn_iload_n (pc := 41) rfl rfl ?_
        refine zn_iload (pc := 42) rfl rfl ?_
        refine zn_callVx (pc := 44) (J := zX9_signAt) (o := 1) (as := [.int (nI l), .int (nI c), .int (nI k)]) (rest := []) rfl rfl rfl rfl hS.t rfl rfl rfl (Nat.le_of_ble_eq_true rfl) (Nat.le_of_ble_eq_true rfl) (Nat.le_of_ble_eq_true rfl) (Nat.le_of_ble_eq_true rfl) (q_signAt hS (l := l) (c := c) (q := k) (by omega) (by omega) (by omega)) ?_
        refine zn_aload_n (pc := 47) rfl rfl ?_
        refine zn_iload_n (pc := 48) rfl rfl ?_
        refine zn_iload_n (pc := 49) rfl rfl ?_
        refine zn_iload (pc := 50) rfl rfl ?_
        refine zn_callVx (pc := 52) (J := zX9_signAt) (o := 1) (as := [.int (nI o), .int (nI c), .int (nI k)]) (rest := [.int (nI (z (217 + 16 * (8 * l + c) + k)))]) rfl rfl rfl rfl hS.t rfl rfl rfl (Nat.le_of_ble_eq_true rfl) (Nat.le_of_ble_eq_true rfl) (Nat.le_of_ble_eq_true rfl) (Nat.le_of_ble_eq_true rfl) (q_signAt hS (l := o) (c := c) (q := k) (by omega) (by omega) (by omega)) ?_
        refine zn_callSx (pc := 55) (J := zJ6_compare_7cf53) (as := [.int (nI (z (217 + 16 * (8 * l + c) + k))), .int (nI (z (217 + 16 * (8 * o + c) + k)))]) (rest := []) rfl (by decide) rfl rfl rfl rfl (Nat.le_of_ble_eq_true rfl) (Nat.le_of_ble_eq_true rfl) (Nat.le_of_ble_eq_true rfl) (Nat.le_of_ble_eq_true rfl) (c_icmp (x := (z (217 + 16 * (8 * l + c) + k))) (y := (z (217 + 16 * (8 * o + c) + k))) (by have := hS.tk.bd (217 + 16 * (8 * l + c) + k); have := hS.tk.bd (217 + 16 * (8 * o + c) + k); omega) (by have := hS.tk.bd (217 + 16 * (8 * l + c) + k); have := hS.tk.bd (217 + 16 * (8 * o + c) + k); omega)) ?_
        refine zn_istore (pc := 58) (L' := [some (.ref 1), some (.int (nI l)), some (.int (nI o)), some (.int (nI c)), some (.int (nI (z (25 + 8 * l + c)))), some (.int (nI (z (25 + 8 * o + c)))), some (.int (nI k)), some (.int (if (z (217 + 16 * (8 * l + c) + k)) < (z (217 + 16 * (8 * o + c) + k)) then -1 else if (z (217 + 16 * (8 * l + c) + k)) = (z (217 + 16 * (8 * o + c) + k)) then 0 else 1))]) rfl (by decide) rfl ?_
        refine zn_iload (pc := 60) rfl rfl ?_
        refine zn_if_eq (pc := 62) (tgt := 68) (x := (if (z (217 + 16 * (8 * l + c) + k)) < (z (217 + 16 * (8 * o + c) + k)) then -1 else if (z (217 + 16 * (8 * l + c) + k)) = (z (217 + 16 * (8 * o + c) + k)) then 0 else 1)) rfl rfl (fun c3 => ?_) (fun c3 => ?_)
        · have e9 : mf z l c k = mf z o c k := icmp_0 c3
          refine zn_iincN (pc := 68) (L' := [some (.ref 1), some (.int (nI l)), some (.int (nI o)), some (.int (nI c)), some (.int (nI (z (25 + 8 * l + c)))), some (.int (nI (z (25 + 8 * o + c)))), some (.int (nI (k + 1))), some (.int (if (z (217 + 16 * (8 * l + c) + k)) < (z (217 + 16 * (8 * o + c) + k)) then -1 else if (z (217 + 16 * (8 * l + c) + k)) = (z (217 + 16 * (8 * o + c) + k)) then 0 else 1))]) 1 rfl rfl rfl (by decide) rfl ?_
          refine zn_goto (pc := 71) (tgt := 25) rfl rfl ?_
          exact zn_sub (L' := [some (.ref 1), some (.int (nI l)), some (.int (nI o)), some (.int (nI c)), some (.int (nI (z (25 + 8 * l + c)))), some (.int (nI (z (25 + 8 * o + c)))), some (.int (nI (k + 1))), none]) ⟨rfl, rfl, rfl, rfl, rfl, rfl, rfl, trivial⟩ (ih (k + 1) R (by omega) (by rw [hn1]; simp only [sCk]; rw [if_pos ⟨by omega, by omega, e9⟩]))
        · have e9 : ¬ mf z l c k = mf z o c k := fun q9 => c3 (by show (if mf z l c k < mf z o c k then (-1 : Int32) else if mf z l c k = mf z o c k then 0 else 1) = 0; rw [q9]; simp)
          refine zn_iload (pc := 65) rfl rfl ?_
          have eR : R = k := by rw [hn1]; simp only [sCk]; rw [if_neg (by intro q9; exact absurd q9.2.2 e9)]
          rw [eR]
          exact zx_i (pc := 67) rfl rfl (by unfold cCq; rw [if_pos ⟨by omega, by omega⟩]) rfl
theorem q_cw  {pf : Nat → Option Nat} {now p sz : Nat} {Z : Nat → Nat} (hS : ST hh F z A pf now p Z sz) {l o c : Nat} (hl : l < z 0) (ho : o < z 0) (hc : c < z (1 + l)) (hco : c < z (1 + o)) : Zx g zX9_compareWords [.ref 1, .int (nI l), .int (nI o), .int (nI c)] (hh) (some (.int (cCmp (mf z l c) (mf z o c) (z (25 + 8 * l + c)) (z (25 + 8 * o + c))))) (hh) := by
  have h24 := hS.tk.ok.2.1
  have h01 := hS.tk.ok.1
  have h120 := hS.im
  have hnb := hS.nb
  have hszz := hS.s3
  have hur := hS.ur
  have hnw := hS.nw
  have h8 := (hS.tk.gl hl).2.1
  have h8o := (hS.tk.gl ho).2.1
  have h16 := hS.tk.ok.2.2.2 l c hl hc
  have h16o := hS.tk.ok.2.2.2 o c ho hco
  show Zn g zX9_compareWords 0 [some (.ref 1), some (.int (nI l)), some (.int (nI o)), some (.int (nI c)), none, none, none, none] [] (hh) 0 0 _
  refine zn_aload_n (pc := 0) rfl rfl ?_
  refine zn_callVx (pc := 1) (J := zX9_cells) (o := 1) (as := []) (rest := []) rfl rfl rfl rfl hS.t rfl rfl rfl (Nat.le_of_ble_eq_true rfl) (Nat.le_of_ble_eq_true rfl) (Nat.le_of_ble_eq_true rfl) (Nat.le_of_ble_eq_true rfl) (q_cells hS) ?_
  refine zn_iload_n (pc := 4) rfl rfl ?_
  refine zn_iload_n (pc := 5) rfl rfl ?_
  refine zn_callVx (pc := 6) (J := zX1_length) (o := 11) (as := [.int (nI l), .int (nI c)]) (rest := []) rfl rfl rfl rfl hS.o11 rfl rfl rfl (Nat.le_of_ble_eq_true rfl) (Nat.le_of_ble_eq_true rfl) (Nat.le_of_ble_eq_true rfl) (Nat.le_of_ble_eq_true rfl) (c_length_10 hS.L.ok hS.L.c (l := l) (c := c) (by omega) (by omega)) ?_
  refine zn_istore (pc := 9) (L' := [some (.ref 1), some (.int (nI l)), some (.int (nI o)), some (.int (nI c)), some (.int (nI (z (25 + 8 * l + c)))), none, none, none]) rfl (by decide) rfl ?_
  refine zn_aload_n (pc := 11) rfl rfl ?_
  refine zn_callVx (pc := 12) (J := zX9_cells) (o := 1) (as := []) (rest := []) rfl rfl rfl rfl hS.t rfl rfl rfl (Nat.le_of_ble_eq_true rfl) (Nat.le_of_ble_eq_true rfl) (Nat.le_of_ble_eq_true rfl) (Nat.le_of_ble_eq_true rfl) (q_cells hS) ?_
  refine zn_iload_n (pc := 15) rfl rfl ?_
  refine zn_iload_n (pc := 16) rfl rfl ?_
  refine zn_callVx (pc := 17) (J := zX1_length) (o := 11) (as := [.int (nI o), .int (nI c)]) (rest := []) rfl rfl rfl rfl hS.o11 rfl rfl rfl (Nat.le_of_ble_eq_true rfl) (Nat.le_of_ble_eq_true rfl) (Nat.le_of_ble_eq_true rfl) (Nat.le_of_ble_eq_true rfl) (c_length_10 hS.L.ok hS.L.c (l := o) (c := c) (by omega) (by omega)) ?_
  refine zn_istore (pc := 20) (L' := [some (.ref 1), some (.int (nI l)), some (.int (nI o)), some (.int (nI c)), some (.int (nI (z (25 + 8 * l + c)))), some (.int (nI (z (25 + 8 * o + c)))), none, none]) rfl (by decide) rfl ?_
  refine zn_iconstN (pc := 22) 0 rfl rfl ?_
  refine zn_istore (pc := 23) (L' := [some (.ref 1), some (.int (nI l)), some (.int (nI o)), some (.int (nI c)), some (.int (nI (z (25 + 8 * l + c)))), some (.int (nI (z (25 + 8 * o + c)))), some (.int (nI 0)), none]) rfl (by decide) rfl ?_
  exact q_cw_l hS hl ho hc hco (z (25 + 8 * l + c)) 0 _ (by omega) rfl
def cVl (z : Nat → Nat) (c l : Nat) : Int64 := if mK z c l = 1 then sVal (mf z l c) (mN z c l) else 0
def cCm (z : Nat → Nat) (c l o : Nat) : Int32 := if mK z c l = 1 then (if ¬ 0 ≤ lg_cmp (cVl z c l) (cVl z c o) then -1 else if lg_cmp (cVl z c l) (cVl z c o) = 0 then 0 else 1) else if mK z c l = 2 then cCmp (mf z l c) (mf z o c) (z (25 + 8 * l + c)) (z (25 + 8 * o + c)) else 0
abbrev cBf (z : Nat → Nat) (c d l o : Nat) : Prop := (mK z c l ≠ mK z c o ∧ sRank (mK z c l) < sRank (mK z c o)) ∨ (mK z c l = mK z c o ∧ ((d ≠ 0 ∧ ¬ cCm z c l o ≤ 0) ∨ (d = 0 ∧ ¬ 0 ≤ cCm z c l o)))
theorem q_cb  {pf : Nat → Option Nat} {now p sz : Nat} {Z : Nat → Nat} (hS : ST hh F z A pf now p Z sz) {l o c : Nat} (hl : l < z 0) (ho : o < z 0) (hc : c < z (1 + l)) (hco : c < z (1 + o)) {d : Nat} (hd : d ≤ 1) : Zx g zX9_comesBefore [.ref 1, .int (nI l), .int (nI o), .int (nI c), .int (nI d)] (hh) (some (.int (zb (cBf z c d l o)))) (hh) := by
  have h24 := hS.tk.ok.2.1
  have h01 := hS.tk.ok.1
  have h120 := hS.im
  have hnb := hS.nb
  have hszz := hS.s3
  have hur := hS.ur
  have hnw := hS.nw
  have h8 := (hS.tk.gl hl).2.1
  have h8o := (hS.tk.gl ho).2.1
  have h16 := hS.tk.ok.2.2.2 l c hl hc
  have h16o := hS.tk.ok.2.2.2 o c ho hco
  have k2 : mK z c l ≤ 2 := skind_le _ _
  have k3 : mK z c o ≤ 2 := skind_le _ _
  have r2 := sRank_le (mK z c l)
  have r3 := sRank_le (mK z c o)
  show Zn g zX9_comesBefore 0 [some (.ref 1), some (.int (nI l)), some (.int (nI o)), some (.int (nI c)), some (.int (nI d)), none, none, none] [] (hh) 0 0 _
  refine zn_aload_n (pc := 0) rfl rfl ?_
  refine zn_callVx (pc := 1) (J := zX9_cells) (o := 1) (as := []) (rest := []) rfl rfl rfl rfl hS.t rfl rfl rfl (Nat.le_of_ble_eq_true rfl) (Nat.le_of_ble_eq_true rfl) (Nat.le_of_ble_eq_true rfl) (Nat.le_of_ble_eq_true rfl) (q_cells hS) ?_
  refine zn_iload_n (pc := 4) rfl rfl ?_
  refine zn_iload_n (pc := 5) rfl rfl ?_
  refine zn_callVx (pc := 6) (J := zX1_kind) (o := 11) (as := [.int (nI l), .int (nI c)]) (rest := []) rfl rfl rfl rfl hS.o11 rfl rfl rfl (Nat.le_of_ble_eq_true rfl) (Nat.le_of_ble_eq_true rfl) (Nat.le_of_ble_eq_true rfl) (Nat.le_of_ble_eq_true rfl) (c_kind_10 hS.L.ok hS.L.c (l := l) (c := c) (by omega) (by omega)) ?_
  refine zn_istore (pc := 9) (L' := [some (.ref 1), some (.int (nI l)), some (.int (nI o)), some (.int (nI c)), some (.int (nI d)), some (.int (nI (mK z c l))), none, none]) rfl (by decide) rfl ?_
  refine zn_aload_n (pc := 11) rfl rfl ?_
  refine zn_callVx (pc := 12) (J := zX9_cells) (o := 1) (as := []) (rest := []) rfl rfl rfl rfl hS.t rfl rfl rfl (Nat.le_of_ble_eq_true rfl) (Nat.le_of_ble_eq_true rfl) (Nat.le_of_ble_eq_true rfl) (Nat.le_of_ble_eq_true rfl) (q_cells hS) ?_
  refine zn_iload_n (pc := 15) rfl rfl ?_
  refine zn_iload_n (pc := 16) rfl rfl ?_
  refine zn_callVx (pc := 17) (J := zX1_kind) (o := 11) (as := [.int (nI o), .int (nI c)]) (rest := []) rfl rfl rfl rfl hS.o11 rfl rfl rfl (Nat.le_of_ble_eq_true rfl) (Nat.le_of_ble_eq_true rfl) (Nat.le_of_ble_eq_true rfl) (Nat.le_of_ble_eq_true rfl) (c_kind_10 hS.L.ok hS.L.c (l := o) (c := c) (by omega) (by omega)) ?_
  refine zn_istore (pc := 20) (L' := [some (.ref 1), some (.int (nI l)), some (.int (nI o)), some (.int (nI c)), some (.int (nI d)), some (.int (nI (mK z c l))), some (.int (nI (mK z c o))), none]) rfl (by decide) rfl ?_
  refine zn_iload (pc := 22) rfl rfl ?_
  refine zn_iload (pc := 24) rfl rfl ?_
  refine zn_icmp_eqN (pc := 26) (tgt := 48) (x := (mK z c l)) (y := (mK z c o)) rfl rfl (by omega) (by omega) (fun c1 => ?_) (fun c1 => ?_)
  · refine zn_iconstN (pc := 48) 0 rfl rfl ?_
    refine zn_istore (pc := 49) (L' := [some (.ref 1), some (.int (nI l)), some (.int (nI o)), some (.int (nI c)), some (.int (nI d)), some (.int (nI (mK z c l))), some (.int (nI (mK z c o))), some (.int (nI 0))]) rfl (by decide) rfl ?_
    refine zn_iload (pc := 51) rfl rfl ?_
    refine zn_iconstN (pc := 53) 1 rfl rfl ?_
    refine zn_icmp_neN (pc := 54) (tgt := 83) (x := (mK z c l)) (y := 1) rfl rfl (by omega) (by omega) (fun c2 => ?_) (fun c2 => ?_)
    · have n1 := c2
      refine zn_iload (pc := 83) rfl rfl ?_
      refine zn_iconstN (pc := 85) 2 rfl rfl ?_
      refine zn_icmp_neN (pc := 86) (tgt := 98) (x := (mK z c l)) (y := 2) rfl rfl (by omega) (by omega) (fun c3 => ?_) (fun c3 => ?_)
      · have eC : cCm z c l o = 0 := by unfold cCm; rw [if_neg n1, if_neg c3]
        refine zn_iload (pc := 98) rfl rfl ?_
        refine zn_if_eqN (pc := 100) (tgt := 116) (x := d) rfl rfl (by omega) (fun c4 => ?_) (fun c4 => ?_)
        · refine zn_iload (pc := 116) rfl rfl ?_
          refine zn_if_geN (pc := 118) (tgt := 125) (x := 0) rfl rfl (by omega) ?_
          refine zn_iconstN (pc := 125) 0 rfl rfl ?_
          exact zx_z (pc := 126) rfl rfl (by decide) (by rw [zb_f (by rintro (⟨q1, q2⟩ | ⟨q1, ⟨q2, q3⟩ | ⟨q2, q3⟩⟩) <;> first | exact absurd q1 (by omega) | exact absurd q2 (by omega) | exact q3 (by rw [eC]; first | assumption | decide))]; rfl) rfl
        · refine zn_iload (pc := 103) rfl rfl ?_
          refine zn_if_leN (pc := 105) (tgt := 112) (x := 0) rfl rfl (by omega) (fun c6 => ?_) (fun c6 => ?_)
          · refine zn_iconstN (pc := 112) 0 rfl rfl ?_
            refine zn_goto (pc := 113) (tgt := 126) rfl rfl ?_
            exact zx_z (pc := 126) rfl rfl (by decide) (by rw [zb_f (by rintro (⟨q1, q2⟩ | ⟨q1, ⟨q2, q3⟩ | ⟨q2, q3⟩⟩) <;> first | exact absurd q1 (by omega) | exact absurd q2 (by omega) | exact q3 (by rw [eC]; first | assumption | decide))]; rfl) rfl
          · exact absurd c6 (by omega)
      · have eC : cCm z c l o = cCmp (mf z l c) (mf z o c) (z (25 + 8 * l + c)) (z (25 + 8 * o + c)) := by unfold cCm; rw [if_neg n1, if_pos c3]
        refine zn_aload_n (pc := 89) rfl rfl ?_
        refine zn_iload_n (pc := 90) rfl rfl ?_
        refine zn_iload_n (pc := 91) rfl rfl ?_
        refine zn_iload_n (pc := 92) rfl rfl ?_
        refine zn_callVx (pc := 93) (J := zX9_compareWords) (o := 1) (as := [.int (nI l), .int (nI o), .int (nI c)]) (rest := []) rfl rfl rfl rfl hS.t rfl rfl rfl (Nat.le_of_ble_eq_true rfl) (Nat.le_of_ble_eq_true rfl) (Nat.le_of_ble_eq_true rfl) (Nat.le_of_ble_eq_true rfl) (q_cw hS (l := l) (o := o) (c := c) (by omega) (by omega) (by omega) (by omega)) ?_
        refine zn_istore (pc := 96) (L' := [some (.ref 1), some (.int (nI l)), some (.int (nI o)), some (.int (nI c)), some (.int (nI d)), some (.int (nI (mK z c l))), some (.int (nI (mK z c o))), some (.int (cCmp (mf z l c) (mf z o c) (z (25 + 8 * l + c)) (z (25 + 8 * o + c))))]) rfl (by decide) rfl ?_
        refine zn_iload (pc := 98) rfl rfl ?_
        refine zn_if_eqN (pc := 100) (tgt := 116) (x := d) rfl rfl (by omega) (fun c7 => ?_) (fun c7 => ?_)
        · refine zn_iload (pc := 116) rfl rfl ?_
          refine zn_if_ge (pc := 118) (tgt := 125) (x := (cCmp (mf z l c) (mf z o c) (z (25 + 8 * l + c)) (z (25 + 8 * o + c)))) rfl rfl (fun c8 => ?_) (fun c8 => ?_)
          · refine zn_iconstN (pc := 125) 0 rfl rfl ?_
            exact zx_z (pc := 126) rfl rfl (by decide) (by rw [zb_f (by rintro (⟨q1, q2⟩ | ⟨q1, ⟨q2, q3⟩ | ⟨q2, q3⟩⟩) <;> first | exact absurd q1 (by omega) | exact absurd q2 (by omega) | exact q3 (by rw [eC]; first | assumption | decide))]; rfl) rfl
          · refine zn_iconstN (pc := 121) 1 rfl rfl ?_
            refine zn_goto (pc := 122) (tgt := 126) rfl rfl ?_
            exact zx_z (pc := 126) rfl rfl (by decide) (by rw [zb_t (Or.inr ⟨by assumption, by first | exact Or.inl ⟨by assumption, by rw [eC]; assumption⟩ | exact Or.inr ⟨by assumption, by rw [eC]; assumption⟩⟩)]; rfl) rfl
        · refine zn_iload (pc := 103) rfl rfl ?_
          refine zn_if_le (pc := 105) (tgt := 112) (x := (cCmp (mf z l c) (mf z o c) (z (25 + 8 * l + c)) (z (25 + 8 * o + c)))) rfl rfl (fun c9 => ?_) (fun c9 => ?_)
          · refine zn_iconstN (pc := 112) 0 rfl rfl ?_
            refine zn_goto (pc := 113) (tgt := 126) rfl rfl ?_
            exact zx_z (pc := 126) rfl rfl (by decide) (by rw [zb_f (by rintro (⟨q1, q2⟩ | ⟨q1, ⟨q2, q3⟩ | ⟨q2, q3⟩⟩) <;> first | exact absurd q1 (by omega) | exact absurd q2 (by omega) | exact q3 (by rw [eC]; first | assumption | decide))]; rfl) rfl
          · refine zn_iconstN (pc := 108) 1 rfl rfl ?_
            refine zn_goto (pc := 109) (tgt := 126) rfl rfl ?_
            exact zx_z (pc := 126) rfl rfl (by decide) (by rw [zb_t (Or.inr ⟨by assumption, by first | exact Or.inl ⟨by assumption, by rw [eC]; assumption⟩ | exact Or.inr ⟨by assumption, by rw [eC]; assumption⟩⟩)]; rfl) rfl
    · have eC : cCm z c l o = (if ¬ 0 ≤ lg_cmp (cVl z c l) (cVl z c o) then -1 else if lg_cmp (cVl z c l) (cVl z c o) = 0 then 0 else 1) := by unfold cCm; rw [if_pos c2]
      refine zn_aload_n (pc := 57) rfl rfl ?_
      refine zn_callVx (pc := 58) (J := zX9_cells) (o := 1) (as := []) (rest := []) rfl rfl rfl rfl hS.t rfl rfl rfl (Nat.le_of_ble_eq_true rfl) (Nat.le_of_ble_eq_true rfl) (Nat.le_of_ble_eq_true rfl) (Nat.le_of_ble_eq_true rfl) (q_cells hS) ?_
      refine zn_iload_n (pc := 61) rfl rfl ?_
      refine zn_iload_n (pc := 62) rfl rfl ?_
      refine zn_callVx (pc := 63) (J := zX1_value) (o := 11) (as := [.int (nI l), .int (nI c)]) (rest := []) rfl rfl rfl rfl hS.o11 rfl rfl rfl (Nat.le_of_ble_eq_true rfl) (Nat.le_of_ble_eq_true rfl) (Nat.le_of_ble_eq_true rfl) (Nat.le_of_ble_eq_true rfl) (c_value_10 hS.L.ok hS.L.c (l := l) (c := c) (by omega) (by omega)) ?_
      refine zn_top (v' := .long (cVl z c l)) rfl ?_
      refine zn_aload_n (pc := 66) rfl rfl ?_
      refine zn_callVx (pc := 67) (J := zX9_cells) (o := 1) (as := []) (rest := [.long (cVl z c l)]) rfl rfl rfl rfl hS.t rfl rfl rfl (Nat.le_of_ble_eq_true rfl) (Nat.le_of_ble_eq_true rfl) (Nat.le_of_ble_eq_true rfl) (Nat.le_of_ble_eq_true rfl) (q_cells hS) ?_
      refine zn_iload_n (pc := 70) rfl rfl ?_
      refine zn_iload_n (pc := 71) rfl rfl ?_
      refine zn_callVx (pc := 72) (J := zX1_value) (o := 11) (as := [.int (nI o), .int (nI c)]) (rest := [.long (cVl z c l)]) rfl rfl rfl rfl hS.o11 rfl rfl rfl (Nat.le_of_ble_eq_true rfl) (Nat.le_of_ble_eq_true rfl) (Nat.le_of_ble_eq_true rfl) (Nat.le_of_ble_eq_true rfl) (c_value_10 hS.L.ok hS.L.c (l := o) (c := c) (by omega) (by omega)) ?_
      refine zn_top (v' := .long (cVl z c o)) rfl ?_
      refine zn_callSx (pc := 75) (J := zJ13_compare_74951) (as := [.long (cVl z c l), .long (cVl z c o)]) (rest := []) rfl (by decide) rfl rfl rfl rfl (Nat.le_of_ble_eq_true rfl) (Nat.le_of_ble_eq_true rfl) (Nat.le_of_ble_eq_true rfl) (Nat.le_of_ble_eq_true rfl) (c_lcmp (x := (cVl z c l)) (y := (cVl z c o))) ?_
      refine zn_istore (pc := 78) (L' := [some (.ref 1), some (.int (nI l)), some (.int (nI o)), some (.int (nI c)), some (.int (nI d)), some (.int (nI (mK z c l))), some (.int (nI (mK z c o))), some (.int (if ¬ 0 ≤ lg_cmp (cVl z c l) (cVl z c o) then -1 else if lg_cmp (cVl z c l) (cVl z c o) = 0 then 0 else 1))]) rfl (by decide) rfl ?_
      refine zn_goto (pc := 80) (tgt := 98) rfl rfl ?_
      refine zn_iload (pc := 98) rfl rfl ?_
      refine zn_if_eqN (pc := 100) (tgt := 116) (x := d) rfl rfl (by omega) (fun c10 => ?_) (fun c10 => ?_)
      · refine zn_iload (pc := 116) rfl rfl ?_
        refine zn_if_ge (pc := 118) (tgt := 125) (x := (if ¬ 0 ≤ lg_cmp (cVl z c l) (cVl z c o) then -1 else if lg_cmp (cVl z c l) (cVl z c o) = 0 then 0 else 1)) rfl rfl (fun c11 => ?_) (fun c11 => ?_)
        · refine zn_iconstN (pc := 125) 0 rfl rfl ?_
          exact zx_z (pc := 126) rfl rfl (by decide) (by rw [zb_f (by rintro (⟨q1, q2⟩ | ⟨q1, ⟨q2, q3⟩ | ⟨q2, q3⟩⟩) <;> first | exact absurd q1 (by omega) | exact absurd q2 (by omega) | exact q3 (by rw [eC]; first | assumption | decide))]; rfl) rfl
        · refine zn_iconstN (pc := 121) 1 rfl rfl ?_
          refine zn_goto (pc := 122) (tgt := 126) rfl rfl ?_
          exact zx_z (pc := 126) rfl rfl (by decide) (by rw [zb_t (Or.inr ⟨by assumption, by first | exact Or.inl ⟨by assumption, by rw [eC]; assumption⟩ | exact Or.inr ⟨by assumption, by rw [eC]; assumption⟩⟩)]; rfl) rfl
      · refine zn_iload (pc := 103) rfl rfl ?_
        refine zn_if_le (pc := 105) (tgt := 112) (x := (if ¬ 0 ≤ lg_cmp (cVl z c l) (cVl z c o) then -1 else if lg_cmp (cVl z c l) (cVl z c o) = 0 then 0 else 1)) rfl rfl (fun c12 => ?_) (fun c12 => ?_)
        · refine zn_iconstN (pc := 112) 0 rfl rfl ?_
          refine zn_goto (pc := 113) (tgt := 126) rfl rfl ?_
          exact zx_z (pc := 126) rfl rfl (by decide) (by rw [zb_f (by rintro (⟨q1, q2⟩ | ⟨q1, ⟨q2, q3⟩ | ⟨q2, q3⟩⟩) <;> first | exact absurd q1 (by omega) | exact absurd q2 (by omega) | exact q3 (by rw [eC]; first | assumption | decide))]; rfl) rfl
        · refine zn_iconstN (pc := 108) 1 rfl rfl ?_
          refine zn_goto (pc := 109) (tgt := 126) rfl rfl ?_
          exact zx_z (pc := 126) rfl rfl (by decide) (by rw [zb_t (Or.inr ⟨by assumption, by first | exact Or.inl ⟨by assumption, by rw [eC]; assumption⟩ | exact Or.inr ⟨by assumption, by rw [eC]; assumption⟩⟩)]; rfl) rfl
  · refine zn_iload (pc := 29) rfl rfl ?_
    refine zn_callSx (pc := 31) (J := zX9_sortRank) (as := [.int (nI (mK z c l))]) (rest := []) rfl (by decide) rfl rfl rfl rfl (Nat.le_of_ble_eq_true rfl) (Nat.le_of_ble_eq_true rfl) (Nat.le_of_ble_eq_true rfl) (Nat.le_of_ble_eq_true rfl) (c_sortRank (k := (mK z c l)) (by omega)) ?_
    refine zn_iload (pc := 34) rfl rfl ?_
    refine zn_callSx (pc := 36) (J := zX9_sortRank) (as := [.int (nI (mK z c o))]) (rest := [.int (nI (sRank (mK z c l)))]) rfl (by decide) rfl rfl rfl rfl (Nat.le_of_ble_eq_true rfl) (Nat.le_of_ble_eq_true rfl) (Nat.le_of_ble_eq_true rfl) (Nat.le_of_ble_eq_true rfl) (c_sortRank (k := (mK z c o)) (by omega)) ?_
    refine zn_icmp_geN (pc := 39) (tgt := 46) (x := (sRank (mK z c l))) (y := (sRank (mK z c o))) rfl rfl (by omega) (by omega) (fun c13 => ?_) (fun c13 => ?_)
    · refine zn_iconstN (pc := 46) 0 rfl rfl ?_
      exact zx_z (pc := 47) rfl rfl (by decide) (by rw [zb_f (by rintro (⟨q1, q2⟩ | ⟨q1, q2⟩) <;> first | omega | exact absurd q1 (by assumption))]; rfl) rfl
    · refine zn_iconstN (pc := 42) 1 rfl rfl ?_
      refine zn_goto (pc := 43) (tgt := 47) rfl rfl ?_
      exact zx_z (pc := 47) rfl rfl (by decide) (by rw [zb_t (Or.inl ⟨by assumption, by omega⟩)]; rfl) rfl
abbrev FF (F z : Nat → Nat) : Nat → Nat := va_up F 13 (nbb z)
theorem FF_13 : FF F z 13 = nbb z := va_upS _ _ _
theorem FF_n {k : Nat} (hk : k ≠ 13) : FF F z k = F k := va_upN hk
theorem q_cf_0  {pf : Nat → Option Nat} {now p sz : Nat} {Z : Nat → Nat} (hS : ST hh F z A pf now p Z sz) : Zx g zX9_countFact [.ref 1, .int (nI 0)] (hh) (some (.int (nI (mCn (FF F z) (pRR F z A) z 0)))) (hh) := by
  show Zn g zX9_countFact 0 [some (.ref 1), some (.int (nI 0))] [] (hh) 0 0 _
  refine zn_iload_n (pc := 0) rfl rfl ?_
  refine zn_tabIn (pc := 1) (x := nI 0) (off := 47) (tgt := 48) rfl (by decide +kernel) (by decide +kernel) (by rw [show (nI 0).toInt = 0 by decide +kernel]; rfl) rfl ?_
  refine zn_aload_n (pc := 48) rfl rfl ?_
  refine zn_callVx (pc := 49) (J := zX9_cells) (o := 1) (as := []) (rest := []) rfl rfl rfl rfl hS.t rfl rfl rfl (Nat.le_of_ble_eq_true rfl) (Nat.le_of_ble_eq_true rfl) (Nat.le_of_ble_eq_true rfl) (Nat.le_of_ble_eq_true rfl) (q_cells hS) ?_
  refine zn_callVx (pc := 52) (J := zX1_lines) (o := 11) (as := []) (rest := []) rfl rfl rfl rfl hS.o11 rfl rfl rfl (Nat.le_of_ble_eq_true rfl) (Nat.le_of_ble_eq_true rfl) (Nat.le_of_ble_eq_true rfl) (Nat.le_of_ble_eq_true rfl) (c_linesK_10 hS.L.c) ?_
  exact zx_i (pc := 55) rfl rfl rfl rfl
theorem q_cf_1  {pf : Nat → Option Nat} {now p sz : Nat} {Z : Nat → Nat} (hS : ST hh F z A pf now p Z sz) : Zx g zX9_countFact [.ref 1, .int (nI 1)] (hh) (some (.int (nI (mCn (FF F z) (pRR F z A) z 1)))) (hh) := by
  show Zn g zX9_countFact 0 [some (.ref 1), some (.int (nI 1))] [] (hh) 0 0 _
  refine zn_iload_n (pc := 0) rfl rfl ?_
  refine zn_tabIn (pc := 1) (x := nI 1) (off := 55) (tgt := 56) rfl (by decide +kernel) (by decide +kernel) (by rw [show (nI 1).toInt = 1 by decide +kernel]; rfl) rfl ?_
  refine zn_aload_n (pc := 56) rfl rfl ?_
  refine zn_callVx (pc := 57) (J := zX9_cells) (o := 1) (as := []) (rest := []) rfl rfl rfl rfl hS.t rfl rfl rfl (Nat.le_of_ble_eq_true rfl) (Nat.le_of_ble_eq_true rfl) (Nat.le_of_ble_eq_true rfl) (Nat.le_of_ble_eq_true rfl) (q_cells hS) ?_
  refine zn_callVx (pc := 60) (J := zX1_cellCount) (o := 11) (as := []) (rest := []) rfl rfl rfl rfl hS.o11 rfl rfl rfl (Nat.le_of_ble_eq_true rfl) (Nat.le_of_ble_eq_true rfl) (Nat.le_of_ble_eq_true rfl) (Nat.le_of_ble_eq_true rfl) (c_cellCount hS.L) ?_
  exact zx_i (pc := 63) rfl rfl rfl rfl
theorem q_cf_2  {pf : Nat → Option Nat} {now p sz : Nat} {Z : Nat → Nat} (hS : ST hh F z A pf now p Z sz) : Zx g zX9_countFact [.ref 1, .int (nI 2)] (hh) (some (.int (nI (mCn (FF F z) (pRR F z A) z 2)))) (hh) := by
  show Zn g zX9_countFact 0 [some (.ref 1), some (.int (nI 2))] [] (hh) 0 0 _
  refine zn_iload_n (pc := 0) rfl rfl ?_
  refine zn_tabIn (pc := 1) (x := nI 2) (off := 63) (tgt := 64) rfl (by decide +kernel) (by decide +kernel) (by rw [show (nI 2).toInt = 2 by decide +kernel]; rfl) rfl ?_
  refine zn_aload_n (pc := 64) rfl rfl ?_
  refine zn_callVx (pc := 65) (J := zX9_cells) (o := 1) (as := []) (rest := []) rfl rfl rfl rfl hS.t rfl rfl rfl (Nat.le_of_ble_eq_true rfl) (Nat.le_of_ble_eq_true rfl) (Nat.le_of_ble_eq_true rfl) (Nat.le_of_ble_eq_true rfl) (q_cells hS) ?_
  refine zn_callVx (pc := 68) (J := zX1_signCount) (o := 11) (as := []) (rest := []) rfl rfl rfl rfl hS.o11 rfl rfl rfl (Nat.le_of_ble_eq_true rfl) (Nat.le_of_ble_eq_true rfl) (Nat.le_of_ble_eq_true rfl) (Nat.le_of_ble_eq_true rfl) (c_signCount hS.L) ?_
  exact zx_i (pc := 71) rfl rfl rfl rfl
theorem q_cf_3  {pf : Nat → Option Nat} {now p sz : Nat} {Z : Nat → Nat} (hS : ST hh F z A pf now p Z sz) : Zx g zX9_countFact [.ref 1, .int (nI 3)] (hh) (some (.int (nI (mCn (FF F z) (pRR F z A) z 3)))) (hh) := by
  show Zn g zX9_countFact 0 [some (.ref 1), some (.int (nI 3))] [] (hh) 0 0 _
  refine zn_iload_n (pc := 0) rfl rfl ?_
  refine zn_tabIn (pc := 1) (x := nI 3) (off := 71) (tgt := 72) rfl (by decide +kernel) (by decide +kernel) (by rw [show (nI 3).toInt = 3 by decide +kernel]; rfl) rfl ?_
  refine zn_aload_n (pc := 72) rfl rfl ?_
  refine zn_get (pc := 73) (v := .ref 10) rfl hS.t rfl ?_
  refine zn_get (pc := 76) (v := .ref 18) rfl hS.lo rfl ?_
  refine zn_callVx (pc := 79) (J := zX0_size) (o := 18) (as := []) (rest := []) rfl rfl rfl rfl hS.o18 rfl rfl rfl (Nat.le_of_ble_eq_true rfl) (Nat.le_of_ble_eq_true rfl) (Nat.le_of_ble_eq_true rfl) (Nat.le_of_ble_eq_true rfl) (c_size_10 hS.L.b hS.nb) ?_
  exact zx_i (pc := 82) rfl rfl (by show some (Value.int (nI (FF F z 13))) = _; rw [FF_13]) rfl
theorem q_cf_4  {pf : Nat → Option Nat} {now p sz : Nat} {Z : Nat → Nat} (hS : ST hh F z A pf now p Z sz) : Zx g zX9_countFact [.ref 1, .int (nI 4)] (hh) (some (.int (nI (mCn (FF F z) (pRR F z A) z 4)))) (hh) := by
  show Zn g zX9_countFact 0 [some (.ref 1), some (.int (nI 4))] [] (hh) 0 0 _
  refine zn_iload_n (pc := 0) rfl rfl ?_
  refine zn_tabIn (pc := 1) (x := nI 4) (off := 82) (tgt := 83) rfl (by decide +kernel) (by decide +kernel) (by rw [show (nI 4).toInt = 4 by decide +kernel]; rfl) rfl ?_
  refine zn_aload_n (pc := 83) rfl rfl ?_
  refine zn_callVx (pc := 84) (J := zX9_cells) (o := 1) (as := []) (rest := []) rfl rfl rfl rfl hS.t rfl rfl rfl (Nat.le_of_ble_eq_true rfl) (Nat.le_of_ble_eq_true rfl) (Nat.le_of_ble_eq_true rfl) (Nat.le_of_ble_eq_true rfl) (q_cells hS) ?_
  refine zn_iconstN (pc := 87) 1 rfl rfl ?_
  refine zn_callVx (pc := 88) (J := zX1_countKind) (o := 11) (as := [.int (nI 1)]) (rest := []) rfl rfl rfl rfl hS.o11 rfl rfl rfl (Nat.le_of_ble_eq_true rfl) (Nat.le_of_ble_eq_true rfl) (Nat.le_of_ble_eq_true rfl) (Nat.le_of_ble_eq_true rfl) (c_countKind hS.L (k := 1) (by omega)) ?_
  exact zx_i (pc := 91) rfl rfl rfl rfl
theorem q_cf_5  {pf : Nat → Option Nat} {now p sz : Nat} {Z : Nat → Nat} (hS : ST hh F z A pf now p Z sz) : Zx g zX9_countFact [.ref 1, .int (nI 5)] (hh) (some (.int (nI (mCn (FF F z) (pRR F z A) z 5)))) (hh) := by
  show Zn g zX9_countFact 0 [some (.ref 1), some (.int (nI 5))] [] (hh) 0 0 _
  refine zn_iload_n (pc := 0) rfl rfl ?_
  refine zn_tabIn (pc := 1) (x := nI 5) (off := 91) (tgt := 92) rfl (by decide +kernel) (by decide +kernel) (by rw [show (nI 5).toInt = 5 by decide +kernel]; rfl) rfl ?_
  refine zn_aload_n (pc := 92) rfl rfl ?_
  refine zn_callVx (pc := 93) (J := zX9_cells) (o := 1) (as := []) (rest := []) rfl rfl rfl rfl hS.t rfl rfl rfl (Nat.le_of_ble_eq_true rfl) (Nat.le_of_ble_eq_true rfl) (Nat.le_of_ble_eq_true rfl) (Nat.le_of_ble_eq_true rfl) (q_cells hS) ?_
  refine zn_iconstN (pc := 96) 0 rfl rfl ?_
  refine zn_callVx (pc := 97) (J := zX1_countKind) (o := 11) (as := [.int (nI 0)]) (rest := []) rfl rfl rfl rfl hS.o11 rfl rfl rfl (Nat.le_of_ble_eq_true rfl) (Nat.le_of_ble_eq_true rfl) (Nat.le_of_ble_eq_true rfl) (Nat.le_of_ble_eq_true rfl) (c_countKind hS.L (k := 0) (by omega)) ?_
  exact zx_i (pc := 100) rfl rfl rfl rfl
theorem q_cf_6  {pf : Nat → Option Nat} {now p sz : Nat} {Z : Nat → Nat} (hS : ST hh F z A pf now p Z sz) : Zx g zX9_countFact [.ref 1, .int (nI 6)] (hh) (some (.int (nI (mCn (FF F z) (pRR F z A) z 6)))) (hh) := by
  show Zn g zX9_countFact 0 [some (.ref 1), some (.int (nI 6))] [] (hh) 0 0 _
  refine zn_iload_n (pc := 0) rfl rfl ?_
  refine zn_tabIn (pc := 1) (x := nI 6) (off := 100) (tgt := 101) rfl (by decide +kernel) (by decide +kernel) (by rw [show (nI 6).toInt = 6 by decide +kernel]; rfl) rfl ?_
  refine zn_aload_n (pc := 101) rfl rfl ?_
  refine zn_get (pc := 102) (v := .ref 10) rfl hS.t rfl ?_
  refine zn_callVx (pc := 105) (J := zX5_greatestShownLength) (o := 10) (as := []) (rest := []) rfl rfl rfl rfl hS.lo rfl rfl rfl (Nat.le_of_ble_eq_true rfl) (Nat.le_of_ble_eq_true rfl) (Nat.le_of_ble_eq_true rfl) (Nat.le_of_ble_eq_true rfl) (c_greatest hS.L) ?_
  exact zx_i (pc := 108) rfl rfl (by show some (Value.int (nI (mLo (pRR F z A) z (FF F z 13) (z 0)))) = _; rw [FF_13]) rfl
theorem q_cf_7  {pf : Nat → Option Nat} {now p sz : Nat} {Z : Nat → Nat} (hS : ST hh F z A pf now p Z sz) : Zx g zX9_countFact [.ref 1, .int (nI 7)] (hh) (some (.int (nI (mCn (FF F z) (pRR F z A) z 7)))) (hh) := by
  show Zn g zX9_countFact 0 [some (.ref 1), some (.int (nI 7))] [] (hh) 0 0 _
  refine zn_iload_n (pc := 0) rfl rfl ?_
  refine zn_tabIn (pc := 1) (x := nI 7) (off := 108) (tgt := 109) rfl (by decide +kernel) (by decide +kernel) (by rw [show (nI 7).toInt = 7 by decide +kernel]; rfl) rfl ?_
  refine zn_aload_n (pc := 109) rfl rfl ?_
  refine zn_get (pc := 110) (v := .ref 6) rfl hS.t rfl ?_
  refine zn_callVx (pc := 113) (J := zX3_undos) (o := 6) (as := []) (rest := []) rfl rfl rfl rfl hS.h6 rfl rfl rfl (Nat.le_of_ble_eq_true rfl) (Nat.le_of_ble_eq_true rfl) (Nat.le_of_ble_eq_true rfl) (Nat.le_of_ble_eq_true rfl) (q_undos hS) ?_
  exact zx_i (pc := 116) rfl rfl (by show some (Value.int (nI (FF F z 5))) = _; rw [FF_n (by omega)]) rfl
theorem q_cf_8  {pf : Nat → Option Nat} {now p sz : Nat} {Z : Nat → Nat} (hS : ST hh F z A pf now p Z sz) : Zx g zX9_countFact [.ref 1, .int (nI 8)] (hh) (some (.int (nI (mCn (FF F z) (pRR F z A) z 8)))) (hh) := by
  show Zn g zX9_countFact 0 [some (.ref 1), some (.int (nI 8))] [] (hh) 0 0 _
  refine zn_iload_n (pc := 0) rfl rfl ?_
  refine zn_tabOut (pc := 1) (x := nI 8) (tgt := 117) rfl (by decide +kernel) rfl ?_
  refine zn_aload_n (pc := 117) rfl rfl ?_
  refine zn_get (pc := 118) (v := .ref 6) rfl hS.t rfl ?_
  refine zn_callVx (pc := 121) (J := zX3_redos) (o := 6) (as := []) (rest := []) rfl rfl rfl rfl hS.h6 rfl rfl rfl (Nat.le_of_ble_eq_true rfl) (Nat.le_of_ble_eq_true rfl) (Nat.le_of_ble_eq_true rfl) (Nat.le_of_ble_eq_true rfl) (q_redos hS) ?_
  exact zx_i (pc := 124) rfl rfl (by show some (Value.int (nI (FF F z 6))) = _; rw [FF_n (by omega)]) rfl
theorem q_cf {pf : Nat → Option Nat} {now p sz : Nat} {Z : Nat → Nat} (hS : ST hh F z A pf now p Z sz) {k : Nat} (hk : k ≤ 8) : Zx g zX9_countFact [.ref 1, .int (nI k)] hh (some (.int (nI (mCn (FF F z) (pRR F z A) z k)))) hh := by
  rcases (show k = 0 ∨ k = 1 ∨ k = 2 ∨ k = 3 ∨ k = 4 ∨ k = 5 ∨ k = 6 ∨ k = 7 ∨ k = 8 by omega) with r | r | r | r | r | r | r | r | r <;> subst r
  · exact q_cf_0 hS
  · exact q_cf_1 hS
  · exact q_cf_2 hS
  · exact q_cf_3 hS
  · exact q_cf_4 hS
  · exact q_cf_5 hS
  · exact q_cf_6 hS
  · exact q_cf_7 hS
  · exact q_cf_8 hS
theorem cCl_m {l c k : Nat} : cCl (F 8) (pRR F z A) z (nbb z) l c k = mCl (FF F z) (pRR F z A) z l c k := by
  match k with
  | 0 => rfl
  | 1 => rfl
  | 2 => show _ = nI (mX (pRR F z A) z (FF F z 13) l c); rw [FF_13]; rfl
  | 3 =>
    show mSh (fun _ => F 8) (pRR F z A) z l c (mOf (pRR F z A) z l c (nbb z)) = mSh (FF F z) (pRR F z A) z l c (mOf (pRR F z A) z l c (FF F z 13))
    rw [FF_13]
    cases mOf (pRR F z A) z l c (nbb z) with
    | none => rfl
    | some b => unfold mSh; rw [FF_n (show 8 ≠ 13 by omega)]
  | k + 4 => show _ = oI (mOf (pRR F z A) z l c (FF F z 13)); rw [FF_13]; rfl
theorem q_ml_s {pf : Nat → Option Nat} {now p sz : Nat} {Z : Nat → Nat} (hS : ST hh F z A pf now p Z sz) {l c : Nat} (hl : l < z 0) (hc : c < z (1 + l)) {s s9 : Int64} {Q : zR → zH → Prop} (K : Zn g zX9_mixLine 132 [some (.ref 1), some (.long s9), none, some (.int (nI l)), some (.long (hF (fun k => lI (z (217 + 16 * (8 * l + c) + k))) (z (25 + 8 * l + c)) s)), none, some (.int (nI c)), none] [] hh 0 0 Q) : ∀ (n : Nat) (k : Nat), k + n = z (25 + 8 * l + c) → Zn g zX9_mixLine 94 [some (.ref 1), some (.long s9), none, some (.int (nI l)), some (.long (hF (fun k => lI (z (217 + 16 * (8 * l + c) + k))) k s)), none, some (.int (nI c)), some (.int (nI k))] [] (hh) 0 0 Q := by
  intro n
  induction n with
  | zero =>
    intro k hn0
    have h24 := hS.tk.ok.2.1
    have h01 := hS.tk.ok.1
    have h120 := hS.im
    have hnb := hS.nb
    have hszz := hS.s3
    have hur := hS.ur
    have hnw := hS.nw
    have h8 := (hS.tk.gl hl).2.1
    have h16 := hS.tk.ok.2.2.2 l c hl hc
    refine zn_iload (pc := 94) rfl rfl ?_
    refine zn_aload_n (pc := 96) rfl rfl ?_
    refine zn_callVx (pc := 97) (J := zX9_cells) (o := 1) (as := []) (rest := [.int (nI k)]) rfl rfl rfl rfl hS.t rfl rfl rfl (Nat.le_of_ble_eq_true rfl) (Nat.le_of_ble_eq_true rfl) (Nat.le_of_ble_eq_true rfl) (Nat.le_of_ble_eq_true rfl) (q_cells hS) ?_
    refine zn_iload_n (pc := 100) rfl rfl ?_
    refine zn_iload (pc := 101) rfl rfl ?_
    refine zn_callVx (pc := 103) (J := zX1_length) (o := 11) (as := [.int (nI l), .int (nI c)]) (rest := [.int (nI k)]) rfl rfl rfl rfl hS.o11 rfl rfl rfl (Nat.le_of_ble_eq_true rfl) (Nat.le_of_ble_eq_true rfl) (Nat.le_of_ble_eq_true rfl) (Nat.le_of_ble_eq_true rfl) (c_length_10 hS.L.ok hS.L.c (l := l) (c := c) (by omega) (by omega)) ?_
    refine zn_icmp_geN (pc := 106) (tgt := 132) (x := k) (y := (z (25 + 8 * l + c))) rfl rfl (by omega) (by omega) (fun c1 => ?_) (fun c1 => ?_)
    · have e8 : k = z (25 + 8 * l + c) := by omega
      subst e8
      exact zn_sub (L' := [some (.ref 1), some (.long s9), none, some (.int (nI l)), some (.long (hF (fun k => lI (z (217 + 16 * (8 * l + c) + k))) (z (25 + 8 * l + c)) s)), none, some (.int (nI c)), none]) ⟨rfl, rfl, rfl, rfl, rfl, trivial⟩ K
    · exfalso; omega
  | succ n ih =>
    intro k hn0
    have h24 := hS.tk.ok.2.1
    have h01 := hS.tk.ok.1
    have h120 := hS.im
    have hnb := hS.nb
    have hszz := hS.s3
    have hur := hS.ur
    have hnw := hS.nw
    have h8 := (hS.tk.gl hl).2.1
    have h16 := hS.tk.ok.2.2.2 l c hl hc
    refine zn_iload (pc := 94) rfl rfl ?_
    refine zn_aload_n (pc := 96) rfl rfl ?_
    refine zn_callVx (pc := 97) (J := zX9_cells) (o := 1) (as := []) (rest := [.int (nI k)]) rfl rfl rfl rfl hS.t rfl rfl rfl (Nat.le_of_ble_eq_true rfl) (Nat.le_of_ble_eq_true rfl) (Nat.le_of_ble_eq_true rfl) (Nat.le_of_ble_eq_true rfl) (q_cells hS) ?_
    refine zn_iload_n (pc := 100) rfl rfl ?_
    refine zn_iload (pc := 101) rfl rfl ?_
    refine zn_callVx (pc := 103) (J := zX1_length) (o := 11) (as := [.int (nI l), .int (nI c)]) (rest := [.int (nI k)]) rfl rfl rfl rfl hS.o11 rfl rfl rfl (Nat.le_of_ble_eq_true rfl) (Nat.le_of_ble_eq_true rfl) (Nat.le_of_ble_eq_true rfl) (Nat.le_of_ble_eq_true rfl) (c_length_10 hS.L.ok hS.L.c (l := l) (c := c) (by omega) (by omega)) ?_
    refine zn_icmp_geN (pc := 106) (tgt := 132) (x := k) (y := (z (25 + 8 * l + c))) rfl rfl (by omega) (by omega) (fun c1 => ?_) (fun c1 => ?_)
    · have e8 : k = z (25 + 8 * l + c) := by omega
      subst e8
      exact zn_sub (L' := [some (.ref 1), some (.long s9), none, some (.int (nI l)), some (.long (hF (fun k => lI (z (217 + 16 * (8 * l + c) + k))) (z (25 + 8 * l + c)) s)), none, some (.int (nI c)), none]) ⟨rfl, rfl, rfl, rfl, rfl, trivial⟩ K
    · refine zn_lload (pc := 109) rfl rfl ?_
      refine zn_aload_n (pc := 111) rfl rfl ?_
      refine zn_iload_n (pc := 112) rfl rfl ?_
      refine zn_iload (pc := 113) rfl rfl ?_
      refine zn_iload (pc := 115) rfl rfl ?_
      refine zn_callVx (pc := 117) (J := zX9_signAt) (o := 1) (as := [.int (nI l), .int (nI c), .int (nI k)]) (rest := [.long (hF (fun k => lI (z (217 + 16 * (8 * l + c) + k))) k s)]) rfl rfl rfl rfl hS.t rfl rfl rfl (Nat.le_of_ble_eq_true rfl) (Nat.le_of_ble_eq_true rfl) (Nat.le_of_ble_eq_true rfl) (Nat.le_of_ble_eq_true rfl) (q_signAt hS (l := l) (c := c) (q := k) (by omega) (by omega) (by omega)) ?_
      refine zn_i2l (pc := 120) rfl ?_
      refine zn_callSx (pc := 121) (J := zX9_mix) (as := [.long (hF (fun k => lI (z (217 + 16 * (8 * l + c) + k))) k s), .long ((nI (z (217 + 16 * (8 * l + c) + k))).toInt64)]) (rest := []) rfl (by decide) rfl rfl rfl rfl (Nat.le_of_ble_eq_true rfl) (Nat.le_of_ble_eq_true rfl) (Nat.le_of_ble_eq_true rfl) (Nat.le_of_ble_eq_true rfl) (c_mix (s := (hF (fun k => lI (z (217 + 16 * (8 * l + c) + k))) k s)) (x := ((nI (z (217 + 16 * (8 * l + c) + k))).toInt64))) ?_
      refine zn_lstore (pc := 124) (L' := [some (.ref 1), some (.long s9), none, some (.int (nI l)), some (.long (hx (hF (fun k => lI (z (217 + 16 * (8 * l + c) + k))) k s) ((nI (z (217 + 16 * (8 * l + c) + k))).toInt64))), none, some (.int (nI c)), some (.int (nI k))]) rfl (by decide) rfl ?_
      refine zn_iincN (pc := 126) (L' := [some (.ref 1), some (.long s9), none, some (.int (nI l)), some (.long (hx (hF (fun k => lI (z (217 + 16 * (8 * l + c) + k))) k s) ((nI (z (217 + 16 * (8 * l + c) + k))).toInt64))), none, some (.int (nI c)), some (.int (nI (k + 1)))]) 1 rfl rfl rfl (by decide) rfl ?_
      refine zn_goto (pc := 129) (tgt := 94) rfl rfl ?_
      exact ih (k + 1) (by omega)
theorem q_ml_f {pf : Nat → Option Nat} {now p sz : Nat} {Z : Nat → Nat} (hS : ST hh F z A pf now p Z sz) {l c : Nat} (hl : l < z 0) (hc : c < z (1 + l)) {s s9 : Int64} {Q : zR → zH → Prop} (K : Zn g zX9_mixLine 91 [some (.ref 1), some (.long s9), none, some (.int (nI l)), some (.long (hF (fun k => (mCl (FF F z) (pRR F z A) z l c k).toInt64) 5 s)), none, some (.int (nI c)), none] [] hh 0 0 Q) : ∀ (n : Nat) (k : Nat), k + n = 5 → Zn g zX9_mixLine 55 [some (.ref 1), some (.long s9), none, some (.int (nI l)), some (.long (hF (fun k => (mCl (FF F z) (pRR F z A) z l c k).toInt64) k s)), none, some (.int (nI c)), some (.int (nI k))] [] (hh) 0 0 Q := by
  intro n
  induction n with
  | zero =>
    intro k hn0
    have h24 := hS.tk.ok.2.1
    have h01 := hS.tk.ok.1
    have h120 := hS.im
    have hnb := hS.nb
    have hszz := hS.s3
    have hur := hS.ur
    have hnw := hS.nw
    have h8 := (hS.tk.gl hl).2.1
    have h16 := hS.tk.ok.2.2.2 l c hl hc
    refine zn_iload (pc := 55) rfl rfl ?_
    refine zn_iconstN (pc := 57) 4 rfl rfl ?_
    refine zn_icmp_gtN (pc := 58) (tgt := 91) (x := k) (y := 4) rfl rfl (by omega) (by omega) (fun c1 => ?_) (fun c1 => ?_)
    · have e8 : k = 5 := by omega
      subst e8
      exact zn_sub (L' := [some (.ref 1), some (.long s9), none, some (.int (nI l)), some (.long (hF (fun k => (mCl (FF F z) (pRR F z A) z l c k).toInt64) 5 s)), none, some (.int (nI c)), none]) ⟨rfl, rfl, rfl, rfl, rfl, trivial⟩ K
    · exfalso; omega
  | succ n ih =>
    intro k hn0
    have h24 := hS.tk.ok.2.1
    have h01 := hS.tk.ok.1
    have h120 := hS.im
    have hnb := hS.nb
    have hszz := hS.s3
    have hur := hS.ur
    have hnw := hS.nw
    have h8 := (hS.tk.gl hl).2.1
    have h16 := hS.tk.ok.2.2.2 l c hl hc
    refine zn_iload (pc := 55) rfl rfl ?_
    refine zn_iconstN (pc := 57) 4 rfl rfl ?_
    refine zn_icmp_gtN (pc := 58) (tgt := 91) (x := k) (y := 4) rfl rfl (by omega) (by omega) (fun c1 => ?_) (fun c1 => ?_)
    · have e8 : k = 5 := by omega
      subst e8
      exact zn_sub (L' := [some (.ref 1), some (.long s9), none, some (.int (nI l)), some (.long (hF (fun k => (mCl (FF F z) (pRR F z A) z l c k).toInt64) 5 s)), none, some (.int (nI c)), none]) ⟨rfl, rfl, rfl, rfl, rfl, trivial⟩ K
    · refine zn_lload (pc := 61) rfl rfl ?_
      refine zn_aload_n (pc := 63) rfl rfl ?_
      refine zn_get (pc := 64) (v := .ref 10) rfl hS.t rfl ?_
      refine zn_iload_n (pc := 67) rfl rfl ?_
      refine zn_iload (pc := 68) rfl rfl ?_
      refine zn_iload (pc := 70) rfl rfl ?_
      refine zn_aload_n (pc := 72) rfl rfl ?_
      refine zn_get (pc := 73) (v := .ref 4) rfl hS.t rfl ?_
      refine zn_callVx (pc := 76) (J := zX5_cellFact) (o := 10) (as := [.int (nI l), .int (nI c), .int (nI k), .ref 4]) (rest := [.long (hF (fun k => (mCl (FF F z) (pRR F z A) z l c k).toInt64) k s)]) rfl rfl rfl rfl hS.lo rfl rfl rfl (Nat.le_of_ble_eq_true rfl) (Nat.le_of_ble_eq_true rfl) (Nat.le_of_ble_eq_true rfl) (Nat.le_of_ble_eq_true rfl) (c_cellFact hS.L (l := l) (c := c) (by omega) (by omega) hS.f4 hS.f5 hS.fo.2.2.1 hS.fo.2.2.2.1 hS.fo.2.2.2.2.1 hS.fo.2.2.2.2.2.1 hS.fo.2.2.2.2.2.2 (k := k) (by omega)) ?_
      refine zn_top (v' := .int (mCl (FF F z) (pRR F z A) z l c k)) (by rw [cCl_m]) ?_
      refine zn_i2l (pc := 79) rfl ?_
      refine zn_callSx (pc := 80) (J := zX9_mix) (as := [.long (hF (fun k => (mCl (FF F z) (pRR F z A) z l c k).toInt64) k s), .long ((mCl (FF F z) (pRR F z A) z l c k).toInt64)]) (rest := []) rfl (by decide) rfl rfl rfl rfl (Nat.le_of_ble_eq_true rfl) (Nat.le_of_ble_eq_true rfl) (Nat.le_of_ble_eq_true rfl) (Nat.le_of_ble_eq_true rfl) (c_mix (s := (hF (fun k => (mCl (FF F z) (pRR F z A) z l c k).toInt64) k s)) (x := ((mCl (FF F z) (pRR F z A) z l c k).toInt64))) ?_
      refine zn_lstore (pc := 83) (L' := [some (.ref 1), some (.long s9), none, some (.int (nI l)), some (.long (hx (hF (fun k => (mCl (FF F z) (pRR F z A) z l c k).toInt64) k s) ((mCl (FF F z) (pRR F z A) z l c k).toInt64))), none, some (.int (nI c)), some (.int (nI k))]) rfl (by decide) rfl ?_
      refine zn_iincN (pc := 85) (L' := [some (.ref 1), some (.long s9), none, some (.int (nI l)), some (.long (hx (hF (fun k => (mCl (FF F z) (pRR F z A) z l c k).toInt64) k s) ((mCl (FF F z) (pRR F z A) z l c k).toInt64))), none, some (.int (nI c)), some (.int (nI (k + 1)))]) 1 rfl rfl rfl (by decide) rfl ?_
      refine zn_goto (pc := 88) (tgt := 55) rfl rfl ?_
      exact ih (k + 1) (by omega)
theorem q_ml_c {pf : Nat → Option Nat} {now p sz : Nat} {Z : Nat → Nat} (hS : ST hh F z A pf now p Z sz) {l : Nat} (hl : l < z 0) {s s9 : Int64} : ∀ (n : Nat) (c : Nat), c + n = z (1 + l) → Zn g zX9_mixLine 39 [some (.ref 1), some (.long s9), none, some (.int (nI l)), some (.long (hC (FF F z) (pRR F z A) z l c s)), none, some (.int (nI c)), none] [] (hh) 0 0 (fun r' h' => r' = .inl (some (.long (hC (FF F z) (pRR F z A) z l (z (1 + l)) s))) ∧ h' = (hh)) := by
  intro n
  induction n with
  | zero =>
    intro c hn0
    have h24 := hS.tk.ok.2.1
    have h01 := hS.tk.ok.1
    have h120 := hS.im
    have hnb := hS.nb
    have hszz := hS.s3
    have hur := hS.ur
    have hnw := hS.nw
    have h8 := (hS.tk.gl hl).2.1
    have hzl1 := (hS.tk.gl hl).1
    refine zn_iload (pc := 39) rfl rfl ?_
    refine zn_aload_n (pc := 41) rfl rfl ?_
    refine zn_callVx (pc := 42) (J := zX9_cells) (o := 1) (as := []) (rest := [.int (nI c)]) rfl rfl rfl rfl hS.t rfl rfl rfl (Nat.le_of_ble_eq_true rfl) (Nat.le_of_ble_eq_true rfl) (Nat.le_of_ble_eq_true rfl) (Nat.le_of_ble_eq_true rfl) (q_cells hS) ?_
    refine zn_iload_n (pc := 45) rfl rfl ?_
    refine zn_callVx (pc := 46) (J := zX1_cellsOf) (o := 11) (as := [.int (nI l)]) (rest := [.int (nI c)]) rfl rfl rfl rfl hS.o11 rfl rfl rfl (Nat.le_of_ble_eq_true rfl) (Nat.le_of_ble_eq_true rfl) (Nat.le_of_ble_eq_true rfl) (Nat.le_of_ble_eq_true rfl) (c_cellsOf_10 hS.L.ok hS.L.c (l := l) (by omega)) ?_
    refine zn_icmp_geN (pc := 49) (tgt := 138) (x := c) (y := (z (1 + l))) rfl rfl (by omega) (by omega) (fun c1 => ?_) (fun c1 => ?_)
    · refine zn_lload (pc := 138) rfl rfl ?_
      have e8 : c = z (1 + l) := by omega
      exact zx_l (pc := 140) rfl rfl (by rw [e8]) rfl
    · exfalso; omega
  | succ n ih =>
    intro c hn0
    have h24 := hS.tk.ok.2.1
    have h01 := hS.tk.ok.1
    have h120 := hS.im
    have hnb := hS.nb
    have hszz := hS.s3
    have hur := hS.ur
    have hnw := hS.nw
    have h8 := (hS.tk.gl hl).2.1
    have hzl1 := (hS.tk.gl hl).1
    refine zn_iload (pc := 39) rfl rfl ?_
    refine zn_aload_n (pc := 41) rfl rfl ?_
    refine zn_callVx (pc := 42) (J := zX9_cells) (o := 1) (as := []) (rest := [.int (nI c)]) rfl rfl rfl rfl hS.t rfl rfl rfl (Nat.le_of_ble_eq_true rfl) (Nat.le_of_ble_eq_true rfl) (Nat.le_of_ble_eq_true rfl) (Nat.le_of_ble_eq_true rfl) (q_cells hS) ?_
    refine zn_iload_n (pc := 45) rfl rfl ?_
    refine zn_callVx (pc := 46) (J := zX1_cellsOf) (o := 11) (as := [.int (nI l)]) (rest := [.int (nI c)]) rfl rfl rfl rfl hS.o11 rfl rfl rfl (Nat.le_of_ble_eq_true rfl) (Nat.le_of_ble_eq_true rfl) (Nat.le_of_ble_eq_true rfl) (Nat.le_of_ble_eq_true rfl) (c_cellsOf_10 hS.L.ok hS.L.c (l := l) (by omega)) ?_
    refine zn_icmp_geN (pc := 49) (tgt := 138) (x := c) (y := (z (1 + l))) rfl rfl (by omega) (by omega) (fun c1 => ?_) (fun c1 => ?_)
    · refine zn_lload (pc := 138) rfl rfl ?_
      have e8 : c = z (1 + l) := by omega
      exact zx_l (pc := 140) rfl rfl (by rw [e8]) rfl
    · refine zn_iconstN (pc := 52) 0 rfl rfl ?_
      refine zn_istore (pc := 53) (L' := [some (.ref 1), some (.long s9), none, some (.int (nI l)), some (.long (hC (FF F z) (pRR F z A) z l c s)), none, some (.int (nI c)), some (.int (nI 0))]) rfl (by decide) rfl ?_
      refine q_ml_f hS hl (by omega) ?_ 5 0 (by omega)
      refine zn_iconstN (pc := 91) 0 rfl rfl ?_
      refine zn_istore (pc := 92) (L' := [some (.ref 1), some (.long s9), none, some (.int (nI l)), some (.long (hF (fun k => (mCl (FF F z) (pRR F z A) z l c k).toInt64) 5 (hC (FF F z) (pRR F z A) z l c s))), none, some (.int (nI c)), some (.int (nI 0))]) rfl (by decide) rfl ?_
      refine q_ml_s hS hl (by omega) ?_ (z (25 + 8 * l + c)) 0 (by omega)
      refine zn_iincN (pc := 132) (L' := [some (.ref 1), some (.long s9), none, some (.int (nI l)), some (.long (hF (fun k => lI (z (217 + 16 * (8 * l + c) + k))) (z (25 + 8 * l + c)) (hF (fun k => (mCl (FF F z) (pRR F z A) z l c k).toInt64) 5 (hC (FF F z) (pRR F z A) z l c s)))), none, some (.int (nI (c + 1))), none]) 1 rfl rfl rfl (by decide) rfl ?_
      refine zn_goto (pc := 135) (tgt := 39) rfl rfl ?_
      exact zn_sub (L' := [some (.ref 1), some (.long s9), none, some (.int (nI l)), some (.long (hC (FF F z) (pRR F z A) z l (c + 1) s)), none, some (.int (nI (c + 1))), none]) ⟨rfl, rfl, rfl, rfl, rfl, trivial⟩ (ih (c + 1) (by omega))
theorem q_ml_w {pf : Nat → Option Nat} {now p sz : Nat} {Z : Nat → Nat} (hS : ST hh F z A pf now p Z sz) {l : Nat} (hl : l < z 0) {s s9 : Int64} {Q : zR → zH → Prop} (K : Zn g zX9_mixLine 36 [some (.ref 1), some (.long s9), none, some (.int (nI l)), some (.long (hF (fun k => lI (mLn_ (pRR F z A) z (FF F z 13) l k)) 4 s)), none, none, none] [] hh 0 0 Q) : ∀ (n : Nat) (k : Nat), k + n = 4 → Zn g zX9_mixLine 6 [some (.ref 1), some (.long s9), none, some (.int (nI l)), some (.long (hF (fun k => lI (mLn_ (pRR F z A) z (FF F z 13) l k)) k s)), none, some (.int (nI k)), none] [] (hh) 0 0 Q := by
  intro n
  induction n with
  | zero =>
    intro k hn0
    have h24 := hS.tk.ok.2.1
    have h01 := hS.tk.ok.1
    have h120 := hS.im
    have hnb := hS.nb
    have hszz := hS.s3
    have hur := hS.ur
    have hnw := hS.nw
    have h8 := (hS.tk.gl hl).2.1
    have hzl1 := (hS.tk.gl hl).1
    refine zn_iload (pc := 6) rfl rfl ?_
    refine zn_iconstN (pc := 8) 3 rfl rfl ?_
    refine zn_icmp_gtN (pc := 9) (tgt := 36) (x := k) (y := 3) rfl rfl (by omega) (by omega) (fun c1 => ?_) (fun c1 => ?_)
    · have e8 : k = 4 := by omega
      subst e8
      exact zn_sub (L' := [some (.ref 1), some (.long s9), none, some (.int (nI l)), some (.long (hF (fun k => lI (mLn_ (pRR F z A) z (FF F z 13) l k)) 4 s)), none, none, none]) ⟨rfl, rfl, rfl, rfl, trivial⟩ K
    · exfalso; omega
  | succ n ih =>
    intro k hn0
    have h24 := hS.tk.ok.2.1
    have h01 := hS.tk.ok.1
    have h120 := hS.im
    have hnb := hS.nb
    have hszz := hS.s3
    have hur := hS.ur
    have hnw := hS.nw
    have h8 := (hS.tk.gl hl).2.1
    have hzl1 := (hS.tk.gl hl).1
    refine zn_iload (pc := 6) rfl rfl ?_
    refine zn_iconstN (pc := 8) 3 rfl rfl ?_
    refine zn_icmp_gtN (pc := 9) (tgt := 36) (x := k) (y := 3) rfl rfl (by omega) (by omega) (fun c1 => ?_) (fun c1 => ?_)
    · have e8 : k = 4 := by omega
      subst e8
      exact zn_sub (L' := [some (.ref 1), some (.long s9), none, some (.int (nI l)), some (.long (hF (fun k => lI (mLn_ (pRR F z A) z (FF F z 13) l k)) 4 s)), none, none, none]) ⟨rfl, rfl, rfl, rfl, trivial⟩ K
    · refine zn_lload (pc := 12) rfl rfl ?_
      refine zn_aload_n (pc := 14) rfl rfl ?_
      refine zn_get (pc := 15) (v := .ref 10) rfl hS.t rfl ?_
      refine zn_iload_n (pc := 18) rfl rfl ?_
      refine zn_iload (pc := 19) rfl rfl ?_
      refine zn_callVx (pc := 21) (J := zX5_lineFact) (o := 10) (as := [.int (nI l), .int (nI k)]) (rest := [.long (hF (fun k => lI (mLn_ (pRR F z A) z (FF F z 13) l k)) k s)]) rfl rfl rfl rfl hS.lo rfl rfl rfl (Nat.le_of_ble_eq_true rfl) (Nat.le_of_ble_eq_true rfl) (Nat.le_of_ble_eq_true rfl) (Nat.le_of_ble_eq_true rfl) (c_lineFact hS.L (l := l) (by omega) (k := k) (by omega)) ?_
      refine zn_top (v' := .int (nI (mLn_ (pRR F z A) z (FF F z 13) l k))) (by rw [FF_13]) ?_
      refine zn_i2l (pc := 24) rfl ?_
      refine zn_callSx (pc := 25) (J := zX9_mix) (as := [.long (hF (fun k => lI (mLn_ (pRR F z A) z (FF F z 13) l k)) k s), .long ((nI (mLn_ (pRR F z A) z (FF F z 13) l k)).toInt64)]) (rest := []) rfl (by decide) rfl rfl rfl rfl (Nat.le_of_ble_eq_true rfl) (Nat.le_of_ble_eq_true rfl) (Nat.le_of_ble_eq_true rfl) (Nat.le_of_ble_eq_true rfl) (c_mix (s := (hF (fun k => lI (mLn_ (pRR F z A) z (FF F z 13) l k)) k s)) (x := ((nI (mLn_ (pRR F z A) z (FF F z 13) l k)).toInt64))) ?_
      refine zn_lstore (pc := 28) (L' := [some (.ref 1), some (.long s9), none, some (.int (nI l)), some (.long (hx (hF (fun k => lI (mLn_ (pRR F z A) z (FF F z 13) l k)) k s) ((nI (mLn_ (pRR F z A) z (FF F z 13) l k)).toInt64))), none, some (.int (nI k)), none]) rfl (by decide) rfl ?_
      refine zn_iincN (pc := 30) (L' := [some (.ref 1), some (.long s9), none, some (.int (nI l)), some (.long (hx (hF (fun k => lI (mLn_ (pRR F z A) z (FF F z 13) l k)) k s) ((nI (mLn_ (pRR F z A) z (FF F z 13) l k)).toInt64))), none, some (.int (nI (k + 1))), none]) 1 rfl rfl rfl (by decide) rfl ?_
      refine zn_goto (pc := 33) (tgt := 6) rfl rfl ?_
      exact ih (k + 1) (by omega)
theorem q_ml  {pf : Nat → Option Nat} {now p sz : Nat} {Z : Nat → Nat} (hS : ST hh F z A pf now p Z sz) {l : Nat} (hl : l < z 0) {s : Int64} : Zx g zX9_mixLine [.ref 1, .long s, .int (nI l)] (hh) (some (.long (hL (FF F z) (pRR F z A) z l s))) (hh) := by
  have h24 := hS.tk.ok.2.1
  have h01 := hS.tk.ok.1
  have h120 := hS.im
  have hnb := hS.nb
  have hszz := hS.s3
  have hur := hS.ur
  have hnw := hS.nw
  have h8 := (hS.tk.gl hl).2.1
  have hzl1 := (hS.tk.gl hl).1
  show Zn g zX9_mixLine 0 [some (.ref 1), some (.long s), none, some (.int (nI l)), none, none, none, none] [] (hh) 0 0 _
  refine zn_lload_n (pc := 0) rfl rfl ?_
  refine zn_lstore (pc := 1) (L' := [some (.ref 1), some (.long s), none, some (.int (nI l)), some (.long s), none, none, none]) rfl (by decide) rfl ?_
  refine zn_iconstN (pc := 3) 0 rfl rfl ?_
  refine zn_istore (pc := 4) (L' := [some (.ref 1), some (.long s), none, some (.int (nI l)), some (.long s), none, some (.int (nI 0)), none]) rfl (by decide) rfl ?_
  refine q_ml_w hS hl ?_ 4 0 (by omega)
  refine zn_iconstN (pc := 36) 0 rfl rfl ?_
  refine zn_istore (pc := 37) (L' := [some (.ref 1), some (.long s), none, some (.int (nI l)), some (.long (hF (fun k => lI (mLn_ (pRR F z A) z (FF F z 13) l k)) 4 s)), none, some (.int (nI 0)), none]) rfl (by decide) rfl ?_
  exact q_ml_c hS hl (z (1 + l)) 0 (by omega)
theorem q_dg_l {pf : Nat → Option Nat} {now p sz : Nat} {Z : Nat → Nat} (hS : ST hh F z A pf now p Z sz) {s : Int64} : ∀ (n : Nat) (l : Nat), l + n = z 0 → Zn g zX9_digest 40 [some (.ref 1), some (.long (hLs (FF F z) (pRR F z A) z l s)), none, some (.int (nI l))] [] (hh) 0 0 (fun r' h' => r' = .inl (some (.long (hF (fun k => lI (A 5 k)) (F 11) (hx (hBs (pRR F z A) z (nbb z) (hLs (FF F z) (pRR F z A) z (z 0) s)) (lI (F 11)))))) ∧ h' = (hh)) := by
  intro n
  induction n with
  | zero =>
    intro l hn0
    have h24 := hS.tk.ok.2.1
    have h01 := hS.tk.ok.1
    have h120 := hS.im
    have hnb := hS.nb
    have hszz := hS.s3
    have hur := hS.ur
    have hnw := hS.nw
    refine zn_iload_n (pc := 40) rfl rfl ?_
    refine zn_aload_n (pc := 41) rfl rfl ?_
    refine zn_callVx (pc := 42) (J := zX9_cells) (o := 1) (as := []) (rest := [.int (nI l)]) rfl rfl rfl rfl hS.t rfl rfl rfl (Nat.le_of_ble_eq_true rfl) (Nat.le_of_ble_eq_true rfl) (Nat.le_of_ble_eq_true rfl) (Nat.le_of_ble_eq_true rfl) (q_cells hS) ?_
    refine zn_callVx (pc := 45) (J := zX1_lines) (o := 11) (as := []) (rest := [.int (nI l)]) rfl rfl rfl rfl hS.o11 rfl rfl rfl (Nat.le_of_ble_eq_true rfl) (Nat.le_of_ble_eq_true rfl) (Nat.le_of_ble_eq_true rfl) (Nat.le_of_ble_eq_true rfl) (c_linesK_10 hS.L.c) ?_
    refine zn_icmp_geN (pc := 48) (tgt := 64) (x := l) (y := (z 0)) rfl rfl (by omega) (by omega) (fun c1 => ?_) (fun c1 => ?_)
    · refine zn_aload_n (pc := 64) rfl rfl ?_
      refine zn_get (pc := 65) (v := .ref 10) rfl hS.t rfl ?_
      refine zn_get (pc := 68) (v := .ref 18) rfl hS.lo rfl ?_
      refine zn_lload_n (pc := 71) rfl rfl ?_
      refine zn_callVx (pc := 72) (J := zX0_mixInto) (o := 18) (as := [.long (hLs (FF F z) (pRR F z A) z l s)]) (rest := []) rfl rfl rfl rfl hS.o18 rfl rfl rfl (Nat.le_of_ble_eq_true rfl) (Nat.le_of_ble_eq_true rfl) (Nat.le_of_ble_eq_true rfl) (Nat.le_of_ble_eq_true rfl) (c_bmix hS.L (s := (hLs (FF F z) (pRR F z A) z l s))) ?_
      refine zn_lstore_n (pc := 75) (L' := [some (.ref 1), some (.long (hBs (pRR F z A) z (nbb z) (hLs (FF F z) (pRR F z A) z l s))), none, some (.int (nI l))]) rfl (by decide) rfl ?_
      refine zn_aload_n (pc := 76) rfl rfl ?_
      refine zn_get (pc := 77) (v := .ref 2) rfl hS.t rfl ?_
      refine zn_lload_n (pc := 80) rfl rfl ?_
      refine zn_callVx (pc := 81) (J := zX4_mixInto) (o := 2) (as := [.long (hBs (pRR F z A) z (nbb z) (hLs (FF F z) (pRR F z A) z l s))]) (rest := []) rfl rfl rfl rfl hS.i2 rfl rfl rfl (Nat.le_of_ble_eq_true rfl) (Nat.le_of_ble_eq_true rfl) (Nat.le_of_ble_eq_true rfl) (Nat.le_of_ble_eq_true rfl) (c_imix hS.im hS.ib hS.i2 hS.i3 (s := (hBs (pRR F z A) z (nbb z) (hLs (FF F z) (pRR F z A) z l s)))) ?_
      have e8 : l = z 0 := by omega
      exact zx_l (pc := 84) rfl rfl (by rw [e8]) rfl
    · exfalso; omega
  | succ n ih =>
    intro l hn0
    have h24 := hS.tk.ok.2.1
    have h01 := hS.tk.ok.1
    have h120 := hS.im
    have hnb := hS.nb
    have hszz := hS.s3
    have hur := hS.ur
    have hnw := hS.nw
    refine zn_iload_n (pc := 40) rfl rfl ?_
    refine zn_aload_n (pc := 41) rfl rfl ?_
    refine zn_callVx (pc := 42) (J := zX9_cells) (o := 1) (as := []) (rest := [.int (nI l)]) rfl rfl rfl rfl hS.t rfl rfl rfl (Nat.le_of_ble_eq_true rfl) (Nat.le_of_ble_eq_true rfl) (Nat.le_of_ble_eq_true rfl) (Nat.le_of_ble_eq_true rfl) (q_cells hS) ?_
    refine zn_callVx (pc := 45) (J := zX1_lines) (o := 11) (as := []) (rest := [.int (nI l)]) rfl rfl rfl rfl hS.o11 rfl rfl rfl (Nat.le_of_ble_eq_true rfl) (Nat.le_of_ble_eq_true rfl) (Nat.le_of_ble_eq_true rfl) (Nat.le_of_ble_eq_true rfl) (c_linesK_10 hS.L.c) ?_
    refine zn_icmp_geN (pc := 48) (tgt := 64) (x := l) (y := (z 0)) rfl rfl (by omega) (by omega) (fun c1 => ?_) (fun c1 => ?_)
    · refine zn_aload_n (pc := 64) rfl rfl ?_
      refine zn_get (pc := 65) (v := .ref 10) rfl hS.t rfl ?_
      refine zn_get (pc := 68) (v := .ref 18) rfl hS.lo rfl ?_
      refine zn_lload_n (pc := 71) rfl rfl ?_
      refine zn_callVx (pc := 72) (J := zX0_mixInto) (o := 18) (as := [.long (hLs (FF F z) (pRR F z A) z l s)]) (rest := []) rfl rfl rfl rfl hS.o18 rfl rfl rfl (Nat.le_of_ble_eq_true rfl) (Nat.le_of_ble_eq_true rfl) (Nat.le_of_ble_eq_true rfl) (Nat.le_of_ble_eq_true rfl) (c_bmix hS.L (s := (hLs (FF F z) (pRR F z A) z l s))) ?_
      refine zn_lstore_n (pc := 75) (L' := [some (.ref 1), some (.long (hBs (pRR F z A) z (nbb z) (hLs (FF F z) (pRR F z A) z l s))), none, some (.int (nI l))]) rfl (by decide) rfl ?_
      refine zn_aload_n (pc := 76) rfl rfl ?_
      refine zn_get (pc := 77) (v := .ref 2) rfl hS.t rfl ?_
      refine zn_lload_n (pc := 80) rfl rfl ?_
      refine zn_callVx (pc := 81) (J := zX4_mixInto) (o := 2) (as := [.long (hBs (pRR F z A) z (nbb z) (hLs (FF F z) (pRR F z A) z l s))]) (rest := []) rfl rfl rfl rfl hS.i2 rfl rfl rfl (Nat.le_of_ble_eq_true rfl) (Nat.le_of_ble_eq_true rfl) (Nat.le_of_ble_eq_true rfl) (Nat.le_of_ble_eq_true rfl) (c_imix hS.im hS.ib hS.i2 hS.i3 (s := (hBs (pRR F z A) z (nbb z) (hLs (FF F z) (pRR F z A) z l s)))) ?_
      have e8 : l = z 0 := by omega
      exact zx_l (pc := 84) rfl rfl (by rw [e8]) rfl
    · refine zn_aload_n (pc := 51) rfl rfl ?_
      refine zn_lload_n (pc := 52) rfl rfl ?_
      refine zn_iload_n (pc := 53) rfl rfl ?_
      refine zn_callVx (pc := 54) (J := zX9_mixLine) (o := 1) (as := [.long (hLs (FF F z) (pRR F z A) z l s), .int (nI l)]) (rest := []) rfl rfl rfl rfl hS.t rfl rfl rfl (Nat.le_of_ble_eq_true rfl) (Nat.le_of_ble_eq_true rfl) (Nat.le_of_ble_eq_true rfl) (Nat.le_of_ble_eq_true rfl) (q_ml hS (s := (hLs (FF F z) (pRR F z A) z l s)) (l := l) (by omega)) ?_
      refine zn_lstore_n (pc := 57) (L' := [some (.ref 1), some (.long (hL (FF F z) (pRR F z A) z l (hLs (FF F z) (pRR F z A) z l s))), none, some (.int (nI l))]) rfl (by decide) rfl ?_
      refine zn_iincN (pc := 58) (L' := [some (.ref 1), some (.long (hL (FF F z) (pRR F z A) z l (hLs (FF F z) (pRR F z A) z l s))), none, some (.int (nI (l + 1)))]) 1 rfl rfl rfl (by decide) rfl ?_
      refine zn_goto (pc := 61) (tgt := 40) rfl rfl ?_
      exact ih (l + 1) (by omega)
theorem q_dg_c {pf : Nat → Option Nat} {now p sz : Nat} {Z : Nat → Nat} (hS : ST hh F z A pf now p Z sz) {s : Int64} {Q : zR → zH → Prop} (K : Zn g zX9_digest 29 [some (.ref 1), some (.long (hF (fun k => lI (mCn (FF F z) (pRR F z A) z k)) 9 s)), none, none] [] hh 0 0 Q) : ∀ (n : Nat) (k : Nat), k + n = 9 → Zn g zX9_digest 6 [some (.ref 1), some (.long (hF (fun k => lI (mCn (FF F z) (pRR F z A) z k)) k s)), none, some (.int (nI k))] [] (hh) 0 0 Q := by
  intro n
  induction n with
  | zero =>
    intro k hn0
    have h24 := hS.tk.ok.2.1
    have h01 := hS.tk.ok.1
    have h120 := hS.im
    have hnb := hS.nb
    have hszz := hS.s3
    have hur := hS.ur
    have hnw := hS.nw
    refine zn_iload_n (pc := 6) rfl rfl ?_
    refine zn_bipushN (pc := 7) 8 rfl rfl ?_
    refine zn_icmp_gtN (pc := 9) (tgt := 29) (x := k) (y := 8) rfl rfl (by omega) (by omega) (fun c1 => ?_) (fun c1 => ?_)
    · have e8 : k = 9 := by omega
      subst e8
      exact zn_sub (L' := [some (.ref 1), some (.long (hF (fun k => lI (mCn (FF F z) (pRR F z A) z k)) 9 s)), none, none]) ⟨rfl, rfl, trivial⟩ K
    · exfalso; omega
  | succ n ih =>
    intro k hn0
    have h24 := hS.tk.ok.2.1
    have h01 := hS.tk.ok.1
    have h120 := hS.im
    have hnb := hS.nb
    have hszz := hS.s3
    have hur := hS.ur
    have hnw := hS.nw
    refine zn_iload_n (pc := 6) rfl rfl ?_
    refine zn_bipushN (pc := 7) 8 rfl rfl ?_
    refine zn_icmp_gtN (pc := 9) (tgt := 29) (x := k) (y := 8) rfl rfl (by omega) (by omega) (fun c1 => ?_) (fun c1 => ?_)
    · have e8 : k = 9 := by omega
      subst e8
      exact zn_sub (L' := [some (.ref 1), some (.long (hF (fun k => lI (mCn (FF F z) (pRR F z A) z k)) 9 s)), none, none]) ⟨rfl, rfl, trivial⟩ K
    · refine zn_lload_n (pc := 12) rfl rfl ?_
      refine zn_aload_n (pc := 13) rfl rfl ?_
      refine zn_iload_n (pc := 14) rfl rfl ?_
      refine zn_callVx (pc := 15) (J := zX9_countFact) (o := 1) (as := [.int (nI k)]) (rest := [.long (hF (fun k => lI (mCn (FF F z) (pRR F z A) z k)) k s)]) rfl rfl rfl rfl hS.t rfl rfl rfl (Nat.le_of_ble_eq_true rfl) (Nat.le_of_ble_eq_true rfl) (Nat.le_of_ble_eq_true rfl) (Nat.le_of_ble_eq_true rfl) (q_cf hS (k := k) (by omega)) ?_
      refine zn_i2l (pc := 18) rfl ?_
      refine zn_callSx (pc := 19) (J := zX9_mix) (as := [.long (hF (fun k => lI (mCn (FF F z) (pRR F z A) z k)) k s), .long ((nI (mCn (FF F z) (pRR F z A) z k)).toInt64)]) (rest := []) rfl (by decide) rfl rfl rfl rfl (Nat.le_of_ble_eq_true rfl) (Nat.le_of_ble_eq_true rfl) (Nat.le_of_ble_eq_true rfl) (Nat.le_of_ble_eq_true rfl) (c_mix (s := (hF (fun k => lI (mCn (FF F z) (pRR F z A) z k)) k s)) (x := ((nI (mCn (FF F z) (pRR F z A) z k)).toInt64))) ?_
      refine zn_lstore_n (pc := 22) (L' := [some (.ref 1), some (.long (hx (hF (fun k => lI (mCn (FF F z) (pRR F z A) z k)) k s) ((nI (mCn (FF F z) (pRR F z A) z k)).toInt64))), none, some (.int (nI k))]) rfl (by decide) rfl ?_
      refine zn_iincN (pc := 23) (L' := [some (.ref 1), some (.long (hx (hF (fun k => lI (mCn (FF F z) (pRR F z A) z k)) k s) ((nI (mCn (FF F z) (pRR F z A) z k)).toInt64))), none, some (.int (nI (k + 1)))]) 1 rfl rfl rfl (by decide) rfl ?_
      refine zn_goto (pc := 26) (tgt := 6) rfl rfl ?_
      exact ih (k + 1) (by omega)
theorem q_digest  {pf : Nat → Option Nat} {now p sz : Nat} {Z : Nat → Nat} (hS : ST hh F z A pf now p Z sz) : Zx g zX9_digest [.ref 1] (hh) (some (.long (hF (fun k => lI (A 5 k)) (F 11) (hx (hBs (pRR F z A) z (nbb z) (hLs (FF F z) (pRR F z A) z (z 0) (hx (hx (hx (hF (fun k => lI (A 4 k)) 7 (hF (fun k => lI (mCn (FF F z) (pRR F z A) z k)) 9 (lN 1949))) (lI (F 8))) (lI (F 9))) (lI (F 10))))) (lI (F 11)))))) (hh) := by
  have h24 := hS.tk.ok.2.1
  have h01 := hS.tk.ok.1
  have h120 := hS.im
  have hnb := hS.nb
  have hszz := hS.s3
  have hur := hS.ur
  have hnw := hS.nw
  show Zn g zX9_digest 0 [some (.ref 1), none, none, none] [] (hh) 0 0 _
  refine zn_ldc2 (pc := 0) (v := 1949) rfl ?_
  refine zn_lstore_n (pc := 3) (L' := [some (.ref 1), some (.long (lN 1949)), none, none]) rfl (by decide) rfl ?_
  refine zn_iconstN (pc := 4) 0 rfl rfl ?_
  refine zn_istore_n (pc := 5) (L' := [some (.ref 1), some (.long (lN 1949)), none, some (.int (nI 0))]) rfl (by decide) rfl ?_
  refine q_dg_c hS (s := lN 1949) ?_ 9 0 (by omega)
  refine zn_aload_n (pc := 29) rfl rfl ?_
  refine zn_get (pc := 30) (v := .ref 4) rfl hS.t rfl ?_
  refine zn_lload_n (pc := 33) rfl rfl ?_
  refine zn_callVx (pc := 34) (J := zX2_mixInto) (o := 4) (as := [.long (hF (fun k => lI (mCn (FF F z) (pRR F z A) z k)) 9 (lN 1949))]) (rest := []) rfl rfl rfl rfl hS.f4 rfl rfl rfl (Nat.le_of_ble_eq_true rfl) (Nat.le_of_ble_eq_true rfl) (Nat.le_of_ble_eq_true rfl) (Nat.le_of_ble_eq_true rfl) (c_fmix hS.f4 hS.f5 hS.fo.2.2.1 hS.fo.2.2.2.1 hS.fo.2.2.2.2.1 hS.fo.2.2.2.2.2.1 hS.fo.2.2.2.2.2.2 (s := (hF (fun k => lI (mCn (FF F z) (pRR F z A) z k)) 9 (lN 1949)))) ?_
  refine zn_lstore_n (pc := 37) (L' := [some (.ref 1), some (.long (hx (hx (hx (hF (fun k => lI (A 4 k)) 7 (hF (fun k => lI (mCn (FF F z) (pRR F z A) z k)) 9 (lN 1949))) (lI (F 8))) (lI (F 9))) (lI (F 10)))), none, none]) rfl (by decide) rfl ?_
  refine zn_iconstN (pc := 38) 0 rfl rfl ?_
  refine zn_istore_n (pc := 39) (L' := [some (.ref 1), some (.long (hx (hx (hx (hF (fun k => lI (A 4 k)) 7 (hF (fun k => lI (mCn (FF F z) (pRR F z A) z k)) 9 (lN 1949))) (lI (F 8))) (lI (F 9))) (lI (F 10)))), none, some (.int (nI 0))]) rfl (by decide) rfl ?_
  exact q_dg_l hS (z 0) 0 (by omega)
end m1
