section m1
variable {g : zG} {h hh : zH} {F : Nat → Nat} {S : Int64} {z : Nat → Nat} {A : Nat → Nat → Nat} {X : Nat → Int32}
theorem cRoom_iff {l c : Nat} {x : Int32} (hl : l < 2 ^ 31) (hc : c < 2 ^ 31) : mRoom z (nI l) (nI c) x ↔ cRoom z l c x := by
  unfold mRoom cRoom
  rw [nI_clamp hl, nI_clamp hc]
  have h9 : nI 9 ≠ nI 10 := by decide
  by_cases e1 : x = nI 9
  · subst e1; simp [h9]
  · by_cases e2 : x = nI 10
    · subst e2; simp [Ne.symm h9]
    · simp [e1, e2]
theorem q_rTyp_1 {pf : Nat → Option Nat} {now p sz : Nat} {Z : Nat → Nat} (hS : ST hh F z A pf now p Z sz) {x y k cd : Int32} (hbad : ¬ mCell z x y) : Zt g zX9_requireTypable [.ref 1, .int x, .int y, .int k, .int cd] hh 2 := by
  show Zn g zX9_requireTypable 0 [some (.ref 1), some (.int x), some (.int y), some (.int k), some (.int cd)] [] hh 1 6 _
  refine zn_aload_n (pc := 0) rfl rfl ?_
  refine zn_iload_n (pc := 1) rfl rfl ?_
  refine zn_iload_n (pc := 2) rfl rfl ?_
  refine zn_iload_n (pc := 3) rfl rfl ?_
  exact zn_callVt (pc := 4) (J := zX9_requireOffset) (o := 1) (as := [.int x, .int y, .int k]) (rest := []) rfl rfl rfl rfl hS.t rfl rfl rfl (Nat.le_of_ble_eq_true rfl) (Nat.le_of_ble_eq_true rfl) (Nat.le_of_ble_eq_true rfl) (Nat.le_of_ble_eq_true rfl) (q_rOff_1 hS hbad) ⟨rfl, rfl⟩
theorem q_rTyp_2 {pf : Nat → Option Nat} {now p sz : Nat} {Z : Nat → Nat} (hS : ST hh F z A pf now p Z sz) {l c : Nat} (hl : l < z 0) (hc : c < z (1 + l)) {k cd : Int32} (hk : ¬ zin k (z (25 + 8 * l + c) + 1)) : Zt g zX9_requireTypable [.ref 1, .int (nI l), .int (nI c), .int k, .int cd] hh 2 := by
  show Zn g zX9_requireTypable 0 [some (.ref 1), some (.int (nI l)), some (.int (nI c)), some (.int k), some (.int cd)] [] hh 1 6 _
  refine zn_aload_n (pc := 0) rfl rfl ?_
  refine zn_iload_n (pc := 1) rfl rfl ?_
  refine zn_iload_n (pc := 2) rfl rfl ?_
  refine zn_iload_n (pc := 3) rfl rfl ?_
  exact zn_callVt (pc := 4) (J := zX9_requireOffset) (o := 1) (as := [.int (nI l), .int (nI c), .int k]) (rest := []) rfl rfl rfl rfl hS.t rfl rfl rfl (Nat.le_of_ble_eq_true rfl) (Nat.le_of_ble_eq_true rfl) (Nat.le_of_ble_eq_true rfl) (Nat.le_of_ble_eq_true rfl) (q_rOff_2 hS hl hc hk) ⟨rfl, rfl⟩
theorem q_rTyp_3 {pf : Nat → Option Nat} {now p sz : Nat} {Z : Nat → Nat} (hS : ST hh F z A pf now p Z sz) {l c : Nat} (hl : l < z 0) (hc : c < z (1 + l)) {q : Nat} (hq : q ≤ z (25 + 8 * l + c)) {cd : Int32} (hcd : ¬ mCode cd) : Zt g zX9_requireTypable [.ref 1, .int (nI l), .int (nI c), .int (nI q), .int cd] hh 0 := by
  have h24 := hS.tk.ok.2.1
  have h01 := hS.tk.ok.1
  have h120 := hS.im
  have hnb := hS.nb
  have hszz := hS.s3
  have hur := hS.ur
  have hnw := hS.nw
  have h8 := (hS.tk.gl hl).2.1
  have h16 := hS.tk.ok.2.2.2 l c hl hc
  show Zn g zX9_requireTypable 0 [some (.ref 1), some (.int (nI l)), some (.int (nI c)), some (.int (nI q)), some (.int cd)] [] hh 1 6 _
  refine zn_aload_n (pc := 0) rfl rfl ?_
  refine zn_iload_n (pc := 1) rfl rfl ?_
  refine zn_iload_n (pc := 2) rfl rfl ?_
  refine zn_iload_n (pc := 3) rfl rfl ?_
  refine zn_callVx (pc := 4) (J := zX9_requireOffset) (o := 1) (as := [.int (nI l), .int (nI c), .int (nI q)]) (rest := []) rfl rfl rfl rfl hS.t rfl rfl rfl (Nat.le_of_ble_eq_true rfl) (Nat.le_of_ble_eq_true rfl) (Nat.le_of_ble_eq_true rfl) (Nat.le_of_ble_eq_true rfl) (q_rOff hS (l := l) (c := c) (q := q) (by omega) (by omega) (by omega)) ?_
  refine zn_iload (pc := 7) rfl rfl ?_
  refine zn_bipushN (pc := 9) 9 rfl rfl ?_
  refine zn_icmp_eq (pc := 11) (tgt := 40) (x := cd) (y := (nI 9)) rfl rfl (fun c1 => ?_) (fun c1 => ?_)
  · exact absurd (Or.inl c1) hcd
  · refine zn_iload (pc := 14) rfl rfl ?_
    refine zn_bipushN (pc := 16) 10 rfl rfl ?_
    refine zn_icmp_eq (pc := 18) (tgt := 40) (x := cd) (y := (nI 10)) rfl rfl (fun c2 => ?_) (fun c2 => ?_)
    · exact absurd (Or.inr (Or.inl c2)) hcd
    · refine zn_iload (pc := 21) rfl rfl ?_
      refine zn_callSx (pc := 23) (J := zX9_isSign) (as := [.int cd]) (rest := []) rfl (by decide) rfl rfl rfl rfl (Nat.le_of_ble_eq_true rfl) (Nat.le_of_ble_eq_true rfl) (Nat.le_of_ble_eq_true rfl) (Nat.le_of_ble_eq_true rfl) (c_isSign cd) ?_
      refine zn_if_neB (pc := 26) (tgt := 40) rfl rfl (fun c3 => ?_) (fun c3 => ?_)
      · exact absurd (Or.inr (Or.inr c3)) hcd
      · exact zn_throw (pc := 29) (E := 0) rfl (Nat.le_of_ble_eq_true rfl) (Nat.le_of_ble_eq_true rfl) ⟨rfl, rfl⟩
theorem q_rTyp_4 {pf : Nat → Option Nat} {now p sz : Nat} {Z : Nat → Nat} (hS : ST hh F z A pf now p Z sz) {l c : Nat} (hl : l < z 0) (hc : c < z (1 + l)) {q : Nat} (hq : q ≤ z (25 + 8 * l + c)) {cd : Int32} (hcd : mCode cd) (hr : ¬ cRoom z l c cd) : Zt g zX9_requireTypable [.ref 1, .int (nI l), .int (nI c), .int (nI q), .int cd] hh 1 := by
  have h24 := hS.tk.ok.2.1
  have h01 := hS.tk.ok.1
  have h120 := hS.im
  have hnb := hS.nb
  have hszz := hS.s3
  have hur := hS.ur
  have hnw := hS.nw
  have h8 := (hS.tk.gl hl).2.1
  have h16 := hS.tk.ok.2.2.2 l c hl hc
  show Zn g zX9_requireTypable 0 [some (.ref 1), some (.int (nI l)), some (.int (nI c)), some (.int (nI q)), some (.int cd)] [] hh 1 6 _
  refine zn_aload_n (pc := 0) rfl rfl ?_
  refine zn_iload_n (pc := 1) rfl rfl ?_
  refine zn_iload_n (pc := 2) rfl rfl ?_
  refine zn_iload_n (pc := 3) rfl rfl ?_
  refine zn_callVx (pc := 4) (J := zX9_requireOffset) (o := 1) (as := [.int (nI l), .int (nI c), .int (nI q)]) (rest := []) rfl rfl rfl rfl hS.t rfl rfl rfl (Nat.le_of_ble_eq_true rfl) (Nat.le_of_ble_eq_true rfl) (Nat.le_of_ble_eq_true rfl) (Nat.le_of_ble_eq_true rfl) (q_rOff hS (l := l) (c := c) (q := q) (by omega) (by omega) (by omega)) ?_
  refine zn_iload (pc := 7) rfl rfl ?_
  refine zn_bipushN (pc := 9) 9 rfl rfl ?_
  refine zn_icmp_eq (pc := 11) (tgt := 40) (x := cd) (y := (nI 9)) rfl rfl (fun c1 => ?_) (fun c1 => ?_)
  · refine zn_aload_n (pc := 40) rfl rfl ?_
    refine zn_callVx (pc := 41) (J := zX9_cells) (o := 1) (as := []) (rest := []) rfl rfl rfl rfl hS.t rfl rfl rfl (Nat.le_of_ble_eq_true rfl) (Nat.le_of_ble_eq_true rfl) (Nat.le_of_ble_eq_true rfl) (Nat.le_of_ble_eq_true rfl) (q_cells hS) ?_
    refine zn_iload_n (pc := 44) rfl rfl ?_
    refine zn_iload_n (pc := 45) rfl rfl ?_
    refine zn_iload (pc := 46) rfl rfl ?_
    refine zn_callVx (pc := 48) (J := zX1_hasRoomFor) (o := 11) (as := [.int (nI l), .int (nI c), .int cd]) (rest := []) rfl rfl rfl rfl hS.o11 rfl rfl rfl (Nat.le_of_ble_eq_true rfl) (Nat.le_of_ble_eq_true rfl) (Nat.le_of_ble_eq_true rfl) (Nat.le_of_ble_eq_true rfl) (c_hasRoomFor hS.L (l := l) (c := c) (by omega) (by omega) cd) ?_
    refine zn_if_neB (pc := 51) (tgt := 65) rfl rfl (fun c2 => ?_) (fun c2 => ?_)
    · exact absurd c2 hr
    · exact zn_throw (pc := 54) (E := 1) rfl (Nat.le_of_ble_eq_true rfl) (Nat.le_of_ble_eq_true rfl) ⟨rfl, rfl⟩
  · refine zn_iload (pc := 14) rfl rfl ?_
    refine zn_bipushN (pc := 16) 10 rfl rfl ?_
    refine zn_icmp_eq (pc := 18) (tgt := 40) (x := cd) (y := (nI 10)) rfl rfl (fun c3 => ?_) (fun c3 => ?_)
    · refine zn_aload_n (pc := 40) rfl rfl ?_
      refine zn_callVx (pc := 41) (J := zX9_cells) (o := 1) (as := []) (rest := []) rfl rfl rfl rfl hS.t rfl rfl rfl (Nat.le_of_ble_eq_true rfl) (Nat.le_of_ble_eq_true rfl) (Nat.le_of_ble_eq_true rfl) (Nat.le_of_ble_eq_true rfl) (q_cells hS) ?_
      refine zn_iload_n (pc := 44) rfl rfl ?_
      refine zn_iload_n (pc := 45) rfl rfl ?_
      refine zn_iload (pc := 46) rfl rfl ?_
      refine zn_callVx (pc := 48) (J := zX1_hasRoomFor) (o := 11) (as := [.int (nI l), .int (nI c), .int cd]) (rest := []) rfl rfl rfl rfl hS.o11 rfl rfl rfl (Nat.le_of_ble_eq_true rfl) (Nat.le_of_ble_eq_true rfl) (Nat.le_of_ble_eq_true rfl) (Nat.le_of_ble_eq_true rfl) (c_hasRoomFor hS.L (l := l) (c := c) (by omega) (by omega) cd) ?_
      refine zn_if_neB (pc := 51) (tgt := 65) rfl rfl (fun c4 => ?_) (fun c4 => ?_)
      · exact absurd c4 hr
      · exact zn_throw (pc := 54) (E := 1) rfl (Nat.le_of_ble_eq_true rfl) (Nat.le_of_ble_eq_true rfl) ⟨rfl, rfl⟩
    · refine zn_iload (pc := 21) rfl rfl ?_
      refine zn_callSx (pc := 23) (J := zX9_isSign) (as := [.int cd]) (rest := []) rfl (by decide) rfl rfl rfl rfl (Nat.le_of_ble_eq_true rfl) (Nat.le_of_ble_eq_true rfl) (Nat.le_of_ble_eq_true rfl) (Nat.le_of_ble_eq_true rfl) (c_isSign cd) ?_
      refine zn_if_neB (pc := 26) (tgt := 40) rfl rfl (fun c5 => ?_) (fun c5 => ?_)
      · refine zn_aload_n (pc := 40) rfl rfl ?_
        refine zn_callVx (pc := 41) (J := zX9_cells) (o := 1) (as := []) (rest := []) rfl rfl rfl rfl hS.t rfl rfl rfl (Nat.le_of_ble_eq_true rfl) (Nat.le_of_ble_eq_true rfl) (Nat.le_of_ble_eq_true rfl) (Nat.le_of_ble_eq_true rfl) (q_cells hS) ?_
        refine zn_iload_n (pc := 44) rfl rfl ?_
        refine zn_iload_n (pc := 45) rfl rfl ?_
        refine zn_iload (pc := 46) rfl rfl ?_
        refine zn_callVx (pc := 48) (J := zX1_hasRoomFor) (o := 11) (as := [.int (nI l), .int (nI c), .int cd]) (rest := []) rfl rfl rfl rfl hS.o11 rfl rfl rfl (Nat.le_of_ble_eq_true rfl) (Nat.le_of_ble_eq_true rfl) (Nat.le_of_ble_eq_true rfl) (Nat.le_of_ble_eq_true rfl) (c_hasRoomFor hS.L (l := l) (c := c) (by omega) (by omega) cd) ?_
        refine zn_if_neB (pc := 51) (tgt := 65) rfl rfl (fun c6 => ?_) (fun c6 => ?_)
        · exact absurd c6 hr
        · exact zn_throw (pc := 54) (E := 1) rfl (Nat.le_of_ble_eq_true rfl) (Nat.le_of_ble_eq_true rfl) ⟨rfl, rfl⟩
      · exact absurd hcd (fun q => by rcases q with q | q | q <;> first | exact absurd q (by assumption) | exact c5 q)
theorem q_rTyp  {pf : Nat → Option Nat} {now p sz : Nat} {Z : Nat → Nat} (hS : ST hh F z A pf now p Z sz) {l c : Nat} (hl : l < z 0) (hc : c < z (1 + l)) {q : Nat} (hq : q ≤ z (25 + 8 * l + c)) {cd : Int32} (hcd : mCode cd) (hr : cRoom z l c cd) : Zx g zX9_requireTypable [.ref 1, .int (nI l), .int (nI c), .int (nI q), .int cd] (hh) none (hh) := by
  have h24 := hS.tk.ok.2.1
  have h01 := hS.tk.ok.1
  have h120 := hS.im
  have hnb := hS.nb
  have hszz := hS.s3
  have hur := hS.ur
  have hnw := hS.nw
  have h8 := (hS.tk.gl hl).2.1
  have h16 := hS.tk.ok.2.2.2 l c hl hc
  show Zn g zX9_requireTypable 0 [some (.ref 1), some (.int (nI l)), some (.int (nI c)), some (.int (nI q)), some (.int cd)] [] (hh) 0 0 _
  refine zn_aload_n (pc := 0) rfl rfl ?_
  refine zn_iload_n (pc := 1) rfl rfl ?_
  refine zn_iload_n (pc := 2) rfl rfl ?_
  refine zn_iload_n (pc := 3) rfl rfl ?_
  refine zn_callVx (pc := 4) (J := zX9_requireOffset) (o := 1) (as := [.int (nI l), .int (nI c), .int (nI q)]) (rest := []) rfl rfl rfl rfl hS.t rfl rfl rfl (Nat.le_of_ble_eq_true rfl) (Nat.le_of_ble_eq_true rfl) (Nat.le_of_ble_eq_true rfl) (Nat.le_of_ble_eq_true rfl) (q_rOff hS (l := l) (c := c) (q := q) (by omega) (by omega) (by omega)) ?_
  refine zn_iload (pc := 7) rfl rfl ?_
  refine zn_bipushN (pc := 9) 9 rfl rfl ?_
  refine zn_icmp_eq (pc := 11) (tgt := 40) (x := cd) (y := (nI 9)) rfl rfl (fun c1 => ?_) (fun c1 => ?_)
  · refine zn_aload_n (pc := 40) rfl rfl ?_
    refine zn_callVx (pc := 41) (J := zX9_cells) (o := 1) (as := []) (rest := []) rfl rfl rfl rfl hS.t rfl rfl rfl (Nat.le_of_ble_eq_true rfl) (Nat.le_of_ble_eq_true rfl) (Nat.le_of_ble_eq_true rfl) (Nat.le_of_ble_eq_true rfl) (q_cells hS) ?_
    refine zn_iload_n (pc := 44) rfl rfl ?_
    refine zn_iload_n (pc := 45) rfl rfl ?_
    refine zn_iload (pc := 46) rfl rfl ?_
    refine zn_callVx (pc := 48) (J := zX1_hasRoomFor) (o := 11) (as := [.int (nI l), .int (nI c), .int cd]) (rest := []) rfl rfl rfl rfl hS.o11 rfl rfl rfl (Nat.le_of_ble_eq_true rfl) (Nat.le_of_ble_eq_true rfl) (Nat.le_of_ble_eq_true rfl) (Nat.le_of_ble_eq_true rfl) (c_hasRoomFor hS.L (l := l) (c := c) (by omega) (by omega) cd) ?_
    refine zn_if_neB (pc := 51) (tgt := 65) rfl rfl (fun c2 => ?_) (fun c2 => ?_)
    · exact zx_v (pc := 65) rfl rfl rfl rfl
    · exact absurd hr c2
  · refine zn_iload (pc := 14) rfl rfl ?_
    refine zn_bipushN (pc := 16) 10 rfl rfl ?_
    refine zn_icmp_eq (pc := 18) (tgt := 40) (x := cd) (y := (nI 10)) rfl rfl (fun c3 => ?_) (fun c3 => ?_)
    · refine zn_aload_n (pc := 40) rfl rfl ?_
      refine zn_callVx (pc := 41) (J := zX9_cells) (o := 1) (as := []) (rest := []) rfl rfl rfl rfl hS.t rfl rfl rfl (Nat.le_of_ble_eq_true rfl) (Nat.le_of_ble_eq_true rfl) (Nat.le_of_ble_eq_true rfl) (Nat.le_of_ble_eq_true rfl) (q_cells hS) ?_
      refine zn_iload_n (pc := 44) rfl rfl ?_
      refine zn_iload_n (pc := 45) rfl rfl ?_
      refine zn_iload (pc := 46) rfl rfl ?_
      refine zn_callVx (pc := 48) (J := zX1_hasRoomFor) (o := 11) (as := [.int (nI l), .int (nI c), .int cd]) (rest := []) rfl rfl rfl rfl hS.o11 rfl rfl rfl (Nat.le_of_ble_eq_true rfl) (Nat.le_of_ble_eq_true rfl) (Nat.le_of_ble_eq_true rfl) (Nat.le_of_ble_eq_true rfl) (c_hasRoomFor hS.L (l := l) (c := c) (by omega) (by omega) cd) ?_
      refine zn_if_neB (pc := 51) (tgt := 65) rfl rfl (fun c4 => ?_) (fun c4 => ?_)
      · exact zx_v (pc := 65) rfl rfl rfl rfl
      · exact absurd hr c4
    · refine zn_iload (pc := 21) rfl rfl ?_
      refine zn_callSx (pc := 23) (J := zX9_isSign) (as := [.int cd]) (rest := []) rfl (by decide) rfl rfl rfl rfl (Nat.le_of_ble_eq_true rfl) (Nat.le_of_ble_eq_true rfl) (Nat.le_of_ble_eq_true rfl) (Nat.le_of_ble_eq_true rfl) (c_isSign cd) ?_
      refine zn_if_neB (pc := 26) (tgt := 40) rfl rfl (fun c5 => ?_) (fun c5 => ?_)
      · refine zn_aload_n (pc := 40) rfl rfl ?_
        refine zn_callVx (pc := 41) (J := zX9_cells) (o := 1) (as := []) (rest := []) rfl rfl rfl rfl hS.t rfl rfl rfl (Nat.le_of_ble_eq_true rfl) (Nat.le_of_ble_eq_true rfl) (Nat.le_of_ble_eq_true rfl) (Nat.le_of_ble_eq_true rfl) (q_cells hS) ?_
        refine zn_iload_n (pc := 44) rfl rfl ?_
        refine zn_iload_n (pc := 45) rfl rfl ?_
        refine zn_iload (pc := 46) rfl rfl ?_
        refine zn_callVx (pc := 48) (J := zX1_hasRoomFor) (o := 11) (as := [.int (nI l), .int (nI c), .int cd]) (rest := []) rfl rfl rfl rfl hS.o11 rfl rfl rfl (Nat.le_of_ble_eq_true rfl) (Nat.le_of_ble_eq_true rfl) (Nat.le_of_ble_eq_true rfl) (Nat.le_of_ble_eq_true rfl) (c_hasRoomFor hS.L (l := l) (c := c) (by omega) (by omega) cd) ?_
        refine zn_if_neB (pc := 51) (tgt := 65) rfl rfl (fun c6 => ?_) (fun c6 => ?_)
        · exact zx_v (pc := 65) rfl rfl rfl rfl
        · exact absurd hr c6
      · exact absurd hcd (fun q => by rcases q with q | q | q <;> first | exact absurd q (by assumption) | exact c5 q)
theorem q_rSp_1 {pf : Nat → Option Nat} {now p sz : Nat} {Z : Nat → Nat} (hS : ST hh F z A pf now p Z sz) {x y : Int32} (hbad : ¬ zin x (z 0)) : Zt g zX9_requireShownPlace [.ref 1, .int x, .int y] hh 2 := by
  show Zn g zX9_requireShownPlace 0 [some (.ref 1), some (.int x), some (.int y)] [] hh 1 6 _
  refine zn_aload_n (pc := 0) rfl rfl ?_
  refine zn_iload_n (pc := 1) rfl rfl ?_
  exact zn_callVt (pc := 2) (J := zX9_requireLine) (o := 1) (as := [.int x]) (rest := []) rfl rfl rfl rfl hS.t rfl rfl rfl (Nat.le_of_ble_eq_true rfl) (Nat.le_of_ble_eq_true rfl) (Nat.le_of_ble_eq_true rfl) (Nat.le_of_ble_eq_true rfl) (q_rLine_t hS (x := x) hbad) ⟨rfl, rfl⟩
theorem q_rSp_2 {pf : Nat → Option Nat} {now p sz : Nat} {Z : Nat → Nat} (hS : ST hh F z A pf now p Z sz) {l : Nat} (hl : l < z 0) {y : Int32} (hy : y < 0) : Zt g zX9_requireShownPlace [.ref 1, .int (nI l), .int y] hh 2 := by
  have h24 := hS.tk.ok.2.1
  have h01 := hS.tk.ok.1
  have h120 := hS.im
  have hnb := hS.nb
  have hszz := hS.s3
  have hur := hS.ur
  have hnw := hS.nw
  have h8 := (hS.tk.gl hl).2.1
  have hzl1 := (hS.tk.gl hl).1
  show Zn g zX9_requireShownPlace 0 [some (.ref 1), some (.int (nI l)), some (.int y)] [] hh 1 6 _
  refine zn_aload_n (pc := 0) rfl rfl ?_
  refine zn_iload_n (pc := 1) rfl rfl ?_
  refine zn_callVx (pc := 2) (J := zX9_requireLine) (o := 1) (as := [.int (nI l)]) (rest := []) rfl rfl rfl rfl hS.t rfl rfl rfl (Nat.le_of_ble_eq_true rfl) (Nat.le_of_ble_eq_true rfl) (Nat.le_of_ble_eq_true rfl) (Nat.le_of_ble_eq_true rfl) (q_rLine hS (x := (nI l)) ((zin_nI (by omega)).mpr (by omega))) ?_
  refine zn_iload_n (pc := 5) rfl rfl ?_
  refine zn_if_ge (pc := 6) (tgt := 20) (x := y) rfl rfl (fun c1 => ?_) (fun c1 => ?_)
  · exact absurd hy (Int32.not_lt.mpr c1)
  · exact zn_throw (pc := 9) (E := 2) rfl (Nat.le_of_ble_eq_true rfl) (Nat.le_of_ble_eq_true rfl) ⟨rfl, rfl⟩
theorem q_rSp  {pf : Nat → Option Nat} {now p sz : Nat} {Z : Nat → Nat} (hS : ST hh F z A pf now p Z sz) {l : Nat} (hl : l < z 0) {q : Nat} (hq : q < 2 ^ 31) : Zx g zX9_requireShownPlace [.ref 1, .int (nI l), .int (nI q)] (hh) none (hh) := by
  have h24 := hS.tk.ok.2.1
  have h01 := hS.tk.ok.1
  have h120 := hS.im
  have hnb := hS.nb
  have hszz := hS.s3
  have hur := hS.ur
  have hnw := hS.nw
  have h8 := (hS.tk.gl hl).2.1
  have hzl1 := (hS.tk.gl hl).1
  show Zn g zX9_requireShownPlace 0 [some (.ref 1), some (.int (nI l)), some (.int (nI q))] [] (hh) 0 0 _
  refine zn_aload_n (pc := 0) rfl rfl ?_
  refine zn_iload_n (pc := 1) rfl rfl ?_
  refine zn_callVx (pc := 2) (J := zX9_requireLine) (o := 1) (as := [.int (nI l)]) (rest := []) rfl rfl rfl rfl hS.t rfl rfl rfl (Nat.le_of_ble_eq_true rfl) (Nat.le_of_ble_eq_true rfl) (Nat.le_of_ble_eq_true rfl) (Nat.le_of_ble_eq_true rfl) (q_rLine hS (x := (nI l)) ((zin_nI (by omega)).mpr (by omega))) ?_
  refine zn_iload_n (pc := 5) rfl rfl ?_
  refine zn_if_geN (pc := 6) (tgt := 20) (x := q) rfl rfl (by omega) ?_
  exact zx_v (pc := 20) rfl rfl rfl rfl
theorem q_rBlk  {pf : Nat → Option Nat} {now p sz : Nat} {Z : Nat → Nat} (hS : ST hh F z A pf now p Z sz) {b : Nat} (hb : b < nbb z) : Zx g zX9_requireBlock [.ref 1, .int (nI b)] (hh) none (hh) := by
  have h24 := hS.tk.ok.2.1
  have h01 := hS.tk.ok.1
  have h120 := hS.im
  have hnb := hS.nb
  have hszz := hS.s3
  have hur := hS.ur
  have hnw := hS.nw
  show Zn g zX9_requireBlock 0 [some (.ref 1), some (.int (nI b))] [] (hh) 0 0 _
  refine zn_iload_n (pc := 0) rfl rfl ?_
  refine zn_if_ltN (pc := 1) (tgt := 18) (x := b) rfl rfl (by omega) ?_
  refine zn_iload_n (pc := 4) rfl rfl ?_
  refine zn_aload_n (pc := 5) rfl rfl ?_
  refine zn_get (pc := 6) (v := .ref 10) rfl hS.t rfl ?_
  refine zn_get (pc := 9) (v := .ref 18) rfl hS.lo rfl ?_
  refine zn_callVx (pc := 12) (J := zX0_size) (o := 18) (as := []) (rest := [.int (nI b)]) rfl rfl rfl rfl hS.o18 rfl rfl rfl (Nat.le_of_ble_eq_true rfl) (Nat.le_of_ble_eq_true rfl) (Nat.le_of_ble_eq_true rfl) (Nat.le_of_ble_eq_true rfl) (c_size_10 hS.L.b hS.nb) ?_
  refine zn_icmp_ltN (pc := 15) (tgt := 29) (x := b) (y := (nbb z)) rfl rfl (by omega) (by omega) (fun c2 => ?_) (fun c2 => ?_)
  · exact zx_v (pc := 29) rfl rfl rfl rfl
  · exfalso; omega
theorem q_rBlk_t {pf : Nat → Option Nat} {now p sz : Nat} {Z : Nat → Nat} (hS : ST hh F z A pf now p Z sz) {x : Int32} (hbad : ¬ zin x (nbb z)) : Zt g zX9_requireBlock [.ref 1, .int x] hh 2 := by
  have h24 := hS.tk.ok.2.1
  have h01 := hS.tk.ok.1
  have h120 := hS.im
  have hnb := hS.nb
  have hszz := hS.s3
  have hur := hS.ur
  have hnw := hS.nw
  show Zn g zX9_requireBlock 0 [some (.ref 1), some (.int x)] [] hh 1 6 _
  refine zn_iload_n (pc := 0) rfl rfl ?_
  refine zn_if_lt (pc := 1) (tgt := 18) (x := x) rfl rfl (fun c1 => ?_) (fun c1 => ?_)
  · have k0 := c1
    exact zn_throw (pc := 18) (E := 2) rfl (Nat.le_of_ble_eq_true rfl) (Nat.le_of_ble_eq_true rfl) ⟨rfl, rfl⟩
  · have k0 := c1
    refine zn_iload_n (pc := 4) rfl rfl ?_
    refine zn_aload_n (pc := 5) rfl rfl ?_
    refine zn_get (pc := 6) (v := .ref 10) rfl hS.t rfl ?_
    refine zn_get (pc := 9) (v := .ref 18) rfl hS.lo rfl ?_
    refine zn_callVx (pc := 12) (J := zX0_size) (o := 18) (as := []) (rest := [.int x]) rfl rfl rfl rfl hS.o18 rfl rfl rfl (Nat.le_of_ble_eq_true rfl) (Nat.le_of_ble_eq_true rfl) (Nat.le_of_ble_eq_true rfl) (Nat.le_of_ble_eq_true rfl) (c_size_10 hS.L.b hS.nb) ?_
    refine zn_icmp_lt (pc := 15) (tgt := 29) (x := x) (y := (nI (nbb z))) rfl rfl (fun c2 => ?_) (fun c2 => ?_)
    · exact absurd (zin_mk (by omega) k0 (Int32.not_le.mpr c2)) hbad
    · exact zn_throw (pc := 18) (E := 2) rfl (Nat.le_of_ble_eq_true rfl) (Nat.le_of_ble_eq_true rfl) ⟨rfl, rfl⟩
theorem q_rInp  {pf : Nat → Option Nat} {now p sz : Nat} {Z : Nat → Nat} (hS : ST hh F z A pf now p Z sz) {kd : Nat} (hk : kd ≤ 2) (hr : mrl (A 5) kd (F 11) 0 0 0 0 = F 11) : Zx g zX9_requireInput [.ref 1, .int (nI kd)] (hh) none (hh) := by
  have h24 := hS.tk.ok.2.1
  have h01 := hS.tk.ok.1
  have h120 := hS.im
  have hnb := hS.nb
  have hszz := hS.s3
  have hur := hS.ur
  have hnw := hS.nw
  show Zn g zX9_requireInput 0 [some (.ref 1), some (.int (nI kd))] [] (hh) 0 0 _
  refine zn_aload_n (pc := 0) rfl rfl ?_
  refine zn_get (pc := 1) (v := .ref 2) rfl hS.t rfl ?_
  refine zn_iload_n (pc := 4) rfl rfl ?_
  refine zn_callVx (pc := 5) (J := zX4_firstFault) (o := 2) (as := [.int (nI kd)]) (rest := []) rfl rfl rfl rfl hS.i2 rfl rfl rfl (Nat.le_of_ble_eq_true rfl) (Nat.le_of_ble_eq_true rfl) (Nat.le_of_ble_eq_true rfl) (Nat.le_of_ble_eq_true rfl) (c_firstFault hS.im hS.ib hS.i2 hS.i3 (kd := kd) (by omega)) ?_
  refine zn_aload_n (pc := 8) rfl rfl ?_
  refine zn_get (pc := 9) (v := .ref 2) rfl hS.t rfl ?_
  refine zn_callVx (pc := 12) (J := zX4_length) (o := 2) (as := []) (rest := [.int (nI (mrl (A 5) kd (F 11) 0 0 0 0))]) rfl rfl rfl rfl hS.i2 rfl rfl rfl (Nat.le_of_ble_eq_true rfl) (Nat.le_of_ble_eq_true rfl) (Nat.le_of_ble_eq_true rfl) (Nat.le_of_ble_eq_true rfl) (c_ilen hS.i2) ?_
  refine zn_icmp_eqN (pc := 15) (tgt := 29) (x := (mrl (A 5) kd (F 11) 0 0 0 0)) (y := (F 11)) rfl rfl (by have := mrl_le (A 5) kd (F 11) 0 0 0 0; omega) (by have := mrl_le (A 5) kd (F 11) 0 0 0 0; omega) (fun c1 => ?_) (fun c1 => ?_)
  · exact zx_v (pc := 29) rfl rfl rfl rfl
  · exact absurd hr c1
theorem q_rInp_t {pf : Nat → Option Nat} {now p sz : Nat} {Z : Nat → Nat} (hS : ST hh F z A pf now p Z sz) {kd : Nat} (hk : kd ≤ 2) (hr : ¬ mrl (A 5) kd (F 11) 0 0 0 0 = F 11) : Zt g zX9_requireInput [.ref 1, .int (nI kd)] hh 1 := by
  have h24 := hS.tk.ok.2.1
  have h01 := hS.tk.ok.1
  have h120 := hS.im
  have hnb := hS.nb
  have hszz := hS.s3
  have hur := hS.ur
  have hnw := hS.nw
  show Zn g zX9_requireInput 0 [some (.ref 1), some (.int (nI kd))] [] hh 1 6 _
  refine zn_aload_n (pc := 0) rfl rfl ?_
  refine zn_get (pc := 1) (v := .ref 2) rfl hS.t rfl ?_
  refine zn_iload_n (pc := 4) rfl rfl ?_
  refine zn_callVx (pc := 5) (J := zX4_firstFault) (o := 2) (as := [.int (nI kd)]) (rest := []) rfl rfl rfl rfl hS.i2 rfl rfl rfl (Nat.le_of_ble_eq_true rfl) (Nat.le_of_ble_eq_true rfl) (Nat.le_of_ble_eq_true rfl) (Nat.le_of_ble_eq_true rfl) (c_firstFault hS.im hS.ib hS.i2 hS.i3 (kd := kd) (by omega)) ?_
  refine zn_aload_n (pc := 8) rfl rfl ?_
  refine zn_get (pc := 9) (v := .ref 2) rfl hS.t rfl ?_
  refine zn_callVx (pc := 12) (J := zX4_length) (o := 2) (as := []) (rest := [.int (nI (mrl (A 5) kd (F 11) 0 0 0 0))]) rfl rfl rfl rfl hS.i2 rfl rfl rfl (Nat.le_of_ble_eq_true rfl) (Nat.le_of_ble_eq_true rfl) (Nat.le_of_ble_eq_true rfl) (Nat.le_of_ble_eq_true rfl) (c_ilen hS.i2) ?_
  refine zn_icmp_eqN (pc := 15) (tgt := 29) (x := (mrl (A 5) kd (F 11) 0 0 0 0)) (y := (F 11)) rfl rfl (by have := mrl_le (A 5) kd (F 11) 0 0 0 0; omega) (by have := mrl_le (A 5) kd (F 11) 0 0 0 0; omega) (fun c1 => ?_) (fun c1 => ?_)
  · exact absurd c1 hr
  · exact zn_throw (pc := 18) (E := 1) rfl (Nat.le_of_ble_eq_true rfl) (Nat.le_of_ble_eq_true rfl) ⟨rfl, rfl⟩
theorem q_signAt  {pf : Nat → Option Nat} {now p sz : Nat} {Z : Nat → Nat} (hS : ST hh F z A pf now p Z sz) {l c : Nat} (hl : l < z 0) (hc : c < z (1 + l)) {q : Nat} (hq : q < z (25 + 8 * l + c)) : Zx g zX9_signAt [.ref 1, .int (nI l), .int (nI c), .int (nI q)] (hh) (some (.int (nI (z (217 + 16 * (8 * l + c) + q))))) (hh) := by
  have h24 := hS.tk.ok.2.1
  have h01 := hS.tk.ok.1
  have h120 := hS.im
  have hnb := hS.nb
  have hszz := hS.s3
  have hur := hS.ur
  have hnw := hS.nw
  have h8 := (hS.tk.gl hl).2.1
  have h16 := hS.tk.ok.2.2.2 l c hl hc
  have hce := hS.fl.cell hl hc
  show Zn g zX9_signAt 0 [some (.ref 1), some (.int (nI l)), some (.int (nI c)), some (.int (nI q))] [] (hh) 0 0 _
  refine zn_aload_n (pc := 0) rfl rfl ?_
  refine zn_get (pc := 1) (v := .ref 6) rfl hS.t rfl ?_
  refine zn_callVx (pc := 4) (J := zX3_page) (o := 6) (as := []) (rest := []) rfl rfl rfl rfl hS.h6 rfl rfl rfl (Nat.le_of_ble_eq_true rfl) (Nat.le_of_ble_eq_true rfl) (Nat.le_of_ble_eq_true rfl) (Nat.le_of_ble_eq_true rfl) (q_page hS) ?_
  refine zn_aload_n (pc := 7) rfl rfl ?_
  refine zn_callVx (pc := 8) (J := zX9_cells) (o := 1) (as := []) (rest := [.ref p]) rfl rfl rfl rfl hS.t rfl rfl rfl (Nat.le_of_ble_eq_true rfl) (Nat.le_of_ble_eq_true rfl) (Nat.le_of_ble_eq_true rfl) (Nat.le_of_ble_eq_true rfl) (q_cells hS) ?_
  refine zn_iload_n (pc := 11) rfl rfl ?_
  refine zn_iload_n (pc := 12) rfl rfl ?_
  refine zn_callVx (pc := 13) (J := zX1_start) (o := 11) (as := [.int (nI l), .int (nI c)]) (rest := [.ref p]) rfl rfl rfl rfl hS.o11 rfl rfl rfl (Nat.le_of_ble_eq_true rfl) (Nat.le_of_ble_eq_true rfl) (Nat.le_of_ble_eq_true rfl) (Nat.le_of_ble_eq_true rfl) (c_start_10 hS.L.ok hS.L.c (l := l) (c := c) (by omega) (by omega)) ?_
  refine zn_iload_n (pc := 16) rfl rfl ?_
  refine zn_iaddN (pc := 17) (x := (CS z l c)) (y := q) rfl ?_
  refine zn_callVx (pc := 18) (J := zX7_codeAt) (o := p) (as := [.int (nI (CS z l c + q))]) (rest := []) rfl rfl rfl rfl hS.po rfl rfl rfl (Nat.le_of_ble_eq_true rfl) (Nat.le_of_ble_eq_true rfl) (Nat.le_of_ble_eq_true rfl) (Nat.le_of_ble_eq_true rfl) (c_codeAt_i hS.po hS.qo hS.s3 hS.Zb (a := (CS z l c + q)) (by omega)) ?_
  refine zn_top (v' := .int (nI (z (217 + 16 * (8 * l + c) + q)))) (by rw [hS.fl.sign hl hc hq]) ?_
  exact zx_i (pc := 21) rfl rfl rfl rfl
theorem q_eqIn_l {pf : Nat → Option Nat} {now p sz : Nat} {Z : Nat → Nat} (hS : ST hh F z A pf now p Z sz) {l c : Nat} (hl : l < z 0) (hc : c < z (1 + l)) (hln : z (25 + 8 * l + c) = F 11) : ∀ (n : Nat) (k : Nat), k + n = F 11 → (∀ j, j < k → z (217 + 16 * (8 * l + c) + j) = A 5 j) → Zn g zX9_equalsInput 23 [some (.ref 1), some (.int (nI l)), some (.int (nI c)), some (.int (nI k))] [] (hh) 0 0 (fun r' h' => r' = .inl (some (.int (zb (sEq z (A 5) (F 11) l c (F 11))))) ∧ h' = (hh)) := by
  intro n
  induction n with
  | zero =>
    intro k hn0 hn1
    have h24 := hS.tk.ok.2.1
    have h01 := hS.tk.ok.1
    have h120 := hS.im
    have hnb := hS.nb
    have hszz := hS.s3
    have hur := hS.ur
    have hnw := hS.nw
    have h8 := (hS.tk.gl hl).2.1
    have h16 := hS.tk.ok.2.2.2 l c hl hc
    refine zn_iload_n (pc := 23) rfl rfl ?_
    refine zn_aload_n (pc := 24) rfl rfl ?_
    refine zn_get (pc := 25) (v := .ref 2) rfl hS.t rfl ?_
    refine zn_callVx (pc := 28) (J := zX4_length) (o := 2) (as := []) (rest := [.int (nI k)]) rfl rfl rfl rfl hS.i2 rfl rfl rfl (Nat.le_of_ble_eq_true rfl) (Nat.le_of_ble_eq_true rfl) (Nat.le_of_ble_eq_true rfl) (Nat.le_of_ble_eq_true rfl) (c_ilen hS.i2) ?_
    refine zn_icmp_geN (pc := 31) (tgt := 60) (x := k) (y := (F 11)) rfl rfl (by have := hS.tk.bd (217 + 16 * (8 * l + c) + k); have := hS.ib k; omega) (by have := hS.tk.bd (217 + 16 * (8 * l + c) + k); have := hS.ib k; omega) (fun c1 => ?_) (fun c1 => ?_)
    · refine zn_iconstN (pc := 60) 1 rfl rfl ?_
      exact zx_z (pc := 61) rfl rfl (by decide) (by rw [zb_t ⟨hln, fun j hj => hn1 j (by omega)⟩]; rfl) rfl
    · exfalso; omega
  | succ n ih =>
    intro k hn0 hn1
    have h24 := hS.tk.ok.2.1
    have h01 := hS.tk.ok.1
    have h120 := hS.im
    have hnb := hS.nb
    have hszz := hS.s3
    have hur := hS.ur
    have hnw := hS.nw
    have h8 := (hS.tk.gl hl).2.1
    have h16 := hS.tk.ok.2.2.2 l c hl hc
    refine zn_iload_n (pc := 23) rfl rfl ?_
    refine zn_aload_n (pc := 24) rfl rfl ?_
    refine zn_get (pc := 25) (v := .ref 2) rfl hS.t rfl ?_
    refine zn_callVx (pc := 28) (J := zX4_length) (o := 2) (as := []) (rest := [.int (nI k)]) rfl rfl rfl rfl hS.i2 rfl rfl rfl (Nat.le_of_ble_eq_true rfl) (Nat.le_of_ble_eq_true rfl) (Nat.le_of_ble_eq_true rfl) (Nat.le_of_ble_eq_true rfl) (c_ilen hS.i2) ?_
    refine zn_icmp_geN (pc := 31) (tgt := 60) (x := k) (y := (F 11)) rfl rfl (by have := hS.tk.bd (217 + 16 * (8 * l + c) + k); have := hS.ib k; omega) (by have := hS.tk.bd (217 + 16 * (8 * l + c) + k); have := hS.ib k; omega) (fun c1 => ?_) (fun c1 => ?_)
    · refine zn_iconstN (pc := 60) 1 rfl rfl ?_
      exact zx_z (pc := 61) rfl rfl (by decide) (by rw [zb_t ⟨hln, fun j hj => hn1 j (by omega)⟩]; rfl) rfl
    · refine zn_aload_n (pc := 34) rfl rfl ?_
      refine zn_iload_n (pc := 35) rfl rfl ?_
      refine zn_iload_n (pc := 36) rfl rfl ?_
      refine zn_iload_n (pc := 37) rfl rfl ?_
      refine zn_callVx (pc := 38) (J := zX9_signAt) (o := 1) (as := [.int (nI l), .int (nI c), .int (nI k)]) (rest := []) rfl rfl rfl rfl hS.t rfl rfl rfl (Nat.le_of_ble_eq_true rfl) (Nat.le_of_ble_eq_true rfl) (Nat.le_of_ble_eq_true rfl) (Nat.le_of_ble_eq_true rfl) (q_signAt hS (l := l) (c := c) (q := k) (by omega) (by omega) (by omega)) ?_
      refine zn_aload_n (pc := 41) rfl rfl ?_
      refine zn_get (pc := 42) (v := .ref 2) rfl hS.t rfl ?_
      refine zn_iload_n (pc := 45) rfl rfl ?_
      refine zn_callVx (pc := 46) (J := zX4_codeAt) (o := 2) (as := [.int (nI k)]) (rest := [.int (nI (z (217 + 16 * (8 * l + c) + k)))]) rfl rfl rfl rfl hS.i2 rfl rfl rfl (Nat.le_of_ble_eq_true rfl) (Nat.le_of_ble_eq_true rfl) (Nat.le_of_ble_eq_true rfl) (Nat.le_of_ble_eq_true rfl) (c_icode hS.im hS.ib hS.i2 hS.i3 (a := k) (by omega)) ?_
      refine zn_icmp_eqN (pc := 49) (tgt := 54) (x := (z (217 + 16 * (8 * l + c) + k))) (y := (A 5 k)) rfl rfl (by have := hS.tk.bd (217 + 16 * (8 * l + c) + k); have := hS.ib k; omega) (by have := hS.tk.bd (217 + 16 * (8 * l + c) + k); have := hS.ib k; omega) (fun c2 => ?_) (fun c2 => ?_)
      · refine zn_iincN (pc := 54) (L' := [some (.ref 1), some (.int (nI l)), some (.int (nI c)), some (.int (nI (k + 1)))]) 1 rfl rfl rfl (by decide) rfl ?_
        refine zn_goto (pc := 57) (tgt := 23) rfl rfl ?_
        exact ih (k + 1) (by omega) (fun j hj => by rcases Nat.lt_or_ge j k with r | r; exact hn1 j r; rw [show j = k by omega]; assumption)
      · refine zn_iconstN (pc := 52) 0 rfl rfl ?_
        exact zx_z (pc := 53) rfl rfl (by decide) (by rw [zb_f (fun q9 => absurd (q9.2 k (by omega)) (by assumption))]; rfl) rfl
theorem q_eqIn  {pf : Nat → Option Nat} {now p sz : Nat} {Z : Nat → Nat} (hS : ST hh F z A pf now p Z sz) {l c : Nat} (hl : l < z 0) (hc : c < z (1 + l)) : Zx g zX9_equalsInput [.ref 1, .int (nI l), .int (nI c)] (hh) (some (.int (zb (sEq z (A 5) (F 11) l c (F 11))))) (hh) := by
  have h24 := hS.tk.ok.2.1
  have h01 := hS.tk.ok.1
  have h120 := hS.im
  have hnb := hS.nb
  have hszz := hS.s3
  have hur := hS.ur
  have hnw := hS.nw
  have h8 := (hS.tk.gl hl).2.1
  have h16 := hS.tk.ok.2.2.2 l c hl hc
  show Zn g zX9_equalsInput 0 [some (.ref 1), some (.int (nI l)), some (.int (nI c)), none] [] (hh) 0 0 _
  refine zn_aload_n (pc := 0) rfl rfl ?_
  refine zn_callVx (pc := 1) (J := zX9_cells) (o := 1) (as := []) (rest := []) rfl rfl rfl rfl hS.t rfl rfl rfl (Nat.le_of_ble_eq_true rfl) (Nat.le_of_ble_eq_true rfl) (Nat.le_of_ble_eq_true rfl) (Nat.le_of_ble_eq_true rfl) (q_cells hS) ?_
  refine zn_iload_n (pc := 4) rfl rfl ?_
  refine zn_iload_n (pc := 5) rfl rfl ?_
  refine zn_callVx (pc := 6) (J := zX1_length) (o := 11) (as := [.int (nI l), .int (nI c)]) (rest := []) rfl rfl rfl rfl hS.o11 rfl rfl rfl (Nat.le_of_ble_eq_true rfl) (Nat.le_of_ble_eq_true rfl) (Nat.le_of_ble_eq_true rfl) (Nat.le_of_ble_eq_true rfl) (c_length_10 hS.L.ok hS.L.c (l := l) (c := c) (by omega) (by omega)) ?_
  refine zn_aload_n (pc := 9) rfl rfl ?_
  refine zn_get (pc := 10) (v := .ref 2) rfl hS.t rfl ?_
  refine zn_callVx (pc := 13) (J := zX4_length) (o := 2) (as := []) (rest := [.int (nI (z (25 + 8 * l + c)))]) rfl rfl rfl rfl hS.i2 rfl rfl rfl (Nat.le_of_ble_eq_true rfl) (Nat.le_of_ble_eq_true rfl) (Nat.le_of_ble_eq_true rfl) (Nat.le_of_ble_eq_true rfl) (c_ilen hS.i2) ?_
  refine zn_icmp_eqN (pc := 16) (tgt := 21) (x := (z (25 + 8 * l + c))) (y := (F 11)) rfl rfl (by omega) (by omega) (fun c1 => ?_) (fun c1 => ?_)
  · refine zn_iconstN (pc := 21) 0 rfl rfl ?_
    refine zn_istore_n (pc := 22) (L' := [some (.ref 1), some (.int (nI l)), some (.int (nI c)), some (.int (nI 0))]) rfl (by decide) rfl ?_
    exact q_eqIn_l hS hl hc (by assumption) (F 11) 0 (by omega) (fun j hj => absurd hj (by omega))
  · refine zn_iconstN (pc := 19) 0 rfl rfl ?_
    exact zx_z (pc := 20) rfl rfl (by decide) (by rw [zb_f (fun q9 => absurd q9.1 (by assumption))]; rfl) rfl
theorem q_find_i {pf : Nat → Option Nat} {now p sz : Nat} {Z : Nat → Nat} (hS : ST hh F z A pf now p Z sz) {ln cl fr : Nat} {l : Nat} (hl : l < z 0) {R R2 : Option Nat} : ∀ (n : Nat) (c : Nat), c + n = z (1 + l) → R = (mFi z (A 5) (F 11) l n c).or R2 → Zn g zX9_find 18 [some (.ref 1), some (.int (nI ln)), some (.int (nI cl)), some (.int (nI 0)), some (.int (nI (l + 1))), none] [] hh 0 0 (fun r' h' => r' = .inl (some (.int (oI (R2)))) ∧ h' = (hh)) → Zn g zX9_find 33 [some (.ref 1), some (.int (nI ln)), some (.int (nI cl)), some (.int (nI fr)), some (.int (nI l)), some (.int (nI c))] [] (hh) 0 0 (fun r' h' => r' = .inl (some (.int (oI (R)))) ∧ h' = (hh)) := by
  intro n
  induction n with
  | zero =>
    intro c hn0 hn1 hn2
    have h24 := hS.tk.ok.2.1
    have h01 := hS.tk.ok.1
    have h120 := hS.im
    have hnb := hS.nb
    have hszz := hS.s3
    have hur := hS.ur
    have hnw := hS.nw
    have h8 := (hS.tk.gl hl).2.1
    have hzl1 := (hS.tk.gl hl).1
    refine zn_iload (pc := 33) rfl rfl ?_
    refine zn_aload_n (pc := 35) rfl rfl ?_
    refine zn_callVx (pc := 36) (J := zX9_cells) (o := 1) (as := []) (rest := [.int (nI c)]) rfl rfl rfl rfl hS.t rfl rfl rfl (Nat.le_of_ble_eq_true rfl) (Nat.le_of_ble_eq_true rfl) (Nat.le_of_ble_eq_true rfl) (Nat.le_of_ble_eq_true rfl) (q_cells hS) ?_
    refine zn_iload (pc := 39) rfl rfl ?_
    refine zn_callVx (pc := 41) (J := zX1_cellsOf) (o := 11) (as := [.int (nI l)]) (rest := [.int (nI c)]) rfl rfl rfl rfl hS.o11 rfl rfl rfl (Nat.le_of_ble_eq_true rfl) (Nat.le_of_ble_eq_true rfl) (Nat.le_of_ble_eq_true rfl) (Nat.le_of_ble_eq_true rfl) (c_cellsOf_10 hS.L.ok hS.L.c (l := l) (by omega)) ?_
    refine zn_icmp_geN (pc := 44) (tgt := 73) (x := c) (y := (z (1 + l))) rfl rfl (by omega) (by omega) (fun c1 => ?_) (fun c1 => ?_)
    · refine zn_iconstN (pc := 73) 0 rfl rfl ?_
      refine zn_istore_n (pc := 74) (L' := [some (.ref 1), some (.int (nI ln)), some (.int (nI cl)), some (.int (nI 0)), some (.int (nI l)), some (.int (nI c))]) rfl (by decide) rfl ?_
      refine zn_iincN (pc := 75) (L' := [some (.ref 1), some (.int (nI ln)), some (.int (nI cl)), some (.int (nI 0)), some (.int (nI (l + 1))), some (.int (nI c))]) 1 rfl rfl rfl (by decide) rfl ?_
      refine zn_goto (pc := 78) (tgt := 18) rfl rfl ?_
      have e8 : R = R2 := by rw [hn1]; simp only [mFi]; rfl
      rw [e8]
      exact zn_sub (L' := [some (.ref 1), some (.int (nI ln)), some (.int (nI cl)), some (.int (nI 0)), some (.int (nI (l + 1))), none]) ⟨rfl, rfl, rfl, rfl, rfl, trivial⟩ hn2
    · exfalso; omega
  | succ n ih =>
    intro c hn0 hn1 hn2
    have h24 := hS.tk.ok.2.1
    have h01 := hS.tk.ok.1
    have h120 := hS.im
    have hnb := hS.nb
    have hszz := hS.s3
    have hur := hS.ur
    have hnw := hS.nw
    have h8 := (hS.tk.gl hl).2.1
    have hzl1 := (hS.tk.gl hl).1
    refine zn_iload (pc := 33) rfl rfl ?_
    refine zn_aload_n (pc := 35) rfl rfl ?_
    refine zn_callVx (pc := 36) (J := zX9_cells) (o := 1) (as := []) (rest := [.int (nI c)]) rfl rfl rfl rfl hS.t rfl rfl rfl (Nat.le_of_ble_eq_true rfl) (Nat.le_of_ble_eq_true rfl) (Nat.le_of_ble_eq_true rfl) (Nat.le_of_ble_eq_true rfl) (q_cells hS) ?_
    refine zn_iload (pc := 39) rfl rfl ?_
    refine zn_callVx (pc := 41) (J := zX1_cellsOf) (o := 11) (as := [.int (nI l)]) (rest := [.int (nI c)]) rfl rfl rfl rfl hS.o11 rfl rfl rfl (Nat.le_of_ble_eq_true rfl) (Nat.le_of_ble_eq_true rfl) (Nat.le_of_ble_eq_true rfl) (Nat.le_of_ble_eq_true rfl) (c_cellsOf_10 hS.L.ok hS.L.c (l := l) (by omega)) ?_
    refine zn_icmp_geN (pc := 44) (tgt := 73) (x := c) (y := (z (1 + l))) rfl rfl (by omega) (by omega) (fun c1 => ?_) (fun c1 => ?_)
    · refine zn_iconstN (pc := 73) 0 rfl rfl ?_
      refine zn_istore_n (pc := 74) (L' := [some (.ref 1), some (.int (nI ln)), some (.int (nI cl)), some (.int (nI 0)), some (.int (nI l)), some (.int (nI c))]) rfl (by decide) rfl ?_
      refine zn_iincN (pc := 75) (L' := [some (.ref 1), some (.int (nI ln)), some (.int (nI cl)), some (.int (nI 0)), some (.int (nI (l + 1))), some (.int (nI c))]) 1 rfl rfl rfl (by decide) rfl ?_
      refine zn_goto (pc := 78) (tgt := 18) rfl rfl ?_
      exfalso; omega
    · refine zn_aload_n (pc := 47) rfl rfl ?_
      refine zn_iload (pc := 48) rfl rfl ?_
      refine zn_iload (pc := 50) rfl rfl ?_
      refine zn_callVx (pc := 52) (J := zX9_equalsInput) (o := 1) (as := [.int (nI l), .int (nI c)]) (rest := []) rfl rfl rfl rfl hS.t rfl rfl rfl (Nat.le_of_ble_eq_true rfl) (Nat.le_of_ble_eq_true rfl) (Nat.le_of_ble_eq_true rfl) (Nat.le_of_ble_eq_true rfl) (q_eqIn hS (l := l) (c := c) (by omega) (by omega)) ?_
      refine zn_if_eqB (pc := 55) (tgt := 67) rfl rfl (fun c2 => ?_) (fun c2 => ?_)
      · refine zn_iincN (pc := 67) (L' := [some (.ref 1), some (.int (nI ln)), some (.int (nI cl)), some (.int (nI fr)), some (.int (nI l)), some (.int (nI (c + 1)))]) 1 rfl rfl rfl (by decide) rfl ?_
        refine zn_goto (pc := 70) (tgt := 33) rfl rfl ?_
        exact ih (c + 1) (by omega) (by rw [hn1]; simp only [mFi]; rw [if_neg (by assumption)]) hn2
      · refine zn_bipushN (pc := 58) 100 rfl rfl ?_
        refine zn_iload (pc := 60) rfl rfl ?_
        refine zn_imulN (pc := 62) (x := 100) (y := l) rfl ?_
        refine zn_iload (pc := 63) rfl rfl ?_
        refine zn_iaddN (pc := 65) (x := (100 * l)) (y := c) rfl ?_
        exact zx_i (pc := 66) rfl rfl (by rw [hn1]; simp only [mFi]; rw [if_pos (by assumption)]; rfl) rfl
theorem q_find_o {pf : Nat → Option Nat} {now p sz : Nat} {Z : Nat → Nat} (hS : ST hh F z A pf now p Z sz) {ln cl : Nat} : ∀ (n : Nat) (l fr : Nat) (R : Option Nat), l + n = z 0 → fr ≤ (if l < z 0 then z (1 + l) else 0) → R = mFo z (A 5) (F 11) n l fr → Zn g zX9_find 18 [some (.ref 1), some (.int (nI ln)), some (.int (nI cl)), some (.int (nI fr)), some (.int (nI l)), none] [] (hh) 0 0 (fun r' h' => r' = .inl (some (.int (oI (R)))) ∧ h' = (hh)) := by
  intro n
  induction n with
  | zero =>
    intro l fr R hn0 hn1 hn2
    have h24 := hS.tk.ok.2.1
    have h01 := hS.tk.ok.1
    have h120 := hS.im
    have hnb := hS.nb
    have hszz := hS.s3
    have hur := hS.ur
    have hnw := hS.nw
    refine zn_iload (pc := 18) rfl rfl ?_
    refine zn_aload_n (pc := 20) rfl rfl ?_
    refine zn_callVx (pc := 21) (J := zX9_cells) (o := 1) (as := []) (rest := [.int (nI l)]) rfl rfl rfl rfl hS.t rfl rfl rfl (Nat.le_of_ble_eq_true rfl) (Nat.le_of_ble_eq_true rfl) (Nat.le_of_ble_eq_true rfl) (Nat.le_of_ble_eq_true rfl) (q_cells hS) ?_
    refine zn_callVx (pc := 24) (J := zX1_lines) (o := 11) (as := []) (rest := [.int (nI l)]) rfl rfl rfl rfl hS.o11 rfl rfl rfl (Nat.le_of_ble_eq_true rfl) (Nat.le_of_ble_eq_true rfl) (Nat.le_of_ble_eq_true rfl) (Nat.le_of_ble_eq_true rfl) (c_linesK_10 hS.L.c) ?_
    refine zn_icmp_geN (pc := 27) (tgt := 81) (x := l) (y := (z 0)) rfl rfl (by omega) (by omega) (fun c1 => ?_) (fun c1 => ?_)
    · refine zn_iconst (pc := 81) (-1) rfl rfl ?_
      exact zx_i (pc := 82) rfl rfl (by rw [hn2]; simp only [mFo]; rfl) rfl
    · exfalso; omega
  | succ n ih =>
    intro l fr R hn0 hn1 hn2
    have h24 := hS.tk.ok.2.1
    have h01 := hS.tk.ok.1
    have h120 := hS.im
    have hnb := hS.nb
    have hszz := hS.s3
    have hur := hS.ur
    have hnw := hS.nw
    refine zn_iload (pc := 18) rfl rfl ?_
    refine zn_aload_n (pc := 20) rfl rfl ?_
    refine zn_callVx (pc := 21) (J := zX9_cells) (o := 1) (as := []) (rest := [.int (nI l)]) rfl rfl rfl rfl hS.t rfl rfl rfl (Nat.le_of_ble_eq_true rfl) (Nat.le_of_ble_eq_true rfl) (Nat.le_of_ble_eq_true rfl) (Nat.le_of_ble_eq_true rfl) (q_cells hS) ?_
    refine zn_callVx (pc := 24) (J := zX1_lines) (o := 11) (as := []) (rest := [.int (nI l)]) rfl rfl rfl rfl hS.o11 rfl rfl rfl (Nat.le_of_ble_eq_true rfl) (Nat.le_of_ble_eq_true rfl) (Nat.le_of_ble_eq_true rfl) (Nat.le_of_ble_eq_true rfl) (c_linesK_10 hS.L.c) ?_
    refine zn_icmp_geN (pc := 27) (tgt := 81) (x := l) (y := (z 0)) rfl rfl (by omega) (by omega) (fun c1 => ?_) (fun c1 => ?_)
    · refine zn_iconst (pc := 81) (-1) rfl rfl ?_
      exfalso; omega
    · refine zn_iload_n (pc := 30) rfl rfl ?_
      refine zn_istore (pc := 31) (L' := [some (.ref 1), some (.int (nI ln)), some (.int (nI cl)), some (.int (nI fr)), some (.int (nI l)), some (.int (nI fr))]) rfl (by decide) rfl ?_
      simp only [mFo] at hn2
      rw [if_pos (by omega)] at hn1
      exact q_find_i hS (by omega) (R2 := mFo z (A 5) (F 11) n (l + 1) 0) (z (1 + l) - fr) fr (by omega) hn2 (ih (l + 1) 0 _ (by omega) (by omega) rfl)
theorem q_find  {pf : Nat → Option Nat} {now p sz : Nat} {Z : Nat → Nat} (hS : ST hh F z A pf now p Z sz) {l c : Nat} (hl : l < z 0) (hc : c < z (1 + l)) (hr : mrl (A 5) 0 (F 11) 0 0 0 0 = F 11) : Zx g zX9_find [.ref 1, .int (nI l), .int (nI c)] (hh) (some (.int (oI (mFo z (A 5) (F 11) (z 0 - l) l (c + 1))))) (hh) := by
  have h24 := hS.tk.ok.2.1
  have h01 := hS.tk.ok.1
  have h120 := hS.im
  have hnb := hS.nb
  have hszz := hS.s3
  have hur := hS.ur
  have hnw := hS.nw
  have h8 := (hS.tk.gl hl).2.1
  have h16 := hS.tk.ok.2.2.2 l c hl hc
  show Zn g zX9_find 0 [some (.ref 1), some (.int (nI l)), some (.int (nI c)), none, none, none] [] (hh) 0 0 _
  refine zn_aload_n (pc := 0) rfl rfl ?_
  refine zn_iload_n (pc := 1) rfl rfl ?_
  refine zn_iload_n (pc := 2) rfl rfl ?_
  refine zn_callVx (pc := 3) (J := zX9_requireCell) (o := 1) (as := [.int (nI l), .int (nI c)]) (rest := []) rfl rfl rfl rfl hS.t rfl rfl rfl (Nat.le_of_ble_eq_true rfl) (Nat.le_of_ble_eq_true rfl) (Nat.le_of_ble_eq_true rfl) (Nat.le_of_ble_eq_true rfl) (q_rCell hS (x := (nI l)) (y := (nI c)) (mCell_nI hS.tk.ok (by omega) (by omega))) ?_
  refine zn_aload_n (pc := 6) rfl rfl ?_
  refine zn_iconstN (pc := 7) 0 rfl rfl ?_
  refine zn_callVx (pc := 8) (J := zX9_requireInput) (o := 1) (as := [.int (nI 0)]) (rest := []) rfl rfl rfl rfl hS.t rfl rfl rfl (Nat.le_of_ble_eq_true rfl) (Nat.le_of_ble_eq_true rfl) (Nat.le_of_ble_eq_true rfl) (Nat.le_of_ble_eq_true rfl) (q_rInp hS (kd := 0) (by omega) hr) ?_
  refine zn_iload_n (pc := 11) rfl rfl ?_
  refine zn_iconstN (pc := 12) 1 rfl rfl ?_
  refine zn_iaddN (pc := 13) (x := c) (y := 1) rfl ?_
  refine zn_istore_n (pc := 14) (L' := [some (.ref 1), some (.int (nI l)), some (.int (nI c)), some (.int (nI (c + 1))), none, none]) rfl (by decide) rfl ?_
  refine zn_iload_n (pc := 15) rfl rfl ?_
  refine zn_istore (pc := 16) (L' := [some (.ref 1), some (.int (nI l)), some (.int (nI c)), some (.int (nI (c + 1))), some (.int (nI l)), none]) rfl (by decide) rfl ?_
  exact q_find_o hS (z 0 - l) l (c + 1) _ (by omega) (by rw [if_pos hl]; omega) rfl
theorem q_find_1 {pf : Nat → Option Nat} {now p sz : Nat} {Z : Nat → Nat} (hS : ST hh F z A pf now p Z sz) {x y : Int32} (hbad : ¬ mCell z x y) : Zt g zX9_find [.ref 1, .int x, .int y] hh 2 := by
  show Zn g zX9_find 0 [some (.ref 1), some (.int x), some (.int y), none, none, none] [] hh 1 6 _
  refine zn_aload_n (pc := 0) rfl rfl ?_
  refine zn_iload_n (pc := 1) rfl rfl ?_
  refine zn_iload_n (pc := 2) rfl rfl ?_
  exact zn_callVt (pc := 3) (J := zX9_requireCell) (o := 1) (as := [.int x, .int y]) (rest := []) rfl rfl rfl rfl hS.t rfl rfl rfl (Nat.le_of_ble_eq_true rfl) (Nat.le_of_ble_eq_true rfl) (Nat.le_of_ble_eq_true rfl) (Nat.le_of_ble_eq_true rfl) (q_rCell_t hS (x := x) (y := y) hbad) ⟨rfl, rfl⟩
theorem q_find_2 {pf : Nat → Option Nat} {now p sz : Nat} {Z : Nat → Nat} (hS : ST hh F z A pf now p Z sz) {l c : Nat} (hl : l < z 0) (hc : c < z (1 + l)) (hr : ¬ mrl (A 5) 0 (F 11) 0 0 0 0 = F 11) : Zt g zX9_find [.ref 1, .int (nI l), .int (nI c)] hh 1 := by
  have h24 := hS.tk.ok.2.1
  have h01 := hS.tk.ok.1
  have h120 := hS.im
  have hnb := hS.nb
  have hszz := hS.s3
  have hur := hS.ur
  have hnw := hS.nw
  have h8 := (hS.tk.gl hl).2.1
  have h16 := hS.tk.ok.2.2.2 l c hl hc
  show Zn g zX9_find 0 [some (.ref 1), some (.int (nI l)), some (.int (nI c)), none, none, none] [] hh 1 6 _
  refine zn_aload_n (pc := 0) rfl rfl ?_
  refine zn_iload_n (pc := 1) rfl rfl ?_
  refine zn_iload_n (pc := 2) rfl rfl ?_
  refine zn_callVx (pc := 3) (J := zX9_requireCell) (o := 1) (as := [.int (nI l), .int (nI c)]) (rest := []) rfl rfl rfl rfl hS.t rfl rfl rfl (Nat.le_of_ble_eq_true rfl) (Nat.le_of_ble_eq_true rfl) (Nat.le_of_ble_eq_true rfl) (Nat.le_of_ble_eq_true rfl) (q_rCell hS (x := (nI l)) (y := (nI c)) (mCell_nI hS.tk.ok (by omega) (by omega))) ?_
  refine zn_aload_n (pc := 6) rfl rfl ?_
  refine zn_iconstN (pc := 7) 0 rfl rfl ?_
  exact zn_callVt (pc := 8) (J := zX9_requireInput) (o := 1) (as := [.int (nI 0)]) (rest := []) rfl rfl rfl rfl hS.t rfl rfl rfl (Nat.le_of_ble_eq_true rfl) (Nat.le_of_ble_eq_true rfl) (Nat.le_of_ble_eq_true rfl) (Nat.le_of_ble_eq_true rfl) (q_rInp_t hS (kd := 0) (by omega) hr) ⟨rfl, rfl⟩
end m1
