section m1
variable {g : zG} {h hh : zH} {F : Nat → Nat} {S : Int64} {z : Nat → Nat} {A : Nat → Nat → Nat} {X : Nat → Int32}
def LK (hh : zH) (B : Nat) (z : Nat → Nat) (R : Nat → Nat → Nat) (nb : Nat) : Prop :=
  (mOK z) ∧
  (∀ j, z j < 1000) ∧
  (cOK hh B z) ∧
  (bOK hh B z R nb) ∧
  (rOK z R nb) ∧
  (hh.1 B = some (.inr (5, [.ref (B + 1), .ref (B + 8), .ref (B + 18), .ref (B + 19)]))) ∧
  (∃ (Xs : Nat → Nat) (Bn : Nat → Int32), hh.1 (B + 18) = some (mNA 192 Xs) ∧ hh.1 (B + 19) = some (.inl (192, .inl Bn)) ∧ pXs z R nb (z 0) Xs ∧ pBn z R nb Bn)
theorem LK.ok {hh : zH} {B : Nat} {z : Nat → Nat} {R : Nat → Nat → Nat} {nb : Nat} (q : LK hh B z R nb) : mOK z := q.1
theorem LK.zb {hh : zH} {B : Nat} {z : Nat → Nat} {R : Nat → Nat → Nat} {nb : Nat} (q : LK hh B z R nb) : ∀ j, z j < 1000 := q.2.1
theorem LK.c {hh : zH} {B : Nat} {z : Nat → Nat} {R : Nat → Nat → Nat} {nb : Nat} (q : LK hh B z R nb) : cOK hh B z := q.2.2.1
theorem LK.b {hh : zH} {B : Nat} {z : Nat → Nat} {R : Nat → Nat → Nat} {nb : Nat} (q : LK hh B z R nb) : bOK hh B z R nb := q.2.2.2.1
theorem LK.r {hh : zH} {B : Nat} {z : Nat → Nat} {R : Nat → Nat → Nat} {nb : Nat} (q : LK hh B z R nb) : rOK z R nb := q.2.2.2.2.1
theorem LK.lo {hh : zH} {B : Nat} {z : Nat → Nat} {R : Nat → Nat → Nat} {nb : Nat} (q : LK hh B z R nb) : hh.1 B = some (.inr (5, [.ref (B + 1), .ref (B + 8), .ref (B + 18), .ref (B + 19)])) := q.2.2.2.2.2.1
theorem LK.x {hh : zH} {B : Nat} {z : Nat → Nat} {R : Nat → Nat → Nat} {nb : Nat} (q : LK hh B z R nb) : ∃ (Xs : Nat → Nat) (Bn : Nat → Int32), hh.1 (B + 18) = some (mNA 192 Xs) ∧ hh.1 (B + 19) = some (.inl (192, .inl Bn)) ∧ pXs z R nb (z 0) Xs ∧ pBn z R nb Bn := q.2.2.2.2.2.2
theorem c_x_10  {R : Nat → Nat → Nat} {nb : Nat} (hL : LK hh 10 z R nb) {l c : Nat} (hl : l < z 0) (hc : c < z (1 + l)) : Zx g zX5_x [.ref 10, .int (nI l), .int (nI c)] (hh) (some (.int (nI (mX R z nb l c)))) (hh) := by
  have hz := hL.ok
  have hzb := hL.zb
  have hk := hL.c
  have hbk := hL.b
  have hr := hL.r
  have h84 := hr.le
  have hlo := hL.lo
  have ha := hr.bd
  have hv := hr.cov
  obtain ⟨Xs, Bn, hxs, hbs, hpx, hpb⟩ := hL.x
  have h0 := hz.1
  have h1 := hz.2.1
  obtain ⟨C, V, o1, oa, o7, k0, kk⟩ := id hk
  have a0 : hh.1 12 = some (mNA 24 (C 0)) := oa 0 (by decide)
  have a1 : hh.1 13 = some (mNA 192 (C 1)) := oa 1 (by decide)
  have a2 : hh.1 14 = some (mNA 192 (C 2)) := oa 2 (by decide)
  have a3 : hh.1 15 = some (mNA 192 (C 3)) := oa 3 (by decide)
  have a4 : hh.1 16 = some (mNA 192 (C 4)) := oa 4 (by decide)
  obtain ⟨D, W, p8, pa, p17, pk⟩ := id hbk
  have e0 : hh.1 19 = some (mNA 84 (D 0)) := pa 0 (by decide)
  have e1 : hh.1 20 = some (mNA 84 (D 1)) := pa 1 (by decide)
  have e2 : hh.1 21 = some (mNA 84 (D 2)) := pa 2 (by decide)
  have e3 : hh.1 22 = some (mNA 84 (D 3)) := pa 3 (by decide)
  have e4 : hh.1 23 = some (mNA 84 (D 4)) := pa 4 (by decide)
  have e5 : hh.1 24 = some (mNA 84 (D 5)) := pa 5 (by decide)
  have e6 : hh.1 25 = some (mNA 84 (D 6)) := pa 6 (by decide)
  have e7 : hh.1 26 = some (mNA 84 (D 7)) := pa 7 (by decide)
  have hzl := hz.2.2.1 l hl
  have hzc := hz.2.2.2 l c hl hc
  have hp := mCell_nI hz hl hc
  show Zn g zX5_x 0 [some (.ref 10), some (.int (nI l)), some (.int (nI c))] [] (hh) 0 0 _
  refine zn_aload_n (pc := 0) rfl rfl ?_
  refine zn_get (pc := 1) (v := .ref 11) rfl hlo rfl ?_
  refine zn_iload_n (pc := 4) rfl rfl ?_
  refine zn_iload_n (pc := 5) rfl rfl ?_
  refine zn_callVx (pc := 6) (J := zX1_hasCell) (o := 11) (as := [.int (nI l), .int (nI c)]) (rest := []) rfl rfl rfl rfl o1 rfl rfl rfl (Nat.le_of_ble_eq_true rfl) (Nat.le_of_ble_eq_true rfl) (Nat.le_of_ble_eq_true rfl) (Nat.le_of_ble_eq_true rfl) (c_hasCell_10 hz hk (nI l) (nI c)) ?_
  refine zn_if_eqB (pc := 9) (tgt := 25) rfl rfl (fun c1 => ?_) (fun c1 => ?_)
  · exact absurd hp c1
  · refine zn_aload_n (pc := 12) rfl rfl ?_
    refine zn_get (pc := 13) (v := .ref 28) rfl hlo rfl ?_
    refine zn_iload_n (pc := 16) rfl rfl ?_
    refine zn_iload_n (pc := 17) rfl rfl ?_
    refine zn_callSx (pc := 18) (J := zX1_slot) (as := [.int (nI l), .int (nI c)]) (rest := [.ref 28]) rfl (by decide) rfl rfl rfl rfl (Nat.le_of_ble_eq_true rfl) (Nat.le_of_ble_eq_true rfl) (Nat.le_of_ble_eq_true rfl) (Nat.le_of_ble_eq_true rfl) (c_slot (l := l) (c := c)) ?_
    refine zn_naLd (pc := 21) (o := 28) (n := 192) (Z := Xs) (j := (8 * l + c)) rfl hxs (by omega) (Nat.le_of_ble_eq_true rfl) ?_
    refine zn_top (v' := .int (nI (mX R z nb l c))) (by rw [hpx l c hl hc]) ?_
    refine zn_goto (pc := 22) (tgt := 26) rfl rfl ?_
    exact zx_i (pc := 26) rfl rfl rfl rfl
theorem c_blockNumber_10  {R : Nat → Nat → Nat} {nb : Nat} (hL : LK hh 10 z R nb) {l c : Nat} (hl : l < z 0) (hc : c < z (1 + l)) : Zx g zX5_blockNumber [.ref 10, .int (nI l), .int (nI c)] (hh) (some (.int (oI (mOf R z l c nb)))) (hh) := by
  have hz := hL.ok
  have hzb := hL.zb
  have hk := hL.c
  have hbk := hL.b
  have hr := hL.r
  have h84 := hr.le
  have hlo := hL.lo
  have ha := hr.bd
  have hv := hr.cov
  obtain ⟨Xs, Bn, hxs, hbs, hpx, hpb⟩ := hL.x
  have h0 := hz.1
  have h1 := hz.2.1
  obtain ⟨C, V, o1, oa, o7, k0, kk⟩ := id hk
  have a0 : hh.1 12 = some (mNA 24 (C 0)) := oa 0 (by decide)
  have a1 : hh.1 13 = some (mNA 192 (C 1)) := oa 1 (by decide)
  have a2 : hh.1 14 = some (mNA 192 (C 2)) := oa 2 (by decide)
  have a3 : hh.1 15 = some (mNA 192 (C 3)) := oa 3 (by decide)
  have a4 : hh.1 16 = some (mNA 192 (C 4)) := oa 4 (by decide)
  obtain ⟨D, W, p8, pa, p17, pk⟩ := id hbk
  have e0 : hh.1 19 = some (mNA 84 (D 0)) := pa 0 (by decide)
  have e1 : hh.1 20 = some (mNA 84 (D 1)) := pa 1 (by decide)
  have e2 : hh.1 21 = some (mNA 84 (D 2)) := pa 2 (by decide)
  have e3 : hh.1 22 = some (mNA 84 (D 3)) := pa 3 (by decide)
  have e4 : hh.1 23 = some (mNA 84 (D 4)) := pa 4 (by decide)
  have e5 : hh.1 24 = some (mNA 84 (D 5)) := pa 5 (by decide)
  have e6 : hh.1 25 = some (mNA 84 (D 6)) := pa 6 (by decide)
  have e7 : hh.1 26 = some (mNA 84 (D 7)) := pa 7 (by decide)
  have hzl := hz.2.2.1 l hl
  have hzc := hz.2.2.2 l c hl hc
  have hp := mCell_nI hz hl hc
  show Zn g zX5_blockNumber 0 [some (.ref 10), some (.int (nI l)), some (.int (nI c))] [] (hh) 0 0 _
  refine zn_aload_n (pc := 0) rfl rfl ?_
  refine zn_get (pc := 1) (v := .ref 11) rfl hlo rfl ?_
  refine zn_iload_n (pc := 4) rfl rfl ?_
  refine zn_iload_n (pc := 5) rfl rfl ?_
  refine zn_callVx (pc := 6) (J := zX1_hasCell) (o := 11) (as := [.int (nI l), .int (nI c)]) (rest := []) rfl rfl rfl rfl o1 rfl rfl rfl (Nat.le_of_ble_eq_true rfl) (Nat.le_of_ble_eq_true rfl) (Nat.le_of_ble_eq_true rfl) (Nat.le_of_ble_eq_true rfl) (c_hasCell_10 hz hk (nI l) (nI c)) ?_
  refine zn_if_eqB (pc := 9) (tgt := 25) rfl rfl (fun c1 => ?_) (fun c1 => ?_)
  · exact absurd hp c1
  · refine zn_aload_n (pc := 12) rfl rfl ?_
    refine zn_get (pc := 13) (v := .ref 29) rfl hlo rfl ?_
    refine zn_iload_n (pc := 16) rfl rfl ?_
    refine zn_iload_n (pc := 17) rfl rfl ?_
    refine zn_callSx (pc := 18) (J := zX1_slot) (as := [.int (nI l), .int (nI c)]) (rest := [.ref 29]) rfl (by decide) rfl rfl rfl rfl (Nat.le_of_ble_eq_true rfl) (Nat.le_of_ble_eq_true rfl) (Nat.le_of_ble_eq_true rfl) (Nat.le_of_ble_eq_true rfl) (c_slot (l := l) (c := c)) ?_
    refine zn_ialdN (pc := 21) (o := 29) (n := 192) (f := Bn) (j := (8 * l + c)) rfl hbs (by omega) (Nat.le_of_ble_eq_true rfl) ?_
    refine zn_top (v' := .int (oI (mOf R z l c nb))) (by rw [hpb l c hl hc]) ?_
    refine zn_goto (pc := 22) (tgt := 26) rfl rfl ?_
    exact zx_i (pc := 26) rfl rfl rfl rfl
theorem c_x_30  {R : Nat → Nat → Nat} {nb : Nat} (hL : LK hh 30 z R nb) {l c : Nat} (hl : l < z 0) (hc : c < z (1 + l)) : Zx g zX5_x [.ref 30, .int (nI l), .int (nI c)] (hh) (some (.int (nI (mX R z nb l c)))) (hh) := by
  have hz := hL.ok
  have hzb := hL.zb
  have hk := hL.c
  have hbk := hL.b
  have hr := hL.r
  have h84 := hr.le
  have hlo := hL.lo
  have ha := hr.bd
  have hv := hr.cov
  obtain ⟨Xs, Bn, hxs, hbs, hpx, hpb⟩ := hL.x
  have h0 := hz.1
  have h1 := hz.2.1
  obtain ⟨C, V, o1, oa, o7, k0, kk⟩ := id hk
  have a0 : hh.1 32 = some (mNA 24 (C 0)) := oa 0 (by decide)
  have a1 : hh.1 33 = some (mNA 192 (C 1)) := oa 1 (by decide)
  have a2 : hh.1 34 = some (mNA 192 (C 2)) := oa 2 (by decide)
  have a3 : hh.1 35 = some (mNA 192 (C 3)) := oa 3 (by decide)
  have a4 : hh.1 36 = some (mNA 192 (C 4)) := oa 4 (by decide)
  obtain ⟨D, W, p8, pa, p17, pk⟩ := id hbk
  have e0 : hh.1 39 = some (mNA 84 (D 0)) := pa 0 (by decide)
  have e1 : hh.1 40 = some (mNA 84 (D 1)) := pa 1 (by decide)
  have e2 : hh.1 41 = some (mNA 84 (D 2)) := pa 2 (by decide)
  have e3 : hh.1 42 = some (mNA 84 (D 3)) := pa 3 (by decide)
  have e4 : hh.1 43 = some (mNA 84 (D 4)) := pa 4 (by decide)
  have e5 : hh.1 44 = some (mNA 84 (D 5)) := pa 5 (by decide)
  have e6 : hh.1 45 = some (mNA 84 (D 6)) := pa 6 (by decide)
  have e7 : hh.1 46 = some (mNA 84 (D 7)) := pa 7 (by decide)
  have hzl := hz.2.2.1 l hl
  have hzc := hz.2.2.2 l c hl hc
  have hp := mCell_nI hz hl hc
  show Zn g zX5_x 0 [some (.ref 30), some (.int (nI l)), some (.int (nI c))] [] (hh) 0 0 _
  refine zn_aload_n (pc := 0) rfl rfl ?_
  refine zn_get (pc := 1) (v := .ref 31) rfl hlo rfl ?_
  refine zn_iload_n (pc := 4) rfl rfl ?_
  refine zn_iload_n (pc := 5) rfl rfl ?_
  refine zn_callVx (pc := 6) (J := zX1_hasCell) (o := 31) (as := [.int (nI l), .int (nI c)]) (rest := []) rfl rfl rfl rfl o1 rfl rfl rfl (Nat.le_of_ble_eq_true rfl) (Nat.le_of_ble_eq_true rfl) (Nat.le_of_ble_eq_true rfl) (Nat.le_of_ble_eq_true rfl) (c_hasCell_30 hz hk (nI l) (nI c)) ?_
  refine zn_if_eqB (pc := 9) (tgt := 25) rfl rfl (fun c1 => ?_) (fun c1 => ?_)
  · exact absurd hp c1
  · refine zn_aload_n (pc := 12) rfl rfl ?_
    refine zn_get (pc := 13) (v := .ref 48) rfl hlo rfl ?_
    refine zn_iload_n (pc := 16) rfl rfl ?_
    refine zn_iload_n (pc := 17) rfl rfl ?_
    refine zn_callSx (pc := 18) (J := zX1_slot) (as := [.int (nI l), .int (nI c)]) (rest := [.ref 48]) rfl (by decide) rfl rfl rfl rfl (Nat.le_of_ble_eq_true rfl) (Nat.le_of_ble_eq_true rfl) (Nat.le_of_ble_eq_true rfl) (Nat.le_of_ble_eq_true rfl) (c_slot (l := l) (c := c)) ?_
    refine zn_naLd (pc := 21) (o := 48) (n := 192) (Z := Xs) (j := (8 * l + c)) rfl hxs (by omega) (Nat.le_of_ble_eq_true rfl) ?_
    refine zn_top (v' := .int (nI (mX R z nb l c))) (by rw [hpx l c hl hc]) ?_
    refine zn_goto (pc := 22) (tgt := 26) rfl rfl ?_
    exact zx_i (pc := 26) rfl rfl rfl rfl
theorem c_blockNumber_30  {R : Nat → Nat → Nat} {nb : Nat} (hL : LK hh 30 z R nb) {l c : Nat} (hl : l < z 0) (hc : c < z (1 + l)) : Zx g zX5_blockNumber [.ref 30, .int (nI l), .int (nI c)] (hh) (some (.int (oI (mOf R z l c nb)))) (hh) := by
  have hz := hL.ok
  have hzb := hL.zb
  have hk := hL.c
  have hbk := hL.b
  have hr := hL.r
  have h84 := hr.le
  have hlo := hL.lo
  have ha := hr.bd
  have hv := hr.cov
  obtain ⟨Xs, Bn, hxs, hbs, hpx, hpb⟩ := hL.x
  have h0 := hz.1
  have h1 := hz.2.1
  obtain ⟨C, V, o1, oa, o7, k0, kk⟩ := id hk
  have a0 : hh.1 32 = some (mNA 24 (C 0)) := oa 0 (by decide)
  have a1 : hh.1 33 = some (mNA 192 (C 1)) := oa 1 (by decide)
  have a2 : hh.1 34 = some (mNA 192 (C 2)) := oa 2 (by decide)
  have a3 : hh.1 35 = some (mNA 192 (C 3)) := oa 3 (by decide)
  have a4 : hh.1 36 = some (mNA 192 (C 4)) := oa 4 (by decide)
  obtain ⟨D, W, p8, pa, p17, pk⟩ := id hbk
  have e0 : hh.1 39 = some (mNA 84 (D 0)) := pa 0 (by decide)
  have e1 : hh.1 40 = some (mNA 84 (D 1)) := pa 1 (by decide)
  have e2 : hh.1 41 = some (mNA 84 (D 2)) := pa 2 (by decide)
  have e3 : hh.1 42 = some (mNA 84 (D 3)) := pa 3 (by decide)
  have e4 : hh.1 43 = some (mNA 84 (D 4)) := pa 4 (by decide)
  have e5 : hh.1 44 = some (mNA 84 (D 5)) := pa 5 (by decide)
  have e6 : hh.1 45 = some (mNA 84 (D 6)) := pa 6 (by decide)
  have e7 : hh.1 46 = some (mNA 84 (D 7)) := pa 7 (by decide)
  have hzl := hz.2.2.1 l hl
  have hzc := hz.2.2.2 l c hl hc
  have hp := mCell_nI hz hl hc
  show Zn g zX5_blockNumber 0 [some (.ref 30), some (.int (nI l)), some (.int (nI c))] [] (hh) 0 0 _
  refine zn_aload_n (pc := 0) rfl rfl ?_
  refine zn_get (pc := 1) (v := .ref 31) rfl hlo rfl ?_
  refine zn_iload_n (pc := 4) rfl rfl ?_
  refine zn_iload_n (pc := 5) rfl rfl ?_
  refine zn_callVx (pc := 6) (J := zX1_hasCell) (o := 31) (as := [.int (nI l), .int (nI c)]) (rest := []) rfl rfl rfl rfl o1 rfl rfl rfl (Nat.le_of_ble_eq_true rfl) (Nat.le_of_ble_eq_true rfl) (Nat.le_of_ble_eq_true rfl) (Nat.le_of_ble_eq_true rfl) (c_hasCell_30 hz hk (nI l) (nI c)) ?_
  refine zn_if_eqB (pc := 9) (tgt := 25) rfl rfl (fun c1 => ?_) (fun c1 => ?_)
  · exact absurd hp c1
  · refine zn_aload_n (pc := 12) rfl rfl ?_
    refine zn_get (pc := 13) (v := .ref 49) rfl hlo rfl ?_
    refine zn_iload_n (pc := 16) rfl rfl ?_
    refine zn_iload_n (pc := 17) rfl rfl ?_
    refine zn_callSx (pc := 18) (J := zX1_slot) (as := [.int (nI l), .int (nI c)]) (rest := [.ref 49]) rfl (by decide) rfl rfl rfl rfl (Nat.le_of_ble_eq_true rfl) (Nat.le_of_ble_eq_true rfl) (Nat.le_of_ble_eq_true rfl) (Nat.le_of_ble_eq_true rfl) (c_slot (l := l) (c := c)) ?_
    refine zn_ialdN (pc := 21) (o := 49) (n := 192) (f := Bn) (j := (8 * l + c)) rfl hbs (by omega) (Nat.le_of_ble_eq_true rfl) ?_
    refine zn_top (v' := .int (oI (mOf R z l c nb))) (by rw [hpb l c hl hc]) ?_
    refine zn_goto (pc := 22) (tgt := 26) rfl rfl ?_
    exact zx_i (pc := 26) rfl rfl rfl rfl
theorem c_lineStart  {R : Nat → Nat → Nat} {nb : Nat} (hL : LK hh 10 z R nb) {l : Nat} (hl : l < z 0) : Zx g zX1_lineStart [.ref 11, .int (nI l)] (hh) (some (.int (nI (CS z l 0)))) (hh) := by
  have hz := hL.ok
  have hzb := hL.zb
  have hk := hL.c
  have hbk := hL.b
  have hr := hL.r
  have h84 := hr.le
  have hlo := hL.lo
  have ha := hr.bd
  have hv := hr.cov
  obtain ⟨Xs, Bn, hxs, hbs, hpx, hpb⟩ := hL.x
  have h0 := hz.1
  have h1 := hz.2.1
  obtain ⟨C, V, o1, oa, o7, k0, kk⟩ := id hk
  have a0 : hh.1 12 = some (mNA 24 (C 0)) := oa 0 (by decide)
  have a1 : hh.1 13 = some (mNA 192 (C 1)) := oa 1 (by decide)
  have a2 : hh.1 14 = some (mNA 192 (C 2)) := oa 2 (by decide)
  have a3 : hh.1 15 = some (mNA 192 (C 3)) := oa 3 (by decide)
  have a4 : hh.1 16 = some (mNA 192 (C 4)) := oa 4 (by decide)
  obtain ⟨D, W, p8, pa, p17, pk⟩ := id hbk
  have e0 : hh.1 19 = some (mNA 84 (D 0)) := pa 0 (by decide)
  have e1 : hh.1 20 = some (mNA 84 (D 1)) := pa 1 (by decide)
  have e2 : hh.1 21 = some (mNA 84 (D 2)) := pa 2 (by decide)
  have e3 : hh.1 22 = some (mNA 84 (D 3)) := pa 3 (by decide)
  have e4 : hh.1 23 = some (mNA 84 (D 4)) := pa 4 (by decide)
  have e5 : hh.1 24 = some (mNA 84 (D 5)) := pa 5 (by decide)
  have e6 : hh.1 25 = some (mNA 84 (D 6)) := pa 6 (by decide)
  have e7 : hh.1 26 = some (mNA 84 (D 7)) := pa 7 (by decide)
  have hzl := hz.2.2.1 l hl
  show Zn g zX1_lineStart 0 [some (.ref 11), some (.int (nI l))] [] (hh) 0 0 _
  refine zn_aload_n (pc := 0) rfl rfl ?_
  refine zn_iload_n (pc := 1) rfl rfl ?_
  refine zn_iconstN (pc := 2) 0 rfl rfl ?_
  refine zn_callVx (pc := 3) (J := zX1_start) (o := 11) (as := [.int (nI l), .int (nI 0)]) (rest := []) rfl rfl rfl rfl o1 rfl rfl rfl (Nat.le_of_ble_eq_true rfl) (Nat.le_of_ble_eq_true rfl) (Nat.le_of_ble_eq_true rfl) (Nat.le_of_ble_eq_true rfl) (c_start_10 hz hk (l := l) (c := 0) (by omega) (by omega)) ?_
  exact zx_i (pc := 6) rfl rfl rfl rfl
theorem c_lineEnd  {R : Nat → Nat → Nat} {nb : Nat} (hL : LK hh 10 z R nb) {l : Nat} (hl : l < z 0) : Zx g zX1_lineEnd [.ref 11, .int (nI l)] (hh) (some (.int (nI (CS z l (z (1 + l) - 1) + z (25 + 8 * l + (z (1 + l) - 1)))))) (hh) := by
  have hz := hL.ok
  have hzb := hL.zb
  have hk := hL.c
  have hbk := hL.b
  have hr := hL.r
  have h84 := hr.le
  have hlo := hL.lo
  have ha := hr.bd
  have hv := hr.cov
  obtain ⟨Xs, Bn, hxs, hbs, hpx, hpb⟩ := hL.x
  have h0 := hz.1
  have h1 := hz.2.1
  obtain ⟨C, V, o1, oa, o7, k0, kk⟩ := id hk
  have a0 : hh.1 12 = some (mNA 24 (C 0)) := oa 0 (by decide)
  have a1 : hh.1 13 = some (mNA 192 (C 1)) := oa 1 (by decide)
  have a2 : hh.1 14 = some (mNA 192 (C 2)) := oa 2 (by decide)
  have a3 : hh.1 15 = some (mNA 192 (C 3)) := oa 3 (by decide)
  have a4 : hh.1 16 = some (mNA 192 (C 4)) := oa 4 (by decide)
  obtain ⟨D, W, p8, pa, p17, pk⟩ := id hbk
  have e0 : hh.1 19 = some (mNA 84 (D 0)) := pa 0 (by decide)
  have e1 : hh.1 20 = some (mNA 84 (D 1)) := pa 1 (by decide)
  have e2 : hh.1 21 = some (mNA 84 (D 2)) := pa 2 (by decide)
  have e3 : hh.1 22 = some (mNA 84 (D 3)) := pa 3 (by decide)
  have e4 : hh.1 23 = some (mNA 84 (D 4)) := pa 4 (by decide)
  have e5 : hh.1 24 = some (mNA 84 (D 5)) := pa 5 (by decide)
  have e6 : hh.1 25 = some (mNA 84 (D 6)) := pa 6 (by decide)
  have e7 : hh.1 26 = some (mNA 84 (D 7)) := pa 7 (by decide)
  have hzl := hz.2.2.1 l hl
  show Zn g zX1_lineEnd 0 [some (.ref 11), some (.int (nI l)), none] [] (hh) 0 0 _
  refine zn_aload_n (pc := 0) rfl rfl ?_
  refine zn_iload_n (pc := 1) rfl rfl ?_
  refine zn_callVx (pc := 2) (J := zX1_cellsOf) (o := 11) (as := [.int (nI l)]) (rest := []) rfl rfl rfl rfl o1 rfl rfl rfl (Nat.le_of_ble_eq_true rfl) (Nat.le_of_ble_eq_true rfl) (Nat.le_of_ble_eq_true rfl) (Nat.le_of_ble_eq_true rfl) (c_cellsOf_10 hz hk (l := l) (by omega)) ?_
  refine zn_iconstN (pc := 5) 1 rfl rfl ?_
  refine zn_isubN (pc := 6) (x := (z (1 + l))) (y := 1) rfl (by omega) ?_
  refine zn_istore_n (pc := 7) (L' := [some (.ref 11), some (.int (nI l)), some (.int (nI ((z (1 + l)) - 1)))]) rfl (by decide) rfl ?_
  refine zn_aload_n (pc := 8) rfl rfl ?_
  refine zn_iload_n (pc := 9) rfl rfl ?_
  refine zn_iload_n (pc := 10) rfl rfl ?_
  refine zn_callVx (pc := 11) (J := zX1_start) (o := 11) (as := [.int (nI l), .int (nI ((z (1 + l)) - 1))]) (rest := []) rfl rfl rfl rfl o1 rfl rfl rfl (Nat.le_of_ble_eq_true rfl) (Nat.le_of_ble_eq_true rfl) (Nat.le_of_ble_eq_true rfl) (Nat.le_of_ble_eq_true rfl) (c_start_10 hz hk (l := l) (c := ((z (1 + l)) - 1)) (by omega) (by omega)) ?_
  refine zn_aload_n (pc := 14) rfl rfl ?_
  refine zn_iload_n (pc := 15) rfl rfl ?_
  refine zn_iload_n (pc := 16) rfl rfl ?_
  refine zn_callVx (pc := 17) (J := zX1_length) (o := 11) (as := [.int (nI l), .int (nI ((z (1 + l)) - 1))]) (rest := [.int (nI (CS z l ((z (1 + l)) - 1)))]) rfl rfl rfl rfl o1 rfl rfl rfl (Nat.le_of_ble_eq_true rfl) (Nat.le_of_ble_eq_true rfl) (Nat.le_of_ble_eq_true rfl) (Nat.le_of_ble_eq_true rfl) (c_length_10 hz hk (l := l) (c := ((z (1 + l)) - 1)) (by omega) (by omega)) ?_
  refine zn_iaddN (pc := 20) (x := (CS z l ((z (1 + l)) - 1))) (y := (z (25 + 8 * l + ((z (1 + l)) - 1)))) rfl ?_
  exact zx_i (pc := 21) rfl rfl rfl rfl
theorem c_cellCount_l {R : Nat → Nat → Nat} {nb : Nat} (hL : LK hh 10 z R nb) : ∀ (n : Nat) (l : Nat), l + n = z 0 → Zn g zX1_cellCount 4 [some (.ref 11), some (.int (nI (vS (fun l => z (1 + l)) (l)))), some (.int (nI l))] [] (hh) 0 0 (fun r' h' => r' = .inl (some (.int (nI (vS (fun l => z (1 + l)) (z 0))))) ∧ h' = (hh)) := by
  intro n
  induction n with
  | zero =>
    intro l hn0
    have hz := hL.ok
    have hzb := hL.zb
    have hk := hL.c
    have hbk := hL.b
    have hr := hL.r
    have h84 := hr.le
    have hlo := hL.lo
    have ha := hr.bd
    have hv := hr.cov
    obtain ⟨Xs, Bn, hxs, hbs, hpx, hpb⟩ := hL.x
    have h0 := hz.1
    have h1 := hz.2.1
    obtain ⟨C, V, o1, oa, o7, k0, kk⟩ := id hk
    have a0 : hh.1 12 = some (mNA 24 (C 0)) := oa 0 (by decide)
    have a1 : hh.1 13 = some (mNA 192 (C 1)) := oa 1 (by decide)
    have a2 : hh.1 14 = some (mNA 192 (C 2)) := oa 2 (by decide)
    have a3 : hh.1 15 = some (mNA 192 (C 3)) := oa 3 (by decide)
    have a4 : hh.1 16 = some (mNA 192 (C 4)) := oa 4 (by decide)
    obtain ⟨D, W, p8, pa, p17, pk⟩ := id hbk
    have e0 : hh.1 19 = some (mNA 84 (D 0)) := pa 0 (by decide)
    have e1 : hh.1 20 = some (mNA 84 (D 1)) := pa 1 (by decide)
    have e2 : hh.1 21 = some (mNA 84 (D 2)) := pa 2 (by decide)
    have e3 : hh.1 22 = some (mNA 84 (D 3)) := pa 3 (by decide)
    have e4 : hh.1 23 = some (mNA 84 (D 4)) := pa 4 (by decide)
    have e5 : hh.1 24 = some (mNA 84 (D 5)) := pa 5 (by decide)
    have e6 : hh.1 25 = some (mNA 84 (D 6)) := pa 6 (by decide)
    have e7 : hh.1 26 = some (mNA 84 (D 7)) := pa 7 (by decide)
    refine zn_iload_n (pc := 4) rfl rfl ?_
    refine zn_aload_n (pc := 5) rfl rfl ?_
    refine zn_get (pc := 6) (v := .int (nI (z 0))) rfl o1 rfl ?_
    refine zn_icmp_geN (pc := 9) (tgt := 26) (x := l) (y := (z 0)) rfl rfl (by omega) (by omega) (fun c1 => ?_) (fun c1 => ?_)
    · refine zn_iload_n (pc := 26) rfl rfl ?_
      have e8 : l = z 0 := by omega
      exact zx_i (pc := 27) rfl rfl (by rw [e8]) rfl
    · exfalso; omega
  | succ n ih =>
    intro l hn0
    have hz := hL.ok
    have hzb := hL.zb
    have hk := hL.c
    have hbk := hL.b
    have hr := hL.r
    have h84 := hr.le
    have hlo := hL.lo
    have ha := hr.bd
    have hv := hr.cov
    obtain ⟨Xs, Bn, hxs, hbs, hpx, hpb⟩ := hL.x
    have h0 := hz.1
    have h1 := hz.2.1
    obtain ⟨C, V, o1, oa, o7, k0, kk⟩ := id hk
    have a0 : hh.1 12 = some (mNA 24 (C 0)) := oa 0 (by decide)
    have a1 : hh.1 13 = some (mNA 192 (C 1)) := oa 1 (by decide)
    have a2 : hh.1 14 = some (mNA 192 (C 2)) := oa 2 (by decide)
    have a3 : hh.1 15 = some (mNA 192 (C 3)) := oa 3 (by decide)
    have a4 : hh.1 16 = some (mNA 192 (C 4)) := oa 4 (by decide)
    obtain ⟨D, W, p8, pa, p17, pk⟩ := id hbk
    have e0 : hh.1 19 = some (mNA 84 (D 0)) := pa 0 (by decide)
    have e1 : hh.1 20 = some (mNA 84 (D 1)) := pa 1 (by decide)
    have e2 : hh.1 21 = some (mNA 84 (D 2)) := pa 2 (by decide)
    have e3 : hh.1 22 = some (mNA 84 (D 3)) := pa 3 (by decide)
    have e4 : hh.1 23 = some (mNA 84 (D 4)) := pa 4 (by decide)
    have e5 : hh.1 24 = some (mNA 84 (D 5)) := pa 5 (by decide)
    have e6 : hh.1 25 = some (mNA 84 (D 6)) := pa 6 (by decide)
    have e7 : hh.1 26 = some (mNA 84 (D 7)) := pa 7 (by decide)
    refine zn_iload_n (pc := 4) rfl rfl ?_
    refine zn_aload_n (pc := 5) rfl rfl ?_
    refine zn_get (pc := 6) (v := .int (nI (z 0))) rfl o1 rfl ?_
    refine zn_icmp_geN (pc := 9) (tgt := 26) (x := l) (y := (z 0)) rfl rfl (by omega) (by omega) (fun c1 => ?_) (fun c1 => ?_)
    · refine zn_iload_n (pc := 26) rfl rfl ?_
      have e8 : l = z 0 := by omega
      exact zx_i (pc := 27) rfl rfl (by rw [e8]) rfl
    · refine zn_iload_n (pc := 12) rfl rfl ?_
      refine zn_aload_n (pc := 13) rfl rfl ?_
      refine zn_iload_n (pc := 14) rfl rfl ?_
      refine zn_callVx (pc := 15) (J := zX1_cellsOf) (o := 11) (as := [.int (nI l)]) (rest := [.int (nI (vS (fun l => z (1 + l)) (l)))]) rfl rfl rfl rfl o1 rfl rfl rfl (Nat.le_of_ble_eq_true rfl) (Nat.le_of_ble_eq_true rfl) (Nat.le_of_ble_eq_true rfl) (Nat.le_of_ble_eq_true rfl) (c_cellsOf_10 hz hk (l := l) (by omega)) ?_
      refine zn_iaddN (pc := 18) (x := (vS (fun l => z (1 + l)) (l))) (y := (z (1 + l))) rfl ?_
      refine zn_istore_n (pc := 19) (L' := [some (.ref 11), some (.int (nI ((vS (fun l => z (1 + l)) (l)) + (z (1 + l))))), some (.int (nI l))]) rfl (by decide) rfl ?_
      refine zn_iincN (pc := 20) (L' := [some (.ref 11), some (.int (nI ((vS (fun l => z (1 + l)) (l)) + (z (1 + l))))), some (.int (nI (l + 1)))]) 1 rfl rfl rfl (by decide) rfl ?_
      refine zn_goto (pc := 23) (tgt := 4) rfl rfl ?_
      exact ih (l + 1) (by omega)
theorem c_cellCount  {R : Nat → Nat → Nat} {nb : Nat} (hL : LK hh 10 z R nb) : Zx g zX1_cellCount [.ref 11] (hh) (some (.int (nI (vS (fun l => z (1 + l)) (z 0))))) (hh) := by
  show Zn g zX1_cellCount 0 [some (.ref 11), none, none] [] (hh) 0 0 _
  refine zn_iconstN (pc := 0) 0 rfl rfl ?_
  refine zn_istore_n (pc := 1) (L' := [some (.ref 11), some (.int (nI 0)), none]) rfl (by decide) rfl ?_
  refine zn_iconstN (pc := 2) 0 rfl rfl ?_
  refine zn_istore_n (pc := 3) (L' := [some (.ref 11), some (.int (nI 0)), some (.int (nI 0))]) rfl (by decide) rfl ?_
  exact c_cellCount_l hL (z 0) 0 (by omega)
theorem c_signsOf_l {R : Nat → Nat → Nat} {nb : Nat} (hL : LK hh 10 z R nb) {l : Nat} (hl : l < z 0) : ∀ (n : Nat) (c : Nat), c + n = z (1 + l) → Zn g zX1_signsOf 4 [some (.ref 11), some (.int (nI l)), some (.int (nI (vS (fun c => z (25 + 8 * l + c)) (c)))), some (.int (nI c))] [] (hh) 0 0 (fun r' h' => r' = .inl (some (.int (nI (vS (fun c => z (25 + 8 * l + c)) (z (1 + l)))))) ∧ h' = (hh)) := by
  intro n
  induction n with
  | zero =>
    intro c hn0
    have hz := hL.ok
    have hzb := hL.zb
    have hk := hL.c
    have hbk := hL.b
    have hr := hL.r
    have h84 := hr.le
    have hlo := hL.lo
    have ha := hr.bd
    have hv := hr.cov
    obtain ⟨Xs, Bn, hxs, hbs, hpx, hpb⟩ := hL.x
    have h0 := hz.1
    have h1 := hz.2.1
    obtain ⟨C, V, o1, oa, o7, k0, kk⟩ := id hk
    have a0 : hh.1 12 = some (mNA 24 (C 0)) := oa 0 (by decide)
    have a1 : hh.1 13 = some (mNA 192 (C 1)) := oa 1 (by decide)
    have a2 : hh.1 14 = some (mNA 192 (C 2)) := oa 2 (by decide)
    have a3 : hh.1 15 = some (mNA 192 (C 3)) := oa 3 (by decide)
    have a4 : hh.1 16 = some (mNA 192 (C 4)) := oa 4 (by decide)
    obtain ⟨D, W, p8, pa, p17, pk⟩ := id hbk
    have e0 : hh.1 19 = some (mNA 84 (D 0)) := pa 0 (by decide)
    have e1 : hh.1 20 = some (mNA 84 (D 1)) := pa 1 (by decide)
    have e2 : hh.1 21 = some (mNA 84 (D 2)) := pa 2 (by decide)
    have e3 : hh.1 22 = some (mNA 84 (D 3)) := pa 3 (by decide)
    have e4 : hh.1 23 = some (mNA 84 (D 4)) := pa 4 (by decide)
    have e5 : hh.1 24 = some (mNA 84 (D 5)) := pa 5 (by decide)
    have e6 : hh.1 25 = some (mNA 84 (D 6)) := pa 6 (by decide)
    have e7 : hh.1 26 = some (mNA 84 (D 7)) := pa 7 (by decide)
    have hzl := hz.2.2.1 l hl
    refine zn_iload_n (pc := 4) rfl rfl ?_
    refine zn_aload_n (pc := 5) rfl rfl ?_
    refine zn_iload_n (pc := 6) rfl rfl ?_
    refine zn_callVx (pc := 7) (J := zX1_cellsOf) (o := 11) (as := [.int (nI l)]) (rest := [.int (nI c)]) rfl rfl rfl rfl o1 rfl rfl rfl (Nat.le_of_ble_eq_true rfl) (Nat.le_of_ble_eq_true rfl) (Nat.le_of_ble_eq_true rfl) (Nat.le_of_ble_eq_true rfl) (c_cellsOf_10 hz hk (l := l) (by omega)) ?_
    refine zn_icmp_geN (pc := 10) (tgt := 28) (x := c) (y := (z (1 + l))) rfl rfl (by omega) (by omega) (fun c1 => ?_) (fun c1 => ?_)
    · refine zn_iload_n (pc := 28) rfl rfl ?_
      have e8 : c = z (1 + l) := by omega
      exact zx_i (pc := 29) rfl rfl (by rw [e8]) rfl
    · exfalso; omega
  | succ n ih =>
    intro c hn0
    have hz := hL.ok
    have hzb := hL.zb
    have hk := hL.c
    have hbk := hL.b
    have hr := hL.r
    have h84 := hr.le
    have hlo := hL.lo
    have ha := hr.bd
    have hv := hr.cov
    obtain ⟨Xs, Bn, hxs, hbs, hpx, hpb⟩ := hL.x
    have h0 := hz.1
    have h1 := hz.2.1
    obtain ⟨C, V, o1, oa, o7, k0, kk⟩ := id hk
    have a0 : hh.1 12 = some (mNA 24 (C 0)) := oa 0 (by decide)
    have a1 : hh.1 13 = some (mNA 192 (C 1)) := oa 1 (by decide)
    have a2 : hh.1 14 = some (mNA 192 (C 2)) := oa 2 (by decide)
    have a3 : hh.1 15 = some (mNA 192 (C 3)) := oa 3 (by decide)
    have a4 : hh.1 16 = some (mNA 192 (C 4)) := oa 4 (by decide)
    obtain ⟨D, W, p8, pa, p17, pk⟩ := id hbk
    have e0 : hh.1 19 = some (mNA 84 (D 0)) := pa 0 (by decide)
    have e1 : hh.1 20 = some (mNA 84 (D 1)) := pa 1 (by decide)
    have e2 : hh.1 21 = some (mNA 84 (D 2)) := pa 2 (by decide)
    have e3 : hh.1 22 = some (mNA 84 (D 3)) := pa 3 (by decide)
    have e4 : hh.1 23 = some (mNA 84 (D 4)) := pa 4 (by decide)
    have e5 : hh.1 24 = some (mNA 84 (D 5)) := pa 5 (by decide)
    have e6 : hh.1 25 = some (mNA 84 (D 6)) := pa 6 (by decide)
    have e7 : hh.1 26 = some (mNA 84 (D 7)) := pa 7 (by decide)
    have hzl := hz.2.2.1 l hl
    refine zn_iload_n (pc := 4) rfl rfl ?_
    refine zn_aload_n (pc := 5) rfl rfl ?_
    refine zn_iload_n (pc := 6) rfl rfl ?_
    refine zn_callVx (pc := 7) (J := zX1_cellsOf) (o := 11) (as := [.int (nI l)]) (rest := [.int (nI c)]) rfl rfl rfl rfl o1 rfl rfl rfl (Nat.le_of_ble_eq_true rfl) (Nat.le_of_ble_eq_true rfl) (Nat.le_of_ble_eq_true rfl) (Nat.le_of_ble_eq_true rfl) (c_cellsOf_10 hz hk (l := l) (by omega)) ?_
    refine zn_icmp_geN (pc := 10) (tgt := 28) (x := c) (y := (z (1 + l))) rfl rfl (by omega) (by omega) (fun c1 => ?_) (fun c1 => ?_)
    · refine zn_iload_n (pc := 28) rfl rfl ?_
      have e8 : c = z (1 + l) := by omega
      exact zx_i (pc := 29) rfl rfl (by rw [e8]) rfl
    · refine zn_iload_n (pc := 13) rfl rfl ?_
      refine zn_aload_n (pc := 14) rfl rfl ?_
      refine zn_iload_n (pc := 15) rfl rfl ?_
      refine zn_iload_n (pc := 16) rfl rfl ?_
      refine zn_callVx (pc := 17) (J := zX1_length) (o := 11) (as := [.int (nI l), .int (nI c)]) (rest := [.int (nI (vS (fun c => z (25 + 8 * l + c)) (c)))]) rfl rfl rfl rfl o1 rfl rfl rfl (Nat.le_of_ble_eq_true rfl) (Nat.le_of_ble_eq_true rfl) (Nat.le_of_ble_eq_true rfl) (Nat.le_of_ble_eq_true rfl) (c_length_10 hz hk (l := l) (c := c) (by omega) (by omega)) ?_
      refine zn_iaddN (pc := 20) (x := (vS (fun c => z (25 + 8 * l + c)) (c))) (y := (z (25 + 8 * l + c))) rfl ?_
      refine zn_istore_n (pc := 21) (L' := [some (.ref 11), some (.int (nI l)), some (.int (nI ((vS (fun c => z (25 + 8 * l + c)) (c)) + (z (25 + 8 * l + c))))), some (.int (nI c))]) rfl (by decide) rfl ?_
      refine zn_iincN (pc := 22) (L' := [some (.ref 11), some (.int (nI l)), some (.int (nI ((vS (fun c => z (25 + 8 * l + c)) (c)) + (z (25 + 8 * l + c))))), some (.int (nI (c + 1)))]) 1 rfl rfl rfl (by decide) rfl ?_
      refine zn_goto (pc := 25) (tgt := 4) rfl rfl ?_
      exact ih (c + 1) (by omega)
theorem c_signsOf  {R : Nat → Nat → Nat} {nb : Nat} (hL : LK hh 10 z R nb) {l : Nat} (hl : l < z 0) : Zx g zX1_signsOf [.ref 11, .int (nI l)] (hh) (some (.int (nI (mSg_ z l)))) (hh) := by
  show Zn g zX1_signsOf 0 [some (.ref 11), some (.int (nI l)), none, none] [] (hh) 0 0 _
  refine zn_iconstN (pc := 0) 0 rfl rfl ?_
  refine zn_istore_n (pc := 1) (L' := [some (.ref 11), some (.int (nI l)), some (.int (nI 0)), none]) rfl (by decide) rfl ?_
  refine zn_iconstN (pc := 2) 0 rfl rfl ?_
  refine zn_istore_n (pc := 3) (L' := [some (.ref 11), some (.int (nI l)), some (.int (nI 0)), some (.int (nI 0))]) rfl (by decide) rfl ?_
  exact c_signsOf_l hL hl (z (1 + l)) 0 (by omega)
theorem c_signCount_l {R : Nat → Nat → Nat} {nb : Nat} (hL : LK hh 10 z R nb) : ∀ (n : Nat) (l : Nat), l + n = z 0 → Zn g zX1_signCount 4 [some (.ref 11), some (.int (nI (vS (mSg_ z) (l)))), some (.int (nI l))] [] (hh) 0 0 (fun r' h' => r' = .inl (some (.int (nI (vS (mSg_ z) (z 0))))) ∧ h' = (hh)) := by
  intro n
  induction n with
  | zero =>
    intro l hn0
    have hz := hL.ok
    have hzb := hL.zb
    have hk := hL.c
    have hbk := hL.b
    have hr := hL.r
    have h84 := hr.le
    have hlo := hL.lo
    have ha := hr.bd
    have hv := hr.cov
    obtain ⟨Xs, Bn, hxs, hbs, hpx, hpb⟩ := hL.x
    have h0 := hz.1
    have h1 := hz.2.1
    obtain ⟨C, V, o1, oa, o7, k0, kk⟩ := id hk
    have a0 : hh.1 12 = some (mNA 24 (C 0)) := oa 0 (by decide)
    have a1 : hh.1 13 = some (mNA 192 (C 1)) := oa 1 (by decide)
    have a2 : hh.1 14 = some (mNA 192 (C 2)) := oa 2 (by decide)
    have a3 : hh.1 15 = some (mNA 192 (C 3)) := oa 3 (by decide)
    have a4 : hh.1 16 = some (mNA 192 (C 4)) := oa 4 (by decide)
    obtain ⟨D, W, p8, pa, p17, pk⟩ := id hbk
    have e0 : hh.1 19 = some (mNA 84 (D 0)) := pa 0 (by decide)
    have e1 : hh.1 20 = some (mNA 84 (D 1)) := pa 1 (by decide)
    have e2 : hh.1 21 = some (mNA 84 (D 2)) := pa 2 (by decide)
    have e3 : hh.1 22 = some (mNA 84 (D 3)) := pa 3 (by decide)
    have e4 : hh.1 23 = some (mNA 84 (D 4)) := pa 4 (by decide)
    have e5 : hh.1 24 = some (mNA 84 (D 5)) := pa 5 (by decide)
    have e6 : hh.1 25 = some (mNA 84 (D 6)) := pa 6 (by decide)
    have e7 : hh.1 26 = some (mNA 84 (D 7)) := pa 7 (by decide)
    refine zn_iload_n (pc := 4) rfl rfl ?_
    refine zn_aload_n (pc := 5) rfl rfl ?_
    refine zn_get (pc := 6) (v := .int (nI (z 0))) rfl o1 rfl ?_
    refine zn_icmp_geN (pc := 9) (tgt := 26) (x := l) (y := (z 0)) rfl rfl (by omega) (by omega) (fun c1 => ?_) (fun c1 => ?_)
    · refine zn_iload_n (pc := 26) rfl rfl ?_
      have e8 : l = z 0 := by omega
      exact zx_i (pc := 27) rfl rfl (by rw [e8]) rfl
    · exfalso; omega
  | succ n ih =>
    intro l hn0
    have hz := hL.ok
    have hzb := hL.zb
    have hk := hL.c
    have hbk := hL.b
    have hr := hL.r
    have h84 := hr.le
    have hlo := hL.lo
    have ha := hr.bd
    have hv := hr.cov
    obtain ⟨Xs, Bn, hxs, hbs, hpx, hpb⟩ := hL.x
    have h0 := hz.1
    have h1 := hz.2.1
    obtain ⟨C, V, o1, oa, o7, k0, kk⟩ := id hk
    have a0 : hh.1 12 = some (mNA 24 (C 0)) := oa 0 (by decide)
    have a1 : hh.1 13 = some (mNA 192 (C 1)) := oa 1 (by decide)
    have a2 : hh.1 14 = some (mNA 192 (C 2)) := oa 2 (by decide)
    have a3 : hh.1 15 = some (mNA 192 (C 3)) := oa 3 (by decide)
    have a4 : hh.1 16 = some (mNA 192 (C 4)) := oa 4 (by decide)
    obtain ⟨D, W, p8, pa, p17, pk⟩ := id hbk
    have e0 : hh.1 19 = some (mNA 84 (D 0)) := pa 0 (by decide)
    have e1 : hh.1 20 = some (mNA 84 (D 1)) := pa 1 (by decide)
    have e2 : hh.1 21 = some (mNA 84 (D 2)) := pa 2 (by decide)
    have e3 : hh.1 22 = some (mNA 84 (D 3)) := pa 3 (by decide)
    have e4 : hh.1 23 = some (mNA 84 (D 4)) := pa 4 (by decide)
    have e5 : hh.1 24 = some (mNA 84 (D 5)) := pa 5 (by decide)
    have e6 : hh.1 25 = some (mNA 84 (D 6)) := pa 6 (by decide)
    have e7 : hh.1 26 = some (mNA 84 (D 7)) := pa 7 (by decide)
    refine zn_iload_n (pc := 4) rfl rfl ?_
    refine zn_aload_n (pc := 5) rfl rfl ?_
    refine zn_get (pc := 6) (v := .int (nI (z 0))) rfl o1 rfl ?_
    refine zn_icmp_geN (pc := 9) (tgt := 26) (x := l) (y := (z 0)) rfl rfl (by omega) (by omega) (fun c1 => ?_) (fun c1 => ?_)
    · refine zn_iload_n (pc := 26) rfl rfl ?_
      have e8 : l = z 0 := by omega
      exact zx_i (pc := 27) rfl rfl (by rw [e8]) rfl
    · refine zn_iload_n (pc := 12) rfl rfl ?_
      refine zn_aload_n (pc := 13) rfl rfl ?_
      refine zn_iload_n (pc := 14) rfl rfl ?_
      refine zn_callVx (pc := 15) (J := zX1_signsOf) (o := 11) (as := [.int (nI l)]) (rest := [.int (nI (vS (mSg_ z) (l)))]) rfl rfl rfl rfl o1 rfl rfl rfl (Nat.le_of_ble_eq_true rfl) (Nat.le_of_ble_eq_true rfl) (Nat.le_of_ble_eq_true rfl) (Nat.le_of_ble_eq_true rfl) (c_signsOf hL (l := l) (by omega)) ?_
      refine zn_iaddN (pc := 18) (x := (vS (mSg_ z) (l))) (y := (mSg_ z l)) rfl ?_
      refine zn_istore_n (pc := 19) (L' := [some (.ref 11), some (.int (nI ((vS (mSg_ z) (l)) + (mSg_ z l)))), some (.int (nI l))]) rfl (by decide) rfl ?_
      refine zn_iincN (pc := 20) (L' := [some (.ref 11), some (.int (nI ((vS (mSg_ z) (l)) + (mSg_ z l)))), some (.int (nI (l + 1)))]) 1 rfl rfl rfl (by decide) rfl ?_
      refine zn_goto (pc := 23) (tgt := 4) rfl rfl ?_
      exact ih (l + 1) (by omega)
theorem c_signCount  {R : Nat → Nat → Nat} {nb : Nat} (hL : LK hh 10 z R nb) : Zx g zX1_signCount [.ref 11] (hh) (some (.int (nI (vS (mSg_ z) (z 0))))) (hh) := by
  show Zn g zX1_signCount 0 [some (.ref 11), none, none] [] (hh) 0 0 _
  refine zn_iconstN (pc := 0) 0 rfl rfl ?_
  refine zn_istore_n (pc := 1) (L' := [some (.ref 11), some (.int (nI 0)), none]) rfl (by decide) rfl ?_
  refine zn_iconstN (pc := 2) 0 rfl rfl ?_
  refine zn_istore_n (pc := 3) (L' := [some (.ref 11), some (.int (nI 0)), some (.int (nI 0))]) rfl (by decide) rfl ?_
  exact c_signCount_l hL (z 0) 0 (by omega)
theorem c_countKind_i {R : Nat → Nat → Nat} {nb : Nat} (hL : LK hh 10 z R nb) {k l : Nat} {Q : zR → zH → Prop} (hk9 : k ≤ 2) (hl : l < z 0) : ∀ (n : Nat) (c s : Nat), c + n = z (1 + l) → Zn g zX1_countKind 4 [some (.ref 11), some (.int (nI k)), some (.int (nI (s + vS (mKn z k l) (z (1 + l))))), some (.int (nI (l + 1))), none] [] (hh) 0 0 Q → Zn g zX1_countKind 15 [some (.ref 11), some (.int (nI k)), some (.int (nI (s + vS (mKn z k l) c))), some (.int (nI l)), some (.int (nI c))] [] (hh) 0 0 Q := by
  intro n
  induction n with
  | zero =>
    intro c s hn0 hn1
    have hz := hL.ok
    have hzb := hL.zb
    have hk := hL.c
    have hbk := hL.b
    have hr := hL.r
    have h84 := hr.le
    have hlo := hL.lo
    have ha := hr.bd
    have hv := hr.cov
    obtain ⟨Xs, Bn, hxs, hbs, hpx, hpb⟩ := hL.x
    have h0 := hz.1
    have h1 := hz.2.1
    obtain ⟨C, V, o1, oa, o7, k0, kk⟩ := id hk
    have a0 : hh.1 12 = some (mNA 24 (C 0)) := oa 0 (by decide)
    have a1 : hh.1 13 = some (mNA 192 (C 1)) := oa 1 (by decide)
    have a2 : hh.1 14 = some (mNA 192 (C 2)) := oa 2 (by decide)
    have a3 : hh.1 15 = some (mNA 192 (C 3)) := oa 3 (by decide)
    have a4 : hh.1 16 = some (mNA 192 (C 4)) := oa 4 (by decide)
    obtain ⟨D, W, p8, pa, p17, pk⟩ := id hbk
    have e0 : hh.1 19 = some (mNA 84 (D 0)) := pa 0 (by decide)
    have e1 : hh.1 20 = some (mNA 84 (D 1)) := pa 1 (by decide)
    have e2 : hh.1 21 = some (mNA 84 (D 2)) := pa 2 (by decide)
    have e3 : hh.1 22 = some (mNA 84 (D 3)) := pa 3 (by decide)
    have e4 : hh.1 23 = some (mNA 84 (D 4)) := pa 4 (by decide)
    have e5 : hh.1 24 = some (mNA 84 (D 5)) := pa 5 (by decide)
    have e6 : hh.1 25 = some (mNA 84 (D 6)) := pa 6 (by decide)
    have e7 : hh.1 26 = some (mNA 84 (D 7)) := pa 7 (by decide)
    have hzl := hz.2.2.1 l hl
    refine zn_iload (pc := 15) rfl rfl ?_
    refine zn_aload_n (pc := 17) rfl rfl ?_
    refine zn_iload_n (pc := 18) rfl rfl ?_
    refine zn_callVx (pc := 19) (J := zX1_cellsOf) (o := 11) (as := [.int (nI l)]) (rest := [.int (nI c)]) rfl rfl rfl rfl o1 rfl rfl rfl (Nat.le_of_ble_eq_true rfl) (Nat.le_of_ble_eq_true rfl) (Nat.le_of_ble_eq_true rfl) (Nat.le_of_ble_eq_true rfl) (c_cellsOf_10 hz hk (l := l) (by omega)) ?_
    refine zn_icmp_geN (pc := 22) (tgt := 50) (x := c) (y := (z (1 + l))) rfl rfl (by have : mK z c l ≤ 2 := skind_le _ _; omega) (by have : mK z c l ≤ 2 := skind_le _ _; omega) (fun c1 => ?_) (fun c1 => ?_)
    · refine zn_iincN (pc := 50) (L' := [some (.ref 11), some (.int (nI k)), some (.int (nI (s + vS (mKn z k l) c))), some (.int (nI (l + 1))), some (.int (nI c))]) 1 rfl rfl rfl (by decide) rfl ?_
      refine zn_goto (pc := 53) (tgt := 4) rfl rfl ?_
      have e9 : c = z (1 + l) := by omega
      rw [← e9] at hn1
      exact zn_sub (L' := [some (.ref 11), some (.int (nI k)), some (.int (nI (s + vS (mKn z k l) c))), some (.int (nI (l + 1))), none]) ⟨rfl, rfl, rfl, rfl, trivial⟩ hn1
    · exfalso; omega
  | succ n ih =>
    intro c s hn0 hn1
    have hz := hL.ok
    have hzb := hL.zb
    have hk := hL.c
    have hbk := hL.b
    have hr := hL.r
    have h84 := hr.le
    have hlo := hL.lo
    have ha := hr.bd
    have hv := hr.cov
    obtain ⟨Xs, Bn, hxs, hbs, hpx, hpb⟩ := hL.x
    have h0 := hz.1
    have h1 := hz.2.1
    obtain ⟨C, V, o1, oa, o7, k0, kk⟩ := id hk
    have a0 : hh.1 12 = some (mNA 24 (C 0)) := oa 0 (by decide)
    have a1 : hh.1 13 = some (mNA 192 (C 1)) := oa 1 (by decide)
    have a2 : hh.1 14 = some (mNA 192 (C 2)) := oa 2 (by decide)
    have a3 : hh.1 15 = some (mNA 192 (C 3)) := oa 3 (by decide)
    have a4 : hh.1 16 = some (mNA 192 (C 4)) := oa 4 (by decide)
    obtain ⟨D, W, p8, pa, p17, pk⟩ := id hbk
    have e0 : hh.1 19 = some (mNA 84 (D 0)) := pa 0 (by decide)
    have e1 : hh.1 20 = some (mNA 84 (D 1)) := pa 1 (by decide)
    have e2 : hh.1 21 = some (mNA 84 (D 2)) := pa 2 (by decide)
    have e3 : hh.1 22 = some (mNA 84 (D 3)) := pa 3 (by decide)
    have e4 : hh.1 23 = some (mNA 84 (D 4)) := pa 4 (by decide)
    have e5 : hh.1 24 = some (mNA 84 (D 5)) := pa 5 (by decide)
    have e6 : hh.1 25 = some (mNA 84 (D 6)) := pa 6 (by decide)
    have e7 : hh.1 26 = some (mNA 84 (D 7)) := pa 7 (by decide)
    have hzl := hz.2.2.1 l hl
    refine zn_iload (pc := 15) rfl rfl ?_
    refine zn_aload_n (pc := 17) rfl rfl ?_
    refine zn_iload_n (pc := 18) rfl rfl ?_
    refine zn_callVx (pc := 19) (J := zX1_cellsOf) (o := 11) (as := [.int (nI l)]) (rest := [.int (nI c)]) rfl rfl rfl rfl o1 rfl rfl rfl (Nat.le_of_ble_eq_true rfl) (Nat.le_of_ble_eq_true rfl) (Nat.le_of_ble_eq_true rfl) (Nat.le_of_ble_eq_true rfl) (c_cellsOf_10 hz hk (l := l) (by omega)) ?_
    refine zn_icmp_geN (pc := 22) (tgt := 50) (x := c) (y := (z (1 + l))) rfl rfl (by have : mK z c l ≤ 2 := skind_le _ _; omega) (by have : mK z c l ≤ 2 := skind_le _ _; omega) (fun c1 => ?_) (fun c1 => ?_)
    · refine zn_iincN (pc := 50) (L' := [some (.ref 11), some (.int (nI k)), some (.int (nI (s + vS (mKn z k l) c))), some (.int (nI (l + 1))), some (.int (nI c))]) 1 rfl rfl rfl (by decide) rfl ?_
      refine zn_goto (pc := 53) (tgt := 4) rfl rfl ?_
      have e9 : c = z (1 + l) := by omega
      rw [← e9] at hn1
      exact zn_sub (L' := [some (.ref 11), some (.int (nI k)), some (.int (nI (s + vS (mKn z k l) c))), some (.int (nI (l + 1))), none]) ⟨rfl, rfl, rfl, rfl, trivial⟩ hn1
    · refine zn_iload_n (pc := 25) rfl rfl ?_
      refine zn_joinV (v := .int (nI (mKn z k l c))) (pj := 42) ?_ (fun K2 => ?_)
      · refine zn_iaddN (pc := 42) (x := (s + vS (mKn z k l) c)) (y := (mKn z k l c)) rfl ?_
        refine zn_istore_n (pc := 43) (L' := [some (.ref 11), some (.int (nI k)), some (.int (nI ((s + vS (mKn z k l) c) + (mKn z k l c)))), some (.int (nI l)), some (.int (nI c))]) rfl (by decide) rfl ?_
        refine zn_iincN (pc := 44) (L' := [some (.ref 11), some (.int (nI k)), some (.int (nI ((s + vS (mKn z k l) c) + (mKn z k l c)))), some (.int (nI l)), some (.int (nI (c + 1)))]) 1 rfl rfl rfl (by decide) rfl ?_
        refine zn_goto (pc := 47) (tgt := 15) rfl rfl ?_
        exact zn_sub (L' := [some (.ref 11), some (.int (nI k)), some (.int (nI (s + vS (mKn z k l) (c + 1)))), some (.int (nI l)), some (.int (nI (c + 1)))]) ⟨rfl, rfl, by simp only [vS, Nat.add_assoc], rfl, rfl, trivial⟩ (ih (c + 1) s (by omega) hn1)
      · refine zn_aload_n (pc := 26) rfl rfl ?_
        refine zn_iload_n (pc := 27) rfl rfl ?_
        refine zn_iload (pc := 28) rfl rfl ?_
        refine zn_callVx (pc := 30) (J := zX1_kind) (o := 11) (as := [.int (nI l), .int (nI c)]) (rest := [.int (nI (s + vS (mKn z k l) c))]) rfl rfl rfl rfl o1 rfl rfl rfl (Nat.le_of_ble_eq_true rfl) (Nat.le_of_ble_eq_true rfl) (Nat.le_of_ble_eq_true rfl) (Nat.le_of_ble_eq_true rfl) (c_kind_10 hz hk (l := l) (c := c) (by omega) (by omega)) ?_
        refine zn_iload_n (pc := 33) rfl rfl ?_
        refine zn_icmp_neN (pc := 34) (tgt := 41) (x := (mK z c l)) (y := k) rfl rfl (by have : mK z c l ≤ 2 := skind_le _ _; omega) (by have : mK z c l ≤ 2 := skind_le _ _; omega) (fun c3 => ?_) (fun c3 => ?_)
        · refine zn_iconstN (pc := 41) 0 rfl rfl ?_
          exact zn_top (v' := .int (nI (mKn z k l c))) (by unfold mKn; rw [if_neg (by assumption)]) K2
        · refine zn_iconstN (pc := 37) 1 rfl rfl ?_
          refine zn_goto (pc := 38) (tgt := 42) rfl rfl ?_
          exact zn_top (v' := .int (nI (mKn z k l c))) (by unfold mKn; rw [if_pos (by assumption)]) K2
theorem c_countKind_o {R : Nat → Nat → Nat} {nb : Nat} (hL : LK hh 10 z R nb) {k : Nat} (hk9 : k ≤ 2) : ∀ (n : Nat) (l : Nat), l + n = z 0 → Zn g zX1_countKind 4 [some (.ref 11), some (.int (nI k)), some (.int (nI (vS (fun l => vS (mKn z k l) (z (1 + l))) l))), some (.int (nI l)), none] [] (hh) 0 0 (fun r' h' => r' = .inl (some (.int (nI (vS (fun l => vS (mKn z k l) (z (1 + l))) (z 0))))) ∧ h' = (hh)) := by
  intro n
  induction n with
  | zero =>
    intro l hn0
    have hz := hL.ok
    have hzb := hL.zb
    have hk := hL.c
    have hbk := hL.b
    have hr := hL.r
    have h84 := hr.le
    have hlo := hL.lo
    have ha := hr.bd
    have hv := hr.cov
    obtain ⟨Xs, Bn, hxs, hbs, hpx, hpb⟩ := hL.x
    have h0 := hz.1
    have h1 := hz.2.1
    obtain ⟨C, V, o1, oa, o7, k0, kk⟩ := id hk
    have a0 : hh.1 12 = some (mNA 24 (C 0)) := oa 0 (by decide)
    have a1 : hh.1 13 = some (mNA 192 (C 1)) := oa 1 (by decide)
    have a2 : hh.1 14 = some (mNA 192 (C 2)) := oa 2 (by decide)
    have a3 : hh.1 15 = some (mNA 192 (C 3)) := oa 3 (by decide)
    have a4 : hh.1 16 = some (mNA 192 (C 4)) := oa 4 (by decide)
    obtain ⟨D, W, p8, pa, p17, pk⟩ := id hbk
    have e0 : hh.1 19 = some (mNA 84 (D 0)) := pa 0 (by decide)
    have e1 : hh.1 20 = some (mNA 84 (D 1)) := pa 1 (by decide)
    have e2 : hh.1 21 = some (mNA 84 (D 2)) := pa 2 (by decide)
    have e3 : hh.1 22 = some (mNA 84 (D 3)) := pa 3 (by decide)
    have e4 : hh.1 23 = some (mNA 84 (D 4)) := pa 4 (by decide)
    have e5 : hh.1 24 = some (mNA 84 (D 5)) := pa 5 (by decide)
    have e6 : hh.1 25 = some (mNA 84 (D 6)) := pa 6 (by decide)
    have e7 : hh.1 26 = some (mNA 84 (D 7)) := pa 7 (by decide)
    refine zn_iload_n (pc := 4) rfl rfl ?_
    refine zn_aload_n (pc := 5) rfl rfl ?_
    refine zn_get (pc := 6) (v := .int (nI (z 0))) rfl o1 rfl ?_
    refine zn_icmp_geN (pc := 9) (tgt := 56) (x := l) (y := (z 0)) rfl rfl (by omega) (by omega) (fun c1 => ?_) (fun c1 => ?_)
    · refine zn_iload_n (pc := 56) rfl rfl ?_
      have e9 : l = z 0 := by omega
      exact zx_i (pc := 57) rfl rfl (by rw [e9]) rfl
    · exfalso; omega
  | succ n ih =>
    intro l hn0
    have hz := hL.ok
    have hzb := hL.zb
    have hk := hL.c
    have hbk := hL.b
    have hr := hL.r
    have h84 := hr.le
    have hlo := hL.lo
    have ha := hr.bd
    have hv := hr.cov
    obtain ⟨Xs, Bn, hxs, hbs, hpx, hpb⟩ := hL.x
    have h0 := hz.1
    have h1 := hz.2.1
    obtain ⟨C, V, o1, oa, o7, k0, kk⟩ := id hk
    have a0 : hh.1 12 = some (mNA 24 (C 0)) := oa 0 (by decide)
    have a1 : hh.1 13 = some (mNA 192 (C 1)) := oa 1 (by decide)
    have a2 : hh.1 14 = some (mNA 192 (C 2)) := oa 2 (by decide)
    have a3 : hh.1 15 = some (mNA 192 (C 3)) := oa 3 (by decide)
    have a4 : hh.1 16 = some (mNA 192 (C 4)) := oa 4 (by decide)
    obtain ⟨D, W, p8, pa, p17, pk⟩ := id hbk
    have e0 : hh.1 19 = some (mNA 84 (D 0)) := pa 0 (by decide)
    have e1 : hh.1 20 = some (mNA 84 (D 1)) := pa 1 (by decide)
    have e2 : hh.1 21 = some (mNA 84 (D 2)) := pa 2 (by decide)
    have e3 : hh.1 22 = some (mNA 84 (D 3)) := pa 3 (by decide)
    have e4 : hh.1 23 = some (mNA 84 (D 4)) := pa 4 (by decide)
    have e5 : hh.1 24 = some (mNA 84 (D 5)) := pa 5 (by decide)
    have e6 : hh.1 25 = some (mNA 84 (D 6)) := pa 6 (by decide)
    have e7 : hh.1 26 = some (mNA 84 (D 7)) := pa 7 (by decide)
    refine zn_iload_n (pc := 4) rfl rfl ?_
    refine zn_aload_n (pc := 5) rfl rfl ?_
    refine zn_get (pc := 6) (v := .int (nI (z 0))) rfl o1 rfl ?_
    refine zn_icmp_geN (pc := 9) (tgt := 56) (x := l) (y := (z 0)) rfl rfl (by omega) (by omega) (fun c1 => ?_) (fun c1 => ?_)
    · refine zn_iload_n (pc := 56) rfl rfl ?_
      have e9 : l = z 0 := by omega
      exact zx_i (pc := 57) rfl rfl (by rw [e9]) rfl
    · refine zn_iconstN (pc := 12) 0 rfl rfl ?_
      refine zn_istore (pc := 13) (L' := [some (.ref 11), some (.int (nI k)), some (.int (nI (vS (fun l => vS (mKn z k l) (z (1 + l))) l))), some (.int (nI l)), some (.int (nI 0))]) rfl (by decide) rfl ?_
      exact zn_sub (L' := [some (.ref 11), some (.int (nI k)), some (.int (nI (vS (fun l => vS (mKn z k l) (z (1 + l))) l + vS (mKn z k l) 0))), some (.int (nI l)), some (.int (nI 0))]) ⟨rfl, rfl, rfl, rfl, rfl, trivial⟩ (c_countKind_i hL hk9 (by omega) (z (1 + l)) 0 _ (by omega) (ih (l + 1) (by omega)))
theorem c_countKind  {R : Nat → Nat → Nat} {nb : Nat} (hL : LK hh 10 z R nb) {k : Nat} (hk9 : k ≤ 2) : Zx g zX1_countKind [.ref 11, .int (nI k)] (hh) (some (.int (nI (vS (fun l => vS (mKn z k l) (z (1 + l))) (z 0))))) (hh) := by
  show Zn g zX1_countKind 0 [some (.ref 11), some (.int (nI k)), none, none, none] [] (hh) 0 0 _
  refine zn_iconstN (pc := 0) 0 rfl rfl ?_
  refine zn_istore_n (pc := 1) (L' := [some (.ref 11), some (.int (nI k)), some (.int (nI 0)), none, none]) rfl (by decide) rfl ?_
  refine zn_iconstN (pc := 2) 0 rfl rfl ?_
  refine zn_istore_n (pc := 3) (L' := [some (.ref 11), some (.int (nI k)), some (.int (nI 0)), some (.int (nI 0)), none]) rfl (by decide) rfl ?_
  exact c_countKind_o hL hk9 (z 0) 0 (by omega)
theorem c_fixedLength_l {R : Nat → Nat → Nat} {nb : Nat} (hL : LK hh 10 z R nb) {l : Nat} (hl : l < z 0) : ∀ (n : Nat) (c : Nat), c + n = z (1 + l) → Zn g zX1_fixedLength 4 [some (.ref 11), some (.int (nI l)), some (.int (nI (mFx z l c))), some (.int (nI c))] [] (hh) 0 0 (fun r' h' => r' = .inl (some (.int (nI (mFx z l (z (1 + l)))))) ∧ h' = (hh)) := by
  intro n
  induction n with
  | zero =>
    intro c hn0
    have hz := hL.ok
    have hzb := hL.zb
    have hk := hL.c
    have hbk := hL.b
    have hr := hL.r
    have h84 := hr.le
    have hlo := hL.lo
    have ha := hr.bd
    have hv := hr.cov
    obtain ⟨Xs, Bn, hxs, hbs, hpx, hpb⟩ := hL.x
    have h0 := hz.1
    have h1 := hz.2.1
    obtain ⟨C, V, o1, oa, o7, k0, kk⟩ := id hk
    have a0 : hh.1 12 = some (mNA 24 (C 0)) := oa 0 (by decide)
    have a1 : hh.1 13 = some (mNA 192 (C 1)) := oa 1 (by decide)
    have a2 : hh.1 14 = some (mNA 192 (C 2)) := oa 2 (by decide)
    have a3 : hh.1 15 = some (mNA 192 (C 3)) := oa 3 (by decide)
    have a4 : hh.1 16 = some (mNA 192 (C 4)) := oa 4 (by decide)
    obtain ⟨D, W, p8, pa, p17, pk⟩ := id hbk
    have e0 : hh.1 19 = some (mNA 84 (D 0)) := pa 0 (by decide)
    have e1 : hh.1 20 = some (mNA 84 (D 1)) := pa 1 (by decide)
    have e2 : hh.1 21 = some (mNA 84 (D 2)) := pa 2 (by decide)
    have e3 : hh.1 22 = some (mNA 84 (D 3)) := pa 3 (by decide)
    have e4 : hh.1 23 = some (mNA 84 (D 4)) := pa 4 (by decide)
    have e5 : hh.1 24 = some (mNA 84 (D 5)) := pa 5 (by decide)
    have e6 : hh.1 25 = some (mNA 84 (D 6)) := pa 6 (by decide)
    have e7 : hh.1 26 = some (mNA 84 (D 7)) := pa 7 (by decide)
    have hzl := hz.2.2.1 l hl
    have q1 := mFx_le (l := l) hzb c
    have q2 := hzb (25 + 8 * l + c)
    refine zn_iload_n (pc := 4) rfl rfl ?_
    refine zn_aload_n (pc := 5) rfl rfl ?_
    refine zn_iload_n (pc := 6) rfl rfl ?_
    refine zn_callVx (pc := 7) (J := zX1_cellsOf) (o := 11) (as := [.int (nI l)]) (rest := [.int (nI c)]) rfl rfl rfl rfl o1 rfl rfl rfl (Nat.le_of_ble_eq_true rfl) (Nat.le_of_ble_eq_true rfl) (Nat.le_of_ble_eq_true rfl) (Nat.le_of_ble_eq_true rfl) (c_cellsOf_10 hz hk (l := l) (by omega)) ?_
    refine zn_icmp_geN (pc := 10) (tgt := 47) (x := c) (y := (z (1 + l))) rfl rfl (by omega) (by omega) (fun c1 => ?_) (fun c1 => ?_)
    · refine zn_iload_n (pc := 47) rfl rfl ?_
      have e8 : c = z (1 + l) := by omega
      exact zx_i (pc := 48) rfl rfl (by rw [e8]) rfl
    · exfalso; omega
  | succ n ih =>
    intro c hn0
    have hz := hL.ok
    have hzb := hL.zb
    have hk := hL.c
    have hbk := hL.b
    have hr := hL.r
    have h84 := hr.le
    have hlo := hL.lo
    have ha := hr.bd
    have hv := hr.cov
    obtain ⟨Xs, Bn, hxs, hbs, hpx, hpb⟩ := hL.x
    have h0 := hz.1
    have h1 := hz.2.1
    obtain ⟨C, V, o1, oa, o7, k0, kk⟩ := id hk
    have a0 : hh.1 12 = some (mNA 24 (C 0)) := oa 0 (by decide)
    have a1 : hh.1 13 = some (mNA 192 (C 1)) := oa 1 (by decide)
    have a2 : hh.1 14 = some (mNA 192 (C 2)) := oa 2 (by decide)
    have a3 : hh.1 15 = some (mNA 192 (C 3)) := oa 3 (by decide)
    have a4 : hh.1 16 = some (mNA 192 (C 4)) := oa 4 (by decide)
    obtain ⟨D, W, p8, pa, p17, pk⟩ := id hbk
    have e0 : hh.1 19 = some (mNA 84 (D 0)) := pa 0 (by decide)
    have e1 : hh.1 20 = some (mNA 84 (D 1)) := pa 1 (by decide)
    have e2 : hh.1 21 = some (mNA 84 (D 2)) := pa 2 (by decide)
    have e3 : hh.1 22 = some (mNA 84 (D 3)) := pa 3 (by decide)
    have e4 : hh.1 23 = some (mNA 84 (D 4)) := pa 4 (by decide)
    have e5 : hh.1 24 = some (mNA 84 (D 5)) := pa 5 (by decide)
    have e6 : hh.1 25 = some (mNA 84 (D 6)) := pa 6 (by decide)
    have e7 : hh.1 26 = some (mNA 84 (D 7)) := pa 7 (by decide)
    have hzl := hz.2.2.1 l hl
    have q1 := mFx_le (l := l) hzb c
    have q2 := hzb (25 + 8 * l + c)
    refine zn_iload_n (pc := 4) rfl rfl ?_
    refine zn_aload_n (pc := 5) rfl rfl ?_
    refine zn_iload_n (pc := 6) rfl rfl ?_
    refine zn_callVx (pc := 7) (J := zX1_cellsOf) (o := 11) (as := [.int (nI l)]) (rest := [.int (nI c)]) rfl rfl rfl rfl o1 rfl rfl rfl (Nat.le_of_ble_eq_true rfl) (Nat.le_of_ble_eq_true rfl) (Nat.le_of_ble_eq_true rfl) (Nat.le_of_ble_eq_true rfl) (c_cellsOf_10 hz hk (l := l) (by omega)) ?_
    refine zn_icmp_geN (pc := 10) (tgt := 47) (x := c) (y := (z (1 + l))) rfl rfl (by omega) (by omega) (fun c1 => ?_) (fun c1 => ?_)
    · refine zn_iload_n (pc := 47) rfl rfl ?_
      have e8 : c = z (1 + l) := by omega
      exact zx_i (pc := 48) rfl rfl (by rw [e8]) rfl
    · refine zn_iload_n (pc := 13) rfl rfl ?_
      refine zn_aload_n (pc := 14) rfl rfl ?_
      refine zn_iload_n (pc := 15) rfl rfl ?_
      refine zn_iload_n (pc := 16) rfl rfl ?_
      refine zn_callVx (pc := 17) (J := zX1_length) (o := 11) (as := [.int (nI l), .int (nI c)]) (rest := [.int (nI (mFx z l c))]) rfl rfl rfl rfl o1 rfl rfl rfl (Nat.le_of_ble_eq_true rfl) (Nat.le_of_ble_eq_true rfl) (Nat.le_of_ble_eq_true rfl) (Nat.le_of_ble_eq_true rfl) (c_length_10 hz hk (l := l) (c := c) (by omega) (by omega)) ?_
      refine zn_iaddN (pc := 20) (x := (mFx z l c)) (y := (z (25 + 8 * l + c))) rfl ?_
      refine zn_istore_n (pc := 21) (L' := [some (.ref 11), some (.int (nI l)), some (.int (nI (mFx z l c + (z (25 + 8 * l + c))))), some (.int (nI c))]) rfl (by decide) rfl ?_
      refine zn_aload_n (pc := 22) rfl rfl ?_
      refine zn_iload_n (pc := 23) rfl rfl ?_
      refine zn_iload_n (pc := 24) rfl rfl ?_
      refine zn_callVx (pc := 25) (J := zX1_endsWithTab) (o := 11) (as := [.int (nI l), .int (nI c)]) (rest := []) rfl rfl rfl rfl o1 rfl rfl rfl (Nat.le_of_ble_eq_true rfl) (Nat.le_of_ble_eq_true rfl) (Nat.le_of_ble_eq_true rfl) (Nat.le_of_ble_eq_true rfl) (c_endsN_10 hz hk (l := l) (c := c) (by omega) (by omega)) ?_
      refine zn_if_eqB (pc := 28) (tgt := 41) rfl rfl (fun c2 => ?_) (fun c2 => ?_)
      · refine zn_iincN (pc := 41) (L' := [some (.ref 11), some (.int (nI l)), some (.int (nI (mFx z l c + (z (25 + 8 * l + c))))), some (.int (nI (c + 1)))]) 1 rfl rfl rfl (by decide) rfl ?_
        refine zn_goto (pc := 44) (tgt := 4) rfl rfl ?_
        exact zn_sub (L' := [some (.ref 11), some (.int (nI l)), some (.int (nI (mFx z l (c + 1)))), some (.int (nI (c + 1)))]) ⟨rfl, rfl, by simp only [mFx]; rw [if_neg (fun q9 => absurd (show mE z c l from ⟨hl, by omega⟩) (by assumption))], rfl, trivial⟩ (ih (c + 1) (by omega))
      · have q3 : (mFx z l c + z (25 + 8 * l + c)) % 8 < 8 := Nat.mod_lt _ (by omega)
        refine zn_iload_n (pc := 31) rfl rfl ?_
        refine zn_iload_n (pc := 32) rfl rfl ?_
        refine zn_bipushN (pc := 33) 8 rfl rfl ?_
        refine zn_iremN (pc := 35) (x := (mFx z l c + (z (25 + 8 * l + c)))) (y := 8) rfl (by omega) (by omega) (by omega) ?_
        refine zn_isubN (pc := 36) (x := (mFx z l c + (z (25 + 8 * l + c)))) (y := ((mFx z l c + (z (25 + 8 * l + c))) % 8)) rfl (by omega) ?_
        refine zn_bipushN (pc := 37) 8 rfl rfl ?_
        refine zn_iaddN (pc := 39) (x := ((mFx z l c + (z (25 + 8 * l + c))) - ((mFx z l c + (z (25 + 8 * l + c))) % 8))) (y := 8) rfl ?_
        refine zn_istore_n (pc := 40) (L' := [some (.ref 11), some (.int (nI l)), some (.int (nI (((mFx z l c + (z (25 + 8 * l + c))) - ((mFx z l c + (z (25 + 8 * l + c))) % 8)) + 8))), some (.int (nI c))]) rfl (by decide) rfl ?_
        refine zn_iincN (pc := 41) (L' := [some (.ref 11), some (.int (nI l)), some (.int (nI (((mFx z l c + (z (25 + 8 * l + c))) - ((mFx z l c + (z (25 + 8 * l + c))) % 8)) + 8))), some (.int (nI (c + 1)))]) 1 rfl rfl rfl (by decide) rfl ?_
        refine zn_goto (pc := 44) (tgt := 4) rfl rfl ?_
        exact zn_sub (L' := [some (.ref 11), some (.int (nI l)), some (.int (nI (mFx z l (c + 1)))), some (.int (nI (c + 1)))]) ⟨rfl, rfl, by simp only [mFx]; rw [if_pos (by have := (show mE z c l by assumption).2; omega)]; congr 3; omega, rfl, trivial⟩ (ih (c + 1) (by omega))
theorem c_fixedLength  {R : Nat → Nat → Nat} {nb : Nat} (hL : LK hh 10 z R nb) {l : Nat} (hl : l < z 0) : Zx g zX1_fixedLength [.ref 11, .int (nI l)] (hh) (some (.int (nI (mFx z l (z (1 + l)))))) (hh) := by
  show Zn g zX1_fixedLength 0 [some (.ref 11), some (.int (nI l)), none, none] [] (hh) 0 0 _
  refine zn_iconstN (pc := 0) 0 rfl rfl ?_
  refine zn_istore_n (pc := 1) (L' := [some (.ref 11), some (.int (nI l)), some (.int (nI 0)), none]) rfl (by decide) rfl ?_
  refine zn_iconstN (pc := 2) 0 rfl rfl ?_
  refine zn_istore_n (pc := 3) (L' := [some (.ref 11), some (.int (nI l)), some (.int (nI 0)), some (.int (nI 0))]) rfl (by decide) rfl ?_
  exact c_fixedLength_l hL hl (z (1 + l)) 0 (by omega)
theorem c_shownLength  {R : Nat → Nat → Nat} {nb : Nat} (hL : LK hh 10 z R nb) {l : Nat} (hl : l < z 0) : Zx g zX5_shownLength [.ref 10, .int (nI l)] (hh) (some (.int (nI (mLg R z nb l)))) (hh) := by
  have hz := hL.ok
  have hzb := hL.zb
  have hk := hL.c
  have hbk := hL.b
  have hr := hL.r
  have h84 := hr.le
  have hlo := hL.lo
  have ha := hr.bd
  have hv := hr.cov
  obtain ⟨Xs, Bn, hxs, hbs, hpx, hpb⟩ := hL.x
  have h0 := hz.1
  have h1 := hz.2.1
  obtain ⟨C, V, o1, oa, o7, k0, kk⟩ := id hk
  have a0 : hh.1 12 = some (mNA 24 (C 0)) := oa 0 (by decide)
  have a1 : hh.1 13 = some (mNA 192 (C 1)) := oa 1 (by decide)
  have a2 : hh.1 14 = some (mNA 192 (C 2)) := oa 2 (by decide)
  have a3 : hh.1 15 = some (mNA 192 (C 3)) := oa 3 (by decide)
  have a4 : hh.1 16 = some (mNA 192 (C 4)) := oa 4 (by decide)
  obtain ⟨D, W, p8, pa, p17, pk⟩ := id hbk
  have e0 : hh.1 19 = some (mNA 84 (D 0)) := pa 0 (by decide)
  have e1 : hh.1 20 = some (mNA 84 (D 1)) := pa 1 (by decide)
  have e2 : hh.1 21 = some (mNA 84 (D 2)) := pa 2 (by decide)
  have e3 : hh.1 22 = some (mNA 84 (D 3)) := pa 3 (by decide)
  have e4 : hh.1 23 = some (mNA 84 (D 4)) := pa 4 (by decide)
  have e5 : hh.1 24 = some (mNA 84 (D 5)) := pa 5 (by decide)
  have e6 : hh.1 25 = some (mNA 84 (D 6)) := pa 6 (by decide)
  have e7 : hh.1 26 = some (mNA 84 (D 7)) := pa 7 (by decide)
  have hzl := hz.2.2.1 l hl
  show Zn g zX5_shownLength 0 [some (.ref 10), some (.int (nI l)), none] [] (hh) 0 0 _
  refine zn_aload_n (pc := 0) rfl rfl ?_
  refine zn_get (pc := 1) (v := .ref 11) rfl hlo rfl ?_
  refine zn_iload_n (pc := 4) rfl rfl ?_
  refine zn_callVx (pc := 5) (J := zX1_cellsOf) (o := 11) (as := [.int (nI l)]) (rest := []) rfl rfl rfl rfl o1 rfl rfl rfl (Nat.le_of_ble_eq_true rfl) (Nat.le_of_ble_eq_true rfl) (Nat.le_of_ble_eq_true rfl) (Nat.le_of_ble_eq_true rfl) (c_cellsOf_10 hz hk (l := l) (by omega)) ?_
  refine zn_iconstN (pc := 8) 1 rfl rfl ?_
  refine zn_isubN (pc := 9) (x := (z (1 + l))) (y := 1) rfl (by omega) ?_
  refine zn_istore_n (pc := 10) (L' := [some (.ref 10), some (.int (nI l)), some (.int (nI ((z (1 + l)) - 1)))]) rfl (by decide) rfl ?_
  refine zn_aload_n (pc := 11) rfl rfl ?_
  refine zn_iload_n (pc := 12) rfl rfl ?_
  refine zn_iload_n (pc := 13) rfl rfl ?_
  refine zn_callVx (pc := 14) (J := zX5_x) (o := 10) (as := [.int (nI l), .int (nI ((z (1 + l)) - 1))]) (rest := []) rfl rfl rfl rfl hlo rfl rfl rfl (Nat.le_of_ble_eq_true rfl) (Nat.le_of_ble_eq_true rfl) (Nat.le_of_ble_eq_true rfl) (Nat.le_of_ble_eq_true rfl) (c_x_10 hL (l := l) (c := ((z (1 + l)) - 1)) (by omega) (by omega)) ?_
  refine zn_aload_n (pc := 17) rfl rfl ?_
  refine zn_get (pc := 18) (v := .ref 11) rfl hlo rfl ?_
  refine zn_iload_n (pc := 21) rfl rfl ?_
  refine zn_iload_n (pc := 22) rfl rfl ?_
  refine zn_callVx (pc := 23) (J := zX1_length) (o := 11) (as := [.int (nI l), .int (nI ((z (1 + l)) - 1))]) (rest := [.int (nI (mX R z nb l ((z (1 + l)) - 1)))]) rfl rfl rfl rfl o1 rfl rfl rfl (Nat.le_of_ble_eq_true rfl) (Nat.le_of_ble_eq_true rfl) (Nat.le_of_ble_eq_true rfl) (Nat.le_of_ble_eq_true rfl) (c_length_10 hz hk (l := l) (c := ((z (1 + l)) - 1)) (by omega) (by omega)) ?_
  refine zn_iaddN (pc := 26) (x := (mX R z nb l ((z (1 + l)) - 1))) (y := (z (25 + 8 * l + ((z (1 + l)) - 1)))) rfl ?_
  exact zx_i (pc := 27) rfl rfl rfl rfl
theorem c_greatest_l {R : Nat → Nat → Nat} {nb : Nat} (hL : LK hh 10 z R nb) : ∀ (n : Nat) (l : Nat), l + n = z 0 → Zn g zX5_greatestShownLength 4 [some (.ref 10), some (.int (nI (mLo R z nb l))), some (.int (nI l))] [] (hh) 0 0 (fun r' h' => r' = .inl (some (.int (nI (mLo R z nb (z 0))))) ∧ h' = (hh)) := by
  intro n
  induction n with
  | zero =>
    intro l hn0
    have hz := hL.ok
    have hzb := hL.zb
    have hk := hL.c
    have hbk := hL.b
    have hr := hL.r
    have h84 := hr.le
    have hlo := hL.lo
    have ha := hr.bd
    have hv := hr.cov
    obtain ⟨Xs, Bn, hxs, hbs, hpx, hpb⟩ := hL.x
    have h0 := hz.1
    have h1 := hz.2.1
    obtain ⟨C, V, o1, oa, o7, k0, kk⟩ := id hk
    have a0 : hh.1 12 = some (mNA 24 (C 0)) := oa 0 (by decide)
    have a1 : hh.1 13 = some (mNA 192 (C 1)) := oa 1 (by decide)
    have a2 : hh.1 14 = some (mNA 192 (C 2)) := oa 2 (by decide)
    have a3 : hh.1 15 = some (mNA 192 (C 3)) := oa 3 (by decide)
    have a4 : hh.1 16 = some (mNA 192 (C 4)) := oa 4 (by decide)
    obtain ⟨D, W, p8, pa, p17, pk⟩ := id hbk
    have e0 : hh.1 19 = some (mNA 84 (D 0)) := pa 0 (by decide)
    have e1 : hh.1 20 = some (mNA 84 (D 1)) := pa 1 (by decide)
    have e2 : hh.1 21 = some (mNA 84 (D 2)) := pa 2 (by decide)
    have e3 : hh.1 22 = some (mNA 84 (D 3)) := pa 3 (by decide)
    have e4 : hh.1 23 = some (mNA 84 (D 4)) := pa 4 (by decide)
    have e5 : hh.1 24 = some (mNA 84 (D 5)) := pa 5 (by decide)
    have e6 : hh.1 25 = some (mNA 84 (D 6)) := pa 6 (by decide)
    have e7 : hh.1 26 = some (mNA 84 (D 7)) := pa 7 (by decide)
    have q2 := mLo_lt (n := nb) (l := l) ha hzb (fun i hi => (hz.2.2.1 i (by omega)).2)
    refine zn_iload_n (pc := 4) rfl rfl ?_
    refine zn_aload_n (pc := 5) rfl rfl ?_
    refine zn_get (pc := 6) (v := .ref 11) rfl hlo rfl ?_
    refine zn_callVx (pc := 9) (J := zX1_lines) (o := 11) (as := []) (rest := [.int (nI l)]) rfl rfl rfl rfl o1 rfl rfl rfl (Nat.le_of_ble_eq_true rfl) (Nat.le_of_ble_eq_true rfl) (Nat.le_of_ble_eq_true rfl) (Nat.le_of_ble_eq_true rfl) (c_linesK_10 hk) ?_
    refine zn_icmp_geN (pc := 12) (tgt := 31) (x := l) (y := (z 0)) rfl rfl (by omega) (by omega) (fun c1 => ?_) (fun c1 => ?_)
    · refine zn_iload_n (pc := 31) rfl rfl ?_
      have e8 : l = z 0 := by omega
      exact zx_i (pc := 32) rfl rfl (by rw [e8]) rfl
    · exfalso; omega
  | succ n ih =>
    intro l hn0
    have hz := hL.ok
    have hzb := hL.zb
    have hk := hL.c
    have hbk := hL.b
    have hr := hL.r
    have h84 := hr.le
    have hlo := hL.lo
    have ha := hr.bd
    have hv := hr.cov
    obtain ⟨Xs, Bn, hxs, hbs, hpx, hpb⟩ := hL.x
    have h0 := hz.1
    have h1 := hz.2.1
    obtain ⟨C, V, o1, oa, o7, k0, kk⟩ := id hk
    have a0 : hh.1 12 = some (mNA 24 (C 0)) := oa 0 (by decide)
    have a1 : hh.1 13 = some (mNA 192 (C 1)) := oa 1 (by decide)
    have a2 : hh.1 14 = some (mNA 192 (C 2)) := oa 2 (by decide)
    have a3 : hh.1 15 = some (mNA 192 (C 3)) := oa 3 (by decide)
    have a4 : hh.1 16 = some (mNA 192 (C 4)) := oa 4 (by decide)
    obtain ⟨D, W, p8, pa, p17, pk⟩ := id hbk
    have e0 : hh.1 19 = some (mNA 84 (D 0)) := pa 0 (by decide)
    have e1 : hh.1 20 = some (mNA 84 (D 1)) := pa 1 (by decide)
    have e2 : hh.1 21 = some (mNA 84 (D 2)) := pa 2 (by decide)
    have e3 : hh.1 22 = some (mNA 84 (D 3)) := pa 3 (by decide)
    have e4 : hh.1 23 = some (mNA 84 (D 4)) := pa 4 (by decide)
    have e5 : hh.1 24 = some (mNA 84 (D 5)) := pa 5 (by decide)
    have e6 : hh.1 25 = some (mNA 84 (D 6)) := pa 6 (by decide)
    have e7 : hh.1 26 = some (mNA 84 (D 7)) := pa 7 (by decide)
    have q2 := mLo_lt (n := nb) (l := l) ha hzb (fun i hi => (hz.2.2.1 i (by omega)).2)
    refine zn_iload_n (pc := 4) rfl rfl ?_
    refine zn_aload_n (pc := 5) rfl rfl ?_
    refine zn_get (pc := 6) (v := .ref 11) rfl hlo rfl ?_
    refine zn_callVx (pc := 9) (J := zX1_lines) (o := 11) (as := []) (rest := [.int (nI l)]) rfl rfl rfl rfl o1 rfl rfl rfl (Nat.le_of_ble_eq_true rfl) (Nat.le_of_ble_eq_true rfl) (Nat.le_of_ble_eq_true rfl) (Nat.le_of_ble_eq_true rfl) (c_linesK_10 hk) ?_
    refine zn_icmp_geN (pc := 12) (tgt := 31) (x := l) (y := (z 0)) rfl rfl (by omega) (by omega) (fun c1 => ?_) (fun c1 => ?_)
    · refine zn_iload_n (pc := 31) rfl rfl ?_
      have e8 : l = z 0 := by omega
      exact zx_i (pc := 32) rfl rfl (by rw [e8]) rfl
    · have q1 := mLg_lt (n := nb) (l := l) ha (hz.2.2.1 l (by omega)).2 hzb
      refine zn_iload_n (pc := 15) rfl rfl ?_
      refine zn_aload_n (pc := 16) rfl rfl ?_
      refine zn_iload_n (pc := 17) rfl rfl ?_
      refine zn_callVx (pc := 18) (J := zX5_shownLength) (o := 10) (as := [.int (nI l)]) (rest := [.int (nI (mLo R z nb l))]) rfl rfl rfl rfl hlo rfl rfl rfl (Nat.le_of_ble_eq_true rfl) (Nat.le_of_ble_eq_true rfl) (Nat.le_of_ble_eq_true rfl) (Nat.le_of_ble_eq_true rfl) (c_shownLength hL (l := l) (by omega)) ?_
      refine zn_maxN (pc := 21) (x := (mLo R z nb l)) (y := (mLg R z nb l)) rfl (Nat.le_of_ble_eq_true rfl) (Nat.le_of_ble_eq_true rfl) (by omega) (by omega) ?_
      refine zn_istore_n (pc := 24) (L' := [some (.ref 10), some (.int (nI (max (mLo R z nb l) (mLg R z nb l)))), some (.int (nI l))]) rfl (by decide) rfl ?_
      refine zn_iincN (pc := 25) (L' := [some (.ref 10), some (.int (nI (max (mLo R z nb l) (mLg R z nb l)))), some (.int (nI (l + 1)))]) 1 rfl rfl rfl (by decide) rfl ?_
      refine zn_goto (pc := 28) (tgt := 4) rfl rfl ?_
      exact ih (l + 1) (by omega)
theorem c_greatest  {R : Nat → Nat → Nat} {nb : Nat} (hL : LK hh 10 z R nb) : Zx g zX5_greatestShownLength [.ref 10] (hh) (some (.int (nI (mLo R z nb (z 0))))) (hh) := by
  show Zn g zX5_greatestShownLength 0 [some (.ref 10), none, none] [] (hh) 0 0 _
  refine zn_iconstN (pc := 0) 0 rfl rfl ?_
  refine zn_istore_n (pc := 1) (L' := [some (.ref 10), some (.int (nI 0)), none]) rfl (by decide) rfl ?_
  refine zn_iconstN (pc := 2) 0 rfl rfl ?_
  refine zn_istore_n (pc := 3) (L' := [some (.ref 10), some (.int (nI 0)), some (.int (nI 0))]) rfl (by decide) rfl ?_
  exact c_greatest_l hL (z 0) 0 (by omega)
theorem mHt_s {A : Nat → Nat → Nat} {n l q c : Nat} : mHt A z n l q (c + 1) = if mX A z n l c ≤ q then c else mHt A z n l q c := rfl
theorem c_cellAt_l {R : Nat → Nat → Nat} {nb : Nat} (hL : LK hh 10 z R nb) {l : Nat} (hl : l < z 0) {q : Nat} (hq : q < 2 ^ 31) : ∀ (n : Nat) (c : Nat), c + n = z (1 + l) → 1 ≤ c → Zn g zX5_cellAt 5 [some (.ref 10), some (.int (nI l)), some (.int (nI q)), some (.int (nI (mHt R z nb l q c))), some (.int (nI c))] [] (hh) 0 0 (fun r' h' => r' = .inl (some (.int (nI (mHt R z nb l q (z (1 + l)))))) ∧ h' = (hh)) := by
  intro n
  induction n with
  | zero =>
    intro c hn0 hn1
    have hz := hL.ok
    have hzb := hL.zb
    have hk := hL.c
    have hbk := hL.b
    have hr := hL.r
    have h84 := hr.le
    have hlo := hL.lo
    have ha := hr.bd
    have hv := hr.cov
    obtain ⟨Xs, Bn, hxs, hbs, hpx, hpb⟩ := hL.x
    have h0 := hz.1
    have h1 := hz.2.1
    obtain ⟨C, V, o1, oa, o7, k0, kk⟩ := id hk
    have a0 : hh.1 12 = some (mNA 24 (C 0)) := oa 0 (by decide)
    have a1 : hh.1 13 = some (mNA 192 (C 1)) := oa 1 (by decide)
    have a2 : hh.1 14 = some (mNA 192 (C 2)) := oa 2 (by decide)
    have a3 : hh.1 15 = some (mNA 192 (C 3)) := oa 3 (by decide)
    have a4 : hh.1 16 = some (mNA 192 (C 4)) := oa 4 (by decide)
    obtain ⟨D, W, p8, pa, p17, pk⟩ := id hbk
    have e0 : hh.1 19 = some (mNA 84 (D 0)) := pa 0 (by decide)
    have e1 : hh.1 20 = some (mNA 84 (D 1)) := pa 1 (by decide)
    have e2 : hh.1 21 = some (mNA 84 (D 2)) := pa 2 (by decide)
    have e3 : hh.1 22 = some (mNA 84 (D 3)) := pa 3 (by decide)
    have e4 : hh.1 23 = some (mNA 84 (D 4)) := pa 4 (by decide)
    have e5 : hh.1 24 = some (mNA 84 (D 5)) := pa 5 (by decide)
    have e6 : hh.1 25 = some (mNA 84 (D 6)) := pa 6 (by decide)
    have e7 : hh.1 26 = some (mNA 84 (D 7)) := pa 7 (by decide)
    have hzl := hz.2.2.1 l hl
    have q1 := mX_le (z := z) (n := nb) (l := l) ha c
    refine zn_iload (pc := 5) rfl rfl ?_
    refine zn_aload_n (pc := 7) rfl rfl ?_
    refine zn_get (pc := 8) (v := .ref 11) rfl hlo rfl ?_
    refine zn_iload_n (pc := 11) rfl rfl ?_
    refine zn_callVx (pc := 12) (J := zX1_cellsOf) (o := 11) (as := [.int (nI l)]) (rest := [.int (nI c)]) rfl rfl rfl rfl o1 rfl rfl rfl (Nat.le_of_ble_eq_true rfl) (Nat.le_of_ble_eq_true rfl) (Nat.le_of_ble_eq_true rfl) (Nat.le_of_ble_eq_true rfl) (c_cellsOf_10 hz hk (l := l) (by omega)) ?_
    refine zn_icmp_geN (pc := 15) (tgt := 38) (x := c) (y := (z (1 + l))) rfl rfl (by omega) (by omega) (fun c1 => ?_) (fun c1 => ?_)
    · refine zn_iload_n (pc := 38) rfl rfl ?_
      have e8 : c = z (1 + l) := by omega
      exact zx_i (pc := 39) rfl rfl (by rw [e8]) rfl
    · exfalso; omega
  | succ n ih =>
    intro c hn0 hn1
    have hz := hL.ok
    have hzb := hL.zb
    have hk := hL.c
    have hbk := hL.b
    have hr := hL.r
    have h84 := hr.le
    have hlo := hL.lo
    have ha := hr.bd
    have hv := hr.cov
    obtain ⟨Xs, Bn, hxs, hbs, hpx, hpb⟩ := hL.x
    have h0 := hz.1
    have h1 := hz.2.1
    obtain ⟨C, V, o1, oa, o7, k0, kk⟩ := id hk
    have a0 : hh.1 12 = some (mNA 24 (C 0)) := oa 0 (by decide)
    have a1 : hh.1 13 = some (mNA 192 (C 1)) := oa 1 (by decide)
    have a2 : hh.1 14 = some (mNA 192 (C 2)) := oa 2 (by decide)
    have a3 : hh.1 15 = some (mNA 192 (C 3)) := oa 3 (by decide)
    have a4 : hh.1 16 = some (mNA 192 (C 4)) := oa 4 (by decide)
    obtain ⟨D, W, p8, pa, p17, pk⟩ := id hbk
    have e0 : hh.1 19 = some (mNA 84 (D 0)) := pa 0 (by decide)
    have e1 : hh.1 20 = some (mNA 84 (D 1)) := pa 1 (by decide)
    have e2 : hh.1 21 = some (mNA 84 (D 2)) := pa 2 (by decide)
    have e3 : hh.1 22 = some (mNA 84 (D 3)) := pa 3 (by decide)
    have e4 : hh.1 23 = some (mNA 84 (D 4)) := pa 4 (by decide)
    have e5 : hh.1 24 = some (mNA 84 (D 5)) := pa 5 (by decide)
    have e6 : hh.1 25 = some (mNA 84 (D 6)) := pa 6 (by decide)
    have e7 : hh.1 26 = some (mNA 84 (D 7)) := pa 7 (by decide)
    have hzl := hz.2.2.1 l hl
    have q1 := mX_le (z := z) (n := nb) (l := l) ha c
    refine zn_iload (pc := 5) rfl rfl ?_
    refine zn_aload_n (pc := 7) rfl rfl ?_
    refine zn_get (pc := 8) (v := .ref 11) rfl hlo rfl ?_
    refine zn_iload_n (pc := 11) rfl rfl ?_
    refine zn_callVx (pc := 12) (J := zX1_cellsOf) (o := 11) (as := [.int (nI l)]) (rest := [.int (nI c)]) rfl rfl rfl rfl o1 rfl rfl rfl (Nat.le_of_ble_eq_true rfl) (Nat.le_of_ble_eq_true rfl) (Nat.le_of_ble_eq_true rfl) (Nat.le_of_ble_eq_true rfl) (c_cellsOf_10 hz hk (l := l) (by omega)) ?_
    refine zn_icmp_geN (pc := 15) (tgt := 38) (x := c) (y := (z (1 + l))) rfl rfl (by omega) (by omega) (fun c1 => ?_) (fun c1 => ?_)
    · refine zn_iload_n (pc := 38) rfl rfl ?_
      have e8 : c = z (1 + l) := by omega
      exact zx_i (pc := 39) rfl rfl (by rw [e8]) rfl
    · refine zn_aload_n (pc := 18) rfl rfl ?_
      refine zn_iload_n (pc := 19) rfl rfl ?_
      refine zn_iload (pc := 20) rfl rfl ?_
      refine zn_callVx (pc := 22) (J := zX5_x) (o := 10) (as := [.int (nI l), .int (nI c)]) (rest := []) rfl rfl rfl rfl hlo rfl rfl rfl (Nat.le_of_ble_eq_true rfl) (Nat.le_of_ble_eq_true rfl) (Nat.le_of_ble_eq_true rfl) (Nat.le_of_ble_eq_true rfl) (c_x_10 hL (l := l) (c := c) (by omega) (by omega)) ?_
      refine zn_iload_n (pc := 25) rfl rfl ?_
      refine zn_icmp_gtN (pc := 26) (tgt := 32) (x := (mX R z nb l c)) (y := q) rfl rfl (by omega) (by omega) (fun c2 => ?_) (fun c2 => ?_)
      · refine zn_iincN (pc := 32) (L' := [some (.ref 10), some (.int (nI l)), some (.int (nI q)), some (.int (nI (mHt R z nb l q c))), some (.int (nI (c + 1)))]) 1 rfl rfl rfl (by decide) rfl ?_
        refine zn_goto (pc := 35) (tgt := 5) rfl rfl ?_
        exact zn_sub (L' := [some (.ref 10), some (.int (nI l)), some (.int (nI q)), some (.int (nI (mHt R z nb l q (c + 1)))), some (.int (nI (c + 1)))]) ⟨rfl, rfl, rfl, by rw [mHt_s, if_neg (by omega)], rfl, trivial⟩ (ih (c + 1) (by omega) (by omega))
      · refine zn_iload (pc := 29) rfl rfl ?_
        refine zn_istore_n (pc := 31) (L' := [some (.ref 10), some (.int (nI l)), some (.int (nI q)), some (.int (nI c)), some (.int (nI c))]) rfl (by decide) rfl ?_
        refine zn_iincN (pc := 32) (L' := [some (.ref 10), some (.int (nI l)), some (.int (nI q)), some (.int (nI c)), some (.int (nI (c + 1)))]) 1 rfl rfl rfl (by decide) rfl ?_
        refine zn_goto (pc := 35) (tgt := 5) rfl rfl ?_
        exact zn_sub (L' := [some (.ref 10), some (.int (nI l)), some (.int (nI q)), some (.int (nI (mHt R z nb l q (c + 1)))), some (.int (nI (c + 1)))]) ⟨rfl, rfl, rfl, by rw [mHt_s, if_pos (by omega)], rfl, trivial⟩ (ih (c + 1) (by omega) (by omega))
theorem c_cellAt  {R : Nat → Nat → Nat} {nb : Nat} (hL : LK hh 10 z R nb) {l : Nat} (hl : l < z 0) {q : Nat} (hq : q < 2 ^ 31) : Zx g zX5_cellAt [.ref 10, .int (nI l), .int (nI q)] (hh) (some (.int (nI (mHt R z nb l q (z (1 + l)))))) (hh) := by
  have hz := hL.ok
  have hzb := hL.zb
  have hk := hL.c
  have hbk := hL.b
  have hr := hL.r
  have h84 := hr.le
  have hlo := hL.lo
  have ha := hr.bd
  have hv := hr.cov
  obtain ⟨Xs, Bn, hxs, hbs, hpx, hpb⟩ := hL.x
  have h0 := hz.1
  have h1 := hz.2.1
  obtain ⟨C, V, o1, oa, o7, k0, kk⟩ := id hk
  have a0 : hh.1 12 = some (mNA 24 (C 0)) := oa 0 (by decide)
  have a1 : hh.1 13 = some (mNA 192 (C 1)) := oa 1 (by decide)
  have a2 : hh.1 14 = some (mNA 192 (C 2)) := oa 2 (by decide)
  have a3 : hh.1 15 = some (mNA 192 (C 3)) := oa 3 (by decide)
  have a4 : hh.1 16 = some (mNA 192 (C 4)) := oa 4 (by decide)
  obtain ⟨D, W, p8, pa, p17, pk⟩ := id hbk
  have e0 : hh.1 19 = some (mNA 84 (D 0)) := pa 0 (by decide)
  have e1 : hh.1 20 = some (mNA 84 (D 1)) := pa 1 (by decide)
  have e2 : hh.1 21 = some (mNA 84 (D 2)) := pa 2 (by decide)
  have e3 : hh.1 22 = some (mNA 84 (D 3)) := pa 3 (by decide)
  have e4 : hh.1 23 = some (mNA 84 (D 4)) := pa 4 (by decide)
  have e5 : hh.1 24 = some (mNA 84 (D 5)) := pa 5 (by decide)
  have e6 : hh.1 25 = some (mNA 84 (D 6)) := pa 6 (by decide)
  have e7 : hh.1 26 = some (mNA 84 (D 7)) := pa 7 (by decide)
  have hzl := hz.2.2.1 l hl
  show Zn g zX5_cellAt 0 [some (.ref 10), some (.int (nI l)), some (.int (nI q)), none, none] [] (hh) 0 0 _
  refine zn_iconstN (pc := 0) 0 rfl rfl ?_
  refine zn_istore_n (pc := 1) (L' := [some (.ref 10), some (.int (nI l)), some (.int (nI q)), some (.int (nI 0)), none]) rfl (by decide) rfl ?_
  refine zn_iconstN (pc := 2) 1 rfl rfl ?_
  refine zn_istore (pc := 3) (L' := [some (.ref 10), some (.int (nI l)), some (.int (nI q)), some (.int (nI 0)), some (.int (nI 1))]) rfl (by decide) rfl ?_
  exact zn_sub (L' := [some (.ref 10), some (.int (nI l)), some (.int (nI q)), some (.int (nI (mHt R z nb l q 1))), some (.int (nI 1))]) ⟨rfl, rfl, rfl, by rw [mHt_s, if_pos (by simp only [mX]; omega)], rfl, trivial⟩ (c_cellAt_l hL hl hq (z (1 + l) - 1) 1 (by omega) (by omega))
end m1
