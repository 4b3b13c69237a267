section m1
variable {g : zG} {h hh : zH} {F : Nat → Nat} {S : Int64} {z : Nat → Nat} {A : Nat → Nat → Nat} {X : Nat → Int32}
theorem c_shift_n  {R : Nat → Nat → Nat} {nb : Nat} (hL : LK hh 10 z R nb) {l c : Nat} (hl : l < z 0) (hc : c < z (1 + l)) {pd lw gr : Nat} {al : Nat → Nat} (hf4 : hh.1 4 = some (.inr (2, [.ref 5, .int (nI pd), .int (nI lw), .int (nI gr)]))) (hf5 : hh.1 5 = some (mNA 7 al)) (hpd : pd ≤ 8) (hlw : lw ≤ 20) (hg : 1 ≤ gr) (hg8 : gr ≤ 8) (hal : ∀ j, al j ≤ 3) (hb9 : mOf R z l c nb = none) : Zx g zX5_shift [.ref 10, .int (nI l), .int (nI c), .ref 4] (hh) (some (.int (mSh (fun _ => pd) R z l c none))) (hh) := by
  have hz := hL.ok
  have hzb := hL.zb
  have hk := hL.c
  have hbk := hL.b
  have hr := hL.r
  have h84 := hr.le
  have hlo := hL.lo
  have ha := hr.bd
  have hv := hr.cov
  obtain ⟨Xs, Bn, hxs, hbs, hpx, hpb⟩ := hL.x
  have h0 := hz.1
  have h1 := hz.2.1
  obtain ⟨C, V, o1, oa, o7, k0, kk⟩ := id hk
  have a0 : hh.1 12 = some (mNA 24 (C 0)) := oa 0 (by decide)
  have a1 : hh.1 13 = some (mNA 192 (C 1)) := oa 1 (by decide)
  have a2 : hh.1 14 = some (mNA 192 (C 2)) := oa 2 (by decide)
  have a3 : hh.1 15 = some (mNA 192 (C 3)) := oa 3 (by decide)
  have a4 : hh.1 16 = some (mNA 192 (C 4)) := oa 4 (by decide)
  obtain ⟨D, W, p8, pa, p17, pk⟩ := id hbk
  have e0 : hh.1 19 = some (mNA 84 (D 0)) := pa 0 (by decide)
  have e1 : hh.1 20 = some (mNA 84 (D 1)) := pa 1 (by decide)
  have e2 : hh.1 21 = some (mNA 84 (D 2)) := pa 2 (by decide)
  have e3 : hh.1 22 = some (mNA 84 (D 3)) := pa 3 (by decide)
  have e4 : hh.1 23 = some (mNA 84 (D 4)) := pa 4 (by decide)
  have e5 : hh.1 24 = some (mNA 84 (D 5)) := pa 5 (by decide)
  have e6 : hh.1 25 = some (mNA 84 (D 6)) := pa 6 (by decide)
  have e7 : hh.1 26 = some (mNA 84 (D 7)) := pa 7 (by decide)
  have hzl := hz.2.2.1 l hl
  have hzc := hz.2.2.2 l c hl hc
  have hp := mCell_nI hz hl hc
  show Zn g zX5_shift 0 [some (.ref 10), some (.int (nI l)), some (.int (nI c)), some (.ref 4), none, none, none] [] (hh) 0 0 _
  refine zn_aload_n (pc := 0) rfl rfl ?_
  refine zn_iload_n (pc := 1) rfl rfl ?_
  refine zn_iload_n (pc := 2) rfl rfl ?_
  refine zn_callVx (pc := 3) (J := zX5_blockNumber) (o := 10) (as := [.int (nI l), .int (nI c)]) (rest := []) rfl rfl rfl rfl hlo rfl rfl rfl (Nat.le_of_ble_eq_true rfl) (Nat.le_of_ble_eq_true rfl) (Nat.le_of_ble_eq_true rfl) (Nat.le_of_ble_eq_true rfl) (c_blockNumber_10 hL (l := l) (c := c) (by omega) (by omega)) ?_
  refine zn_top (v' := .int (-1)) (by rw [hb9]; rfl) ?_
  refine zn_istore (pc := 6) (L' := [some (.ref 10), some (.int (nI l)), some (.int (nI c)), some (.ref 4), some (.int (-1)), none, none]) rfl (by decide) rfl ?_
  refine zn_iload (pc := 8) rfl rfl ?_
  refine zn_iconst (pc := 10) (-1) rfl rfl ?_
  refine zn_icmp_ne (pc := 11) (tgt := 16) (x := (-1)) (y := (-1)) rfl rfl (fun c1 => ?_) (fun c1 => ?_)
  · exact absurd rfl c1
  · refine zn_iconstN (pc := 14) 0 rfl rfl ?_
    exact zx_i (pc := 15) rfl rfl rfl rfl
theorem c_shift_0  {R : Nat → Nat → Nat} {nb : Nat} (hL : LK hh 10 z R nb) {l c : Nat} (hl : l < z 0) (hc : c < z (1 + l)) {pd lw gr : Nat} {al : Nat → Nat} (hf4 : hh.1 4 = some (.inr (2, [.ref 5, .int (nI pd), .int (nI lw), .int (nI gr)]))) (hf5 : hh.1 5 = some (mNA 7 al)) (hpd : pd ≤ 8) (hlw : lw ≤ 20) (hg : 1 ≤ gr) (hg8 : gr ≤ 8) (hal : ∀ j, al j ≤ 3) {b : Nat} (hb9 : mOf R z l c nb = some b) (hb : b < nb) (h9 : R 9 b = 0) : Zx g zX5_shift [.ref 10, .int (nI l), .int (nI c), .ref 4] (hh) (some (.int (mSh (fun _ => pd) R z l c (some b)))) (hh) := by
  have hz := hL.ok
  have hzb := hL.zb
  have hk := hL.c
  have hbk := hL.b
  have hr := hL.r
  have h84 := hr.le
  have hlo := hL.lo
  have ha := hr.bd
  have hv := hr.cov
  obtain ⟨Xs, Bn, hxs, hbs, hpx, hpb⟩ := hL.x
  have h0 := hz.1
  have h1 := hz.2.1
  obtain ⟨C, V, o1, oa, o7, k0, kk⟩ := id hk
  have a0 : hh.1 12 = some (mNA 24 (C 0)) := oa 0 (by decide)
  have a1 : hh.1 13 = some (mNA 192 (C 1)) := oa 1 (by decide)
  have a2 : hh.1 14 = some (mNA 192 (C 2)) := oa 2 (by decide)
  have a3 : hh.1 15 = some (mNA 192 (C 3)) := oa 3 (by decide)
  have a4 : hh.1 16 = some (mNA 192 (C 4)) := oa 4 (by decide)
  obtain ⟨D, W, p8, pa, p17, pk⟩ := id hbk
  have e0 : hh.1 19 = some (mNA 84 (D 0)) := pa 0 (by decide)
  have e1 : hh.1 20 = some (mNA 84 (D 1)) := pa 1 (by decide)
  have e2 : hh.1 21 = some (mNA 84 (D 2)) := pa 2 (by decide)
  have e3 : hh.1 22 = some (mNA 84 (D 3)) := pa 3 (by decide)
  have e4 : hh.1 23 = some (mNA 84 (D 4)) := pa 4 (by decide)
  have e5 : hh.1 24 = some (mNA 84 (D 5)) := pa 5 (by decide)
  have e6 : hh.1 25 = some (mNA 84 (D 6)) := pa 6 (by decide)
  have e7 : hh.1 26 = some (mNA 84 (D 7)) := pa 7 (by decide)
  have hzl := hz.2.2.1 l hl
  have hzc := hz.2.2.2 l c hl hc
  have hp := mCell_nI hz hl hc
  have k2 : mK z c l ≤ 2 := skind_le _ _
  show Zn g zX5_shift 0 [some (.ref 10), some (.int (nI l)), some (.int (nI c)), some (.ref 4), none, none, none] [] (hh) 0 0 _
  refine zn_aload_n (pc := 0) rfl rfl ?_
  refine zn_iload_n (pc := 1) rfl rfl ?_
  refine zn_iload_n (pc := 2) rfl rfl ?_
  refine zn_callVx (pc := 3) (J := zX5_blockNumber) (o := 10) (as := [.int (nI l), .int (nI c)]) (rest := []) rfl rfl rfl rfl hlo rfl rfl rfl (Nat.le_of_ble_eq_true rfl) (Nat.le_of_ble_eq_true rfl) (Nat.le_of_ble_eq_true rfl) (Nat.le_of_ble_eq_true rfl) (c_blockNumber_10 hL (l := l) (c := c) (by omega) (by omega)) ?_
  refine zn_top (v' := .int (nI b)) (by rw [hb9]; rfl) ?_
  refine zn_istore (pc := 6) (L' := [some (.ref 10), some (.int (nI l)), some (.int (nI c)), some (.ref 4), some (.int (nI b)), none, none]) rfl (by decide) rfl ?_
  refine zn_iload (pc := 8) rfl rfl ?_
  refine zn_iconst (pc := 10) (-1) rfl rfl ?_
  refine zn_icmp_ne (pc := 11) (tgt := 16) (x := (nI b)) (y := (-1)) rfl rfl (fun c1 => ?_) (fun c1 => ?_)
  · refine zn_aload_n (pc := 16) rfl rfl ?_
    refine zn_get (pc := 17) (v := .ref 18) rfl hlo rfl ?_
    refine zn_iload (pc := 20) rfl rfl ?_
    refine zn_callVx (pc := 22) (J := zX0_width) (o := 18) (as := [.int (nI b)]) (rest := []) rfl rfl rfl rfl p8 rfl rfl rfl (Nat.le_of_ble_eq_true rfl) (Nat.le_of_ble_eq_true rfl) (Nat.le_of_ble_eq_true rfl) (Nat.le_of_ble_eq_true rfl) (c_width_10b hbk h84 (b := b) (by omega)) ?_
    refine zn_aload_n (pc := 25) rfl rfl ?_
    refine zn_callVx (pc := 26) (J := zX2_padding) (o := 4) (as := []) (rest := [.int (nI (R 12 b))]) rfl rfl rfl rfl hf4 rfl rfl rfl (Nat.le_of_ble_eq_true rfl) (Nat.le_of_ble_eq_true rfl) (Nat.le_of_ble_eq_true rfl) (Nat.le_of_ble_eq_true rfl) (c_padding hf4 hf5 hpd hlw hg hg8 hal) ?_
    refine zn_isub (pc := 29) rfl ?_
    refine zn_istore (pc := 30) (L' := [some (.ref 10), some (.int (nI l)), some (.int (nI c)), some (.ref 4), some (.int (nI b)), some (.int (nI (R 12 b) - nI pd)), none]) rfl (by decide) rfl ?_
    refine zn_iload (pc := 32) rfl rfl ?_
    refine zn_aload_n (pc := 34) rfl rfl ?_
    refine zn_get (pc := 35) (v := .ref 11) rfl hlo rfl ?_
    refine zn_iload_n (pc := 38) rfl rfl ?_
    refine zn_iload_n (pc := 39) rfl rfl ?_
    refine zn_callVx (pc := 40) (J := zX1_length) (o := 11) (as := [.int (nI l), .int (nI c)]) (rest := [.int (nI (R 12 b) - nI pd)]) rfl rfl rfl rfl o1 rfl rfl rfl (Nat.le_of_ble_eq_true rfl) (Nat.le_of_ble_eq_true rfl) (Nat.le_of_ble_eq_true rfl) (Nat.le_of_ble_eq_true rfl) (c_length_10 hz hk (l := l) (c := c) (by omega) (by omega)) ?_
    refine zn_isub (pc := 43) rfl ?_
    refine zn_istore (pc := 44) (L' := [some (.ref 10), some (.int (nI l)), some (.int (nI c)), some (.ref 4), some (.int (nI b)), some (.int (nI (R 12 b) - nI pd)), some (.int ((nI (R 12 b) - nI pd) - (nI (z (25 + 8 * l + c)))))]) rfl (by decide) rfl ?_
    refine zn_aload_n (pc := 46) rfl rfl ?_
    refine zn_get (pc := 47) (v := .ref 18) rfl hlo rfl ?_
    refine zn_iload (pc := 50) rfl rfl ?_
    refine zn_callVx (pc := 52) (J := zX0_alignment) (o := 18) (as := [.int (nI b)]) (rest := []) rfl rfl rfl rfl p8 rfl rfl rfl (Nat.le_of_ble_eq_true rfl) (Nat.le_of_ble_eq_true rfl) (Nat.le_of_ble_eq_true rfl) (Nat.le_of_ble_eq_true rfl) (c_alignment_10b hbk h84 (b := b) (by omega)) ?_
    refine zn_top (v' := .int (nI 0)) (by rw [h9]) ?_
    refine zn_tabOut (pc := 55) (x := nI 0) (tgt := 129) rfl (by decide +kernel) rfl ?_
    refine zn_iconstN (pc := 129) 0 rfl rfl ?_
    exact zx_i (pc := 130) rfl rfl (by simp only [mSh]; rw [if_pos (by omega)]; try rfl) rfl
  · exact absurd (show nI b = -1 from c1) (fun q => nI_pos (show b < 2 ^ 31 by omega) (by rw [q]; decide))
theorem c_shift_1  {R : Nat → Nat → Nat} {nb : Nat} (hL : LK hh 10 z R nb) {l c : Nat} (hl : l < z 0) (hc : c < z (1 + l)) {pd lw gr : Nat} {al : Nat → Nat} (hf4 : hh.1 4 = some (.inr (2, [.ref 5, .int (nI pd), .int (nI lw), .int (nI gr)]))) (hf5 : hh.1 5 = some (mNA 7 al)) (hpd : pd ≤ 8) (hlw : lw ≤ 20) (hg : 1 ≤ gr) (hg8 : gr ≤ 8) (hal : ∀ j, al j ≤ 3) {b : Nat} (hb9 : mOf R z l c nb = some b) (hb : b < nb) (h9 : R 9 b = 1) : Zx g zX5_shift [.ref 10, .int (nI l), .int (nI c), .ref 4] (hh) (some (.int (mSh (fun _ => pd) R z l c (some b)))) (hh) := by
  have hz := hL.ok
  have hzb := hL.zb
  have hk := hL.c
  have hbk := hL.b
  have hr := hL.r
  have h84 := hr.le
  have hlo := hL.lo
  have ha := hr.bd
  have hv := hr.cov
  obtain ⟨Xs, Bn, hxs, hbs, hpx, hpb⟩ := hL.x
  have h0 := hz.1
  have h1 := hz.2.1
  obtain ⟨C, V, o1, oa, o7, k0, kk⟩ := id hk
  have a0 : hh.1 12 = some (mNA 24 (C 0)) := oa 0 (by decide)
  have a1 : hh.1 13 = some (mNA 192 (C 1)) := oa 1 (by decide)
  have a2 : hh.1 14 = some (mNA 192 (C 2)) := oa 2 (by decide)
  have a3 : hh.1 15 = some (mNA 192 (C 3)) := oa 3 (by decide)
  have a4 : hh.1 16 = some (mNA 192 (C 4)) := oa 4 (by decide)
  obtain ⟨D, W, p8, pa, p17, pk⟩ := id hbk
  have e0 : hh.1 19 = some (mNA 84 (D 0)) := pa 0 (by decide)
  have e1 : hh.1 20 = some (mNA 84 (D 1)) := pa 1 (by decide)
  have e2 : hh.1 21 = some (mNA 84 (D 2)) := pa 2 (by decide)
  have e3 : hh.1 22 = some (mNA 84 (D 3)) := pa 3 (by decide)
  have e4 : hh.1 23 = some (mNA 84 (D 4)) := pa 4 (by decide)
  have e5 : hh.1 24 = some (mNA 84 (D 5)) := pa 5 (by decide)
  have e6 : hh.1 25 = some (mNA 84 (D 6)) := pa 6 (by decide)
  have e7 : hh.1 26 = some (mNA 84 (D 7)) := pa 7 (by decide)
  have hzl := hz.2.2.1 l hl
  have hzc := hz.2.2.2 l c hl hc
  have hp := mCell_nI hz hl hc
  have k2 : mK z c l ≤ 2 := skind_le _ _
  show Zn g zX5_shift 0 [some (.ref 10), some (.int (nI l)), some (.int (nI c)), some (.ref 4), none, none, none] [] (hh) 0 0 _
  refine zn_aload_n (pc := 0) rfl rfl ?_
  refine zn_iload_n (pc := 1) rfl rfl ?_
  refine zn_iload_n (pc := 2) rfl rfl ?_
  refine zn_callVx (pc := 3) (J := zX5_blockNumber) (o := 10) (as := [.int (nI l), .int (nI c)]) (rest := []) rfl rfl rfl rfl hlo rfl rfl rfl (Nat.le_of_ble_eq_true rfl) (Nat.le_of_ble_eq_true rfl) (Nat.le_of_ble_eq_true rfl) (Nat.le_of_ble_eq_true rfl) (c_blockNumber_10 hL (l := l) (c := c) (by omega) (by omega)) ?_
  refine zn_top (v' := .int (nI b)) (by rw [hb9]; rfl) ?_
  refine zn_istore (pc := 6) (L' := [some (.ref 10), some (.int (nI l)), some (.int (nI c)), some (.ref 4), some (.int (nI b)), none, none]) rfl (by decide) rfl ?_
  refine zn_iload (pc := 8) rfl rfl ?_
  refine zn_iconst (pc := 10) (-1) rfl rfl ?_
  refine zn_icmp_ne (pc := 11) (tgt := 16) (x := (nI b)) (y := (-1)) rfl rfl (fun c1 => ?_) (fun c1 => ?_)
  · refine zn_aload_n (pc := 16) rfl rfl ?_
    refine zn_get (pc := 17) (v := .ref 18) rfl hlo rfl ?_
    refine zn_iload (pc := 20) rfl rfl ?_
    refine zn_callVx (pc := 22) (J := zX0_width) (o := 18) (as := [.int (nI b)]) (rest := []) rfl rfl rfl rfl p8 rfl rfl rfl (Nat.le_of_ble_eq_true rfl) (Nat.le_of_ble_eq_true rfl) (Nat.le_of_ble_eq_true rfl) (Nat.le_of_ble_eq_true rfl) (c_width_10b hbk h84 (b := b) (by omega)) ?_
    refine zn_aload_n (pc := 25) rfl rfl ?_
    refine zn_callVx (pc := 26) (J := zX2_padding) (o := 4) (as := []) (rest := [.int (nI (R 12 b))]) rfl rfl rfl rfl hf4 rfl rfl rfl (Nat.le_of_ble_eq_true rfl) (Nat.le_of_ble_eq_true rfl) (Nat.le_of_ble_eq_true rfl) (Nat.le_of_ble_eq_true rfl) (c_padding hf4 hf5 hpd hlw hg hg8 hal) ?_
    refine zn_isub (pc := 29) rfl ?_
    refine zn_istore (pc := 30) (L' := [some (.ref 10), some (.int (nI l)), some (.int (nI c)), some (.ref 4), some (.int (nI b)), some (.int (nI (R 12 b) - nI pd)), none]) rfl (by decide) rfl ?_
    refine zn_iload (pc := 32) rfl rfl ?_
    refine zn_aload_n (pc := 34) rfl rfl ?_
    refine zn_get (pc := 35) (v := .ref 11) rfl hlo rfl ?_
    refine zn_iload_n (pc := 38) rfl rfl ?_
    refine zn_iload_n (pc := 39) rfl rfl ?_
    refine zn_callVx (pc := 40) (J := zX1_length) (o := 11) (as := [.int (nI l), .int (nI c)]) (rest := [.int (nI (R 12 b) - nI pd)]) rfl rfl rfl rfl o1 rfl rfl rfl (Nat.le_of_ble_eq_true rfl) (Nat.le_of_ble_eq_true rfl) (Nat.le_of_ble_eq_true rfl) (Nat.le_of_ble_eq_true rfl) (c_length_10 hz hk (l := l) (c := c) (by omega) (by omega)) ?_
    refine zn_isub (pc := 43) rfl ?_
    refine zn_istore (pc := 44) (L' := [some (.ref 10), some (.int (nI l)), some (.int (nI c)), some (.ref 4), some (.int (nI b)), some (.int (nI (R 12 b) - nI pd)), some (.int ((nI (R 12 b) - nI pd) - (nI (z (25 + 8 * l + c)))))]) rfl (by decide) rfl ?_
    refine zn_aload_n (pc := 46) rfl rfl ?_
    refine zn_get (pc := 47) (v := .ref 18) rfl hlo rfl ?_
    refine zn_iload (pc := 50) rfl rfl ?_
    refine zn_callVx (pc := 52) (J := zX0_alignment) (o := 18) (as := [.int (nI b)]) (rest := []) rfl rfl rfl rfl p8 rfl rfl rfl (Nat.le_of_ble_eq_true rfl) (Nat.le_of_ble_eq_true rfl) (Nat.le_of_ble_eq_true rfl) (Nat.le_of_ble_eq_true rfl) (c_alignment_10b hbk h84 (b := b) (by omega)) ?_
    refine zn_top (v' := .int (nI 1)) (by rw [h9]) ?_
    refine zn_tabIn (pc := 55) (x := nI 1) (off := 25) (tgt := 80) rfl (by decide +kernel) (by decide +kernel) (by rw [show (nI 1).toInt = 1 by decide +kernel]; rfl) rfl ?_
    refine zn_iload (pc := 80) rfl rfl ?_
    exact zx_i (pc := 82) rfl rfl (by simp only [mSh]; rw [if_neg (by omega), if_neg (by omega), if_neg (by omega)]; try rfl) rfl
  · exact absurd (show nI b = -1 from c1) (fun q => nI_pos (show b < 2 ^ 31 by omega) (by rw [q]; decide))
theorem c_shift_2  {R : Nat → Nat → Nat} {nb : Nat} (hL : LK hh 10 z R nb) {l c : Nat} (hl : l < z 0) (hc : c < z (1 + l)) {pd lw gr : Nat} {al : Nat → Nat} (hf4 : hh.1 4 = some (.inr (2, [.ref 5, .int (nI pd), .int (nI lw), .int (nI gr)]))) (hf5 : hh.1 5 = some (mNA 7 al)) (hpd : pd ≤ 8) (hlw : lw ≤ 20) (hg : 1 ≤ gr) (hg8 : gr ≤ 8) (hal : ∀ j, al j ≤ 3) {b : Nat} (hb9 : mOf R z l c nb = some b) (hb : b < nb) (h9 : R 9 b = 2) : Zx g zX5_shift [.ref 10, .int (nI l), .int (nI c), .ref 4] (hh) (some (.int (mSh (fun _ => pd) R z l c (some b)))) (hh) := by
  have hz := hL.ok
  have hzb := hL.zb
  have hk := hL.c
  have hbk := hL.b
  have hr := hL.r
  have h84 := hr.le
  have hlo := hL.lo
  have ha := hr.bd
  have hv := hr.cov
  obtain ⟨Xs, Bn, hxs, hbs, hpx, hpb⟩ := hL.x
  have h0 := hz.1
  have h1 := hz.2.1
  obtain ⟨C, V, o1, oa, o7, k0, kk⟩ := id hk
  have a0 : hh.1 12 = some (mNA 24 (C 0)) := oa 0 (by decide)
  have a1 : hh.1 13 = some (mNA 192 (C 1)) := oa 1 (by decide)
  have a2 : hh.1 14 = some (mNA 192 (C 2)) := oa 2 (by decide)
  have a3 : hh.1 15 = some (mNA 192 (C 3)) := oa 3 (by decide)
  have a4 : hh.1 16 = some (mNA 192 (C 4)) := oa 4 (by decide)
  obtain ⟨D, W, p8, pa, p17, pk⟩ := id hbk
  have e0 : hh.1 19 = some (mNA 84 (D 0)) := pa 0 (by decide)
  have e1 : hh.1 20 = some (mNA 84 (D 1)) := pa 1 (by decide)
  have e2 : hh.1 21 = some (mNA 84 (D 2)) := pa 2 (by decide)
  have e3 : hh.1 22 = some (mNA 84 (D 3)) := pa 3 (by decide)
  have e4 : hh.1 23 = some (mNA 84 (D 4)) := pa 4 (by decide)
  have e5 : hh.1 24 = some (mNA 84 (D 5)) := pa 5 (by decide)
  have e6 : hh.1 25 = some (mNA 84 (D 6)) := pa 6 (by decide)
  have e7 : hh.1 26 = some (mNA 84 (D 7)) := pa 7 (by decide)
  have hzl := hz.2.2.1 l hl
  have hzc := hz.2.2.2 l c hl hc
  have hp := mCell_nI hz hl hc
  have k2 : mK z c l ≤ 2 := skind_le _ _
  show Zn g zX5_shift 0 [some (.ref 10), some (.int (nI l)), some (.int (nI c)), some (.ref 4), none, none, none] [] (hh) 0 0 _
  refine zn_aload_n (pc := 0) rfl rfl ?_
  refine zn_iload_n (pc := 1) rfl rfl ?_
  refine zn_iload_n (pc := 2) rfl rfl ?_
  refine zn_callVx (pc := 3) (J := zX5_blockNumber) (o := 10) (as := [.int (nI l), .int (nI c)]) (rest := []) rfl rfl rfl rfl hlo rfl rfl rfl (Nat.le_of_ble_eq_true rfl) (Nat.le_of_ble_eq_true rfl) (Nat.le_of_ble_eq_true rfl) (Nat.le_of_ble_eq_true rfl) (c_blockNumber_10 hL (l := l) (c := c) (by omega) (by omega)) ?_
  refine zn_top (v' := .int (nI b)) (by rw [hb9]; rfl) ?_
  refine zn_istore (pc := 6) (L' := [some (.ref 10), some (.int (nI l)), some (.int (nI c)), some (.ref 4), some (.int (nI b)), none, none]) rfl (by decide) rfl ?_
  refine zn_iload (pc := 8) rfl rfl ?_
  refine zn_iconst (pc := 10) (-1) rfl rfl ?_
  refine zn_icmp_ne (pc := 11) (tgt := 16) (x := (nI b)) (y := (-1)) rfl rfl (fun c1 => ?_) (fun c1 => ?_)
  · refine zn_aload_n (pc := 16) rfl rfl ?_
    refine zn_get (pc := 17) (v := .ref 18) rfl hlo rfl ?_
    refine zn_iload (pc := 20) rfl rfl ?_
    refine zn_callVx (pc := 22) (J := zX0_width) (o := 18) (as := [.int (nI b)]) (rest := []) rfl rfl rfl rfl p8 rfl rfl rfl (Nat.le_of_ble_eq_true rfl) (Nat.le_of_ble_eq_true rfl) (Nat.le_of_ble_eq_true rfl) (Nat.le_of_ble_eq_true rfl) (c_width_10b hbk h84 (b := b) (by omega)) ?_
    refine zn_aload_n (pc := 25) rfl rfl ?_
    refine zn_callVx (pc := 26) (J := zX2_padding) (o := 4) (as := []) (rest := [.int (nI (R 12 b))]) rfl rfl rfl rfl hf4 rfl rfl rfl (Nat.le_of_ble_eq_true rfl) (Nat.le_of_ble_eq_true rfl) (Nat.le_of_ble_eq_true rfl) (Nat.le_of_ble_eq_true rfl) (c_padding hf4 hf5 hpd hlw hg hg8 hal) ?_
    refine zn_isub (pc := 29) rfl ?_
    refine zn_istore (pc := 30) (L' := [some (.ref 10), some (.int (nI l)), some (.int (nI c)), some (.ref 4), some (.int (nI b)), some (.int (nI (R 12 b) - nI pd)), none]) rfl (by decide) rfl ?_
    refine zn_iload (pc := 32) rfl rfl ?_
    refine zn_aload_n (pc := 34) rfl rfl ?_
    refine zn_get (pc := 35) (v := .ref 11) rfl hlo rfl ?_
    refine zn_iload_n (pc := 38) rfl rfl ?_
    refine zn_iload_n (pc := 39) rfl rfl ?_
    refine zn_callVx (pc := 40) (J := zX1_length) (o := 11) (as := [.int (nI l), .int (nI c)]) (rest := [.int (nI (R 12 b) - nI pd)]) rfl rfl rfl rfl o1 rfl rfl rfl (Nat.le_of_ble_eq_true rfl) (Nat.le_of_ble_eq_true rfl) (Nat.le_of_ble_eq_true rfl) (Nat.le_of_ble_eq_true rfl) (c_length_10 hz hk (l := l) (c := c) (by omega) (by omega)) ?_
    refine zn_isub (pc := 43) rfl ?_
    refine zn_istore (pc := 44) (L' := [some (.ref 10), some (.int (nI l)), some (.int (nI c)), some (.ref 4), some (.int (nI b)), some (.int (nI (R 12 b) - nI pd)), some (.int ((nI (R 12 b) - nI pd) - (nI (z (25 + 8 * l + c)))))]) rfl (by decide) rfl ?_
    refine zn_aload_n (pc := 46) rfl rfl ?_
    refine zn_get (pc := 47) (v := .ref 18) rfl hlo rfl ?_
    refine zn_iload (pc := 50) rfl rfl ?_
    refine zn_callVx (pc := 52) (J := zX0_alignment) (o := 18) (as := [.int (nI b)]) (rest := []) rfl rfl rfl rfl p8 rfl rfl rfl (Nat.le_of_ble_eq_true rfl) (Nat.le_of_ble_eq_true rfl) (Nat.le_of_ble_eq_true rfl) (Nat.le_of_ble_eq_true rfl) (c_alignment_10b hbk h84 (b := b) (by omega)) ?_
    refine zn_top (v' := .int (nI 2)) (by rw [h9]) ?_
    refine zn_tabIn (pc := 55) (x := nI 2) (off := 28) (tgt := 83) rfl (by decide +kernel) (by decide +kernel) (by rw [show (nI 2).toInt = 2 by decide +kernel]; rfl) rfl ?_
    refine zn_iload (pc := 83) rfl rfl ?_
    refine zn_iconstN (pc := 85) 2 rfl rfl ?_
    refine zn_idiv (pc := 86) rfl (by decide) ?_
    exact zx_i (pc := 87) rfl rfl (by simp only [mSh]; rw [if_neg (by omega), if_neg (by omega), if_pos (by omega)]; try rfl) rfl
  · exact absurd (show nI b = -1 from c1) (fun q => nI_pos (show b < 2 ^ 31 by omega) (by rw [q]; decide))
theorem c_shift_3  {R : Nat → Nat → Nat} {nb : Nat} (hL : LK hh 10 z R nb) {l c : Nat} (hl : l < z 0) (hc : c < z (1 + l)) {pd lw gr : Nat} {al : Nat → Nat} (hf4 : hh.1 4 = some (.inr (2, [.ref 5, .int (nI pd), .int (nI lw), .int (nI gr)]))) (hf5 : hh.1 5 = some (mNA 7 al)) (hpd : pd ≤ 8) (hlw : lw ≤ 20) (hg : 1 ≤ gr) (hg8 : gr ≤ 8) (hal : ∀ j, al j ≤ 3) {b : Nat} (hb9 : mOf R z l c nb = some b) (hb : b < nb) (h9 : R 9 b = 3) : Zx g zX5_shift [.ref 10, .int (nI l), .int (nI c), .ref 4] (hh) (some (.int (mSh (fun _ => pd) R z l c (some b)))) (hh) := by
  have hz := hL.ok
  have hzb := hL.zb
  have hk := hL.c
  have hbk := hL.b
  have hr := hL.r
  have h84 := hr.le
  have hlo := hL.lo
  have ha := hr.bd
  have hv := hr.cov
  obtain ⟨Xs, Bn, hxs, hbs, hpx, hpb⟩ := hL.x
  have h0 := hz.1
  have h1 := hz.2.1
  obtain ⟨C, V, o1, oa, o7, k0, kk⟩ := id hk
  have a0 : hh.1 12 = some (mNA 24 (C 0)) := oa 0 (by decide)
  have a1 : hh.1 13 = some (mNA 192 (C 1)) := oa 1 (by decide)
  have a2 : hh.1 14 = some (mNA 192 (C 2)) := oa 2 (by decide)
  have a3 : hh.1 15 = some (mNA 192 (C 3)) := oa 3 (by decide)
  have a4 : hh.1 16 = some (mNA 192 (C 4)) := oa 4 (by decide)
  obtain ⟨D, W, p8, pa, p17, pk⟩ := id hbk
  have e0 : hh.1 19 = some (mNA 84 (D 0)) := pa 0 (by decide)
  have e1 : hh.1 20 = some (mNA 84 (D 1)) := pa 1 (by decide)
  have e2 : hh.1 21 = some (mNA 84 (D 2)) := pa 2 (by decide)
  have e3 : hh.1 22 = some (mNA 84 (D 3)) := pa 3 (by decide)
  have e4 : hh.1 23 = some (mNA 84 (D 4)) := pa 4 (by decide)
  have e5 : hh.1 24 = some (mNA 84 (D 5)) := pa 5 (by decide)
  have e6 : hh.1 25 = some (mNA 84 (D 6)) := pa 6 (by decide)
  have e7 : hh.1 26 = some (mNA 84 (D 7)) := pa 7 (by decide)
  have hzl := hz.2.2.1 l hl
  have hzc := hz.2.2.2 l c hl hc
  have hp := mCell_nI hz hl hc
  have k2 : mK z c l ≤ 2 := skind_le _ _
  show Zn g zX5_shift 0 [some (.ref 10), some (.int (nI l)), some (.int (nI c)), some (.ref 4), none, none, none] [] (hh) 0 0 _
  refine zn_aload_n (pc := 0) rfl rfl ?_
  refine zn_iload_n (pc := 1) rfl rfl ?_
  refine zn_iload_n (pc := 2) rfl rfl ?_
  refine zn_callVx (pc := 3) (J := zX5_blockNumber) (o := 10) (as := [.int (nI l), .int (nI c)]) (rest := []) rfl rfl rfl rfl hlo rfl rfl rfl (Nat.le_of_ble_eq_true rfl) (Nat.le_of_ble_eq_true rfl) (Nat.le_of_ble_eq_true rfl) (Nat.le_of_ble_eq_true rfl) (c_blockNumber_10 hL (l := l) (c := c) (by omega) (by omega)) ?_
  refine zn_top (v' := .int (nI b)) (by rw [hb9]; rfl) ?_
  refine zn_istore (pc := 6) (L' := [some (.ref 10), some (.int (nI l)), some (.int (nI c)), some (.ref 4), some (.int (nI b)), none, none]) rfl (by decide) rfl ?_
  refine zn_iload (pc := 8) rfl rfl ?_
  refine zn_iconst (pc := 10) (-1) rfl rfl ?_
  refine zn_icmp_ne (pc := 11) (tgt := 16) (x := (nI b)) (y := (-1)) rfl rfl (fun c1 => ?_) (fun c1 => ?_)
  · refine zn_aload_n (pc := 16) rfl rfl ?_
    refine zn_get (pc := 17) (v := .ref 18) rfl hlo rfl ?_
    refine zn_iload (pc := 20) rfl rfl ?_
    refine zn_callVx (pc := 22) (J := zX0_width) (o := 18) (as := [.int (nI b)]) (rest := []) rfl rfl rfl rfl p8 rfl rfl rfl (Nat.le_of_ble_eq_true rfl) (Nat.le_of_ble_eq_true rfl) (Nat.le_of_ble_eq_true rfl) (Nat.le_of_ble_eq_true rfl) (c_width_10b hbk h84 (b := b) (by omega)) ?_
    refine zn_aload_n (pc := 25) rfl rfl ?_
    refine zn_callVx (pc := 26) (J := zX2_padding) (o := 4) (as := []) (rest := [.int (nI (R 12 b))]) rfl rfl rfl rfl hf4 rfl rfl rfl (Nat.le_of_ble_eq_true rfl) (Nat.le_of_ble_eq_true rfl) (Nat.le_of_ble_eq_true rfl) (Nat.le_of_ble_eq_true rfl) (c_padding hf4 hf5 hpd hlw hg hg8 hal) ?_
    refine zn_isub (pc := 29) rfl ?_
    refine zn_istore (pc := 30) (L' := [some (.ref 10), some (.int (nI l)), some (.int (nI c)), some (.ref 4), some (.int (nI b)), some (.int (nI (R 12 b) - nI pd)), none]) rfl (by decide) rfl ?_
    refine zn_iload (pc := 32) rfl rfl ?_
    refine zn_aload_n (pc := 34) rfl rfl ?_
    refine zn_get (pc := 35) (v := .ref 11) rfl hlo rfl ?_
    refine zn_iload_n (pc := 38) rfl rfl ?_
    refine zn_iload_n (pc := 39) rfl rfl ?_
    refine zn_callVx (pc := 40) (J := zX1_length) (o := 11) (as := [.int (nI l), .int (nI c)]) (rest := [.int (nI (R 12 b) - nI pd)]) rfl rfl rfl rfl o1 rfl rfl rfl (Nat.le_of_ble_eq_true rfl) (Nat.le_of_ble_eq_true rfl) (Nat.le_of_ble_eq_true rfl) (Nat.le_of_ble_eq_true rfl) (c_length_10 hz hk (l := l) (c := c) (by omega) (by omega)) ?_
    refine zn_isub (pc := 43) rfl ?_
    refine zn_istore (pc := 44) (L' := [some (.ref 10), some (.int (nI l)), some (.int (nI c)), some (.ref 4), some (.int (nI b)), some (.int (nI (R 12 b) - nI pd)), some (.int ((nI (R 12 b) - nI pd) - (nI (z (25 + 8 * l + c)))))]) rfl (by decide) rfl ?_
    refine zn_aload_n (pc := 46) rfl rfl ?_
    refine zn_get (pc := 47) (v := .ref 18) rfl hlo rfl ?_
    refine zn_iload (pc := 50) rfl rfl ?_
    refine zn_callVx (pc := 52) (J := zX0_alignment) (o := 18) (as := [.int (nI b)]) (rest := []) rfl rfl rfl rfl p8 rfl rfl rfl (Nat.le_of_ble_eq_true rfl) (Nat.le_of_ble_eq_true rfl) (Nat.le_of_ble_eq_true rfl) (Nat.le_of_ble_eq_true rfl) (c_alignment_10b hbk h84 (b := b) (by omega)) ?_
    refine zn_top (v' := .int (nI 3)) (by rw [h9]) ?_
    refine zn_tabIn (pc := 55) (x := nI 3) (off := 33) (tgt := 88) rfl (by decide +kernel) (by decide +kernel) (by rw [show (nI 3).toInt = 3 by decide +kernel]; rfl) rfl ?_
    refine zn_aload_n (pc := 88) rfl rfl ?_
    refine zn_get (pc := 89) (v := .ref 11) rfl hlo rfl ?_
    refine zn_iload_n (pc := 92) rfl rfl ?_
    refine zn_iload_n (pc := 93) rfl rfl ?_
    refine zn_callVx (pc := 94) (J := zX1_kind) (o := 11) (as := [.int (nI l), .int (nI c)]) (rest := []) rfl rfl rfl rfl o1 rfl rfl rfl (Nat.le_of_ble_eq_true rfl) (Nat.le_of_ble_eq_true rfl) (Nat.le_of_ble_eq_true rfl) (Nat.le_of_ble_eq_true rfl) (c_kind_10 hz hk (l := l) (c := c) (by omega) (by omega)) ?_
    refine zn_iconstN (pc := 97) 1 rfl rfl ?_
    refine zn_icmp_neN (pc := 98) (tgt := 126) (x := (mK z c l)) (y := 1) rfl rfl (by omega) (by omega) (fun c2 => ?_) (fun c2 => ?_)
    · refine zn_iload (pc := 126) rfl rfl ?_
      exact zx_i (pc := 128) rfl rfl (by simp only [mSh]; rw [if_neg (by omega), if_neg (fun q => absurd q.2 (by assumption)), if_neg (by omega)]; try rfl) rfl
    · refine zn_iload (pc := 101) rfl rfl ?_
      refine zn_aload_n (pc := 103) rfl rfl ?_
      refine zn_get (pc := 104) (v := .ref 18) rfl hlo rfl ?_
      refine zn_iload (pc := 107) rfl rfl ?_
      refine zn_callVx (pc := 109) (J := zX0_fractionWidth) (o := 18) (as := [.int (nI b)]) (rest := [.int (nI (R 12 b) - nI pd)]) rfl rfl rfl rfl p8 rfl rfl rfl (Nat.le_of_ble_eq_true rfl) (Nat.le_of_ble_eq_true rfl) (Nat.le_of_ble_eq_true rfl) (Nat.le_of_ble_eq_true rfl) (c_fractionWidth_10b hbk h84 (b := b) (by omega)) ?_
      refine zn_isub (pc := 112) rfl ?_
      refine zn_aload_n (pc := 113) rfl rfl ?_
      refine zn_get (pc := 114) (v := .ref 11) rfl hlo rfl ?_
      refine zn_iload_n (pc := 117) rfl rfl ?_
      refine zn_iload_n (pc := 118) rfl rfl ?_
      refine zn_callVx (pc := 119) (J := zX1_whole) (o := 11) (as := [.int (nI l), .int (nI c)]) (rest := [.int ((nI (R 12 b) - nI pd) - (nI (R 11 b)))]) rfl rfl rfl rfl o1 rfl rfl rfl (Nat.le_of_ble_eq_true rfl) (Nat.le_of_ble_eq_true rfl) (Nat.le_of_ble_eq_true rfl) (Nat.le_of_ble_eq_true rfl) (c_whole_10 hz hk (l := l) (c := c) (by omega) (by omega)) ?_
      refine zn_top (v' := .int (nI (mH z c l))) (by rw [if_pos (by assumption)]) ?_
      refine zn_isub (pc := 122) rfl ?_
      refine zn_goto (pc := 123) (tgt := 128) rfl rfl ?_
      exact zx_i (pc := 128) rfl rfl (by simp only [mSh]; rw [if_neg (by omega), if_pos ⟨by omega, by assumption⟩]; try rfl) rfl
  · exact absurd (show nI b = -1 from c1) (fun q => nI_pos (show b < 2 ^ 31 by omega) (by rw [q]; decide))
theorem c_shift {R : Nat → Nat → Nat} {nb : Nat} (hL : LK hh 10 z R nb) {l c : Nat} (hl : l < z 0) (hc : c < z (1 + l)) {pd lw gr : Nat} {al : Nat → Nat} (hf4 : hh.1 4 = some (.inr (2, [.ref 5, .int (nI pd), .int (nI lw), .int (nI gr)]))) (hf5 : hh.1 5 = some (mNA 7 al)) (hpd : pd ≤ 8) (hlw : lw ≤ 20) (hg : 1 ≤ gr) (hg8 : gr ≤ 8) (hal : ∀ j, al j ≤ 3) : Zx g zX5_shift [.ref 10, .int (nI l), .int (nI c), .ref 4] hh (some (.int (mSh (fun _ => pd) R z l c (mOf R z l c nb)))) hh := by
  cases hb9 : mOf R z l c nb with
  | none => exact c_shift_n hL hl hc hf4 hf5 hpd hlw hg hg8 hal hb9
  | some b =>
    have hb : b < nb := by
      unfold mOf at hb9
      split at hb9
      · exact bOf_lt hb9
      · cases hb9
    have h3 := hL.r.al3 b
    match h9 : R 9 b, h3 with
    | 0, _ => exact c_shift_0 hL hl hc hf4 hf5 hpd hlw hg hg8 hal hb9 hb h9
    | 1, _ => exact c_shift_1 hL hl hc hf4 hf5 hpd hlw hg hg8 hal hb9 hb h9
    | 2, _ => exact c_shift_2 hL hl hc hf4 hf5 hpd hlw hg hg8 hal hb9 hb h9
    | 3, _ => exact c_shift_3 hL hl hc hf4 hf5 hpd hlw hg hg8 hal hb9 hb h9
    | n + 4, q => exact absurd q (by omega)
def cCl (pd : Nat) (R : Nat → Nat → Nat) (z : Nat → Nat) (nb l c : Nat) : Nat → Int32
  | 0 => nI (z (25 + 8 * l + c))
  | 1 => nI (mK z c l)
  | 2 => nI (mX R z nb l c)
  | 3 => mSh (fun _ => pd) R z l c (mOf R z l c nb)
  | _ => oI (mOf R z l c nb)
theorem c_cellFact_0  {R : Nat → Nat → Nat} {nb : Nat} (hL : LK hh 10 z R nb) {l c : Nat} (hl : l < z 0) (hc : c < z (1 + l)) {pd lw gr : Nat} {al : Nat → Nat} (hf4 : hh.1 4 = some (.inr (2, [.ref 5, .int (nI pd), .int (nI lw), .int (nI gr)]))) (hf5 : hh.1 5 = some (mNA 7 al)) (hpd : pd ≤ 8) (hlw : lw ≤ 20) (hg : 1 ≤ gr) (hg8 : gr ≤ 8) (hal : ∀ j, al j ≤ 3) : Zx g zX5_cellFact [.ref 10, .int (nI l), .int (nI c), .int (nI 0), .ref 4] (hh) (some (.int (cCl pd R z nb l c 0))) (hh) := by
  have hz := hL.ok
  have hzb := hL.zb
  have hk := hL.c
  have hbk := hL.b
  have hr := hL.r
  have h84 := hr.le
  have hlo := hL.lo
  have ha := hr.bd
  have hv := hr.cov
  obtain ⟨Xs, Bn, hxs, hbs, hpx, hpb⟩ := hL.x
  have h0 := hz.1
  have h1 := hz.2.1
  obtain ⟨C, V, o1, oa, o7, k0, kk⟩ := id hk
  have a0 : hh.1 12 = some (mNA 24 (C 0)) := oa 0 (by decide)
  have a1 : hh.1 13 = some (mNA 192 (C 1)) := oa 1 (by decide)
  have a2 : hh.1 14 = some (mNA 192 (C 2)) := oa 2 (by decide)
  have a3 : hh.1 15 = some (mNA 192 (C 3)) := oa 3 (by decide)
  have a4 : hh.1 16 = some (mNA 192 (C 4)) := oa 4 (by decide)
  obtain ⟨D, W, p8, pa, p17, pk⟩ := id hbk
  have e0 : hh.1 19 = some (mNA 84 (D 0)) := pa 0 (by decide)
  have e1 : hh.1 20 = some (mNA 84 (D 1)) := pa 1 (by decide)
  have e2 : hh.1 21 = some (mNA 84 (D 2)) := pa 2 (by decide)
  have e3 : hh.1 22 = some (mNA 84 (D 3)) := pa 3 (by decide)
  have e4 : hh.1 23 = some (mNA 84 (D 4)) := pa 4 (by decide)
  have e5 : hh.1 24 = some (mNA 84 (D 5)) := pa 5 (by decide)
  have e6 : hh.1 25 = some (mNA 84 (D 6)) := pa 6 (by decide)
  have e7 : hh.1 26 = some (mNA 84 (D 7)) := pa 7 (by decide)
  have hzl := hz.2.2.1 l hl
  have hzc := hz.2.2.2 l c hl hc
  have hp := mCell_nI hz hl hc
  show Zn g zX5_cellFact 0 [some (.ref 10), some (.int (nI l)), some (.int (nI c)), some (.int (nI 0)), some (.ref 4)] [] (hh) 0 0 _
  refine zn_iload_n (pc := 0) rfl rfl ?_
  refine zn_tabIn (pc := 1) (x := nI 0) (off := 31) (tgt := 32) rfl (by decide +kernel) (by decide +kernel) (by rw [show (nI 0).toInt = 0 by decide +kernel]; rfl) rfl ?_
  refine zn_aload_n (pc := 32) rfl rfl ?_
  refine zn_get (pc := 33) (v := .ref 11) rfl hlo rfl ?_
  refine zn_iload_n (pc := 36) rfl rfl ?_
  refine zn_iload_n (pc := 37) rfl rfl ?_
  refine zn_callVx (pc := 38) (J := zX1_length) (o := 11) (as := [.int (nI l), .int (nI c)]) (rest := []) rfl rfl rfl rfl o1 rfl rfl rfl (Nat.le_of_ble_eq_true rfl) (Nat.le_of_ble_eq_true rfl) (Nat.le_of_ble_eq_true rfl) (Nat.le_of_ble_eq_true rfl) (c_length_10 hz hk (l := l) (c := c) (by omega) (by omega)) ?_
  exact zx_i (pc := 41) rfl rfl rfl rfl
theorem c_cellFact_1  {R : Nat → Nat → Nat} {nb : Nat} (hL : LK hh 10 z R nb) {l c : Nat} (hl : l < z 0) (hc : c < z (1 + l)) {pd lw gr : Nat} {al : Nat → Nat} (hf4 : hh.1 4 = some (.inr (2, [.ref 5, .int (nI pd), .int (nI lw), .int (nI gr)]))) (hf5 : hh.1 5 = some (mNA 7 al)) (hpd : pd ≤ 8) (hlw : lw ≤ 20) (hg : 1 ≤ gr) (hg8 : gr ≤ 8) (hal : ∀ j, al j ≤ 3) : Zx g zX5_cellFact [.ref 10, .int (nI l), .int (nI c), .int (nI 1), .ref 4] (hh) (some (.int (cCl pd R z nb l c 1))) (hh) := by
  have hz := hL.ok
  have hzb := hL.zb
  have hk := hL.c
  have hbk := hL.b
  have hr := hL.r
  have h84 := hr.le
  have hlo := hL.lo
  have ha := hr.bd
  have hv := hr.cov
  obtain ⟨Xs, Bn, hxs, hbs, hpx, hpb⟩ := hL.x
  have h0 := hz.1
  have h1 := hz.2.1
  obtain ⟨C, V, o1, oa, o7, k0, kk⟩ := id hk
  have a0 : hh.1 12 = some (mNA 24 (C 0)) := oa 0 (by decide)
  have a1 : hh.1 13 = some (mNA 192 (C 1)) := oa 1 (by decide)
  have a2 : hh.1 14 = some (mNA 192 (C 2)) := oa 2 (by decide)
  have a3 : hh.1 15 = some (mNA 192 (C 3)) := oa 3 (by decide)
  have a4 : hh.1 16 = some (mNA 192 (C 4)) := oa 4 (by decide)
  obtain ⟨D, W, p8, pa, p17, pk⟩ := id hbk
  have e0 : hh.1 19 = some (mNA 84 (D 0)) := pa 0 (by decide)
  have e1 : hh.1 20 = some (mNA 84 (D 1)) := pa 1 (by decide)
  have e2 : hh.1 21 = some (mNA 84 (D 2)) := pa 2 (by decide)
  have e3 : hh.1 22 = some (mNA 84 (D 3)) := pa 3 (by decide)
  have e4 : hh.1 23 = some (mNA 84 (D 4)) := pa 4 (by decide)
  have e5 : hh.1 24 = some (mNA 84 (D 5)) := pa 5 (by decide)
  have e6 : hh.1 25 = some (mNA 84 (D 6)) := pa 6 (by decide)
  have e7 : hh.1 26 = some (mNA 84 (D 7)) := pa 7 (by decide)
  have hzl := hz.2.2.1 l hl
  have hzc := hz.2.2.2 l c hl hc
  have hp := mCell_nI hz hl hc
  show Zn g zX5_cellFact 0 [some (.ref 10), some (.int (nI l)), some (.int (nI c)), some (.int (nI 1)), some (.ref 4)] [] (hh) 0 0 _
  refine zn_iload_n (pc := 0) rfl rfl ?_
  refine zn_tabIn (pc := 1) (x := nI 1) (off := 41) (tgt := 42) rfl (by decide +kernel) (by decide +kernel) (by rw [show (nI 1).toInt = 1 by decide +kernel]; rfl) rfl ?_
  refine zn_aload_n (pc := 42) rfl rfl ?_
  refine zn_get (pc := 43) (v := .ref 11) rfl hlo rfl ?_
  refine zn_iload_n (pc := 46) rfl rfl ?_
  refine zn_iload_n (pc := 47) rfl rfl ?_
  refine zn_callVx (pc := 48) (J := zX1_kind) (o := 11) (as := [.int (nI l), .int (nI c)]) (rest := []) rfl rfl rfl rfl o1 rfl rfl rfl (Nat.le_of_ble_eq_true rfl) (Nat.le_of_ble_eq_true rfl) (Nat.le_of_ble_eq_true rfl) (Nat.le_of_ble_eq_true rfl) (c_kind_10 hz hk (l := l) (c := c) (by omega) (by omega)) ?_
  exact zx_i (pc := 51) rfl rfl rfl rfl
theorem c_cellFact_2  {R : Nat → Nat → Nat} {nb : Nat} (hL : LK hh 10 z R nb) {l c : Nat} (hl : l < z 0) (hc : c < z (1 + l)) {pd lw gr : Nat} {al : Nat → Nat} (hf4 : hh.1 4 = some (.inr (2, [.ref 5, .int (nI pd), .int (nI lw), .int (nI gr)]))) (hf5 : hh.1 5 = some (mNA 7 al)) (hpd : pd ≤ 8) (hlw : lw ≤ 20) (hg : 1 ≤ gr) (hg8 : gr ≤ 8) (hal : ∀ j, al j ≤ 3) : Zx g zX5_cellFact [.ref 10, .int (nI l), .int (nI c), .int (nI 2), .ref 4] (hh) (some (.int (cCl pd R z nb l c 2))) (hh) := by
  have hz := hL.ok
  have hzb := hL.zb
  have hk := hL.c
  have hbk := hL.b
  have hr := hL.r
  have h84 := hr.le
  have hlo := hL.lo
  have ha := hr.bd
  have hv := hr.cov
  obtain ⟨Xs, Bn, hxs, hbs, hpx, hpb⟩ := hL.x
  have h0 := hz.1
  have h1 := hz.2.1
  obtain ⟨C, V, o1, oa, o7, k0, kk⟩ := id hk
  have a0 : hh.1 12 = some (mNA 24 (C 0)) := oa 0 (by decide)
  have a1 : hh.1 13 = some (mNA 192 (C 1)) := oa 1 (by decide)
  have a2 : hh.1 14 = some (mNA 192 (C 2)) := oa 2 (by decide)
  have a3 : hh.1 15 = some (mNA 192 (C 3)) := oa 3 (by decide)
  have a4 : hh.1 16 = some (mNA 192 (C 4)) := oa 4 (by decide)
  obtain ⟨D, W, p8, pa, p17, pk⟩ := id hbk
  have e0 : hh.1 19 = some (mNA 84 (D 0)) := pa 0 (by decide)
  have e1 : hh.1 20 = some (mNA 84 (D 1)) := pa 1 (by decide)
  have e2 : hh.1 21 = some (mNA 84 (D 2)) := pa 2 (by decide)
  have e3 : hh.1 22 = some (mNA 84 (D 3)) := pa 3 (by decide)
  have e4 : hh.1 23 = some (mNA 84 (D 4)) := pa 4 (by decide)
  have e5 : hh.1 24 = some (mNA 84 (D 5)) := pa 5 (by decide)
  have e6 : hh.1 25 = some (mNA 84 (D 6)) := pa 6 (by decide)
  have e7 : hh.1 26 = some (mNA 84 (D 7)) := pa 7 (by decide)
  have hzl := hz.2.2.1 l hl
  have hzc := hz.2.2.2 l c hl hc
  have hp := mCell_nI hz hl hc
  show Zn g zX5_cellFact 0 [some (.ref 10), some (.int (nI l)), some (.int (nI c)), some (.int (nI 2)), some (.ref 4)] [] (hh) 0 0 _
  refine zn_iload_n (pc := 0) rfl rfl ?_
  refine zn_tabIn (pc := 1) (x := nI 2) (off := 51) (tgt := 52) rfl (by decide +kernel) (by decide +kernel) (by rw [show (nI 2).toInt = 2 by decide +kernel]; rfl) rfl ?_
  refine zn_aload_n (pc := 52) rfl rfl ?_
  refine zn_iload_n (pc := 53) rfl rfl ?_
  refine zn_iload_n (pc := 54) rfl rfl ?_
  refine zn_callVx (pc := 55) (J := zX5_x) (o := 10) (as := [.int (nI l), .int (nI c)]) (rest := []) rfl rfl rfl rfl hlo rfl rfl rfl (Nat.le_of_ble_eq_true rfl) (Nat.le_of_ble_eq_true rfl) (Nat.le_of_ble_eq_true rfl) (Nat.le_of_ble_eq_true rfl) (c_x_10 hL (l := l) (c := c) (by omega) (by omega)) ?_
  exact zx_i (pc := 58) rfl rfl rfl rfl
theorem c_cellFact_3  {R : Nat → Nat → Nat} {nb : Nat} (hL : LK hh 10 z R nb) {l c : Nat} (hl : l < z 0) (hc : c < z (1 + l)) {pd lw gr : Nat} {al : Nat → Nat} (hf4 : hh.1 4 = some (.inr (2, [.ref 5, .int (nI pd), .int (nI lw), .int (nI gr)]))) (hf5 : hh.1 5 = some (mNA 7 al)) (hpd : pd ≤ 8) (hlw : lw ≤ 20) (hg : 1 ≤ gr) (hg8 : gr ≤ 8) (hal : ∀ j, al j ≤ 3) : Zx g zX5_cellFact [.ref 10, .int (nI l), .int (nI c), .int (nI 3), .ref 4] (hh) (some (.int (cCl pd R z nb l c 3))) (hh) := by
  have hz := hL.ok
  have hzb := hL.zb
  have hk := hL.c
  have hbk := hL.b
  have hr := hL.r
  have h84 := hr.le
  have hlo := hL.lo
  have ha := hr.bd
  have hv := hr.cov
  obtain ⟨Xs, Bn, hxs, hbs, hpx, hpb⟩ := hL.x
  have h0 := hz.1
  have h1 := hz.2.1
  obtain ⟨C, V, o1, oa, o7, k0, kk⟩ := id hk
  have a0 : hh.1 12 = some (mNA 24 (C 0)) := oa 0 (by decide)
  have a1 : hh.1 13 = some (mNA 192 (C 1)) := oa 1 (by decide)
  have a2 : hh.1 14 = some (mNA 192 (C 2)) := oa 2 (by decide)
  have a3 : hh.1 15 = some (mNA 192 (C 3)) := oa 3 (by decide)
  have a4 : hh.1 16 = some (mNA 192 (C 4)) := oa 4 (by decide)
  obtain ⟨D, W, p8, pa, p17, pk⟩ := id hbk
  have e0 : hh.1 19 = some (mNA 84 (D 0)) := pa 0 (by decide)
  have e1 : hh.1 20 = some (mNA 84 (D 1)) := pa 1 (by decide)
  have e2 : hh.1 21 = some (mNA 84 (D 2)) := pa 2 (by decide)
  have e3 : hh.1 22 = some (mNA 84 (D 3)) := pa 3 (by decide)
  have e4 : hh.1 23 = some (mNA 84 (D 4)) := pa 4 (by decide)
  have e5 : hh.1 24 = some (mNA 84 (D 5)) := pa 5 (by decide)
  have e6 : hh.1 25 = some (mNA 84 (D 6)) := pa 6 (by decide)
  have e7 : hh.1 26 = some (mNA 84 (D 7)) := pa 7 (by decide)
  have hzl := hz.2.2.1 l hl
  have hzc := hz.2.2.2 l c hl hc
  have hp := mCell_nI hz hl hc
  show Zn g zX5_cellFact 0 [some (.ref 10), some (.int (nI l)), some (.int (nI c)), some (.int (nI 3)), some (.ref 4)] [] (hh) 0 0 _
  refine zn_iload_n (pc := 0) rfl rfl ?_
  refine zn_tabIn (pc := 1) (x := nI 3) (off := 58) (tgt := 59) rfl (by decide +kernel) (by decide +kernel) (by rw [show (nI 3).toInt = 3 by decide +kernel]; rfl) rfl ?_
  refine zn_aload_n (pc := 59) rfl rfl ?_
  refine zn_iload_n (pc := 60) rfl rfl ?_
  refine zn_iload_n (pc := 61) rfl rfl ?_
  refine zn_aload (pc := 62) rfl rfl ?_
  refine zn_callVx (pc := 64) (J := zX5_shift) (o := 10) (as := [.int (nI l), .int (nI c), .ref 4]) (rest := []) rfl rfl rfl rfl hlo rfl rfl rfl (Nat.le_of_ble_eq_true rfl) (Nat.le_of_ble_eq_true rfl) (Nat.le_of_ble_eq_true rfl) (Nat.le_of_ble_eq_true rfl) (c_shift hL (l := l) (c := c) (by omega) (by omega) hf4 hf5 hpd hlw hg hg8 hal) ?_
  exact zx_i (pc := 67) rfl rfl rfl rfl
theorem c_cellFact_4  {R : Nat → Nat → Nat} {nb : Nat} (hL : LK hh 10 z R nb) {l c : Nat} (hl : l < z 0) (hc : c < z (1 + l)) {pd lw gr : Nat} {al : Nat → Nat} (hf4 : hh.1 4 = some (.inr (2, [.ref 5, .int (nI pd), .int (nI lw), .int (nI gr)]))) (hf5 : hh.1 5 = some (mNA 7 al)) (hpd : pd ≤ 8) (hlw : lw ≤ 20) (hg : 1 ≤ gr) (hg8 : gr ≤ 8) (hal : ∀ j, al j ≤ 3) : Zx g zX5_cellFact [.ref 10, .int (nI l), .int (nI c), .int (nI 4), .ref 4] (hh) (some (.int (cCl pd R z nb l c 4))) (hh) := by
  have hz := hL.ok
  have hzb := hL.zb
  have hk := hL.c
  have hbk := hL.b
  have hr := hL.r
  have h84 := hr.le
  have hlo := hL.lo
  have ha := hr.bd
  have hv := hr.cov
  obtain ⟨Xs, Bn, hxs, hbs, hpx, hpb⟩ := hL.x
  have h0 := hz.1
  have h1 := hz.2.1
  obtain ⟨C, V, o1, oa, o7, k0, kk⟩ := id hk
  have a0 : hh.1 12 = some (mNA 24 (C 0)) := oa 0 (by decide)
  have a1 : hh.1 13 = some (mNA 192 (C 1)) := oa 1 (by decide)
  have a2 : hh.1 14 = some (mNA 192 (C 2)) := oa 2 (by decide)
  have a3 : hh.1 15 = some (mNA 192 (C 3)) := oa 3 (by decide)
  have a4 : hh.1 16 = some (mNA 192 (C 4)) := oa 4 (by decide)
  obtain ⟨D, W, p8, pa, p17, pk⟩ := id hbk
  have e0 : hh.1 19 = some (mNA 84 (D 0)) := pa 0 (by decide)
  have e1 : hh.1 20 = some (mNA 84 (D 1)) := pa 1 (by decide)
  have e2 : hh.1 21 = some (mNA 84 (D 2)) := pa 2 (by decide)
  have e3 : hh.1 22 = some (mNA 84 (D 3)) := pa 3 (by decide)
  have e4 : hh.1 23 = some (mNA 84 (D 4)) := pa 4 (by decide)
  have e5 : hh.1 24 = some (mNA 84 (D 5)) := pa 5 (by decide)
  have e6 : hh.1 25 = some (mNA 84 (D 6)) := pa 6 (by decide)
  have e7 : hh.1 26 = some (mNA 84 (D 7)) := pa 7 (by decide)
  have hzl := hz.2.2.1 l hl
  have hzc := hz.2.2.2 l c hl hc
  have hp := mCell_nI hz hl hc
  show Zn g zX5_cellFact 0 [some (.ref 10), some (.int (nI l)), some (.int (nI c)), some (.int (nI 4)), some (.ref 4)] [] (hh) 0 0 _
  refine zn_iload_n (pc := 0) rfl rfl ?_
  refine zn_tabOut (pc := 1) (x := nI 4) (tgt := 68) rfl (by decide +kernel) rfl ?_
  refine zn_aload_n (pc := 68) rfl rfl ?_
  refine zn_iload_n (pc := 69) rfl rfl ?_
  refine zn_iload_n (pc := 70) rfl rfl ?_
  refine zn_callVx (pc := 71) (J := zX5_blockNumber) (o := 10) (as := [.int (nI l), .int (nI c)]) (rest := []) rfl rfl rfl rfl hlo rfl rfl rfl (Nat.le_of_ble_eq_true rfl) (Nat.le_of_ble_eq_true rfl) (Nat.le_of_ble_eq_true rfl) (Nat.le_of_ble_eq_true rfl) (c_blockNumber_10 hL (l := l) (c := c) (by omega) (by omega)) ?_
  exact zx_i (pc := 74) rfl rfl rfl rfl
theorem c_cellFact {R : Nat → Nat → Nat} {nb : Nat} (hL : LK hh 10 z R nb) {l c : Nat} (hl : l < z 0) (hc : c < z (1 + l)) {pd lw gr : Nat} {al : Nat → Nat} (hf4 : hh.1 4 = some (.inr (2, [.ref 5, .int (nI pd), .int (nI lw), .int (nI gr)]))) (hf5 : hh.1 5 = some (mNA 7 al)) (hpd : pd ≤ 8) (hlw : lw ≤ 20) (hg : 1 ≤ gr) (hg8 : gr ≤ 8) (hal : ∀ j, al j ≤ 3) {k : Nat} (hk9 : k ≤ 4) : Zx g zX5_cellFact [.ref 10, .int (nI l), .int (nI c), .int (nI k), .ref 4] hh (some (.int (cCl pd R z nb l c k))) hh := by
  match k, hk9 with
  | 0, _ => exact c_cellFact_0 hL hl hc hf4 hf5 hpd hlw hg hg8 hal
  | 1, _ => exact c_cellFact_1 hL hl hc hf4 hf5 hpd hlw hg hg8 hal
  | 2, _ => exact c_cellFact_2 hL hl hc hf4 hf5 hpd hlw hg hg8 hal
  | 3, _ => exact c_cellFact_3 hL hl hc hf4 hf5 hpd hlw hg hg8 hal
  | 4, _ => exact c_cellFact_4 hL hl hc hf4 hf5 hpd hlw hg hg8 hal
  | n + 5, q => exact absurd q (by omega)
theorem c_lineFact_0  {R : Nat → Nat → Nat} {nb : Nat} (hL : LK hh 10 z R nb) {l : Nat} (hl : l < z 0) : Zx g zX5_lineFact [.ref 10, .int (nI l), .int (nI 0)] (hh) (some (.int (nI (mLn_ R z nb l 0)))) (hh) := by
  have hz := hL.ok
  have hzb := hL.zb
  have hk := hL.c
  have hbk := hL.b
  have hr := hL.r
  have h84 := hr.le
  have hlo := hL.lo
  have ha := hr.bd
  have hv := hr.cov
  obtain ⟨Xs, Bn, hxs, hbs, hpx, hpb⟩ := hL.x
  have h0 := hz.1
  have h1 := hz.2.1
  obtain ⟨C, V, o1, oa, o7, k0, kk⟩ := id hk
  have a0 : hh.1 12 = some (mNA 24 (C 0)) := oa 0 (by decide)
  have a1 : hh.1 13 = some (mNA 192 (C 1)) := oa 1 (by decide)
  have a2 : hh.1 14 = some (mNA 192 (C 2)) := oa 2 (by decide)
  have a3 : hh.1 15 = some (mNA 192 (C 3)) := oa 3 (by decide)
  have a4 : hh.1 16 = some (mNA 192 (C 4)) := oa 4 (by decide)
  obtain ⟨D, W, p8, pa, p17, pk⟩ := id hbk
  have e0 : hh.1 19 = some (mNA 84 (D 0)) := pa 0 (by decide)
  have e1 : hh.1 20 = some (mNA 84 (D 1)) := pa 1 (by decide)
  have e2 : hh.1 21 = some (mNA 84 (D 2)) := pa 2 (by decide)
  have e3 : hh.1 22 = some (mNA 84 (D 3)) := pa 3 (by decide)
  have e4 : hh.1 23 = some (mNA 84 (D 4)) := pa 4 (by decide)
  have e5 : hh.1 24 = some (mNA 84 (D 5)) := pa 5 (by decide)
  have e6 : hh.1 25 = some (mNA 84 (D 6)) := pa 6 (by decide)
  have e7 : hh.1 26 = some (mNA 84 (D 7)) := pa 7 (by decide)
  have hzl := hz.2.2.1 l hl
  show Zn g zX5_lineFact 0 [some (.ref 10), some (.int (nI l)), some (.int (nI 0))] [] (hh) 0 0 _
  refine zn_iload_n (pc := 0) rfl rfl ?_
  refine zn_tabIn (pc := 1) (x := nI 0) (off := 27) (tgt := 28) rfl (by decide +kernel) (by decide +kernel) (by rw [show (nI 0).toInt = 0 by decide +kernel]; rfl) rfl ?_
  refine zn_aload_n (pc := 28) rfl rfl ?_
  refine zn_get (pc := 29) (v := .ref 11) rfl hlo rfl ?_
  refine zn_iload_n (pc := 32) rfl rfl ?_
  refine zn_callVx (pc := 33) (J := zX1_cellsOf) (o := 11) (as := [.int (nI l)]) (rest := []) rfl rfl rfl rfl o1 rfl rfl rfl (Nat.le_of_ble_eq_true rfl) (Nat.le_of_ble_eq_true rfl) (Nat.le_of_ble_eq_true rfl) (Nat.le_of_ble_eq_true rfl) (c_cellsOf_10 hz hk (l := l) (by omega)) ?_
  exact zx_i (pc := 36) rfl rfl rfl rfl
theorem c_lineFact_1  {R : Nat → Nat → Nat} {nb : Nat} (hL : LK hh 10 z R nb) {l : Nat} (hl : l < z 0) : Zx g zX5_lineFact [.ref 10, .int (nI l), .int (nI 1)] (hh) (some (.int (nI (mLn_ R z nb l 1)))) (hh) := by
  have hz := hL.ok
  have hzb := hL.zb
  have hk := hL.c
  have hbk := hL.b
  have hr := hL.r
  have h84 := hr.le
  have hlo := hL.lo
  have ha := hr.bd
  have hv := hr.cov
  obtain ⟨Xs, Bn, hxs, hbs, hpx, hpb⟩ := hL.x
  have h0 := hz.1
  have h1 := hz.2.1
  obtain ⟨C, V, o1, oa, o7, k0, kk⟩ := id hk
  have a0 : hh.1 12 = some (mNA 24 (C 0)) := oa 0 (by decide)
  have a1 : hh.1 13 = some (mNA 192 (C 1)) := oa 1 (by decide)
  have a2 : hh.1 14 = some (mNA 192 (C 2)) := oa 2 (by decide)
  have a3 : hh.1 15 = some (mNA 192 (C 3)) := oa 3 (by decide)
  have a4 : hh.1 16 = some (mNA 192 (C 4)) := oa 4 (by decide)
  obtain ⟨D, W, p8, pa, p17, pk⟩ := id hbk
  have e0 : hh.1 19 = some (mNA 84 (D 0)) := pa 0 (by decide)
  have e1 : hh.1 20 = some (mNA 84 (D 1)) := pa 1 (by decide)
  have e2 : hh.1 21 = some (mNA 84 (D 2)) := pa 2 (by decide)
  have e3 : hh.1 22 = some (mNA 84 (D 3)) := pa 3 (by decide)
  have e4 : hh.1 23 = some (mNA 84 (D 4)) := pa 4 (by decide)
  have e5 : hh.1 24 = some (mNA 84 (D 5)) := pa 5 (by decide)
  have e6 : hh.1 25 = some (mNA 84 (D 6)) := pa 6 (by decide)
  have e7 : hh.1 26 = some (mNA 84 (D 7)) := pa 7 (by decide)
  have hzl := hz.2.2.1 l hl
  show Zn g zX5_lineFact 0 [some (.ref 10), some (.int (nI l)), some (.int (nI 1))] [] (hh) 0 0 _
  refine zn_iload_n (pc := 0) rfl rfl ?_
  refine zn_tabIn (pc := 1) (x := nI 1) (off := 36) (tgt := 37) rfl (by decide +kernel) (by decide +kernel) (by rw [show (nI 1).toInt = 1 by decide +kernel]; rfl) rfl ?_
  refine zn_aload_n (pc := 37) rfl rfl ?_
  refine zn_iload_n (pc := 38) rfl rfl ?_
  refine zn_callVx (pc := 39) (J := zX5_shownLength) (o := 10) (as := [.int (nI l)]) (rest := []) rfl rfl rfl rfl hlo rfl rfl rfl (Nat.le_of_ble_eq_true rfl) (Nat.le_of_ble_eq_true rfl) (Nat.le_of_ble_eq_true rfl) (Nat.le_of_ble_eq_true rfl) (c_shownLength hL (l := l) (by omega)) ?_
  exact zx_i (pc := 42) rfl rfl rfl rfl
theorem c_lineFact_2  {R : Nat → Nat → Nat} {nb : Nat} (hL : LK hh 10 z R nb) {l : Nat} (hl : l < z 0) : Zx g zX5_lineFact [.ref 10, .int (nI l), .int (nI 2)] (hh) (some (.int (nI (mLn_ R z nb l 2)))) (hh) := by
  have hz := hL.ok
  have hzb := hL.zb
  have hk := hL.c
  have hbk := hL.b
  have hr := hL.r
  have h84 := hr.le
  have hlo := hL.lo
  have ha := hr.bd
  have hv := hr.cov
  obtain ⟨Xs, Bn, hxs, hbs, hpx, hpb⟩ := hL.x
  have h0 := hz.1
  have h1 := hz.2.1
  obtain ⟨C, V, o1, oa, o7, k0, kk⟩ := id hk
  have a0 : hh.1 12 = some (mNA 24 (C 0)) := oa 0 (by decide)
  have a1 : hh.1 13 = some (mNA 192 (C 1)) := oa 1 (by decide)
  have a2 : hh.1 14 = some (mNA 192 (C 2)) := oa 2 (by decide)
  have a3 : hh.1 15 = some (mNA 192 (C 3)) := oa 3 (by decide)
  have a4 : hh.1 16 = some (mNA 192 (C 4)) := oa 4 (by decide)
  obtain ⟨D, W, p8, pa, p17, pk⟩ := id hbk
  have e0 : hh.1 19 = some (mNA 84 (D 0)) := pa 0 (by decide)
  have e1 : hh.1 20 = some (mNA 84 (D 1)) := pa 1 (by decide)
  have e2 : hh.1 21 = some (mNA 84 (D 2)) := pa 2 (by decide)
  have e3 : hh.1 22 = some (mNA 84 (D 3)) := pa 3 (by decide)
  have e4 : hh.1 23 = some (mNA 84 (D 4)) := pa 4 (by decide)
  have e5 : hh.1 24 = some (mNA 84 (D 5)) := pa 5 (by decide)
  have e6 : hh.1 25 = some (mNA 84 (D 6)) := pa 6 (by decide)
  have e7 : hh.1 26 = some (mNA 84 (D 7)) := pa 7 (by decide)
  have hzl := hz.2.2.1 l hl
  show Zn g zX5_lineFact 0 [some (.ref 10), some (.int (nI l)), some (.int (nI 2))] [] (hh) 0 0 _
  refine zn_iload_n (pc := 0) rfl rfl ?_
  refine zn_tabIn (pc := 1) (x := nI 2) (off := 42) (tgt := 43) rfl (by decide +kernel) (by decide +kernel) (by rw [show (nI 2).toInt = 2 by decide +kernel]; rfl) rfl ?_
  refine zn_aload_n (pc := 43) rfl rfl ?_
  refine zn_get (pc := 44) (v := .ref 11) rfl hlo rfl ?_
  refine zn_iload_n (pc := 47) rfl rfl ?_
  refine zn_callVx (pc := 48) (J := zX1_signsOf) (o := 11) (as := [.int (nI l)]) (rest := []) rfl rfl rfl rfl o1 rfl rfl rfl (Nat.le_of_ble_eq_true rfl) (Nat.le_of_ble_eq_true rfl) (Nat.le_of_ble_eq_true rfl) (Nat.le_of_ble_eq_true rfl) (c_signsOf hL (l := l) (by omega)) ?_
  exact zx_i (pc := 51) rfl rfl rfl rfl
theorem c_lineFact_3  {R : Nat → Nat → Nat} {nb : Nat} (hL : LK hh 10 z R nb) {l : Nat} (hl : l < z 0) : Zx g zX5_lineFact [.ref 10, .int (nI l), .int (nI 3)] (hh) (some (.int (nI (mLn_ R z nb l 3)))) (hh) := by
  have hz := hL.ok
  have hzb := hL.zb
  have hk := hL.c
  have hbk := hL.b
  have hr := hL.r
  have h84 := hr.le
  have hlo := hL.lo
  have ha := hr.bd
  have hv := hr.cov
  obtain ⟨Xs, Bn, hxs, hbs, hpx, hpb⟩ := hL.x
  have h0 := hz.1
  have h1 := hz.2.1
  obtain ⟨C, V, o1, oa, o7, k0, kk⟩ := id hk
  have a0 : hh.1 12 = some (mNA 24 (C 0)) := oa 0 (by decide)
  have a1 : hh.1 13 = some (mNA 192 (C 1)) := oa 1 (by decide)
  have a2 : hh.1 14 = some (mNA 192 (C 2)) := oa 2 (by decide)
  have a3 : hh.1 15 = some (mNA 192 (C 3)) := oa 3 (by decide)
  have a4 : hh.1 16 = some (mNA 192 (C 4)) := oa 4 (by decide)
  obtain ⟨D, W, p8, pa, p17, pk⟩ := id hbk
  have e0 : hh.1 19 = some (mNA 84 (D 0)) := pa 0 (by decide)
  have e1 : hh.1 20 = some (mNA 84 (D 1)) := pa 1 (by decide)
  have e2 : hh.1 21 = some (mNA 84 (D 2)) := pa 2 (by decide)
  have e3 : hh.1 22 = some (mNA 84 (D 3)) := pa 3 (by decide)
  have e4 : hh.1 23 = some (mNA 84 (D 4)) := pa 4 (by decide)
  have e5 : hh.1 24 = some (mNA 84 (D 5)) := pa 5 (by decide)
  have e6 : hh.1 25 = some (mNA 84 (D 6)) := pa 6 (by decide)
  have e7 : hh.1 26 = some (mNA 84 (D 7)) := pa 7 (by decide)
  have hzl := hz.2.2.1 l hl
  show Zn g zX5_lineFact 0 [some (.ref 10), some (.int (nI l)), some (.int (nI 3))] [] (hh) 0 0 _
  refine zn_iload_n (pc := 0) rfl rfl ?_
  refine zn_tabOut (pc := 1) (x := nI 3) (tgt := 52) rfl (by decide +kernel) rfl ?_
  refine zn_aload_n (pc := 52) rfl rfl ?_
  refine zn_get (pc := 53) (v := .ref 11) rfl hlo rfl ?_
  refine zn_iload_n (pc := 56) rfl rfl ?_
  refine zn_callVx (pc := 57) (J := zX1_fixedLength) (o := 11) (as := [.int (nI l)]) (rest := []) rfl rfl rfl rfl o1 rfl rfl rfl (Nat.le_of_ble_eq_true rfl) (Nat.le_of_ble_eq_true rfl) (Nat.le_of_ble_eq_true rfl) (Nat.le_of_ble_eq_true rfl) (c_fixedLength hL (l := l) (by omega)) ?_
  exact zx_i (pc := 60) rfl rfl rfl rfl
theorem c_lineFact {R : Nat → Nat → Nat} {nb : Nat} (hL : LK hh 10 z R nb) {l : Nat} (hl : l < z 0) {k : Nat} (hk9 : k ≤ 3) : Zx g zX5_lineFact [.ref 10, .int (nI l), .int (nI k)] hh (some (.int (nI (mLn_ R z nb l k)))) hh := by
  match k, hk9 with
  | 0, _ => exact c_lineFact_0 hL hl
  | 1, _ => exact c_lineFact_1 hL hl
  | 2, _ => exact c_lineFact_2 hL hl
  | 3, _ => exact c_lineFact_3 hL hl
  | n + 4, q => exact absurd q (by omega)
abbrev cRoom (z : Nat → Nat) (l c : Nat) (x : Int32) : Prop := (x = nI 10 ∧ z 0 < 24) ∨ (x ≠ nI 10 ∧ x = nI 9 ∧ z (1 + l) < 8) ∨ (x ≠ nI 10 ∧ x ≠ nI 9 ∧ z (25 + 8 * l + c) < 16)
abbrev cEra (z : Nat → Nat) (l c q : Nat) : Prop := q < z (25 + 8 * l + c) ∨ (¬ q < z (25 + 8 * l + c) ∧ mE z c l ∧ z (25 + 8 * l + c) + z (25 + 8 * l + (c + 1)) ≤ 16) ∨ (¬ q < z (25 + 8 * l + c) ∧ ¬ mE z c l ∧ l + 1 < z 0 ∧ z (25 + 8 * l + c) + z (25 + 8 * (l + 1) + 0) ≤ 16 ∧ z (1 + l) + z (1 + (l + 1)) - 1 ≤ 8)
theorem c_hasRoomFor  {R : Nat → Nat → Nat} {nb : Nat} (hL : LK hh 10 z R nb) {l c : Nat} (hl : l < z 0) (hc : c < z (1 + l)) (x : Int32) : Zx g zX1_hasRoomFor [.ref 11, .int (nI l), .int (nI c), .int x] (hh) (some (.int (zb (cRoom z l c x)))) (hh) := by
  have hz := hL.ok
  have hzb := hL.zb
  have hk := hL.c
  have hbk := hL.b
  have hr := hL.r
  have h84 := hr.le
  have hlo := hL.lo
  have ha := hr.bd
  have hv := hr.cov
  obtain ⟨Xs, Bn, hxs, hbs, hpx, hpb⟩ := hL.x
  have h0 := hz.1
  have h1 := hz.2.1
  obtain ⟨C, V, o1, oa, o7, k0, kk⟩ := id hk
  have a0 : hh.1 12 = some (mNA 24 (C 0)) := oa 0 (by decide)
  have a1 : hh.1 13 = some (mNA 192 (C 1)) := oa 1 (by decide)
  have a2 : hh.1 14 = some (mNA 192 (C 2)) := oa 2 (by decide)
  have a3 : hh.1 15 = some (mNA 192 (C 3)) := oa 3 (by decide)
  have a4 : hh.1 16 = some (mNA 192 (C 4)) := oa 4 (by decide)
  obtain ⟨D, W, p8, pa, p17, pk⟩ := id hbk
  have e0 : hh.1 19 = some (mNA 84 (D 0)) := pa 0 (by decide)
  have e1 : hh.1 20 = some (mNA 84 (D 1)) := pa 1 (by decide)
  have e2 : hh.1 21 = some (mNA 84 (D 2)) := pa 2 (by decide)
  have e3 : hh.1 22 = some (mNA 84 (D 3)) := pa 3 (by decide)
  have e4 : hh.1 23 = some (mNA 84 (D 4)) := pa 4 (by decide)
  have e5 : hh.1 24 = some (mNA 84 (D 5)) := pa 5 (by decide)
  have e6 : hh.1 25 = some (mNA 84 (D 6)) := pa 6 (by decide)
  have e7 : hh.1 26 = some (mNA 84 (D 7)) := pa 7 (by decide)
  have hzl := hz.2.2.1 l hl
  have hzc := hz.2.2.2 l c hl hc
  have hp := mCell_nI hz hl hc
  show Zn g zX1_hasRoomFor 0 [some (.ref 11), some (.int (nI l)), some (.int (nI c)), some (.int x)] [] (hh) 0 0 _
  refine zn_iload_n (pc := 0) rfl rfl ?_
  refine zn_bipushN (pc := 1) 10 rfl rfl ?_
  refine zn_icmp_ne (pc := 3) (tgt := 21) (x := x) (y := (nI 10)) rfl rfl (fun c1 => ?_) (fun c1 => ?_)
  · refine zn_iload_n (pc := 21) rfl rfl ?_
    refine zn_bipushN (pc := 22) 9 rfl rfl ?_
    refine zn_icmp_ne (pc := 24) (tgt := 45) (x := x) (y := (nI 9)) rfl rfl (fun c2 => ?_) (fun c2 => ?_)
    · refine zn_aload_n (pc := 45) rfl rfl ?_
      refine zn_iload_n (pc := 46) rfl rfl ?_
      refine zn_iload_n (pc := 47) rfl rfl ?_
      refine zn_callVx (pc := 48) (J := zX1_length) (o := 11) (as := [.int (nI l), .int (nI c)]) (rest := []) rfl rfl rfl rfl o1 rfl rfl rfl (Nat.le_of_ble_eq_true rfl) (Nat.le_of_ble_eq_true rfl) (Nat.le_of_ble_eq_true rfl) (Nat.le_of_ble_eq_true rfl) (c_length_10 hz hk (l := l) (c := c) (by omega) (by omega)) ?_
      refine zn_bipushN (pc := 51) 16 rfl rfl ?_
      refine zn_icmp_geN (pc := 53) (tgt := 60) (x := (z (25 + 8 * l + c))) (y := 16) rfl rfl (by omega) (by omega) (fun c3 => ?_) (fun c3 => ?_)
      · refine zn_iconstN (pc := 60) 0 rfl rfl ?_
        exact zx_z (pc := 61) rfl rfl (by decide) (by rw [zb_f (by unfold cRoom; first | (simp_all; done) | (simp_all; omega))]; rfl) rfl
      · refine zn_iconstN (pc := 56) 1 rfl rfl ?_
        refine zn_goto (pc := 57) (tgt := 61) rfl rfl ?_
        exact zx_z (pc := 61) rfl rfl (by decide) (by rw [zb_t (by unfold cRoom; first | (simp_all; done) | (simp_all; omega))]; rfl) rfl
    · refine zn_aload_n (pc := 27) rfl rfl ?_
      refine zn_iload_n (pc := 28) rfl rfl ?_
      refine zn_callVx (pc := 29) (J := zX1_cellsOf) (o := 11) (as := [.int (nI l)]) (rest := []) rfl rfl rfl rfl o1 rfl rfl rfl (Nat.le_of_ble_eq_true rfl) (Nat.le_of_ble_eq_true rfl) (Nat.le_of_ble_eq_true rfl) (Nat.le_of_ble_eq_true rfl) (c_cellsOf_10 hz hk (l := l) (by omega)) ?_
      refine zn_bipushN (pc := 32) 8 rfl rfl ?_
      refine zn_icmp_geN (pc := 34) (tgt := 41) (x := (z (1 + l))) (y := 8) rfl rfl (by omega) (by omega) (fun c4 => ?_) (fun c4 => ?_)
      · refine zn_iconstN (pc := 41) 0 rfl rfl ?_
        refine zn_goto (pc := 42) (tgt := 61) rfl rfl ?_
        exact zx_z (pc := 61) rfl rfl (by decide) (by rw [zb_f (by unfold cRoom; first | (simp_all; done) | (simp_all; omega))]; rfl) rfl
      · refine zn_iconstN (pc := 37) 1 rfl rfl ?_
        refine zn_goto (pc := 38) (tgt := 61) rfl rfl ?_
        exact zx_z (pc := 61) rfl rfl (by decide) (by rw [zb_t (by unfold cRoom; first | (simp_all; done) | (simp_all; omega))]; rfl) rfl
  · refine zn_aload_n (pc := 6) rfl rfl ?_
    refine zn_get (pc := 7) (v := .int (nI (z 0))) rfl o1 rfl ?_
    refine zn_bipushN (pc := 10) 24 rfl rfl ?_
    refine zn_icmp_geN (pc := 12) (tgt := 19) (x := (z 0)) (y := 24) rfl rfl (by omega) (by omega) (fun c5 => ?_) (fun c5 => ?_)
    · refine zn_iconstN (pc := 19) 0 rfl rfl ?_
      exact zx_z (pc := 20) rfl rfl (by decide) (by rw [zb_f (by unfold cRoom; first | (simp_all; done) | (simp_all; omega))]; rfl) rfl
    · refine zn_iconstN (pc := 15) 1 rfl rfl ?_
      refine zn_goto (pc := 16) (tgt := 20) rfl rfl ?_
      exact zx_z (pc := 20) rfl rfl (by decide) (by rw [zb_t (by unfold cRoom; first | (simp_all; done) | (simp_all; omega))]; rfl) rfl
theorem c_canErase  {R : Nat → Nat → Nat} {nb : Nat} (hL : LK hh 10 z R nb) {l c : Nat} (hl : l < z 0) (hc : c < z (1 + l)) {q : Nat} (hq : q < 1000) : Zx g zX1_canErase [.ref 11, .int (nI l), .int (nI c), .int (nI q)] (hh) (some (.int (zb (cEra z l c q)))) (hh) := by
  have hz := hL.ok
  have hzb := hL.zb
  have hk := hL.c
  have hbk := hL.b
  have hr := hL.r
  have h84 := hr.le
  have hlo := hL.lo
  have ha := hr.bd
  have hv := hr.cov
  obtain ⟨Xs, Bn, hxs, hbs, hpx, hpb⟩ := hL.x
  have h0 := hz.1
  have h1 := hz.2.1
  obtain ⟨C, V, o1, oa, o7, k0, kk⟩ := id hk
  have a0 : hh.1 12 = some (mNA 24 (C 0)) := oa 0 (by decide)
  have a1 : hh.1 13 = some (mNA 192 (C 1)) := oa 1 (by decide)
  have a2 : hh.1 14 = some (mNA 192 (C 2)) := oa 2 (by decide)
  have a3 : hh.1 15 = some (mNA 192 (C 3)) := oa 3 (by decide)
  have a4 : hh.1 16 = some (mNA 192 (C 4)) := oa 4 (by decide)
  obtain ⟨D, W, p8, pa, p17, pk⟩ := id hbk
  have e0 : hh.1 19 = some (mNA 84 (D 0)) := pa 0 (by decide)
  have e1 : hh.1 20 = some (mNA 84 (D 1)) := pa 1 (by decide)
  have e2 : hh.1 21 = some (mNA 84 (D 2)) := pa 2 (by decide)
  have e3 : hh.1 22 = some (mNA 84 (D 3)) := pa 3 (by decide)
  have e4 : hh.1 23 = some (mNA 84 (D 4)) := pa 4 (by decide)
  have e5 : hh.1 24 = some (mNA 84 (D 5)) := pa 5 (by decide)
  have e6 : hh.1 25 = some (mNA 84 (D 6)) := pa 6 (by decide)
  have e7 : hh.1 26 = some (mNA 84 (D 7)) := pa 7 (by decide)
  have hzl := hz.2.2.1 l hl
  have hzc := hz.2.2.2 l c hl hc
  have hp := mCell_nI hz hl hc
  show Zn g zX1_canErase 0 [some (.ref 11), some (.int (nI l)), some (.int (nI c)), some (.int (nI q)), none] [] (hh) 0 0 _
  refine zn_aload_n (pc := 0) rfl rfl ?_
  refine zn_iload_n (pc := 1) rfl rfl ?_
  refine zn_iload_n (pc := 2) rfl rfl ?_
  refine zn_callVx (pc := 3) (J := zX1_length) (o := 11) (as := [.int (nI l), .int (nI c)]) (rest := []) rfl rfl rfl rfl o1 rfl rfl rfl (Nat.le_of_ble_eq_true rfl) (Nat.le_of_ble_eq_true rfl) (Nat.le_of_ble_eq_true rfl) (Nat.le_of_ble_eq_true rfl) (c_length_10 hz hk (l := l) (c := c) (by omega) (by omega)) ?_
  refine zn_istore (pc := 6) (L' := [some (.ref 11), some (.int (nI l)), some (.int (nI c)), some (.int (nI q)), some (.int (nI (z (25 + 8 * l + c))))]) rfl (by decide) rfl ?_
  refine zn_iload_n (pc := 8) rfl rfl ?_
  refine zn_iload (pc := 9) rfl rfl ?_
  refine zn_icmp_geN (pc := 11) (tgt := 16) (x := q) (y := (z (25 + 8 * l + c))) rfl rfl (by omega) (by omega) (fun c1 => ?_) (fun c1 => ?_)
  · refine zn_aload_n (pc := 16) rfl rfl ?_
    refine zn_iload_n (pc := 17) rfl rfl ?_
    refine zn_iload_n (pc := 18) rfl rfl ?_
    refine zn_callVx (pc := 19) (J := zX1_endsWithTab) (o := 11) (as := [.int (nI l), .int (nI c)]) (rest := []) rfl rfl rfl rfl o1 rfl rfl rfl (Nat.le_of_ble_eq_true rfl) (Nat.le_of_ble_eq_true rfl) (Nat.le_of_ble_eq_true rfl) (Nat.le_of_ble_eq_true rfl) (c_endsN_10 hz hk (l := l) (c := c) (by omega) (by omega)) ?_
    refine zn_if_eqB (pc := 22) (tgt := 47) rfl rfl (fun c2 => ?_) (fun c2 => ?_)
    · refine zn_aload_n (pc := 47) rfl rfl ?_
      refine zn_iload_n (pc := 48) rfl rfl ?_
      refine zn_iconstN (pc := 49) 1 rfl rfl ?_
      refine zn_iaddN (pc := 50) (x := l) (y := 1) rfl ?_
      refine zn_callVx (pc := 51) (J := zX1_hasLine) (o := 11) (as := [.int (nI (l + 1))]) (rest := []) rfl rfl rfl rfl o1 rfl rfl rfl (Nat.le_of_ble_eq_true rfl) (Nat.le_of_ble_eq_true rfl) (Nat.le_of_ble_eq_true rfl) (Nat.le_of_ble_eq_true rfl) (c_hasLine_10 hz hk (nI (l + 1))) ?_
      refine zn_if_eqB (pc := 54) (tgt := 97) rfl rfl (fun c3 => ?_) (fun c3 => ?_)
      · have hl1 : ¬ l + 1 < z 0 := fun q9 => c3 ((zin_nI (by omega)).mpr q9)
        refine zn_iconstN (pc := 97) 0 rfl rfl ?_
        exact zx_z (pc := 98) rfl rfl (by decide) (by rw [zb_f (by unfold cEra; first | omega | (simp_all; done) | (simp_all; omega))]; rfl) rfl
      · have hl1 : l + 1 < z 0 := (zin_nI (by omega)).mp c3
        have hz10 := hz.2.2.1 (l + 1) hl1
        have hz11 := hz.2.2.2 (l + 1) 0 hl1 (by omega)
        refine zn_iload (pc := 57) rfl rfl ?_
        refine zn_aload_n (pc := 59) rfl rfl ?_
        refine zn_iload_n (pc := 60) rfl rfl ?_
        refine zn_iconstN (pc := 61) 1 rfl rfl ?_
        refine zn_iaddN (pc := 62) (x := l) (y := 1) rfl ?_
        refine zn_iconstN (pc := 63) 0 rfl rfl ?_
        refine zn_callVx (pc := 64) (J := zX1_length) (o := 11) (as := [.int (nI (l + 1)), .int (nI 0)]) (rest := [.int (nI (z (25 + 8 * l + c)))]) rfl rfl rfl rfl o1 rfl rfl rfl (Nat.le_of_ble_eq_true rfl) (Nat.le_of_ble_eq_true rfl) (Nat.le_of_ble_eq_true rfl) (Nat.le_of_ble_eq_true rfl) (c_length_10 hz hk (l := (l + 1)) (c := 0) (by omega) (by omega)) ?_
        refine zn_iaddN (pc := 67) (x := (z (25 + 8 * l + c))) (y := (z (25 + 8 * (l + 1) + 0))) rfl ?_
        refine zn_bipushN (pc := 68) 16 rfl rfl ?_
        refine zn_icmp_gtN (pc := 70) (tgt := 97) (x := ((z (25 + 8 * l + c)) + (z (25 + 8 * (l + 1) + 0)))) (y := 16) rfl rfl (by omega) (by omega) (fun c4 => ?_) (fun c4 => ?_)
        · refine zn_iconstN (pc := 97) 0 rfl rfl ?_
          exact zx_z (pc := 98) rfl rfl (by decide) (by rw [zb_f (by unfold cEra; first | omega | (simp_all; done) | (simp_all; omega))]; rfl) rfl
        · refine zn_aload_n (pc := 73) rfl rfl ?_
          refine zn_iload_n (pc := 74) rfl rfl ?_
          refine zn_callVx (pc := 75) (J := zX1_cellsOf) (o := 11) (as := [.int (nI l)]) (rest := []) rfl rfl rfl rfl o1 rfl rfl rfl (Nat.le_of_ble_eq_true rfl) (Nat.le_of_ble_eq_true rfl) (Nat.le_of_ble_eq_true rfl) (Nat.le_of_ble_eq_true rfl) (c_cellsOf_10 hz hk (l := l) (by omega)) ?_
          refine zn_aload_n (pc := 78) rfl rfl ?_
          refine zn_iload_n (pc := 79) rfl rfl ?_
          refine zn_iconstN (pc := 80) 1 rfl rfl ?_
          refine zn_iaddN (pc := 81) (x := l) (y := 1) rfl ?_
          refine zn_callVx (pc := 82) (J := zX1_cellsOf) (o := 11) (as := [.int (nI (l + 1))]) (rest := [.int (nI (z (1 + l)))]) rfl rfl rfl rfl o1 rfl rfl rfl (Nat.le_of_ble_eq_true rfl) (Nat.le_of_ble_eq_true rfl) (Nat.le_of_ble_eq_true rfl) (Nat.le_of_ble_eq_true rfl) (c_cellsOf_10 hz hk (l := (l + 1)) (by omega)) ?_
          refine zn_iaddN (pc := 85) (x := (z (1 + l))) (y := (z (1 + (l + 1)))) rfl ?_
          refine zn_iconstN (pc := 86) 1 rfl rfl ?_
          refine zn_isubN (pc := 87) (x := ((z (1 + l)) + (z (1 + (l + 1))))) (y := 1) rfl (by omega) ?_
          refine zn_bipushN (pc := 88) 8 rfl rfl ?_
          refine zn_icmp_gtN (pc := 90) (tgt := 97) (x := (((z (1 + l)) + (z (1 + (l + 1)))) - 1)) (y := 8) rfl rfl (by omega) (by omega) (fun c5 => ?_) (fun c5 => ?_)
          · refine zn_iconstN (pc := 97) 0 rfl rfl ?_
            exact zx_z (pc := 98) rfl rfl (by decide) (by rw [zb_f (by unfold cEra; first | omega | (simp_all; done) | (simp_all; omega))]; rfl) rfl
          · refine zn_iconstN (pc := 93) 1 rfl rfl ?_
            refine zn_goto (pc := 94) (tgt := 98) rfl rfl ?_
            exact zx_z (pc := 98) rfl rfl (by decide) (by rw [zb_t (by unfold cEra; first | omega | (simp_all; done) | (simp_all; omega))]; rfl) rfl
    · have hc1 := (c2).2
      have hz9 := hz.2.2.2 l (c + 1) hl hc1
      refine zn_iload (pc := 25) rfl rfl ?_
      refine zn_aload_n (pc := 27) rfl rfl ?_
      refine zn_iload_n (pc := 28) rfl rfl ?_
      refine zn_iload_n (pc := 29) rfl rfl ?_
      refine zn_iconstN (pc := 30) 1 rfl rfl ?_
      refine zn_iaddN (pc := 31) (x := c) (y := 1) rfl ?_
      refine zn_callVx (pc := 32) (J := zX1_length) (o := 11) (as := [.int (nI l), .int (nI (c + 1))]) (rest := [.int (nI (z (25 + 8 * l + c)))]) rfl rfl rfl rfl o1 rfl rfl rfl (Nat.le_of_ble_eq_true rfl) (Nat.le_of_ble_eq_true rfl) (Nat.le_of_ble_eq_true rfl) (Nat.le_of_ble_eq_true rfl) (c_length_10 hz hk (l := l) (c := (c + 1)) (by omega) (by omega)) ?_
      refine zn_iaddN (pc := 35) (x := (z (25 + 8 * l + c))) (y := (z (25 + 8 * l + (c + 1)))) rfl ?_
      refine zn_bipushN (pc := 36) 16 rfl rfl ?_
      refine zn_icmp_gtN (pc := 38) (tgt := 45) (x := ((z (25 + 8 * l + c)) + (z (25 + 8 * l + (c + 1))))) (y := 16) rfl rfl (by omega) (by omega) (fun c6 => ?_) (fun c6 => ?_)
      · refine zn_iconstN (pc := 45) 0 rfl rfl ?_
        exact zx_z (pc := 46) rfl rfl (by decide) (by rw [zb_f (by unfold cEra; first | omega | (simp_all; done) | (simp_all; omega))]; rfl) rfl
      · refine zn_iconstN (pc := 41) 1 rfl rfl ?_
        refine zn_goto (pc := 42) (tgt := 46) rfl rfl ?_
        exact zx_z (pc := 46) rfl rfl (by decide) (by rw [zb_t (by unfold cEra; first | omega | (simp_all; done) | (simp_all; omega))]; rfl) rfl
  · refine zn_iconstN (pc := 14) 1 rfl rfl ?_
    exact zx_z (pc := 15) rfl rfl (by decide) (by rw [zb_t (by unfold cEra; first | omega | (simp_all; done) | (simp_all; omega))]; rfl) rfl
theorem c_hasFullLine_l {R : Nat → Nat → Nat} {nb : Nat} (hL : LK hh 10 z R nb) {f t : Nat} (ht : t < z 0) : ∀ (n : Nat) (l : Nat), l + n = t + 1 → f ≤ l → bRoom z f l → Zn g zX1_hasFullLine 2 [some (.ref 11), some (.int (nI f)), some (.int (nI t)), some (.int (nI l))] [] (hh) 0 0 (fun r' h' => r' = .inl (some (.int (zb (¬ bRoom z f (t + 1))))) ∧ h' = (hh)) := by
  intro n
  induction n with
  | zero =>
    intro l hn0 hn1 hn2
    have hz := hL.ok
    have hzb := hL.zb
    have hk := hL.c
    have hbk := hL.b
    have hr := hL.r
    have h84 := hr.le
    have hlo := hL.lo
    have ha := hr.bd
    have hv := hr.cov
    obtain ⟨Xs, Bn, hxs, hbs, hpx, hpb⟩ := hL.x
    have h0 := hz.1
    have h1 := hz.2.1
    obtain ⟨C, V, o1, oa, o7, k0, kk⟩ := id hk
    have a0 : hh.1 12 = some (mNA 24 (C 0)) := oa 0 (by decide)
    have a1 : hh.1 13 = some (mNA 192 (C 1)) := oa 1 (by decide)
    have a2 : hh.1 14 = some (mNA 192 (C 2)) := oa 2 (by decide)
    have a3 : hh.1 15 = some (mNA 192 (C 3)) := oa 3 (by decide)
    have a4 : hh.1 16 = some (mNA 192 (C 4)) := oa 4 (by decide)
    obtain ⟨D, W, p8, pa, p17, pk⟩ := id hbk
    have e0 : hh.1 19 = some (mNA 84 (D 0)) := pa 0 (by decide)
    have e1 : hh.1 20 = some (mNA 84 (D 1)) := pa 1 (by decide)
    have e2 : hh.1 21 = some (mNA 84 (D 2)) := pa 2 (by decide)
    have e3 : hh.1 22 = some (mNA 84 (D 3)) := pa 3 (by decide)
    have e4 : hh.1 23 = some (mNA 84 (D 4)) := pa 4 (by decide)
    have e5 : hh.1 24 = some (mNA 84 (D 5)) := pa 5 (by decide)
    have e6 : hh.1 25 = some (mNA 84 (D 6)) := pa 6 (by decide)
    have e7 : hh.1 26 = some (mNA 84 (D 7)) := pa 7 (by decide)
    refine zn_iload_n (pc := 2) rfl rfl ?_
    refine zn_iload_n (pc := 3) rfl rfl ?_
    refine zn_icmp_gtN (pc := 4) (tgt := 25) (x := l) (y := t) rfl rfl (by omega) (by omega) (fun c1 => ?_) (fun c1 => ?_)
    · refine zn_iconstN (pc := 25) 0 rfl rfl ?_
      have e8 : l = t + 1 := by omega
      rw [e8] at hn2
      exact zx_z (pc := 26) rfl rfl (by decide) (by rw [zb_f (show ¬ ¬ bRoom z f (t + 1) from fun q9 => q9 hn2)]; rfl) rfl
    · exfalso; omega
  | succ n ih =>
    intro l hn0 hn1 hn2
    have hz := hL.ok
    have hzb := hL.zb
    have hk := hL.c
    have hbk := hL.b
    have hr := hL.r
    have h84 := hr.le
    have hlo := hL.lo
    have ha := hr.bd
    have hv := hr.cov
    obtain ⟨Xs, Bn, hxs, hbs, hpx, hpb⟩ := hL.x
    have h0 := hz.1
    have h1 := hz.2.1
    obtain ⟨C, V, o1, oa, o7, k0, kk⟩ := id hk
    have a0 : hh.1 12 = some (mNA 24 (C 0)) := oa 0 (by decide)
    have a1 : hh.1 13 = some (mNA 192 (C 1)) := oa 1 (by decide)
    have a2 : hh.1 14 = some (mNA 192 (C 2)) := oa 2 (by decide)
    have a3 : hh.1 15 = some (mNA 192 (C 3)) := oa 3 (by decide)
    have a4 : hh.1 16 = some (mNA 192 (C 4)) := oa 4 (by decide)
    obtain ⟨D, W, p8, pa, p17, pk⟩ := id hbk
    have e0 : hh.1 19 = some (mNA 84 (D 0)) := pa 0 (by decide)
    have e1 : hh.1 20 = some (mNA 84 (D 1)) := pa 1 (by decide)
    have e2 : hh.1 21 = some (mNA 84 (D 2)) := pa 2 (by decide)
    have e3 : hh.1 22 = some (mNA 84 (D 3)) := pa 3 (by decide)
    have e4 : hh.1 23 = some (mNA 84 (D 4)) := pa 4 (by decide)
    have e5 : hh.1 24 = some (mNA 84 (D 5)) := pa 5 (by decide)
    have e6 : hh.1 25 = some (mNA 84 (D 6)) := pa 6 (by decide)
    have e7 : hh.1 26 = some (mNA 84 (D 7)) := pa 7 (by decide)
    refine zn_iload_n (pc := 2) rfl rfl ?_
    refine zn_iload_n (pc := 3) rfl rfl ?_
    refine zn_icmp_gtN (pc := 4) (tgt := 25) (x := l) (y := t) rfl rfl (by omega) (by omega) (fun c1 => ?_) (fun c1 => ?_)
    · refine zn_iconstN (pc := 25) 0 rfl rfl ?_
      have e8 : l = t + 1 := by omega
      rw [e8] at hn2
      exact zx_z (pc := 26) rfl rfl (by decide) (by rw [zb_f (show ¬ ¬ bRoom z f (t + 1) from fun q9 => q9 hn2)]; rfl) rfl
    · have hzl := hz.2.2.1 l (by omega)
      refine zn_aload_n (pc := 7) rfl rfl ?_
      refine zn_iload_n (pc := 8) rfl rfl ?_
      refine zn_callVx (pc := 9) (J := zX1_cellsOf) (o := 11) (as := [.int (nI l)]) (rest := []) rfl rfl rfl rfl o1 rfl rfl rfl (Nat.le_of_ble_eq_true rfl) (Nat.le_of_ble_eq_true rfl) (Nat.le_of_ble_eq_true rfl) (Nat.le_of_ble_eq_true rfl) (c_cellsOf_10 hz hk (l := l) (by omega)) ?_
      refine zn_bipushN (pc := 12) 8 rfl rfl ?_
      refine zn_icmp_ltN (pc := 14) (tgt := 19) (x := (z (1 + l))) (y := 8) rfl rfl (by omega) (by omega) (fun c2 => ?_) (fun c2 => ?_)
      · refine zn_iincN (pc := 19) (L' := [some (.ref 11), some (.int (nI f)), some (.int (nI t)), some (.int (nI (l + 1)))]) 1 rfl rfl rfl (by decide) rfl ?_
        refine zn_goto (pc := 22) (tgt := 2) rfl rfl ?_
        exact ih (l + 1) (by omega) (by omega) ((bRoom_s hn1).mpr ⟨hn2, by omega⟩)
      · refine zn_iconstN (pc := 17) 1 rfl rfl ?_
        exact zx_z (pc := 18) rfl rfl (by decide) (by rw [zb_t (show ¬ bRoom z f (t + 1) from fun q9 => absurd (q9 l (by omega) hn1) (by omega))]; rfl) rfl
theorem c_hasFullLine  {R : Nat → Nat → Nat} {nb : Nat} (hL : LK hh 10 z R nb) {f t : Nat} (ht : t < z 0) (hft : f ≤ t) : Zx g zX1_hasFullLine [.ref 11, .int (nI f), .int (nI t)] (hh) (some (.int (zb (¬ bRoom z f (t + 1))))) (hh) := by
  show Zn g zX1_hasFullLine 0 [some (.ref 11), some (.int (nI f)), some (.int (nI t)), none] [] (hh) 0 0 _
  refine zn_iload_n (pc := 0) rfl rfl ?_
  refine zn_istore_n (pc := 1) (L' := [some (.ref 11), some (.int (nI f)), some (.int (nI t)), some (.int (nI f))]) rfl (by decide) rfl ?_
  exact c_hasFullLine_l hL ht (t + 1 - f) f (by omega) (by omega) (fun l q1 q2 => absurd q1 (by omega))
theorem c_fact_0  {R : Nat → Nat → Nat} {nb : Nat} (hL : LK hh 10 z R nb) {b : Nat} (hb : b < nb) : Zx g zX0_fact [.ref 18, .int (nI b), .int (nI 0)] (hh) (some (.int (nI (mBn R z b (R 6 b) (R 7 b) (R 8 b) 0)))) (hh) := by
  have hz := hL.ok
  have hzb := hL.zb
  have hk := hL.c
  have hbk := hL.b
  have hr := hL.r
  have h84 := hr.le
  have hlo := hL.lo
  have ha := hr.bd
  have hv := hr.cov
  obtain ⟨Xs, Bn, hxs, hbs, hpx, hpb⟩ := hL.x
  have h0 := hz.1
  have h1 := hz.2.1
  obtain ⟨C, V, o1, oa, o7, k0, kk⟩ := id hk
  have a0 : hh.1 12 = some (mNA 24 (C 0)) := oa 0 (by decide)
  have a1 : hh.1 13 = some (mNA 192 (C 1)) := oa 1 (by decide)
  have a2 : hh.1 14 = some (mNA 192 (C 2)) := oa 2 (by decide)
  have a3 : hh.1 15 = some (mNA 192 (C 3)) := oa 3 (by decide)
  have a4 : hh.1 16 = some (mNA 192 (C 4)) := oa 4 (by decide)
  obtain ⟨D, W, p8, pa, p17, pk⟩ := id hbk
  have e0 : hh.1 19 = some (mNA 84 (D 0)) := pa 0 (by decide)
  have e1 : hh.1 20 = some (mNA 84 (D 1)) := pa 1 (by decide)
  have e2 : hh.1 21 = some (mNA 84 (D 2)) := pa 2 (by decide)
  have e3 : hh.1 22 = some (mNA 84 (D 3)) := pa 3 (by decide)
  have e4 : hh.1 23 = some (mNA 84 (D 4)) := pa 4 (by decide)
  have e5 : hh.1 24 = some (mNA 84 (D 5)) := pa 5 (by decide)
  have e6 : hh.1 25 = some (mNA 84 (D 6)) := pa 6 (by decide)
  have e7 : hh.1 26 = some (mNA 84 (D 7)) := pa 7 (by decide)
  have hib : zin (nI b) nb := (zin_nI (by omega)).mpr hb
  obtain ⟨y0, y1, y2, y3, y4, y5, y6, y7, y8⟩ := pk b hb
  show Zn g zX0_fact 0 [some (.ref 18), some (.int (nI b)), some (.int (nI 0))] [] (hh) 0 0 _
  refine zn_aload_n (pc := 0) rfl rfl ?_
  refine zn_iload_n (pc := 1) rfl rfl ?_
  refine zn_callVx (pc := 2) (J := zX0_has) (o := 18) (as := [.int (nI b)]) (rest := []) rfl rfl rfl rfl p8 rfl rfl rfl (Nat.le_of_ble_eq_true rfl) (Nat.le_of_ble_eq_true rfl) (Nat.le_of_ble_eq_true rfl) (Nat.le_of_ble_eq_true rfl) (c_has_10 hbk h84 (nI b)) ?_
  refine zn_if_neB (pc := 5) (tgt := 10) rfl rfl (fun c1 => ?_) (fun c1 => ?_)
  · refine zn_iload_n (pc := 10) rfl rfl ?_
    refine zn_tabIn (pc := 11) (x := nI 0) (off := 41) (tgt := 52) rfl (by decide +kernel) (by decide +kernel) (by rw [show (nI 0).toInt = 0 by decide +kernel]; rfl) rfl ?_
    refine zn_aload_n (pc := 52) rfl rfl ?_
    refine zn_get (pc := 53) (v := .ref 19) rfl p8 rfl ?_
    refine zn_iload_n (pc := 56) rfl rfl ?_
    refine zn_naLd (pc := 57) (o := 19) (n := 84) (Z := (D 0)) (j := b) rfl e0 (by omega) (Nat.le_of_ble_eq_true rfl) ?_
    refine zn_top (v' := .int (nI (R 6 b))) (by rw [y0]) ?_
    exact zx_i (pc := 58) rfl rfl rfl rfl
  · exact absurd hib c1
theorem c_fact_1  {R : Nat → Nat → Nat} {nb : Nat} (hL : LK hh 10 z R nb) {b : Nat} (hb : b < nb) : Zx g zX0_fact [.ref 18, .int (nI b), .int (nI 1)] (hh) (some (.int (nI (mBn R z b (R 6 b) (R 7 b) (R 8 b) 1)))) (hh) := by
  have hz := hL.ok
  have hzb := hL.zb
  have hk := hL.c
  have hbk := hL.b
  have hr := hL.r
  have h84 := hr.le
  have hlo := hL.lo
  have ha := hr.bd
  have hv := hr.cov
  obtain ⟨Xs, Bn, hxs, hbs, hpx, hpb⟩ := hL.x
  have h0 := hz.1
  have h1 := hz.2.1
  obtain ⟨C, V, o1, oa, o7, k0, kk⟩ := id hk
  have a0 : hh.1 12 = some (mNA 24 (C 0)) := oa 0 (by decide)
  have a1 : hh.1 13 = some (mNA 192 (C 1)) := oa 1 (by decide)
  have a2 : hh.1 14 = some (mNA 192 (C 2)) := oa 2 (by decide)
  have a3 : hh.1 15 = some (mNA 192 (C 3)) := oa 3 (by decide)
  have a4 : hh.1 16 = some (mNA 192 (C 4)) := oa 4 (by decide)
  obtain ⟨D, W, p8, pa, p17, pk⟩ := id hbk
  have e0 : hh.1 19 = some (mNA 84 (D 0)) := pa 0 (by decide)
  have e1 : hh.1 20 = some (mNA 84 (D 1)) := pa 1 (by decide)
  have e2 : hh.1 21 = some (mNA 84 (D 2)) := pa 2 (by decide)
  have e3 : hh.1 22 = some (mNA 84 (D 3)) := pa 3 (by decide)
  have e4 : hh.1 23 = some (mNA 84 (D 4)) := pa 4 (by decide)
  have e5 : hh.1 24 = some (mNA 84 (D 5)) := pa 5 (by decide)
  have e6 : hh.1 25 = some (mNA 84 (D 6)) := pa 6 (by decide)
  have e7 : hh.1 26 = some (mNA 84 (D 7)) := pa 7 (by decide)
  have hib : zin (nI b) nb := (zin_nI (by omega)).mpr hb
  obtain ⟨y0, y1, y2, y3, y4, y5, y6, y7, y8⟩ := pk b hb
  show Zn g zX0_fact 0 [some (.ref 18), some (.int (nI b)), some (.int (nI 1))] [] (hh) 0 0 _
  refine zn_aload_n (pc := 0) rfl rfl ?_
  refine zn_iload_n (pc := 1) rfl rfl ?_
  refine zn_callVx (pc := 2) (J := zX0_has) (o := 18) (as := [.int (nI b)]) (rest := []) rfl rfl rfl rfl p8 rfl rfl rfl (Nat.le_of_ble_eq_true rfl) (Nat.le_of_ble_eq_true rfl) (Nat.le_of_ble_eq_true rfl) (Nat.le_of_ble_eq_true rfl) (c_has_10 hbk h84 (nI b)) ?_
  refine zn_if_neB (pc := 5) (tgt := 10) rfl rfl (fun c1 => ?_) (fun c1 => ?_)
  · refine zn_iload_n (pc := 10) rfl rfl ?_
    refine zn_tabIn (pc := 11) (x := nI 1) (off := 48) (tgt := 59) rfl (by decide +kernel) (by decide +kernel) (by rw [show (nI 1).toInt = 1 by decide +kernel]; rfl) rfl ?_
    refine zn_aload_n (pc := 59) rfl rfl ?_
    refine zn_get (pc := 60) (v := .ref 20) rfl p8 rfl ?_
    refine zn_iload_n (pc := 63) rfl rfl ?_
    refine zn_naLd (pc := 64) (o := 20) (n := 84) (Z := (D 1)) (j := b) rfl e1 (by omega) (Nat.le_of_ble_eq_true rfl) ?_
    refine zn_top (v' := .int (nI (R 7 b))) (by rw [y1]) ?_
    exact zx_i (pc := 65) rfl rfl rfl rfl
  · exact absurd hib c1
theorem c_fact_2  {R : Nat → Nat → Nat} {nb : Nat} (hL : LK hh 10 z R nb) {b : Nat} (hb : b < nb) : Zx g zX0_fact [.ref 18, .int (nI b), .int (nI 2)] (hh) (some (.int (nI (mBn R z b (R 6 b) (R 7 b) (R 8 b) 2)))) (hh) := by
  have hz := hL.ok
  have hzb := hL.zb
  have hk := hL.c
  have hbk := hL.b
  have hr := hL.r
  have h84 := hr.le
  have hlo := hL.lo
  have ha := hr.bd
  have hv := hr.cov
  obtain ⟨Xs, Bn, hxs, hbs, hpx, hpb⟩ := hL.x
  have h0 := hz.1
  have h1 := hz.2.1
  obtain ⟨C, V, o1, oa, o7, k0, kk⟩ := id hk
  have a0 : hh.1 12 = some (mNA 24 (C 0)) := oa 0 (by decide)
  have a1 : hh.1 13 = some (mNA 192 (C 1)) := oa 1 (by decide)
  have a2 : hh.1 14 = some (mNA 192 (C 2)) := oa 2 (by decide)
  have a3 : hh.1 15 = some (mNA 192 (C 3)) := oa 3 (by decide)
  have a4 : hh.1 16 = some (mNA 192 (C 4)) := oa 4 (by decide)
  obtain ⟨D, W, p8, pa, p17, pk⟩ := id hbk
  have e0 : hh.1 19 = some (mNA 84 (D 0)) := pa 0 (by decide)
  have e1 : hh.1 20 = some (mNA 84 (D 1)) := pa 1 (by decide)
  have e2 : hh.1 21 = some (mNA 84 (D 2)) := pa 2 (by decide)
  have e3 : hh.1 22 = some (mNA 84 (D 3)) := pa 3 (by decide)
  have e4 : hh.1 23 = some (mNA 84 (D 4)) := pa 4 (by decide)
  have e5 : hh.1 24 = some (mNA 84 (D 5)) := pa 5 (by decide)
  have e6 : hh.1 25 = some (mNA 84 (D 6)) := pa 6 (by decide)
  have e7 : hh.1 26 = some (mNA 84 (D 7)) := pa 7 (by decide)
  have hib : zin (nI b) nb := (zin_nI (by omega)).mpr hb
  obtain ⟨y0, y1, y2, y3, y4, y5, y6, y7, y8⟩ := pk b hb
  show Zn g zX0_fact 0 [some (.ref 18), some (.int (nI b)), some (.int (nI 2))] [] (hh) 0 0 _
  refine zn_aload_n (pc := 0) rfl rfl ?_
  refine zn_iload_n (pc := 1) rfl rfl ?_
  refine zn_callVx (pc := 2) (J := zX0_has) (o := 18) (as := [.int (nI b)]) (rest := []) rfl rfl rfl rfl p8 rfl rfl rfl (Nat.le_of_ble_eq_true rfl) (Nat.le_of_ble_eq_true rfl) (Nat.le_of_ble_eq_true rfl) (Nat.le_of_ble_eq_true rfl) (c_has_10 hbk h84 (nI b)) ?_
  refine zn_if_neB (pc := 5) (tgt := 10) rfl rfl (fun c1 => ?_) (fun c1 => ?_)
  · refine zn_iload_n (pc := 10) rfl rfl ?_
    refine zn_tabIn (pc := 11) (x := nI 2) (off := 55) (tgt := 66) rfl (by decide +kernel) (by decide +kernel) (by rw [show (nI 2).toInt = 2 by decide +kernel]; rfl) rfl ?_
    refine zn_aload_n (pc := 66) rfl rfl ?_
    refine zn_get (pc := 67) (v := .ref 21) rfl p8 rfl ?_
    refine zn_iload_n (pc := 70) rfl rfl ?_
    refine zn_naLd (pc := 71) (o := 21) (n := 84) (Z := (D 2)) (j := b) rfl e2 (by omega) (Nat.le_of_ble_eq_true rfl) ?_
    refine zn_top (v' := .int (nI (R 8 b))) (by rw [y2]) ?_
    exact zx_i (pc := 72) rfl rfl rfl rfl
  · exact absurd hib c1
theorem c_fact_3  {R : Nat → Nat → Nat} {nb : Nat} (hL : LK hh 10 z R nb) {b : Nat} (hb : b < nb) : Zx g zX0_fact [.ref 18, .int (nI b), .int (nI 3)] (hh) (some (.int (nI (mBn R z b (R 6 b) (R 7 b) (R 8 b) 3)))) (hh) := by
  have hz := hL.ok
  have hzb := hL.zb
  have hk := hL.c
  have hbk := hL.b
  have hr := hL.r
  have h84 := hr.le
  have hlo := hL.lo
  have ha := hr.bd
  have hv := hr.cov
  obtain ⟨Xs, Bn, hxs, hbs, hpx, hpb⟩ := hL.x
  have h0 := hz.1
  have h1 := hz.2.1
  obtain ⟨C, V, o1, oa, o7, k0, kk⟩ := id hk
  have a0 : hh.1 12 = some (mNA 24 (C 0)) := oa 0 (by decide)
  have a1 : hh.1 13 = some (mNA 192 (C 1)) := oa 1 (by decide)
  have a2 : hh.1 14 = some (mNA 192 (C 2)) := oa 2 (by decide)
  have a3 : hh.1 15 = some (mNA 192 (C 3)) := oa 3 (by decide)
  have a4 : hh.1 16 = some (mNA 192 (C 4)) := oa 4 (by decide)
  obtain ⟨D, W, p8, pa, p17, pk⟩ := id hbk
  have e0 : hh.1 19 = some (mNA 84 (D 0)) := pa 0 (by decide)
  have e1 : hh.1 20 = some (mNA 84 (D 1)) := pa 1 (by decide)
  have e2 : hh.1 21 = some (mNA 84 (D 2)) := pa 2 (by decide)
  have e3 : hh.1 22 = some (mNA 84 (D 3)) := pa 3 (by decide)
  have e4 : hh.1 23 = some (mNA 84 (D 4)) := pa 4 (by decide)
  have e5 : hh.1 24 = some (mNA 84 (D 5)) := pa 5 (by decide)
  have e6 : hh.1 25 = some (mNA 84 (D 6)) := pa 6 (by decide)
  have e7 : hh.1 26 = some (mNA 84 (D 7)) := pa 7 (by decide)
  have hib : zin (nI b) nb := (zin_nI (by omega)).mpr hb
  obtain ⟨y0, y1, y2, y3, y4, y5, y6, y7, y8⟩ := pk b hb
  show Zn g zX0_fact 0 [some (.ref 18), some (.int (nI b)), some (.int (nI 3))] [] (hh) 0 0 _
  refine zn_aload_n (pc := 0) rfl rfl ?_
  refine zn_iload_n (pc := 1) rfl rfl ?_
  refine zn_callVx (pc := 2) (J := zX0_has) (o := 18) (as := [.int (nI b)]) (rest := []) rfl rfl rfl rfl p8 rfl rfl rfl (Nat.le_of_ble_eq_true rfl) (Nat.le_of_ble_eq_true rfl) (Nat.le_of_ble_eq_true rfl) (Nat.le_of_ble_eq_true rfl) (c_has_10 hbk h84 (nI b)) ?_
  refine zn_if_neB (pc := 5) (tgt := 10) rfl rfl (fun c1 => ?_) (fun c1 => ?_)
  · refine zn_iload_n (pc := 10) rfl rfl ?_
    refine zn_tabIn (pc := 11) (x := nI 3) (off := 62) (tgt := 73) rfl (by decide +kernel) (by decide +kernel) (by rw [show (nI 3).toInt = 3 by decide +kernel]; rfl) rfl ?_
    refine zn_aload_n (pc := 73) rfl rfl ?_
    refine zn_get (pc := 74) (v := .ref 22) rfl p8 rfl ?_
    refine zn_iload_n (pc := 77) rfl rfl ?_
    refine zn_naLd (pc := 78) (o := 22) (n := 84) (Z := (D 3)) (j := b) rfl e3 (by omega) (Nat.le_of_ble_eq_true rfl) ?_
    refine zn_top (v' := .int (nI (R 12 b))) (by rw [y3]) ?_
    exact zx_i (pc := 79) rfl rfl rfl rfl
  · exact absurd hib c1
theorem c_fact_4  {R : Nat → Nat → Nat} {nb : Nat} (hL : LK hh 10 z R nb) {b : Nat} (hb : b < nb) : Zx g zX0_fact [.ref 18, .int (nI b), .int (nI 4)] (hh) (some (.int (nI (mBn R z b (R 6 b) (R 7 b) (R 8 b) 4)))) (hh) := by
  have hz := hL.ok
  have hzb := hL.zb
  have hk := hL.c
  have hbk := hL.b
  have hr := hL.r
  have h84 := hr.le
  have hlo := hL.lo
  have ha := hr.bd
  have hv := hr.cov
  obtain ⟨Xs, Bn, hxs, hbs, hpx, hpb⟩ := hL.x
  have h0 := hz.1
  have h1 := hz.2.1
  obtain ⟨C, V, o1, oa, o7, k0, kk⟩ := id hk
  have a0 : hh.1 12 = some (mNA 24 (C 0)) := oa 0 (by decide)
  have a1 : hh.1 13 = some (mNA 192 (C 1)) := oa 1 (by decide)
  have a2 : hh.1 14 = some (mNA 192 (C 2)) := oa 2 (by decide)
  have a3 : hh.1 15 = some (mNA 192 (C 3)) := oa 3 (by decide)
  have a4 : hh.1 16 = some (mNA 192 (C 4)) := oa 4 (by decide)
  obtain ⟨D, W, p8, pa, p17, pk⟩ := id hbk
  have e0 : hh.1 19 = some (mNA 84 (D 0)) := pa 0 (by decide)
  have e1 : hh.1 20 = some (mNA 84 (D 1)) := pa 1 (by decide)
  have e2 : hh.1 21 = some (mNA 84 (D 2)) := pa 2 (by decide)
  have e3 : hh.1 22 = some (mNA 84 (D 3)) := pa 3 (by decide)
  have e4 : hh.1 23 = some (mNA 84 (D 4)) := pa 4 (by decide)
  have e5 : hh.1 24 = some (mNA 84 (D 5)) := pa 5 (by decide)
  have e6 : hh.1 25 = some (mNA 84 (D 6)) := pa 6 (by decide)
  have e7 : hh.1 26 = some (mNA 84 (D 7)) := pa 7 (by decide)
  have hib : zin (nI b) nb := (zin_nI (by omega)).mpr hb
  obtain ⟨y0, y1, y2, y3, y4, y5, y6, y7, y8⟩ := pk b hb
  show Zn g zX0_fact 0 [some (.ref 18), some (.int (nI b)), some (.int (nI 4))] [] (hh) 0 0 _
  refine zn_aload_n (pc := 0) rfl rfl ?_
  refine zn_iload_n (pc := 1) rfl rfl ?_
  refine zn_callVx (pc := 2) (J := zX0_has) (o := 18) (as := [.int (nI b)]) (rest := []) rfl rfl rfl rfl p8 rfl rfl rfl (Nat.le_of_ble_eq_true rfl) (Nat.le_of_ble_eq_true rfl) (Nat.le_of_ble_eq_true rfl) (Nat.le_of_ble_eq_true rfl) (c_has_10 hbk h84 (nI b)) ?_
  refine zn_if_neB (pc := 5) (tgt := 10) rfl rfl (fun c1 => ?_) (fun c1 => ?_)
  · refine zn_iload_n (pc := 10) rfl rfl ?_
    refine zn_tabIn (pc := 11) (x := nI 4) (off := 69) (tgt := 80) rfl (by decide +kernel) (by decide +kernel) (by rw [show (nI 4).toInt = 4 by decide +kernel]; rfl) rfl ?_
    refine zn_aload_n (pc := 80) rfl rfl ?_
    refine zn_get (pc := 81) (v := .ref 23) rfl p8 rfl ?_
    refine zn_iload_n (pc := 84) rfl rfl ?_
    refine zn_naLd (pc := 85) (o := 23) (n := 84) (Z := (D 4)) (j := b) rfl e4 (by omega) (Nat.le_of_ble_eq_true rfl) ?_
    refine zn_top (v' := .int (nI (R 9 b))) (by rw [y4]) ?_
    exact zx_i (pc := 86) rfl rfl rfl rfl
  · exact absurd hib c1
theorem c_fact_5  {R : Nat → Nat → Nat} {nb : Nat} (hL : LK hh 10 z R nb) {b : Nat} (hb : b < nb) : Zx g zX0_fact [.ref 18, .int (nI b), .int (nI 5)] (hh) (some (.int (nI (mBn R z b (R 6 b) (R 7 b) (R 8 b) 5)))) (hh) := by
  have hz := hL.ok
  have hzb := hL.zb
  have hk := hL.c
  have hbk := hL.b
  have hr := hL.r
  have h84 := hr.le
  have hlo := hL.lo
  have ha := hr.bd
  have hv := hr.cov
  obtain ⟨Xs, Bn, hxs, hbs, hpx, hpb⟩ := hL.x
  have h0 := hz.1
  have h1 := hz.2.1
  obtain ⟨C, V, o1, oa, o7, k0, kk⟩ := id hk
  have a0 : hh.1 12 = some (mNA 24 (C 0)) := oa 0 (by decide)
  have a1 : hh.1 13 = some (mNA 192 (C 1)) := oa 1 (by decide)
  have a2 : hh.1 14 = some (mNA 192 (C 2)) := oa 2 (by decide)
  have a3 : hh.1 15 = some (mNA 192 (C 3)) := oa 3 (by decide)
  have a4 : hh.1 16 = some (mNA 192 (C 4)) := oa 4 (by decide)
  obtain ⟨D, W, p8, pa, p17, pk⟩ := id hbk
  have e0 : hh.1 19 = some (mNA 84 (D 0)) := pa 0 (by decide)
  have e1 : hh.1 20 = some (mNA 84 (D 1)) := pa 1 (by decide)
  have e2 : hh.1 21 = some (mNA 84 (D 2)) := pa 2 (by decide)
  have e3 : hh.1 22 = some (mNA 84 (D 3)) := pa 3 (by decide)
  have e4 : hh.1 23 = some (mNA 84 (D 4)) := pa 4 (by decide)
  have e5 : hh.1 24 = some (mNA 84 (D 5)) := pa 5 (by decide)
  have e6 : hh.1 25 = some (mNA 84 (D 6)) := pa 6 (by decide)
  have e7 : hh.1 26 = some (mNA 84 (D 7)) := pa 7 (by decide)
  have hib : zin (nI b) nb := (zin_nI (by omega)).mpr hb
  obtain ⟨y0, y1, y2, y3, y4, y5, y6, y7, y8⟩ := pk b hb
  show Zn g zX0_fact 0 [some (.ref 18), some (.int (nI b)), some (.int (nI 5))] [] (hh) 0 0 _
  refine zn_aload_n (pc := 0) rfl rfl ?_
  refine zn_iload_n (pc := 1) rfl rfl ?_
  refine zn_callVx (pc := 2) (J := zX0_has) (o := 18) (as := [.int (nI b)]) (rest := []) rfl rfl rfl rfl p8 rfl rfl rfl (Nat.le_of_ble_eq_true rfl) (Nat.le_of_ble_eq_true rfl) (Nat.le_of_ble_eq_true rfl) (Nat.le_of_ble_eq_true rfl) (c_has_10 hbk h84 (nI b)) ?_
  refine zn_if_neB (pc := 5) (tgt := 10) rfl rfl (fun c1 => ?_) (fun c1 => ?_)
  · refine zn_iload_n (pc := 10) rfl rfl ?_
    refine zn_tabIn (pc := 11) (x := nI 5) (off := 76) (tgt := 87) rfl (by decide +kernel) (by decide +kernel) (by rw [show (nI 5).toInt = 5 by decide +kernel]; rfl) rfl ?_
    refine zn_aload_n (pc := 87) rfl rfl ?_
    refine zn_get (pc := 88) (v := .ref 24) rfl p8 rfl ?_
    refine zn_iload_n (pc := 91) rfl rfl ?_
    refine zn_naLd (pc := 92) (o := 24) (n := 84) (Z := (D 5)) (j := b) rfl e5 (by omega) (Nat.le_of_ble_eq_true rfl) ?_
    refine zn_top (v' := .int (nI (R 10 b))) (by rw [y5]) ?_
    exact zx_i (pc := 93) rfl rfl rfl rfl
  · exact absurd hib c1
theorem c_fact_6  {R : Nat → Nat → Nat} {nb : Nat} (hL : LK hh 10 z R nb) {b : Nat} (hb : b < nb) : Zx g zX0_fact [.ref 18, .int (nI b), .int (nI 6)] (hh) (some (.int (nI (mBn R z b (R 6 b) (R 7 b) (R 8 b) 6)))) (hh) := by
  have hz := hL.ok
  have hzb := hL.zb
  have hk := hL.c
  have hbk := hL.b
  have hr := hL.r
  have h84 := hr.le
  have hlo := hL.lo
  have ha := hr.bd
  have hv := hr.cov
  obtain ⟨Xs, Bn, hxs, hbs, hpx, hpb⟩ := hL.x
  have h0 := hz.1
  have h1 := hz.2.1
  obtain ⟨C, V, o1, oa, o7, k0, kk⟩ := id hk
  have a0 : hh.1 12 = some (mNA 24 (C 0)) := oa 0 (by decide)
  have a1 : hh.1 13 = some (mNA 192 (C 1)) := oa 1 (by decide)
  have a2 : hh.1 14 = some (mNA 192 (C 2)) := oa 2 (by decide)
  have a3 : hh.1 15 = some (mNA 192 (C 3)) := oa 3 (by decide)
  have a4 : hh.1 16 = some (mNA 192 (C 4)) := oa 4 (by decide)
  obtain ⟨D, W, p8, pa, p17, pk⟩ := id hbk
  have e0 : hh.1 19 = some (mNA 84 (D 0)) := pa 0 (by decide)
  have e1 : hh.1 20 = some (mNA 84 (D 1)) := pa 1 (by decide)
  have e2 : hh.1 21 = some (mNA 84 (D 2)) := pa 2 (by decide)
  have e3 : hh.1 22 = some (mNA 84 (D 3)) := pa 3 (by decide)
  have e4 : hh.1 23 = some (mNA 84 (D 4)) := pa 4 (by decide)
  have e5 : hh.1 24 = some (mNA 84 (D 5)) := pa 5 (by decide)
  have e6 : hh.1 25 = some (mNA 84 (D 6)) := pa 6 (by decide)
  have e7 : hh.1 26 = some (mNA 84 (D 7)) := pa 7 (by decide)
  have hib : zin (nI b) nb := (zin_nI (by omega)).mpr hb
  obtain ⟨y0, y1, y2, y3, y4, y5, y6, y7, y8⟩ := pk b hb
  show Zn g zX0_fact 0 [some (.ref 18), some (.int (nI b)), some (.int (nI 6))] [] (hh) 0 0 _
  refine zn_aload_n (pc := 0) rfl rfl ?_
  refine zn_iload_n (pc := 1) rfl rfl ?_
  refine zn_callVx (pc := 2) (J := zX0_has) (o := 18) (as := [.int (nI b)]) (rest := []) rfl rfl rfl rfl p8 rfl rfl rfl (Nat.le_of_ble_eq_true rfl) (Nat.le_of_ble_eq_true rfl) (Nat.le_of_ble_eq_true rfl) (Nat.le_of_ble_eq_true rfl) (c_has_10 hbk h84 (nI b)) ?_
  refine zn_if_neB (pc := 5) (tgt := 10) rfl rfl (fun c1 => ?_) (fun c1 => ?_)
  · refine zn_iload_n (pc := 10) rfl rfl ?_
    refine zn_tabIn (pc := 11) (x := nI 6) (off := 83) (tgt := 94) rfl (by decide +kernel) (by decide +kernel) (by rw [show (nI 6).toInt = 6 by decide +kernel]; rfl) rfl ?_
    refine zn_aload_n (pc := 94) rfl rfl ?_
    refine zn_get (pc := 95) (v := .ref 25) rfl p8 rfl ?_
    refine zn_iload_n (pc := 98) rfl rfl ?_
    refine zn_naLd (pc := 99) (o := 25) (n := 84) (Z := (D 6)) (j := b) rfl e6 (by omega) (Nat.le_of_ble_eq_true rfl) ?_
    refine zn_top (v' := .int (nI (bNum (mK z (R 6 b)) (R 8 b + 1 - R 7 b) (R 7 b)))) (by rw [y6]) ?_
    exact zx_i (pc := 100) rfl rfl rfl rfl
  · exact absurd hib c1
theorem c_fact_7  {R : Nat → Nat → Nat} {nb : Nat} (hL : LK hh 10 z R nb) {b : Nat} (hb : b < nb) : Zx g zX0_fact [.ref 18, .int (nI b), .int (nI 7)] (hh) (some (.int (nI (mBn R z b (R 6 b) (R 7 b) (R 8 b) 7)))) (hh) := by
  have hz := hL.ok
  have hzb := hL.zb
  have hk := hL.c
  have hbk := hL.b
  have hr := hL.r
  have h84 := hr.le
  have hlo := hL.lo
  have ha := hr.bd
  have hv := hr.cov
  obtain ⟨Xs, Bn, hxs, hbs, hpx, hpb⟩ := hL.x
  have h0 := hz.1
  have h1 := hz.2.1
  obtain ⟨C, V, o1, oa, o7, k0, kk⟩ := id hk
  have a0 : hh.1 12 = some (mNA 24 (C 0)) := oa 0 (by decide)
  have a1 : hh.1 13 = some (mNA 192 (C 1)) := oa 1 (by decide)
  have a2 : hh.1 14 = some (mNA 192 (C 2)) := oa 2 (by decide)
  have a3 : hh.1 15 = some (mNA 192 (C 3)) := oa 3 (by decide)
  have a4 : hh.1 16 = some (mNA 192 (C 4)) := oa 4 (by decide)
  obtain ⟨D, W, p8, pa, p17, pk⟩ := id hbk
  have e0 : hh.1 19 = some (mNA 84 (D 0)) := pa 0 (by decide)
  have e1 : hh.1 20 = some (mNA 84 (D 1)) := pa 1 (by decide)
  have e2 : hh.1 21 = some (mNA 84 (D 2)) := pa 2 (by decide)
  have e3 : hh.1 22 = some (mNA 84 (D 3)) := pa 3 (by decide)
  have e4 : hh.1 23 = some (mNA 84 (D 4)) := pa 4 (by decide)
  have e5 : hh.1 24 = some (mNA 84 (D 5)) := pa 5 (by decide)
  have e6 : hh.1 25 = some (mNA 84 (D 6)) := pa 6 (by decide)
  have e7 : hh.1 26 = some (mNA 84 (D 7)) := pa 7 (by decide)
  have hib : zin (nI b) nb := (zin_nI (by omega)).mpr hb
  obtain ⟨y0, y1, y2, y3, y4, y5, y6, y7, y8⟩ := pk b hb
  show Zn g zX0_fact 0 [some (.ref 18), some (.int (nI b)), some (.int (nI 7))] [] (hh) 0 0 _
  refine zn_aload_n (pc := 0) rfl rfl ?_
  refine zn_iload_n (pc := 1) rfl rfl ?_
  refine zn_callVx (pc := 2) (J := zX0_has) (o := 18) (as := [.int (nI b)]) (rest := []) rfl rfl rfl rfl p8 rfl rfl rfl (Nat.le_of_ble_eq_true rfl) (Nat.le_of_ble_eq_true rfl) (Nat.le_of_ble_eq_true rfl) (Nat.le_of_ble_eq_true rfl) (c_has_10 hbk h84 (nI b)) ?_
  refine zn_if_neB (pc := 5) (tgt := 10) rfl rfl (fun c1 => ?_) (fun c1 => ?_)
  · refine zn_iload_n (pc := 10) rfl rfl ?_
    refine zn_tabOut (pc := 11) (x := nI 7) (tgt := 101) rfl (by decide +kernel) rfl ?_
    refine zn_aload_n (pc := 101) rfl rfl ?_
    refine zn_get (pc := 102) (v := .ref 26) rfl p8 rfl ?_
    refine zn_iload_n (pc := 105) rfl rfl ?_
    refine zn_naLd (pc := 106) (o := 26) (n := 84) (Z := (D 7)) (j := b) rfl e7 (by omega) (Nat.le_of_ble_eq_true rfl) ?_
    refine zn_top (v' := .int (nI (R 11 b))) (by rw [y7]) ?_
    exact zx_i (pc := 107) rfl rfl rfl rfl
  · exact absurd hib c1
theorem c_fact {R : Nat → Nat → Nat} {nb : Nat} (hL : LK hh 10 z R nb) {b : Nat} (hb : b < nb) {k : Nat} (hk9 : k ≤ 7) : Zx g zX0_fact [.ref 18, .int (nI b), .int (nI k)] hh (some (.int (nI (mBn R z b (R 6 b) (R 7 b) (R 8 b) k)))) hh := by
  match k, hk9 with
  | 0, _ => exact c_fact_0 hL hb
  | 1, _ => exact c_fact_1 hL hb
  | 2, _ => exact c_fact_2 hL hb
  | 3, _ => exact c_fact_3 hL hb
  | 4, _ => exact c_fact_4 hL hb
  | 5, _ => exact c_fact_5 hL hb
  | 6, _ => exact c_fact_6 hL hb
  | 7, _ => exact c_fact_7 hL hb
  | n + 8, q => exact absurd q (by omega)
theorem c_countBetween_l {R : Nat → Nat → Nat} {nb : Nat} (hL : LK hh 10 z R nb) {l : Nat} (hl : l < 24) : ∀ (n : Nat) (b : Nat), b + n = nb → Zn g zX0_countBetween 5 [some (.ref 18), some (.int (nI l - 1)), some (.int (nI (l + 1))), some (.int (nI (bTc R l b))), some (.int (nI b))] [] (hh) 0 0 (fun r' h' => r' = .inl (some (.int (nI (bTc R l nb)))) ∧ h' = (hh)) := by
  intro n
  induction n with
  | zero =>
    intro b hn0
    have hz := hL.ok
    have hzb := hL.zb
    have hk := hL.c
    have hbk := hL.b
    have hr := hL.r
    have h84 := hr.le
    have hlo := hL.lo
    have ha := hr.bd
    have hv := hr.cov
    obtain ⟨Xs, Bn, hxs, hbs, hpx, hpb⟩ := hL.x
    have h0 := hz.1
    have h1 := hz.2.1
    obtain ⟨C, V, o1, oa, o7, k0, kk⟩ := id hk
    have a0 : hh.1 12 = some (mNA 24 (C 0)) := oa 0 (by decide)
    have a1 : hh.1 13 = some (mNA 192 (C 1)) := oa 1 (by decide)
    have a2 : hh.1 14 = some (mNA 192 (C 2)) := oa 2 (by decide)
    have a3 : hh.1 15 = some (mNA 192 (C 3)) := oa 3 (by decide)
    have a4 : hh.1 16 = some (mNA 192 (C 4)) := oa 4 (by decide)
    obtain ⟨D, W, p8, pa, p17, pk⟩ := id hbk
    have e0 : hh.1 19 = some (mNA 84 (D 0)) := pa 0 (by decide)
    have e1 : hh.1 20 = some (mNA 84 (D 1)) := pa 1 (by decide)
    have e2 : hh.1 21 = some (mNA 84 (D 2)) := pa 2 (by decide)
    have e3 : hh.1 22 = some (mNA 84 (D 3)) := pa 3 (by decide)
    have e4 : hh.1 23 = some (mNA 84 (D 4)) := pa 4 (by decide)
    have e5 : hh.1 24 = some (mNA 84 (D 5)) := pa 5 (by decide)
    have e6 : hh.1 25 = some (mNA 84 (D 6)) := pa 6 (by decide)
    have e7 : hh.1 26 = some (mNA 84 (D 7)) := pa 7 (by decide)
    have a7 := ha 7 b
    have a8 := ha 8 b
    refine zn_iload (pc := 5) rfl rfl ?_
    refine zn_aload_n (pc := 7) rfl rfl ?_
    refine zn_get (pc := 8) (v := .int (nI nb)) rfl p8 rfl ?_
    refine zn_icmp_geN (pc := 11) (tgt := 50) (x := b) (y := nb) rfl rfl (by omega) (by omega) (fun c1 => ?_) (fun c1 => ?_)
    · refine zn_iload_n (pc := 50) rfl rfl ?_
      have e9 : b = nb := by omega
      exact zx_i (pc := 51) rfl rfl (by rw [e9]) rfl
    · exfalso; omega
  | succ n ih =>
    intro b hn0
    have hz := hL.ok
    have hzb := hL.zb
    have hk := hL.c
    have hbk := hL.b
    have hr := hL.r
    have h84 := hr.le
    have hlo := hL.lo
    have ha := hr.bd
    have hv := hr.cov
    obtain ⟨Xs, Bn, hxs, hbs, hpx, hpb⟩ := hL.x
    have h0 := hz.1
    have h1 := hz.2.1
    obtain ⟨C, V, o1, oa, o7, k0, kk⟩ := id hk
    have a0 : hh.1 12 = some (mNA 24 (C 0)) := oa 0 (by decide)
    have a1 : hh.1 13 = some (mNA 192 (C 1)) := oa 1 (by decide)
    have a2 : hh.1 14 = some (mNA 192 (C 2)) := oa 2 (by decide)
    have a3 : hh.1 15 = some (mNA 192 (C 3)) := oa 3 (by decide)
    have a4 : hh.1 16 = some (mNA 192 (C 4)) := oa 4 (by decide)
    obtain ⟨D, W, p8, pa, p17, pk⟩ := id hbk
    have e0 : hh.1 19 = some (mNA 84 (D 0)) := pa 0 (by decide)
    have e1 : hh.1 20 = some (mNA 84 (D 1)) := pa 1 (by decide)
    have e2 : hh.1 21 = some (mNA 84 (D 2)) := pa 2 (by decide)
    have e3 : hh.1 22 = some (mNA 84 (D 3)) := pa 3 (by decide)
    have e4 : hh.1 23 = some (mNA 84 (D 4)) := pa 4 (by decide)
    have e5 : hh.1 24 = some (mNA 84 (D 5)) := pa 5 (by decide)
    have e6 : hh.1 25 = some (mNA 84 (D 6)) := pa 6 (by decide)
    have e7 : hh.1 26 = some (mNA 84 (D 7)) := pa 7 (by decide)
    have a7 := ha 7 b
    have a8 := ha 8 b
    refine zn_iload (pc := 5) rfl rfl ?_
    refine zn_aload_n (pc := 7) rfl rfl ?_
    refine zn_get (pc := 8) (v := .int (nI nb)) rfl p8 rfl ?_
    refine zn_icmp_geN (pc := 11) (tgt := 50) (x := b) (y := nb) rfl rfl (by omega) (by omega) (fun c1 => ?_) (fun c1 => ?_)
    · refine zn_iload_n (pc := 50) rfl rfl ?_
      have e9 : b = nb := by omega
      exact zx_i (pc := 51) rfl rfl (by rw [e9]) rfl
    · obtain ⟨y0, y1, y2, y3, y4, y5, y6, y7, y8⟩ := pk b (by omega)
      refine zn_iload_n (pc := 14) rfl rfl ?_
      refine zn_joinV (v := .int (nI (if R 7 b ≤ l + 1 ∧ l ≤ R 8 b + 1 then 1 else 0))) (pj := 42) ?_ (fun K2 => ?_)
      · refine zn_iaddN (pc := 42) (x := (bTc R l b)) (y := (if R 7 b ≤ l + 1 ∧ l ≤ R 8 b + 1 then 1 else 0)) rfl ?_
        refine zn_istore_n (pc := 43) (L' := [some (.ref 18), some (.int (nI l - 1)), some (.int (nI (l + 1))), some (.int (nI (bTc R l b + (if R 7 b ≤ l + 1 ∧ l ≤ R 8 b + 1 then 1 else 0)))), some (.int (nI b))]) rfl (by decide) rfl ?_
        refine zn_iincN (pc := 44) (L' := [some (.ref 18), some (.int (nI l - 1)), some (.int (nI (l + 1))), some (.int (nI (bTc R l b + (if R 7 b ≤ l + 1 ∧ l ≤ R 8 b + 1 then 1 else 0)))), some (.int (nI (b + 1)))]) 1 rfl rfl rfl (by decide) rfl ?_
        refine zn_goto (pc := 47) (tgt := 5) rfl rfl ?_
        exact ih (b + 1) (by omega)
      · refine zn_aload_n (pc := 15) rfl rfl ?_
        refine zn_get (pc := 16) (v := .ref 20) rfl p8 rfl ?_
        refine zn_iload (pc := 19) rfl rfl ?_
        refine zn_naLd (pc := 21) (o := 20) (n := 84) (Z := (D 1)) (j := b) rfl e1 (by omega) (Nat.le_of_ble_eq_true rfl) ?_
        refine zn_top (v' := .int (nI (R 7 b))) (by rw [y1]) ?_
        refine zn_iload_n (pc := 22) rfl rfl ?_
        refine zn_icmp_gtN (pc := 23) (tgt := 41) (x := (R 7 b)) (y := (l + 1)) rfl rfl (by omega) (by omega) (fun c3 => ?_) (fun c3 => ?_)
        · refine zn_iconstN (pc := 41) 0 rfl rfl ?_
          exact zn_top (v' := .int (nI (if R 7 b ≤ l + 1 ∧ l ≤ R 8 b + 1 then 1 else 0))) (by rw [if_neg (by intro q; first | omega | (have q9 := (dm_iff (a := R 8 b) (l := l) (by omega) (by omega)).mp (by assumption); omega))]) K2
        · refine zn_aload_n (pc := 26) rfl rfl ?_
          refine zn_get (pc := 27) (v := .ref 21) rfl p8 rfl ?_
          refine zn_iload (pc := 30) rfl rfl ?_
          refine zn_naLd (pc := 32) (o := 21) (n := 84) (Z := (D 2)) (j := b) rfl e2 (by omega) (Nat.le_of_ble_eq_true rfl) ?_
          refine zn_top (v' := .int (nI (R 8 b))) (by rw [y2]) ?_
          refine zn_iload_n (pc := 33) rfl rfl ?_
          refine zn_icmp_lt (pc := 34) (tgt := 41) (x := (nI (R 8 b))) (y := (nI l - 1)) rfl rfl (fun c4 => ?_) (fun c4 => ?_)
          · refine zn_iconstN (pc := 41) 0 rfl rfl ?_
            exact zn_top (v' := .int (nI (if R 7 b ≤ l + 1 ∧ l ≤ R 8 b + 1 then 1 else 0))) (by rw [if_neg (by intro q; first | omega | (have q9 := (dm_iff (a := R 8 b) (l := l) (by omega) (by omega)).mp (by assumption); omega))]) K2
          · refine zn_iconstN (pc := 37) 1 rfl rfl ?_
            refine zn_goto (pc := 38) (tgt := 42) rfl rfl ?_
            exact zn_top (v' := .int (nI (if R 7 b ≤ l + 1 ∧ l ≤ R 8 b + 1 then 1 else 0))) (by rw [if_pos ⟨by omega, by have q9 := mt (dm_iff (a := R 8 b) (l := l) (by omega) (by omega)).mpr (by assumption); omega⟩]) K2
theorem c_countBetween  {R : Nat → Nat → Nat} {nb : Nat} (hL : LK hh 10 z R nb) {l : Nat} (hl : l < 24) : Zx g zX0_countBetween [.ref 18, .int (nI l - 1), .int (nI (l + 1))] (hh) (some (.int (nI (bTc R l nb)))) (hh) := by
  show Zn g zX0_countBetween 0 [some (.ref 18), some (.int (nI l - 1)), some (.int (nI (l + 1))), none, none] [] (hh) 0 0 _
  refine zn_iconstN (pc := 0) 0 rfl rfl ?_
  refine zn_istore_n (pc := 1) (L' := [some (.ref 18), some (.int (nI l - 1)), some (.int (nI (l + 1))), some (.int (nI 0)), none]) rfl (by decide) rfl ?_
  refine zn_iconstN (pc := 2) 0 rfl rfl ?_
  refine zn_istore (pc := 3) (L' := [some (.ref 18), some (.int (nI l - 1)), some (.int (nI (l + 1))), some (.int (nI 0)), some (.int (nI 0))]) rfl (by decide) rfl ?_
  exact c_countBetween_l hL hl nb 0 (by omega)
theorem c_bmix_i {R : Nat → Nat → Nat} {nb : Nat} (hL : LK hh 10 z R nb) {b : Nat} {s s9 : Int64} {Q : zR → zH → Prop} (hb : b < nb) (K : Zn g zX0_mixInto 44 [some (.ref 18), some (.long s9), none, some (.long (hF (fun k => lI (mBn R z b (R 6 b) (R 7 b) (R 8 b) k)) 8 s)), none, some (.int (nI b)), none] [] (hh) 0 0 Q) : ∀ (n : Nat) (k : Nat), k + n = 8 → Zn g zX0_mixInto 17 [some (.ref 18), some (.long s9), none, some (.long (hF (fun k => lI (mBn R z b (R 6 b) (R 7 b) (R 8 b) k)) k s)), none, some (.int (nI b)), some (.int (nI k))] [] (hh) 0 0 Q := by
  intro n
  induction n with
  | zero =>
    intro k hn0
    have hz := hL.ok
    have hzb := hL.zb
    have hk := hL.c
    have hbk := hL.b
    have hr := hL.r
    have h84 := hr.le
    have hlo := hL.lo
    have ha := hr.bd
    have hv := hr.cov
    obtain ⟨Xs, Bn, hxs, hbs, hpx, hpb⟩ := hL.x
    have h0 := hz.1
    have h1 := hz.2.1
    obtain ⟨C, V, o1, oa, o7, k0, kk⟩ := id hk
    have a0 : hh.1 12 = some (mNA 24 (C 0)) := oa 0 (by decide)
    have a1 : hh.1 13 = some (mNA 192 (C 1)) := oa 1 (by decide)
    have a2 : hh.1 14 = some (mNA 192 (C 2)) := oa 2 (by decide)
    have a3 : hh.1 15 = some (mNA 192 (C 3)) := oa 3 (by decide)
    have a4 : hh.1 16 = some (mNA 192 (C 4)) := oa 4 (by decide)
    obtain ⟨D, W, p8, pa, p17, pk⟩ := id hbk
    have e0 : hh.1 19 = some (mNA 84 (D 0)) := pa 0 (by decide)
    have e1 : hh.1 20 = some (mNA 84 (D 1)) := pa 1 (by decide)
    have e2 : hh.1 21 = some (mNA 84 (D 2)) := pa 2 (by decide)
    have e3 : hh.1 22 = some (mNA 84 (D 3)) := pa 3 (by decide)
    have e4 : hh.1 23 = some (mNA 84 (D 4)) := pa 4 (by decide)
    have e5 : hh.1 24 = some (mNA 84 (D 5)) := pa 5 (by decide)
    have e6 : hh.1 25 = some (mNA 84 (D 6)) := pa 6 (by decide)
    have e7 : hh.1 26 = some (mNA 84 (D 7)) := pa 7 (by decide)
    refine zn_iload (pc := 17) rfl rfl ?_
    refine zn_bipushN (pc := 19) 7 rfl rfl ?_
    refine zn_icmp_gtN (pc := 21) (tgt := 44) (x := k) (y := 7) rfl rfl (by omega) (by omega) (fun c1 => ?_) (fun c1 => ?_)
    · have e8 : k = 8 := by omega
      subst e8
      exact zn_sub (L' := [some (.ref 18), some (.long s9), none, some (.long (hF (fun k => lI (mBn R z b (R 6 b) (R 7 b) (R 8 b) k)) 8 s)), none, some (.int (nI b)), none]) ⟨rfl, rfl, rfl, rfl, trivial⟩ K
    · exfalso; omega
  | succ n ih =>
    intro k hn0
    have hz := hL.ok
    have hzb := hL.zb
    have hk := hL.c
    have hbk := hL.b
    have hr := hL.r
    have h84 := hr.le
    have hlo := hL.lo
    have ha := hr.bd
    have hv := hr.cov
    obtain ⟨Xs, Bn, hxs, hbs, hpx, hpb⟩ := hL.x
    have h0 := hz.1
    have h1 := hz.2.1
    obtain ⟨C, V, o1, oa, o7, k0, kk⟩ := id hk
    have a0 : hh.1 12 = some (mNA 24 (C 0)) := oa 0 (by decide)
    have a1 : hh.1 13 = some (mNA 192 (C 1)) := oa 1 (by decide)
    have a2 : hh.1 14 = some (mNA 192 (C 2)) := oa 2 (by decide)
    have a3 : hh.1 15 = some (mNA 192 (C 3)) := oa 3 (by decide)
    have a4 : hh.1 16 = some (mNA 192 (C 4)) := oa 4 (by decide)
    obtain ⟨D, W, p8, pa, p17, pk⟩ := id hbk
    have e0 : hh.1 19 = some (mNA 84 (D 0)) := pa 0 (by decide)
    have e1 : hh.1 20 = some (mNA 84 (D 1)) := pa 1 (by decide)
    have e2 : hh.1 21 = some (mNA 84 (D 2)) := pa 2 (by decide)
    have e3 : hh.1 22 = some (mNA 84 (D 3)) := pa 3 (by decide)
    have e4 : hh.1 23 = some (mNA 84 (D 4)) := pa 4 (by decide)
    have e5 : hh.1 24 = some (mNA 84 (D 5)) := pa 5 (by decide)
    have e6 : hh.1 25 = some (mNA 84 (D 6)) := pa 6 (by decide)
    have e7 : hh.1 26 = some (mNA 84 (D 7)) := pa 7 (by decide)
    refine zn_iload (pc := 17) rfl rfl ?_
    refine zn_bipushN (pc := 19) 7 rfl rfl ?_
    refine zn_icmp_gtN (pc := 21) (tgt := 44) (x := k) (y := 7) rfl rfl (by omega) (by omega) (fun c1 => ?_) (fun c1 => ?_)
    · have e8 : k = 8 := by omega
      subst e8
      exact zn_sub (L' := [some (.ref 18), some (.long s9), none, some (.long (hF (fun k => lI (mBn R z b (R 6 b) (R 7 b) (R 8 b) k)) 8 s)), none, some (.int (nI b)), none]) ⟨rfl, rfl, rfl, rfl, trivial⟩ K
    · refine zn_lload_n (pc := 24) rfl rfl ?_
      refine zn_aload_n (pc := 25) rfl rfl ?_
      refine zn_iload (pc := 26) rfl rfl ?_
      refine zn_iload (pc := 28) rfl rfl ?_
      refine zn_callVx (pc := 30) (J := zX0_fact) (o := 18) (as := [.int (nI b), .int (nI k)]) (rest := [.long (hF (fun k => lI (mBn R z b (R 6 b) (R 7 b) (R 8 b) k)) k s)]) rfl rfl rfl rfl p8 rfl rfl rfl (Nat.le_of_ble_eq_true rfl) (Nat.le_of_ble_eq_true rfl) (Nat.le_of_ble_eq_true rfl) (Nat.le_of_ble_eq_true rfl) (c_fact hL (b := b) (by omega) (k := k) (by omega)) ?_
      refine zn_i2l (pc := 33) rfl ?_
      refine zn_callSx (pc := 34) (J := zX9_mix) (as := [.long (hF (fun k => lI (mBn R z b (R 6 b) (R 7 b) (R 8 b) k)) k s), .long ((nI (mBn R z b (R 6 b) (R 7 b) (R 8 b) k)).toInt64)]) (rest := []) rfl (by decide) rfl rfl rfl rfl (Nat.le_of_ble_eq_true rfl) (Nat.le_of_ble_eq_true rfl) (Nat.le_of_ble_eq_true rfl) (Nat.le_of_ble_eq_true rfl) (c_mix (s := (hF (fun k => lI (mBn R z b (R 6 b) (R 7 b) (R 8 b) k)) k s)) (x := ((nI (mBn R z b (R 6 b) (R 7 b) (R 8 b) k)).toInt64))) ?_
      refine zn_lstore_n (pc := 37) (L' := [some (.ref 18), some (.long s9), none, some (.long (hx (hF (fun k => lI (mBn R z b (R 6 b) (R 7 b) (R 8 b) k)) k s) ((nI (mBn R z b (R 6 b) (R 7 b) (R 8 b) k)).toInt64))), none, some (.int (nI b)), some (.int (nI k))]) rfl (by decide) rfl ?_
      refine zn_iincN (pc := 38) (L' := [some (.ref 18), some (.long s9), none, some (.long (hx (hF (fun k => lI (mBn R z b (R 6 b) (R 7 b) (R 8 b) k)) k s) ((nI (mBn R z b (R 6 b) (R 7 b) (R 8 b) k)).toInt64))), none, some (.int (nI b)), some (.int (nI (k + 1)))]) 1 rfl rfl rfl (by decide) rfl ?_
      refine zn_goto (pc := 41) (tgt := 17) rfl rfl ?_
      exact ih (k + 1) (by omega)
theorem c_bmix_o {R : Nat → Nat → Nat} {nb : Nat} (hL : LK hh 10 z R nb) {s s9 : Int64} : ∀ (n : Nat) (b : Nat), b + n = nb → Zn g zX0_mixInto 5 [some (.ref 18), some (.long s9), none, some (.long (hBs R z b s)), none, some (.int (nI b)), none] [] (hh) 0 0 (fun r' h' => r' = .inl (some (.long (hBs R z nb s))) ∧ h' = (hh)) := by
  intro n
  induction n with
  | zero =>
    intro b hn0
    have hz := hL.ok
    have hzb := hL.zb
    have hk := hL.c
    have hbk := hL.b
    have hr := hL.r
    have h84 := hr.le
    have hlo := hL.lo
    have ha := hr.bd
    have hv := hr.cov
    obtain ⟨Xs, Bn, hxs, hbs, hpx, hpb⟩ := hL.x
    have h0 := hz.1
    have h1 := hz.2.1
    obtain ⟨C, V, o1, oa, o7, k0, kk⟩ := id hk
    have a0 : hh.1 12 = some (mNA 24 (C 0)) := oa 0 (by decide)
    have a1 : hh.1 13 = some (mNA 192 (C 1)) := oa 1 (by decide)
    have a2 : hh.1 14 = some (mNA 192 (C 2)) := oa 2 (by decide)
    have a3 : hh.1 15 = some (mNA 192 (C 3)) := oa 3 (by decide)
    have a4 : hh.1 16 = some (mNA 192 (C 4)) := oa 4 (by decide)
    obtain ⟨D, W, p8, pa, p17, pk⟩ := id hbk
    have e0 : hh.1 19 = some (mNA 84 (D 0)) := pa 0 (by decide)
    have e1 : hh.1 20 = some (mNA 84 (D 1)) := pa 1 (by decide)
    have e2 : hh.1 21 = some (mNA 84 (D 2)) := pa 2 (by decide)
    have e3 : hh.1 22 = some (mNA 84 (D 3)) := pa 3 (by decide)
    have e4 : hh.1 23 = some (mNA 84 (D 4)) := pa 4 (by decide)
    have e5 : hh.1 24 = some (mNA 84 (D 5)) := pa 5 (by decide)
    have e6 : hh.1 25 = some (mNA 84 (D 6)) := pa 6 (by decide)
    have e7 : hh.1 26 = some (mNA 84 (D 7)) := pa 7 (by decide)
    refine zn_iload (pc := 5) rfl rfl ?_
    refine zn_aload_n (pc := 7) rfl rfl ?_
    refine zn_get (pc := 8) (v := .int (nI nb)) rfl p8 rfl ?_
    refine zn_icmp_geN (pc := 11) (tgt := 62) (x := b) (y := nb) rfl rfl (by omega) (by omega) (fun c1 => ?_) (fun c1 => ?_)
    · refine zn_lload_n (pc := 62) rfl rfl ?_
      have e8 : b = nb := by omega
      exact zx_l (pc := 63) rfl rfl (by rw [e8]) rfl
    · exfalso; omega
  | succ n ih =>
    intro b hn0
    have hz := hL.ok
    have hzb := hL.zb
    have hk := hL.c
    have hbk := hL.b
    have hr := hL.r
    have h84 := hr.le
    have hlo := hL.lo
    have ha := hr.bd
    have hv := hr.cov
    obtain ⟨Xs, Bn, hxs, hbs, hpx, hpb⟩ := hL.x
    have h0 := hz.1
    have h1 := hz.2.1
    obtain ⟨C, V, o1, oa, o7, k0, kk⟩ := id hk
    have a0 : hh.1 12 = some (mNA 24 (C 0)) := oa 0 (by decide)
    have a1 : hh.1 13 = some (mNA 192 (C 1)) := oa 1 (by decide)
    have a2 : hh.1 14 = some (mNA 192 (C 2)) := oa 2 (by decide)
    have a3 : hh.1 15 = some (mNA 192 (C 3)) := oa 3 (by decide)
    have a4 : hh.1 16 = some (mNA 192 (C 4)) := oa 4 (by decide)
    obtain ⟨D, W, p8, pa, p17, pk⟩ := id hbk
    have e0 : hh.1 19 = some (mNA 84 (D 0)) := pa 0 (by decide)
    have e1 : hh.1 20 = some (mNA 84 (D 1)) := pa 1 (by decide)
    have e2 : hh.1 21 = some (mNA 84 (D 2)) := pa 2 (by decide)
    have e3 : hh.1 22 = some (mNA 84 (D 3)) := pa 3 (by decide)
    have e4 : hh.1 23 = some (mNA 84 (D 4)) := pa 4 (by decide)
    have e5 : hh.1 24 = some (mNA 84 (D 5)) := pa 5 (by decide)
    have e6 : hh.1 25 = some (mNA 84 (D 6)) := pa 6 (by decide)
    have e7 : hh.1 26 = some (mNA 84 (D 7)) := pa 7 (by decide)
    refine zn_iload (pc := 5) rfl rfl ?_
    refine zn_aload_n (pc := 7) rfl rfl ?_
    refine zn_get (pc := 8) (v := .int (nI nb)) rfl p8 rfl ?_
    refine zn_icmp_geN (pc := 11) (tgt := 62) (x := b) (y := nb) rfl rfl (by omega) (by omega) (fun c1 => ?_) (fun c1 => ?_)
    · refine zn_lload_n (pc := 62) rfl rfl ?_
      have e8 : b = nb := by omega
      exact zx_l (pc := 63) rfl rfl (by rw [e8]) rfl
    · refine zn_iconstN (pc := 14) 0 rfl rfl ?_
      refine zn_istore (pc := 15) (L' := [some (.ref 18), some (.long s9), none, some (.long (hBs R z b s)), none, some (.int (nI b)), some (.int (nI 0))]) rfl (by decide) rfl ?_
      refine c_bmix_i hL (by omega) (s := hBs R z b s) ?_ 8 0 (by omega)
      refine zn_lload_n (pc := 44) rfl rfl ?_
      refine zn_aload_n (pc := 45) rfl rfl ?_
      refine zn_get (pc := 46) (v := .ref 27) rfl p8 rfl ?_
      refine zn_iload (pc := 49) rfl rfl ?_
      refine zn_laldN (pc := 51) (o := 27) (n := 84) (f := W) (j := b) rfl (by omega) p17 (by omega) (Nat.le_of_ble_eq_true rfl) ?_
      refine zn_top (v' := .long (bSum z (R 6 b) (R 7 b) (R 8 b))) (by rw [(pk b (by omega)).2.2.2.2.2.2.2.2]) ?_
      refine zn_callSx (pc := 52) (J := zX9_mix) (as := [.long (hF (fun k => lI (mBn R z b (R 6 b) (R 7 b) (R 8 b) k)) 8 (hBs R z b s)), .long (bSum z (R 6 b) (R 7 b) (R 8 b))]) (rest := []) rfl (by decide) rfl rfl rfl rfl (Nat.le_of_ble_eq_true rfl) (Nat.le_of_ble_eq_true rfl) (Nat.le_of_ble_eq_true rfl) (Nat.le_of_ble_eq_true rfl) (c_mix (s := (hF (fun k => lI (mBn R z b (R 6 b) (R 7 b) (R 8 b) k)) 8 (hBs R z b s))) (x := (bSum z (R 6 b) (R 7 b) (R 8 b)))) ?_
      refine zn_lstore_n (pc := 55) (L' := [some (.ref 18), some (.long s9), none, some (.long (hx (hF (fun k => lI (mBn R z b (R 6 b) (R 7 b) (R 8 b) k)) 8 (hBs R z b s)) (bSum z (R 6 b) (R 7 b) (R 8 b)))), none, some (.int (nI b)), none]) rfl (by decide) rfl ?_
      refine zn_iincN (pc := 56) (L' := [some (.ref 18), some (.long s9), none, some (.long (hx (hF (fun k => lI (mBn R z b (R 6 b) (R 7 b) (R 8 b) k)) 8 (hBs R z b s)) (bSum z (R 6 b) (R 7 b) (R 8 b)))), none, some (.int (nI (b + 1))), none]) 1 rfl rfl rfl (by decide) rfl ?_
      refine zn_goto (pc := 59) (tgt := 5) rfl rfl ?_
      exact zn_sub (L' := [some (.ref 18), some (.long s9), none, some (.long (hBs R z (b + 1) s)), none, some (.int (nI (b + 1))), none]) ⟨rfl, rfl, rfl, rfl, trivial⟩ (ih (b + 1) (by omega))
theorem c_bmix  {R : Nat → Nat → Nat} {nb : Nat} (hL : LK hh 10 z R nb) {s : Int64} : Zx g zX0_mixInto [.ref 18, .long s] (hh) (some (.long (hBs R z nb s))) (hh) := by
  show Zn g zX0_mixInto 0 [some (.ref 18), some (.long s), none, none, none, none, none] [] (hh) 0 0 _
  refine zn_lload_n (pc := 0) rfl rfl ?_
  refine zn_lstore_n (pc := 1) (L' := [some (.ref 18), some (.long s), none, some (.long s), none, none, none]) rfl (by decide) rfl ?_
  refine zn_iconstN (pc := 2) 0 rfl rfl ?_
  refine zn_istore (pc := 3) (L' := [some (.ref 18), some (.long s), none, some (.long s), none, some (.int (nI 0)), none]) rfl (by decide) rfl ?_
  exact c_bmix_o hL nb 0 (by omega)
end m1
