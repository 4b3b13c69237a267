section we
variable {g : zG} {n : Nat} {f : Nat → Int32}
theorem lw_if {i : Nat} (hn : n < 2 ^ 20) (hi : i < 2 ^ 21) : nI n - nI 5 < nI i ↔ n < i + 5 := by
  rw [Int32.lt_iff_toInt_lt, pk_sub_toInt (by omega) (by omega), nI_toInt (by omega)]
  omega
theorem lw_head {hh : zH} {i mc ms : Nat} {Q : zR → zH → Prop} (hn : n < 2 ^ 20) (hi : i < 2 ^ 21) (h0 : hh.1 0 = some (.inl (n, .inl f))) (kt : n < i + 5 → Zn g zL_law 2129 (LO i) [] hh mc ms Q) (kf : i + 5 ≤ n → Zn g zL_law 37 (LO i) [] hh mc ms Q) : Zn g zL_law 28 (LO i) [] hh mc ms Q := by
  refine zn_iload (pc := 28) (sk_0 (by decide) rfl) rfl ?_
  refine zn_aload_n (pc := 30) (sk_0 (by decide) rfl) rfl ?_
  refine zn_alenN (pc := 31) (sk_0 (by decide) rfl) h0 ?_
  refine zn_iconstN (pc := 32) 5 (sk_0 (by decide) rfl) rfl ?_
  refine zn_isub (pc := 33) (sk_0 (by decide) rfl) ?_
  exact zn_icmp_gt (pc := 34) (tgt := 2129) (sk_0 (by decide) rfl) rfl (fun q => kt ((lw_if hn hi).mp q)) (fun q => kf (by
    have : ¬ n < i + 5 := fun r => q ((lw_if hn hi).mpr r)
    omega))
theorem lw_end {hh : zH} {i mc ms : Nat} : Zn g zL_law 2129 (LO i) [] hh mc ms (fun r _ => r = .inl (some (.int (nI 1)))) := by
  refine zn_iconstN (pc := 2129) 1 (sk_32 (by decide) rfl) rfl ?_
  exact zn_zret (pc := 2130) (sk_32 (by decide) rfl) rfl (by decide) rfl
theorem lw_loop (hn : n < 2 ^ 20) : ∀ (m i : Nat) (hh : zH) (k0 : Nat), n < i + 5 + 5 * m → i ≤ n → Jk n f k0 hh → Zn g zL_law 28 (LO i) [] hh (5 * m) (3300 * m) (fun r _ => r = .inl (some (.int (nI 1))))
  | 0, i, hh, k0, h1, h2, hJ => by
    have h0 : hh.1 0 = some (.inl (n, .inl f)) := by
      obtain ⟨F, S, z, A, X, hJJ, -⟩ := hJ
      exact hJJ.2.2.2.1
    exact lw_head hn (by omega) h0 (fun _ => lw_end) (fun q => absurd q (by omega))
  | m + 1, i, hh, k0, h1, h2, hJ => by
    have h0 : hh.1 0 = some (.inl (n, .inl f)) := by
      obtain ⟨F, S, z, A, X, hJJ, -⟩ := hJ
      exact hJJ.2.2.2.1
    refine lw_head hn (by omega) h0 (fun _ => lw_end) (fun q => ?_)
    refine zn_mono (lw_step (mc := 5 * m) (ms := 3300 * m) q hn hJ (fun h2 k hJ2 => ?_)) (by omega) (by omega) (fun _ _ q => q)
    refine zn_iincN (pc := 2123) (L' := LO (i + 5)) 5 (sk_32 (by decide) rfl) rfl rfl (by decide) rfl ?_
    refine zn_goto (pc := 2126) (tgt := 28) (sk_32 (by decide) rfl) rfl ?_
    exact lw_loop hn m (i + 5) h2 k (by omega) (by omega) hJ2
end we
