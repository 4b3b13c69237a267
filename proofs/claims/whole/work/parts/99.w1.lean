section w1
variable {g : zG} {hh : zH} {fs : List Value} {mc ms : Nat} {Q1 Q : zR → zH → Prop}
/-! THE LAW'S WRAPPERS -/
theorem w_append (h1 : hh.1 1 = some (.inr (8, fs))) {x0 : Int32} (hm : Zm g zX9_append [.ref 1, .int x0] hh mc ms Q1)
    (Kv : ∀ v h', Q1 (.inl v) h' → ∃ (w : Int32) (u : Nat → Int64), v = some (.int w) ∧ h'.1 66 = some (.inl (1, .inr (.inl (u)))) ∧ Q (.inl (some (.int (nI 0)))) (zup h' 66 (.inl (1, .inr (.inl (vp_updL u 0 w.toInt64))))))
    (Kt : ∀ E h', Q1 (.inr E) h' → (E = 0 ∧ Q (.inl (some (.int (nI 1)))) h') ∨ (E = 1 ∧ Q (.inl (some (.int (nI 2)))) h')) : Zm g zL_append [.ref 1, .int x0, .ref 66] hh mc ms Q := by
  show Zn g zL_append 0 [some (.ref 1), some (.int x0), some (.ref 66), none] [] hh mc ms _
  refine zn_aload_n (pc := 0) rfl rfl ?_
  refine zn_iconstN (pc := 1) 0 rfl rfl ?_
  refine zn_aload_n (pc := 2) rfl rfl ?_
  refine zn_iload_n (pc := 3) rfl rfl ?_
  refine zn_callVC (pc := 4) (mc1 := mc) (ms1 := ms) (mc2 := 0) (ms2 := 0) (J := zX9_append) (o := 1) (as := [.int x0]) (rest := [.int (nI 0), .ref 66]) rfl rfl rfl rfl h1 rfl rfl rfl (Nat.le_of_ble_eq_true rfl) (Nat.le_of_ble_eq_true rfl) (Nat.le_of_ble_eq_true rfl) (Nat.le_of_ble_eq_true rfl) hm ?_ ?_
  · intro v h' q
    obtain ⟨w, u, rfl, h66, hQ⟩ := Kv v h' q
    show Zn g zL_append 7 _ [.int w, .int (nI 0), .ref 66] _ _ _ _
    refine zn_i2l (pc := 7) rfl ?_
    refine zn_lastN (pc := 8) rfl (by decide) h66 (by decide) (by decide) ?_
    refine zn_goto (pc := 9) (tgt := 18) rfl rfl ?_
    refine zn_iconstN (pc := 18) 0 rfl rfl ?_
    exact zn_iret (pc := 19) rfl rfl hQ
  · intro E h' q
    rcases Kt E h' q with ⟨rfl, hQ⟩ | ⟨rfl, hQ⟩
    · refine ⟨12, 3, 1, 0, 0, by decide, Or.inl ⟨3, rfl, rfl, rfl⟩, by decide, ?_⟩
      refine zn_iconstN (pc := 13) 1 rfl rfl ?_
      exact zn_iret (pc := 14) rfl rfl hQ
    · refine ⟨15, 3, 1, 0, 0, by decide, Or.inl ⟨3, rfl, rfl, rfl⟩, by decide, ?_⟩
      refine zn_iconstN (pc := 16) 2 rfl rfl ?_
      exact zn_iret (pc := 17) rfl rfl hQ
theorem w_firstError (h1 : hh.1 1 = some (.inr (8, fs))) {x0 : Int32} (hm : Zm g zX9_firstError [.ref 1, .int x0] hh mc ms Q1)
    (Kv : ∀ v h', Q1 (.inl v) h' → ∃ (w : Int32) (u : Nat → Int64), v = some (.int w) ∧ h'.1 66 = some (.inl (1, .inr (.inl (u)))) ∧ Q (.inl (some (.int (nI 0)))) (zup h' 66 (.inl (1, .inr (.inl (vp_updL u 0 w.toInt64))))))
    (Kt : ∀ E h', Q1 (.inr E) h' → (E = 0 ∧ Q (.inl (some (.int (nI 1)))) h')) : Zm g zL_firstError [.ref 1, .int x0, .ref 66] hh mc ms Q := by
  show Zn g zL_firstError 0 [some (.ref 1), some (.int x0), some (.ref 66), none] [] hh mc ms _
  refine zn_aload_n (pc := 0) rfl rfl ?_
  refine zn_iconstN (pc := 1) 0 rfl rfl ?_
  refine zn_aload_n (pc := 2) rfl rfl ?_
  refine zn_iload_n (pc := 3) rfl rfl ?_
  refine zn_callVC (pc := 4) (mc1 := mc) (ms1 := ms) (mc2 := 0) (ms2 := 0) (J := zX9_firstError) (o := 1) (as := [.int x0]) (rest := [.int (nI 0), .ref 66]) rfl rfl rfl rfl h1 rfl rfl rfl (Nat.le_of_ble_eq_true rfl) (Nat.le_of_ble_eq_true rfl) (Nat.le_of_ble_eq_true rfl) (Nat.le_of_ble_eq_true rfl) hm ?_ ?_
  · intro v h' q
    obtain ⟨w, u, rfl, h66, hQ⟩ := Kv v h' q
    show Zn g zL_firstError 7 _ [.int w, .int (nI 0), .ref 66] _ _ _ _
    refine zn_i2l (pc := 7) rfl ?_
    refine zn_lastN (pc := 8) rfl (by decide) h66 (by decide) (by decide) ?_
    refine zn_goto (pc := 9) (tgt := 15) rfl rfl ?_
    refine zn_iconstN (pc := 15) 0 rfl rfl ?_
    exact zn_iret (pc := 16) rfl rfl hQ
  · intro E h' q
    rcases Kt E h' q with ⟨rfl, hQ⟩
    · refine ⟨12, 3, 1, 0, 0, by decide, Or.inl ⟨3, rfl, rfl, rfl⟩, by decide, ?_⟩
      refine zn_iconstN (pc := 13) 1 rfl rfl ?_
      exact zn_iret (pc := 14) rfl rfl hQ
theorem w_load (h1 : hh.1 1 = some (.inr (8, fs))) (hm : Zm g zX9_load [.ref 1] hh mc ms Q1)
    (Kv : ∀ v h', Q1 (.inl v) h' → ∃ (w : Int32) (u : Nat → Int64), v = some (.int w) ∧ h'.1 66 = some (.inl (1, .inr (.inl (u)))) ∧ Q (.inl (some (.int (nI 0)))) (zup h' 66 (.inl (1, .inr (.inl (vp_updL u 0 w.toInt64))))))
    (Kt : ∀ E h', Q1 (.inr E) h' → (E = 1 ∧ Q (.inl (some (.int (nI 1)))) h')) : Zm g zL_load [.ref 1, .ref 66] hh mc ms Q := by
  show Zn g zL_load 0 [some (.ref 1), some (.ref 66), none] [] hh mc ms _
  refine zn_aload_n (pc := 0) rfl rfl ?_
  refine zn_iconstN (pc := 1) 0 rfl rfl ?_
  refine zn_aload_n (pc := 2) rfl rfl ?_
  refine zn_callVC (pc := 3) (mc1 := mc) (ms1 := ms) (mc2 := 0) (ms2 := 0) (J := zX9_load) (o := 1) (as := []) (rest := [.int (nI 0), .ref 66]) rfl rfl rfl rfl h1 rfl rfl rfl (Nat.le_of_ble_eq_true rfl) (Nat.le_of_ble_eq_true rfl) (Nat.le_of_ble_eq_true rfl) (Nat.le_of_ble_eq_true rfl) hm ?_ ?_
  · intro v h' q
    obtain ⟨w, u, rfl, h66, hQ⟩ := Kv v h' q
    show Zn g zL_load 6 _ [.int w, .int (nI 0), .ref 66] _ _ _ _
    refine zn_i2l (pc := 6) rfl ?_
    refine zn_lastN (pc := 7) rfl (by decide) h66 (by decide) (by decide) ?_
    refine zn_goto (pc := 8) (tgt := 14) rfl rfl ?_
    refine zn_iconstN (pc := 14) 0 rfl rfl ?_
    exact zn_iret (pc := 15) rfl rfl hQ
  · intro E h' q
    rcases Kt E h' q with ⟨rfl, hQ⟩
    · refine ⟨11, 2, 1, 0, 0, by decide, Or.inl ⟨2, rfl, rfl, rfl⟩, by decide, ?_⟩
      refine zn_iconstN (pc := 12) 1 rfl rfl ?_
      exact zn_iret (pc := 13) rfl rfl hQ
theorem w_type (h1 : hh.1 1 = some (.inr (8, fs))) {x0 x1 x2 x3 : Int32} (hm : Zm g zX9_type [.ref 1, .int x0, .int x1, .int x2, .int x3] hh mc ms Q1)
    (Kv : ∀ v h', Q1 (.inl v) h' → ∃ (w : Int32) (u : Nat → Int64), v = some (.int w) ∧ h'.1 66 = some (.inl (1, .inr (.inl (u)))) ∧ Q (.inl (some (.int (nI 0)))) (zup h' 66 (.inl (1, .inr (.inl (vp_updL u 0 w.toInt64))))))
    (Kt : ∀ E h', Q1 (.inr E) h' → (E = 2 ∧ Q (.inl (some (.int (nI 1)))) h') ∨ (E = 0 ∧ Q (.inl (some (.int (nI 2)))) h') ∨ (E = 1 ∧ Q (.inl (some (.int (nI 3)))) h')) : Zm g zL_type [.ref 1, .int x0, .int x1, .int x2, .int x3, .ref 66] hh mc ms Q := by
  show Zn g zL_type 0 [some (.ref 1), some (.int x0), some (.int x1), some (.int x2), some (.int x3), some (.ref 66), none] [] hh mc ms _
  refine zn_aload (pc := 0) rfl rfl ?_
  refine zn_iconstN (pc := 2) 0 rfl rfl ?_
  refine zn_aload_n (pc := 3) rfl rfl ?_
  refine zn_iload_n (pc := 4) rfl rfl ?_
  refine zn_iload_n (pc := 5) rfl rfl ?_
  refine zn_iload_n (pc := 6) rfl rfl ?_
  refine zn_iload (pc := 7) rfl rfl ?_
  refine zn_callVC (pc := 9) (mc1 := mc) (ms1 := ms) (mc2 := 0) (ms2 := 0) (J := zX9_type) (o := 1) (as := [.int x0, .int x1, .int x2, .int x3]) (rest := [.int (nI 0), .ref 66]) rfl rfl rfl rfl h1 rfl rfl rfl (Nat.le_of_ble_eq_true rfl) (Nat.le_of_ble_eq_true rfl) (Nat.le_of_ble_eq_true rfl) (Nat.le_of_ble_eq_true rfl) hm ?_ ?_
  · intro v h' q
    obtain ⟨w, u, rfl, h66, hQ⟩ := Kv v h' q
    show Zn g zL_type 12 _ [.int w, .int (nI 0), .ref 66] _ _ _ _
    refine zn_i2l (pc := 12) rfl ?_
    refine zn_lastN (pc := 13) rfl (by decide) h66 (by decide) (by decide) ?_
    refine zn_goto (pc := 14) (tgt := 29) rfl rfl ?_
    refine zn_iconstN (pc := 29) 0 rfl rfl ?_
    exact zn_iret (pc := 30) rfl rfl hQ
  · intro E h' q
    rcases Kt E h' q with ⟨rfl, hQ⟩ | ⟨rfl, hQ⟩ | ⟨rfl, hQ⟩
    · refine ⟨17, 6, 2, 0, 0, by decide, Or.inr ⟨rfl, rfl⟩, by decide, ?_⟩
      refine zn_iconstN (pc := 19) 1 rfl rfl ?_
      exact zn_iret (pc := 20) rfl rfl hQ
    · refine ⟨21, 6, 2, 0, 0, by decide, Or.inr ⟨rfl, rfl⟩, by decide, ?_⟩
      refine zn_iconstN (pc := 23) 2 rfl rfl ?_
      exact zn_iret (pc := 24) rfl rfl hQ
    · refine ⟨25, 6, 2, 0, 0, by decide, Or.inr ⟨rfl, rfl⟩, by decide, ?_⟩
      refine zn_iconstN (pc := 27) 3 rfl rfl ?_
      exact zn_iret (pc := 28) rfl rfl hQ
theorem w_erase (h1 : hh.1 1 = some (.inr (8, fs))) {x0 x1 x2 : Int32} (hm : Zm g zX9_erase [.ref 1, .int x0, .int x1, .int x2] hh mc ms Q1)
    (Kv : ∀ v h', Q1 (.inl v) h' → ∃ (w : Int32) (u : Nat → Int64), v = some (.int w) ∧ h'.1 66 = some (.inl (1, .inr (.inl (u)))) ∧ Q (.inl (some (.int (nI 0)))) (zup h' 66 (.inl (1, .inr (.inl (vp_updL u 0 w.toInt64))))))
    (Kt : ∀ E h', Q1 (.inr E) h' → (E = 2 ∧ Q (.inl (some (.int (nI 1)))) h') ∨ (E = 1 ∧ Q (.inl (some (.int (nI 2)))) h')) : Zm g zL_erase [.ref 1, .int x0, .int x1, .int x2, .ref 66] hh mc ms Q := by
  show Zn g zL_erase 0 [some (.ref 1), some (.int x0), some (.int x1), some (.int x2), some (.ref 66), none] [] hh mc ms _
  refine zn_aload (pc := 0) rfl rfl ?_
  refine zn_iconstN (pc := 2) 0 rfl rfl ?_
  refine zn_aload_n (pc := 3) rfl rfl ?_
  refine zn_iload_n (pc := 4) rfl rfl ?_
  refine zn_iload_n (pc := 5) rfl rfl ?_
  refine zn_iload_n (pc := 6) rfl rfl ?_
  refine zn_callVC (pc := 7) (mc1 := mc) (ms1 := ms) (mc2 := 0) (ms2 := 0) (J := zX9_erase) (o := 1) (as := [.int x0, .int x1, .int x2]) (rest := [.int (nI 0), .ref 66]) rfl rfl rfl rfl h1 rfl rfl rfl (Nat.le_of_ble_eq_true rfl) (Nat.le_of_ble_eq_true rfl) (Nat.le_of_ble_eq_true rfl) (Nat.le_of_ble_eq_true rfl) hm ?_ ?_
  · intro v h' q
    obtain ⟨w, u, rfl, h66, hQ⟩ := Kv v h' q
    show Zn g zL_erase 10 _ [.int w, .int (nI 0), .ref 66] _ _ _ _
    refine zn_i2l (pc := 10) rfl ?_
    refine zn_lastN (pc := 11) rfl (by decide) h66 (by decide) (by decide) ?_
    refine zn_goto (pc := 12) (tgt := 23) rfl rfl ?_
    refine zn_iconstN (pc := 23) 0 rfl rfl ?_
    exact zn_iret (pc := 24) rfl rfl hQ
  · intro E h' q
    rcases Kt E h' q with ⟨rfl, hQ⟩ | ⟨rfl, hQ⟩
    · refine ⟨15, 5, 2, 0, 0, by decide, Or.inr ⟨rfl, rfl⟩, by decide, ?_⟩
      refine zn_iconstN (pc := 17) 1 rfl rfl ?_
      exact zn_iret (pc := 18) rfl rfl hQ
    · refine ⟨19, 5, 2, 0, 0, by decide, Or.inr ⟨rfl, rfl⟩, by decide, ?_⟩
      refine zn_iconstN (pc := 21) 2 rfl rfl ?_
      exact zn_iret (pc := 22) rfl rfl hQ
theorem w_setCell (h1 : hh.1 1 = some (.inr (8, fs))) {x0 x1 : Int32} (hm : Zm g zX9_setCell [.ref 1, .int x0, .int x1] hh mc ms Q1)
    (Kv : ∀ v h', Q1 (.inl v) h' → ∃ (w : Int32) (u : Nat → Int64), v = some (.int w) ∧ h'.1 66 = some (.inl (1, .inr (.inl (u)))) ∧ Q (.inl (some (.int (nI 0)))) (zup h' 66 (.inl (1, .inr (.inl (vp_updL u 0 w.toInt64))))))
    (Kt : ∀ E h', Q1 (.inr E) h' → (E = 2 ∧ Q (.inl (some (.int (nI 1)))) h') ∨ (E = 1 ∧ Q (.inl (some (.int (nI 2)))) h')) : Zm g zL_setCell [.ref 1, .int x0, .int x1, .ref 66] hh mc ms Q := by
  show Zn g zL_setCell 0 [some (.ref 1), some (.int x0), some (.int x1), some (.ref 66), none] [] hh mc ms _
  refine zn_aload_n (pc := 0) rfl rfl ?_
  refine zn_iconstN (pc := 1) 0 rfl rfl ?_
  refine zn_aload_n (pc := 2) rfl rfl ?_
  refine zn_iload_n (pc := 3) rfl rfl ?_
  refine zn_iload_n (pc := 4) rfl rfl ?_
  refine zn_callVC (pc := 5) (mc1 := mc) (ms1 := ms) (mc2 := 0) (ms2 := 0) (J := zX9_setCell) (o := 1) (as := [.int x0, .int x1]) (rest := [.int (nI 0), .ref 66]) rfl rfl rfl rfl h1 rfl rfl rfl (Nat.le_of_ble_eq_true rfl) (Nat.le_of_ble_eq_true rfl) (Nat.le_of_ble_eq_true rfl) (Nat.le_of_ble_eq_true rfl) hm ?_ ?_
  · intro v h' q
    obtain ⟨w, u, rfl, h66, hQ⟩ := Kv v h' q
    show Zn g zL_setCell 8 _ [.int w, .int (nI 0), .ref 66] _ _ _ _
    refine zn_i2l (pc := 8) rfl ?_
    refine zn_lastN (pc := 9) rfl (by decide) h66 (by decide) (by decide) ?_
    refine zn_goto (pc := 10) (tgt := 21) rfl rfl ?_
    refine zn_iconstN (pc := 21) 0 rfl rfl ?_
    exact zn_iret (pc := 22) rfl rfl hQ
  · intro E h' q
    rcases Kt E h' q with ⟨rfl, hQ⟩ | ⟨rfl, hQ⟩
    · refine ⟨13, 4, 2, 0, 0, by decide, Or.inr ⟨rfl, rfl⟩, by decide, ?_⟩
      refine zn_iconstN (pc := 15) 1 rfl rfl ?_
      exact zn_iret (pc := 16) rfl rfl hQ
    · refine ⟨17, 4, 2, 0, 0, by decide, Or.inr ⟨rfl, rfl⟩, by decide, ?_⟩
      refine zn_iconstN (pc := 19) 2 rfl rfl ?_
      exact zn_iret (pc := 20) rfl rfl hQ
theorem w_insertLine (h1 : hh.1 1 = some (.inr (8, fs))) {x0 : Int32} (hm : Zm g zX9_insertLine [.ref 1, .int x0] hh mc ms Q1)
    (Kv : ∀ v h', Q1 (.inl v) h' → ∃ (w : Int32) (u : Nat → Int64), v = some (.int w) ∧ h'.1 66 = some (.inl (1, .inr (.inl (u)))) ∧ Q (.inl (some (.int (nI 0)))) (zup h' 66 (.inl (1, .inr (.inl (vp_updL u 0 w.toInt64))))))
    (Kt : ∀ E h', Q1 (.inr E) h' → (E = 2 ∧ Q (.inl (some (.int (nI 1)))) h') ∨ (E = 1 ∧ Q (.inl (some (.int (nI 2)))) h')) : Zm g zL_insertLine [.ref 1, .int x0, .ref 66] hh mc ms Q := by
  show Zn g zL_insertLine 0 [some (.ref 1), some (.int x0), some (.ref 66), none] [] hh mc ms _
  refine zn_aload_n (pc := 0) rfl rfl ?_
  refine zn_iconstN (pc := 1) 0 rfl rfl ?_
  refine zn_aload_n (pc := 2) rfl rfl ?_
  refine zn_iload_n (pc := 3) rfl rfl ?_
  refine zn_callVC (pc := 4) (mc1 := mc) (ms1 := ms) (mc2 := 0) (ms2 := 0) (J := zX9_insertLine) (o := 1) (as := [.int x0]) (rest := [.int (nI 0), .ref 66]) rfl rfl rfl rfl h1 rfl rfl rfl (Nat.le_of_ble_eq_true rfl) (Nat.le_of_ble_eq_true rfl) (Nat.le_of_ble_eq_true rfl) (Nat.le_of_ble_eq_true rfl) hm ?_ ?_
  · intro v h' q
    obtain ⟨w, u, rfl, h66, hQ⟩ := Kv v h' q
    show Zn g zL_insertLine 7 _ [.int w, .int (nI 0), .ref 66] _ _ _ _
    refine zn_i2l (pc := 7) rfl ?_
    refine zn_lastN (pc := 8) rfl (by decide) h66 (by decide) (by decide) ?_
    refine zn_goto (pc := 9) (tgt := 18) rfl rfl ?_
    refine zn_iconstN (pc := 18) 0 rfl rfl ?_
    exact zn_iret (pc := 19) rfl rfl hQ
  · intro E h' q
    rcases Kt E h' q with ⟨rfl, hQ⟩ | ⟨rfl, hQ⟩
    · refine ⟨12, 3, 1, 0, 0, by decide, Or.inl ⟨3, rfl, rfl, rfl⟩, by decide, ?_⟩
      refine zn_iconstN (pc := 13) 1 rfl rfl ?_
      exact zn_iret (pc := 14) rfl rfl hQ
    · refine ⟨15, 3, 1, 0, 0, by decide, Or.inl ⟨3, rfl, rfl, rfl⟩, by decide, ?_⟩
      refine zn_iconstN (pc := 16) 2 rfl rfl ?_
      exact zn_iret (pc := 17) rfl rfl hQ
theorem w_removeLine (h1 : hh.1 1 = some (.inr (8, fs))) {x0 : Int32} (hm : Zm g zX9_removeLine [.ref 1, .int x0] hh mc ms Q1)
    (Kv : ∀ v h', Q1 (.inl v) h' → ∃ (w : Int32) (u : Nat → Int64), v = some (.int w) ∧ h'.1 66 = some (.inl (1, .inr (.inl (u)))) ∧ Q (.inl (some (.int (nI 0)))) (zup h' 66 (.inl (1, .inr (.inl (vp_updL u 0 w.toInt64))))))
    (Kt : ∀ E h', Q1 (.inr E) h' → (E = 2 ∧ Q (.inl (some (.int (nI 1)))) h') ∨ (E = 1 ∧ Q (.inl (some (.int (nI 2)))) h')) : Zm g zL_removeLine [.ref 1, .int x0, .ref 66] hh mc ms Q := by
  show Zn g zL_removeLine 0 [some (.ref 1), some (.int x0), some (.ref 66), none] [] hh mc ms _
  refine zn_aload_n (pc := 0) rfl rfl ?_
  refine zn_iconstN (pc := 1) 0 rfl rfl ?_
  refine zn_aload_n (pc := 2) rfl rfl ?_
  refine zn_iload_n (pc := 3) rfl rfl ?_
  refine zn_callVC (pc := 4) (mc1 := mc) (ms1 := ms) (mc2 := 0) (ms2 := 0) (J := zX9_removeLine) (o := 1) (as := [.int x0]) (rest := [.int (nI 0), .ref 66]) rfl rfl rfl rfl h1 rfl rfl rfl (Nat.le_of_ble_eq_true rfl) (Nat.le_of_ble_eq_true rfl) (Nat.le_of_ble_eq_true rfl) (Nat.le_of_ble_eq_true rfl) hm ?_ ?_
  · intro v h' q
    obtain ⟨w, u, rfl, h66, hQ⟩ := Kv v h' q
    show Zn g zL_removeLine 7 _ [.int w, .int (nI 0), .ref 66] _ _ _ _
    refine zn_i2l (pc := 7) rfl ?_
    refine zn_lastN (pc := 8) rfl (by decide) h66 (by decide) (by decide) ?_
    refine zn_goto (pc := 9) (tgt := 18) rfl rfl ?_
    refine zn_iconstN (pc := 18) 0 rfl rfl ?_
    exact zn_iret (pc := 19) rfl rfl hQ
  · intro E h' q
    rcases Kt E h' q with ⟨rfl, hQ⟩ | ⟨rfl, hQ⟩
    · refine ⟨12, 3, 1, 0, 0, by decide, Or.inl ⟨3, rfl, rfl, rfl⟩, by decide, ?_⟩
      refine zn_iconstN (pc := 13) 1 rfl rfl ?_
      exact zn_iret (pc := 14) rfl rfl hQ
    · refine ⟨15, 3, 1, 0, 0, by decide, Or.inl ⟨3, rfl, rfl, rfl⟩, by decide, ?_⟩
      refine zn_iconstN (pc := 16) 2 rfl rfl ?_
      exact zn_iret (pc := 17) rfl rfl hQ
theorem w_moveLine (h1 : hh.1 1 = some (.inr (8, fs))) {x0 x1 : Int32} (hm : Zm g zX9_moveLine [.ref 1, .int x0, .int x1] hh mc ms Q1)
    (Kv : ∀ v h', Q1 (.inl v) h' → ∃ (w : Int32) (u : Nat → Int64), v = some (.int w) ∧ h'.1 66 = some (.inl (1, .inr (.inl (u)))) ∧ Q (.inl (some (.int (nI 0)))) (zup h' 66 (.inl (1, .inr (.inl (vp_updL u 0 w.toInt64))))))
    (Kt : ∀ E h', Q1 (.inr E) h' → (E = 2 ∧ Q (.inl (some (.int (nI 1)))) h')) : Zm g zL_moveLine [.ref 1, .int x0, .int x1, .ref 66] hh mc ms Q := by
  show Zn g zL_moveLine 0 [some (.ref 1), some (.int x0), some (.int x1), some (.ref 66), none] [] hh mc ms _
  refine zn_aload_n (pc := 0) rfl rfl ?_
  refine zn_iconstN (pc := 1) 0 rfl rfl ?_
  refine zn_aload_n (pc := 2) rfl rfl ?_
  refine zn_iload_n (pc := 3) rfl rfl ?_
  refine zn_iload_n (pc := 4) rfl rfl ?_
  refine zn_callVC (pc := 5) (mc1 := mc) (ms1 := ms) (mc2 := 0) (ms2 := 0) (J := zX9_moveLine) (o := 1) (as := [.int x0, .int x1]) (rest := [.int (nI 0), .ref 66]) rfl rfl rfl rfl h1 rfl rfl rfl (Nat.le_of_ble_eq_true rfl) (Nat.le_of_ble_eq_true rfl) (Nat.le_of_ble_eq_true rfl) (Nat.le_of_ble_eq_true rfl) hm ?_ ?_
  · intro v h' q
    obtain ⟨w, u, rfl, h66, hQ⟩ := Kv v h' q
    show Zn g zL_moveLine 8 _ [.int w, .int (nI 0), .ref 66] _ _ _ _
    refine zn_i2l (pc := 8) rfl ?_
    refine zn_lastN (pc := 9) rfl (by decide) h66 (by decide) (by decide) ?_
    refine zn_goto (pc := 10) (tgt := 17) rfl rfl ?_
    refine zn_iconstN (pc := 17) 0 rfl rfl ?_
    exact zn_iret (pc := 18) rfl rfl hQ
  · intro E h' q
    rcases Kt E h' q with ⟨rfl, hQ⟩
    · refine ⟨13, 4, 2, 0, 0, by decide, Or.inr ⟨rfl, rfl⟩, by decide, ?_⟩
      refine zn_iconstN (pc := 15) 1 rfl rfl ?_
      exact zn_iret (pc := 16) rfl rfl hQ
theorem w_sort (h1 : hh.1 1 = some (.inr (8, fs))) {x0 x1 x2 : Int32} (hm : Zm g zX9_sort [.ref 1, .int x0, .int x1, .int x2] hh mc ms Q1)
    (Kv : ∀ v h', Q1 (.inl v) h' → ∃ (w : Int32) (u : Nat → Int64), v = some (.int w) ∧ h'.1 66 = some (.inl (1, .inr (.inl (u)))) ∧ Q (.inl (some (.int (nI 0)))) (zup h' 66 (.inl (1, .inr (.inl (vp_updL u 0 w.toInt64))))))
    (Kt : ∀ E h', Q1 (.inr E) h' → (E = 2 ∧ Q (.inl (some (.int (nI 1)))) h') ∨ (E = 0 ∧ Q (.inl (some (.int (nI 2)))) h')) : Zm g zL_sort [.ref 1, .int x0, .int x1, .int x2, .ref 66] hh mc ms Q := by
  show Zn g zL_sort 0 [some (.ref 1), some (.int x0), some (.int x1), some (.int x2), some (.ref 66), none] [] hh mc ms _
  refine zn_aload (pc := 0) rfl rfl ?_
  refine zn_iconstN (pc := 2) 0 rfl rfl ?_
  refine zn_aload_n (pc := 3) rfl rfl ?_
  refine zn_iload_n (pc := 4) rfl rfl ?_
  refine zn_iload_n (pc := 5) rfl rfl ?_
  refine zn_iload_n (pc := 6) rfl rfl ?_
  refine zn_callVC (pc := 7) (mc1 := mc) (ms1 := ms) (mc2 := 0) (ms2 := 0) (J := zX9_sort) (o := 1) (as := [.int x0, .int x1, .int x2]) (rest := [.int (nI 0), .ref 66]) rfl rfl rfl rfl h1 rfl rfl rfl (Nat.le_of_ble_eq_true rfl) (Nat.le_of_ble_eq_true rfl) (Nat.le_of_ble_eq_true rfl) (Nat.le_of_ble_eq_true rfl) hm ?_ ?_
  · intro v h' q
    obtain ⟨w, u, rfl, h66, hQ⟩ := Kv v h' q
    show Zn g zL_sort 10 _ [.int w, .int (nI 0), .ref 66] _ _ _ _
    refine zn_i2l (pc := 10) rfl ?_
    refine zn_lastN (pc := 11) rfl (by decide) h66 (by decide) (by decide) ?_
    refine zn_goto (pc := 12) (tgt := 23) rfl rfl ?_
    refine zn_iconstN (pc := 23) 0 rfl rfl ?_
    exact zn_iret (pc := 24) rfl rfl hQ
  · intro E h' q
    rcases Kt E h' q with ⟨rfl, hQ⟩ | ⟨rfl, hQ⟩
    · refine ⟨15, 5, 2, 0, 0, by decide, Or.inr ⟨rfl, rfl⟩, by decide, ?_⟩
      refine zn_iconstN (pc := 17) 1 rfl rfl ?_
      exact zn_iret (pc := 18) rfl rfl hQ
    · refine ⟨19, 5, 2, 0, 0, by decide, Or.inr ⟨rfl, rfl⟩, by decide, ?_⟩
      refine zn_iconstN (pc := 21) 2 rfl rfl ?_
      exact zn_iret (pc := 22) rfl rfl hQ
theorem w_insertColumn (h1 : hh.1 1 = some (.inr (8, fs))) {x0 : Int32} (hm : Zm g zX9_insertColumn [.ref 1, .int x0] hh mc ms Q1)
    (Kv : ∀ v h', Q1 (.inl v) h' → ∃ (w : Int32) (u : Nat → Int64), v = some (.int w) ∧ h'.1 66 = some (.inl (1, .inr (.inl (u)))) ∧ Q (.inl (some (.int (nI 0)))) (zup h' 66 (.inl (1, .inr (.inl (vp_updL u 0 w.toInt64))))))
    (Kt : ∀ E h', Q1 (.inr E) h' → (E = 2 ∧ Q (.inl (some (.int (nI 1)))) h') ∨ (E = 1 ∧ Q (.inl (some (.int (nI 2)))) h')) : Zm g zL_insertColumn [.ref 1, .int x0, .ref 66] hh mc ms Q := by
  show Zn g zL_insertColumn 0 [some (.ref 1), some (.int x0), some (.ref 66), none] [] hh mc ms _
  refine zn_aload_n (pc := 0) rfl rfl ?_
  refine zn_iconstN (pc := 1) 0 rfl rfl ?_
  refine zn_aload_n (pc := 2) rfl rfl ?_
  refine zn_iload_n (pc := 3) rfl rfl ?_
  refine zn_callVC (pc := 4) (mc1 := mc) (ms1 := ms) (mc2 := 0) (ms2 := 0) (J := zX9_insertColumn) (o := 1) (as := [.int x0]) (rest := [.int (nI 0), .ref 66]) rfl rfl rfl rfl h1 rfl rfl rfl (Nat.le_of_ble_eq_true rfl) (Nat.le_of_ble_eq_true rfl) (Nat.le_of_ble_eq_true rfl) (Nat.le_of_ble_eq_true rfl) hm ?_ ?_
  · intro v h' q
    obtain ⟨w, u, rfl, h66, hQ⟩ := Kv v h' q
    show Zn g zL_insertColumn 7 _ [.int w, .int (nI 0), .ref 66] _ _ _ _
    refine zn_i2l (pc := 7) rfl ?_
    refine zn_lastN (pc := 8) rfl (by decide) h66 (by decide) (by decide) ?_
    refine zn_goto (pc := 9) (tgt := 18) rfl rfl ?_
    refine zn_iconstN (pc := 18) 0 rfl rfl ?_
    exact zn_iret (pc := 19) rfl rfl hQ
  · intro E h' q
    rcases Kt E h' q with ⟨rfl, hQ⟩ | ⟨rfl, hQ⟩
    · refine ⟨12, 3, 1, 0, 0, by decide, Or.inl ⟨3, rfl, rfl, rfl⟩, by decide, ?_⟩
      refine zn_iconstN (pc := 13) 1 rfl rfl ?_
      exact zn_iret (pc := 14) rfl rfl hQ
    · refine ⟨15, 3, 1, 0, 0, by decide, Or.inl ⟨3, rfl, rfl, rfl⟩, by decide, ?_⟩
      refine zn_iconstN (pc := 16) 2 rfl rfl ?_
      exact zn_iret (pc := 17) rfl rfl hQ
theorem w_removeColumn (h1 : hh.1 1 = some (.inr (8, fs))) {x0 : Int32} (hm : Zm g zX9_removeColumn [.ref 1, .int x0] hh mc ms Q1)
    (Kv : ∀ v h', Q1 (.inl v) h' → ∃ (w : Int32) (u : Nat → Int64), v = some (.int w) ∧ h'.1 66 = some (.inl (1, .inr (.inl (u)))) ∧ Q (.inl (some (.int (nI 0)))) (zup h' 66 (.inl (1, .inr (.inl (vp_updL u 0 w.toInt64))))))
    (Kt : ∀ E h', Q1 (.inr E) h' → (E = 2 ∧ Q (.inl (some (.int (nI 1)))) h')) : Zm g zL_removeColumn [.ref 1, .int x0, .ref 66] hh mc ms Q := by
  show Zn g zL_removeColumn 0 [some (.ref 1), some (.int x0), some (.ref 66), none] [] hh mc ms _
  refine zn_aload_n (pc := 0) rfl rfl ?_
  refine zn_iconstN (pc := 1) 0 rfl rfl ?_
  refine zn_aload_n (pc := 2) rfl rfl ?_
  refine zn_iload_n (pc := 3) rfl rfl ?_
  refine zn_callVC (pc := 4) (mc1 := mc) (ms1 := ms) (mc2 := 0) (ms2 := 0) (J := zX9_removeColumn) (o := 1) (as := [.int x0]) (rest := [.int (nI 0), .ref 66]) rfl rfl rfl rfl h1 rfl rfl rfl (Nat.le_of_ble_eq_true rfl) (Nat.le_of_ble_eq_true rfl) (Nat.le_of_ble_eq_true rfl) (Nat.le_of_ble_eq_true rfl) hm ?_ ?_
  · intro v h' q
    obtain ⟨w, u, rfl, h66, hQ⟩ := Kv v h' q
    show Zn g zL_removeColumn 7 _ [.int w, .int (nI 0), .ref 66] _ _ _ _
    refine zn_i2l (pc := 7) rfl ?_
    refine zn_lastN (pc := 8) rfl (by decide) h66 (by decide) (by decide) ?_
    refine zn_goto (pc := 9) (tgt := 15) rfl rfl ?_
    refine zn_iconstN (pc := 15) 0 rfl rfl ?_
    exact zn_iret (pc := 16) rfl rfl hQ
  · intro E h' q
    rcases Kt E h' q with ⟨rfl, hQ⟩
    · refine ⟨12, 3, 1, 0, 0, by decide, Or.inl ⟨3, rfl, rfl, rfl⟩, by decide, ?_⟩
      refine zn_iconstN (pc := 13) 1 rfl rfl ?_
      exact zn_iret (pc := 14) rfl rfl hQ
theorem w_retab (h1 : hh.1 1 = some (.inr (8, fs))) {x0 x1 : Int32} (hm : Zm g zX9_retab [.ref 1, .int x0, .int x1] hh mc ms Q1)
    (Kv : ∀ v h', Q1 (.inl v) h' → ∃ (w : Int32) (u : Nat → Int64), v = some (.int w) ∧ h'.1 66 = some (.inl (1, .inr (.inl (u)))) ∧ Q (.inl (some (.int (nI 0)))) (zup h' 66 (.inl (1, .inr (.inl (vp_updL u 0 w.toInt64))))))
    (Kt : ∀ E h', Q1 (.inr E) h' → (E = 2 ∧ Q (.inl (some (.int (nI 1)))) h') ∨ (E = 0 ∧ Q (.inl (some (.int (nI 2)))) h') ∨ (E = 1 ∧ Q (.inl (some (.int (nI 3)))) h')) : Zm g zL_retab [.ref 1, .int x0, .int x1, .ref 66] hh mc ms Q := by
  show Zn g zL_retab 0 [some (.ref 1), some (.int x0), some (.int x1), some (.ref 66), none] [] hh mc ms _
  refine zn_aload_n (pc := 0) rfl rfl ?_
  refine zn_iconstN (pc := 1) 0 rfl rfl ?_
  refine zn_aload_n (pc := 2) rfl rfl ?_
  refine zn_iload_n (pc := 3) rfl rfl ?_
  refine zn_iload_n (pc := 4) rfl rfl ?_
  refine zn_callVC (pc := 5) (mc1 := mc) (ms1 := ms) (mc2 := 0) (ms2 := 0) (J := zX9_retab) (o := 1) (as := [.int x0, .int x1]) (rest := [.int (nI 0), .ref 66]) rfl rfl rfl rfl h1 rfl rfl rfl (Nat.le_of_ble_eq_true rfl) (Nat.le_of_ble_eq_true rfl) (Nat.le_of_ble_eq_true rfl) (Nat.le_of_ble_eq_true rfl) hm ?_ ?_
  · intro v h' q
    obtain ⟨w, u, rfl, h66, hQ⟩ := Kv v h' q
    show Zn g zL_retab 8 _ [.int w, .int (nI 0), .ref 66] _ _ _ _
    refine zn_i2l (pc := 8) rfl ?_
    refine zn_lastN (pc := 9) rfl (by decide) h66 (by decide) (by decide) ?_
    refine zn_goto (pc := 10) (tgt := 25) rfl rfl ?_
    refine zn_iconstN (pc := 25) 0 rfl rfl ?_
    exact zn_iret (pc := 26) rfl rfl hQ
  · intro E h' q
    rcases Kt E h' q with ⟨rfl, hQ⟩ | ⟨rfl, hQ⟩ | ⟨rfl, hQ⟩
    · refine ⟨13, 4, 2, 0, 0, by decide, Or.inr ⟨rfl, rfl⟩, by decide, ?_⟩
      refine zn_iconstN (pc := 15) 1 rfl rfl ?_
      exact zn_iret (pc := 16) rfl rfl hQ
    · refine ⟨17, 4, 2, 0, 0, by decide, Or.inr ⟨rfl, rfl⟩, by decide, ?_⟩
      refine zn_iconstN (pc := 19) 2 rfl rfl ?_
      exact zn_iret (pc := 20) rfl rfl hQ
    · refine ⟨21, 4, 2, 0, 0, by decide, Or.inr ⟨rfl, rfl⟩, by decide, ?_⟩
      refine zn_iconstN (pc := 23) 3 rfl rfl ?_
      exact zn_iret (pc := 24) rfl rfl hQ
theorem w_undo (h1 : hh.1 1 = some (.inr (8, fs))) (hm : Zm g zX9_undo [.ref 1] hh mc ms Q1)
    (Kv : ∀ v h', Q1 (.inl v) h' → ∃ (w : Int32) (u : Nat → Int64), v = some (.int w) ∧ h'.1 66 = some (.inl (1, .inr (.inl (u)))) ∧ Q (.inl (some (.int (nI 0)))) (zup h' 66 (.inl (1, .inr (.inl (vp_updL u 0 w.toInt64))))))
    (Kt : ∀ E h', Q1 (.inr E) h' → (E = 1 ∧ Q (.inl (some (.int (nI 1)))) h')) : Zm g zL_undo [.ref 1, .ref 66] hh mc ms Q := by
  show Zn g zL_undo 0 [some (.ref 1), some (.ref 66), none] [] hh mc ms _
  refine zn_aload_n (pc := 0) rfl rfl ?_
  refine zn_iconstN (pc := 1) 0 rfl rfl ?_
  refine zn_aload_n (pc := 2) rfl rfl ?_
  refine zn_callVC (pc := 3) (mc1 := mc) (ms1 := ms) (mc2 := 0) (ms2 := 0) (J := zX9_undo) (o := 1) (as := []) (rest := [.int (nI 0), .ref 66]) rfl rfl rfl rfl h1 rfl rfl rfl (Nat.le_of_ble_eq_true rfl) (Nat.le_of_ble_eq_true rfl) (Nat.le_of_ble_eq_true rfl) (Nat.le_of_ble_eq_true rfl) hm ?_ ?_
  · intro v h' q
    obtain ⟨w, u, rfl, h66, hQ⟩ := Kv v h' q
    show Zn g zL_undo 6 _ [.int w, .int (nI 0), .ref 66] _ _ _ _
    refine zn_i2l (pc := 6) rfl ?_
    refine zn_lastN (pc := 7) rfl (by decide) h66 (by decide) (by decide) ?_
    refine zn_goto (pc := 8) (tgt := 14) rfl rfl ?_
    refine zn_iconstN (pc := 14) 0 rfl rfl ?_
    exact zn_iret (pc := 15) rfl rfl hQ
  · intro E h' q
    rcases Kt E h' q with ⟨rfl, hQ⟩
    · refine ⟨11, 2, 1, 0, 0, by decide, Or.inl ⟨2, rfl, rfl, rfl⟩, by decide, ?_⟩
      refine zn_iconstN (pc := 12) 1 rfl rfl ?_
      exact zn_iret (pc := 13) rfl rfl hQ
theorem w_redo (h1 : hh.1 1 = some (.inr (8, fs))) (hm : Zm g zX9_redo [.ref 1] hh mc ms Q1)
    (Kv : ∀ v h', Q1 (.inl v) h' → ∃ (w : Int32) (u : Nat → Int64), v = some (.int w) ∧ h'.1 66 = some (.inl (1, .inr (.inl (u)))) ∧ Q (.inl (some (.int (nI 0)))) (zup h' 66 (.inl (1, .inr (.inl (vp_updL u 0 w.toInt64))))))
    (Kt : ∀ E h', Q1 (.inr E) h' → (E = 1 ∧ Q (.inl (some (.int (nI 1)))) h')) : Zm g zL_redo [.ref 1, .ref 66] hh mc ms Q := by
  show Zn g zL_redo 0 [some (.ref 1), some (.ref 66), none] [] hh mc ms _
  refine zn_aload_n (pc := 0) rfl rfl ?_
  refine zn_iconstN (pc := 1) 0 rfl rfl ?_
  refine zn_aload_n (pc := 2) rfl rfl ?_
  refine zn_callVC (pc := 3) (mc1 := mc) (ms1 := ms) (mc2 := 0) (ms2 := 0) (J := zX9_redo) (o := 1) (as := []) (rest := [.int (nI 0), .ref 66]) rfl rfl rfl rfl h1 rfl rfl rfl (Nat.le_of_ble_eq_true rfl) (Nat.le_of_ble_eq_true rfl) (Nat.le_of_ble_eq_true rfl) (Nat.le_of_ble_eq_true rfl) hm ?_ ?_
  · intro v h' q
    obtain ⟨w, u, rfl, h66, hQ⟩ := Kv v h' q
    show Zn g zL_redo 6 _ [.int w, .int (nI 0), .ref 66] _ _ _ _
    refine zn_i2l (pc := 6) rfl ?_
    refine zn_lastN (pc := 7) rfl (by decide) h66 (by decide) (by decide) ?_
    refine zn_goto (pc := 8) (tgt := 14) rfl rfl ?_
    refine zn_iconstN (pc := 14) 0 rfl rfl ?_
    exact zn_iret (pc := 15) rfl rfl hQ
  · intro E h' q
    rcases Kt E h' q with ⟨rfl, hQ⟩
    · refine ⟨11, 2, 1, 0, 0, by decide, Or.inl ⟨2, rfl, rfl, rfl⟩, by decide, ?_⟩
      refine zn_iconstN (pc := 12) 1 rfl rfl ?_
      exact zn_iret (pc := 13) rfl rfl hQ
theorem w_setAlignment (h1 : hh.1 1 = some (.inr (8, fs))) {x0 x1 : Int32} (hm : Zm g zX9_setAlignment [.ref 1, .int x0, .int x1] hh mc ms Q1)
    (Kv : ∀ v h', Q1 (.inl v) h' → ∃ (w : Int32) (u : Nat → Int64), v = some (.int w) ∧ h'.1 66 = some (.inl (1, .inr (.inl (u)))) ∧ Q (.inl (some (.int (nI 0)))) (zup h' 66 (.inl (1, .inr (.inl (vp_updL u 0 w.toInt64))))))
    (Kt : ∀ E h', Q1 (.inr E) h' → (E = 0 ∧ Q (.inl (some (.int (nI 1)))) h')) : Zm g zL_setAlignment [.ref 1, .int x0, .int x1, .ref 66] hh mc ms Q := by
  show Zn g zL_setAlignment 0 [some (.ref 1), some (.int x0), some (.int x1), some (.ref 66), none] [] hh mc ms _
  refine zn_aload_n (pc := 0) rfl rfl ?_
  refine zn_iconstN (pc := 1) 0 rfl rfl ?_
  refine zn_aload_n (pc := 2) rfl rfl ?_
  refine zn_iload_n (pc := 3) rfl rfl ?_
  refine zn_iload_n (pc := 4) rfl rfl ?_
  refine zn_callVC (pc := 5) (mc1 := mc) (ms1 := ms) (mc2 := 0) (ms2 := 0) (J := zX9_setAlignment) (o := 1) (as := [.int x0, .int x1]) (rest := [.int (nI 0), .ref 66]) rfl rfl rfl rfl h1 rfl rfl rfl (Nat.le_of_ble_eq_true rfl) (Nat.le_of_ble_eq_true rfl) (Nat.le_of_ble_eq_true rfl) (Nat.le_of_ble_eq_true rfl) hm ?_ ?_
  · intro v h' q
    obtain ⟨w, u, rfl, h66, hQ⟩ := Kv v h' q
    show Zn g zL_setAlignment 8 _ [.int w, .int (nI 0), .ref 66] _ _ _ _
    refine zn_i2l (pc := 8) rfl ?_
    refine zn_lastN (pc := 9) rfl (by decide) h66 (by decide) (by decide) ?_
    refine zn_goto (pc := 10) (tgt := 17) rfl rfl ?_
    refine zn_iconstN (pc := 17) 0 rfl rfl ?_
    exact zn_iret (pc := 18) rfl rfl hQ
  · intro E h' q
    rcases Kt E h' q with ⟨rfl, hQ⟩
    · refine ⟨13, 4, 2, 0, 0, by decide, Or.inr ⟨rfl, rfl⟩, by decide, ?_⟩
      refine zn_iconstN (pc := 15) 1 rfl rfl ?_
      exact zn_iret (pc := 16) rfl rfl hQ
theorem w_setSpacing (h1 : hh.1 1 = some (.inr (8, fs))) {x0 x1 : Int32} (hm : Zm g zX9_setSpacing [.ref 1, .int x0, .int x1] hh mc ms Q1)
    (Kv : ∀ v h', Q1 (.inl v) h' → ∃ (w : Int32) (u : Nat → Int64), v = some (.int w) ∧ h'.1 66 = some (.inl (1, .inr (.inl (u)))) ∧ Q (.inl (some (.int (nI 0)))) (zup h' 66 (.inl (1, .inr (.inl (vp_updL u 0 w.toInt64))))))
    (Kt : ∀ E h', Q1 (.inr E) h' → (E = 0 ∧ Q (.inl (some (.int (nI 1)))) h')) : Zm g zL_setSpacing [.ref 1, .int x0, .int x1, .ref 66] hh mc ms Q := by
  show Zn g zL_setSpacing 0 [some (.ref 1), some (.int x0), some (.int x1), some (.ref 66), none] [] hh mc ms _
  refine zn_aload_n (pc := 0) rfl rfl ?_
  refine zn_iconstN (pc := 1) 0 rfl rfl ?_
  refine zn_aload_n (pc := 2) rfl rfl ?_
  refine zn_iload_n (pc := 3) rfl rfl ?_
  refine zn_iload_n (pc := 4) rfl rfl ?_
  refine zn_callVC (pc := 5) (mc1 := mc) (ms1 := ms) (mc2 := 0) (ms2 := 0) (J := zX9_setSpacing) (o := 1) (as := [.int x0, .int x1]) (rest := [.int (nI 0), .ref 66]) rfl rfl rfl rfl h1 rfl rfl rfl (Nat.le_of_ble_eq_true rfl) (Nat.le_of_ble_eq_true rfl) (Nat.le_of_ble_eq_true rfl) (Nat.le_of_ble_eq_true rfl) hm ?_ ?_
  · intro v h' q
    obtain ⟨w, u, rfl, h66, hQ⟩ := Kv v h' q
    show Zn g zL_setSpacing 8 _ [.int w, .int (nI 0), .ref 66] _ _ _ _
    refine zn_i2l (pc := 8) rfl ?_
    refine zn_lastN (pc := 9) rfl (by decide) h66 (by decide) (by decide) ?_
    refine zn_goto (pc := 10) (tgt := 17) rfl rfl ?_
    refine zn_iconstN (pc := 17) 0 rfl rfl ?_
    exact zn_iret (pc := 18) rfl rfl hQ
  · intro E h' q
    rcases Kt E h' q with ⟨rfl, hQ⟩
    · refine ⟨13, 4, 2, 0, 0, by decide, Or.inr ⟨rfl, rfl⟩, by decide, ?_⟩
      refine zn_iconstN (pc := 15) 1 rfl rfl ?_
      exact zn_iret (pc := 16) rfl rfl hQ
theorem w_count (h1 : hh.1 1 = some (.inr (8, fs))) {x0 : Int32} (hm : Zm g zX9_count [.ref 1, .int x0] hh mc ms Q1)
    (Kv : ∀ v h', Q1 (.inl v) h' → ∃ (w : Int32) (u : Nat → Int64), v = some (.int w) ∧ h'.1 66 = some (.inl (1, .inr (.inl (u)))) ∧ Q (.inl (some (.int (nI 0)))) (zup h' 66 (.inl (1, .inr (.inl (vp_updL u 0 w.toInt64))))))
    (Kt : ∀ E h', Q1 (.inr E) h' → (E = 0 ∧ Q (.inl (some (.int (nI 1)))) h')) : Zm g zL_count [.ref 1, .int x0, .ref 66] hh mc ms Q := by
  show Zn g zL_count 0 [some (.ref 1), some (.int x0), some (.ref 66), none] [] hh mc ms _
  refine zn_aload_n (pc := 0) rfl rfl ?_
  refine zn_iconstN (pc := 1) 0 rfl rfl ?_
  refine zn_aload_n (pc := 2) rfl rfl ?_
  refine zn_iload_n (pc := 3) rfl rfl ?_
  refine zn_callVC (pc := 4) (mc1 := mc) (ms1 := ms) (mc2 := 0) (ms2 := 0) (J := zX9_count) (o := 1) (as := [.int x0]) (rest := [.int (nI 0), .ref 66]) rfl rfl rfl rfl h1 rfl rfl rfl (Nat.le_of_ble_eq_true rfl) (Nat.le_of_ble_eq_true rfl) (Nat.le_of_ble_eq_true rfl) (Nat.le_of_ble_eq_true rfl) hm ?_ ?_
  · intro v h' q
    obtain ⟨w, u, rfl, h66, hQ⟩ := Kv v h' q
    show Zn g zL_count 7 _ [.int w, .int (nI 0), .ref 66] _ _ _ _
    refine zn_i2l (pc := 7) rfl ?_
    refine zn_lastN (pc := 8) rfl (by decide) h66 (by decide) (by decide) ?_
    refine zn_goto (pc := 9) (tgt := 15) rfl rfl ?_
    refine zn_iconstN (pc := 15) 0 rfl rfl ?_
    exact zn_iret (pc := 16) rfl rfl hQ
  · intro E h' q
    rcases Kt E h' q with ⟨rfl, hQ⟩
    · refine ⟨12, 3, 1, 0, 0, by decide, Or.inl ⟨3, rfl, rfl, rfl⟩, by decide, ?_⟩
      refine zn_iconstN (pc := 13) 1 rfl rfl ?_
      exact zn_iret (pc := 14) rfl rfl hQ
theorem w_line (h1 : hh.1 1 = some (.inr (8, fs))) {x0 x1 : Int32} (hm : Zm g zX9_line [.ref 1, .int x0, .int x1] hh mc ms Q1)
    (Kv : ∀ v h', Q1 (.inl v) h' → ∃ (w : Int32) (u : Nat → Int64), v = some (.int w) ∧ h'.1 66 = some (.inl (1, .inr (.inl (u)))) ∧ Q (.inl (some (.int (nI 0)))) (zup h' 66 (.inl (1, .inr (.inl (vp_updL u 0 w.toInt64))))))
    (Kt : ∀ E h', Q1 (.inr E) h' → (E = 2 ∧ Q (.inl (some (.int (nI 1)))) h') ∨ (E = 0 ∧ Q (.inl (some (.int (nI 2)))) h')) : Zm g zL_line [.ref 1, .int x0, .int x1, .ref 66] hh mc ms Q := by
  show Zn g zL_line 0 [some (.ref 1), some (.int x0), some (.int x1), some (.ref 66), none] [] hh mc ms _
  refine zn_aload_n (pc := 0) rfl rfl ?_
  refine zn_iconstN (pc := 1) 0 rfl rfl ?_
  refine zn_aload_n (pc := 2) rfl rfl ?_
  refine zn_iload_n (pc := 3) rfl rfl ?_
  refine zn_iload_n (pc := 4) rfl rfl ?_
  refine zn_callVC (pc := 5) (mc1 := mc) (ms1 := ms) (mc2 := 0) (ms2 := 0) (J := zX9_line) (o := 1) (as := [.int x0, .int x1]) (rest := [.int (nI 0), .ref 66]) rfl rfl rfl rfl h1 rfl rfl rfl (Nat.le_of_ble_eq_true rfl) (Nat.le_of_ble_eq_true rfl) (Nat.le_of_ble_eq_true rfl) (Nat.le_of_ble_eq_true rfl) hm ?_ ?_
  · intro v h' q
    obtain ⟨w, u, rfl, h66, hQ⟩ := Kv v h' q
    show Zn g zL_line 8 _ [.int w, .int (nI 0), .ref 66] _ _ _ _
    refine zn_i2l (pc := 8) rfl ?_
    refine zn_lastN (pc := 9) rfl (by decide) h66 (by decide) (by decide) ?_
    refine zn_goto (pc := 10) (tgt := 21) rfl rfl ?_
    refine zn_iconstN (pc := 21) 0 rfl rfl ?_
    exact zn_iret (pc := 22) rfl rfl hQ
  · intro E h' q
    rcases Kt E h' q with ⟨rfl, hQ⟩ | ⟨rfl, hQ⟩
    · refine ⟨13, 4, 2, 0, 0, by decide, Or.inr ⟨rfl, rfl⟩, by decide, ?_⟩
      refine zn_iconstN (pc := 15) 1 rfl rfl ?_
      exact zn_iret (pc := 16) rfl rfl hQ
    · refine ⟨17, 4, 2, 0, 0, by decide, Or.inr ⟨rfl, rfl⟩, by decide, ?_⟩
      refine zn_iconstN (pc := 19) 2 rfl rfl ?_
      exact zn_iret (pc := 20) rfl rfl hQ
theorem w_cell (h1 : hh.1 1 = some (.inr (8, fs))) {x0 x1 x2 : Int32} (hm : Zm g zX9_cell [.ref 1, .int x0, .int x1, .int x2] hh mc ms Q1)
    (Kv : ∀ v h', Q1 (.inl v) h' → ∃ (w : Int32) (u : Nat → Int64), v = some (.int w) ∧ h'.1 66 = some (.inl (1, .inr (.inl (u)))) ∧ Q (.inl (some (.int (nI 0)))) (zup h' 66 (.inl (1, .inr (.inl (vp_updL u 0 w.toInt64))))))
    (Kt : ∀ E h', Q1 (.inr E) h' → (E = 2 ∧ Q (.inl (some (.int (nI 1)))) h') ∨ (E = 0 ∧ Q (.inl (some (.int (nI 2)))) h')) : Zm g zL_cell [.ref 1, .int x0, .int x1, .int x2, .ref 66] hh mc ms Q := by
  show Zn g zL_cell 0 [some (.ref 1), some (.int x0), some (.int x1), some (.int x2), some (.ref 66), none] [] hh mc ms _
  refine zn_aload (pc := 0) rfl rfl ?_
  refine zn_iconstN (pc := 2) 0 rfl rfl ?_
  refine zn_aload_n (pc := 3) rfl rfl ?_
  refine zn_iload_n (pc := 4) rfl rfl ?_
  refine zn_iload_n (pc := 5) rfl rfl ?_
  refine zn_iload_n (pc := 6) rfl rfl ?_
  refine zn_callVC (pc := 7) (mc1 := mc) (ms1 := ms) (mc2 := 0) (ms2 := 0) (J := zX9_cell) (o := 1) (as := [.int x0, .int x1, .int x2]) (rest := [.int (nI 0), .ref 66]) rfl rfl rfl rfl h1 rfl rfl rfl (Nat.le_of_ble_eq_true rfl) (Nat.le_of_ble_eq_true rfl) (Nat.le_of_ble_eq_true rfl) (Nat.le_of_ble_eq_true rfl) hm ?_ ?_
  · intro v h' q
    obtain ⟨w, u, rfl, h66, hQ⟩ := Kv v h' q
    show Zn g zL_cell 10 _ [.int w, .int (nI 0), .ref 66] _ _ _ _
    refine zn_i2l (pc := 10) rfl ?_
    refine zn_lastN (pc := 11) rfl (by decide) h66 (by decide) (by decide) ?_
    refine zn_goto (pc := 12) (tgt := 23) rfl rfl ?_
    refine zn_iconstN (pc := 23) 0 rfl rfl ?_
    exact zn_iret (pc := 24) rfl rfl hQ
  · intro E h' q
    rcases Kt E h' q with ⟨rfl, hQ⟩ | ⟨rfl, hQ⟩
    · refine ⟨15, 5, 2, 0, 0, by decide, Or.inr ⟨rfl, rfl⟩, by decide, ?_⟩
      refine zn_iconstN (pc := 17) 1 rfl rfl ?_
      exact zn_iret (pc := 18) rfl rfl hQ
    · refine ⟨19, 5, 2, 0, 0, by decide, Or.inr ⟨rfl, rfl⟩, by decide, ?_⟩
      refine zn_iconstN (pc := 21) 2 rfl rfl ?_
      exact zn_iret (pc := 22) rfl rfl hQ
theorem w_letter (h1 : hh.1 1 = some (.inr (8, fs))) {x0 x1 x2 : Int32} (hm : Zm g zX9_letter [.ref 1, .int x0, .int x1, .int x2] hh mc ms Q1)
    (Kv : ∀ v h', Q1 (.inl v) h' → ∃ (w : Int32) (u : Nat → Int64), v = some (.int w) ∧ h'.1 66 = some (.inl (1, .inr (.inl (u)))) ∧ Q (.inl (some (.int (nI 0)))) (zup h' 66 (.inl (1, .inr (.inl (vp_updL u 0 w.toInt64))))))
    (Kt : ∀ E h', Q1 (.inr E) h' → (E = 2 ∧ Q (.inl (some (.int (nI 1)))) h')) : Zm g zL_letter [.ref 1, .int x0, .int x1, .int x2, .ref 66] hh mc ms Q := by
  show Zn g zL_letter 0 [some (.ref 1), some (.int x0), some (.int x1), some (.int x2), some (.ref 66), none] [] hh mc ms _
  refine zn_aload (pc := 0) rfl rfl ?_
  refine zn_iconstN (pc := 2) 0 rfl rfl ?_
  refine zn_aload_n (pc := 3) rfl rfl ?_
  refine zn_iload_n (pc := 4) rfl rfl ?_
  refine zn_iload_n (pc := 5) rfl rfl ?_
  refine zn_iload_n (pc := 6) rfl rfl ?_
  refine zn_callVC (pc := 7) (mc1 := mc) (ms1 := ms) (mc2 := 0) (ms2 := 0) (J := zX9_letter) (o := 1) (as := [.int x0, .int x1, .int x2]) (rest := [.int (nI 0), .ref 66]) rfl rfl rfl rfl h1 rfl rfl rfl (Nat.le_of_ble_eq_true rfl) (Nat.le_of_ble_eq_true rfl) (Nat.le_of_ble_eq_true rfl) (Nat.le_of_ble_eq_true rfl) hm ?_ ?_
  · intro v h' q
    obtain ⟨w, u, rfl, h66, hQ⟩ := Kv v h' q
    show Zn g zL_letter 10 _ [.int w, .int (nI 0), .ref 66] _ _ _ _
    refine zn_i2l (pc := 10) rfl ?_
    refine zn_lastN (pc := 11) rfl (by decide) h66 (by decide) (by decide) ?_
    refine zn_goto (pc := 12) (tgt := 19) rfl rfl ?_
    refine zn_iconstN (pc := 19) 0 rfl rfl ?_
    exact zn_iret (pc := 20) rfl rfl hQ
  · intro E h' q
    rcases Kt E h' q with ⟨rfl, hQ⟩
    · refine ⟨15, 5, 2, 0, 0, by decide, Or.inr ⟨rfl, rfl⟩, by decide, ?_⟩
      refine zn_iconstN (pc := 17) 1 rfl rfl ?_
      exact zn_iret (pc := 18) rfl rfl hQ
theorem w_shown (h1 : hh.1 1 = some (.inr (8, fs))) {x0 x1 : Int32} (hm : Zm g zX9_shown [.ref 1, .int x0, .int x1] hh mc ms Q1)
    (Kv : ∀ v h', Q1 (.inl v) h' → ∃ (w : Int32) (u : Nat → Int64), v = some (.int w) ∧ h'.1 66 = some (.inl (1, .inr (.inl (u)))) ∧ Q (.inl (some (.int (nI 0)))) (zup h' 66 (.inl (1, .inr (.inl (vp_updL u 0 w.toInt64))))))
    (Kt : ∀ E h', Q1 (.inr E) h' → (E = 2 ∧ Q (.inl (some (.int (nI 1)))) h')) : Zm g zL_shown [.ref 1, .int x0, .int x1, .ref 66] hh mc ms Q := by
  show Zn g zL_shown 0 [some (.ref 1), some (.int x0), some (.int x1), some (.ref 66), none] [] hh mc ms _
  refine zn_aload_n (pc := 0) rfl rfl ?_
  refine zn_iconstN (pc := 1) 0 rfl rfl ?_
  refine zn_aload_n (pc := 2) rfl rfl ?_
  refine zn_iload_n (pc := 3) rfl rfl ?_
  refine zn_iload_n (pc := 4) rfl rfl ?_
  refine zn_callVC (pc := 5) (mc1 := mc) (ms1 := ms) (mc2 := 0) (ms2 := 0) (J := zX9_shown) (o := 1) (as := [.int x0, .int x1]) (rest := [.int (nI 0), .ref 66]) rfl rfl rfl rfl h1 rfl rfl rfl (Nat.le_of_ble_eq_true rfl) (Nat.le_of_ble_eq_true rfl) (Nat.le_of_ble_eq_true rfl) (Nat.le_of_ble_eq_true rfl) hm ?_ ?_
  · intro v h' q
    obtain ⟨w, u, rfl, h66, hQ⟩ := Kv v h' q
    show Zn g zL_shown 8 _ [.int w, .int (nI 0), .ref 66] _ _ _ _
    refine zn_i2l (pc := 8) rfl ?_
    refine zn_lastN (pc := 9) rfl (by decide) h66 (by decide) (by decide) ?_
    refine zn_goto (pc := 10) (tgt := 17) rfl rfl ?_
    refine zn_iconstN (pc := 17) 0 rfl rfl ?_
    exact zn_iret (pc := 18) rfl rfl hQ
  · intro E h' q
    rcases Kt E h' q with ⟨rfl, hQ⟩
    · refine ⟨13, 4, 2, 0, 0, by decide, Or.inr ⟨rfl, rfl⟩, by decide, ?_⟩
      refine zn_iconstN (pc := 15) 1 rfl rfl ?_
      exact zn_iret (pc := 16) rfl rfl hQ
theorem w_hit (h1 : hh.1 1 = some (.inr (8, fs))) {x0 x1 : Int32} (hm : Zm g zX9_hit [.ref 1, .int x0, .int x1] hh mc ms Q1)
    (Kv : ∀ v h', Q1 (.inl v) h' → ∃ (w : Int32) (u : Nat → Int64), v = some (.int w) ∧ h'.1 66 = some (.inl (1, .inr (.inl (u)))) ∧ Q (.inl (some (.int (nI 0)))) (zup h' 66 (.inl (1, .inr (.inl (vp_updL u 0 w.toInt64))))))
    (Kt : ∀ E h', Q1 (.inr E) h' → (E = 2 ∧ Q (.inl (some (.int (nI 1)))) h')) : Zm g zL_hit [.ref 1, .int x0, .int x1, .ref 66] hh mc ms Q := by
  show Zn g zL_hit 0 [some (.ref 1), some (.int x0), some (.int x1), some (.ref 66), none] [] hh mc ms _
  refine zn_aload_n (pc := 0) rfl rfl ?_
  refine zn_iconstN (pc := 1) 0 rfl rfl ?_
  refine zn_aload_n (pc := 2) rfl rfl ?_
  refine zn_iload_n (pc := 3) rfl rfl ?_
  refine zn_iload_n (pc := 4) rfl rfl ?_
  refine zn_callVC (pc := 5) (mc1 := mc) (ms1 := ms) (mc2 := 0) (ms2 := 0) (J := zX9_hit) (o := 1) (as := [.int x0, .int x1]) (rest := [.int (nI 0), .ref 66]) rfl rfl rfl rfl h1 rfl rfl rfl (Nat.le_of_ble_eq_true rfl) (Nat.le_of_ble_eq_true rfl) (Nat.le_of_ble_eq_true rfl) (Nat.le_of_ble_eq_true rfl) hm ?_ ?_
  · intro v h' q
    obtain ⟨w, u, rfl, h66, hQ⟩ := Kv v h' q
    show Zn g zL_hit 8 _ [.int w, .int (nI 0), .ref 66] _ _ _ _
    refine zn_i2l (pc := 8) rfl ?_
    refine zn_lastN (pc := 9) rfl (by decide) h66 (by decide) (by decide) ?_
    refine zn_goto (pc := 10) (tgt := 17) rfl rfl ?_
    refine zn_iconstN (pc := 17) 0 rfl rfl ?_
    exact zn_iret (pc := 18) rfl rfl hQ
  · intro E h' q
    rcases Kt E h' q with ⟨rfl, hQ⟩
    · refine ⟨13, 4, 2, 0, 0, by decide, Or.inr ⟨rfl, rfl⟩, by decide, ?_⟩
      refine zn_iconstN (pc := 15) 1 rfl rfl ?_
      exact zn_iret (pc := 16) rfl rfl hQ
theorem w_find (h1 : hh.1 1 = some (.inr (8, fs))) {x0 x1 : Int32} (hm : Zm g zX9_find [.ref 1, .int x0, .int x1] hh mc ms Q1)
    (Kv : ∀ v h', Q1 (.inl v) h' → ∃ (w : Int32) (u : Nat → Int64), v = some (.int w) ∧ h'.1 66 = some (.inl (1, .inr (.inl (u)))) ∧ Q (.inl (some (.int (nI 0)))) (zup h' 66 (.inl (1, .inr (.inl (vp_updL u 0 w.toInt64))))))
    (Kt : ∀ E h', Q1 (.inr E) h' → (E = 2 ∧ Q (.inl (some (.int (nI 1)))) h') ∨ (E = 1 ∧ Q (.inl (some (.int (nI 2)))) h')) : Zm g zL_find [.ref 1, .int x0, .int x1, .ref 66] hh mc ms Q := by
  show Zn g zL_find 0 [some (.ref 1), some (.int x0), some (.int x1), some (.ref 66), none] [] hh mc ms _
  refine zn_aload_n (pc := 0) rfl rfl ?_
  refine zn_iconstN (pc := 1) 0 rfl rfl ?_
  refine zn_aload_n (pc := 2) rfl rfl ?_
  refine zn_iload_n (pc := 3) rfl rfl ?_
  refine zn_iload_n (pc := 4) rfl rfl ?_
  refine zn_callVC (pc := 5) (mc1 := mc) (ms1 := ms) (mc2 := 0) (ms2 := 0) (J := zX9_find) (o := 1) (as := [.int x0, .int x1]) (rest := [.int (nI 0), .ref 66]) rfl rfl rfl rfl h1 rfl rfl rfl (Nat.le_of_ble_eq_true rfl) (Nat.le_of_ble_eq_true rfl) (Nat.le_of_ble_eq_true rfl) (Nat.le_of_ble_eq_true rfl) hm ?_ ?_
  · intro v h' q
    obtain ⟨w, u, rfl, h66, hQ⟩ := Kv v h' q
    show Zn g zL_find 8 _ [.int w, .int (nI 0), .ref 66] _ _ _ _
    refine zn_i2l (pc := 8) rfl ?_
    refine zn_lastN (pc := 9) rfl (by decide) h66 (by decide) (by decide) ?_
    refine zn_goto (pc := 10) (tgt := 21) rfl rfl ?_
    refine zn_iconstN (pc := 21) 0 rfl rfl ?_
    exact zn_iret (pc := 22) rfl rfl hQ
  · intro E h' q
    rcases Kt E h' q with ⟨rfl, hQ⟩ | ⟨rfl, hQ⟩
    · refine ⟨13, 4, 2, 0, 0, by decide, Or.inr ⟨rfl, rfl⟩, by decide, ?_⟩
      refine zn_iconstN (pc := 15) 1 rfl rfl ?_
      exact zn_iret (pc := 16) rfl rfl hQ
    · refine ⟨17, 4, 2, 0, 0, by decide, Or.inr ⟨rfl, rfl⟩, by decide, ?_⟩
      refine zn_iconstN (pc := 19) 2 rfl rfl ?_
      exact zn_iret (pc := 20) rfl rfl hQ
theorem w_block (h1 : hh.1 1 = some (.inr (8, fs))) {x0 x1 : Int32} (hm : Zm g zX9_block [.ref 1, .int x0, .int x1] hh mc ms Q1)
    (Kv : ∀ v h', Q1 (.inl v) h' → ∃ (w : Int32) (u : Nat → Int64), v = some (.int w) ∧ h'.1 66 = some (.inl (1, .inr (.inl (u)))) ∧ Q (.inl (some (.int (nI 0)))) (zup h' 66 (.inl (1, .inr (.inl (vp_updL u 0 w.toInt64))))))
    (Kt : ∀ E h', Q1 (.inr E) h' → (E = 2 ∧ Q (.inl (some (.int (nI 1)))) h') ∨ (E = 0 ∧ Q (.inl (some (.int (nI 2)))) h')) : Zm g zL_block [.ref 1, .int x0, .int x1, .ref 66] hh mc ms Q := by
  show Zn g zL_block 0 [some (.ref 1), some (.int x0), some (.int x1), some (.ref 66), none] [] hh mc ms _
  refine zn_aload_n (pc := 0) rfl rfl ?_
  refine zn_iconstN (pc := 1) 0 rfl rfl ?_
  refine zn_aload_n (pc := 2) rfl rfl ?_
  refine zn_iload_n (pc := 3) rfl rfl ?_
  refine zn_iload_n (pc := 4) rfl rfl ?_
  refine zn_callVC (pc := 5) (mc1 := mc) (ms1 := ms) (mc2 := 0) (ms2 := 0) (J := zX9_block) (o := 1) (as := [.int x0, .int x1]) (rest := [.int (nI 0), .ref 66]) rfl rfl rfl rfl h1 rfl rfl rfl (Nat.le_of_ble_eq_true rfl) (Nat.le_of_ble_eq_true rfl) (Nat.le_of_ble_eq_true rfl) (Nat.le_of_ble_eq_true rfl) hm ?_ ?_
  · intro v h' q
    obtain ⟨w, u, rfl, h66, hQ⟩ := Kv v h' q
    show Zn g zL_block 8 _ [.int w, .int (nI 0), .ref 66] _ _ _ _
    refine zn_i2l (pc := 8) rfl ?_
    refine zn_lastN (pc := 9) rfl (by decide) h66 (by decide) (by decide) ?_
    refine zn_goto (pc := 10) (tgt := 21) rfl rfl ?_
    refine zn_iconstN (pc := 21) 0 rfl rfl ?_
    exact zn_iret (pc := 22) rfl rfl hQ
  · intro E h' q
    rcases Kt E h' q with ⟨rfl, hQ⟩ | ⟨rfl, hQ⟩
    · refine ⟨13, 4, 2, 0, 0, by decide, Or.inr ⟨rfl, rfl⟩, by decide, ?_⟩
      refine zn_iconstN (pc := 15) 1 rfl rfl ?_
      exact zn_iret (pc := 16) rfl rfl hQ
    · refine ⟨17, 4, 2, 0, 0, by decide, Or.inr ⟨rfl, rfl⟩, by decide, ?_⟩
      refine zn_iconstN (pc := 19) 2 rfl rfl ?_
      exact zn_iret (pc := 20) rfl rfl hQ
theorem w_sum (h1 : hh.1 1 = some (.inr (8, fs))) {x0 : Int32} (hm : Zm g zX9_sum [.ref 1, .int x0] hh mc ms Q1)
    (Kv : ∀ v h', Q1 (.inl v) h' → ∃ (w : Int64) (u : Nat → Int64), v = some (.long w) ∧ h'.1 66 = some (.inl (1, .inr (.inl (u)))) ∧ Q (.inl (some (.int (nI 0)))) (zup h' 66 (.inl (1, .inr (.inl (vp_updL u 0 w))))))
    (Kt : ∀ E h', Q1 (.inr E) h' → (E = 2 ∧ Q (.inl (some (.int (nI 1)))) h')) : Zm g zL_sum [.ref 1, .int x0, .ref 66] hh mc ms Q := by
  show Zn g zL_sum 0 [some (.ref 1), some (.int x0), some (.ref 66), none] [] hh mc ms _
  refine zn_aload_n (pc := 0) rfl rfl ?_
  refine zn_iconstN (pc := 1) 0 rfl rfl ?_
  refine zn_aload_n (pc := 2) rfl rfl ?_
  refine zn_iload_n (pc := 3) rfl rfl ?_
  refine zn_callVC (pc := 4) (mc1 := mc) (ms1 := ms) (mc2 := 0) (ms2 := 0) (J := zX9_sum) (o := 1) (as := [.int x0]) (rest := [.int (nI 0), .ref 66]) rfl rfl rfl rfl h1 rfl rfl rfl (Nat.le_of_ble_eq_true rfl) (Nat.le_of_ble_eq_true rfl) (Nat.le_of_ble_eq_true rfl) (Nat.le_of_ble_eq_true rfl) hm ?_ ?_
  · intro v h' q
    obtain ⟨w, u, rfl, h66, hQ⟩ := Kv v h' q
    show Zn g zL_sum 7 _ [.long w, .int (nI 0), .ref 66] _ _ _ _
    refine zn_lastN (pc := 7) rfl (by decide) h66 (by decide) (by decide) ?_
    refine zn_goto (pc := 8) (tgt := 14) rfl rfl ?_
    refine zn_iconstN (pc := 14) 0 rfl rfl ?_
    exact zn_iret (pc := 15) rfl rfl hQ
  · intro E h' q
    rcases Kt E h' q with ⟨rfl, hQ⟩
    · refine ⟨11, 3, 1, 0, 0, by decide, Or.inl ⟨3, rfl, rfl, rfl⟩, by decide, ?_⟩
      refine zn_iconstN (pc := 12) 1 rfl rfl ?_
      exact zn_iret (pc := 13) rfl rfl hQ
theorem w_mean (h1 : hh.1 1 = some (.inr (8, fs))) {x0 : Int32} (hm : Zm g zX9_mean [.ref 1, .int x0] hh mc ms Q1)
    (Kv : ∀ v h', Q1 (.inl v) h' → ∃ (w : UInt64) (u : Nat → UInt64), v = some (.double w) ∧ h'.1 67 = some (.inl (1, .inr (.inr (.inr (.inl (u)))))) ∧ Q (.inl (some (.int (nI 0)))) (zup h' 67 (.inl (1, .inr (.inr (.inr (.inl (va_up u 0 w))))))))
    (Kt : ∀ E h', Q1 (.inr E) h' → (E = 2 ∧ Q (.inl (some (.int (nI 1)))) h')) : Zm g zL_mean [.ref 1, .int x0, .ref 67] hh mc ms Q := by
  show Zn g zL_mean 0 [some (.ref 1), some (.int x0), some (.ref 67), none] [] hh mc ms _
  refine zn_aload_n (pc := 0) rfl rfl ?_
  refine zn_iconstN (pc := 1) 0 rfl rfl ?_
  refine zn_aload_n (pc := 2) rfl rfl ?_
  refine zn_iload_n (pc := 3) rfl rfl ?_
  refine zn_callVC (pc := 4) (mc1 := mc) (ms1 := ms) (mc2 := 0) (ms2 := 0) (J := zX9_mean) (o := 1) (as := [.int x0]) (rest := [.int (nI 0), .ref 67]) rfl rfl rfl rfl h1 rfl rfl rfl (Nat.le_of_ble_eq_true rfl) (Nat.le_of_ble_eq_true rfl) (Nat.le_of_ble_eq_true rfl) (Nat.le_of_ble_eq_true rfl) hm ?_ ?_
  · intro v h' q
    obtain ⟨w, u, rfl, h66, hQ⟩ := Kv v h' q
    show Zn g zL_mean 7 _ [.double w, .int (nI 0), .ref 67] _ _ _ _
    refine zn_dastN (pc := 7) rfl (by decide) h66 (by decide) (by decide) ?_
    refine zn_goto (pc := 8) (tgt := 14) rfl rfl ?_
    refine zn_iconstN (pc := 14) 0 rfl rfl ?_
    exact zn_iret (pc := 15) rfl rfl hQ
  · intro E h' q
    rcases Kt E h' q with ⟨rfl, hQ⟩
    · refine ⟨11, 3, 1, 0, 0, by decide, Or.inl ⟨3, rfl, rfl, rfl⟩, by decide, ?_⟩
      refine zn_iconstN (pc := 12) 1 rfl rfl ?_
      exact zn_iret (pc := 13) rfl rfl hQ
theorem w_touched (h1 : hh.1 1 = some (.inr (8, fs))) {x0 : Int32} (hm : Zm g zX9_touched [.ref 1, .int x0] hh mc ms Q1)
    (Kv : ∀ v h', Q1 (.inl v) h' → ∃ (w : Int32) (u : Nat → Int64), v = some (.int w) ∧ h'.1 66 = some (.inl (1, .inr (.inl (u)))) ∧ Q (.inl (some (.int (nI 0)))) (zup h' 66 (.inl (1, .inr (.inl (vp_updL u 0 w.toInt64))))))
    (Kt : ∀ E h', Q1 (.inr E) h' → (E = 2 ∧ Q (.inl (some (.int (nI 1)))) h')) : Zm g zL_touched [.ref 1, .int x0, .ref 66] hh mc ms Q := by
  show Zn g zL_touched 0 [some (.ref 1), some (.int x0), some (.ref 66), none] [] hh mc ms _
  refine zn_aload_n (pc := 0) rfl rfl ?_
  refine zn_iconstN (pc := 1) 0 rfl rfl ?_
  refine zn_aload_n (pc := 2) rfl rfl ?_
  refine zn_iload_n (pc := 3) rfl rfl ?_
  refine zn_callVC (pc := 4) (mc1 := mc) (ms1 := ms) (mc2 := 0) (ms2 := 0) (J := zX9_touched) (o := 1) (as := [.int x0]) (rest := [.int (nI 0), .ref 66]) rfl rfl rfl rfl h1 rfl rfl rfl (Nat.le_of_ble_eq_true rfl) (Nat.le_of_ble_eq_true rfl) (Nat.le_of_ble_eq_true rfl) (Nat.le_of_ble_eq_true rfl) hm ?_ ?_
  · intro v h' q
    obtain ⟨w, u, rfl, h66, hQ⟩ := Kv v h' q
    show Zn g zL_touched 7 _ [.int w, .int (nI 0), .ref 66] _ _ _ _
    refine zn_i2l (pc := 7) rfl ?_
    refine zn_lastN (pc := 8) rfl (by decide) h66 (by decide) (by decide) ?_
    refine zn_goto (pc := 9) (tgt := 15) rfl rfl ?_
    refine zn_iconstN (pc := 15) 0 rfl rfl ?_
    exact zn_iret (pc := 16) rfl rfl hQ
  · intro E h' q
    rcases Kt E h' q with ⟨rfl, hQ⟩
    · refine ⟨12, 3, 1, 0, 0, by decide, Or.inl ⟨3, rfl, rfl, rfl⟩, by decide, ?_⟩
      refine zn_iconstN (pc := 13) 1 rfl rfl ?_
      exact zn_iret (pc := 14) rfl rfl hQ
theorem w_ifTyped (h1 : hh.1 1 = some (.inr (8, fs))) {x0 x1 x2 x3 : Int32} (hm : Zm g zX9_ifTyped [.ref 1, .int x0, .int x1, .int x2, .int x3] hh mc ms Q1)
    (Kv : ∀ v h', Q1 (.inl v) h' → ∃ (w : Int32) (u : Nat → Int64), v = some (.int w) ∧ h'.1 66 = some (.inl (1, .inr (.inl (u)))) ∧ Q (.inl (some (.int (nI 0)))) (zup h' 66 (.inl (1, .inr (.inl (vp_updL u 0 w.toInt64))))))
    (Kt : ∀ E h', Q1 (.inr E) h' → (E = 2 ∧ Q (.inl (some (.int (nI 1)))) h') ∨ (E = 0 ∧ Q (.inl (some (.int (nI 2)))) h') ∨ (E = 1 ∧ Q (.inl (some (.int (nI 3)))) h')) : Zm g zL_ifTyped [.ref 1, .int x0, .int x1, .int x2, .int x3, .ref 66] hh mc ms Q := by
  show Zn g zL_ifTyped 0 [some (.ref 1), some (.int x0), some (.int x1), some (.int x2), some (.int x3), some (.ref 66), none] [] hh mc ms _
  refine zn_aload (pc := 0) rfl rfl ?_
  refine zn_iconstN (pc := 2) 0 rfl rfl ?_
  refine zn_aload_n (pc := 3) rfl rfl ?_
  refine zn_iload_n (pc := 4) rfl rfl ?_
  refine zn_iload_n (pc := 5) rfl rfl ?_
  refine zn_iload_n (pc := 6) rfl rfl ?_
  refine zn_iload (pc := 7) rfl rfl ?_
  refine zn_callVC (pc := 9) (mc1 := mc) (ms1 := ms) (mc2 := 0) (ms2 := 0) (J := zX9_ifTyped) (o := 1) (as := [.int x0, .int x1, .int x2, .int x3]) (rest := [.int (nI 0), .ref 66]) rfl rfl rfl rfl h1 rfl rfl rfl (Nat.le_of_ble_eq_true rfl) (Nat.le_of_ble_eq_true rfl) (Nat.le_of_ble_eq_true rfl) (Nat.le_of_ble_eq_true rfl) hm ?_ ?_
  · intro v h' q
    obtain ⟨w, u, rfl, h66, hQ⟩ := Kv v h' q
    show Zn g zL_ifTyped 12 _ [.int w, .int (nI 0), .ref 66] _ _ _ _
    refine zn_i2l (pc := 12) rfl ?_
    refine zn_lastN (pc := 13) rfl (by decide) h66 (by decide) (by decide) ?_
    refine zn_goto (pc := 14) (tgt := 29) rfl rfl ?_
    refine zn_iconstN (pc := 29) 0 rfl rfl ?_
    exact zn_iret (pc := 30) rfl rfl hQ
  · intro E h' q
    rcases Kt E h' q with ⟨rfl, hQ⟩ | ⟨rfl, hQ⟩ | ⟨rfl, hQ⟩
    · refine ⟨17, 6, 2, 0, 0, by decide, Or.inr ⟨rfl, rfl⟩, by decide, ?_⟩
      refine zn_iconstN (pc := 19) 1 rfl rfl ?_
      exact zn_iret (pc := 20) rfl rfl hQ
    · refine ⟨21, 6, 2, 0, 0, by decide, Or.inr ⟨rfl, rfl⟩, by decide, ?_⟩
      refine zn_iconstN (pc := 23) 2 rfl rfl ?_
      exact zn_iret (pc := 24) rfl rfl hQ
    · refine ⟨25, 6, 2, 0, 0, by decide, Or.inr ⟨rfl, rfl⟩, by decide, ?_⟩
      refine zn_iconstN (pc := 27) 3 rfl rfl ?_
      exact zn_iret (pc := 28) rfl rfl hQ
end w1
