section w3
variable {g : zG}
theorem W_append {x0 : Int32} : WR tyI g zX9_append zL_append [.int x0] [0, 1] := by
  intro hh fs mc ms Q1 Q h1 hm Kv Kt
  refine w_append h1 hm (fun v h' q => ?_) (fun E h' q => ?_)
  · obtain ⟨w, e, ⟨u, e6⟩, ⟨u7, e7⟩, K⟩ := Kv v h' q
    exact ⟨w, u, e, e6, K _ ⟨_, rfl, if_pos rfl⟩⟩
  · obtain ⟨i, e, hq⟩ := Kt E h' q
    match i, e, hq with
    | 0, e, hq => exact Or.inl ⟨(Option.some.inj e).symm, hq⟩
    | 1, e, hq => exact Or.inr (⟨(Option.some.inj e).symm, hq⟩)
    | i + 2, e, hq => exact absurd e (by simp)
theorem W_firstError {x0 : Int32} : WR tyI g zX9_firstError zL_firstError [.int x0] [0] := by
  intro hh fs mc ms Q1 Q h1 hm Kv Kt
  refine w_firstError h1 hm (fun v h' q => ?_) (fun E h' q => ?_)
  · obtain ⟨w, e, ⟨u, e6⟩, ⟨u7, e7⟩, K⟩ := Kv v h' q
    exact ⟨w, u, e, e6, K _ ⟨_, rfl, if_pos rfl⟩⟩
  · obtain ⟨i, e, hq⟩ := Kt E h' q
    match i, e, hq with
    | 0, e, hq => exact ⟨(Option.some.inj e).symm, hq⟩
    | i + 1, e, hq => exact absurd e (by simp)
theorem W_load : WR tyI g zX9_load zL_load [] [1] := by
  intro hh fs mc ms Q1 Q h1 hm Kv Kt
  refine w_load h1 hm (fun v h' q => ?_) (fun E h' q => ?_)
  · obtain ⟨w, e, ⟨u, e6⟩, ⟨u7, e7⟩, K⟩ := Kv v h' q
    exact ⟨w, u, e, e6, K _ ⟨_, rfl, if_pos rfl⟩⟩
  · obtain ⟨i, e, hq⟩ := Kt E h' q
    match i, e, hq with
    | 0, e, hq => exact ⟨(Option.some.inj e).symm, hq⟩
    | i + 1, e, hq => exact absurd e (by simp)
theorem W_type {x0 x1 x2 x3 : Int32} : WR tyI g zX9_type zL_type [.int x0, .int x1, .int x2, .int x3] [2, 0, 1] := by
  intro hh fs mc ms Q1 Q h1 hm Kv Kt
  refine w_type h1 hm (fun v h' q => ?_) (fun E h' q => ?_)
  · obtain ⟨w, e, ⟨u, e6⟩, ⟨u7, e7⟩, K⟩ := Kv v h' q
    exact ⟨w, u, e, e6, K _ ⟨_, rfl, if_pos rfl⟩⟩
  · obtain ⟨i, e, hq⟩ := Kt E h' q
    match i, e, hq with
    | 0, e, hq => exact Or.inl ⟨(Option.some.inj e).symm, hq⟩
    | 1, e, hq => exact Or.inr (Or.inl ⟨(Option.some.inj e).symm, hq⟩)
    | 2, e, hq => exact Or.inr (Or.inr (⟨(Option.some.inj e).symm, hq⟩))
    | i + 3, e, hq => exact absurd e (by simp)
theorem W_erase {x0 x1 x2 : Int32} : WR tyI g zX9_erase zL_erase [.int x0, .int x1, .int x2] [2, 1] := by
  intro hh fs mc ms Q1 Q h1 hm Kv Kt
  refine w_erase h1 hm (fun v h' q => ?_) (fun E h' q => ?_)
  · obtain ⟨w, e, ⟨u, e6⟩, ⟨u7, e7⟩, K⟩ := Kv v h' q
    exact ⟨w, u, e, e6, K _ ⟨_, rfl, if_pos rfl⟩⟩
  · obtain ⟨i, e, hq⟩ := Kt E h' q
    match i, e, hq with
    | 0, e, hq => exact Or.inl ⟨(Option.some.inj e).symm, hq⟩
    | 1, e, hq => exact Or.inr (⟨(Option.some.inj e).symm, hq⟩)
    | i + 2, e, hq => exact absurd e (by simp)
theorem W_setCell {x0 x1 : Int32} : WR tyI g zX9_setCell zL_setCell [.int x0, .int x1] [2, 1] := by
  intro hh fs mc ms Q1 Q h1 hm Kv Kt
  refine w_setCell h1 hm (fun v h' q => ?_) (fun E h' q => ?_)
  · obtain ⟨w, e, ⟨u, e6⟩, ⟨u7, e7⟩, K⟩ := Kv v h' q
    exact ⟨w, u, e, e6, K _ ⟨_, rfl, if_pos rfl⟩⟩
  · obtain ⟨i, e, hq⟩ := Kt E h' q
    match i, e, hq with
    | 0, e, hq => exact Or.inl ⟨(Option.some.inj e).symm, hq⟩
    | 1, e, hq => exact Or.inr (⟨(Option.some.inj e).symm, hq⟩)
    | i + 2, e, hq => exact absurd e (by simp)
theorem W_insertLine {x0 : Int32} : WR tyI g zX9_insertLine zL_insertLine [.int x0] [2, 1] := by
  intro hh fs mc ms Q1 Q h1 hm Kv Kt
  refine w_insertLine h1 hm (fun v h' q => ?_) (fun E h' q => ?_)
  · obtain ⟨w, e, ⟨u, e6⟩, ⟨u7, e7⟩, K⟩ := Kv v h' q
    exact ⟨w, u, e, e6, K _ ⟨_, rfl, if_pos rfl⟩⟩
  · obtain ⟨i, e, hq⟩ := Kt E h' q
    match i, e, hq with
    | 0, e, hq => exact Or.inl ⟨(Option.some.inj e).symm, hq⟩
    | 1, e, hq => exact Or.inr (⟨(Option.some.inj e).symm, hq⟩)
    | i + 2, e, hq => exact absurd e (by simp)
theorem W_removeLine {x0 : Int32} : WR tyI g zX9_removeLine zL_removeLine [.int x0] [2, 1] := by
  intro hh fs mc ms Q1 Q h1 hm Kv Kt
  refine w_removeLine h1 hm (fun v h' q => ?_) (fun E h' q => ?_)
  · obtain ⟨w, e, ⟨u, e6⟩, ⟨u7, e7⟩, K⟩ := Kv v h' q
    exact ⟨w, u, e, e6, K _ ⟨_, rfl, if_pos rfl⟩⟩
  · obtain ⟨i, e, hq⟩ := Kt E h' q
    match i, e, hq with
    | 0, e, hq => exact Or.inl ⟨(Option.some.inj e).symm, hq⟩
    | 1, e, hq => exact Or.inr (⟨(Option.some.inj e).symm, hq⟩)
    | i + 2, e, hq => exact absurd e (by simp)
theorem W_moveLine {x0 x1 : Int32} : WR tyI g zX9_moveLine zL_moveLine [.int x0, .int x1] [2] := by
  intro hh fs mc ms Q1 Q h1 hm Kv Kt
  refine w_moveLine h1 hm (fun v h' q => ?_) (fun E h' q => ?_)
  · obtain ⟨w, e, ⟨u, e6⟩, ⟨u7, e7⟩, K⟩ := Kv v h' q
    exact ⟨w, u, e, e6, K _ ⟨_, rfl, if_pos rfl⟩⟩
  · obtain ⟨i, e, hq⟩ := Kt E h' q
    match i, e, hq with
    | 0, e, hq => exact ⟨(Option.some.inj e).symm, hq⟩
    | i + 1, e, hq => exact absurd e (by simp)
theorem W_sort {x0 x1 x2 : Int32} : WR tyI g zX9_sort zL_sort [.int x0, .int x1, .int x2] [2, 0] := by
  intro hh fs mc ms Q1 Q h1 hm Kv Kt
  refine w_sort h1 hm (fun v h' q => ?_) (fun E h' q => ?_)
  · obtain ⟨w, e, ⟨u, e6⟩, ⟨u7, e7⟩, K⟩ := Kv v h' q
    exact ⟨w, u, e, e6, K _ ⟨_, rfl, if_pos rfl⟩⟩
  · obtain ⟨i, e, hq⟩ := Kt E h' q
    match i, e, hq with
    | 0, e, hq => exact Or.inl ⟨(Option.some.inj e).symm, hq⟩
    | 1, e, hq => exact Or.inr (⟨(Option.some.inj e).symm, hq⟩)
    | i + 2, e, hq => exact absurd e (by simp)
theorem W_insertColumn {x0 : Int32} : WR tyI g zX9_insertColumn zL_insertColumn [.int x0] [2, 1] := by
  intro hh fs mc ms Q1 Q h1 hm Kv Kt
  refine w_insertColumn h1 hm (fun v h' q => ?_) (fun E h' q => ?_)
  · obtain ⟨w, e, ⟨u, e6⟩, ⟨u7, e7⟩, K⟩ := Kv v h' q
    exact ⟨w, u, e, e6, K _ ⟨_, rfl, if_pos rfl⟩⟩
  · obtain ⟨i, e, hq⟩ := Kt E h' q
    match i, e, hq with
    | 0, e, hq => exact Or.inl ⟨(Option.some.inj e).symm, hq⟩
    | 1, e, hq => exact Or.inr (⟨(Option.some.inj e).symm, hq⟩)
    | i + 2, e, hq => exact absurd e (by simp)
theorem W_removeColumn {x0 : Int32} : WR tyI g zX9_removeColumn zL_removeColumn [.int x0] [2] := by
  intro hh fs mc ms Q1 Q h1 hm Kv Kt
  refine w_removeColumn h1 hm (fun v h' q => ?_) (fun E h' q => ?_)
  · obtain ⟨w, e, ⟨u, e6⟩, ⟨u7, e7⟩, K⟩ := Kv v h' q
    exact ⟨w, u, e, e6, K _ ⟨_, rfl, if_pos rfl⟩⟩
  · obtain ⟨i, e, hq⟩ := Kt E h' q
    match i, e, hq with
    | 0, e, hq => exact ⟨(Option.some.inj e).symm, hq⟩
    | i + 1, e, hq => exact absurd e (by simp)
theorem W_retab {x0 x1 : Int32} : WR tyI g zX9_retab zL_retab [.int x0, .int x1] [2, 0, 1] := by
  intro hh fs mc ms Q1 Q h1 hm Kv Kt
  refine w_retab h1 hm (fun v h' q => ?_) (fun E h' q => ?_)
  · obtain ⟨w, e, ⟨u, e6⟩, ⟨u7, e7⟩, K⟩ := Kv v h' q
    exact ⟨w, u, e, e6, K _ ⟨_, rfl, if_pos rfl⟩⟩
  · obtain ⟨i, e, hq⟩ := Kt E h' q
    match i, e, hq with
    | 0, e, hq => exact Or.inl ⟨(Option.some.inj e).symm, hq⟩
    | 1, e, hq => exact Or.inr (Or.inl ⟨(Option.some.inj e).symm, hq⟩)
    | 2, e, hq => exact Or.inr (Or.inr (⟨(Option.some.inj e).symm, hq⟩))
    | i + 3, e, hq => exact absurd e (by simp)
theorem W_undo : WR tyI g zX9_undo zL_undo [] [1] := by
  intro hh fs mc ms Q1 Q h1 hm Kv Kt
  refine w_undo h1 hm (fun v h' q => ?_) (fun E h' q => ?_)
  · obtain ⟨w, e, ⟨u, e6⟩, ⟨u7, e7⟩, K⟩ := Kv v h' q
    exact ⟨w, u, e, e6, K _ ⟨_, rfl, if_pos rfl⟩⟩
  · obtain ⟨i, e, hq⟩ := Kt E h' q
    match i, e, hq with
    | 0, e, hq => exact ⟨(Option.some.inj e).symm, hq⟩
    | i + 1, e, hq => exact absurd e (by simp)
theorem W_redo : WR tyI g zX9_redo zL_redo [] [1] := by
  intro hh fs mc ms Q1 Q h1 hm Kv Kt
  refine w_redo h1 hm (fun v h' q => ?_) (fun E h' q => ?_)
  · obtain ⟨w, e, ⟨u, e6⟩, ⟨u7, e7⟩, K⟩ := Kv v h' q
    exact ⟨w, u, e, e6, K _ ⟨_, rfl, if_pos rfl⟩⟩
  · obtain ⟨i, e, hq⟩ := Kt E h' q
    match i, e, hq with
    | 0, e, hq => exact ⟨(Option.some.inj e).symm, hq⟩
    | i + 1, e, hq => exact absurd e (by simp)
theorem W_setAlignment {x0 x1 : Int32} : WR tyI g zX9_setAlignment zL_setAlignment [.int x0, .int x1] [0] := by
  intro hh fs mc ms Q1 Q h1 hm Kv Kt
  refine w_setAlignment h1 hm (fun v h' q => ?_) (fun E h' q => ?_)
  · obtain ⟨w, e, ⟨u, e6⟩, ⟨u7, e7⟩, K⟩ := Kv v h' q
    exact ⟨w, u, e, e6, K _ ⟨_, rfl, if_pos rfl⟩⟩
  · obtain ⟨i, e, hq⟩ := Kt E h' q
    match i, e, hq with
    | 0, e, hq => exact ⟨(Option.some.inj e).symm, hq⟩
    | i + 1, e, hq => exact absurd e (by simp)
theorem W_setSpacing {x0 x1 : Int32} : WR tyI g zX9_setSpacing zL_setSpacing [.int x0, .int x1] [0] := by
  intro hh fs mc ms Q1 Q h1 hm Kv Kt
  refine w_setSpacing h1 hm (fun v h' q => ?_) (fun E h' q => ?_)
  · obtain ⟨w, e, ⟨u, e6⟩, ⟨u7, e7⟩, K⟩ := Kv v h' q
    exact ⟨w, u, e, e6, K _ ⟨_, rfl, if_pos rfl⟩⟩
  · obtain ⟨i, e, hq⟩ := Kt E h' q
    match i, e, hq with
    | 0, e, hq => exact ⟨(Option.some.inj e).symm, hq⟩
    | i + 1, e, hq => exact absurd e (by simp)
theorem W_count {x0 : Int32} : WR tyI g zX9_count zL_count [.int x0] [0] := by
  intro hh fs mc ms Q1 Q h1 hm Kv Kt
  refine w_count h1 hm (fun v h' q => ?_) (fun E h' q => ?_)
  · obtain ⟨w, e, ⟨u, e6⟩, ⟨u7, e7⟩, K⟩ := Kv v h' q
    exact ⟨w, u, e, e6, K _ ⟨_, rfl, if_pos rfl⟩⟩
  · obtain ⟨i, e, hq⟩ := Kt E h' q
    match i, e, hq with
    | 0, e, hq => exact ⟨(Option.some.inj e).symm, hq⟩
    | i + 1, e, hq => exact absurd e (by simp)
theorem W_line {x0 x1 : Int32} : WR tyI g zX9_line zL_line [.int x0, .int x1] [2, 0] := by
  intro hh fs mc ms Q1 Q h1 hm Kv Kt
  refine w_line h1 hm (fun v h' q => ?_) (fun E h' q => ?_)
  · obtain ⟨w, e, ⟨u, e6⟩, ⟨u7, e7⟩, K⟩ := Kv v h' q
    exact ⟨w, u, e, e6, K _ ⟨_, rfl, if_pos rfl⟩⟩
  · obtain ⟨i, e, hq⟩ := Kt E h' q
    match i, e, hq with
    | 0, e, hq => exact Or.inl ⟨(Option.some.inj e).symm, hq⟩
    | 1, e, hq => exact Or.inr (⟨(Option.some.inj e).symm, hq⟩)
    | i + 2, e, hq => exact absurd e (by simp)
theorem W_cell {x0 x1 x2 : Int32} : WR tyI g zX9_cell zL_cell [.int x0, .int x1, .int x2] [2, 0] := by
  intro hh fs mc ms Q1 Q h1 hm Kv Kt
  refine w_cell h1 hm (fun v h' q => ?_) (fun E h' q => ?_)
  · obtain ⟨w, e, ⟨u, e6⟩, ⟨u7, e7⟩, K⟩ := Kv v h' q
    exact ⟨w, u, e, e6, K _ ⟨_, rfl, if_pos rfl⟩⟩
  · obtain ⟨i, e, hq⟩ := Kt E h' q
    match i, e, hq with
    | 0, e, hq => exact Or.inl ⟨(Option.some.inj e).symm, hq⟩
    | 1, e, hq => exact Or.inr (⟨(Option.some.inj e).symm, hq⟩)
    | i + 2, e, hq => exact absurd e (by simp)
theorem W_letter {x0 x1 x2 : Int32} : WR tyI g zX9_letter zL_letter [.int x0, .int x1, .int x2] [2] := by
  intro hh fs mc ms Q1 Q h1 hm Kv Kt
  refine w_letter h1 hm (fun v h' q => ?_) (fun E h' q => ?_)
  · obtain ⟨w, e, ⟨u, e6⟩, ⟨u7, e7⟩, K⟩ := Kv v h' q
    exact ⟨w, u, e, e6, K _ ⟨_, rfl, if_pos rfl⟩⟩
  · obtain ⟨i, e, hq⟩ := Kt E h' q
    match i, e, hq with
    | 0, e, hq => exact ⟨(Option.some.inj e).symm, hq⟩
    | i + 1, e, hq => exact absurd e (by simp)
theorem W_shown {x0 x1 : Int32} : WR tyI g zX9_shown zL_shown [.int x0, .int x1] [2] := by
  intro hh fs mc ms Q1 Q h1 hm Kv Kt
  refine w_shown h1 hm (fun v h' q => ?_) (fun E h' q => ?_)
  · obtain ⟨w, e, ⟨u, e6⟩, ⟨u7, e7⟩, K⟩ := Kv v h' q
    exact ⟨w, u, e, e6, K _ ⟨_, rfl, if_pos rfl⟩⟩
  · obtain ⟨i, e, hq⟩ := Kt E h' q
    match i, e, hq with
    | 0, e, hq => exact ⟨(Option.some.inj e).symm, hq⟩
    | i + 1, e, hq => exact absurd e (by simp)
theorem W_hit {x0 x1 : Int32} : WR tyI g zX9_hit zL_hit [.int x0, .int x1] [2] := by
  intro hh fs mc ms Q1 Q h1 hm Kv Kt
  refine w_hit h1 hm (fun v h' q => ?_) (fun E h' q => ?_)
  · obtain ⟨w, e, ⟨u, e6⟩, ⟨u7, e7⟩, K⟩ := Kv v h' q
    exact ⟨w, u, e, e6, K _ ⟨_, rfl, if_pos rfl⟩⟩
  · obtain ⟨i, e, hq⟩ := Kt E h' q
    match i, e, hq with
    | 0, e, hq => exact ⟨(Option.some.inj e).symm, hq⟩
    | i + 1, e, hq => exact absurd e (by simp)
theorem W_find {x0 x1 : Int32} : WR tyI g zX9_find zL_find [.int x0, .int x1] [2, 1] := by
  intro hh fs mc ms Q1 Q h1 hm Kv Kt
  refine w_find h1 hm (fun v h' q => ?_) (fun E h' q => ?_)
  · obtain ⟨w, e, ⟨u, e6⟩, ⟨u7, e7⟩, K⟩ := Kv v h' q
    exact ⟨w, u, e, e6, K _ ⟨_, rfl, if_pos rfl⟩⟩
  · obtain ⟨i, e, hq⟩ := Kt E h' q
    match i, e, hq with
    | 0, e, hq => exact Or.inl ⟨(Option.some.inj e).symm, hq⟩
    | 1, e, hq => exact Or.inr (⟨(Option.some.inj e).symm, hq⟩)
    | i + 2, e, hq => exact absurd e (by simp)
theorem W_block {x0 x1 : Int32} : WR tyI g zX9_block zL_block [.int x0, .int x1] [2, 0] := by
  intro hh fs mc ms Q1 Q h1 hm Kv Kt
  refine w_block h1 hm (fun v h' q => ?_) (fun E h' q => ?_)
  · obtain ⟨w, e, ⟨u, e6⟩, ⟨u7, e7⟩, K⟩ := Kv v h' q
    exact ⟨w, u, e, e6, K _ ⟨_, rfl, if_pos rfl⟩⟩
  · obtain ⟨i, e, hq⟩ := Kt E h' q
    match i, e, hq with
    | 0, e, hq => exact Or.inl ⟨(Option.some.inj e).symm, hq⟩
    | 1, e, hq => exact Or.inr (⟨(Option.some.inj e).symm, hq⟩)
    | i + 2, e, hq => exact absurd e (by simp)
theorem W_sum {x0 : Int32} : WR tyL g zX9_sum zL_sum [.int x0] [2] := by
  intro hh fs mc ms Q1 Q h1 hm Kv Kt
  refine w_sum h1 hm (fun v h' q => ?_) (fun E h' q => ?_)
  · obtain ⟨w, e, ⟨u, e6⟩, ⟨u7, e7⟩, K⟩ := Kv v h' q
    exact ⟨w, u, e, e6, K _ ⟨_, rfl, if_pos rfl⟩⟩
  · obtain ⟨i, e, hq⟩ := Kt E h' q
    match i, e, hq with
    | 0, e, hq => exact ⟨(Option.some.inj e).symm, hq⟩
    | i + 1, e, hq => exact absurd e (by simp)
theorem W_mean {x0 : Int32} : WR tyD g zX9_mean zL_mean [.int x0] [2] := by
  intro hh fs mc ms Q1 Q h1 hm Kv Kt
  refine w_mean h1 hm (fun v h' q => ?_) (fun E h' q => ?_)
  · obtain ⟨w, e, ⟨u, e6⟩, ⟨u7, e7⟩, K⟩ := Kv v h' q
    exact ⟨w, u7, e, e7, K _ ⟨_, rfl, if_pos rfl⟩⟩
  · obtain ⟨i, e, hq⟩ := Kt E h' q
    match i, e, hq with
    | 0, e, hq => exact ⟨(Option.some.inj e).symm, hq⟩
    | i + 1, e, hq => exact absurd e (by simp)
theorem W_touched {x0 : Int32} : WR tyI g zX9_touched zL_touched [.int x0] [2] := by
  intro hh fs mc ms Q1 Q h1 hm Kv Kt
  refine w_touched h1 hm (fun v h' q => ?_) (fun E h' q => ?_)
  · obtain ⟨w, e, ⟨u, e6⟩, ⟨u7, e7⟩, K⟩ := Kv v h' q
    exact ⟨w, u, e, e6, K _ ⟨_, rfl, if_pos rfl⟩⟩
  · obtain ⟨i, e, hq⟩ := Kt E h' q
    match i, e, hq with
    | 0, e, hq => exact ⟨(Option.some.inj e).symm, hq⟩
    | i + 1, e, hq => exact absurd e (by simp)
theorem W_ifTyped {x0 x1 x2 x3 : Int32} : WR tyI g zX9_ifTyped zL_ifTyped [.int x0, .int x1, .int x2, .int x3] [2, 0, 1] := by
  intro hh fs mc ms Q1 Q h1 hm Kv Kt
  refine w_ifTyped h1 hm (fun v h' q => ?_) (fun E h' q => ?_)
  · obtain ⟨w, e, ⟨u, e6⟩, ⟨u7, e7⟩, K⟩ := Kv v h' q
    exact ⟨w, u, e, e6, K _ ⟨_, rfl, if_pos rfl⟩⟩
  · obtain ⟨i, e, hq⟩ := Kt E h' q
    match i, e, hq with
    | 0, e, hq => exact Or.inl ⟨(Option.some.inj e).symm, hq⟩
    | 1, e, hq => exact Or.inr (Or.inl ⟨(Option.some.inj e).symm, hq⟩)
    | 2, e, hq => exact Or.inr (Or.inr (⟨(Option.some.inj e).symm, hq⟩))
    | i + 3, e, hq => exact absurd e (by simp)
end w3
