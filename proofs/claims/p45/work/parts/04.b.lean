set_option maxHeartbeats 40000000 in
set_option maxRecDepth 100000 in
theorem goodA : ∀ w ∈ ALLW, (w.onTables && w.keeps) = true ∨ ∃ ty, w = .arrayClass ty := fun w h => good_of_word (List.all_eq_true.mp (show ALLW.all goodWord = true by decide +kernel) w h)
theorem goodC {cd : Cond} (h5 : cd ∈ ALLW) : GoodIn ALLW (cd :: ALLW) := by
  have k : ∀ w ∈ cd :: ALLW, w ∈ ALLW := fun w h => by
    rcases List.mem_cons.mp h with rfl | h
    · exact h5
    · exact h
  exact fun w h => ⟨k w h, goodA w (k w h)⟩
theorem goodV {own C : String} {idx : Nat} {y : MethodName} {cd : Cond} (h1 : Cond.methodLink own idx y ∈ ALLW) (h2 : Cond.instanceMethod y ∈ ALLW) (h3 : Cond.selects C y y ∈ ALLW) (h4 : Cond.initialized C ∈ ALLW) (h5 : cd ∈ ALLW) : GoodIn ALLW (wsV own idx C y (cd :: ALLW)) := by
  have k : ∀ w ∈ wsV own idx C y (cd :: ALLW), w ∈ ALLW := by
    intro w h
    unfold wsV at h
    rcases List.mem_append.mp h with h | h
    · rcases List.mem_cons.mp h with rfl | h
      · exact h1
      rcases List.mem_cons.mp h with rfl | h
      · exact h2
      rcases List.mem_cons.mp h with rfl | h
      · exact h3
      rcases List.mem_cons.mp h with rfl | h
      · exact h4
      exact absurd h List.not_mem_nil
    · rcases List.mem_cons.mp h with rfl | h
      · exact h5
      · exact h
  exact fun w h => ⟨k w h, goodA w (k w h)⟩
theorem goodS {own : String} {idx : Nat} {y : MethodName} {cd : Cond} (h1 : Cond.methodLink own idx y ∈ ALLW) (h2 : Cond.static y ∈ ALLW) (h4 : Cond.initialized y.cls ∈ ALLW) (h5 : cd ∈ ALLW) : GoodIn ALLW (va_wsS own idx y (cd :: ALLW)) := by
  have k : ∀ w ∈ va_wsS own idx y (cd :: ALLW), w ∈ ALLW := by
    intro w h
    unfold va_wsS at h
    rcases List.mem_append.mp h with h | h
    · rcases List.mem_cons.mp h with rfl | h
      · exact h1
      rcases List.mem_cons.mp h with rfl | h
      · exact h2
      rcases List.mem_cons.mp h with rfl | h
      · exact h4
      exact absurd h List.not_mem_nil
    · rcases List.mem_cons.mp h with rfl | h
      · exact h5
      · exact h
  exact fun w h => ⟨k w h, goodA w (k w h)⟩
