theorem gQe {p : Program} {l : Launch} {e : Env} {R : Room} {s : State} {m : MethodId} {args : Array Value} {below : List Frame} {meth : Method} {c : Code} {H : Heap} {locs : List Loc} {cells slots : Nat} {Q Q' : State → Prop} {g : JFrame} (eq : Q' = Q) (h : W p l e R s m args below meth c H locs cells slots Q g) : W p l e R s m args below meth c H locs cells slots Q' g := by
  subst eq
  exact h
theorem qc_le {x y : Int64} {a b : Int} (hx : x.toInt = a) (hy : y.toInt = b) (h : lg_cmp x y ≤ 0) : a ≤ b := by
  unfold lg_cmp at h
  rw [← hx, ← hy]
  by_cases h1 : x > y
  · rw [if_pos h1] at h; exact absurd h (by decide)
  · exact Int.not_lt.mp (fun q => h1 (Int64.lt_iff_toInt_lt.mpr q))
theorem qc_nle {x y : Int64} {a b : Int} (hx : x.toInt = a) (hy : y.toInt = b) (h : ¬ lg_cmp x y ≤ 0) : b < a := by
  unfold lg_cmp at h
  rw [← hx, ← hy]
  by_cases h1 : x > y
  · exact Int64.lt_iff_toInt_lt.mp h1
  · rw [if_neg h1] at h
    by_cases h2 : x = y
    · rw [if_pos h2] at h; exact absurd (by decide) h
    · rw [if_neg h2] at h; exact absurd (by decide) h
