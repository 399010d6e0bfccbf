theorem q_sp {x : Int32} (n : Nat) (hn : n < 2 ^ 31) : (∃ j : Nat, j < n ∧ x = nI j) ∨ (x.toInt < 0 ∨ (n : Int) ≤ x.toInt) := by
  rcases Int.lt_or_le x.toInt 0 with h | h
  · exact Or.inr (Or.inl h)
  rcases Int.lt_or_le x.toInt n with h2 | h2
  · refine Or.inl ⟨x.toInt.toNat, by omega, q_inj ?_⟩
    rw [nI_toInt (by omega)]
    omega
  · exact Or.inr (Or.inr h2)
theorem q_sp1 (x : Int32) : x = 0 ∨ (x.toInt < 0 ∨ 0 < x.toInt) := by
  rcases q_sp (x := x) 1 (by decide) with ⟨j, hj, rfl⟩ | h
  · obtain rfl : j = 0 := by omega
    exact Or.inl rfl
  · exact Or.inr (h.imp id (fun q => by omega))
theorem q_sp2 (x : Int32) : x = 0 ∨ x = 1 ∨ (x.toInt ≠ 0 ∧ x.toInt ≠ 1) := by
  rcases q_sp (x := x) 2 (by decide) with ⟨j, hj, rfl⟩ | h
  · rcases (show j = 0 ∨ j = 1 by omega) with rfl | rfl
    · exact Or.inl rfl
    · exact Or.inr (Or.inl rfl)
  · exact Or.inr (Or.inr (by omega))
theorem q_sp3 (x : Int32) : x = 0 ∨ x = 1 ∨ x = 2 ∨ (x.toInt < 0 ∨ 3 ≤ x.toInt) := by
  rcases q_sp (x := x) 3 (by decide) with ⟨j, hj, rfl⟩ | h
  · rcases (show j = 0 ∨ j = 1 ∨ j = 2 by omega) with rfl | rfl | rfl
    · exact Or.inl rfl
    · exact Or.inr (Or.inl rfl)
    · exact Or.inr (Or.inr (Or.inl rfl))
  · exact Or.inr (Or.inr (Or.inr (by omega)))
theorem q_sp4 (x : Int32) : x = 0 ∨ x = 1 ∨ x = 2 ∨ x = 3 ∨ (x.toInt < 0 ∨ 4 ≤ x.toInt) := by
  rcases q_sp (x := x) 4 (by decide) with ⟨j, hj, rfl⟩ | h
  · rcases (show j = 0 ∨ j = 1 ∨ j = 2 ∨ j = 3 by omega) with rfl | rfl | rfl | rfl
    · exact Or.inl rfl
    · exact Or.inr (Or.inl rfl)
    · exact Or.inr (Or.inr (Or.inl rfl))
    · exact Or.inr (Or.inr (Or.inr (Or.inl rfl)))
  · exact Or.inr (Or.inr (Or.inr (Or.inr (by omega))))
theorem q_sp9 (x : Int32) : x = 0 ∨ x = 1 ∨ x = 2 ∨ x = 3 ∨ x = 4 ∨ x = 5 ∨ x = 6 ∨ x = 7 ∨ x = 8 ∨ (x.toInt < 0 ∨ 8 < x.toInt) := by
  rcases q_sp (x := x) 9 (by decide) with ⟨j, hj, rfl⟩ | h
  · rcases (show j = 0 ∨ j = 1 ∨ j = 2 ∨ j = 3 ∨ j = 4 ∨ j = 5 ∨ j = 6 ∨ j = 7 ∨ j = 8 by omega) with rfl | rfl | rfl | rfl | rfl | rfl | rfl | rfl | rfl
    · exact Or.inl rfl
    · exact Or.inr (Or.inl rfl)
    · exact Or.inr (Or.inr (Or.inl rfl))
    · exact Or.inr (Or.inr (Or.inr (Or.inl rfl)))
    · exact Or.inr (Or.inr (Or.inr (Or.inr (Or.inl rfl))))
    · exact Or.inr (Or.inr (Or.inr (Or.inr (Or.inr (Or.inl rfl)))))
    · exact Or.inr (Or.inr (Or.inr (Or.inr (Or.inr (Or.inr (Or.inl rfl))))))
    · exact Or.inr (Or.inr (Or.inr (Or.inr (Or.inr (Or.inr (Or.inr (Or.inl rfl)))))))
    · exact Or.inr (Or.inr (Or.inr (Or.inr (Or.inr (Or.inr (Or.inr (Or.inr (Or.inl rfl))))))))
  · exact Or.inr (Or.inr (Or.inr (Or.inr (Or.inr (Or.inr (Or.inr (Or.inr (Or.inr (by omega)))))))))
theorem q_spR (x : Int32) : (x.toInt < 0 ∨ 3 < x.toInt) ∨ (0 ≤ x.toInt ∧ x.toInt ≤ 3) := by omega
theorem q_spN (x : Int32) : 60 < x.toInt ∨ x.toInt < 0 ∨ ∃ nn : Nat, nn ≤ 60 ∧ (nI nn).toInt = nn ∧ x = nI nn := by
  rcases q_sp (x := x) 61 (by decide) with ⟨j, hj, rfl⟩ | h | h
  · exact Or.inr (Or.inr ⟨j, by omega, nI_toInt (by omega), rfl⟩)
  · exact Or.inr (Or.inl h)
  · exact Or.inl (by omega)
