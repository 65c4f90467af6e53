/-! areAlike: what is told by number -/
theorem cnt_eq (σ : AS) (n n' L L' : Nat) {i : Nat} (h : i < 12) : cntF σ n L (nI i).toInt = cntF σ n' L' (nI i).toInt := by
  rw [nI_toInt (by omega)]
  rcases (show i = 0 ∨ i = 1 ∨ i = 2 ∨ i = 3 ∨ i = 4 ∨ i = 5 ∨ i = 6 ∨ i = 7 ∨ i = 8 ∨ i = 9 ∨ i = 10 ∨ i = 11 by omega) with rfl | rfl | rfl | rfl | rfl | rfl | rfl | rfl | rfl | rfl | rfl | rfl <;> rfl
theorem ink_dl {σ : AS} (hI : Inv σ) {i : Nat} (h : i < 5) : ∃ n, n < 16777216 ∧ inkF σ (nI i).toInt = dl n := by
  have hi := hI.i
  have ha := hI.a
  rw [nI_toInt (by omega)]
  rcases (show i = 0 ∨ i = 1 ∨ i = 2 ∨ i = 3 ∨ i = 4 by omega) with rfl | rfl | rfl | rfl | rfl
  · exact ⟨σ 0 24, by omega, rfl⟩
  · exact ⟨σ 0 25, by omega, rfl⟩
  · exact ⟨σ 0 6, by omega, rfl⟩
  · exact ⟨σ 0 7, by omega, rfl⟩
  · exact ⟨σ 0 8, by omega, rfl⟩
