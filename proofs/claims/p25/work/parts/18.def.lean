theorem far_lt {g h : Nat} (hg : g ≤ 100) (hh : h ≤ 100) : nI g - 1 < nI h ↔ g ≤ h := by
  have e : (nI g - 1).toInt = (g : Int) - 1 := pk_sub_toInt (b := 1) (by omega) (by omega)
  rw [fa_lt, e, nI_toInt (by omega)]
  omega
theorem Inv.cor {σ : AS} (h : Inv σ) {j : Nat} (hj : j < σ 0 4) (hc : canP σ j) : Inv (corF σ j) := by
  have ha := h.a
  have hs := h.s
  have hi := h.i
  have hd := h.due hj
  refine ⟨⟨ha.1, ha.2.1, ha.2.2.1, by show σ 0 5 + 1 ≤ 20; omega, ha.2.2.2.2⟩, h.s, ⟨hi.1, hi.2.1, by show σ 0 24 + σ 0 25 + (σ 0 6 - dueAt σ j) + σ 0 7 + (σ 0 8 + dueAt σ j) = 256 + 8 * σ 0 11; omega⟩, h.c, h.l, h.r, fun q hq => ?_, fun _ hq => h.d hq⟩
  have hq2 := h.q hq
  show σ 2 q ≤ 26 ∧ (if q = j then dueAt σ j else σ 3 q) ≤ 26 ∧ (if q = j then 0 else σ 4 q) ≤ 1 ∧ (if q = j then 1 else σ 5 q) ≤ 1 ∧ σ 6 q ≤ 102100 ∧ (0 < (if q = j then dueAt σ j else σ 3 q) ↔ q < σ 0 14 ∨ (σ 0 4 ≤ q + σ 0 15 ∧ q < σ 0 4))
  by_cases hqj : q = j
  · rw [if_pos hqj, if_pos hqj, if_pos hqj]
    rw [hqj] at hq2 ⊢
    omega
  · rw [if_neg hqj, if_neg hqj, if_neg hqj]
    exact hq2
theorem WOK.cor {σ : AS} (h : WOK σ) (hI : Inv σ) {j : Nat} (hj : j < σ 0 4) (hc : canP σ j) : WOK (corF σ j) := by
  intro q hq
  have hd := hI.due hj
  have h1 := h q hq
  show ((if q = j then dueAt σ j else σ 3 q) = 0 ↔ σ 6 q = 0)
  by_cases hqj : q = j
  · rw [if_pos hqj]
    rw [hqj] at h1 ⊢
    omega
  · rw [if_neg hqj]
    exact h1
theorem Inv.pour {σ : AS} (h : Inv σ) {k : Nat} (hk : σ 0 11 + k ≤ 9999) : Inv (pourF σ k) := by
  have ha := h.a
  have hi := h.i
  exact ⟨⟨ha.1, ha.2.1, ha.2.2.1, ha.2.2.2.1, hk⟩, h.s, ⟨hi.1, hi.2.1, by show σ 0 24 + σ 0 25 + (σ 0 6 + 8 * k) + σ 0 7 + σ 0 8 = 256 + 8 * (σ 0 11 + k); omega⟩, h.c, h.l, h.r, fun _ hq => h.q hq, fun _ hq => h.d hq⟩
/-- the page of a text, begun -/
def newF (σ : AS) (t : Nat → Nat) (L : Nat) : AS := rdF σ (halfN t L) (psF t L).2.2.1 (fun q => letC t L q)
theorem nI_ne1 {n : Nat} (h : n < 2147483648) : ¬ nI n = -1 := by
  intro e
  have h1 := congrArg Int32.toInt e
  rw [nI_toInt (by omega)] at h1
  have h2 : (-1 : Int32).toInt = -1 := by decide
  omega
