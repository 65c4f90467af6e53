/-! what every state is, stays so -/
theorem nI_ne5 {n : Nat} (h : n < 2147483648) : ¬ nI n = -5 := by
  intro e
  have h1 := congrArg Int32.toInt e
  rw [nI_toInt (by omega)] at h1
  have h2 : (-5 : Int32).toInt = -5 := by decide
  omega
theorem Inv.tick {σ : AS} (h : Inv σ) (ht : σ 0 3 < 102100) : Inv (tickF σ) := ⟨⟨h.a.1, h.a.2.1, by show σ 0 3 + 1 ≤ 102100; omega, h.a.2.2.2.1, h.a.2.2.2.2⟩, h.s, h.i, h.c, h.l, h.r, fun _ hq => h.q hq, fun _ hq => h.d hq⟩
theorem DOK.tick {σ : AS} {d : Nat → Nat} (h : DOK σ d) : DOK (tickF σ) d := fun q hq => h q hq
theorem does0_0 {σ : AS} (hI : Inv σ) (h : doesN σ 0 = 0) : 2 * σ 0 14 < σ 0 4 ∧ letAt σ (σ 0 14) ≤ σ 0 24 ∧ σ 0 18 = 0 := by
  have hl := hI.l
  rw [doesN_0] at h
  by_cases h1 : 0 < σ 0 18
  · rw [if_pos h1] at h; omega
  rw [if_neg h1] at h
  by_cases h2 : σ 0 4 ≤ 2 * σ 0 14
  · rw [if_pos h2] at h; omega
  rw [if_neg h2] at h
  by_cases h3 : letAt σ (σ 0 14) ≤ σ 0 24 ∨ 0 < σ 0 16
  · omega
  · rw [if_neg h3] at h
    split at h
    · omega
    · split at h <;> omega
theorem does0_1 {σ : AS} (hI : Inv σ) (h : doesN σ 1 = 0) : 2 * σ 0 15 < σ 0 4 ∧ letAt σ (σ 0 4 - 1 - σ 0 15) ≤ σ 0 25 ∧ σ 0 19 = 0 := by
  have hl := hI.r
  rw [doesN_1] at h
  by_cases h1 : 0 < σ 0 19
  · rw [if_pos h1] at h; omega
  rw [if_neg h1] at h
  by_cases h2 : σ 0 4 ≤ 2 * σ 0 15
  · rw [if_pos h2] at h; omega
  rw [if_neg h2] at h
  by_cases h3 : letAt σ (σ 0 4 - 1 - σ 0 15) ≤ σ 0 25 ∨ 0 < σ 0 17
  · omega
  · rw [if_neg h3] at h
    split at h
    · omega
    · split at h <;> omega
theorem does1_0 {σ : AS} (h : doesN σ 0 = 1) : 0 < σ 0 18 := by
  rw [doesN_0] at h
  by_cases h1 : 0 < σ 0 18
  · exact h1
  · rw [if_neg h1] at h
    repeat' split at h
    all_goals omega
theorem does1_1 {σ : AS} (h : doesN σ 1 = 1) : 0 < σ 0 19 := by
  rw [doesN_1] at h
  by_cases h1 : 0 < σ 0 19
  · exact h1
  · rw [if_neg h1] at h
    repeat' split at h
    all_goals omega
theorem does2_0 {σ : AS} (h : doesN σ 0 = 2) : σ 0 16 = 0 ∧ σ 0 18 = 0 ∧ σ 0 19 = 0 ∧ 0 < σ 0 6 ∧ 2 * σ 0 14 < σ 0 4 := by
  rw [doesN_0] at h
  repeat' split at h
  all_goals omega
theorem does2_1 {σ : AS} (h : doesN σ 1 = 2) : σ 0 17 = 0 ∧ σ 0 19 = 0 ∧ σ 0 18 = 0 ∧ 0 < σ 0 6 ∧ 2 * σ 0 15 < σ 0 4 := by
  rw [doesN_1] at h
  repeat' split at h
  all_goals omega
theorem got_le0 (σ : AS) : gotF σ 0 ≤ σ 0 6 ∧ gotF σ 0 ≤ 64 - σ 0 24 := by
  rw [gotF_0]
  split <;> omega
theorem got_le1 (σ : AS) : gotF σ 1 ≤ σ 0 6 ∧ gotF σ 1 ≤ 64 - σ 0 25 := by
  rw [gotF_1]
  split <;> omega
theorem Inv.dips0 {σ : AS} (h : Inv σ) (hp : 0 < σ 0 18) : Inv (dipsF σ 0) := by
  have hc := h.c
  have hi := h.i
  have hg := got_le0 σ
  rw [dipsF_0]
  split
  · exact ⟨h.a, h.s, ⟨by show σ 0 24 + gotF σ 0 ≤ 64; omega, hi.2.1, by show (σ 0 24 + gotF σ 0) + σ 0 25 + (σ 0 6 - gotF σ 0) + σ 0 7 + σ 0 8 = 256 + 8 * σ 0 11; omega⟩, ⟨hc.1, hc.2.1, hc.2.2.1, hc.2.2.2.1, hc.2.2.2.2.1, hc.2.2.2.2.2.1, hc.2.2.2.2.2.2.1, hc.2.2.2.2.2.2.2.1, by show σ 0 18 - 1 ≤ 9; omega, hc.2.2.2.2.2.2.2.2.2⟩, fun hh => absurd (h.l hh).2.2 (by omega), h.r, fun _ hq => h.q hq, fun _ hq => h.d hq⟩
  · exact ⟨h.a, h.s, h.i, ⟨hc.1, hc.2.1, hc.2.2.1, hc.2.2.2.1, hc.2.2.2.2.1, hc.2.2.2.2.2.1, hc.2.2.2.2.2.2.1, hc.2.2.2.2.2.2.2.1, by show σ 0 18 - 1 ≤ 9; omega, hc.2.2.2.2.2.2.2.2.2⟩, fun hh => absurd (h.l hh).2.2 (by omega), h.r, fun _ hq => h.q hq, fun _ hq => h.d hq⟩
theorem Inv.dips1 {σ : AS} (h : Inv σ) (hp : 0 < σ 0 19) : Inv (dipsF σ 1) := by
  have hc := h.c
  have hi := h.i
  have hg := got_le1 σ
  rw [dipsF_1]
  split
  · exact ⟨h.a, h.s, ⟨hi.1, by show σ 0 25 + gotF σ 1 ≤ 64; omega, by show σ 0 24 + (σ 0 25 + gotF σ 1) + (σ 0 6 - gotF σ 1) + σ 0 7 + σ 0 8 = 256 + 8 * σ 0 11; omega⟩, ⟨hc.1, hc.2.1, hc.2.2.1, hc.2.2.2.1, hc.2.2.2.2.1, hc.2.2.2.2.2.1, hc.2.2.2.2.2.2.1, hc.2.2.2.2.2.2.2.1, hc.2.2.2.2.2.2.2.2.1, by show σ 0 19 - 1 ≤ 9; omega⟩, h.l, fun hh => absurd (h.r hh).2.2 (by omega), fun _ hq => h.q hq, fun _ hq => h.d hq⟩
  · exact ⟨h.a, h.s, h.i, ⟨hc.1, hc.2.1, hc.2.2.1, hc.2.2.2.1, hc.2.2.2.2.1, hc.2.2.2.2.2.1, hc.2.2.2.2.2.2.1, hc.2.2.2.2.2.2.2.1, hc.2.2.2.2.2.2.2.2.1, by show σ 0 19 - 1 ≤ 9; omega⟩, h.l, fun hh => absurd (h.r hh).2.2 (by omega), fun _ hq => h.q hq, fun _ hq => h.d hq⟩
theorem blot_le (σ : AS) (s : Nat) : blotN σ s ≤ 1 := by
  unfold blotN
  split <;> omega
theorem Inv.writes0 {σ : AS} {w : Nat} (h : Inv σ) (hd : doesN σ 0 = 0) (hw : w ≤ 102100) : Inv (writesF σ 0 w) := by
  have hc := h.c
  have hi := h.i
  have ha := h.a
  obtain ⟨h1, h2, h3⟩ := does0_0 h hd
  have hlt := h.let (p := σ 0 14) (by omega)
  have hb := blot_le σ 0
  rw [writesF_0]
  split
  · exact ⟨h.a, h.s, h.i, ⟨hc.1, hc.2.1, hc.2.2.1, hc.2.2.2.1, hc.2.2.2.2.1, hc.2.2.2.2.2.1, by show σ 0 16 + 1 ≤ 8; omega, hc.2.2.2.2.2.2.2.1, hc.2.2.2.2.2.2.2.2.1, hc.2.2.2.2.2.2.2.2.2⟩, fun _ => ⟨h1, h2, h3⟩, h.r, fun _ hq => h.q hq, fun _ hq => h.d hq⟩
  · rw [wroteF_0]
    refine ⟨h.a, h.s, ⟨by show σ 0 24 - letAt σ (σ 0 14) ≤ 64; omega, hi.2.1, by show (σ 0 24 - letAt σ (σ 0 14)) + σ 0 25 + σ 0 6 + (σ 0 7 + letAt σ (σ 0 14)) + σ 0 8 = 256 + 8 * σ 0 11; omega⟩, ⟨hc.1, hc.2.1, hc.2.2.1, hc.2.2.2.1, by show 2 * (σ 0 14 + 1) ≤ σ 0 4; omega, hc.2.2.2.2.2.1, Nat.zero_le _, hc.2.2.2.2.2.2.2.1, hc.2.2.2.2.2.2.2.2.1, hc.2.2.2.2.2.2.2.2.2⟩, fun hh => absurd (show 0 < 0 from hh) (by omega), h.r, fun q hq => ?_, fun _ hq => h.d hq⟩
    have hq2 := h.q hq
    show σ 2 q ≤ 26 ∧ (if q = σ 0 14 then letAt σ (σ 0 14) else σ 3 q) ≤ 26 ∧ (if q = σ 0 14 then blotN σ 0 else σ 4 q) ≤ 1 ∧ σ 5 q ≤ 1 ∧ (if q = σ 0 14 then w else σ 6 q) ≤ 102100 ∧ (0 < (if q = σ 0 14 then letAt σ (σ 0 14) else σ 3 q) ↔ q < σ 0 14 + 1 ∨ (σ 0 4 ≤ q + σ 0 15 ∧ q < σ 0 4))
    by_cases hqq : q = σ 0 14
    · rw [if_pos hqq, if_pos hqq, if_pos hqq]; omega
    · rw [if_neg hqq, if_neg hqq, if_neg hqq]; omega
theorem Inv.writes1 {σ : AS} {w : Nat} (h : Inv σ) (hd : doesN σ 1 = 0) (hw : w ≤ 102100) : Inv (writesF σ 1 w) := by
  have hc := h.c
  have hi := h.i
  have ha := h.a
  obtain ⟨h1, h2, h3⟩ := does0_1 h hd
  have hlt := h.let (p := σ 0 4 - 1 - σ 0 15) (by omega)
  have hb := blot_le σ 1
  rw [writesF_1]
  split
  · exact ⟨h.a, h.s, h.i, ⟨hc.1, hc.2.1, hc.2.2.1, hc.2.2.2.1, hc.2.2.2.2.1, hc.2.2.2.2.2.1, hc.2.2.2.2.2.2.1, by show σ 0 17 + 1 ≤ 8; omega, hc.2.2.2.2.2.2.2.2.1, hc.2.2.2.2.2.2.2.2.2⟩, h.l, fun _ => ⟨h1, h2, h3⟩, fun _ hq => h.q hq, fun _ hq => h.d hq⟩
  · rw [wroteF_1]
    generalize hP : σ 0 4 - 1 - σ 0 15 = P at hlt h2 ⊢
    refine ⟨h.a, h.s, ⟨hi.1, by show σ 0 25 - letAt σ P ≤ 64; omega, by show σ 0 24 + (σ 0 25 - letAt σ P) + σ 0 6 + (σ 0 7 + letAt σ P) + σ 0 8 = 256 + 8 * σ 0 11; omega⟩, ⟨hc.1, hc.2.1, hc.2.2.1, hc.2.2.2.1, hc.2.2.2.2.1, by show 2 * (σ 0 15 + 1) ≤ σ 0 4; omega, hc.2.2.2.2.2.2.1, Nat.zero_le _, hc.2.2.2.2.2.2.2.2.1, hc.2.2.2.2.2.2.2.2.2⟩, h.l, fun hh => absurd (show 0 < 0 from hh) (by omega), fun q hq => ?_, fun _ hq => h.d hq⟩
    have hq2 := h.q hq
    show σ 2 q ≤ 26 ∧ (if q = P then letAt σ P else σ 3 q) ≤ 26 ∧ (if q = P then blotN σ 1 else σ 4 q) ≤ 1 ∧ σ 5 q ≤ 1 ∧ (if q = P then w else σ 6 q) ≤ 102100 ∧ (0 < (if q = P then letAt σ P else σ 3 q) ↔ q < σ 0 14 ∨ (σ 0 4 ≤ q + (σ 0 15 + 1) ∧ q < σ 0 4))
    by_cases hqq : q = P
    · rw [if_pos hqq, if_pos hqq, if_pos hqq]; omega
    · rw [if_neg hqq, if_neg hqq, if_neg hqq]; omega
theorem Inv.goes0 {σ : AS} {w : Nat} (h : Inv σ) (hw : w ≤ 102100) : Inv (goesF σ 0 w) := by
  have hc := h.c
  have hs := h.s
  rw [goesF_0]
  split
  · rename_i hd; exact h.writes0 hd hw
  split
  · rename_i hd; exact h.dips0 (does1_0 hd)
  split
  · rename_i hd
    have h2 := does2_0 hd
    exact ⟨h.a, h.s, h.i, ⟨hc.1, hc.2.1, hc.2.2.1, hc.2.2.2.1, hc.2.2.2.2.1, hc.2.2.2.2.2.1, hc.2.2.2.2.2.2.1, hc.2.2.2.2.2.2.2.1, by show σ 7 0 ≤ 9; omega, hc.2.2.2.2.2.2.2.2.2⟩, fun hh => absurd (show 0 < σ 0 16 from hh) (by omega), h.r, fun _ hq => h.q hq, fun _ hq => h.d hq⟩
  split
  · exact h
  · exact ⟨h.a, h.s, h.i, h.c, h.l, h.r, fun _ hq => h.q hq, fun _ hq => h.d hq⟩
theorem Inv.goes1 {σ : AS} {w : Nat} (h : Inv σ) (hw : w ≤ 102100) : Inv (goesF σ 1 w) := by
  have hc := h.c
  have hs := h.s
  rw [goesF_1]
  split
  · rename_i hd; exact h.writes1 hd hw
  split
  · rename_i hd; exact h.dips1 (does1_1 hd)
  split
  · rename_i hd
    have h2 := does2_1 hd
    exact ⟨h.a, h.s, h.i, ⟨hc.1, hc.2.1, hc.2.2.1, hc.2.2.2.1, hc.2.2.2.2.1, hc.2.2.2.2.2.1, hc.2.2.2.2.2.2.1, hc.2.2.2.2.2.2.2.1, hc.2.2.2.2.2.2.2.2.1, by show σ 7 0 ≤ 9; omega⟩, h.l, fun hh => absurd (show 0 < σ 0 17 from hh) (by omega), fun _ hq => h.q hq, fun _ hq => h.d hq⟩
  split
  · exact h
  · exact ⟨h.a, h.s, h.i, h.c, h.l, h.r, fun _ hq => h.q hq, fun _ hq => h.d hq⟩
/-- what a scribe's turn leaves: the tick, the places, the rows of what is due and told, the settings -/
theorem goes_keep (σ : AS) (s w : Nat) (hs : s = 0 ∨ s = 1) : (goesF σ s w) 0 3 = σ 0 3 ∧ (goesF σ s w) 0 4 = σ 0 4 ∧ (goesF σ s w) 1 = σ 1 ∧ (goesF σ s w) 2 = σ 2 ∧ (goesF σ s w) 7 = σ 7 ∧ (goesF σ s w) 0 5 = σ 0 5 ∧ (goesF σ s w) 0 8 = σ 0 8 ∧ (goesF σ s w) 0 9 = σ 0 9 ∧ (goesF σ s w) 0 11 = σ 0 11 ∧ (goesF σ s w) 0 12 = σ 0 12 ∧ (goesF σ s w) 0 13 = σ 0 13 ∧ (goesF σ s w) 5 = σ 5 := by
  rcases hs with rfl | rfl
  · rw [goesF_0]
    split
    · rw [writesF_0]
      split
      · exact ⟨rfl, rfl, rfl, rfl, rfl, rfl, rfl, rfl, rfl, rfl, rfl, rfl⟩
      · rw [wroteF_0]; exact ⟨rfl, rfl, rfl, rfl, rfl, rfl, rfl, rfl, rfl, rfl, rfl, rfl⟩
    split
    · rw [dipsF_0]
      split <;> exact ⟨rfl, rfl, rfl, rfl, rfl, rfl, rfl, rfl, rfl, rfl, rfl, rfl⟩
    split
    · exact ⟨rfl, rfl, rfl, rfl, rfl, rfl, rfl, rfl, rfl, rfl, rfl, rfl⟩
    split <;> exact ⟨rfl, rfl, rfl, rfl, rfl, rfl, rfl, rfl, rfl, rfl, rfl, rfl⟩
  · rw [goesF_1]
    split
    · rw [writesF_1]
      split
      · exact ⟨rfl, rfl, rfl, rfl, rfl, rfl, rfl, rfl, rfl, rfl, rfl, rfl⟩
      · rw [wroteF_1]; exact ⟨rfl, rfl, rfl, rfl, rfl, rfl, rfl, rfl, rfl, rfl, rfl, rfl⟩
    split
    · rw [dipsF_1]
      split <;> exact ⟨rfl, rfl, rfl, rfl, rfl, rfl, rfl, rfl, rfl, rfl, rfl, rfl⟩
    split
    · exact ⟨rfl, rfl, rfl, rfl, rfl, rfl, rfl, rfl, rfl, rfl, rfl, rfl⟩
    split <;> exact ⟨rfl, rfl, rfl, rfl, rfl, rfl, rfl, rfl, rfl, rfl, rfl, rfl⟩
theorem due_keep {σ τ : AS} (h4 : τ 0 4 = σ 0 4) (h1 : τ 1 = σ 1) (q : Nat) : dueAt τ q = dueAt σ q := by
  unfold dueAt
  rw [h4, h1]
theorem let_keep {σ τ : AS} (h4 : τ 0 4 = σ 0 4) (h1 : τ 1 = σ 1) (h2 : τ 2 = σ 2) (q : Nat) : letAt τ q = letAt σ q := by
  unfold letAt
  rw [due_keep h4 h1, h2]
theorem DOK.keep {σ τ : AS} {d : Nat → Nat} (h : DOK σ d) (h4 : τ 0 4 = σ 0 4) (h1 : τ 1 = σ 1) : DOK τ d := fun q hq => by
  rw [due_keep h4 h1]
  exact h q (by rw [← h4]; exact hq)
theorem DOK.goes0 {σ : AS} {d : Nat → Nat} {w : Nat} (h : DOK σ d) : DOK (goesF σ 0 w) d := h.keep (goes_keep σ 0 w (Or.inl rfl)).2.1 (goes_keep σ 0 w (Or.inl rfl)).2.2.1
theorem DOK.goes1 {σ : AS} {d : Nat → Nat} {w : Nat} (h : DOK σ d) : DOK (goesF σ 1 w) d := h.keep (goes_keep σ 1 w (Or.inr rfl)).2.1 (goes_keep σ 1 w (Or.inr rfl)).2.2.1
theorem Inv.ticks {σ : AS} (h : Inv σ) (ht : σ 0 3 < 102100) : Inv (ticksF σ) := ((h.tick ht).goes0 (by omega)).goes1 (by omega)
theorem DOK.ticks {σ : AS} {d : Nat → Nat} (h : DOK σ d) : DOK (ticksF σ) d := (h.tick.goes0).goes1
theorem ticks_tick (σ : AS) : ticksF σ 0 3 = σ 0 3 + 1 := by
  unfold ticksF
  rw [(goes_keep _ 1 _ (Or.inr rfl)).1, (goes_keep _ 0 _ (Or.inl rfl)).1]
  rfl
/-! when both wait for ink or rest, no later tick brings anything -/
def Stuck (σ : AS) : Prop := (doesN σ 0 = 4 ∨ doesN σ 0 = 5) ∧ (doesN σ 1 = 4 ∨ doesN σ 1 = 5) ∧ ¬ σ 0 4 ≤ σ 0 14 + σ 0 15
theorem does_alike {σ τ : AS} (h : ∀ k, k ≠ 3 → k ≠ 22 → k ≠ 23 → τ 0 k = σ 0 k) (h1 : τ 1 = σ 1) (h2 : τ 2 = σ 2) : doesN τ 0 = doesN σ 0 ∧ doesN τ 1 = doesN σ 1 := by
  have e4 := h 4 (by omega) (by omega) (by omega)
  rw [doesN_0, doesN_0, doesN_1, doesN_1, let_keep e4 h1 h2, let_keep e4 h1 h2, e4, h 18 (by omega) (by omega) (by omega), h 19 (by omega) (by omega) (by omega), h 14 (by omega) (by omega) (by omega), h 15 (by omega) (by omega) (by omega), h 24 (by omega) (by omega) (by omega), h 25 (by omega) (by omega) (by omega), h 16 (by omega) (by omega) (by omega), h 17 (by omega) (by omega) (by omega), h 6 (by omega) (by omega) (by omega)]
  exact ⟨rfl, rfl⟩
theorem goes_idle0 {σ : AS} {w : Nat} (h : doesN σ 0 = 4 ∨ doesN σ 0 = 5) : (∀ k, k ≠ 3 → k ≠ 22 → k ≠ 23 → (goesF σ 0 w) 0 k = σ 0 k) ∧ (goesF σ 0 w) 1 = σ 1 ∧ (goesF σ 0 w) 2 = σ 2 := by
  rw [goesF_0, if_neg (by omega), if_neg (by omega), if_neg (by omega)]
  split
  · exact ⟨fun _ _ _ _ => rfl, rfl, rfl⟩
  · exact ⟨fun k h1 h2 h3 => by show (if k = 22 then _ else _) = _; rw [if_neg h2], rfl, rfl⟩
theorem goes_idle1 {σ : AS} {w : Nat} (h : doesN σ 1 = 4 ∨ doesN σ 1 = 5) : (∀ k, k ≠ 3 → k ≠ 22 → k ≠ 23 → (goesF σ 1 w) 0 k = σ 0 k) ∧ (goesF σ 1 w) 1 = σ 1 ∧ (goesF σ 1 w) 2 = σ 2 := by
  rw [goesF_1, if_neg (by omega), if_neg (by omega), if_neg (by omega)]
  split
  · exact ⟨fun _ _ _ _ => rfl, rfl, rfl⟩
  · exact ⟨fun k h1 h2 h3 => by show (if k = 23 then _ else _) = _; rw [if_neg h3], rfl, rfl⟩
theorem tick_alike (σ : AS) : (∀ k, k ≠ 3 → k ≠ 22 → k ≠ 23 → (tickF σ) 0 k = σ 0 k) ∧ (tickF σ) 1 = σ 1 ∧ (tickF σ) 2 = σ 2 := ⟨fun k h1 _ _ => by show (if k = 3 then _ else _) = _; rw [if_neg h1], rfl, rfl⟩
theorem Stuck.next {σ : AS} (h : Stuck σ) : Stuck (ticksF σ) := by
  obtain ⟨h0, h1, h2⟩ := h
  obtain ⟨a1, a2, a3⟩ := tick_alike σ
  have da := does_alike a1 a2 a3
  obtain ⟨b1, b2, b3⟩ := goes_idle0 (σ := tickF σ) (w := σ 0 3 + 1) (by rw [da.1]; exact h0)
  have db := does_alike b1 b2 b3
  obtain ⟨c1, c2, c3⟩ := goes_idle1 (σ := goesF (tickF σ) 0 (σ 0 3 + 1)) (w := σ 0 3 + 1) (by rw [db.2, da.2]; exact h1)
  have dc := does_alike c1 c2 c3
  refine ⟨?_, ?_, ?_⟩
  · show doesN (goesF (goesF (tickF σ) 0 (σ 0 3 + 1)) 1 (σ 0 3 + 1)) 0 = 4 ∨ _
    unfold ticksF
    rw [dc.1, db.1, da.1]; exact h0
  · unfold ticksF
    rw [dc.2, db.2, da.2]; exact h1
  · unfold ticksF
    rw [c1 4 (by omega) (by omega) (by omega), c1 14 (by omega) (by omega) (by omega), c1 15 (by omega) (by omega) (by omega), b1 4 (by omega) (by omega) (by omega), b1 14 (by omega) (by omega) (by omega), b1 15 (by omega) (by omega) (by omega), a1 4 (by omega) (by omega) (by omega), a1 14 (by omega) (by omega) (by omega), a1 15 (by omega) (by omega) (by omega)]
    exact h2
theorem Stuck.never {σ : AS} (h : Stuck σ) : ∀ f c, dnF f c σ = -5 := by
  intro f
  induction f generalizing σ with
  | zero => intro c; rfl
  | succ f ih =>
    intro c
    unfold dnF
    rw [if_neg h.2.2]
    exact ih h.next (c + 1)
/-- neither dipped nor wrote in a tick: stuck -/
theorem Stuck.of {σ : AS} (h0 : 2 < doesN (tickF σ) 0) (h1 : 2 < doesN (goesF (tickF σ) 0 (σ 0 3 + 1)) 1) (h2 : ¬ σ 0 4 ≤ σ 0 14 + σ 0 15) : Stuck σ := by
  obtain ⟨a1, a2, a3⟩ := tick_alike σ
  have da := does_alike a1 a2 a3
  rw [da.1] at h0
  have l0 := doesN_le σ 0
  have key : doesN σ 0 ≠ 3 := by
    intro h3
    have e : goesF (tickF σ) 0 (σ 0 3 + 1) = up2 (tickF σ) 0 22 ((tickF σ) 0 22 + 1) := by
      rw [goesF_0, da.1, h3]
      rfl
    rw [e] at h1
    have hd : 0 < σ 0 19 := by
      rw [doesN_0] at h3
      repeat' split at h3
      all_goals omega
    have : doesN (up2 (tickF σ) 0 22 ((tickF σ) 0 22 + 1)) 1 = 1 := by
      rw [doesN_1]
      exact if_pos hd
    omega
  have h4 : doesN σ 0 = 4 ∨ doesN σ 0 = 5 := by omega
  obtain ⟨b1, b2, b3⟩ := goes_idle0 (σ := tickF σ) (w := σ 0 3 + 1) (by rw [da.1]; exact h4)
  have db := does_alike b1 b2 b3
  rw [db.2, da.2] at h1
  have l1 := doesN_le σ 1
  have key2 : doesN σ 1 ≠ 3 := by
    intro h3
    have hd : 0 < σ 0 18 := by
      rw [doesN_1] at h3
      repeat' split at h3
      all_goals omega
    have : doesN σ 0 = 1 := by
      rw [doesN_0]
      exact if_pos hd
    omega
  exact ⟨h4, by omega, h2⟩
