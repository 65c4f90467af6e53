/-! what more holds of every state between two calls: no place was written in a later tick than now, what was corrected is as it is due, at most one dips -/
def WX (σ : AS) : Prop := (∀ q, q < 40 → σ 6 q ≤ σ 0 3) ∧ (∀ q, q < σ 0 4 → σ 5 q = 0 ∨ σ 3 q = dueAt σ q) ∧ (σ 0 18 = 0 ∨ σ 0 19 = 0)
theorem WX.keep {σ τ : AS} (h : WX σ) (h6 : τ 6 = σ 6) (h3 : τ 0 3 = σ 0 3) (h4 : τ 0 4 = σ 0 4) (h5 : τ 5 = σ 5) (hw : τ 3 = σ 3) (h1 : τ 1 = σ 1) (hd : τ 0 18 = 0 ∨ τ 0 19 = 0) : WX τ := by
  refine ⟨fun q hq => ?_, fun q hq => ?_, hd⟩
  · rw [h6, h3]; exact h.1 q hq
  · rw [h5, hw, due_keep h4 h1]; rw [h4] at hq; exact h.2.1 q hq
theorem WX.tick {σ : AS} (h : WX σ) : WX (tickF σ) := by
  refine ⟨fun q hq => ?_, fun q hq => h.2.1 q hq, h.2.2⟩
  show σ 6 q ≤ σ 0 3 + 1
  exact Nat.le_succ_of_le (h.1 q hq)
theorem WX.goes0 {σ : AS} {w : Nat} (h : WX σ) (hI : Inv σ) (hw : w ≤ σ 0 3) : WX (goesF σ 0 w) := by
  have ha := hI.a
  have hc := hI.c
  rw [goesF_0]
  split
  · rename_i hd
    have h1 := does0_0 hI hd
    rw [writesF_0]
    split
    · exact h.keep rfl rfl rfl rfl rfl rfl h.2.2
    · rw [wroteF_0]
      have hp : σ 0 14 < 40 := by omega
      have hq0 := hI.q hp
      have hdu := hI.due (p := σ 0 14) (by omega)
      refine ⟨fun q hq => ?_, fun q hq => ?_, h.2.2⟩
      · show (if q = σ 0 14 then w else σ 6 q) ≤ σ 0 3
        split
        · exact hw
        · exact h.1 q hq
      · have hq2 : q < σ 0 4 := hq
        show σ 5 q = 0 ∨ (if q = σ 0 14 then letAt σ (σ 0 14) else σ 3 q) = dueAt σ q
        have h2 := h.2.1 q hq2
        by_cases hqq : q = σ 0 14
        · rw [hqq] at h2 ⊢
          left
          rcases h2 with h2 | h2
          · exact h2
          · exfalso; omega
        · rw [if_neg hqq]; exact h2
  split
  · rename_i hd
    have h1 := does1_0 hd
    have h2 : σ 0 19 = 0 := by have := h.2.2; omega
    rw [dipsF_0]
    split
    · exact h.keep rfl rfl rfl rfl rfl rfl (Or.inr h2)
    · exact h.keep rfl rfl rfl rfl rfl rfl (Or.inr h2)
  split
  · rename_i hd
    have h1 := does2_0 hd
    exact h.keep rfl rfl rfl rfl rfl rfl (Or.inr h1.2.2.1)
  split
  · exact h
  · exact h.keep rfl rfl rfl rfl rfl rfl h.2.2
theorem WX.goes1 {σ : AS} {w : Nat} (h : WX σ) (hI : Inv σ) (hw : w ≤ σ 0 3) : WX (goesF σ 1 w) := by
  have ha := hI.a
  have hc := hI.c
  rw [goesF_1]
  split
  · rename_i hd
    have h1 := does0_1 hI hd
    rw [writesF_1]
    split
    · exact h.keep rfl rfl rfl rfl rfl rfl h.2.2
    · rw [wroteF_1]
      generalize hP : σ 0 4 - 1 - σ 0 15 = P at h1 ⊢
      have hp : P < 40 := by omega
      have hq0 := hI.q hp
      have hdu := hI.due (p := P) (by omega)
      refine ⟨fun q hq => ?_, fun q hq => ?_, h.2.2⟩
      · show (if q = P then w else σ 6 q) ≤ σ 0 3
        split
        · exact hw
        · exact h.1 q hq
      · have hq2 : q < σ 0 4 := hq
        show σ 5 q = 0 ∨ (if q = P then letAt σ P else σ 3 q) = dueAt σ q
        have h2 := h.2.1 q hq2
        by_cases hqq : q = P
        · rw [hqq] at h2 ⊢
          left
          rcases h2 with h2 | h2
          · exact h2
          · exfalso; omega
        · rw [if_neg hqq]; exact h2
  split
  · rename_i hd
    have h1 := does1_1 hd
    have h2 : σ 0 18 = 0 := by have := h.2.2; omega
    rw [dipsF_1]
    split
    · exact h.keep rfl rfl rfl rfl rfl rfl (Or.inl h2)
    · exact h.keep rfl rfl rfl rfl rfl rfl (Or.inl h2)
  split
  · rename_i hd
    have h1 := does2_1 hd
    exact h.keep rfl rfl rfl rfl rfl rfl (Or.inl h1.2.2.1)
  split
  · exact h
  · exact h.keep rfl rfl rfl rfl rfl rfl h.2.2
theorem WX.ticks {σ : AS} (h : WX σ) (hI : Inv σ) (ht : σ 0 3 < 102100) : WX (ticksF σ) := by
  have h1 := (h.tick).goes0 (w := σ 0 3 + 1) (hI.tick ht) (Nat.le_refl _)
  refine h1.goes1 ((hI.tick ht).goes0 (by omega)) ?_
  rw [(goes_keep (tickF σ) 0 (σ 0 3 + 1) (Or.inl rfl)).1]
  exact Nat.le_refl _
theorem WX.it {σ : AS} (h : WX σ) (hI : Inv σ) : ∀ n, σ 0 3 + n ≤ 102100 → WX (itF n σ)
  | 0, _ => h
  | n + 1, hn => (h.it hI n (by omega)).ticks (hI.it n (by omega)) (by rw [itF_tick]; omega)
theorem WX.mis {σ : AS} (h : WX σ) (j k : Nat) : WX (up2 σ 2 j k) := h.keep rfl rfl rfl rfl rfl rfl h.2.2
theorem WX.up0 {σ : AS} (h : WX σ) {i : Nat} (hi : i = 12 ∨ i = 13) (k : Nat) : WX (up2 σ 0 i k) := by
  rcases hi with rfl | rfl
  · exact h.keep rfl rfl rfl rfl rfl rfl h.2.2
  · exact h.keep rfl rfl rfl rfl rfl rfl h.2.2
theorem WX.set {σ : AS} (h : WX σ) (i k : Nat) : WX (up2 σ 7 i k) := h.keep rfl rfl rfl rfl rfl rfl h.2.2
theorem WX.pour {σ : AS} (h : WX σ) (k : Nat) : WX (pourF σ k) := h.keep rfl rfl rfl rfl rfl rfl h.2.2
theorem WX.cor {σ : AS} (h : WX σ) (j : Nat) : WX (corF σ j) := by
  refine ⟨fun q hq => h.1 q hq, fun q hq => ?_, h.2.2⟩
  have h2 := h.2.1 q hq
  show (if q = j then 1 else σ 5 q) = 0 ∨ (if q = j then dueAt σ j else σ 3 q) = dueAt σ q
  by_cases hqj : q = j
  · rw [if_pos hqj, if_pos hqj, hqj]; exact Or.inr rfl
  · rw [if_neg hqj, if_neg hqj]; exact h2
theorem WX.rd {σ : AS} (h : WX σ) (hf : Nat) (m lt : Nat → Nat) : WX (rdF σ hf m lt) := ⟨fun q _ => Nat.zero_le _, fun q _ => Or.inl rfl, h.2.2⟩
theorem WX.z : WX sg0 := ⟨fun q _ => Nat.zero_le _, fun q _ => Or.inl rfl, Or.inl rfl⟩
/-! what a tick leaves, and how many letters it may write -/
theorem goes_letters (σ : AS) (s w : Nat) (hs : s = 0 ∨ s = 1) : σ 0 10 ≤ (goesF σ s w) 0 10 ∧ (goesF σ s w) 0 10 ≤ σ 0 10 + 1 := by
  rcases hs with rfl | rfl
  · rw [goesF_0]
    split
    · rw [writesF_0]
      split
      · exact ⟨Nat.le_refl _, Nat.le_succ _⟩
      · rw [wroteF_0]; exact ⟨Nat.le_succ _, Nat.le_refl _⟩
    split
    · rw [dipsF_0]
      split <;> exact ⟨Nat.le_refl _, Nat.le_succ _⟩
    split
    · exact ⟨Nat.le_refl _, Nat.le_succ _⟩
    split <;> exact ⟨Nat.le_refl _, Nat.le_succ _⟩
  · rw [goesF_1]
    split
    · rw [writesF_1]
      split
      · exact ⟨Nat.le_refl _, Nat.le_succ _⟩
      · rw [wroteF_1]; exact ⟨Nat.le_succ _, Nat.le_refl _⟩
    split
    · rw [dipsF_1]
      split <;> exact ⟨Nat.le_refl _, Nat.le_succ _⟩
    split
    · exact ⟨Nat.le_refl _, Nat.le_succ _⟩
    split <;> exact ⟨Nat.le_refl _, Nat.le_succ _⟩
theorem ticks_keep (σ : AS) : (ticksF σ) 0 4 = σ 0 4 ∧ (ticksF σ) 0 11 = σ 0 11 ∧ σ 0 10 ≤ (ticksF σ) 0 10 ∧ (ticksF σ) 0 10 ≤ σ 0 10 + 2 := by
  have a := goes_keep (tickF σ) 0 (σ 0 3 + 1) (Or.inl rfl)
  have b := goes_keep (goesF (tickF σ) 0 (σ 0 3 + 1)) 1 (σ 0 3 + 1) (Or.inr rfl)
  have c := goes_letters (tickF σ) 0 (σ 0 3 + 1) (Or.inl rfl)
  have d := goes_letters (goesF (tickF σ) 0 (σ 0 3 + 1)) 1 (σ 0 3 + 1) (Or.inr rfl)
  have e : (tickF σ) 0 10 = σ 0 10 := rfl
  refine ⟨b.2.1.trans a.2.1, b.2.2.2.2.2.2.2.2.1.trans a.2.2.2.2.2.2.2.2.1, ?_, ?_⟩
  · show σ 0 10 ≤ (goesF (goesF (tickF σ) 0 (σ 0 3 + 1)) 1 (σ 0 3 + 1)) 0 10
    omega
  · show (goesF (goesF (tickF σ) 0 (σ 0 3 + 1)) 1 (σ 0 3 + 1)) 0 10 ≤ σ 0 10 + 2
    omega
theorem it_keep (σ : AS) : ∀ n, (itF n σ) 0 4 = σ 0 4 ∧ (itF n σ) 0 11 = σ 0 11 ∧ σ 0 10 ≤ (itF n σ) 0 10 ∧ (itF n σ) 0 10 ≤ σ 0 10 + 2 * n
  | 0 => ⟨rfl, rfl, Nat.le_refl _, Nat.le_refl _⟩
  | n + 1 => by
    have h1 := it_keep σ n
    have h2 := ticks_keep (itF n σ)
    refine ⟨h2.1.trans h1.1, h2.2.1.trans h1.2.1, ?_, ?_⟩
    · show σ 0 10 ≤ (ticksF (itF n σ)) 0 10
      omega
    · show (ticksF (itF n σ)) 0 10 ≤ _
      omega
/-! a state that is held by the class (d: its row of what is due), with r steps ahead -/
def GV (r : Nat) (σ : AS) (d : Nat → Nat) : Prop := GS σ d ∧ WX σ ∧ σ 0 3 + 99 * r ≤ 99999 ∧ σ 0 11 + 80 * r ≤ 9999
theorem GV.le {r r' : Nat} {σ : AS} {d : Nat → Nat} (h : GV r σ d) (hr : r' ≤ r) : GV r' σ d := ⟨h.1, h.2.1, by have := h.2.2.1; omega, by have := h.2.2.2; omega⟩
theorem GV.g {r : Nat} {σ : AS} {d : Nat → Nat} (h : GV r σ d) : GS σ d := h.1
theorem GV.i {r : Nat} {σ : AS} {d : Nat → Nat} (h : GV r σ d) : Inv σ := h.1.1
theorem GV.d {r : Nat} {σ : AS} {d : Nat → Nat} (h : GV r σ d) : DOK σ d := h.1.2.1
/-! what an act makes of a state, and answers -/
def misS (σ : AS) (j k : Nat) : AS := if begunP σ j ∨ σ 2 j = k then σ else up2 σ 2 j k
def misR (σ : AS) (j k : Nat) : Int32 := if begunP σ j then -4 else if σ 2 j = k then -5 else nI (letAt σ j)
def corS (σ : AS) (j : Nat) : AS := if canP σ j ∧ ¬ goodP σ j then corF σ j else σ
def corR (σ : AS) (j : Nat) : Int32 := if canP σ j then (if goodP σ j then -5 else nI (σ 7 2 - (σ 0 5 + 1))) else -4
def pacS (σ : AS) (w k : Nat) : AS := if σ 0 (12 + w) = k then σ else up2 σ 0 (12 + w) k
def pacR (σ : AS) (w k : Nat) : Int32 := if σ 0 (12 + w) = k then -5 else nI (σ 0 (12 + w))
def setS (σ : AS) (i k : Nat) : AS := if σ 7 i = k then σ else up2 σ 7 i k
def setR2 (σ : AS) (i k : Nat) : Int32 := if σ 7 i = k then -5 else nI (σ 7 i)
theorem GV.mis {r : Nat} {σ : AS} {d : Nat → Nat} (h : GV r σ d) {j k : Nat} (hk : k ≤ 26) : GV r (misS σ j k) d := by
  unfold misS
  split
  · exact h
  · rename_i hn
    exact ⟨h.1.mis hk (fun q => hn (Or.inl q)), h.2.1.mis j k, h.2.2⟩
theorem GV.cor {r : Nat} {σ : AS} {d : Nat → Nat} (h : GV r σ d) {j : Nat} (hj : j < σ 0 4) : GV r (corS σ j) d := by
  unfold corS
  split
  · rename_i hn
    exact ⟨h.1.cor hj hn.1, h.2.1.cor j, h.2.2⟩
  · exact h
theorem GV.pac {r : Nat} {σ : AS} {d : Nat → Nat} (h : GV r σ d) {w k : Nat} (hw : w = 0 ∨ w = 1) (hk : 1 ≤ k ∧ k ≤ 9) : GV r (pacS σ w k) d := by
  unfold pacS
  split
  · exact h
  · rcases hw with rfl | rfl
    · exact ⟨h.1.pace0 hk, h.2.1.up0 (Or.inl rfl) k, h.2.2⟩
    · exact ⟨h.1.pace1 hk, h.2.1.up0 (Or.inr rfl) k, h.2.2⟩
theorem GV.set {r : Nat} {σ : AS} {d : Nat → Nat} (h : GV r σ d) {i k : Nat} (hi : (i = 0 ∧ 1 ≤ k ∧ k ≤ 9) ∨ (i = 1 ∧ k ≤ 8) ∨ (i = 2 ∧ k ≤ 20)) : GV r (setS σ i k) d := by
  unfold setS
  split
  · exact h
  · rcases hi with ⟨rfl, hk⟩ | ⟨rfl, hk⟩ | ⟨rfl, hk⟩
    · exact ⟨h.1.set0 hk, h.2.1.set _ k, h.2.2⟩
    · exact ⟨h.1.set1 ⟨Nat.zero_le _, hk⟩, h.2.1.set _ k, h.2.2⟩
    · exact ⟨h.1.set2 ⟨Nat.zero_le _, hk⟩, h.2.1.set _ k, h.2.2⟩
theorem GV.pour {r : Nat} {σ : AS} {d : Nat → Nat} (h : GV (r + 1) σ d) {k : Nat} (hk : k ≤ 80) : GV r (pourF σ k) d := by
  have h3 := h.2.2.1
  have h4 := h.2.2.2
  refine ⟨h.1.pour (by omega), h.2.1.pour k, ?_, ?_⟩
  · show σ 0 3 + 99 * r ≤ 99999
    omega
  · show σ 0 11 + k + 80 * r ≤ 9999
    omega
theorem GV.it {r : Nat} {σ : AS} {d : Nat → Nat} (h : GV (r + 1) σ d) {k : Nat} (hk : k ≤ 99) : GV r (itF k σ) d := by
  have h3 := h.2.2.1
  have h4 := h.2.2.2
  refine ⟨h.1.it (by omega), h.2.1.it h.1.1 k (by omega), ?_, ?_⟩
  · rw [itF_tick]; omega
  · rw [(it_keep σ k).2.1]; omega
theorem GV.rd {r : Nat} {σ : AS} {d d' : Nat → Nat} (h : GV r σ d) {hf : Nat} {m lt : Nat → Nat} (h1 : hf ≤ 20) (hm : ∀ q, m q ≤ 26) (hl : ∀ q, q < hf → 1 ≤ lt q ∧ lt q ≤ 26) (hd : DOK (rdF σ hf m lt) d') : GV r (rdF σ hf m lt) d' := ⟨⟨h.1.1.rd h1 hm hl, hd, WOK.rd σ, h.1.2.2.2⟩, h.2.1.rd hf m lt, h.2.2⟩
theorem GV.z : GV 1 sg0 (fun _ => 0) := ⟨GS.z, WX.z, by show 0 + 99 * 1 ≤ 99999; omega, by show 0 + 80 * 1 ≤ 9999; omega⟩
theorem GV.z50 : GV 60 sg0 (fun _ => 0) := ⟨GS.z, WX.z, by show 0 + 99 * 60 ≤ 99999; omega, by show 0 + 80 * 60 ≤ 9999; omega⟩
