/-! isStep: what holds of the pair between two steps -/
def SN (r : Nat) (x : OS) : Prop := x.2.2.1.2 = 1 → GV r x.2.2.1.1.1 x.2.2.1.1.2 ∧ 0 < x.2.2.1.1.1 0 4
def PR (r : Nat) (σ : AS) (x y : OS) : Prop := (GV r σ x.1 ∧ GV r σ y.1) ∧ (VO x ∧ VO y) ∧ 0 < σ 0 4 ∧ (SN r x ∧ SN r y) ∧ x.2.2.1.1.1 = y.2.2.1.1.1 ∧ x.2.2.1.2 = y.2.2.1.2
theorem SN.le {r : Nat} {x x' : OS} (h : SN (r + 1) x) (hs : x'.2.2.1 = x.2.2.1) : SN r x' := by
  unfold SN at *
  rw [hs]
  exact fun q => ⟨(h q).1.le (Nat.le_succ r), (h q).2⟩
theorem PR.act {r : Nat} {σ σ' : AS} {x y x' y' : OS} (h : PR (r + 1) σ x y) (hg : ∀ d, GV (r + 1) σ d → GV r σ' d) (h4 : σ' 0 4 = σ 0 4) (hx : VO x' ∧ KO x x') (hy : VO y' ∧ KO y y') : PR r σ' x' y' := by
  obtain ⟨⟨h1, h2⟩, ⟨h3, h5⟩, h6, ⟨h7, h8⟩, h9, h10⟩ := h
  refine ⟨⟨by rw [hx.2.1]; exact hg _ h1, by rw [hy.2.1]; exact hg _ h2⟩, ⟨hx.1, hy.1⟩, by rw [h4]; exact h6, ⟨h7.le hx.2.2.1, h8.le hy.2.2.1⟩, ?_, ?_⟩
  · rw [hx.2.2.1, hy.2.2.1]; exact h9
  · rw [hx.2.2.1, hy.2.2.1]; exact h10
theorem PR.rd {r : Nat} {σ : AS} {x y : OS} (h : PR (r + 1) σ x y) {u : AS × OS × OS} (hu : 0 < u.1 0 4 ∧ GV (r + 1) u.1 u.2.1.1 ∧ GV (r + 1) u.1 u.2.2.1 ∧ VO u.2.1 ∧ VO u.2.2 ∧ u.2.1.2.2.1 = x.2.2.1 ∧ u.2.2.2.2.1 = y.2.2.1) : PR r u.1 u.2.1 u.2.2 := by
  obtain ⟨-, -, -, ⟨h7, h8⟩, h9, h10⟩ := h
  obtain ⟨u1, u2, u3, u4, u5, u6, u7⟩ := hu
  refine ⟨⟨u2.le (Nat.le_succ r), u3.le (Nat.le_succ r)⟩, ⟨u4, u5⟩, u1, ⟨h7.le u6, h8.le u7⟩, ?_, ?_⟩
  · rw [u6, u7]; exact h9
  · rw [u6, u7]; exact h10
theorem PR.kee {r : Nat} {σ : AS} {x y : OS} (h : PR (r + 1) σ x y) : PR r σ (keeX x σ) (keeX y σ) := by
  obtain ⟨⟨h1, h2⟩, ⟨h3, h5⟩, h6, -⟩ := h
  have g1 := h1.le (Nat.le_succ r)
  have g2 := h2.le (Nat.le_succ r)
  exact ⟨⟨g1, g2⟩, ⟨h3.kee σ, h5.kee σ⟩, h6, ⟨fun _ => ⟨g1, h6⟩, fun _ => ⟨g2, h6⟩⟩, rfl, rfl⟩
theorem PR.res {r : Nat} {σ : AS} {x y : OS} (h : PR (r + 1) σ x y) (hk : x.2.2.1.2 = 1) : PR r x.2.2.1.1.1 (dueX (recX x σ) x.2.2.1.1.2) (dueX (recX y σ) y.2.2.1.1.2) := by
  obtain ⟨⟨h1, h2⟩, ⟨h3, h5⟩, h6, ⟨h7, h8⟩, h9, h10⟩ := h
  have a := h7 hk
  have b := h8 (by rw [← h10]; exact hk)
  refine ⟨⟨a.1.le (Nat.le_succ r), by rw [h9]; exact b.1.le (Nat.le_succ r)⟩, ⟨h3.rec σ, h5.rec σ⟩, a.2, ⟨h7.le rfl, h8.le rfl⟩, h9, h10⟩
theorem PR.id {r : Nat} {σ : AS} {x y : OS} (h : PR (r + 1) σ x y) : PR r σ x y := h.act (fun d g => g.le (Nat.le_succ r)) rfl ⟨h.2.1.1, KO.rf x⟩ ⟨h.2.1.2, KO.rf y⟩
theorem up2_self (σ : AS) (i k x : Nat) : up2 σ i k x i k = x := by
  unfold up2; rw [if_pos rfl, if_pos rfl]
theorem misS_4 (σ : AS) (j k : Nat) : (misS σ j k) 0 4 = σ 0 4 := by
  unfold misS; split <;> rfl
theorem misS_2 {σ : AS} {j k : Nat} (h : ¬ begunP σ j) : (misS σ j k) 2 j = k := by
  unfold misS
  by_cases he : σ 2 j = k
  · rw [if_pos (Or.inr he)]; exact he
  · rw [if_neg (fun q => q.elim h he)]
    exact up2_self _ _ _ _
theorem corS_4 (σ : AS) (j : Nat) : (corS σ j) 0 4 = σ 0 4 := by
  unfold corS; split <;> rfl
theorem corF_3 (σ : AS) (j : Nat) : (corF σ j) 3 j = dueAt σ j := if_pos rfl
theorem corF_4 (σ : AS) (j : Nat) : (corF σ j) 4 j = 0 := if_pos rfl
theorem corF_5 (σ : AS) (j : Nat) : (corF σ j) 5 j = 1 := if_pos rfl
theorem corF_d (σ : AS) (j q : Nat) : dueAt (corF σ j) q = dueAt σ q := due_keep rfl rfl q
theorem pacS_4 (σ : AS) (w k : Nat) (hw : w = 0 ∨ w = 1) : (pacS σ w k) 0 4 = σ 0 4 := by
  unfold pacS; rcases hw with rfl | rfl <;> split <;> rfl
theorem pacS_v (σ : AS) (w k : Nat) : (pacS σ w k) 0 (12 + w) = k := by
  unfold pacS
  by_cases h : σ 0 (12 + w) = k
  · rw [if_pos h]; exact h
  · rw [if_neg h]; exact up2_self _ _ _ _
theorem setS_4 (σ : AS) (i k : Nat) : (setS σ i k) 0 4 = σ 0 4 := by
  unfold setS; split <;> rfl
theorem setS_v (σ : AS) (i k : Nat) : (setS σ i k) 7 i = k := by
  unfold setS
  by_cases h : σ 7 i = k
  · rw [if_pos h]; exact h
  · rw [if_neg h]; exact up2_self _ _ _ _
theorem letAt_y {σ : AS} {j : Nat} (h : ¬ σ 2 j = 0) : letAt σ j = σ 2 j := if_pos (Nat.pos_of_ne_zero h)
theorem letAt_n {σ : AS} {j : Nat} (h : σ 2 j = 0) : letAt σ j = dueAt σ j := if_neg (by omega)
theorem OWW_l2 (G : GT) (A B : AD) (σ τ σ' τ' : AS) (x y x' y' : OS) : (OW G A σ x ++ OW G B τ y).length = (OW G A σ' x' ++ OW G B τ' y').length := by
  rw [List.length_append, List.length_append, OW_len, OW_len, OW_len, OW_len]
