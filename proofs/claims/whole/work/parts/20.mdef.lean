/-! the reference's row of numbers -/
def rowM (σ : AS) : Nat → Nat := fun k => if k < 3 then σ 7 k else if k < 26 then σ 0 k else if k < 46 then σ 1 (k - 26) else if k < 86 then σ 2 (k - 46) else if k < 126 then σ 3 (k - 86) else if k < 166 then σ 4 (k - 126) else if k < 206 then σ 5 (k - 166) else σ 6 (k - 206)
theorem rowM_7 (σ : AS) {k : Nat} (h : k < 3) : rowM σ k = σ 7 k := if_pos h
theorem rowM_0 (σ : AS) {k : Nat} (h0 : 3 ≤ k) (h : k < 26) : rowM σ k = σ 0 k := by unfold rowM; rw [if_neg (by omega), if_pos h]
theorem rowM_1 (σ : AS) {k : Nat} (h : k < 20) : rowM σ (26 + k) = σ 1 k := by unfold rowM; rw [if_neg (by omega), if_neg (by omega), if_pos (by omega), Nat.add_sub_cancel_left]
theorem rowM_2 (σ : AS) {k : Nat} (h : k < 40) : rowM σ (46 + k) = σ 2 k := by unfold rowM; rw [if_neg (by omega), if_neg (by omega), if_neg (by omega), if_pos (by omega), Nat.add_sub_cancel_left]
theorem rowM_3 (σ : AS) {k : Nat} (h : k < 40) : rowM σ (86 + k) = σ 3 k := by unfold rowM; rw [if_neg (by omega), if_neg (by omega), if_neg (by omega), if_neg (by omega), if_pos (by omega), Nat.add_sub_cancel_left]
theorem rowM_4 (σ : AS) {k : Nat} (h : k < 40) : rowM σ (126 + k) = σ 4 k := by unfold rowM; rw [if_neg (by omega), if_neg (by omega), if_neg (by omega), if_neg (by omega), if_neg (by omega), if_pos (by omega), Nat.add_sub_cancel_left]
theorem rowM_5 (σ : AS) {k : Nat} (h : k < 40) : rowM σ (166 + k) = σ 5 k := by unfold rowM; rw [if_neg (by omega), if_neg (by omega), if_neg (by omega), if_neg (by omega), if_neg (by omega), if_neg (by omega), if_pos (by omega), Nat.add_sub_cancel_left]
theorem rowM_6 (σ : AS) (k : Nat) : rowM σ (206 + k) = σ 6 k := by unfold rowM; rw [if_neg (by omega), if_neg (by omega), if_neg (by omega), if_neg (by omega), if_neg (by omega), if_neg (by omega), if_neg (by omega), Nat.add_sub_cancel_left]
theorem up2_at (σ : AS) (i k x : Nat) : up2 σ i k x i k = x := by unfold up2; rw [if_pos rfl, if_pos rfl]
theorem up2_row {σ : AS} {i k x j q : Nat} (h : ¬ (j = i ∧ q = k)) : up2 σ i k x j q = σ j q := by
  unfold up2
  by_cases h1 : j = i
  · rw [if_pos h1, if_neg (fun e => h ⟨h1, e⟩), h1]
  · rw [if_neg h1]
theorem rowM_u {σ : AS} {i k x K : Nat} (hK : ∀ τ : AS, rowM τ K = τ i k) (hn : ∀ q, ¬ q = K → rowM (up2 σ i k x) q = rowM σ q) : upd (fun q => nI (rowM σ q)) K (nI x) = fun q => nI (rowM (up2 σ i k x) q) := by
  rw [upd_nI]
  funext q
  congr 1
  by_cases h : q = K
  · rw [if_pos h, h, hK, up2_at]
  · rw [if_neg h, hn q h]
theorem rowM_ne {σ : AS} {i k x q : Nat} (h7 : q < 3 → ¬ (7 = i ∧ q = k)) (h0 : 3 ≤ q → q < 26 → ¬ (0 = i ∧ q = k)) (h1 : 26 ≤ q → q < 46 → ¬ (1 = i ∧ q - 26 = k)) (h2 : 46 ≤ q → q < 86 → ¬ (2 = i ∧ q - 46 = k)) (h3 : 86 ≤ q → q < 126 → ¬ (3 = i ∧ q - 86 = k)) (h4 : 126 ≤ q → q < 166 → ¬ (4 = i ∧ q - 126 = k)) (h5 : 166 ≤ q → q < 206 → ¬ (5 = i ∧ q - 166 = k)) (h6 : 206 ≤ q → ¬ (6 = i ∧ q - 206 = k)) : rowM (up2 σ i k x) q = rowM σ q := by
  unfold rowM
  by_cases a1 : q < 3
  · rw [if_pos a1, if_pos a1, up2_row (h7 a1)]
  rw [if_neg a1, if_neg a1]
  by_cases a2 : q < 26
  · rw [if_pos a2, if_pos a2, up2_row (h0 (by omega) a2)]
  rw [if_neg a2, if_neg a2]
  by_cases a3 : q < 46
  · rw [if_pos a3, if_pos a3, up2_row (h1 (by omega) a3)]
  rw [if_neg a3, if_neg a3]
  by_cases a4 : q < 86
  · rw [if_pos a4, if_pos a4, up2_row (h2 (by omega) a4)]
  rw [if_neg a4, if_neg a4]
  by_cases a5 : q < 126
  · rw [if_pos a5, if_pos a5, up2_row (h3 (by omega) a5)]
  rw [if_neg a5, if_neg a5]
  by_cases a6 : q < 166
  · rw [if_pos a6, if_pos a6, up2_row (h4 (by omega) a6)]
  rw [if_neg a6, if_neg a6]
  by_cases a7 : q < 206
  · rw [if_pos a7, if_pos a7, up2_row (h5 (by omega) a7)]
  rw [if_neg a7, if_neg a7, up2_row (h6 (by omega))]
theorem rowM_u7 (σ : AS) {k : Nat} (x : Nat) (h : k < 3) : upd (fun q => nI (rowM σ q)) k (nI x) = fun q => nI (rowM (up2 σ 7 k x) q) := rowM_u (fun τ => rowM_7 τ h) (fun q hq => rowM_ne (by omega) (by omega) (by omega) (by omega) (by omega) (by omega) (by omega) (by omega))
theorem rowM_u0 (σ : AS) {k : Nat} (x : Nat) (h0 : 3 ≤ k) (h : k < 26) : upd (fun q => nI (rowM σ q)) k (nI x) = fun q => nI (rowM (up2 σ 0 k x) q) := rowM_u (fun τ => rowM_0 τ h0 h) (fun q hq => rowM_ne (by omega) (by omega) (by omega) (by omega) (by omega) (by omega) (by omega) (by omega))
theorem rowM_u2 (σ : AS) {k : Nat} (x : Nat) (h : k < 40) : upd (fun q => nI (rowM σ q)) (46 + k) (nI x) = fun q => nI (rowM (up2 σ 2 k x) q) := rowM_u (fun τ => rowM_2 τ h) (fun q hq => rowM_ne (by omega) (by omega) (by omega) (by omega) (by omega) (by omega) (by omega) (by omega))
theorem rowM_u3 (σ : AS) {k : Nat} (x : Nat) (h : k < 40) : upd (fun q => nI (rowM σ q)) (86 + k) (nI x) = fun q => nI (rowM (up2 σ 3 k x) q) := rowM_u (fun τ => rowM_3 τ h) (fun q hq => rowM_ne (by omega) (by omega) (by omega) (by omega) (by omega) (by omega) (by omega) (by omega))
theorem rowM_u4 (σ : AS) {k : Nat} (x : Nat) (h : k < 40) : upd (fun q => nI (rowM σ q)) (126 + k) (nI x) = fun q => nI (rowM (up2 σ 4 k x) q) := rowM_u (fun τ => rowM_4 τ h) (fun q hq => rowM_ne (by omega) (by omega) (by omega) (by omega) (by omega) (by omega) (by omega) (by omega))
theorem rowM_u5 (σ : AS) {k : Nat} (x : Nat) (h : k < 40) : upd (fun q => nI (rowM σ q)) (166 + k) (nI x) = fun q => nI (rowM (up2 σ 5 k x) q) := rowM_u (fun τ => rowM_5 τ h) (fun q hq => rowM_ne (by omega) (by omega) (by omega) (by omega) (by omega) (by omega) (by omega) (by omega))
theorem rowM_u6 (σ : AS) (k x : Nat) : upd (fun q => nI (rowM σ q)) (206 + k) (nI x) = fun q => nI (rowM (up2 σ 6 k x) q) := rowM_u (fun τ => rowM_6 τ k) (fun q hq => rowM_ne (by omega) (by omega) (by omega) (by omega) (by omega) (by omega) (by omega) (by omega))
/-! a tick told before or behind -/
theorem up2_c3 {σ : AS} {i k x y : Nat} (h : ¬ (i = 0 ∧ k = 3)) : up2 (up2 σ i k y) 0 3 x = up2 (up2 σ 0 3 x) i k y := by
  funext j q
  by_cases h1 : j = 0 ∧ q = 3
  · rw [h1.1, h1.2, up2_at, up2_row (by omega), up2_at]
  · rw [up2_row h1]
    by_cases h2 : j = i ∧ q = k
    · rw [h2.1, h2.2, up2_at, up2_at]
    · rw [up2_row h2, up2_row h2, up2_row h1]
theorem does_3 (σ : AS) (x : Nat) : doesN (up2 σ 0 3 x) 0 = doesN σ 0 ∧ doesN (up2 σ 0 3 x) 1 = doesN σ 1 := does_alike (fun k h1 _ _ => up2_row (by omega)) rfl rfl
theorem goes_3 (σ : AS) (x w : Nat) : up2 (goesF σ 0 w) 0 3 x = goesF (up2 σ 0 3 x) 0 w ∧ up2 (goesF σ 1 w) 0 3 x = goesF (up2 σ 0 3 x) 1 w := by
  have hd := does_3 σ x
  constructor
  · rw [goesF_0, goesF_0, hd.1]
    split
    · rw [writesF_0, writesF_0]
      show up2 (if σ 0 16 + 1 < σ 0 12 then _ else _) 0 3 x = if σ 0 16 + 1 < σ 0 12 then _ else _
      split
      · rw [up2_c3 (by omega)]; rfl
      · rw [wroteF_0, wroteF_0, up2_c3 (by omega), up2_c3 (by omega), up2_c3 (by omega), up2_c3 (by omega), up2_c3 (by omega), up2_c3 (by omega), up2_c3 (by omega), up2_c3 (by omega)]; rfl
    split
    · rw [dipsF_0, dipsF_0]
      show up2 (if σ 0 18 - 1 = 0 then _ else _) 0 3 x = if σ 0 18 - 1 = 0 then _ else _
      split
      · rw [up2_c3 (by omega), up2_c3 (by omega), up2_c3 (by omega), up2_c3 (by omega)]; rfl
      · rw [up2_c3 (by omega)]; rfl
    split
    · rw [up2_c3 (by omega)]; rfl
    split
    · rfl
    · rw [up2_c3 (by omega)]; rfl
  · rw [goesF_1, goesF_1, hd.2]
    split
    · rw [writesF_1, writesF_1]
      show up2 (if σ 0 17 + 1 < σ 0 13 then _ else _) 0 3 x = if σ 0 17 + 1 < σ 0 13 then _ else _
      split
      · rw [up2_c3 (by omega)]; rfl
      · rw [wroteF_1, wroteF_1, up2_c3 (by omega), up2_c3 (by omega), up2_c3 (by omega), up2_c3 (by omega), up2_c3 (by omega), up2_c3 (by omega), up2_c3 (by omega), up2_c3 (by omega)]; rfl
    split
    · rw [dipsF_1, dipsF_1]
      show up2 (if σ 0 19 - 1 = 0 then _ else _) 0 3 x = if σ 0 19 - 1 = 0 then _ else _
      split
      · rw [up2_c3 (by omega), up2_c3 (by omega), up2_c3 (by omega), up2_c3 (by omega)]; rfl
      · rw [up2_c3 (by omega)]; rfl
    split
    · rw [up2_c3 (by omega)]; rfl
    split
    · rfl
    · rw [up2_c3 (by omega)]; rfl
theorem ticks_m (σ : AS) : up2 (goesF (goesF σ 0 (σ 0 3 + 1)) 1 (σ 0 3 + 1)) 0 3 (σ 0 3 + 1) = ticksF σ := by
  rw [(goes_3 _ _ _).2, (goes_3 _ _ _).1]
  rfl
/-- what comes next for the right one doesn't hang on the tick that is told -/
theorem next_m (σ : AS) (w : Nat) : doesN (goesF σ 0 w) 1 = nextN σ := by
  unfold nextN
  have key : ∀ v w : Nat, (goesF σ 0 v) 0 = (goesF σ 0 w) 0 ∧ (goesF σ 0 v) 1 = (goesF σ 0 w) 1 ∧ (goesF σ 0 v) 2 = (goesF σ 0 w) 2 := by
    intro v w
    rw [goesF_0, goesF_0]
    split
    · rw [writesF_0, writesF_0]
      split
      · exact ⟨rfl, rfl, rfl⟩
      · rw [wroteF_0, wroteF_0]; exact ⟨rfl, rfl, rfl⟩
    · exact ⟨rfl, rfl, rfl⟩
  obtain ⟨h0, h1, h2⟩ := key w (σ 0 3)
  exact (does_alike (fun k _ _ _ => by rw [h0]) h1 h2).2
/-! the history's row behind one more state -/
def endH (H kf : Nat → Nat) (n : Nat) : Nat → Nat := fun q => if 246 * (if n = 4 then 3 else n) ≤ q ∧ q < 246 * (if n = 4 then 3 else n) + 246 then kf (q - 246 * (if n = 4 then 3 else n)) else if n = 4 then (if q < 738 then H (q + 246) else H q) else H q
/-! the cells of the reference -/
abbrev mdW (G : GT) (c : Nat → Nat) (σ : AS) (kf tf H sf df xf : Nat → Nat) (hn ik tl sp rd : Nat) (gr : Int32) : va_W := [(c 0, .inr (6, [.ref (c 1), .ref (c 2), .ref (c 3), .ref (c 4), .int (nI hn), .ref (c 5), .int (nI ik), .ref (c 6), .ref (c 7), .int (nI tl), .int (nI sp), .int (nI rd), .int gr])), (c 1, .inl (G.2.1, 246, .inl (fun q => nI (rowM σ q)))), (c 2, .inl (G.2.1, 246, .inl (fun q => nI (kf q)))), (c 3, .inl (G.2.1, 246, .inl (fun q => nI (tf q)))), (c 4, .inl (G.2.1, 984, .inl (fun q => nI (H q)))), (c 5, .inl (G.2.1, 246, .inl (fun q => nI (sf q)))), (c 6, .inl (G.2.1, 40, .inl (fun q => nI (df q)))), (c 7, .inl (G.2.1, 60, .inl (fun q => nI (xf q))))]
