/-! isRead: what its loops keep -/
def R1 (x y : OS) (i : Nat) (x1 y1 : OS) : Prop := VO x1 ∧ VO y1 ∧ x1.1 = x.1 ∧ y1.1 = y.1 ∧ x1.2.2.1 = x.2.2.1 ∧ y1.2.2.1 = y.2.2.1 ∧ x1.2.2.2.2.1.2 = i ∧ y1.2.2.2.2.1.2 = i ∧ ∀ q, q < i → 97 ≤ x1.2.2.2.2.1.1 q ∧ x1.2.2.2.2.1.1 q ≤ 122 ∧ y1.2.2.2.2.1.1 q = x1.2.2.2.2.1.1 q
theorem R1.z {x y : OS} (hx : VO x) (hy : VO y) : R1 x y 0 (clrX x) (clrX y) := ⟨hx.clr, hy.clr, rfl, rfl, rfl, rfl, rfl, rfl, fun q hq => absurd hq (by omega)⟩
theorem R1.s {x y : OS} {i : Nat} {x1 y1 : OS} (h : R1 x y i x1 y1) {k : Nat} (hi : i < 60) (hk : 97 ≤ k ∧ k ≤ 122) : R1 x y (i + 1) (typX x1 k) (typX y1 k) := by
  obtain ⟨h1, h2, h3, h4, h5, h6, h7, h8, h9⟩ := h
  refine ⟨h1.typ (by omega) (by omega), h2.typ (by omega) (by omega), h3, h4, h5, h6, ?_, ?_, fun q hq => ?_⟩
  · show x1.2.2.2.2.1.2 + 1 = i + 1
    omega
  · show y1.2.2.2.2.1.2 + 1 = i + 1
    omega
  · show 97 ≤ (if q = x1.2.2.2.2.1.2 then k else x1.2.2.2.2.1.1 q) ∧ (if q = x1.2.2.2.2.1.2 then k else x1.2.2.2.2.1.1 q) ≤ 122 ∧ (if q = y1.2.2.2.2.1.2 then k else y1.2.2.2.2.1.1 q) = (if q = x1.2.2.2.2.1.2 then k else x1.2.2.2.2.1.1 q)
    rw [h7, h8]
    by_cases hq2 : q = i
    · rw [if_pos hq2, if_pos hq2]; exact ⟨hk.1, hk.2, rfl⟩
    · rw [if_neg hq2, if_neg hq2]; exact h9 q (by omega)
/-- the second one's page behind the left half -/
theorem R1.rd {x y : OS} {H : Nat} {x1 y1 : OS} (h : R1 x y H x1 y1) (h1 : 1 ≤ H) (h20 : H ≤ 20) (σ : AS) : psF y1.2.2.2.2.1.1 y1.2.2.2.2.1.2 = (0, H, (fun _ => 0), 0) ∧ halfN y1.2.2.2.2.1.1 y1.2.2.2.2.1.2 = H ∧ newF σ y1.2.2.2.2.1.1 y1.2.2.2.2.1.2 = rdF σ H (fun _ => 0) (fun q => x1.2.2.2.2.1.1 q - 96) := by
  obtain ⟨-, -, -, -, -, -, h7, h8, h9⟩ := h
  have hl : ∀ q, q < H → 97 ≤ y1.2.2.2.2.1.1 q ∧ y1.2.2.2.2.1.1 q ≤ 122 := fun q hq => by have h2 := h9 q hq; omega
  have h3 := (TM.z h1 h20 hl _ y1.2.2.2.2.1.2 (fun q hq => rfl)).1 h8
  refine ⟨h3.1, h3.2, ?_⟩
  unfold newF
  rw [h3.1, h3.2, h8]
  refine rdF_lt σ H _ (fun q hq => ?_)
  have h2 := h9 q hq
  rw [letC_of hq (hl q hq), h2.2.2]
theorem R1.m {x y : OS} {H : Nat} {x1 y1 : OS} (h : R1 x y H x1 y1) (h1 : 1 ≤ H) (h20 : H ≤ 20) : TM H 0 x1.2.2.2.2.1.1 x1.2.2.2.2.1.2 (fun _ => 0) 0 := by
  obtain ⟨-, -, -, -, -, -, h7, h8, h9⟩ := h
  have h3 := TM.z h1 h20 (t := x1.2.2.2.2.1.1) (fun q hq => ⟨(h9 q hq).1, (h9 q hq).2.1⟩)
  rw [h7]
  exact h3
def R2 (r : Nat) (σ : AS) (H : Nat) (lt : Nat → Nat) (x y : OS) (i : Nat) (x1 y1 : OS) (m : Nat → Nat) (g : Nat) : Prop := TM H i x1.2.2.2.2.1.1 x1.2.2.2.2.1.2 m g ∧ (∀ q, q < H → x1.2.2.2.2.1.1 q = 96 + lt q) ∧ (H ≤ x1.2.2.2.2.1.2 ∧ x1.2.2.2.2.1.2 ≤ H + 4 * i) ∧ (∀ q, m q ≤ 26) ∧ g ≤ 2 * H ∧ VO x1 ∧ VO y1 ∧ x1.1 = x.1 ∧ x1.2.2.1 = x.2.2.1 ∧ y1.2.2.1 = y.2.2.1 ∧ GV r (rdF σ H m lt) y1.1
theorem dlp_ok {σ : AS} {H : Nat} {m lt : Nat → Nat} {d lt2 : Nat → Nat} (h : ∀ q, q < H → lt2 q = lt q) : DOK (rdF σ H m lt) (dlp d lt2 H H) := by
  rw [dlp_lt d h]
  exact DOK.rd σ d
theorem sepC_lt (i : Nat) : 0 < sepC i ∧ sepC i < 100 := by
  unfold sepC; split <;> omega
/-- a misreading is typed: what the text is then -/
theorem R2.a {r : Nat} {σ : AS} {H : Nat} {lt : Nat → Nat} {x y : OS} {i : Nat} {x1 y1 : OS} {m : Nat → Nat} {g : Nat} (h : R2 r σ H lt x y i x1 y1 m g) (hH : H ≤ 20) (hi : i < 3) {p c : Nat} (hp : p < 10) (hp2 : p < 2 * H) (hc : 1 ≤ c ∧ c ≤ 26) {y2 : OS} (hy : VO y2 ∧ KO y1 y2) : R2 r σ H lt x y (i + 1) (typX (typX (typX x1 (sepC i)) (48 + p % 10)) (96 + c)) y2 (upN m p c) (max g (p + 1)) := by
  obtain ⟨h1, h2, h3, h4, h5, h6, h7, h8, h9, h10, h11⟩ := h
  have hs := sepC_lt i
  generalize hL : x1.2.2.2.2.1.2 = L at h1 h3
  have hL60 : L + 4 ≤ 60 := by omega
  have e1 : (typX (typX (typX x1 (sepC i)) (48 + p % 10)) (96 + c)).2.2.2.2.1.2 = L + 2 + 1 := by
    show x1.2.2.2.2.1.2 + 1 + 1 + 1 = _
    omega
  have e2 : ∀ q, (typX (typX (typX x1 (sepC i)) (48 + p % 10)) (96 + c)).2.2.2.2.1.1 q = if q = L + 2 then 96 + c else if q = L + 1 then 48 + p % 10 else if q = L then sepC i else x1.2.2.2.2.1.1 q := fun q => by
    show (if q = x1.2.2.2.2.1.2 + 1 + 1 then 96 + c else if q = x1.2.2.2.2.1.2 + 1 then 48 + p % 10 else if q = x1.2.2.2.2.1.2 then sepC i else x1.2.2.2.2.1.1 q) = _
    rw [hL]
  have hv1 := h6.typ (k := sepC i) (by omega) (by omega)
  have hv2 := hv1.typ (k := 48 + p % 10) (by omega) (by show x1.2.2.2.2.1.2 + 1 < 60; omega)
  have hv3 := hv2.typ (k := 96 + c) (by omega) (by show x1.2.2.2.2.1.2 + 1 + 1 < 60; omega)
  refine ⟨?_, fun q hq => ?_, ⟨by rw [e1]; omega, by rw [e1]; omega⟩, fun q => ?_, by omega, hv3, hy.1, h8, h9, hy.2.2.1.trans h10, ?_⟩
  · rw [e1]
    refine TM.next (e := L + 2) (p := p) (c := c) h1 (by omega) (fun q hq => ?_) ?_ hc (Or.inl ⟨hp, rfl, ?_⟩) ?_
    · rw [e2, if_neg (by omega), if_neg (by omega), if_neg (by omega)]
    · rw [e2, if_neg (by omega), if_neg (by omega), if_pos rfl]
    · rw [e2, if_neg (by omega), if_pos rfl]; omega
    · rw [e2, if_pos rfl]
  · rw [e2, if_neg (by omega), if_neg (by omega), if_neg (by omega)]; exact h2 q hq
  · unfold upN; split
    · exact hc.2
    · exact h4 q
  · have h12 := h11.mis (j := p) (k := c) hc.2
    rw [misS_rd] at h12
    rw [hy.2.1]; exact h12
theorem R2.b {r : Nat} {σ : AS} {H : Nat} {lt : Nat → Nat} {x y : OS} {i : Nat} {x1 y1 : OS} {m : Nat → Nat} {g : Nat} (h : R2 r σ H lt x y i x1 y1 m g) (hH : H ≤ 20) (hi : i < 3) {p c : Nat} (hp : 10 ≤ p) (hp2 : p < 2 * H) (hc : 1 ≤ c ∧ c ≤ 26) {y2 : OS} (hy : VO y2 ∧ KO y1 y2) : R2 r σ H lt x y (i + 1) (typX (typX (typX (typX x1 (sepC i)) (48 + p / 10)) (48 + p % 10)) (96 + c)) y2 (upN m p c) (max g (p + 1)) := by
  obtain ⟨h1, h2, h3, h4, h5, h6, h7, h8, h9, h10, h11⟩ := h
  have hs := sepC_lt i
  generalize hL : x1.2.2.2.2.1.2 = L at h1 h3
  have hL60 : L + 4 ≤ 60 := by omega
  have e1 : (typX (typX (typX (typX x1 (sepC i)) (48 + p / 10)) (48 + p % 10)) (96 + c)).2.2.2.2.1.2 = L + 3 + 1 := by
    show x1.2.2.2.2.1.2 + 1 + 1 + 1 + 1 = _
    omega
  have e2 : ∀ q, (typX (typX (typX (typX x1 (sepC i)) (48 + p / 10)) (48 + p % 10)) (96 + c)).2.2.2.2.1.1 q = if q = L + 3 then 96 + c else if q = L + 2 then 48 + p % 10 else if q = L + 1 then 48 + p / 10 else if q = L then sepC i else x1.2.2.2.2.1.1 q := fun q => by
    show (if q = x1.2.2.2.2.1.2 + 1 + 1 + 1 then 96 + c else if q = x1.2.2.2.2.1.2 + 1 + 1 then 48 + p % 10 else if q = x1.2.2.2.2.1.2 + 1 then 48 + p / 10 else if q = x1.2.2.2.2.1.2 then sepC i else x1.2.2.2.2.1.1 q) = _
    rw [hL]
  have hv1 := h6.typ (k := sepC i) (by omega) (by omega)
  have hv2 := hv1.typ (k := 48 + p / 10) (by omega) (by show x1.2.2.2.2.1.2 + 1 < 60; omega)
  have hv3 := hv2.typ (k := 48 + p % 10) (by omega) (by show x1.2.2.2.2.1.2 + 1 + 1 < 60; omega)
  have hv4 := hv3.typ (k := 96 + c) (by omega) (by show x1.2.2.2.2.1.2 + 1 + 1 + 1 < 60; omega)
  refine ⟨?_, fun q hq => ?_, ⟨by rw [e1]; omega, by rw [e1]; omega⟩, fun q => ?_, by omega, hv4, hy.1, h8, h9, hy.2.2.1.trans h10, ?_⟩
  · rw [e1]
    refine TM.next (e := L + 3) (p := p) (c := c) h1 (by omega) (fun q hq => ?_) ?_ hc (Or.inr ⟨hp, by omega, rfl, ?_, ?_⟩) ?_
    · rw [e2, if_neg (by omega), if_neg (by omega), if_neg (by omega), if_neg (by omega)]
    · rw [e2, if_neg (by omega), if_neg (by omega), if_neg (by omega), if_pos rfl]
    · rw [e2, if_neg (by omega), if_neg (by omega), if_pos rfl]
    · rw [e2, if_neg (by omega), if_pos rfl]
    · rw [e2, if_pos rfl]
  · rw [e2, if_neg (by omega), if_neg (by omega), if_neg (by omega), if_neg (by omega)]; exact h2 q hq
  · unfold upN; split
    · exact hc.2
    · exact h4 q
  · have h12 := h11.mis (j := p) (k := c) hc.2
    rw [misS_rd] at h12
    rw [hy.2.1]; exact h12
/-- the first one's page -/
theorem R2.rd {r : Nat} {σ : AS} {H : Nat} {lt : Nat → Nat} {x y : OS} {i : Nat} {x1 y1 : OS} {m : Nat → Nat} {g : Nat} (h : R2 r σ H lt x y i x1 y1 m g) (hl : ∀ q, q < H → 1 ≤ lt q ∧ lt q ≤ 26) : (psF x1.2.2.2.2.1.1 x1.2.2.2.2.1.2).1 = 0 ∧ (psF x1.2.2.2.2.1.1 x1.2.2.2.2.1.2).2.2.2 ≤ 2 * halfN x1.2.2.2.2.1.1 x1.2.2.2.2.1.2 ∧ halfN x1.2.2.2.2.1.1 x1.2.2.2.2.1.2 = H ∧ newF σ x1.2.2.2.2.1.1 x1.2.2.2.2.1.2 = rdF σ H m lt ∧ ∀ q, q < H → letC x1.2.2.2.2.1.1 x1.2.2.2.2.1.2 q = lt q := by
  obtain ⟨h1, h2, h3, h4, h5, -⟩ := h
  have h6 := (h1 _ x1.2.2.2.2.1.2 (fun q hq => rfl)).1 rfl
  have h7 : ∀ q, q < H → letC x1.2.2.2.2.1.1 x1.2.2.2.2.1.2 q = lt q := fun q hq => by
    have h8 := h2 q hq
    have h9 := hl q hq
    rw [letC_of (by omega) (by omega)]
    omega
  refine ⟨by rw [h6.1], ?_, h6.2, ?_, h7⟩
  · rw [h6.1, h6.2]; exact h5
  · unfold newF
    rw [h6.1, h6.2]
    exact rdF_lt σ H m h7
