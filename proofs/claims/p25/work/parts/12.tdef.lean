/-! the text: characters t 0 .. t (L - 1); how it is read as a page -/
def letC (t : Nat → Nat) (L c : Nat) : Nat := if c < L ∧ 97 ≤ t c ∧ t c ≤ 122 then t c - 96 else 0
def digC (t : Nat → Nat) (L c : Nat) : Int32 := if c < L ∧ 48 ≤ t c ∧ t c ≤ 57 then nI (t c - 48) else -1
def hfF (t : Nat → Nat) (L : Nat) : Nat → Nat → Nat
  | 0, c => c
  | k + 1, c => if letC t L c = 0 then c else hfF t L k (c + 1)
def halfN (t : Nat → Nat) (L : Nat) : Nat := hfF t L 20 0
def mrNum (t : Nat → Nat) (L c : Nat) : Nat := if ¬ t c - 48 = 0 ∧ (c + 1 < L ∧ 48 ≤ t (c + 1) ∧ t (c + 1) ≤ 57) ∧ (t c - 48) * 10 + (t (c + 1) - 48) ≤ 39 then (t c - 48) * 10 + (t (c + 1) - 48) else t c - 48
def mrPos (t : Nat → Nat) (L c : Nat) : Nat := if ¬ t c - 48 = 0 ∧ (c + 1 < L ∧ 48 ≤ t (c + 1) ∧ t (c + 1) ≤ 57) ∧ (t c - 48) * 10 + (t (c + 1) - 48) ≤ 39 then c + 2 else c + 1
abbrev mrOk (t : Nat → Nat) (L c : Nat) : Prop := (c < L ∧ 48 ≤ t c ∧ t c ≤ 57) ∧ ¬ letC t L (mrPos t L c) = 0
/-- where the reading stands when a misreading at c fails -/
def mrBad (t : Nat → Nat) (L c : Nat) : Nat := if c < L ∧ 48 ≤ t c ∧ t c ≤ 57 then mrPos t L c else c
def upN (m : Nat → Nat) (k x : Nat) : Nat → Nat := fun q => if q = k then x else m q
/-- the misreadings from c on, with those told so far (m), one more than the greatest place so far (g): 0 and what they tell, or 1 and the fault -/
def pmF (t : Nat → Nat) (L : Nat) : Nat → Nat → (Nat → Nat) → Nat → Nat × Nat × (Nat → Nat) × Nat
  | 0, c, m, g => (1, c, m, g)
  | f + 1, c, m, g => if mrOk t L c then (if mrPos t L c + 1 = L then (0, L, upN m (mrNum t L c) (letC t L (mrPos t L c)), max g (mrNum t L c + 1)) else if t (mrPos t L c + 1) = 44 then pmF t L f (mrPos t L c + 2) (upN m (mrNum t L c) (letC t L (mrPos t L c))) (max g (mrNum t L c + 1)) else (1, mrPos t L c + 1, upN m (mrNum t L c) (letC t L (mrPos t L c)), max g (mrNum t L c + 1))) else (1, mrBad t L c, m, g)
theorem pmF_s (t : Nat → Nat) (L f c : Nat) (m : Nat → Nat) (g : Nat) : pmF t L (f + 1) c m g = if mrOk t L c then (if mrPos t L c + 1 = L then (0, L, upN m (mrNum t L c) (letC t L (mrPos t L c)), max g (mrNum t L c + 1)) else if t (mrPos t L c + 1) = 44 then pmF t L f (mrPos t L c + 2) (upN m (mrNum t L c) (letC t L (mrPos t L c))) (max g (mrNum t L c + 1)) else (1, mrPos t L c + 1, upN m (mrNum t L c) (letC t L (mrPos t L c)), max g (mrNum t L c + 1))) else (1, mrBad t L c, m, g) := rfl
def psF (t : Nat → Nat) (L : Nat) : Nat × Nat × (Nat → Nat) × Nat := if halfN t L = 0 then (1, 0, (fun _ => 0), 0) else if halfN t L = L then (0, L, (fun _ => 0), 0) else if t (halfN t L) = 33 then pmF t L 60 (halfN t L + 1) (fun _ => 0) 0 else (1, halfN t L, (fun _ => 0), 0)
theorem letC_le (t : Nat → Nat) (L c : Nat) : letC t L c ≤ 26 := by
  unfold letC
  split <;> omega
theorem letC_pos {t : Nat → Nat} {L c : Nat} (h : ¬ letC t L c = 0) : c < L ∧ 97 ≤ t c ∧ t c ≤ 122 := by
  unfold letC at h
  by_cases q : c < L ∧ 97 ≤ t c ∧ t c ≤ 122
  · exact q
  · rw [if_neg q] at h
    exact absurd rfl h
theorem mrPos_le (t : Nat → Nat) (L c : Nat) : c + 1 ≤ mrPos t L c ∧ mrPos t L c ≤ c + 2 := by
  unfold mrPos
  split <;> omega
theorem mrOk_lt {t : Nat → Nat} {L c : Nat} (h : mrOk t L c) : mrPos t L c < L := (letC_pos h.2).1
theorem mrNum_le {t : Nat → Nat} {L c : Nat} (h : c < L ∧ 48 ≤ t c ∧ t c ≤ 57) : mrNum t L c ≤ 39 := by
  unfold mrNum
  split <;> omega
theorem hfF_le (t : Nat → Nat) (L : Nat) : ∀ k c, c ≤ hfF t L k c ∧ hfF t L k c ≤ c + k ∧ (c ≤ L → hfF t L k c ≤ L) ∧ ∀ q, c ≤ q → q < hfF t L k c → ¬ letC t L q = 0 := by
  intro k
  induction k with
  | zero => intro c; unfold hfF; exact ⟨Nat.le_refl _, Nat.le_refl _, fun h => h, fun q h1 h2 => by omega⟩
  | succ k ih =>
    intro c
    unfold hfF
    by_cases h : letC t L c = 0
    · rw [if_pos h]
      exact ⟨Nat.le_refl _, by omega, fun h => h, fun q h1 h2 => by omega⟩
    · rw [if_neg h]
      have h1 := ih (c + 1)
      have h2 := letC_pos h
      refine ⟨by omega, by omega, fun _ => h1.2.2.1 (by omega), fun q h3 h4 => ?_⟩
      rcases Nat.lt_or_ge c q with h5 | h5
      · exact h1.2.2.2 q (by omega) h4
      · have e : q = c := by omega
        rw [e]; exact h
theorem halfN_le (t : Nat → Nat) (L : Nat) : halfN t L ≤ 20 ∧ halfN t L ≤ L ∧ ∀ q, q < halfN t L → ¬ letC t L q = 0 := by
  have h := hfF_le t L 20 0
  exact ⟨by unfold halfN; omega, h.2.2.1 (Nat.zero_le _), fun q hq => h.2.2.2 q (Nat.zero_le _) hq⟩
theorem mx_far {g n : Nat} (hg : g ≤ 100) (hn : n ≤ 100) : (if nI g - 1 < nI n then nI n else nI g - 1) = nI (max g (n + 1)) - 1 := by
  have e : (nI g - 1).toInt = (g : Int) - 1 := pk_sub_toInt (b := 1) (by omega) (by omega)
  have e2 : ∀ k : Nat, nI (k + 1) - 1 = nI k := nI_pred
  by_cases h : g ≤ n
  · rw [if_pos (by rw [fa_lt, e, nI_toInt (by omega)]; omega), Nat.max_eq_right (by omega), e2]
  · rw [if_neg (by rw [fa_lt, e, nI_toInt (by omega)]; omega), Nat.max_eq_left (by omega)]
theorem nar_c {x : Nat} (h : x < 65536) : vp_nar .char (nI x) = nI x := by
  have h1 := (pk_charN h).1
  have h2 : narrow .char (.int (nI x)) = .int (vp_nar .char (nI x)) := rfl
  rw [h2] at h1
  exact Value.int.inj h1
/-- what the readers read of a text: below 100 misread places, letters -/
theorem pmF_ok (t : Nat → Nat) (L : Nat) : ∀ f c m g, g ≤ 40 → (∀ q, m q ≤ 26) → (∀ q, g ≤ q → m q = 0) → (pmF t L f c m g).2.2.2 ≤ 40 ∧ (∀ q, (pmF t L f c m g).2.2.1 q ≤ 26) ∧ ∀ q, (pmF t L f c m g).2.2.2 ≤ q → (pmF t L f c m g).2.2.1 q = 0 := by
  intro f
  induction f with
  | zero => intro c m g h1 h2 h3; exact ⟨h1, h2, h3⟩
  | succ f ih =>
    intro c m g h1 h2 h3
    rw [pmF_s]
    by_cases hok : mrOk t L c
    · have hn := mrNum_le hok.1
      have a1 : max g (mrNum t L c + 1) ≤ 40 := by omega
      have a2 : ∀ q, upN m (mrNum t L c) (letC t L (mrPos t L c)) q ≤ 26 := by
        intro q
        unfold upN
        split
        · exact letC_le _ _ _
        · exact h2 q
      have a3 : ∀ q, max g (mrNum t L c + 1) ≤ q → upN m (mrNum t L c) (letC t L (mrPos t L c)) q = 0 := by
        intro q hq
        unfold upN
        rw [if_neg (by omega)]
        exact h3 q (by omega)
      rw [if_pos hok]
      split
      · exact ⟨a1, a2, a3⟩
      · split
        · exact ih _ _ _ a1 a2 a3
        · exact ⟨a1, a2, a3⟩
    · rw [if_neg hok]
      exact ⟨h1, h2, h3⟩
theorem psF_ok (t : Nat → Nat) (L : Nat) : (psF t L).2.2.2 ≤ 40 ∧ (∀ q, (psF t L).2.2.1 q ≤ 26) ∧ ∀ q, (psF t L).2.2.2 ≤ q → (psF t L).2.2.1 q = 0 := by
  unfold psF
  split
  · exact ⟨by decide, fun _ => by show 0 ≤ 26; omega, fun _ _ => rfl⟩
  split
  · exact ⟨by show 0 ≤ 40; omega, fun _ => by show 0 ≤ 26; omega, fun _ _ => rfl⟩
  split
  · exact pmF_ok t L _ _ _ _ (by omega) (fun _ => by omega) (fun _ _ => rfl)
  · exact ⟨by show 0 ≤ 40; omega, fun _ => by show 0 ≤ 26; omega, fun _ _ => rfl⟩
/-! the cells of a PageText -/
abbrev txW (G : GT) (b : Nat → Nat) (t : Nat → Nat) (L : Nat) (lt ms : Nat → Nat) (hf : Nat) (fa : Int32) (cu : Nat) : va_W := [(b 0, .inr (2, [.ref (b 1), .ref (b 2), .ref (b 3), .int (nI L), .int (nI hf), .int fa, .int (nI cu)])), (b 1, .inl (G.2.2.1, 60, .inl (fun q => nI (t q)))), (b 2, .inl (G.2.1, 20, .inl (fun q => nI (lt q)))), (b 3, .inl (G.2.1, 40, .inl (fun q => nI (ms q))))]
theorem hfF_stop {t : Nat → Nat} {L c : Nat} (h : letC t L c = 0) : ∀ k, hfF t L k c = c := by
  intro k
  cases k with
  | zero => rfl
  | succ k => exact if_pos h
theorem hfF_next {t : Nat → Nat} {L c k : Nat} (h : ¬ letC t L c = 0) : hfF t L (k + 1) c = hfF t L k (c + 1) := if_neg h
theorem lt_step (t : Nat → Nat) (L i : Nat) (lt : Nat → Nat) : (fun q => nI (if q = i then letC t L i else if q < i then letC t L q else lt q)) = fun q => nI (if q < i + 1 then letC t L q else lt q) := by
  funext q
  congr 1
  by_cases hq : q = i
  · rw [if_pos hq, if_pos (by omega), hq]
  · rw [if_neg hq]
    by_cases hq2 : q < i
    · rw [if_pos hq2, if_pos (by omega)]
    · rw [if_neg hq2, if_neg (by omega)]
