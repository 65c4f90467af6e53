/-! isWell: sums -/
theorem sumN_congr {f g : Nat → Nat} : ∀ n, (∀ q, q < n → f q = g q) → sumN f n = sumN g n
  | 0, _ => rfl
  | n + 1, h => by
    show sumN f n + f n = sumN g n + g n
    rw [sumN_congr n (fun q hq => h q (by omega)), h n (by omega)]
theorem sumN_front (f : Nat → Nat) : ∀ n, sumN f (n + 1) = f 0 + sumN (fun q => f (q + 1)) n
  | 0 => by
    show 0 + f 0 = f 0 + 0
    omega
  | n + 1 => by
    show sumN f (n + 1) + f (n + 1) = f 0 + (sumN (fun q => f (q + 1)) n + f (n + 1))
    rw [sumN_front f n]
    omega
theorem sumN_rev (f : Nat → Nat) : ∀ n, sumN f n = sumN (fun q => f (n - 1 - q)) n
  | 0 => rfl
  | n + 1 => by
    rw [sumN_front (fun q => f (n + 1 - 1 - q)) n]
    show sumN f n + f n = f n + sumN (fun q => f (n - (q + 1))) n
    rw [sumN_rev f n, Nat.add_comm]
    congr 1
    exact sumN_congr n (fun q hq => by rw [show n - 1 - q = n - (q + 1) by omega])
theorem sumN_add (f : Nat → Nat) (a : Nat) : ∀ b, sumN f (a + b) = sumN f a + sumN (fun q => f (a + q)) b
  | 0 => rfl
  | b + 1 => by
    show sumN f (a + b) + f (a + b) = sumN f a + (sumN (fun q => f (a + q)) b + f (a + b))
    rw [sumN_add f a b]
    omega
theorem sumN_mir {f : Nat → Nat} {h : Nat} (hf : ∀ q, q < 2 * h → f (2 * h - 1 - q) = f q) : sumN f (2 * h) = 2 * sumN f h := by
  rw [show 2 * h = h + h by omega, sumN_add, sumN_rev f h, sumN_congr (f := fun q => f (h + q)) (g := fun q => f (h - 1 - q)) h (fun q hq => ?_)]
  · omega
  · rw [← hf (h - 1 - q) (by omega)]
    congr 1
    omega
theorem unl_mir {σ : AS} {q : Nat} (hq : q < σ 0 4) : unl σ (σ 0 4 - 1 - q) = unl σ q := by
  unfold unl
  rw [show σ 0 4 - 1 - (σ 0 4 - 1 - q) = q by omega]
  by_cases h : 0 < σ 3 q ∧ 0 < σ 3 (σ 0 4 - 1 - q) ∧ ¬ σ 3 q = σ 3 (σ 0 4 - 1 - q)
  · rw [if_pos h, if_pos ⟨h.2.1, h.1, fun e => h.2.2 e.symm⟩]
  · rw [if_neg h, if_neg (fun e => h ⟨e.2.1, e.1, fun z => e.2.2 z.symm⟩)]
theorem unl_two {σ : AS} (h : Inv σ) : sumN (unl σ) (σ 0 4 / 2) = sumN (unl σ) (σ 0 4) / 2 := by
  have ha := h.a
  have e : σ 0 4 = 2 * (σ 0 4 / 2) := by omega
  have h1 : sumN (unl σ) (2 * (σ 0 4 / 2)) = 2 * sumN (unl σ) (σ 0 4 / 2) := sumN_mir (fun q hq => by rw [← e]; exact unl_mir (by omega))
  rw [← e] at h1
  omega
def wrF (σ : AS) (q : Nat) : Nat := if 0 < σ 3 q then 1 else 0
theorem wr_sum {σ : AS} (h : Inv σ) : ∀ k, k ≤ σ 0 4 → sumN (wrF σ) k = (if k ≤ σ 0 14 then k else σ 0 14) + (k + σ 0 15 - σ 0 4)
  | 0, _ => by
    have hc := h.c
    show 0 = _
    rw [if_pos (Nat.zero_le _)]
    omega
  | k + 1, hk => by
    have ha := h.a
    have hc := h.c
    have hq := h.q (q := k) (by omega)
    show sumN (wrF σ) k + wrF σ k = _
    rw [wr_sum h k (by omega)]
    unfold wrF
    by_cases h1 : 0 < σ 3 k
    · rw [if_pos h1]
      by_cases h2 : k + 1 ≤ σ 0 14
      · rw [if_pos h2, if_pos (by omega)]; omega
      · rw [if_neg h2]
        by_cases h3 : k ≤ σ 0 14
        · rw [if_pos h3]; omega
        · rw [if_neg h3]; omega
    · rw [if_neg h1]
      rw [if_neg (show ¬ k + 1 ≤ σ 0 14 by omega)]
      by_cases h3 : k ≤ σ 0 14
      · rw [if_pos h3]; omega
      · rw [if_neg h3]; omega
theorem wr_all {σ : AS} (h : Inv σ) : sumN (wrF σ) (σ 0 4) = σ 0 14 + σ 0 15 := by
  have hc := h.c
  rw [wr_sum h _ (Nat.le_refl _)]
  by_cases h3 : σ 0 4 ≤ σ 0 14
  · rw [if_pos h3]; omega
  · rw [if_neg h3]; omega
theorem due_mir {σ : AS} (h : Inv σ) {q : Nat} (hq : q < σ 0 4) : dueAt σ (σ 0 4 - 1 - q) = dueAt σ q := by
  have ha := h.a
  unfold dueAt
  by_cases h1 : q < σ 0 4 / 2
  · rw [if_pos h1, if_neg (by omega), show σ 0 4 - 1 - (σ 0 4 - 1 - q) = q by omega]
  · rw [if_neg h1, if_pos (by omega)]
theorem dnF_ne (σ : AS) : ∀ f c, 1 ≤ c → c + f < 100000 → ¬ dnF f c σ = 0 := by
  intro f
  induction f generalizing σ with
  | zero => intro c _ _; show ¬ (-5 : Int32) = 0; decide
  | succ f ih =>
    intro c h1 h2
    rw [dnF_s]
    split
    · intro q
      have h3 := congrArg Int32.toInt q
      rw [nI_toInt (by omega)] at h3
      have h4 : (0 : Int32).toInt = 0 := by decide
      omega
    · exact ih (ticksF σ) (c + 1) (by omega) (by omega)
theorem nd_le {σ : AS} (h : Inv σ) (k : Nat) (hk : k ≤ σ 0 4) : sumN (ndF σ) k ≤ k * 26 := sumN_le k (fun q hq => by
  have h1 := h.let (p := q) (by omega)
  unfold ndF
  split <;> omega)
theorem fcv_gt_no {a b : Nat} (h : a ≤ b) : ¬ (0 : Int32) < (if a < b then (-1 : Int32) else if a = b then 0 else 1) := by
  intro q
  by_cases h1 : a < b
  · rw [if_pos h1] at q; exact absurd q (by decide)
  · rw [if_neg h1, if_pos (by omega)] at q; exact absurd q (by decide)
theorem fcv_lt_no {a b : Nat} (h : b ≤ a) : ¬ (if a < b then (-1 : Int32) else if a = b then 0 else 1) < 0 := by
  intro q
  rw [if_neg (by omega)] at q
  split at q <;> exact absurd q (by decide)
theorem nI_nlt5 {n : Nat} (h : n < 2147483648) : ¬ nI n < -5 := by
  rw [fa_lt, nI_toInt h]
  have h2 : (-5 : Int32).toInt = -5 := by decide
  omega
