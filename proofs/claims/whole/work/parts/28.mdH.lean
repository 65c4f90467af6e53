def zrF (σ : AS) : AS := setR (setR (setR (setR (setR σ 2 (fun _ => 0)) 3 (fun _ => 0)) 6 (fun _ => 0)) 4 (fun _ => 0)) 5 (fun _ => 0)
theorem pcM_nextZ (b : Nat) (H : Nat → Nat) (n : Nat) : (fun q => nI (if q = b + n then 0 else pcM b n (fun _ => 0) H q)) = fun q => nI (pcM b (n + 1) (fun _ => 0) H q) := by
  rw [← pcM_next]
theorem pcM_nextI (b : Nat) (kf H : Nat → Nat) (n : Nat) : (fun q => nI (if q = b + n then kf n else pcM b n kf H q)) = fun q => nI (pcM b (n + 1) kf H q) := by
  rw [← pcM_next]
theorem row_zr (σ : AS) {q : Nat} (hq : q < 246) : pcM 46 200 (fun _ => 0) (rowM σ) q = rowM (zrF σ) q := by
  unfold pcM
  by_cases h : 46 ≤ q
  · rw [if_pos ⟨h, by omega⟩]
    unfold rowM
    rw [if_neg (by omega), if_neg (by omega), if_neg (by omega)]
    repeat' split
    all_goals rfl
  · rw [if_neg (by omega)]
    unfold rowM
    repeat' split
    all_goals first | rfl | omega
theorem row_s1 (σ : AS) (g : Nat → Nat) (q : Nat) : pcM 26 20 g (rowM σ) q = rowM (setR σ 1 g) q := by
  unfold pcM
  by_cases h : 26 ≤ q ∧ q < 46
  · rw [if_pos h]
    unfold rowM
    rw [if_neg (by omega), if_neg (by omega), if_pos h.2]
    rfl
  · rw [if_neg h]
    unfold rowM
    repeat' split
    all_goals first | rfl | omega
theorem row_s2 (σ : AS) (g : Nat → Nat) (q : Nat) : pcM 46 40 g (rowM σ) q = rowM (setR σ 2 g) q := by
  unfold pcM
  by_cases h : 46 ≤ q ∧ q < 86
  · rw [if_pos h]
    unfold rowM
    rw [if_neg (by omega), if_neg (by omega), if_neg (by omega), if_pos h.2]
    rfl
  · rw [if_neg h]
    unfold rowM
    repeat' split
    all_goals first | rfl | omega
