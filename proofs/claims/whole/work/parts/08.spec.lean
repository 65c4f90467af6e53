/-! numbers: branch conditions over nI as facts of Nat -/
theorem cv_eq_t {a b : Nat} (ha : a < 2147483648) (hb : b < 2147483648) (h : nI a = nI b) : a = b := (nI_eq ha hb).mp h
theorem cv_eq_f {a b : Nat} (ha : a < 2147483648) (hb : b < 2147483648) (h : ¬ nI a = nI b) : ¬ a = b := fun q => h ((nI_eq ha hb).mpr q)
theorem cv_ne_t {a b : Nat} (ha : a < 2147483648) (hb : b < 2147483648) (h : ¬ nI a = nI b) : ¬ a = b := fun q => h ((nI_eq ha hb).mpr q)
theorem cv_ne_f {a b : Nat} (ha : a < 2147483648) (hb : b < 2147483648) (h : nI a = nI b) : a = b := (nI_eq ha hb).mp h
theorem cv_lt_t {a b : Nat} (ha : a < 2147483648) (hb : b < 2147483648) (h : nI a < nI b) : a < b := (nI_ltI ha hb).mp h
theorem cv_lt_f {a b : Nat} (ha : a < 2147483648) (hb : b < 2147483648) (h : ¬ nI a < nI b) : b ≤ a := Nat.le_of_not_lt fun q => h ((nI_ltI ha hb).mpr q)
theorem cv_ge_t {a b : Nat} (ha : a < 2147483648) (hb : b < 2147483648) (h : nI b ≤ nI a) : b ≤ a := (nI_leI hb ha).mp h
theorem cv_ge_f {a b : Nat} (ha : a < 2147483648) (hb : b < 2147483648) (h : ¬ nI b ≤ nI a) : a < b := Nat.lt_of_not_le fun q => h ((nI_leI hb ha).mpr q)
theorem cv_gt_t {a b : Nat} (ha : a < 2147483648) (hb : b < 2147483648) (h : nI b < nI a) : b < a := (nI_ltI hb ha).mp h
theorem cv_gt_f {a b : Nat} (ha : a < 2147483648) (hb : b < 2147483648) (h : ¬ nI b < nI a) : a ≤ b := Nat.le_of_not_lt fun q => h ((nI_ltI hb ha).mpr q)
theorem cv_le_t {a b : Nat} (ha : a < 2147483648) (hb : b < 2147483648) (h : nI a ≤ nI b) : a ≤ b := (nI_leI ha hb).mp h
theorem cv_le_f {a b : Nat} (ha : a < 2147483648) (hb : b < 2147483648) (h : ¬ nI a ≤ nI b) : b < a := Nat.lt_of_not_le fun q => h ((nI_leI ha hb).mpr q)
theorem fa_lt (a b : Int32) : a < b ↔ a.toInt < b.toInt := Int32.lt_iff_toInt_lt
theorem fa_le (a b : Int32) : a ≤ b ↔ a.toInt ≤ b.toInt := Int32.le_iff_toInt_le
theorem fa_eq (a b : Int32) : a = b ↔ a.toInt = b.toInt := Int32.toInt_inj.symm
theorem fa_lt64 (a b : Int64) : a < b ↔ a.toInt < b.toInt := Int64.lt_iff_toInt_lt
theorem fa_le64 (a b : Int64) : a ≤ b ↔ a.toInt ≤ b.toInt := Int64.le_iff_toInt_le
theorem fa_eq64 (a b : Int64) : a = b ↔ a.toInt = b.toInt := Int64.toInt_inj.symm
theorem fb_rng32 (x : Int32) : -2147483648 ≤ x.toInt ∧ x.toInt < 2147483648 := ⟨x.le_toInt, x.toInt_lt⟩
theorem upd_nI (g : Nat → Nat) (j x : Nat) : upd (fun q => nI (g q)) j (nI x) = fun q => nI (if q = j then x else g q) := by
  funext q
  unfold upd
  by_cases h : q = j
  · rw [if_pos h, if_pos h]
  · rw [if_neg h, if_neg h]
/-! the state: rows of numbers. Row 0: the numbers 3 to 25 (tick, places, corrections, well, ink of letters, of corrections, pages, letters, poured; then by pairs pace, wrote, spent, dipping, dips, waits, pen); 1: what is due (the left half); 2: told; 3: written; 4: blots; 5: corrected; 6: when; 7: the settings. Ink in 64ths. -/
abbrev AS : Type := Nat → Nat → Nat
def up2 (σ : AS) (i k x : Nat) : AS := fun j q => if j = i then (if q = k then x else σ i q) else σ j q
/-- n times 2^-t in a format -/
def dC (f : FP.Core.Fmt) (t n : Nat) : FP.Core.Datum := if n = 0 then .fin false 0 f.qmin else .fin false (n * 2 ^ (f.p - 1 - n.log2)) ((n.log2 : Int) - ((f.p : Int) - 1) - t)
/-- n / 64 as a float, as a double -/
def fl (n : Nat) : UInt32 := UInt32.ofNat (FP.Core.encode FP.Core.b32 (dC FP.Core.b32 6 n))
def dl (n : Nat) : UInt64 := UInt64.ofNat (FP.Core.encode FP.Core.b64 (dC FP.Core.b64 6 n))
def dueAt (σ : AS) (p : Nat) : Nat := σ 1 (if p < σ 0 4 / 2 then p else σ 0 4 - 1 - p)
def letAt (σ : AS) (p : Nat) : Nat := if 0 < σ 2 p then σ 2 p else dueAt σ p
/-! the cells of a page, of a state: addresses a 0 .. a 10; d: the row of what is due as the class holds it (40 places) -/
abbrev pgW (G : GT) (a : Nat → Nat) (σ : AS) (d : Nat → Nat) : va_W := [(a 1, .inr (1, [.ref (a 2), .ref (a 3), .ref (a 4), .ref (a 5), .ref (a 6), .ref (a 7), .int (nI (σ 0 4)), .int (nI (σ 0 5))])), (a 2, .inl (G.2.1, 40, .inl (fun q => nI (d q)))), (a 3, .inl (G.2.1, 40, .inl (fun q => nI (σ 2 q)))), (a 4, .inl (G.2.1, 40, .inl (fun q => nI (σ 3 q)))), (a 5, .inl (G.2.1, 40, .inl (fun q => nI (σ 6 q)))), (a 6, .inl (G.2.1, 40, .inl (fun q => nI (σ 4 q)))), (a 7, .inl (G.2.1, 40, .inl (fun q => nI (σ 5 q))))]
abbrev stW (G : GT) (a : Nat → Nat) (σ : AS) (d : Nat → Nat) : va_W := [(a 0, .inr (4, [.ref (a 1), .ref (a 8), .ref (a 9), .ref (a 10), .float (fl (σ 0 6)), .float (fl (σ 0 7)), .float (fl (σ 0 8)), .int (nI (σ 0 3)), .int (nI (σ 0 9)), .int (nI (σ 0 10)), .int (nI (σ 0 11))])), (a 1, .inr (1, [.ref (a 2), .ref (a 3), .ref (a 4), .ref (a 5), .ref (a 6), .ref (a 7), .int (nI (σ 0 4)), .int (nI (σ 0 5))])), (a 2, .inl (G.2.1, 40, .inl (fun q => nI (d q)))), (a 3, .inl (G.2.1, 40, .inl (fun q => nI (σ 2 q)))), (a 4, .inl (G.2.1, 40, .inl (fun q => nI (σ 3 q)))), (a 5, .inl (G.2.1, 40, .inl (fun q => nI (σ 6 q)))), (a 6, .inl (G.2.1, 40, .inl (fun q => nI (σ 4 q)))), (a 7, .inl (G.2.1, 40, .inl (fun q => nI (σ 5 q)))), (a 8, .inr (3, [.int (nI (σ 0 12)), .int (nI (σ 0 14)), .int (nI (σ 0 16)), .int (nI (σ 0 18)), .int (nI (σ 0 20)), .int (nI (σ 0 22)), .float (fl (σ 0 24))])), (a 9, .inr (3, [.int (nI (σ 0 13)), .int (nI (σ 0 15)), .int (nI (σ 0 17)), .int (nI (σ 0 19)), .int (nI (σ 0 21)), .int (nI (σ 0 23)), .float (fl (σ 0 25))])), (a 10, .inl (G.2.1, 3, .inl (fun q => nI (σ 7 q))))]
