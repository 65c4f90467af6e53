/-! numbers: branch conditions over nI as facts of Nat -/
theorem cv_eq_t {a b : Nat} (ha : a < 2147483648) (hb : b < 2147483648) (h : nI a = nI b) : a = b := (nI_eq ha hb).mp h
theorem cv_eq_f {a b : Nat} (ha : a < 2147483648) (hb : b < 2147483648) (h : ¬ nI a = nI b) : ¬ a = b := fun q => h ((nI_eq ha hb).mpr q)
theorem cv_ne_t {a b : Nat} (ha : a < 2147483648) (hb : b < 2147483648) (h : ¬ nI a = nI b) : ¬ a = b := fun q => h ((nI_eq ha hb).mpr q)
theorem cv_ne_f {a b : Nat} (ha : a < 2147483648) (hb : b < 2147483648) (h : nI a = nI b) : a = b := (nI_eq ha hb).mp h
theorem cv_lt_t {a b : Nat} (ha : a < 2147483648) (hb : b < 2147483648) (h : nI a < nI b) : a < b := (nI_ltI ha hb).mp h
theorem cv_lt_f {a b : Nat} (ha : a < 2147483648) (hb : b < 2147483648) (h : ¬ nI a < nI b) : b ≤ a := Nat.le_of_not_lt fun q => h ((nI_ltI ha hb).mpr q)
theorem cv_ge_t {a b : Nat} (ha : a < 2147483648) (hb : b < 2147483648) (h : nI b ≤ nI a) : b ≤ a := (nI_leI hb ha).mp h
theorem cv_ge_f {a b : Nat} (ha : a < 2147483648) (hb : b < 2147483648) (h : ¬ nI b ≤ nI a) : a < b := Nat.lt_of_not_le fun q => h ((nI_leI hb ha).mpr q)
theorem cv_gt_t {a b : Nat} (ha : a < 2147483648) (hb : b < 2147483648) (h : nI b < nI a) : b < a := (nI_ltI hb ha).mp h
theorem cv_gt_f {a b : Nat} (ha : a < 2147483648) (hb : b < 2147483648) (h : ¬ nI b < nI a) : a ≤ b := Nat.le_of_not_lt fun q => h ((nI_ltI hb ha).mpr q)
theorem cv_le_t {a b : Nat} (ha : a < 2147483648) (hb : b < 2147483648) (h : nI a ≤ nI b) : a ≤ b := (nI_leI ha hb).mp h
theorem cv_le_f {a b : Nat} (ha : a < 2147483648) (hb : b < 2147483648) (h : ¬ nI a ≤ nI b) : b < a := Nat.lt_of_not_le fun q => h ((nI_leI ha hb).mpr q)
theorem fa_lt (a b : Int32) : a < b ↔ a.toInt < b.toInt := Int32.lt_iff_toInt_lt
theorem fa_le (a b : Int32) : a ≤ b ↔ a.toInt ≤ b.toInt := Int32.le_iff_toInt_le
theorem fa_eq (a b : Int32) : a = b ↔ a.toInt = b.toInt := Int32.toInt_inj.symm
theorem fa_lt64 (a b : Int64) : a < b ↔ a.toInt < b.toInt := Int64.lt_iff_toInt_lt
theorem fa_le64 (a b : Int64) : a ≤ b ↔ a.toInt ≤ b.toInt := Int64.le_iff_toInt_le
theorem fa_eq64 (a b : Int64) : a = b ↔ a.toInt = b.toInt := Int64.toInt_inj.symm
theorem fb_rng32 (x : Int32) : -2147483648 ≤ x.toInt ∧ x.toInt < 2147483648 := ⟨x.le_toInt, x.toInt_lt⟩
theorem upd_nI (g : Nat → Nat) (j x : Nat) : upd (fun q => nI (g q)) j (nI x) = fun q => nI (if q = j then x else g q) := by
  funext q
  unfold upd
  by_cases h : q = j
  · rw [if_pos h, if_pos h]
  · rw [if_neg h, if_neg h]
/-! the state: rows of numbers. Row 0: the numbers 3 to 25 (tick, places, corrections, well, ink of letters, of corrections, pages, letters, poured; then by pairs pace, wrote, spent, dipping, dips, waits, pen); 1: what is due (the left half); 2: told; 3: written; 4: blots; 5: corrected; 6: when; 7: the settings. Ink in 64ths. -/
abbrev AS : Type := Nat → Nat → Nat
def up2 (σ : AS) (i k x : Nat) : AS := fun j q => if j = i then (if q = k then x else σ i q) else σ j q
/-- n times 2^-t in a format -/
def dC (f : FP.Core.Fmt) (t n : Nat) : FP.Core.Datum := if n = 0 then .fin false 0 f.qmin else .fin false (n * 2 ^ (f.p - 1 - n.log2)) ((n.log2 : Int) - ((f.p : Int) - 1) - t)
/-- n / 64 as a float, as a double -/
def fl (n : Nat) : UInt32 := UInt32.ofNat (FP.Core.encode FP.Core.b32 (dC FP.Core.b32 6 n))
def dl (n : Nat) : UInt64 := UInt64.ofNat (FP.Core.encode FP.Core.b64 (dC FP.Core.b64 6 n))
def dueAt (σ : AS) (p : Nat) : Nat := σ 1 (if p < σ 0 4 / 2 then p else σ 0 4 - 1 - p)
def letAt (σ : AS) (p : Nat) : Nat := if 0 < σ 2 p then σ 2 p else dueAt σ p
/-- what every state of the system is -/
def Inv (σ : AS) : Prop :=
  (σ 0 4 ≤ 40 ∧ σ 0 4 % 2 = 0 ∧ σ 0 3 ≤ 102100 ∧ σ 0 5 ≤ 20 ∧ σ 0 11 ≤ 9999) ∧
  (1 ≤ σ 7 0 ∧ σ 7 0 ≤ 9 ∧ σ 7 1 ≤ 8 ∧ σ 7 2 ≤ 20) ∧
  (σ 0 24 ≤ 64 ∧ σ 0 25 ≤ 64 ∧ σ 0 24 + σ 0 25 + σ 0 6 + σ 0 7 + σ 0 8 = 256 + 8 * σ 0 11) ∧
  (1 ≤ σ 0 12 ∧ σ 0 12 ≤ 9 ∧ 1 ≤ σ 0 13 ∧ σ 0 13 ≤ 9 ∧ 2 * σ 0 14 ≤ σ 0 4 ∧ 2 * σ 0 15 ≤ σ 0 4 ∧ σ 0 16 ≤ 8 ∧ σ 0 17 ≤ 8 ∧ σ 0 18 ≤ 9 ∧ σ 0 19 ≤ 9) ∧
  (0 < σ 0 16 → 2 * σ 0 14 < σ 0 4 ∧ letAt σ (σ 0 14) ≤ σ 0 24 ∧ σ 0 18 = 0) ∧
  (0 < σ 0 17 → 2 * σ 0 15 < σ 0 4 ∧ letAt σ (σ 0 4 - 1 - σ 0 15) ≤ σ 0 25 ∧ σ 0 19 = 0) ∧
  (∀ q, q < 40 → σ 2 q ≤ 26 ∧ σ 3 q ≤ 26 ∧ σ 4 q ≤ 1 ∧ σ 5 q ≤ 1 ∧ σ 6 q ≤ 102100 ∧ (0 < σ 3 q ↔ q < σ 0 14 ∨ (σ 0 4 ≤ q + σ 0 15 ∧ q < σ 0 4))) ∧
  (∀ q, q < σ 0 4 / 2 → 1 ≤ σ 1 q ∧ σ 1 q ≤ 26)
theorem Inv.a {σ : AS} (h : Inv σ) : σ 0 4 ≤ 40 ∧ σ 0 4 % 2 = 0 ∧ σ 0 3 ≤ 102100 ∧ σ 0 5 ≤ 20 ∧ σ 0 11 ≤ 9999 := h.1
theorem Inv.s {σ : AS} (h : Inv σ) : 1 ≤ σ 7 0 ∧ σ 7 0 ≤ 9 ∧ σ 7 1 ≤ 8 ∧ σ 7 2 ≤ 20 := h.2.1
theorem Inv.i {σ : AS} (h : Inv σ) : σ 0 24 ≤ 64 ∧ σ 0 25 ≤ 64 ∧ σ 0 24 + σ 0 25 + σ 0 6 + σ 0 7 + σ 0 8 = 256 + 8 * σ 0 11 := h.2.2.1
theorem Inv.c {σ : AS} (h : Inv σ) : 1 ≤ σ 0 12 ∧ σ 0 12 ≤ 9 ∧ 1 ≤ σ 0 13 ∧ σ 0 13 ≤ 9 ∧ 2 * σ 0 14 ≤ σ 0 4 ∧ 2 * σ 0 15 ≤ σ 0 4 ∧ σ 0 16 ≤ 8 ∧ σ 0 17 ≤ 8 ∧ σ 0 18 ≤ 9 ∧ σ 0 19 ≤ 9 := h.2.2.2.1
theorem Inv.l {σ : AS} (h : Inv σ) : 0 < σ 0 16 → 2 * σ 0 14 < σ 0 4 ∧ letAt σ (σ 0 14) ≤ σ 0 24 ∧ σ 0 18 = 0 := h.2.2.2.2.1
theorem Inv.r {σ : AS} (h : Inv σ) : 0 < σ 0 17 → 2 * σ 0 15 < σ 0 4 ∧ letAt σ (σ 0 4 - 1 - σ 0 15) ≤ σ 0 25 ∧ σ 0 19 = 0 := h.2.2.2.2.2.1
theorem Inv.q {σ : AS} (h : Inv σ) {q : Nat} (hq : q < 40) : σ 2 q ≤ 26 ∧ σ 3 q ≤ 26 ∧ σ 4 q ≤ 1 ∧ σ 5 q ≤ 1 ∧ σ 6 q ≤ 102100 ∧ (0 < σ 3 q ↔ q < σ 0 14 ∨ (σ 0 4 ≤ q + σ 0 15 ∧ q < σ 0 4)) := h.2.2.2.2.2.2.1 q hq
theorem Inv.d {σ : AS} (h : Inv σ) {q : Nat} (hq : q < σ 0 4 / 2) : 1 ≤ σ 1 q ∧ σ 1 q ≤ 26 := h.2.2.2.2.2.2.2 q hq
theorem Inv.due {σ : AS} (h : Inv σ) {p : Nat} (hp : p < σ 0 4) : 1 ≤ dueAt σ p ∧ dueAt σ p ≤ 26 := by
  have h1 := h.a
  unfold dueAt
  split
  · exact h.d (by omega)
  · exact h.d (by omega)
theorem Inv.let {σ : AS} (h : Inv σ) {p : Nat} (hp : p < σ 0 4) : 1 ≤ letAt σ p ∧ letAt σ p ≤ 26 := by
  have h1 := h.a
  have h2 := h.due hp
  have h3 := h.q (q := p) (by omega)
  unfold letAt
  split <;> omega
/-- written just where a tick is told -/
def WOK (σ : AS) : Prop := ∀ q, q < 40 → (σ 3 q = 0 ↔ σ 6 q = 0)
/-- what the class holds as due is what is due -/
def DOK (σ : AS) (d : Nat → Nat) : Prop := ∀ q, q < σ 0 4 → d q = dueAt σ q
def sumN (f : Nat → Nat) : Nat → Nat
  | 0 => 0
  | n + 1 => sumN f n + f n
theorem sumN_le {f : Nat → Nat} {b : Nat} : ∀ n, (∀ q, q < n → f q ≤ b) → sumN f n ≤ n * b
  | 0, _ => by simp [sumN]
  | n + 1, h => by
    have h1 := sumN_le (f := f) (b := b) n (fun q hq => h q (by omega))
    have h2 := h n (by omega)
    rw [Nat.succ_mul]
    show sumN f n + f n ≤ _
    omega
/-! a tick: where the next letter is written, what a scribe does (as next() tells), what becomes of the state; w: the tick that is told of a letter that is written -/
def plc (σ : AS) (s : Nat) : Nat := if s = 0 then σ 0 14 else σ 0 4 - 1 - σ 0 15
def doesN (σ : AS) (s : Nat) : Nat := if 0 < σ 0 (18 + s) then 1 else if σ 0 4 ≤ 2 * σ 0 (14 + s) then 5 else if letAt σ (plc σ s) ≤ σ 0 (24 + s) ∨ 0 < σ 0 (16 + s) then 0 else if 0 < σ 0 (19 - s) then 3 else if σ 0 6 = 0 then 4 else 2
def gotF (σ : AS) (s : Nat) : Nat := if σ 0 6 < 64 - σ 0 (24 + s) then σ 0 6 else 64 - σ 0 (24 + s)
def dipsF (σ : AS) (s : Nat) : AS := if σ 0 (18 + s) - 1 = 0 then up2 (up2 (up2 (up2 σ 0 (18 + s) (σ 0 (18 + s) - 1)) 0 (24 + s) (σ 0 (24 + s) + gotF σ s)) 0 6 (σ 0 6 - gotF σ s)) 0 (20 + s) (σ 0 (20 + s) + 1) else up2 σ 0 (18 + s) (σ 0 (18 + s) - 1)
def blotN (σ : AS) (s : Nat) : Nat := if 8 * σ 7 1 < σ 0 (24 + s) then 1 else 0
def wroteF (σ : AS) (s w : Nat) : AS := up2 (up2 (up2 (up2 (up2 (up2 (up2 (up2 σ 3 (plc σ s) (letAt σ (plc σ s))) 4 (plc σ s) (blotN σ s)) 6 (plc σ s) w) 0 (24 + s) (σ 0 (24 + s) - letAt σ (plc σ s))) 0 7 (σ 0 7 + letAt σ (plc σ s))) 0 (16 + s) 0) 0 (14 + s) (σ 0 (14 + s) + 1)) 0 10 (σ 0 10 + 1)
def writesF (σ : AS) (s w : Nat) : AS := if σ 0 (16 + s) + 1 < σ 0 (12 + s) then up2 σ 0 (16 + s) (σ 0 (16 + s) + 1) else wroteF σ s w
def goesF (σ : AS) (s w : Nat) : AS := if doesN σ s = 0 then writesF σ s w else if doesN σ s = 1 then dipsF σ s else if doesN σ s = 2 then up2 σ 0 (18 + s) (σ 7 0) else if doesN σ s = 5 then σ else up2 σ 0 (22 + s) (σ 0 (22 + s) + 1)
def tickF (σ : AS) : AS := up2 σ 0 3 (σ 0 3 + 1)
def ticksF (σ : AS) : AS := goesF (goesF (tickF σ) 0 (σ 0 3 + 1)) 1 (σ 0 3 + 1)
def dnF : Nat → Nat → AS → Int32
  | 0, _, _ => -5
  | f + 1, c, σ => if σ 0 4 ≤ σ 0 14 + σ 0 15 then nI c else dnF f (c + 1) (ticksF σ)
theorem doesN_le (σ : AS) (s : Nat) : doesN σ s ≤ 5 := by
  unfold doesN
  repeat' split
  all_goals omega
theorem mx_sub {a b : Nat} (ha : a ≤ 1000) (hb : b ≤ 1000) : (if (0 : Int32) < nI a - nI b then nI a - nI b else 0) = nI (a - b) := by
  have e : (nI a - nI b).toInt = (a : Int) - b := pk_sub_toInt (by omega) (by omega)
  have z : (0 : Int32).toInt = 0 := rfl
  by_cases h : b < a
  · rw [if_pos (by rw [fa_lt, e, z]; omega)]
    exact pk_sub (by omega)
  · rw [if_neg (by rw [fa_lt, e, z]; omega)]
    rw [show a - b = 0 by omega]
    rfl
theorem fcv_lt_t {a b : Nat} (h : (if a < b then (-1 : Int32) else if a = b then 0 else 1) < 0) : a < b := Classical.byContradiction fun q => by
  rw [if_neg q] at h
  split at h <;> exact absurd h (by decide)
theorem fcv_lt_f {a b : Nat} (h : ¬ (if a < b then (-1 : Int32) else if a = b then 0 else 1) < 0) : b ≤ a := Nat.le_of_not_lt fun q => h (by rw [if_pos q]; decide)
theorem fcv_le_t {a b : Nat} (h : (if a < b then (-1 : Int32) else if a = b then 0 else 1) ≤ 0) : a ≤ b := Classical.byContradiction fun q => by
  rw [if_neg (by omega), if_neg (by omega)] at h
  exact absurd h (by decide)
theorem fcv_le_f {a b : Nat} (h : ¬ (if a < b then (-1 : Int32) else if a = b then 0 else 1) ≤ 0) : b < a := Nat.lt_of_not_le fun q => h (by
  by_cases h1 : a < b
  · rw [if_pos h1]; decide
  · rw [if_neg h1, if_pos (by omega)]; decide)
theorem fcv_ge_t {a b : Nat} (h : (0 : Int32) ≤ (if a < b then (-1 : Int32) else if a = b then 0 else 1)) : b ≤ a := Nat.le_of_not_lt fun q => by
  rw [if_pos q] at h
  exact absurd h (by decide)
theorem fcv_ge_f {a b : Nat} (h : ¬ (0 : Int32) ≤ (if a < b then (-1 : Int32) else if a = b then 0 else 1)) : a < b := Classical.byContradiction fun q => h (by
  rw [if_neg q]
  split <;> decide)
def notDue (σ : AS) (q : Nat) : Nat := if 0 < σ 3 q ∧ ¬ σ 3 q = dueAt σ q then 1 else 0
/-! the cells of a page, of a state: addresses a 0 .. a 10; d: the row of what is due as the class holds it (40 places) -/
abbrev pgW (G : GT) (a : Nat → Nat) (σ : AS) (d : Nat → Nat) : va_W := [(a 1, .inr (1, [.ref (a 2), .ref (a 3), .ref (a 4), .ref (a 5), .ref (a 6), .ref (a 7), .int (nI (σ 0 4)), .int (nI (σ 0 5))])), (a 2, .inl (G.2.1, 40, .inl (fun q => nI (d q)))), (a 3, .inl (G.2.1, 40, .inl (fun q => nI (σ 2 q)))), (a 4, .inl (G.2.1, 40, .inl (fun q => nI (σ 3 q)))), (a 5, .inl (G.2.1, 40, .inl (fun q => nI (σ 6 q)))), (a 6, .inl (G.2.1, 40, .inl (fun q => nI (σ 4 q)))), (a 7, .inl (G.2.1, 40, .inl (fun q => nI (σ 5 q))))]
abbrev stW (G : GT) (a : Nat → Nat) (σ : AS) (d : Nat → Nat) : va_W := [(a 0, .inr (4, [.ref (a 1), .ref (a 8), .ref (a 9), .ref (a 10), .float (fl (σ 0 6)), .float (fl (σ 0 7)), .float (fl (σ 0 8)), .int (nI (σ 0 3)), .int (nI (σ 0 9)), .int (nI (σ 0 10)), .int (nI (σ 0 11))])), (a 1, .inr (1, [.ref (a 2), .ref (a 3), .ref (a 4), .ref (a 5), .ref (a 6), .ref (a 7), .int (nI (σ 0 4)), .int (nI (σ 0 5))])), (a 2, .inl (G.2.1, 40, .inl (fun q => nI (d q)))), (a 3, .inl (G.2.1, 40, .inl (fun q => nI (σ 2 q)))), (a 4, .inl (G.2.1, 40, .inl (fun q => nI (σ 3 q)))), (a 5, .inl (G.2.1, 40, .inl (fun q => nI (σ 6 q)))), (a 6, .inl (G.2.1, 40, .inl (fun q => nI (σ 4 q)))), (a 7, .inl (G.2.1, 40, .inl (fun q => nI (σ 5 q)))), (a 8, .inr (3, [.int (nI (σ 0 12)), .int (nI (σ 0 14)), .int (nI (σ 0 16)), .int (nI (σ 0 18)), .int (nI (σ 0 20)), .int (nI (σ 0 22)), .float (fl (σ 0 24))])), (a 9, .inr (3, [.int (nI (σ 0 13)), .int (nI (σ 0 15)), .int (nI (σ 0 17)), .int (nI (σ 0 19)), .int (nI (σ 0 21)), .int (nI (σ 0 23)), .float (fl (σ 0 25))])), (a 10, .inl (G.2.1, 3, .inl (fun q => nI (σ 7 q))))]
/-! an argument that is a place, or not -/
abbrev isPl (σ : AS) (x : Int32) : Prop := 0 ≤ x.toInt ∧ x.toInt < (σ 0 4 : Int)
theorem isPl_lt {σ : AS} {x : Int32} (h : x < 0) : ¬ isPl σ x := fun q => by have h1 := (fa_lt _ _).mp h; have h2 : (0 : Int32).toInt = 0 := rfl; have h3 := q.1; omega
theorem isPl_ge {σ : AS} {x : Int32} (hn : σ 0 4 ≤ 40) (h : nI (σ 0 4) ≤ x) : ¬ isPl σ x := fun q => by have h1 := (fa_le _ _).mp h; rw [nI_toInt (by omega)] at h1; have h3 := q.2; omega
theorem isPl_ok {σ : AS} {x : Int32} (hn : σ 0 4 ≤ 40) (h0 : ¬ x < 0) (h : ¬ nI (σ 0 4) ≤ x) : isPl σ x := by
  rw [fa_lt] at h0
  rw [fa_le, nI_toInt (by omega)] at h
  have h2 : (0 : Int32).toInt = 0 := rfl
  exact ⟨by omega, by omega⟩
theorem isPl_of {σ : AS} {x : Int32} (h : isPl σ x) (hn : σ 0 4 ≤ 40) : ∃ j, j < σ 0 4 ∧ x = nI j := by
  refine ⟨x.toInt.toNat, by have := h.1; have := h.2; omega, ?_⟩
  apply Int32.toInt_inj.mp
  rw [nI_toInt (by have := h.1; have := h.2; omega)]
  have := h.1
  omega
theorem isPl_nI {σ : AS} {j : Nat} (hn : σ 0 4 ≤ 40) (h : j < σ 0 4) : isPl σ (nI j) := by
  unfold isPl
  rw [nI_toInt (by omega)]
  omega
