/-! arguments that are numbers or not; the acts -/
theorem ti_lt_t {x y : Int32} {z : Int} (hz : y.toInt = z) (h : x < y) : x.toInt < z := by have := (fa_lt _ _).mp h; omega
theorem ti_lt_f {x y : Int32} {z : Int} (hz : y.toInt = z) (h : ¬ x < y) : z ≤ x.toInt := by rw [fa_lt] at h; omega
theorem ti_ge_t {x y : Int32} {z : Int} (hz : y.toInt = z) (h : y ≤ x) : z ≤ x.toInt := by have := (fa_le _ _).mp h; omega
theorem ti_ge_f {x y : Int32} {z : Int} (hz : y.toInt = z) (h : ¬ y ≤ x) : x.toInt < z := by rw [fa_le] at h; omega
theorem ti_gt_t {x y : Int32} {z : Int} (hz : y.toInt = z) (h : y < x) : z < x.toInt := by have := (fa_lt _ _).mp h; omega
theorem ti_gt_f {x y : Int32} {z : Int} (hz : y.toInt = z) (h : ¬ y < x) : x.toInt ≤ z := by rw [fa_lt] at h; omega
theorem ti_le_t {x y : Int32} {z : Int} (hz : y.toInt = z) (h : x ≤ y) : x.toInt ≤ z := by have := (fa_le _ _).mp h; omega
theorem ti_le_f {x y : Int32} {z : Int} (hz : y.toInt = z) (h : ¬ x ≤ y) : z < x.toInt := by rw [fa_le] at h; omega
theorem ti_eq_t {x y : Int32} {z : Int} (hz : y.toInt = z) (h : x = y) : x.toInt = z := by rw [h]; exact hz
theorem ti_eq_f {x y : Int32} {z : Int} (hz : y.toInt = z) (h : ¬ x = y) : ¬ x.toInt = z := fun q => h (Int32.toInt_inj.mp (by rw [q, hz]))
theorem ti_ne_t {x y : Int32} {z : Int} (hz : y.toInt = z) (h : ¬ x = y) : ¬ x.toInt = z := ti_eq_f hz h
theorem ti_ne_f {x y : Int32} {z : Int} (hz : y.toInt = z) (h : x = y) : x.toInt = z := ti_eq_t hz h
theorem nat_of {x : Int32} (lo hi : Nat) (h : (lo : Int) ≤ x.toInt ∧ x.toInt ≤ hi) (hh : hi < 2147483648) : ∃ k, lo ≤ k ∧ k ≤ hi ∧ x = nI k := by
  refine ⟨x.toInt.toNat, by omega, by omega, ?_⟩
  apply Int32.toInt_inj.mp
  rw [nI_toInt (by omega)]
  omega
theorem nat_tp {σ : AS} {k : Nat} : 0 ≤ σ 0 k := Nat.zero_le _
abbrev begunP (σ : AS) (j : Nat) : Prop := 0 < σ 3 j ∨ (0 < σ 0 16 ∧ σ 0 14 = j) ∨ (0 < σ 0 17 ∧ σ 0 4 - 1 - σ 0 15 = j)
abbrev canP (σ : AS) (j : Nat) : Prop := 0 < σ 3 j ∧ σ 0 5 < σ 7 2 ∧ dueAt σ j ≤ σ 0 6
abbrev goodP (σ : AS) (j : Nat) : Prop := σ 3 j = dueAt σ j ∧ σ 4 j = 0
def corF (σ : AS) (j : Nat) : AS := up2 (up2 (up2 (up2 (up2 (up2 σ 3 j (dueAt σ j)) 4 j 0) 5 j 1) 0 5 (σ 0 5 + 1)) 0 6 (σ 0 6 - dueAt σ j)) 0 8 (σ 0 8 + dueAt σ j)
def pourF (σ : AS) (k : Nat) : AS := up2 (up2 σ 0 11 (σ 0 11 + k)) 0 6 (σ 0 6 + 8 * k)
def itF : Nat → AS → AS
  | 0, σ => σ
  | n + 1, σ => ticksF (itF n σ)
theorem itF_tick (σ : AS) : ∀ n, itF n σ 0 3 = σ 0 3 + n
  | 0 => rfl
  | n + 1 => by
    show ticksF (itF n σ) 0 3 = _
    rw [ticks_tick, itF_tick σ n]
    omega
theorem Inv.it {σ : AS} (h : Inv σ) : ∀ n, σ 0 3 + n ≤ 102100 → Inv (itF n σ)
  | 0, _ => h
  | n + 1, hn => (h.it n (by omega)).ticks (by rw [itF_tick]; omega)
theorem DOK.it {σ : AS} {d : Nat → Nat} (h : DOK σ d) : ∀ n, DOK (itF n σ) d
  | 0 => h
  | n + 1 => (h.it n).ticks
/-- the least and the greatest a setting may be -/
def loS (q : Nat) : Nat := if q = 0 then 1 else 0
def hiS (q : Nat) : Nat := if q = 0 then 9 else if q = 1 then 8 else 20
/-- unlike pairs -/
def unl (σ : AS) (p : Nat) : Nat := if 0 < σ 3 p ∧ 0 < σ 3 (σ 0 4 - 1 - p) ∧ ¬ σ 3 p = σ 3 (σ 0 4 - 1 - p) then 1 else 0
def ndF (σ : AS) (p : Nat) : Nat := if 0 < σ 3 p then 0 else letAt σ p
/-- the pace that is best: from pace 1 on, the last of the least -/
def bpF (g : Nat → Int32) : Nat → Int32 × Int32
  | 0 => (-5, 2000)
  | n + 1 => if ¬ g (n + 1) = -5 ∧ g (n + 1) ≤ (bpF g n).2 then (nI (n + 1), g (n + 1)) else bpF g n
def bpG (σ : AS) (w : Nat) (p : Nat) : Int32 := dnF 2001 0 (up2 σ 0 (12 + w) p)
theorem Inv.pace0 {σ : AS} (h : Inv σ) {p : Nat} (h1 : 1 ≤ p) (h2 : p ≤ 9) : Inv (up2 σ 0 12 p) := by
  have hc := h.c
  exact ⟨h.a, h.s, h.i, ⟨h1, h2, hc.2.2.1, hc.2.2.2.1, hc.2.2.2.2.1, hc.2.2.2.2.2.1, hc.2.2.2.2.2.2.1, hc.2.2.2.2.2.2.2.1, hc.2.2.2.2.2.2.2.2.1, hc.2.2.2.2.2.2.2.2.2⟩, h.l, h.r, fun _ hq => h.q hq, fun _ hq => h.d hq⟩
theorem Inv.pace1 {σ : AS} (h : Inv σ) {p : Nat} (h1 : 1 ≤ p) (h2 : p ≤ 9) : Inv (up2 σ 0 13 p) := by
  have hc := h.c
  exact ⟨h.a, h.s, h.i, ⟨hc.1, hc.2.1, h1, h2, hc.2.2.2.2.1, hc.2.2.2.2.2.1, hc.2.2.2.2.2.2.1, hc.2.2.2.2.2.2.2.1, hc.2.2.2.2.2.2.2.2.1, hc.2.2.2.2.2.2.2.2.2⟩, h.l, h.r, fun _ hq => h.q hq, fun _ hq => h.d hq⟩
theorem DOK.up {σ : AS} {d : Nat → Nat} (h : DOK σ d) {i k x : Nat} (h1 : ¬ i = 1) (h2 : ¬ (i = 0 ∧ k = 4)) : DOK (up2 σ i k x) d := by
  refine h.keep ?_ ?_
  · show (if 0 = i then (if 4 = k then x else σ i 4) else σ 0 4) = σ 0 4
    by_cases hi : 0 = i
    · rw [if_pos hi, if_neg (by omega), ← hi]
    · rw [if_neg hi]
  · funext q
    show (if 1 = i then (if q = k then x else σ i q) else σ 1 q) = σ 1 q
    rw [if_neg (by omega)]
def nextN (σ : AS) : Nat := doesN (goesF σ 0 (σ 0 3)) 1
def nxP (σ : AS) (w : Nat) : Int32 := if σ 0 4 ≤ 2 * σ 0 (14 + w) then -5 else nI (plc σ w)
def cntF (σ : AS) (n L : Nat) (z : Int) : Int32 := if z = 0 then nI (σ 0 3) else if z = 1 then nI (σ 0 4) else if z = 2 then nI (σ 0 14 + σ 0 15) else if z = 3 then nI (sumN (fun q => σ 4 q) (σ 0 4)) else if z = 4 then nI (sumN (notDue σ) (σ 0 4)) else if z = 5 then nI (σ 7 2 - σ 0 5) else if z = 6 then nI (σ 0 9) else if z = 7 then nI (σ 0 10) else if z = 8 then nI (σ 0 11) else if z = 9 then nI (σ 7 0) else if z = 10 then nI (σ 7 1) else if z = 11 then nI (σ 7 2) else if z = 12 then nI n else if z = 13 then nI L else -2
def scrF (σ : AS) (w : Nat) (z : Int) : Int32 := if z = 0 then nI (σ 0 (12 + w)) else if z = 1 then nI (σ 0 (14 + w)) else if z = 2 then nxP σ w else if z = 3 then nI (σ 0 (16 + w)) else if z = 4 then nI (σ 0 (18 + w)) else if z = 5 then nI (σ 0 (20 + w)) else if z = 6 then nI (σ 0 (22 + w)) else -2
def plF (σ : AS) (j : Nat) (z : Int) : Int32 := if z = 0 then nI (dueAt σ j) else if z = 1 then nI (σ 3 j) else if z = 2 then nI (σ 4 j) else if z = 3 then nI (σ 5 j) else if z = 4 then nI (σ 2 j) else if z = 5 then nI (σ 0 4 - 1 - j) else if z = 6 then (if 0 < σ 3 j then nI (σ 6 j) else -5) else -2
def inkF (σ : AS) (z : Int) : UInt64 := if z = 0 then dl (σ 0 24) else if z = 1 then dl (σ 0 25) else if z = 2 then dl (σ 0 6) else if z = 3 then dl (σ 0 7) else if z = 4 then dl (σ 0 8) else 13830554455654793216
