/-! the law: what holds between two calls -/
theorem pmF_cu (t : Nat → Nat) (L : Nat) : ∀ f c m g, c ≤ L + 1 → (pmF t L f c m g).2.1 ≤ L + 3 := by
  intro f
  induction f with
  | zero => intro c m g h; show c ≤ L + 3; omega
  | succ f ih =>
    intro c m g h
    have h1 := mrPos_le t L c
    rw [pmF_s]
    by_cases hok : mrOk t L c
    · have h2 := mrOk_lt hok
      rw [if_pos hok]
      split
      · show L ≤ L + 3; omega
      · split
        · exact ih _ _ _ (by omega)
        · show mrPos t L c + 1 ≤ L + 3; omega
    · rw [if_neg hok]
      show mrBad t L c ≤ L + 3
      unfold mrBad
      split <;> omega
theorem psF_cu (t : Nat → Nat) {L : Nat} (hL : L ≤ 60) : (psF t L).2.1 ≤ 100 := by
  have h := halfN_le t L
  unfold psF
  split
  · show 0 ≤ 100; omega
  split
  · show L ≤ 100; omega
  split
  · have := pmF_cu t L 60 (halfN t L + 1) (fun _ => 0) 0 (by omega); omega
  · show halfN t L ≤ 100; omega
theorem letAt_m {σ : AS} {j k p : Nat} (h : ¬ p = j) : letAt (up2 σ 2 j k) p = letAt σ p := by
  unfold letAt
  show (if 0 < (if p = j then k else σ 2 p) then (if p = j then k else σ 2 p) else dueAt σ p) = _
  rw [if_neg h]
theorem Inv.mis {σ : AS} (h : Inv σ) {j k : Nat} (hk : k ≤ 26) (hb : ¬ begunP σ j) : Inv (up2 σ 2 j k) := by
  refine ⟨h.a, h.s, h.i, h.c, fun hh => ?_, fun hh => ?_, fun q hq => ?_, fun _ hq => h.d hq⟩
  · have h1 : 0 < σ 0 16 := hh
    show 2 * σ 0 14 < σ 0 4 ∧ letAt (up2 σ 2 j k) (σ 0 14) ≤ σ 0 24 ∧ σ 0 18 = 0
    rw [letAt_m (fun e => hb (Or.inr (Or.inl ⟨h1, e⟩)))]
    exact h.l h1
  · have h1 : 0 < σ 0 17 := hh
    show 2 * σ 0 15 < σ 0 4 ∧ letAt (up2 σ 2 j k) (σ 0 4 - 1 - σ 0 15) ≤ σ 0 25 ∧ σ 0 19 = 0
    rw [letAt_m (fun e => hb (Or.inr (Or.inr ⟨h1, e⟩)))]
    exact h.r h1
  · have h2 := h.q hq
    show (if q = j then k else σ 2 q) ≤ 26 ∧ _
    refine ⟨?_, h2.2⟩
    split
    · exact hk
    · exact h2.1
theorem WOK.goes0 {σ : AS} {w : Nat} (h : WOK σ) (hI : Inv σ) (hw : 0 < w) : WOK (goesF σ 0 w) := by
  rw [goesF_0]
  split
  · rename_i hd
    have h1 := does0_0 hI hd
    have h2 := hI.let (p := σ 0 14) (by omega)
    rw [writesF_0]
    split
    · exact fun q hq => h q hq
    · rw [wroteF_0]
      intro q hq
      show (if q = σ 0 14 then letAt σ (σ 0 14) else σ 3 q) = 0 ↔ (if q = σ 0 14 then w else σ 6 q) = 0
      by_cases hqq : q = σ 0 14
      · rw [if_pos hqq, if_pos hqq]; omega
      · rw [if_neg hqq, if_neg hqq]; exact h q hq
  split
  · rw [dipsF_0]
    split
    · exact fun q hq => h q hq
    · exact fun q hq => h q hq
  split
  · exact fun q hq => h q hq
  split
  · exact h
  · exact fun q hq => h q hq
theorem WOK.goes1 {σ : AS} {w : Nat} (h : WOK σ) (hI : Inv σ) (hw : 0 < w) : WOK (goesF σ 1 w) := by
  rw [goesF_1]
  split
  · rename_i hd
    have h1 := does0_1 hI hd
    have h2 := hI.let (p := σ 0 4 - 1 - σ 0 15) (by omega)
    rw [writesF_1]
    split
    · exact fun q hq => h q hq
    · rw [wroteF_1]
      intro q hq
      show (if q = σ 0 4 - 1 - σ 0 15 then letAt σ (σ 0 4 - 1 - σ 0 15) else σ 3 q) = 0 ↔ (if q = σ 0 4 - 1 - σ 0 15 then w else σ 6 q) = 0
      by_cases hqq : q = σ 0 4 - 1 - σ 0 15
      · rw [if_pos hqq, if_pos hqq]; omega
      · rw [if_neg hqq, if_neg hqq]; exact h q hq
  split
  · rw [dipsF_1]
    split
    · exact fun q hq => h q hq
    · exact fun q hq => h q hq
  split
  · exact fun q hq => h q hq
  split
  · exact h
  · exact fun q hq => h q hq
theorem WOK.ticks {σ : AS} (h : WOK σ) (hI : Inv σ) (ht : σ 0 3 < 102100) : WOK (ticksF σ) := by
  have h1 : WOK (tickF σ) := fun q hq => h q hq
  exact (h1.goes0 (hI.tick ht) (by omega)).goes1 ((hI.tick ht).goes0 (by omega)) (by omega)
theorem WOK.it {σ : AS} (h : WOK σ) (hI : Inv σ) : ∀ n, σ 0 3 + n ≤ 102100 → WOK (itF n σ)
  | 0, _ => h
  | n + 1, hn => (h.it hI n (by omega)).ticks (hI.it n (by omega)) (by rw [itF_tick]; omega)
/-- a state of the system, as the class holds it -/
def GS (σ : AS) (d : Nat → Nat) : Prop := Inv σ ∧ DOK σ d ∧ WOK σ ∧ σ 0 3 ≤ 99999
theorem GS.z : GS sg0 (fun _ => 0) := ⟨Inv.z, DOK.z _, WOK.z, by show 0 ≤ 99999; omega⟩
theorem GS.mis {σ : AS} {d : Nat → Nat} (h : GS σ d) {j k : Nat} (hk : k ≤ 26) (hb : ¬ begunP σ j) : GS (up2 σ 2 j k) d := ⟨h.1.mis hk hb, h.2.1.up (by omega) (by omega), fun q hq => h.2.2.1 q hq, h.2.2.2⟩
theorem GS.cor {σ : AS} {d : Nat → Nat} (h : GS σ d) {j : Nat} (hj : j < σ 0 4) (hc : canP σ j) : GS (corF σ j) d := ⟨h.1.cor hj hc, h.2.1.keep rfl rfl, h.2.2.1.cor h.1 hj hc, h.2.2.2⟩
theorem GS.pace0 {σ : AS} {d : Nat → Nat} (h : GS σ d) {k : Nat} (hk : 1 ≤ k ∧ k ≤ 9) : GS (up2 σ 0 12 k) d := ⟨h.1.pace0 hk.1 hk.2, h.2.1.up (by omega) (by omega), fun q hq => h.2.2.1 q hq, h.2.2.2⟩
theorem GS.pace1 {σ : AS} {d : Nat → Nat} (h : GS σ d) {k : Nat} (hk : 1 ≤ k ∧ k ≤ 9) : GS (up2 σ 0 13 k) d := ⟨h.1.pace1 hk.1 hk.2, h.2.1.up (by omega) (by omega), fun q hq => h.2.2.1 q hq, h.2.2.2⟩
theorem GS.pour {σ : AS} {d : Nat → Nat} (h : GS σ d) {k : Nat} (hk : σ 0 11 + k ≤ 9999) : GS (pourF σ k) d := ⟨h.1.pour hk, h.2.1.keep rfl rfl, fun q hq => h.2.2.1 q hq, h.2.2.2⟩
theorem GS.set0 {σ : AS} {d : Nat → Nat} (h : GS σ d) {k : Nat} (hk : 1 ≤ k ∧ k ≤ 9) : GS (up2 σ 7 0 k) d := by
  have hs := h.1.s
  exact ⟨⟨h.1.a, ⟨hk.1, hk.2, hs.2.2.1, hs.2.2.2⟩, h.1.i, h.1.c, h.1.l, h.1.r, fun _ hq => h.1.q hq, fun _ hq => h.1.d hq⟩, h.2.1.up (by omega) (by omega), fun q hq => h.2.2.1 q hq, h.2.2.2⟩
theorem GS.set1 {σ : AS} {d : Nat → Nat} (h : GS σ d) {k : Nat} (hk : 0 ≤ k ∧ k ≤ 8) : GS (up2 σ 7 1 k) d := by
  have hs := h.1.s
  exact ⟨⟨h.1.a, ⟨hs.1, hs.2.1, hk.2, hs.2.2.2⟩, h.1.i, h.1.c, h.1.l, h.1.r, fun _ hq => h.1.q hq, fun _ hq => h.1.d hq⟩, h.2.1.up (by omega) (by omega), fun q hq => h.2.2.1 q hq, h.2.2.2⟩
theorem GS.set2 {σ : AS} {d : Nat → Nat} (h : GS σ d) {k : Nat} (hk : 0 ≤ k ∧ k ≤ 20) : GS (up2 σ 7 2 k) d := by
  have hs := h.1.s
  exact ⟨⟨h.1.a, ⟨hs.1, hs.2.1, hs.2.2.1, hk.2⟩, h.1.i, h.1.c, h.1.l, h.1.r, fun _ hq => h.1.q hq, fun _ hq => h.1.d hq⟩, h.2.1.up (by omega) (by omega), fun q hq => h.2.2.1 q hq, h.2.2.2⟩
theorem GS.it {σ : AS} {d : Nat → Nat} (h : GS σ d) {k : Nat} (hk : σ 0 3 + k ≤ 99999) : GS (itF k σ) d := ⟨h.1.it k (by omega), h.2.1.it k, h.2.2.1.it h.1 k (by omega), by rw [itF_tick]; exact hk⟩
theorem dlp_lt (d : Nat → Nat) {l1 l2 : Nat → Nat} {h : Nat} (hl : ∀ q, q < h → l1 q = l2 q) : dlp d l1 h h = dlp d l2 h h := by
  funext q
  unfold dlp
  by_cases h1 : q < h
  · rw [if_pos h1, if_pos h1, hl q h1]
  · rw [if_neg h1, if_neg h1]
    by_cases h2 : 2 * h - h ≤ q ∧ q < 2 * h
    · rw [if_pos h2, if_pos h2, hl _ (by omega)]
    · rw [if_neg h2, if_neg h2]
theorem GS.new {σ : AS} {d : Nat → Nat} (h : GS σ d) (t : Nat → Nat) (L : Nat) (lt : Nat → Nat) : GS (newF σ t L) (dlp d (fun q => if q < halfN t L then letC t L q else lt q) (halfN t L) (halfN t L)) := by
  have hh := halfN_le t L
  have hp := psF_ok t L
  refine ⟨h.1.rd hh.1 hp.2.1 (fun q hq => ⟨Nat.pos_of_ne_zero (hh.2.2 q hq), letC_le _ _ _⟩), ?_, WOK.rd σ, h.2.2.2⟩
  rw [dlp_lt d (l2 := fun q => letC t L q) (fun q hq => if_pos hq)]
  exact DOK.rd σ d
theorem chr_of (x : Int32) : ∃ k : Nat, k < 65536 ∧ (x.toUInt32 % 65536).toInt32 = nI k := by
  have hlt : (x.toUInt32 % 65536).toNat < 65536 := by
    rw [UInt32.toNat_mod]
    exact Nat.mod_lt _ (by decide)
  refine ⟨(x.toUInt32 % 65536).toNat, hlt, ?_⟩
  generalize x.toUInt32 % 65536 = y at hlt
  apply Int32.toBitVec_inj.mp
  apply BitVec.eq_of_toNat_eq
  show y.toBitVec.toNat = (BitVec.ofNat 32 y.toNat).toNat
  rw [BitVec.toNat_ofNat, Nat.mod_eq_of_lt (by omega)]
  rfl
