section MORE
variable {p : Program} {l : Launch} {e : Env} {R : Room} {s : State} {m : MethodId} {args : Array Value} {below : List Frame} {meth : Method} {c : Code} {Q : State → Prop} {G : GT} {A : Nat → Prop} {nL k n : Nat} {cc : ByteArray} {own : String} {ws : va_W} {lv : List (Nat × Value)} {pc : Nat} {st : List Value}
theorem J_ifnonnull (C : Cx p s m args meth c G A nL cc own) {x : Nat} {off : Int} (tgt : Nat) (ht : (pc : Int) + off = (tgt : Int)) (hdg : decode cc pc = .ok (.ifnonnull off, 3)) (kk : J p l e R s m args below meth c Q G A nL k n ws lv tgt st) : J p l e R s m args below meth c Q G A nL k n ws lv pc (.ref x :: st) := fun H locs ls hP hD hS hl => lv_ifnonnull C.1 C.2.1 hdg ht (kk H locs ls hP hD hS hl)
end MORE
/-! a page begun; the history's ring -/
def setR (σ : AS) (i : Nat) (g : Nat → Nat) : AS := fun j q => if j = i then g q else σ j q
def pgF (σ : AS) (h : Nat) (m : Nat → Nat) : AS := up2 (up2 (setR (setR (setR (setR (setR σ 2 m) 3 (fun _ => 0)) 6 (fun _ => 0)) 4 (fun _ => 0)) 5 (fun _ => 0)) 0 4 (2 * h)) 0 5 0
def dlp (d lt : Nat → Nat) (h i : Nat) : Nat → Nat := fun q => if q < i then lt q else if 2 * h - i ≤ q ∧ q < 2 * h then lt (2 * h - 1 - q) else d q
def rdF (σ : AS) (h : Nat) (m lt : Nat → Nat) : AS := up2 (up2 (up2 (up2 (up2 (setR (pgF σ h m) 1 (fun k => if k < h then lt k else 0)) 0 14 0) 0 15 0) 0 16 0) 0 17 0) 0 9 (σ 0 9 + 1)
theorem dlp_0 (d lt : Nat → Nat) (h : Nat) : dlp d lt h 0 = d := by
  funext q
  unfold dlp
  rw [if_neg (by omega), if_neg (by omega)]
theorem dlp_s (d lt : Nat → Nat) {h i : Nat} (hi : i < h) : (fun q => nI (if q = 2 * h - 1 - i then lt i else if q = i then lt i else dlp d lt h i q)) = fun q => nI (dlp d lt h (i + 1) q) := by
  funext q
  congr 1
  unfold dlp
  by_cases h1 : q = 2 * h - 1 - i
  · rw [if_pos h1, if_neg (by omega), if_pos (by omega), show 2 * h - 1 - q = i by omega]
  · rw [if_neg h1]
    by_cases h2 : q = i
    · rw [if_pos h2, if_pos (by omega), h2]
    · rw [if_neg h2]
      by_cases h3 : q < i
      · rw [if_pos h3, if_pos (by omega)]
      · rw [if_neg h3, if_neg (show ¬ q < i + 1 by omega)]
        by_cases h4 : 2 * h - i ≤ q ∧ q < 2 * h
        · rw [if_pos h4, if_pos (show 2 * h - (i + 1) ≤ q ∧ q < 2 * h by omega)]
        · rw [if_neg h4, if_neg (show ¬ (2 * h - (i + 1) ≤ q ∧ q < 2 * h) by omega)]
def slotF (f n : Nat) : Nat := if n = 4 then f else (f + n) % 4
def firstF (f n : Nat) : Nat := if n = 4 then (f + 1) % 4 else f
def sizeF (n : Nat) : Nat := if n = 4 then 4 else n + 1
theorem Inv.rd {σ : AS} (h : Inv σ) {hf : Nat} {m lt : Nat → Nat} (h1 : hf ≤ 20) (hm : ∀ q, m q ≤ 26) (hl : ∀ q, q < hf → 1 ≤ lt q ∧ lt q ≤ 26) : Inv (rdF σ hf m lt) := by
  have hc := h.c
  have ha := h.a
  refine ⟨⟨by show 2 * hf ≤ 40; omega, by show 2 * hf % 2 = 0; omega, ha.2.2.1, by show 0 ≤ 20; omega, ha.2.2.2.2⟩, h.s, h.i, ⟨hc.1, hc.2.1, hc.2.2.1, hc.2.2.2.1, by show 2 * 0 ≤ 2 * hf; omega, by show 2 * 0 ≤ 2 * hf; omega, by show 0 ≤ 8; omega, by show 0 ≤ 8; omega, hc.2.2.2.2.2.2.2.2.1, hc.2.2.2.2.2.2.2.2.2⟩, fun q => absurd (show 0 < 0 from q) (by omega), fun q => absurd (show 0 < 0 from q) (by omega), fun q _ => ?_, fun q hq => ?_⟩
  · show m q ≤ 26 ∧ 0 ≤ 26 ∧ 0 ≤ 1 ∧ 0 ≤ 1 ∧ 0 ≤ 102100 ∧ (0 < 0 ↔ q < 0 ∨ (2 * hf ≤ q + 0 ∧ q < 2 * hf))
    have := hm q
    omega
  · have hq2 : q < hf := by
      have : q < 2 * hf / 2 := hq
      omega
    show 1 ≤ (if q < hf then lt q else 0) ∧ (if q < hf then lt q else 0) ≤ 26
    rw [if_pos hq2]
    exact hl q hq2
theorem DOK.rd (σ : AS) (d : Nat → Nat) {hf : Nat} {m lt : Nat → Nat} : DOK (rdF σ hf m lt) (dlp d lt hf hf) := by
  intro q hq
  have hq2 : q < 2 * hf := hq
  unfold dueAt
  show dlp d lt hf hf q = (if (if q < 2 * hf / 2 then q else 2 * hf - 1 - q) < hf then lt (if q < 2 * hf / 2 then q else 2 * hf - 1 - q) else 0)
  unfold dlp
  by_cases h1 : q < hf
  · rw [if_pos h1, if_pos (show q < 2 * hf / 2 by omega), if_pos h1]
  · rw [if_neg h1, if_neg (show ¬ q < 2 * hf / 2 by omega), if_pos (by omega), if_pos (by omega)]
theorem WOK.rd (σ : AS) {hf : Nat} {m lt : Nat → Nat} : WOK (rdF σ hf m lt) := fun _ _ => Iff.rfl
