/-! doubles: n / 64 and whole numbers are exact; sums, a product by 64, comparisons -/
def dt (t n : Nat) : UInt64 := UInt64.ofNat (FP.Core.encode FP.Core.b64 (dC FP.Core.b64 t n))
theorem dt_6 (n : Nat) : dt 6 n = dl n := rfl
theorem dt_dec {t n : Nat} (ht : t ≤ 6) (hn : n < 16777216) : FP.Core.decode FP.Core.b64 (dt t n).toNat = dC FP.Core.b64 t n ∧ (dt t n).toNat < 9218868437227405312 := by
  have h := fq_dec (f := FP.Core.b64) (t := t) (n := n) (fq_ok64 ht) (by show n < 2 ^ 53; omega) (by decide)
  have h2 : FP.Core.encode FP.Core.b64 (dC FP.Core.b64 t n) < 9218868437227405312 := h.2
  have e : (dt t n).toNat = FP.Core.encode FP.Core.b64 (dC FP.Core.b64 t n) := by
    unfold dt
    rw [UInt64.toNat_ofNat']
    exact Nat.mod_eq_of_lt (by omega)
  rw [e]
  exact ⟨h.1, h2⟩
theorem dt_num {t n : Nat} (ht : t ≤ 6) (hn : n < 16777216) : vf_n64 (dt t n) := by
  have h := (dt_dec ht hn).2
  unfold vf_n64
  rw [UInt64.le_iff_toNat_le, UInt64.toNat_and]
  have h1 : (dt t n).toNat &&& (0x7fffffffffffffff : UInt64).toNat ≤ (dt t n).toNat := Nat.and_le_left
  have h3 : (0x7ff0000000000000 : UInt64).toNat = 9218868437227405312 := rfl
  omega
theorem di_i2 {n : Nat} (hn : n < 16777216) : FP.i2d (nI n) = dt 0 n := by
  show UInt64.ofNat (FP.Core.encode FP.Core.b64 (FP.Core.round FP.Core.b64 (FP.Core.ofInt (nI n).toInt))) = _
  rw [nI_toInt (by omega)]
  have e : FP.Core.ofInt (n : Int) = .fin false (n * 2 ^ 0) (-((0 : Nat) : Int) - (0 : Nat)) := by
    unfold FP.Core.ofInt
    rw [decide_eq_false (by omega), Int.natAbs_natCast, Nat.pow_zero, Nat.mul_one]
    rfl
  rw [e, fq_round 0 (fq_ok64 (by omega)) (by show n < 2 ^ 53; omega)]
  rfl
theorem dl_add {a b : Nat} (h : a + b < 16777216) : FP.dadd (dl a) (dl b) = dl (a + b) := by
  show UInt64.ofNat (FP.Core.encode FP.Core.b64 (FP.Core.round FP.Core.b64 (FP.Core.exactSum (FP.Core.decode FP.Core.b64 (dt 6 a).toNat) (FP.Core.decode FP.Core.b64 (dt 6 b).toNat)))) = dl (a + b)
  rw [(dt_dec (t := 6) (n := a) (by omega) (by omega)).1, (dt_dec (t := 6) (n := b) (by omega) (by omega)).1]
  obtain ⟨Ka, ea⟩ := fq_rep (f := FP.Core.b64) (t := 6) (n := a) (fq_ok64 (by omega)) (by show a < 2 ^ 53; omega)
  obtain ⟨Kb, eb⟩ := fq_rep (f := FP.Core.b64) (t := 6) (n := b) (fq_ok64 (by omega)) (by show b < 2 ^ 53; omega)
  rw [ea, eb]
  have hs : FP.Core.exactSum (.fin false (a * 2 ^ Ka) (-((6 : Nat) : Int) - Ka)) (.fin false (b * 2 ^ Kb) (-((6 : Nat) : Int) - Kb)) = .fin false ((a + b) * 2 ^ (max Ka Kb)) (-((6 : Nat) : Int) - ((max Ka Kb : Nat) : Int)) := by
    have hv : FP.Core.sumUnits false (a * 2 ^ Ka) (-((6 : Nat) : Int) - Ka) false (b * 2 ^ Kb) (-((6 : Nat) : Int) - Kb) (min (-((6 : Nat) : Int) - Ka) (-((6 : Nat) : Int) - Kb)) = (((a + b) * 2 ^ (max Ka Kb) : Nat) : Int) := by
      unfold FP.Core.sumUnits FP.Core.signed
      rw [fq_min, fq_units a Ka (max Ka Kb) 6 (Nat.le_max_left _ _), fq_units b Kb (max Ka Kb) 6 (Nat.le_max_right _ _), if_neg (by decide), if_neg (by decide), Nat.add_mul, Int.natCast_add]
    have hsg : FP.Core.sumSign false false (((a + b) * 2 ^ (max Ka Kb) : Nat) : Int) = false := by
      unfold FP.Core.sumSign
      split
      · rfl
      · exact decide_eq_false (by omega)
    rw [fq_sum, hv, hsg, Int.natAbs_natCast, fq_min]
  rw [hs, fq_round _ (fq_ok64 (by omega)) (by show a + b < 2 ^ 53; omega)]
  rfl
theorem dt_cmp {t a b : Nat} (ht : t ≤ 6) (ha : a < 16777216) (hb : b < 16777216) (op : CmpOp) : Op.cmpValue (FP.dcmp (dt t a) (dt t b)) op = if a < b then -1 else if a = b then 0 else 1 := by
  have hc : FP.dcmp (dt t a) (dt t b) = some (if a < b then .lt else if a = b then .eq else .gt) := by
    show FP.Core.order (FP.Core.decode FP.Core.b64 (dt t a).toNat) (FP.Core.decode FP.Core.b64 (dt t b).toNat) = _
    rw [(dt_dec ht ha).1, (dt_dec ht hb).1]
    obtain ⟨Ka, ea⟩ := fq_rep (f := FP.Core.b64) (t := t) (n := a) (fq_ok64 ht) (by show a < 2 ^ 53; omega)
    obtain ⟨Kb, eb⟩ := fq_rep (f := FP.Core.b64) (t := t) (n := b) (fq_ok64 ht) (by show b < 2 ^ 53; omega)
    rw [ea, eb]
    unfold FP.Core.order FP.Core.signed
    simp only [fq_min, fq_units a Ka (max Ka Kb) t (Nat.le_max_left _ _), fq_units b Kb (max Ka Kb) t (Nat.le_max_right _ _)]
    have hp := Nat.two_pow_pos (max Ka Kb)
    congr 1
    show compare ((a * 2 ^ (max Ka Kb) : Nat) : Int) ((b * 2 ^ (max Ka Kb) : Nat) : Int) = _
    rw [fq_cmpI]
    simp only [Int.ofNat_lt, Int.ofNat_inj]
    have e1 : a * 2 ^ (max Ka Kb) < b * 2 ^ (max Ka Kb) ↔ a < b := Nat.mul_lt_mul_right hp
    have e2 : a * 2 ^ (max Ka Kb) = b * 2 ^ (max Ka Kb) ↔ a = b := ⟨fun h => Nat.eq_of_mul_eq_mul_right hp h, fun h => by rw [h]⟩
    simp only [e1, e2]
  rw [hc]
  split
  · rfl
  · split <;> rfl
theorem dl_cmp {a b : Nat} (ha : a < 16777216) (hb : b < 16777216) (op : CmpOp) : Op.cmpValue (FP.dcmp (dl a) (dl b)) op = if a < b then -1 else if a = b then 0 else 1 := dt_cmp (t := 6) (by omega) ha hb op
theorem fq_prod (s t : Bool) (c d : Nat) (q r : Int) : FP.Core.exactProduct (.fin s c q) (.fin t d r) = .fin (s != t) (c * d) (q + r) := rfl
theorem dl_mul {n : Nat} (hn : n < 16777216) : FP.dmul (dl n) 4634204016564240384 = dt 0 n := by
  show UInt64.ofNat (FP.Core.encode FP.Core.b64 (FP.Core.round FP.Core.b64 (FP.Core.exactProduct (FP.Core.decode FP.Core.b64 (dt 6 n).toNat) (FP.Core.decode FP.Core.b64 (4634204016564240384 : UInt64).toNat)))) = dt 0 n
  rw [(dt_dec (t := 6) (n := n) (by omega) hn).1, show FP.Core.decode FP.Core.b64 (4634204016564240384 : UInt64).toNat = .fin false (2 ^ (FP.Core.b64.p - 1)) (((6 : Nat) : Int) - ((FP.Core.b64.p : Int) - 1)) by decide +kernel]
  obtain ⟨K, e⟩ := fq_rep (f := FP.Core.b64) (t := 6) (n := n) (fq_ok64 (by omega)) (by show n < 2 ^ 53; omega)
  rw [e, fq_prod]
  have e1 : n * 2 ^ K * 2 ^ (FP.Core.b64.p - 1) = n * 2 ^ (K + 52) := by
    rw [show FP.Core.b64.p - 1 = 52 from rfl, Nat.mul_assoc, ← Nat.pow_add]
  have e2 : (-((6 : Nat) : Int) - (K : Int)) + (((6 : Nat) : Int) - ((FP.Core.b64.p : Int) - 1)) = -((0 : Nat) : Int) - ((K + 52 : Nat) : Int) := by
    have e3 : ((FP.Core.b64.p : Nat) : Int) = 53 := rfl
    rw [e3]
    omega
  rw [e1, e2]
  show UInt64.ofNat (FP.Core.encode FP.Core.b64 (FP.Core.round FP.Core.b64 (.fin false (n * 2 ^ (K + 52)) (-((0 : Nat) : Int) - ((K + 52 : Nat) : Int))))) = dt 0 n
  rw [fq_round (K + 52) (fq_ok64 (by omega)) (by show n < 2 ^ 53; omega)]
  rfl
theorem dl_256 : (4616189618054758400 : UInt64) = dl 256 := by decide +kernel
theorem dl_0 : FP.dconst0 = dl 0 := by decide +kernel
theorem dl_64 : FP.dconst1 = dl 64 := by decide +kernel
