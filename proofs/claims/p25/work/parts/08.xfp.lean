/-! n / 64 as a float is exact: sums, differences, comparisons of such floats are those of the numbers -/
theorem fq_log {n K : Nat} (h : n ≠ 0) : (n * 2 ^ K).log2 = n.log2 + K := by
  have h1 : n * 2 ^ K ≠ 0 := Nat.mul_ne_zero h (Nat.ne_of_gt (Nat.two_pow_pos K))
  refine (Nat.log2_eq_iff h1).mpr ⟨?_, ?_⟩
  · rw [Nat.pow_add]; exact Nat.mul_le_mul_right _ (Nat.log2_self_le h)
  · have h2 := (Nat.log2_lt h).mp (Nat.lt_succ_self n.log2)
    rw [show n.log2 + K + 1 = (n.log2 + 1) + K by omega, Nat.pow_add]
    exact Nat.mul_lt_mul_of_pos_right h2 (Nat.two_pow_pos K)
theorem fq_le {n p : Nat} (h0 : n ≠ 0) (h : n < 2 ^ p) : n.log2 < p := (Nat.log2_lt h0).mpr h
theorem fq_near1 (x : Nat) : FP.Core.nearest x 1 = x := by
  unfold FP.Core.nearest
  rw [Nat.mod_one, if_pos (by omega), Nat.div_one]
theorem fq_nearM (x d : Nat) (hd : 0 < d) : FP.Core.nearest (x * d) d = x := by
  unfold FP.Core.nearest
  rw [Nat.mul_mod_left, if_pos (by omega), Nat.mul_div_cancel _ hd]
theorem fq_top {n p : Nat} (h0 : n ≠ 0) (h : n < 2 ^ p) : n * 2 ^ (p - 1 - n.log2) < 2 ^ p ∧ 2 ^ (p - 1) ≤ n * 2 ^ (p - 1 - n.log2) := by
  have h1 := fq_le h0 h
  have h2 := (Nat.log2_lt h0).mp (Nat.lt_succ_self n.log2)
  have h3 := Nat.log2_self_le h0
  constructor
  · have e : 2 ^ p = 2 ^ (n.log2 + 1) * 2 ^ (p - 1 - n.log2) := by rw [← Nat.pow_add]; congr 1; omega
    rw [e]
    exact Nat.mul_lt_mul_of_pos_right h2 (Nat.two_pow_pos _)
  · have e : 2 ^ (p - 1) = 2 ^ n.log2 * 2 ^ (p - 1 - n.log2) := by rw [← Nat.pow_add]; congr 1; omega
    rw [e]
    exact Nat.mul_le_mul_right _ h3
def fq_ok (f : FP.Core.Fmt) (t : Nat) : Prop := 1 ≤ f.p ∧ f.qmin ≤ -((f.p : Int) - 1) - t ∧ 0 ≤ f.qmax
theorem fq_ok32 {t : Nat} (h : t ≤ 6) : fq_ok FP.Core.b32 t := by
  have e1 : FP.Core.b32.qmin = -149 := by decide
  have e2 : FP.Core.b32.qmax = 104 := by decide
  have e3 : FP.Core.b32.p = 24 := rfl
  refine ⟨by rw [e3]; omega, by rw [e1, e3]; omega, by rw [e2]; omega⟩
theorem fq_ok64 {t : Nat} (h : t ≤ 6) : fq_ok FP.Core.b64 t := by
  have e1 : FP.Core.b64.qmin = -1074 := by decide
  have e2 : FP.Core.b64.qmax = 971 := by decide
  have e3 : FP.Core.b64.p = 53 := rfl
  refine ⟨by rw [e3]; omega, by rw [e1, e3]; omega, by rw [e2]; omega⟩
theorem fq_settle {f : FP.Core.Fmt} {c : Nat} {q : Int} (h : c < 2 ^ f.p) (hq : q ≤ f.qmax) : FP.Core.settle f false c q = .fin false c q := by
  unfold FP.Core.settle FP.Core.bound
  rw [if_pos h, if_pos hq]
theorem fq_round {f : FP.Core.Fmt} {t n : Nat} (K : Nat) (hf : fq_ok f t) (hn : n < 2 ^ f.p) : FP.Core.round f (.fin false (n * 2 ^ K) (-(t : Int) - K)) = dC f t n := by
  obtain ⟨hp, hq1, hq2⟩ := hf
  show FP.Core.roundRatio f false (n * 2 ^ K) 1 (-(t : Int) - K) = _
  by_cases h0 : n = 0
  · subst h0
    unfold FP.Core.roundRatio dC
    rw [Nat.zero_mul, if_pos rfl, if_pos rfl]
  have hN : n * 2 ^ K ≠ 0 := Nat.mul_ne_zero h0 (Nat.ne_of_gt (Nat.two_pow_pos K))
  have hl := fq_le h0 hn
  have hlog := fq_log (K := K) h0
  have hle : FP.Core.leading (n * 2 ^ K) 1 = ((n.log2 + K : Nat) : Int) := by
    unfold FP.Core.leading
    have e : (((n * 2 ^ K).log2 : Int) - ((1 : Nat).log2 : Int)) = ((n.log2 + K : Nat) : Int) := by
      rw [hlog]
      have : (1 : Nat).log2 = 0 := by decide
      rw [this]
      omega
    simp only [e]
    rw [if_pos]
    have e2 : (-((n.log2 + K : Nat) : Int)).toNat = 0 := by omega
    have e3 : (((n.log2 + K : Nat) : Int)).toNat = n.log2 + K := by omega
    rw [e2, e3, Nat.one_mul, Nat.pow_zero, Nat.mul_one, ← hlog]
    exact Nat.log2_self_le hN
  have hqu : FP.Core.quantum f (n * 2 ^ K) 1 (-(t : Int) - K) = (n.log2 : Int) - ((f.p : Int) - 1) - t := by
    unfold FP.Core.quantum
    rw [hle]
    omega
  unfold FP.Core.roundRatio
  rw [if_neg hN, hqu]
  unfold FP.Core.roundAt
  have hne : FP.Core.nearest (FP.Core.unitsNum (n * 2 ^ K) (-(t : Int) - K) ((n.log2 : Int) - ((f.p : Int) - 1) - t)) (FP.Core.unitsDen 1 (-(t : Int) - K) ((n.log2 : Int) - ((f.p : Int) - 1) - t)) = n * 2 ^ (f.p - 1 - n.log2) := by
    unfold FP.Core.unitsNum FP.Core.unitsDen
    rcases Nat.lt_or_ge (f.p - 1 - n.log2) K with h | h
    · have e1 : ((-(t : Int) - K) - ((n.log2 : Int) - ((f.p : Int) - 1) - t)).toNat = 0 := by omega
      have e2 : (((n.log2 : Int) - ((f.p : Int) - 1) - t) - (-(t : Int) - K)).toNat = K - (f.p - 1 - n.log2) := by omega
      rw [e1, e2, Nat.pow_zero, Nat.mul_one, Nat.one_mul]
      have e3 : 2 ^ K = 2 ^ (f.p - 1 - n.log2) * 2 ^ (K - (f.p - 1 - n.log2)) := by rw [← Nat.pow_add]; congr 1; omega
      rw [e3, ← Nat.mul_assoc]
      exact fq_nearM _ _ (Nat.two_pow_pos _)
    · have e1 : ((-(t : Int) - K) - ((n.log2 : Int) - ((f.p : Int) - 1) - t)).toNat = (f.p - 1 - n.log2) - K := by omega
      have e2 : (((n.log2 : Int) - ((f.p : Int) - 1) - t) - (-(t : Int) - K)).toNat = 0 := by omega
      rw [e1, e2, Nat.pow_zero, Nat.mul_one, fq_near1, Nat.mul_assoc, ← Nat.pow_add]
      congr 2
      omega
  rw [hne, fq_settle (fq_top h0 hn).1 (by omega)]
  unfold dC
  rw [if_neg h0]
/-- a datum of the kind as n times a power, over 2 to the t and more -/
theorem fq_rep {f : FP.Core.Fmt} {t n : Nat} (hf : fq_ok f t) (hn : n < 2 ^ f.p) : ∃ K : Nat, dC f t n = .fin false (n * 2 ^ K) (-(t : Int) - K) := by
  obtain ⟨hp, hq1, hq2⟩ := hf
  unfold dC
  by_cases h0 : n = 0
  · subst h0
    refine ⟨(-(t : Int) - f.qmin).toNat, ?_⟩
    rw [if_pos rfl, Nat.zero_mul]
    congr 1
    omega
  · have hl := fq_le h0 hn
    refine ⟨f.p - 1 - n.log2, ?_⟩
    rw [if_neg h0]
    congr 1
    omega
theorem fq_enc (f : FP.Core.Fmt) (s : Bool) (c : Nat) (q : Int) : FP.Core.encode f (.fin s c q) = if c < f.tails then FP.Core.assemble f s 0 c else FP.Core.assemble f s ((q - f.qmin).toNat + 1) (c - f.tails) := rfl
theorem fq_quo (f : FP.Core.Fmt) (s t : Bool) (c d : Nat) (q r : Int) : FP.Core.quotient f (.fin s c q) (.fin t d r) = if d = 0 then (if c = 0 then .nan else .inf (s != t)) else FP.Core.roundRatio f (s != t) c d (q - r) := rfl
theorem fq_sum (s t : Bool) (c d : Nat) (q r : Int) : FP.Core.exactSum (.fin s c q) (.fin t d r) = .fin (FP.Core.sumSign s t (FP.Core.sumUnits s c q t d r (min q r))) (FP.Core.sumUnits s c q t d r (min q r)).natAbs (min q r) := rfl
theorem fq_cmpI (x y : Int) : compare x y = if x < y then .lt else if x = y then .eq else .gt := rfl
theorem fq_dec {f : FP.Core.Fmt} {t n : Nat} (hf : fq_ok f t) (hn : n < 2 ^ f.p) (he : (2 : Int) - f.qmin ≤ (f.exps : Int) - 2) : FP.Core.decode f (FP.Core.encode f (dC f t n)) = dC f t n ∧ FP.Core.encode f (dC f t n) < (f.exps - 1) * f.tails := by
  obtain ⟨hp, hq1, hq2⟩ := hf
  have hT : 0 < f.tails := Nat.two_pow_pos _
  have hE : 4 ≤ f.exps := by omega
  unfold dC
  by_cases h0 : n = 0
  · subst h0
    rw [if_pos rfl]
    rw [fq_enc, if_pos hT]
    unfold FP.Core.assemble
    have e : (Bool.toNat false * f.exps + 0) * f.tails + 0 = 0 := by simp
    rw [e]
    refine ⟨?_, Nat.mul_pos (by omega) hT⟩
    unfold FP.Core.decode FP.Core.fieldE FP.Core.fieldT FP.Core.fieldS
    rw [Nat.zero_div, Nat.zero_mod, if_neg (by omega), if_pos rfl, Nat.zero_mod, Nat.zero_div, Nat.zero_mod]
    rfl
  · rw [if_neg h0]
    have hl := fq_le h0 hn
    obtain ⟨h1, h2⟩ := fq_top h0 hn
    have h2' : f.tails ≤ n * 2 ^ (f.p - 1 - n.log2) := h2
    have h3 : n * 2 ^ (f.p - 1 - n.log2) < 2 * f.tails := by
      have : 2 * f.tails = 2 ^ f.p := by
        unfold FP.Core.Fmt.tails
        rw [show f.p = (f.p - 1) + 1 by omega, Nat.pow_succ, Nat.mul_comm]
        simp
      omega
    rw [fq_enc, if_neg (by omega)]
    generalize hEE : (((n.log2 : Int) - ((f.p : Int) - 1) - t) - f.qmin).toNat + 1 = E
    generalize hTT : n * 2 ^ (f.p - 1 - n.log2) - f.tails = T
    have hTl : T < f.tails := by omega
    have hEl : E < f.exps - 1 := by omega
    unfold FP.Core.assemble
    have e : (Bool.toNat false * f.exps + E) * f.tails + T = E * f.tails + T := by simp
    rw [e]
    have d1 : (E * f.tails + T) / f.tails = E := by
      rw [Nat.mul_comm, Nat.mul_add_div hT, Nat.div_eq_of_lt hTl]
      rfl
    have d2 : (E * f.tails + T) % f.tails = T := by
      rw [Nat.mul_comm, Nat.mul_add_mod, Nat.mod_eq_of_lt hTl]
    have d3 : E % f.exps = E := Nat.mod_eq_of_lt (by omega)
    have d4 : E / f.exps = 0 := Nat.div_eq_of_lt (by omega)
    refine ⟨?_, ?_⟩
    · unfold FP.Core.decode FP.Core.fieldE FP.Core.fieldT FP.Core.fieldS
      rw [d1, d2, d3, d4, if_neg (by omega), if_neg (by omega), Nat.zero_mod]
      have e5 : f.tails + T = n * 2 ^ (f.p - 1 - n.log2) := by omega
      have e6 : f.qmin + ((E : Int) - 1) = (n.log2 : Int) - ((f.p : Int) - 1) - t := by omega
      rw [e5, e6]
      rfl
    · have : (E + 1) * f.tails ≤ (f.exps - 1) * f.tails := Nat.mul_le_mul_right _ (by omega)
      rw [Nat.succ_mul] at this
      omega
theorem fl_dec {n : Nat} (hn : n < 16777216) : FP.Core.decode FP.Core.b32 (fl n).toNat = dC FP.Core.b32 6 n ∧ (fl n).toNat < 2139095040 := by
  have h := fq_dec (f := FP.Core.b32) (t := 6) (n := n) (fq_ok32 (by omega)) (by show n < 2 ^ 24; omega) (by decide)
  have h2 : FP.Core.encode FP.Core.b32 (dC FP.Core.b32 6 n) < 2139095040 := h.2
  have e : (fl n).toNat = FP.Core.encode FP.Core.b32 (dC FP.Core.b32 6 n) := by
    unfold fl
    rw [UInt32.toNat_ofNat']
    exact Nat.mod_eq_of_lt (by omega)
  rw [e]
  exact ⟨h.1, h2⟩
theorem fl_num {n : Nat} (hn : n < 16777216) : vf_n32 (fl n) := by
  have h := (fl_dec hn).2
  unfold vf_n32
  rw [UInt32.le_iff_toNat_le, UInt32.toNat_and]
  have h1 : (fl n).toNat &&& (0x7fffffff : UInt32).toNat ≤ (fl n).toNat := Nat.and_le_left
  have h2 : (0x7f800000 : UInt32).toNat = 2139095040 := rfl
  omega
theorem dl_num {n : Nat} (hn : n < 16777216) : vf_n64 (dl n) := by
  have h := fq_dec (f := FP.Core.b64) (t := 6) (n := n) (fq_ok64 (by omega)) (by show n < 2 ^ 53; omega) (by decide)
  have h2 : FP.Core.encode FP.Core.b64 (dC FP.Core.b64 6 n) < 9218868437227405312 := h.2
  have e : (dl n).toNat = FP.Core.encode FP.Core.b64 (dC FP.Core.b64 6 n) := by
    unfold dl
    rw [UInt64.toNat_ofNat']
    exact Nat.mod_eq_of_lt (by omega)
  unfold vf_n64
  rw [UInt64.le_iff_toNat_le, UInt64.toNat_and]
  have h1 : (dl n).toNat &&& (0x7fffffffffffffff : UInt64).toNat ≤ (dl n).toNat := Nat.and_le_left
  have h3 : (0x7ff0000000000000 : UInt64).toNat = 9218868437227405312 := rfl
  omega
theorem fq_units (a Ka K t : Nat) (h : Ka ≤ K) : FP.Core.inUnits (a * 2 ^ Ka) (-(t : Int) - Ka) (-(t : Int) - K) = a * 2 ^ K := by
  unfold FP.Core.inUnits
  have e : ((-(t : Int) - Ka) - (-(t : Int) - K)).toNat = K - Ka := by omega
  rw [e, Nat.mul_assoc, ← Nat.pow_add]
  congr 2
  omega
theorem fq_min (t Ka Kb : Nat) : min (-(t : Int) - Ka) (-(t : Int) - Kb) = -(t : Int) - ((max Ka Kb : Nat) : Int) := by omega
theorem fl_add {a b : Nat} (h : a + b < 16777216) : FP.fadd (fl a) (fl b) = fl (a + b) := by
  show UInt32.ofNat (FP.Core.encode FP.Core.b32 (FP.Core.round FP.Core.b32 (FP.Core.exactSum (FP.Core.decode FP.Core.b32 (fl a).toNat) (FP.Core.decode FP.Core.b32 (fl b).toNat)))) = fl (a + b)
  rw [(fl_dec (n := a) (by omega)).1, (fl_dec (n := b) (by omega)).1]
  obtain ⟨Ka, ea⟩ := fq_rep (f := FP.Core.b32) (t := 6) (n := a) (fq_ok32 (by omega)) (by show a < 2 ^ 24; omega)
  obtain ⟨Kb, eb⟩ := fq_rep (f := FP.Core.b32) (t := 6) (n := b) (fq_ok32 (by omega)) (by show b < 2 ^ 24; omega)
  rw [ea, eb]
  have hs : FP.Core.exactSum (.fin false (a * 2 ^ Ka) (-((6 : Nat) : Int) - Ka)) (.fin false (b * 2 ^ Kb) (-((6 : Nat) : Int) - Kb)) = .fin false ((a + b) * 2 ^ (max Ka Kb)) (-((6 : Nat) : Int) - ((max Ka Kb : Nat) : Int)) := by
    have hv : FP.Core.sumUnits false (a * 2 ^ Ka) (-((6 : Nat) : Int) - Ka) false (b * 2 ^ Kb) (-((6 : Nat) : Int) - Kb) (min (-((6 : Nat) : Int) - Ka) (-((6 : Nat) : Int) - Kb)) = (((a + b) * 2 ^ (max Ka Kb) : Nat) : Int) := by
      unfold FP.Core.sumUnits FP.Core.signed
      rw [fq_min, fq_units a Ka (max Ka Kb) 6 (Nat.le_max_left _ _), fq_units b Kb (max Ka Kb) 6 (Nat.le_max_right _ _), if_neg (by decide), if_neg (by decide), Nat.add_mul, Int.natCast_add]
    have hsg : FP.Core.sumSign false false (((a + b) * 2 ^ (max Ka Kb) : Nat) : Int) = false := by
      unfold FP.Core.sumSign
      split
      · rfl
      · exact decide_eq_false (by omega)
    rw [fq_sum, hv, hsg, Int.natAbs_natCast, fq_min]
  rw [hs, fq_round _ (fq_ok32 (by omega)) (by show a + b < 2 ^ 24; omega)]
  rfl
theorem fl_sub {a b : Nat} (h : a < 16777216) (hb : b ≤ a) : FP.fsub (fl a) (fl b) = fl (a - b) := by
  show UInt32.ofNat (FP.Core.encode FP.Core.b32 (FP.Core.round FP.Core.b32 (FP.Core.exactSum (FP.Core.decode FP.Core.b32 (fl a).toNat) (FP.Core.negate (FP.Core.decode FP.Core.b32 (fl b).toNat))))) = fl (a - b)
  rw [(fl_dec (n := a) (by omega)).1, (fl_dec (n := b) (by omega)).1]
  obtain ⟨Ka, ea⟩ := fq_rep (f := FP.Core.b32) (t := 6) (n := a) (fq_ok32 (by omega)) (by show a < 2 ^ 24; omega)
  obtain ⟨Kb, eb⟩ := fq_rep (f := FP.Core.b32) (t := 6) (n := b) (fq_ok32 (by omega)) (by show b < 2 ^ 24; omega)
  rw [ea, eb]
  have hs : FP.Core.exactSum (.fin false (a * 2 ^ Ka) (-((6 : Nat) : Int) - Ka)) (FP.Core.negate (.fin false (b * 2 ^ Kb) (-((6 : Nat) : Int) - Kb))) = .fin false ((a - b) * 2 ^ (max Ka Kb)) (-((6 : Nat) : Int) - ((max Ka Kb : Nat) : Int)) := by
    show FP.Core.exactSum (.fin false (a * 2 ^ Ka) (-((6 : Nat) : Int) - Ka)) (.fin true (b * 2 ^ Kb) (-((6 : Nat) : Int) - Kb)) = _
    have hm : b * 2 ^ (max Ka Kb) ≤ a * 2 ^ (max Ka Kb) := Nat.mul_le_mul_right _ hb
    have hv : FP.Core.sumUnits false (a * 2 ^ Ka) (-((6 : Nat) : Int) - Ka) true (b * 2 ^ Kb) (-((6 : Nat) : Int) - Kb) (min (-((6 : Nat) : Int) - Ka) (-((6 : Nat) : Int) - Kb)) = (((a - b) * 2 ^ (max Ka Kb) : Nat) : Int) := by
      unfold FP.Core.sumUnits FP.Core.signed
      rw [fq_min, fq_units a Ka (max Ka Kb) 6 (Nat.le_max_left _ _), fq_units b Kb (max Ka Kb) 6 (Nat.le_max_right _ _), if_neg (by decide), if_pos rfl, Nat.sub_mul]
      omega
    have hsg : FP.Core.sumSign false true (((a - b) * 2 ^ (max Ka Kb) : Nat) : Int) = false := by
      unfold FP.Core.sumSign
      split
      · rfl
      · exact decide_eq_false (by omega)
    rw [fq_sum, hv, hsg, Int.natAbs_natCast, fq_min]
  rw [hs, fq_round _ (fq_ok32 (by omega)) (by show a - b < 2 ^ 24; omega)]
  rfl
theorem fl_cmp {a b : Nat} (ha : a < 16777216) (hb : b < 16777216) (op : CmpOp) : Op.cmpValue (FP.fcmp (fl a) (fl b)) op = if a < b then -1 else if a = b then 0 else 1 := by
  have hc : FP.fcmp (fl a) (fl b) = some (if a < b then .lt else if a = b then .eq else .gt) := by
    show FP.Core.order (FP.Core.decode FP.Core.b32 (fl a).toNat) (FP.Core.decode FP.Core.b32 (fl b).toNat) = _
    rw [(fl_dec ha).1, (fl_dec hb).1]
    obtain ⟨Ka, ea⟩ := fq_rep (f := FP.Core.b32) (t := 6) (n := a) (fq_ok32 (by omega)) (by show a < 2 ^ 24; omega)
    obtain ⟨Kb, eb⟩ := fq_rep (f := FP.Core.b32) (t := 6) (n := b) (fq_ok32 (by omega)) (by show b < 2 ^ 24; omega)
    rw [ea, eb]
    unfold FP.Core.order FP.Core.signed
    simp only [fq_min, fq_units a Ka (max Ka Kb) 6 (Nat.le_max_left _ _), fq_units b Kb (max Ka Kb) 6 (Nat.le_max_right _ _)]
    have hp := Nat.two_pow_pos (max Ka Kb)
    congr 1
    show compare ((a * 2 ^ (max Ka Kb) : Nat) : Int) ((b * 2 ^ (max Ka Kb) : Nat) : Int) = _
    rw [fq_cmpI]
    simp only [Int.ofNat_lt, Int.ofNat_inj]
    have e1 : a * 2 ^ (max Ka Kb) < b * 2 ^ (max Ka Kb) ↔ a < b := Nat.mul_lt_mul_right hp
    have e2 : a * 2 ^ (max Ka Kb) = b * 2 ^ (max Ka Kb) ↔ a = b := ⟨fun h => Nat.eq_of_mul_eq_mul_right hp h, fun h => by rw [h]⟩
    simp only [e1, e2]
  rw [hc]
  split
  · rfl
  · split <;> rfl
theorem fl_i2 {n : Nat} (hn : n < 16777216) : FP.i2f (nI n) = UInt32.ofNat (FP.Core.encode FP.Core.b32 (dC FP.Core.b32 0 n)) := by
  show UInt32.ofNat (FP.Core.encode FP.Core.b32 (FP.Core.round FP.Core.b32 (FP.Core.ofInt (nI n).toInt))) = _
  rw [nI_toInt (by omega)]
  have e : FP.Core.ofInt (n : Int) = .fin false (n * 2 ^ 0) (-((0 : Nat) : Int) - (0 : Nat)) := by
    unfold FP.Core.ofInt
    rw [decide_eq_false (by omega), Int.natAbs_natCast, Nat.pow_zero, Nat.mul_one]
    rfl
  rw [e, fq_round 0 (fq_ok32 (by omega)) (by show n < 2 ^ 24; omega)]
theorem fl_idec {n : Nat} (hn : n < 16777216) : FP.Core.decode FP.Core.b32 (FP.i2f (nI n)).toNat = dC FP.Core.b32 0 n := by
  have h := fq_dec (f := FP.Core.b32) (t := 0) (n := n) (fq_ok32 (by omega)) (by show n < 2 ^ 24; omega) (by decide)
  have h2 : FP.Core.encode FP.Core.b32 (dC FP.Core.b32 0 n) < 2139095040 := h.2
  rw [fl_i2 hn, UInt32.toNat_ofNat', Nat.mod_eq_of_lt (by omega)]
  exact h.1
theorem fq_div {f : FP.Core.Fmt} {t n : Nat} (u : Nat) (hf : fq_ok f (t + u)) (hn : n < 2 ^ f.p) : FP.Core.quotient f (dC f t n) (.fin false (2 ^ (f.p - 1)) ((u : Int) - ((f.p : Int) - 1))) = dC f (t + u) n := by
  obtain ⟨hp, hq1, hq2⟩ := hf
  have hd : 2 ^ (f.p - 1) ≠ 0 := Nat.ne_of_gt (Nat.two_pow_pos _)
  by_cases h0 : n = 0
  · subst h0
    unfold dC
    rw [if_pos rfl, if_pos rfl]
    rw [fq_quo, if_neg hd]
    unfold FP.Core.roundRatio
    rw [if_pos rfl]
    rfl
  have hl := fq_le h0 hn
  obtain ⟨h1, h2⟩ := fq_top h0 hn
  unfold dC
  rw [if_neg h0, if_neg h0]
  rw [fq_quo, if_neg hd]
  have hc0 : n * 2 ^ (f.p - 1 - n.log2) ≠ 0 := Nat.mul_ne_zero h0 (Nat.ne_of_gt (Nat.two_pow_pos _))
  have hlog : (n * 2 ^ (f.p - 1 - n.log2)).log2 = f.p - 1 := by rw [fq_log h0]; omega
  have hlog2 : (2 ^ (f.p - 1)).log2 = f.p - 1 := Nat.log2_two_pow
  have hE : ((n.log2 : Int) - ((f.p : Int) - 1) - t - ((u : Int) - ((f.p : Int) - 1))) = (n.log2 : Int) - t - u := by omega
  rw [hE]
  have hle : FP.Core.leading (n * 2 ^ (f.p - 1 - n.log2)) (2 ^ (f.p - 1)) = 0 := by
    unfold FP.Core.leading
    rw [hlog, hlog2]
    have e : (((f.p - 1 : Nat) : Int) - ((f.p - 1 : Nat) : Int)) = 0 := by omega
    simp only [e]
    rw [if_pos]
    show 2 ^ (f.p - 1) * 2 ^ 0 ≤ n * 2 ^ (f.p - 1 - n.log2) * 2 ^ 0
    rw [Nat.pow_zero, Nat.mul_one, Nat.mul_one]
    exact h2
  have hqu : FP.Core.quantum f (n * 2 ^ (f.p - 1 - n.log2)) (2 ^ (f.p - 1)) ((n.log2 : Int) - t - u) = (n.log2 : Int) - ((f.p : Int) - 1) - ((t + u : Nat) : Int) := by
    unfold FP.Core.quantum
    rw [hle]
    omega
  show FP.Core.roundRatio f false _ _ _ = _
  unfold FP.Core.roundRatio
  rw [if_neg hc0, hqu]
  unfold FP.Core.roundAt FP.Core.unitsNum FP.Core.unitsDen
  have e1 : (((n.log2 : Int) - t - u) - ((n.log2 : Int) - ((f.p : Int) - 1) - ((t + u : Nat) : Int))).toNat = f.p - 1 := by omega
  have e2 : (((n.log2 : Int) - ((f.p : Int) - 1) - ((t + u : Nat) : Int)) - ((n.log2 : Int) - t - u)).toNat = 0 := by omega
  rw [e1, e2, Nat.pow_zero, Nat.mul_one, fq_nearM _ _ (Nat.two_pow_pos _), fq_settle h1 (by omega)]
/-- what inkFor(letter) computes -/
theorem fl_ink {n : Nat} (hn : n < 16777216) : FP.fdiv (FP.i2f (nI n)) 1115684864 = fl n := by
  show UInt32.ofNat (FP.Core.encode FP.Core.b32 (FP.Core.quotient FP.Core.b32 (FP.Core.decode FP.Core.b32 (FP.i2f (nI n)).toNat) (FP.Core.decode FP.Core.b32 (1115684864 : UInt32).toNat))) = fl n
  rw [fl_idec hn, show FP.Core.decode FP.Core.b32 (1115684864 : UInt32).toNat = .fin false (2 ^ (FP.Core.b32.p - 1)) (((6 : Nat) : Int) - ((FP.Core.b32.p : Int) - 1)) by decide +kernel, fq_div 6 (fq_ok32 (by omega)) (by show n < 2 ^ 24; omega)]
  rfl
theorem fl_8 {n : Nat} (hn : n < 1048576) : FP.fdiv (FP.i2f (nI n)) 1090519040 = fl (8 * n) := by
  show UInt32.ofNat (FP.Core.encode FP.Core.b32 (FP.Core.quotient FP.Core.b32 (FP.Core.decode FP.Core.b32 (FP.i2f (nI n)).toNat) (FP.Core.decode FP.Core.b32 (1090519040 : UInt32).toNat))) = fl (8 * n)
  rw [fl_idec (by omega), show FP.Core.decode FP.Core.b32 (1090519040 : UInt32).toNat = .fin false (2 ^ (FP.Core.b32.p - 1)) (((3 : Nat) : Int) - ((FP.Core.b32.p : Int) - 1)) by decide +kernel, fq_div 3 (fq_ok32 (by omega)) (by show n < 2 ^ 24; omega)]
  unfold fl
  congr 2
  unfold dC
  by_cases h0 : n = 0
  · subst h0
    rfl
  · have hl : n.log2 < 20 := (Nat.log2_lt h0).mpr (by omega)
    have e : (8 * n).log2 = n.log2 + 3 := by rw [Nat.mul_comm]; exact fq_log (K := 3) h0
    rw [if_neg h0, if_neg (by omega), e]
    have e3 : FP.Core.b32.p = 24 := rfl
    rw [e3]
    have e4 : 8 * n * 2 ^ (24 - 1 - (n.log2 + 3)) = n * 2 ^ (24 - 1 - n.log2) := by
      rw [Nat.mul_comm 8 n, Nat.mul_assoc]
      congr 1
      rw [show (8 : Nat) = 2 ^ 3 from rfl, ← Nat.pow_add]
      congr 1
      omega
    rw [e4]
    congr 1
    omega
theorem fl_f2d {n : Nat} (hn : n < 16777216) : FP.f2d (fl n) = dl n := by
  obtain ⟨K, e⟩ := fq_rep (f := FP.Core.b32) (t := 6) (n := n) (fq_ok32 (by omega)) (by show n < 2 ^ 24; omega)
  have hd := (fl_dec hn).1
  have hnn : FP.Core.fIsNaN (fl n) = false := by
    show decide (FP.Core.decode FP.Core.b32 (fl n).toNat = .nan) = false
    rw [hd, e]
    rfl
  unfold FP.f2d
  rw [hnn]
  show UInt64.ofNat (FP.Core.encode FP.Core.b64 (FP.Core.round FP.Core.b64 (FP.Core.decode FP.Core.b32 (fl n).toNat))) = dl n
  rw [hd, e, fq_round K (fq_ok64 (by omega)) (by show n < 2 ^ 53; omega)]
  rfl
theorem dl_div {n : Nat} (hn : n < 16777216) : FP.ddiv (FP.i2d (nI n)) 4634204016564240384 = dl n := by
  show UInt64.ofNat (FP.Core.encode FP.Core.b64 (FP.Core.quotient FP.Core.b64 (FP.Core.decode FP.Core.b64 (FP.i2d (nI n)).toNat) (FP.Core.decode FP.Core.b64 (4634204016564240384 : UInt64).toNat))) = dl n
  have hi : FP.Core.decode FP.Core.b64 (FP.i2d (nI n)).toNat = dC FP.Core.b64 0 n := by
    have h := fq_dec (f := FP.Core.b64) (t := 0) (n := n) (fq_ok64 (by omega)) (by show n < 2 ^ 53; omega) (by decide)
    have h2 : FP.Core.encode FP.Core.b64 (dC FP.Core.b64 0 n) < 9218868437227405312 := h.2
    have h3 : FP.i2d (nI n) = UInt64.ofNat (FP.Core.encode FP.Core.b64 (dC FP.Core.b64 0 n)) := by
      show UInt64.ofNat (FP.Core.encode FP.Core.b64 (FP.Core.round FP.Core.b64 (FP.Core.ofInt (nI n).toInt))) = _
      rw [nI_toInt (by omega)]
      have e : FP.Core.ofInt (n : Int) = .fin false (n * 2 ^ 0) (-((0 : Nat) : Int) - (0 : Nat)) := by
        unfold FP.Core.ofInt
        rw [decide_eq_false (by omega), Int.natAbs_natCast, Nat.pow_zero, Nat.mul_one]
        rfl
      rw [e, fq_round 0 (fq_ok64 (by omega)) (by show n < 2 ^ 53; omega)]
    rw [h3, UInt64.toNat_ofNat', Nat.mod_eq_of_lt (by omega)]
    exact h.1
  rw [hi, show FP.Core.decode FP.Core.b64 (4634204016564240384 : UInt64).toNat = .fin false (2 ^ (FP.Core.b64.p - 1)) (((6 : Nat) : Int) - ((FP.Core.b64.p : Int) - 1)) by decide +kernel, fq_div 6 (fq_ok64 (by omega)) (by show n < 2 ^ 53; omega)]
  rfl
theorem fl_0 : FP.fconst0 = fl 0 := by decide +kernel
theorem fl_64 : FP.fconst1 = fl 64 := by decide +kernel
theorem fl_256 : (1082130432 : UInt32) = fl 256 := by decide +kernel
