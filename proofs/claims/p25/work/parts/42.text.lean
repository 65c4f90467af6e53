/-! texts as the law types them: letters, then misreadings one by one -/
theorem letC_of {t : Nat → Nat} {L c : Nat} (h : c < L) (h1 : 97 ≤ t c ∧ t c ≤ 122) : letC t L c = t c - 96 := if_pos ⟨h, h1⟩
theorem letC_no {t : Nat → Nat} {L c : Nat} (h : L ≤ c ∨ t c < 97) : letC t L c = 0 := if_neg (by omega)
theorem hfF_run {t : Nat → Nat} {L H : Nat} (hl : ∀ q, q < H → 97 ≤ t q ∧ t q ≤ 122) (hL : H ≤ L) : ∀ k c, c ≤ H → H ≤ c + k → (H = c + k ∨ letC t L H = 0) → hfF t L k c = H := by
  intro k
  induction k with
  | zero => intro c h1 h2 _; show c = H; omega
  | succ k ih =>
    intro c h1 h2 h3
    by_cases hc : c = H
    · rcases h3 with h3 | h3
      · omega
      · rw [hc]; exact hfF_stop h3 _
    · have h4 : ¬ letC t L c = 0 := by
        have h5 := hl c (by omega)
        rw [letC_of (by omega) h5]
        omega
      rw [hfF_next h4]
      exact ih (c + 1) (by omega) (by omega) (h3.elim (fun q => Or.inl (by omega)) Or.inr)
theorem half_run {t : Nat → Nat} {L H : Nat} (hl : ∀ q, q < H → 97 ≤ t q ∧ t q ≤ 122) (hL : H ≤ L) (h20 : H ≤ 20) (hs : letC t L H = 0) : halfN t L = H := hfF_run hl hL 20 0 (Nat.zero_le _) (by omega) (Or.inr hs)
def sepC (i : Nat) : Nat := if i = 0 then 33 else 44
/-- i misreadings are typed behind a left half of H letters: m is what they tell, g one more than the greatest place -/
def TM (H i : Nat) (t : Nat → Nat) (L : Nat) (m : Nat → Nat) (g : Nat) : Prop := ∀ (t' : Nat → Nat) (L' : Nat), (∀ q, q < L → t' q = t q) → (L' = L → psF t' L' = (0, L, m, g) ∧ halfN t' L' = H) ∧ (L < L' → t' L = sepC i → psF t' L' = pmF t' L' (60 - i) (L + 1) m g ∧ halfN t' L' = H)
theorem TM.z {t : Nat → Nat} {H : Nat} (h1 : 1 ≤ H) (h20 : H ≤ 20) (hl : ∀ q, q < H → 97 ≤ t q ∧ t q ≤ 122) : TM H 0 t H (fun _ => 0) 0 := by
  intro t' L' he
  have hl' : ∀ q, q < H → 97 ≤ t' q ∧ t' q ≤ 122 := fun q hq => by rw [he q hq]; exact hl q hq
  refine ⟨fun hL => ?_, fun hL hs => ?_⟩
  · subst hL
    have hh : halfN t' L' = L' := half_run hl' (Nat.le_refl _) h20 (letC_no (Or.inl (Nat.le_refl _)))
    refine ⟨?_, hh⟩
    unfold psF
    rw [hh, if_neg (by omega), if_pos rfl]
  · have hs2 : t' H = 33 := hs
    have hh : halfN t' L' = H := half_run hl' (by omega) h20 (letC_no (Or.inr (by omega)))
    refine ⟨?_, hh⟩
    unfold psF
    rw [hh, if_neg (by omega), if_neg (by omega), if_pos hs2]
theorem TM.next {H i : Nat} {t t2 : Nat → Nat} {L : Nat} {m : Nat → Nat} {g p c e : Nat} (h : TM H i t L m g) (hi : i < 60) (ht : ∀ q, q < L → t2 q = t q) (hs : t2 L = sepC i) (hc : 1 ≤ c ∧ c ≤ 26) (hp : (p < 10 ∧ e = L + 2 ∧ t2 (L + 1) = 48 + p) ∨ (10 ≤ p ∧ p ≤ 39 ∧ e = L + 3 ∧ t2 (L + 1) = 48 + p / 10 ∧ t2 (L + 2) = 48 + p % 10)) (he : t2 e = 96 + c) : TM H (i + 1) t2 (e + 1) (upN m p c) (max g (p + 1)) := by
  intro t' L' hx
  have key : e + 1 ≤ L' → mrOk t' L' (L + 1) ∧ mrNum t' L' (L + 1) = p ∧ mrPos t' L' (L + 1) = e ∧ letC t' L' e = c ∧ psF t' L' = pmF t' L' (60 - i) (L + 1) m g ∧ halfN t' L' = H := by
    intro hL
    have x0 : t' L = sepC i := by rw [hx L (by omega)]; exact hs
    have x3 : t' e = 96 + c := by rw [hx e (by omega)]; exact he
    have hlc : letC t' L' e = c := by rw [letC_of (by omega) (by omega)]; omega
    obtain ⟨hps, hha⟩ := (h t' L' (fun q hq => by rw [hx q (by omega)]; exact ht q hq)).2 (by omega) x0
    rcases hp with ⟨p1, p2, p3⟩ | ⟨p1, p2, p3, p4, p5⟩
    · have x1 : t' (L + 1) = 48 + p := by rw [hx (L + 1) (by omega)]; exact p3
      have x2 : t' (L + 1 + 1) = 96 + c := by rw [show L + 1 + 1 = e by omega]; exact x3
      have hn : ¬ (¬ t' (L + 1) - 48 = 0 ∧ (L + 1 + 1 < L' ∧ 48 ≤ t' (L + 1 + 1) ∧ t' (L + 1 + 1) ≤ 57) ∧ (t' (L + 1) - 48) * 10 + (t' (L + 1 + 1) - 48) ≤ 39) := by omega
      have n1 : mrNum t' L' (L + 1) = p := by unfold mrNum; rw [if_neg hn]; omega
      have n2 : mrPos t' L' (L + 1) = e := by unfold mrPos; rw [if_neg hn]; omega
      refine ⟨⟨⟨by omega, by omega, by omega⟩, ?_⟩, n1, n2, hlc, hps, hha⟩
      rw [n2, hlc]
      omega
    · have x1 : t' (L + 1) = 48 + p / 10 := by rw [hx (L + 1) (by omega)]; exact p4
      have x2 : t' (L + 1 + 1) = 48 + p % 10 := by rw [hx (L + 1 + 1) (by omega)]; exact p5
      have hn : ¬ t' (L + 1) - 48 = 0 ∧ (L + 1 + 1 < L' ∧ 48 ≤ t' (L + 1 + 1) ∧ t' (L + 1 + 1) ≤ 57) ∧ (t' (L + 1) - 48) * 10 + (t' (L + 1 + 1) - 48) ≤ 39 := by omega
      have n1 : mrNum t' L' (L + 1) = p := by unfold mrNum; rw [if_pos hn]; omega
      have n2 : mrPos t' L' (L + 1) = e := by unfold mrPos; rw [if_pos hn]; omega
      refine ⟨⟨⟨by omega, by omega, by omega⟩, ?_⟩, n1, n2, hlc, hps, hha⟩
      rw [n2, hlc]
      omega
  refine ⟨fun hL => ?_, fun hL hsx => ?_⟩
  · obtain ⟨k1, k2, k3, k4, k5, k6⟩ := key (by omega)
    refine ⟨?_, k6⟩
    rw [k5, show 60 - i = (60 - (i + 1)) + 1 by omega, pmF_s, if_pos k1, k2, k3, k4, if_pos (by omega), hL]
  · obtain ⟨k1, k2, k3, k4, k5, k6⟩ := key (by omega)
    refine ⟨?_, k6⟩
    have hs44 : t' (e + 1) = 44 := hsx.trans (if_neg (by omega))
    rw [k5, show 60 - i = (60 - (i + 1)) + 1 by omega, pmF_s, if_pos k1, k2, k3, k4, if_neg (by omega), if_pos hs44]
/-! a page begun, told otherwise -/
theorem rdF_lt (σ : AS) (h : Nat) (m : Nat → Nat) {l1 l2 : Nat → Nat} (hl : ∀ q, q < h → l1 q = l2 q) : rdF σ h m l1 = rdF σ h m l2 := by
  unfold rdF
  rw [show (fun k => if k < h then l1 k else 0) = (fun k => if k < h then l2 k else 0) from funext fun k => by
    by_cases hk : k < h
    · rw [if_pos hk, if_pos hk, hl k hk]
    · rw [if_neg hk, if_neg hk]]
theorem up2_off {f g : AS} {i0 : Nat} (h : ∀ i q, ¬ i = i0 → f i q = g i q) (a b x : Nat) : ∀ i q, ¬ i = i0 → up2 f a b x i q = up2 g a b x i q := fun i q hi => by
  unfold up2
  by_cases hia : i = a
  · rw [if_pos hia, if_pos hia, h a q (by rw [← hia]; exact hi)]
  · rw [if_neg hia, if_neg hia, h i q hi]
theorem setR_off {f g : AS} {i0 : Nat} (h : ∀ i q, ¬ i = i0 → f i q = g i q) (a : Nat) (x : Nat → Nat) : ∀ i q, ¬ i = i0 → setR f a x i q = setR g a x i q := fun i q hi => by
  unfold setR
  by_cases hia : i = a
  · rw [if_pos hia, if_pos hia]
  · rw [if_neg hia, if_neg hia, h i q hi]
theorem rdF_m {σ : AS} {h : Nat} {m m' lt : Nat → Nat} {i : Nat} (h2 : ¬ i = 2) (q : Nat) : rdF σ h m lt i q = rdF σ h m' lt i q := by
  have h0 : ∀ i q, ¬ i = 2 → setR σ 2 m i q = setR σ 2 m' i q := fun i q hi => by
    unfold setR
    rw [if_neg hi, if_neg hi]
  have h1 : ∀ i q, ¬ i = 2 → pgF σ h m i q = pgF σ h m' i q := up2_off (up2_off (setR_off (setR_off (setR_off (setR_off h0 3 _) 6 _) 4 _) 5 _) 0 4 _) 0 5 _
  exact up2_off (up2_off (up2_off (up2_off (up2_off (setR_off h1 1 _) 0 14 _) 0 15 _) 0 16 _) 0 17 _) 0 9 _ i q h2
theorem rdF_2 (σ : AS) (h : Nat) (m lt : Nat → Nat) (q : Nat) : rdF σ h m lt 2 q = m q := rfl
theorem rdF_begun (σ : AS) (h : Nat) (m lt : Nat → Nat) (j : Nat) : ¬ begunP (rdF σ h m lt) j := by
  intro q
  rcases q with q | q | q
  · exact absurd (show 0 < 0 from q) (by omega)
  · exact absurd (show 0 < 0 from q.1) (by omega)
  · exact absurd (show 0 < 0 from q.1) (by omega)
theorem misS_rd (σ : AS) (h : Nat) (m lt : Nat → Nat) (j k : Nat) : misS (rdF σ h m lt) j k = rdF σ h (upN m j k) lt := by
  have hb := rdF_begun σ h m lt j
  unfold misS
  by_cases he : m j = k
  · rw [if_pos (Or.inr (show rdF σ h m lt 2 j = k from he))]
    have e : upN m j k = m := funext fun q => by
      unfold upN
      by_cases hq : q = j
      · rw [if_pos hq, hq, he]
      · rw [if_neg hq]
    rw [e]
  · rw [if_neg (fun q => q.elim hb he)]
    funext i q
    by_cases h2 : i = 2
    · subst h2
      show (if q = j then k else m q) = upN m j k q
      rfl
    · rw [← rdF_m (m := m) (m' := upN m j k) h2 q]
      show (if i = 2 then (if q = j then k else rdF σ h m lt 2 q) else rdF σ h m lt i q) = _
      rw [if_neg h2]
theorem GV.mv {r : Nat} {σ τ : AS} {d d' : Nat → Nat} (h : GV r σ d) (hs : τ = σ) (hd : d' = d) : GV r τ d' := by rw [hs, hd]; exact h
/-! numbers of a script, cut down -/
theorem and_nat (v : Int32) : ∃ m : Nat, m < 2147483648 ∧ v &&& 2147483647 = nI m := by
  have hlt : (v.toBitVec &&& (2147483647 : BitVec 32)).toNat < 2147483648 := by
    rw [BitVec.toNat_and]
    have h1 : v.toBitVec.toNat &&& (2147483647 : BitVec 32).toNat ≤ (2147483647 : BitVec 32).toNat := Nat.and_le_right
    have h2 : (2147483647 : BitVec 32).toNat = 2147483647 := rfl
    omega
  refine ⟨(v.toBitVec &&& (2147483647 : BitVec 32)).toNat, hlt, ?_⟩
  apply Int32.toBitVec_inj.mp
  apply BitVec.eq_of_toNat_eq
  show (v.toBitVec &&& (2147483647 : BitVec 32)).toNat = (BitVec.ofNat 32 _).toNat
  rw [BitVec.toNat_ofNat, Nat.mod_eq_of_lt (by omega)]
theorem chr_nI {n : Nat} (h : n < 65536) : ((nI n).toUInt32 % 65536).toInt32 = nI n := by
  apply Int32.toBitVec_inj.mp
  apply BitVec.eq_of_toNat_eq
  show ((nI n).toUInt32 % 65536).toBitVec.toNat = (BitVec.ofNat 32 n).toNat
  have h1 : ((nI n).toUInt32 % 65536).toBitVec.toNat = (BitVec.ofNat 32 n).toNat % 65536 := by
    show ((nI n).toUInt32 % 65536).toNat = _
    rw [UInt32.toNat_mod]
    rfl
  rw [h1, BitVec.toNat_ofNat, Nat.mod_eq_of_lt (show n < 2 ^ 32 by omega), Nat.mod_eq_of_lt h]
