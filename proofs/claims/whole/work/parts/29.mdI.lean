/-! the best pace told from either end -/
def bdF (g : Nat → Int32) : Nat → Int32 × Int32
  | 0 => (-5, 2001)
  | k + 1 => if ¬ g (9 - k) = -5 ∧ g (9 - k) < (bdF g k).2 then (nI (9 - k), g (9 - k)) else bdF g k
theorem dnF_rng : ∀ (f c : Nat) (σ : AS), dnF f c σ = -5 ∨ ∃ k, k < c + f ∧ dnF f c σ = nI k
  | 0, _, _ => Or.inl rfl
  | f + 1, c, σ => by
    by_cases h : σ 0 4 ≤ σ 0 14 + σ 0 15
    · exact Or.inr ⟨c, by omega, if_pos h⟩
    · have e : dnF (f + 1) c σ = dnF f (c + 1) (ticksF σ) := if_neg h
      rw [e]
      rcases dnF_rng f (c + 1) (ticksF σ) with q | ⟨k, q1, q2⟩
      · exact Or.inl q
      · exact Or.inr ⟨k, by omega, q2⟩
theorem bp_spec {g : Nat → Int32} (hg : ∀ p, g p = -5 ∨ ∃ k, k < 2001 ∧ g p = nI k) : ∀ n, ((∀ p, 1 ≤ p → p ≤ n → g p = -5) ∧ bpF g n = (-5, 2000)) ∨ ∃ b v, 1 ≤ b ∧ b ≤ n ∧ v < 2001 ∧ g b = nI v ∧ bpF g n = (nI b, nI v) ∧ ∀ p u, 1 ≤ p → p ≤ n → u < 2001 → g p = nI u → v ≤ u ∧ (u = v → p ≤ b)
  | 0 => Or.inl ⟨fun p h1 h2 => by omega, rfl⟩
  | n + 1 => by
    have e : bpF g (n + 1) = if ¬ g (n + 1) = -5 ∧ g (n + 1) ≤ (bpF g n).2 then (nI (n + 1), g (n + 1)) else bpF g n := rfl
    rw [e]
    have h2000 : (2000 : Int32) = nI 2000 := by decide
    rcases hg (n + 1) with q | ⟨k, hk, q⟩
    · rw [if_neg (fun h => h.1 q)]
      rcases bp_spec hg n with ⟨h1, h2⟩ | ⟨b, v, h1, h2, h3, h4, h5, h6⟩
      · refine Or.inl ⟨fun p p1 p2 => ?_, h2⟩
        by_cases hp : p = n + 1
        · rw [hp]; exact q
        · exact h1 p p1 (by omega)
      · refine Or.inr ⟨b, v, h1, by omega, h3, h4, h5, fun p u p1 p2 p3 p4 => ?_⟩
        by_cases hp : p = n + 1
        · rw [hp, q] at p4; exact absurd p4.symm (nI_ne5 (by omega))
        · exact h6 p u p1 (by omega) p3 p4
    · have hn : ¬ g (n + 1) = -5 := by rw [q]; exact nI_ne5 (by omega)
      rcases bp_spec hg n with ⟨h1, h2⟩ | ⟨b, v, h1, h2, h3, h4, h5, h6⟩
      · rw [if_pos ⟨hn, by rw [h2, q]; show nI k ≤ 2000; rw [h2000]; exact (nI_leI (by omega) (by omega)).mpr (by omega)⟩, q]
        refine Or.inr ⟨n + 1, k, by omega, by omega, hk, q, rfl, fun p u p1 p2 p3 p4 => ?_⟩
        by_cases hp : p = n + 1
        · rw [hp, q] at p4
          have := (nI_eq (by omega) (by omega)).mp p4
          omega
        · have h7 := h1 p p1 (by omega)
          rw [h7] at p4
          exact absurd p4.symm (nI_ne5 (by omega))
      · by_cases hle : k ≤ v
        · rw [if_pos ⟨hn, by rw [h5, q]; exact (nI_leI (by omega) (by omega)).mpr hle⟩, q]
          refine Or.inr ⟨n + 1, k, by omega, by omega, hk, q, rfl, fun p u p1 p2 p3 p4 => ?_⟩
          by_cases hp : p = n + 1
          · rw [hp, q] at p4
            have := (nI_eq (by omega) (by omega)).mp p4
            omega
          · have h7 := h6 p u p1 (by omega) p3 p4
            omega
        · rw [if_neg (fun h => hle ((nI_leI (by omega) (by omega)).mp (by have h8 := h.2; rw [h5, q] at h8; exact h8)))]
          refine Or.inr ⟨b, v, h1, by omega, h3, h4, h5, fun p u p1 p2 p3 p4 => ?_⟩
          by_cases hp : p = n + 1
          · rw [hp, q] at p4
            have := (nI_eq (by omega) (by omega)).mp p4
            omega
          · exact h6 p u p1 (by omega) p3 p4
theorem bd_spec {g : Nat → Int32} (hg : ∀ p, g p = -5 ∨ ∃ k, k < 2001 ∧ g p = nI k) : ∀ n, n ≤ 9 → ((∀ p, 10 - n ≤ p → p ≤ 9 → g p = -5) ∧ bdF g n = (-5, 2001)) ∨ ∃ b v, 10 - n ≤ b ∧ b ≤ 9 ∧ v < 2001 ∧ g b = nI v ∧ bdF g n = (nI b, nI v) ∧ ∀ p u, 10 - n ≤ p → p ≤ 9 → u < 2001 → g p = nI u → v ≤ u ∧ (u = v → p ≤ b)
  | 0, _ => Or.inl ⟨fun p h1 h2 => by omega, rfl⟩
  | n + 1, hn9 => by
    have e : bdF g (n + 1) = if ¬ g (9 - n) = -5 ∧ g (9 - n) < (bdF g n).2 then (nI (9 - n), g (9 - n)) else bdF g n := rfl
    rw [e]
    have h2001 : (2001 : Int32) = nI 2001 := by decide
    rcases hg (9 - n) with q | ⟨k, hk, q⟩
    · rw [if_neg (fun h => h.1 q)]
      rcases bd_spec hg n (by omega) with ⟨h1, h2⟩ | ⟨b, v, h1, h2, h3, h4, h5, h6⟩
      · refine Or.inl ⟨fun p p1 p2 => ?_, h2⟩
        by_cases hp : p = 9 - n
        · rw [hp]; exact q
        · exact h1 p (by omega) p2
      · refine Or.inr ⟨b, v, by omega, h2, h3, h4, h5, fun p u p1 p2 p3 p4 => ?_⟩
        by_cases hp : p = 9 - n
        · rw [hp, q] at p4; exact absurd p4.symm (nI_ne5 (by omega))
        · exact h6 p u (by omega) p2 p3 p4
    · have hn : ¬ g (9 - n) = -5 := by rw [q]; exact nI_ne5 (by omega)
      rcases bd_spec hg n (by omega) with ⟨h1, h2⟩ | ⟨b, v, h1, h2, h3, h4, h5, h6⟩
      · rw [if_pos ⟨hn, by rw [h2, q]; show nI k < 2001; rw [h2001]; exact (nI_ltI (by omega) (by omega)).mpr (by omega)⟩, q]
        refine Or.inr ⟨9 - n, k, by omega, by omega, hk, q, rfl, fun p u p1 p2 p3 p4 => ?_⟩
        by_cases hp : p = 9 - n
        · rw [hp, q] at p4
          have := (nI_eq (by omega) (by omega)).mp p4
          omega
        · have h7 := h1 p (by omega) p2
          rw [h7] at p4
          exact absurd p4.symm (nI_ne5 (by omega))
      · by_cases hle : k < v
        · rw [if_pos ⟨hn, by rw [h5, q]; exact (nI_ltI (by omega) (by omega)).mpr hle⟩, q]
          refine Or.inr ⟨9 - n, k, by omega, by omega, hk, q, rfl, fun p u p1 p2 p3 p4 => ?_⟩
          by_cases hp : p = 9 - n
          · rw [hp, q] at p4
            have := (nI_eq (by omega) (by omega)).mp p4
            omega
          · have h7 := h6 p u (by omega) p2 p3 p4
            omega
        · rw [if_neg (fun h => hle ((nI_ltI (by omega) (by omega)).mp (by have h8 := h.2; rw [h5, q] at h8; exact h8)))]
          refine Or.inr ⟨b, v, by omega, h2, h3, h4, h5, fun p u p1 p2 p3 p4 => ?_⟩
          by_cases hp : p = 9 - n
          · rw [hp, q] at p4
            have := (nI_eq (by omega) (by omega)).mp p4
            omega
          · exact h6 p u (by omega) p2 p3 p4
theorem bd_bp {g : Nat → Int32} (hg : ∀ p, g p = -5 ∨ ∃ k, k < 2001 ∧ g p = nI k) : (bdF g 9).1 = (bpF g 9).1 := by
  rcases bd_spec hg 9 (Nat.le_refl 9) with ⟨h1, h2⟩ | ⟨b, v, h1, h2, h3, h4, h5, h6⟩ <;> rcases bp_spec hg 9 with ⟨k1, k2⟩ | ⟨b2, v2, k1, k2, k3, k4, k5, k6⟩
  · rw [h2, k2]
  · have := h1 b2 (by omega) k2
    rw [this] at k4
    exact absurd k4.symm (nI_ne5 (by omega))
  · have := k1 b (by omega) h2
    rw [this] at h4
    exact absurd h4.symm (nI_ne5 (by omega))
  · have a1 := h6 b2 v2 (by omega) k2 k3 k4
    have a2 := k6 b v (by omega) h2 h3 h4
    have e : b = b2 := by omega
    rw [h5, k5, e]
theorem bpG_rng (σ : AS) (w p : Nat) : bpG σ w p = -5 ∨ ∃ k, k < 2001 ∧ bpG σ w p = nI k := by
  rcases dnF_rng 2001 0 (up2 σ 0 (12 + w) p) with h | ⟨k, h1, h2⟩
  · exact Or.inl h
  · exact Or.inr ⟨k, by omega, h2⟩
theorem up2_self (σ : AS) (i k : Nat) : up2 σ i k (σ i k) = σ := by
  funext j q
  by_cases h : j = i ∧ q = k
  · rw [h.1, h.2, up2_at]
  · rw [up2_row h]

set_option maxHeartbeats 4000000 in
set_option maxRecDepth 100000 in
theorem ct_mBestN (l : Launch) (G : GT) (mo : Nat → Nat) (σ : AS) (kf tf H sf df xf : Nat → Nat) (hn ik tl sp rd : Nat) (gr : Int32) (x : Int32) (hx : ¬ (x = 0 ∨ x = 1)) : Ct (S := Unit) l G NoX yX6_bestPace (Wy yX6_bestPace cX6_bestPace 7 ((Option.some Jvm.ClassFile.FieldType.int))) { frames := 1, cells := 0, slots := 0, locals := 20 } [.ref (mo 0), .int x] (mdW G mo σ kf tf H sf df xf hn ik tl sp rd gr) (fun u => True) (fun u => some (.int (-1))) (fun u => mdW G mo σ kf tf H sf df xf hn ik tl sp rd gr) := by
  refine Ct.of (by decide) (Nat.le_of_ble_eq_true rfl) (fun p e s m args below meth c C hr hnm hX => ?_)
  refine J_iload_n C rfl dX6_bestPace_0 ?_
  refine J_callS (as := [.int x]) (rest := []) C (ct_mScrN l G x hx) (fun u => mdW G mo σ kf tf H sf df xf hn ik tl sp rd gr) [] [0, 1, 2, 3, 4, 5, 6, 7] 1 k683 k684 k38 k685 rfl (by decide +kernel) ⟨Nat.le_of_ble_eq_true rfl, Nat.le_of_ble_eq_true rfl⟩ ⟨Nat.le_of_ble_eq_true rfl, Nat.le_of_ble_eq_true rfl⟩ dX6_bestPace_1 (Nat.le_of_ble_eq_true rfl) rfl (by decide +kernel) (fun _ => rfl) (mdW G mo σ kf tf H sf df xf hn ik tl sp rd gr) rfl (fun _ => rfl) 8 (fun _ => rfl) (by decide +kernel) (by decide +kernel) (fun _ _ => ?_)
  refine J_st (st' := [.int 0]) rfl ?_
  refine J_if_ne C 9 (by decide) dX6_bestPace_4 (fun h => absurd h (by decide)) (fun _ => ?_)
  refine J_iconst C (-1) (by decide) dX6_bestPace_7 ?_
  exact J_zret C hr rfl dX6_bestPace_8 () rfl trivial rfl

set_option maxHeartbeats 4000000 in
set_option maxRecDepth 100000 in
theorem ct_mBestD0 (l : Launch) (G : GT) (mo : Nat → Nat) (σ : AS) (kf tf H sf df xf : Nat → Nat) (hn ik tl sp rd : Nat) (gr : Int32) (hI : Inv σ) (hdn : σ 0 4 ≤ σ 0 14 + σ 0 15) : Ct (S := Unit) l G NoX yX6_bestPace (Wy yX6_bestPace cX6_bestPace 7 ((Option.some Jvm.ClassFile.FieldType.int))) { frames := 1, cells := 0, slots := 0, locals := 20 } [.ref (mo 0), .int 0] (mdW G mo σ kf tf H sf df xf hn ik tl sp rd gr) (fun u => True) (fun u => some (.int (-5))) (fun u => mdW G mo σ kf tf H sf df xf hn ik tl sp rd gr) := by
  refine Ct.of (by decide) (Nat.le_of_ble_eq_true rfl) (fun p e s m args below meth c C hr hnm hX => ?_)
  refine J_iload_n C rfl dX6_bestPace_0 ?_
  refine J_callS (as := [.int 0]) (rest := []) C (ct_mScr0 l G ) (fun u => mdW G mo σ kf tf H sf df xf hn ik tl sp rd gr) [] [0, 1, 2, 3, 4, 5, 6, 7] 1 k683 k684 k38 k685 rfl (by decide +kernel) ⟨Nat.le_of_ble_eq_true rfl, Nat.le_of_ble_eq_true rfl⟩ ⟨Nat.le_of_ble_eq_true rfl, Nat.le_of_ble_eq_true rfl⟩ dX6_bestPace_1 (Nat.le_of_ble_eq_true rfl) rfl (by decide +kernel) (fun _ => rfl) (mdW G mo σ kf tf H sf df xf hn ik tl sp rd gr) rfl (fun _ => rfl) 8 (fun _ => rfl) (by decide +kernel) (by decide +kernel) (fun _ _ => ?_)
  refine J_st (st' := [.int 1]) rfl ?_
  refine J_if_ne C 9 (by decide) dX6_bestPace_4 (fun _ => ?_) (fun h => absurd h (by decide))
  refine J_aload_n C rfl dX6_bestPace_9 ?_
  refine J_callV (as := []) (rest := []) C (ct_mDone l G mo σ kf tf H sf df xf hn ik tl sp rd gr hI) (fun u => mdW G mo σ kf tf H sf df xf hn ik tl sp rd gr) [0, 1, 2, 3, 4, 5, 6, 7] [] 0 k780 k782 k29 k38 k783 rfl (by decide +kernel) ⟨Nat.le_of_ble_eq_true rfl, Nat.le_of_ble_eq_true rfl⟩ ⟨Nat.le_of_ble_eq_true rfl, Nat.le_of_ble_eq_true rfl⟩ dX6_bestPace_10 (Nat.le_of_ble_eq_true rfl) 0 rfl rfl rfl (by decide +kernel) (fun _ => rfl) ([]) rfl (fun _ => rfl) 8 (fun _ => rfl) (by decide +kernel) (by decide +kernel) (fun _ _ => ?_)
  refine J_st (st' := [.int (if σ 0 4 ≤ σ 0 14 + σ 0 15 then 1 else 0)]) rfl ?_
  refine J_if_eq C 19 (by decide) dX6_bestPace_13 (fun h => absurd h (fun q => by rw [if_pos (show σ 0 4 ≤ σ 0 14 + σ 0 15 from by first | assumption | omega)] at q; exact absurd q (by decide))) (fun _ => ?_)
  refine J_bipush C (-5) (by decide) dX6_bestPace_16 ?_
  exact J_zret C hr rfl dX6_bestPace_18 () rfl trivial rfl

set_option maxHeartbeats 4000000 in
set_option maxRecDepth 100000 in
theorem ct_mBest0 (l : Launch) (G : GT) (mo : Nat → Nat) (σ : AS) (kf tf H sf df xf : Nat → Nat) (hn ik tl sp rd : Nat) (gr : Int32) (hI : Inv σ) (ht : σ 0 3 ≤ 99999) (hdn : ¬ σ 0 4 ≤ σ 0 14 + σ 0 15) : Ct (S := Nat → Nat) l G NoX yX6_bestPace (Wy yX6_bestPace cX6_bestPace 7 ((Option.some Jvm.ClassFile.FieldType.int))) { frames := 6, cells := 0, slots := 0, locals := 127 } [.ref (mo 0), .int 0] (mdW G mo σ kf tf H sf df xf hn ik tl sp rd gr) (fun u => True) (fun u => some (.int ((bpF (bpG σ 0) 9).1))) (fun u => mdW G mo σ kf u H sf df xf hn ik tl sp rd gr) := by
  refine Ct.of (by decide) (Nat.le_of_ble_eq_true rfl) (fun p e s m args below meth c C hr hnm hX => ?_)
  have h40 := hI.a
  have hc := hI.c
  refine J_iload_n C rfl dX6_bestPace_0 ?_
  refine J_callS (as := [.int 0]) (rest := []) C (ct_mScr0 l G ) (fun u => mdW G mo σ kf tf H sf df xf hn ik tl sp rd gr) [] [0, 1, 2, 3, 4, 5, 6, 7] 1 k683 k684 k38 k685 rfl (by decide +kernel) ⟨Nat.le_of_ble_eq_true rfl, Nat.le_of_ble_eq_true rfl⟩ ⟨Nat.le_of_ble_eq_true rfl, Nat.le_of_ble_eq_true rfl⟩ dX6_bestPace_1 (Nat.le_of_ble_eq_true rfl) rfl (by decide +kernel) (fun _ => rfl) (mdW G mo σ kf tf H sf df xf hn ik tl sp rd gr) rfl (fun _ => rfl) 8 (fun _ => rfl) (by decide +kernel) (by decide +kernel) (fun _ _ => ?_)
  refine J_st (st' := [.int 1]) rfl ?_
  refine J_if_ne C 9 (by decide) dX6_bestPace_4 (fun _ => ?_) (fun h => absurd h (by decide))
  refine J_aload_n C rfl dX6_bestPace_9 ?_
  refine J_callV (as := []) (rest := []) C (ct_mDone l G mo σ kf tf H sf df xf hn ik tl sp rd gr hI) (fun u => mdW G mo σ kf tf H sf df xf hn ik tl sp rd gr) [0, 1, 2, 3, 4, 5, 6, 7] [] 0 k780 k782 k29 k38 k783 rfl (by decide +kernel) ⟨Nat.le_of_ble_eq_true rfl, Nat.le_of_ble_eq_true rfl⟩ ⟨Nat.le_of_ble_eq_true rfl, Nat.le_of_ble_eq_true rfl⟩ dX6_bestPace_10 (Nat.le_of_ble_eq_true rfl) 0 rfl rfl rfl (by decide +kernel) (fun _ => rfl) ([]) rfl (fun _ => rfl) 8 (fun _ => rfl) (by decide +kernel) (by decide +kernel) (fun _ _ => ?_)
  refine J_st (st' := [.int (if σ 0 4 ≤ σ 0 14 + σ 0 15 then 1 else 0)]) rfl ?_
  refine J_if_eq C 19 (by decide) dX6_bestPace_13 (fun _ => ?_) (fun h => absurd h (fun q => q (by rw [if_neg (show ¬ (σ 0 4 ≤ σ 0 14 + σ 0 15) from by first | assumption | omega)])))
  refine J_aload_n C rfl dX6_bestPace_19 ?_
  refine J_get C 0 0 in6 rfl rfl (by decide) k575 rfl dX6_bestPace_20 ?_
  refine J_bipush C 12 (by decide) dX6_bestPace_23 ?_
  refine J_iload_n C rfl dX6_bestPace_25 ?_
  refine J_iadd C dX6_bestPace_26 ?_
  refine J_i ((by decide) : (12 + 0 : Int32) = 12) ?_
  refine J_iald C 1 rfl 12 rfl (by decide) (Nat.le_of_ble_eq_true rfl) dX6_bestPace_27 ?_
  refine J_i (y := nI (σ 0 12)) (rfl) ?_
  refine J_istore_n C [(2, .int (nI (σ 0 12))), (0, .ref (mo 0)), (1, .int 0)] (by decide) rfl dX6_bestPace_28 ?_
  refine J_bipush C (-5) (by decide) dX6_bestPace_29 ?_
  refine J_istore_n C [(3, .int (-5)), (2, .int (nI (σ 0 12))), (0, .ref (mo 0)), (1, .int 0)] (by decide) rfl dX6_bestPace_31 ?_
  refine J_sipush C 2001 (by decide) dX6_bestPace_32 ?_
  refine J_istore C [(4, .int 2001), (3, .int (-5)), (2, .int (nI (σ 0 12))), (0, .ref (mo 0)), (1, .int 0)] (by decide) rfl dX6_bestPace_35 ?_
  refine J_bipush C 9 (by decide) dX6_bestPace_37 ?_
  refine J_istore C [(5, .int 9), (4, .int 2001), (3, .int (-5)), (2, .int (nI (σ 0 12))), (0, .ref (mo 0)), (1, .int 0)] (by decide) rfl dX6_bestPace_39 ?_
  refine J_lvp [4, 5, 3, 2, 1, 0] [(0, .ref (mo 0)), (1, .int 0), (2, .int (nI (σ 0 12))), (3, .int (-5)), (4, .int 2001), (5, .int 9)] rfl ?_
  refine J_loop (σ := Nat × Nat × (Nat → Nat)) (fun x => mdW G mo (up2 σ 0 12 x.2.1) kf x.2.2 H sf df xf hn ik tl sp rd gr) (fun x => [(0, .ref (mo 0)), (1, .int 0), (2, .int (nI (σ 0 12))), (3, .int (bdF (bpG σ 0) x.1).1), (4, .int (bdF (bpG σ 0) x.1).2), (5, .int (nI (9 - x.1)))]) (fun x => x.1 ≤ 9) (fun x => 9 - x.1) (fun x hx ih => ?_) (0, σ 0 12, tf) (Nat.zero_le _) (by rw [up2_self]) rfl
  refine J_iload C rfl dX6_bestPace_41 ?_
  refine J_if_le C 113 (by decide) dX6_bestPace_43 (fun c43 => ?_) (fun c43 => ?_)
  · skip
    have c43 := cv_le_t (a := (9 - x.1)) (b := 0) (by omega) (by omega) c43
    refine J_aload_n C rfl dX6_bestPace_113 ?_
    refine J_get C 0 0 in6 rfl rfl (by decide) k575 rfl dX6_bestPace_114 ?_
    refine J_bipush C 12 (by decide) dX6_bestPace_117 ?_
    refine J_iload_n C rfl dX6_bestPace_119 ?_
    refine J_iadd C dX6_bestPace_120 ?_
    refine J_i ((by decide) : (12 + 0 : Int32) = 12) ?_
    refine J_iload_n C rfl dX6_bestPace_121 ?_
    refine J_iast C 1 ([(mo 0, .inr (6, [.ref (mo 1), .ref (mo 2), .ref (mo 3), .ref (mo 4), .int (nI hn), .ref (mo 5), .int (nI ik), .ref (mo 6), .ref (mo 7), .int (nI tl), .int (nI sp), .int (nI rd), .int gr])), (mo 1, .inl (G.2.1, 246, .inl (upd (fun q => nI ((rowM (up2 σ 0 12 x.2.1)) q)) 12 (nI (σ 0 12))))), (mo 2, .inl (G.2.1, 246, .inl (fun q => nI (kf q)))), (mo 3, .inl (G.2.1, 246, .inl (fun q => nI (x.2.2 q)))), (mo 4, .inl (G.2.1, 984, .inl (fun q => nI (H q)))), (mo 5, .inl (G.2.1, 246, .inl (fun q => nI (sf q)))), (mo 6, .inl (G.2.1, 40, .inl (fun q => nI (df q)))), (mo 7, .inl (G.2.1, 60, .inl (fun q => nI (xf q))))]) rfl 12 rfl (by decide) (Nat.le_of_ble_eq_true rfl) rfl dX6_bestPace_122 ?_
    refine J_arr 1 (fun q => nI (rowM (up2 (up2 σ 0 12 x.2.1) 0 12 (σ 0 12)) q)) rfl (fun q _ => congrFun (rowM_u0 (up2 σ 0 12 x.2.1) (σ 0 12) (by decide) (by decide)) q) ?_
    refine J_ws (ws' := mdW G mo (up2 (up2 σ 0 12 x.2.1) 0 12 (σ 0 12)) kf x.2.2 H sf df xf hn ik tl sp rd gr) rfl ?_
    refine J_ws (ws' := mdW G mo σ kf x.2.2 H sf df xf hn ik tl sp rd gr) (by rw [up2_ss, up2_self]) ?_
    refine J_iload_n C rfl dX6_bestPace_123 ?_
    exact J_zret C hr rfl dX6_bestPace_124 x.2.2 (by rw [show x.1 = 9 from by omega, bd_bp (bpG_rng σ 0)]) trivial rfl
  · skip
    have c43 := cv_le_f (a := (9 - x.1)) (b := 0) (by omega) (by omega) c43
    refine J_aload_n C rfl dX6_bestPace_46 ?_
    refine J_get C 0 0 in6 rfl rfl (by decide) k575 rfl dX6_bestPace_47 ?_
    refine J_bipush C 12 (by decide) dX6_bestPace_50 ?_
    refine J_iload_n C rfl dX6_bestPace_52 ?_
    refine J_iadd C dX6_bestPace_53 ?_
    refine J_i ((by decide) : (12 + 0 : Int32) = 12) ?_
    refine J_iload C rfl dX6_bestPace_54 ?_
    refine J_iast C 1 ([(mo 0, .inr (6, [.ref (mo 1), .ref (mo 2), .ref (mo 3), .ref (mo 4), .int (nI hn), .ref (mo 5), .int (nI ik), .ref (mo 6), .ref (mo 7), .int (nI tl), .int (nI sp), .int (nI rd), .int gr])), (mo 1, .inl (G.2.1, 246, .inl (upd (fun q => nI ((rowM (up2 σ 0 12 x.2.1)) q)) 12 (nI (9 - x.1))))), (mo 2, .inl (G.2.1, 246, .inl (fun q => nI (kf q)))), (mo 3, .inl (G.2.1, 246, .inl (fun q => nI (x.2.2 q)))), (mo 4, .inl (G.2.1, 984, .inl (fun q => nI (H q)))), (mo 5, .inl (G.2.1, 246, .inl (fun q => nI (sf q)))), (mo 6, .inl (G.2.1, 40, .inl (fun q => nI (df q)))), (mo 7, .inl (G.2.1, 60, .inl (fun q => nI (xf q))))]) rfl 12 rfl (by decide) (Nat.le_of_ble_eq_true rfl) rfl dX6_bestPace_56 ?_
    refine J_arr 1 (fun q => nI (rowM (up2 (up2 σ 0 12 x.2.1) 0 12 (9 - x.1)) q)) rfl (fun q _ => congrFun (rowM_u0 (up2 σ 0 12 x.2.1) (9 - x.1) (by decide) (by decide)) q) ?_
    refine J_ws (ws' := mdW G mo (up2 (up2 σ 0 12 x.2.1) 0 12 (9 - x.1)) kf x.2.2 H sf df xf hn ik tl sp rd gr) rfl ?_
    refine J_ws (ws' := mdW G mo (up2 σ 0 12 (9 - x.1)) kf x.2.2 H sf df xf hn ik tl sp rd gr) (by rw [up2_ss]) ?_
    refine J_aload_n C rfl dX6_bestPace_57 ?_
    refine J_callV (as := []) (rest := []) C (ct_behind l G mo (up2 σ 0 12 (9 - x.1)) kf x.2.2 H sf df xf hn ik tl sp rd gr (hI.pace0 (by omega) (by omega)) ht) (fun u => mdW G mo (up2 σ 0 12 (9 - x.1)) kf (rowM (up2 σ 0 12 (9 - x.1))) H sf df xf hn ik tl sp rd gr) [0, 1, 2, 3, 4, 5, 6, 7] [] 0 k776 k778 k28 k38 k779 rfl (by decide +kernel) ⟨Nat.le_of_ble_eq_true rfl, Nat.le_of_ble_eq_true rfl⟩ ⟨Nat.le_of_ble_eq_true rfl, Nat.le_of_ble_eq_true rfl⟩ dX6_bestPace_58 (Nat.le_of_ble_eq_true rfl) 0 rfl rfl rfl (by decide +kernel) (fun _ => rfl) ([]) rfl (fun _ => rfl) 8 (fun _ => rfl) (by decide +kernel) (by decide +kernel) (fun _ _ => ?_)
    refine J_st (st' := [.int (dnF 2001 0 (up2 σ 0 12 (9 - x.1)))]) rfl ?_
    refine J_ws (ws' := mdW G mo (up2 σ 0 12 (9 - x.1)) kf (rowM (up2 σ 0 12 (9 - x.1))) H sf df xf hn ik tl sp rd gr) rfl ?_
    refine J_i (rfl : (dnF 2001 0 (up2 σ 0 12 (9 - x.1)) : Int32) = (bpG σ 0 (9 - x.1))) ?_
    refine J_istore C [(6, .int (bpG σ 0 (9 - x.1))), (0, .ref (mo 0)), (1, .int 0), (2, .int (nI (σ 0 12))), (3, .int ((bdF (bpG σ 0) x.1).1)), (4, .int ((bdF (bpG σ 0) x.1).2)), (5, .int (nI (9 - x.1)))] (by decide) rfl dX6_bestPace_61 ?_
    refine J_iload C rfl dX6_bestPace_63 ?_
    refine J_bipush C (-5) (by decide) dX6_bestPace_65 ?_
    refine J_icmp_eq C 82 (by decide) dX6_bestPace_67 (fun c67 => ?_) (fun c67 => ?_)
    · skip
      have hno : ¬ (¬ bpG σ 0 (9 - x.1) = -5 ∧ bpG σ 0 (9 - x.1) < (bdF (bpG σ 0) x.1).2) := fun q => q.1 c67
      refine J_iload_n C rfl dX6_bestPace_82 ?_
      refine J_istore_n C [(3, .int ((bdF (bpG σ 0) x.1).1)), (6, .int (bpG σ 0 (9 - x.1))), (0, .ref (mo 0)), (1, .int 0), (2, .int (nI (σ 0 12))), (4, .int ((bdF (bpG σ 0) x.1).2)), (5, .int (nI (9 - x.1)))] (by decide) rfl dX6_bestPace_83 ?_
      refine J_iload C rfl dX6_bestPace_84 ?_
      refine J_bipush C (-5) (by decide) dX6_bestPace_86 ?_
      refine J_icmp_eq C 103 (by decide) dX6_bestPace_88 (fun _ => ?_) (fun h => absurd h (fun q => q c67))
      refine J_iload C rfl dX6_bestPace_103 ?_
      refine J_istore C [(4, .int ((bdF (bpG σ 0) x.1).2)), (3, .int ((bdF (bpG σ 0) x.1).1)), (6, .int (bpG σ 0 (9 - x.1))), (0, .ref (mo 0)), (1, .int 0), (2, .int (nI (σ 0 12))), (5, .int (nI (9 - x.1)))] (by decide) rfl dX6_bestPace_105 ?_
      have hbd : bdF (bpG σ 0) (x.1 + 1) = bdF (bpG σ 0) x.1 := if_neg (fun q => hno q)
      refine J_lvp [0, 1, 2, 3, 4, 5, 6] [(4, .int ((bdF (bpG σ 0) (x.1 + 1)).2)), (3, .int ((bdF (bpG σ 0) (x.1 + 1)).1)), (6, .int (bpG σ 0 (9 - x.1))), (0, .ref (mo 0)), (1, .int 0), (2, .int (nI (σ 0 12))), (5, .int (nI (9 - x.1)))] (by rw [hbd] <;> rfl) ?_
      refine J_iinc C (nI (9 - (x.1 + 1))) [(5, .int (nI (9 - (x.1 + 1)))), (4, .int ((bdF (bpG σ 0) (x.1 + 1)).2)), (3, .int ((bdF (bpG σ 0) (x.1 + 1)).1)), (6, .int (bpG σ 0 (9 - x.1))), (0, .ref (mo 0)), (1, .int 0), (2, .int (nI (σ 0 12)))] 6 rfl (by rw [show 9 - x.1 = (9 - (x.1 + 1)) + 1 by omega]; exact pk_m1 _) (by decide) rfl dX6_bestPace_107 ?_
      refine J_goto C 41 (by decide) dX6_bestPace_110 ?_
      refine J_lvp [4, 5, 6, 2, 1, 0] [(0, .ref (mo 0)), (1, .int 0), (2, .int (nI (σ 0 12))), (3, .int ((bdF (bpG σ 0) (x.1 + 1)).1)), (4, .int ((bdF (bpG σ 0) (x.1 + 1)).2)), (5, .int (nI (9 - (x.1 + 1))))] rfl ?_
      exact ih (x.1 + 1, 9 - x.1, rowM (up2 σ 0 12 (9 - x.1))) (by show x.1 + 1 ≤ 9; omega) (by show 9 - (x.1 + 1) < 9 - x.1; omega)
    · skip
      have hn5 : ¬ bpG σ 0 (9 - x.1) = -5 := c67
      refine J_iload C rfl dX6_bestPace_70 ?_
      refine J_iload C rfl dX6_bestPace_72 ?_
      refine J_icmp_ge C 82 (by decide) dX6_bestPace_74 (fun c74 => ?_) (fun c74 => ?_)
      · skip
        have hno : ¬ (¬ bpG σ 0 (9 - x.1) = -5 ∧ bpG σ 0 (9 - x.1) < (bdF (bpG σ 0) x.1).2) := fun q => by have h1 := (fa_le _ _).mp c74; have h2 := (fa_lt _ _).mp q.2; omega
        refine J_iload_n C rfl dX6_bestPace_82 ?_
        refine J_istore_n C [(3, .int ((bdF (bpG σ 0) x.1).1)), (6, .int (bpG σ 0 (9 - x.1))), (0, .ref (mo 0)), (1, .int 0), (2, .int (nI (σ 0 12))), (4, .int ((bdF (bpG σ 0) x.1).2)), (5, .int (nI (9 - x.1)))] (by decide) rfl dX6_bestPace_83 ?_
        refine J_iload C rfl dX6_bestPace_84 ?_
        refine J_bipush C (-5) (by decide) dX6_bestPace_86 ?_
        refine J_icmp_eq C 103 (by decide) dX6_bestPace_88 (fun h => absurd h (hn5)) (fun _ => ?_)
        refine J_iload C rfl dX6_bestPace_91 ?_
        refine J_iload C rfl dX6_bestPace_93 ?_
        refine J_icmp_ge C 103 (by decide) dX6_bestPace_95 (fun _ => ?_) (fun h => absurd h (fun q => q c74))
        refine J_iload C rfl dX6_bestPace_103 ?_
        refine J_istore C [(4, .int ((bdF (bpG σ 0) x.1).2)), (3, .int ((bdF (bpG σ 0) x.1).1)), (6, .int (bpG σ 0 (9 - x.1))), (0, .ref (mo 0)), (1, .int 0), (2, .int (nI (σ 0 12))), (5, .int (nI (9 - x.1)))] (by decide) rfl dX6_bestPace_105 ?_
        have hbd : bdF (bpG σ 0) (x.1 + 1) = bdF (bpG σ 0) x.1 := if_neg (fun q => hno q)
        refine J_lvp [0, 1, 2, 3, 4, 5, 6] [(4, .int ((bdF (bpG σ 0) (x.1 + 1)).2)), (3, .int ((bdF (bpG σ 0) (x.1 + 1)).1)), (6, .int (bpG σ 0 (9 - x.1))), (0, .ref (mo 0)), (1, .int 0), (2, .int (nI (σ 0 12))), (5, .int (nI (9 - x.1)))] (by rw [hbd] <;> rfl) ?_
        refine J_iinc C (nI (9 - (x.1 + 1))) [(5, .int (nI (9 - (x.1 + 1)))), (4, .int ((bdF (bpG σ 0) (x.1 + 1)).2)), (3, .int ((bdF (bpG σ 0) (x.1 + 1)).1)), (6, .int (bpG σ 0 (9 - x.1))), (0, .ref (mo 0)), (1, .int 0), (2, .int (nI (σ 0 12)))] 6 rfl (by rw [show 9 - x.1 = (9 - (x.1 + 1)) + 1 by omega]; exact pk_m1 _) (by decide) rfl dX6_bestPace_107 ?_
        refine J_goto C 41 (by decide) dX6_bestPace_110 ?_
        refine J_lvp [4, 5, 6, 2, 1, 0] [(0, .ref (mo 0)), (1, .int 0), (2, .int (nI (σ 0 12))), (3, .int ((bdF (bpG σ 0) (x.1 + 1)).1)), (4, .int ((bdF (bpG σ 0) (x.1 + 1)).2)), (5, .int (nI (9 - (x.1 + 1))))] rfl ?_
        exact ih (x.1 + 1, 9 - x.1, rowM (up2 σ 0 12 (9 - x.1))) (by show x.1 + 1 ≤ 9; omega) (by show 9 - (x.1 + 1) < 9 - x.1; omega)
      · skip
        have hle : bpG σ 0 (9 - x.1) < (bdF (bpG σ 0) x.1).2 := by rw [fa_le] at c74; rw [fa_lt]; omega
        refine J_iload C rfl dX6_bestPace_77 ?_
        refine J_goto C 83 (by decide) dX6_bestPace_79 ?_
        refine J_istore_n C [(3, .int (nI (9 - x.1))), (6, .int (bpG σ 0 (9 - x.1))), (0, .ref (mo 0)), (1, .int 0), (2, .int (nI (σ 0 12))), (4, .int ((bdF (bpG σ 0) x.1).2)), (5, .int (nI (9 - x.1)))] (by decide) rfl dX6_bestPace_83 ?_
        refine J_iload C rfl dX6_bestPace_84 ?_
        refine J_bipush C (-5) (by decide) dX6_bestPace_86 ?_
        refine J_icmp_eq C 103 (by decide) dX6_bestPace_88 (fun h => absurd h (hn5)) (fun _ => ?_)
        refine J_iload C rfl dX6_bestPace_91 ?_
        refine J_iload C rfl dX6_bestPace_93 ?_
        refine J_icmp_ge C 103 (by decide) dX6_bestPace_95 (fun h => absurd h (c74)) (fun _ => ?_)
        refine J_iload C rfl dX6_bestPace_98 ?_
        refine J_goto C 105 (by decide) dX6_bestPace_100 ?_
        refine J_istore C [(4, .int (bpG σ 0 (9 - x.1))), (3, .int (nI (9 - x.1))), (6, .int (bpG σ 0 (9 - x.1))), (0, .ref (mo 0)), (1, .int 0), (2, .int (nI (σ 0 12))), (5, .int (nI (9 - x.1)))] (by decide) rfl dX6_bestPace_105 ?_
        have hbd : bdF (bpG σ 0) (x.1 + 1) = (nI (9 - x.1), bpG σ 0 (9 - x.1)) := if_pos ⟨hn5, hle⟩
        refine J_lvp [0, 1, 2, 3, 4, 5, 6] [(4, .int ((bdF (bpG σ 0) (x.1 + 1)).2)), (3, .int ((bdF (bpG σ 0) (x.1 + 1)).1)), (6, .int (bpG σ 0 (9 - x.1))), (0, .ref (mo 0)), (1, .int 0), (2, .int (nI (σ 0 12))), (5, .int (nI (9 - x.1)))] (by rw [hbd] <;> rfl) ?_
        refine J_iinc C (nI (9 - (x.1 + 1))) [(5, .int (nI (9 - (x.1 + 1)))), (4, .int ((bdF (bpG σ 0) (x.1 + 1)).2)), (3, .int ((bdF (bpG σ 0) (x.1 + 1)).1)), (6, .int (bpG σ 0 (9 - x.1))), (0, .ref (mo 0)), (1, .int 0), (2, .int (nI (σ 0 12)))] 6 rfl (by rw [show 9 - x.1 = (9 - (x.1 + 1)) + 1 by omega]; exact pk_m1 _) (by decide) rfl dX6_bestPace_107 ?_
        refine J_goto C 41 (by decide) dX6_bestPace_110 ?_
        refine J_lvp [4, 5, 6, 2, 1, 0] [(0, .ref (mo 0)), (1, .int 0), (2, .int (nI (σ 0 12))), (3, .int ((bdF (bpG σ 0) (x.1 + 1)).1)), (4, .int ((bdF (bpG σ 0) (x.1 + 1)).2)), (5, .int (nI (9 - (x.1 + 1))))] rfl ?_
        exact ih (x.1 + 1, 9 - x.1, rowM (up2 σ 0 12 (9 - x.1))) (by show x.1 + 1 ≤ 9; omega) (by show 9 - (x.1 + 1) < 9 - x.1; omega)

set_option maxHeartbeats 4000000 in
set_option maxRecDepth 100000 in
theorem ct_mBestD1 (l : Launch) (G : GT) (mo : Nat → Nat) (σ : AS) (kf tf H sf df xf : Nat → Nat) (hn ik tl sp rd : Nat) (gr : Int32) (hI : Inv σ) (hdn : σ 0 4 ≤ σ 0 14 + σ 0 15) : Ct (S := Unit) l G NoX yX6_bestPace (Wy yX6_bestPace cX6_bestPace 7 ((Option.some Jvm.ClassFile.FieldType.int))) { frames := 1, cells := 0, slots := 0, locals := 20 } [.ref (mo 0), .int 1] (mdW G mo σ kf tf H sf df xf hn ik tl sp rd gr) (fun u => True) (fun u => some (.int (-5))) (fun u => mdW G mo σ kf tf H sf df xf hn ik tl sp rd gr) := by
  refine Ct.of (by decide) (Nat.le_of_ble_eq_true rfl) (fun p e s m args below meth c C hr hnm hX => ?_)
  refine J_iload_n C rfl dX6_bestPace_0 ?_
  refine J_callS (as := [.int 1]) (rest := []) C (ct_mScr1 l G ) (fun u => mdW G mo σ kf tf H sf df xf hn ik tl sp rd gr) [] [0, 1, 2, 3, 4, 5, 6, 7] 1 k683 k684 k38 k685 rfl (by decide +kernel) ⟨Nat.le_of_ble_eq_true rfl, Nat.le_of_ble_eq_true rfl⟩ ⟨Nat.le_of_ble_eq_true rfl, Nat.le_of_ble_eq_true rfl⟩ dX6_bestPace_1 (Nat.le_of_ble_eq_true rfl) rfl (by decide +kernel) (fun _ => rfl) (mdW G mo σ kf tf H sf df xf hn ik tl sp rd gr) rfl (fun _ => rfl) 8 (fun _ => rfl) (by decide +kernel) (by decide +kernel) (fun _ _ => ?_)
  refine J_st (st' := [.int 1]) rfl ?_
  refine J_if_ne C 9 (by decide) dX6_bestPace_4 (fun _ => ?_) (fun h => absurd h (by decide))
  refine J_aload_n C rfl dX6_bestPace_9 ?_
  refine J_callV (as := []) (rest := []) C (ct_mDone l G mo σ kf tf H sf df xf hn ik tl sp rd gr hI) (fun u => mdW G mo σ kf tf H sf df xf hn ik tl sp rd gr) [0, 1, 2, 3, 4, 5, 6, 7] [] 0 k780 k782 k29 k38 k783 rfl (by decide +kernel) ⟨Nat.le_of_ble_eq_true rfl, Nat.le_of_ble_eq_true rfl⟩ ⟨Nat.le_of_ble_eq_true rfl, Nat.le_of_ble_eq_true rfl⟩ dX6_bestPace_10 (Nat.le_of_ble_eq_true rfl) 0 rfl rfl rfl (by decide +kernel) (fun _ => rfl) ([]) rfl (fun _ => rfl) 8 (fun _ => rfl) (by decide +kernel) (by decide +kernel) (fun _ _ => ?_)
  refine J_st (st' := [.int (if σ 0 4 ≤ σ 0 14 + σ 0 15 then 1 else 0)]) rfl ?_
  refine J_if_eq C 19 (by decide) dX6_bestPace_13 (fun h => absurd h (fun q => by rw [if_pos (show σ 0 4 ≤ σ 0 14 + σ 0 15 from by first | assumption | omega)] at q; exact absurd q (by decide))) (fun _ => ?_)
  refine J_bipush C (-5) (by decide) dX6_bestPace_16 ?_
  exact J_zret C hr rfl dX6_bestPace_18 () rfl trivial rfl

set_option maxHeartbeats 4000000 in
set_option maxRecDepth 100000 in
theorem ct_mBest1 (l : Launch) (G : GT) (mo : Nat → Nat) (σ : AS) (kf tf H sf df xf : Nat → Nat) (hn ik tl sp rd : Nat) (gr : Int32) (hI : Inv σ) (ht : σ 0 3 ≤ 99999) (hdn : ¬ σ 0 4 ≤ σ 0 14 + σ 0 15) : Ct (S := Nat → Nat) l G NoX yX6_bestPace (Wy yX6_bestPace cX6_bestPace 7 ((Option.some Jvm.ClassFile.FieldType.int))) { frames := 6, cells := 0, slots := 0, locals := 127 } [.ref (mo 0), .int 1] (mdW G mo σ kf tf H sf df xf hn ik tl sp rd gr) (fun u => True) (fun u => some (.int ((bpF (bpG σ 1) 9).1))) (fun u => mdW G mo σ kf u H sf df xf hn ik tl sp rd gr) := by
  refine Ct.of (by decide) (Nat.le_of_ble_eq_true rfl) (fun p e s m args below meth c C hr hnm hX => ?_)
  have h40 := hI.a
  have hc := hI.c
  refine J_iload_n C rfl dX6_bestPace_0 ?_
  refine J_callS (as := [.int 1]) (rest := []) C (ct_mScr1 l G ) (fun u => mdW G mo σ kf tf H sf df xf hn ik tl sp rd gr) [] [0, 1, 2, 3, 4, 5, 6, 7] 1 k683 k684 k38 k685 rfl (by decide +kernel) ⟨Nat.le_of_ble_eq_true rfl, Nat.le_of_ble_eq_true rfl⟩ ⟨Nat.le_of_ble_eq_true rfl, Nat.le_of_ble_eq_true rfl⟩ dX6_bestPace_1 (Nat.le_of_ble_eq_true rfl) rfl (by decide +kernel) (fun _ => rfl) (mdW G mo σ kf tf H sf df xf hn ik tl sp rd gr) rfl (fun _ => rfl) 8 (fun _ => rfl) (by decide +kernel) (by decide +kernel) (fun _ _ => ?_)
  refine J_st (st' := [.int 1]) rfl ?_
  refine J_if_ne C 9 (by decide) dX6_bestPace_4 (fun _ => ?_) (fun h => absurd h (by decide))
  refine J_aload_n C rfl dX6_bestPace_9 ?_
  refine J_callV (as := []) (rest := []) C (ct_mDone l G mo σ kf tf H sf df xf hn ik tl sp rd gr hI) (fun u => mdW G mo σ kf tf H sf df xf hn ik tl sp rd gr) [0, 1, 2, 3, 4, 5, 6, 7] [] 0 k780 k782 k29 k38 k783 rfl (by decide +kernel) ⟨Nat.le_of_ble_eq_true rfl, Nat.le_of_ble_eq_true rfl⟩ ⟨Nat.le_of_ble_eq_true rfl, Nat.le_of_ble_eq_true rfl⟩ dX6_bestPace_10 (Nat.le_of_ble_eq_true rfl) 0 rfl rfl rfl (by decide +kernel) (fun _ => rfl) ([]) rfl (fun _ => rfl) 8 (fun _ => rfl) (by decide +kernel) (by decide +kernel) (fun _ _ => ?_)
  refine J_st (st' := [.int (if σ 0 4 ≤ σ 0 14 + σ 0 15 then 1 else 0)]) rfl ?_
  refine J_if_eq C 19 (by decide) dX6_bestPace_13 (fun _ => ?_) (fun h => absurd h (fun q => q (by rw [if_neg (show ¬ (σ 0 4 ≤ σ 0 14 + σ 0 15) from by first | assumption | omega)])))
  refine J_aload_n C rfl dX6_bestPace_19 ?_
  refine J_get C 0 0 in6 rfl rfl (by decide) k575 rfl dX6_bestPace_20 ?_
  refine J_bipush C 12 (by decide) dX6_bestPace_23 ?_
  refine J_iload_n C rfl dX6_bestPace_25 ?_
  refine J_iadd C dX6_bestPace_26 ?_
  refine J_i ((by decide) : (12 + 1 : Int32) = 13) ?_
  refine J_iald C 1 rfl 13 rfl (by decide) (Nat.le_of_ble_eq_true rfl) dX6_bestPace_27 ?_
  refine J_i (y := nI (σ 0 13)) (rfl) ?_
  refine J_istore_n C [(2, .int (nI (σ 0 13))), (0, .ref (mo 0)), (1, .int 1)] (by decide) rfl dX6_bestPace_28 ?_
  refine J_bipush C (-5) (by decide) dX6_bestPace_29 ?_
  refine J_istore_n C [(3, .int (-5)), (2, .int (nI (σ 0 13))), (0, .ref (mo 0)), (1, .int 1)] (by decide) rfl dX6_bestPace_31 ?_
  refine J_sipush C 2001 (by decide) dX6_bestPace_32 ?_
  refine J_istore C [(4, .int 2001), (3, .int (-5)), (2, .int (nI (σ 0 13))), (0, .ref (mo 0)), (1, .int 1)] (by decide) rfl dX6_bestPace_35 ?_
  refine J_bipush C 9 (by decide) dX6_bestPace_37 ?_
  refine J_istore C [(5, .int 9), (4, .int 2001), (3, .int (-5)), (2, .int (nI (σ 0 13))), (0, .ref (mo 0)), (1, .int 1)] (by decide) rfl dX6_bestPace_39 ?_
  refine J_lvp [4, 5, 3, 2, 1, 0] [(0, .ref (mo 0)), (1, .int 1), (2, .int (nI (σ 0 13))), (3, .int (-5)), (4, .int 2001), (5, .int 9)] rfl ?_
  refine J_loop (σ := Nat × Nat × (Nat → Nat)) (fun x => mdW G mo (up2 σ 0 13 x.2.1) kf x.2.2 H sf df xf hn ik tl sp rd gr) (fun x => [(0, .ref (mo 0)), (1, .int 1), (2, .int (nI (σ 0 13))), (3, .int (bdF (bpG σ 1) x.1).1), (4, .int (bdF (bpG σ 1) x.1).2), (5, .int (nI (9 - x.1)))]) (fun x => x.1 ≤ 9) (fun x => 9 - x.1) (fun x hx ih => ?_) (0, σ 0 13, tf) (Nat.zero_le _) (by rw [up2_self]) rfl
  refine J_iload C rfl dX6_bestPace_41 ?_
  refine J_if_le C 113 (by decide) dX6_bestPace_43 (fun c43 => ?_) (fun c43 => ?_)
  · skip
    have c43 := cv_le_t (a := (9 - x.1)) (b := 0) (by omega) (by omega) c43
    refine J_aload_n C rfl dX6_bestPace_113 ?_
    refine J_get C 0 0 in6 rfl rfl (by decide) k575 rfl dX6_bestPace_114 ?_
    refine J_bipush C 12 (by decide) dX6_bestPace_117 ?_
    refine J_iload_n C rfl dX6_bestPace_119 ?_
    refine J_iadd C dX6_bestPace_120 ?_
    refine J_i ((by decide) : (12 + 1 : Int32) = 13) ?_
    refine J_iload_n C rfl dX6_bestPace_121 ?_
    refine J_iast C 1 ([(mo 0, .inr (6, [.ref (mo 1), .ref (mo 2), .ref (mo 3), .ref (mo 4), .int (nI hn), .ref (mo 5), .int (nI ik), .ref (mo 6), .ref (mo 7), .int (nI tl), .int (nI sp), .int (nI rd), .int gr])), (mo 1, .inl (G.2.1, 246, .inl (upd (fun q => nI ((rowM (up2 σ 0 13 x.2.1)) q)) 13 (nI (σ 0 13))))), (mo 2, .inl (G.2.1, 246, .inl (fun q => nI (kf q)))), (mo 3, .inl (G.2.1, 246, .inl (fun q => nI (x.2.2 q)))), (mo 4, .inl (G.2.1, 984, .inl (fun q => nI (H q)))), (mo 5, .inl (G.2.1, 246, .inl (fun q => nI (sf q)))), (mo 6, .inl (G.2.1, 40, .inl (fun q => nI (df q)))), (mo 7, .inl (G.2.1, 60, .inl (fun q => nI (xf q))))]) rfl 13 rfl (by decide) (Nat.le_of_ble_eq_true rfl) rfl dX6_bestPace_122 ?_
    refine J_arr 1 (fun q => nI (rowM (up2 (up2 σ 0 13 x.2.1) 0 13 (σ 0 13)) q)) rfl (fun q _ => congrFun (rowM_u0 (up2 σ 0 13 x.2.1) (σ 0 13) (by decide) (by decide)) q) ?_
    refine J_ws (ws' := mdW G mo (up2 (up2 σ 0 13 x.2.1) 0 13 (σ 0 13)) kf x.2.2 H sf df xf hn ik tl sp rd gr) rfl ?_
    refine J_ws (ws' := mdW G mo σ kf x.2.2 H sf df xf hn ik tl sp rd gr) (by rw [up2_ss, up2_self]) ?_
    refine J_iload_n C rfl dX6_bestPace_123 ?_
    exact J_zret C hr rfl dX6_bestPace_124 x.2.2 (by rw [show x.1 = 9 from by omega, bd_bp (bpG_rng σ 1)]) trivial rfl
  · skip
    have c43 := cv_le_f (a := (9 - x.1)) (b := 0) (by omega) (by omega) c43
    refine J_aload_n C rfl dX6_bestPace_46 ?_
    refine J_get C 0 0 in6 rfl rfl (by decide) k575 rfl dX6_bestPace_47 ?_
    refine J_bipush C 12 (by decide) dX6_bestPace_50 ?_
    refine J_iload_n C rfl dX6_bestPace_52 ?_
    refine J_iadd C dX6_bestPace_53 ?_
    refine J_i ((by decide) : (12 + 1 : Int32) = 13) ?_
    refine J_iload C rfl dX6_bestPace_54 ?_
    refine J_iast C 1 ([(mo 0, .inr (6, [.ref (mo 1), .ref (mo 2), .ref (mo 3), .ref (mo 4), .int (nI hn), .ref (mo 5), .int (nI ik), .ref (mo 6), .ref (mo 7), .int (nI tl), .int (nI sp), .int (nI rd), .int gr])), (mo 1, .inl (G.2.1, 246, .inl (upd (fun q => nI ((rowM (up2 σ 0 13 x.2.1)) q)) 13 (nI (9 - x.1))))), (mo 2, .inl (G.2.1, 246, .inl (fun q => nI (kf q)))), (mo 3, .inl (G.2.1, 246, .inl (fun q => nI (x.2.2 q)))), (mo 4, .inl (G.2.1, 984, .inl (fun q => nI (H q)))), (mo 5, .inl (G.2.1, 246, .inl (fun q => nI (sf q)))), (mo 6, .inl (G.2.1, 40, .inl (fun q => nI (df q)))), (mo 7, .inl (G.2.1, 60, .inl (fun q => nI (xf q))))]) rfl 13 rfl (by decide) (Nat.le_of_ble_eq_true rfl) rfl dX6_bestPace_56 ?_
    refine J_arr 1 (fun q => nI (rowM (up2 (up2 σ 0 13 x.2.1) 0 13 (9 - x.1)) q)) rfl (fun q _ => congrFun (rowM_u0 (up2 σ 0 13 x.2.1) (9 - x.1) (by decide) (by decide)) q) ?_
    refine J_ws (ws' := mdW G mo (up2 (up2 σ 0 13 x.2.1) 0 13 (9 - x.1)) kf x.2.2 H sf df xf hn ik tl sp rd gr) rfl ?_
    refine J_ws (ws' := mdW G mo (up2 σ 0 13 (9 - x.1)) kf x.2.2 H sf df xf hn ik tl sp rd gr) (by rw [up2_ss]) ?_
    refine J_aload_n C rfl dX6_bestPace_57 ?_
    refine J_callV (as := []) (rest := []) C (ct_behind l G mo (up2 σ 0 13 (9 - x.1)) kf x.2.2 H sf df xf hn ik tl sp rd gr (hI.pace1 (by omega) (by omega)) ht) (fun u => mdW G mo (up2 σ 0 13 (9 - x.1)) kf (rowM (up2 σ 0 13 (9 - x.1))) H sf df xf hn ik tl sp rd gr) [0, 1, 2, 3, 4, 5, 6, 7] [] 0 k776 k778 k28 k38 k779 rfl (by decide +kernel) ⟨Nat.le_of_ble_eq_true rfl, Nat.le_of_ble_eq_true rfl⟩ ⟨Nat.le_of_ble_eq_true rfl, Nat.le_of_ble_eq_true rfl⟩ dX6_bestPace_58 (Nat.le_of_ble_eq_true rfl) 0 rfl rfl rfl (by decide +kernel) (fun _ => rfl) ([]) rfl (fun _ => rfl) 8 (fun _ => rfl) (by decide +kernel) (by decide +kernel) (fun _ _ => ?_)
    refine J_st (st' := [.int (dnF 2001 0 (up2 σ 0 13 (9 - x.1)))]) rfl ?_
    refine J_ws (ws' := mdW G mo (up2 σ 0 13 (9 - x.1)) kf (rowM (up2 σ 0 13 (9 - x.1))) H sf df xf hn ik tl sp rd gr) rfl ?_
    refine J_i (rfl : (dnF 2001 0 (up2 σ 0 13 (9 - x.1)) : Int32) = (bpG σ 1 (9 - x.1))) ?_
    refine J_istore C [(6, .int (bpG σ 1 (9 - x.1))), (0, .ref (mo 0)), (1, .int 1), (2, .int (nI (σ 0 13))), (3, .int ((bdF (bpG σ 1) x.1).1)), (4, .int ((bdF (bpG σ 1) x.1).2)), (5, .int (nI (9 - x.1)))] (by decide) rfl dX6_bestPace_61 ?_
    refine J_iload C rfl dX6_bestPace_63 ?_
    refine J_bipush C (-5) (by decide) dX6_bestPace_65 ?_
    refine J_icmp_eq C 82 (by decide) dX6_bestPace_67 (fun c67 => ?_) (fun c67 => ?_)
    · skip
      have hno : ¬ (¬ bpG σ 1 (9 - x.1) = -5 ∧ bpG σ 1 (9 - x.1) < (bdF (bpG σ 1) x.1).2) := fun q => q.1 c67
      refine J_iload_n C rfl dX6_bestPace_82 ?_
      refine J_istore_n C [(3, .int ((bdF (bpG σ 1) x.1).1)), (6, .int (bpG σ 1 (9 - x.1))), (0, .ref (mo 0)), (1, .int 1), (2, .int (nI (σ 0 13))), (4, .int ((bdF (bpG σ 1) x.1).2)), (5, .int (nI (9 - x.1)))] (by decide) rfl dX6_bestPace_83 ?_
      refine J_iload C rfl dX6_bestPace_84 ?_
      refine J_bipush C (-5) (by decide) dX6_bestPace_86 ?_
      refine J_icmp_eq C 103 (by decide) dX6_bestPace_88 (fun _ => ?_) (fun h => absurd h (fun q => q c67))
      refine J_iload C rfl dX6_bestPace_103 ?_
      refine J_istore C [(4, .int ((bdF (bpG σ 1) x.1).2)), (3, .int ((bdF (bpG σ 1) x.1).1)), (6, .int (bpG σ 1 (9 - x.1))), (0, .ref (mo 0)), (1, .int 1), (2, .int (nI (σ 0 13))), (5, .int (nI (9 - x.1)))] (by decide) rfl dX6_bestPace_105 ?_
      have hbd : bdF (bpG σ 1) (x.1 + 1) = bdF (bpG σ 1) x.1 := if_neg (fun q => hno q)
      refine J_lvp [0, 1, 2, 3, 4, 5, 6] [(4, .int ((bdF (bpG σ 1) (x.1 + 1)).2)), (3, .int ((bdF (bpG σ 1) (x.1 + 1)).1)), (6, .int (bpG σ 1 (9 - x.1))), (0, .ref (mo 0)), (1, .int 1), (2, .int (nI (σ 0 13))), (5, .int (nI (9 - x.1)))] (by rw [hbd] <;> rfl) ?_
      refine J_iinc C (nI (9 - (x.1 + 1))) [(5, .int (nI (9 - (x.1 + 1)))), (4, .int ((bdF (bpG σ 1) (x.1 + 1)).2)), (3, .int ((bdF (bpG σ 1) (x.1 + 1)).1)), (6, .int (bpG σ 1 (9 - x.1))), (0, .ref (mo 0)), (1, .int 1), (2, .int (nI (σ 0 13)))] 6 rfl (by rw [show 9 - x.1 = (9 - (x.1 + 1)) + 1 by omega]; exact pk_m1 _) (by decide) rfl dX6_bestPace_107 ?_
      refine J_goto C 41 (by decide) dX6_bestPace_110 ?_
      refine J_lvp [4, 5, 6, 2, 1, 0] [(0, .ref (mo 0)), (1, .int 1), (2, .int (nI (σ 0 13))), (3, .int ((bdF (bpG σ 1) (x.1 + 1)).1)), (4, .int ((bdF (bpG σ 1) (x.1 + 1)).2)), (5, .int (nI (9 - (x.1 + 1))))] rfl ?_
      exact ih (x.1 + 1, 9 - x.1, rowM (up2 σ 0 13 (9 - x.1))) (by show x.1 + 1 ≤ 9; omega) (by show 9 - (x.1 + 1) < 9 - x.1; omega)
    · skip
      have hn5 : ¬ bpG σ 1 (9 - x.1) = -5 := c67
      refine J_iload C rfl dX6_bestPace_70 ?_
      refine J_iload C rfl dX6_bestPace_72 ?_
      refine J_icmp_ge C 82 (by decide) dX6_bestPace_74 (fun c74 => ?_) (fun c74 => ?_)
      · skip
        have hno : ¬ (¬ bpG σ 1 (9 - x.1) = -5 ∧ bpG σ 1 (9 - x.1) < (bdF (bpG σ 1) x.1).2) := fun q => by have h1 := (fa_le _ _).mp c74; have h2 := (fa_lt _ _).mp q.2; omega
        refine J_iload_n C rfl dX6_bestPace_82 ?_
        refine J_istore_n C [(3, .int ((bdF (bpG σ 1) x.1).1)), (6, .int (bpG σ 1 (9 - x.1))), (0, .ref (mo 0)), (1, .int 1), (2, .int (nI (σ 0 13))), (4, .int ((bdF (bpG σ 1) x.1).2)), (5, .int (nI (9 - x.1)))] (by decide) rfl dX6_bestPace_83 ?_
        refine J_iload C rfl dX6_bestPace_84 ?_
        refine J_bipush C (-5) (by decide) dX6_bestPace_86 ?_
        refine J_icmp_eq C 103 (by decide) dX6_bestPace_88 (fun h => absurd h (hn5)) (fun _ => ?_)
        refine J_iload C rfl dX6_bestPace_91 ?_
        refine J_iload C rfl dX6_bestPace_93 ?_
        refine J_icmp_ge C 103 (by decide) dX6_bestPace_95 (fun _ => ?_) (fun h => absurd h (fun q => q c74))
        refine J_iload C rfl dX6_bestPace_103 ?_
        refine J_istore C [(4, .int ((bdF (bpG σ 1) x.1).2)), (3, .int ((bdF (bpG σ 1) x.1).1)), (6, .int (bpG σ 1 (9 - x.1))), (0, .ref (mo 0)), (1, .int 1), (2, .int (nI (σ 0 13))), (5, .int (nI (9 - x.1)))] (by decide) rfl dX6_bestPace_105 ?_
        have hbd : bdF (bpG σ 1) (x.1 + 1) = bdF (bpG σ 1) x.1 := if_neg (fun q => hno q)
        refine J_lvp [0, 1, 2, 3, 4, 5, 6] [(4, .int ((bdF (bpG σ 1) (x.1 + 1)).2)), (3, .int ((bdF (bpG σ 1) (x.1 + 1)).1)), (6, .int (bpG σ 1 (9 - x.1))), (0, .ref (mo 0)), (1, .int 1), (2, .int (nI (σ 0 13))), (5, .int (nI (9 - x.1)))] (by rw [hbd] <;> rfl) ?_
        refine J_iinc C (nI (9 - (x.1 + 1))) [(5, .int (nI (9 - (x.1 + 1)))), (4, .int ((bdF (bpG σ 1) (x.1 + 1)).2)), (3, .int ((bdF (bpG σ 1) (x.1 + 1)).1)), (6, .int (bpG σ 1 (9 - x.1))), (0, .ref (mo 0)), (1, .int 1), (2, .int (nI (σ 0 13)))] 6 rfl (by rw [show 9 - x.1 = (9 - (x.1 + 1)) + 1 by omega]; exact pk_m1 _) (by decide) rfl dX6_bestPace_107 ?_
        refine J_goto C 41 (by decide) dX6_bestPace_110 ?_
        refine J_lvp [4, 5, 6, 2, 1, 0] [(0, .ref (mo 0)), (1, .int 1), (2, .int (nI (σ 0 13))), (3, .int ((bdF (bpG σ 1) (x.1 + 1)).1)), (4, .int ((bdF (bpG σ 1) (x.1 + 1)).2)), (5, .int (nI (9 - (x.1 + 1))))] rfl ?_
        exact ih (x.1 + 1, 9 - x.1, rowM (up2 σ 0 13 (9 - x.1))) (by show x.1 + 1 ≤ 9; omega) (by show 9 - (x.1 + 1) < 9 - x.1; omega)
      · skip
        have hle : bpG σ 1 (9 - x.1) < (bdF (bpG σ 1) x.1).2 := by rw [fa_le] at c74; rw [fa_lt]; omega
        refine J_iload C rfl dX6_bestPace_77 ?_
        refine J_goto C 83 (by decide) dX6_bestPace_79 ?_
        refine J_istore_n C [(3, .int (nI (9 - x.1))), (6, .int (bpG σ 1 (9 - x.1))), (0, .ref (mo 0)), (1, .int 1), (2, .int (nI (σ 0 13))), (4, .int ((bdF (bpG σ 1) x.1).2)), (5, .int (nI (9 - x.1)))] (by decide) rfl dX6_bestPace_83 ?_
        refine J_iload C rfl dX6_bestPace_84 ?_
        refine J_bipush C (-5) (by decide) dX6_bestPace_86 ?_
        refine J_icmp_eq C 103 (by decide) dX6_bestPace_88 (fun h => absurd h (hn5)) (fun _ => ?_)
        refine J_iload C rfl dX6_bestPace_91 ?_
        refine J_iload C rfl dX6_bestPace_93 ?_
        refine J_icmp_ge C 103 (by decide) dX6_bestPace_95 (fun h => absurd h (c74)) (fun _ => ?_)
        refine J_iload C rfl dX6_bestPace_98 ?_
        refine J_goto C 105 (by decide) dX6_bestPace_100 ?_
        refine J_istore C [(4, .int (bpG σ 1 (9 - x.1))), (3, .int (nI (9 - x.1))), (6, .int (bpG σ 1 (9 - x.1))), (0, .ref (mo 0)), (1, .int 1), (2, .int (nI (σ 0 13))), (5, .int (nI (9 - x.1)))] (by decide) rfl dX6_bestPace_105 ?_
        have hbd : bdF (bpG σ 1) (x.1 + 1) = (nI (9 - x.1), bpG σ 1 (9 - x.1)) := if_pos ⟨hn5, hle⟩
        refine J_lvp [0, 1, 2, 3, 4, 5, 6] [(4, .int ((bdF (bpG σ 1) (x.1 + 1)).2)), (3, .int ((bdF (bpG σ 1) (x.1 + 1)).1)), (6, .int (bpG σ 1 (9 - x.1))), (0, .ref (mo 0)), (1, .int 1), (2, .int (nI (σ 0 13))), (5, .int (nI (9 - x.1)))] (by rw [hbd] <;> rfl) ?_
        refine J_iinc C (nI (9 - (x.1 + 1))) [(5, .int (nI (9 - (x.1 + 1)))), (4, .int ((bdF (bpG σ 1) (x.1 + 1)).2)), (3, .int ((bdF (bpG σ 1) (x.1 + 1)).1)), (6, .int (bpG σ 1 (9 - x.1))), (0, .ref (mo 0)), (1, .int 1), (2, .int (nI (σ 0 13)))] 6 rfl (by rw [show 9 - x.1 = (9 - (x.1 + 1)) + 1 by omega]; exact pk_m1 _) (by decide) rfl dX6_bestPace_107 ?_
        refine J_goto C 41 (by decide) dX6_bestPace_110 ?_
        refine J_lvp [4, 5, 6, 2, 1, 0] [(0, .ref (mo 0)), (1, .int 1), (2, .int (nI (σ 0 13))), (3, .int ((bdF (bpG σ 1) (x.1 + 1)).1)), (4, .int ((bdF (bpG σ 1) (x.1 + 1)).2)), (5, .int (nI (9 - (x.1 + 1))))] rfl ?_
        exact ih (x.1 + 1, 9 - x.1, rowM (up2 σ 0 13 (9 - x.1))) (by show x.1 + 1 ≤ 9; omega) (by show 9 - (x.1 + 1) < 9 - x.1; omega)

set_option maxHeartbeats 4000000 in
set_option maxRecDepth 100000 in
theorem ct_mSet1 (l : Launch) (G : GT) (mo : Nat → Nat) (σ : AS) (kf tf H sf df xf : Nat → Nat) (hn ik tl sp rd : Nat) (gr : Int32) (x y : Int32) (hx : ¬ (0 ≤ x.toInt ∧ x.toInt ≤ 2)) : Ct (S := Unit) l G NoX yX6_set (Wy yX6_set cX6_set 4 ((Option.some Jvm.ClassFile.FieldType.int))) { frames := 1, cells := 0, slots := 0, locals := 25 } [.ref (mo 0), .int x, .int y] (mdW G mo σ kf tf H sf df xf hn ik tl sp rd gr) (fun u => True) (fun u => some (.int (-1))) (fun u => mdW G mo σ kf tf H sf df xf hn ik tl sp rd gr) := by
  refine Ct.of (by decide) (Nat.le_of_ble_eq_true rfl) (fun p e s m args below meth c C hr hnm hX => ?_)
  refine J_iload_n C rfl dX6_set_0 ?_
  refine J_i2l C dX6_set_1 ?_
  refine J_lconst C 0 (by decide) dX6_set_2 ?_
  refine J_ldc2 C k696 dX6_set_3 ?_
  refine J_callS (as := [.long x.toInt64, .long 0, .long 2]) (rest := []) C (ct_inN l G x.toInt64 0 2 (fun q => absurd ((in32 (zl := 0) (zh := 2) rfl rfl).mp q) (by omega))) (fun u => mdW G mo σ kf tf H sf df xf hn ik tl sp rd gr) [] [0, 1, 2, 3, 4, 5, 6, 7] 3 k627 k628 k38 k629 rfl (by decide +kernel) ⟨Nat.le_of_ble_eq_true rfl, Nat.le_of_ble_eq_true rfl⟩ ⟨Nat.le_of_ble_eq_true rfl, Nat.le_of_ble_eq_true rfl⟩ dX6_set_6 (Nat.le_of_ble_eq_true rfl) rfl (by decide +kernel) (fun _ => rfl) (mdW G mo σ kf tf H sf df xf hn ik tl sp rd gr) rfl (fun _ => rfl) 8 (fun _ => rfl) (by decide +kernel) (by decide +kernel) (fun _ _ => ?_)
  refine J_st (st' := [.int 0]) rfl ?_
  refine J_if_ne C 14 (by decide) dX6_set_9 (fun h => absurd h (by decide)) (fun _ => ?_)
  refine J_iconst C (-1) (by decide) dX6_set_12 ?_
  exact J_zret C hr rfl dX6_set_13 () rfl trivial rfl

set_option maxHeartbeats 4000000 in
set_option maxRecDepth 100000 in
theorem ct_mSet2_0 (l : Launch) (G : GT) (mo : Nat → Nat) (σ : AS) (kf tf H sf df xf : Nat → Nat) (hn ik tl sp rd : Nat) (gr : Int32) (y : Int32) (hy : ¬ (1 ≤ y.toInt ∧ y.toInt ≤ 9)) : Ct (S := Unit) l G NoX yX6_set (Wy yX6_set cX6_set 4 ((Option.some Jvm.ClassFile.FieldType.int))) { frames := 1, cells := 0, slots := 0, locals := 25 } [.ref (mo 0), .int 0, .int y] (mdW G mo σ kf tf H sf df xf hn ik tl sp rd gr) (fun u => True) (fun u => some (.int (-2))) (fun u => mdW G mo σ kf tf H sf df xf hn ik tl sp rd gr) := by
  refine Ct.of (by decide) (Nat.le_of_ble_eq_true rfl) (fun p e s m args below meth c C hr hnm hX => ?_)
  refine J_iload_n C rfl dX6_set_0 ?_
  refine J_i2l C dX6_set_1 ?_
  refine J_lconst C 0 (by decide) dX6_set_2 ?_
  refine J_ldc2 C k696 dX6_set_3 ?_
  refine J_callS (as := [.long ((0 : Int32).toInt64), .long 0, .long 2]) (rest := []) C (ct_inY l G ((0 : Int32).toInt64) 0 2 ((in32 (zl := 0) (zh := 2) rfl rfl).mpr (by decide))) (fun u => mdW G mo σ kf tf H sf df xf hn ik tl sp rd gr) [] [0, 1, 2, 3, 4, 5, 6, 7] 3 k627 k628 k38 k629 rfl (by decide +kernel) ⟨Nat.le_of_ble_eq_true rfl, Nat.le_of_ble_eq_true rfl⟩ ⟨Nat.le_of_ble_eq_true rfl, Nat.le_of_ble_eq_true rfl⟩ dX6_set_6 (Nat.le_of_ble_eq_true rfl) rfl (by decide +kernel) (fun _ => rfl) (mdW G mo σ kf tf H sf df xf hn ik tl sp rd gr) rfl (fun _ => rfl) 8 (fun _ => rfl) (by decide +kernel) (by decide +kernel) (fun _ _ => ?_)
  refine J_st (st' := [.int 1]) rfl ?_
  refine J_if_ne C 14 (by decide) dX6_set_9 (fun _ => ?_) (fun h => absurd h (by decide))
  refine J_iload_n C rfl dX6_set_14 ?_
  refine J_i2l C dX6_set_15 ?_
  refine J_iload_n C rfl dX6_set_16 ?_
  refine J_if_ne C 24 (by decide) dX6_set_17 (fun h => absurd h (by decide)) (fun _ => ?_)
  refine J_lconst C 1 (by decide) dX6_set_20 ?_
  refine J_goto C 25 (by decide) dX6_set_21 ?_
  refine J_iload_n C rfl dX6_set_25 ?_
  refine J_if_ne C 35 (by decide) dX6_set_26 (fun h => absurd h (by decide)) (fun _ => ?_)
  refine J_ldc2 C k686 dX6_set_29 ?_
  refine J_goto C 49 (by decide) dX6_set_32 ?_
  refine J_callS (as := [.long y.toInt64, .long 1, .long 9]) (rest := []) C (ct_inN l G y.toInt64 1 9 (fun q => absurd ((in32 (zl := 1) (zh := 9) rfl rfl).mp q) (by omega))) (fun u => mdW G mo σ kf tf H sf df xf hn ik tl sp rd gr) [] [0, 1, 2, 3, 4, 5, 6, 7] 3 k627 k628 k38 k629 rfl (by decide +kernel) ⟨Nat.le_of_ble_eq_true rfl, Nat.le_of_ble_eq_true rfl⟩ ⟨Nat.le_of_ble_eq_true rfl, Nat.le_of_ble_eq_true rfl⟩ dX6_set_49 (Nat.le_of_ble_eq_true rfl) rfl (by decide +kernel) (fun _ => rfl) (mdW G mo σ kf tf H sf df xf hn ik tl sp rd gr) rfl (fun _ => rfl) 8 (fun _ => rfl) (by decide +kernel) (by decide +kernel) (fun _ _ => ?_)
  refine J_st (st' := [.int 0]) rfl ?_
  refine J_if_ne C 58 (by decide) dX6_set_52 (fun h => absurd h (by decide)) (fun _ => ?_)
  refine J_bipush C (-2) (by decide) dX6_set_55 ?_
  exact J_zret C hr rfl dX6_set_57 () rfl trivial rfl

set_option maxHeartbeats 4000000 in
set_option maxRecDepth 100000 in
theorem ct_mSet3_0 (l : Launch) (G : GT) (mo : Nat → Nat) (σ : AS) (kf tf H sf df xf : Nat → Nat) (hn ik tl sp rd : Nat) (gr : Int32) (k : Nat) (hI : Inv σ) (hk : 1 ≤ k ∧ k ≤ 9) (he : σ 7 0 = k) : Ct (S := Unit) l G NoX yX6_set (Wy yX6_set cX6_set 4 ((Option.some Jvm.ClassFile.FieldType.int))) { frames := 1, cells := 0, slots := 0, locals := 25 } [.ref (mo 0), .int 0, .int (nI k)] (mdW G mo σ kf tf H sf df xf hn ik tl sp rd gr) (fun u => True) (fun u => some (.int (-5))) (fun u => mdW G mo σ kf tf H sf df xf hn ik tl sp rd gr) := by
  refine Ct.of (by decide) (Nat.le_of_ble_eq_true rfl) (fun p e s m args below meth c C hr hnm hX => ?_)
  have hs := hI.s
  refine J_iload_n C rfl dX6_set_0 ?_
  refine J_i2l C dX6_set_1 ?_
  refine J_lconst C 0 (by decide) dX6_set_2 ?_
  refine J_ldc2 C k696 dX6_set_3 ?_
  refine J_callS (as := [.long ((0 : Int32).toInt64), .long 0, .long 2]) (rest := []) C (ct_inY l G ((0 : Int32).toInt64) 0 2 ((in32 (zl := 0) (zh := 2) rfl rfl).mpr (by decide))) (fun u => mdW G mo σ kf tf H sf df xf hn ik tl sp rd gr) [] [0, 1, 2, 3, 4, 5, 6, 7] 3 k627 k628 k38 k629 rfl (by decide +kernel) ⟨Nat.le_of_ble_eq_true rfl, Nat.le_of_ble_eq_true rfl⟩ ⟨Nat.le_of_ble_eq_true rfl, Nat.le_of_ble_eq_true rfl⟩ dX6_set_6 (Nat.le_of_ble_eq_true rfl) rfl (by decide +kernel) (fun _ => rfl) (mdW G mo σ kf tf H sf df xf hn ik tl sp rd gr) rfl (fun _ => rfl) 8 (fun _ => rfl) (by decide +kernel) (by decide +kernel) (fun _ _ => ?_)
  refine J_st (st' := [.int 1]) rfl ?_
  refine J_if_ne C 14 (by decide) dX6_set_9 (fun _ => ?_) (fun h => absurd h (by decide))
  refine J_iload_n C rfl dX6_set_14 ?_
  refine J_i2l C dX6_set_15 ?_
  refine J_iload_n C rfl dX6_set_16 ?_
  refine J_if_ne C 24 (by decide) dX6_set_17 (fun h => absurd h (by decide)) (fun _ => ?_)
  refine J_lconst C 1 (by decide) dX6_set_20 ?_
  refine J_goto C 25 (by decide) dX6_set_21 ?_
  refine J_iload_n C rfl dX6_set_25 ?_
  refine J_if_ne C 35 (by decide) dX6_set_26 (fun h => absurd h (by decide)) (fun _ => ?_)
  refine J_ldc2 C k686 dX6_set_29 ?_
  refine J_goto C 49 (by decide) dX6_set_32 ?_
  refine J_callS (as := [.long ((nI k).toInt64), .long 1, .long 9]) (rest := []) C (ct_inY l G ((nI k).toInt64) 1 9 ((in32 (zl := 1) (zh := 9) rfl rfl).mpr (by rw [nI_toInt (by omega)]; omega))) (fun u => mdW G mo σ kf tf H sf df xf hn ik tl sp rd gr) [] [0, 1, 2, 3, 4, 5, 6, 7] 3 k627 k628 k38 k629 rfl (by decide +kernel) ⟨Nat.le_of_ble_eq_true rfl, Nat.le_of_ble_eq_true rfl⟩ ⟨Nat.le_of_ble_eq_true rfl, Nat.le_of_ble_eq_true rfl⟩ dX6_set_49 (Nat.le_of_ble_eq_true rfl) rfl (by decide +kernel) (fun _ => rfl) (mdW G mo σ kf tf H sf df xf hn ik tl sp rd gr) rfl (fun _ => rfl) 8 (fun _ => rfl) (by decide +kernel) (by decide +kernel) (fun _ _ => ?_)
  refine J_st (st' := [.int 1]) rfl ?_
  refine J_if_ne C 58 (by decide) dX6_set_52 (fun _ => ?_) (fun h => absurd h (by decide))
  refine J_aload_n C rfl dX6_set_58 ?_
  refine J_get C 0 0 in6 rfl rfl (by decide) k575 rfl dX6_set_59 ?_
  refine J_iload_n C rfl dX6_set_62 ?_
  refine J_iald C 1 rfl 0 rfl (by decide) (Nat.le_of_ble_eq_true rfl) dX6_set_63 ?_
  refine J_i (y := nI (σ 7 0)) (rfl) ?_
  refine J_istore_n C [(3, .int (nI (σ 7 0))), (0, .ref (mo 0)), (1, .int 0), (2, .int (nI k))] (by decide) rfl dX6_set_64 ?_
  refine J_iload_n C rfl dX6_set_65 ?_
  refine J_iload_n C rfl dX6_set_66 ?_
  refine J_icmp_ne C 73 (by decide) dX6_set_67 (fun h => absurd (cv_ne_t (a := (σ 7 0)) (b := k) (by omega) (by omega) h) (by omega)) (fun c67 => ?_)
  refine J_bipush C (-5) (by decide) dX6_set_70 ?_
  exact J_zret C hr rfl dX6_set_72 () rfl trivial rfl

set_option maxHeartbeats 4000000 in
set_option maxRecDepth 100000 in
theorem ct_mSetY_0 (l : Launch) (G : GT) (mo : Nat → Nat) (σ : AS) (kf tf H sf df xf : Nat → Nat) (hn ik tl sp rd : Nat) (gr : Int32) (k : Nat) (hI : Inv σ) (h4 : hn ≤ 4) (hk : 1 ≤ k ∧ k ≤ 9) (he : ¬ σ 7 0 = k) : Ct (S := Unit) l G NoX yX6_set (Wy yX6_set cX6_set 4 ((Option.some Jvm.ClassFile.FieldType.int))) { frames := 1, cells := 0, slots := 0, locals := 25 } [.ref (mo 0), .int 0, .int (nI k)] (mdW G mo σ kf tf H sf df xf hn ik tl sp rd gr) (fun u => True) (fun u => some (.int (nI (σ 7 0)))) (fun u => mdW G mo (up2 σ 7 0 k) (rowM σ) tf (endH H (rowM σ) hn) sf df xf (sizeF hn) ik tl sp rd gr) := by
  refine Ct.of (by decide) (Nat.le_of_ble_eq_true rfl) (fun p e s m args below meth c C hr hnm hX => ?_)
  have hs := hI.s
  refine J_iload_n C rfl dX6_set_0 ?_
  refine J_i2l C dX6_set_1 ?_
  refine J_lconst C 0 (by decide) dX6_set_2 ?_
  refine J_ldc2 C k696 dX6_set_3 ?_
  refine J_callS (as := [.long ((0 : Int32).toInt64), .long 0, .long 2]) (rest := []) C (ct_inY l G ((0 : Int32).toInt64) 0 2 ((in32 (zl := 0) (zh := 2) rfl rfl).mpr (by decide))) (fun u => mdW G mo σ kf tf H sf df xf hn ik tl sp rd gr) [] [0, 1, 2, 3, 4, 5, 6, 7] 3 k627 k628 k38 k629 rfl (by decide +kernel) ⟨Nat.le_of_ble_eq_true rfl, Nat.le_of_ble_eq_true rfl⟩ ⟨Nat.le_of_ble_eq_true rfl, Nat.le_of_ble_eq_true rfl⟩ dX6_set_6 (Nat.le_of_ble_eq_true rfl) rfl (by decide +kernel) (fun _ => rfl) (mdW G mo σ kf tf H sf df xf hn ik tl sp rd gr) rfl (fun _ => rfl) 8 (fun _ => rfl) (by decide +kernel) (by decide +kernel) (fun _ _ => ?_)
  refine J_st (st' := [.int 1]) rfl ?_
  refine J_if_ne C 14 (by decide) dX6_set_9 (fun _ => ?_) (fun h => absurd h (by decide))
  refine J_iload_n C rfl dX6_set_14 ?_
  refine J_i2l C dX6_set_15 ?_
  refine J_iload_n C rfl dX6_set_16 ?_
  refine J_if_ne C 24 (by decide) dX6_set_17 (fun h => absurd h (by decide)) (fun _ => ?_)
  refine J_lconst C 1 (by decide) dX6_set_20 ?_
  refine J_goto C 25 (by decide) dX6_set_21 ?_
  refine J_iload_n C rfl dX6_set_25 ?_
  refine J_if_ne C 35 (by decide) dX6_set_26 (fun h => absurd h (by decide)) (fun _ => ?_)
  refine J_ldc2 C k686 dX6_set_29 ?_
  refine J_goto C 49 (by decide) dX6_set_32 ?_
  refine J_callS (as := [.long ((nI k).toInt64), .long 1, .long 9]) (rest := []) C (ct_inY l G ((nI k).toInt64) 1 9 ((in32 (zl := 1) (zh := 9) rfl rfl).mpr (by rw [nI_toInt (by omega)]; omega))) (fun u => mdW G mo σ kf tf H sf df xf hn ik tl sp rd gr) [] [0, 1, 2, 3, 4, 5, 6, 7] 3 k627 k628 k38 k629 rfl (by decide +kernel) ⟨Nat.le_of_ble_eq_true rfl, Nat.le_of_ble_eq_true rfl⟩ ⟨Nat.le_of_ble_eq_true rfl, Nat.le_of_ble_eq_true rfl⟩ dX6_set_49 (Nat.le_of_ble_eq_true rfl) rfl (by decide +kernel) (fun _ => rfl) (mdW G mo σ kf tf H sf df xf hn ik tl sp rd gr) rfl (fun _ => rfl) 8 (fun _ => rfl) (by decide +kernel) (by decide +kernel) (fun _ _ => ?_)
  refine J_st (st' := [.int 1]) rfl ?_
  refine J_if_ne C 58 (by decide) dX6_set_52 (fun _ => ?_) (fun h => absurd h (by decide))
  refine J_aload_n C rfl dX6_set_58 ?_
  refine J_get C 0 0 in6 rfl rfl (by decide) k575 rfl dX6_set_59 ?_
  refine J_iload_n C rfl dX6_set_62 ?_
  refine J_iald C 1 rfl 0 rfl (by decide) (Nat.le_of_ble_eq_true rfl) dX6_set_63 ?_
  refine J_i (y := nI (σ 7 0)) (rfl) ?_
  refine J_istore_n C [(3, .int (nI (σ 7 0))), (0, .ref (mo 0)), (1, .int 0), (2, .int (nI k))] (by decide) rfl dX6_set_64 ?_
  refine J_iload_n C rfl dX6_set_65 ?_
  refine J_iload_n C rfl dX6_set_66 ?_
  refine J_icmp_ne C 73 (by decide) dX6_set_67 (fun c67 => ?_) (fun h => absurd (cv_ne_f (a := (σ 7 0)) (b := k) (by omega) (by omega) h) (by omega))
  refine J_aload_n C rfl dX6_set_73 ?_
  refine J_callV (as := []) (rest := []) C (ct_keeps l G mo σ kf tf H sf df xf hn ik tl sp rd gr) (fun u => mdW G mo σ (rowM σ) tf H sf df xf hn ik tl sp rd gr) [0, 1, 2, 3, 4, 5, 6, 7] [] 0 k638 k640 k13 k38 k641 rfl (by decide +kernel) ⟨Nat.le_of_ble_eq_true rfl, Nat.le_of_ble_eq_true rfl⟩ ⟨Nat.le_of_ble_eq_true rfl, Nat.le_of_ble_eq_true rfl⟩ dX6_set_74 (Nat.le_of_ble_eq_true rfl) 0 rfl rfl rfl (by decide +kernel) (fun _ => rfl) ([]) rfl (fun _ => rfl) 8 (fun _ => rfl) (by decide +kernel) (by decide +kernel) (fun _ _ => ?_)
  refine J_st (st' := []) rfl ?_
  refine J_ws (ws' := mdW G mo σ (rowM σ) tf H sf df xf hn ik tl sp rd gr) rfl ?_
  refine J_aload_n C rfl dX6_set_77 ?_
  refine J_get C 0 0 in6 rfl rfl (by decide) k575 rfl dX6_set_78 ?_
  refine J_iload_n C rfl dX6_set_81 ?_
  refine J_iload_n C rfl dX6_set_82 ?_
  refine J_iast C 1 ([(mo 0, .inr (6, [.ref (mo 1), .ref (mo 2), .ref (mo 3), .ref (mo 4), .int (nI hn), .ref (mo 5), .int (nI ik), .ref (mo 6), .ref (mo 7), .int (nI tl), .int (nI sp), .int (nI rd), .int gr])), (mo 1, .inl (G.2.1, 246, .inl (upd (fun q => nI ((rowM σ) q)) 0 (nI k)))), (mo 2, .inl (G.2.1, 246, .inl (fun q => nI ((rowM σ) q)))), (mo 3, .inl (G.2.1, 246, .inl (fun q => nI (tf q)))), (mo 4, .inl (G.2.1, 984, .inl (fun q => nI (H q)))), (mo 5, .inl (G.2.1, 246, .inl (fun q => nI (sf q)))), (mo 6, .inl (G.2.1, 40, .inl (fun q => nI (df q)))), (mo 7, .inl (G.2.1, 60, .inl (fun q => nI (xf q))))]) rfl 0 rfl (by decide) (Nat.le_of_ble_eq_true rfl) rfl dX6_set_83 ?_
  refine J_arr 1 (fun q => nI (rowM (up2 σ 7 0 k) q)) rfl (fun q _ => congrFun (rowM_u7 σ k (by decide)) q) ?_
  refine J_ws (ws' := mdW G mo (up2 σ 7 0 k) (rowM σ) tf H sf df xf hn ik tl sp rd gr) rfl ?_
  refine J_aload_n C rfl dX6_set_84 ?_
  refine J_iload_n C rfl dX6_set_85 ?_
  refine J_callV (as := [.int (nI (σ 7 0))]) (rest := []) C (ct_ends l G mo (up2 σ 7 0 k) (rowM σ) tf H sf df xf hn ik tl sp rd gr (nI (σ 7 0)) h4) (fun u => mdW G mo (up2 σ 7 0 k) (rowM σ) tf (endH H (rowM σ) hn) sf df xf (sizeF hn) ik tl sp rd gr) [0, 1, 2, 3, 4, 5, 6, 7] [] 1 k642 k644 k14 k38 k645 rfl (by decide +kernel) ⟨Nat.le_of_ble_eq_true rfl, Nat.le_of_ble_eq_true rfl⟩ ⟨Nat.le_of_ble_eq_true rfl, Nat.le_of_ble_eq_true rfl⟩ dX6_set_86 (Nat.le_of_ble_eq_true rfl) 0 rfl rfl rfl (by decide +kernel) (fun _ => rfl) ([]) rfl (fun _ => rfl) 8 (fun _ => rfl) (by decide +kernel) (by decide +kernel) (fun _ _ => ?_)
  refine J_st (st' := [.int (nI (σ 7 0))]) rfl ?_
  exact J_zret C hr rfl dX6_set_89 () rfl trivial rfl

set_option maxHeartbeats 4000000 in
set_option maxRecDepth 100000 in
theorem ct_mSet2_1 (l : Launch) (G : GT) (mo : Nat → Nat) (σ : AS) (kf tf H sf df xf : Nat → Nat) (hn ik tl sp rd : Nat) (gr : Int32) (y : Int32) (hy : ¬ (0 ≤ y.toInt ∧ y.toInt ≤ 8)) : Ct (S := Unit) l G NoX yX6_set (Wy yX6_set cX6_set 4 ((Option.some Jvm.ClassFile.FieldType.int))) { frames := 1, cells := 0, slots := 0, locals := 25 } [.ref (mo 0), .int 1, .int y] (mdW G mo σ kf tf H sf df xf hn ik tl sp rd gr) (fun u => True) (fun u => some (.int (-2))) (fun u => mdW G mo σ kf tf H sf df xf hn ik tl sp rd gr) := by
  refine Ct.of (by decide) (Nat.le_of_ble_eq_true rfl) (fun p e s m args below meth c C hr hnm hX => ?_)
  refine J_iload_n C rfl dX6_set_0 ?_
  refine J_i2l C dX6_set_1 ?_
  refine J_lconst C 0 (by decide) dX6_set_2 ?_
  refine J_ldc2 C k696 dX6_set_3 ?_
  refine J_callS (as := [.long ((1 : Int32).toInt64), .long 0, .long 2]) (rest := []) C (ct_inY l G ((1 : Int32).toInt64) 0 2 ((in32 (zl := 0) (zh := 2) rfl rfl).mpr (by decide))) (fun u => mdW G mo σ kf tf H sf df xf hn ik tl sp rd gr) [] [0, 1, 2, 3, 4, 5, 6, 7] 3 k627 k628 k38 k629 rfl (by decide +kernel) ⟨Nat.le_of_ble_eq_true rfl, Nat.le_of_ble_eq_true rfl⟩ ⟨Nat.le_of_ble_eq_true rfl, Nat.le_of_ble_eq_true rfl⟩ dX6_set_6 (Nat.le_of_ble_eq_true rfl) rfl (by decide +kernel) (fun _ => rfl) (mdW G mo σ kf tf H sf df xf hn ik tl sp rd gr) rfl (fun _ => rfl) 8 (fun _ => rfl) (by decide +kernel) (by decide +kernel) (fun _ _ => ?_)
  refine J_st (st' := [.int 1]) rfl ?_
  refine J_if_ne C 14 (by decide) dX6_set_9 (fun _ => ?_) (fun h => absurd h (by decide))
  refine J_iload_n C rfl dX6_set_14 ?_
  refine J_i2l C dX6_set_15 ?_
  refine J_iload_n C rfl dX6_set_16 ?_
  refine J_if_ne C 24 (by decide) dX6_set_17 (fun _ => ?_) (fun h => absurd h (by decide))
  refine J_lconst C 0 (by decide) dX6_set_24 ?_
  refine J_iload_n C rfl dX6_set_25 ?_
  refine J_if_ne C 35 (by decide) dX6_set_26 (fun _ => ?_) (fun h => absurd h (by decide))
  refine J_iload_n C rfl dX6_set_35 ?_
  refine J_iconst C 1 (by decide) dX6_set_36 ?_
  refine J_icmp_ne C 46 (by decide) dX6_set_37 (fun h => absurd h (by decide)) (fun _ => ?_)
  refine J_ldc2 C k697 dX6_set_40 ?_
  refine J_goto C 49 (by decide) dX6_set_43 ?_
  refine J_callS (as := [.long y.toInt64, .long 0, .long 8]) (rest := []) C (ct_inN l G y.toInt64 0 8 (fun q => absurd ((in32 (zl := 0) (zh := 8) rfl rfl).mp q) (by omega))) (fun u => mdW G mo σ kf tf H sf df xf hn ik tl sp rd gr) [] [0, 1, 2, 3, 4, 5, 6, 7] 3 k627 k628 k38 k629 rfl (by decide +kernel) ⟨Nat.le_of_ble_eq_true rfl, Nat.le_of_ble_eq_true rfl⟩ ⟨Nat.le_of_ble_eq_true rfl, Nat.le_of_ble_eq_true rfl⟩ dX6_set_49 (Nat.le_of_ble_eq_true rfl) rfl (by decide +kernel) (fun _ => rfl) (mdW G mo σ kf tf H sf df xf hn ik tl sp rd gr) rfl (fun _ => rfl) 8 (fun _ => rfl) (by decide +kernel) (by decide +kernel) (fun _ _ => ?_)
  refine J_st (st' := [.int 0]) rfl ?_
  refine J_if_ne C 58 (by decide) dX6_set_52 (fun h => absurd h (by decide)) (fun _ => ?_)
  refine J_bipush C (-2) (by decide) dX6_set_55 ?_
  exact J_zret C hr rfl dX6_set_57 () rfl trivial rfl

set_option maxHeartbeats 4000000 in
set_option maxRecDepth 100000 in
theorem ct_mSet3_1 (l : Launch) (G : GT) (mo : Nat → Nat) (σ : AS) (kf tf H sf df xf : Nat → Nat) (hn ik tl sp rd : Nat) (gr : Int32) (k : Nat) (hI : Inv σ) (hk : 0 ≤ k ∧ k ≤ 8) (he : σ 7 1 = k) : Ct (S := Unit) l G NoX yX6_set (Wy yX6_set cX6_set 4 ((Option.some Jvm.ClassFile.FieldType.int))) { frames := 1, cells := 0, slots := 0, locals := 25 } [.ref (mo 0), .int 1, .int (nI k)] (mdW G mo σ kf tf H sf df xf hn ik tl sp rd gr) (fun u => True) (fun u => some (.int (-5))) (fun u => mdW G mo σ kf tf H sf df xf hn ik tl sp rd gr) := by
  refine Ct.of (by decide) (Nat.le_of_ble_eq_true rfl) (fun p e s m args below meth c C hr hnm hX => ?_)
  have hs := hI.s
  refine J_iload_n C rfl dX6_set_0 ?_
  refine J_i2l C dX6_set_1 ?_
  refine J_lconst C 0 (by decide) dX6_set_2 ?_
  refine J_ldc2 C k696 dX6_set_3 ?_
  refine J_callS (as := [.long ((1 : Int32).toInt64), .long 0, .long 2]) (rest := []) C (ct_inY l G ((1 : Int32).toInt64) 0 2 ((in32 (zl := 0) (zh := 2) rfl rfl).mpr (by decide))) (fun u => mdW G mo σ kf tf H sf df xf hn ik tl sp rd gr) [] [0, 1, 2, 3, 4, 5, 6, 7] 3 k627 k628 k38 k629 rfl (by decide +kernel) ⟨Nat.le_of_ble_eq_true rfl, Nat.le_of_ble_eq_true rfl⟩ ⟨Nat.le_of_ble_eq_true rfl, Nat.le_of_ble_eq_true rfl⟩ dX6_set_6 (Nat.le_of_ble_eq_true rfl) rfl (by decide +kernel) (fun _ => rfl) (mdW G mo σ kf tf H sf df xf hn ik tl sp rd gr) rfl (fun _ => rfl) 8 (fun _ => rfl) (by decide +kernel) (by decide +kernel) (fun _ _ => ?_)
  refine J_st (st' := [.int 1]) rfl ?_
  refine J_if_ne C 14 (by decide) dX6_set_9 (fun _ => ?_) (fun h => absurd h (by decide))
  refine J_iload_n C rfl dX6_set_14 ?_
  refine J_i2l C dX6_set_15 ?_
  refine J_iload_n C rfl dX6_set_16 ?_
  refine J_if_ne C 24 (by decide) dX6_set_17 (fun _ => ?_) (fun h => absurd h (by decide))
  refine J_lconst C 0 (by decide) dX6_set_24 ?_
  refine J_iload_n C rfl dX6_set_25 ?_
  refine J_if_ne C 35 (by decide) dX6_set_26 (fun _ => ?_) (fun h => absurd h (by decide))
  refine J_iload_n C rfl dX6_set_35 ?_
  refine J_iconst C 1 (by decide) dX6_set_36 ?_
  refine J_icmp_ne C 46 (by decide) dX6_set_37 (fun h => absurd h (by decide)) (fun _ => ?_)
  refine J_ldc2 C k697 dX6_set_40 ?_
  refine J_goto C 49 (by decide) dX6_set_43 ?_
  refine J_callS (as := [.long ((nI k).toInt64), .long 0, .long 8]) (rest := []) C (ct_inY l G ((nI k).toInt64) 0 8 ((in32 (zl := 0) (zh := 8) rfl rfl).mpr (by rw [nI_toInt (by omega)]; omega))) (fun u => mdW G mo σ kf tf H sf df xf hn ik tl sp rd gr) [] [0, 1, 2, 3, 4, 5, 6, 7] 3 k627 k628 k38 k629 rfl (by decide +kernel) ⟨Nat.le_of_ble_eq_true rfl, Nat.le_of_ble_eq_true rfl⟩ ⟨Nat.le_of_ble_eq_true rfl, Nat.le_of_ble_eq_true rfl⟩ dX6_set_49 (Nat.le_of_ble_eq_true rfl) rfl (by decide +kernel) (fun _ => rfl) (mdW G mo σ kf tf H sf df xf hn ik tl sp rd gr) rfl (fun _ => rfl) 8 (fun _ => rfl) (by decide +kernel) (by decide +kernel) (fun _ _ => ?_)
  refine J_st (st' := [.int 1]) rfl ?_
  refine J_if_ne C 58 (by decide) dX6_set_52 (fun _ => ?_) (fun h => absurd h (by decide))
  refine J_aload_n C rfl dX6_set_58 ?_
  refine J_get C 0 0 in6 rfl rfl (by decide) k575 rfl dX6_set_59 ?_
  refine J_iload_n C rfl dX6_set_62 ?_
  refine J_iald C 1 rfl 1 rfl (by decide) (Nat.le_of_ble_eq_true rfl) dX6_set_63 ?_
  refine J_i (y := nI (σ 7 1)) (rfl) ?_
  refine J_istore_n C [(3, .int (nI (σ 7 1))), (0, .ref (mo 0)), (1, .int 1), (2, .int (nI k))] (by decide) rfl dX6_set_64 ?_
  refine J_iload_n C rfl dX6_set_65 ?_
  refine J_iload_n C rfl dX6_set_66 ?_
  refine J_icmp_ne C 73 (by decide) dX6_set_67 (fun h => absurd (cv_ne_t (a := (σ 7 1)) (b := k) (by omega) (by omega) h) (by omega)) (fun c67 => ?_)
  refine J_bipush C (-5) (by decide) dX6_set_70 ?_
  exact J_zret C hr rfl dX6_set_72 () rfl trivial rfl

set_option maxHeartbeats 4000000 in
set_option maxRecDepth 100000 in
theorem ct_mSetY_1 (l : Launch) (G : GT) (mo : Nat → Nat) (σ : AS) (kf tf H sf df xf : Nat → Nat) (hn ik tl sp rd : Nat) (gr : Int32) (k : Nat) (hI : Inv σ) (h4 : hn ≤ 4) (hk : 0 ≤ k ∧ k ≤ 8) (he : ¬ σ 7 1 = k) : Ct (S := Unit) l G NoX yX6_set (Wy yX6_set cX6_set 4 ((Option.some Jvm.ClassFile.FieldType.int))) { frames := 1, cells := 0, slots := 0, locals := 25 } [.ref (mo 0), .int 1, .int (nI k)] (mdW G mo σ kf tf H sf df xf hn ik tl sp rd gr) (fun u => True) (fun u => some (.int (nI (σ 7 1)))) (fun u => mdW G mo (up2 σ 7 1 k) (rowM σ) tf (endH H (rowM σ) hn) sf df xf (sizeF hn) ik tl sp rd gr) := by
  refine Ct.of (by decide) (Nat.le_of_ble_eq_true rfl) (fun p e s m args below meth c C hr hnm hX => ?_)
  have hs := hI.s
  refine J_iload_n C rfl dX6_set_0 ?_
  refine J_i2l C dX6_set_1 ?_
  refine J_lconst C 0 (by decide) dX6_set_2 ?_
  refine J_ldc2 C k696 dX6_set_3 ?_
  refine J_callS (as := [.long ((1 : Int32).toInt64), .long 0, .long 2]) (rest := []) C (ct_inY l G ((1 : Int32).toInt64) 0 2 ((in32 (zl := 0) (zh := 2) rfl rfl).mpr (by decide))) (fun u => mdW G mo σ kf tf H sf df xf hn ik tl sp rd gr) [] [0, 1, 2, 3, 4, 5, 6, 7] 3 k627 k628 k38 k629 rfl (by decide +kernel) ⟨Nat.le_of_ble_eq_true rfl, Nat.le_of_ble_eq_true rfl⟩ ⟨Nat.le_of_ble_eq_true rfl, Nat.le_of_ble_eq_true rfl⟩ dX6_set_6 (Nat.le_of_ble_eq_true rfl) rfl (by decide +kernel) (fun _ => rfl) (mdW G mo σ kf tf H sf df xf hn ik tl sp rd gr) rfl (fun _ => rfl) 8 (fun _ => rfl) (by decide +kernel) (by decide +kernel) (fun _ _ => ?_)
  refine J_st (st' := [.int 1]) rfl ?_
  refine J_if_ne C 14 (by decide) dX6_set_9 (fun _ => ?_) (fun h => absurd h (by decide))
  refine J_iload_n C rfl dX6_set_14 ?_
  refine J_i2l C dX6_set_15 ?_
  refine J_iload_n C rfl dX6_set_16 ?_
  refine J_if_ne C 24 (by decide) dX6_set_17 (fun _ => ?_) (fun h => absurd h (by decide))
  refine J_lconst C 0 (by decide) dX6_set_24 ?_
  refine J_iload_n C rfl dX6_set_25 ?_
  refine J_if_ne C 35 (by decide) dX6_set_26 (fun _ => ?_) (fun h => absurd h (by decide))
  refine J_iload_n C rfl dX6_set_35 ?_
  refine J_iconst C 1 (by decide) dX6_set_36 ?_
  refine J_icmp_ne C 46 (by decide) dX6_set_37 (fun h => absurd h (by decide)) (fun _ => ?_)
  refine J_ldc2 C k697 dX6_set_40 ?_
  refine J_goto C 49 (by decide) dX6_set_43 ?_
  refine J_callS (as := [.long ((nI k).toInt64), .long 0, .long 8]) (rest := []) C (ct_inY l G ((nI k).toInt64) 0 8 ((in32 (zl := 0) (zh := 8) rfl rfl).mpr (by rw [nI_toInt (by omega)]; omega))) (fun u => mdW G mo σ kf tf H sf df xf hn ik tl sp rd gr) [] [0, 1, 2, 3, 4, 5, 6, 7] 3 k627 k628 k38 k629 rfl (by decide +kernel) ⟨Nat.le_of_ble_eq_true rfl, Nat.le_of_ble_eq_true rfl⟩ ⟨Nat.le_of_ble_eq_true rfl, Nat.le_of_ble_eq_true rfl⟩ dX6_set_49 (Nat.le_of_ble_eq_true rfl) rfl (by decide +kernel) (fun _ => rfl) (mdW G mo σ kf tf H sf df xf hn ik tl sp rd gr) rfl (fun _ => rfl) 8 (fun _ => rfl) (by decide +kernel) (by decide +kernel) (fun _ _ => ?_)
  refine J_st (st' := [.int 1]) rfl ?_
  refine J_if_ne C 58 (by decide) dX6_set_52 (fun _ => ?_) (fun h => absurd h (by decide))
  refine J_aload_n C rfl dX6_set_58 ?_
  refine J_get C 0 0 in6 rfl rfl (by decide) k575 rfl dX6_set_59 ?_
  refine J_iload_n C rfl dX6_set_62 ?_
  refine J_iald C 1 rfl 1 rfl (by decide) (Nat.le_of_ble_eq_true rfl) dX6_set_63 ?_
  refine J_i (y := nI (σ 7 1)) (rfl) ?_
  refine J_istore_n C [(3, .int (nI (σ 7 1))), (0, .ref (mo 0)), (1, .int 1), (2, .int (nI k))] (by decide) rfl dX6_set_64 ?_
  refine J_iload_n C rfl dX6_set_65 ?_
  refine J_iload_n C rfl dX6_set_66 ?_
  refine J_icmp_ne C 73 (by decide) dX6_set_67 (fun c67 => ?_) (fun h => absurd (cv_ne_f (a := (σ 7 1)) (b := k) (by omega) (by omega) h) (by omega))
  refine J_aload_n C rfl dX6_set_73 ?_
  refine J_callV (as := []) (rest := []) C (ct_keeps l G mo σ kf tf H sf df xf hn ik tl sp rd gr) (fun u => mdW G mo σ (rowM σ) tf H sf df xf hn ik tl sp rd gr) [0, 1, 2, 3, 4, 5, 6, 7] [] 0 k638 k640 k13 k38 k641 rfl (by decide +kernel) ⟨Nat.le_of_ble_eq_true rfl, Nat.le_of_ble_eq_true rfl⟩ ⟨Nat.le_of_ble_eq_true rfl, Nat.le_of_ble_eq_true rfl⟩ dX6_set_74 (Nat.le_of_ble_eq_true rfl) 0 rfl rfl rfl (by decide +kernel) (fun _ => rfl) ([]) rfl (fun _ => rfl) 8 (fun _ => rfl) (by decide +kernel) (by decide +kernel) (fun _ _ => ?_)
  refine J_st (st' := []) rfl ?_
  refine J_ws (ws' := mdW G mo σ (rowM σ) tf H sf df xf hn ik tl sp rd gr) rfl ?_
  refine J_aload_n C rfl dX6_set_77 ?_
  refine J_get C 0 0 in6 rfl rfl (by decide) k575 rfl dX6_set_78 ?_
  refine J_iload_n C rfl dX6_set_81 ?_
  refine J_iload_n C rfl dX6_set_82 ?_
  refine J_iast C 1 ([(mo 0, .inr (6, [.ref (mo 1), .ref (mo 2), .ref (mo 3), .ref (mo 4), .int (nI hn), .ref (mo 5), .int (nI ik), .ref (mo 6), .ref (mo 7), .int (nI tl), .int (nI sp), .int (nI rd), .int gr])), (mo 1, .inl (G.2.1, 246, .inl (upd (fun q => nI ((rowM σ) q)) 1 (nI k)))), (mo 2, .inl (G.2.1, 246, .inl (fun q => nI ((rowM σ) q)))), (mo 3, .inl (G.2.1, 246, .inl (fun q => nI (tf q)))), (mo 4, .inl (G.2.1, 984, .inl (fun q => nI (H q)))), (mo 5, .inl (G.2.1, 246, .inl (fun q => nI (sf q)))), (mo 6, .inl (G.2.1, 40, .inl (fun q => nI (df q)))), (mo 7, .inl (G.2.1, 60, .inl (fun q => nI (xf q))))]) rfl 1 rfl (by decide) (Nat.le_of_ble_eq_true rfl) rfl dX6_set_83 ?_
  refine J_arr 1 (fun q => nI (rowM (up2 σ 7 1 k) q)) rfl (fun q _ => congrFun (rowM_u7 σ k (by decide)) q) ?_
  refine J_ws (ws' := mdW G mo (up2 σ 7 1 k) (rowM σ) tf H sf df xf hn ik tl sp rd gr) rfl ?_
  refine J_aload_n C rfl dX6_set_84 ?_
  refine J_iload_n C rfl dX6_set_85 ?_
  refine J_callV (as := [.int (nI (σ 7 1))]) (rest := []) C (ct_ends l G mo (up2 σ 7 1 k) (rowM σ) tf H sf df xf hn ik tl sp rd gr (nI (σ 7 1)) h4) (fun u => mdW G mo (up2 σ 7 1 k) (rowM σ) tf (endH H (rowM σ) hn) sf df xf (sizeF hn) ik tl sp rd gr) [0, 1, 2, 3, 4, 5, 6, 7] [] 1 k642 k644 k14 k38 k645 rfl (by decide +kernel) ⟨Nat.le_of_ble_eq_true rfl, Nat.le_of_ble_eq_true rfl⟩ ⟨Nat.le_of_ble_eq_true rfl, Nat.le_of_ble_eq_true rfl⟩ dX6_set_86 (Nat.le_of_ble_eq_true rfl) 0 rfl rfl rfl (by decide +kernel) (fun _ => rfl) ([]) rfl (fun _ => rfl) 8 (fun _ => rfl) (by decide +kernel) (by decide +kernel) (fun _ _ => ?_)
  refine J_st (st' := [.int (nI (σ 7 1))]) rfl ?_
  exact J_zret C hr rfl dX6_set_89 () rfl trivial rfl

set_option maxHeartbeats 4000000 in
set_option maxRecDepth 100000 in
theorem ct_mSet2_2 (l : Launch) (G : GT) (mo : Nat → Nat) (σ : AS) (kf tf H sf df xf : Nat → Nat) (hn ik tl sp rd : Nat) (gr : Int32) (y : Int32) (hy : ¬ (0 ≤ y.toInt ∧ y.toInt ≤ 20)) : Ct (S := Unit) l G NoX yX6_set (Wy yX6_set cX6_set 4 ((Option.some Jvm.ClassFile.FieldType.int))) { frames := 1, cells := 0, slots := 0, locals := 25 } [.ref (mo 0), .int 2, .int y] (mdW G mo σ kf tf H sf df xf hn ik tl sp rd gr) (fun u => True) (fun u => some (.int (-2))) (fun u => mdW G mo σ kf tf H sf df xf hn ik tl sp rd gr) := by
  refine Ct.of (by decide) (Nat.le_of_ble_eq_true rfl) (fun p e s m args below meth c C hr hnm hX => ?_)
  refine J_iload_n C rfl dX6_set_0 ?_
  refine J_i2l C dX6_set_1 ?_
  refine J_lconst C 0 (by decide) dX6_set_2 ?_
  refine J_ldc2 C k696 dX6_set_3 ?_
  refine J_callS (as := [.long ((2 : Int32).toInt64), .long 0, .long 2]) (rest := []) C (ct_inY l G ((2 : Int32).toInt64) 0 2 ((in32 (zl := 0) (zh := 2) rfl rfl).mpr (by decide))) (fun u => mdW G mo σ kf tf H sf df xf hn ik tl sp rd gr) [] [0, 1, 2, 3, 4, 5, 6, 7] 3 k627 k628 k38 k629 rfl (by decide +kernel) ⟨Nat.le_of_ble_eq_true rfl, Nat.le_of_ble_eq_true rfl⟩ ⟨Nat.le_of_ble_eq_true rfl, Nat.le_of_ble_eq_true rfl⟩ dX6_set_6 (Nat.le_of_ble_eq_true rfl) rfl (by decide +kernel) (fun _ => rfl) (mdW G mo σ kf tf H sf df xf hn ik tl sp rd gr) rfl (fun _ => rfl) 8 (fun _ => rfl) (by decide +kernel) (by decide +kernel) (fun _ _ => ?_)
  refine J_st (st' := [.int 1]) rfl ?_
  refine J_if_ne C 14 (by decide) dX6_set_9 (fun _ => ?_) (fun h => absurd h (by decide))
  refine J_iload_n C rfl dX6_set_14 ?_
  refine J_i2l C dX6_set_15 ?_
  refine J_iload_n C rfl dX6_set_16 ?_
  refine J_if_ne C 24 (by decide) dX6_set_17 (fun _ => ?_) (fun h => absurd h (by decide))
  refine J_lconst C 0 (by decide) dX6_set_24 ?_
  refine J_iload_n C rfl dX6_set_25 ?_
  refine J_if_ne C 35 (by decide) dX6_set_26 (fun _ => ?_) (fun h => absurd h (by decide))
  refine J_iload_n C rfl dX6_set_35 ?_
  refine J_iconst C 1 (by decide) dX6_set_36 ?_
  refine J_icmp_ne C 46 (by decide) dX6_set_37 (fun _ => ?_) (fun h => absurd h (by decide))
  refine J_ldc2 C k698 dX6_set_46 ?_
  refine J_callS (as := [.long y.toInt64, .long 0, .long 20]) (rest := []) C (ct_inN l G y.toInt64 0 20 (fun q => absurd ((in32 (zl := 0) (zh := 20) rfl rfl).mp q) (by omega))) (fun u => mdW G mo σ kf tf H sf df xf hn ik tl sp rd gr) [] [0, 1, 2, 3, 4, 5, 6, 7] 3 k627 k628 k38 k629 rfl (by decide +kernel) ⟨Nat.le_of_ble_eq_true rfl, Nat.le_of_ble_eq_true rfl⟩ ⟨Nat.le_of_ble_eq_true rfl, Nat.le_of_ble_eq_true rfl⟩ dX6_set_49 (Nat.le_of_ble_eq_true rfl) rfl (by decide +kernel) (fun _ => rfl) (mdW G mo σ kf tf H sf df xf hn ik tl sp rd gr) rfl (fun _ => rfl) 8 (fun _ => rfl) (by decide +kernel) (by decide +kernel) (fun _ _ => ?_)
  refine J_st (st' := [.int 0]) rfl ?_
  refine J_if_ne C 58 (by decide) dX6_set_52 (fun h => absurd h (by decide)) (fun _ => ?_)
  refine J_bipush C (-2) (by decide) dX6_set_55 ?_
  exact J_zret C hr rfl dX6_set_57 () rfl trivial rfl

set_option maxHeartbeats 4000000 in
set_option maxRecDepth 100000 in
theorem ct_mSet3_2 (l : Launch) (G : GT) (mo : Nat → Nat) (σ : AS) (kf tf H sf df xf : Nat → Nat) (hn ik tl sp rd : Nat) (gr : Int32) (k : Nat) (hI : Inv σ) (hk : 0 ≤ k ∧ k ≤ 20) (he : σ 7 2 = k) : Ct (S := Unit) l G NoX yX6_set (Wy yX6_set cX6_set 4 ((Option.some Jvm.ClassFile.FieldType.int))) { frames := 1, cells := 0, slots := 0, locals := 25 } [.ref (mo 0), .int 2, .int (nI k)] (mdW G mo σ kf tf H sf df xf hn ik tl sp rd gr) (fun u => True) (fun u => some (.int (-5))) (fun u => mdW G mo σ kf tf H sf df xf hn ik tl sp rd gr) := by
  refine Ct.of (by decide) (Nat.le_of_ble_eq_true rfl) (fun p e s m args below meth c C hr hnm hX => ?_)
  have hs := hI.s
  refine J_iload_n C rfl dX6_set_0 ?_
  refine J_i2l C dX6_set_1 ?_
  refine J_lconst C 0 (by decide) dX6_set_2 ?_
  refine J_ldc2 C k696 dX6_set_3 ?_
  refine J_callS (as := [.long ((2 : Int32).toInt64), .long 0, .long 2]) (rest := []) C (ct_inY l G ((2 : Int32).toInt64) 0 2 ((in32 (zl := 0) (zh := 2) rfl rfl).mpr (by decide))) (fun u => mdW G mo σ kf tf H sf df xf hn ik tl sp rd gr) [] [0, 1, 2, 3, 4, 5, 6, 7] 3 k627 k628 k38 k629 rfl (by decide +kernel) ⟨Nat.le_of_ble_eq_true rfl, Nat.le_of_ble_eq_true rfl⟩ ⟨Nat.le_of_ble_eq_true rfl, Nat.le_of_ble_eq_true rfl⟩ dX6_set_6 (Nat.le_of_ble_eq_true rfl) rfl (by decide +kernel) (fun _ => rfl) (mdW G mo σ kf tf H sf df xf hn ik tl sp rd gr) rfl (fun _ => rfl) 8 (fun _ => rfl) (by decide +kernel) (by decide +kernel) (fun _ _ => ?_)
  refine J_st (st' := [.int 1]) rfl ?_
  refine J_if_ne C 14 (by decide) dX6_set_9 (fun _ => ?_) (fun h => absurd h (by decide))
  refine J_iload_n C rfl dX6_set_14 ?_
  refine J_i2l C dX6_set_15 ?_
  refine J_iload_n C rfl dX6_set_16 ?_
  refine J_if_ne C 24 (by decide) dX6_set_17 (fun _ => ?_) (fun h => absurd h (by decide))
  refine J_lconst C 0 (by decide) dX6_set_24 ?_
  refine J_iload_n C rfl dX6_set_25 ?_
  refine J_if_ne C 35 (by decide) dX6_set_26 (fun _ => ?_) (fun h => absurd h (by decide))
  refine J_iload_n C rfl dX6_set_35 ?_
  refine J_iconst C 1 (by decide) dX6_set_36 ?_
  refine J_icmp_ne C 46 (by decide) dX6_set_37 (fun _ => ?_) (fun h => absurd h (by decide))
  refine J_ldc2 C k698 dX6_set_46 ?_
  refine J_callS (as := [.long ((nI k).toInt64), .long 0, .long 20]) (rest := []) C (ct_inY l G ((nI k).toInt64) 0 20 ((in32 (zl := 0) (zh := 20) rfl rfl).mpr (by rw [nI_toInt (by omega)]; omega))) (fun u => mdW G mo σ kf tf H sf df xf hn ik tl sp rd gr) [] [0, 1, 2, 3, 4, 5, 6, 7] 3 k627 k628 k38 k629 rfl (by decide +kernel) ⟨Nat.le_of_ble_eq_true rfl, Nat.le_of_ble_eq_true rfl⟩ ⟨Nat.le_of_ble_eq_true rfl, Nat.le_of_ble_eq_true rfl⟩ dX6_set_49 (Nat.le_of_ble_eq_true rfl) rfl (by decide +kernel) (fun _ => rfl) (mdW G mo σ kf tf H sf df xf hn ik tl sp rd gr) rfl (fun _ => rfl) 8 (fun _ => rfl) (by decide +kernel) (by decide +kernel) (fun _ _ => ?_)
  refine J_st (st' := [.int 1]) rfl ?_
  refine J_if_ne C 58 (by decide) dX6_set_52 (fun _ => ?_) (fun h => absurd h (by decide))
  refine J_aload_n C rfl dX6_set_58 ?_
  refine J_get C 0 0 in6 rfl rfl (by decide) k575 rfl dX6_set_59 ?_
  refine J_iload_n C rfl dX6_set_62 ?_
  refine J_iald C 1 rfl 2 rfl (by decide) (Nat.le_of_ble_eq_true rfl) dX6_set_63 ?_
  refine J_i (y := nI (σ 7 2)) (rfl) ?_
  refine J_istore_n C [(3, .int (nI (σ 7 2))), (0, .ref (mo 0)), (1, .int 2), (2, .int (nI k))] (by decide) rfl dX6_set_64 ?_
  refine J_iload_n C rfl dX6_set_65 ?_
  refine J_iload_n C rfl dX6_set_66 ?_
  refine J_icmp_ne C 73 (by decide) dX6_set_67 (fun h => absurd (cv_ne_t (a := (σ 7 2)) (b := k) (by omega) (by omega) h) (by omega)) (fun c67 => ?_)
  refine J_bipush C (-5) (by decide) dX6_set_70 ?_
  exact J_zret C hr rfl dX6_set_72 () rfl trivial rfl

set_option maxHeartbeats 4000000 in
set_option maxRecDepth 100000 in
theorem ct_mSetY_2 (l : Launch) (G : GT) (mo : Nat → Nat) (σ : AS) (kf tf H sf df xf : Nat → Nat) (hn ik tl sp rd : Nat) (gr : Int32) (k : Nat) (hI : Inv σ) (h4 : hn ≤ 4) (hk : 0 ≤ k ∧ k ≤ 20) (he : ¬ σ 7 2 = k) : Ct (S := Unit) l G NoX yX6_set (Wy yX6_set cX6_set 4 ((Option.some Jvm.ClassFile.FieldType.int))) { frames := 1, cells := 0, slots := 0, locals := 25 } [.ref (mo 0), .int 2, .int (nI k)] (mdW G mo σ kf tf H sf df xf hn ik tl sp rd gr) (fun u => True) (fun u => some (.int (nI (σ 7 2)))) (fun u => mdW G mo (up2 σ 7 2 k) (rowM σ) tf (endH H (rowM σ) hn) sf df xf (sizeF hn) ik tl sp rd gr) := by
  refine Ct.of (by decide) (Nat.le_of_ble_eq_true rfl) (fun p e s m args below meth c C hr hnm hX => ?_)
  have hs := hI.s
  refine J_iload_n C rfl dX6_set_0 ?_
  refine J_i2l C dX6_set_1 ?_
  refine J_lconst C 0 (by decide) dX6_set_2 ?_
  refine J_ldc2 C k696 dX6_set_3 ?_
  refine J_callS (as := [.long ((2 : Int32).toInt64), .long 0, .long 2]) (rest := []) C (ct_inY l G ((2 : Int32).toInt64) 0 2 ((in32 (zl := 0) (zh := 2) rfl rfl).mpr (by decide))) (fun u => mdW G mo σ kf tf H sf df xf hn ik tl sp rd gr) [] [0, 1, 2, 3, 4, 5, 6, 7] 3 k627 k628 k38 k629 rfl (by decide +kernel) ⟨Nat.le_of_ble_eq_true rfl, Nat.le_of_ble_eq_true rfl⟩ ⟨Nat.le_of_ble_eq_true rfl, Nat.le_of_ble_eq_true rfl⟩ dX6_set_6 (Nat.le_of_ble_eq_true rfl) rfl (by decide +kernel) (fun _ => rfl) (mdW G mo σ kf tf H sf df xf hn ik tl sp rd gr) rfl (fun _ => rfl) 8 (fun _ => rfl) (by decide +kernel) (by decide +kernel) (fun _ _ => ?_)
  refine J_st (st' := [.int 1]) rfl ?_
  refine J_if_ne C 14 (by decide) dX6_set_9 (fun _ => ?_) (fun h => absurd h (by decide))
  refine J_iload_n C rfl dX6_set_14 ?_
  refine J_i2l C dX6_set_15 ?_
  refine J_iload_n C rfl dX6_set_16 ?_
  refine J_if_ne C 24 (by decide) dX6_set_17 (fun _ => ?_) (fun h => absurd h (by decide))
  refine J_lconst C 0 (by decide) dX6_set_24 ?_
  refine J_iload_n C rfl dX6_set_25 ?_
  refine J_if_ne C 35 (by decide) dX6_set_26 (fun _ => ?_) (fun h => absurd h (by decide))
  refine J_iload_n C rfl dX6_set_35 ?_
  refine J_iconst C 1 (by decide) dX6_set_36 ?_
  refine J_icmp_ne C 46 (by decide) dX6_set_37 (fun _ => ?_) (fun h => absurd h (by decide))
  refine J_ldc2 C k698 dX6_set_46 ?_
  refine J_callS (as := [.long ((nI k).toInt64), .long 0, .long 20]) (rest := []) C (ct_inY l G ((nI k).toInt64) 0 20 ((in32 (zl := 0) (zh := 20) rfl rfl).mpr (by rw [nI_toInt (by omega)]; omega))) (fun u => mdW G mo σ kf tf H sf df xf hn ik tl sp rd gr) [] [0, 1, 2, 3, 4, 5, 6, 7] 3 k627 k628 k38 k629 rfl (by decide +kernel) ⟨Nat.le_of_ble_eq_true rfl, Nat.le_of_ble_eq_true rfl⟩ ⟨Nat.le_of_ble_eq_true rfl, Nat.le_of_ble_eq_true rfl⟩ dX6_set_49 (Nat.le_of_ble_eq_true rfl) rfl (by decide +kernel) (fun _ => rfl) (mdW G mo σ kf tf H sf df xf hn ik tl sp rd gr) rfl (fun _ => rfl) 8 (fun _ => rfl) (by decide +kernel) (by decide +kernel) (fun _ _ => ?_)
  refine J_st (st' := [.int 1]) rfl ?_
  refine J_if_ne C 58 (by decide) dX6_set_52 (fun _ => ?_) (fun h => absurd h (by decide))
  refine J_aload_n C rfl dX6_set_58 ?_
  refine J_get C 0 0 in6 rfl rfl (by decide) k575 rfl dX6_set_59 ?_
  refine J_iload_n C rfl dX6_set_62 ?_
  refine J_iald C 1 rfl 2 rfl (by decide) (Nat.le_of_ble_eq_true rfl) dX6_set_63 ?_
  refine J_i (y := nI (σ 7 2)) (rfl) ?_
  refine J_istore_n C [(3, .int (nI (σ 7 2))), (0, .ref (mo 0)), (1, .int 2), (2, .int (nI k))] (by decide) rfl dX6_set_64 ?_
  refine J_iload_n C rfl dX6_set_65 ?_
  refine J_iload_n C rfl dX6_set_66 ?_
  refine J_icmp_ne C 73 (by decide) dX6_set_67 (fun c67 => ?_) (fun h => absurd (cv_ne_f (a := (σ 7 2)) (b := k) (by omega) (by omega) h) (by omega))
  refine J_aload_n C rfl dX6_set_73 ?_
  refine J_callV (as := []) (rest := []) C (ct_keeps l G mo σ kf tf H sf df xf hn ik tl sp rd gr) (fun u => mdW G mo σ (rowM σ) tf H sf df xf hn ik tl sp rd gr) [0, 1, 2, 3, 4, 5, 6, 7] [] 0 k638 k640 k13 k38 k641 rfl (by decide +kernel) ⟨Nat.le_of_ble_eq_true rfl, Nat.le_of_ble_eq_true rfl⟩ ⟨Nat.le_of_ble_eq_true rfl, Nat.le_of_ble_eq_true rfl⟩ dX6_set_74 (Nat.le_of_ble_eq_true rfl) 0 rfl rfl rfl (by decide +kernel) (fun _ => rfl) ([]) rfl (fun _ => rfl) 8 (fun _ => rfl) (by decide +kernel) (by decide +kernel) (fun _ _ => ?_)
  refine J_st (st' := []) rfl ?_
  refine J_ws (ws' := mdW G mo σ (rowM σ) tf H sf df xf hn ik tl sp rd gr) rfl ?_
  refine J_aload_n C rfl dX6_set_77 ?_
  refine J_get C 0 0 in6 rfl rfl (by decide) k575 rfl dX6_set_78 ?_
  refine J_iload_n C rfl dX6_set_81 ?_
  refine J_iload_n C rfl dX6_set_82 ?_
  refine J_iast C 1 ([(mo 0, .inr (6, [.ref (mo 1), .ref (mo 2), .ref (mo 3), .ref (mo 4), .int (nI hn), .ref (mo 5), .int (nI ik), .ref (mo 6), .ref (mo 7), .int (nI tl), .int (nI sp), .int (nI rd), .int gr])), (mo 1, .inl (G.2.1, 246, .inl (upd (fun q => nI ((rowM σ) q)) 2 (nI k)))), (mo 2, .inl (G.2.1, 246, .inl (fun q => nI ((rowM σ) q)))), (mo 3, .inl (G.2.1, 246, .inl (fun q => nI (tf q)))), (mo 4, .inl (G.2.1, 984, .inl (fun q => nI (H q)))), (mo 5, .inl (G.2.1, 246, .inl (fun q => nI (sf q)))), (mo 6, .inl (G.2.1, 40, .inl (fun q => nI (df q)))), (mo 7, .inl (G.2.1, 60, .inl (fun q => nI (xf q))))]) rfl 2 rfl (by decide) (Nat.le_of_ble_eq_true rfl) rfl dX6_set_83 ?_
  refine J_arr 1 (fun q => nI (rowM (up2 σ 7 2 k) q)) rfl (fun q _ => congrFun (rowM_u7 σ k (by decide)) q) ?_
  refine J_ws (ws' := mdW G mo (up2 σ 7 2 k) (rowM σ) tf H sf df xf hn ik tl sp rd gr) rfl ?_
  refine J_aload_n C rfl dX6_set_84 ?_
  refine J_iload_n C rfl dX6_set_85 ?_
  refine J_callV (as := [.int (nI (σ 7 2))]) (rest := []) C (ct_ends l G mo (up2 σ 7 2 k) (rowM σ) tf H sf df xf hn ik tl sp rd gr (nI (σ 7 2)) h4) (fun u => mdW G mo (up2 σ 7 2 k) (rowM σ) tf (endH H (rowM σ) hn) sf df xf (sizeF hn) ik tl sp rd gr) [0, 1, 2, 3, 4, 5, 6, 7] [] 1 k642 k644 k14 k38 k645 rfl (by decide +kernel) ⟨Nat.le_of_ble_eq_true rfl, Nat.le_of_ble_eq_true rfl⟩ ⟨Nat.le_of_ble_eq_true rfl, Nat.le_of_ble_eq_true rfl⟩ dX6_set_86 (Nat.le_of_ble_eq_true rfl) 0 rfl rfl rfl (by decide +kernel) (fun _ => rfl) ([]) rfl (fun _ => rfl) 8 (fun _ => rfl) (by decide +kernel) (by decide +kernel) (fun _ _ => ?_)
  refine J_st (st' := [.int (nI (σ 7 2))]) rfl ?_
  exact J_zret C hr rfl dX6_set_89 () rfl trivial rfl
