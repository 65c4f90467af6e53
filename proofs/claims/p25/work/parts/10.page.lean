set_option maxHeartbeats 4000000 in
set_option maxRecDepth 100000 in
theorem ct_has (l : Launch) (G : GT) (a : Nat → Nat) (σ : AS) (d : Nat → Nat) (x : Int32) (hn : σ 0 4 ≤ 40) : Ct (S := Unit) l G NoX yX1_has (Wy yX1_has cX1_has 2 ((Option.some Jvm.ClassFile.FieldType.boolean))) { frames := 0, cells := 0, slots := 0, locals := 0 } [.ref (a 1), .int x] (pgW G a σ d) (fun u => True) (fun u => some (.int (if isPl σ x then 1 else 0))) (fun u => pgW G a σ d) := by
  refine Ct.of (by decide) (Nat.le_of_ble_eq_true rfl) (fun p e s m args below meth c C hr hnm hX => ?_)
  refine J_iload_n C rfl dX1_has_0 ?_
  refine J_if_lt C 16 (by decide) dX1_has_1 (fun c1 => ?_) (fun c1 => ?_)
  · skip
    refine J_iconst C 0 (by decide) dX1_has_16 ?_
    exact J_zret C hr rfl dX1_has_17 () (by rw [if_neg (isPl_lt c1)]) trivial rfl
  · skip
    refine J_iload_n C rfl dX1_has_4 ?_
    refine J_aload_n C rfl dX1_has_5 ?_
    refine J_get C 0 6 in1 rfl rfl (by decide) k51 rfl dX1_has_6 ?_
    refine J_icmp_ge C 16 (by decide) dX1_has_9 (fun c9 => ?_) (fun c9 => ?_)
    · skip
      refine J_iconst C 0 (by decide) dX1_has_16 ?_
      exact J_zret C hr rfl dX1_has_17 () (by rw [if_neg (isPl_ge hn c9)]) trivial rfl
    · skip
      refine J_iconst C 1 (by decide) dX1_has_12 ?_
      refine J_goto C 17 (by decide) dX1_has_13 ?_
      exact J_zret C hr rfl dX1_has_17 () (by rw [if_pos (isPl_ok hn c1 c9)]) trivial rfl

set_option maxHeartbeats 4000000 in
set_option maxRecDepth 100000 in
theorem ct_mirrorOf (l : Launch) (G : GT) (a : Nat → Nat) (σ : AS) (d : Nat → Nat) (j : Nat) (hn : σ 0 4 ≤ 40) (hj : j < σ 0 4) : Ct (S := Unit) l G NoX yX1_mirrorOf (Wy yX1_mirrorOf cX1_mirrorOf 2 ((Option.some Jvm.ClassFile.FieldType.int))) { frames := 0, cells := 0, slots := 0, locals := 0 } [.ref (a 1), .int (nI j)] (pgW G a σ d) (fun u => True) (fun u => some (.int (nI (σ 0 4 - 1 - j)))) (fun u => pgW G a σ d) := by
  refine Ct.of (by decide) (Nat.le_of_ble_eq_true rfl) (fun p e s m args below meth c C hr hnm hX => ?_)
  refine J_aload_n C rfl dX1_mirrorOf_0 ?_
  refine J_get C 0 6 in1 rfl rfl (by decide) k51 rfl dX1_mirrorOf_1 ?_
  refine J_iconst C 1 (by decide) dX1_mirrorOf_4 ?_
  refine J_isub C dX1_mirrorOf_5 ?_
  refine J_i (pk_sub (a := σ 0 4) (b := 1) (by omega) : ((nI (σ 0 4)) - 1 : Int32) = (nI (σ 0 4 - 1))) ?_
  refine J_iload_n C rfl dX1_mirrorOf_6 ?_
  refine J_isub C dX1_mirrorOf_7 ?_
  refine J_i (pk_sub (a := σ 0 4 - 1) (b := j) (by omega) : ((nI (σ 0 4 - 1)) - (nI j) : Int32) = (nI ((σ 0 4 - 1) - j))) ?_
  exact J_zret C hr rfl dX1_mirrorOf_8 () rfl trivial rfl

set_option maxHeartbeats 4000000 in
set_option maxRecDepth 100000 in
theorem ct_letterFor (l : Launch) (G : GT) (a : Nat → Nat) (σ : AS) (d : Nat → Nat) (j : Nat) (hI : Inv σ) (hD : DOK σ d) (hj : j < σ 0 4) : Ct (S := Unit) l G NoX yX1_letterFor (Wy yX1_letterFor cX1_letterFor 3 ((Option.some Jvm.ClassFile.FieldType.int))) { frames := 1, cells := 0, slots := 0, locals := 21 } [.ref (a 1), .int (nI j)] (pgW G a σ d) (fun u => True) (fun u => some (.int (nI (letAt σ j)))) (fun u => pgW G a σ d) := by
  refine Ct.of (by decide) (Nat.le_of_ble_eq_true rfl) (fun p e s m args below meth c C hr hnm hX => ?_)
  have h40 := hI.a
  have hq := hI.q (q := j) (by omega)
  refine J_aload_n C rfl dX1_letterFor_0 ?_
  refine J_get C 0 1 in1 rfl rfl (by decide) k41 rfl dX1_letterFor_1 ?_
  refine J_iload_n C rfl dX1_letterFor_4 ?_
  refine J_callSN (as := [.ref (a 3), .int (nI j)]) (rest := []) C (ct_at l G (a 3) 40 (fun q => nI (σ 2 q)) j (by omega) (by decide)) (fun u => pgW G a σ d) [2] [0, 1, 3, 4, 5, 6] 2 nmTwoScribes_Page_56 k340 k10 k341 rfl (by decide +kernel) ⟨Nat.le_of_ble_eq_true rfl, Nat.le_of_ble_eq_true rfl⟩ ⟨Nat.le_of_ble_eq_true rfl, Nat.le_of_ble_eq_true rfl⟩ dX1_letterFor_5 (Nat.le_of_ble_eq_true rfl) rfl (by decide +kernel) (fun _ => rfl) ([(a 1, .inr (1, [.ref (a 2), .ref (a 3), .ref (a 4), .ref (a 5), .ref (a 6), .ref (a 7), .int (nI (σ 0 4)), .int (nI (σ 0 5))])), (a 2, .inl (G.2.1, 40, .inl (fun q => nI (d q)))), (a 4, .inl (G.2.1, 40, .inl (fun q => nI (σ 3 q)))), (a 5, .inl (G.2.1, 40, .inl (fun q => nI (σ 6 q)))), (a 6, .inl (G.2.1, 40, .inl (fun q => nI (σ 4 q)))), (a 7, .inl (G.2.1, 40, .inl (fun q => nI (σ 5 q))))]) rfl (fun _ => rfl) 7 (fun _ => rfl) (by decide +kernel) (by decide +kernel) (fun _ _ => ?_)
  refine J_st (st' := [.int (nI (σ 2 j))]) rfl ?_
  refine J_istore_n C [(2, .int (nI (σ 2 j))), (0, .ref (a 1)), (1, .int (nI j))] (by decide) rfl dX1_letterFor_8 ?_
  refine J_iload_n C rfl dX1_letterFor_9 ?_
  refine J_if_eq C 17 (by decide) dX1_letterFor_10 (fun c10 => ?_) (fun c10 => ?_)
  · skip
    have c10 := cv_eq_t (a := (σ 2 j)) (b := 0) (by omega) (by omega) c10
    refine J_aload_n C rfl dX1_letterFor_17 ?_
    refine J_get C 0 0 in1 rfl rfl (by decide) k38 rfl dX1_letterFor_18 ?_
    refine J_iload_n C rfl dX1_letterFor_21 ?_
    refine J_callSN (as := [.ref (a 2), .int (nI j)]) (rest := []) C (ct_at l G (a 2) 40 (fun q => nI (d q)) j (by omega) (by decide)) (fun u => pgW G a σ d) [1] [0, 2, 3, 4, 5, 6] 2 nmTwoScribes_Page_56 k340 k10 k341 rfl (by decide +kernel) ⟨Nat.le_of_ble_eq_true rfl, Nat.le_of_ble_eq_true rfl⟩ ⟨Nat.le_of_ble_eq_true rfl, Nat.le_of_ble_eq_true rfl⟩ dX1_letterFor_22 (Nat.le_of_ble_eq_true rfl) rfl (by decide +kernel) (fun _ => rfl) ([(a 1, .inr (1, [.ref (a 2), .ref (a 3), .ref (a 4), .ref (a 5), .ref (a 6), .ref (a 7), .int (nI (σ 0 4)), .int (nI (σ 0 5))])), (a 3, .inl (G.2.1, 40, .inl (fun q => nI (σ 2 q)))), (a 4, .inl (G.2.1, 40, .inl (fun q => nI (σ 3 q)))), (a 5, .inl (G.2.1, 40, .inl (fun q => nI (σ 6 q)))), (a 6, .inl (G.2.1, 40, .inl (fun q => nI (σ 4 q)))), (a 7, .inl (G.2.1, 40, .inl (fun q => nI (σ 5 q))))]) rfl (fun _ => rfl) 7 (fun _ => rfl) (by decide +kernel) (by decide +kernel) (fun _ _ => ?_)
    refine J_st (st' := [.int (nI (d j))]) rfl ?_
    exact J_zret C hr rfl dX1_letterFor_25 () (by unfold letAt; rw [if_neg (by omega), ← hD j hj]) trivial rfl
  · skip
    have c10 := cv_eq_f (a := (σ 2 j)) (b := 0) (by omega) (by omega) c10
    refine J_iload_n C rfl dX1_letterFor_13 ?_
    refine J_goto C 25 (by decide) dX1_letterFor_14 ?_
    exact J_zret C hr rfl dX1_letterFor_25 () (by unfold letAt; rw [if_pos (by omega)]) trivial rfl

set_option maxHeartbeats 4000000 in
set_option maxRecDepth 100000 in
theorem ct_isWritten (l : Launch) (G : GT) (a : Nat → Nat) (σ : AS) (d : Nat → Nat) (j : Nat) (hj : j < 40) (hb : σ 3 j ≤ 26) : Ct (S := Unit) l G NoX yX1_isWritten (Wy yX1_isWritten cX1_isWritten 2 ((Option.some Jvm.ClassFile.FieldType.boolean))) { frames := 1, cells := 0, slots := 0, locals := 21 } [.ref (a 1), .int (nI j)] (pgW G a σ d) (fun u => True) (fun u => some (.int (if 0 < σ 3 j then 1 else 0))) (fun u => pgW G a σ d) := by
  refine Ct.of (by decide) (Nat.le_of_ble_eq_true rfl) (fun p e s m args below meth c C hr hnm hX => ?_)
  refine J_aload_n C rfl dX1_isWritten_0 ?_
  refine J_get C 0 2 in1 rfl rfl (by decide) k43 rfl dX1_isWritten_1 ?_
  refine J_iload_n C rfl dX1_isWritten_4 ?_
  refine J_callSN (as := [.ref (a 4), .int (nI j)]) (rest := []) C (ct_at l G (a 4) 40 (fun q => nI (σ 3 q)) j (by omega) (by decide)) (fun u => pgW G a σ d) [3] [0, 1, 2, 4, 5, 6] 2 nmTwoScribes_Page_56 k340 k10 k341 rfl (by decide +kernel) ⟨Nat.le_of_ble_eq_true rfl, Nat.le_of_ble_eq_true rfl⟩ ⟨Nat.le_of_ble_eq_true rfl, Nat.le_of_ble_eq_true rfl⟩ dX1_isWritten_5 (Nat.le_of_ble_eq_true rfl) rfl (by decide +kernel) (fun _ => rfl) ([(a 1, .inr (1, [.ref (a 2), .ref (a 3), .ref (a 4), .ref (a 5), .ref (a 6), .ref (a 7), .int (nI (σ 0 4)), .int (nI (σ 0 5))])), (a 2, .inl (G.2.1, 40, .inl (fun q => nI (d q)))), (a 3, .inl (G.2.1, 40, .inl (fun q => nI (σ 2 q)))), (a 5, .inl (G.2.1, 40, .inl (fun q => nI (σ 6 q)))), (a 6, .inl (G.2.1, 40, .inl (fun q => nI (σ 4 q)))), (a 7, .inl (G.2.1, 40, .inl (fun q => nI (σ 5 q))))]) rfl (fun _ => rfl) 7 (fun _ => rfl) (by decide +kernel) (by decide +kernel) (fun _ _ => ?_)
  refine J_st (st' := [.int (nI (σ 3 j))]) rfl ?_
  refine J_if_eq C 15 (by decide) dX1_isWritten_8 (fun c8 => ?_) (fun c8 => ?_)
  · skip
    have c8 := cv_eq_t (a := (σ 3 j)) (b := 0) (by omega) (by omega) c8
    refine J_iconst C 0 (by decide) dX1_isWritten_15 ?_
    exact J_zret C hr rfl dX1_isWritten_16 () (by rw [if_neg (by omega)]) trivial rfl
  · skip
    have c8 := cv_eq_f (a := (σ 3 j)) (b := 0) (by omega) (by omega) c8
    refine J_iconst C 1 (by decide) dX1_isWritten_11 ?_
    refine J_goto C 16 (by decide) dX1_isWritten_12 ?_
    exact J_zret C hr rfl dX1_isWritten_16 () (by rw [if_pos (by omega)]) trivial rfl

set_option maxHeartbeats 4000000 in
set_option maxRecDepth 100000 in
theorem ct_isFaultless (l : Launch) (G : GT) (a : Nat → Nat) (σ : AS) (d : Nat → Nat) (j : Nat) (hI : Inv σ) (hD : DOK σ d) (hj : j < σ 0 4) : Ct (S := Unit) l G NoX yX1_isFaultless (Wy yX1_isFaultless cX1_isFaultless 2 ((Option.some Jvm.ClassFile.FieldType.boolean))) { frames := 1, cells := 0, slots := 0, locals := 21 } [.ref (a 1), .int (nI j)] (pgW G a σ d) (fun u => True) (fun u => some (.int (if σ 3 j = dueAt σ j ∧ σ 4 j = 0 then 1 else 0))) (fun u => pgW G a σ d) := by
  refine Ct.of (by decide) (Nat.le_of_ble_eq_true rfl) (fun p e s m args below meth c C hr hnm hX => ?_)
  have h40 := hI.a
  have hq := hI.q (q := j) (by omega)
  have hdj := hD j hj
  have hdu := hI.due hj
  refine J_aload_n C rfl dX1_isFaultless_0 ?_
  refine J_get C 0 2 in1 rfl rfl (by decide) k43 rfl dX1_isFaultless_1 ?_
  refine J_iload_n C rfl dX1_isFaultless_4 ?_
  refine J_callSN (as := [.ref (a 4), .int (nI j)]) (rest := []) C (ct_at l G (a 4) 40 (fun q => nI (σ 3 q)) j (by omega) (by decide)) (fun u => pgW G a σ d) [3] [0, 1, 2, 4, 5, 6] 2 nmTwoScribes_Page_56 k340 k10 k341 rfl (by decide +kernel) ⟨Nat.le_of_ble_eq_true rfl, Nat.le_of_ble_eq_true rfl⟩ ⟨Nat.le_of_ble_eq_true rfl, Nat.le_of_ble_eq_true rfl⟩ dX1_isFaultless_5 (Nat.le_of_ble_eq_true rfl) rfl (by decide +kernel) (fun _ => rfl) ([(a 1, .inr (1, [.ref (a 2), .ref (a 3), .ref (a 4), .ref (a 5), .ref (a 6), .ref (a 7), .int (nI (σ 0 4)), .int (nI (σ 0 5))])), (a 2, .inl (G.2.1, 40, .inl (fun q => nI (d q)))), (a 3, .inl (G.2.1, 40, .inl (fun q => nI (σ 2 q)))), (a 5, .inl (G.2.1, 40, .inl (fun q => nI (σ 6 q)))), (a 6, .inl (G.2.1, 40, .inl (fun q => nI (σ 4 q)))), (a 7, .inl (G.2.1, 40, .inl (fun q => nI (σ 5 q))))]) rfl (fun _ => rfl) 7 (fun _ => rfl) (by decide +kernel) (by decide +kernel) (fun _ _ => ?_)
  refine J_st (st' := [.int (nI (σ 3 j))]) rfl ?_
  refine J_aload_n C rfl dX1_isFaultless_8 ?_
  refine J_get C 0 0 in1 rfl rfl (by decide) k38 rfl dX1_isFaultless_9 ?_
  refine J_iload_n C rfl dX1_isFaultless_12 ?_
  refine J_callSN (as := [.ref (a 2), .int (nI j)]) (rest := [.int (nI (σ 3 j))]) C (ct_at l G (a 2) 40 (fun q => nI (d q)) j (by omega) (by decide)) (fun u => pgW G a σ d) [1] [0, 2, 3, 4, 5, 6] 2 nmTwoScribes_Page_56 k340 k10 k341 rfl (by decide +kernel) ⟨Nat.le_of_ble_eq_true rfl, Nat.le_of_ble_eq_true rfl⟩ ⟨Nat.le_of_ble_eq_true rfl, Nat.le_of_ble_eq_true rfl⟩ dX1_isFaultless_13 (Nat.le_of_ble_eq_true rfl) rfl (by decide +kernel) (fun _ => rfl) ([(a 1, .inr (1, [.ref (a 2), .ref (a 3), .ref (a 4), .ref (a 5), .ref (a 6), .ref (a 7), .int (nI (σ 0 4)), .int (nI (σ 0 5))])), (a 3, .inl (G.2.1, 40, .inl (fun q => nI (σ 2 q)))), (a 4, .inl (G.2.1, 40, .inl (fun q => nI (σ 3 q)))), (a 5, .inl (G.2.1, 40, .inl (fun q => nI (σ 6 q)))), (a 6, .inl (G.2.1, 40, .inl (fun q => nI (σ 4 q)))), (a 7, .inl (G.2.1, 40, .inl (fun q => nI (σ 5 q))))]) rfl (fun _ => rfl) 7 (fun _ => rfl) (by decide +kernel) (by decide +kernel) (fun _ _ => ?_)
  refine J_st (st' := [.int (nI (d j)), .int (nI (σ 3 j))]) rfl ?_
  refine J_icmp_ne C 34 (by decide) dX1_isFaultless_16 (fun c16 => ?_) (fun c16 => ?_)
  · skip
    have c16 := cv_ne_t (a := (σ 3 j)) (b := (d j)) (by omega) (by omega) c16
    refine J_iconst C 0 (by decide) dX1_isFaultless_34 ?_
    exact J_zret C hr rfl dX1_isFaultless_35 () (by rw [if_neg (by omega)]) trivial rfl
  · skip
    have c16 := cv_ne_f (a := (σ 3 j)) (b := (d j)) (by omega) (by omega) c16
    refine J_aload_n C rfl dX1_isFaultless_19 ?_
    refine J_get C 0 4 in1 rfl rfl (by decide) k47 rfl dX1_isFaultless_20 ?_
    refine J_iload_n C rfl dX1_isFaultless_23 ?_
    refine J_callSN (as := [.ref (a 6), .int (nI j)]) (rest := []) C (ct_at l G (a 6) 40 (fun q => nI (σ 4 q)) j (by omega) (by decide)) (fun u => pgW G a σ d) [5] [0, 1, 2, 3, 4, 6] 2 nmTwoScribes_Page_56 k340 k10 k341 rfl (by decide +kernel) ⟨Nat.le_of_ble_eq_true rfl, Nat.le_of_ble_eq_true rfl⟩ ⟨Nat.le_of_ble_eq_true rfl, Nat.le_of_ble_eq_true rfl⟩ dX1_isFaultless_24 (Nat.le_of_ble_eq_true rfl) rfl (by decide +kernel) (fun _ => rfl) ([(a 1, .inr (1, [.ref (a 2), .ref (a 3), .ref (a 4), .ref (a 5), .ref (a 6), .ref (a 7), .int (nI (σ 0 4)), .int (nI (σ 0 5))])), (a 2, .inl (G.2.1, 40, .inl (fun q => nI (d q)))), (a 3, .inl (G.2.1, 40, .inl (fun q => nI (σ 2 q)))), (a 4, .inl (G.2.1, 40, .inl (fun q => nI (σ 3 q)))), (a 5, .inl (G.2.1, 40, .inl (fun q => nI (σ 6 q)))), (a 7, .inl (G.2.1, 40, .inl (fun q => nI (σ 5 q))))]) rfl (fun _ => rfl) 7 (fun _ => rfl) (by decide +kernel) (by decide +kernel) (fun _ _ => ?_)
    refine J_st (st' := [.int (nI (σ 4 j))]) rfl ?_
    refine J_if_ne C 34 (by decide) dX1_isFaultless_27 (fun c27 => ?_) (fun c27 => ?_)
    · skip
      have c27 := cv_ne_t (a := (σ 4 j)) (b := 0) (by omega) (by omega) c27
      refine J_iconst C 0 (by decide) dX1_isFaultless_34 ?_
      exact J_zret C hr rfl dX1_isFaultless_35 () (by rw [if_neg (by omega)]) trivial rfl
    · skip
      have c27 := cv_ne_f (a := (σ 4 j)) (b := 0) (by omega) (by omega) c27
      refine J_iconst C 1 (by decide) dX1_isFaultless_30 ?_
      refine J_goto C 35 (by decide) dX1_isFaultless_31 ?_
      exact J_zret C hr rfl dX1_isFaultless_35 () (by rw [if_pos (by omega)]) trivial rfl

set_option maxHeartbeats 4000000 in
set_option maxRecDepth 100000 in
theorem ct_areUnlike (l : Launch) (G : GT) (a : Nat → Nat) (σ : AS) (d : Nat → Nat) (j k : Nat) (hI : Inv σ) (hj : j < σ 0 4) (hk : k < σ 0 4) : Ct (S := Unit) l G NoX yX1_areUnlike (Wy yX1_areUnlike cX1_areUnlike 3 ((Option.some Jvm.ClassFile.FieldType.boolean))) { frames := 2, cells := 0, slots := 0, locals := 42 } [.ref (a 1), .int (nI j), .int (nI k)] (pgW G a σ d) (fun u => True) (fun u => some (.int (if 0 < σ 3 j ∧ 0 < σ 3 k ∧ ¬ σ 3 j = σ 3 k then 1 else 0))) (fun u => pgW G a σ d) := by
  refine Ct.of (by decide) (Nat.le_of_ble_eq_true rfl) (fun p e s m args below meth c C hr hnm hX => ?_)
  have h40 := hI.a
  have hq := hI.q (q := j) (by omega)
  have hq2 := hI.q (q := k) (by omega)
  refine J_aload_n C rfl dX1_areUnlike_0 ?_
  refine J_iload_n C rfl dX1_areUnlike_1 ?_
  refine J_callV (as := [.int (nI j)]) (rest := []) C (ct_isWritten l G a σ d j (by omega) (by omega)) (fun u => pgW G a σ d) [0, 1, 2, 3, 4, 5, 6] [] 1 k398 k364 k365 k12 k366 rfl (by decide +kernel) ⟨Nat.le_of_ble_eq_true rfl, Nat.le_of_ble_eq_true rfl⟩ ⟨Nat.le_of_ble_eq_true rfl, Nat.le_of_ble_eq_true rfl⟩ dX1_areUnlike_2 (Nat.le_of_ble_eq_true rfl) 0 rfl rfl rfl (by decide +kernel) (fun _ => rfl) ([]) rfl (fun _ => rfl) 7 (fun _ => rfl) (by decide +kernel) (by decide +kernel) (fun _ _ => ?_)
  refine J_st (st' := [.int (if 0 < σ 3 j then 1 else 0)]) rfl ?_
  refine J_if_eq C 39 (by decide) dX1_areUnlike_5 (fun c5 => ?_) (fun c5 => ?_)
  · skip
    have c5 : ¬ (0 < σ 3 j) := fun q => by rw [if_pos q] at c5; exact absurd c5 (by decide)
    refine J_iconst C 0 (by decide) dX1_areUnlike_39 ?_
    exact J_zret C hr rfl dX1_areUnlike_40 () (by rw [if_neg (by omega)]) trivial rfl
  · skip
    have c5 : 0 < σ 3 j := Classical.byContradiction fun q => c5 (by rw [if_neg q])
    refine J_aload_n C rfl dX1_areUnlike_8 ?_
    refine J_iload_n C rfl dX1_areUnlike_9 ?_
    refine J_callV (as := [.int (nI k)]) (rest := []) C (ct_isWritten l G a σ d k (by omega) (by omega)) (fun u => pgW G a σ d) [0, 1, 2, 3, 4, 5, 6] [] 1 k398 k364 k365 k12 k366 rfl (by decide +kernel) ⟨Nat.le_of_ble_eq_true rfl, Nat.le_of_ble_eq_true rfl⟩ ⟨Nat.le_of_ble_eq_true rfl, Nat.le_of_ble_eq_true rfl⟩ dX1_areUnlike_10 (Nat.le_of_ble_eq_true rfl) 0 rfl rfl rfl (by decide +kernel) (fun _ => rfl) ([]) rfl (fun _ => rfl) 7 (fun _ => rfl) (by decide +kernel) (by decide +kernel) (fun _ _ => ?_)
    refine J_st (st' := [.int (if 0 < σ 3 k then 1 else 0)]) rfl ?_
    refine J_if_eq C 39 (by decide) dX1_areUnlike_13 (fun c13 => ?_) (fun c13 => ?_)
    · skip
      have c13 : ¬ (0 < σ 3 k) := fun q => by rw [if_pos q] at c13; exact absurd c13 (by decide)
      refine J_iconst C 0 (by decide) dX1_areUnlike_39 ?_
      exact J_zret C hr rfl dX1_areUnlike_40 () (by rw [if_neg (by omega)]) trivial rfl
    · skip
      have c13 : 0 < σ 3 k := Classical.byContradiction fun q => c13 (by rw [if_neg q])
      refine J_aload_n C rfl dX1_areUnlike_16 ?_
      refine J_get C 0 2 in1 rfl rfl (by decide) k43 rfl dX1_areUnlike_17 ?_
      refine J_iload_n C rfl dX1_areUnlike_20 ?_
      refine J_callSN (as := [.ref (a 4), .int (nI j)]) (rest := []) C (ct_at l G (a 4) 40 (fun q => nI (σ 3 q)) j (by omega) (by decide)) (fun u => pgW G a σ d) [3] [0, 1, 2, 4, 5, 6] 2 nmTwoScribes_Page_56 k340 k10 k341 rfl (by decide +kernel) ⟨Nat.le_of_ble_eq_true rfl, Nat.le_of_ble_eq_true rfl⟩ ⟨Nat.le_of_ble_eq_true rfl, Nat.le_of_ble_eq_true rfl⟩ dX1_areUnlike_21 (Nat.le_of_ble_eq_true rfl) rfl (by decide +kernel) (fun _ => rfl) ([(a 1, .inr (1, [.ref (a 2), .ref (a 3), .ref (a 4), .ref (a 5), .ref (a 6), .ref (a 7), .int (nI (σ 0 4)), .int (nI (σ 0 5))])), (a 2, .inl (G.2.1, 40, .inl (fun q => nI (d q)))), (a 3, .inl (G.2.1, 40, .inl (fun q => nI (σ 2 q)))), (a 5, .inl (G.2.1, 40, .inl (fun q => nI (σ 6 q)))), (a 6, .inl (G.2.1, 40, .inl (fun q => nI (σ 4 q)))), (a 7, .inl (G.2.1, 40, .inl (fun q => nI (σ 5 q))))]) rfl (fun _ => rfl) 7 (fun _ => rfl) (by decide +kernel) (by decide +kernel) (fun _ _ => ?_)
      refine J_st (st' := [.int (nI (σ 3 j))]) rfl ?_
      refine J_aload_n C rfl dX1_areUnlike_24 ?_
      refine J_get C 0 2 in1 rfl rfl (by decide) k43 rfl dX1_areUnlike_25 ?_
      refine J_iload_n C rfl dX1_areUnlike_28 ?_
      refine J_callSN (as := [.ref (a 4), .int (nI k)]) (rest := [.int (nI (σ 3 j))]) C (ct_at l G (a 4) 40 (fun q => nI (σ 3 q)) k (by omega) (by decide)) (fun u => pgW G a σ d) [3] [0, 1, 2, 4, 5, 6] 2 nmTwoScribes_Page_56 k340 k10 k341 rfl (by decide +kernel) ⟨Nat.le_of_ble_eq_true rfl, Nat.le_of_ble_eq_true rfl⟩ ⟨Nat.le_of_ble_eq_true rfl, Nat.le_of_ble_eq_true rfl⟩ dX1_areUnlike_29 (Nat.le_of_ble_eq_true rfl) rfl (by decide +kernel) (fun _ => rfl) ([(a 1, .inr (1, [.ref (a 2), .ref (a 3), .ref (a 4), .ref (a 5), .ref (a 6), .ref (a 7), .int (nI (σ 0 4)), .int (nI (σ 0 5))])), (a 2, .inl (G.2.1, 40, .inl (fun q => nI (d q)))), (a 3, .inl (G.2.1, 40, .inl (fun q => nI (σ 2 q)))), (a 5, .inl (G.2.1, 40, .inl (fun q => nI (σ 6 q)))), (a 6, .inl (G.2.1, 40, .inl (fun q => nI (σ 4 q)))), (a 7, .inl (G.2.1, 40, .inl (fun q => nI (σ 5 q))))]) rfl (fun _ => rfl) 7 (fun _ => rfl) (by decide +kernel) (by decide +kernel) (fun _ _ => ?_)
      refine J_st (st' := [.int (nI (σ 3 k)), .int (nI (σ 3 j))]) rfl ?_
      refine J_icmp_eq C 39 (by decide) dX1_areUnlike_32 (fun c32 => ?_) (fun c32 => ?_)
      · skip
        have c32 := cv_eq_t (a := (σ 3 j)) (b := (σ 3 k)) (by omega) (by omega) c32
        refine J_iconst C 0 (by decide) dX1_areUnlike_39 ?_
        exact J_zret C hr rfl dX1_areUnlike_40 () (by rw [if_neg (by omega)]) trivial rfl
      · skip
        have c32 := cv_eq_f (a := (σ 3 j)) (b := (σ 3 k)) (by omega) (by omega) c32
        refine J_iconst C 1 (by decide) dX1_areUnlike_35 ?_
        refine J_goto C 40 (by decide) dX1_areUnlike_36 ?_
        exact J_zret C hr rfl dX1_areUnlike_40 () (by rw [if_pos (by omega)]) trivial rfl

set_option maxHeartbeats 4000000 in
set_option maxRecDepth 100000 in
theorem ct_write (l : Launch) (G : GT) (a : Nat → Nat) (σ : AS) (d : Nat → Nat) (j x b t : Nat) (hj : j < 40) (hb : b ≤ 1) : Ct (S := Unit) l G NoX yX1_write (Wy yX1_write cX1_write 5 ((Option.none : Option Jvm.ClassFile.FieldType))) { frames := 1, cells := 0, slots := 0, locals := 22 } [.ref (a 1), .int (nI j), .int (nI x), .int (nI b), .int (nI t)] (pgW G a σ d) (fun u => True) (fun u => none) (fun u => pgW G a (up2 (up2 (up2 σ 3 j x) 4 j b) 6 j t) d) := by
  refine Ct.of (by decide) (Nat.le_of_ble_eq_true rfl) (fun p e s m args below meth c C hr hnm hX => ?_)
  refine J_aload_n C rfl dX1_write_0 ?_
  refine J_get C 0 2 in1 rfl rfl (by decide) k43 rfl dX1_write_1 ?_
  refine J_iload_n C rfl dX1_write_4 ?_
  refine J_iload_n C rfl dX1_write_5 ?_
  refine J_callSN (as := [.ref (a 4), .int (nI j), .int (nI x)]) (rest := []) C (ct_putN l G (a 4) 40 (σ 3) j x (by omega) (by decide)) (fun u => [(a 1, .inr (1, [.ref (a 2), .ref (a 3), .ref (a 4), .ref (a 5), .ref (a 6), .ref (a 7), .int (nI (σ 0 4)), .int (nI (σ 0 5))])), (a 2, .inl (G.2.1, 40, .inl (fun q => nI (d q)))), (a 3, .inl (G.2.1, 40, .inl (fun q => nI (σ 2 q)))), (a 4, .inl (G.2.1, 40, .inl (fun q => nI (if q = j then x else (σ 3) q)))), (a 5, .inl (G.2.1, 40, .inl (fun q => nI (σ 6 q)))), (a 6, .inl (G.2.1, 40, .inl (fun q => nI (σ 4 q)))), (a 7, .inl (G.2.1, 40, .inl (fun q => nI (σ 5 q))))]) [3] [0, 1, 2, 4, 5, 6] 3 nmTwoScribes_Page_60 k283 k10 k284 rfl (by decide +kernel) ⟨Nat.le_of_ble_eq_true rfl, Nat.le_of_ble_eq_true rfl⟩ ⟨Nat.le_of_ble_eq_true rfl, Nat.le_of_ble_eq_true rfl⟩ dX1_write_6 (Nat.le_of_ble_eq_true rfl) rfl (by decide +kernel) (fun _ => rfl) ([(a 1, .inr (1, [.ref (a 2), .ref (a 3), .ref (a 4), .ref (a 5), .ref (a 6), .ref (a 7), .int (nI (σ 0 4)), .int (nI (σ 0 5))])), (a 2, .inl (G.2.1, 40, .inl (fun q => nI (d q)))), (a 3, .inl (G.2.1, 40, .inl (fun q => nI (σ 2 q)))), (a 5, .inl (G.2.1, 40, .inl (fun q => nI (σ 6 q)))), (a 6, .inl (G.2.1, 40, .inl (fun q => nI (σ 4 q)))), (a 7, .inl (G.2.1, 40, .inl (fun q => nI (σ 5 q))))]) rfl (fun _ => rfl) 7 (fun _ => rfl) (by decide +kernel) (by decide +kernel) (fun _ _ => ?_)
  refine J_st (st' := []) rfl ?_
  refine J_aload_n C rfl dX1_write_9 ?_
  refine J_get C 0 4 in1 rfl rfl (by decide) k47 rfl dX1_write_10 ?_
  refine J_iload_n C rfl dX1_write_13 ?_
  refine J_iload_n C rfl dX1_write_14 ?_
  refine J_if_eq C 22 (by decide) dX1_write_15 (fun c15 => ?_) (fun c15 => ?_)
  · skip
    have c15 := cv_eq_t (a := b) (b := 0) (by omega) (by omega) c15
    subst c15
    refine J_iconst C 0 (by decide) dX1_write_22 ?_
    refine J_callSN (as := [.ref (a 6), .int (nI j), .int 0]) (rest := []) C (ct_putN l G (a 6) 40 (σ 4) j 0 (by omega) (by decide)) (fun u => [(a 1, .inr (1, [.ref (a 2), .ref (a 3), .ref (a 4), .ref (a 5), .ref (a 6), .ref (a 7), .int (nI (σ 0 4)), .int (nI (σ 0 5))])), (a 2, .inl (G.2.1, 40, .inl (fun q => nI (d q)))), (a 3, .inl (G.2.1, 40, .inl (fun q => nI (σ 2 q)))), (a 4, .inl (G.2.1, 40, .inl (fun q => nI (if q = j then x else (σ 3) q)))), (a 5, .inl (G.2.1, 40, .inl (fun q => nI (σ 6 q)))), (a 6, .inl (G.2.1, 40, .inl (fun q => nI (if q = j then 0 else (σ 4) q)))), (a 7, .inl (G.2.1, 40, .inl (fun q => nI (σ 5 q))))]) [5] [0, 1, 2, 3, 4, 6] 3 nmTwoScribes_Page_60 k283 k10 k284 rfl (by decide +kernel) ⟨Nat.le_of_ble_eq_true rfl, Nat.le_of_ble_eq_true rfl⟩ ⟨Nat.le_of_ble_eq_true rfl, Nat.le_of_ble_eq_true rfl⟩ dX1_write_23 (Nat.le_of_ble_eq_true rfl) rfl (by decide +kernel) (fun _ => rfl) ([(a 1, .inr (1, [.ref (a 2), .ref (a 3), .ref (a 4), .ref (a 5), .ref (a 6), .ref (a 7), .int (nI (σ 0 4)), .int (nI (σ 0 5))])), (a 2, .inl (G.2.1, 40, .inl (fun q => nI (d q)))), (a 3, .inl (G.2.1, 40, .inl (fun q => nI (σ 2 q)))), (a 4, .inl (G.2.1, 40, .inl (fun q => nI (if q = j then x else (σ 3) q)))), (a 5, .inl (G.2.1, 40, .inl (fun q => nI (σ 6 q)))), (a 7, .inl (G.2.1, 40, .inl (fun q => nI (σ 5 q))))]) rfl (fun _ => rfl) 7 (fun _ => rfl) (by decide +kernel) (by decide +kernel) (fun _ _ => ?_)
    refine J_st (st' := []) rfl ?_
    refine J_aload_n C rfl dX1_write_26 ?_
    refine J_get C 0 3 in1 rfl rfl (by decide) k45 rfl dX1_write_27 ?_
    refine J_iload_n C rfl dX1_write_30 ?_
    refine J_iload C rfl dX1_write_31 ?_
    refine J_callSN (as := [.ref (a 5), .int (nI j), .int (nI t)]) (rest := []) C (ct_putN l G (a 5) 40 (σ 6) j t (by omega) (by decide)) (fun u => [(a 1, .inr (1, [.ref (a 2), .ref (a 3), .ref (a 4), .ref (a 5), .ref (a 6), .ref (a 7), .int (nI (σ 0 4)), .int (nI (σ 0 5))])), (a 2, .inl (G.2.1, 40, .inl (fun q => nI (d q)))), (a 3, .inl (G.2.1, 40, .inl (fun q => nI (σ 2 q)))), (a 4, .inl (G.2.1, 40, .inl (fun q => nI (if q = j then x else (σ 3) q)))), (a 5, .inl (G.2.1, 40, .inl (fun q => nI (if q = j then t else (σ 6) q)))), (a 6, .inl (G.2.1, 40, .inl (fun q => nI (if q = j then 0 else (σ 4) q)))), (a 7, .inl (G.2.1, 40, .inl (fun q => nI (σ 5 q))))]) [4] [0, 1, 2, 3, 5, 6] 3 nmTwoScribes_Page_60 k283 k10 k284 rfl (by decide +kernel) ⟨Nat.le_of_ble_eq_true rfl, Nat.le_of_ble_eq_true rfl⟩ ⟨Nat.le_of_ble_eq_true rfl, Nat.le_of_ble_eq_true rfl⟩ dX1_write_33 (Nat.le_of_ble_eq_true rfl) rfl (by decide +kernel) (fun _ => rfl) ([(a 1, .inr (1, [.ref (a 2), .ref (a 3), .ref (a 4), .ref (a 5), .ref (a 6), .ref (a 7), .int (nI (σ 0 4)), .int (nI (σ 0 5))])), (a 2, .inl (G.2.1, 40, .inl (fun q => nI (d q)))), (a 3, .inl (G.2.1, 40, .inl (fun q => nI (σ 2 q)))), (a 4, .inl (G.2.1, 40, .inl (fun q => nI (if q = j then x else (σ 3) q)))), (a 6, .inl (G.2.1, 40, .inl (fun q => nI (if q = j then 0 else (σ 4) q)))), (a 7, .inl (G.2.1, 40, .inl (fun q => nI (σ 5 q))))]) rfl (fun _ => rfl) 7 (fun _ => rfl) (by decide +kernel) (by decide +kernel) (fun _ _ => ?_)
    refine J_st (st' := []) rfl ?_
    exact J_vret C hr dX1_write_36 () rfl trivial rfl
  · skip
    have c15 := cv_eq_f (a := b) (b := 0) (by omega) (by omega) c15
    obtain rfl : b = 1 := by omega
    refine J_iconst C 1 (by decide) dX1_write_18 ?_
    refine J_goto C 23 (by decide) dX1_write_19 ?_
    refine J_callSN (as := [.ref (a 6), .int (nI j), .int 1]) (rest := []) C (ct_putN l G (a 6) 40 (σ 4) j 1 (by omega) (by decide)) (fun u => [(a 1, .inr (1, [.ref (a 2), .ref (a 3), .ref (a 4), .ref (a 5), .ref (a 6), .ref (a 7), .int (nI (σ 0 4)), .int (nI (σ 0 5))])), (a 2, .inl (G.2.1, 40, .inl (fun q => nI (d q)))), (a 3, .inl (G.2.1, 40, .inl (fun q => nI (σ 2 q)))), (a 4, .inl (G.2.1, 40, .inl (fun q => nI (if q = j then x else (σ 3) q)))), (a 5, .inl (G.2.1, 40, .inl (fun q => nI (σ 6 q)))), (a 6, .inl (G.2.1, 40, .inl (fun q => nI (if q = j then 1 else (σ 4) q)))), (a 7, .inl (G.2.1, 40, .inl (fun q => nI (σ 5 q))))]) [5] [0, 1, 2, 3, 4, 6] 3 nmTwoScribes_Page_60 k283 k10 k284 rfl (by decide +kernel) ⟨Nat.le_of_ble_eq_true rfl, Nat.le_of_ble_eq_true rfl⟩ ⟨Nat.le_of_ble_eq_true rfl, Nat.le_of_ble_eq_true rfl⟩ dX1_write_23 (Nat.le_of_ble_eq_true rfl) rfl (by decide +kernel) (fun _ => rfl) ([(a 1, .inr (1, [.ref (a 2), .ref (a 3), .ref (a 4), .ref (a 5), .ref (a 6), .ref (a 7), .int (nI (σ 0 4)), .int (nI (σ 0 5))])), (a 2, .inl (G.2.1, 40, .inl (fun q => nI (d q)))), (a 3, .inl (G.2.1, 40, .inl (fun q => nI (σ 2 q)))), (a 4, .inl (G.2.1, 40, .inl (fun q => nI (if q = j then x else (σ 3) q)))), (a 5, .inl (G.2.1, 40, .inl (fun q => nI (σ 6 q)))), (a 7, .inl (G.2.1, 40, .inl (fun q => nI (σ 5 q))))]) rfl (fun _ => rfl) 7 (fun _ => rfl) (by decide +kernel) (by decide +kernel) (fun _ _ => ?_)
    refine J_st (st' := []) rfl ?_
    refine J_aload_n C rfl dX1_write_26 ?_
    refine J_get C 0 3 in1 rfl rfl (by decide) k45 rfl dX1_write_27 ?_
    refine J_iload_n C rfl dX1_write_30 ?_
    refine J_iload C rfl dX1_write_31 ?_
    refine J_callSN (as := [.ref (a 5), .int (nI j), .int (nI t)]) (rest := []) C (ct_putN l G (a 5) 40 (σ 6) j t (by omega) (by decide)) (fun u => [(a 1, .inr (1, [.ref (a 2), .ref (a 3), .ref (a 4), .ref (a 5), .ref (a 6), .ref (a 7), .int (nI (σ 0 4)), .int (nI (σ 0 5))])), (a 2, .inl (G.2.1, 40, .inl (fun q => nI (d q)))), (a 3, .inl (G.2.1, 40, .inl (fun q => nI (σ 2 q)))), (a 4, .inl (G.2.1, 40, .inl (fun q => nI (if q = j then x else (σ 3) q)))), (a 5, .inl (G.2.1, 40, .inl (fun q => nI (if q = j then t else (σ 6) q)))), (a 6, .inl (G.2.1, 40, .inl (fun q => nI (if q = j then 1 else (σ 4) q)))), (a 7, .inl (G.2.1, 40, .inl (fun q => nI (σ 5 q))))]) [4] [0, 1, 2, 3, 5, 6] 3 nmTwoScribes_Page_60 k283 k10 k284 rfl (by decide +kernel) ⟨Nat.le_of_ble_eq_true rfl, Nat.le_of_ble_eq_true rfl⟩ ⟨Nat.le_of_ble_eq_true rfl, Nat.le_of_ble_eq_true rfl⟩ dX1_write_33 (Nat.le_of_ble_eq_true rfl) rfl (by decide +kernel) (fun _ => rfl) ([(a 1, .inr (1, [.ref (a 2), .ref (a 3), .ref (a 4), .ref (a 5), .ref (a 6), .ref (a 7), .int (nI (σ 0 4)), .int (nI (σ 0 5))])), (a 2, .inl (G.2.1, 40, .inl (fun q => nI (d q)))), (a 3, .inl (G.2.1, 40, .inl (fun q => nI (σ 2 q)))), (a 4, .inl (G.2.1, 40, .inl (fun q => nI (if q = j then x else (σ 3) q)))), (a 6, .inl (G.2.1, 40, .inl (fun q => nI (if q = j then 1 else (σ 4) q)))), (a 7, .inl (G.2.1, 40, .inl (fun q => nI (σ 5 q))))]) rfl (fun _ => rfl) 7 (fun _ => rfl) (by decide +kernel) (by decide +kernel) (fun _ _ => ?_)
    refine J_st (st' := []) rfl ?_
    exact J_vret C hr dX1_write_36 () rfl trivial rfl

set_option maxHeartbeats 4000000 in
set_option maxRecDepth 100000 in
theorem ct_amend (l : Launch) (G : GT) (a : Nat → Nat) (σ : AS) (d : Nat → Nat) (j : Nat) (hj : j < 40) : Ct (S := Unit) l G NoX yX1_amend (Wy yX1_amend cX1_amend 2 ((Option.none : Option Jvm.ClassFile.FieldType))) { frames := 1, cells := 0, slots := 0, locals := 22 } [.ref (a 1), .int (nI j)] (pgW G a σ d) (fun u => True) (fun u => none) (fun u => pgW G a (up2 (up2 (up2 (up2 σ 3 j (d j)) 4 j 0) 5 j 1) 0 5 (σ 0 5 + 1)) d) := by
  refine Ct.of (by decide) (Nat.le_of_ble_eq_true rfl) (fun p e s m args below meth c C hr hnm hX => ?_)
  refine J_aload_n C rfl dX1_amend_0 ?_
  refine J_get C 0 2 in1 rfl rfl (by decide) k43 rfl dX1_amend_1 ?_
  refine J_iload_n C rfl dX1_amend_4 ?_
  refine J_aload_n C rfl dX1_amend_5 ?_
  refine J_get C 0 0 in1 rfl rfl (by decide) k38 rfl dX1_amend_6 ?_
  refine J_iload_n C rfl dX1_amend_9 ?_
  refine J_callSN (as := [.ref (a 2), .int (nI j)]) (rest := [.int (nI j), .ref (a 4)]) C (ct_at l G (a 2) 40 (fun q => nI (d q)) j (by omega) (by decide)) (fun u => pgW G a σ d) [1] [0, 2, 3, 4, 5, 6] 2 nmTwoScribes_Page_56 k340 k10 k341 rfl (by decide +kernel) ⟨Nat.le_of_ble_eq_true rfl, Nat.le_of_ble_eq_true rfl⟩ ⟨Nat.le_of_ble_eq_true rfl, Nat.le_of_ble_eq_true rfl⟩ dX1_amend_10 (Nat.le_of_ble_eq_true rfl) rfl (by decide +kernel) (fun _ => rfl) ([(a 1, .inr (1, [.ref (a 2), .ref (a 3), .ref (a 4), .ref (a 5), .ref (a 6), .ref (a 7), .int (nI (σ 0 4)), .int (nI (σ 0 5))])), (a 3, .inl (G.2.1, 40, .inl (fun q => nI (σ 2 q)))), (a 4, .inl (G.2.1, 40, .inl (fun q => nI (σ 3 q)))), (a 5, .inl (G.2.1, 40, .inl (fun q => nI (σ 6 q)))), (a 6, .inl (G.2.1, 40, .inl (fun q => nI (σ 4 q)))), (a 7, .inl (G.2.1, 40, .inl (fun q => nI (σ 5 q))))]) rfl (fun _ => rfl) 7 (fun _ => rfl) (by decide +kernel) (by decide +kernel) (fun _ _ => ?_)
  refine J_st (st' := [.int (nI (d j)), .int (nI j), .ref (a 4)]) rfl ?_
  refine J_callSN (as := [.ref (a 4), .int (nI j), .int (nI (d j))]) (rest := []) C (ct_putN l G (a 4) 40 (σ 3) j (d j) (by omega) (by decide)) (fun u => [(a 1, .inr (1, [.ref (a 2), .ref (a 3), .ref (a 4), .ref (a 5), .ref (a 6), .ref (a 7), .int (nI (σ 0 4)), .int (nI (σ 0 5))])), (a 2, .inl (G.2.1, 40, .inl (fun q => nI (d q)))), (a 3, .inl (G.2.1, 40, .inl (fun q => nI (σ 2 q)))), (a 4, .inl (G.2.1, 40, .inl (fun q => nI (if q = j then d j else (σ 3) q)))), (a 5, .inl (G.2.1, 40, .inl (fun q => nI (σ 6 q)))), (a 6, .inl (G.2.1, 40, .inl (fun q => nI (σ 4 q)))), (a 7, .inl (G.2.1, 40, .inl (fun q => nI (σ 5 q))))]) [3] [0, 1, 2, 4, 5, 6] 3 nmTwoScribes_Page_60 k283 k10 k284 rfl (by decide +kernel) ⟨Nat.le_of_ble_eq_true rfl, Nat.le_of_ble_eq_true rfl⟩ ⟨Nat.le_of_ble_eq_true rfl, Nat.le_of_ble_eq_true rfl⟩ dX1_amend_13 (Nat.le_of_ble_eq_true rfl) rfl (by decide +kernel) (fun _ => rfl) ([(a 1, .inr (1, [.ref (a 2), .ref (a 3), .ref (a 4), .ref (a 5), .ref (a 6), .ref (a 7), .int (nI (σ 0 4)), .int (nI (σ 0 5))])), (a 2, .inl (G.2.1, 40, .inl (fun q => nI (d q)))), (a 3, .inl (G.2.1, 40, .inl (fun q => nI (σ 2 q)))), (a 5, .inl (G.2.1, 40, .inl (fun q => nI (σ 6 q)))), (a 6, .inl (G.2.1, 40, .inl (fun q => nI (σ 4 q)))), (a 7, .inl (G.2.1, 40, .inl (fun q => nI (σ 5 q))))]) rfl (fun _ => rfl) 7 (fun _ => rfl) (by decide +kernel) (by decide +kernel) (fun _ _ => ?_)
  refine J_st (st' := []) rfl ?_
  refine J_aload_n C rfl dX1_amend_16 ?_
  refine J_get C 0 4 in1 rfl rfl (by decide) k47 rfl dX1_amend_17 ?_
  refine J_iload_n C rfl dX1_amend_20 ?_
  refine J_iconst C 0 (by decide) dX1_amend_21 ?_
  refine J_callSN (as := [.ref (a 6), .int (nI j), .int 0]) (rest := []) C (ct_putN l G (a 6) 40 (σ 4) j 0 (by omega) (by decide)) (fun u => [(a 1, .inr (1, [.ref (a 2), .ref (a 3), .ref (a 4), .ref (a 5), .ref (a 6), .ref (a 7), .int (nI (σ 0 4)), .int (nI (σ 0 5))])), (a 2, .inl (G.2.1, 40, .inl (fun q => nI (d q)))), (a 3, .inl (G.2.1, 40, .inl (fun q => nI (σ 2 q)))), (a 4, .inl (G.2.1, 40, .inl (fun q => nI (if q = j then d j else (σ 3) q)))), (a 5, .inl (G.2.1, 40, .inl (fun q => nI (σ 6 q)))), (a 6, .inl (G.2.1, 40, .inl (fun q => nI (if q = j then 0 else (σ 4) q)))), (a 7, .inl (G.2.1, 40, .inl (fun q => nI (σ 5 q))))]) [5] [0, 1, 2, 3, 4, 6] 3 nmTwoScribes_Page_60 k283 k10 k284 rfl (by decide +kernel) ⟨Nat.le_of_ble_eq_true rfl, Nat.le_of_ble_eq_true rfl⟩ ⟨Nat.le_of_ble_eq_true rfl, Nat.le_of_ble_eq_true rfl⟩ dX1_amend_22 (Nat.le_of_ble_eq_true rfl) rfl (by decide +kernel) (fun _ => rfl) ([(a 1, .inr (1, [.ref (a 2), .ref (a 3), .ref (a 4), .ref (a 5), .ref (a 6), .ref (a 7), .int (nI (σ 0 4)), .int (nI (σ 0 5))])), (a 2, .inl (G.2.1, 40, .inl (fun q => nI (d q)))), (a 3, .inl (G.2.1, 40, .inl (fun q => nI (σ 2 q)))), (a 4, .inl (G.2.1, 40, .inl (fun q => nI (if q = j then d j else (σ 3) q)))), (a 5, .inl (G.2.1, 40, .inl (fun q => nI (σ 6 q)))), (a 7, .inl (G.2.1, 40, .inl (fun q => nI (σ 5 q))))]) rfl (fun _ => rfl) 7 (fun _ => rfl) (by decide +kernel) (by decide +kernel) (fun _ _ => ?_)
  refine J_st (st' := []) rfl ?_
  refine J_aload_n C rfl dX1_amend_25 ?_
  refine J_get C 0 5 in1 rfl rfl (by decide) k49 rfl dX1_amend_26 ?_
  refine J_iload_n C rfl dX1_amend_29 ?_
  refine J_iconst C 1 (by decide) dX1_amend_30 ?_
  refine J_callSN (as := [.ref (a 7), .int (nI j), .int 1]) (rest := []) C (ct_putN l G (a 7) 40 (σ 5) j 1 (by omega) (by decide)) (fun u => [(a 1, .inr (1, [.ref (a 2), .ref (a 3), .ref (a 4), .ref (a 5), .ref (a 6), .ref (a 7), .int (nI (σ 0 4)), .int (nI (σ 0 5))])), (a 2, .inl (G.2.1, 40, .inl (fun q => nI (d q)))), (a 3, .inl (G.2.1, 40, .inl (fun q => nI (σ 2 q)))), (a 4, .inl (G.2.1, 40, .inl (fun q => nI (if q = j then d j else (σ 3) q)))), (a 5, .inl (G.2.1, 40, .inl (fun q => nI (σ 6 q)))), (a 6, .inl (G.2.1, 40, .inl (fun q => nI (if q = j then 0 else (σ 4) q)))), (a 7, .inl (G.2.1, 40, .inl (fun q => nI (if q = j then 1 else (σ 5) q))))]) [6] [0, 1, 2, 3, 4, 5] 3 nmTwoScribes_Page_60 k283 k10 k284 rfl (by decide +kernel) ⟨Nat.le_of_ble_eq_true rfl, Nat.le_of_ble_eq_true rfl⟩ ⟨Nat.le_of_ble_eq_true rfl, Nat.le_of_ble_eq_true rfl⟩ dX1_amend_31 (Nat.le_of_ble_eq_true rfl) rfl (by decide +kernel) (fun _ => rfl) ([(a 1, .inr (1, [.ref (a 2), .ref (a 3), .ref (a 4), .ref (a 5), .ref (a 6), .ref (a 7), .int (nI (σ 0 4)), .int (nI (σ 0 5))])), (a 2, .inl (G.2.1, 40, .inl (fun q => nI (d q)))), (a 3, .inl (G.2.1, 40, .inl (fun q => nI (σ 2 q)))), (a 4, .inl (G.2.1, 40, .inl (fun q => nI (if q = j then d j else (σ 3) q)))), (a 5, .inl (G.2.1, 40, .inl (fun q => nI (σ 6 q)))), (a 6, .inl (G.2.1, 40, .inl (fun q => nI (if q = j then 0 else (σ 4) q))))]) rfl (fun _ => rfl) 7 (fun _ => rfl) (by decide +kernel) (by decide +kernel) (fun _ _ => ?_)
  refine J_st (st' := []) rfl ?_
  refine J_aload_n C rfl dX1_amend_34 ?_
  refine J_dup C rfl dX1_amend_35 ?_
  refine J_get C 0 7 in1 rfl rfl (by decide) k54 rfl dX1_amend_36 ?_
  refine J_iconst C 1 (by decide) dX1_amend_39 ?_
  refine J_iadd C dX1_amend_40 ?_
  refine J_i (nI_add (σ 0 5) 1 : ((nI (σ 0 5)) + 1 : Int32) = (nI (σ 0 5 + 1))) ?_
  refine J_put C 0 7 in1 tyX1 tyX1_ok nmX1 ([(a 1, .inr (1, [.ref (a 2), .ref (a 3), .ref (a 4), .ref (a 5), .ref (a 6), .ref (a 7), .int (nI (σ 0 4)), .int (nI (σ 0 5 + 1))])), (a 2, .inl (G.2.1, 40, .inl (fun q => nI (d q)))), (a 3, .inl (G.2.1, 40, .inl (fun q => nI (σ 2 q)))), (a 4, .inl (G.2.1, 40, .inl (fun q => nI (if q = j then d j else (σ 3) q)))), (a 5, .inl (G.2.1, 40, .inl (fun q => nI (σ 6 q)))), (a 6, .inl (G.2.1, 40, .inl (fun q => nI (if q = j then 0 else (σ 4) q)))), (a 7, .inl (G.2.1, 40, .inl (fun q => nI (if q = j then 1 else (σ 5) q))))]) rfl rfl (by decide) k54 rfl rfl rfl (Nat.le_of_ble_eq_true rfl) rfl dX1_amend_41 ?_
  exact J_vret C hr dX1_amend_44 () rfl trivial rfl

set_option maxHeartbeats 4000000 in
set_option maxRecDepth 100000 in
theorem ct_countBlots (l : Launch) (G : GT) (a : Nat → Nat) (σ : AS) (d : Nat → Nat) (hI : Inv σ) : Ct (S := Unit) l G NoX yX1_countBlots (Wy yX1_countBlots cX1_countBlots 3 ((Option.some Jvm.ClassFile.FieldType.int))) { frames := 1, cells := 0, slots := 0, locals := 21 } [.ref (a 1)] (pgW G a σ d) (fun u => True) (fun u => some (.int (nI (sumN (fun q => σ 4 q) (σ 0 4))))) (fun u => pgW G a σ d) := by
  refine Ct.of (by decide) (Nat.le_of_ble_eq_true rfl) (fun p e s m args below meth c C hr hnm hX => ?_)
  have h40 := hI.a
  refine J_iconst C 0 (by decide) dX1_countBlots_0 ?_
  refine J_istore_n C [(1, .int 0), (0, .ref (a 1))] (by decide) rfl dX1_countBlots_1 ?_
  refine J_iconst C 0 (by decide) dX1_countBlots_2 ?_
  refine J_istore_n C [(2, .int 0), (1, .int 0), (0, .ref (a 1))] (by decide) rfl dX1_countBlots_3 ?_
  refine J_lvp [2, 1, 0] [(0, .ref (a 1)), (1, .int 0), (2, .int 0)] rfl ?_
  refine J_loop (fun _ => pgW G a σ d) (fun i => [(0, .ref (a 1)), (1, .int (nI (sumN (fun q => σ 4 q) i))), (2, .int (nI i))]) (fun i => i ≤ σ 0 4) (fun i => σ 0 4 - i) (fun i hi ih => ?_) 0 (Nat.zero_le _) rfl rfl
  refine J_iload_n C rfl dX1_countBlots_4 ?_
  refine J_aload_n C rfl dX1_countBlots_5 ?_
  refine J_get C 0 6 in1 rfl rfl (by decide) k51 rfl dX1_countBlots_6 ?_
  refine J_icmp_ge C 29 (by decide) dX1_countBlots_9 (fun c9 => ?_) (fun c9 => ?_)
  · skip
    have c9 := cv_ge_t (a := i) (b := (σ 0 4)) (by omega) (by omega) c9
    refine J_iload_n C rfl dX1_countBlots_29 ?_
    exact J_zret C hr rfl dX1_countBlots_30 () (by rw [show i = σ 0 4 from by omega]) trivial rfl
  · skip
    have c9 := cv_ge_f (a := i) (b := (σ 0 4)) (by omega) (by omega) c9
    refine J_iload_n C rfl dX1_countBlots_12 ?_
    refine J_aload_n C rfl dX1_countBlots_13 ?_
    refine J_get C 0 4 in1 rfl rfl (by decide) k47 rfl dX1_countBlots_14 ?_
    refine J_iload_n C rfl dX1_countBlots_17 ?_
    refine J_callSN (as := [.ref (a 6), .int (nI i)]) (rest := [.int (nI (sumN (fun q => σ 4 q) i))]) C (ct_at l G (a 6) 40 (fun q => nI (σ 4 q)) i (by omega) (by decide)) (fun u => pgW G a σ d) [5] [0, 1, 2, 3, 4, 6] 2 nmTwoScribes_Page_56 k340 k10 k341 rfl (by decide +kernel) ⟨Nat.le_of_ble_eq_true rfl, Nat.le_of_ble_eq_true rfl⟩ ⟨Nat.le_of_ble_eq_true rfl, Nat.le_of_ble_eq_true rfl⟩ dX1_countBlots_18 (Nat.le_of_ble_eq_true rfl) rfl (by decide +kernel) (fun _ => rfl) ([(a 1, .inr (1, [.ref (a 2), .ref (a 3), .ref (a 4), .ref (a 5), .ref (a 6), .ref (a 7), .int (nI (σ 0 4)), .int (nI (σ 0 5))])), (a 2, .inl (G.2.1, 40, .inl (fun q => nI (d q)))), (a 3, .inl (G.2.1, 40, .inl (fun q => nI (σ 2 q)))), (a 4, .inl (G.2.1, 40, .inl (fun q => nI (σ 3 q)))), (a 5, .inl (G.2.1, 40, .inl (fun q => nI (σ 6 q)))), (a 7, .inl (G.2.1, 40, .inl (fun q => nI (σ 5 q))))]) rfl (fun _ => rfl) 7 (fun _ => rfl) (by decide +kernel) (by decide +kernel) (fun _ _ => ?_)
    refine J_st (st' := [.int (nI (σ 4 i)), .int (nI (sumN (fun q => σ 4 q) i))]) rfl ?_
    refine J_iadd C dX1_countBlots_21 ?_
    refine J_i (nI_add _ _ : ((nI (sumN (fun q => σ 4 q) i)) + (nI (σ 4 i)) : Int32) = (nI (sumN (fun q => σ 4 q) (i + 1)))) ?_
    refine J_istore_n C [(1, .int (nI (sumN (fun q => σ 4 q) (i + 1)))), (0, .ref (a 1)), (2, .int (nI i))] (by decide) rfl dX1_countBlots_22 ?_
    refine J_iinc C (nI (i + 1)) [(2, .int (nI (i + 1))), (1, .int (nI (sumN (fun q => σ 4 q) (i + 1)))), (0, .ref (a 1))] 2 rfl (by first | exact nI_add _ 1 | rfl) (by decide) rfl dX1_countBlots_23 ?_
    refine J_goto C 4 (by decide) dX1_countBlots_26 ?_
    refine J_lvp [2, 1, 0] [(0, .ref (a 1)), (1, .int (nI (sumN (fun q => σ 4 q) (i + 1)))), (2, .int (nI (i + 1)))] rfl ?_
    exact ih (i + 1) (by omega) (by omega)

set_option maxHeartbeats 4000000 in
set_option maxRecDepth 100000 in
theorem ct_countNotDue (l : Launch) (G : GT) (a : Nat → Nat) (σ : AS) (d : Nat → Nat) (hI : Inv σ) (hD : DOK σ d) : Ct (S := Unit) l G NoX yX1_countNotDue (Wy yX1_countNotDue cX1_countNotDue 3 ((Option.some Jvm.ClassFile.FieldType.int))) { frames := 2, cells := 0, slots := 0, locals := 42 } [.ref (a 1)] (pgW G a σ d) (fun u => True) (fun u => some (.int (nI (sumN (notDue σ) (σ 0 4))))) (fun u => pgW G a σ d) := by
  refine Ct.of (by decide) (Nat.le_of_ble_eq_true rfl) (fun p e s m args below meth c C hr hnm hX => ?_)
  have h40 := hI.a
  refine J_iconst C 0 (by decide) dX1_countNotDue_0 ?_
  refine J_istore_n C [(1, .int 0), (0, .ref (a 1))] (by decide) rfl dX1_countNotDue_1 ?_
  refine J_iconst C 0 (by decide) dX1_countNotDue_2 ?_
  refine J_istore_n C [(2, .int 0), (1, .int 0), (0, .ref (a 1))] (by decide) rfl dX1_countNotDue_3 ?_
  refine J_lvp [2, 1, 0] [(0, .ref (a 1)), (1, .int 0), (2, .int 0)] rfl ?_
  refine J_loop (fun _ => pgW G a σ d) (fun i => [(0, .ref (a 1)), (1, .int (nI (sumN (notDue σ) i))), (2, .int (nI i))]) (fun i => i ≤ σ 0 4) (fun i => σ 0 4 - i) (fun i hi ih => ?_) 0 (Nat.zero_le _) rfl rfl
  refine J_iload_n C rfl dX1_countNotDue_4 ?_
  refine J_aload_n C rfl dX1_countNotDue_5 ?_
  refine J_get C 0 6 in1 rfl rfl (by decide) k51 rfl dX1_countNotDue_6 ?_
  refine J_icmp_ge C 48 (by decide) dX1_countNotDue_9 (fun c9 => ?_) (fun c9 => ?_)
  · skip
    have c9 := cv_ge_t (a := i) (b := (σ 0 4)) (by omega) (by omega) c9
    refine J_iload_n C rfl dX1_countNotDue_48 ?_
    exact J_zret C hr rfl dX1_countNotDue_49 () (by rw [show i = σ 0 4 from by omega]) trivial rfl
  · skip
    have c9 := cv_ge_f (a := i) (b := (σ 0 4)) (by omega) (by omega) c9
    have hq := hI.q (q := i) (by omega)
    have hdi := hD i (by omega)
    have hdu := hI.due (p := i) (by omega)
    refine J_aload_n C rfl dX1_countNotDue_12 ?_
    refine J_iload_n C rfl dX1_countNotDue_13 ?_
    refine J_callV (as := [.int (nI i)]) (rest := []) C (ct_isWritten l G a σ d i (by omega) (by omega)) (fun u => pgW G a σ d) [0, 1, 2, 3, 4, 5, 6] [] 1 k398 k364 k365 k12 k366 rfl (by decide +kernel) ⟨Nat.le_of_ble_eq_true rfl, Nat.le_of_ble_eq_true rfl⟩ ⟨Nat.le_of_ble_eq_true rfl, Nat.le_of_ble_eq_true rfl⟩ dX1_countNotDue_14 (Nat.le_of_ble_eq_true rfl) 0 rfl rfl rfl (by decide +kernel) (fun _ => rfl) ([]) rfl (fun _ => rfl) 7 (fun _ => rfl) (by decide +kernel) (by decide +kernel) (fun _ _ => ?_)
    refine J_st (st' := [.int (if 0 < σ 3 i then 1 else 0)]) rfl ?_
    refine J_if_eq C 42 (by decide) dX1_countNotDue_17 (fun c17 => ?_) (fun c17 => ?_)
    · skip
      have c17 : ¬ (0 < σ 3 i) := fun q => by rw [if_pos q] at c17; exact absurd c17 (by decide)
      have hs : nI (sumN (notDue σ) i) = nI (sumN (notDue σ) (i + 1)) := by show nI (sumN (notDue σ) i) = nI (sumN (notDue σ) i + notDue σ i); rw [show notDue σ i = 0 from if_neg (by omega)]; rfl
      rw [hs]
      refine J_iinc C (nI (i + 1)) [(2, .int (nI (i + 1))), (0, .ref (a 1)), (1, .int (nI (sumN (notDue σ) (i + 1))))] 2 rfl (by first | exact nI_add _ 1 | rfl) (by decide) rfl dX1_countNotDue_42 ?_
      refine J_goto C 4 (by decide) dX1_countNotDue_45 ?_
      refine J_lvp [1, 2, 0] [(0, .ref (a 1)), (1, .int (nI (sumN (notDue σ) (i + 1)))), (2, .int (nI (i + 1)))] rfl ?_
      exact ih (i + 1) (by omega) (by omega)
    · skip
      have c17 : 0 < σ 3 i := Classical.byContradiction fun q => c17 (by rw [if_neg q])
      refine J_aload_n C rfl dX1_countNotDue_20 ?_
      refine J_get C 0 2 in1 rfl rfl (by decide) k43 rfl dX1_countNotDue_21 ?_
      refine J_iload_n C rfl dX1_countNotDue_24 ?_
      refine J_callSN (as := [.ref (a 4), .int (nI i)]) (rest := []) C (ct_at l G (a 4) 40 (fun q => nI (σ 3 q)) i (by omega) (by decide)) (fun u => pgW G a σ d) [3] [0, 1, 2, 4, 5, 6] 2 nmTwoScribes_Page_56 k340 k10 k341 rfl (by decide +kernel) ⟨Nat.le_of_ble_eq_true rfl, Nat.le_of_ble_eq_true rfl⟩ ⟨Nat.le_of_ble_eq_true rfl, Nat.le_of_ble_eq_true rfl⟩ dX1_countNotDue_25 (Nat.le_of_ble_eq_true rfl) rfl (by decide +kernel) (fun _ => rfl) ([(a 1, .inr (1, [.ref (a 2), .ref (a 3), .ref (a 4), .ref (a 5), .ref (a 6), .ref (a 7), .int (nI (σ 0 4)), .int (nI (σ 0 5))])), (a 2, .inl (G.2.1, 40, .inl (fun q => nI (d q)))), (a 3, .inl (G.2.1, 40, .inl (fun q => nI (σ 2 q)))), (a 5, .inl (G.2.1, 40, .inl (fun q => nI (σ 6 q)))), (a 6, .inl (G.2.1, 40, .inl (fun q => nI (σ 4 q)))), (a 7, .inl (G.2.1, 40, .inl (fun q => nI (σ 5 q))))]) rfl (fun _ => rfl) 7 (fun _ => rfl) (by decide +kernel) (by decide +kernel) (fun _ _ => ?_)
      refine J_st (st' := [.int (nI (σ 3 i))]) rfl ?_
      refine J_aload_n C rfl dX1_countNotDue_28 ?_
      refine J_get C 0 0 in1 rfl rfl (by decide) k38 rfl dX1_countNotDue_29 ?_
      refine J_iload_n C rfl dX1_countNotDue_32 ?_
      refine J_callSN (as := [.ref (a 2), .int (nI i)]) (rest := [.int (nI (σ 3 i))]) C (ct_at l G (a 2) 40 (fun q => nI (d q)) i (by omega) (by decide)) (fun u => pgW G a σ d) [1] [0, 2, 3, 4, 5, 6] 2 nmTwoScribes_Page_56 k340 k10 k341 rfl (by decide +kernel) ⟨Nat.le_of_ble_eq_true rfl, Nat.le_of_ble_eq_true rfl⟩ ⟨Nat.le_of_ble_eq_true rfl, Nat.le_of_ble_eq_true rfl⟩ dX1_countNotDue_33 (Nat.le_of_ble_eq_true rfl) rfl (by decide +kernel) (fun _ => rfl) ([(a 1, .inr (1, [.ref (a 2), .ref (a 3), .ref (a 4), .ref (a 5), .ref (a 6), .ref (a 7), .int (nI (σ 0 4)), .int (nI (σ 0 5))])), (a 3, .inl (G.2.1, 40, .inl (fun q => nI (σ 2 q)))), (a 4, .inl (G.2.1, 40, .inl (fun q => nI (σ 3 q)))), (a 5, .inl (G.2.1, 40, .inl (fun q => nI (σ 6 q)))), (a 6, .inl (G.2.1, 40, .inl (fun q => nI (σ 4 q)))), (a 7, .inl (G.2.1, 40, .inl (fun q => nI (σ 5 q))))]) rfl (fun _ => rfl) 7 (fun _ => rfl) (by decide +kernel) (by decide +kernel) (fun _ _ => ?_)
      refine J_st (st' := [.int (nI (d i)), .int (nI (σ 3 i))]) rfl ?_
      refine J_icmp_eq C 42 (by decide) dX1_countNotDue_36 (fun c36 => ?_) (fun c36 => ?_)
      · skip
        have c36 := cv_eq_t (a := (σ 3 i)) (b := (d i)) (by omega) (by omega) c36
        have hs : nI (sumN (notDue σ) i) = nI (sumN (notDue σ) (i + 1)) := by show nI (sumN (notDue σ) i) = nI (sumN (notDue σ) i + notDue σ i); rw [show notDue σ i = 0 from if_neg (by omega)]; rfl
        rw [hs]
        refine J_iinc C (nI (i + 1)) [(2, .int (nI (i + 1))), (0, .ref (a 1)), (1, .int (nI (sumN (notDue σ) (i + 1))))] 2 rfl (by first | exact nI_add _ 1 | rfl) (by decide) rfl dX1_countNotDue_42 ?_
        refine J_goto C 4 (by decide) dX1_countNotDue_45 ?_
        refine J_lvp [1, 2, 0] [(0, .ref (a 1)), (1, .int (nI (sumN (notDue σ) (i + 1)))), (2, .int (nI (i + 1)))] rfl ?_
        exact ih (i + 1) (by omega) (by omega)
      · skip
        have c36 := cv_eq_f (a := (σ 3 i)) (b := (d i)) (by omega) (by omega) c36
        refine J_iinc C (nI (sumN (notDue σ) i + 1)) [(1, .int (nI (sumN (notDue σ) i + 1))), (0, .ref (a 1)), (2, .int (nI i))] 1 rfl (by first | exact nI_add _ 1 | rfl) (by decide) rfl dX1_countNotDue_39 ?_
        have hs : nI (sumN (notDue σ) i + 1) = nI (sumN (notDue σ) (i + 1)) := by show nI (sumN (notDue σ) i + 1) = nI (sumN (notDue σ) i + notDue σ i); rw [show notDue σ i = 1 from if_pos (by omega)]
        rw [hs]
        refine J_iinc C (nI (i + 1)) [(2, .int (nI (i + 1))), (1, .int (nI (sumN (notDue σ) (i + 1)))), (0, .ref (a 1))] 2 rfl (by first | exact nI_add _ 1 | rfl) (by decide) rfl dX1_countNotDue_42 ?_
        refine J_goto C 4 (by decide) dX1_countNotDue_45 ?_
        refine J_lvp [2, 1, 0] [(0, .ref (a 1)), (1, .int (nI (sumN (notDue σ) (i + 1)))), (2, .int (nI (i + 1)))] rfl ?_
        exact ih (i + 1) (by omega) (by omega)

set_option maxHeartbeats 4000000 in
set_option maxRecDepth 100000 in
theorem ct_pageCopy (l : Launch) (G : GT) (a : Nat → Nat) (σ : AS) (d : Nat → Nat) (a2 : Nat → Nat) (σ2 : AS) (d2 : Nat → Nat)  : Ct (S := Unit) l G NoX yX1_copyFrom (Wy yX1_copyFrom cX1_copyFrom 2 ((Option.none : Option Jvm.ClassFile.FieldType))) { frames := 2, cells := 0, slots := 0, locals := 61 } [.ref (a 1), .ref (a2 1)] (pgW G a σ d ++ pgW G a2 σ2 d2) (fun u => True) (fun u => none) (fun u => pgW G a σ2 d2 ++ pgW G a2 σ2 d2) := by
  refine Ct.of (by decide) (Nat.le_of_ble_eq_true rfl) (fun p e s m args below meth c C hr hnm hX => ?_)
  refine J_aload_n C rfl dX1_copyFrom_0 ?_
  refine J_get C 7 0 in1 rfl rfl (by decide) k38 rfl dX1_copyFrom_1 ?_
  refine J_aload_n C rfl dX1_copyFrom_4 ?_
  refine J_get C 0 0 in1 rfl rfl (by decide) k38 rfl dX1_copyFrom_5 ?_
  refine J_callSN (as := [.ref (a2 2), .ref (a 2)]) (rest := []) C (ct_copyRow l G (a2 2) (a 2) 40 (fun q => nI (d2 q)) (fun q => nI (d q)) (by decide)) (fun u => [(a 1, .inr (1, [.ref (a 2), .ref (a 3), .ref (a 4), .ref (a 5), .ref (a 6), .ref (a 7), .int (nI (σ 0 4)), .int (nI (σ 0 5))])), (a 2, .inl (G.2.1, 40, .inl (fun q => nI (d2 q)))), (a 3, .inl (G.2.1, 40, .inl (fun q => nI (σ 2 q)))), (a 4, .inl (G.2.1, 40, .inl (fun q => nI (σ 3 q)))), (a 5, .inl (G.2.1, 40, .inl (fun q => nI (σ 6 q)))), (a 6, .inl (G.2.1, 40, .inl (fun q => nI (σ 4 q)))), (a 7, .inl (G.2.1, 40, .inl (fun q => nI (σ 5 q))))] ++ pgW G a2 σ2 d2) [8, 1] [0, 2, 3, 4, 5, 6, 7, 9, 10, 11, 12, 13] 2 nmTwoScribes_Page_30 k317 k10 k318 rfl (by decide +kernel) ⟨Nat.le_of_ble_eq_true rfl, Nat.le_of_ble_eq_true rfl⟩ ⟨Nat.le_of_ble_eq_true rfl, Nat.le_of_ble_eq_true rfl⟩ dX1_copyFrom_8 (Nat.le_of_ble_eq_true rfl) rfl (by decide +kernel) (fun _ => rfl) ([(a 1, .inr (1, [.ref (a 2), .ref (a 3), .ref (a 4), .ref (a 5), .ref (a 6), .ref (a 7), .int (nI (σ 0 4)), .int (nI (σ 0 5))])), (a 3, .inl (G.2.1, 40, .inl (fun q => nI (σ 2 q)))), (a 4, .inl (G.2.1, 40, .inl (fun q => nI (σ 3 q)))), (a 5, .inl (G.2.1, 40, .inl (fun q => nI (σ 6 q)))), (a 6, .inl (G.2.1, 40, .inl (fun q => nI (σ 4 q)))), (a 7, .inl (G.2.1, 40, .inl (fun q => nI (σ 5 q))))] ++ [(a2 1, .inr (1, [.ref (a2 2), .ref (a2 3), .ref (a2 4), .ref (a2 5), .ref (a2 6), .ref (a2 7), .int (nI (σ2 0 4)), .int (nI (σ2 0 5))])), (a2 3, .inl (G.2.1, 40, .inl (fun q => nI (σ2 2 q)))), (a2 4, .inl (G.2.1, 40, .inl (fun q => nI (σ2 3 q)))), (a2 5, .inl (G.2.1, 40, .inl (fun q => nI (σ2 6 q)))), (a2 6, .inl (G.2.1, 40, .inl (fun q => nI (σ2 4 q)))), (a2 7, .inl (G.2.1, 40, .inl (fun q => nI (σ2 5 q))))]) rfl (fun _ => rfl) 14 (fun _ => rfl) (by decide +kernel) (by decide +kernel) (fun _ _ => ?_)
  refine J_st (st' := []) rfl ?_
  refine J_aload_n C rfl dX1_copyFrom_11 ?_
  refine J_get C 7 1 in1 rfl rfl (by decide) k41 rfl dX1_copyFrom_12 ?_
  refine J_aload_n C rfl dX1_copyFrom_15 ?_
  refine J_get C 0 1 in1 rfl rfl (by decide) k41 rfl dX1_copyFrom_16 ?_
  refine J_callSN (as := [.ref (a2 3), .ref (a 3)]) (rest := []) C (ct_copyRow l G (a2 3) (a 3) 40 (fun q => nI (σ2 2 q)) (fun q => nI (σ 2 q)) (by decide)) (fun u => [(a 1, .inr (1, [.ref (a 2), .ref (a 3), .ref (a 4), .ref (a 5), .ref (a 6), .ref (a 7), .int (nI (σ 0 4)), .int (nI (σ 0 5))])), (a 2, .inl (G.2.1, 40, .inl (fun q => nI (d2 q)))), (a 3, .inl (G.2.1, 40, .inl (fun q => nI (σ2 2 q)))), (a 4, .inl (G.2.1, 40, .inl (fun q => nI (σ 3 q)))), (a 5, .inl (G.2.1, 40, .inl (fun q => nI (σ 6 q)))), (a 6, .inl (G.2.1, 40, .inl (fun q => nI (σ 4 q)))), (a 7, .inl (G.2.1, 40, .inl (fun q => nI (σ 5 q))))] ++ pgW G a2 σ2 d2) [9, 2] [0, 1, 3, 4, 5, 6, 7, 8, 10, 11, 12, 13] 2 nmTwoScribes_Page_30 k317 k10 k318 rfl (by decide +kernel) ⟨Nat.le_of_ble_eq_true rfl, Nat.le_of_ble_eq_true rfl⟩ ⟨Nat.le_of_ble_eq_true rfl, Nat.le_of_ble_eq_true rfl⟩ dX1_copyFrom_19 (Nat.le_of_ble_eq_true rfl) rfl (by decide +kernel) (fun _ => rfl) ([(a 1, .inr (1, [.ref (a 2), .ref (a 3), .ref (a 4), .ref (a 5), .ref (a 6), .ref (a 7), .int (nI (σ 0 4)), .int (nI (σ 0 5))])), (a 2, .inl (G.2.1, 40, .inl (fun q => nI (d2 q)))), (a 4, .inl (G.2.1, 40, .inl (fun q => nI (σ 3 q)))), (a 5, .inl (G.2.1, 40, .inl (fun q => nI (σ 6 q)))), (a 6, .inl (G.2.1, 40, .inl (fun q => nI (σ 4 q)))), (a 7, .inl (G.2.1, 40, .inl (fun q => nI (σ 5 q))))] ++ [(a2 1, .inr (1, [.ref (a2 2), .ref (a2 3), .ref (a2 4), .ref (a2 5), .ref (a2 6), .ref (a2 7), .int (nI (σ2 0 4)), .int (nI (σ2 0 5))])), (a2 2, .inl (G.2.1, 40, .inl (fun q => nI (d2 q)))), (a2 4, .inl (G.2.1, 40, .inl (fun q => nI (σ2 3 q)))), (a2 5, .inl (G.2.1, 40, .inl (fun q => nI (σ2 6 q)))), (a2 6, .inl (G.2.1, 40, .inl (fun q => nI (σ2 4 q)))), (a2 7, .inl (G.2.1, 40, .inl (fun q => nI (σ2 5 q))))]) rfl (fun _ => rfl) 14 (fun _ => rfl) (by decide +kernel) (by decide +kernel) (fun _ _ => ?_)
  refine J_st (st' := []) rfl ?_
  refine J_aload_n C rfl dX1_copyFrom_22 ?_
  refine J_get C 7 2 in1 rfl rfl (by decide) k43 rfl dX1_copyFrom_23 ?_
  refine J_aload_n C rfl dX1_copyFrom_26 ?_
  refine J_get C 0 2 in1 rfl rfl (by decide) k43 rfl dX1_copyFrom_27 ?_
  refine J_callSN (as := [.ref (a2 4), .ref (a 4)]) (rest := []) C (ct_copyRow l G (a2 4) (a 4) 40 (fun q => nI (σ2 3 q)) (fun q => nI (σ 3 q)) (by decide)) (fun u => [(a 1, .inr (1, [.ref (a 2), .ref (a 3), .ref (a 4), .ref (a 5), .ref (a 6), .ref (a 7), .int (nI (σ 0 4)), .int (nI (σ 0 5))])), (a 2, .inl (G.2.1, 40, .inl (fun q => nI (d2 q)))), (a 3, .inl (G.2.1, 40, .inl (fun q => nI (σ2 2 q)))), (a 4, .inl (G.2.1, 40, .inl (fun q => nI (σ2 3 q)))), (a 5, .inl (G.2.1, 40, .inl (fun q => nI (σ 6 q)))), (a 6, .inl (G.2.1, 40, .inl (fun q => nI (σ 4 q)))), (a 7, .inl (G.2.1, 40, .inl (fun q => nI (σ 5 q))))] ++ pgW G a2 σ2 d2) [10, 3] [0, 1, 2, 4, 5, 6, 7, 8, 9, 11, 12, 13] 2 nmTwoScribes_Page_30 k317 k10 k318 rfl (by decide +kernel) ⟨Nat.le_of_ble_eq_true rfl, Nat.le_of_ble_eq_true rfl⟩ ⟨Nat.le_of_ble_eq_true rfl, Nat.le_of_ble_eq_true rfl⟩ dX1_copyFrom_30 (Nat.le_of_ble_eq_true rfl) rfl (by decide +kernel) (fun _ => rfl) ([(a 1, .inr (1, [.ref (a 2), .ref (a 3), .ref (a 4), .ref (a 5), .ref (a 6), .ref (a 7), .int (nI (σ 0 4)), .int (nI (σ 0 5))])), (a 2, .inl (G.2.1, 40, .inl (fun q => nI (d2 q)))), (a 3, .inl (G.2.1, 40, .inl (fun q => nI (σ2 2 q)))), (a 5, .inl (G.2.1, 40, .inl (fun q => nI (σ 6 q)))), (a 6, .inl (G.2.1, 40, .inl (fun q => nI (σ 4 q)))), (a 7, .inl (G.2.1, 40, .inl (fun q => nI (σ 5 q))))] ++ [(a2 1, .inr (1, [.ref (a2 2), .ref (a2 3), .ref (a2 4), .ref (a2 5), .ref (a2 6), .ref (a2 7), .int (nI (σ2 0 4)), .int (nI (σ2 0 5))])), (a2 2, .inl (G.2.1, 40, .inl (fun q => nI (d2 q)))), (a2 3, .inl (G.2.1, 40, .inl (fun q => nI (σ2 2 q)))), (a2 5, .inl (G.2.1, 40, .inl (fun q => nI (σ2 6 q)))), (a2 6, .inl (G.2.1, 40, .inl (fun q => nI (σ2 4 q)))), (a2 7, .inl (G.2.1, 40, .inl (fun q => nI (σ2 5 q))))]) rfl (fun _ => rfl) 14 (fun _ => rfl) (by decide +kernel) (by decide +kernel) (fun _ _ => ?_)
  refine J_st (st' := []) rfl ?_
  refine J_aload_n C rfl dX1_copyFrom_33 ?_
  refine J_get C 7 3 in1 rfl rfl (by decide) k45 rfl dX1_copyFrom_34 ?_
  refine J_aload_n C rfl dX1_copyFrom_37 ?_
  refine J_get C 0 3 in1 rfl rfl (by decide) k45 rfl dX1_copyFrom_38 ?_
  refine J_callSN (as := [.ref (a2 5), .ref (a 5)]) (rest := []) C (ct_copyRow l G (a2 5) (a 5) 40 (fun q => nI (σ2 6 q)) (fun q => nI (σ 6 q)) (by decide)) (fun u => [(a 1, .inr (1, [.ref (a 2), .ref (a 3), .ref (a 4), .ref (a 5), .ref (a 6), .ref (a 7), .int (nI (σ 0 4)), .int (nI (σ 0 5))])), (a 2, .inl (G.2.1, 40, .inl (fun q => nI (d2 q)))), (a 3, .inl (G.2.1, 40, .inl (fun q => nI (σ2 2 q)))), (a 4, .inl (G.2.1, 40, .inl (fun q => nI (σ2 3 q)))), (a 5, .inl (G.2.1, 40, .inl (fun q => nI (σ2 6 q)))), (a 6, .inl (G.2.1, 40, .inl (fun q => nI (σ 4 q)))), (a 7, .inl (G.2.1, 40, .inl (fun q => nI (σ 5 q))))] ++ pgW G a2 σ2 d2) [11, 4] [0, 1, 2, 3, 5, 6, 7, 8, 9, 10, 12, 13] 2 nmTwoScribes_Page_30 k317 k10 k318 rfl (by decide +kernel) ⟨Nat.le_of_ble_eq_true rfl, Nat.le_of_ble_eq_true rfl⟩ ⟨Nat.le_of_ble_eq_true rfl, Nat.le_of_ble_eq_true rfl⟩ dX1_copyFrom_41 (Nat.le_of_ble_eq_true rfl) rfl (by decide +kernel) (fun _ => rfl) ([(a 1, .inr (1, [.ref (a 2), .ref (a 3), .ref (a 4), .ref (a 5), .ref (a 6), .ref (a 7), .int (nI (σ 0 4)), .int (nI (σ 0 5))])), (a 2, .inl (G.2.1, 40, .inl (fun q => nI (d2 q)))), (a 3, .inl (G.2.1, 40, .inl (fun q => nI (σ2 2 q)))), (a 4, .inl (G.2.1, 40, .inl (fun q => nI (σ2 3 q)))), (a 6, .inl (G.2.1, 40, .inl (fun q => nI (σ 4 q)))), (a 7, .inl (G.2.1, 40, .inl (fun q => nI (σ 5 q))))] ++ [(a2 1, .inr (1, [.ref (a2 2), .ref (a2 3), .ref (a2 4), .ref (a2 5), .ref (a2 6), .ref (a2 7), .int (nI (σ2 0 4)), .int (nI (σ2 0 5))])), (a2 2, .inl (G.2.1, 40, .inl (fun q => nI (d2 q)))), (a2 3, .inl (G.2.1, 40, .inl (fun q => nI (σ2 2 q)))), (a2 4, .inl (G.2.1, 40, .inl (fun q => nI (σ2 3 q)))), (a2 6, .inl (G.2.1, 40, .inl (fun q => nI (σ2 4 q)))), (a2 7, .inl (G.2.1, 40, .inl (fun q => nI (σ2 5 q))))]) rfl (fun _ => rfl) 14 (fun _ => rfl) (by decide +kernel) (by decide +kernel) (fun _ _ => ?_)
  refine J_st (st' := []) rfl ?_
  refine J_aload_n C rfl dX1_copyFrom_44 ?_
  refine J_get C 7 4 in1 rfl rfl (by decide) k47 rfl dX1_copyFrom_45 ?_
  refine J_aload_n C rfl dX1_copyFrom_48 ?_
  refine J_get C 0 4 in1 rfl rfl (by decide) k47 rfl dX1_copyFrom_49 ?_
  refine J_callSN (as := [.ref (a2 6), .ref (a 6)]) (rest := []) C (ct_copyRow l G (a2 6) (a 6) 40 (fun q => nI (σ2 4 q)) (fun q => nI (σ 4 q)) (by decide)) (fun u => [(a 1, .inr (1, [.ref (a 2), .ref (a 3), .ref (a 4), .ref (a 5), .ref (a 6), .ref (a 7), .int (nI (σ 0 4)), .int (nI (σ 0 5))])), (a 2, .inl (G.2.1, 40, .inl (fun q => nI (d2 q)))), (a 3, .inl (G.2.1, 40, .inl (fun q => nI (σ2 2 q)))), (a 4, .inl (G.2.1, 40, .inl (fun q => nI (σ2 3 q)))), (a 5, .inl (G.2.1, 40, .inl (fun q => nI (σ2 6 q)))), (a 6, .inl (G.2.1, 40, .inl (fun q => nI (σ2 4 q)))), (a 7, .inl (G.2.1, 40, .inl (fun q => nI (σ 5 q))))] ++ pgW G a2 σ2 d2) [12, 5] [0, 1, 2, 3, 4, 6, 7, 8, 9, 10, 11, 13] 2 nmTwoScribes_Page_30 k317 k10 k318 rfl (by decide +kernel) ⟨Nat.le_of_ble_eq_true rfl, Nat.le_of_ble_eq_true rfl⟩ ⟨Nat.le_of_ble_eq_true rfl, Nat.le_of_ble_eq_true rfl⟩ dX1_copyFrom_52 (Nat.le_of_ble_eq_true rfl) rfl (by decide +kernel) (fun _ => rfl) ([(a 1, .inr (1, [.ref (a 2), .ref (a 3), .ref (a 4), .ref (a 5), .ref (a 6), .ref (a 7), .int (nI (σ 0 4)), .int (nI (σ 0 5))])), (a 2, .inl (G.2.1, 40, .inl (fun q => nI (d2 q)))), (a 3, .inl (G.2.1, 40, .inl (fun q => nI (σ2 2 q)))), (a 4, .inl (G.2.1, 40, .inl (fun q => nI (σ2 3 q)))), (a 5, .inl (G.2.1, 40, .inl (fun q => nI (σ2 6 q)))), (a 7, .inl (G.2.1, 40, .inl (fun q => nI (σ 5 q))))] ++ [(a2 1, .inr (1, [.ref (a2 2), .ref (a2 3), .ref (a2 4), .ref (a2 5), .ref (a2 6), .ref (a2 7), .int (nI (σ2 0 4)), .int (nI (σ2 0 5))])), (a2 2, .inl (G.2.1, 40, .inl (fun q => nI (d2 q)))), (a2 3, .inl (G.2.1, 40, .inl (fun q => nI (σ2 2 q)))), (a2 4, .inl (G.2.1, 40, .inl (fun q => nI (σ2 3 q)))), (a2 5, .inl (G.2.1, 40, .inl (fun q => nI (σ2 6 q)))), (a2 7, .inl (G.2.1, 40, .inl (fun q => nI (σ2 5 q))))]) rfl (fun _ => rfl) 14 (fun _ => rfl) (by decide +kernel) (by decide +kernel) (fun _ _ => ?_)
  refine J_st (st' := []) rfl ?_
  refine J_aload_n C rfl dX1_copyFrom_55 ?_
  refine J_get C 7 5 in1 rfl rfl (by decide) k49 rfl dX1_copyFrom_56 ?_
  refine J_aload_n C rfl dX1_copyFrom_59 ?_
  refine J_get C 0 5 in1 rfl rfl (by decide) k49 rfl dX1_copyFrom_60 ?_
  refine J_callSN (as := [.ref (a2 7), .ref (a 7)]) (rest := []) C (ct_copyRow l G (a2 7) (a 7) 40 (fun q => nI (σ2 5 q)) (fun q => nI (σ 5 q)) (by decide)) (fun u => [(a 1, .inr (1, [.ref (a 2), .ref (a 3), .ref (a 4), .ref (a 5), .ref (a 6), .ref (a 7), .int (nI (σ 0 4)), .int (nI (σ 0 5))])), (a 2, .inl (G.2.1, 40, .inl (fun q => nI (d2 q)))), (a 3, .inl (G.2.1, 40, .inl (fun q => nI (σ2 2 q)))), (a 4, .inl (G.2.1, 40, .inl (fun q => nI (σ2 3 q)))), (a 5, .inl (G.2.1, 40, .inl (fun q => nI (σ2 6 q)))), (a 6, .inl (G.2.1, 40, .inl (fun q => nI (σ2 4 q)))), (a 7, .inl (G.2.1, 40, .inl (fun q => nI (σ2 5 q))))] ++ pgW G a2 σ2 d2) [13, 6] [0, 1, 2, 3, 4, 5, 7, 8, 9, 10, 11, 12] 2 nmTwoScribes_Page_30 k317 k10 k318 rfl (by decide +kernel) ⟨Nat.le_of_ble_eq_true rfl, Nat.le_of_ble_eq_true rfl⟩ ⟨Nat.le_of_ble_eq_true rfl, Nat.le_of_ble_eq_true rfl⟩ dX1_copyFrom_63 (Nat.le_of_ble_eq_true rfl) rfl (by decide +kernel) (fun _ => rfl) ([(a 1, .inr (1, [.ref (a 2), .ref (a 3), .ref (a 4), .ref (a 5), .ref (a 6), .ref (a 7), .int (nI (σ 0 4)), .int (nI (σ 0 5))])), (a 2, .inl (G.2.1, 40, .inl (fun q => nI (d2 q)))), (a 3, .inl (G.2.1, 40, .inl (fun q => nI (σ2 2 q)))), (a 4, .inl (G.2.1, 40, .inl (fun q => nI (σ2 3 q)))), (a 5, .inl (G.2.1, 40, .inl (fun q => nI (σ2 6 q)))), (a 6, .inl (G.2.1, 40, .inl (fun q => nI (σ2 4 q))))] ++ [(a2 1, .inr (1, [.ref (a2 2), .ref (a2 3), .ref (a2 4), .ref (a2 5), .ref (a2 6), .ref (a2 7), .int (nI (σ2 0 4)), .int (nI (σ2 0 5))])), (a2 2, .inl (G.2.1, 40, .inl (fun q => nI (d2 q)))), (a2 3, .inl (G.2.1, 40, .inl (fun q => nI (σ2 2 q)))), (a2 4, .inl (G.2.1, 40, .inl (fun q => nI (σ2 3 q)))), (a2 5, .inl (G.2.1, 40, .inl (fun q => nI (σ2 6 q)))), (a2 6, .inl (G.2.1, 40, .inl (fun q => nI (σ2 4 q))))]) rfl (fun _ => rfl) 14 (fun _ => rfl) (by decide +kernel) (by decide +kernel) (fun _ _ => ?_)
  refine J_st (st' := []) rfl ?_
  refine J_aload_n C rfl dX1_copyFrom_66 ?_
  refine J_aload_n C rfl dX1_copyFrom_67 ?_
  refine J_get C 7 6 in1 rfl rfl (by decide) k51 rfl dX1_copyFrom_68 ?_
  refine J_put C 0 6 in1 tyX1 tyX1_ok nmX1 ([(a 1, .inr (1, [.ref (a 2), .ref (a 3), .ref (a 4), .ref (a 5), .ref (a 6), .ref (a 7), .int (nI (σ2 0 4)), .int (nI (σ 0 5))])), (a 2, .inl (G.2.1, 40, .inl (fun q => nI (d2 q)))), (a 3, .inl (G.2.1, 40, .inl (fun q => nI (σ2 2 q)))), (a 4, .inl (G.2.1, 40, .inl (fun q => nI (σ2 3 q)))), (a 5, .inl (G.2.1, 40, .inl (fun q => nI (σ2 6 q)))), (a 6, .inl (G.2.1, 40, .inl (fun q => nI (σ2 4 q)))), (a 7, .inl (G.2.1, 40, .inl (fun q => nI (σ2 5 q))))] ++ pgW G a2 σ2 d2) rfl rfl (by decide) k51 rfl rfl rfl (Nat.le_of_ble_eq_true rfl) rfl dX1_copyFrom_71 ?_
  refine J_aload_n C rfl dX1_copyFrom_74 ?_
  refine J_aload_n C rfl dX1_copyFrom_75 ?_
  refine J_get C 7 7 in1 rfl rfl (by decide) k54 rfl dX1_copyFrom_76 ?_
  refine J_put C 0 7 in1 tyX1 tyX1_ok nmX1 ([(a 1, .inr (1, [.ref (a 2), .ref (a 3), .ref (a 4), .ref (a 5), .ref (a 6), .ref (a 7), .int (nI (σ2 0 4)), .int (nI (σ2 0 5))])), (a 2, .inl (G.2.1, 40, .inl (fun q => nI (d2 q)))), (a 3, .inl (G.2.1, 40, .inl (fun q => nI (σ2 2 q)))), (a 4, .inl (G.2.1, 40, .inl (fun q => nI (σ2 3 q)))), (a 5, .inl (G.2.1, 40, .inl (fun q => nI (σ2 6 q)))), (a 6, .inl (G.2.1, 40, .inl (fun q => nI (σ2 4 q)))), (a 7, .inl (G.2.1, 40, .inl (fun q => nI (σ2 5 q))))] ++ pgW G a2 σ2 d2) rfl rfl (by decide) k54 rfl rfl rfl (Nat.le_of_ble_eq_true rfl) rfl dX1_copyFrom_79 ?_
  exact J_vret C hr dX1_copyFrom_82 () rfl trivial rfl

set_option maxHeartbeats 4000000 in
set_option maxRecDepth 100000 in
theorem ct_scrBegin (l : Launch) (G : GT) (r : Nat) (v0 v1 v2 v3 v4 v5 : Int32) (v6 : UInt32)  : Ct (S := Unit) l G NoX yX3_beginPage (Wy yX3_beginPage cX3_beginPage 1 ((Option.none : Option Jvm.ClassFile.FieldType))) { frames := 0, cells := 0, slots := 0, locals := 0 } [.ref r] ([(r, .inr (3, [.int v0, .int v1, .int v2, .int v3, .int v4, .int v5, .float v6]))]) (fun u => True) (fun u => none) (fun u => [(r, .inr (3, [.int v0, .int (nI 0), .int (nI 0), .int v3, .int v4, .int v5, .float v6]))]) := by
  refine Ct.of (by decide) (Nat.le_of_ble_eq_true rfl) (fun p e s m args below meth c C hr hnm hX => ?_)
  refine J_aload_n C rfl dX3_beginPage_0 ?_
  refine J_iconst C 0 (by decide) dX3_beginPage_1 ?_
  refine J_put C 0 1 in3 tyX3 tyX3_ok nmX3 ([(r, .inr (3, [.int v0, .int 0, .int v2, .int v3, .int v4, .int v5, .float v6]))]) rfl rfl (by decide) k83 rfl rfl rfl (Nat.le_of_ble_eq_true rfl) rfl dX3_beginPage_2 ?_
  refine J_aload_n C rfl dX3_beginPage_5 ?_
  refine J_iconst C 0 (by decide) dX3_beginPage_6 ?_
  refine J_put C 0 2 in3 tyX3 tyX3_ok nmX3 ([(r, .inr (3, [.int v0, .int 0, .int 0, .int v3, .int v4, .int v5, .float v6]))]) rfl rfl (by decide) k86 rfl rfl rfl (Nat.le_of_ble_eq_true rfl) rfl dX3_beginPage_7 ?_
  exact J_vret C hr dX3_beginPage_10 () rfl trivial rfl

set_option maxHeartbeats 4000000 in
set_option maxRecDepth 100000 in
theorem ct_scrCopy (l : Launch) (G : GT) (r r2 : Nat) (v0 v1 v2 v3 v4 v5 : Int32) (v6 : UInt32) (w0 w1 w2 w3 w4 w5 : Int32) (w6 : UInt32)  : Ct (S := Unit) l G NoX yX3_copyFrom (Wy yX3_copyFrom cX3_copyFrom 2 ((Option.none : Option Jvm.ClassFile.FieldType))) { frames := 0, cells := 0, slots := 0, locals := 0 } [.ref r, .ref r2] ([(r, .inr (3, [.int v0, .int v1, .int v2, .int v3, .int v4, .int v5, .float v6])), (r2, .inr (3, [.int w0, .int w1, .int w2, .int w3, .int w4, .int w5, .float w6]))]) (fun u => True) (fun u => none) (fun u => [(r, .inr (3, [.int w0, .int w1, .int w2, .int w3, .int w4, .int w5, .float w6])), (r2, .inr (3, [.int w0, .int w1, .int w2, .int w3, .int w4, .int w5, .float w6]))]) := by
  refine Ct.of (by decide) (Nat.le_of_ble_eq_true rfl) (fun p e s m args below meth c C hr hnm hX => ?_)
  refine J_aload_n C rfl dX3_copyFrom_0 ?_
  refine J_aload_n C rfl dX3_copyFrom_1 ?_
  refine J_get C 1 0 in3 rfl rfl (by decide) k80 rfl dX3_copyFrom_2 ?_
  refine J_put C 0 0 in3 tyX3 tyX3_ok nmX3 ([(r, .inr (3, [.int w0, .int v1, .int v2, .int v3, .int v4, .int v5, .float v6])), (r2, .inr (3, [.int w0, .int w1, .int w2, .int w3, .int w4, .int w5, .float w6]))]) rfl rfl (by decide) k80 rfl rfl rfl (Nat.le_of_ble_eq_true rfl) rfl dX3_copyFrom_5 ?_
  refine J_aload_n C rfl dX3_copyFrom_8 ?_
  refine J_aload_n C rfl dX3_copyFrom_9 ?_
  refine J_get C 1 1 in3 rfl rfl (by decide) k83 rfl dX3_copyFrom_10 ?_
  refine J_put C 0 1 in3 tyX3 tyX3_ok nmX3 ([(r, .inr (3, [.int w0, .int w1, .int v2, .int v3, .int v4, .int v5, .float v6])), (r2, .inr (3, [.int w0, .int w1, .int w2, .int w3, .int w4, .int w5, .float w6]))]) rfl rfl (by decide) k83 rfl rfl rfl (Nat.le_of_ble_eq_true rfl) rfl dX3_copyFrom_13 ?_
  refine J_aload_n C rfl dX3_copyFrom_16 ?_
  refine J_aload_n C rfl dX3_copyFrom_17 ?_
  refine J_get C 1 2 in3 rfl rfl (by decide) k86 rfl dX3_copyFrom_18 ?_
  refine J_put C 0 2 in3 tyX3 tyX3_ok nmX3 ([(r, .inr (3, [.int w0, .int w1, .int w2, .int v3, .int v4, .int v5, .float v6])), (r2, .inr (3, [.int w0, .int w1, .int w2, .int w3, .int w4, .int w5, .float w6]))]) rfl rfl (by decide) k86 rfl rfl rfl (Nat.le_of_ble_eq_true rfl) rfl dX3_copyFrom_21 ?_
  refine J_aload_n C rfl dX3_copyFrom_24 ?_
  refine J_aload_n C rfl dX3_copyFrom_25 ?_
  refine J_get C 1 3 in3 rfl rfl (by decide) k89 rfl dX3_copyFrom_26 ?_
  refine J_put C 0 3 in3 tyX3 tyX3_ok nmX3 ([(r, .inr (3, [.int w0, .int w1, .int w2, .int w3, .int v4, .int v5, .float v6])), (r2, .inr (3, [.int w0, .int w1, .int w2, .int w3, .int w4, .int w5, .float w6]))]) rfl rfl (by decide) k89 rfl rfl rfl (Nat.le_of_ble_eq_true rfl) rfl dX3_copyFrom_29 ?_
  refine J_aload_n C rfl dX3_copyFrom_32 ?_
  refine J_aload_n C rfl dX3_copyFrom_33 ?_
  refine J_get C 1 4 in3 rfl rfl (by decide) k92 rfl dX3_copyFrom_34 ?_
  refine J_put C 0 4 in3 tyX3 tyX3_ok nmX3 ([(r, .inr (3, [.int w0, .int w1, .int w2, .int w3, .int w4, .int v5, .float v6])), (r2, .inr (3, [.int w0, .int w1, .int w2, .int w3, .int w4, .int w5, .float w6]))]) rfl rfl (by decide) k92 rfl rfl rfl (Nat.le_of_ble_eq_true rfl) rfl dX3_copyFrom_37 ?_
  refine J_aload_n C rfl dX3_copyFrom_40 ?_
  refine J_aload_n C rfl dX3_copyFrom_41 ?_
  refine J_get C 1 5 in3 rfl rfl (by decide) k95 rfl dX3_copyFrom_42 ?_
  refine J_put C 0 5 in3 tyX3 tyX3_ok nmX3 ([(r, .inr (3, [.int w0, .int w1, .int w2, .int w3, .int w4, .int w5, .float v6])), (r2, .inr (3, [.int w0, .int w1, .int w2, .int w3, .int w4, .int w5, .float w6]))]) rfl rfl (by decide) k95 rfl rfl rfl (Nat.le_of_ble_eq_true rfl) rfl dX3_copyFrom_45 ?_
  refine J_aload_n C rfl dX3_copyFrom_48 ?_
  refine J_aload_n C rfl dX3_copyFrom_49 ?_
  refine J_get C 1 6 in3 rfl rfl (by decide) k98 rfl dX3_copyFrom_50 ?_
  refine J_put C 0 6 in3 tyX3 tyX3_ok nmX3 ([(r, .inr (3, [.int w0, .int w1, .int w2, .int w3, .int w4, .int w5, .float w6])), (r2, .inr (3, [.int w0, .int w1, .int w2, .int w3, .int w4, .int w5, .float w6]))]) rfl rfl (by decide) k98 rfl rfl rfl (Nat.le_of_ble_eq_true rfl) rfl dX3_copyFrom_53 ?_
  exact J_vret C hr dX3_copyFrom_56 () rfl trivial rfl
