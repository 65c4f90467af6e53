set_option maxHeartbeats 4000000 in
set_option maxRecDepth 100000 in
theorem ct_mis1 (l : Launch) (G : GT) (ts : Nat) (a a1 a2 : Nat → Nat) (hh : Nat) (b : Nat → Nat) (ks : Nat) (σ : AS) (d : Nat → Nat) (x y : Int32) (hI : Inv σ) (hx : ¬ isPl σ x) : Ct (S := Unit) l G NoX yX5_misread (Wy yX5_misread cX5_misread 4 ((Option.some Jvm.ClassFile.FieldType.int))) { frames := 1, cells := 0, slots := 0, locals := 21 } [.ref ts, .int x, .int y] ([(ts, .inr (5, [.ref (a 0), .ref (a1 0), .ref (a2 0), .ref hh, .ref (b 0), .int (nI ks)]))] ++ stW G a σ d) (fun u => True) (fun u => some (.int (-1))) (fun u => [(ts, .inr (5, [.ref (a 0), .ref (a1 0), .ref (a2 0), .ref hh, .ref (b 0), .int (nI ks)]))] ++ stW G a σ d) := by
  refine Ct.of (by decide) (Nat.le_of_ble_eq_true rfl) (fun p e s m args below meth c C hr hnm hX => ?_)
  have h40 := hI.a
  have hc := hI.c
  have hi := hI.i
  have hs := hI.s
  refine J_aload_n C rfl dX5_misread_0 ?_
  refine J_get C 0 0 in5 rfl rfl (by decide) k217 rfl dX5_misread_1 ?_
  refine J_getN C 1 0 in4 rfl rfl (by decide) nfTwoScribes_55 rfl dX5_misread_4 ?_
  refine J_iload_n C rfl dX5_misread_7 ?_
  refine J_callV (as := [.int x]) (rest := []) C (ct_has l G a σ d x (by omega)) (fun u => [(ts, .inr (5, [.ref (a 0), .ref (a1 0), .ref (a2 0), .ref hh, .ref (b 0), .int (nI ks)]))] ++ stW G a σ d) [2, 3, 4, 5, 6, 7, 8] [0, 1, 9, 10, 11] 1 k355 k356 k357 k12 k358 rfl (by decide +kernel) ⟨Nat.le_of_ble_eq_true rfl, Nat.le_of_ble_eq_true rfl⟩ ⟨Nat.le_of_ble_eq_true rfl, Nat.le_of_ble_eq_true rfl⟩ dX5_misread_8 (Nat.le_of_ble_eq_true rfl) 2 rfl rfl rfl (by decide +kernel) (fun _ => rfl) ([(ts, .inr (5, [.ref (a 0), .ref (a1 0), .ref (a2 0), .ref hh, .ref (b 0), .int (nI ks)]))] ++ [(a 0, .inr (4, [.ref (a 1), .ref (a 8), .ref (a 9), .ref (a 10), .float (fl (σ 0 6)), .float (fl (σ 0 7)), .float (fl (σ 0 8)), .int (nI (σ 0 3)), .int (nI (σ 0 9)), .int (nI (σ 0 10)), .int (nI (σ 0 11))])), (a 8, .inr (3, [.int (nI (σ 0 12)), .int (nI (σ 0 14)), .int (nI (σ 0 16)), .int (nI (σ 0 18)), .int (nI (σ 0 20)), .int (nI (σ 0 22)), .float (fl (σ 0 24))])), (a 9, .inr (3, [.int (nI (σ 0 13)), .int (nI (σ 0 15)), .int (nI (σ 0 17)), .int (nI (σ 0 19)), .int (nI (σ 0 21)), .int (nI (σ 0 23)), .float (fl (σ 0 25))])), (a 10, .inl (G.2.1, 3, .inl (fun q => nI (σ 7 q))))]) rfl (fun _ => rfl) 12 (fun _ => rfl) (by decide +kernel) (by decide +kernel) (fun _ _ => ?_)
  refine J_st (st' := [.int (if isPl σ x then 1 else 0)]) rfl ?_
  refine J_if_ne C 16 (by decide) dX5_misread_11 (fun h => absurd h (fun q => q (by rw [if_neg (show ¬ (isPl σ x) from by first | assumption | omega)]))) (fun _ => ?_)
  refine J_iconst C (-1) (by decide) dX5_misread_14 ?_
  exact J_zret C hr rfl dX5_misread_15 () rfl trivial rfl

set_option maxHeartbeats 4000000 in
set_option maxRecDepth 100000 in
theorem ct_mis2 (l : Launch) (G : GT) (ts : Nat) (a a1 a2 : Nat → Nat) (hh : Nat) (b : Nat → Nat) (ks : Nat) (σ : AS) (d : Nat → Nat) (j : Nat) (y : Int32) (hI : Inv σ) (hD : DOK σ d) (hj : j < σ 0 4) (hy : ¬ (0 ≤ y.toInt ∧ y.toInt ≤ 26)) : Ct (S := Unit) l G NoX yX5_misread (Wy yX5_misread cX5_misread 4 ((Option.some Jvm.ClassFile.FieldType.int))) { frames := 1, cells := 0, slots := 0, locals := 21 } [.ref ts, .int (nI j), .int y] ([(ts, .inr (5, [.ref (a 0), .ref (a1 0), .ref (a2 0), .ref hh, .ref (b 0), .int (nI ks)]))] ++ stW G a σ d) (fun u => True) (fun u => some (.int (-2))) (fun u => [(ts, .inr (5, [.ref (a 0), .ref (a1 0), .ref (a2 0), .ref hh, .ref (b 0), .int (nI ks)]))] ++ stW G a σ d) := by
  refine Ct.of (by decide) (Nat.le_of_ble_eq_true rfl) (fun p e s m args below meth c C hr hnm hX => ?_)
  have h40 := hI.a
  have hc := hI.c
  have hi := hI.i
  have hs := hI.s
  have hq := hI.q (q := j) (by omega)
  have hdj := hD j hj
  have hdu := hI.due hj
  have hpl := isPl_nI h40.1 hj
  refine J_aload_n C rfl dX5_misread_0 ?_
  refine J_get C 0 0 in5 rfl rfl (by decide) k217 rfl dX5_misread_1 ?_
  refine J_getN C 1 0 in4 rfl rfl (by decide) nfTwoScribes_55 rfl dX5_misread_4 ?_
  refine J_iload_n C rfl dX5_misread_7 ?_
  refine J_callV (as := [.int (nI j)]) (rest := []) C (ct_has l G a σ d (nI j) (by omega)) (fun u => [(ts, .inr (5, [.ref (a 0), .ref (a1 0), .ref (a2 0), .ref hh, .ref (b 0), .int (nI ks)]))] ++ stW G a σ d) [2, 3, 4, 5, 6, 7, 8] [0, 1, 9, 10, 11] 1 k355 k356 k357 k12 k358 rfl (by decide +kernel) ⟨Nat.le_of_ble_eq_true rfl, Nat.le_of_ble_eq_true rfl⟩ ⟨Nat.le_of_ble_eq_true rfl, Nat.le_of_ble_eq_true rfl⟩ dX5_misread_8 (Nat.le_of_ble_eq_true rfl) 2 rfl rfl rfl (by decide +kernel) (fun _ => rfl) ([(ts, .inr (5, [.ref (a 0), .ref (a1 0), .ref (a2 0), .ref hh, .ref (b 0), .int (nI ks)]))] ++ [(a 0, .inr (4, [.ref (a 1), .ref (a 8), .ref (a 9), .ref (a 10), .float (fl (σ 0 6)), .float (fl (σ 0 7)), .float (fl (σ 0 8)), .int (nI (σ 0 3)), .int (nI (σ 0 9)), .int (nI (σ 0 10)), .int (nI (σ 0 11))])), (a 8, .inr (3, [.int (nI (σ 0 12)), .int (nI (σ 0 14)), .int (nI (σ 0 16)), .int (nI (σ 0 18)), .int (nI (σ 0 20)), .int (nI (σ 0 22)), .float (fl (σ 0 24))])), (a 9, .inr (3, [.int (nI (σ 0 13)), .int (nI (σ 0 15)), .int (nI (σ 0 17)), .int (nI (σ 0 19)), .int (nI (σ 0 21)), .int (nI (σ 0 23)), .float (fl (σ 0 25))])), (a 10, .inl (G.2.1, 3, .inl (fun q => nI (σ 7 q))))]) rfl (fun _ => rfl) 12 (fun _ => rfl) (by decide +kernel) (by decide +kernel) (fun _ _ => ?_)
  refine J_st (st' := [.int (if isPl σ (nI j) then 1 else 0)]) rfl ?_
  refine J_if_ne C 16 (by decide) dX5_misread_11 (fun _ => ?_) (fun h => absurd h (fun q => by rw [if_pos (show isPl σ (nI j) from by first | assumption | omega)] at q; exact absurd q (by decide)))
  refine J_iload_n C rfl dX5_misread_16 ?_
  refine J_if_lt C 26 (by decide) dX5_misread_17 (fun c17 => ?_) (fun c17 => ?_)
  · skip
    have c17 := ti_lt_t (z := 0) (by decide) c17
    refine J_bipush C (-2) (by decide) dX5_misread_26 ?_
    exact J_zret C hr rfl dX5_misread_28 () rfl trivial rfl
  · skip
    have c17 := ti_lt_f (z := 0) (by decide) c17
    refine J_iload_n C rfl dX5_misread_20 ?_
    refine J_bipush C 26 (by decide) dX5_misread_21 ?_
    refine J_icmp_le C 29 (by decide) dX5_misread_23 (fun h => absurd h (fun q => absurd (ti_le_t (z := 26) (by decide) q) (by omega))) (fun _ => ?_)
    refine J_bipush C (-2) (by decide) dX5_misread_26 ?_
    exact J_zret C hr rfl dX5_misread_28 () rfl trivial rfl

set_option maxHeartbeats 4000000 in
set_option maxRecDepth 100000 in
theorem ct_mis3 (l : Launch) (G : GT) (ts : Nat) (a a1 a2 : Nat → Nat) (hh : Nat) (b : Nat → Nat) (ks : Nat) (σ : AS) (d : Nat → Nat) (j k : Nat) (hI : Inv σ) (hD : DOK σ d) (hj : j < σ 0 4) (hk : k ≤ 26) (hbg : begunP σ j) : Ct (S := Unit) l G NoX yX5_misread (Wy yX5_misread cX5_misread 4 ((Option.some Jvm.ClassFile.FieldType.int))) { frames := 3, cells := 0, slots := 0, locals := 64 } [.ref ts, .int (nI j), .int (nI k)] ([(ts, .inr (5, [.ref (a 0), .ref (a1 0), .ref (a2 0), .ref hh, .ref (b 0), .int (nI ks)]))] ++ stW G a σ d) (fun u => True) (fun u => some (.int (-4))) (fun u => [(ts, .inr (5, [.ref (a 0), .ref (a1 0), .ref (a2 0), .ref hh, .ref (b 0), .int (nI ks)]))] ++ stW G a σ d) := by
  refine Ct.of (by decide) (Nat.le_of_ble_eq_true rfl) (fun p e s m args below meth c C hr hnm hX => ?_)
  have h40 := hI.a
  have hc := hI.c
  have hi := hI.i
  have hs := hI.s
  have hq := hI.q (q := j) (by omega)
  have hdj := hD j hj
  have hdu := hI.due hj
  have hpl := isPl_nI h40.1 hj
  refine J_aload_n C rfl dX5_misread_0 ?_
  refine J_get C 0 0 in5 rfl rfl (by decide) k217 rfl dX5_misread_1 ?_
  refine J_getN C 1 0 in4 rfl rfl (by decide) nfTwoScribes_55 rfl dX5_misread_4 ?_
  refine J_iload_n C rfl dX5_misread_7 ?_
  refine J_callV (as := [.int (nI j)]) (rest := []) C (ct_has l G a σ d (nI j) (by omega)) (fun u => [(ts, .inr (5, [.ref (a 0), .ref (a1 0), .ref (a2 0), .ref hh, .ref (b 0), .int (nI ks)]))] ++ stW G a σ d) [2, 3, 4, 5, 6, 7, 8] [0, 1, 9, 10, 11] 1 k355 k356 k357 k12 k358 rfl (by decide +kernel) ⟨Nat.le_of_ble_eq_true rfl, Nat.le_of_ble_eq_true rfl⟩ ⟨Nat.le_of_ble_eq_true rfl, Nat.le_of_ble_eq_true rfl⟩ dX5_misread_8 (Nat.le_of_ble_eq_true rfl) 2 rfl rfl rfl (by decide +kernel) (fun _ => rfl) ([(ts, .inr (5, [.ref (a 0), .ref (a1 0), .ref (a2 0), .ref hh, .ref (b 0), .int (nI ks)]))] ++ [(a 0, .inr (4, [.ref (a 1), .ref (a 8), .ref (a 9), .ref (a 10), .float (fl (σ 0 6)), .float (fl (σ 0 7)), .float (fl (σ 0 8)), .int (nI (σ 0 3)), .int (nI (σ 0 9)), .int (nI (σ 0 10)), .int (nI (σ 0 11))])), (a 8, .inr (3, [.int (nI (σ 0 12)), .int (nI (σ 0 14)), .int (nI (σ 0 16)), .int (nI (σ 0 18)), .int (nI (σ 0 20)), .int (nI (σ 0 22)), .float (fl (σ 0 24))])), (a 9, .inr (3, [.int (nI (σ 0 13)), .int (nI (σ 0 15)), .int (nI (σ 0 17)), .int (nI (σ 0 19)), .int (nI (σ 0 21)), .int (nI (σ 0 23)), .float (fl (σ 0 25))])), (a 10, .inl (G.2.1, 3, .inl (fun q => nI (σ 7 q))))]) rfl (fun _ => rfl) 12 (fun _ => rfl) (by decide +kernel) (by decide +kernel) (fun _ _ => ?_)
  refine J_st (st' := [.int (if isPl σ (nI j) then 1 else 0)]) rfl ?_
  refine J_if_ne C 16 (by decide) dX5_misread_11 (fun _ => ?_) (fun h => absurd h (fun q => by rw [if_pos (show isPl σ (nI j) from by first | assumption | omega)] at q; exact absurd q (by decide)))
  refine J_iload_n C rfl dX5_misread_16 ?_
  refine J_if_lt C 26 (by decide) dX5_misread_17 (fun h => absurd h (nI_pos (by omega))) (fun _ => ?_)
  refine J_iload_n C rfl dX5_misread_20 ?_
  refine J_bipush C 26 (by decide) dX5_misread_21 ?_
  refine J_icmp_le C 29 (by decide) dX5_misread_23 (fun c23 => ?_) (fun h => absurd (cv_le_f (a := k) (b := 26) (by omega) (by omega) h) (by omega))
  refine J_aload_n C rfl dX5_misread_29 ?_
  refine J_get C 0 0 in5 rfl rfl (by decide) k217 rfl dX5_misread_30 ?_
  refine J_iload_n C rfl dX5_misread_33 ?_
  refine J_callV (as := [.int (nI j)]) (rest := []) C (ct_isBegun l G a σ d j hI hj) (fun u => [(ts, .inr (5, [.ref (a 0), .ref (a1 0), .ref (a2 0), .ref hh, .ref (b 0), .int (nI ks)]))] ++ stW G a σ d) [1, 2, 3, 4, 5, 6, 7, 8, 9, 10, 11] [0] 1 k359 k360 k361 k11 k362 rfl (by decide +kernel) ⟨Nat.le_of_ble_eq_true rfl, Nat.le_of_ble_eq_true rfl⟩ ⟨Nat.le_of_ble_eq_true rfl, Nat.le_of_ble_eq_true rfl⟩ dX5_misread_34 (Nat.le_of_ble_eq_true rfl) 1 rfl rfl rfl (by decide +kernel) (fun _ => rfl) ([(ts, .inr (5, [.ref (a 0), .ref (a1 0), .ref (a2 0), .ref hh, .ref (b 0), .int (nI ks)]))]) rfl (fun _ => rfl) 12 (fun _ => rfl) (by decide +kernel) (by decide +kernel) (fun _ _ => ?_)
  refine J_st (st' := [.int (if 0 < σ 3 j ∨ (0 < σ 0 16 ∧ σ 0 14 = j) ∨ (0 < σ 0 17 ∧ σ 0 4 - 1 - σ 0 15 = j) then 1 else 0)]) rfl ?_
  refine J_if_eq C 43 (by decide) dX5_misread_37 (fun h => absurd h (fun q => by rw [if_pos (show 0 < σ 3 j ∨ (0 < σ 0 16 ∧ σ 0 14 = j) ∨ (0 < σ 0 17 ∧ σ 0 4 - 1 - σ 0 15 = j) from by first | assumption | omega)] at q; exact absurd q (by decide))) (fun _ => ?_)
  refine J_bipush C (-4) (by decide) dX5_misread_40 ?_
  exact J_zret C hr rfl dX5_misread_42 () rfl trivial rfl

set_option maxHeartbeats 4000000 in
set_option maxRecDepth 100000 in
theorem ct_mis4 (l : Launch) (G : GT) (ts : Nat) (a a1 a2 : Nat → Nat) (hh : Nat) (b : Nat → Nat) (ks : Nat) (σ : AS) (d : Nat → Nat) (j k : Nat) (hI : Inv σ) (hD : DOK σ d) (hj : j < σ 0 4) (hk : k ≤ 26) (hbg : ¬ begunP σ j) (he : σ 2 j = k) : Ct (S := Unit) l G NoX yX5_misread (Wy yX5_misread cX5_misread 4 ((Option.some Jvm.ClassFile.FieldType.int))) { frames := 3, cells := 0, slots := 0, locals := 64 } [.ref ts, .int (nI j), .int (nI k)] ([(ts, .inr (5, [.ref (a 0), .ref (a1 0), .ref (a2 0), .ref hh, .ref (b 0), .int (nI ks)]))] ++ stW G a σ d) (fun u => True) (fun u => some (.int (-5))) (fun u => [(ts, .inr (5, [.ref (a 0), .ref (a1 0), .ref (a2 0), .ref hh, .ref (b 0), .int (nI ks)]))] ++ stW G a σ d) := by
  refine Ct.of (by decide) (Nat.le_of_ble_eq_true rfl) (fun p e s m args below meth c C hr hnm hX => ?_)
  have h40 := hI.a
  have hc := hI.c
  have hi := hI.i
  have hs := hI.s
  have hq := hI.q (q := j) (by omega)
  have hdj := hD j hj
  have hdu := hI.due hj
  have hpl := isPl_nI h40.1 hj
  refine J_aload_n C rfl dX5_misread_0 ?_
  refine J_get C 0 0 in5 rfl rfl (by decide) k217 rfl dX5_misread_1 ?_
  refine J_getN C 1 0 in4 rfl rfl (by decide) nfTwoScribes_55 rfl dX5_misread_4 ?_
  refine J_iload_n C rfl dX5_misread_7 ?_
  refine J_callV (as := [.int (nI j)]) (rest := []) C (ct_has l G a σ d (nI j) (by omega)) (fun u => [(ts, .inr (5, [.ref (a 0), .ref (a1 0), .ref (a2 0), .ref hh, .ref (b 0), .int (nI ks)]))] ++ stW G a σ d) [2, 3, 4, 5, 6, 7, 8] [0, 1, 9, 10, 11] 1 k355 k356 k357 k12 k358 rfl (by decide +kernel) ⟨Nat.le_of_ble_eq_true rfl, Nat.le_of_ble_eq_true rfl⟩ ⟨Nat.le_of_ble_eq_true rfl, Nat.le_of_ble_eq_true rfl⟩ dX5_misread_8 (Nat.le_of_ble_eq_true rfl) 2 rfl rfl rfl (by decide +kernel) (fun _ => rfl) ([(ts, .inr (5, [.ref (a 0), .ref (a1 0), .ref (a2 0), .ref hh, .ref (b 0), .int (nI ks)]))] ++ [(a 0, .inr (4, [.ref (a 1), .ref (a 8), .ref (a 9), .ref (a 10), .float (fl (σ 0 6)), .float (fl (σ 0 7)), .float (fl (σ 0 8)), .int (nI (σ 0 3)), .int (nI (σ 0 9)), .int (nI (σ 0 10)), .int (nI (σ 0 11))])), (a 8, .inr (3, [.int (nI (σ 0 12)), .int (nI (σ 0 14)), .int (nI (σ 0 16)), .int (nI (σ 0 18)), .int (nI (σ 0 20)), .int (nI (σ 0 22)), .float (fl (σ 0 24))])), (a 9, .inr (3, [.int (nI (σ 0 13)), .int (nI (σ 0 15)), .int (nI (σ 0 17)), .int (nI (σ 0 19)), .int (nI (σ 0 21)), .int (nI (σ 0 23)), .float (fl (σ 0 25))])), (a 10, .inl (G.2.1, 3, .inl (fun q => nI (σ 7 q))))]) rfl (fun _ => rfl) 12 (fun _ => rfl) (by decide +kernel) (by decide +kernel) (fun _ _ => ?_)
  refine J_st (st' := [.int (if isPl σ (nI j) then 1 else 0)]) rfl ?_
  refine J_if_ne C 16 (by decide) dX5_misread_11 (fun _ => ?_) (fun h => absurd h (fun q => by rw [if_pos (show isPl σ (nI j) from by first | assumption | omega)] at q; exact absurd q (by decide)))
  refine J_iload_n C rfl dX5_misread_16 ?_
  refine J_if_lt C 26 (by decide) dX5_misread_17 (fun h => absurd h (nI_pos (by omega))) (fun _ => ?_)
  refine J_iload_n C rfl dX5_misread_20 ?_
  refine J_bipush C 26 (by decide) dX5_misread_21 ?_
  refine J_icmp_le C 29 (by decide) dX5_misread_23 (fun c23 => ?_) (fun h => absurd (cv_le_f (a := k) (b := 26) (by omega) (by omega) h) (by omega))
  refine J_aload_n C rfl dX5_misread_29 ?_
  refine J_get C 0 0 in5 rfl rfl (by decide) k217 rfl dX5_misread_30 ?_
  refine J_iload_n C rfl dX5_misread_33 ?_
  refine J_callV (as := [.int (nI j)]) (rest := []) C (ct_isBegun l G a σ d j hI hj) (fun u => [(ts, .inr (5, [.ref (a 0), .ref (a1 0), .ref (a2 0), .ref hh, .ref (b 0), .int (nI ks)]))] ++ stW G a σ d) [1, 2, 3, 4, 5, 6, 7, 8, 9, 10, 11] [0] 1 k359 k360 k361 k11 k362 rfl (by decide +kernel) ⟨Nat.le_of_ble_eq_true rfl, Nat.le_of_ble_eq_true rfl⟩ ⟨Nat.le_of_ble_eq_true rfl, Nat.le_of_ble_eq_true rfl⟩ dX5_misread_34 (Nat.le_of_ble_eq_true rfl) 1 rfl rfl rfl (by decide +kernel) (fun _ => rfl) ([(ts, .inr (5, [.ref (a 0), .ref (a1 0), .ref (a2 0), .ref hh, .ref (b 0), .int (nI ks)]))]) rfl (fun _ => rfl) 12 (fun _ => rfl) (by decide +kernel) (by decide +kernel) (fun _ _ => ?_)
  refine J_st (st' := [.int (if 0 < σ 3 j ∨ (0 < σ 0 16 ∧ σ 0 14 = j) ∨ (0 < σ 0 17 ∧ σ 0 4 - 1 - σ 0 15 = j) then 1 else 0)]) rfl ?_
  refine J_if_eq C 43 (by decide) dX5_misread_37 (fun _ => ?_) (fun h => absurd h (fun q => q (by rw [if_neg (show ¬ (0 < σ 3 j ∨ (0 < σ 0 16 ∧ σ 0 14 = j) ∨ (0 < σ 0 17 ∧ σ 0 4 - 1 - σ 0 15 = j)) from by first | assumption | omega)])))
  refine J_aload_n C rfl dX5_misread_43 ?_
  refine J_get C 0 0 in5 rfl rfl (by decide) k217 rfl dX5_misread_44 ?_
  refine J_getN C 1 0 in4 rfl rfl (by decide) nfTwoScribes_55 rfl dX5_misread_47 ?_
  refine J_getN C 2 1 in1 rfl rfl (by decide) nfTwoScribes_71 rfl dX5_misread_50 ?_
  refine J_iload_n C rfl dX5_misread_53 ?_
  refine J_callS (as := [.ref (a 3), .int (nI j)]) (rest := []) C (ct_at l G (a 3) 40 (fun q => nI (σ 2 q)) j (by omega) (by decide)) (fun u => [(ts, .inr (5, [.ref (a 0), .ref (a1 0), .ref (a2 0), .ref hh, .ref (b 0), .int (nI ks)]))] ++ stW G a σ d) [4] [0, 1, 2, 3, 5, 6, 7, 8, 9, 10, 11] 2 k376 k340 k10 k341 rfl (by decide +kernel) ⟨Nat.le_of_ble_eq_true rfl, Nat.le_of_ble_eq_true rfl⟩ ⟨Nat.le_of_ble_eq_true rfl, Nat.le_of_ble_eq_true rfl⟩ dX5_misread_54 (Nat.le_of_ble_eq_true rfl) rfl (by decide +kernel) (fun _ => rfl) ([(ts, .inr (5, [.ref (a 0), .ref (a1 0), .ref (a2 0), .ref hh, .ref (b 0), .int (nI ks)]))] ++ [(a 0, .inr (4, [.ref (a 1), .ref (a 8), .ref (a 9), .ref (a 10), .float (fl (σ 0 6)), .float (fl (σ 0 7)), .float (fl (σ 0 8)), .int (nI (σ 0 3)), .int (nI (σ 0 9)), .int (nI (σ 0 10)), .int (nI (σ 0 11))])), (a 1, .inr (1, [.ref (a 2), .ref (a 3), .ref (a 4), .ref (a 5), .ref (a 6), .ref (a 7), .int (nI (σ 0 4)), .int (nI (σ 0 5))])), (a 2, .inl (G.2.1, 40, .inl (fun q => nI (d q)))), (a 4, .inl (G.2.1, 40, .inl (fun q => nI (σ 3 q)))), (a 5, .inl (G.2.1, 40, .inl (fun q => nI (σ 6 q)))), (a 6, .inl (G.2.1, 40, .inl (fun q => nI (σ 4 q)))), (a 7, .inl (G.2.1, 40, .inl (fun q => nI (σ 5 q)))), (a 8, .inr (3, [.int (nI (σ 0 12)), .int (nI (σ 0 14)), .int (nI (σ 0 16)), .int (nI (σ 0 18)), .int (nI (σ 0 20)), .int (nI (σ 0 22)), .float (fl (σ 0 24))])), (a 9, .inr (3, [.int (nI (σ 0 13)), .int (nI (σ 0 15)), .int (nI (σ 0 17)), .int (nI (σ 0 19)), .int (nI (σ 0 21)), .int (nI (σ 0 23)), .float (fl (σ 0 25))])), (a 10, .inl (G.2.1, 3, .inl (fun q => nI (σ 7 q))))]) rfl (fun _ => rfl) 12 (fun _ => rfl) (by decide +kernel) (by decide +kernel) (fun _ _ => ?_)
  refine J_st (st' := [.int (nI (σ 2 j))]) rfl ?_
  refine J_iload_n C rfl dX5_misread_57 ?_
  refine J_icmp_ne C 64 (by decide) dX5_misread_58 (fun h => absurd (cv_ne_t (a := (σ 2 j)) (b := k) (by omega) (by omega) h) (by omega)) (fun c58 => ?_)
  refine J_bipush C (-5) (by decide) dX5_misread_61 ?_
  exact J_zret C hr rfl dX5_misread_63 () rfl trivial rfl

set_option maxHeartbeats 4000000 in
set_option maxRecDepth 100000 in
theorem ct_misY (l : Launch) (G : GT) (ts : Nat) (a a1 a2 : Nat → Nat) (hh : Nat) (b : Nat → Nat) (ks : Nat) (σ : AS) (d : Nat → Nat) (ha : Nat) (hb : Nat → Nat → Nat) (hσ : Nat → AS) (hd : Nat → Nat → Nat) (f n : Nat) (j k : Nat) (hI : Inv σ) (hD : DOK σ d) (hf4 : f < 4) (hn4 : n ≤ 4) (hj : j < σ 0 4) (hk : k ≤ 26) (hbg : ¬ begunP σ j) (he : ¬ σ 2 j = k) : Ct (S := Unit) l G NoX yX5_misread (Wy yX5_misread cX5_misread 4 ((Option.some Jvm.ClassFile.FieldType.int))) { frames := 5, cells := 0, slots := 0, locals := 125 } [.ref ts, .int (nI j), .int (nI k)] ([(ts, .inr (5, [.ref (a 0), .ref (a1 0), .ref (a2 0), .ref hh, .ref (b 0), .int (nI ks)]))] ++ (stW G a σ d ++ ([(hh, .inr (0, [.ref ha, .int (nI f), .int (nI n)])), (ha, .inl (G.2.2.2, 4, .inr (.inr (.inr (.inr (fun j => some (hb j 0)))))))] ++ (stW G (hb 0) (hσ 0) (hd 0) ++ (stW G (hb 1) (hσ 1) (hd 1) ++ (stW G (hb 2) (hσ 2) (hd 2) ++ stW G (hb 3) (hσ 3) (hd 3))))))) (fun u => True) (fun u => some (.int (nI (letAt σ j)))) (fun u => [(ts, .inr (5, [.ref (a 0), .ref (a1 0), .ref (a2 0), .ref hh, .ref (b 0), .int (nI ks)]))] ++ (stW G a (up2 σ 2 j k) d ++ ([(hh, .inr (0, [.ref ha, .int (nI (firstF f n)), .int (nI (sizeF n))])), (ha, .inl (G.2.2.2, 4, .inr (.inr (.inr (.inr (fun j => some (hb j 0)))))))] ++ (stW G (hb 0) ((va_up hσ (slotF f n) σ) 0) ((va_up hd (slotF f n) d) 0) ++ (stW G (hb 1) ((va_up hσ (slotF f n) σ) 1) ((va_up hd (slotF f n) d) 1) ++ (stW G (hb 2) ((va_up hσ (slotF f n) σ) 2) ((va_up hd (slotF f n) d) 2) ++ stW G (hb 3) ((va_up hσ (slotF f n) σ) 3) ((va_up hd (slotF f n) d) 3))))))) := by
  refine Ct.of (by decide) (Nat.le_of_ble_eq_true rfl) (fun p e s m args below meth c C hr hnm hX => ?_)
  have h40 := hI.a
  have hc := hI.c
  have hi := hI.i
  have hs := hI.s
  have hq := hI.q (q := j) (by omega)
  have hdj := hD j hj
  have hdu := hI.due hj
  have hpl := isPl_nI h40.1 hj
  refine J_aload_n C rfl dX5_misread_0 ?_
  refine J_get C 0 0 in5 rfl rfl (by decide) k217 rfl dX5_misread_1 ?_
  refine J_getN C 1 0 in4 rfl rfl (by decide) nfTwoScribes_55 rfl dX5_misread_4 ?_
  refine J_iload_n C rfl dX5_misread_7 ?_
  refine J_callV (as := [.int (nI j)]) (rest := []) C (ct_has l G a σ d (nI j) (by omega)) (fun u => [(ts, .inr (5, [.ref (a 0), .ref (a1 0), .ref (a2 0), .ref hh, .ref (b 0), .int (nI ks)]))] ++ (stW G a σ d ++ ([(hh, .inr (0, [.ref ha, .int (nI f), .int (nI n)])), (ha, .inl (G.2.2.2, 4, .inr (.inr (.inr (.inr (fun j => some (hb j 0)))))))] ++ (stW G (hb 0) (hσ 0) (hd 0) ++ (stW G (hb 1) (hσ 1) (hd 1) ++ (stW G (hb 2) (hσ 2) (hd 2) ++ stW G (hb 3) (hσ 3) (hd 3))))))) [2, 3, 4, 5, 6, 7, 8] [0, 1, 9, 10, 11, 12, 13, 14, 15, 16, 17, 18, 19, 20, 21, 22, 23, 24, 25, 26, 27, 28, 29, 30, 31, 32, 33, 34, 35, 36, 37, 38, 39, 40, 41, 42, 43, 44, 45, 46, 47, 48, 49, 50, 51, 52, 53, 54, 55, 56, 57] 1 k355 k356 k357 k12 k358 rfl (by decide +kernel) ⟨Nat.le_of_ble_eq_true rfl, Nat.le_of_ble_eq_true rfl⟩ ⟨Nat.le_of_ble_eq_true rfl, Nat.le_of_ble_eq_true rfl⟩ dX5_misread_8 (Nat.le_of_ble_eq_true rfl) 2 rfl rfl rfl (by decide +kernel) (fun _ => rfl) ([(ts, .inr (5, [.ref (a 0), .ref (a1 0), .ref (a2 0), .ref hh, .ref (b 0), .int (nI ks)]))] ++ ([(a 0, .inr (4, [.ref (a 1), .ref (a 8), .ref (a 9), .ref (a 10), .float (fl (σ 0 6)), .float (fl (σ 0 7)), .float (fl (σ 0 8)), .int (nI (σ 0 3)), .int (nI (σ 0 9)), .int (nI (σ 0 10)), .int (nI (σ 0 11))])), (a 8, .inr (3, [.int (nI (σ 0 12)), .int (nI (σ 0 14)), .int (nI (σ 0 16)), .int (nI (σ 0 18)), .int (nI (σ 0 20)), .int (nI (σ 0 22)), .float (fl (σ 0 24))])), (a 9, .inr (3, [.int (nI (σ 0 13)), .int (nI (σ 0 15)), .int (nI (σ 0 17)), .int (nI (σ 0 19)), .int (nI (σ 0 21)), .int (nI (σ 0 23)), .float (fl (σ 0 25))])), (a 10, .inl (G.2.1, 3, .inl (fun q => nI (σ 7 q))))] ++ ([(hh, .inr (0, [.ref ha, .int (nI f), .int (nI n)])), (ha, .inl (G.2.2.2, 4, .inr (.inr (.inr (.inr (fun j => some (hb j 0)))))))] ++ (stW G (hb 0) (hσ 0) (hd 0) ++ (stW G (hb 1) (hσ 1) (hd 1) ++ (stW G (hb 2) (hσ 2) (hd 2) ++ stW G (hb 3) (hσ 3) (hd 3))))))) rfl (fun _ => rfl) 58 (fun _ => rfl) (by decide +kernel) (by decide +kernel) (fun _ _ => ?_)
  refine J_st (st' := [.int (if isPl σ (nI j) then 1 else 0)]) rfl ?_
  refine J_if_ne C 16 (by decide) dX5_misread_11 (fun _ => ?_) (fun h => absurd h (fun q => by rw [if_pos (show isPl σ (nI j) from by first | assumption | omega)] at q; exact absurd q (by decide)))
  refine J_iload_n C rfl dX5_misread_16 ?_
  refine J_if_lt C 26 (by decide) dX5_misread_17 (fun h => absurd h (nI_pos (by omega))) (fun _ => ?_)
  refine J_iload_n C rfl dX5_misread_20 ?_
  refine J_bipush C 26 (by decide) dX5_misread_21 ?_
  refine J_icmp_le C 29 (by decide) dX5_misread_23 (fun c23 => ?_) (fun h => absurd (cv_le_f (a := k) (b := 26) (by omega) (by omega) h) (by omega))
  refine J_aload_n C rfl dX5_misread_29 ?_
  refine J_get C 0 0 in5 rfl rfl (by decide) k217 rfl dX5_misread_30 ?_
  refine J_iload_n C rfl dX5_misread_33 ?_
  refine J_callV (as := [.int (nI j)]) (rest := []) C (ct_isBegun l G a σ d j hI hj) (fun u => [(ts, .inr (5, [.ref (a 0), .ref (a1 0), .ref (a2 0), .ref hh, .ref (b 0), .int (nI ks)]))] ++ (stW G a σ d ++ ([(hh, .inr (0, [.ref ha, .int (nI f), .int (nI n)])), (ha, .inl (G.2.2.2, 4, .inr (.inr (.inr (.inr (fun j => some (hb j 0)))))))] ++ (stW G (hb 0) (hσ 0) (hd 0) ++ (stW G (hb 1) (hσ 1) (hd 1) ++ (stW G (hb 2) (hσ 2) (hd 2) ++ stW G (hb 3) (hσ 3) (hd 3))))))) [1, 2, 3, 4, 5, 6, 7, 8, 9, 10, 11] [0, 12, 13, 14, 15, 16, 17, 18, 19, 20, 21, 22, 23, 24, 25, 26, 27, 28, 29, 30, 31, 32, 33, 34, 35, 36, 37, 38, 39, 40, 41, 42, 43, 44, 45, 46, 47, 48, 49, 50, 51, 52, 53, 54, 55, 56, 57] 1 k359 k360 k361 k11 k362 rfl (by decide +kernel) ⟨Nat.le_of_ble_eq_true rfl, Nat.le_of_ble_eq_true rfl⟩ ⟨Nat.le_of_ble_eq_true rfl, Nat.le_of_ble_eq_true rfl⟩ dX5_misread_34 (Nat.le_of_ble_eq_true rfl) 1 rfl rfl rfl (by decide +kernel) (fun _ => rfl) ([(ts, .inr (5, [.ref (a 0), .ref (a1 0), .ref (a2 0), .ref hh, .ref (b 0), .int (nI ks)]))] ++ ([(hh, .inr (0, [.ref ha, .int (nI f), .int (nI n)])), (ha, .inl (G.2.2.2, 4, .inr (.inr (.inr (.inr (fun j => some (hb j 0)))))))] ++ (stW G (hb 0) (hσ 0) (hd 0) ++ (stW G (hb 1) (hσ 1) (hd 1) ++ (stW G (hb 2) (hσ 2) (hd 2) ++ stW G (hb 3) (hσ 3) (hd 3)))))) rfl (fun _ => rfl) 58 (fun _ => rfl) (by decide +kernel) (by decide +kernel) (fun _ _ => ?_)
  refine J_st (st' := [.int (if 0 < σ 3 j ∨ (0 < σ 0 16 ∧ σ 0 14 = j) ∨ (0 < σ 0 17 ∧ σ 0 4 - 1 - σ 0 15 = j) then 1 else 0)]) rfl ?_
  refine J_if_eq C 43 (by decide) dX5_misread_37 (fun _ => ?_) (fun h => absurd h (fun q => q (by rw [if_neg (show ¬ (0 < σ 3 j ∨ (0 < σ 0 16 ∧ σ 0 14 = j) ∨ (0 < σ 0 17 ∧ σ 0 4 - 1 - σ 0 15 = j)) from by first | assumption | omega)])))
  refine J_aload_n C rfl dX5_misread_43 ?_
  refine J_get C 0 0 in5 rfl rfl (by decide) k217 rfl dX5_misread_44 ?_
  refine J_getN C 1 0 in4 rfl rfl (by decide) nfTwoScribes_55 rfl dX5_misread_47 ?_
  refine J_getN C 2 1 in1 rfl rfl (by decide) nfTwoScribes_71 rfl dX5_misread_50 ?_
  refine J_iload_n C rfl dX5_misread_53 ?_
  refine J_callS (as := [.ref (a 3), .int (nI j)]) (rest := []) C (ct_at l G (a 3) 40 (fun q => nI (σ 2 q)) j (by omega) (by decide)) (fun u => [(ts, .inr (5, [.ref (a 0), .ref (a1 0), .ref (a2 0), .ref hh, .ref (b 0), .int (nI ks)]))] ++ (stW G a σ d ++ ([(hh, .inr (0, [.ref ha, .int (nI f), .int (nI n)])), (ha, .inl (G.2.2.2, 4, .inr (.inr (.inr (.inr (fun j => some (hb j 0)))))))] ++ (stW G (hb 0) (hσ 0) (hd 0) ++ (stW G (hb 1) (hσ 1) (hd 1) ++ (stW G (hb 2) (hσ 2) (hd 2) ++ stW G (hb 3) (hσ 3) (hd 3))))))) [4] [0, 1, 2, 3, 5, 6, 7, 8, 9, 10, 11, 12, 13, 14, 15, 16, 17, 18, 19, 20, 21, 22, 23, 24, 25, 26, 27, 28, 29, 30, 31, 32, 33, 34, 35, 36, 37, 38, 39, 40, 41, 42, 43, 44, 45, 46, 47, 48, 49, 50, 51, 52, 53, 54, 55, 56, 57] 2 k376 k340 k10 k341 rfl (by decide +kernel) ⟨Nat.le_of_ble_eq_true rfl, Nat.le_of_ble_eq_true rfl⟩ ⟨Nat.le_of_ble_eq_true rfl, Nat.le_of_ble_eq_true rfl⟩ dX5_misread_54 (Nat.le_of_ble_eq_true rfl) rfl (by decide +kernel) (fun _ => rfl) ([(ts, .inr (5, [.ref (a 0), .ref (a1 0), .ref (a2 0), .ref hh, .ref (b 0), .int (nI ks)]))] ++ ([(a 0, .inr (4, [.ref (a 1), .ref (a 8), .ref (a 9), .ref (a 10), .float (fl (σ 0 6)), .float (fl (σ 0 7)), .float (fl (σ 0 8)), .int (nI (σ 0 3)), .int (nI (σ 0 9)), .int (nI (σ 0 10)), .int (nI (σ 0 11))])), (a 1, .inr (1, [.ref (a 2), .ref (a 3), .ref (a 4), .ref (a 5), .ref (a 6), .ref (a 7), .int (nI (σ 0 4)), .int (nI (σ 0 5))])), (a 2, .inl (G.2.1, 40, .inl (fun q => nI (d q)))), (a 4, .inl (G.2.1, 40, .inl (fun q => nI (σ 3 q)))), (a 5, .inl (G.2.1, 40, .inl (fun q => nI (σ 6 q)))), (a 6, .inl (G.2.1, 40, .inl (fun q => nI (σ 4 q)))), (a 7, .inl (G.2.1, 40, .inl (fun q => nI (σ 5 q)))), (a 8, .inr (3, [.int (nI (σ 0 12)), .int (nI (σ 0 14)), .int (nI (σ 0 16)), .int (nI (σ 0 18)), .int (nI (σ 0 20)), .int (nI (σ 0 22)), .float (fl (σ 0 24))])), (a 9, .inr (3, [.int (nI (σ 0 13)), .int (nI (σ 0 15)), .int (nI (σ 0 17)), .int (nI (σ 0 19)), .int (nI (σ 0 21)), .int (nI (σ 0 23)), .float (fl (σ 0 25))])), (a 10, .inl (G.2.1, 3, .inl (fun q => nI (σ 7 q))))] ++ ([(hh, .inr (0, [.ref ha, .int (nI f), .int (nI n)])), (ha, .inl (G.2.2.2, 4, .inr (.inr (.inr (.inr (fun j => some (hb j 0)))))))] ++ (stW G (hb 0) (hσ 0) (hd 0) ++ (stW G (hb 1) (hσ 1) (hd 1) ++ (stW G (hb 2) (hσ 2) (hd 2) ++ stW G (hb 3) (hσ 3) (hd 3))))))) rfl (fun _ => rfl) 58 (fun _ => rfl) (by decide +kernel) (by decide +kernel) (fun _ _ => ?_)
  refine J_st (st' := [.int (nI (σ 2 j))]) rfl ?_
  refine J_iload_n C rfl dX5_misread_57 ?_
  refine J_icmp_ne C 64 (by decide) dX5_misread_58 (fun c58 => ?_) (fun h => absurd (cv_ne_f (a := (σ 2 j)) (b := k) (by omega) (by omega) h) (by omega))
  refine J_aload_n C rfl dX5_misread_64 ?_
  refine J_get C 0 3 in5 rfl rfl (by decide) k220 rfl dX5_misread_65 ?_
  refine J_aload_n C rfl dX5_misread_68 ?_
  refine J_get C 0 0 in5 rfl rfl (by decide) k217 rfl dX5_misread_69 ?_
  refine J_callV (as := [.ref (a 0)]) (rest := []) C (ct_record l G hh ha hb hσ hd f n a σ d hf4 hn4) (fun u => [(ts, .inr (5, [.ref (a 0), .ref (a1 0), .ref (a2 0), .ref hh, .ref (b 0), .int (nI ks)]))] ++ (stW G a σ d ++ ([(hh, .inr (0, [.ref ha, .int (nI (firstF f n)), .int (nI (sizeF n))])), (ha, .inl (G.2.2.2, 4, .inr (.inr (.inr (.inr (fun j => some (hb j 0)))))))] ++ (stW G (hb 0) ((va_up hσ (slotF f n) σ) 0) ((va_up hd (slotF f n) d) 0) ++ (stW G (hb 1) ((va_up hσ (slotF f n) σ) 1) ((va_up hd (slotF f n) d) 1) ++ (stW G (hb 2) ((va_up hσ (slotF f n) σ) 2) ((va_up hd (slotF f n) d) 2) ++ stW G (hb 3) ((va_up hσ (slotF f n) σ) 3) ((va_up hd (slotF f n) d) 3))))))) [12, 13, 14, 15, 16, 17, 18, 19, 20, 21, 22, 23, 24, 25, 26, 27, 28, 29, 30, 31, 32, 33, 34, 35, 36, 37, 38, 39, 40, 41, 42, 43, 44, 45, 46, 47, 48, 49, 50, 51, 52, 53, 54, 55, 56, 57, 1, 2, 3, 4, 5, 6, 7, 8, 9, 10, 11] [0] 1 k300 k301 k302 k14 k303 rfl (by decide +kernel) ⟨Nat.le_of_ble_eq_true rfl, Nat.le_of_ble_eq_true rfl⟩ ⟨Nat.le_of_ble_eq_true rfl, Nat.le_of_ble_eq_true rfl⟩ dX5_misread_72 (Nat.le_of_ble_eq_true rfl) 12 rfl rfl rfl (by decide +kernel) (fun _ => rfl) ([(ts, .inr (5, [.ref (a 0), .ref (a1 0), .ref (a2 0), .ref hh, .ref (b 0), .int (nI ks)]))]) rfl (fun _ => rfl) 58 (fun _ => rfl) (by decide +kernel) (by decide +kernel) (fun _ _ => ?_)
  refine J_st (st' := []) rfl ?_
  refine J_aload_n C rfl dX5_misread_75 ?_
  refine J_get C 0 0 in5 rfl rfl (by decide) k217 rfl dX5_misread_76 ?_
  refine J_getN C 1 0 in4 rfl rfl (by decide) nfTwoScribes_55 rfl dX5_misread_79 ?_
  refine J_iload_n C rfl dX5_misread_82 ?_
  refine J_callV (as := [.int (nI j)]) (rest := []) C (ct_letterFor l G a σ d j hI hD hj) (fun u => [(ts, .inr (5, [.ref (a 0), .ref (a1 0), .ref (a2 0), .ref hh, .ref (b 0), .int (nI ks)]))] ++ (stW G a σ d ++ ([(hh, .inr (0, [.ref ha, .int (nI (firstF f n)), .int (nI (sizeF n))])), (ha, .inl (G.2.2.2, 4, .inr (.inr (.inr (.inr (fun j => some (hb j 0)))))))] ++ (stW G (hb 0) ((va_up hσ (slotF f n) σ) 0) ((va_up hd (slotF f n) d) 0) ++ (stW G (hb 1) ((va_up hσ (slotF f n) σ) 1) ((va_up hd (slotF f n) d) 1) ++ (stW G (hb 2) ((va_up hσ (slotF f n) σ) 2) ((va_up hd (slotF f n) d) 2) ++ stW G (hb 3) ((va_up hσ (slotF f n) σ) 3) ((va_up hd (slotF f n) d) 3))))))) [2, 3, 4, 5, 6, 7, 8] [0, 1, 9, 10, 11, 12, 13, 14, 15, 16, 17, 18, 19, 20, 21, 22, 23, 24, 25, 26, 27, 28, 29, 30, 31, 32, 33, 34, 35, 36, 37, 38, 39, 40, 41, 42, 43, 44, 45, 46, 47, 48, 49, 50, 51, 52, 53, 54, 55, 56, 57] 1 k377 k378 k379 k12 k380 rfl (by decide +kernel) ⟨Nat.le_of_ble_eq_true rfl, Nat.le_of_ble_eq_true rfl⟩ ⟨Nat.le_of_ble_eq_true rfl, Nat.le_of_ble_eq_true rfl⟩ dX5_misread_83 (Nat.le_of_ble_eq_true rfl) 2 rfl rfl rfl (by decide +kernel) (fun _ => rfl) ([(ts, .inr (5, [.ref (a 0), .ref (a1 0), .ref (a2 0), .ref hh, .ref (b 0), .int (nI ks)]))] ++ ([(a 0, .inr (4, [.ref (a 1), .ref (a 8), .ref (a 9), .ref (a 10), .float (fl (σ 0 6)), .float (fl (σ 0 7)), .float (fl (σ 0 8)), .int (nI (σ 0 3)), .int (nI (σ 0 9)), .int (nI (σ 0 10)), .int (nI (σ 0 11))])), (a 8, .inr (3, [.int (nI (σ 0 12)), .int (nI (σ 0 14)), .int (nI (σ 0 16)), .int (nI (σ 0 18)), .int (nI (σ 0 20)), .int (nI (σ 0 22)), .float (fl (σ 0 24))])), (a 9, .inr (3, [.int (nI (σ 0 13)), .int (nI (σ 0 15)), .int (nI (σ 0 17)), .int (nI (σ 0 19)), .int (nI (σ 0 21)), .int (nI (σ 0 23)), .float (fl (σ 0 25))])), (a 10, .inl (G.2.1, 3, .inl (fun q => nI (σ 7 q))))] ++ ([(hh, .inr (0, [.ref ha, .int (nI (firstF f n)), .int (nI (sizeF n))])), (ha, .inl (G.2.2.2, 4, .inr (.inr (.inr (.inr (fun j => some (hb j 0)))))))] ++ (stW G (hb 0) ((va_up hσ (slotF f n) σ) 0) ((va_up hd (slotF f n) d) 0) ++ (stW G (hb 1) ((va_up hσ (slotF f n) σ) 1) ((va_up hd (slotF f n) d) 1) ++ (stW G (hb 2) ((va_up hσ (slotF f n) σ) 2) ((va_up hd (slotF f n) d) 2) ++ stW G (hb 3) ((va_up hσ (slotF f n) σ) 3) ((va_up hd (slotF f n) d) 3))))))) rfl (fun _ => rfl) 58 (fun _ => rfl) (by decide +kernel) (by decide +kernel) (fun _ _ => ?_)
  refine J_st (st' := [.int (nI (letAt σ j))]) rfl ?_
  refine J_istore_n C [(3, .int (nI (letAt σ j))), (0, .ref ts), (1, .int (nI j)), (2, .int (nI k))] (by decide) rfl dX5_misread_86 ?_
  refine J_aload_n C rfl dX5_misread_87 ?_
  refine J_get C 0 0 in5 rfl rfl (by decide) k217 rfl dX5_misread_88 ?_
  refine J_getN C 1 0 in4 rfl rfl (by decide) nfTwoScribes_55 rfl dX5_misread_91 ?_
  refine J_getN C 2 1 in1 rfl rfl (by decide) nfTwoScribes_71 rfl dX5_misread_94 ?_
  refine J_iload_n C rfl dX5_misread_97 ?_
  refine J_iload_n C rfl dX5_misread_98 ?_
  refine J_callS (as := [.ref (a 3), .int (nI j), .int (nI k)]) (rest := []) C (ct_putN l G (a 3) 40 (σ 2) j k (by omega) (by decide)) (fun u => [(ts, .inr (5, [.ref (a 0), .ref (a1 0), .ref (a2 0), .ref hh, .ref (b 0), .int (nI ks)]))] ++ ([(a 0, .inr (4, [.ref (a 1), .ref (a 8), .ref (a 9), .ref (a 10), .float (fl (σ 0 6)), .float (fl (σ 0 7)), .float (fl (σ 0 8)), .int (nI (σ 0 3)), .int (nI (σ 0 9)), .int (nI (σ 0 10)), .int (nI (σ 0 11))])), (a 1, .inr (1, [.ref (a 2), .ref (a 3), .ref (a 4), .ref (a 5), .ref (a 6), .ref (a 7), .int (nI (σ 0 4)), .int (nI (σ 0 5))])), (a 2, .inl (G.2.1, 40, .inl (fun q => nI (d q)))), (a 3, .inl (G.2.1, 40, .inl (fun q => nI (if q = j then k else (σ 2) q)))), (a 4, .inl (G.2.1, 40, .inl (fun q => nI (σ 3 q)))), (a 5, .inl (G.2.1, 40, .inl (fun q => nI (σ 6 q)))), (a 6, .inl (G.2.1, 40, .inl (fun q => nI (σ 4 q)))), (a 7, .inl (G.2.1, 40, .inl (fun q => nI (σ 5 q)))), (a 8, .inr (3, [.int (nI (σ 0 12)), .int (nI (σ 0 14)), .int (nI (σ 0 16)), .int (nI (σ 0 18)), .int (nI (σ 0 20)), .int (nI (σ 0 22)), .float (fl (σ 0 24))])), (a 9, .inr (3, [.int (nI (σ 0 13)), .int (nI (σ 0 15)), .int (nI (σ 0 17)), .int (nI (σ 0 19)), .int (nI (σ 0 21)), .int (nI (σ 0 23)), .float (fl (σ 0 25))])), (a 10, .inl (G.2.1, 3, .inl (fun q => nI (σ 7 q))))] ++ ([(hh, .inr (0, [.ref ha, .int (nI (firstF f n)), .int (nI (sizeF n))])), (ha, .inl (G.2.2.2, 4, .inr (.inr (.inr (.inr (fun j => some (hb j 0)))))))] ++ (stW G (hb 0) ((va_up hσ (slotF f n) σ) 0) ((va_up hd (slotF f n) d) 0) ++ (stW G (hb 1) ((va_up hσ (slotF f n) σ) 1) ((va_up hd (slotF f n) d) 1) ++ (stW G (hb 2) ((va_up hσ (slotF f n) σ) 2) ((va_up hd (slotF f n) d) 2) ++ stW G (hb 3) ((va_up hσ (slotF f n) σ) 3) ((va_up hd (slotF f n) d) 3))))))) [4] [0, 1, 2, 3, 5, 6, 7, 8, 9, 10, 11, 12, 13, 14, 15, 16, 17, 18, 19, 20, 21, 22, 23, 24, 25, 26, 27, 28, 29, 30, 31, 32, 33, 34, 35, 36, 37, 38, 39, 40, 41, 42, 43, 44, 45, 46, 47, 48, 49, 50, 51, 52, 53, 54, 55, 56, 57] 3 k381 k283 k10 k284 rfl (by decide +kernel) ⟨Nat.le_of_ble_eq_true rfl, Nat.le_of_ble_eq_true rfl⟩ ⟨Nat.le_of_ble_eq_true rfl, Nat.le_of_ble_eq_true rfl⟩ dX5_misread_99 (Nat.le_of_ble_eq_true rfl) rfl (by decide +kernel) (fun _ => rfl) ([(ts, .inr (5, [.ref (a 0), .ref (a1 0), .ref (a2 0), .ref hh, .ref (b 0), .int (nI ks)]))] ++ ([(a 0, .inr (4, [.ref (a 1), .ref (a 8), .ref (a 9), .ref (a 10), .float (fl (σ 0 6)), .float (fl (σ 0 7)), .float (fl (σ 0 8)), .int (nI (σ 0 3)), .int (nI (σ 0 9)), .int (nI (σ 0 10)), .int (nI (σ 0 11))])), (a 1, .inr (1, [.ref (a 2), .ref (a 3), .ref (a 4), .ref (a 5), .ref (a 6), .ref (a 7), .int (nI (σ 0 4)), .int (nI (σ 0 5))])), (a 2, .inl (G.2.1, 40, .inl (fun q => nI (d q)))), (a 4, .inl (G.2.1, 40, .inl (fun q => nI (σ 3 q)))), (a 5, .inl (G.2.1, 40, .inl (fun q => nI (σ 6 q)))), (a 6, .inl (G.2.1, 40, .inl (fun q => nI (σ 4 q)))), (a 7, .inl (G.2.1, 40, .inl (fun q => nI (σ 5 q)))), (a 8, .inr (3, [.int (nI (σ 0 12)), .int (nI (σ 0 14)), .int (nI (σ 0 16)), .int (nI (σ 0 18)), .int (nI (σ 0 20)), .int (nI (σ 0 22)), .float (fl (σ 0 24))])), (a 9, .inr (3, [.int (nI (σ 0 13)), .int (nI (σ 0 15)), .int (nI (σ 0 17)), .int (nI (σ 0 19)), .int (nI (σ 0 21)), .int (nI (σ 0 23)), .float (fl (σ 0 25))])), (a 10, .inl (G.2.1, 3, .inl (fun q => nI (σ 7 q))))] ++ ([(hh, .inr (0, [.ref ha, .int (nI (firstF f n)), .int (nI (sizeF n))])), (ha, .inl (G.2.2.2, 4, .inr (.inr (.inr (.inr (fun j => some (hb j 0)))))))] ++ (stW G (hb 0) ((va_up hσ (slotF f n) σ) 0) ((va_up hd (slotF f n) d) 0) ++ (stW G (hb 1) ((va_up hσ (slotF f n) σ) 1) ((va_up hd (slotF f n) d) 1) ++ (stW G (hb 2) ((va_up hσ (slotF f n) σ) 2) ((va_up hd (slotF f n) d) 2) ++ stW G (hb 3) ((va_up hσ (slotF f n) σ) 3) ((va_up hd (slotF f n) d) 3))))))) rfl (fun _ => rfl) 58 (fun _ => rfl) (by decide +kernel) (by decide +kernel) (fun _ _ => ?_)
  refine J_st (st' := []) rfl ?_
  refine J_iload_n C rfl dX5_misread_102 ?_
  exact J_zret C hr rfl dX5_misread_103 () rfl trivial rfl

set_option maxHeartbeats 4000000 in
set_option maxRecDepth 100000 in
theorem ct_cor1 (l : Launch) (G : GT) (ts : Nat) (a a1 a2 : Nat → Nat) (hh : Nat) (b : Nat → Nat) (ks : Nat) (σ : AS) (d : Nat → Nat) (x : Int32) (hI : Inv σ) (hx : ¬ isPl σ x) : Ct (S := Unit) l G NoX yX5_correct (Wy yX5_correct cX5_correct 2 ((Option.some Jvm.ClassFile.FieldType.int))) { frames := 1, cells := 0, slots := 0, locals := 21 } [.ref ts, .int x] ([(ts, .inr (5, [.ref (a 0), .ref (a1 0), .ref (a2 0), .ref hh, .ref (b 0), .int (nI ks)]))] ++ stW G a σ d) (fun u => True) (fun u => some (.int (-1))) (fun u => [(ts, .inr (5, [.ref (a 0), .ref (a1 0), .ref (a2 0), .ref hh, .ref (b 0), .int (nI ks)]))] ++ stW G a σ d) := by
  refine Ct.of (by decide) (Nat.le_of_ble_eq_true rfl) (fun p e s m args below meth c C hr hnm hX => ?_)
  have h40 := hI.a
  have hc := hI.c
  have hi := hI.i
  have hs := hI.s
  refine J_aload_n C rfl dX5_correct_0 ?_
  refine J_get C 0 0 in5 rfl rfl (by decide) k217 rfl dX5_correct_1 ?_
  refine J_getN C 1 0 in4 rfl rfl (by decide) nfTwoScribes_55 rfl dX5_correct_4 ?_
  refine J_iload_n C rfl dX5_correct_7 ?_
  refine J_callV (as := [.int x]) (rest := []) C (ct_has l G a σ d x (by omega)) (fun u => [(ts, .inr (5, [.ref (a 0), .ref (a1 0), .ref (a2 0), .ref hh, .ref (b 0), .int (nI ks)]))] ++ stW G a σ d) [2, 3, 4, 5, 6, 7, 8] [0, 1, 9, 10, 11] 1 k355 k356 k357 k12 k358 rfl (by decide +kernel) ⟨Nat.le_of_ble_eq_true rfl, Nat.le_of_ble_eq_true rfl⟩ ⟨Nat.le_of_ble_eq_true rfl, Nat.le_of_ble_eq_true rfl⟩ dX5_correct_8 (Nat.le_of_ble_eq_true rfl) 2 rfl rfl rfl (by decide +kernel) (fun _ => rfl) ([(ts, .inr (5, [.ref (a 0), .ref (a1 0), .ref (a2 0), .ref hh, .ref (b 0), .int (nI ks)]))] ++ [(a 0, .inr (4, [.ref (a 1), .ref (a 8), .ref (a 9), .ref (a 10), .float (fl (σ 0 6)), .float (fl (σ 0 7)), .float (fl (σ 0 8)), .int (nI (σ 0 3)), .int (nI (σ 0 9)), .int (nI (σ 0 10)), .int (nI (σ 0 11))])), (a 8, .inr (3, [.int (nI (σ 0 12)), .int (nI (σ 0 14)), .int (nI (σ 0 16)), .int (nI (σ 0 18)), .int (nI (σ 0 20)), .int (nI (σ 0 22)), .float (fl (σ 0 24))])), (a 9, .inr (3, [.int (nI (σ 0 13)), .int (nI (σ 0 15)), .int (nI (σ 0 17)), .int (nI (σ 0 19)), .int (nI (σ 0 21)), .int (nI (σ 0 23)), .float (fl (σ 0 25))])), (a 10, .inl (G.2.1, 3, .inl (fun q => nI (σ 7 q))))]) rfl (fun _ => rfl) 12 (fun _ => rfl) (by decide +kernel) (by decide +kernel) (fun _ _ => ?_)
  refine J_st (st' := [.int (if isPl σ x then 1 else 0)]) rfl ?_
  refine J_if_ne C 16 (by decide) dX5_correct_11 (fun h => absurd h (fun q => q (by rw [if_neg (show ¬ (isPl σ x) from by first | assumption | omega)]))) (fun _ => ?_)
  refine J_iconst C (-1) (by decide) dX5_correct_14 ?_
  exact J_zret C hr rfl dX5_correct_15 () rfl trivial rfl

set_option maxHeartbeats 4000000 in
set_option maxRecDepth 100000 in
theorem ct_cor2 (l : Launch) (G : GT) (ts : Nat) (a a1 a2 : Nat → Nat) (hh : Nat) (b : Nat → Nat) (ks : Nat) (σ : AS) (d : Nat → Nat) (j : Nat) (hI : Inv σ) (hD : DOK σ d) (hj : j < σ 0 4) (hbg : ¬ canP σ j) : Ct (S := Unit) l G NoX yX5_correct (Wy yX5_correct cX5_correct 2 ((Option.some Jvm.ClassFile.FieldType.int))) { frames := 3, cells := 0, slots := 0, locals := 63 } [.ref ts, .int (nI j)] ([(ts, .inr (5, [.ref (a 0), .ref (a1 0), .ref (a2 0), .ref hh, .ref (b 0), .int (nI ks)]))] ++ stW G a σ d) (fun u => True) (fun u => some (.int (-4))) (fun u => [(ts, .inr (5, [.ref (a 0), .ref (a1 0), .ref (a2 0), .ref hh, .ref (b 0), .int (nI ks)]))] ++ stW G a σ d) := by
  refine Ct.of (by decide) (Nat.le_of_ble_eq_true rfl) (fun p e s m args below meth c C hr hnm hX => ?_)
  have h40 := hI.a
  have hc := hI.c
  have hi := hI.i
  have hs := hI.s
  have hq := hI.q (q := j) (by omega)
  have hdj := hD j hj
  have hdu := hI.due hj
  have hpl := isPl_nI h40.1 hj
  refine J_aload_n C rfl dX5_correct_0 ?_
  refine J_get C 0 0 in5 rfl rfl (by decide) k217 rfl dX5_correct_1 ?_
  refine J_getN C 1 0 in4 rfl rfl (by decide) nfTwoScribes_55 rfl dX5_correct_4 ?_
  refine J_iload_n C rfl dX5_correct_7 ?_
  refine J_callV (as := [.int (nI j)]) (rest := []) C (ct_has l G a σ d (nI j) (by omega)) (fun u => [(ts, .inr (5, [.ref (a 0), .ref (a1 0), .ref (a2 0), .ref hh, .ref (b 0), .int (nI ks)]))] ++ stW G a σ d) [2, 3, 4, 5, 6, 7, 8] [0, 1, 9, 10, 11] 1 k355 k356 k357 k12 k358 rfl (by decide +kernel) ⟨Nat.le_of_ble_eq_true rfl, Nat.le_of_ble_eq_true rfl⟩ ⟨Nat.le_of_ble_eq_true rfl, Nat.le_of_ble_eq_true rfl⟩ dX5_correct_8 (Nat.le_of_ble_eq_true rfl) 2 rfl rfl rfl (by decide +kernel) (fun _ => rfl) ([(ts, .inr (5, [.ref (a 0), .ref (a1 0), .ref (a2 0), .ref hh, .ref (b 0), .int (nI ks)]))] ++ [(a 0, .inr (4, [.ref (a 1), .ref (a 8), .ref (a 9), .ref (a 10), .float (fl (σ 0 6)), .float (fl (σ 0 7)), .float (fl (σ 0 8)), .int (nI (σ 0 3)), .int (nI (σ 0 9)), .int (nI (σ 0 10)), .int (nI (σ 0 11))])), (a 8, .inr (3, [.int (nI (σ 0 12)), .int (nI (σ 0 14)), .int (nI (σ 0 16)), .int (nI (σ 0 18)), .int (nI (σ 0 20)), .int (nI (σ 0 22)), .float (fl (σ 0 24))])), (a 9, .inr (3, [.int (nI (σ 0 13)), .int (nI (σ 0 15)), .int (nI (σ 0 17)), .int (nI (σ 0 19)), .int (nI (σ 0 21)), .int (nI (σ 0 23)), .float (fl (σ 0 25))])), (a 10, .inl (G.2.1, 3, .inl (fun q => nI (σ 7 q))))]) rfl (fun _ => rfl) 12 (fun _ => rfl) (by decide +kernel) (by decide +kernel) (fun _ _ => ?_)
  refine J_st (st' := [.int (if isPl σ (nI j) then 1 else 0)]) rfl ?_
  refine J_if_ne C 16 (by decide) dX5_correct_11 (fun _ => ?_) (fun h => absurd h (fun q => by rw [if_pos (show isPl σ (nI j) from by first | assumption | omega)] at q; exact absurd q (by decide)))
  refine J_aload_n C rfl dX5_correct_16 ?_
  refine J_get C 0 0 in5 rfl rfl (by decide) k217 rfl dX5_correct_17 ?_
  refine J_iload_n C rfl dX5_correct_20 ?_
  refine J_callV (as := [.int (nI j)]) (rest := []) C (ct_canCorrect l G a σ d j hI hD hj) (fun u => [(ts, .inr (5, [.ref (a 0), .ref (a1 0), .ref (a2 0), .ref hh, .ref (b 0), .int (nI ks)]))] ++ stW G a σ d) [1, 2, 3, 4, 5, 6, 7, 8, 9, 10, 11] [0] 1 k444 k445 k446 k11 k447 rfl (by decide +kernel) ⟨Nat.le_of_ble_eq_true rfl, Nat.le_of_ble_eq_true rfl⟩ ⟨Nat.le_of_ble_eq_true rfl, Nat.le_of_ble_eq_true rfl⟩ dX5_correct_21 (Nat.le_of_ble_eq_true rfl) 1 rfl rfl rfl (by decide +kernel) (fun _ => rfl) ([(ts, .inr (5, [.ref (a 0), .ref (a1 0), .ref (a2 0), .ref hh, .ref (b 0), .int (nI ks)]))]) rfl (fun _ => rfl) 12 (fun _ => rfl) (by decide +kernel) (by decide +kernel) (fun _ _ => ?_)
  refine J_st (st' := [.int (if 0 < σ 3 j ∧ σ 0 5 < σ 7 2 ∧ dueAt σ j ≤ σ 0 6 then 1 else 0)]) rfl ?_
  refine J_if_ne C 30 (by decide) dX5_correct_24 (fun h => absurd h (fun q => q (by rw [if_neg (show ¬ (0 < σ 3 j ∧ σ 0 5 < σ 7 2 ∧ dueAt σ j ≤ σ 0 6) from by first | assumption | omega)]))) (fun _ => ?_)
  refine J_bipush C (-4) (by decide) dX5_correct_27 ?_
  exact J_zret C hr rfl dX5_correct_29 () rfl trivial rfl

set_option maxHeartbeats 4000000 in
set_option maxRecDepth 100000 in
theorem ct_cor3 (l : Launch) (G : GT) (ts : Nat) (a a1 a2 : Nat → Nat) (hh : Nat) (b : Nat → Nat) (ks : Nat) (σ : AS) (d : Nat → Nat) (j : Nat) (hI : Inv σ) (hD : DOK σ d) (hj : j < σ 0 4) (hbg : canP σ j) (hg : goodP σ j) : Ct (S := Unit) l G NoX yX5_correct (Wy yX5_correct cX5_correct 2 ((Option.some Jvm.ClassFile.FieldType.int))) { frames := 3, cells := 0, slots := 0, locals := 63 } [.ref ts, .int (nI j)] ([(ts, .inr (5, [.ref (a 0), .ref (a1 0), .ref (a2 0), .ref hh, .ref (b 0), .int (nI ks)]))] ++ stW G a σ d) (fun u => True) (fun u => some (.int (-5))) (fun u => [(ts, .inr (5, [.ref (a 0), .ref (a1 0), .ref (a2 0), .ref hh, .ref (b 0), .int (nI ks)]))] ++ stW G a σ d) := by
  refine Ct.of (by decide) (Nat.le_of_ble_eq_true rfl) (fun p e s m args below meth c C hr hnm hX => ?_)
  have h40 := hI.a
  have hc := hI.c
  have hi := hI.i
  have hs := hI.s
  have hq := hI.q (q := j) (by omega)
  have hdj := hD j hj
  have hdu := hI.due hj
  have hpl := isPl_nI h40.1 hj
  refine J_aload_n C rfl dX5_correct_0 ?_
  refine J_get C 0 0 in5 rfl rfl (by decide) k217 rfl dX5_correct_1 ?_
  refine J_getN C 1 0 in4 rfl rfl (by decide) nfTwoScribes_55 rfl dX5_correct_4 ?_
  refine J_iload_n C rfl dX5_correct_7 ?_
  refine J_callV (as := [.int (nI j)]) (rest := []) C (ct_has l G a σ d (nI j) (by omega)) (fun u => [(ts, .inr (5, [.ref (a 0), .ref (a1 0), .ref (a2 0), .ref hh, .ref (b 0), .int (nI ks)]))] ++ stW G a σ d) [2, 3, 4, 5, 6, 7, 8] [0, 1, 9, 10, 11] 1 k355 k356 k357 k12 k358 rfl (by decide +kernel) ⟨Nat.le_of_ble_eq_true rfl, Nat.le_of_ble_eq_true rfl⟩ ⟨Nat.le_of_ble_eq_true rfl, Nat.le_of_ble_eq_true rfl⟩ dX5_correct_8 (Nat.le_of_ble_eq_true rfl) 2 rfl rfl rfl (by decide +kernel) (fun _ => rfl) ([(ts, .inr (5, [.ref (a 0), .ref (a1 0), .ref (a2 0), .ref hh, .ref (b 0), .int (nI ks)]))] ++ [(a 0, .inr (4, [.ref (a 1), .ref (a 8), .ref (a 9), .ref (a 10), .float (fl (σ 0 6)), .float (fl (σ 0 7)), .float (fl (σ 0 8)), .int (nI (σ 0 3)), .int (nI (σ 0 9)), .int (nI (σ 0 10)), .int (nI (σ 0 11))])), (a 8, .inr (3, [.int (nI (σ 0 12)), .int (nI (σ 0 14)), .int (nI (σ 0 16)), .int (nI (σ 0 18)), .int (nI (σ 0 20)), .int (nI (σ 0 22)), .float (fl (σ 0 24))])), (a 9, .inr (3, [.int (nI (σ 0 13)), .int (nI (σ 0 15)), .int (nI (σ 0 17)), .int (nI (σ 0 19)), .int (nI (σ 0 21)), .int (nI (σ 0 23)), .float (fl (σ 0 25))])), (a 10, .inl (G.2.1, 3, .inl (fun q => nI (σ 7 q))))]) rfl (fun _ => rfl) 12 (fun _ => rfl) (by decide +kernel) (by decide +kernel) (fun _ _ => ?_)
  refine J_st (st' := [.int (if isPl σ (nI j) then 1 else 0)]) rfl ?_
  refine J_if_ne C 16 (by decide) dX5_correct_11 (fun _ => ?_) (fun h => absurd h (fun q => by rw [if_pos (show isPl σ (nI j) from by first | assumption | omega)] at q; exact absurd q (by decide)))
  refine J_aload_n C rfl dX5_correct_16 ?_
  refine J_get C 0 0 in5 rfl rfl (by decide) k217 rfl dX5_correct_17 ?_
  refine J_iload_n C rfl dX5_correct_20 ?_
  refine J_callV (as := [.int (nI j)]) (rest := []) C (ct_canCorrect l G a σ d j hI hD hj) (fun u => [(ts, .inr (5, [.ref (a 0), .ref (a1 0), .ref (a2 0), .ref hh, .ref (b 0), .int (nI ks)]))] ++ stW G a σ d) [1, 2, 3, 4, 5, 6, 7, 8, 9, 10, 11] [0] 1 k444 k445 k446 k11 k447 rfl (by decide +kernel) ⟨Nat.le_of_ble_eq_true rfl, Nat.le_of_ble_eq_true rfl⟩ ⟨Nat.le_of_ble_eq_true rfl, Nat.le_of_ble_eq_true rfl⟩ dX5_correct_21 (Nat.le_of_ble_eq_true rfl) 1 rfl rfl rfl (by decide +kernel) (fun _ => rfl) ([(ts, .inr (5, [.ref (a 0), .ref (a1 0), .ref (a2 0), .ref hh, .ref (b 0), .int (nI ks)]))]) rfl (fun _ => rfl) 12 (fun _ => rfl) (by decide +kernel) (by decide +kernel) (fun _ _ => ?_)
  refine J_st (st' := [.int (if 0 < σ 3 j ∧ σ 0 5 < σ 7 2 ∧ dueAt σ j ≤ σ 0 6 then 1 else 0)]) rfl ?_
  refine J_if_ne C 30 (by decide) dX5_correct_24 (fun _ => ?_) (fun h => absurd h (fun q => by rw [if_pos (show 0 < σ 3 j ∧ σ 0 5 < σ 7 2 ∧ dueAt σ j ≤ σ 0 6 from by first | assumption | omega)] at q; exact absurd q (by decide)))
  refine J_aload_n C rfl dX5_correct_30 ?_
  refine J_get C 0 0 in5 rfl rfl (by decide) k217 rfl dX5_correct_31 ?_
  refine J_getN C 1 0 in4 rfl rfl (by decide) nfTwoScribes_55 rfl dX5_correct_34 ?_
  refine J_iload_n C rfl dX5_correct_37 ?_
  refine J_callV (as := [.int (nI j)]) (rest := []) C (ct_isFaultless l G a σ d j hI hD hj) (fun u => [(ts, .inr (5, [.ref (a 0), .ref (a1 0), .ref (a2 0), .ref hh, .ref (b 0), .int (nI ks)]))] ++ stW G a σ d) [2, 3, 4, 5, 6, 7, 8] [0, 1, 9, 10, 11] 1 k453 k454 k455 k12 k456 rfl (by decide +kernel) ⟨Nat.le_of_ble_eq_true rfl, Nat.le_of_ble_eq_true rfl⟩ ⟨Nat.le_of_ble_eq_true rfl, Nat.le_of_ble_eq_true rfl⟩ dX5_correct_38 (Nat.le_of_ble_eq_true rfl) 2 rfl rfl rfl (by decide +kernel) (fun _ => rfl) ([(ts, .inr (5, [.ref (a 0), .ref (a1 0), .ref (a2 0), .ref hh, .ref (b 0), .int (nI ks)]))] ++ [(a 0, .inr (4, [.ref (a 1), .ref (a 8), .ref (a 9), .ref (a 10), .float (fl (σ 0 6)), .float (fl (σ 0 7)), .float (fl (σ 0 8)), .int (nI (σ 0 3)), .int (nI (σ 0 9)), .int (nI (σ 0 10)), .int (nI (σ 0 11))])), (a 8, .inr (3, [.int (nI (σ 0 12)), .int (nI (σ 0 14)), .int (nI (σ 0 16)), .int (nI (σ 0 18)), .int (nI (σ 0 20)), .int (nI (σ 0 22)), .float (fl (σ 0 24))])), (a 9, .inr (3, [.int (nI (σ 0 13)), .int (nI (σ 0 15)), .int (nI (σ 0 17)), .int (nI (σ 0 19)), .int (nI (σ 0 21)), .int (nI (σ 0 23)), .float (fl (σ 0 25))])), (a 10, .inl (G.2.1, 3, .inl (fun q => nI (σ 7 q))))]) rfl (fun _ => rfl) 12 (fun _ => rfl) (by decide +kernel) (by decide +kernel) (fun _ _ => ?_)
  refine J_st (st' := [.int (if σ 3 j = dueAt σ j ∧ σ 4 j = 0 then 1 else 0)]) rfl ?_
  refine J_if_eq C 47 (by decide) dX5_correct_41 (fun h => absurd h (fun q => by rw [if_pos (show σ 3 j = dueAt σ j ∧ σ 4 j = 0 from by first | assumption | omega)] at q; exact absurd q (by decide))) (fun _ => ?_)
  refine J_bipush C (-5) (by decide) dX5_correct_44 ?_
  exact J_zret C hr rfl dX5_correct_46 () rfl trivial rfl

set_option maxHeartbeats 4000000 in
set_option maxRecDepth 100000 in
theorem ct_corY (l : Launch) (G : GT) (ts : Nat) (a a1 a2 : Nat → Nat) (hh : Nat) (b : Nat → Nat) (ks : Nat) (σ : AS) (d : Nat → Nat) (ha : Nat) (hb : Nat → Nat → Nat) (hσ : Nat → AS) (hd : Nat → Nat → Nat) (f n : Nat) (j : Nat) (hI : Inv σ) (hD : DOK σ d) (hf4 : f < 4) (hn4 : n ≤ 4) (hj : j < σ 0 4) (hbg : canP σ j) (hg : ¬ goodP σ j) : Ct (S := Unit) l G NoX yX5_correct (Wy yX5_correct cX5_correct 2 ((Option.some Jvm.ClassFile.FieldType.int))) { frames := 5, cells := 0, slots := 0, locals := 125 } [.ref ts, .int (nI j)] ([(ts, .inr (5, [.ref (a 0), .ref (a1 0), .ref (a2 0), .ref hh, .ref (b 0), .int (nI ks)]))] ++ (stW G a σ d ++ ([(hh, .inr (0, [.ref ha, .int (nI f), .int (nI n)])), (ha, .inl (G.2.2.2, 4, .inr (.inr (.inr (.inr (fun j => some (hb j 0)))))))] ++ (stW G (hb 0) (hσ 0) (hd 0) ++ (stW G (hb 1) (hσ 1) (hd 1) ++ (stW G (hb 2) (hσ 2) (hd 2) ++ stW G (hb 3) (hσ 3) (hd 3))))))) (fun u => True) (fun u => some (.int (nI (σ 7 2 - (σ 0 5 + 1))))) (fun u => [(ts, .inr (5, [.ref (a 0), .ref (a1 0), .ref (a2 0), .ref hh, .ref (b 0), .int (nI ks)]))] ++ (stW G a (corF σ j) d ++ ([(hh, .inr (0, [.ref ha, .int (nI (firstF f n)), .int (nI (sizeF n))])), (ha, .inl (G.2.2.2, 4, .inr (.inr (.inr (.inr (fun j => some (hb j 0)))))))] ++ (stW G (hb 0) ((va_up hσ (slotF f n) σ) 0) ((va_up hd (slotF f n) d) 0) ++ (stW G (hb 1) ((va_up hσ (slotF f n) σ) 1) ((va_up hd (slotF f n) d) 1) ++ (stW G (hb 2) ((va_up hσ (slotF f n) σ) 2) ((va_up hd (slotF f n) d) 2) ++ stW G (hb 3) ((va_up hσ (slotF f n) σ) 3) ((va_up hd (slotF f n) d) 3))))))) := by
  refine Ct.of (by decide) (Nat.le_of_ble_eq_true rfl) (fun p e s m args below meth c C hr hnm hX => ?_)
  have h40 := hI.a
  have hc := hI.c
  have hi := hI.i
  have hs := hI.s
  have hq := hI.q (q := j) (by omega)
  have hdj := hD j hj
  have hdu := hI.due hj
  have hpl := isPl_nI h40.1 hj
  refine J_aload_n C rfl dX5_correct_0 ?_
  refine J_get C 0 0 in5 rfl rfl (by decide) k217 rfl dX5_correct_1 ?_
  refine J_getN C 1 0 in4 rfl rfl (by decide) nfTwoScribes_55 rfl dX5_correct_4 ?_
  refine J_iload_n C rfl dX5_correct_7 ?_
  refine J_callV (as := [.int (nI j)]) (rest := []) C (ct_has l G a σ d (nI j) (by omega)) (fun u => [(ts, .inr (5, [.ref (a 0), .ref (a1 0), .ref (a2 0), .ref hh, .ref (b 0), .int (nI ks)]))] ++ (stW G a σ d ++ ([(hh, .inr (0, [.ref ha, .int (nI f), .int (nI n)])), (ha, .inl (G.2.2.2, 4, .inr (.inr (.inr (.inr (fun j => some (hb j 0)))))))] ++ (stW G (hb 0) (hσ 0) (hd 0) ++ (stW G (hb 1) (hσ 1) (hd 1) ++ (stW G (hb 2) (hσ 2) (hd 2) ++ stW G (hb 3) (hσ 3) (hd 3))))))) [2, 3, 4, 5, 6, 7, 8] [0, 1, 9, 10, 11, 12, 13, 14, 15, 16, 17, 18, 19, 20, 21, 22, 23, 24, 25, 26, 27, 28, 29, 30, 31, 32, 33, 34, 35, 36, 37, 38, 39, 40, 41, 42, 43, 44, 45, 46, 47, 48, 49, 50, 51, 52, 53, 54, 55, 56, 57] 1 k355 k356 k357 k12 k358 rfl (by decide +kernel) ⟨Nat.le_of_ble_eq_true rfl, Nat.le_of_ble_eq_true rfl⟩ ⟨Nat.le_of_ble_eq_true rfl, Nat.le_of_ble_eq_true rfl⟩ dX5_correct_8 (Nat.le_of_ble_eq_true rfl) 2 rfl rfl rfl (by decide +kernel) (fun _ => rfl) ([(ts, .inr (5, [.ref (a 0), .ref (a1 0), .ref (a2 0), .ref hh, .ref (b 0), .int (nI ks)]))] ++ ([(a 0, .inr (4, [.ref (a 1), .ref (a 8), .ref (a 9), .ref (a 10), .float (fl (σ 0 6)), .float (fl (σ 0 7)), .float (fl (σ 0 8)), .int (nI (σ 0 3)), .int (nI (σ 0 9)), .int (nI (σ 0 10)), .int (nI (σ 0 11))])), (a 8, .inr (3, [.int (nI (σ 0 12)), .int (nI (σ 0 14)), .int (nI (σ 0 16)), .int (nI (σ 0 18)), .int (nI (σ 0 20)), .int (nI (σ 0 22)), .float (fl (σ 0 24))])), (a 9, .inr (3, [.int (nI (σ 0 13)), .int (nI (σ 0 15)), .int (nI (σ 0 17)), .int (nI (σ 0 19)), .int (nI (σ 0 21)), .int (nI (σ 0 23)), .float (fl (σ 0 25))])), (a 10, .inl (G.2.1, 3, .inl (fun q => nI (σ 7 q))))] ++ ([(hh, .inr (0, [.ref ha, .int (nI f), .int (nI n)])), (ha, .inl (G.2.2.2, 4, .inr (.inr (.inr (.inr (fun j => some (hb j 0)))))))] ++ (stW G (hb 0) (hσ 0) (hd 0) ++ (stW G (hb 1) (hσ 1) (hd 1) ++ (stW G (hb 2) (hσ 2) (hd 2) ++ stW G (hb 3) (hσ 3) (hd 3))))))) rfl (fun _ => rfl) 58 (fun _ => rfl) (by decide +kernel) (by decide +kernel) (fun _ _ => ?_)
  refine J_st (st' := [.int (if isPl σ (nI j) then 1 else 0)]) rfl ?_
  refine J_if_ne C 16 (by decide) dX5_correct_11 (fun _ => ?_) (fun h => absurd h (fun q => by rw [if_pos (show isPl σ (nI j) from by first | assumption | omega)] at q; exact absurd q (by decide)))
  refine J_aload_n C rfl dX5_correct_16 ?_
  refine J_get C 0 0 in5 rfl rfl (by decide) k217 rfl dX5_correct_17 ?_
  refine J_iload_n C rfl dX5_correct_20 ?_
  refine J_callV (as := [.int (nI j)]) (rest := []) C (ct_canCorrect l G a σ d j hI hD hj) (fun u => [(ts, .inr (5, [.ref (a 0), .ref (a1 0), .ref (a2 0), .ref hh, .ref (b 0), .int (nI ks)]))] ++ (stW G a σ d ++ ([(hh, .inr (0, [.ref ha, .int (nI f), .int (nI n)])), (ha, .inl (G.2.2.2, 4, .inr (.inr (.inr (.inr (fun j => some (hb j 0)))))))] ++ (stW G (hb 0) (hσ 0) (hd 0) ++ (stW G (hb 1) (hσ 1) (hd 1) ++ (stW G (hb 2) (hσ 2) (hd 2) ++ stW G (hb 3) (hσ 3) (hd 3))))))) [1, 2, 3, 4, 5, 6, 7, 8, 9, 10, 11] [0, 12, 13, 14, 15, 16, 17, 18, 19, 20, 21, 22, 23, 24, 25, 26, 27, 28, 29, 30, 31, 32, 33, 34, 35, 36, 37, 38, 39, 40, 41, 42, 43, 44, 45, 46, 47, 48, 49, 50, 51, 52, 53, 54, 55, 56, 57] 1 k444 k445 k446 k11 k447 rfl (by decide +kernel) ⟨Nat.le_of_ble_eq_true rfl, Nat.le_of_ble_eq_true rfl⟩ ⟨Nat.le_of_ble_eq_true rfl, Nat.le_of_ble_eq_true rfl⟩ dX5_correct_21 (Nat.le_of_ble_eq_true rfl) 1 rfl rfl rfl (by decide +kernel) (fun _ => rfl) ([(ts, .inr (5, [.ref (a 0), .ref (a1 0), .ref (a2 0), .ref hh, .ref (b 0), .int (nI ks)]))] ++ ([(hh, .inr (0, [.ref ha, .int (nI f), .int (nI n)])), (ha, .inl (G.2.2.2, 4, .inr (.inr (.inr (.inr (fun j => some (hb j 0)))))))] ++ (stW G (hb 0) (hσ 0) (hd 0) ++ (stW G (hb 1) (hσ 1) (hd 1) ++ (stW G (hb 2) (hσ 2) (hd 2) ++ stW G (hb 3) (hσ 3) (hd 3)))))) rfl (fun _ => rfl) 58 (fun _ => rfl) (by decide +kernel) (by decide +kernel) (fun _ _ => ?_)
  refine J_st (st' := [.int (if 0 < σ 3 j ∧ σ 0 5 < σ 7 2 ∧ dueAt σ j ≤ σ 0 6 then 1 else 0)]) rfl ?_
  refine J_if_ne C 30 (by decide) dX5_correct_24 (fun _ => ?_) (fun h => absurd h (fun q => by rw [if_pos (show 0 < σ 3 j ∧ σ 0 5 < σ 7 2 ∧ dueAt σ j ≤ σ 0 6 from by first | assumption | omega)] at q; exact absurd q (by decide)))
  refine J_aload_n C rfl dX5_correct_30 ?_
  refine J_get C 0 0 in5 rfl rfl (by decide) k217 rfl dX5_correct_31 ?_
  refine J_getN C 1 0 in4 rfl rfl (by decide) nfTwoScribes_55 rfl dX5_correct_34 ?_
  refine J_iload_n C rfl dX5_correct_37 ?_
  refine J_callV (as := [.int (nI j)]) (rest := []) C (ct_isFaultless l G a σ d j hI hD hj) (fun u => [(ts, .inr (5, [.ref (a 0), .ref (a1 0), .ref (a2 0), .ref hh, .ref (b 0), .int (nI ks)]))] ++ (stW G a σ d ++ ([(hh, .inr (0, [.ref ha, .int (nI f), .int (nI n)])), (ha, .inl (G.2.2.2, 4, .inr (.inr (.inr (.inr (fun j => some (hb j 0)))))))] ++ (stW G (hb 0) (hσ 0) (hd 0) ++ (stW G (hb 1) (hσ 1) (hd 1) ++ (stW G (hb 2) (hσ 2) (hd 2) ++ stW G (hb 3) (hσ 3) (hd 3))))))) [2, 3, 4, 5, 6, 7, 8] [0, 1, 9, 10, 11, 12, 13, 14, 15, 16, 17, 18, 19, 20, 21, 22, 23, 24, 25, 26, 27, 28, 29, 30, 31, 32, 33, 34, 35, 36, 37, 38, 39, 40, 41, 42, 43, 44, 45, 46, 47, 48, 49, 50, 51, 52, 53, 54, 55, 56, 57] 1 k453 k454 k455 k12 k456 rfl (by decide +kernel) ⟨Nat.le_of_ble_eq_true rfl, Nat.le_of_ble_eq_true rfl⟩ ⟨Nat.le_of_ble_eq_true rfl, Nat.le_of_ble_eq_true rfl⟩ dX5_correct_38 (Nat.le_of_ble_eq_true rfl) 2 rfl rfl rfl (by decide +kernel) (fun _ => rfl) ([(ts, .inr (5, [.ref (a 0), .ref (a1 0), .ref (a2 0), .ref hh, .ref (b 0), .int (nI ks)]))] ++ ([(a 0, .inr (4, [.ref (a 1), .ref (a 8), .ref (a 9), .ref (a 10), .float (fl (σ 0 6)), .float (fl (σ 0 7)), .float (fl (σ 0 8)), .int (nI (σ 0 3)), .int (nI (σ 0 9)), .int (nI (σ 0 10)), .int (nI (σ 0 11))])), (a 8, .inr (3, [.int (nI (σ 0 12)), .int (nI (σ 0 14)), .int (nI (σ 0 16)), .int (nI (σ 0 18)), .int (nI (σ 0 20)), .int (nI (σ 0 22)), .float (fl (σ 0 24))])), (a 9, .inr (3, [.int (nI (σ 0 13)), .int (nI (σ 0 15)), .int (nI (σ 0 17)), .int (nI (σ 0 19)), .int (nI (σ 0 21)), .int (nI (σ 0 23)), .float (fl (σ 0 25))])), (a 10, .inl (G.2.1, 3, .inl (fun q => nI (σ 7 q))))] ++ ([(hh, .inr (0, [.ref ha, .int (nI f), .int (nI n)])), (ha, .inl (G.2.2.2, 4, .inr (.inr (.inr (.inr (fun j => some (hb j 0)))))))] ++ (stW G (hb 0) (hσ 0) (hd 0) ++ (stW G (hb 1) (hσ 1) (hd 1) ++ (stW G (hb 2) (hσ 2) (hd 2) ++ stW G (hb 3) (hσ 3) (hd 3))))))) rfl (fun _ => rfl) 58 (fun _ => rfl) (by decide +kernel) (by decide +kernel) (fun _ _ => ?_)
  refine J_st (st' := [.int (if σ 3 j = dueAt σ j ∧ σ 4 j = 0 then 1 else 0)]) rfl ?_
  refine J_if_eq C 47 (by decide) dX5_correct_41 (fun _ => ?_) (fun h => absurd h (fun q => q (by rw [if_neg (show ¬ (σ 3 j = dueAt σ j ∧ σ 4 j = 0) from by first | assumption | omega)])))
  refine J_aload_n C rfl dX5_correct_47 ?_
  refine J_get C 0 3 in5 rfl rfl (by decide) k220 rfl dX5_correct_48 ?_
  refine J_aload_n C rfl dX5_correct_51 ?_
  refine J_get C 0 0 in5 rfl rfl (by decide) k217 rfl dX5_correct_52 ?_
  refine J_callV (as := [.ref (a 0)]) (rest := []) C (ct_record l G hh ha hb hσ hd f n a σ d hf4 hn4) (fun u => [(ts, .inr (5, [.ref (a 0), .ref (a1 0), .ref (a2 0), .ref hh, .ref (b 0), .int (nI ks)]))] ++ (stW G a σ d ++ ([(hh, .inr (0, [.ref ha, .int (nI (firstF f n)), .int (nI (sizeF n))])), (ha, .inl (G.2.2.2, 4, .inr (.inr (.inr (.inr (fun j => some (hb j 0)))))))] ++ (stW G (hb 0) ((va_up hσ (slotF f n) σ) 0) ((va_up hd (slotF f n) d) 0) ++ (stW G (hb 1) ((va_up hσ (slotF f n) σ) 1) ((va_up hd (slotF f n) d) 1) ++ (stW G (hb 2) ((va_up hσ (slotF f n) σ) 2) ((va_up hd (slotF f n) d) 2) ++ stW G (hb 3) ((va_up hσ (slotF f n) σ) 3) ((va_up hd (slotF f n) d) 3))))))) [12, 13, 14, 15, 16, 17, 18, 19, 20, 21, 22, 23, 24, 25, 26, 27, 28, 29, 30, 31, 32, 33, 34, 35, 36, 37, 38, 39, 40, 41, 42, 43, 44, 45, 46, 47, 48, 49, 50, 51, 52, 53, 54, 55, 56, 57, 1, 2, 3, 4, 5, 6, 7, 8, 9, 10, 11] [0] 1 k300 k301 k302 k14 k303 rfl (by decide +kernel) ⟨Nat.le_of_ble_eq_true rfl, Nat.le_of_ble_eq_true rfl⟩ ⟨Nat.le_of_ble_eq_true rfl, Nat.le_of_ble_eq_true rfl⟩ dX5_correct_55 (Nat.le_of_ble_eq_true rfl) 12 rfl rfl rfl (by decide +kernel) (fun _ => rfl) ([(ts, .inr (5, [.ref (a 0), .ref (a1 0), .ref (a2 0), .ref hh, .ref (b 0), .int (nI ks)]))]) rfl (fun _ => rfl) 58 (fun _ => rfl) (by decide +kernel) (by decide +kernel) (fun _ _ => ?_)
  refine J_st (st' := []) rfl ?_
  refine J_aload_n C rfl dX5_correct_58 ?_
  refine J_get C 0 0 in5 rfl rfl (by decide) k217 rfl dX5_correct_59 ?_
  refine J_iload_n C rfl dX5_correct_62 ?_
  refine J_callV (as := [.int (nI j)]) (rest := []) C (ct_makeCorr l G a σ d j hI hD hj hbg.2.2) (fun u => [(ts, .inr (5, [.ref (a 0), .ref (a1 0), .ref (a2 0), .ref hh, .ref (b 0), .int (nI ks)]))] ++ (stW G a (up2 (up2 (up2 (up2 (up2 (up2 σ 3 j (d j)) 4 j 0) 5 j 1) 0 5 (σ 0 5 + 1)) 0 6 (σ 0 6 - d j)) 0 8 (σ 0 8 + d j)) d ++ ([(hh, .inr (0, [.ref ha, .int (nI (firstF f n)), .int (nI (sizeF n))])), (ha, .inl (G.2.2.2, 4, .inr (.inr (.inr (.inr (fun j => some (hb j 0)))))))] ++ (stW G (hb 0) ((va_up hσ (slotF f n) σ) 0) ((va_up hd (slotF f n) d) 0) ++ (stW G (hb 1) ((va_up hσ (slotF f n) σ) 1) ((va_up hd (slotF f n) d) 1) ++ (stW G (hb 2) ((va_up hσ (slotF f n) σ) 2) ((va_up hd (slotF f n) d) 2) ++ stW G (hb 3) ((va_up hσ (slotF f n) σ) 3) ((va_up hd (slotF f n) d) 3))))))) [1, 2, 3, 4, 5, 6, 7, 8, 9, 10, 11] [0, 12, 13, 14, 15, 16, 17, 18, 19, 20, 21, 22, 23, 24, 25, 26, 27, 28, 29, 30, 31, 32, 33, 34, 35, 36, 37, 38, 39, 40, 41, 42, 43, 44, 45, 46, 47, 48, 49, 50, 51, 52, 53, 54, 55, 56, 57] 1 k457 k458 k459 k11 k460 rfl (by decide +kernel) ⟨Nat.le_of_ble_eq_true rfl, Nat.le_of_ble_eq_true rfl⟩ ⟨Nat.le_of_ble_eq_true rfl, Nat.le_of_ble_eq_true rfl⟩ dX5_correct_63 (Nat.le_of_ble_eq_true rfl) 1 rfl rfl rfl (by decide +kernel) (fun _ => rfl) ([(ts, .inr (5, [.ref (a 0), .ref (a1 0), .ref (a2 0), .ref hh, .ref (b 0), .int (nI ks)]))] ++ ([(hh, .inr (0, [.ref ha, .int (nI (firstF f n)), .int (nI (sizeF n))])), (ha, .inl (G.2.2.2, 4, .inr (.inr (.inr (.inr (fun j => some (hb j 0)))))))] ++ (stW G (hb 0) ((va_up hσ (slotF f n) σ) 0) ((va_up hd (slotF f n) d) 0) ++ (stW G (hb 1) ((va_up hσ (slotF f n) σ) 1) ((va_up hd (slotF f n) d) 1) ++ (stW G (hb 2) ((va_up hσ (slotF f n) σ) 2) ((va_up hd (slotF f n) d) 2) ++ stW G (hb 3) ((va_up hσ (slotF f n) σ) 3) ((va_up hd (slotF f n) d) 3)))))) rfl (fun _ => rfl) 58 (fun _ => rfl) (by decide +kernel) (by decide +kernel) (fun _ _ => ?_)
  refine J_st (st' := []) rfl ?_
  refine J_ws (ws' := [(ts, .inr (5, [.ref (a 0), .ref (a1 0), .ref (a2 0), .ref hh, .ref (b 0), .int (nI ks)]))] ++ (stW G a (corF σ j) d ++ ([(hh, .inr (0, [.ref ha, .int (nI (firstF f n)), .int (nI (sizeF n))])), (ha, .inl (G.2.2.2, 4, .inr (.inr (.inr (.inr (fun j => some (hb j 0)))))))] ++ (stW G (hb 0) ((va_up hσ (slotF f n) σ) 0) ((va_up hd (slotF f n) d) 0) ++ (stW G (hb 1) ((va_up hσ (slotF f n) σ) 1) ((va_up hd (slotF f n) d) 1) ++ (stW G (hb 2) ((va_up hσ (slotF f n) σ) 2) ((va_up hd (slotF f n) d) 2) ++ stW G (hb 3) ((va_up hσ (slotF f n) σ) 3) ((va_up hd (slotF f n) d) 3))))))) (by rw [hdj] <;> rfl) ?_
  refine J_aload_n C rfl dX5_correct_66 ?_
  refine J_get C 0 0 in5 rfl rfl (by decide) k217 rfl dX5_correct_67 ?_
  refine J_callV (as := []) (rest := []) C (ct_corrLeft l G a (corF σ j) d (hI.cor hj hbg)) (fun u => [(ts, .inr (5, [.ref (a 0), .ref (a1 0), .ref (a2 0), .ref hh, .ref (b 0), .int (nI ks)]))] ++ (stW G a (corF σ j) d ++ ([(hh, .inr (0, [.ref ha, .int (nI (firstF f n)), .int (nI (sizeF n))])), (ha, .inl (G.2.2.2, 4, .inr (.inr (.inr (.inr (fun j => some (hb j 0)))))))] ++ (stW G (hb 0) ((va_up hσ (slotF f n) σ) 0) ((va_up hd (slotF f n) d) 0) ++ (stW G (hb 1) ((va_up hσ (slotF f n) σ) 1) ((va_up hd (slotF f n) d) 1) ++ (stW G (hb 2) ((va_up hσ (slotF f n) σ) 2) ((va_up hd (slotF f n) d) 2) ++ stW G (hb 3) ((va_up hσ (slotF f n) σ) 3) ((va_up hd (slotF f n) d) 3))))))) [1, 2, 3, 4, 5, 6, 7, 8, 9, 10, 11] [0, 12, 13, 14, 15, 16, 17, 18, 19, 20, 21, 22, 23, 24, 25, 26, 27, 28, 29, 30, 31, 32, 33, 34, 35, 36, 37, 38, 39, 40, 41, 42, 43, 44, 45, 46, 47, 48, 49, 50, 51, 52, 53, 54, 55, 56, 57] 0 k399 k400 k401 k11 k402 rfl (by decide +kernel) ⟨Nat.le_of_ble_eq_true rfl, Nat.le_of_ble_eq_true rfl⟩ ⟨Nat.le_of_ble_eq_true rfl, Nat.le_of_ble_eq_true rfl⟩ dX5_correct_70 (Nat.le_of_ble_eq_true rfl) 1 rfl rfl rfl (by decide +kernel) (fun _ => rfl) ([(ts, .inr (5, [.ref (a 0), .ref (a1 0), .ref (a2 0), .ref hh, .ref (b 0), .int (nI ks)]))] ++ ([(hh, .inr (0, [.ref ha, .int (nI (firstF f n)), .int (nI (sizeF n))])), (ha, .inl (G.2.2.2, 4, .inr (.inr (.inr (.inr (fun j => some (hb j 0)))))))] ++ (stW G (hb 0) ((va_up hσ (slotF f n) σ) 0) ((va_up hd (slotF f n) d) 0) ++ (stW G (hb 1) ((va_up hσ (slotF f n) σ) 1) ((va_up hd (slotF f n) d) 1) ++ (stW G (hb 2) ((va_up hσ (slotF f n) σ) 2) ((va_up hd (slotF f n) d) 2) ++ stW G (hb 3) ((va_up hσ (slotF f n) σ) 3) ((va_up hd (slotF f n) d) 3)))))) rfl (fun _ => rfl) 58 (fun _ => rfl) (by decide +kernel) (by decide +kernel) (fun _ _ => ?_)
  refine J_st (st' := [.int (nI ((corF σ j) 7 2 - (corF σ j) 0 5))]) rfl ?_
  exact J_zret C hr rfl dX5_correct_73 () rfl trivial rfl

set_option maxHeartbeats 4000000 in
set_option maxRecDepth 100000 in
theorem ct_pace1 (l : Launch) (G : GT) (ts : Nat) (a a1 a2 : Nat → Nat) (hh : Nat) (b : Nat → Nat) (ks : Nat) (σ : AS) (d : Nat → Nat) (x y : Int32) (hx : ¬ (x = 0 ∨ x = 1)) : Ct (S := Unit) l G NoX yX5_setPace (Wy yX5_setPace cX5_setPace 4 ((Option.some Jvm.ClassFile.FieldType.int))) { frames := 1, cells := 0, slots := 0, locals := 20 } [.ref ts, .int x, .int y] ([(ts, .inr (5, [.ref (a 0), .ref (a1 0), .ref (a2 0), .ref hh, .ref (b 0), .int (nI ks)]))] ++ stW G a σ d) (fun u => True) (fun u => some (.int (-1))) (fun u => [(ts, .inr (5, [.ref (a 0), .ref (a1 0), .ref (a2 0), .ref hh, .ref (b 0), .int (nI ks)]))] ++ stW G a σ d) := by
  refine Ct.of (by decide) (Nat.le_of_ble_eq_true rfl) (fun p e s m args below meth c C hr hnm hX => ?_)
  refine J_iload_n C rfl dX5_setPace_0 ?_
  refine J_callS (as := [.int x]) (rest := []) C (ct_isScrN l G x hx) (fun u => [(ts, .inr (5, [.ref (a 0), .ref (a1 0), .ref (a2 0), .ref hh, .ref (b 0), .int (nI ks)]))] ++ stW G a σ d) [] [0, 1, 2, 3, 4, 5, 6, 7, 8, 9, 10, 11] 1 k409 k410 k10 k411 rfl (by decide +kernel) ⟨Nat.le_of_ble_eq_true rfl, Nat.le_of_ble_eq_true rfl⟩ ⟨Nat.le_of_ble_eq_true rfl, Nat.le_of_ble_eq_true rfl⟩ dX5_setPace_1 (Nat.le_of_ble_eq_true rfl) rfl (by decide +kernel) (fun _ => rfl) ([(ts, .inr (5, [.ref (a 0), .ref (a1 0), .ref (a2 0), .ref hh, .ref (b 0), .int (nI ks)]))] ++ stW G a σ d) rfl (fun _ => rfl) 12 (fun _ => rfl) (by decide +kernel) (by decide +kernel) (fun _ _ => ?_)
  refine J_st (st' := [.int 0]) rfl ?_
  refine J_if_ne C 9 (by decide) dX5_setPace_4 (fun h => absurd h (by decide)) (fun _ => ?_)
  refine J_iconst C (-1) (by decide) dX5_setPace_7 ?_
  exact J_zret C hr rfl dX5_setPace_8 () rfl trivial rfl

set_option maxHeartbeats 4000000 in
set_option maxRecDepth 100000 in
theorem ct_pace2_0 (l : Launch) (G : GT) (ts : Nat) (a a1 a2 : Nat → Nat) (hh : Nat) (b : Nat → Nat) (ks : Nat) (σ : AS) (d : Nat → Nat) (y : Int32) (hy : ¬ (1 ≤ y.toInt ∧ y.toInt ≤ 9)) : Ct (S := Unit) l G NoX yX5_setPace (Wy yX5_setPace cX5_setPace 4 ((Option.some Jvm.ClassFile.FieldType.int))) { frames := 1, cells := 0, slots := 0, locals := 20 } [.ref ts, .int 0, .int y] ([(ts, .inr (5, [.ref (a 0), .ref (a1 0), .ref (a2 0), .ref hh, .ref (b 0), .int (nI ks)]))] ++ stW G a σ d) (fun u => True) (fun u => some (.int (-2))) (fun u => [(ts, .inr (5, [.ref (a 0), .ref (a1 0), .ref (a2 0), .ref hh, .ref (b 0), .int (nI ks)]))] ++ stW G a σ d) := by
  refine Ct.of (by decide) (Nat.le_of_ble_eq_true rfl) (fun p e s m args below meth c C hr hnm hX => ?_)
  refine J_iload_n C rfl dX5_setPace_0 ?_
  refine J_callS (as := [.int 0]) (rest := []) C (ct_isScr0 l G ) (fun u => [(ts, .inr (5, [.ref (a 0), .ref (a1 0), .ref (a2 0), .ref hh, .ref (b 0), .int (nI ks)]))] ++ stW G a σ d) [] [0, 1, 2, 3, 4, 5, 6, 7, 8, 9, 10, 11] 1 k409 k410 k10 k411 rfl (by decide +kernel) ⟨Nat.le_of_ble_eq_true rfl, Nat.le_of_ble_eq_true rfl⟩ ⟨Nat.le_of_ble_eq_true rfl, Nat.le_of_ble_eq_true rfl⟩ dX5_setPace_1 (Nat.le_of_ble_eq_true rfl) rfl (by decide +kernel) (fun _ => rfl) ([(ts, .inr (5, [.ref (a 0), .ref (a1 0), .ref (a2 0), .ref hh, .ref (b 0), .int (nI ks)]))] ++ stW G a σ d) rfl (fun _ => rfl) 12 (fun _ => rfl) (by decide +kernel) (by decide +kernel) (fun _ _ => ?_)
  refine J_st (st' := [.int 1]) rfl ?_
  refine J_if_ne C 9 (by decide) dX5_setPace_4 (fun _ => ?_) (fun h => absurd h (by decide))
  refine J_iload_n C rfl dX5_setPace_9 ?_
  refine J_iconst C 1 (by decide) dX5_setPace_10 ?_
  refine J_icmp_lt C 20 (by decide) dX5_setPace_11 (fun c11 => ?_) (fun c11 => ?_)
  · skip
    have c11 := ti_lt_t (z := 1) (by decide) c11
    refine J_bipush C (-2) (by decide) dX5_setPace_20 ?_
    exact J_zret C hr rfl dX5_setPace_22 () rfl trivial rfl
  · skip
    have c11 := ti_lt_f (z := 1) (by decide) c11
    refine J_iload_n C rfl dX5_setPace_14 ?_
    refine J_bipush C 9 (by decide) dX5_setPace_15 ?_
    refine J_icmp_le C 23 (by decide) dX5_setPace_17 (fun h => absurd h (fun q => absurd (ti_le_t (z := 9) (by decide) q) (by omega))) (fun _ => ?_)
    refine J_bipush C (-2) (by decide) dX5_setPace_20 ?_
    exact J_zret C hr rfl dX5_setPace_22 () rfl trivial rfl

set_option maxHeartbeats 4000000 in
set_option maxRecDepth 100000 in
theorem ct_pace3_0 (l : Launch) (G : GT) (ts : Nat) (a a1 a2 : Nat → Nat) (hh : Nat) (b : Nat → Nat) (ks : Nat) (σ : AS) (d : Nat → Nat) (k : Nat) (hI : Inv σ) (hk : 1 ≤ k ∧ k ≤ 9) (he : σ 0 12 = k) : Ct (S := Unit) l G NoX yX5_setPace (Wy yX5_setPace cX5_setPace 4 ((Option.some Jvm.ClassFile.FieldType.int))) { frames := 1, cells := 0, slots := 0, locals := 21 } [.ref ts, .int 0, .int (nI k)] ([(ts, .inr (5, [.ref (a 0), .ref (a1 0), .ref (a2 0), .ref hh, .ref (b 0), .int (nI ks)]))] ++ stW G a σ d) (fun u => True) (fun u => some (.int (-5))) (fun u => [(ts, .inr (5, [.ref (a 0), .ref (a1 0), .ref (a2 0), .ref hh, .ref (b 0), .int (nI ks)]))] ++ stW G a σ d) := by
  refine Ct.of (by decide) (Nat.le_of_ble_eq_true rfl) (fun p e s m args below meth c C hr hnm hX => ?_)
  have h40 := hI.a
  have hc := hI.c
  have hi := hI.i
  have hs := hI.s
  refine J_iload_n C rfl dX5_setPace_0 ?_
  refine J_callS (as := [.int 0]) (rest := []) C (ct_isScr0 l G ) (fun u => [(ts, .inr (5, [.ref (a 0), .ref (a1 0), .ref (a2 0), .ref hh, .ref (b 0), .int (nI ks)]))] ++ stW G a σ d) [] [0, 1, 2, 3, 4, 5, 6, 7, 8, 9, 10, 11] 1 k409 k410 k10 k411 rfl (by decide +kernel) ⟨Nat.le_of_ble_eq_true rfl, Nat.le_of_ble_eq_true rfl⟩ ⟨Nat.le_of_ble_eq_true rfl, Nat.le_of_ble_eq_true rfl⟩ dX5_setPace_1 (Nat.le_of_ble_eq_true rfl) rfl (by decide +kernel) (fun _ => rfl) ([(ts, .inr (5, [.ref (a 0), .ref (a1 0), .ref (a2 0), .ref hh, .ref (b 0), .int (nI ks)]))] ++ stW G a σ d) rfl (fun _ => rfl) 12 (fun _ => rfl) (by decide +kernel) (by decide +kernel) (fun _ _ => ?_)
  refine J_st (st' := [.int 1]) rfl ?_
  refine J_if_ne C 9 (by decide) dX5_setPace_4 (fun _ => ?_) (fun h => absurd h (by decide))
  refine J_iload_n C rfl dX5_setPace_9 ?_
  refine J_iconst C 1 (by decide) dX5_setPace_10 ?_
  refine J_icmp_lt C 20 (by decide) dX5_setPace_11 (fun h => absurd (cv_lt_t (a := k) (b := 1) (by omega) (by omega) h) (by omega)) (fun c11 => ?_)
  refine J_iload_n C rfl dX5_setPace_14 ?_
  refine J_bipush C 9 (by decide) dX5_setPace_15 ?_
  refine J_icmp_le C 23 (by decide) dX5_setPace_17 (fun c17 => ?_) (fun h => absurd (cv_le_f (a := k) (b := 9) (by omega) (by omega) h) (by omega))
  refine J_aload_n C rfl dX5_setPace_23 ?_
  refine J_get C 0 0 in5 rfl rfl (by decide) k217 rfl dX5_setPace_24 ?_
  refine J_iload_n C rfl dX5_setPace_27 ?_
  refine J_callV (as := [.int 0]) (rest := []) C (ct_scribeOf0 l G a σ d) (fun u => [(ts, .inr (5, [.ref (a 0), .ref (a1 0), .ref (a2 0), .ref hh, .ref (b 0), .int (nI ks)]))] ++ stW G a σ d) [1, 2, 3, 4, 5, 6, 7, 8, 9, 10, 11] [0] 1 k412 k372 k373 k11 k374 rfl (by decide +kernel) ⟨Nat.le_of_ble_eq_true rfl, Nat.le_of_ble_eq_true rfl⟩ ⟨Nat.le_of_ble_eq_true rfl, Nat.le_of_ble_eq_true rfl⟩ dX5_setPace_28 (Nat.le_of_ble_eq_true rfl) 1 rfl rfl rfl (by decide +kernel) (fun _ => rfl) ([(ts, .inr (5, [.ref (a 0), .ref (a1 0), .ref (a2 0), .ref hh, .ref (b 0), .int (nI ks)]))]) rfl (fun _ => rfl) 12 (fun _ => rfl) (by decide +kernel) (by decide +kernel) (fun _ _ => ?_)
  refine J_st (st' := [.ref (a 8)]) rfl ?_
  refine J_getN C 9 0 in3 rfl rfl (by decide) nfTwoScribes_107 rfl dX5_setPace_31 ?_
  refine J_istore_n C [(3, .int (nI (σ 0 12))), (0, .ref ts), (1, .int 0), (2, .int (nI k))] (by decide) rfl dX5_setPace_34 ?_
  refine J_iload_n C rfl dX5_setPace_35 ?_
  refine J_iload_n C rfl dX5_setPace_36 ?_
  refine J_icmp_ne C 43 (by decide) dX5_setPace_37 (fun h => absurd (cv_ne_t (a := (σ 0 12)) (b := k) (by omega) (by omega) h) (by omega)) (fun c37 => ?_)
  refine J_bipush C (-5) (by decide) dX5_setPace_40 ?_
  exact J_zret C hr rfl dX5_setPace_42 () rfl trivial rfl

set_option maxHeartbeats 4000000 in
set_option maxRecDepth 100000 in
theorem ct_paceY_0 (l : Launch) (G : GT) (ts : Nat) (a a1 a2 : Nat → Nat) (hh : Nat) (b : Nat → Nat) (ks : Nat) (σ : AS) (d : Nat → Nat) (ha : Nat) (hb : Nat → Nat → Nat) (hσ : Nat → AS) (hd : Nat → Nat → Nat) (f n : Nat) (k : Nat) (hI : Inv σ) (hf4 : f < 4) (hn4 : n ≤ 4) (hk : 1 ≤ k ∧ k ≤ 9) (he : ¬ σ 0 12 = k) : Ct (S := Unit) l G NoX yX5_setPace (Wy yX5_setPace cX5_setPace 4 ((Option.some Jvm.ClassFile.FieldType.int))) { frames := 5, cells := 0, slots := 0, locals := 125 } [.ref ts, .int 0, .int (nI k)] ([(ts, .inr (5, [.ref (a 0), .ref (a1 0), .ref (a2 0), .ref hh, .ref (b 0), .int (nI ks)]))] ++ (stW G a σ d ++ ([(hh, .inr (0, [.ref ha, .int (nI f), .int (nI n)])), (ha, .inl (G.2.2.2, 4, .inr (.inr (.inr (.inr (fun j => some (hb j 0)))))))] ++ (stW G (hb 0) (hσ 0) (hd 0) ++ (stW G (hb 1) (hσ 1) (hd 1) ++ (stW G (hb 2) (hσ 2) (hd 2) ++ stW G (hb 3) (hσ 3) (hd 3))))))) (fun u => True) (fun u => some (.int (nI (σ 0 12)))) (fun u => [(ts, .inr (5, [.ref (a 0), .ref (a1 0), .ref (a2 0), .ref hh, .ref (b 0), .int (nI ks)]))] ++ (stW G a (up2 σ 0 12 k) d ++ ([(hh, .inr (0, [.ref ha, .int (nI (firstF f n)), .int (nI (sizeF n))])), (ha, .inl (G.2.2.2, 4, .inr (.inr (.inr (.inr (fun j => some (hb j 0)))))))] ++ (stW G (hb 0) ((va_up hσ (slotF f n) σ) 0) ((va_up hd (slotF f n) d) 0) ++ (stW G (hb 1) ((va_up hσ (slotF f n) σ) 1) ((va_up hd (slotF f n) d) 1) ++ (stW G (hb 2) ((va_up hσ (slotF f n) σ) 2) ((va_up hd (slotF f n) d) 2) ++ stW G (hb 3) ((va_up hσ (slotF f n) σ) 3) ((va_up hd (slotF f n) d) 3))))))) := by
  refine Ct.of (by decide) (Nat.le_of_ble_eq_true rfl) (fun p e s m args below meth c C hr hnm hX => ?_)
  have h40 := hI.a
  have hc := hI.c
  have hi := hI.i
  have hs := hI.s
  refine J_iload_n C rfl dX5_setPace_0 ?_
  refine J_callS (as := [.int 0]) (rest := []) C (ct_isScr0 l G ) (fun u => [(ts, .inr (5, [.ref (a 0), .ref (a1 0), .ref (a2 0), .ref hh, .ref (b 0), .int (nI ks)]))] ++ (stW G a σ d ++ ([(hh, .inr (0, [.ref ha, .int (nI f), .int (nI n)])), (ha, .inl (G.2.2.2, 4, .inr (.inr (.inr (.inr (fun j => some (hb j 0)))))))] ++ (stW G (hb 0) (hσ 0) (hd 0) ++ (stW G (hb 1) (hσ 1) (hd 1) ++ (stW G (hb 2) (hσ 2) (hd 2) ++ stW G (hb 3) (hσ 3) (hd 3))))))) [] [0, 1, 2, 3, 4, 5, 6, 7, 8, 9, 10, 11, 12, 13, 14, 15, 16, 17, 18, 19, 20, 21, 22, 23, 24, 25, 26, 27, 28, 29, 30, 31, 32, 33, 34, 35, 36, 37, 38, 39, 40, 41, 42, 43, 44, 45, 46, 47, 48, 49, 50, 51, 52, 53, 54, 55, 56, 57] 1 k409 k410 k10 k411 rfl (by decide +kernel) ⟨Nat.le_of_ble_eq_true rfl, Nat.le_of_ble_eq_true rfl⟩ ⟨Nat.le_of_ble_eq_true rfl, Nat.le_of_ble_eq_true rfl⟩ dX5_setPace_1 (Nat.le_of_ble_eq_true rfl) rfl (by decide +kernel) (fun _ => rfl) ([(ts, .inr (5, [.ref (a 0), .ref (a1 0), .ref (a2 0), .ref hh, .ref (b 0), .int (nI ks)]))] ++ (stW G a σ d ++ ([(hh, .inr (0, [.ref ha, .int (nI f), .int (nI n)])), (ha, .inl (G.2.2.2, 4, .inr (.inr (.inr (.inr (fun j => some (hb j 0)))))))] ++ (stW G (hb 0) (hσ 0) (hd 0) ++ (stW G (hb 1) (hσ 1) (hd 1) ++ (stW G (hb 2) (hσ 2) (hd 2) ++ stW G (hb 3) (hσ 3) (hd 3))))))) rfl (fun _ => rfl) 58 (fun _ => rfl) (by decide +kernel) (by decide +kernel) (fun _ _ => ?_)
  refine J_st (st' := [.int 1]) rfl ?_
  refine J_if_ne C 9 (by decide) dX5_setPace_4 (fun _ => ?_) (fun h => absurd h (by decide))
  refine J_iload_n C rfl dX5_setPace_9 ?_
  refine J_iconst C 1 (by decide) dX5_setPace_10 ?_
  refine J_icmp_lt C 20 (by decide) dX5_setPace_11 (fun h => absurd (cv_lt_t (a := k) (b := 1) (by omega) (by omega) h) (by omega)) (fun c11 => ?_)
  refine J_iload_n C rfl dX5_setPace_14 ?_
  refine J_bipush C 9 (by decide) dX5_setPace_15 ?_
  refine J_icmp_le C 23 (by decide) dX5_setPace_17 (fun c17 => ?_) (fun h => absurd (cv_le_f (a := k) (b := 9) (by omega) (by omega) h) (by omega))
  refine J_aload_n C rfl dX5_setPace_23 ?_
  refine J_get C 0 0 in5 rfl rfl (by decide) k217 rfl dX5_setPace_24 ?_
  refine J_iload_n C rfl dX5_setPace_27 ?_
  refine J_callV (as := [.int 0]) (rest := []) C (ct_scribeOf0 l G a σ d) (fun u => [(ts, .inr (5, [.ref (a 0), .ref (a1 0), .ref (a2 0), .ref hh, .ref (b 0), .int (nI ks)]))] ++ (stW G a σ d ++ ([(hh, .inr (0, [.ref ha, .int (nI f), .int (nI n)])), (ha, .inl (G.2.2.2, 4, .inr (.inr (.inr (.inr (fun j => some (hb j 0)))))))] ++ (stW G (hb 0) (hσ 0) (hd 0) ++ (stW G (hb 1) (hσ 1) (hd 1) ++ (stW G (hb 2) (hσ 2) (hd 2) ++ stW G (hb 3) (hσ 3) (hd 3))))))) [1, 2, 3, 4, 5, 6, 7, 8, 9, 10, 11] [0, 12, 13, 14, 15, 16, 17, 18, 19, 20, 21, 22, 23, 24, 25, 26, 27, 28, 29, 30, 31, 32, 33, 34, 35, 36, 37, 38, 39, 40, 41, 42, 43, 44, 45, 46, 47, 48, 49, 50, 51, 52, 53, 54, 55, 56, 57] 1 k412 k372 k373 k11 k374 rfl (by decide +kernel) ⟨Nat.le_of_ble_eq_true rfl, Nat.le_of_ble_eq_true rfl⟩ ⟨Nat.le_of_ble_eq_true rfl, Nat.le_of_ble_eq_true rfl⟩ dX5_setPace_28 (Nat.le_of_ble_eq_true rfl) 1 rfl rfl rfl (by decide +kernel) (fun _ => rfl) ([(ts, .inr (5, [.ref (a 0), .ref (a1 0), .ref (a2 0), .ref hh, .ref (b 0), .int (nI ks)]))] ++ ([(hh, .inr (0, [.ref ha, .int (nI f), .int (nI n)])), (ha, .inl (G.2.2.2, 4, .inr (.inr (.inr (.inr (fun j => some (hb j 0)))))))] ++ (stW G (hb 0) (hσ 0) (hd 0) ++ (stW G (hb 1) (hσ 1) (hd 1) ++ (stW G (hb 2) (hσ 2) (hd 2) ++ stW G (hb 3) (hσ 3) (hd 3)))))) rfl (fun _ => rfl) 58 (fun _ => rfl) (by decide +kernel) (by decide +kernel) (fun _ _ => ?_)
  refine J_st (st' := [.ref (a 8)]) rfl ?_
  refine J_getN C 9 0 in3 rfl rfl (by decide) nfTwoScribes_107 rfl dX5_setPace_31 ?_
  refine J_istore_n C [(3, .int (nI (σ 0 12))), (0, .ref ts), (1, .int 0), (2, .int (nI k))] (by decide) rfl dX5_setPace_34 ?_
  refine J_iload_n C rfl dX5_setPace_35 ?_
  refine J_iload_n C rfl dX5_setPace_36 ?_
  refine J_icmp_ne C 43 (by decide) dX5_setPace_37 (fun c37 => ?_) (fun h => absurd (cv_ne_f (a := (σ 0 12)) (b := k) (by omega) (by omega) h) (by omega))
  refine J_aload_n C rfl dX5_setPace_43 ?_
  refine J_get C 0 3 in5 rfl rfl (by decide) k220 rfl dX5_setPace_44 ?_
  refine J_aload_n C rfl dX5_setPace_47 ?_
  refine J_get C 0 0 in5 rfl rfl (by decide) k217 rfl dX5_setPace_48 ?_
  refine J_callV (as := [.ref (a 0)]) (rest := []) C (ct_record l G hh ha hb hσ hd f n a σ d hf4 hn4) (fun u => [(ts, .inr (5, [.ref (a 0), .ref (a1 0), .ref (a2 0), .ref hh, .ref (b 0), .int (nI ks)]))] ++ (stW G a σ d ++ ([(hh, .inr (0, [.ref ha, .int (nI (firstF f n)), .int (nI (sizeF n))])), (ha, .inl (G.2.2.2, 4, .inr (.inr (.inr (.inr (fun j => some (hb j 0)))))))] ++ (stW G (hb 0) ((va_up hσ (slotF f n) σ) 0) ((va_up hd (slotF f n) d) 0) ++ (stW G (hb 1) ((va_up hσ (slotF f n) σ) 1) ((va_up hd (slotF f n) d) 1) ++ (stW G (hb 2) ((va_up hσ (slotF f n) σ) 2) ((va_up hd (slotF f n) d) 2) ++ stW G (hb 3) ((va_up hσ (slotF f n) σ) 3) ((va_up hd (slotF f n) d) 3))))))) [12, 13, 14, 15, 16, 17, 18, 19, 20, 21, 22, 23, 24, 25, 26, 27, 28, 29, 30, 31, 32, 33, 34, 35, 36, 37, 38, 39, 40, 41, 42, 43, 44, 45, 46, 47, 48, 49, 50, 51, 52, 53, 54, 55, 56, 57, 1, 2, 3, 4, 5, 6, 7, 8, 9, 10, 11] [0] 1 k300 k301 k302 k14 k303 rfl (by decide +kernel) ⟨Nat.le_of_ble_eq_true rfl, Nat.le_of_ble_eq_true rfl⟩ ⟨Nat.le_of_ble_eq_true rfl, Nat.le_of_ble_eq_true rfl⟩ dX5_setPace_51 (Nat.le_of_ble_eq_true rfl) 12 rfl rfl rfl (by decide +kernel) (fun _ => rfl) ([(ts, .inr (5, [.ref (a 0), .ref (a1 0), .ref (a2 0), .ref hh, .ref (b 0), .int (nI ks)]))]) rfl (fun _ => rfl) 58 (fun _ => rfl) (by decide +kernel) (by decide +kernel) (fun _ _ => ?_)
  refine J_st (st' := []) rfl ?_
  refine J_aload_n C rfl dX5_setPace_54 ?_
  refine J_get C 0 0 in5 rfl rfl (by decide) k217 rfl dX5_setPace_55 ?_
  refine J_iload_n C rfl dX5_setPace_58 ?_
  refine J_callV (as := [.int 0]) (rest := []) C (ct_scribeOf0 l G a σ d) (fun u => [(ts, .inr (5, [.ref (a 0), .ref (a1 0), .ref (a2 0), .ref hh, .ref (b 0), .int (nI ks)]))] ++ (stW G a σ d ++ ([(hh, .inr (0, [.ref ha, .int (nI (firstF f n)), .int (nI (sizeF n))])), (ha, .inl (G.2.2.2, 4, .inr (.inr (.inr (.inr (fun j => some (hb j 0)))))))] ++ (stW G (hb 0) ((va_up hσ (slotF f n) σ) 0) ((va_up hd (slotF f n) d) 0) ++ (stW G (hb 1) ((va_up hσ (slotF f n) σ) 1) ((va_up hd (slotF f n) d) 1) ++ (stW G (hb 2) ((va_up hσ (slotF f n) σ) 2) ((va_up hd (slotF f n) d) 2) ++ stW G (hb 3) ((va_up hσ (slotF f n) σ) 3) ((va_up hd (slotF f n) d) 3))))))) [1, 2, 3, 4, 5, 6, 7, 8, 9, 10, 11] [0, 12, 13, 14, 15, 16, 17, 18, 19, 20, 21, 22, 23, 24, 25, 26, 27, 28, 29, 30, 31, 32, 33, 34, 35, 36, 37, 38, 39, 40, 41, 42, 43, 44, 45, 46, 47, 48, 49, 50, 51, 52, 53, 54, 55, 56, 57] 1 k412 k372 k373 k11 k374 rfl (by decide +kernel) ⟨Nat.le_of_ble_eq_true rfl, Nat.le_of_ble_eq_true rfl⟩ ⟨Nat.le_of_ble_eq_true rfl, Nat.le_of_ble_eq_true rfl⟩ dX5_setPace_59 (Nat.le_of_ble_eq_true rfl) 1 rfl rfl rfl (by decide +kernel) (fun _ => rfl) ([(ts, .inr (5, [.ref (a 0), .ref (a1 0), .ref (a2 0), .ref hh, .ref (b 0), .int (nI ks)]))] ++ ([(hh, .inr (0, [.ref ha, .int (nI (firstF f n)), .int (nI (sizeF n))])), (ha, .inl (G.2.2.2, 4, .inr (.inr (.inr (.inr (fun j => some (hb j 0)))))))] ++ (stW G (hb 0) ((va_up hσ (slotF f n) σ) 0) ((va_up hd (slotF f n) d) 0) ++ (stW G (hb 1) ((va_up hσ (slotF f n) σ) 1) ((va_up hd (slotF f n) d) 1) ++ (stW G (hb 2) ((va_up hσ (slotF f n) σ) 2) ((va_up hd (slotF f n) d) 2) ++ stW G (hb 3) ((va_up hσ (slotF f n) σ) 3) ((va_up hd (slotF f n) d) 3)))))) rfl (fun _ => rfl) 58 (fun _ => rfl) (by decide +kernel) (by decide +kernel) (fun _ _ => ?_)
  refine J_st (st' := [.ref (a 8)]) rfl ?_
  refine J_iload_n C rfl dX5_setPace_62 ?_
  refine J_putN C 9 0 in3 tyX3 tyX3_ok nmX3 ([(ts, .inr (5, [.ref (a 0), .ref (a1 0), .ref (a2 0), .ref hh, .ref (b 0), .int (nI ks)]))] ++ ([(a 0, .inr (4, [.ref (a 1), .ref (a 8), .ref (a 9), .ref (a 10), .float (fl (σ 0 6)), .float (fl (σ 0 7)), .float (fl (σ 0 8)), .int (nI (σ 0 3)), .int (nI (σ 0 9)), .int (nI (σ 0 10)), .int (nI (σ 0 11))])), (a 1, .inr (1, [.ref (a 2), .ref (a 3), .ref (a 4), .ref (a 5), .ref (a 6), .ref (a 7), .int (nI (σ 0 4)), .int (nI (σ 0 5))])), (a 2, .inl (G.2.1, 40, .inl (fun q => nI (d q)))), (a 3, .inl (G.2.1, 40, .inl (fun q => nI (σ 2 q)))), (a 4, .inl (G.2.1, 40, .inl (fun q => nI (σ 3 q)))), (a 5, .inl (G.2.1, 40, .inl (fun q => nI (σ 6 q)))), (a 6, .inl (G.2.1, 40, .inl (fun q => nI (σ 4 q)))), (a 7, .inl (G.2.1, 40, .inl (fun q => nI (σ 5 q)))), (a 8, .inr (3, [.int (nI k), .int (nI (σ 0 14)), .int (nI (σ 0 16)), .int (nI (σ 0 18)), .int (nI (σ 0 20)), .int (nI (σ 0 22)), .float (fl (σ 0 24))])), (a 9, .inr (3, [.int (nI (σ 0 13)), .int (nI (σ 0 15)), .int (nI (σ 0 17)), .int (nI (σ 0 19)), .int (nI (σ 0 21)), .int (nI (σ 0 23)), .float (fl (σ 0 25))])), (a 10, .inl (G.2.1, 3, .inl (fun q => nI (σ 7 q))))] ++ ([(hh, .inr (0, [.ref ha, .int (nI (firstF f n)), .int (nI (sizeF n))])), (ha, .inl (G.2.2.2, 4, .inr (.inr (.inr (.inr (fun j => some (hb j 0)))))))] ++ (stW G (hb 0) ((va_up hσ (slotF f n) σ) 0) ((va_up hd (slotF f n) d) 0) ++ (stW G (hb 1) ((va_up hσ (slotF f n) σ) 1) ((va_up hd (slotF f n) d) 1) ++ (stW G (hb 2) ((va_up hσ (slotF f n) σ) 2) ((va_up hd (slotF f n) d) 2) ++ stW G (hb 3) ((va_up hσ (slotF f n) σ) 3) ((va_up hd (slotF f n) d) 3))))))) rfl rfl (by decide) nfTwoScribes_107 rfl rfl rfl (Nat.le_of_ble_eq_true rfl) rfl dX5_setPace_63 ?_
  refine J_iload_n C rfl dX5_setPace_66 ?_
  exact J_zret C hr rfl dX5_setPace_67 () rfl trivial rfl

set_option maxHeartbeats 4000000 in
set_option maxRecDepth 100000 in
theorem ct_pace2_1 (l : Launch) (G : GT) (ts : Nat) (a a1 a2 : Nat → Nat) (hh : Nat) (b : Nat → Nat) (ks : Nat) (σ : AS) (d : Nat → Nat) (y : Int32) (hy : ¬ (1 ≤ y.toInt ∧ y.toInt ≤ 9)) : Ct (S := Unit) l G NoX yX5_setPace (Wy yX5_setPace cX5_setPace 4 ((Option.some Jvm.ClassFile.FieldType.int))) { frames := 1, cells := 0, slots := 0, locals := 20 } [.ref ts, .int 1, .int y] ([(ts, .inr (5, [.ref (a 0), .ref (a1 0), .ref (a2 0), .ref hh, .ref (b 0), .int (nI ks)]))] ++ stW G a σ d) (fun u => True) (fun u => some (.int (-2))) (fun u => [(ts, .inr (5, [.ref (a 0), .ref (a1 0), .ref (a2 0), .ref hh, .ref (b 0), .int (nI ks)]))] ++ stW G a σ d) := by
  refine Ct.of (by decide) (Nat.le_of_ble_eq_true rfl) (fun p e s m args below meth c C hr hnm hX => ?_)
  refine J_iload_n C rfl dX5_setPace_0 ?_
  refine J_callS (as := [.int 1]) (rest := []) C (ct_isScr1 l G ) (fun u => [(ts, .inr (5, [.ref (a 0), .ref (a1 0), .ref (a2 0), .ref hh, .ref (b 0), .int (nI ks)]))] ++ stW G a σ d) [] [0, 1, 2, 3, 4, 5, 6, 7, 8, 9, 10, 11] 1 k409 k410 k10 k411 rfl (by decide +kernel) ⟨Nat.le_of_ble_eq_true rfl, Nat.le_of_ble_eq_true rfl⟩ ⟨Nat.le_of_ble_eq_true rfl, Nat.le_of_ble_eq_true rfl⟩ dX5_setPace_1 (Nat.le_of_ble_eq_true rfl) rfl (by decide +kernel) (fun _ => rfl) ([(ts, .inr (5, [.ref (a 0), .ref (a1 0), .ref (a2 0), .ref hh, .ref (b 0), .int (nI ks)]))] ++ stW G a σ d) rfl (fun _ => rfl) 12 (fun _ => rfl) (by decide +kernel) (by decide +kernel) (fun _ _ => ?_)
  refine J_st (st' := [.int 1]) rfl ?_
  refine J_if_ne C 9 (by decide) dX5_setPace_4 (fun _ => ?_) (fun h => absurd h (by decide))
  refine J_iload_n C rfl dX5_setPace_9 ?_
  refine J_iconst C 1 (by decide) dX5_setPace_10 ?_
  refine J_icmp_lt C 20 (by decide) dX5_setPace_11 (fun c11 => ?_) (fun c11 => ?_)
  · skip
    have c11 := ti_lt_t (z := 1) (by decide) c11
    refine J_bipush C (-2) (by decide) dX5_setPace_20 ?_
    exact J_zret C hr rfl dX5_setPace_22 () rfl trivial rfl
  · skip
    have c11 := ti_lt_f (z := 1) (by decide) c11
    refine J_iload_n C rfl dX5_setPace_14 ?_
    refine J_bipush C 9 (by decide) dX5_setPace_15 ?_
    refine J_icmp_le C 23 (by decide) dX5_setPace_17 (fun h => absurd h (fun q => absurd (ti_le_t (z := 9) (by decide) q) (by omega))) (fun _ => ?_)
    refine J_bipush C (-2) (by decide) dX5_setPace_20 ?_
    exact J_zret C hr rfl dX5_setPace_22 () rfl trivial rfl

set_option maxHeartbeats 4000000 in
set_option maxRecDepth 100000 in
theorem ct_pace3_1 (l : Launch) (G : GT) (ts : Nat) (a a1 a2 : Nat → Nat) (hh : Nat) (b : Nat → Nat) (ks : Nat) (σ : AS) (d : Nat → Nat) (k : Nat) (hI : Inv σ) (hk : 1 ≤ k ∧ k ≤ 9) (he : σ 0 13 = k) : Ct (S := Unit) l G NoX yX5_setPace (Wy yX5_setPace cX5_setPace 4 ((Option.some Jvm.ClassFile.FieldType.int))) { frames := 1, cells := 0, slots := 0, locals := 21 } [.ref ts, .int 1, .int (nI k)] ([(ts, .inr (5, [.ref (a 0), .ref (a1 0), .ref (a2 0), .ref hh, .ref (b 0), .int (nI ks)]))] ++ stW G a σ d) (fun u => True) (fun u => some (.int (-5))) (fun u => [(ts, .inr (5, [.ref (a 0), .ref (a1 0), .ref (a2 0), .ref hh, .ref (b 0), .int (nI ks)]))] ++ stW G a σ d) := by
  refine Ct.of (by decide) (Nat.le_of_ble_eq_true rfl) (fun p e s m args below meth c C hr hnm hX => ?_)
  have h40 := hI.a
  have hc := hI.c
  have hi := hI.i
  have hs := hI.s
  refine J_iload_n C rfl dX5_setPace_0 ?_
  refine J_callS (as := [.int 1]) (rest := []) C (ct_isScr1 l G ) (fun u => [(ts, .inr (5, [.ref (a 0), .ref (a1 0), .ref (a2 0), .ref hh, .ref (b 0), .int (nI ks)]))] ++ stW G a σ d) [] [0, 1, 2, 3, 4, 5, 6, 7, 8, 9, 10, 11] 1 k409 k410 k10 k411 rfl (by decide +kernel) ⟨Nat.le_of_ble_eq_true rfl, Nat.le_of_ble_eq_true rfl⟩ ⟨Nat.le_of_ble_eq_true rfl, Nat.le_of_ble_eq_true rfl⟩ dX5_setPace_1 (Nat.le_of_ble_eq_true rfl) rfl (by decide +kernel) (fun _ => rfl) ([(ts, .inr (5, [.ref (a 0), .ref (a1 0), .ref (a2 0), .ref hh, .ref (b 0), .int (nI ks)]))] ++ stW G a σ d) rfl (fun _ => rfl) 12 (fun _ => rfl) (by decide +kernel) (by decide +kernel) (fun _ _ => ?_)
  refine J_st (st' := [.int 1]) rfl ?_
  refine J_if_ne C 9 (by decide) dX5_setPace_4 (fun _ => ?_) (fun h => absurd h (by decide))
  refine J_iload_n C rfl dX5_setPace_9 ?_
  refine J_iconst C 1 (by decide) dX5_setPace_10 ?_
  refine J_icmp_lt C 20 (by decide) dX5_setPace_11 (fun h => absurd (cv_lt_t (a := k) (b := 1) (by omega) (by omega) h) (by omega)) (fun c11 => ?_)
  refine J_iload_n C rfl dX5_setPace_14 ?_
  refine J_bipush C 9 (by decide) dX5_setPace_15 ?_
  refine J_icmp_le C 23 (by decide) dX5_setPace_17 (fun c17 => ?_) (fun h => absurd (cv_le_f (a := k) (b := 9) (by omega) (by omega) h) (by omega))
  refine J_aload_n C rfl dX5_setPace_23 ?_
  refine J_get C 0 0 in5 rfl rfl (by decide) k217 rfl dX5_setPace_24 ?_
  refine J_iload_n C rfl dX5_setPace_27 ?_
  refine J_callV (as := [.int 1]) (rest := []) C (ct_scribeOf1 l G a σ d) (fun u => [(ts, .inr (5, [.ref (a 0), .ref (a1 0), .ref (a2 0), .ref hh, .ref (b 0), .int (nI ks)]))] ++ stW G a σ d) [1, 2, 3, 4, 5, 6, 7, 8, 9, 10, 11] [0] 1 k412 k372 k373 k11 k374 rfl (by decide +kernel) ⟨Nat.le_of_ble_eq_true rfl, Nat.le_of_ble_eq_true rfl⟩ ⟨Nat.le_of_ble_eq_true rfl, Nat.le_of_ble_eq_true rfl⟩ dX5_setPace_28 (Nat.le_of_ble_eq_true rfl) 1 rfl rfl rfl (by decide +kernel) (fun _ => rfl) ([(ts, .inr (5, [.ref (a 0), .ref (a1 0), .ref (a2 0), .ref hh, .ref (b 0), .int (nI ks)]))]) rfl (fun _ => rfl) 12 (fun _ => rfl) (by decide +kernel) (by decide +kernel) (fun _ _ => ?_)
  refine J_st (st' := [.ref (a 9)]) rfl ?_
  refine J_getN C 10 0 in3 rfl rfl (by decide) nfTwoScribes_107 rfl dX5_setPace_31 ?_
  refine J_istore_n C [(3, .int (nI (σ 0 13))), (0, .ref ts), (1, .int 1), (2, .int (nI k))] (by decide) rfl dX5_setPace_34 ?_
  refine J_iload_n C rfl dX5_setPace_35 ?_
  refine J_iload_n C rfl dX5_setPace_36 ?_
  refine J_icmp_ne C 43 (by decide) dX5_setPace_37 (fun h => absurd (cv_ne_t (a := (σ 0 13)) (b := k) (by omega) (by omega) h) (by omega)) (fun c37 => ?_)
  refine J_bipush C (-5) (by decide) dX5_setPace_40 ?_
  exact J_zret C hr rfl dX5_setPace_42 () rfl trivial rfl

set_option maxHeartbeats 4000000 in
set_option maxRecDepth 100000 in
theorem ct_paceY_1 (l : Launch) (G : GT) (ts : Nat) (a a1 a2 : Nat → Nat) (hh : Nat) (b : Nat → Nat) (ks : Nat) (σ : AS) (d : Nat → Nat) (ha : Nat) (hb : Nat → Nat → Nat) (hσ : Nat → AS) (hd : Nat → Nat → Nat) (f n : Nat) (k : Nat) (hI : Inv σ) (hf4 : f < 4) (hn4 : n ≤ 4) (hk : 1 ≤ k ∧ k ≤ 9) (he : ¬ σ 0 13 = k) : Ct (S := Unit) l G NoX yX5_setPace (Wy yX5_setPace cX5_setPace 4 ((Option.some Jvm.ClassFile.FieldType.int))) { frames := 5, cells := 0, slots := 0, locals := 125 } [.ref ts, .int 1, .int (nI k)] ([(ts, .inr (5, [.ref (a 0), .ref (a1 0), .ref (a2 0), .ref hh, .ref (b 0), .int (nI ks)]))] ++ (stW G a σ d ++ ([(hh, .inr (0, [.ref ha, .int (nI f), .int (nI n)])), (ha, .inl (G.2.2.2, 4, .inr (.inr (.inr (.inr (fun j => some (hb j 0)))))))] ++ (stW G (hb 0) (hσ 0) (hd 0) ++ (stW G (hb 1) (hσ 1) (hd 1) ++ (stW G (hb 2) (hσ 2) (hd 2) ++ stW G (hb 3) (hσ 3) (hd 3))))))) (fun u => True) (fun u => some (.int (nI (σ 0 13)))) (fun u => [(ts, .inr (5, [.ref (a 0), .ref (a1 0), .ref (a2 0), .ref hh, .ref (b 0), .int (nI ks)]))] ++ (stW G a (up2 σ 0 13 k) d ++ ([(hh, .inr (0, [.ref ha, .int (nI (firstF f n)), .int (nI (sizeF n))])), (ha, .inl (G.2.2.2, 4, .inr (.inr (.inr (.inr (fun j => some (hb j 0)))))))] ++ (stW G (hb 0) ((va_up hσ (slotF f n) σ) 0) ((va_up hd (slotF f n) d) 0) ++ (stW G (hb 1) ((va_up hσ (slotF f n) σ) 1) ((va_up hd (slotF f n) d) 1) ++ (stW G (hb 2) ((va_up hσ (slotF f n) σ) 2) ((va_up hd (slotF f n) d) 2) ++ stW G (hb 3) ((va_up hσ (slotF f n) σ) 3) ((va_up hd (slotF f n) d) 3))))))) := by
  refine Ct.of (by decide) (Nat.le_of_ble_eq_true rfl) (fun p e s m args below meth c C hr hnm hX => ?_)
  have h40 := hI.a
  have hc := hI.c
  have hi := hI.i
  have hs := hI.s
  refine J_iload_n C rfl dX5_setPace_0 ?_
  refine J_callS (as := [.int 1]) (rest := []) C (ct_isScr1 l G ) (fun u => [(ts, .inr (5, [.ref (a 0), .ref (a1 0), .ref (a2 0), .ref hh, .ref (b 0), .int (nI ks)]))] ++ (stW G a σ d ++ ([(hh, .inr (0, [.ref ha, .int (nI f), .int (nI n)])), (ha, .inl (G.2.2.2, 4, .inr (.inr (.inr (.inr (fun j => some (hb j 0)))))))] ++ (stW G (hb 0) (hσ 0) (hd 0) ++ (stW G (hb 1) (hσ 1) (hd 1) ++ (stW G (hb 2) (hσ 2) (hd 2) ++ stW G (hb 3) (hσ 3) (hd 3))))))) [] [0, 1, 2, 3, 4, 5, 6, 7, 8, 9, 10, 11, 12, 13, 14, 15, 16, 17, 18, 19, 20, 21, 22, 23, 24, 25, 26, 27, 28, 29, 30, 31, 32, 33, 34, 35, 36, 37, 38, 39, 40, 41, 42, 43, 44, 45, 46, 47, 48, 49, 50, 51, 52, 53, 54, 55, 56, 57] 1 k409 k410 k10 k411 rfl (by decide +kernel) ⟨Nat.le_of_ble_eq_true rfl, Nat.le_of_ble_eq_true rfl⟩ ⟨Nat.le_of_ble_eq_true rfl, Nat.le_of_ble_eq_true rfl⟩ dX5_setPace_1 (Nat.le_of_ble_eq_true rfl) rfl (by decide +kernel) (fun _ => rfl) ([(ts, .inr (5, [.ref (a 0), .ref (a1 0), .ref (a2 0), .ref hh, .ref (b 0), .int (nI ks)]))] ++ (stW G a σ d ++ ([(hh, .inr (0, [.ref ha, .int (nI f), .int (nI n)])), (ha, .inl (G.2.2.2, 4, .inr (.inr (.inr (.inr (fun j => some (hb j 0)))))))] ++ (stW G (hb 0) (hσ 0) (hd 0) ++ (stW G (hb 1) (hσ 1) (hd 1) ++ (stW G (hb 2) (hσ 2) (hd 2) ++ stW G (hb 3) (hσ 3) (hd 3))))))) rfl (fun _ => rfl) 58 (fun _ => rfl) (by decide +kernel) (by decide +kernel) (fun _ _ => ?_)
  refine J_st (st' := [.int 1]) rfl ?_
  refine J_if_ne C 9 (by decide) dX5_setPace_4 (fun _ => ?_) (fun h => absurd h (by decide))
  refine J_iload_n C rfl dX5_setPace_9 ?_
  refine J_iconst C 1 (by decide) dX5_setPace_10 ?_
  refine J_icmp_lt C 20 (by decide) dX5_setPace_11 (fun h => absurd (cv_lt_t (a := k) (b := 1) (by omega) (by omega) h) (by omega)) (fun c11 => ?_)
  refine J_iload_n C rfl dX5_setPace_14 ?_
  refine J_bipush C 9 (by decide) dX5_setPace_15 ?_
  refine J_icmp_le C 23 (by decide) dX5_setPace_17 (fun c17 => ?_) (fun h => absurd (cv_le_f (a := k) (b := 9) (by omega) (by omega) h) (by omega))
  refine J_aload_n C rfl dX5_setPace_23 ?_
  refine J_get C 0 0 in5 rfl rfl (by decide) k217 rfl dX5_setPace_24 ?_
  refine J_iload_n C rfl dX5_setPace_27 ?_
  refine J_callV (as := [.int 1]) (rest := []) C (ct_scribeOf1 l G a σ d) (fun u => [(ts, .inr (5, [.ref (a 0), .ref (a1 0), .ref (a2 0), .ref hh, .ref (b 0), .int (nI ks)]))] ++ (stW G a σ d ++ ([(hh, .inr (0, [.ref ha, .int (nI f), .int (nI n)])), (ha, .inl (G.2.2.2, 4, .inr (.inr (.inr (.inr (fun j => some (hb j 0)))))))] ++ (stW G (hb 0) (hσ 0) (hd 0) ++ (stW G (hb 1) (hσ 1) (hd 1) ++ (stW G (hb 2) (hσ 2) (hd 2) ++ stW G (hb 3) (hσ 3) (hd 3))))))) [1, 2, 3, 4, 5, 6, 7, 8, 9, 10, 11] [0, 12, 13, 14, 15, 16, 17, 18, 19, 20, 21, 22, 23, 24, 25, 26, 27, 28, 29, 30, 31, 32, 33, 34, 35, 36, 37, 38, 39, 40, 41, 42, 43, 44, 45, 46, 47, 48, 49, 50, 51, 52, 53, 54, 55, 56, 57] 1 k412 k372 k373 k11 k374 rfl (by decide +kernel) ⟨Nat.le_of_ble_eq_true rfl, Nat.le_of_ble_eq_true rfl⟩ ⟨Nat.le_of_ble_eq_true rfl, Nat.le_of_ble_eq_true rfl⟩ dX5_setPace_28 (Nat.le_of_ble_eq_true rfl) 1 rfl rfl rfl (by decide +kernel) (fun _ => rfl) ([(ts, .inr (5, [.ref (a 0), .ref (a1 0), .ref (a2 0), .ref hh, .ref (b 0), .int (nI ks)]))] ++ ([(hh, .inr (0, [.ref ha, .int (nI f), .int (nI n)])), (ha, .inl (G.2.2.2, 4, .inr (.inr (.inr (.inr (fun j => some (hb j 0)))))))] ++ (stW G (hb 0) (hσ 0) (hd 0) ++ (stW G (hb 1) (hσ 1) (hd 1) ++ (stW G (hb 2) (hσ 2) (hd 2) ++ stW G (hb 3) (hσ 3) (hd 3)))))) rfl (fun _ => rfl) 58 (fun _ => rfl) (by decide +kernel) (by decide +kernel) (fun _ _ => ?_)
  refine J_st (st' := [.ref (a 9)]) rfl ?_
  refine J_getN C 10 0 in3 rfl rfl (by decide) nfTwoScribes_107 rfl dX5_setPace_31 ?_
  refine J_istore_n C [(3, .int (nI (σ 0 13))), (0, .ref ts), (1, .int 1), (2, .int (nI k))] (by decide) rfl dX5_setPace_34 ?_
  refine J_iload_n C rfl dX5_setPace_35 ?_
  refine J_iload_n C rfl dX5_setPace_36 ?_
  refine J_icmp_ne C 43 (by decide) dX5_setPace_37 (fun c37 => ?_) (fun h => absurd (cv_ne_f (a := (σ 0 13)) (b := k) (by omega) (by omega) h) (by omega))
  refine J_aload_n C rfl dX5_setPace_43 ?_
  refine J_get C 0 3 in5 rfl rfl (by decide) k220 rfl dX5_setPace_44 ?_
  refine J_aload_n C rfl dX5_setPace_47 ?_
  refine J_get C 0 0 in5 rfl rfl (by decide) k217 rfl dX5_setPace_48 ?_
  refine J_callV (as := [.ref (a 0)]) (rest := []) C (ct_record l G hh ha hb hσ hd f n a σ d hf4 hn4) (fun u => [(ts, .inr (5, [.ref (a 0), .ref (a1 0), .ref (a2 0), .ref hh, .ref (b 0), .int (nI ks)]))] ++ (stW G a σ d ++ ([(hh, .inr (0, [.ref ha, .int (nI (firstF f n)), .int (nI (sizeF n))])), (ha, .inl (G.2.2.2, 4, .inr (.inr (.inr (.inr (fun j => some (hb j 0)))))))] ++ (stW G (hb 0) ((va_up hσ (slotF f n) σ) 0) ((va_up hd (slotF f n) d) 0) ++ (stW G (hb 1) ((va_up hσ (slotF f n) σ) 1) ((va_up hd (slotF f n) d) 1) ++ (stW G (hb 2) ((va_up hσ (slotF f n) σ) 2) ((va_up hd (slotF f n) d) 2) ++ stW G (hb 3) ((va_up hσ (slotF f n) σ) 3) ((va_up hd (slotF f n) d) 3))))))) [12, 13, 14, 15, 16, 17, 18, 19, 20, 21, 22, 23, 24, 25, 26, 27, 28, 29, 30, 31, 32, 33, 34, 35, 36, 37, 38, 39, 40, 41, 42, 43, 44, 45, 46, 47, 48, 49, 50, 51, 52, 53, 54, 55, 56, 57, 1, 2, 3, 4, 5, 6, 7, 8, 9, 10, 11] [0] 1 k300 k301 k302 k14 k303 rfl (by decide +kernel) ⟨Nat.le_of_ble_eq_true rfl, Nat.le_of_ble_eq_true rfl⟩ ⟨Nat.le_of_ble_eq_true rfl, Nat.le_of_ble_eq_true rfl⟩ dX5_setPace_51 (Nat.le_of_ble_eq_true rfl) 12 rfl rfl rfl (by decide +kernel) (fun _ => rfl) ([(ts, .inr (5, [.ref (a 0), .ref (a1 0), .ref (a2 0), .ref hh, .ref (b 0), .int (nI ks)]))]) rfl (fun _ => rfl) 58 (fun _ => rfl) (by decide +kernel) (by decide +kernel) (fun _ _ => ?_)
  refine J_st (st' := []) rfl ?_
  refine J_aload_n C rfl dX5_setPace_54 ?_
  refine J_get C 0 0 in5 rfl rfl (by decide) k217 rfl dX5_setPace_55 ?_
  refine J_iload_n C rfl dX5_setPace_58 ?_
  refine J_callV (as := [.int 1]) (rest := []) C (ct_scribeOf1 l G a σ d) (fun u => [(ts, .inr (5, [.ref (a 0), .ref (a1 0), .ref (a2 0), .ref hh, .ref (b 0), .int (nI ks)]))] ++ (stW G a σ d ++ ([(hh, .inr (0, [.ref ha, .int (nI (firstF f n)), .int (nI (sizeF n))])), (ha, .inl (G.2.2.2, 4, .inr (.inr (.inr (.inr (fun j => some (hb j 0)))))))] ++ (stW G (hb 0) ((va_up hσ (slotF f n) σ) 0) ((va_up hd (slotF f n) d) 0) ++ (stW G (hb 1) ((va_up hσ (slotF f n) σ) 1) ((va_up hd (slotF f n) d) 1) ++ (stW G (hb 2) ((va_up hσ (slotF f n) σ) 2) ((va_up hd (slotF f n) d) 2) ++ stW G (hb 3) ((va_up hσ (slotF f n) σ) 3) ((va_up hd (slotF f n) d) 3))))))) [1, 2, 3, 4, 5, 6, 7, 8, 9, 10, 11] [0, 12, 13, 14, 15, 16, 17, 18, 19, 20, 21, 22, 23, 24, 25, 26, 27, 28, 29, 30, 31, 32, 33, 34, 35, 36, 37, 38, 39, 40, 41, 42, 43, 44, 45, 46, 47, 48, 49, 50, 51, 52, 53, 54, 55, 56, 57] 1 k412 k372 k373 k11 k374 rfl (by decide +kernel) ⟨Nat.le_of_ble_eq_true rfl, Nat.le_of_ble_eq_true rfl⟩ ⟨Nat.le_of_ble_eq_true rfl, Nat.le_of_ble_eq_true rfl⟩ dX5_setPace_59 (Nat.le_of_ble_eq_true rfl) 1 rfl rfl rfl (by decide +kernel) (fun _ => rfl) ([(ts, .inr (5, [.ref (a 0), .ref (a1 0), .ref (a2 0), .ref hh, .ref (b 0), .int (nI ks)]))] ++ ([(hh, .inr (0, [.ref ha, .int (nI (firstF f n)), .int (nI (sizeF n))])), (ha, .inl (G.2.2.2, 4, .inr (.inr (.inr (.inr (fun j => some (hb j 0)))))))] ++ (stW G (hb 0) ((va_up hσ (slotF f n) σ) 0) ((va_up hd (slotF f n) d) 0) ++ (stW G (hb 1) ((va_up hσ (slotF f n) σ) 1) ((va_up hd (slotF f n) d) 1) ++ (stW G (hb 2) ((va_up hσ (slotF f n) σ) 2) ((va_up hd (slotF f n) d) 2) ++ stW G (hb 3) ((va_up hσ (slotF f n) σ) 3) ((va_up hd (slotF f n) d) 3)))))) rfl (fun _ => rfl) 58 (fun _ => rfl) (by decide +kernel) (by decide +kernel) (fun _ _ => ?_)
  refine J_st (st' := [.ref (a 9)]) rfl ?_
  refine J_iload_n C rfl dX5_setPace_62 ?_
  refine J_putN C 10 0 in3 tyX3 tyX3_ok nmX3 ([(ts, .inr (5, [.ref (a 0), .ref (a1 0), .ref (a2 0), .ref hh, .ref (b 0), .int (nI ks)]))] ++ ([(a 0, .inr (4, [.ref (a 1), .ref (a 8), .ref (a 9), .ref (a 10), .float (fl (σ 0 6)), .float (fl (σ 0 7)), .float (fl (σ 0 8)), .int (nI (σ 0 3)), .int (nI (σ 0 9)), .int (nI (σ 0 10)), .int (nI (σ 0 11))])), (a 1, .inr (1, [.ref (a 2), .ref (a 3), .ref (a 4), .ref (a 5), .ref (a 6), .ref (a 7), .int (nI (σ 0 4)), .int (nI (σ 0 5))])), (a 2, .inl (G.2.1, 40, .inl (fun q => nI (d q)))), (a 3, .inl (G.2.1, 40, .inl (fun q => nI (σ 2 q)))), (a 4, .inl (G.2.1, 40, .inl (fun q => nI (σ 3 q)))), (a 5, .inl (G.2.1, 40, .inl (fun q => nI (σ 6 q)))), (a 6, .inl (G.2.1, 40, .inl (fun q => nI (σ 4 q)))), (a 7, .inl (G.2.1, 40, .inl (fun q => nI (σ 5 q)))), (a 8, .inr (3, [.int (nI (σ 0 12)), .int (nI (σ 0 14)), .int (nI (σ 0 16)), .int (nI (σ 0 18)), .int (nI (σ 0 20)), .int (nI (σ 0 22)), .float (fl (σ 0 24))])), (a 9, .inr (3, [.int (nI k), .int (nI (σ 0 15)), .int (nI (σ 0 17)), .int (nI (σ 0 19)), .int (nI (σ 0 21)), .int (nI (σ 0 23)), .float (fl (σ 0 25))])), (a 10, .inl (G.2.1, 3, .inl (fun q => nI (σ 7 q))))] ++ ([(hh, .inr (0, [.ref ha, .int (nI (firstF f n)), .int (nI (sizeF n))])), (ha, .inl (G.2.2.2, 4, .inr (.inr (.inr (.inr (fun j => some (hb j 0)))))))] ++ (stW G (hb 0) ((va_up hσ (slotF f n) σ) 0) ((va_up hd (slotF f n) d) 0) ++ (stW G (hb 1) ((va_up hσ (slotF f n) σ) 1) ((va_up hd (slotF f n) d) 1) ++ (stW G (hb 2) ((va_up hσ (slotF f n) σ) 2) ((va_up hd (slotF f n) d) 2) ++ stW G (hb 3) ((va_up hσ (slotF f n) σ) 3) ((va_up hd (slotF f n) d) 3))))))) rfl rfl (by decide) nfTwoScribes_107 rfl rfl rfl (Nat.le_of_ble_eq_true rfl) rfl dX5_setPace_63 ?_
  refine J_iload_n C rfl dX5_setPace_66 ?_
  exact J_zret C hr rfl dX5_setPace_67 () rfl trivial rfl

set_option maxHeartbeats 4000000 in
set_option maxRecDepth 100000 in
theorem ct_pour1 (l : Launch) (G : GT) (ts : Nat) (a a1 a2 : Nat → Nat) (hh : Nat) (b : Nat → Nat) (ks : Nat) (σ : AS) (d : Nat → Nat) (x : Int32) (hx : ¬ (1 ≤ x.toInt ∧ x.toInt ≤ 80)) : Ct (S := Unit) l G NoX yX5_pour (Wy yX5_pour cX5_pour 2 ((Option.some Jvm.ClassFile.FieldType.int))) { frames := 0, cells := 0, slots := 0, locals := 0 } [.ref ts, .int x] ([(ts, .inr (5, [.ref (a 0), .ref (a1 0), .ref (a2 0), .ref hh, .ref (b 0), .int (nI ks)]))] ++ stW G a σ d) (fun u => True) (fun u => some (.int (-2))) (fun u => [(ts, .inr (5, [.ref (a 0), .ref (a1 0), .ref (a2 0), .ref hh, .ref (b 0), .int (nI ks)]))] ++ stW G a σ d) := by
  refine Ct.of (by decide) (Nat.le_of_ble_eq_true rfl) (fun p e s m args below meth c C hr hnm hX => ?_)
  refine J_iload_n C rfl dX5_pour_0 ?_
  refine J_iconst C 1 (by decide) dX5_pour_1 ?_
  refine J_icmp_lt C 11 (by decide) dX5_pour_2 (fun c2 => ?_) (fun c2 => ?_)
  · skip
    have c2 := ti_lt_t (z := 1) (by decide) c2
    refine J_bipush C (-2) (by decide) dX5_pour_11 ?_
    exact J_zret C hr rfl dX5_pour_13 () rfl trivial rfl
  · skip
    have c2 := ti_lt_f (z := 1) (by decide) c2
    refine J_iload_n C rfl dX5_pour_5 ?_
    refine J_bipush C 80 (by decide) dX5_pour_6 ?_
    refine J_icmp_le C 14 (by decide) dX5_pour_8 (fun h => absurd h (fun q => absurd (ti_le_t (z := 80) (by decide) q) (by omega))) (fun _ => ?_)
    refine J_bipush C (-2) (by decide) dX5_pour_11 ?_
    exact J_zret C hr rfl dX5_pour_13 () rfl trivial rfl

set_option maxHeartbeats 4000000 in
set_option maxRecDepth 100000 in
theorem ct_pour2 (l : Launch) (G : GT) (ts : Nat) (a a1 a2 : Nat → Nat) (hh : Nat) (b : Nat → Nat) (ks : Nat) (σ : AS) (d : Nat → Nat) (k : Nat) (hI : Inv σ) (hk : 1 ≤ k ∧ k ≤ 80) (he : ¬ σ 0 11 + k ≤ 9999) : Ct (S := Unit) l G NoX yX5_pour (Wy yX5_pour cX5_pour 2 ((Option.some Jvm.ClassFile.FieldType.int))) { frames := 0, cells := 0, slots := 0, locals := 0 } [.ref ts, .int (nI k)] ([(ts, .inr (5, [.ref (a 0), .ref (a1 0), .ref (a2 0), .ref hh, .ref (b 0), .int (nI ks)]))] ++ stW G a σ d) (fun u => True) (fun u => some (.int (-3))) (fun u => [(ts, .inr (5, [.ref (a 0), .ref (a1 0), .ref (a2 0), .ref hh, .ref (b 0), .int (nI ks)]))] ++ stW G a σ d) := by
  refine Ct.of (by decide) (Nat.le_of_ble_eq_true rfl) (fun p e s m args below meth c C hr hnm hX => ?_)
  have h40 := hI.a
  have hc := hI.c
  have hi := hI.i
  have hs := hI.s
  refine J_iload_n C rfl dX5_pour_0 ?_
  refine J_iconst C 1 (by decide) dX5_pour_1 ?_
  refine J_icmp_lt C 11 (by decide) dX5_pour_2 (fun h => absurd (cv_lt_t (a := k) (b := 1) (by omega) (by omega) h) (by omega)) (fun c2 => ?_)
  refine J_iload_n C rfl dX5_pour_5 ?_
  refine J_bipush C 80 (by decide) dX5_pour_6 ?_
  refine J_icmp_le C 14 (by decide) dX5_pour_8 (fun c8 => ?_) (fun h => absurd (cv_le_f (a := k) (b := 80) (by omega) (by omega) h) (by omega))
  refine J_aload_n C rfl dX5_pour_14 ?_
  refine J_get C 0 0 in5 rfl rfl (by decide) k217 rfl dX5_pour_15 ?_
  refine J_getN C 1 10 in4 rfl rfl (by decide) nfTwoScribes_112 rfl dX5_pour_18 ?_
  refine J_iload_n C rfl dX5_pour_21 ?_
  refine J_iadd C dX5_pour_22 ?_
  refine J_i (nI_add (σ 0 11) k : ((nI (σ 0 11)) + (nI k) : Int32) = (nI (σ 0 11 + k))) ?_
  refine J_sipush C 9999 (by decide) dX5_pour_23 ?_
  refine J_icmp_le C 32 (by decide) dX5_pour_26 (fun h => absurd (cv_le_t (a := (σ 0 11 + k)) (b := 9999) (by omega) (by omega) h) (by omega)) (fun c26 => ?_)
  refine J_bipush C (-3) (by decide) dX5_pour_29 ?_
  exact J_zret C hr rfl dX5_pour_31 () rfl trivial rfl

set_option maxHeartbeats 4000000 in
set_option maxRecDepth 100000 in
theorem ct_pourY (l : Launch) (G : GT) (ts : Nat) (a a1 a2 : Nat → Nat) (hh : Nat) (b : Nat → Nat) (ks : Nat) (σ : AS) (d : Nat → Nat) (ha : Nat) (hb : Nat → Nat → Nat) (hσ : Nat → AS) (hd : Nat → Nat → Nat) (f n : Nat) (k : Nat) (hI : Inv σ) (hf4 : f < 4) (hn4 : n ≤ 4) (hk : 1 ≤ k ∧ k ≤ 80) (he : σ 0 11 + k ≤ 9999) : Ct (S := Unit) l G NoX yX5_pour (Wy yX5_pour cX5_pour 2 ((Option.some Jvm.ClassFile.FieldType.int))) { frames := 5, cells := 0, slots := 0, locals := 125 } [.ref ts, .int (nI k)] ([(ts, .inr (5, [.ref (a 0), .ref (a1 0), .ref (a2 0), .ref hh, .ref (b 0), .int (nI ks)]))] ++ (stW G a σ d ++ ([(hh, .inr (0, [.ref ha, .int (nI f), .int (nI n)])), (ha, .inl (G.2.2.2, 4, .inr (.inr (.inr (.inr (fun j => some (hb j 0)))))))] ++ (stW G (hb 0) (hσ 0) (hd 0) ++ (stW G (hb 1) (hσ 1) (hd 1) ++ (stW G (hb 2) (hσ 2) (hd 2) ++ stW G (hb 3) (hσ 3) (hd 3))))))) (fun u => True) (fun u => some (.int (nI (σ 0 11 + k)))) (fun u => [(ts, .inr (5, [.ref (a 0), .ref (a1 0), .ref (a2 0), .ref hh, .ref (b 0), .int (nI ks)]))] ++ (stW G a (pourF σ k) d ++ ([(hh, .inr (0, [.ref ha, .int (nI (firstF f n)), .int (nI (sizeF n))])), (ha, .inl (G.2.2.2, 4, .inr (.inr (.inr (.inr (fun j => some (hb j 0)))))))] ++ (stW G (hb 0) ((va_up hσ (slotF f n) σ) 0) ((va_up hd (slotF f n) d) 0) ++ (stW G (hb 1) ((va_up hσ (slotF f n) σ) 1) ((va_up hd (slotF f n) d) 1) ++ (stW G (hb 2) ((va_up hσ (slotF f n) σ) 2) ((va_up hd (slotF f n) d) 2) ++ stW G (hb 3) ((va_up hσ (slotF f n) σ) 3) ((va_up hd (slotF f n) d) 3))))))) := by
  refine Ct.of (by decide) (Nat.le_of_ble_eq_true rfl) (fun p e s m args below meth c C hr hnm hX => ?_)
  have h40 := hI.a
  have hc := hI.c
  have hi := hI.i
  have hs := hI.s
  refine J_iload_n C rfl dX5_pour_0 ?_
  refine J_iconst C 1 (by decide) dX5_pour_1 ?_
  refine J_icmp_lt C 11 (by decide) dX5_pour_2 (fun h => absurd (cv_lt_t (a := k) (b := 1) (by omega) (by omega) h) (by omega)) (fun c2 => ?_)
  refine J_iload_n C rfl dX5_pour_5 ?_
  refine J_bipush C 80 (by decide) dX5_pour_6 ?_
  refine J_icmp_le C 14 (by decide) dX5_pour_8 (fun c8 => ?_) (fun h => absurd (cv_le_f (a := k) (b := 80) (by omega) (by omega) h) (by omega))
  refine J_aload_n C rfl dX5_pour_14 ?_
  refine J_get C 0 0 in5 rfl rfl (by decide) k217 rfl dX5_pour_15 ?_
  refine J_getN C 1 10 in4 rfl rfl (by decide) nfTwoScribes_112 rfl dX5_pour_18 ?_
  refine J_iload_n C rfl dX5_pour_21 ?_
  refine J_iadd C dX5_pour_22 ?_
  refine J_i (nI_add (σ 0 11) k : ((nI (σ 0 11)) + (nI k) : Int32) = (nI (σ 0 11 + k))) ?_
  refine J_sipush C 9999 (by decide) dX5_pour_23 ?_
  refine J_icmp_le C 32 (by decide) dX5_pour_26 (fun c26 => ?_) (fun h => absurd (cv_le_f (a := (σ 0 11 + k)) (b := 9999) (by omega) (by omega) h) (by omega))
  refine J_aload_n C rfl dX5_pour_32 ?_
  refine J_get C 0 3 in5 rfl rfl (by decide) k220 rfl dX5_pour_33 ?_
  refine J_aload_n C rfl dX5_pour_36 ?_
  refine J_get C 0 0 in5 rfl rfl (by decide) k217 rfl dX5_pour_37 ?_
  refine J_callV (as := [.ref (a 0)]) (rest := []) C (ct_record l G hh ha hb hσ hd f n a σ d hf4 hn4) (fun u => [(ts, .inr (5, [.ref (a 0), .ref (a1 0), .ref (a2 0), .ref hh, .ref (b 0), .int (nI ks)]))] ++ (stW G a σ d ++ ([(hh, .inr (0, [.ref ha, .int (nI (firstF f n)), .int (nI (sizeF n))])), (ha, .inl (G.2.2.2, 4, .inr (.inr (.inr (.inr (fun j => some (hb j 0)))))))] ++ (stW G (hb 0) ((va_up hσ (slotF f n) σ) 0) ((va_up hd (slotF f n) d) 0) ++ (stW G (hb 1) ((va_up hσ (slotF f n) σ) 1) ((va_up hd (slotF f n) d) 1) ++ (stW G (hb 2) ((va_up hσ (slotF f n) σ) 2) ((va_up hd (slotF f n) d) 2) ++ stW G (hb 3) ((va_up hσ (slotF f n) σ) 3) ((va_up hd (slotF f n) d) 3))))))) [12, 13, 14, 15, 16, 17, 18, 19, 20, 21, 22, 23, 24, 25, 26, 27, 28, 29, 30, 31, 32, 33, 34, 35, 36, 37, 38, 39, 40, 41, 42, 43, 44, 45, 46, 47, 48, 49, 50, 51, 52, 53, 54, 55, 56, 57, 1, 2, 3, 4, 5, 6, 7, 8, 9, 10, 11] [0] 1 k300 k301 k302 k14 k303 rfl (by decide +kernel) ⟨Nat.le_of_ble_eq_true rfl, Nat.le_of_ble_eq_true rfl⟩ ⟨Nat.le_of_ble_eq_true rfl, Nat.le_of_ble_eq_true rfl⟩ dX5_pour_40 (Nat.le_of_ble_eq_true rfl) 12 rfl rfl rfl (by decide +kernel) (fun _ => rfl) ([(ts, .inr (5, [.ref (a 0), .ref (a1 0), .ref (a2 0), .ref hh, .ref (b 0), .int (nI ks)]))]) rfl (fun _ => rfl) 58 (fun _ => rfl) (by decide +kernel) (by decide +kernel) (fun _ _ => ?_)
  refine J_st (st' := []) rfl ?_
  refine J_aload_n C rfl dX5_pour_43 ?_
  refine J_get C 0 0 in5 rfl rfl (by decide) k217 rfl dX5_pour_44 ?_
  refine J_dup C rfl dX5_pour_47 ?_
  refine J_getN C 1 10 in4 rfl rfl (by decide) nfTwoScribes_112 rfl dX5_pour_48 ?_
  refine J_iload_n C rfl dX5_pour_51 ?_
  refine J_iadd C dX5_pour_52 ?_
  refine J_i (nI_add (σ 0 11) k : ((nI (σ 0 11)) + (nI k) : Int32) = (nI (σ 0 11 + k))) ?_
  refine J_putN C 1 10 in4 tyX4 tyX4_ok nmX4 ([(ts, .inr (5, [.ref (a 0), .ref (a1 0), .ref (a2 0), .ref hh, .ref (b 0), .int (nI ks)]))] ++ ([(a 0, .inr (4, [.ref (a 1), .ref (a 8), .ref (a 9), .ref (a 10), .float (fl (σ 0 6)), .float (fl (σ 0 7)), .float (fl (σ 0 8)), .int (nI (σ 0 3)), .int (nI (σ 0 9)), .int (nI (σ 0 10)), .int (nI (σ 0 11 + k))])), (a 1, .inr (1, [.ref (a 2), .ref (a 3), .ref (a 4), .ref (a 5), .ref (a 6), .ref (a 7), .int (nI (σ 0 4)), .int (nI (σ 0 5))])), (a 2, .inl (G.2.1, 40, .inl (fun q => nI (d q)))), (a 3, .inl (G.2.1, 40, .inl (fun q => nI (σ 2 q)))), (a 4, .inl (G.2.1, 40, .inl (fun q => nI (σ 3 q)))), (a 5, .inl (G.2.1, 40, .inl (fun q => nI (σ 6 q)))), (a 6, .inl (G.2.1, 40, .inl (fun q => nI (σ 4 q)))), (a 7, .inl (G.2.1, 40, .inl (fun q => nI (σ 5 q)))), (a 8, .inr (3, [.int (nI (σ 0 12)), .int (nI (σ 0 14)), .int (nI (σ 0 16)), .int (nI (σ 0 18)), .int (nI (σ 0 20)), .int (nI (σ 0 22)), .float (fl (σ 0 24))])), (a 9, .inr (3, [.int (nI (σ 0 13)), .int (nI (σ 0 15)), .int (nI (σ 0 17)), .int (nI (σ 0 19)), .int (nI (σ 0 21)), .int (nI (σ 0 23)), .float (fl (σ 0 25))])), (a 10, .inl (G.2.1, 3, .inl (fun q => nI (σ 7 q))))] ++ ([(hh, .inr (0, [.ref ha, .int (nI (firstF f n)), .int (nI (sizeF n))])), (ha, .inl (G.2.2.2, 4, .inr (.inr (.inr (.inr (fun j => some (hb j 0)))))))] ++ (stW G (hb 0) ((va_up hσ (slotF f n) σ) 0) ((va_up hd (slotF f n) d) 0) ++ (stW G (hb 1) ((va_up hσ (slotF f n) σ) 1) ((va_up hd (slotF f n) d) 1) ++ (stW G (hb 2) ((va_up hσ (slotF f n) σ) 2) ((va_up hd (slotF f n) d) 2) ++ stW G (hb 3) ((va_up hσ (slotF f n) σ) 3) ((va_up hd (slotF f n) d) 3))))))) rfl rfl (by decide) nfTwoScribes_112 rfl rfl rfl (Nat.le_of_ble_eq_true rfl) rfl dX5_pour_53 ?_
  refine J_aload_n C rfl dX5_pour_56 ?_
  refine J_get C 0 0 in5 rfl rfl (by decide) k217 rfl dX5_pour_57 ?_
  refine J_dup C rfl dX5_pour_60 ?_
  refine J_getN C 1 4 in4 rfl rfl (by decide) nfTwoScribes_115 rfl dX5_pour_61 ?_
  refine J_iload_n C rfl dX5_pour_64 ?_
  refine J_i2f C dX5_pour_65 ?_
  refine J_ldcf C k433 dX5_pour_66 ?_
  refine J_fdiv C (by rw [fl_8 (n := k) (by omega)]; exact fl_num (by omega)) dX5_pour_68 ?_
  refine J_f (fl_8 (n := k) (by omega) : (FP.fdiv (FP.i2f (nI k)) 1090519040 : UInt32) = (fl (8 * k))) ?_
  refine J_fadd C (by rw [fl_add (a := σ 0 6) (b := 8 * k) (by omega)]; exact fl_num (by omega)) dX5_pour_69 ?_
  refine J_f (fl_add (a := σ 0 6) (b := 8 * k) (by omega) : (FP.fadd (fl (σ 0 6)) (fl (8 * k)) : UInt32) = (fl (σ 0 6 + (8 * k)))) ?_
  refine J_putN C 1 4 in4 tyX4 tyX4_ok nmX4 ([(ts, .inr (5, [.ref (a 0), .ref (a1 0), .ref (a2 0), .ref hh, .ref (b 0), .int (nI ks)]))] ++ ([(a 0, .inr (4, [.ref (a 1), .ref (a 8), .ref (a 9), .ref (a 10), .float (fl (σ 0 6 + (8 * k))), .float (fl (σ 0 7)), .float (fl (σ 0 8)), .int (nI (σ 0 3)), .int (nI (σ 0 9)), .int (nI (σ 0 10)), .int (nI (σ 0 11 + k))])), (a 1, .inr (1, [.ref (a 2), .ref (a 3), .ref (a 4), .ref (a 5), .ref (a 6), .ref (a 7), .int (nI (σ 0 4)), .int (nI (σ 0 5))])), (a 2, .inl (G.2.1, 40, .inl (fun q => nI (d q)))), (a 3, .inl (G.2.1, 40, .inl (fun q => nI (σ 2 q)))), (a 4, .inl (G.2.1, 40, .inl (fun q => nI (σ 3 q)))), (a 5, .inl (G.2.1, 40, .inl (fun q => nI (σ 6 q)))), (a 6, .inl (G.2.1, 40, .inl (fun q => nI (σ 4 q)))), (a 7, .inl (G.2.1, 40, .inl (fun q => nI (σ 5 q)))), (a 8, .inr (3, [.int (nI (σ 0 12)), .int (nI (σ 0 14)), .int (nI (σ 0 16)), .int (nI (σ 0 18)), .int (nI (σ 0 20)), .int (nI (σ 0 22)), .float (fl (σ 0 24))])), (a 9, .inr (3, [.int (nI (σ 0 13)), .int (nI (σ 0 15)), .int (nI (σ 0 17)), .int (nI (σ 0 19)), .int (nI (σ 0 21)), .int (nI (σ 0 23)), .float (fl (σ 0 25))])), (a 10, .inl (G.2.1, 3, .inl (fun q => nI (σ 7 q))))] ++ ([(hh, .inr (0, [.ref ha, .int (nI (firstF f n)), .int (nI (sizeF n))])), (ha, .inl (G.2.2.2, 4, .inr (.inr (.inr (.inr (fun j => some (hb j 0)))))))] ++ (stW G (hb 0) ((va_up hσ (slotF f n) σ) 0) ((va_up hd (slotF f n) d) 0) ++ (stW G (hb 1) ((va_up hσ (slotF f n) σ) 1) ((va_up hd (slotF f n) d) 1) ++ (stW G (hb 2) ((va_up hσ (slotF f n) σ) 2) ((va_up hd (slotF f n) d) 2) ++ stW G (hb 3) ((va_up hσ (slotF f n) σ) 3) ((va_up hd (slotF f n) d) 3))))))) rfl rfl (by decide) nfTwoScribes_115 rfl rfl rfl (Nat.le_of_ble_eq_true rfl) rfl dX5_pour_70 ?_
  refine J_aload_n C rfl dX5_pour_73 ?_
  refine J_get C 0 0 in5 rfl rfl (by decide) k217 rfl dX5_pour_74 ?_
  refine J_getN C 1 10 in4 rfl rfl (by decide) nfTwoScribes_112 rfl dX5_pour_77 ?_
  exact J_zret C hr rfl dX5_pour_80 () rfl trivial rfl

set_option maxHeartbeats 4000000 in
set_option maxRecDepth 100000 in
theorem ct_pass1 (l : Launch) (G : GT) (ts : Nat) (a a1 a2 : Nat → Nat) (hh : Nat) (b : Nat → Nat) (ks : Nat) (σ : AS) (d : Nat → Nat) (x : Int32) (hx : ¬ (1 ≤ x.toInt ∧ x.toInt ≤ 99)) : Ct (S := Unit) l G NoX yX5_pass (Wy yX5_pass cX5_pass 4 ((Option.some Jvm.ClassFile.FieldType.int))) { frames := 0, cells := 0, slots := 0, locals := 0 } [.ref ts, .int x] ([(ts, .inr (5, [.ref (a 0), .ref (a1 0), .ref (a2 0), .ref hh, .ref (b 0), .int (nI ks)]))] ++ stW G a σ d) (fun u => True) (fun u => some (.int (-2))) (fun u => [(ts, .inr (5, [.ref (a 0), .ref (a1 0), .ref (a2 0), .ref hh, .ref (b 0), .int (nI ks)]))] ++ stW G a σ d) := by
  refine Ct.of (by decide) (Nat.le_of_ble_eq_true rfl) (fun p e s m args below meth c C hr hnm hX => ?_)
  refine J_iload_n C rfl dX5_pass_0 ?_
  refine J_iconst C 1 (by decide) dX5_pass_1 ?_
  refine J_icmp_lt C 11 (by decide) dX5_pass_2 (fun c2 => ?_) (fun c2 => ?_)
  · skip
    have c2 := ti_lt_t (z := 1) (by decide) c2
    refine J_bipush C (-2) (by decide) dX5_pass_11 ?_
    exact J_zret C hr rfl dX5_pass_13 () rfl trivial rfl
  · skip
    have c2 := ti_lt_f (z := 1) (by decide) c2
    refine J_iload_n C rfl dX5_pass_5 ?_
    refine J_bipush C 99 (by decide) dX5_pass_6 ?_
    refine J_icmp_le C 14 (by decide) dX5_pass_8 (fun h => absurd h (fun q => absurd (ti_le_t (z := 99) (by decide) q) (by omega))) (fun _ => ?_)
    refine J_bipush C (-2) (by decide) dX5_pass_11 ?_
    exact J_zret C hr rfl dX5_pass_13 () rfl trivial rfl

set_option maxHeartbeats 4000000 in
set_option maxRecDepth 100000 in
theorem ct_pass2 (l : Launch) (G : GT) (ts : Nat) (a a1 a2 : Nat → Nat) (hh : Nat) (b : Nat → Nat) (ks : Nat) (σ : AS) (d : Nat → Nat) (k : Nat) (hI : Inv σ) (hk : 1 ≤ k ∧ k ≤ 99) (he : ¬ σ 0 3 + k ≤ 99999) : Ct (S := Unit) l G NoX yX5_pass (Wy yX5_pass cX5_pass 4 ((Option.some Jvm.ClassFile.FieldType.int))) { frames := 0, cells := 0, slots := 0, locals := 0 } [.ref ts, .int (nI k)] ([(ts, .inr (5, [.ref (a 0), .ref (a1 0), .ref (a2 0), .ref hh, .ref (b 0), .int (nI ks)]))] ++ stW G a σ d) (fun u => True) (fun u => some (.int (-3))) (fun u => [(ts, .inr (5, [.ref (a 0), .ref (a1 0), .ref (a2 0), .ref hh, .ref (b 0), .int (nI ks)]))] ++ stW G a σ d) := by
  refine Ct.of (by decide) (Nat.le_of_ble_eq_true rfl) (fun p e s m args below meth c C hr hnm hX => ?_)
  have h40 := hI.a
  have hc := hI.c
  have hi := hI.i
  have hs := hI.s
  refine J_iload_n C rfl dX5_pass_0 ?_
  refine J_iconst C 1 (by decide) dX5_pass_1 ?_
  refine J_icmp_lt C 11 (by decide) dX5_pass_2 (fun h => absurd (cv_lt_t (a := k) (b := 1) (by omega) (by omega) h) (by omega)) (fun c2 => ?_)
  refine J_iload_n C rfl dX5_pass_5 ?_
  refine J_bipush C 99 (by decide) dX5_pass_6 ?_
  refine J_icmp_le C 14 (by decide) dX5_pass_8 (fun c8 => ?_) (fun h => absurd (cv_le_f (a := k) (b := 99) (by omega) (by omega) h) (by omega))
  refine J_aload_n C rfl dX5_pass_14 ?_
  refine J_get C 0 0 in5 rfl rfl (by decide) k217 rfl dX5_pass_15 ?_
  refine J_getN C 1 7 in4 rfl rfl (by decide) nfTwoScribes_129 rfl dX5_pass_18 ?_
  refine J_iload_n C rfl dX5_pass_21 ?_
  refine J_iadd C dX5_pass_22 ?_
  refine J_i (nI_add (σ 0 3) k : ((nI (σ 0 3)) + (nI k) : Int32) = (nI (σ 0 3 + k))) ?_
  refine J_ldc C k478 dX5_pass_23 ?_
  refine J_icmp_le C 31 (by decide) dX5_pass_25 (fun h => absurd (cv_le_t (a := (σ 0 3 + k)) (b := 99999) (by omega) (by omega) h) (by omega)) (fun c25 => ?_)
  refine J_bipush C (-3) (by decide) dX5_pass_28 ?_
  exact J_zret C hr rfl dX5_pass_30 () rfl trivial rfl

set_option maxHeartbeats 4000000 in
set_option maxRecDepth 100000 in
theorem ct_passY (l : Launch) (G : GT) (ts : Nat) (a a1 a2 : Nat → Nat) (hh : Nat) (b : Nat → Nat) (ks : Nat) (σ : AS) (d : Nat → Nat) (ha : Nat) (hb : Nat → Nat → Nat) (hσ : Nat → AS) (hd : Nat → Nat → Nat) (f n : Nat) (k : Nat) (hI : Inv σ) (hD : DOK σ d) (hf4 : f < 4) (hn4 : n ≤ 4) (hk : 1 ≤ k ∧ k ≤ 99) (he : σ 0 3 + k ≤ 99999) : Ct (S := Unit) l G NoX yX5_pass (Wy yX5_pass cX5_pass 4 ((Option.some Jvm.ClassFile.FieldType.int))) { frames := 5, cells := 0, slots := 0, locals := 125 } [.ref ts, .int (nI k)] ([(ts, .inr (5, [.ref (a 0), .ref (a1 0), .ref (a2 0), .ref hh, .ref (b 0), .int (nI ks)]))] ++ (stW G a σ d ++ ([(hh, .inr (0, [.ref ha, .int (nI f), .int (nI n)])), (ha, .inl (G.2.2.2, 4, .inr (.inr (.inr (.inr (fun j => some (hb j 0)))))))] ++ (stW G (hb 0) (hσ 0) (hd 0) ++ (stW G (hb 1) (hσ 1) (hd 1) ++ (stW G (hb 2) (hσ 2) (hd 2) ++ stW G (hb 3) (hσ 3) (hd 3))))))) (fun u => True) (fun u => some (.int (nI (itF k σ 0 10) - nI (σ 0 10)))) (fun u => [(ts, .inr (5, [.ref (a 0), .ref (a1 0), .ref (a2 0), .ref hh, .ref (b 0), .int (nI ks)]))] ++ (stW G a (itF k σ) d ++ ([(hh, .inr (0, [.ref ha, .int (nI (firstF f n)), .int (nI (sizeF n))])), (ha, .inl (G.2.2.2, 4, .inr (.inr (.inr (.inr (fun j => some (hb j 0)))))))] ++ (stW G (hb 0) ((va_up hσ (slotF f n) σ) 0) ((va_up hd (slotF f n) d) 0) ++ (stW G (hb 1) ((va_up hσ (slotF f n) σ) 1) ((va_up hd (slotF f n) d) 1) ++ (stW G (hb 2) ((va_up hσ (slotF f n) σ) 2) ((va_up hd (slotF f n) d) 2) ++ stW G (hb 3) ((va_up hσ (slotF f n) σ) 3) ((va_up hd (slotF f n) d) 3))))))) := by
  refine Ct.of (by decide) (Nat.le_of_ble_eq_true rfl) (fun p e s m args below meth c C hr hnm hX => ?_)
  have h40 := hI.a
  have hc := hI.c
  have hi := hI.i
  have hs := hI.s
  refine J_iload_n C rfl dX5_pass_0 ?_
  refine J_iconst C 1 (by decide) dX5_pass_1 ?_
  refine J_icmp_lt C 11 (by decide) dX5_pass_2 (fun h => absurd (cv_lt_t (a := k) (b := 1) (by omega) (by omega) h) (by omega)) (fun c2 => ?_)
  refine J_iload_n C rfl dX5_pass_5 ?_
  refine J_bipush C 99 (by decide) dX5_pass_6 ?_
  refine J_icmp_le C 14 (by decide) dX5_pass_8 (fun c8 => ?_) (fun h => absurd (cv_le_f (a := k) (b := 99) (by omega) (by omega) h) (by omega))
  refine J_aload_n C rfl dX5_pass_14 ?_
  refine J_get C 0 0 in5 rfl rfl (by decide) k217 rfl dX5_pass_15 ?_
  refine J_getN C 1 7 in4 rfl rfl (by decide) nfTwoScribes_129 rfl dX5_pass_18 ?_
  refine J_iload_n C rfl dX5_pass_21 ?_
  refine J_iadd C dX5_pass_22 ?_
  refine J_i (nI_add (σ 0 3) k : ((nI (σ 0 3)) + (nI k) : Int32) = (nI (σ 0 3 + k))) ?_
  refine J_ldc C k478 dX5_pass_23 ?_
  refine J_icmp_le C 31 (by decide) dX5_pass_25 (fun c25 => ?_) (fun h => absurd (cv_le_f (a := (σ 0 3 + k)) (b := 99999) (by omega) (by omega) h) (by omega))
  refine J_aload_n C rfl dX5_pass_31 ?_
  refine J_get C 0 3 in5 rfl rfl (by decide) k220 rfl dX5_pass_32 ?_
  refine J_aload_n C rfl dX5_pass_35 ?_
  refine J_get C 0 0 in5 rfl rfl (by decide) k217 rfl dX5_pass_36 ?_
  refine J_callV (as := [.ref (a 0)]) (rest := []) C (ct_record l G hh ha hb hσ hd f n a σ d hf4 hn4) (fun u => [(ts, .inr (5, [.ref (a 0), .ref (a1 0), .ref (a2 0), .ref hh, .ref (b 0), .int (nI ks)]))] ++ (stW G a σ d ++ ([(hh, .inr (0, [.ref ha, .int (nI (firstF f n)), .int (nI (sizeF n))])), (ha, .inl (G.2.2.2, 4, .inr (.inr (.inr (.inr (fun j => some (hb j 0)))))))] ++ (stW G (hb 0) ((va_up hσ (slotF f n) σ) 0) ((va_up hd (slotF f n) d) 0) ++ (stW G (hb 1) ((va_up hσ (slotF f n) σ) 1) ((va_up hd (slotF f n) d) 1) ++ (stW G (hb 2) ((va_up hσ (slotF f n) σ) 2) ((va_up hd (slotF f n) d) 2) ++ stW G (hb 3) ((va_up hσ (slotF f n) σ) 3) ((va_up hd (slotF f n) d) 3))))))) [12, 13, 14, 15, 16, 17, 18, 19, 20, 21, 22, 23, 24, 25, 26, 27, 28, 29, 30, 31, 32, 33, 34, 35, 36, 37, 38, 39, 40, 41, 42, 43, 44, 45, 46, 47, 48, 49, 50, 51, 52, 53, 54, 55, 56, 57, 1, 2, 3, 4, 5, 6, 7, 8, 9, 10, 11] [0] 1 k300 k301 k302 k14 k303 rfl (by decide +kernel) ⟨Nat.le_of_ble_eq_true rfl, Nat.le_of_ble_eq_true rfl⟩ ⟨Nat.le_of_ble_eq_true rfl, Nat.le_of_ble_eq_true rfl⟩ dX5_pass_39 (Nat.le_of_ble_eq_true rfl) 12 rfl rfl rfl (by decide +kernel) (fun _ => rfl) ([(ts, .inr (5, [.ref (a 0), .ref (a1 0), .ref (a2 0), .ref hh, .ref (b 0), .int (nI ks)]))]) rfl (fun _ => rfl) 58 (fun _ => rfl) (by decide +kernel) (by decide +kernel) (fun _ _ => ?_)
  refine J_st (st' := []) rfl ?_
  refine J_aload_n C rfl dX5_pass_42 ?_
  refine J_get C 0 0 in5 rfl rfl (by decide) k217 rfl dX5_pass_43 ?_
  refine J_getN C 1 9 in4 rfl rfl (by decide) nfTwoScribes_133 rfl dX5_pass_46 ?_
  refine J_istore_n C [(2, .int (nI (σ 0 10))), (0, .ref ts), (1, .int (nI k))] (by decide) rfl dX5_pass_49 ?_
  refine J_iconst C 0 (by decide) dX5_pass_50 ?_
  refine J_istore_n C [(3, .int 0), (2, .int (nI (σ 0 10))), (0, .ref ts), (1, .int (nI k))] (by decide) rfl dX5_pass_51 ?_
  refine J_lvp [2, 3, 1, 0] [(0, .ref ts), (1, .int (nI k)), (2, .int (nI (σ 0 10))), (3, .int 0)] rfl ?_
  refine J_loop (fun i => [(ts, .inr (5, [.ref (a 0), .ref (a1 0), .ref (a2 0), .ref hh, .ref (b 0), .int (nI ks)]))] ++ (stW G a (itF i σ) d ++ ([(hh, .inr (0, [.ref ha, .int (nI (firstF f n)), .int (nI (sizeF n))])), (ha, .inl (G.2.2.2, 4, .inr (.inr (.inr (.inr (fun j => some (hb j 0)))))))] ++ (stW G (hb 0) ((va_up hσ (slotF f n) σ) 0) ((va_up hd (slotF f n) d) 0) ++ (stW G (hb 1) ((va_up hσ (slotF f n) σ) 1) ((va_up hd (slotF f n) d) 1) ++ (stW G (hb 2) ((va_up hσ (slotF f n) σ) 2) ((va_up hd (slotF f n) d) 2) ++ stW G (hb 3) ((va_up hσ (slotF f n) σ) 3) ((va_up hd (slotF f n) d) 3))))))) (fun i => [(0, .ref ts), (1, .int (nI k)), (2, .int (nI (σ 0 10))), (3, .int (nI i))]) (fun i => i ≤ k) (fun i => k - i) (fun i hi2 ih => ?_) 0 (Nat.zero_le _) rfl rfl
  refine J_iload_n C rfl dX5_pass_52 ?_
  refine J_iload_n C rfl dX5_pass_53 ?_
  refine J_icmp_ge C 71 (by decide) dX5_pass_54 (fun c54 => ?_) (fun c54 => ?_)
  · skip
    have c54 := cv_ge_t (a := i) (b := k) (by omega) (by omega) c54
    refine J_aload_n C rfl dX5_pass_71 ?_
    refine J_get C 0 0 in5 rfl rfl (by decide) k217 rfl dX5_pass_72 ?_
    refine J_getN C 1 9 in4 rfl rfl (by decide) nfTwoScribes_133 rfl dX5_pass_75 ?_
    refine J_iload_n C rfl dX5_pass_78 ?_
    refine J_isub C dX5_pass_79 ?_
    exact J_zret C hr rfl dX5_pass_80 () (by rw [show i = k from by omega]) trivial (by rw [show i = k from by omega])
  · skip
    have c54 := cv_ge_f (a := i) (b := k) (by omega) (by omega) c54
    refine J_aload_n C rfl dX5_pass_57 ?_
    refine J_get C 0 0 in5 rfl rfl (by decide) k217 rfl dX5_pass_58 ?_
    refine J_callV (as := []) (rest := []) C (ct_passTick l G a (itF i σ) d (hI.it i (by omega)) (hD.it i) (by rw [itF_tick]; omega)) (fun u => [(ts, .inr (5, [.ref (a 0), .ref (a1 0), .ref (a2 0), .ref hh, .ref (b 0), .int (nI ks)]))] ++ (stW G a (ticksF (itF i σ)) d ++ ([(hh, .inr (0, [.ref ha, .int (nI (firstF f n)), .int (nI (sizeF n))])), (ha, .inl (G.2.2.2, 4, .inr (.inr (.inr (.inr (fun j => some (hb j 0)))))))] ++ (stW G (hb 0) ((va_up hσ (slotF f n) σ) 0) ((va_up hd (slotF f n) d) 0) ++ (stW G (hb 1) ((va_up hσ (slotF f n) σ) 1) ((va_up hd (slotF f n) d) 1) ++ (stW G (hb 2) ((va_up hσ (slotF f n) σ) 2) ((va_up hd (slotF f n) d) 2) ++ stW G (hb 3) ((va_up hσ (slotF f n) σ) 3) ((va_up hd (slotF f n) d) 3))))))) [1, 2, 3, 4, 5, 6, 7, 8, 9, 10, 11] [0, 12, 13, 14, 15, 16, 17, 18, 19, 20, 21, 22, 23, 24, 25, 26, 27, 28, 29, 30, 31, 32, 33, 34, 35, 36, 37, 38, 39, 40, 41, 42, 43, 44, 45, 46, 47, 48, 49, 50, 51, 52, 53, 54, 55, 56, 57] 0 k479 k480 k481 k11 k482 rfl (by decide +kernel) ⟨Nat.le_of_ble_eq_true rfl, Nat.le_of_ble_eq_true rfl⟩ ⟨Nat.le_of_ble_eq_true rfl, Nat.le_of_ble_eq_true rfl⟩ dX5_pass_61 (Nat.le_of_ble_eq_true rfl) 1 rfl rfl rfl (by decide +kernel) (fun _ => rfl) ([(ts, .inr (5, [.ref (a 0), .ref (a1 0), .ref (a2 0), .ref hh, .ref (b 0), .int (nI ks)]))] ++ ([(hh, .inr (0, [.ref ha, .int (nI (firstF f n)), .int (nI (sizeF n))])), (ha, .inl (G.2.2.2, 4, .inr (.inr (.inr (.inr (fun j => some (hb j 0)))))))] ++ (stW G (hb 0) ((va_up hσ (slotF f n) σ) 0) ((va_up hd (slotF f n) d) 0) ++ (stW G (hb 1) ((va_up hσ (slotF f n) σ) 1) ((va_up hd (slotF f n) d) 1) ++ (stW G (hb 2) ((va_up hσ (slotF f n) σ) 2) ((va_up hd (slotF f n) d) 2) ++ stW G (hb 3) ((va_up hσ (slotF f n) σ) 3) ((va_up hd (slotF f n) d) 3)))))) rfl (fun _ => rfl) 58 (fun _ => rfl) (by decide +kernel) (by decide +kernel) (fun _ _ => ?_)
    refine J_st (st' := [.int (if doesN (tickF (itF i σ)) 0 ≤ 2 ∨ doesN (goesF (tickF (itF i σ)) 0 ((itF i σ) 0 3 + 1)) 1 ≤ 2 then 1 else 0)]) rfl ?_
    refine J_pop C rfl dX5_pass_64 ?_
    refine J_iinc C (nI (i + 1)) [(3, .int (nI (i + 1))), (0, .ref ts), (1, .int (nI k)), (2, .int (nI (σ 0 10)))] 3 rfl (by first | exact nI_add _ 1 | rfl) (by decide) rfl dX5_pass_65 ?_
    refine J_goto C 52 (by decide) dX5_pass_68 ?_
    refine J_lvp [1, 2, 3, 0] [(0, .ref ts), (1, .int (nI k)), (2, .int (nI (σ 0 10))), (3, .int (nI (i + 1)))] rfl ?_
    exact ih (i + 1) (by omega) (by omega)

set_option maxHeartbeats 4000000 in
set_option maxRecDepth 100000 in
theorem ct_typeN (l : Launch) (G : GT) (ts : Nat) (a a1 a2 : Nat → Nat) (hh : Nat) (b : Nat → Nat) (ks : Nat) (t : Nat → Nat) (L : Nat) (lt ms : Nat → Nat) (hf : Nat) (fa : Int32) (cu : Nat) (x : Nat) (hL : L = 60) : Ct (S := Unit) l G NoX yX5_type (Wy yX5_type cX5_type 2 ((Option.some Jvm.ClassFile.FieldType.int))) { frames := 1, cells := 0, slots := 0, locals := 21 } [.ref ts, .int (nI x)] ([(ts, .inr (5, [.ref (a 0), .ref (a1 0), .ref (a2 0), .ref hh, .ref (b 0), .int (nI ks)]))] ++ txW G b t L lt ms hf fa cu) (fun u => True) (fun u => some (.int (-3))) (fun u => [(ts, .inr (5, [.ref (a 0), .ref (a1 0), .ref (a2 0), .ref hh, .ref (b 0), .int (nI ks)]))] ++ txW G b t L lt ms hf fa cu) := by
  refine Ct.of (by decide) (Nat.le_of_ble_eq_true rfl) (fun p e s m args below meth c C hr hnm hX => ?_)
  refine J_aload_n C rfl dX5_type_0 ?_
  refine J_get C 0 4 in5 rfl rfl (by decide) k221 rfl dX5_type_1 ?_
  refine J_iload_n C rfl dX5_type_4 ?_
  refine J_callV (as := [.int (nI x)]) (rest := []) C (ct_appendN l G b t L lt ms hf fa cu x hL) (fun u => [(ts, .inr (5, [.ref (a 0), .ref (a1 0), .ref (a2 0), .ref hh, .ref (b 0), .int (nI ks)]))] ++ txW G b t L lt ms hf fa cu) [1, 2, 3, 4] [0] 1 k255 k256 k257 k15 k258 rfl (by decide +kernel) ⟨Nat.le_of_ble_eq_true rfl, Nat.le_of_ble_eq_true rfl⟩ ⟨Nat.le_of_ble_eq_true rfl, Nat.le_of_ble_eq_true rfl⟩ dX5_type_5 (Nat.le_of_ble_eq_true rfl) 1 rfl rfl rfl (by decide +kernel) (fun _ => rfl) ([(ts, .inr (5, [.ref (a 0), .ref (a1 0), .ref (a2 0), .ref hh, .ref (b 0), .int (nI ks)]))]) rfl (fun _ => rfl) 5 (fun _ => rfl) (by decide +kernel) (by decide +kernel) (fun _ _ => ?_)
  refine J_st (st' := [.int 0]) rfl ?_
  refine J_if_eq C 21 (by decide) dX5_type_8 (fun _ => ?_) (fun h => absurd h (by decide))
  refine J_bipush C (-3) (by decide) dX5_type_21 ?_
  exact J_zret C hr rfl dX5_type_23 () rfl trivial rfl

set_option maxHeartbeats 4000000 in
set_option maxRecDepth 100000 in
theorem ct_typeY (l : Launch) (G : GT) (ts : Nat) (a a1 a2 : Nat → Nat) (hh : Nat) (b : Nat → Nat) (ks : Nat) (t : Nat → Nat) (L : Nat) (lt ms : Nat → Nat) (hf : Nat) (fa : Int32) (cu : Nat) (x : Nat) (hL : L < 60) (hx : x < 65536) : Ct (S := Unit) l G NoX yX5_type (Wy yX5_type cX5_type 2 ((Option.some Jvm.ClassFile.FieldType.int))) { frames := 1, cells := 0, slots := 0, locals := 21 } [.ref ts, .int (nI x)] ([(ts, .inr (5, [.ref (a 0), .ref (a1 0), .ref (a2 0), .ref hh, .ref (b 0), .int (nI ks)]))] ++ txW G b t L lt ms hf fa cu) (fun u => True) (fun u => some (.int (nI (L + 1)))) (fun u => [(ts, .inr (5, [.ref (a 0), .ref (a1 0), .ref (a2 0), .ref hh, .ref (b 0), .int (nI ks)]))] ++ txW G b (fun q => if q = L then x else t q) (L + 1) lt ms hf fa cu) := by
  refine Ct.of (by decide) (Nat.le_of_ble_eq_true rfl) (fun p e s m args below meth c C hr hnm hX => ?_)
  refine J_aload_n C rfl dX5_type_0 ?_
  refine J_get C 0 4 in5 rfl rfl (by decide) k221 rfl dX5_type_1 ?_
  refine J_iload_n C rfl dX5_type_4 ?_
  refine J_callV (as := [.int (nI x)]) (rest := []) C (ct_appendY l G b t L lt ms hf fa cu x hL hx) (fun u => [(ts, .inr (5, [.ref (a 0), .ref (a1 0), .ref (a2 0), .ref hh, .ref (b 0), .int (nI ks)]))] ++ txW G b (fun q => if q = L then x else t q) (L + 1) lt ms hf fa cu) [1, 2, 3, 4] [0] 1 k255 k256 k257 k15 k258 rfl (by decide +kernel) ⟨Nat.le_of_ble_eq_true rfl, Nat.le_of_ble_eq_true rfl⟩ ⟨Nat.le_of_ble_eq_true rfl, Nat.le_of_ble_eq_true rfl⟩ dX5_type_5 (Nat.le_of_ble_eq_true rfl) 1 rfl rfl rfl (by decide +kernel) (fun _ => rfl) ([(ts, .inr (5, [.ref (a 0), .ref (a1 0), .ref (a2 0), .ref hh, .ref (b 0), .int (nI ks)]))]) rfl (fun _ => rfl) 5 (fun _ => rfl) (by decide +kernel) (by decide +kernel) (fun _ _ => ?_)
  refine J_st (st' := [.int 1]) rfl ?_
  refine J_if_eq C 21 (by decide) dX5_type_8 (fun h => absurd h (by decide)) (fun _ => ?_)
  refine J_aload_n C rfl dX5_type_11 ?_
  refine J_get C 0 4 in5 rfl rfl (by decide) k221 rfl dX5_type_12 ?_
  refine J_getN C 1 3 in2 rfl rfl (by decide) nfTwoScribes_144 rfl dX5_type_15 ?_
  refine J_goto C 23 (by decide) dX5_type_18 ?_
  exact J_zret C hr rfl dX5_type_23 () rfl trivial rfl

set_option maxHeartbeats 4000000 in
set_option maxRecDepth 100000 in
theorem ct_clear (l : Launch) (G : GT) (ts : Nat) (a a1 a2 : Nat → Nat) (hh : Nat) (b : Nat → Nat) (ks : Nat) (t : Nat → Nat) (L : Nat) (lt ms : Nat → Nat) (hf : Nat) (fa : Int32) (cu : Nat)   : Ct (S := Unit) l G NoX yX5_clearText (Wy yX5_clearText cX5_clearText 2 ((Option.some Jvm.ClassFile.FieldType.int))) { frames := 0, cells := 0, slots := 0, locals := 0 } [.ref ts] ([(ts, .inr (5, [.ref (a 0), .ref (a1 0), .ref (a2 0), .ref hh, .ref (b 0), .int (nI ks)]))] ++ txW G b t L lt ms hf fa cu) (fun u => True) (fun u => some (.int (nI L))) (fun u => [(ts, .inr (5, [.ref (a 0), .ref (a1 0), .ref (a2 0), .ref hh, .ref (b 0), .int (nI ks)]))] ++ txW G b t 0 lt ms hf fa cu) := by
  refine Ct.of (by decide) (Nat.le_of_ble_eq_true rfl) (fun p e s m args below meth c C hr hnm hX => ?_)
  refine J_aload_n C rfl dX5_clearText_0 ?_
  refine J_get C 0 4 in5 rfl rfl (by decide) k221 rfl dX5_clearText_1 ?_
  refine J_getN C 1 3 in2 rfl rfl (by decide) nfTwoScribes_144 rfl dX5_clearText_4 ?_
  refine J_istore_n C [(1, .int (nI L)), (0, .ref ts)] (by decide) rfl dX5_clearText_7 ?_
  refine J_aload_n C rfl dX5_clearText_8 ?_
  refine J_get C 0 4 in5 rfl rfl (by decide) k221 rfl dX5_clearText_9 ?_
  refine J_iconst C 0 (by decide) dX5_clearText_12 ?_
  refine J_putN C 1 3 in2 tyX2 tyX2_ok nmX2 ([(ts, .inr (5, [.ref (a 0), .ref (a1 0), .ref (a2 0), .ref hh, .ref (b 0), .int (nI ks)]))] ++ [(b 0, .inr (2, [.ref (b 1), .ref (b 2), .ref (b 3), .int 0, .int (nI hf), .int fa, .int (nI cu)])), (b 1, .inl (G.2.2.1, 60, .inl (fun q => nI (t q)))), (b 2, .inl (G.2.1, 20, .inl (fun q => nI (lt q)))), (b 3, .inl (G.2.1, 40, .inl (fun q => nI (ms q))))]) rfl rfl (by decide) nfTwoScribes_144 rfl rfl rfl (Nat.le_of_ble_eq_true rfl) rfl dX5_clearText_13 ?_
  refine J_iload_n C rfl dX5_clearText_16 ?_
  exact J_zret C hr rfl dX5_clearText_17 () rfl trivial rfl

set_option maxHeartbeats 4000000 in
set_option maxRecDepth 100000 in
theorem ct_keep (l : Launch) (G : GT) (ts : Nat) (a a1 a2 : Nat → Nat) (hh : Nat) (b : Nat → Nat) (ks : Nat) (σ : AS) (d : Nat → Nat) (σ2 : AS) (d2 : Nat → Nat)   : Ct (S := Unit) l G NoX yX5_keep (Wy yX5_keep cX5_keep 1 ((Option.some Jvm.ClassFile.FieldType.int))) { frames := 4, cells := 0, slots := 0, locals := 103 } [.ref ts] ([(ts, .inr (5, [.ref (a 0), .ref (a1 0), .ref (a2 0), .ref hh, .ref (b 0), .int (nI ks)]))] ++ (stW G a σ d ++ stW G a2 σ2 d2)) (fun u => True) (fun u => some (.int (nI (σ 0 3)))) (fun u => [(ts, .inr (5, [.ref (a 0), .ref (a1 0), .ref (a2 0), .ref hh, .ref (b 0), .int (nI 1)]))] ++ (stW G a σ d ++ stW G a2 σ d)) := by
  refine Ct.of (by decide) (Nat.le_of_ble_eq_true rfl) (fun p e s m args below meth c C hr hnm hX => ?_)
  refine J_aload_n C rfl dX5_keep_0 ?_
  refine J_get C 0 2 in5 rfl rfl (by decide) k219 rfl dX5_keep_1 ?_
  refine J_aload_n C rfl dX5_keep_4 ?_
  refine J_get C 0 0 in5 rfl rfl (by decide) k217 rfl dX5_keep_5 ?_
  refine J_callV (as := [.ref (a 0)]) (rest := []) C (ct_stateCopy l G a2 σ2 d2 a σ d) (fun u => [(ts, .inr (5, [.ref (a 0), .ref (a1 0), .ref (a2 0), .ref hh, .ref (b 0), .int (nI ks)]))] ++ (stW G a σ d ++ stW G a2 σ d)) [12, 13, 14, 15, 16, 17, 18, 19, 20, 21, 22, 1, 2, 3, 4, 5, 6, 7, 8, 9, 10, 11] [0] 1 k469 k309 k310 k11 k311 rfl (by decide +kernel) ⟨Nat.le_of_ble_eq_true rfl, Nat.le_of_ble_eq_true rfl⟩ ⟨Nat.le_of_ble_eq_true rfl, Nat.le_of_ble_eq_true rfl⟩ dX5_keep_8 (Nat.le_of_ble_eq_true rfl) 12 rfl rfl rfl (by decide +kernel) (fun _ => rfl) ([(ts, .inr (5, [.ref (a 0), .ref (a1 0), .ref (a2 0), .ref hh, .ref (b 0), .int (nI ks)]))]) rfl (fun _ => rfl) 23 (fun _ => rfl) (by decide +kernel) (by decide +kernel) (fun _ _ => ?_)
  refine J_st (st' := []) rfl ?_
  refine J_aload_n C rfl dX5_keep_11 ?_
  refine J_iconst C 1 (by decide) dX5_keep_12 ?_
  refine J_put C 0 5 in5 tyX5 tyX5_ok nmX5 ([(ts, .inr (5, [.ref (a 0), .ref (a1 0), .ref (a2 0), .ref hh, .ref (b 0), .int 1]))] ++ (stW G a σ d ++ stW G a2 σ d)) rfl rfl (by decide) k222 rfl rfl rfl (Nat.le_of_ble_eq_true rfl) rfl dX5_keep_13 ?_
  refine J_aload_n C rfl dX5_keep_16 ?_
  refine J_get C 0 0 in5 rfl rfl (by decide) k217 rfl dX5_keep_17 ?_
  refine J_getN C 1 7 in4 rfl rfl (by decide) nfTwoScribes_129 rfl dX5_keep_20 ?_
  exact J_zret C hr rfl dX5_keep_23 () rfl trivial rfl

set_option maxHeartbeats 4000000 in
set_option maxRecDepth 100000 in
theorem ct_restN (l : Launch) (G : GT) (ts : Nat) (a a1 a2 : Nat → Nat) (hh : Nat) (b : Nat → Nat) (ks : Nat) (σ : AS) (d : Nat → Nat) (σ2 : AS) (d2 : Nat → Nat)  (hk : ks = 0) : Ct (S := Unit) l G NoX yX5_restore (Wy yX5_restore cX5_restore 1 ((Option.some Jvm.ClassFile.FieldType.int))) { frames := 0, cells := 0, slots := 0, locals := 0 } [.ref ts] ([(ts, .inr (5, [.ref (a 0), .ref (a1 0), .ref (a2 0), .ref hh, .ref (b 0), .int (nI ks)]))] ++ (stW G a σ d ++ stW G a2 σ2 d2)) (fun u => True) (fun u => some (.int (-5))) (fun u => [(ts, .inr (5, [.ref (a 0), .ref (a1 0), .ref (a2 0), .ref hh, .ref (b 0), .int (nI ks)]))] ++ (stW G a σ d ++ stW G a2 σ2 d2)) := by
  refine Ct.of (by decide) (Nat.le_of_ble_eq_true rfl) (fun p e s m args below meth c C hr hnm hX => ?_)
  refine J_aload_n C rfl dX5_restore_0 ?_
  refine J_get C 0 5 in5 rfl rfl (by decide) k222 rfl dX5_restore_1 ?_
  refine J_if_ne C 10 (by decide) dX5_restore_4 (fun h => absurd (cv_ne_t (a := ks) (b := 0) (by omega) (by omega) h) (by omega)) (fun c4 => ?_)
  refine J_bipush C (-5) (by decide) dX5_restore_7 ?_
  exact J_zret C hr rfl dX5_restore_9 () rfl trivial rfl

set_option maxHeartbeats 4000000 in
set_option maxRecDepth 100000 in
theorem ct_restY (l : Launch) (G : GT) (ts : Nat) (a a1 a2 : Nat → Nat) (hh : Nat) (b : Nat → Nat) (ks : Nat) (σ : AS) (d : Nat → Nat) (σ2 : AS) (d2 : Nat → Nat) (ha : Nat) (hb : Nat → Nat → Nat) (hσ : Nat → AS) (hd : Nat → Nat → Nat) (f n : Nat)  (hf4 : f < 4) (hn4 : n ≤ 4) (hk : ks = 1) : Ct (S := Unit) l G NoX yX5_restore (Wy yX5_restore cX5_restore 1 ((Option.some Jvm.ClassFile.FieldType.int))) { frames := 5, cells := 0, slots := 0, locals := 125 } [.ref ts] ([(ts, .inr (5, [.ref (a 0), .ref (a1 0), .ref (a2 0), .ref hh, .ref (b 0), .int (nI ks)]))] ++ (stW G a σ d ++ (stW G a2 σ2 d2 ++ ([(hh, .inr (0, [.ref ha, .int (nI f), .int (nI n)])), (ha, .inl (G.2.2.2, 4, .inr (.inr (.inr (.inr (fun j => some (hb j 0)))))))] ++ (stW G (hb 0) (hσ 0) (hd 0) ++ (stW G (hb 1) (hσ 1) (hd 1) ++ (stW G (hb 2) (hσ 2) (hd 2) ++ stW G (hb 3) (hσ 3) (hd 3)))))))) (fun u => True) (fun u => some (.int (nI (σ2 0 3)))) (fun u => [(ts, .inr (5, [.ref (a 0), .ref (a1 0), .ref (a2 0), .ref hh, .ref (b 0), .int (nI ks)]))] ++ (stW G a σ2 d2 ++ (stW G a2 σ2 d2 ++ ([(hh, .inr (0, [.ref ha, .int (nI (firstF f n)), .int (nI (sizeF n))])), (ha, .inl (G.2.2.2, 4, .inr (.inr (.inr (.inr (fun j => some (hb j 0)))))))] ++ (stW G (hb 0) ((va_up hσ (slotF f n) σ) 0) ((va_up hd (slotF f n) d) 0) ++ (stW G (hb 1) ((va_up hσ (slotF f n) σ) 1) ((va_up hd (slotF f n) d) 1) ++ (stW G (hb 2) ((va_up hσ (slotF f n) σ) 2) ((va_up hd (slotF f n) d) 2) ++ stW G (hb 3) ((va_up hσ (slotF f n) σ) 3) ((va_up hd (slotF f n) d) 3)))))))) := by
  refine Ct.of (by decide) (Nat.le_of_ble_eq_true rfl) (fun p e s m args below meth c C hr hnm hX => ?_)
  refine J_aload_n C rfl dX5_restore_0 ?_
  refine J_get C 0 5 in5 rfl rfl (by decide) k222 rfl dX5_restore_1 ?_
  refine J_if_ne C 10 (by decide) dX5_restore_4 (fun c4 => ?_) (fun h => absurd (cv_ne_f (a := ks) (b := 0) (by omega) (by omega) h) (by omega))
  refine J_aload_n C rfl dX5_restore_10 ?_
  refine J_get C 0 3 in5 rfl rfl (by decide) k220 rfl dX5_restore_11 ?_
  refine J_aload_n C rfl dX5_restore_14 ?_
  refine J_get C 0 0 in5 rfl rfl (by decide) k217 rfl dX5_restore_15 ?_
  refine J_callV (as := [.ref (a 0)]) (rest := []) C (ct_record l G hh ha hb hσ hd f n a σ d hf4 hn4) (fun u => [(ts, .inr (5, [.ref (a 0), .ref (a1 0), .ref (a2 0), .ref hh, .ref (b 0), .int (nI ks)]))] ++ (stW G a σ d ++ (stW G a2 σ2 d2 ++ ([(hh, .inr (0, [.ref ha, .int (nI (firstF f n)), .int (nI (sizeF n))])), (ha, .inl (G.2.2.2, 4, .inr (.inr (.inr (.inr (fun j => some (hb j 0)))))))] ++ (stW G (hb 0) ((va_up hσ (slotF f n) σ) 0) ((va_up hd (slotF f n) d) 0) ++ (stW G (hb 1) ((va_up hσ (slotF f n) σ) 1) ((va_up hd (slotF f n) d) 1) ++ (stW G (hb 2) ((va_up hσ (slotF f n) σ) 2) ((va_up hd (slotF f n) d) 2) ++ stW G (hb 3) ((va_up hσ (slotF f n) σ) 3) ((va_up hd (slotF f n) d) 3)))))))) [23, 24, 25, 26, 27, 28, 29, 30, 31, 32, 33, 34, 35, 36, 37, 38, 39, 40, 41, 42, 43, 44, 45, 46, 47, 48, 49, 50, 51, 52, 53, 54, 55, 56, 57, 58, 59, 60, 61, 62, 63, 64, 65, 66, 67, 68, 1, 2, 3, 4, 5, 6, 7, 8, 9, 10, 11] [0, 12, 13, 14, 15, 16, 17, 18, 19, 20, 21, 22] 1 k300 k301 k302 k14 k303 rfl (by decide +kernel) ⟨Nat.le_of_ble_eq_true rfl, Nat.le_of_ble_eq_true rfl⟩ ⟨Nat.le_of_ble_eq_true rfl, Nat.le_of_ble_eq_true rfl⟩ dX5_restore_18 (Nat.le_of_ble_eq_true rfl) 23 rfl rfl rfl (by decide +kernel) (fun _ => rfl) ([(ts, .inr (5, [.ref (a 0), .ref (a1 0), .ref (a2 0), .ref hh, .ref (b 0), .int (nI ks)]))] ++ stW G a2 σ2 d2) rfl (fun _ => rfl) 69 (fun _ => rfl) (by decide +kernel) (by decide +kernel) (fun _ _ => ?_)
  refine J_st (st' := []) rfl ?_
  refine J_aload_n C rfl dX5_restore_21 ?_
  refine J_get C 0 0 in5 rfl rfl (by decide) k217 rfl dX5_restore_22 ?_
  refine J_aload_n C rfl dX5_restore_25 ?_
  refine J_get C 0 2 in5 rfl rfl (by decide) k219 rfl dX5_restore_26 ?_
  refine J_callV (as := [.ref (a2 0)]) (rest := []) C (ct_stateCopy l G a σ d a2 σ2 d2) (fun u => [(ts, .inr (5, [.ref (a 0), .ref (a1 0), .ref (a2 0), .ref hh, .ref (b 0), .int (nI ks)]))] ++ (stW G a σ2 d2 ++ (stW G a2 σ2 d2 ++ ([(hh, .inr (0, [.ref ha, .int (nI (firstF f n)), .int (nI (sizeF n))])), (ha, .inl (G.2.2.2, 4, .inr (.inr (.inr (.inr (fun j => some (hb j 0)))))))] ++ (stW G (hb 0) ((va_up hσ (slotF f n) σ) 0) ((va_up hd (slotF f n) d) 0) ++ (stW G (hb 1) ((va_up hσ (slotF f n) σ) 1) ((va_up hd (slotF f n) d) 1) ++ (stW G (hb 2) ((va_up hσ (slotF f n) σ) 2) ((va_up hd (slotF f n) d) 2) ++ stW G (hb 3) ((va_up hσ (slotF f n) σ) 3) ((va_up hd (slotF f n) d) 3)))))))) [1, 2, 3, 4, 5, 6, 7, 8, 9, 10, 11, 12, 13, 14, 15, 16, 17, 18, 19, 20, 21, 22] [0, 23, 24, 25, 26, 27, 28, 29, 30, 31, 32, 33, 34, 35, 36, 37, 38, 39, 40, 41, 42, 43, 44, 45, 46, 47, 48, 49, 50, 51, 52, 53, 54, 55, 56, 57, 58, 59, 60, 61, 62, 63, 64, 65, 66, 67, 68] 1 k469 k309 k310 k11 k311 rfl (by decide +kernel) ⟨Nat.le_of_ble_eq_true rfl, Nat.le_of_ble_eq_true rfl⟩ ⟨Nat.le_of_ble_eq_true rfl, Nat.le_of_ble_eq_true rfl⟩ dX5_restore_29 (Nat.le_of_ble_eq_true rfl) 1 rfl rfl rfl (by decide +kernel) (fun _ => rfl) ([(ts, .inr (5, [.ref (a 0), .ref (a1 0), .ref (a2 0), .ref hh, .ref (b 0), .int (nI ks)]))] ++ ([(hh, .inr (0, [.ref ha, .int (nI (firstF f n)), .int (nI (sizeF n))])), (ha, .inl (G.2.2.2, 4, .inr (.inr (.inr (.inr (fun j => some (hb j 0)))))))] ++ (stW G (hb 0) ((va_up hσ (slotF f n) σ) 0) ((va_up hd (slotF f n) d) 0) ++ (stW G (hb 1) ((va_up hσ (slotF f n) σ) 1) ((va_up hd (slotF f n) d) 1) ++ (stW G (hb 2) ((va_up hσ (slotF f n) σ) 2) ((va_up hd (slotF f n) d) 2) ++ stW G (hb 3) ((va_up hσ (slotF f n) σ) 3) ((va_up hd (slotF f n) d) 3)))))) rfl (fun _ => rfl) 69 (fun _ => rfl) (by decide +kernel) (by decide +kernel) (fun _ _ => ?_)
  refine J_st (st' := []) rfl ?_
  refine J_aload_n C rfl dX5_restore_32 ?_
  refine J_get C 0 0 in5 rfl rfl (by decide) k217 rfl dX5_restore_33 ?_
  refine J_getN C 1 7 in4 rfl rfl (by decide) nfTwoScribes_129 rfl dX5_restore_36 ?_
  exact J_zret C hr rfl dX5_restore_39 () rfl trivial rfl

set_option maxHeartbeats 4000000 in
set_option maxRecDepth 100000 in
theorem ct_read1 (l : Launch) (G : GT) (ts : Nat) (a a1 a2 : Nat → Nat) (hh : Nat) (b : Nat → Nat) (ks : Nat) (t : Nat → Nat) (L : Nat) (lt ms : Nat → Nat) (hf : Nat) (fa : Int32) (cu : Nat)  (hL : L ≤ 60) (ht : ∀ q, t q < 65536) (hs : ¬ (psF t L).1 = 0) (hcu : (psF t L).2.1 ≤ 100) : Ct (S := Unit) l G NoX yX5_readPage (Wy yX5_readPage cX5_readPage 2 ((Option.some Jvm.ClassFile.FieldType.int))) { frames := 4, cells := 0, slots := 0, locals := 85 } [.ref ts] ([(ts, .inr (5, [.ref (a 0), .ref (a1 0), .ref (a2 0), .ref hh, .ref (b 0), .int (nI ks)]))] ++ txW G b t L lt ms hf fa cu) (fun u => True) (fun u => some (.int ((-100) - nI (psF t L).2.1))) (fun u => [(ts, .inr (5, [.ref (a 0), .ref (a1 0), .ref (a2 0), .ref hh, .ref (b 0), .int (nI ks)]))] ++ txW G b t L (fun q => if q < halfN t L then letC t L q else lt q) ((psF t L).2.2.1) (halfN t L) (nI (psF t L).2.2.2 - 1) ((psF t L).2.1)) := by
  refine Ct.of (by decide) (Nat.le_of_ble_eq_true rfl) (fun p e s m args below meth c C hr hnm hX => ?_)
  have hhn := halfN_le t L
  have hps := psF_ok t L
  refine J_aload_n C rfl dX5_readPage_0 ?_
  refine J_get C 0 4 in5 rfl rfl (by decide) k221 rfl dX5_readPage_1 ?_
  refine J_callV (as := []) (rest := []) C (ct_findFault l G b t L lt ms hf fa cu hL ht) (fun u => [(ts, .inr (5, [.ref (a 0), .ref (a1 0), .ref (a2 0), .ref hh, .ref (b 0), .int (nI ks)]))] ++ txW G b t L (fun q => if q < halfN t L then letC t L q else lt q) ((psF t L).2.2.1) (halfN t L) (nI (psF t L).2.2.2 - 1) ((psF t L).2.1)) [1, 2, 3, 4] [0] 0 k263 k264 k265 k15 k266 rfl (by decide +kernel) ⟨Nat.le_of_ble_eq_true rfl, Nat.le_of_ble_eq_true rfl⟩ ⟨Nat.le_of_ble_eq_true rfl, Nat.le_of_ble_eq_true rfl⟩ dX5_readPage_4 (Nat.le_of_ble_eq_true rfl) 1 rfl rfl rfl (by decide +kernel) (fun _ => rfl) ([(ts, .inr (5, [.ref (a 0), .ref (a1 0), .ref (a2 0), .ref hh, .ref (b 0), .int (nI ks)]))]) rfl (fun _ => rfl) 5 (fun _ => rfl) (by decide +kernel) (by decide +kernel) (fun _ _ => ?_)
  refine J_st (st' := [.int (if (psF t L).1 = 0 then -1 else nI (psF t L).2.1)]) rfl ?_
  refine J_i (if_neg hs : (if (psF t L).1 = 0 then -1 else nI (psF t L).2.1 : Int32) = (nI ((psF t L).2.1))) ?_
  refine J_istore_n C [(1, .int (nI ((psF t L).2.1))), (0, .ref ts)] (by decide) rfl dX5_readPage_7 ?_
  refine J_iload_n C rfl dX5_readPage_8 ?_
  refine J_iconst C (-1) (by decide) dX5_readPage_9 ?_
  refine J_icmp_eq C 18 (by decide) dX5_readPage_10 (fun h => absurd h (nI_ne1 (by omega))) (fun _ => ?_)
  refine J_bipush C (-100) (by decide) dX5_readPage_13 ?_
  refine J_iload_n C rfl dX5_readPage_15 ?_
  refine J_isub C dX5_readPage_16 ?_
  exact J_zret C hr rfl dX5_readPage_17 () rfl trivial rfl

set_option maxHeartbeats 4000000 in
set_option maxRecDepth 100000 in
theorem ct_read2 (l : Launch) (G : GT) (ts : Nat) (a a1 a2 : Nat → Nat) (hh : Nat) (b : Nat → Nat) (ks : Nat) (t : Nat → Nat) (L : Nat) (lt ms : Nat → Nat) (hf : Nat) (fa : Int32) (cu : Nat)  (hL : L ≤ 60) (ht : ∀ q, t q < 65536) (hs : (psF t L).1 = 0) (hg : ¬ (psF t L).2.2.2 ≤ 2 * halfN t L) : Ct (S := Unit) l G NoX yX5_readPage (Wy yX5_readPage cX5_readPage 2 ((Option.some Jvm.ClassFile.FieldType.int))) { frames := 4, cells := 0, slots := 0, locals := 85 } [.ref ts] ([(ts, .inr (5, [.ref (a 0), .ref (a1 0), .ref (a2 0), .ref hh, .ref (b 0), .int (nI ks)]))] ++ txW G b t L lt ms hf fa cu) (fun u => True) (fun u => some (.int (-1))) (fun u => [(ts, .inr (5, [.ref (a 0), .ref (a1 0), .ref (a2 0), .ref hh, .ref (b 0), .int (nI ks)]))] ++ txW G b t L (fun q => if q < halfN t L then letC t L q else lt q) ((psF t L).2.2.1) (halfN t L) (nI (psF t L).2.2.2 - 1) ((psF t L).2.1)) := by
  refine Ct.of (by decide) (Nat.le_of_ble_eq_true rfl) (fun p e s m args below meth c C hr hnm hX => ?_)
  have hhn := halfN_le t L
  have hps := psF_ok t L
  refine J_aload_n C rfl dX5_readPage_0 ?_
  refine J_get C 0 4 in5 rfl rfl (by decide) k221 rfl dX5_readPage_1 ?_
  refine J_callV (as := []) (rest := []) C (ct_findFault l G b t L lt ms hf fa cu hL ht) (fun u => [(ts, .inr (5, [.ref (a 0), .ref (a1 0), .ref (a2 0), .ref hh, .ref (b 0), .int (nI ks)]))] ++ txW G b t L (fun q => if q < halfN t L then letC t L q else lt q) ((psF t L).2.2.1) (halfN t L) (nI (psF t L).2.2.2 - 1) ((psF t L).2.1)) [1, 2, 3, 4] [0] 0 k263 k264 k265 k15 k266 rfl (by decide +kernel) ⟨Nat.le_of_ble_eq_true rfl, Nat.le_of_ble_eq_true rfl⟩ ⟨Nat.le_of_ble_eq_true rfl, Nat.le_of_ble_eq_true rfl⟩ dX5_readPage_4 (Nat.le_of_ble_eq_true rfl) 1 rfl rfl rfl (by decide +kernel) (fun _ => rfl) ([(ts, .inr (5, [.ref (a 0), .ref (a1 0), .ref (a2 0), .ref hh, .ref (b 0), .int (nI ks)]))]) rfl (fun _ => rfl) 5 (fun _ => rfl) (by decide +kernel) (by decide +kernel) (fun _ _ => ?_)
  refine J_st (st' := [.int (if (psF t L).1 = 0 then -1 else nI (psF t L).2.1)]) rfl ?_
  refine J_i (if_pos hs : (if (psF t L).1 = 0 then -1 else nI (psF t L).2.1 : Int32) = (-1)) ?_
  refine J_istore_n C [(1, .int (-1)), (0, .ref ts)] (by decide) rfl dX5_readPage_7 ?_
  refine J_iload_n C rfl dX5_readPage_8 ?_
  refine J_iconst C (-1) (by decide) dX5_readPage_9 ?_
  refine J_icmp_eq C 18 (by decide) dX5_readPage_10 (fun _ => ?_) (fun h => absurd h (by decide))
  refine J_aload_n C rfl dX5_readPage_18 ?_
  refine J_get C 0 4 in5 rfl rfl (by decide) k221 rfl dX5_readPage_19 ?_
  refine J_getN C 1 5 in2 rfl rfl (by decide) nfTwoScribes_40 rfl dX5_readPage_22 ?_
  refine J_iconst C 2 (by decide) dX5_readPage_25 ?_
  refine J_aload_n C rfl dX5_readPage_26 ?_
  refine J_get C 0 4 in5 rfl rfl (by decide) k221 rfl dX5_readPage_27 ?_
  refine J_getN C 1 4 in2 rfl rfl (by decide) nfTwoScribes_44 rfl dX5_readPage_30 ?_
  refine J_imul C dX5_readPage_33 ?_
  refine J_i (pk_mul 2 (halfN t L) : (2 * (nI (halfN t L)) : Int32) = (nI (2 * (halfN t L)))) ?_
  refine J_icmp_lt C 39 (by decide) dX5_readPage_34 (fun h => absurd h (fun q => absurd ((far_lt (by omega) (by omega)).mp q) (by omega))) (fun _ => ?_)
  refine J_iconst C (-1) (by decide) dX5_readPage_37 ?_
  exact J_zret C hr rfl dX5_readPage_38 () rfl trivial rfl

set_option maxHeartbeats 4000000 in
set_option maxRecDepth 100000 in
theorem ct_readY (l : Launch) (G : GT) (ts : Nat) (a a1 a2 : Nat → Nat) (hh : Nat) (b : Nat → Nat) (ks : Nat) (σ : AS) (d : Nat → Nat) (ha : Nat) (hb : Nat → Nat → Nat) (hσ : Nat → AS) (hd : Nat → Nat → Nat) (f n : Nat) (t : Nat → Nat) (L : Nat) (lt ms : Nat → Nat) (hf : Nat) (fa : Int32) (cu : Nat)  (hf4 : f < 4) (hn4 : n ≤ 4) (hL : L ≤ 60) (ht : ∀ q, t q < 65536) (hs : (psF t L).1 = 0) (hg : (psF t L).2.2.2 ≤ 2 * halfN t L) : Ct (S := Unit) l G NoX yX5_readPage (Wy yX5_readPage cX5_readPage 2 ((Option.some Jvm.ClassFile.FieldType.int))) { frames := 5, cells := 0, slots := 0, locals := 125 } [.ref ts] ([(ts, .inr (5, [.ref (a 0), .ref (a1 0), .ref (a2 0), .ref hh, .ref (b 0), .int (nI ks)]))] ++ (stW G a σ d ++ ([(hh, .inr (0, [.ref ha, .int (nI f), .int (nI n)])), (ha, .inl (G.2.2.2, 4, .inr (.inr (.inr (.inr (fun j => some (hb j 0)))))))] ++ (stW G (hb 0) (hσ 0) (hd 0) ++ (stW G (hb 1) (hσ 1) (hd 1) ++ (stW G (hb 2) (hσ 2) (hd 2) ++ (stW G (hb 3) (hσ 3) (hd 3) ++ txW G b t L lt ms hf fa cu))))))) (fun u => True) (fun u => some (.int (nI (2 * halfN t L)))) (fun u => [(ts, .inr (5, [.ref (a 0), .ref (a1 0), .ref (a2 0), .ref hh, .ref (b 0), .int (nI ks)]))] ++ (stW G a (newF σ t L) (dlp d (fun q => if q < halfN t L then letC t L q else lt q) (halfN t L) (halfN t L)) ++ ([(hh, .inr (0, [.ref ha, .int (nI (firstF f n)), .int (nI (sizeF n))])), (ha, .inl (G.2.2.2, 4, .inr (.inr (.inr (.inr (fun j => some (hb j 0)))))))] ++ (stW G (hb 0) ((va_up hσ (slotF f n) σ) 0) ((va_up hd (slotF f n) d) 0) ++ (stW G (hb 1) ((va_up hσ (slotF f n) σ) 1) ((va_up hd (slotF f n) d) 1) ++ (stW G (hb 2) ((va_up hσ (slotF f n) σ) 2) ((va_up hd (slotF f n) d) 2) ++ (stW G (hb 3) ((va_up hσ (slotF f n) σ) 3) ((va_up hd (slotF f n) d) 3) ++ txW G b t L (fun q => if q < halfN t L then letC t L q else lt q) ((psF t L).2.2.1) (halfN t L) (nI (psF t L).2.2.2 - 1) ((psF t L).2.1)))))))) := by
  refine Ct.of (by decide) (Nat.le_of_ble_eq_true rfl) (fun p e s m args below meth c C hr hnm hX => ?_)
  have hhn := halfN_le t L
  have hps := psF_ok t L
  refine J_aload_n C rfl dX5_readPage_0 ?_
  refine J_get C 0 4 in5 rfl rfl (by decide) k221 rfl dX5_readPage_1 ?_
  refine J_callV (as := []) (rest := []) C (ct_findFault l G b t L lt ms hf fa cu hL ht) (fun u => [(ts, .inr (5, [.ref (a 0), .ref (a1 0), .ref (a2 0), .ref hh, .ref (b 0), .int (nI ks)]))] ++ (stW G a σ d ++ ([(hh, .inr (0, [.ref ha, .int (nI f), .int (nI n)])), (ha, .inl (G.2.2.2, 4, .inr (.inr (.inr (.inr (fun j => some (hb j 0)))))))] ++ (stW G (hb 0) (hσ 0) (hd 0) ++ (stW G (hb 1) (hσ 1) (hd 1) ++ (stW G (hb 2) (hσ 2) (hd 2) ++ (stW G (hb 3) (hσ 3) (hd 3) ++ txW G b t L (fun q => if q < halfN t L then letC t L q else lt q) ((psF t L).2.2.1) (halfN t L) (nI (psF t L).2.2.2 - 1) ((psF t L).2.1)))))))) [58, 59, 60, 61] [0, 1, 2, 3, 4, 5, 6, 7, 8, 9, 10, 11, 12, 13, 14, 15, 16, 17, 18, 19, 20, 21, 22, 23, 24, 25, 26, 27, 28, 29, 30, 31, 32, 33, 34, 35, 36, 37, 38, 39, 40, 41, 42, 43, 44, 45, 46, 47, 48, 49, 50, 51, 52, 53, 54, 55, 56, 57] 0 k263 k264 k265 k15 k266 rfl (by decide +kernel) ⟨Nat.le_of_ble_eq_true rfl, Nat.le_of_ble_eq_true rfl⟩ ⟨Nat.le_of_ble_eq_true rfl, Nat.le_of_ble_eq_true rfl⟩ dX5_readPage_4 (Nat.le_of_ble_eq_true rfl) 58 rfl rfl rfl (by decide +kernel) (fun _ => rfl) ([(ts, .inr (5, [.ref (a 0), .ref (a1 0), .ref (a2 0), .ref hh, .ref (b 0), .int (nI ks)]))] ++ (stW G a σ d ++ ([(hh, .inr (0, [.ref ha, .int (nI f), .int (nI n)])), (ha, .inl (G.2.2.2, 4, .inr (.inr (.inr (.inr (fun j => some (hb j 0)))))))] ++ (stW G (hb 0) (hσ 0) (hd 0) ++ (stW G (hb 1) (hσ 1) (hd 1) ++ (stW G (hb 2) (hσ 2) (hd 2) ++ stW G (hb 3) (hσ 3) (hd 3))))))) rfl (fun _ => rfl) 62 (fun _ => rfl) (by decide +kernel) (by decide +kernel) (fun _ _ => ?_)
  refine J_st (st' := [.int (if (psF t L).1 = 0 then -1 else nI (psF t L).2.1)]) rfl ?_
  refine J_i (if_pos hs : (if (psF t L).1 = 0 then -1 else nI (psF t L).2.1 : Int32) = (-1)) ?_
  refine J_istore_n C [(1, .int (-1)), (0, .ref ts)] (by decide) rfl dX5_readPage_7 ?_
  refine J_iload_n C rfl dX5_readPage_8 ?_
  refine J_iconst C (-1) (by decide) dX5_readPage_9 ?_
  refine J_icmp_eq C 18 (by decide) dX5_readPage_10 (fun _ => ?_) (fun h => absurd h (by decide))
  refine J_aload_n C rfl dX5_readPage_18 ?_
  refine J_get C 0 4 in5 rfl rfl (by decide) k221 rfl dX5_readPage_19 ?_
  refine J_getN C 58 5 in2 rfl rfl (by decide) nfTwoScribes_40 rfl dX5_readPage_22 ?_
  refine J_iconst C 2 (by decide) dX5_readPage_25 ?_
  refine J_aload_n C rfl dX5_readPage_26 ?_
  refine J_get C 0 4 in5 rfl rfl (by decide) k221 rfl dX5_readPage_27 ?_
  refine J_getN C 58 4 in2 rfl rfl (by decide) nfTwoScribes_44 rfl dX5_readPage_30 ?_
  refine J_imul C dX5_readPage_33 ?_
  refine J_i (pk_mul 2 (halfN t L) : (2 * (nI (halfN t L)) : Int32) = (nI (2 * (halfN t L)))) ?_
  refine J_icmp_lt C 39 (by decide) dX5_readPage_34 (fun _ => ?_) (fun h => absurd h (fun q => q ((far_lt (by omega) (by omega)).mpr (by omega))))
  refine J_aload_n C rfl dX5_readPage_39 ?_
  refine J_get C 0 3 in5 rfl rfl (by decide) k220 rfl dX5_readPage_40 ?_
  refine J_aload_n C rfl dX5_readPage_43 ?_
  refine J_get C 0 0 in5 rfl rfl (by decide) k217 rfl dX5_readPage_44 ?_
  refine J_callV (as := [.ref (a 0)]) (rest := []) C (ct_record l G hh ha hb hσ hd f n a σ d hf4 hn4) (fun u => [(ts, .inr (5, [.ref (a 0), .ref (a1 0), .ref (a2 0), .ref hh, .ref (b 0), .int (nI ks)]))] ++ (stW G a σ d ++ ([(hh, .inr (0, [.ref ha, .int (nI (firstF f n)), .int (nI (sizeF n))])), (ha, .inl (G.2.2.2, 4, .inr (.inr (.inr (.inr (fun j => some (hb j 0)))))))] ++ (stW G (hb 0) ((va_up hσ (slotF f n) σ) 0) ((va_up hd (slotF f n) d) 0) ++ (stW G (hb 1) ((va_up hσ (slotF f n) σ) 1) ((va_up hd (slotF f n) d) 1) ++ (stW G (hb 2) ((va_up hσ (slotF f n) σ) 2) ((va_up hd (slotF f n) d) 2) ++ (stW G (hb 3) ((va_up hσ (slotF f n) σ) 3) ((va_up hd (slotF f n) d) 3) ++ txW G b t L (fun q => if q < halfN t L then letC t L q else lt q) ((psF t L).2.2.1) (halfN t L) (nI (psF t L).2.2.2 - 1) ((psF t L).2.1)))))))) [12, 13, 14, 15, 16, 17, 18, 19, 20, 21, 22, 23, 24, 25, 26, 27, 28, 29, 30, 31, 32, 33, 34, 35, 36, 37, 38, 39, 40, 41, 42, 43, 44, 45, 46, 47, 48, 49, 50, 51, 52, 53, 54, 55, 56, 57, 1, 2, 3, 4, 5, 6, 7, 8, 9, 10, 11] [0, 58, 59, 60, 61] 1 k300 k301 k302 k14 k303 rfl (by decide +kernel) ⟨Nat.le_of_ble_eq_true rfl, Nat.le_of_ble_eq_true rfl⟩ ⟨Nat.le_of_ble_eq_true rfl, Nat.le_of_ble_eq_true rfl⟩ dX5_readPage_47 (Nat.le_of_ble_eq_true rfl) 12 rfl rfl rfl (by decide +kernel) (fun _ => rfl) ([(ts, .inr (5, [.ref (a 0), .ref (a1 0), .ref (a2 0), .ref hh, .ref (b 0), .int (nI ks)]))] ++ txW G b t L (fun q => if q < halfN t L then letC t L q else lt q) ((psF t L).2.2.1) (halfN t L) (nI (psF t L).2.2.2 - 1) ((psF t L).2.1)) rfl (fun _ => rfl) 62 (fun _ => rfl) (by decide +kernel) (by decide +kernel) (fun _ _ => ?_)
  refine J_st (st' := []) rfl ?_
  refine J_aload_n C rfl dX5_readPage_50 ?_
  refine J_get C 0 0 in5 rfl rfl (by decide) k217 rfl dX5_readPage_51 ?_
  refine J_aload_n C rfl dX5_readPage_54 ?_
  refine J_get C 0 4 in5 rfl rfl (by decide) k221 rfl dX5_readPage_55 ?_
  refine J_callV (as := [.ref (b 0)]) (rest := []) C (ct_beginPage l G a σ d b t L (fun q => if q < halfN t L then letC t L q else lt q) ((psF t L).2.2.1) (halfN t L) (nI (psF t L).2.2.2 - 1) ((psF t L).2.1) hhn.1) (fun u => [(ts, .inr (5, [.ref (a 0), .ref (a1 0), .ref (a2 0), .ref hh, .ref (b 0), .int (nI ks)]))] ++ (stW G a (rdF σ (halfN t L) ((psF t L).2.2.1) (fun q => if q < halfN t L then letC t L q else lt q)) (dlp d (fun q => if q < halfN t L then letC t L q else lt q) (halfN t L) (halfN t L)) ++ ([(hh, .inr (0, [.ref ha, .int (nI (firstF f n)), .int (nI (sizeF n))])), (ha, .inl (G.2.2.2, 4, .inr (.inr (.inr (.inr (fun j => some (hb j 0)))))))] ++ (stW G (hb 0) ((va_up hσ (slotF f n) σ) 0) ((va_up hd (slotF f n) d) 0) ++ (stW G (hb 1) ((va_up hσ (slotF f n) σ) 1) ((va_up hd (slotF f n) d) 1) ++ (stW G (hb 2) ((va_up hσ (slotF f n) σ) 2) ((va_up hd (slotF f n) d) 2) ++ (stW G (hb 3) ((va_up hσ (slotF f n) σ) 3) ((va_up hd (slotF f n) d) 3) ++ txW G b t L (fun q => if q < halfN t L then letC t L q else lt q) ((psF t L).2.2.1) (halfN t L) (nI (psF t L).2.2.2 - 1) ((psF t L).2.1)))))))) [1, 2, 3, 4, 5, 6, 7, 8, 9, 10, 11, 58, 59, 60, 61] [0, 12, 13, 14, 15, 16, 17, 18, 19, 20, 21, 22, 23, 24, 25, 26, 27, 28, 29, 30, 31, 32, 33, 34, 35, 36, 37, 38, 39, 40, 41, 42, 43, 44, 45, 46, 47, 48, 49, 50, 51, 52, 53, 54, 55, 56, 57] 1 k330 k331 k332 k11 k333 rfl (by decide +kernel) ⟨Nat.le_of_ble_eq_true rfl, Nat.le_of_ble_eq_true rfl⟩ ⟨Nat.le_of_ble_eq_true rfl, Nat.le_of_ble_eq_true rfl⟩ dX5_readPage_58 (Nat.le_of_ble_eq_true rfl) 1 rfl rfl rfl (by decide +kernel) (fun _ => rfl) ([(ts, .inr (5, [.ref (a 0), .ref (a1 0), .ref (a2 0), .ref hh, .ref (b 0), .int (nI ks)]))] ++ ([(hh, .inr (0, [.ref ha, .int (nI (firstF f n)), .int (nI (sizeF n))])), (ha, .inl (G.2.2.2, 4, .inr (.inr (.inr (.inr (fun j => some (hb j 0)))))))] ++ (stW G (hb 0) ((va_up hσ (slotF f n) σ) 0) ((va_up hd (slotF f n) d) 0) ++ (stW G (hb 1) ((va_up hσ (slotF f n) σ) 1) ((va_up hd (slotF f n) d) 1) ++ (stW G (hb 2) ((va_up hσ (slotF f n) σ) 2) ((va_up hd (slotF f n) d) 2) ++ stW G (hb 3) ((va_up hσ (slotF f n) σ) 3) ((va_up hd (slotF f n) d) 3)))))) rfl (fun _ => rfl) 62 (fun _ => rfl) (by decide +kernel) (by decide +kernel) (fun _ _ => ?_)
  refine J_st (st' := []) rfl ?_
  refine J_ws (ws' := [(ts, .inr (5, [.ref (a 0), .ref (a1 0), .ref (a2 0), .ref hh, .ref (b 0), .int (nI ks)]))] ++ (stW G a (newF σ t L) (dlp d (fun q => if q < halfN t L then letC t L q else lt q) (halfN t L) (halfN t L)) ++ ([(hh, .inr (0, [.ref ha, .int (nI (firstF f n)), .int (nI (sizeF n))])), (ha, .inl (G.2.2.2, 4, .inr (.inr (.inr (.inr (fun j => some (hb j 0)))))))] ++ (stW G (hb 0) ((va_up hσ (slotF f n) σ) 0) ((va_up hd (slotF f n) d) 0) ++ (stW G (hb 1) ((va_up hσ (slotF f n) σ) 1) ((va_up hd (slotF f n) d) 1) ++ (stW G (hb 2) ((va_up hσ (slotF f n) σ) 2) ((va_up hd (slotF f n) d) 2) ++ (stW G (hb 3) ((va_up hσ (slotF f n) σ) 3) ((va_up hd (slotF f n) d) 3) ++ txW G b t L (fun q => if q < halfN t L then letC t L q else lt q) ((psF t L).2.2.1) (halfN t L) (nI (psF t L).2.2.2 - 1) ((psF t L).2.1)))))))) rfl ?_
  refine J_aload_n C rfl dX5_readPage_61 ?_
  refine J_get C 0 0 in5 rfl rfl (by decide) k217 rfl dX5_readPage_62 ?_
  refine J_getN C 1 0 in4 rfl rfl (by decide) nfTwoScribes_55 rfl dX5_readPage_65 ?_
  refine J_getN C 2 6 in1 rfl rfl (by decide) nfTwoScribes_59 rfl dX5_readPage_68 ?_
  refine J_i (rfl : (nI ((newF σ t L) 0 4) : Int32) = (nI (2 * halfN t L))) ?_
  exact J_zret C hr rfl dX5_readPage_71 () rfl trivial rfl
