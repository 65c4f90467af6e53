set_option maxHeartbeats 4000000 in
set_option maxRecDepth 100000 in
theorem ct_isScr0 (l : Launch) (G : GT)   : Ct (S := Unit) l G NoX yX5_isScribe (Wy yX5_isScribe cX5_isScribe 1 ((Option.some Jvm.ClassFile.FieldType.boolean))) { frames := 0, cells := 0, slots := 0, locals := 0 } [.int 0] ([]) (fun u => True) (fun u => some (.int 1)) (fun u => []) := by
  refine Ct.of (by decide) (Nat.le_of_ble_eq_true rfl) (fun p e s m args below meth c C hr hnm hX => ?_)
  refine J_iload_n C rfl dX5_isScribe_0 ?_
  refine J_if_eq C 9 (by decide) dX5_isScribe_1 (fun _ => ?_) (fun h => absurd h (by decide))
  refine J_iconst C 1 (by decide) dX5_isScribe_9 ?_
  refine J_goto C 14 (by decide) dX5_isScribe_10 ?_
  exact J_zret C hr rfl dX5_isScribe_14 () rfl trivial rfl

set_option maxHeartbeats 4000000 in
set_option maxRecDepth 100000 in
theorem ct_isScr1 (l : Launch) (G : GT)   : Ct (S := Unit) l G NoX yX5_isScribe (Wy yX5_isScribe cX5_isScribe 1 ((Option.some Jvm.ClassFile.FieldType.boolean))) { frames := 0, cells := 0, slots := 0, locals := 0 } [.int 1] ([]) (fun u => True) (fun u => some (.int 1)) (fun u => []) := by
  refine Ct.of (by decide) (Nat.le_of_ble_eq_true rfl) (fun p e s m args below meth c C hr hnm hX => ?_)
  refine J_iload_n C rfl dX5_isScribe_0 ?_
  refine J_if_eq C 9 (by decide) dX5_isScribe_1 (fun h => absurd h (by decide)) (fun _ => ?_)
  refine J_iload_n C rfl dX5_isScribe_4 ?_
  refine J_iconst C 1 (by decide) dX5_isScribe_5 ?_
  refine J_icmp_ne C 13 (by decide) dX5_isScribe_6 (fun h => absurd h (by decide)) (fun _ => ?_)
  refine J_iconst C 1 (by decide) dX5_isScribe_9 ?_
  refine J_goto C 14 (by decide) dX5_isScribe_10 ?_
  exact J_zret C hr rfl dX5_isScribe_14 () rfl trivial rfl

set_option maxHeartbeats 4000000 in
set_option maxRecDepth 100000 in
theorem ct_isScrN (l : Launch) (G : GT) (x : Int32) (hx : ¬ (x = 0 ∨ x = 1)) : Ct (S := Unit) l G NoX yX5_isScribe (Wy yX5_isScribe cX5_isScribe 1 ((Option.some Jvm.ClassFile.FieldType.boolean))) { frames := 0, cells := 0, slots := 0, locals := 0 } [.int x] ([]) (fun u => True) (fun u => some (.int 0)) (fun u => []) := by
  refine Ct.of (by decide) (Nat.le_of_ble_eq_true rfl) (fun p e s m args below meth c C hr hnm hX => ?_)
  refine J_iload_n C rfl dX5_isScribe_0 ?_
  refine J_if_eq C 9 (by decide) dX5_isScribe_1 (fun h => absurd h (fun q => hx (Or.inl q))) (fun _ => ?_)
  refine J_iload_n C rfl dX5_isScribe_4 ?_
  refine J_iconst C 1 (by decide) dX5_isScribe_5 ?_
  refine J_icmp_ne C 13 (by decide) dX5_isScribe_6 (fun _ => ?_) (fun h => absurd h (fun q => hx (Or.inr q)))
  refine J_iconst C 0 (by decide) dX5_isScribe_13 ?_
  exact J_zret C hr rfl dX5_isScribe_14 () rfl trivial rfl

set_option maxHeartbeats 4000000 in
set_option maxRecDepth 100000 in
theorem ct_placeN (l : Launch) (G : GT) (ts : Nat) (a a1 a2 : Nat → Nat) (hh : Nat) (b : Nat → Nat) (ks : Nat) (σ : AS) (d : Nat → Nat) (x y : Int32) (hI : Inv σ) (hx : ¬ isPl σ x) : Ct (S := Unit) l G NoX yX5_place (Wy yX5_place cX5_place 4 ((Option.some Jvm.ClassFile.FieldType.int))) { frames := 1, cells := 0, slots := 0, locals := 21 } [.ref ts, .int x, .int y] ([(ts, .inr (5, [.ref (a 0), .ref (a1 0), .ref (a2 0), .ref hh, .ref (b 0), .int (nI ks)]))] ++ stW G a σ d) (fun u => True) (fun u => some (.int (-1))) (fun u => [(ts, .inr (5, [.ref (a 0), .ref (a1 0), .ref (a2 0), .ref hh, .ref (b 0), .int (nI ks)]))] ++ stW G a σ d) := by
  refine Ct.of (by decide) (Nat.le_of_ble_eq_true rfl) (fun p e s m args below meth c C hr hnm hX => ?_)
  have h40 := hI.a
  have hc := hI.c
  have hi := hI.i
  have hs := hI.s
  refine J_aload_n C rfl dX5_place_0 ?_
  refine J_get C 0 0 in5 rfl rfl (by decide) k217 rfl dX5_place_1 ?_
  refine J_getN C 1 0 in4 rfl rfl (by decide) nfTwoScribes_55 rfl dX5_place_4 ?_
  refine J_astore_n C [(3, .ref (a 1)), (0, .ref ts), (1, .int x), (2, .int y)] (by decide) rfl dX5_place_7 ?_
  refine J_aload_n C rfl dX5_place_8 ?_
  refine J_iload_n C rfl dX5_place_9 ?_
  refine J_callV (as := [.int x]) (rest := []) C (ct_has l G a σ d x (by omega)) (fun u => [(ts, .inr (5, [.ref (a 0), .ref (a1 0), .ref (a2 0), .ref hh, .ref (b 0), .int (nI ks)]))] ++ stW G a σ d) [2, 3, 4, 5, 6, 7, 8] [0, 1, 9, 10, 11] 1 k355 k356 k357 k12 k358 rfl (by decide +kernel) ⟨Nat.le_of_ble_eq_true rfl, Nat.le_of_ble_eq_true rfl⟩ ⟨Nat.le_of_ble_eq_true rfl, Nat.le_of_ble_eq_true rfl⟩ dX5_place_10 (Nat.le_of_ble_eq_true rfl) 2 rfl rfl rfl (by decide +kernel) (fun _ => rfl) ([(ts, .inr (5, [.ref (a 0), .ref (a1 0), .ref (a2 0), .ref hh, .ref (b 0), .int (nI ks)]))] ++ [(a 0, .inr (4, [.ref (a 1), .ref (a 8), .ref (a 9), .ref (a 10), .float (fl (σ 0 6)), .float (fl (σ 0 7)), .float (fl (σ 0 8)), .int (nI (σ 0 3)), .int (nI (σ 0 9)), .int (nI (σ 0 10)), .int (nI (σ 0 11))])), (a 8, .inr (3, [.int (nI (σ 0 12)), .int (nI (σ 0 14)), .int (nI (σ 0 16)), .int (nI (σ 0 18)), .int (nI (σ 0 20)), .int (nI (σ 0 22)), .float (fl (σ 0 24))])), (a 9, .inr (3, [.int (nI (σ 0 13)), .int (nI (σ 0 15)), .int (nI (σ 0 17)), .int (nI (σ 0 19)), .int (nI (σ 0 21)), .int (nI (σ 0 23)), .float (fl (σ 0 25))])), (a 10, .inl (G.2.1, 3, .inl (fun q => nI (σ 7 q))))]) rfl (fun _ => rfl) 12 (fun _ => rfl) (by decide +kernel) (by decide +kernel) (fun _ _ => ?_)
  refine J_st (st' := [.int (if isPl σ x then 1 else 0)]) rfl ?_
  refine J_if_ne C 18 (by decide) dX5_place_13 (fun h => absurd h (fun q => q (by rw [if_neg (show ¬ (isPl σ x) from by first | assumption | omega)]))) (fun _ => ?_)
  refine J_iconst C (-1) (by decide) dX5_place_16 ?_
  exact J_zret C hr rfl dX5_place_17 () rfl trivial rfl

set_option maxHeartbeats 4000000 in
set_option maxRecDepth 100000 in
theorem ct_placeY (l : Launch) (G : GT) (ts : Nat) (a a1 a2 : Nat → Nat) (hh : Nat) (b : Nat → Nat) (ks : Nat) (σ : AS) (d : Nat → Nat) (j : Nat) (y : Int32) (hI : Inv σ) (hD : DOK σ d) (hj : j < σ 0 4) : Ct (S := Unit) l G NoX yX5_place (Wy yX5_place cX5_place 4 ((Option.some Jvm.ClassFile.FieldType.int))) { frames := 2, cells := 0, slots := 0, locals := 42 } [.ref ts, .int (nI j), .int y] ([(ts, .inr (5, [.ref (a 0), .ref (a1 0), .ref (a2 0), .ref hh, .ref (b 0), .int (nI ks)]))] ++ stW G a σ d) (fun u => True) (fun u => some (.int (plF σ j y.toInt))) (fun u => [(ts, .inr (5, [.ref (a 0), .ref (a1 0), .ref (a2 0), .ref hh, .ref (b 0), .int (nI ks)]))] ++ stW G a σ d) := by
  refine Ct.of (by decide) (Nat.le_of_ble_eq_true rfl) (fun p e s m args below meth c C hr hnm hX => ?_)
  have h40 := hI.a
  have hc := hI.c
  have hi := hI.i
  have hs := hI.s
  have hq := hI.q (q := j) (by omega)
  have hdj := hD j hj
  have hpl := isPl_nI h40.1 hj
  refine J_aload_n C rfl dX5_place_0 ?_
  refine J_get C 0 0 in5 rfl rfl (by decide) k217 rfl dX5_place_1 ?_
  refine J_getN C 1 0 in4 rfl rfl (by decide) nfTwoScribes_55 rfl dX5_place_4 ?_
  refine J_astore_n C [(3, .ref (a 1)), (0, .ref ts), (1, .int (nI j)), (2, .int y)] (by decide) rfl dX5_place_7 ?_
  refine J_aload_n C rfl dX5_place_8 ?_
  refine J_iload_n C rfl dX5_place_9 ?_
  refine J_callV (as := [.int (nI j)]) (rest := []) C (ct_has l G a σ d (nI j) (by omega)) (fun u => [(ts, .inr (5, [.ref (a 0), .ref (a1 0), .ref (a2 0), .ref hh, .ref (b 0), .int (nI ks)]))] ++ stW G a σ d) [2, 3, 4, 5, 6, 7, 8] [0, 1, 9, 10, 11] 1 k355 k356 k357 k12 k358 rfl (by decide +kernel) ⟨Nat.le_of_ble_eq_true rfl, Nat.le_of_ble_eq_true rfl⟩ ⟨Nat.le_of_ble_eq_true rfl, Nat.le_of_ble_eq_true rfl⟩ dX5_place_10 (Nat.le_of_ble_eq_true rfl) 2 rfl rfl rfl (by decide +kernel) (fun _ => rfl) ([(ts, .inr (5, [.ref (a 0), .ref (a1 0), .ref (a2 0), .ref hh, .ref (b 0), .int (nI ks)]))] ++ [(a 0, .inr (4, [.ref (a 1), .ref (a 8), .ref (a 9), .ref (a 10), .float (fl (σ 0 6)), .float (fl (σ 0 7)), .float (fl (σ 0 8)), .int (nI (σ 0 3)), .int (nI (σ 0 9)), .int (nI (σ 0 10)), .int (nI (σ 0 11))])), (a 8, .inr (3, [.int (nI (σ 0 12)), .int (nI (σ 0 14)), .int (nI (σ 0 16)), .int (nI (σ 0 18)), .int (nI (σ 0 20)), .int (nI (σ 0 22)), .float (fl (σ 0 24))])), (a 9, .inr (3, [.int (nI (σ 0 13)), .int (nI (σ 0 15)), .int (nI (σ 0 17)), .int (nI (σ 0 19)), .int (nI (σ 0 21)), .int (nI (σ 0 23)), .float (fl (σ 0 25))])), (a 10, .inl (G.2.1, 3, .inl (fun q => nI (σ 7 q))))]) rfl (fun _ => rfl) 12 (fun _ => rfl) (by decide +kernel) (by decide +kernel) (fun _ _ => ?_)
  refine J_st (st' := [.int (if isPl σ (nI j) then 1 else 0)]) rfl ?_
  refine J_if_ne C 18 (by decide) dX5_place_13 (fun _ => ?_) (fun h => absurd h (fun q => by rw [if_pos (show isPl σ (nI j) from by first | assumption | omega)] at q; exact absurd q (by decide)))
  refine J_iload_n C rfl dX5_place_18 ?_
  by_cases hsw : y.toInt < 0 ∨ 6 < y.toInt
  · skip
    refine J_tableOut C 133 hsw (by decide) dX5_place_19 ?_
    refine J_bipush C (-2) (by decide) dX5_place_133 ?_
    exact J_zret C hr rfl dX5_place_135 () (by rw [show plF σ j y.toInt = -2 from by unfold plF; (repeat' split) <;> first | rfl | omega]) trivial rfl
  · skip
    rcases (show y.toInt = 0 ∨ y.toInt = 1 ∨ y.toInt = 2 ∨ y.toInt = 3 ∨ y.toInt = 4 ∨ y.toInt = 5 ∨ y.toInt = 6 by omega) with hwi | hwi | hwi | hwi | hwi | hwi | hwi
    · skip
      have hw : y = 0 := Int32.toInt_inj.mp (by rw [hwi]; decide)
      refine J_tableIn C 60 (by rw [hw]; decide) (by rw [hw]; decide) (by rw [hw]; rfl) (by decide) dX5_place_19 ?_
      refine J_aload_n C rfl dX5_place_60 ?_
      refine J_getN C 2 0 in1 rfl rfl (by decide) nfTwoScribes_161 rfl dX5_place_61 ?_
      refine J_iload_n C rfl dX5_place_64 ?_
      refine J_callS (as := [.ref (a 2), .int (nI j)]) (rest := []) C (ct_at l G (a 2) 40 (fun q => nI (d q)) j (by omega) (by decide)) (fun u => [(ts, .inr (5, [.ref (a 0), .ref (a1 0), .ref (a2 0), .ref hh, .ref (b 0), .int (nI ks)]))] ++ stW G a σ d) [3] [0, 1, 2, 4, 5, 6, 7, 8, 9, 10, 11] 2 k376 k340 k10 k341 rfl (by decide +kernel) ⟨Nat.le_of_ble_eq_true rfl, Nat.le_of_ble_eq_true rfl⟩ ⟨Nat.le_of_ble_eq_true rfl, Nat.le_of_ble_eq_true rfl⟩ dX5_place_65 (Nat.le_of_ble_eq_true rfl) rfl (by decide +kernel) (fun _ => rfl) ([(ts, .inr (5, [.ref (a 0), .ref (a1 0), .ref (a2 0), .ref hh, .ref (b 0), .int (nI ks)]))] ++ [(a 0, .inr (4, [.ref (a 1), .ref (a 8), .ref (a 9), .ref (a 10), .float (fl (σ 0 6)), .float (fl (σ 0 7)), .float (fl (σ 0 8)), .int (nI (σ 0 3)), .int (nI (σ 0 9)), .int (nI (σ 0 10)), .int (nI (σ 0 11))])), (a 1, .inr (1, [.ref (a 2), .ref (a 3), .ref (a 4), .ref (a 5), .ref (a 6), .ref (a 7), .int (nI (σ 0 4)), .int (nI (σ 0 5))])), (a 3, .inl (G.2.1, 40, .inl (fun q => nI (σ 2 q)))), (a 4, .inl (G.2.1, 40, .inl (fun q => nI (σ 3 q)))), (a 5, .inl (G.2.1, 40, .inl (fun q => nI (σ 6 q)))), (a 6, .inl (G.2.1, 40, .inl (fun q => nI (σ 4 q)))), (a 7, .inl (G.2.1, 40, .inl (fun q => nI (σ 5 q)))), (a 8, .inr (3, [.int (nI (σ 0 12)), .int (nI (σ 0 14)), .int (nI (σ 0 16)), .int (nI (σ 0 18)), .int (nI (σ 0 20)), .int (nI (σ 0 22)), .float (fl (σ 0 24))])), (a 9, .inr (3, [.int (nI (σ 0 13)), .int (nI (σ 0 15)), .int (nI (σ 0 17)), .int (nI (σ 0 19)), .int (nI (σ 0 21)), .int (nI (σ 0 23)), .float (fl (σ 0 25))])), (a 10, .inl (G.2.1, 3, .inl (fun q => nI (σ 7 q))))]) rfl (fun _ => rfl) 12 (fun _ => rfl) (by decide +kernel) (by decide +kernel) (fun _ _ => ?_)
      refine J_st (st' := [.int (nI (d j))]) rfl ?_
      exact J_zret C hr rfl dX5_place_68 () (by rw [hwi]; exact congrArg some (congrArg Value.int (congrArg nI hdj.symm))) trivial rfl
    · skip
      have hw : y = 1 := Int32.toInt_inj.mp (by rw [hwi]; decide)
      refine J_tableIn C 69 (by rw [hw]; decide) (by rw [hw]; decide) (by rw [hw]; rfl) (by decide) dX5_place_19 ?_
      refine J_aload_n C rfl dX5_place_69 ?_
      refine J_getN C 2 2 in1 rfl rfl (by decide) nfTwoScribes_164 rfl dX5_place_70 ?_
      refine J_iload_n C rfl dX5_place_73 ?_
      refine J_callS (as := [.ref (a 4), .int (nI j)]) (rest := []) C (ct_at l G (a 4) 40 (fun q => nI (σ 3 q)) j (by omega) (by decide)) (fun u => [(ts, .inr (5, [.ref (a 0), .ref (a1 0), .ref (a2 0), .ref hh, .ref (b 0), .int (nI ks)]))] ++ stW G a σ d) [5] [0, 1, 2, 3, 4, 6, 7, 8, 9, 10, 11] 2 k376 k340 k10 k341 rfl (by decide +kernel) ⟨Nat.le_of_ble_eq_true rfl, Nat.le_of_ble_eq_true rfl⟩ ⟨Nat.le_of_ble_eq_true rfl, Nat.le_of_ble_eq_true rfl⟩ dX5_place_74 (Nat.le_of_ble_eq_true rfl) rfl (by decide +kernel) (fun _ => rfl) ([(ts, .inr (5, [.ref (a 0), .ref (a1 0), .ref (a2 0), .ref hh, .ref (b 0), .int (nI ks)]))] ++ [(a 0, .inr (4, [.ref (a 1), .ref (a 8), .ref (a 9), .ref (a 10), .float (fl (σ 0 6)), .float (fl (σ 0 7)), .float (fl (σ 0 8)), .int (nI (σ 0 3)), .int (nI (σ 0 9)), .int (nI (σ 0 10)), .int (nI (σ 0 11))])), (a 1, .inr (1, [.ref (a 2), .ref (a 3), .ref (a 4), .ref (a 5), .ref (a 6), .ref (a 7), .int (nI (σ 0 4)), .int (nI (σ 0 5))])), (a 2, .inl (G.2.1, 40, .inl (fun q => nI (d q)))), (a 3, .inl (G.2.1, 40, .inl (fun q => nI (σ 2 q)))), (a 5, .inl (G.2.1, 40, .inl (fun q => nI (σ 6 q)))), (a 6, .inl (G.2.1, 40, .inl (fun q => nI (σ 4 q)))), (a 7, .inl (G.2.1, 40, .inl (fun q => nI (σ 5 q)))), (a 8, .inr (3, [.int (nI (σ 0 12)), .int (nI (σ 0 14)), .int (nI (σ 0 16)), .int (nI (σ 0 18)), .int (nI (σ 0 20)), .int (nI (σ 0 22)), .float (fl (σ 0 24))])), (a 9, .inr (3, [.int (nI (σ 0 13)), .int (nI (σ 0 15)), .int (nI (σ 0 17)), .int (nI (σ 0 19)), .int (nI (σ 0 21)), .int (nI (σ 0 23)), .float (fl (σ 0 25))])), (a 10, .inl (G.2.1, 3, .inl (fun q => nI (σ 7 q))))]) rfl (fun _ => rfl) 12 (fun _ => rfl) (by decide +kernel) (by decide +kernel) (fun _ _ => ?_)
      refine J_st (st' := [.int (nI (σ 3 j))]) rfl ?_
      exact J_zret C hr rfl dX5_place_77 () (by rw [hwi] <;> rfl) trivial rfl
    · skip
      have hw : y = 2 := Int32.toInt_inj.mp (by rw [hwi]; decide)
      refine J_tableIn C 78 (by rw [hw]; decide) (by rw [hw]; decide) (by rw [hw]; rfl) (by decide) dX5_place_19 ?_
      refine J_aload_n C rfl dX5_place_78 ?_
      refine J_getN C 2 4 in1 rfl rfl (by decide) nfTwoScribes_167 rfl dX5_place_79 ?_
      refine J_iload_n C rfl dX5_place_82 ?_
      refine J_callS (as := [.ref (a 6), .int (nI j)]) (rest := []) C (ct_at l G (a 6) 40 (fun q => nI (σ 4 q)) j (by omega) (by decide)) (fun u => [(ts, .inr (5, [.ref (a 0), .ref (a1 0), .ref (a2 0), .ref hh, .ref (b 0), .int (nI ks)]))] ++ stW G a σ d) [7] [0, 1, 2, 3, 4, 5, 6, 8, 9, 10, 11] 2 k376 k340 k10 k341 rfl (by decide +kernel) ⟨Nat.le_of_ble_eq_true rfl, Nat.le_of_ble_eq_true rfl⟩ ⟨Nat.le_of_ble_eq_true rfl, Nat.le_of_ble_eq_true rfl⟩ dX5_place_83 (Nat.le_of_ble_eq_true rfl) rfl (by decide +kernel) (fun _ => rfl) ([(ts, .inr (5, [.ref (a 0), .ref (a1 0), .ref (a2 0), .ref hh, .ref (b 0), .int (nI ks)]))] ++ [(a 0, .inr (4, [.ref (a 1), .ref (a 8), .ref (a 9), .ref (a 10), .float (fl (σ 0 6)), .float (fl (σ 0 7)), .float (fl (σ 0 8)), .int (nI (σ 0 3)), .int (nI (σ 0 9)), .int (nI (σ 0 10)), .int (nI (σ 0 11))])), (a 1, .inr (1, [.ref (a 2), .ref (a 3), .ref (a 4), .ref (a 5), .ref (a 6), .ref (a 7), .int (nI (σ 0 4)), .int (nI (σ 0 5))])), (a 2, .inl (G.2.1, 40, .inl (fun q => nI (d q)))), (a 3, .inl (G.2.1, 40, .inl (fun q => nI (σ 2 q)))), (a 4, .inl (G.2.1, 40, .inl (fun q => nI (σ 3 q)))), (a 5, .inl (G.2.1, 40, .inl (fun q => nI (σ 6 q)))), (a 7, .inl (G.2.1, 40, .inl (fun q => nI (σ 5 q)))), (a 8, .inr (3, [.int (nI (σ 0 12)), .int (nI (σ 0 14)), .int (nI (σ 0 16)), .int (nI (σ 0 18)), .int (nI (σ 0 20)), .int (nI (σ 0 22)), .float (fl (σ 0 24))])), (a 9, .inr (3, [.int (nI (σ 0 13)), .int (nI (σ 0 15)), .int (nI (σ 0 17)), .int (nI (σ 0 19)), .int (nI (σ 0 21)), .int (nI (σ 0 23)), .float (fl (σ 0 25))])), (a 10, .inl (G.2.1, 3, .inl (fun q => nI (σ 7 q))))]) rfl (fun _ => rfl) 12 (fun _ => rfl) (by decide +kernel) (by decide +kernel) (fun _ _ => ?_)
      refine J_st (st' := [.int (nI (σ 4 j))]) rfl ?_
      exact J_zret C hr rfl dX5_place_86 () (by rw [hwi] <;> rfl) trivial rfl
    · skip
      have hw : y = 3 := Int32.toInt_inj.mp (by rw [hwi]; decide)
      refine J_tableIn C 87 (by rw [hw]; decide) (by rw [hw]; decide) (by rw [hw]; rfl) (by decide) dX5_place_19 ?_
      refine J_aload_n C rfl dX5_place_87 ?_
      refine J_getN C 2 5 in1 rfl rfl (by decide) nfTwoScribes_170 rfl dX5_place_88 ?_
      refine J_iload_n C rfl dX5_place_91 ?_
      refine J_callS (as := [.ref (a 7), .int (nI j)]) (rest := []) C (ct_at l G (a 7) 40 (fun q => nI (σ 5 q)) j (by omega) (by decide)) (fun u => [(ts, .inr (5, [.ref (a 0), .ref (a1 0), .ref (a2 0), .ref hh, .ref (b 0), .int (nI ks)]))] ++ stW G a σ d) [8] [0, 1, 2, 3, 4, 5, 6, 7, 9, 10, 11] 2 k376 k340 k10 k341 rfl (by decide +kernel) ⟨Nat.le_of_ble_eq_true rfl, Nat.le_of_ble_eq_true rfl⟩ ⟨Nat.le_of_ble_eq_true rfl, Nat.le_of_ble_eq_true rfl⟩ dX5_place_92 (Nat.le_of_ble_eq_true rfl) rfl (by decide +kernel) (fun _ => rfl) ([(ts, .inr (5, [.ref (a 0), .ref (a1 0), .ref (a2 0), .ref hh, .ref (b 0), .int (nI ks)]))] ++ [(a 0, .inr (4, [.ref (a 1), .ref (a 8), .ref (a 9), .ref (a 10), .float (fl (σ 0 6)), .float (fl (σ 0 7)), .float (fl (σ 0 8)), .int (nI (σ 0 3)), .int (nI (σ 0 9)), .int (nI (σ 0 10)), .int (nI (σ 0 11))])), (a 1, .inr (1, [.ref (a 2), .ref (a 3), .ref (a 4), .ref (a 5), .ref (a 6), .ref (a 7), .int (nI (σ 0 4)), .int (nI (σ 0 5))])), (a 2, .inl (G.2.1, 40, .inl (fun q => nI (d q)))), (a 3, .inl (G.2.1, 40, .inl (fun q => nI (σ 2 q)))), (a 4, .inl (G.2.1, 40, .inl (fun q => nI (σ 3 q)))), (a 5, .inl (G.2.1, 40, .inl (fun q => nI (σ 6 q)))), (a 6, .inl (G.2.1, 40, .inl (fun q => nI (σ 4 q)))), (a 8, .inr (3, [.int (nI (σ 0 12)), .int (nI (σ 0 14)), .int (nI (σ 0 16)), .int (nI (σ 0 18)), .int (nI (σ 0 20)), .int (nI (σ 0 22)), .float (fl (σ 0 24))])), (a 9, .inr (3, [.int (nI (σ 0 13)), .int (nI (σ 0 15)), .int (nI (σ 0 17)), .int (nI (σ 0 19)), .int (nI (σ 0 21)), .int (nI (σ 0 23)), .float (fl (σ 0 25))])), (a 10, .inl (G.2.1, 3, .inl (fun q => nI (σ 7 q))))]) rfl (fun _ => rfl) 12 (fun _ => rfl) (by decide +kernel) (by decide +kernel) (fun _ _ => ?_)
      refine J_st (st' := [.int (nI (σ 5 j))]) rfl ?_
      exact J_zret C hr rfl dX5_place_95 () (by rw [hwi] <;> rfl) trivial rfl
    · skip
      have hw : y = 4 := Int32.toInt_inj.mp (by rw [hwi]; decide)
      refine J_tableIn C 96 (by rw [hw]; decide) (by rw [hw]; decide) (by rw [hw]; rfl) (by decide) dX5_place_19 ?_
      refine J_aload_n C rfl dX5_place_96 ?_
      refine J_getN C 2 1 in1 rfl rfl (by decide) nfTwoScribes_71 rfl dX5_place_97 ?_
      refine J_iload_n C rfl dX5_place_100 ?_
      refine J_callS (as := [.ref (a 3), .int (nI j)]) (rest := []) C (ct_at l G (a 3) 40 (fun q => nI (σ 2 q)) j (by omega) (by decide)) (fun u => [(ts, .inr (5, [.ref (a 0), .ref (a1 0), .ref (a2 0), .ref hh, .ref (b 0), .int (nI ks)]))] ++ stW G a σ d) [4] [0, 1, 2, 3, 5, 6, 7, 8, 9, 10, 11] 2 k376 k340 k10 k341 rfl (by decide +kernel) ⟨Nat.le_of_ble_eq_true rfl, Nat.le_of_ble_eq_true rfl⟩ ⟨Nat.le_of_ble_eq_true rfl, Nat.le_of_ble_eq_true rfl⟩ dX5_place_101 (Nat.le_of_ble_eq_true rfl) rfl (by decide +kernel) (fun _ => rfl) ([(ts, .inr (5, [.ref (a 0), .ref (a1 0), .ref (a2 0), .ref hh, .ref (b 0), .int (nI ks)]))] ++ [(a 0, .inr (4, [.ref (a 1), .ref (a 8), .ref (a 9), .ref (a 10), .float (fl (σ 0 6)), .float (fl (σ 0 7)), .float (fl (σ 0 8)), .int (nI (σ 0 3)), .int (nI (σ 0 9)), .int (nI (σ 0 10)), .int (nI (σ 0 11))])), (a 1, .inr (1, [.ref (a 2), .ref (a 3), .ref (a 4), .ref (a 5), .ref (a 6), .ref (a 7), .int (nI (σ 0 4)), .int (nI (σ 0 5))])), (a 2, .inl (G.2.1, 40, .inl (fun q => nI (d q)))), (a 4, .inl (G.2.1, 40, .inl (fun q => nI (σ 3 q)))), (a 5, .inl (G.2.1, 40, .inl (fun q => nI (σ 6 q)))), (a 6, .inl (G.2.1, 40, .inl (fun q => nI (σ 4 q)))), (a 7, .inl (G.2.1, 40, .inl (fun q => nI (σ 5 q)))), (a 8, .inr (3, [.int (nI (σ 0 12)), .int (nI (σ 0 14)), .int (nI (σ 0 16)), .int (nI (σ 0 18)), .int (nI (σ 0 20)), .int (nI (σ 0 22)), .float (fl (σ 0 24))])), (a 9, .inr (3, [.int (nI (σ 0 13)), .int (nI (σ 0 15)), .int (nI (σ 0 17)), .int (nI (σ 0 19)), .int (nI (σ 0 21)), .int (nI (σ 0 23)), .float (fl (σ 0 25))])), (a 10, .inl (G.2.1, 3, .inl (fun q => nI (σ 7 q))))]) rfl (fun _ => rfl) 12 (fun _ => rfl) (by decide +kernel) (by decide +kernel) (fun _ _ => ?_)
      refine J_st (st' := [.int (nI (σ 2 j))]) rfl ?_
      exact J_zret C hr rfl dX5_place_104 () (by rw [hwi] <;> rfl) trivial rfl
    · skip
      have hw : y = 5 := Int32.toInt_inj.mp (by rw [hwi]; decide)
      refine J_tableIn C 105 (by rw [hw]; decide) (by rw [hw]; decide) (by rw [hw]; rfl) (by decide) dX5_place_19 ?_
      refine J_aload_n C rfl dX5_place_105 ?_
      refine J_iload_n C rfl dX5_place_106 ?_
      refine J_callV (as := [.int (nI j)]) (rest := []) C (ct_mirrorOf l G a σ d j (by omega) hj) (fun u => [(ts, .inr (5, [.ref (a 0), .ref (a1 0), .ref (a2 0), .ref hh, .ref (b 0), .int (nI ks)]))] ++ stW G a σ d) [2, 3, 4, 5, 6, 7, 8] [0, 1, 9, 10, 11] 1 k438 k344 k345 k12 k346 rfl (by decide +kernel) ⟨Nat.le_of_ble_eq_true rfl, Nat.le_of_ble_eq_true rfl⟩ ⟨Nat.le_of_ble_eq_true rfl, Nat.le_of_ble_eq_true rfl⟩ dX5_place_107 (Nat.le_of_ble_eq_true rfl) 2 rfl rfl rfl (by decide +kernel) (fun _ => rfl) ([(ts, .inr (5, [.ref (a 0), .ref (a1 0), .ref (a2 0), .ref hh, .ref (b 0), .int (nI ks)]))] ++ [(a 0, .inr (4, [.ref (a 1), .ref (a 8), .ref (a 9), .ref (a 10), .float (fl (σ 0 6)), .float (fl (σ 0 7)), .float (fl (σ 0 8)), .int (nI (σ 0 3)), .int (nI (σ 0 9)), .int (nI (σ 0 10)), .int (nI (σ 0 11))])), (a 8, .inr (3, [.int (nI (σ 0 12)), .int (nI (σ 0 14)), .int (nI (σ 0 16)), .int (nI (σ 0 18)), .int (nI (σ 0 20)), .int (nI (σ 0 22)), .float (fl (σ 0 24))])), (a 9, .inr (3, [.int (nI (σ 0 13)), .int (nI (σ 0 15)), .int (nI (σ 0 17)), .int (nI (σ 0 19)), .int (nI (σ 0 21)), .int (nI (σ 0 23)), .float (fl (σ 0 25))])), (a 10, .inl (G.2.1, 3, .inl (fun q => nI (σ 7 q))))]) rfl (fun _ => rfl) 12 (fun _ => rfl) (by decide +kernel) (by decide +kernel) (fun _ _ => ?_)
      refine J_st (st' := [.int (nI (σ 0 4 - 1 - j))]) rfl ?_
      exact J_zret C hr rfl dX5_place_110 () (by rw [hwi] <;> rfl) trivial rfl
    · skip
      have hw : y = 6 := Int32.toInt_inj.mp (by rw [hwi]; decide)
      refine J_tableIn C 111 (by rw [hw]; decide) (by rw [hw]; decide) (by rw [hw]; rfl) (by decide) dX5_place_19 ?_
      refine J_aload_n C rfl dX5_place_111 ?_
      refine J_iload_n C rfl dX5_place_112 ?_
      refine J_callV (as := [.int (nI j)]) (rest := []) C (ct_isWritten l G a σ d j (by omega) (by omega)) (fun u => [(ts, .inr (5, [.ref (a 0), .ref (a1 0), .ref (a2 0), .ref hh, .ref (b 0), .int (nI ks)]))] ++ stW G a σ d) [2, 3, 4, 5, 6, 7, 8] [0, 1, 9, 10, 11] 1 k439 k364 k365 k12 k366 rfl (by decide +kernel) ⟨Nat.le_of_ble_eq_true rfl, Nat.le_of_ble_eq_true rfl⟩ ⟨Nat.le_of_ble_eq_true rfl, Nat.le_of_ble_eq_true rfl⟩ dX5_place_113 (Nat.le_of_ble_eq_true rfl) 2 rfl rfl rfl (by decide +kernel) (fun _ => rfl) ([(ts, .inr (5, [.ref (a 0), .ref (a1 0), .ref (a2 0), .ref hh, .ref (b 0), .int (nI ks)]))] ++ [(a 0, .inr (4, [.ref (a 1), .ref (a 8), .ref (a 9), .ref (a 10), .float (fl (σ 0 6)), .float (fl (σ 0 7)), .float (fl (σ 0 8)), .int (nI (σ 0 3)), .int (nI (σ 0 9)), .int (nI (σ 0 10)), .int (nI (σ 0 11))])), (a 8, .inr (3, [.int (nI (σ 0 12)), .int (nI (σ 0 14)), .int (nI (σ 0 16)), .int (nI (σ 0 18)), .int (nI (σ 0 20)), .int (nI (σ 0 22)), .float (fl (σ 0 24))])), (a 9, .inr (3, [.int (nI (σ 0 13)), .int (nI (σ 0 15)), .int (nI (σ 0 17)), .int (nI (σ 0 19)), .int (nI (σ 0 21)), .int (nI (σ 0 23)), .float (fl (σ 0 25))])), (a 10, .inl (G.2.1, 3, .inl (fun q => nI (σ 7 q))))]) rfl (fun _ => rfl) 12 (fun _ => rfl) (by decide +kernel) (by decide +kernel) (fun _ _ => ?_)
      refine J_st (st' := [.int (if 0 < σ 3 j then 1 else 0)]) rfl ?_
      refine J_if_eq C 130 (by decide) dX5_place_116 (fun c116 => ?_) (fun c116 => ?_)
      · skip
        have c116 : ¬ (0 < σ 3 j) := fun q => by rw [if_pos q] at c116; exact absurd c116 (by decide)
        refine J_bipush C (-5) (by decide) dX5_place_130 ?_
        exact J_zret C hr rfl dX5_place_132 () (by rw [hwi, show plF σ j 6 = (if 0 < σ 3 j then nI (σ 6 j) else -5) from rfl, if_neg (by omega)]) trivial rfl
      · skip
        have c116 : 0 < σ 3 j := Classical.byContradiction fun q => c116 (by rw [if_neg q])
        refine J_aload_n C rfl dX5_place_119 ?_
        refine J_getN C 2 3 in1 rfl rfl (by decide) nfTwoScribes_179 rfl dX5_place_120 ?_
        refine J_iload_n C rfl dX5_place_123 ?_
        refine J_callS (as := [.ref (a 5), .int (nI j)]) (rest := []) C (ct_at l G (a 5) 40 (fun q => nI (σ 6 q)) j (by omega) (by decide)) (fun u => [(ts, .inr (5, [.ref (a 0), .ref (a1 0), .ref (a2 0), .ref hh, .ref (b 0), .int (nI ks)]))] ++ stW G a σ d) [6] [0, 1, 2, 3, 4, 5, 7, 8, 9, 10, 11] 2 k376 k340 k10 k341 rfl (by decide +kernel) ⟨Nat.le_of_ble_eq_true rfl, Nat.le_of_ble_eq_true rfl⟩ ⟨Nat.le_of_ble_eq_true rfl, Nat.le_of_ble_eq_true rfl⟩ dX5_place_124 (Nat.le_of_ble_eq_true rfl) rfl (by decide +kernel) (fun _ => rfl) ([(ts, .inr (5, [.ref (a 0), .ref (a1 0), .ref (a2 0), .ref hh, .ref (b 0), .int (nI ks)]))] ++ [(a 0, .inr (4, [.ref (a 1), .ref (a 8), .ref (a 9), .ref (a 10), .float (fl (σ 0 6)), .float (fl (σ 0 7)), .float (fl (σ 0 8)), .int (nI (σ 0 3)), .int (nI (σ 0 9)), .int (nI (σ 0 10)), .int (nI (σ 0 11))])), (a 1, .inr (1, [.ref (a 2), .ref (a 3), .ref (a 4), .ref (a 5), .ref (a 6), .ref (a 7), .int (nI (σ 0 4)), .int (nI (σ 0 5))])), (a 2, .inl (G.2.1, 40, .inl (fun q => nI (d q)))), (a 3, .inl (G.2.1, 40, .inl (fun q => nI (σ 2 q)))), (a 4, .inl (G.2.1, 40, .inl (fun q => nI (σ 3 q)))), (a 6, .inl (G.2.1, 40, .inl (fun q => nI (σ 4 q)))), (a 7, .inl (G.2.1, 40, .inl (fun q => nI (σ 5 q)))), (a 8, .inr (3, [.int (nI (σ 0 12)), .int (nI (σ 0 14)), .int (nI (σ 0 16)), .int (nI (σ 0 18)), .int (nI (σ 0 20)), .int (nI (σ 0 22)), .float (fl (σ 0 24))])), (a 9, .inr (3, [.int (nI (σ 0 13)), .int (nI (σ 0 15)), .int (nI (σ 0 17)), .int (nI (σ 0 19)), .int (nI (σ 0 21)), .int (nI (σ 0 23)), .float (fl (σ 0 25))])), (a 10, .inl (G.2.1, 3, .inl (fun q => nI (σ 7 q))))]) rfl (fun _ => rfl) 12 (fun _ => rfl) (by decide +kernel) (by decide +kernel) (fun _ _ => ?_)
        refine J_st (st' := [.int (nI (σ 6 j))]) rfl ?_
        refine J_goto C 132 (by decide) dX5_place_127 ?_
        exact J_zret C hr rfl dX5_place_132 () (by rw [hwi, show plF σ j 6 = (if 0 < σ 3 j then nI (σ 6 j) else -5) from rfl, if_pos (by omega)]) trivial rfl

set_option maxHeartbeats 4000000 in
set_option maxRecDepth 100000 in
theorem ct_scribeN (l : Launch) (G : GT) (ts : Nat) (a a1 a2 : Nat → Nat) (hh : Nat) (b : Nat → Nat) (ks : Nat) (σ : AS) (d : Nat → Nat) (x y : Int32) (hx : ¬ (x = 0 ∨ x = 1)) : Ct (S := Unit) l G NoX yX5_scribe (Wy yX5_scribe cX5_scribe 4 ((Option.some Jvm.ClassFile.FieldType.int))) { frames := 1, cells := 0, slots := 0, locals := 20 } [.ref ts, .int x, .int y] ([(ts, .inr (5, [.ref (a 0), .ref (a1 0), .ref (a2 0), .ref hh, .ref (b 0), .int (nI ks)]))] ++ stW G a σ d) (fun u => True) (fun u => some (.int (-1))) (fun u => [(ts, .inr (5, [.ref (a 0), .ref (a1 0), .ref (a2 0), .ref hh, .ref (b 0), .int (nI ks)]))] ++ stW G a σ d) := by
  refine Ct.of (by decide) (Nat.le_of_ble_eq_true rfl) (fun p e s m args below meth c C hr hnm hX => ?_)
  refine J_iload_n C rfl dX5_scribe_0 ?_
  refine J_callS (as := [.int x]) (rest := []) C (ct_isScrN l G x hx) (fun u => [(ts, .inr (5, [.ref (a 0), .ref (a1 0), .ref (a2 0), .ref hh, .ref (b 0), .int (nI ks)]))] ++ stW G a σ d) [] [0, 1, 2, 3, 4, 5, 6, 7, 8, 9, 10, 11] 1 k409 k410 k10 k411 rfl (by decide +kernel) ⟨Nat.le_of_ble_eq_true rfl, Nat.le_of_ble_eq_true rfl⟩ ⟨Nat.le_of_ble_eq_true rfl, Nat.le_of_ble_eq_true rfl⟩ dX5_scribe_1 (Nat.le_of_ble_eq_true rfl) rfl (by decide +kernel) (fun _ => rfl) ([(ts, .inr (5, [.ref (a 0), .ref (a1 0), .ref (a2 0), .ref hh, .ref (b 0), .int (nI ks)]))] ++ stW G a σ d) rfl (fun _ => rfl) 12 (fun _ => rfl) (by decide +kernel) (by decide +kernel) (fun _ _ => ?_)
  refine J_st (st' := [.int 0]) rfl ?_
  refine J_if_ne C 9 (by decide) dX5_scribe_4 (fun h => absurd h (by decide)) (fun _ => ?_)
  refine J_iconst C (-1) (by decide) dX5_scribe_7 ?_
  exact J_zret C hr rfl dX5_scribe_8 () rfl trivial rfl

set_option maxHeartbeats 4000000 in
set_option maxRecDepth 100000 in
theorem ct_scribe0 (l : Launch) (G : GT) (ts : Nat) (a a1 a2 : Nat → Nat) (hh : Nat) (b : Nat → Nat) (ks : Nat) (σ : AS) (d : Nat → Nat) (y : Int32) (hI : Inv σ) : Ct (S := Unit) l G NoX yX5_scribe (Wy yX5_scribe cX5_scribe 4 ((Option.some Jvm.ClassFile.FieldType.int))) { frames := 2, cells := 0, slots := 0, locals := 43 } [.ref ts, .int 0, .int y] ([(ts, .inr (5, [.ref (a 0), .ref (a1 0), .ref (a2 0), .ref hh, .ref (b 0), .int (nI ks)]))] ++ stW G a σ d) (fun u => True) (fun u => some (.int (scrF σ 0 y.toInt))) (fun u => [(ts, .inr (5, [.ref (a 0), .ref (a1 0), .ref (a2 0), .ref hh, .ref (b 0), .int (nI ks)]))] ++ stW G a σ d) := by
  refine Ct.of (by decide) (Nat.le_of_ble_eq_true rfl) (fun p e s m args below meth c C hr hnm hX => ?_)
  have h40 := hI.a
  have hc := hI.c
  have hi := hI.i
  have hs := hI.s
  refine J_iload_n C rfl dX5_scribe_0 ?_
  refine J_callS (as := [.int 0]) (rest := []) C (ct_isScr0 l G ) (fun u => [(ts, .inr (5, [.ref (a 0), .ref (a1 0), .ref (a2 0), .ref hh, .ref (b 0), .int (nI ks)]))] ++ stW G a σ d) [] [0, 1, 2, 3, 4, 5, 6, 7, 8, 9, 10, 11] 1 k409 k410 k10 k411 rfl (by decide +kernel) ⟨Nat.le_of_ble_eq_true rfl, Nat.le_of_ble_eq_true rfl⟩ ⟨Nat.le_of_ble_eq_true rfl, Nat.le_of_ble_eq_true rfl⟩ dX5_scribe_1 (Nat.le_of_ble_eq_true rfl) rfl (by decide +kernel) (fun _ => rfl) ([(ts, .inr (5, [.ref (a 0), .ref (a1 0), .ref (a2 0), .ref hh, .ref (b 0), .int (nI ks)]))] ++ stW G a σ d) rfl (fun _ => rfl) 12 (fun _ => rfl) (by decide +kernel) (by decide +kernel) (fun _ _ => ?_)
  refine J_st (st' := [.int 1]) rfl ?_
  refine J_if_ne C 9 (by decide) dX5_scribe_4 (fun _ => ?_) (fun h => absurd h (by decide))
  refine J_aload_n C rfl dX5_scribe_9 ?_
  refine J_get C 0 0 in5 rfl rfl (by decide) k217 rfl dX5_scribe_10 ?_
  refine J_iload_n C rfl dX5_scribe_13 ?_
  refine J_callV (as := [.int 0]) (rest := []) C (ct_scribeOf0 l G a σ d) (fun u => [(ts, .inr (5, [.ref (a 0), .ref (a1 0), .ref (a2 0), .ref hh, .ref (b 0), .int (nI ks)]))] ++ stW G a σ d) [1, 2, 3, 4, 5, 6, 7, 8, 9, 10, 11] [0] 1 k412 k372 k373 k11 k374 rfl (by decide +kernel) ⟨Nat.le_of_ble_eq_true rfl, Nat.le_of_ble_eq_true rfl⟩ ⟨Nat.le_of_ble_eq_true rfl, Nat.le_of_ble_eq_true rfl⟩ dX5_scribe_14 (Nat.le_of_ble_eq_true rfl) 1 rfl rfl rfl (by decide +kernel) (fun _ => rfl) ([(ts, .inr (5, [.ref (a 0), .ref (a1 0), .ref (a2 0), .ref hh, .ref (b 0), .int (nI ks)]))]) rfl (fun _ => rfl) 12 (fun _ => rfl) (by decide +kernel) (by decide +kernel) (fun _ _ => ?_)
  refine J_st (st' := [.ref (a 8)]) rfl ?_
  refine J_astore_n C [(3, .ref (a 8)), (0, .ref ts), (1, .int 0), (2, .int y)] (by decide) rfl dX5_scribe_17 ?_
  refine J_iload_n C rfl dX5_scribe_18 ?_
  by_cases hsw : y.toInt < 0 ∨ 6 < y.toInt
  · skip
    refine J_tableOut C 99 hsw (by decide) dX5_scribe_19 ?_
    refine J_bipush C (-2) (by decide) dX5_scribe_99 ?_
    exact J_zret C hr rfl dX5_scribe_101 () (by rw [show scrF σ 0 y.toInt = -2 from by unfold scrF; (repeat' split) <;> first | rfl | omega]) trivial rfl
  · skip
    rcases (show y.toInt = 0 ∨ y.toInt = 1 ∨ y.toInt = 2 ∨ y.toInt = 3 ∨ y.toInt = 4 ∨ y.toInt = 5 ∨ y.toInt = 6 by omega) with hwi | hwi | hwi | hwi | hwi | hwi | hwi
    · skip
      have hw : y = 0 := Int32.toInt_inj.mp (by rw [hwi]; decide)
      refine J_tableIn C 60 (by rw [hw]; decide) (by rw [hw]; decide) (by rw [hw]; rfl) (by decide) dX5_scribe_19 ?_
      refine J_aload_n C rfl dX5_scribe_60 ?_
      refine J_getN C 9 0 in3 rfl rfl (by decide) nfTwoScribes_107 rfl dX5_scribe_61 ?_
      exact J_zret C hr rfl dX5_scribe_64 () (by rw [hwi] <;> rfl) trivial rfl
    · skip
      have hw : y = 1 := Int32.toInt_inj.mp (by rw [hwi]; decide)
      refine J_tableIn C 65 (by rw [hw]; decide) (by rw [hw]; decide) (by rw [hw]; rfl) (by decide) dX5_scribe_19 ?_
      refine J_aload_n C rfl dX5_scribe_65 ?_
      refine J_getN C 9 1 in3 rfl rfl (by decide) nfTwoScribes_182 rfl dX5_scribe_66 ?_
      exact J_zret C hr rfl dX5_scribe_69 () (by rw [hwi] <;> rfl) trivial rfl
    · skip
      have hw : y = 2 := Int32.toInt_inj.mp (by rw [hwi]; decide)
      refine J_tableIn C 70 (by rw [hw]; decide) (by rw [hw]; decide) (by rw [hw]; rfl) (by decide) dX5_scribe_19 ?_
      refine J_aload_n C rfl dX5_scribe_70 ?_
      refine J_get C 0 0 in5 rfl rfl (by decide) k217 rfl dX5_scribe_71 ?_
      refine J_iload_n C rfl dX5_scribe_74 ?_
      rcases Nat.lt_or_ge (2 * σ 0 14) (σ 0 4) with hf | hf
      · skip
        refine J_callV (as := [.int 0]) (rest := []) C (ct_nextPlace0 l G a σ d (by omega) (by omega) hf) (fun u => [(ts, .inr (5, [.ref (a 0), .ref (a1 0), .ref (a2 0), .ref hh, .ref (b 0), .int (nI ks)]))] ++ stW G a σ d) [1, 2, 3, 4, 5, 6, 7, 8, 9, 10, 11] [0] 1 k413 k368 k369 k11 k370 rfl (by decide +kernel) ⟨Nat.le_of_ble_eq_true rfl, Nat.le_of_ble_eq_true rfl⟩ ⟨Nat.le_of_ble_eq_true rfl, Nat.le_of_ble_eq_true rfl⟩ dX5_scribe_75 (Nat.le_of_ble_eq_true rfl) 1 rfl rfl rfl (by decide +kernel) (fun _ => rfl) ([(ts, .inr (5, [.ref (a 0), .ref (a1 0), .ref (a2 0), .ref hh, .ref (b 0), .int (nI ks)]))]) rfl (fun _ => rfl) 12 (fun _ => rfl) (by decide +kernel) (by decide +kernel) (fun _ _ => ?_)
        refine J_st (st' := [.int (nI (σ 0 14))]) rfl ?_
        exact J_zret C hr rfl dX5_scribe_78 () (by rw [hwi, show scrF σ 0 2 = nxP σ 0 from rfl, show nxP σ 0 = nI (σ 0 14) from if_neg (by show ¬ σ 0 4 ≤ 2 * σ 0 14; omega)] <;> rfl) trivial rfl
      · skip
        refine J_callV (as := [.int 0]) (rest := []) C (ct_nextNone0 l G a σ d (by omega) hf (by omega)) (fun u => [(ts, .inr (5, [.ref (a 0), .ref (a1 0), .ref (a2 0), .ref hh, .ref (b 0), .int (nI ks)]))] ++ stW G a σ d) [1, 2, 3, 4, 5, 6, 7, 8, 9, 10, 11] [0] 1 k413 k368 k369 k11 k370 rfl (by decide +kernel) ⟨Nat.le_of_ble_eq_true rfl, Nat.le_of_ble_eq_true rfl⟩ ⟨Nat.le_of_ble_eq_true rfl, Nat.le_of_ble_eq_true rfl⟩ dX5_scribe_75 (Nat.le_of_ble_eq_true rfl) 1 rfl rfl rfl (by decide +kernel) (fun _ => rfl) ([(ts, .inr (5, [.ref (a 0), .ref (a1 0), .ref (a2 0), .ref hh, .ref (b 0), .int (nI ks)]))]) rfl (fun _ => rfl) 12 (fun _ => rfl) (by decide +kernel) (by decide +kernel) (fun _ _ => ?_)
        refine J_st (st' := [.int (-5)]) rfl ?_
        exact J_zret C hr rfl dX5_scribe_78 () (by rw [hwi, show scrF σ 0 2 = nxP σ 0 from rfl, show nxP σ 0 = (-5) from if_pos (by show σ 0 4 ≤ 2 * σ 0 14; omega)] <;> rfl) trivial rfl
    · skip
      have hw : y = 3 := Int32.toInt_inj.mp (by rw [hwi]; decide)
      refine J_tableIn C 79 (by rw [hw]; decide) (by rw [hw]; decide) (by rw [hw]; rfl) (by decide) dX5_scribe_19 ?_
      refine J_aload_n C rfl dX5_scribe_79 ?_
      refine J_getN C 9 2 in3 rfl rfl (by decide) nfTwoScribes_186 rfl dX5_scribe_80 ?_
      exact J_zret C hr rfl dX5_scribe_83 () (by rw [hwi] <;> rfl) trivial rfl
    · skip
      have hw : y = 4 := Int32.toInt_inj.mp (by rw [hwi]; decide)
      refine J_tableIn C 84 (by rw [hw]; decide) (by rw [hw]; decide) (by rw [hw]; rfl) (by decide) dX5_scribe_19 ?_
      refine J_aload_n C rfl dX5_scribe_84 ?_
      refine J_getN C 9 3 in3 rfl rfl (by decide) nfTwoScribes_189 rfl dX5_scribe_85 ?_
      exact J_zret C hr rfl dX5_scribe_88 () (by rw [hwi] <;> rfl) trivial rfl
    · skip
      have hw : y = 5 := Int32.toInt_inj.mp (by rw [hwi]; decide)
      refine J_tableIn C 89 (by rw [hw]; decide) (by rw [hw]; decide) (by rw [hw]; rfl) (by decide) dX5_scribe_19 ?_
      refine J_aload_n C rfl dX5_scribe_89 ?_
      refine J_getN C 9 4 in3 rfl rfl (by decide) nfTwoScribes_192 rfl dX5_scribe_90 ?_
      exact J_zret C hr rfl dX5_scribe_93 () (by rw [hwi] <;> rfl) trivial rfl
    · skip
      have hw : y = 6 := Int32.toInt_inj.mp (by rw [hwi]; decide)
      refine J_tableIn C 94 (by rw [hw]; decide) (by rw [hw]; decide) (by rw [hw]; rfl) (by decide) dX5_scribe_19 ?_
      refine J_aload_n C rfl dX5_scribe_94 ?_
      refine J_getN C 9 5 in3 rfl rfl (by decide) nfTwoScribes_195 rfl dX5_scribe_95 ?_
      exact J_zret C hr rfl dX5_scribe_98 () (by rw [hwi] <;> rfl) trivial rfl

set_option maxHeartbeats 4000000 in
set_option maxRecDepth 100000 in
theorem ct_scribe1 (l : Launch) (G : GT) (ts : Nat) (a a1 a2 : Nat → Nat) (hh : Nat) (b : Nat → Nat) (ks : Nat) (σ : AS) (d : Nat → Nat) (y : Int32) (hI : Inv σ) : Ct (S := Unit) l G NoX yX5_scribe (Wy yX5_scribe cX5_scribe 4 ((Option.some Jvm.ClassFile.FieldType.int))) { frames := 2, cells := 0, slots := 0, locals := 43 } [.ref ts, .int 1, .int y] ([(ts, .inr (5, [.ref (a 0), .ref (a1 0), .ref (a2 0), .ref hh, .ref (b 0), .int (nI ks)]))] ++ stW G a σ d) (fun u => True) (fun u => some (.int (scrF σ 1 y.toInt))) (fun u => [(ts, .inr (5, [.ref (a 0), .ref (a1 0), .ref (a2 0), .ref hh, .ref (b 0), .int (nI ks)]))] ++ stW G a σ d) := by
  refine Ct.of (by decide) (Nat.le_of_ble_eq_true rfl) (fun p e s m args below meth c C hr hnm hX => ?_)
  have h40 := hI.a
  have hc := hI.c
  have hi := hI.i
  have hs := hI.s
  refine J_iload_n C rfl dX5_scribe_0 ?_
  refine J_callS (as := [.int 1]) (rest := []) C (ct_isScr1 l G ) (fun u => [(ts, .inr (5, [.ref (a 0), .ref (a1 0), .ref (a2 0), .ref hh, .ref (b 0), .int (nI ks)]))] ++ stW G a σ d) [] [0, 1, 2, 3, 4, 5, 6, 7, 8, 9, 10, 11] 1 k409 k410 k10 k411 rfl (by decide +kernel) ⟨Nat.le_of_ble_eq_true rfl, Nat.le_of_ble_eq_true rfl⟩ ⟨Nat.le_of_ble_eq_true rfl, Nat.le_of_ble_eq_true rfl⟩ dX5_scribe_1 (Nat.le_of_ble_eq_true rfl) rfl (by decide +kernel) (fun _ => rfl) ([(ts, .inr (5, [.ref (a 0), .ref (a1 0), .ref (a2 0), .ref hh, .ref (b 0), .int (nI ks)]))] ++ stW G a σ d) rfl (fun _ => rfl) 12 (fun _ => rfl) (by decide +kernel) (by decide +kernel) (fun _ _ => ?_)
  refine J_st (st' := [.int 1]) rfl ?_
  refine J_if_ne C 9 (by decide) dX5_scribe_4 (fun _ => ?_) (fun h => absurd h (by decide))
  refine J_aload_n C rfl dX5_scribe_9 ?_
  refine J_get C 0 0 in5 rfl rfl (by decide) k217 rfl dX5_scribe_10 ?_
  refine J_iload_n C rfl dX5_scribe_13 ?_
  refine J_callV (as := [.int 1]) (rest := []) C (ct_scribeOf1 l G a σ d) (fun u => [(ts, .inr (5, [.ref (a 0), .ref (a1 0), .ref (a2 0), .ref hh, .ref (b 0), .int (nI ks)]))] ++ stW G a σ d) [1, 2, 3, 4, 5, 6, 7, 8, 9, 10, 11] [0] 1 k412 k372 k373 k11 k374 rfl (by decide +kernel) ⟨Nat.le_of_ble_eq_true rfl, Nat.le_of_ble_eq_true rfl⟩ ⟨Nat.le_of_ble_eq_true rfl, Nat.le_of_ble_eq_true rfl⟩ dX5_scribe_14 (Nat.le_of_ble_eq_true rfl) 1 rfl rfl rfl (by decide +kernel) (fun _ => rfl) ([(ts, .inr (5, [.ref (a 0), .ref (a1 0), .ref (a2 0), .ref hh, .ref (b 0), .int (nI ks)]))]) rfl (fun _ => rfl) 12 (fun _ => rfl) (by decide +kernel) (by decide +kernel) (fun _ _ => ?_)
  refine J_st (st' := [.ref (a 9)]) rfl ?_
  refine J_astore_n C [(3, .ref (a 9)), (0, .ref ts), (1, .int 1), (2, .int y)] (by decide) rfl dX5_scribe_17 ?_
  refine J_iload_n C rfl dX5_scribe_18 ?_
  by_cases hsw : y.toInt < 0 ∨ 6 < y.toInt
  · skip
    refine J_tableOut C 99 hsw (by decide) dX5_scribe_19 ?_
    refine J_bipush C (-2) (by decide) dX5_scribe_99 ?_
    exact J_zret C hr rfl dX5_scribe_101 () (by rw [show scrF σ 1 y.toInt = -2 from by unfold scrF; (repeat' split) <;> first | rfl | omega]) trivial rfl
  · skip
    rcases (show y.toInt = 0 ∨ y.toInt = 1 ∨ y.toInt = 2 ∨ y.toInt = 3 ∨ y.toInt = 4 ∨ y.toInt = 5 ∨ y.toInt = 6 by omega) with hwi | hwi | hwi | hwi | hwi | hwi | hwi
    · skip
      have hw : y = 0 := Int32.toInt_inj.mp (by rw [hwi]; decide)
      refine J_tableIn C 60 (by rw [hw]; decide) (by rw [hw]; decide) (by rw [hw]; rfl) (by decide) dX5_scribe_19 ?_
      refine J_aload_n C rfl dX5_scribe_60 ?_
      refine J_getN C 10 0 in3 rfl rfl (by decide) nfTwoScribes_107 rfl dX5_scribe_61 ?_
      exact J_zret C hr rfl dX5_scribe_64 () (by rw [hwi] <;> rfl) trivial rfl
    · skip
      have hw : y = 1 := Int32.toInt_inj.mp (by rw [hwi]; decide)
      refine J_tableIn C 65 (by rw [hw]; decide) (by rw [hw]; decide) (by rw [hw]; rfl) (by decide) dX5_scribe_19 ?_
      refine J_aload_n C rfl dX5_scribe_65 ?_
      refine J_getN C 10 1 in3 rfl rfl (by decide) nfTwoScribes_182 rfl dX5_scribe_66 ?_
      exact J_zret C hr rfl dX5_scribe_69 () (by rw [hwi] <;> rfl) trivial rfl
    · skip
      have hw : y = 2 := Int32.toInt_inj.mp (by rw [hwi]; decide)
      refine J_tableIn C 70 (by rw [hw]; decide) (by rw [hw]; decide) (by rw [hw]; rfl) (by decide) dX5_scribe_19 ?_
      refine J_aload_n C rfl dX5_scribe_70 ?_
      refine J_get C 0 0 in5 rfl rfl (by decide) k217 rfl dX5_scribe_71 ?_
      refine J_iload_n C rfl dX5_scribe_74 ?_
      rcases Nat.lt_or_ge (2 * σ 0 15) (σ 0 4) with hf | hf
      · skip
        refine J_callV (as := [.int 1]) (rest := []) C (ct_nextPlace1 l G a σ d (by omega) (by omega) hf) (fun u => [(ts, .inr (5, [.ref (a 0), .ref (a1 0), .ref (a2 0), .ref hh, .ref (b 0), .int (nI ks)]))] ++ stW G a σ d) [1, 2, 3, 4, 5, 6, 7, 8, 9, 10, 11] [0] 1 k413 k368 k369 k11 k370 rfl (by decide +kernel) ⟨Nat.le_of_ble_eq_true rfl, Nat.le_of_ble_eq_true rfl⟩ ⟨Nat.le_of_ble_eq_true rfl, Nat.le_of_ble_eq_true rfl⟩ dX5_scribe_75 (Nat.le_of_ble_eq_true rfl) 1 rfl rfl rfl (by decide +kernel) (fun _ => rfl) ([(ts, .inr (5, [.ref (a 0), .ref (a1 0), .ref (a2 0), .ref hh, .ref (b 0), .int (nI ks)]))]) rfl (fun _ => rfl) 12 (fun _ => rfl) (by decide +kernel) (by decide +kernel) (fun _ _ => ?_)
        refine J_st (st' := [.int (nI (σ 0 4 - 1 - σ 0 15))]) rfl ?_
        exact J_zret C hr rfl dX5_scribe_78 () (by rw [hwi, show scrF σ 1 2 = nxP σ 1 from rfl, show nxP σ 1 = nI (σ 0 4 - 1 - σ 0 15) from if_neg (by show ¬ σ 0 4 ≤ 2 * σ 0 15; omega)] <;> rfl) trivial rfl
      · skip
        refine J_callV (as := [.int 1]) (rest := []) C (ct_nextNone1 l G a σ d (by omega) hf (by omega)) (fun u => [(ts, .inr (5, [.ref (a 0), .ref (a1 0), .ref (a2 0), .ref hh, .ref (b 0), .int (nI ks)]))] ++ stW G a σ d) [1, 2, 3, 4, 5, 6, 7, 8, 9, 10, 11] [0] 1 k413 k368 k369 k11 k370 rfl (by decide +kernel) ⟨Nat.le_of_ble_eq_true rfl, Nat.le_of_ble_eq_true rfl⟩ ⟨Nat.le_of_ble_eq_true rfl, Nat.le_of_ble_eq_true rfl⟩ dX5_scribe_75 (Nat.le_of_ble_eq_true rfl) 1 rfl rfl rfl (by decide +kernel) (fun _ => rfl) ([(ts, .inr (5, [.ref (a 0), .ref (a1 0), .ref (a2 0), .ref hh, .ref (b 0), .int (nI ks)]))]) rfl (fun _ => rfl) 12 (fun _ => rfl) (by decide +kernel) (by decide +kernel) (fun _ _ => ?_)
        refine J_st (st' := [.int (-5)]) rfl ?_
        exact J_zret C hr rfl dX5_scribe_78 () (by rw [hwi, show scrF σ 1 2 = nxP σ 1 from rfl, show nxP σ 1 = (-5) from if_pos (by show σ 0 4 ≤ 2 * σ 0 15; omega)] <;> rfl) trivial rfl
    · skip
      have hw : y = 3 := Int32.toInt_inj.mp (by rw [hwi]; decide)
      refine J_tableIn C 79 (by rw [hw]; decide) (by rw [hw]; decide) (by rw [hw]; rfl) (by decide) dX5_scribe_19 ?_
      refine J_aload_n C rfl dX5_scribe_79 ?_
      refine J_getN C 10 2 in3 rfl rfl (by decide) nfTwoScribes_186 rfl dX5_scribe_80 ?_
      exact J_zret C hr rfl dX5_scribe_83 () (by rw [hwi] <;> rfl) trivial rfl
    · skip
      have hw : y = 4 := Int32.toInt_inj.mp (by rw [hwi]; decide)
      refine J_tableIn C 84 (by rw [hw]; decide) (by rw [hw]; decide) (by rw [hw]; rfl) (by decide) dX5_scribe_19 ?_
      refine J_aload_n C rfl dX5_scribe_84 ?_
      refine J_getN C 10 3 in3 rfl rfl (by decide) nfTwoScribes_189 rfl dX5_scribe_85 ?_
      exact J_zret C hr rfl dX5_scribe_88 () (by rw [hwi] <;> rfl) trivial rfl
    · skip
      have hw : y = 5 := Int32.toInt_inj.mp (by rw [hwi]; decide)
      refine J_tableIn C 89 (by rw [hw]; decide) (by rw [hw]; decide) (by rw [hw]; rfl) (by decide) dX5_scribe_19 ?_
      refine J_aload_n C rfl dX5_scribe_89 ?_
      refine J_getN C 10 4 in3 rfl rfl (by decide) nfTwoScribes_192 rfl dX5_scribe_90 ?_
      exact J_zret C hr rfl dX5_scribe_93 () (by rw [hwi] <;> rfl) trivial rfl
    · skip
      have hw : y = 6 := Int32.toInt_inj.mp (by rw [hwi]; decide)
      refine J_tableIn C 94 (by rw [hw]; decide) (by rw [hw]; decide) (by rw [hw]; rfl) (by decide) dX5_scribe_19 ?_
      refine J_aload_n C rfl dX5_scribe_94 ?_
      refine J_getN C 10 5 in3 rfl rfl (by decide) nfTwoScribes_195 rfl dX5_scribe_95 ?_
      exact J_zret C hr rfl dX5_scribe_98 () (by rw [hwi] <;> rfl) trivial rfl

set_option maxHeartbeats 4000000 in
set_option maxRecDepth 100000 in
theorem ct_ink (l : Launch) (G : GT) (ts : Nat) (a a1 a2 : Nat → Nat) (hh : Nat) (b : Nat → Nat) (ks : Nat) (σ : AS) (d : Nat → Nat) (x : Int32) (hI : Inv σ) : Ct (S := Unit) l G NoX yX5_ink (Wy yX5_ink cX5_ink 2 ((Option.some Jvm.ClassFile.FieldType.double))) { frames := 0, cells := 0, slots := 0, locals := 0 } [.ref ts, .int x] ([(ts, .inr (5, [.ref (a 0), .ref (a1 0), .ref (a2 0), .ref hh, .ref (b 0), .int (nI ks)]))] ++ stW G a σ d) (fun u => True) (fun u => some (.double (inkF σ x.toInt))) (fun u => [(ts, .inr (5, [.ref (a 0), .ref (a1 0), .ref (a2 0), .ref hh, .ref (b 0), .int (nI ks)]))] ++ stW G a σ d) := by
  refine Ct.of (by decide) (Nat.le_of_ble_eq_true rfl) (fun p e s m args below meth c C hr hnm hX => ?_)
  have h40 := hI.a
  have hc := hI.c
  have hi := hI.i
  have hs := hI.s
  refine J_iload_n C rfl dX5_ink_0 ?_
  by_cases hsw : x.toInt < 0 ∨ 4 < x.toInt
  · skip
    refine J_tableOut C 87 hsw (by decide) dX5_ink_1 ?_
    refine J_ldc2d C k550 dX5_ink_87 ?_
    exact J_dret C hr dX5_ink_90 () (by rw [show inkF σ x.toInt = 13830554455654793216 from by unfold inkF; (repeat' split) <;> first | rfl | omega]) trivial rfl
  · skip
    rcases (show x.toInt = 0 ∨ x.toInt = 1 ∨ x.toInt = 2 ∨ x.toInt = 3 ∨ x.toInt = 4 by omega) with hwi | hwi | hwi | hwi | hwi
    · skip
      have hw : x = 0 := Int32.toInt_inj.mp (by rw [hwi]; decide)
      refine J_tableIn C 36 (by rw [hw]; decide) (by rw [hw]; decide) (by rw [hw]; rfl) (by decide) dX5_ink_1 ?_
      refine J_aload_n C rfl dX5_ink_36 ?_
      refine J_get C 0 0 in5 rfl rfl (by decide) k217 rfl dX5_ink_37 ?_
      refine J_getN C 1 1 in4 rfl rfl (by decide) nfTwoScribes_198 rfl dX5_ink_40 ?_
      refine J_getN C 9 6 in3 rfl rfl (by decide) nfTwoScribes_202 rfl dX5_ink_43 ?_
      refine J_f2d C (by rw [fl_f2d (n := σ 0 24) (by omega)]; exact dl_num (by omega)) dX5_ink_46 ?_
      refine J_d (fl_f2d (n := σ 0 24) (by omega) : (FP.f2d (fl (σ 0 24)) : UInt64) = (dl (σ 0 24))) ?_
      exact J_dret C hr dX5_ink_47 () (by rw [hwi] <;> rfl) trivial rfl
    · skip
      have hw : x = 1 := Int32.toInt_inj.mp (by rw [hwi]; decide)
      refine J_tableIn C 48 (by rw [hw]; decide) (by rw [hw]; decide) (by rw [hw]; rfl) (by decide) dX5_ink_1 ?_
      refine J_aload_n C rfl dX5_ink_48 ?_
      refine J_get C 0 0 in5 rfl rfl (by decide) k217 rfl dX5_ink_49 ?_
      refine J_getN C 1 2 in4 rfl rfl (by decide) nfTwoScribes_205 rfl dX5_ink_52 ?_
      refine J_getN C 10 6 in3 rfl rfl (by decide) nfTwoScribes_202 rfl dX5_ink_55 ?_
      refine J_f2d C (by rw [fl_f2d (n := σ 0 25) (by omega)]; exact dl_num (by omega)) dX5_ink_58 ?_
      refine J_d (fl_f2d (n := σ 0 25) (by omega) : (FP.f2d (fl (σ 0 25)) : UInt64) = (dl (σ 0 25))) ?_
      exact J_dret C hr dX5_ink_59 () (by rw [hwi] <;> rfl) trivial rfl
    · skip
      have hw : x = 2 := Int32.toInt_inj.mp (by rw [hwi]; decide)
      refine J_tableIn C 60 (by rw [hw]; decide) (by rw [hw]; decide) (by rw [hw]; rfl) (by decide) dX5_ink_1 ?_
      refine J_aload_n C rfl dX5_ink_60 ?_
      refine J_get C 0 0 in5 rfl rfl (by decide) k217 rfl dX5_ink_61 ?_
      refine J_getN C 1 4 in4 rfl rfl (by decide) nfTwoScribes_115 rfl dX5_ink_64 ?_
      refine J_f2d C (by rw [fl_f2d (n := σ 0 6) (by omega)]; exact dl_num (by omega)) dX5_ink_67 ?_
      refine J_d (fl_f2d (n := σ 0 6) (by omega) : (FP.f2d (fl (σ 0 6)) : UInt64) = (dl (σ 0 6))) ?_
      exact J_dret C hr dX5_ink_68 () (by rw [hwi] <;> rfl) trivial rfl
    · skip
      have hw : x = 3 := Int32.toInt_inj.mp (by rw [hwi]; decide)
      refine J_tableIn C 69 (by rw [hw]; decide) (by rw [hw]; decide) (by rw [hw]; rfl) (by decide) dX5_ink_1 ?_
      refine J_aload_n C rfl dX5_ink_69 ?_
      refine J_get C 0 0 in5 rfl rfl (by decide) k217 rfl dX5_ink_70 ?_
      refine J_getN C 1 5 in4 rfl rfl (by decide) nfTwoScribes_208 rfl dX5_ink_73 ?_
      refine J_f2d C (by rw [fl_f2d (n := σ 0 7) (by omega)]; exact dl_num (by omega)) dX5_ink_76 ?_
      refine J_d (fl_f2d (n := σ 0 7) (by omega) : (FP.f2d (fl (σ 0 7)) : UInt64) = (dl (σ 0 7))) ?_
      exact J_dret C hr dX5_ink_77 () (by rw [hwi] <;> rfl) trivial rfl
    · skip
      have hw : x = 4 := Int32.toInt_inj.mp (by rw [hwi]; decide)
      refine J_tableIn C 78 (by rw [hw]; decide) (by rw [hw]; decide) (by rw [hw]; rfl) (by decide) dX5_ink_1 ?_
      refine J_aload_n C rfl dX5_ink_78 ?_
      refine J_get C 0 0 in5 rfl rfl (by decide) k217 rfl dX5_ink_79 ?_
      refine J_getN C 1 6 in4 rfl rfl (by decide) nfTwoScribes_211 rfl dX5_ink_82 ?_
      refine J_f2d C (by rw [fl_f2d (n := σ 0 8) (by omega)]; exact dl_num (by omega)) dX5_ink_85 ?_
      refine J_d (fl_f2d (n := σ 0 8) (by omega) : (FP.f2d (fl (σ 0 8)) : UInt64) = (dl (σ 0 8))) ?_
      exact J_dret C hr dX5_ink_86 () (by rw [hwi] <;> rfl) trivial rfl

set_option maxHeartbeats 4000000 in
set_option maxRecDepth 100000 in
theorem ct_nextN (l : Launch) (G : GT) (ts : Nat) (a a1 a2 : Nat → Nat) (hh : Nat) (b : Nat → Nat) (ks : Nat) (σ : AS) (d : Nat → Nat) (σ1 : AS) (d1 : Nat → Nat) (x : Int32) (hx : ¬ (x = 0 ∨ x = 1)) : Ct (S := Unit) l G NoX yX5_next (Wy yX5_next cX5_next 2 ((Option.some Jvm.ClassFile.FieldType.int))) { frames := 1, cells := 0, slots := 0, locals := 20 } [.ref ts, .int x] ([(ts, .inr (5, [.ref (a 0), .ref (a1 0), .ref (a2 0), .ref hh, .ref (b 0), .int (nI ks)]))] ++ (stW G a σ d ++ stW G a1 σ1 d1)) (fun u => True) (fun u => some (.int (-1))) (fun u => [(ts, .inr (5, [.ref (a 0), .ref (a1 0), .ref (a2 0), .ref hh, .ref (b 0), .int (nI ks)]))] ++ (stW G a σ d ++ stW G a1 σ1 d1)) := by
  refine Ct.of (by decide) (Nat.le_of_ble_eq_true rfl) (fun p e s m args below meth c C hr hnm hX => ?_)
  refine J_iload_n C rfl dX5_next_0 ?_
  refine J_callS (as := [.int x]) (rest := []) C (ct_isScrN l G x hx) (fun u => [(ts, .inr (5, [.ref (a 0), .ref (a1 0), .ref (a2 0), .ref hh, .ref (b 0), .int (nI ks)]))] ++ (stW G a σ d ++ stW G a1 σ1 d1)) [] [0, 1, 2, 3, 4, 5, 6, 7, 8, 9, 10, 11, 12, 13, 14, 15, 16, 17, 18, 19, 20, 21, 22] 1 k409 k410 k10 k411 rfl (by decide +kernel) ⟨Nat.le_of_ble_eq_true rfl, Nat.le_of_ble_eq_true rfl⟩ ⟨Nat.le_of_ble_eq_true rfl, Nat.le_of_ble_eq_true rfl⟩ dX5_next_1 (Nat.le_of_ble_eq_true rfl) rfl (by decide +kernel) (fun _ => rfl) ([(ts, .inr (5, [.ref (a 0), .ref (a1 0), .ref (a2 0), .ref hh, .ref (b 0), .int (nI ks)]))] ++ (stW G a σ d ++ stW G a1 σ1 d1)) rfl (fun _ => rfl) 23 (fun _ => rfl) (by decide +kernel) (by decide +kernel) (fun _ _ => ?_)
  refine J_st (st' := [.int 0]) rfl ?_
  refine J_if_ne C 9 (by decide) dX5_next_4 (fun h => absurd h (by decide)) (fun _ => ?_)
  refine J_iconst C (-1) (by decide) dX5_next_7 ?_
  exact J_zret C hr rfl dX5_next_8 () rfl trivial rfl

set_option maxHeartbeats 4000000 in
set_option maxRecDepth 100000 in
theorem ct_next0 (l : Launch) (G : GT) (ts : Nat) (a a1 a2 : Nat → Nat) (hh : Nat) (b : Nat → Nat) (ks : Nat) (σ : AS) (d : Nat → Nat) (σ1 : AS) (d1 : Nat → Nat)  (hI : Inv σ) (hD : DOK σ d) : Ct (S := Unit) l G NoX yX5_next (Wy yX5_next cX5_next 2 ((Option.some Jvm.ClassFile.FieldType.int))) { frames := 3, cells := 0, slots := 0, locals := 66 } [.ref ts, .int 0] ([(ts, .inr (5, [.ref (a 0), .ref (a1 0), .ref (a2 0), .ref hh, .ref (b 0), .int (nI ks)]))] ++ (stW G a σ d ++ stW G a1 σ1 d1)) (fun u => True) (fun u => some (.int (nI (doesN σ 0)))) (fun u => [(ts, .inr (5, [.ref (a 0), .ref (a1 0), .ref (a2 0), .ref hh, .ref (b 0), .int (nI ks)]))] ++ (stW G a σ d ++ stW G a1 σ1 d1)) := by
  refine Ct.of (by decide) (Nat.le_of_ble_eq_true rfl) (fun p e s m args below meth c C hr hnm hX => ?_)
  refine J_iload_n C rfl dX5_next_0 ?_
  refine J_callS (as := [.int 0]) (rest := []) C (ct_isScr0 l G ) (fun u => [(ts, .inr (5, [.ref (a 0), .ref (a1 0), .ref (a2 0), .ref hh, .ref (b 0), .int (nI ks)]))] ++ (stW G a σ d ++ stW G a1 σ1 d1)) [] [0, 1, 2, 3, 4, 5, 6, 7, 8, 9, 10, 11, 12, 13, 14, 15, 16, 17, 18, 19, 20, 21, 22] 1 k409 k410 k10 k411 rfl (by decide +kernel) ⟨Nat.le_of_ble_eq_true rfl, Nat.le_of_ble_eq_true rfl⟩ ⟨Nat.le_of_ble_eq_true rfl, Nat.le_of_ble_eq_true rfl⟩ dX5_next_1 (Nat.le_of_ble_eq_true rfl) rfl (by decide +kernel) (fun _ => rfl) ([(ts, .inr (5, [.ref (a 0), .ref (a1 0), .ref (a2 0), .ref hh, .ref (b 0), .int (nI ks)]))] ++ (stW G a σ d ++ stW G a1 σ1 d1)) rfl (fun _ => rfl) 23 (fun _ => rfl) (by decide +kernel) (by decide +kernel) (fun _ _ => ?_)
  refine J_st (st' := [.int 1]) rfl ?_
  refine J_if_ne C 9 (by decide) dX5_next_4 (fun _ => ?_) (fun h => absurd h (by decide))
  refine J_iload_n C rfl dX5_next_9 ?_
  refine J_if_ne C 22 (by decide) dX5_next_10 (fun h => absurd h (by decide)) (fun _ => ?_)
  refine J_aload_n C rfl dX5_next_13 ?_
  refine J_get C 0 0 in5 rfl rfl (by decide) k217 rfl dX5_next_14 ?_
  refine J_iconst C 0 (by decide) dX5_next_17 ?_
  refine J_callV (as := [.int 0]) (rest := []) C (ct_deedOf0 l G a σ d hI hD) (fun u => [(ts, .inr (5, [.ref (a 0), .ref (a1 0), .ref (a2 0), .ref hh, .ref (b 0), .int (nI ks)]))] ++ (stW G a σ d ++ stW G a1 σ1 d1)) [1, 2, 3, 4, 5, 6, 7, 8, 9, 10, 11] [0, 12, 13, 14, 15, 16, 17, 18, 19, 20, 21, 22] 1 k544 k488 k489 k11 k490 rfl (by decide +kernel) ⟨Nat.le_of_ble_eq_true rfl, Nat.le_of_ble_eq_true rfl⟩ ⟨Nat.le_of_ble_eq_true rfl, Nat.le_of_ble_eq_true rfl⟩ dX5_next_18 (Nat.le_of_ble_eq_true rfl) 1 rfl rfl rfl (by decide +kernel) (fun _ => rfl) ([(ts, .inr (5, [.ref (a 0), .ref (a1 0), .ref (a2 0), .ref hh, .ref (b 0), .int (nI ks)]))] ++ stW G a1 σ1 d1) rfl (fun _ => rfl) 23 (fun _ => rfl) (by decide +kernel) (by decide +kernel) (fun _ _ => ?_)
  refine J_st (st' := [.int (nI (doesN σ 0))]) rfl ?_
  exact J_zret C hr rfl dX5_next_21 () rfl trivial rfl

set_option maxHeartbeats 4000000 in
set_option maxRecDepth 100000 in
theorem ct_next1 (l : Launch) (G : GT) (ts : Nat) (a a1 a2 : Nat → Nat) (hh : Nat) (b : Nat → Nat) (ks : Nat) (σ : AS) (d : Nat → Nat) (σ1 : AS) (d1 : Nat → Nat)  (hI : Inv σ) (hD : DOK σ d) : Ct (S := Unit) l G NoX yX5_next (Wy yX5_next cX5_next 2 ((Option.some Jvm.ClassFile.FieldType.int))) { frames := 4, cells := 0, slots := 0, locals := 103 } [.ref ts, .int 1] ([(ts, .inr (5, [.ref (a 0), .ref (a1 0), .ref (a2 0), .ref hh, .ref (b 0), .int (nI ks)]))] ++ (stW G a σ d ++ stW G a1 σ1 d1)) (fun u => True) (fun u => some (.int (nI (nextN σ)))) (fun u => [(ts, .inr (5, [.ref (a 0), .ref (a1 0), .ref (a2 0), .ref hh, .ref (b 0), .int (nI ks)]))] ++ (stW G a σ d ++ stW G a1 (goesF σ 0 (σ 0 3)) d)) := by
  refine Ct.of (by decide) (Nat.le_of_ble_eq_true rfl) (fun p e s m args below meth c C hr hnm hX => ?_)
  have h40 := hI.a
  have hc := hI.c
  have hi := hI.i
  have hs := hI.s
  refine J_iload_n C rfl dX5_next_0 ?_
  refine J_callS (as := [.int 1]) (rest := []) C (ct_isScr1 l G ) (fun u => [(ts, .inr (5, [.ref (a 0), .ref (a1 0), .ref (a2 0), .ref hh, .ref (b 0), .int (nI ks)]))] ++ (stW G a σ d ++ stW G a1 σ1 d1)) [] [0, 1, 2, 3, 4, 5, 6, 7, 8, 9, 10, 11, 12, 13, 14, 15, 16, 17, 18, 19, 20, 21, 22] 1 k409 k410 k10 k411 rfl (by decide +kernel) ⟨Nat.le_of_ble_eq_true rfl, Nat.le_of_ble_eq_true rfl⟩ ⟨Nat.le_of_ble_eq_true rfl, Nat.le_of_ble_eq_true rfl⟩ dX5_next_1 (Nat.le_of_ble_eq_true rfl) rfl (by decide +kernel) (fun _ => rfl) ([(ts, .inr (5, [.ref (a 0), .ref (a1 0), .ref (a2 0), .ref hh, .ref (b 0), .int (nI ks)]))] ++ (stW G a σ d ++ stW G a1 σ1 d1)) rfl (fun _ => rfl) 23 (fun _ => rfl) (by decide +kernel) (by decide +kernel) (fun _ _ => ?_)
  refine J_st (st' := [.int 1]) rfl ?_
  refine J_if_ne C 9 (by decide) dX5_next_4 (fun _ => ?_) (fun h => absurd h (by decide))
  refine J_iload_n C rfl dX5_next_9 ?_
  refine J_if_ne C 22 (by decide) dX5_next_10 (fun _ => ?_) (fun h => absurd h (by decide))
  refine J_aload_n C rfl dX5_next_22 ?_
  refine J_get C 0 1 in5 rfl rfl (by decide) k218 rfl dX5_next_23 ?_
  refine J_aload_n C rfl dX5_next_26 ?_
  refine J_get C 0 0 in5 rfl rfl (by decide) k217 rfl dX5_next_27 ?_
  refine J_callV (as := [.ref (a 0)]) (rest := []) C (ct_stateCopy l G a1 σ1 d1 a σ d) (fun u => [(ts, .inr (5, [.ref (a 0), .ref (a1 0), .ref (a2 0), .ref hh, .ref (b 0), .int (nI ks)]))] ++ (stW G a σ d ++ stW G a1 σ d)) [12, 13, 14, 15, 16, 17, 18, 19, 20, 21, 22, 1, 2, 3, 4, 5, 6, 7, 8, 9, 10, 11] [0] 1 k469 k309 k310 k11 k311 rfl (by decide +kernel) ⟨Nat.le_of_ble_eq_true rfl, Nat.le_of_ble_eq_true rfl⟩ ⟨Nat.le_of_ble_eq_true rfl, Nat.le_of_ble_eq_true rfl⟩ dX5_next_30 (Nat.le_of_ble_eq_true rfl) 12 rfl rfl rfl (by decide +kernel) (fun _ => rfl) ([(ts, .inr (5, [.ref (a 0), .ref (a1 0), .ref (a2 0), .ref hh, .ref (b 0), .int (nI ks)]))]) rfl (fun _ => rfl) 23 (fun _ => rfl) (by decide +kernel) (by decide +kernel) (fun _ _ => ?_)
  refine J_st (st' := []) rfl ?_
  refine J_aload_n C rfl dX5_next_33 ?_
  refine J_get C 0 1 in5 rfl rfl (by decide) k218 rfl dX5_next_34 ?_
  refine J_iconst C 0 (by decide) dX5_next_37 ?_
  refine J_callV (as := [.int 0]) (rest := []) C (ct_takeTurn0 l G a1 σ d hI hD) (fun u => [(ts, .inr (5, [.ref (a 0), .ref (a1 0), .ref (a2 0), .ref hh, .ref (b 0), .int (nI ks)]))] ++ (stW G a σ d ++ stW G a1 (goesF σ 0 (σ 0 3)) d)) [12, 13, 14, 15, 16, 17, 18, 19, 20, 21, 22] [0, 1, 2, 3, 4, 5, 6, 7, 8, 9, 10, 11] 1 k545 k484 k485 k11 k486 rfl (by decide +kernel) ⟨Nat.le_of_ble_eq_true rfl, Nat.le_of_ble_eq_true rfl⟩ ⟨Nat.le_of_ble_eq_true rfl, Nat.le_of_ble_eq_true rfl⟩ dX5_next_38 (Nat.le_of_ble_eq_true rfl) 12 rfl rfl rfl (by decide +kernel) (fun _ => rfl) ([(ts, .inr (5, [.ref (a 0), .ref (a1 0), .ref (a2 0), .ref hh, .ref (b 0), .int (nI ks)]))] ++ stW G a σ d) rfl (fun _ => rfl) 23 (fun _ => rfl) (by decide +kernel) (by decide +kernel) (fun _ _ => ?_)
  refine J_st (st' := [.int (nI (doesN σ 0))]) rfl ?_
  refine J_pop C rfl dX5_next_41 ?_
  refine J_aload_n C rfl dX5_next_42 ?_
  refine J_get C 0 1 in5 rfl rfl (by decide) k218 rfl dX5_next_43 ?_
  refine J_iconst C 1 (by decide) dX5_next_46 ?_
  refine J_callV (as := [.int 1]) (rest := []) C (ct_deedOf1 l G a1 (goesF σ 0 (σ 0 3)) d (hI.goes0 (by omega)) hD.goes0) (fun u => [(ts, .inr (5, [.ref (a 0), .ref (a1 0), .ref (a2 0), .ref hh, .ref (b 0), .int (nI ks)]))] ++ (stW G a σ d ++ stW G a1 (goesF σ 0 (σ 0 3)) d)) [12, 13, 14, 15, 16, 17, 18, 19, 20, 21, 22] [0, 1, 2, 3, 4, 5, 6, 7, 8, 9, 10, 11] 1 k544 k488 k489 k11 k490 rfl (by decide +kernel) ⟨Nat.le_of_ble_eq_true rfl, Nat.le_of_ble_eq_true rfl⟩ ⟨Nat.le_of_ble_eq_true rfl, Nat.le_of_ble_eq_true rfl⟩ dX5_next_47 (Nat.le_of_ble_eq_true rfl) 12 rfl rfl rfl (by decide +kernel) (fun _ => rfl) ([(ts, .inr (5, [.ref (a 0), .ref (a1 0), .ref (a2 0), .ref hh, .ref (b 0), .int (nI ks)]))] ++ stW G a σ d) rfl (fun _ => rfl) 23 (fun _ => rfl) (by decide +kernel) (by decide +kernel) (fun _ _ => ?_)
  refine J_st (st' := [.int (nI (doesN (goesF σ 0 (σ 0 3)) 1))]) rfl ?_
  exact J_zret C hr rfl dX5_next_50 () rfl trivial rfl

set_option maxHeartbeats 4000000 in
set_option maxRecDepth 100000 in
theorem ct_doneIn (l : Launch) (G : GT) (ts : Nat) (a a1 a2 : Nat → Nat) (hh : Nat) (b : Nat → Nat) (ks : Nat) (σ : AS) (d : Nat → Nat) (σ1 : AS) (d1 : Nat → Nat)  (hI : Inv σ) (hD : DOK σ d) (ht : σ 0 3 ≤ 99999) : Ct (S := AS) l G NoX yX5_doneIn (Wy yX5_doneIn cX5_doneIn 1 ((Option.some Jvm.ClassFile.FieldType.int))) { frames := 6, cells := 0, slots := 0, locals := 138 } [.ref ts] ([(ts, .inr (5, [.ref (a 0), .ref (a1 0), .ref (a2 0), .ref hh, .ref (b 0), .int (nI ks)]))] ++ (stW G a σ d ++ stW G a1 σ1 d1)) (fun u => True) (fun u => some (.int (dnF 2001 0 σ))) (fun u => [(ts, .inr (5, [.ref (a 0), .ref (a1 0), .ref (a2 0), .ref hh, .ref (b 0), .int (nI ks)]))] ++ (stW G a σ d ++ stW G a1 u d)) := by
  refine Ct.of (by decide) (Nat.le_of_ble_eq_true rfl) (fun p e s m args below meth c C hr hnm hX => ?_)
  refine J_aload_n C rfl dX5_doneIn_0 ?_
  refine J_get C 0 1 in5 rfl rfl (by decide) k218 rfl dX5_doneIn_1 ?_
  refine J_aload_n C rfl dX5_doneIn_4 ?_
  refine J_get C 0 0 in5 rfl rfl (by decide) k217 rfl dX5_doneIn_5 ?_
  refine J_callV (as := [.ref (a 0)]) (rest := []) C (ct_stateCopy l G a1 σ1 d1 a σ d) (fun u => [(ts, .inr (5, [.ref (a 0), .ref (a1 0), .ref (a2 0), .ref hh, .ref (b 0), .int (nI ks)]))] ++ (stW G a σ d ++ stW G a1 σ d)) [12, 13, 14, 15, 16, 17, 18, 19, 20, 21, 22, 1, 2, 3, 4, 5, 6, 7, 8, 9, 10, 11] [0] 1 k469 k309 k310 k11 k311 rfl (by decide +kernel) ⟨Nat.le_of_ble_eq_true rfl, Nat.le_of_ble_eq_true rfl⟩ ⟨Nat.le_of_ble_eq_true rfl, Nat.le_of_ble_eq_true rfl⟩ dX5_doneIn_8 (Nat.le_of_ble_eq_true rfl) 12 rfl rfl rfl (by decide +kernel) (fun _ => rfl) ([(ts, .inr (5, [.ref (a 0), .ref (a1 0), .ref (a2 0), .ref hh, .ref (b 0), .int (nI ks)]))]) rfl (fun _ => rfl) 23 (fun _ => rfl) (by decide +kernel) (by decide +kernel) (fun _ _ => ?_)
  refine J_st (st' := []) rfl ?_
  refine J_aload_n C rfl dX5_doneIn_11 ?_
  refine J_get C 0 1 in5 rfl rfl (by decide) k218 rfl dX5_doneIn_12 ?_
  refine J_callV (as := []) (rest := []) C (ct_runDone l G a1 σ d hI hD ht) (fun u => [(ts, .inr (5, [.ref (a 0), .ref (a1 0), .ref (a2 0), .ref hh, .ref (b 0), .int (nI ks)]))] ++ (stW G a σ d ++ stW G a1 u d)) [12, 13, 14, 15, 16, 17, 18, 19, 20, 21, 22] [0, 1, 2, 3, 4, 5, 6, 7, 8, 9, 10, 11] 0 k517 k518 k519 k11 k520 rfl (by decide +kernel) ⟨Nat.le_of_ble_eq_true rfl, Nat.le_of_ble_eq_true rfl⟩ ⟨Nat.le_of_ble_eq_true rfl, Nat.le_of_ble_eq_true rfl⟩ dX5_doneIn_15 (Nat.le_of_ble_eq_true rfl) 12 rfl rfl rfl (by decide +kernel) (fun _ => rfl) ([(ts, .inr (5, [.ref (a 0), .ref (a1 0), .ref (a2 0), .ref hh, .ref (b 0), .int (nI ks)]))] ++ stW G a σ d) rfl (fun _ => rfl) 23 (fun _ => rfl) (by decide +kernel) (by decide +kernel) (fun u _ => ?_)
  refine J_st (st' := [.int (dnF 2001 0 σ)]) rfl ?_
  exact J_zret C hr rfl dX5_doneIn_18 u rfl trivial rfl

set_option maxHeartbeats 4000000 in
set_option maxRecDepth 100000 in
theorem ct_unlikePairs (l : Launch) (G : GT) (ts : Nat) (a a1 a2 : Nat → Nat) (hh : Nat) (b : Nat → Nat) (ks : Nat) (σ : AS) (d : Nat → Nat)  (hI : Inv σ) : Ct (S := Unit) l G NoX yX5_unlikePairs (Wy yX5_unlikePairs cX5_unlikePairs 4 ((Option.some Jvm.ClassFile.FieldType.int))) { frames := 3, cells := 0, slots := 0, locals := 64 } [.ref ts] ([(ts, .inr (5, [.ref (a 0), .ref (a1 0), .ref (a2 0), .ref hh, .ref (b 0), .int (nI ks)]))] ++ stW G a σ d) (fun u => True) (fun u => some (.int (nI (sumN (unl σ) (σ 0 4 / 2))))) (fun u => [(ts, .inr (5, [.ref (a 0), .ref (a1 0), .ref (a2 0), .ref hh, .ref (b 0), .int (nI ks)]))] ++ stW G a σ d) := by
  refine Ct.of (by decide) (Nat.le_of_ble_eq_true rfl) (fun p e s m args below meth c C hr hnm hX => ?_)
  have h40 := hI.a
  have hc := hI.c
  have hi := hI.i
  have hs := hI.s
  refine J_aload_n C rfl dX5_unlikePairs_0 ?_
  refine J_get C 0 0 in5 rfl rfl (by decide) k217 rfl dX5_unlikePairs_1 ?_
  refine J_getN C 1 0 in4 rfl rfl (by decide) nfTwoScribes_55 rfl dX5_unlikePairs_4 ?_
  refine J_astore_n C [(1, .ref (a 1)), (0, .ref ts)] (by decide) rfl dX5_unlikePairs_7 ?_
  refine J_iconst C 0 (by decide) dX5_unlikePairs_8 ?_
  refine J_istore_n C [(2, .int 0), (1, .ref (a 1)), (0, .ref ts)] (by decide) rfl dX5_unlikePairs_9 ?_
  refine J_iconst C 0 (by decide) dX5_unlikePairs_10 ?_
  refine J_istore_n C [(3, .int 0), (2, .int 0), (1, .ref (a 1)), (0, .ref ts)] (by decide) rfl dX5_unlikePairs_11 ?_
  refine J_lvp [3, 2, 1, 0] [(0, .ref ts), (1, .ref (a 1)), (2, .int 0), (3, .int 0)] rfl ?_
  refine J_loop (fun _ => [(ts, .inr (5, [.ref (a 0), .ref (a1 0), .ref (a2 0), .ref hh, .ref (b 0), .int (nI ks)]))] ++ stW G a σ d) (fun i => [(0, .ref ts), (1, .ref (a 1)), (2, .int (nI (sumN (unl σ) i))), (3, .int (nI i))]) (fun i => i ≤ σ 0 4 / 2) (fun i => σ 0 4 / 2 - i) (fun i hi ih => ?_) 0 (Nat.zero_le _) rfl rfl
  refine J_iload_n C rfl dX5_unlikePairs_12 ?_
  refine J_aload_n C rfl dX5_unlikePairs_13 ?_
  refine J_getN C 2 6 in1 rfl rfl (by decide) nfTwoScribes_59 rfl dX5_unlikePairs_14 ?_
  refine J_iconst C 2 (by decide) dX5_unlikePairs_17 ?_
  refine J_idiv C (by decide) dX5_unlikePairs_18 ?_
  refine J_i (pk_div (a := σ 0 4) (d := 2) (by omega) (by omega) (by omega) : ((nI (σ 0 4)) / 2 : Int32) = (nI ((σ 0 4) / 2))) ?_
  refine J_icmp_ge C 44 (by decide) dX5_unlikePairs_19 (fun c19 => ?_) (fun c19 => ?_)
  · skip
    have c19 := cv_ge_t (a := i) (b := ((σ 0 4) / 2)) (by omega) (by omega) c19
    refine J_iload_n C rfl dX5_unlikePairs_44 ?_
    exact J_zret C hr rfl dX5_unlikePairs_45 () (by rw [show i = σ 0 4 / 2 from by omega]) trivial rfl
  · skip
    have c19 := cv_ge_f (a := i) (b := ((σ 0 4) / 2)) (by omega) (by omega) c19
    refine J_aload_n C rfl dX5_unlikePairs_22 ?_
    refine J_iload_n C rfl dX5_unlikePairs_23 ?_
    refine J_aload_n C rfl dX5_unlikePairs_24 ?_
    refine J_iload_n C rfl dX5_unlikePairs_25 ?_
    refine J_callV (as := [.int (nI i)]) (rest := [.int (nI i), .ref (a 1)]) C (ct_mirrorOf l G a σ d i (by omega) (by omega)) (fun u => [(ts, .inr (5, [.ref (a 0), .ref (a1 0), .ref (a2 0), .ref hh, .ref (b 0), .int (nI ks)]))] ++ stW G a σ d) [2, 3, 4, 5, 6, 7, 8] [0, 1, 9, 10, 11] 1 k438 k344 k345 k12 k346 rfl (by decide +kernel) ⟨Nat.le_of_ble_eq_true rfl, Nat.le_of_ble_eq_true rfl⟩ ⟨Nat.le_of_ble_eq_true rfl, Nat.le_of_ble_eq_true rfl⟩ dX5_unlikePairs_26 (Nat.le_of_ble_eq_true rfl) 2 rfl rfl rfl (by decide +kernel) (fun _ => rfl) ([(ts, .inr (5, [.ref (a 0), .ref (a1 0), .ref (a2 0), .ref hh, .ref (b 0), .int (nI ks)]))] ++ [(a 0, .inr (4, [.ref (a 1), .ref (a 8), .ref (a 9), .ref (a 10), .float (fl (σ 0 6)), .float (fl (σ 0 7)), .float (fl (σ 0 8)), .int (nI (σ 0 3)), .int (nI (σ 0 9)), .int (nI (σ 0 10)), .int (nI (σ 0 11))])), (a 8, .inr (3, [.int (nI (σ 0 12)), .int (nI (σ 0 14)), .int (nI (σ 0 16)), .int (nI (σ 0 18)), .int (nI (σ 0 20)), .int (nI (σ 0 22)), .float (fl (σ 0 24))])), (a 9, .inr (3, [.int (nI (σ 0 13)), .int (nI (σ 0 15)), .int (nI (σ 0 17)), .int (nI (σ 0 19)), .int (nI (σ 0 21)), .int (nI (σ 0 23)), .float (fl (σ 0 25))])), (a 10, .inl (G.2.1, 3, .inl (fun q => nI (σ 7 q))))]) rfl (fun _ => rfl) 12 (fun _ => rfl) (by decide +kernel) (by decide +kernel) (fun _ _ => ?_)
    refine J_st (st' := [.int (nI (σ 0 4 - 1 - i)), .int (nI i), .ref (a 1)]) rfl ?_
    refine J_callV (as := [.int (nI i), .int (nI (σ 0 4 - 1 - i))]) (rest := []) C (ct_areUnlike l G a σ d i (σ 0 4 - 1 - i) hI (by omega) (by omega)) (fun u => [(ts, .inr (5, [.ref (a 0), .ref (a1 0), .ref (a2 0), .ref hh, .ref (b 0), .int (nI ks)]))] ++ stW G a σ d) [2, 3, 4, 5, 6, 7, 8] [0, 1, 9, 10, 11] 2 k531 k532 k533 k12 k534 rfl (by decide +kernel) ⟨Nat.le_of_ble_eq_true rfl, Nat.le_of_ble_eq_true rfl⟩ ⟨Nat.le_of_ble_eq_true rfl, Nat.le_of_ble_eq_true rfl⟩ dX5_unlikePairs_29 (Nat.le_of_ble_eq_true rfl) 2 rfl rfl rfl (by decide +kernel) (fun _ => rfl) ([(ts, .inr (5, [.ref (a 0), .ref (a1 0), .ref (a2 0), .ref hh, .ref (b 0), .int (nI ks)]))] ++ [(a 0, .inr (4, [.ref (a 1), .ref (a 8), .ref (a 9), .ref (a 10), .float (fl (σ 0 6)), .float (fl (σ 0 7)), .float (fl (σ 0 8)), .int (nI (σ 0 3)), .int (nI (σ 0 9)), .int (nI (σ 0 10)), .int (nI (σ 0 11))])), (a 8, .inr (3, [.int (nI (σ 0 12)), .int (nI (σ 0 14)), .int (nI (σ 0 16)), .int (nI (σ 0 18)), .int (nI (σ 0 20)), .int (nI (σ 0 22)), .float (fl (σ 0 24))])), (a 9, .inr (3, [.int (nI (σ 0 13)), .int (nI (σ 0 15)), .int (nI (σ 0 17)), .int (nI (σ 0 19)), .int (nI (σ 0 21)), .int (nI (σ 0 23)), .float (fl (σ 0 25))])), (a 10, .inl (G.2.1, 3, .inl (fun q => nI (σ 7 q))))]) rfl (fun _ => rfl) 12 (fun _ => rfl) (by decide +kernel) (by decide +kernel) (fun _ _ => ?_)
    refine J_st (st' := [.int (if 0 < σ 3 i ∧ 0 < σ 3 (σ 0 4 - 1 - i) ∧ ¬ σ 3 i = σ 3 (σ 0 4 - 1 - i) then 1 else 0)]) rfl ?_
    refine J_if_eq C 38 (by decide) dX5_unlikePairs_32 (fun c32 => ?_) (fun c32 => ?_)
    · skip
      have c32 : ¬ (0 < σ 3 i ∧ 0 < σ 3 (σ 0 4 - 1 - i) ∧ ¬ σ 3 i = σ 3 (σ 0 4 - 1 - i)) := fun q => by rw [if_pos q] at c32; exact absurd c32 (by decide)
      have hsum : nI (sumN (unl σ) i) = nI (sumN (unl σ) (i + 1)) := by show _ = nI (sumN (unl σ) i + (unl σ) i); rw [show (unl σ) i = 0 from if_neg (by omega)]; rfl
      rw [hsum]
      refine J_iinc C (nI (i + 1)) [(3, .int (nI (i + 1))), (0, .ref ts), (1, .ref (a 1)), (2, .int (nI (sumN (unl σ) (i + 1))))] 3 rfl (by first | exact nI_add _ 1 | rfl) (by decide) rfl dX5_unlikePairs_38 ?_
      refine J_goto C 12 (by decide) dX5_unlikePairs_41 ?_
      refine J_lvp [1, 2, 3, 0] [(0, .ref ts), (1, .ref (a 1)), (2, .int (nI (sumN (unl σ) (i + 1)))), (3, .int (nI (i + 1)))] rfl ?_
      exact ih (i + 1) (by omega) (by omega)
    · skip
      have c32 : 0 < σ 3 i ∧ 0 < σ 3 (σ 0 4 - 1 - i) ∧ ¬ σ 3 i = σ 3 (σ 0 4 - 1 - i) := Classical.byContradiction fun q => c32 (by rw [if_neg q])
      refine J_iinc C (nI (sumN (unl σ) i + 1)) [(2, .int (nI (sumN (unl σ) i + 1))), (0, .ref ts), (1, .ref (a 1)), (3, .int (nI i))] 2 rfl (by first | exact nI_add _ 1 | rfl) (by decide) rfl dX5_unlikePairs_35 ?_
      have hsum : nI (sumN (unl σ) i + 1) = nI (sumN (unl σ) (i + 1)) := by show _ = nI (sumN (unl σ) i + (unl σ) i); rw [show (unl σ) i = 1 from if_pos (by omega)]
      rw [hsum]
      refine J_iinc C (nI (i + 1)) [(3, .int (nI (i + 1))), (2, .int (nI (sumN (unl σ) (i + 1)))), (0, .ref ts), (1, .ref (a 1))] 3 rfl (by first | exact nI_add _ 1 | rfl) (by decide) rfl dX5_unlikePairs_38 ?_
      refine J_goto C 12 (by decide) dX5_unlikePairs_41 ?_
      refine J_lvp [2, 3, 1, 0] [(0, .ref ts), (1, .ref (a 1)), (2, .int (nI (sumN (unl σ) (i + 1)))), (3, .int (nI (i + 1)))] rfl ?_
      exact ih (i + 1) (by omega) (by omega)

set_option maxHeartbeats 4000000 in
set_option maxRecDepth 100000 in
theorem ct_unlikeReadings (l : Launch) (G : GT) (ts : Nat) (a a1 a2 : Nat → Nat) (hh : Nat) (b : Nat → Nat) (ks : Nat) (σ : AS) (d : Nat → Nat)  (hI : Inv σ) : Ct (S := Unit) l G NoX yX5_unlikeReadings (Wy yX5_unlikeReadings cX5_unlikeReadings 5 ((Option.some Jvm.ClassFile.FieldType.int))) { frames := 3, cells := 0, slots := 0, locals := 64 } [.ref ts] ([(ts, .inr (5, [.ref (a 0), .ref (a1 0), .ref (a2 0), .ref hh, .ref (b 0), .int (nI ks)]))] ++ stW G a σ d) (fun u => True) (fun u => some (.int (nI (sumN (unl σ) (σ 0 4) / 2)))) (fun u => [(ts, .inr (5, [.ref (a 0), .ref (a1 0), .ref (a2 0), .ref hh, .ref (b 0), .int (nI ks)]))] ++ stW G a σ d) := by
  refine Ct.of (by decide) (Nat.le_of_ble_eq_true rfl) (fun p e s m args below meth c C hr hnm hX => ?_)
  have h40 := hI.a
  have hc := hI.c
  have hi := hI.i
  have hs := hI.s
  have hsl : sumN (unl σ) (σ 0 4) ≤ σ 0 4 * 1 := sumN_le _ (fun q _ => by unfold unl; split <;> omega)
  refine J_aload_n C rfl dX5_unlikeReadings_0 ?_
  refine J_get C 0 0 in5 rfl rfl (by decide) k217 rfl dX5_unlikeReadings_1 ?_
  refine J_getN C 1 0 in4 rfl rfl (by decide) nfTwoScribes_55 rfl dX5_unlikeReadings_4 ?_
  refine J_astore_n C [(1, .ref (a 1)), (0, .ref ts)] (by decide) rfl dX5_unlikeReadings_7 ?_
  refine J_iconst C 0 (by decide) dX5_unlikeReadings_8 ?_
  refine J_istore_n C [(2, .int 0), (1, .ref (a 1)), (0, .ref ts)] (by decide) rfl dX5_unlikeReadings_9 ?_
  refine J_aload_n C rfl dX5_unlikeReadings_10 ?_
  refine J_getN C 2 6 in1 rfl rfl (by decide) nfTwoScribes_59 rfl dX5_unlikeReadings_11 ?_
  refine J_istore_n C [(3, .int (nI (σ 0 4))), (2, .int 0), (1, .ref (a 1)), (0, .ref ts)] (by decide) rfl dX5_unlikeReadings_14 ?_
  refine J_iconst C 0 (by decide) dX5_unlikeReadings_15 ?_
  refine J_istore C [(4, .int 0), (3, .int (nI (σ 0 4))), (2, .int 0), (1, .ref (a 1)), (0, .ref ts)] (by decide) rfl dX5_unlikeReadings_16 ?_
  refine J_lvp [4, 3, 2, 1, 0] [(0, .ref ts), (1, .ref (a 1)), (2, .int 0), (3, .int (nI (σ 0 4))), (4, .int 0)] rfl ?_
  refine J_loop (fun _ => [(ts, .inr (5, [.ref (a 0), .ref (a1 0), .ref (a2 0), .ref hh, .ref (b 0), .int (nI ks)]))] ++ stW G a σ d) (fun i => [(0, .ref ts), (1, .ref (a 1)), (2, .int (nI (sumN (unl σ) i))), (3, .int (nI (σ 0 4 - i))), (4, .int (nI i))]) (fun i => i ≤ σ 0 4) (fun i => σ 0 4 - i) (fun i hi ih => ?_) 0 (Nat.zero_le _) rfl rfl
  refine J_iload C rfl dX5_unlikeReadings_18 ?_
  refine J_aload_n C rfl dX5_unlikeReadings_20 ?_
  refine J_getN C 2 6 in1 rfl rfl (by decide) nfTwoScribes_59 rfl dX5_unlikeReadings_21 ?_
  refine J_icmp_ge C 49 (by decide) dX5_unlikeReadings_24 (fun c24 => ?_) (fun c24 => ?_)
  · skip
    have c24 := cv_ge_t (a := i) (b := (σ 0 4)) (by omega) (by omega) c24
    have hie : i = σ 0 4 := by omega
    rw [hie]
    refine J_iload_n C rfl dX5_unlikeReadings_49 ?_
    refine J_iconst C 2 (by decide) dX5_unlikeReadings_50 ?_
    refine J_idiv C (by decide) dX5_unlikeReadings_51 ?_
    refine J_i (pk_div (a := sumN (unl σ) (σ 0 4)) (d := 2) (by omega) (by omega) (by omega) : ((nI (sumN (unl σ) (σ 0 4))) / 2 : Int32) = (nI ((sumN (unl σ) (σ 0 4)) / 2))) ?_
    exact J_zret C hr rfl dX5_unlikeReadings_52 () rfl trivial rfl
  · skip
    have c24 := cv_ge_f (a := i) (b := (σ 0 4)) (by omega) (by omega) c24
    refine J_iinc C (nI (σ 0 4 - 1 - i)) [(3, .int (nI (σ 0 4 - 1 - i))), (0, .ref ts), (1, .ref (a 1)), (2, .int (nI (sumN (unl σ) i))), (4, .int (nI i))] 3 rfl (by rw [show σ 0 4 - i = (σ 0 4 - 1 - i) + 1 by omega]; exact pk_m1 _) (by decide) rfl dX5_unlikeReadings_27 ?_
    refine J_aload_n C rfl dX5_unlikeReadings_30 ?_
    refine J_iload C rfl dX5_unlikeReadings_31 ?_
    refine J_iload_n C rfl dX5_unlikeReadings_33 ?_
    refine J_callV (as := [.int (nI i), .int (nI (σ 0 4 - 1 - i))]) (rest := []) C (ct_areUnlike l G a σ d i (σ 0 4 - 1 - i) hI (by omega) (by omega)) (fun u => [(ts, .inr (5, [.ref (a 0), .ref (a1 0), .ref (a2 0), .ref hh, .ref (b 0), .int (nI ks)]))] ++ stW G a σ d) [2, 3, 4, 5, 6, 7, 8] [0, 1, 9, 10, 11] 2 k531 k532 k533 k12 k534 rfl (by decide +kernel) ⟨Nat.le_of_ble_eq_true rfl, Nat.le_of_ble_eq_true rfl⟩ ⟨Nat.le_of_ble_eq_true rfl, Nat.le_of_ble_eq_true rfl⟩ dX5_unlikeReadings_34 (Nat.le_of_ble_eq_true rfl) 2 rfl rfl rfl (by decide +kernel) (fun _ => rfl) ([(ts, .inr (5, [.ref (a 0), .ref (a1 0), .ref (a2 0), .ref hh, .ref (b 0), .int (nI ks)]))] ++ [(a 0, .inr (4, [.ref (a 1), .ref (a 8), .ref (a 9), .ref (a 10), .float (fl (σ 0 6)), .float (fl (σ 0 7)), .float (fl (σ 0 8)), .int (nI (σ 0 3)), .int (nI (σ 0 9)), .int (nI (σ 0 10)), .int (nI (σ 0 11))])), (a 8, .inr (3, [.int (nI (σ 0 12)), .int (nI (σ 0 14)), .int (nI (σ 0 16)), .int (nI (σ 0 18)), .int (nI (σ 0 20)), .int (nI (σ 0 22)), .float (fl (σ 0 24))])), (a 9, .inr (3, [.int (nI (σ 0 13)), .int (nI (σ 0 15)), .int (nI (σ 0 17)), .int (nI (σ 0 19)), .int (nI (σ 0 21)), .int (nI (σ 0 23)), .float (fl (σ 0 25))])), (a 10, .inl (G.2.1, 3, .inl (fun q => nI (σ 7 q))))]) rfl (fun _ => rfl) 12 (fun _ => rfl) (by decide +kernel) (by decide +kernel) (fun _ _ => ?_)
    refine J_st (st' := [.int (if 0 < σ 3 i ∧ 0 < σ 3 (σ 0 4 - 1 - i) ∧ ¬ σ 3 i = σ 3 (σ 0 4 - 1 - i) then 1 else 0)]) rfl ?_
    refine J_if_eq C 43 (by decide) dX5_unlikeReadings_37 (fun c37 => ?_) (fun c37 => ?_)
    · skip
      have c37 : ¬ (0 < σ 3 i ∧ 0 < σ 3 (σ 0 4 - 1 - i) ∧ ¬ σ 3 i = σ 3 (σ 0 4 - 1 - i)) := fun q => by rw [if_pos q] at c37; exact absurd c37 (by decide)
      have hsum : nI (sumN (unl σ) i) = nI (sumN (unl σ) (i + 1)) := by show _ = nI (sumN (unl σ) i + (unl σ) i); rw [show (unl σ) i = 0 from if_neg (by omega)]; rfl
      rw [hsum]
      refine J_iinc C (nI (i + 1)) [(4, .int (nI (i + 1))), (3, .int (nI (σ 0 4 - 1 - i))), (0, .ref ts), (1, .ref (a 1)), (2, .int (nI (sumN (unl σ) (i + 1))))] 4 rfl (by first | exact nI_add _ 1 | rfl) (by decide) rfl dX5_unlikeReadings_43 ?_
      rw [show σ 0 4 - 1 - i = σ 0 4 - (i + 1) from by omega]
      refine J_goto C 18 (by decide) dX5_unlikeReadings_46 ?_
      refine J_lvp [2, 3, 4, 1, 0] [(0, .ref ts), (1, .ref (a 1)), (2, .int (nI (sumN (unl σ) (i + 1)))), (3, .int (nI (σ 0 4 - (i + 1)))), (4, .int (nI (i + 1)))] rfl ?_
      exact ih (i + 1) (by omega) (by omega)
    · skip
      have c37 : 0 < σ 3 i ∧ 0 < σ 3 (σ 0 4 - 1 - i) ∧ ¬ σ 3 i = σ 3 (σ 0 4 - 1 - i) := Classical.byContradiction fun q => c37 (by rw [if_neg q])
      refine J_iinc C (nI (sumN (unl σ) i + 1)) [(2, .int (nI (sumN (unl σ) i + 1))), (3, .int (nI (σ 0 4 - 1 - i))), (0, .ref ts), (1, .ref (a 1)), (4, .int (nI i))] 3 rfl (by first | exact nI_add _ 1 | rfl) (by decide) rfl dX5_unlikeReadings_40 ?_
      have hsum : nI (sumN (unl σ) i + 1) = nI (sumN (unl σ) (i + 1)) := by show _ = nI (sumN (unl σ) i + (unl σ) i); rw [show (unl σ) i = 1 from if_pos (by omega)]
      rw [hsum]
      refine J_iinc C (nI (i + 1)) [(4, .int (nI (i + 1))), (2, .int (nI (sumN (unl σ) (i + 1)))), (3, .int (nI (σ 0 4 - 1 - i))), (0, .ref ts), (1, .ref (a 1))] 4 rfl (by first | exact nI_add _ 1 | rfl) (by decide) rfl dX5_unlikeReadings_43 ?_
      rw [show σ 0 4 - 1 - i = σ 0 4 - (i + 1) from by omega]
      refine J_goto C 18 (by decide) dX5_unlikeReadings_46 ?_
      refine J_lvp [3, 4, 1, 2, 0] [(0, .ref ts), (1, .ref (a 1)), (2, .int (nI (sumN (unl σ) (i + 1)))), (3, .int (nI (σ 0 4 - (i + 1)))), (4, .int (nI (i + 1)))] rfl ?_
      exact ih (i + 1) (by omega) (by omega)

set_option maxHeartbeats 4000000 in
set_option maxRecDepth 100000 in
theorem ct_needed (l : Launch) (G : GT) (ts : Nat) (a a1 a2 : Nat → Nat) (hh : Nat) (b : Nat → Nat) (ks : Nat) (σ : AS) (d : Nat → Nat)  (hI : Inv σ) (hD : DOK σ d) : Ct (S := Unit) l G NoX yX5_needed (Wy yX5_needed cX5_needed 4 ((Option.some Jvm.ClassFile.FieldType.double))) { frames := 2, cells := 0, slots := 0, locals := 43 } [.ref ts] ([(ts, .inr (5, [.ref (a 0), .ref (a1 0), .ref (a2 0), .ref hh, .ref (b 0), .int (nI ks)]))] ++ stW G a σ d) (fun u => True) (fun u => some (.double (dl (sumN (ndF σ) (σ 0 4))))) (fun u => [(ts, .inr (5, [.ref (a 0), .ref (a1 0), .ref (a2 0), .ref hh, .ref (b 0), .int (nI ks)]))] ++ stW G a σ d) := by
  refine Ct.of (by decide) (Nat.le_of_ble_eq_true rfl) (fun p e s m args below meth c C hr hnm hX => ?_)
  have h40 := hI.a
  have hc := hI.c
  have hi := hI.i
  have hs := hI.s
  have hnl : ∀ k, k ≤ σ 0 4 → sumN (ndF σ) k ≤ k * 26 := fun k hk => sumN_le _ (fun q hq => by have h1 := hI.let (p := q) (by omega); unfold ndF; split <;> omega)
  refine J_aload_n C rfl dX5_needed_0 ?_
  refine J_get C 0 0 in5 rfl rfl (by decide) k217 rfl dX5_needed_1 ?_
  refine J_getN C 1 0 in4 rfl rfl (by decide) nfTwoScribes_55 rfl dX5_needed_4 ?_
  refine J_astore_n C [(1, .ref (a 1)), (0, .ref ts)] (by decide) rfl dX5_needed_7 ?_
  refine J_fconst0 C dX5_needed_8 ?_
  refine J_f (fl_0 : (FP.fconst0 : UInt32) = (fl 0)) ?_
  refine J_fstore_n C [(2, .float (fl 0)), (1, .ref (a 1)), (0, .ref ts)] (by decide) rfl dX5_needed_9 ?_
  refine J_iconst C 0 (by decide) dX5_needed_10 ?_
  refine J_istore_n C [(3, .int 0), (2, .float (fl 0)), (1, .ref (a 1)), (0, .ref ts)] (by decide) rfl dX5_needed_11 ?_
  refine J_lvp [3, 2, 1, 0] [(0, .ref ts), (1, .ref (a 1)), (2, .float (fl 0)), (3, .int 0)] rfl ?_
  refine J_loop (fun _ => [(ts, .inr (5, [.ref (a 0), .ref (a1 0), .ref (a2 0), .ref hh, .ref (b 0), .int (nI ks)]))] ++ stW G a σ d) (fun i => [(0, .ref ts), (1, .ref (a 1)), (2, .float (fl (sumN (ndF σ) i))), (3, .int (nI i))]) (fun i => i ≤ σ 0 4) (fun i => σ 0 4 - i) (fun i hi ih => ?_) 0 (Nat.zero_le _) rfl rfl
  refine J_iload_n C rfl dX5_needed_12 ?_
  refine J_aload_n C rfl dX5_needed_13 ?_
  refine J_getN C 2 6 in1 rfl rfl (by decide) nfTwoScribes_59 rfl dX5_needed_14 ?_
  refine J_icmp_ge C 45 (by decide) dX5_needed_17 (fun c17 => ?_) (fun c17 => ?_)
  · skip
    have c17 := cv_ge_t (a := i) (b := (σ 0 4)) (by omega) (by omega) c17
    have hie : i = σ 0 4 := by omega
    have hb9 := hnl i hi
    refine J_fload_n C rfl dX5_needed_45 ?_
    refine J_f2d C (by rw [fl_f2d (n := sumN (ndF σ) i) (by omega)]; exact dl_num (by omega)) dX5_needed_46 ?_
    refine J_d (fl_f2d (n := sumN (ndF σ) i) (by omega) : (FP.f2d (fl (sumN (ndF σ) i)) : UInt64) = (dl (sumN (ndF σ) i))) ?_
    exact J_dret C hr dX5_needed_47 () (by rw [hie]) trivial rfl
  · skip
    have c17 := cv_ge_f (a := i) (b := (σ 0 4)) (by omega) (by omega) c17
    have hq := hI.q (q := i) (by omega)
    have hlt := hI.let (p := i) (by omega)
    have hb9 := hnl i hi
    refine J_aload_n C rfl dX5_needed_20 ?_
    refine J_iload_n C rfl dX5_needed_21 ?_
    refine J_callV (as := [.int (nI i)]) (rest := []) C (ct_isWritten l G a σ d i (by omega) (by omega)) (fun u => [(ts, .inr (5, [.ref (a 0), .ref (a1 0), .ref (a2 0), .ref hh, .ref (b 0), .int (nI ks)]))] ++ stW G a σ d) [2, 3, 4, 5, 6, 7, 8] [0, 1, 9, 10, 11] 1 k439 k364 k365 k12 k366 rfl (by decide +kernel) ⟨Nat.le_of_ble_eq_true rfl, Nat.le_of_ble_eq_true rfl⟩ ⟨Nat.le_of_ble_eq_true rfl, Nat.le_of_ble_eq_true rfl⟩ dX5_needed_22 (Nat.le_of_ble_eq_true rfl) 2 rfl rfl rfl (by decide +kernel) (fun _ => rfl) ([(ts, .inr (5, [.ref (a 0), .ref (a1 0), .ref (a2 0), .ref hh, .ref (b 0), .int (nI ks)]))] ++ [(a 0, .inr (4, [.ref (a 1), .ref (a 8), .ref (a 9), .ref (a 10), .float (fl (σ 0 6)), .float (fl (σ 0 7)), .float (fl (σ 0 8)), .int (nI (σ 0 3)), .int (nI (σ 0 9)), .int (nI (σ 0 10)), .int (nI (σ 0 11))])), (a 8, .inr (3, [.int (nI (σ 0 12)), .int (nI (σ 0 14)), .int (nI (σ 0 16)), .int (nI (σ 0 18)), .int (nI (σ 0 20)), .int (nI (σ 0 22)), .float (fl (σ 0 24))])), (a 9, .inr (3, [.int (nI (σ 0 13)), .int (nI (σ 0 15)), .int (nI (σ 0 17)), .int (nI (σ 0 19)), .int (nI (σ 0 21)), .int (nI (σ 0 23)), .float (fl (σ 0 25))])), (a 10, .inl (G.2.1, 3, .inl (fun q => nI (σ 7 q))))]) rfl (fun _ => rfl) 12 (fun _ => rfl) (by decide +kernel) (by decide +kernel) (fun _ _ => ?_)
    refine J_st (st' := [.int (if 0 < σ 3 i then 1 else 0)]) rfl ?_
    refine J_if_ne C 39 (by decide) dX5_needed_25 (fun c25 => ?_) (fun c25 => ?_)
    · skip
      have c25 : 0 < σ 3 i := Classical.byContradiction fun q => c25 (by rw [if_neg q])
      have hsum : fl (sumN (ndF σ) i) = fl (sumN (ndF σ) (i + 1)) := by show _ = fl (sumN (ndF σ) i + ndF σ i); rw [show ndF σ i = 0 from if_pos (by omega)]; rfl
      rw [hsum]
      refine J_iinc C (nI (i + 1)) [(3, .int (nI (i + 1))), (0, .ref ts), (1, .ref (a 1)), (2, .float (fl (sumN (ndF σ) (i + 1))))] 3 rfl (by first | exact nI_add _ 1 | rfl) (by decide) rfl dX5_needed_39 ?_
      refine J_goto C 12 (by decide) dX5_needed_42 ?_
      refine J_lvp [1, 2, 3, 0] [(0, .ref ts), (1, .ref (a 1)), (2, .float (fl (sumN (ndF σ) (i + 1)))), (3, .int (nI (i + 1)))] rfl ?_
      exact ih (i + 1) (by omega) (by omega)
    · skip
      have c25 : ¬ (0 < σ 3 i) := fun q => by rw [if_pos q] at c25; exact absurd c25 (by decide)
      refine J_fload_n C rfl dX5_needed_28 ?_
      refine J_aload_n C rfl dX5_needed_29 ?_
      refine J_iload_n C rfl dX5_needed_30 ?_
      refine J_callV (as := [.int (nI i)]) (rest := [.float (fl (sumN (ndF σ) i))]) C (ct_letterFor l G a σ d i hI hD (by omega)) (fun u => [(ts, .inr (5, [.ref (a 0), .ref (a1 0), .ref (a2 0), .ref hh, .ref (b 0), .int (nI ks)]))] ++ stW G a σ d) [2, 3, 4, 5, 6, 7, 8] [0, 1, 9, 10, 11] 1 k377 k378 k379 k12 k380 rfl (by decide +kernel) ⟨Nat.le_of_ble_eq_true rfl, Nat.le_of_ble_eq_true rfl⟩ ⟨Nat.le_of_ble_eq_true rfl, Nat.le_of_ble_eq_true rfl⟩ dX5_needed_31 (Nat.le_of_ble_eq_true rfl) 2 rfl rfl rfl (by decide +kernel) (fun _ => rfl) ([(ts, .inr (5, [.ref (a 0), .ref (a1 0), .ref (a2 0), .ref hh, .ref (b 0), .int (nI ks)]))] ++ [(a 0, .inr (4, [.ref (a 1), .ref (a 8), .ref (a 9), .ref (a 10), .float (fl (σ 0 6)), .float (fl (σ 0 7)), .float (fl (σ 0 8)), .int (nI (σ 0 3)), .int (nI (σ 0 9)), .int (nI (σ 0 10)), .int (nI (σ 0 11))])), (a 8, .inr (3, [.int (nI (σ 0 12)), .int (nI (σ 0 14)), .int (nI (σ 0 16)), .int (nI (σ 0 18)), .int (nI (σ 0 20)), .int (nI (σ 0 22)), .float (fl (σ 0 24))])), (a 9, .inr (3, [.int (nI (σ 0 13)), .int (nI (σ 0 15)), .int (nI (σ 0 17)), .int (nI (σ 0 19)), .int (nI (σ 0 21)), .int (nI (σ 0 23)), .float (fl (σ 0 25))])), (a 10, .inl (G.2.1, 3, .inl (fun q => nI (σ 7 q))))]) rfl (fun _ => rfl) 12 (fun _ => rfl) (by decide +kernel) (by decide +kernel) (fun _ _ => ?_)
      refine J_st (st' := [.int (nI (letAt σ i)), .float (fl (sumN (ndF σ) i))]) rfl ?_
      refine J_callS (as := [.int (nI (letAt σ i))]) (rest := [.float (fl (sumN (ndF σ) i))]) C (ct_inkFor l G (letAt σ i) (by omega)) (fun u => [(ts, .inr (5, [.ref (a 0), .ref (a1 0), .ref (a2 0), .ref hh, .ref (b 0), .int (nI ks)]))] ++ stW G a σ d) [] [0, 1, 2, 3, 4, 5, 6, 7, 8, 9, 10, 11] 1 k512 k450 k10 k451 rfl (by decide +kernel) ⟨Nat.le_of_ble_eq_true rfl, Nat.le_of_ble_eq_true rfl⟩ ⟨Nat.le_of_ble_eq_true rfl, Nat.le_of_ble_eq_true rfl⟩ dX5_needed_34 (Nat.le_of_ble_eq_true rfl) rfl (by decide +kernel) (fun _ => rfl) ([(ts, .inr (5, [.ref (a 0), .ref (a1 0), .ref (a2 0), .ref hh, .ref (b 0), .int (nI ks)]))] ++ stW G a σ d) rfl (fun _ => rfl) 12 (fun _ => rfl) (by decide +kernel) (by decide +kernel) (fun _ _ => ?_)
      refine J_st (st' := [.float (fl (letAt σ i)), .float (fl (sumN (ndF σ) i))]) rfl ?_
      refine J_fadd C (by rw [fl_add (a := sumN (ndF σ) i) (b := letAt σ i) (by omega)]; exact fl_num (by omega)) dX5_needed_37 ?_
      refine J_f (fl_add (a := sumN (ndF σ) i) (b := letAt σ i) (by omega) : (FP.fadd (fl (sumN (ndF σ) i)) (fl (letAt σ i)) : UInt32) = (fl (sumN (ndF σ) i + letAt σ i))) ?_
      refine J_fstore_n C [(2, .float (fl (sumN (ndF σ) i + letAt σ i))), (0, .ref ts), (1, .ref (a 1)), (3, .int (nI i))] (by decide) rfl dX5_needed_38 ?_
      have hsum : fl (sumN (ndF σ) i + letAt σ i) = fl (sumN (ndF σ) (i + 1)) := by show _ = fl (sumN (ndF σ) i + ndF σ i); rw [show ndF σ i = letAt σ i from if_neg (by omega)]
      rw [hsum]
      refine J_iinc C (nI (i + 1)) [(3, .int (nI (i + 1))), (2, .float (fl (sumN (ndF σ) (i + 1)))), (0, .ref ts), (1, .ref (a 1))] 3 rfl (by first | exact nI_add _ 1 | rfl) (by decide) rfl dX5_needed_39 ?_
      refine J_goto C 12 (by decide) dX5_needed_42 ?_
      refine J_lvp [2, 3, 1, 0] [(0, .ref ts), (1, .ref (a 1)), (2, .float (fl (sumN (ndF σ) (i + 1)))), (3, .int (nI (i + 1)))] rfl ?_
      exact ih (i + 1) (by omega) (by omega)

set_option maxHeartbeats 4000000 in
set_option maxRecDepth 100000 in
theorem ct_bestPaceN (l : Launch) (G : GT) (ts : Nat) (a a1 a2 : Nat → Nat) (hh : Nat) (b : Nat → Nat) (ks : Nat) (σ : AS) (d : Nat → Nat) (σ1 : AS) (d1 : Nat → Nat) (x : Int32) (hx : ¬ (x = 0 ∨ x = 1)) : Ct (S := Unit) l G NoX yX5_bestPace (Wy yX5_bestPace cX5_bestPace 6 ((Option.some Jvm.ClassFile.FieldType.int))) { frames := 1, cells := 0, slots := 0, locals := 20 } [.ref ts, .int x] ([(ts, .inr (5, [.ref (a 0), .ref (a1 0), .ref (a2 0), .ref hh, .ref (b 0), .int (nI ks)]))] ++ (stW G a σ d ++ stW G a1 σ1 d1)) (fun u => True) (fun u => some (.int (-1))) (fun u => [(ts, .inr (5, [.ref (a 0), .ref (a1 0), .ref (a2 0), .ref hh, .ref (b 0), .int (nI ks)]))] ++ (stW G a σ d ++ stW G a1 σ1 d1)) := by
  refine Ct.of (by decide) (Nat.le_of_ble_eq_true rfl) (fun p e s m args below meth c C hr hnm hX => ?_)
  refine J_iload_n C rfl dX5_bestPace_0 ?_
  refine J_callS (as := [.int x]) (rest := []) C (ct_isScrN l G x hx) (fun u => [(ts, .inr (5, [.ref (a 0), .ref (a1 0), .ref (a2 0), .ref hh, .ref (b 0), .int (nI ks)]))] ++ (stW G a σ d ++ stW G a1 σ1 d1)) [] [0, 1, 2, 3, 4, 5, 6, 7, 8, 9, 10, 11, 12, 13, 14, 15, 16, 17, 18, 19, 20, 21, 22] 1 k409 k410 k10 k411 rfl (by decide +kernel) ⟨Nat.le_of_ble_eq_true rfl, Nat.le_of_ble_eq_true rfl⟩ ⟨Nat.le_of_ble_eq_true rfl, Nat.le_of_ble_eq_true rfl⟩ dX5_bestPace_1 (Nat.le_of_ble_eq_true rfl) rfl (by decide +kernel) (fun _ => rfl) ([(ts, .inr (5, [.ref (a 0), .ref (a1 0), .ref (a2 0), .ref hh, .ref (b 0), .int (nI ks)]))] ++ (stW G a σ d ++ stW G a1 σ1 d1)) rfl (fun _ => rfl) 23 (fun _ => rfl) (by decide +kernel) (by decide +kernel) (fun _ _ => ?_)
  refine J_st (st' := [.int 0]) rfl ?_
  refine J_if_ne C 9 (by decide) dX5_bestPace_4 (fun h => absurd h (by decide)) (fun _ => ?_)
  refine J_iconst C (-1) (by decide) dX5_bestPace_7 ?_
  exact J_zret C hr rfl dX5_bestPace_8 () rfl trivial rfl

set_option maxHeartbeats 4000000 in
set_option maxRecDepth 100000 in
theorem ct_bestPaceD0 (l : Launch) (G : GT) (ts : Nat) (a a1 a2 : Nat → Nat) (hh : Nat) (b : Nat → Nat) (ks : Nat) (σ : AS) (d : Nat → Nat) (σ1 : AS) (d1 : Nat → Nat)  (hI : Inv σ) (hdn : σ 0 4 ≤ σ 0 14 + σ 0 15) : Ct (S := Unit) l G NoX yX5_bestPace (Wy yX5_bestPace cX5_bestPace 6 ((Option.some Jvm.ClassFile.FieldType.int))) { frames := 2, cells := 0, slots := 0, locals := 40 } [.ref ts, .int 0] ([(ts, .inr (5, [.ref (a 0), .ref (a1 0), .ref (a2 0), .ref hh, .ref (b 0), .int (nI ks)]))] ++ (stW G a σ d ++ stW G a1 σ1 d1)) (fun u => True) (fun u => some (.int (-5))) (fun u => [(ts, .inr (5, [.ref (a 0), .ref (a1 0), .ref (a2 0), .ref hh, .ref (b 0), .int (nI ks)]))] ++ (stW G a σ d ++ stW G a1 σ1 d1)) := by
  refine Ct.of (by decide) (Nat.le_of_ble_eq_true rfl) (fun p e s m args below meth c C hr hnm hX => ?_)
  refine J_iload_n C rfl dX5_bestPace_0 ?_
  refine J_callS (as := [.int 0]) (rest := []) C (ct_isScr0 l G ) (fun u => [(ts, .inr (5, [.ref (a 0), .ref (a1 0), .ref (a2 0), .ref hh, .ref (b 0), .int (nI ks)]))] ++ (stW G a σ d ++ stW G a1 σ1 d1)) [] [0, 1, 2, 3, 4, 5, 6, 7, 8, 9, 10, 11, 12, 13, 14, 15, 16, 17, 18, 19, 20, 21, 22] 1 k409 k410 k10 k411 rfl (by decide +kernel) ⟨Nat.le_of_ble_eq_true rfl, Nat.le_of_ble_eq_true rfl⟩ ⟨Nat.le_of_ble_eq_true rfl, Nat.le_of_ble_eq_true rfl⟩ dX5_bestPace_1 (Nat.le_of_ble_eq_true rfl) rfl (by decide +kernel) (fun _ => rfl) ([(ts, .inr (5, [.ref (a 0), .ref (a1 0), .ref (a2 0), .ref hh, .ref (b 0), .int (nI ks)]))] ++ (stW G a σ d ++ stW G a1 σ1 d1)) rfl (fun _ => rfl) 23 (fun _ => rfl) (by decide +kernel) (by decide +kernel) (fun _ _ => ?_)
  refine J_st (st' := [.int 1]) rfl ?_
  refine J_if_ne C 9 (by decide) dX5_bestPace_4 (fun _ => ?_) (fun h => absurd h (by decide))
  refine J_aload_n C rfl dX5_bestPace_9 ?_
  refine J_get C 0 0 in5 rfl rfl (by decide) k217 rfl dX5_bestPace_10 ?_
  refine J_callV (as := []) (rest := []) C (ct_isDone l G a σ d hI) (fun u => [(ts, .inr (5, [.ref (a 0), .ref (a1 0), .ref (a2 0), .ref hh, .ref (b 0), .int (nI ks)]))] ++ (stW G a σ d ++ stW G a1 σ1 d1)) [1, 2, 3, 4, 5, 6, 7, 8, 9, 10, 11] [0, 12, 13, 14, 15, 16, 17, 18, 19, 20, 21, 22] 0 k539 k522 k523 k11 k524 rfl (by decide +kernel) ⟨Nat.le_of_ble_eq_true rfl, Nat.le_of_ble_eq_true rfl⟩ ⟨Nat.le_of_ble_eq_true rfl, Nat.le_of_ble_eq_true rfl⟩ dX5_bestPace_13 (Nat.le_of_ble_eq_true rfl) 1 rfl rfl rfl (by decide +kernel) (fun _ => rfl) ([(ts, .inr (5, [.ref (a 0), .ref (a1 0), .ref (a2 0), .ref hh, .ref (b 0), .int (nI ks)]))] ++ stW G a1 σ1 d1) rfl (fun _ => rfl) 23 (fun _ => rfl) (by decide +kernel) (by decide +kernel) (fun _ _ => ?_)
  refine J_st (st' := [.int (if σ 0 4 ≤ σ 0 14 + σ 0 15 then 1 else 0)]) rfl ?_
  refine J_if_eq C 22 (by decide) dX5_bestPace_16 (fun h => absurd h (fun q => by rw [if_pos (show σ 0 4 ≤ σ 0 14 + σ 0 15 from by first | assumption | omega)] at q; exact absurd q (by decide))) (fun _ => ?_)
  refine J_bipush C (-5) (by decide) dX5_bestPace_19 ?_
  exact J_zret C hr rfl dX5_bestPace_21 () rfl trivial rfl

set_option maxHeartbeats 4000000 in
set_option maxRecDepth 100000 in
theorem ct_bestPace0 (l : Launch) (G : GT) (ts : Nat) (a a1 a2 : Nat → Nat) (hh : Nat) (b : Nat → Nat) (ks : Nat) (σ : AS) (d : Nat → Nat) (σ1 : AS) (d1 : Nat → Nat)  (hI : Inv σ) (hD : DOK σ d) (ht : σ 0 3 ≤ 99999) (hdn : ¬ σ 0 4 ≤ σ 0 14 + σ 0 15) : Ct (S := AS × (Nat → Nat)) l G NoX yX5_bestPace (Wy yX5_bestPace cX5_bestPace 6 ((Option.some Jvm.ClassFile.FieldType.int))) { frames := 6, cells := 0, slots := 0, locals := 138 } [.ref ts, .int 0] ([(ts, .inr (5, [.ref (a 0), .ref (a1 0), .ref (a2 0), .ref hh, .ref (b 0), .int (nI ks)]))] ++ (stW G a σ d ++ stW G a1 σ1 d1)) (fun u => True) (fun u => some (.int ((bpF (bpG σ 0) 9).1))) (fun u => [(ts, .inr (5, [.ref (a 0), .ref (a1 0), .ref (a2 0), .ref hh, .ref (b 0), .int (nI ks)]))] ++ (stW G a σ d ++ stW G a1 u.1 u.2)) := by
  refine Ct.of (by decide) (Nat.le_of_ble_eq_true rfl) (fun p e s m args below meth c C hr hnm hX => ?_)
  have h40 := hI.a
  have hc := hI.c
  have hi := hI.i
  have hs := hI.s
  refine J_iload_n C rfl dX5_bestPace_0 ?_
  refine J_callS (as := [.int 0]) (rest := []) C (ct_isScr0 l G ) (fun u => [(ts, .inr (5, [.ref (a 0), .ref (a1 0), .ref (a2 0), .ref hh, .ref (b 0), .int (nI ks)]))] ++ (stW G a σ d ++ stW G a1 σ1 d1)) [] [0, 1, 2, 3, 4, 5, 6, 7, 8, 9, 10, 11, 12, 13, 14, 15, 16, 17, 18, 19, 20, 21, 22] 1 k409 k410 k10 k411 rfl (by decide +kernel) ⟨Nat.le_of_ble_eq_true rfl, Nat.le_of_ble_eq_true rfl⟩ ⟨Nat.le_of_ble_eq_true rfl, Nat.le_of_ble_eq_true rfl⟩ dX5_bestPace_1 (Nat.le_of_ble_eq_true rfl) rfl (by decide +kernel) (fun _ => rfl) ([(ts, .inr (5, [.ref (a 0), .ref (a1 0), .ref (a2 0), .ref hh, .ref (b 0), .int (nI ks)]))] ++ (stW G a σ d ++ stW G a1 σ1 d1)) rfl (fun _ => rfl) 23 (fun _ => rfl) (by decide +kernel) (by decide +kernel) (fun _ _ => ?_)
  refine J_st (st' := [.int 1]) rfl ?_
  refine J_if_ne C 9 (by decide) dX5_bestPace_4 (fun _ => ?_) (fun h => absurd h (by decide))
  refine J_aload_n C rfl dX5_bestPace_9 ?_
  refine J_get C 0 0 in5 rfl rfl (by decide) k217 rfl dX5_bestPace_10 ?_
  refine J_callV (as := []) (rest := []) C (ct_isDone l G a σ d hI) (fun u => [(ts, .inr (5, [.ref (a 0), .ref (a1 0), .ref (a2 0), .ref hh, .ref (b 0), .int (nI ks)]))] ++ (stW G a σ d ++ stW G a1 σ1 d1)) [1, 2, 3, 4, 5, 6, 7, 8, 9, 10, 11] [0, 12, 13, 14, 15, 16, 17, 18, 19, 20, 21, 22] 0 k539 k522 k523 k11 k524 rfl (by decide +kernel) ⟨Nat.le_of_ble_eq_true rfl, Nat.le_of_ble_eq_true rfl⟩ ⟨Nat.le_of_ble_eq_true rfl, Nat.le_of_ble_eq_true rfl⟩ dX5_bestPace_13 (Nat.le_of_ble_eq_true rfl) 1 rfl rfl rfl (by decide +kernel) (fun _ => rfl) ([(ts, .inr (5, [.ref (a 0), .ref (a1 0), .ref (a2 0), .ref hh, .ref (b 0), .int (nI ks)]))] ++ stW G a1 σ1 d1) rfl (fun _ => rfl) 23 (fun _ => rfl) (by decide +kernel) (by decide +kernel) (fun _ _ => ?_)
  refine J_st (st' := [.int (if σ 0 4 ≤ σ 0 14 + σ 0 15 then 1 else 0)]) rfl ?_
  refine J_if_eq C 22 (by decide) dX5_bestPace_16 (fun _ => ?_) (fun h => absurd h (fun q => q (by rw [if_neg (show ¬ (σ 0 4 ≤ σ 0 14 + σ 0 15) from by first | assumption | omega)])))
  refine J_bipush C (-5) (by decide) dX5_bestPace_22 ?_
  refine J_istore_n C [(2, .int (-5)), (0, .ref ts), (1, .int 0)] (by decide) rfl dX5_bestPace_24 ?_
  refine J_sipush C 2000 (by decide) dX5_bestPace_25 ?_
  refine J_istore_n C [(3, .int 2000), (2, .int (-5)), (0, .ref ts), (1, .int 0)] (by decide) rfl dX5_bestPace_28 ?_
  refine J_iconst C 1 (by decide) dX5_bestPace_29 ?_
  refine J_istore C [(4, .int 1), (3, .int 2000), (2, .int (-5)), (0, .ref ts), (1, .int 0)] (by decide) rfl dX5_bestPace_30 ?_
  refine J_lvp [3, 4, 2, 1, 0] [(0, .ref ts), (1, .int 0), (2, .int (-5)), (3, .int 2000), (4, .int 1)] rfl ?_
  refine J_loop (σ := Nat × AS × (Nat → Nat)) (fun x => [(ts, .inr (5, [.ref (a 0), .ref (a1 0), .ref (a2 0), .ref hh, .ref (b 0), .int (nI ks)]))] ++ (stW G a σ d ++ stW G a1 x.2.1 x.2.2)) (fun x => [(0, .ref ts), (1, .int 0), (2, .int (bpF (bpG σ 0) x.1).1), (3, .int (bpF (bpG σ 0) x.1).2), (4, .int (nI (x.1 + 1)))]) (fun x => x.1 ≤ 9) (fun x => 9 - x.1) (fun x hx ih => ?_) (0, σ1, d1) (Nat.zero_le _) rfl rfl
  refine J_iload C rfl dX5_bestPace_32 ?_
  refine J_bipush C 9 (by decide) dX5_bestPace_34 ?_
  refine J_icmp_gt C 97 (by decide) dX5_bestPace_36 (fun c36 => ?_) (fun c36 => ?_)
  · skip
    have c36 := cv_gt_t (a := (x.1 + 1)) (b := 9) (by omega) (by omega) c36
    refine J_iload_n C rfl dX5_bestPace_97 ?_
    exact J_zret C hr rfl dX5_bestPace_98 (x.2.1, x.2.2) (by rw [show x.1 = 9 from by omega]) trivial rfl
  · skip
    have c36 := cv_gt_f (a := (x.1 + 1)) (b := 9) (by omega) (by omega) c36
    refine J_aload_n C rfl dX5_bestPace_39 ?_
    refine J_get C 0 1 in5 rfl rfl (by decide) k218 rfl dX5_bestPace_40 ?_
    refine J_aload_n C rfl dX5_bestPace_43 ?_
    refine J_get C 0 0 in5 rfl rfl (by decide) k217 rfl dX5_bestPace_44 ?_
    refine J_callV (as := [.ref (a 0)]) (rest := []) C (ct_stateCopy l G a1 x.2.1 x.2.2 a σ d) (fun u => [(ts, .inr (5, [.ref (a 0), .ref (a1 0), .ref (a2 0), .ref hh, .ref (b 0), .int (nI ks)]))] ++ (stW G a σ d ++ stW G a1 σ d)) [12, 13, 14, 15, 16, 17, 18, 19, 20, 21, 22, 1, 2, 3, 4, 5, 6, 7, 8, 9, 10, 11] [0] 1 k469 k309 k310 k11 k311 rfl (by decide +kernel) ⟨Nat.le_of_ble_eq_true rfl, Nat.le_of_ble_eq_true rfl⟩ ⟨Nat.le_of_ble_eq_true rfl, Nat.le_of_ble_eq_true rfl⟩ dX5_bestPace_47 (Nat.le_of_ble_eq_true rfl) 12 rfl rfl rfl (by decide +kernel) (fun _ => rfl) ([(ts, .inr (5, [.ref (a 0), .ref (a1 0), .ref (a2 0), .ref hh, .ref (b 0), .int (nI ks)]))]) rfl (fun _ => rfl) 23 (fun _ => rfl) (by decide +kernel) (by decide +kernel) (fun _ _ => ?_)
    refine J_st (st' := []) rfl ?_
    refine J_aload_n C rfl dX5_bestPace_50 ?_
    refine J_get C 0 1 in5 rfl rfl (by decide) k218 rfl dX5_bestPace_51 ?_
    refine J_iload_n C rfl dX5_bestPace_54 ?_
    refine J_callV (as := [.int 0]) (rest := []) C (ct_scribeOf0 l G a1 σ d) (fun u => [(ts, .inr (5, [.ref (a 0), .ref (a1 0), .ref (a2 0), .ref hh, .ref (b 0), .int (nI ks)]))] ++ (stW G a σ d ++ stW G a1 σ d)) [12, 13, 14, 15, 16, 17, 18, 19, 20, 21, 22] [0, 1, 2, 3, 4, 5, 6, 7, 8, 9, 10, 11] 1 k412 k372 k373 k11 k374 rfl (by decide +kernel) ⟨Nat.le_of_ble_eq_true rfl, Nat.le_of_ble_eq_true rfl⟩ ⟨Nat.le_of_ble_eq_true rfl, Nat.le_of_ble_eq_true rfl⟩ dX5_bestPace_55 (Nat.le_of_ble_eq_true rfl) 12 rfl rfl rfl (by decide +kernel) (fun _ => rfl) ([(ts, .inr (5, [.ref (a 0), .ref (a1 0), .ref (a2 0), .ref hh, .ref (b 0), .int (nI ks)]))] ++ stW G a σ d) rfl (fun _ => rfl) 23 (fun _ => rfl) (by decide +kernel) (by decide +kernel) (fun _ _ => ?_)
    refine J_st (st' := [.ref (a1 8)]) rfl ?_
    refine J_iload C rfl dX5_bestPace_58 ?_
    refine J_putN C 20 0 in3 tyX3 tyX3_ok nmX3 ([(ts, .inr (5, [.ref (a 0), .ref (a1 0), .ref (a2 0), .ref hh, .ref (b 0), .int (nI ks)]))] ++ (stW G a σ d ++ [(a1 0, .inr (4, [.ref (a1 1), .ref (a1 8), .ref (a1 9), .ref (a1 10), .float (fl (σ 0 6)), .float (fl (σ 0 7)), .float (fl (σ 0 8)), .int (nI (σ 0 3)), .int (nI (σ 0 9)), .int (nI (σ 0 10)), .int (nI (σ 0 11))])), (a1 1, .inr (1, [.ref (a1 2), .ref (a1 3), .ref (a1 4), .ref (a1 5), .ref (a1 6), .ref (a1 7), .int (nI (σ 0 4)), .int (nI (σ 0 5))])), (a1 2, .inl (G.2.1, 40, .inl (fun q => nI (d q)))), (a1 3, .inl (G.2.1, 40, .inl (fun q => nI (σ 2 q)))), (a1 4, .inl (G.2.1, 40, .inl (fun q => nI (σ 3 q)))), (a1 5, .inl (G.2.1, 40, .inl (fun q => nI (σ 6 q)))), (a1 6, .inl (G.2.1, 40, .inl (fun q => nI (σ 4 q)))), (a1 7, .inl (G.2.1, 40, .inl (fun q => nI (σ 5 q)))), (a1 8, .inr (3, [.int (nI (x.1 + 1)), .int (nI (σ 0 14)), .int (nI (σ 0 16)), .int (nI (σ 0 18)), .int (nI (σ 0 20)), .int (nI (σ 0 22)), .float (fl (σ 0 24))])), (a1 9, .inr (3, [.int (nI (σ 0 13)), .int (nI (σ 0 15)), .int (nI (σ 0 17)), .int (nI (σ 0 19)), .int (nI (σ 0 21)), .int (nI (σ 0 23)), .float (fl (σ 0 25))])), (a1 10, .inl (G.2.1, 3, .inl (fun q => nI (σ 7 q))))])) rfl rfl (by decide) nfTwoScribes_107 rfl rfl rfl (Nat.le_of_ble_eq_true rfl) rfl dX5_bestPace_60 ?_
    refine J_ws (ws' := [(ts, .inr (5, [.ref (a 0), .ref (a1 0), .ref (a2 0), .ref hh, .ref (b 0), .int (nI ks)]))] ++ (stW G a σ d ++ stW G a1 (up2 σ 0 12 (x.1 + 1)) d)) rfl ?_
    refine J_aload_n C rfl dX5_bestPace_63 ?_
    refine J_get C 0 1 in5 rfl rfl (by decide) k218 rfl dX5_bestPace_64 ?_
    refine J_callV (as := []) (rest := []) C (ct_runDone l G a1 (up2 σ 0 12 (x.1 + 1)) d (hI.pace0 (by omega) (by omega)) (hD.up (by omega) (by omega)) ht) (fun u1 => [(ts, .inr (5, [.ref (a 0), .ref (a1 0), .ref (a2 0), .ref hh, .ref (b 0), .int (nI ks)]))] ++ (stW G a σ d ++ stW G a1 u1 d)) [12, 13, 14, 15, 16, 17, 18, 19, 20, 21, 22] [0, 1, 2, 3, 4, 5, 6, 7, 8, 9, 10, 11] 0 k517 k518 k519 k11 k520 rfl (by decide +kernel) ⟨Nat.le_of_ble_eq_true rfl, Nat.le_of_ble_eq_true rfl⟩ ⟨Nat.le_of_ble_eq_true rfl, Nat.le_of_ble_eq_true rfl⟩ dX5_bestPace_67 (Nat.le_of_ble_eq_true rfl) 12 rfl rfl rfl (by decide +kernel) (fun _ => rfl) ([(ts, .inr (5, [.ref (a 0), .ref (a1 0), .ref (a2 0), .ref hh, .ref (b 0), .int (nI ks)]))] ++ stW G a σ d) rfl (fun _ => rfl) 23 (fun _ => rfl) (by decide +kernel) (by decide +kernel) (fun u1 _ => ?_)
    refine J_st (st' := [.int (dnF 2001 0 (up2 σ 0 12 (x.1 + 1)))]) rfl ?_
    refine J_i (rfl : (dnF 2001 0 (up2 σ 0 12 (x.1 + 1)) : Int32) = (bpG σ 0 (x.1 + 1))) ?_
    refine J_istore C [(5, .int (bpG σ 0 (x.1 + 1))), (0, .ref ts), (1, .int 0), (2, .int ((bpF (bpG σ 0) x.1).1)), (3, .int ((bpF (bpG σ 0) x.1).2)), (4, .int (nI (x.1 + 1)))] (by decide) rfl dX5_bestPace_70 ?_
    refine J_iload C rfl dX5_bestPace_72 ?_
    refine J_bipush C (-5) (by decide) dX5_bestPace_74 ?_
    refine J_icmp_eq C 91 (by decide) dX5_bestPace_76 (fun c76 => ?_) (fun c76 => ?_)
    · skip
      have hno : ¬ (¬ bpG σ 0 (x.1 + 1) = -5 ∧ bpG σ 0 (x.1 + 1) ≤ (bpF (bpG σ 0) x.1).2) := fun q => q.1 c76
      have hbp : bpF (bpG σ 0) (x.1 + 1) = bpF (bpG σ 0) x.1 := if_neg (fun q => hno q)
      refine J_lvp [0, 1, 2, 3, 4, 5] [(5, .int (bpG σ 0 (x.1 + 1))), (0, .ref ts), (1, .int 0), (2, .int ((bpF (bpG σ 0) (x.1 + 1)).1)), (3, .int ((bpF (bpG σ 0) (x.1 + 1)).2)), (4, .int (nI (x.1 + 1)))] (by rw [hbp] <;> rfl) ?_
      refine J_iinc C (nI (x.1 + 1 + 1)) [(4, .int (nI (x.1 + 1 + 1))), (5, .int (bpG σ 0 (x.1 + 1))), (0, .ref ts), (1, .int 0), (2, .int ((bpF (bpG σ 0) (x.1 + 1)).1)), (3, .int ((bpF (bpG σ 0) (x.1 + 1)).2))] 5 rfl (by first | exact nI_add _ 1 | rfl) (by decide) rfl dX5_bestPace_91 ?_
      refine J_goto C 32 (by decide) dX5_bestPace_94 ?_
      refine J_lvp [2, 3, 4, 5, 0] [(0, .ref ts), (1, .int 0), (2, .int ((bpF (bpG σ 0) (x.1 + 1)).1)), (3, .int ((bpF (bpG σ 0) (x.1 + 1)).2)), (4, .int (nI (x.1 + 1 + 1)))] rfl ?_
      exact ih (x.1 + 1, u1, d) (by show x.1 + 1 ≤ 9; omega) (by show 9 - (x.1 + 1) < 9 - x.1; omega)
    · skip
      have hn5 : ¬ bpG σ 0 (x.1 + 1) = -5 := c76
      refine J_iload C rfl dX5_bestPace_79 ?_
      refine J_iload_n C rfl dX5_bestPace_81 ?_
      refine J_icmp_gt C 91 (by decide) dX5_bestPace_82 (fun c82 => ?_) (fun c82 => ?_)
      · skip
        have hno : ¬ (¬ bpG σ 0 (x.1 + 1) = -5 ∧ bpG σ 0 (x.1 + 1) ≤ (bpF (bpG σ 0) x.1).2) := fun q => by have h1 := (fa_lt _ _).mp c82; have h2 := (fa_le _ _).mp q.2; omega
        have hbp : bpF (bpG σ 0) (x.1 + 1) = bpF (bpG σ 0) x.1 := if_neg (fun q => hno q)
        refine J_lvp [0, 1, 2, 3, 4, 5] [(5, .int (bpG σ 0 (x.1 + 1))), (0, .ref ts), (1, .int 0), (2, .int ((bpF (bpG σ 0) (x.1 + 1)).1)), (3, .int ((bpF (bpG σ 0) (x.1 + 1)).2)), (4, .int (nI (x.1 + 1)))] (by rw [hbp] <;> rfl) ?_
        refine J_iinc C (nI (x.1 + 1 + 1)) [(4, .int (nI (x.1 + 1 + 1))), (5, .int (bpG σ 0 (x.1 + 1))), (0, .ref ts), (1, .int 0), (2, .int ((bpF (bpG σ 0) (x.1 + 1)).1)), (3, .int ((bpF (bpG σ 0) (x.1 + 1)).2))] 5 rfl (by first | exact nI_add _ 1 | rfl) (by decide) rfl dX5_bestPace_91 ?_
        refine J_goto C 32 (by decide) dX5_bestPace_94 ?_
        refine J_lvp [2, 3, 4, 5, 0] [(0, .ref ts), (1, .int 0), (2, .int ((bpF (bpG σ 0) (x.1 + 1)).1)), (3, .int ((bpF (bpG σ 0) (x.1 + 1)).2)), (4, .int (nI (x.1 + 1 + 1)))] rfl ?_
        exact ih (x.1 + 1, u1, d) (by show x.1 + 1 ≤ 9; omega) (by show 9 - (x.1 + 1) < 9 - x.1; omega)
      · skip
        have hle : bpG σ 0 (x.1 + 1) ≤ (bpF (bpG σ 0) x.1).2 := by rw [fa_lt] at c82; rw [fa_le]; omega
        refine J_iload C rfl dX5_bestPace_85 ?_
        refine J_istore_n C [(2, .int (nI (x.1 + 1))), (5, .int (bpG σ 0 (x.1 + 1))), (0, .ref ts), (1, .int 0), (3, .int ((bpF (bpG σ 0) x.1).2)), (4, .int (nI (x.1 + 1)))] (by decide) rfl dX5_bestPace_87 ?_
        refine J_iload C rfl dX5_bestPace_88 ?_
        refine J_istore_n C [(3, .int (bpG σ 0 (x.1 + 1))), (2, .int (nI (x.1 + 1))), (5, .int (bpG σ 0 (x.1 + 1))), (0, .ref ts), (1, .int 0), (4, .int (nI (x.1 + 1)))] (by decide) rfl dX5_bestPace_90 ?_
        have hbp : bpF (bpG σ 0) (x.1 + 1) = (nI (x.1 + 1), bpG σ 0 (x.1 + 1)) := if_pos ⟨hn5, hle⟩
        refine J_lvp [0, 1, 2, 3, 4, 5] [(3, .int ((bpF (bpG σ 0) (x.1 + 1)).2)), (2, .int ((bpF (bpG σ 0) (x.1 + 1)).1)), (5, .int (bpG σ 0 (x.1 + 1))), (0, .ref ts), (1, .int 0), (4, .int (nI (x.1 + 1)))] (by rw [hbp] <;> rfl) ?_
        refine J_iinc C (nI (x.1 + 1 + 1)) [(4, .int (nI (x.1 + 1 + 1))), (3, .int ((bpF (bpG σ 0) (x.1 + 1)).2)), (2, .int ((bpF (bpG σ 0) (x.1 + 1)).1)), (5, .int (bpG σ 0 (x.1 + 1))), (0, .ref ts), (1, .int 0)] 5 rfl (by first | exact nI_add _ 1 | rfl) (by decide) rfl dX5_bestPace_91 ?_
        refine J_goto C 32 (by decide) dX5_bestPace_94 ?_
        refine J_lvp [4, 5, 2, 1, 0] [(0, .ref ts), (1, .int 0), (2, .int ((bpF (bpG σ 0) (x.1 + 1)).1)), (3, .int ((bpF (bpG σ 0) (x.1 + 1)).2)), (4, .int (nI (x.1 + 1 + 1)))] rfl ?_
        exact ih (x.1 + 1, u1, d) (by show x.1 + 1 ≤ 9; omega) (by show 9 - (x.1 + 1) < 9 - x.1; omega)

set_option maxHeartbeats 4000000 in
set_option maxRecDepth 100000 in
theorem ct_bestPaceD1 (l : Launch) (G : GT) (ts : Nat) (a a1 a2 : Nat → Nat) (hh : Nat) (b : Nat → Nat) (ks : Nat) (σ : AS) (d : Nat → Nat) (σ1 : AS) (d1 : Nat → Nat)  (hI : Inv σ) (hdn : σ 0 4 ≤ σ 0 14 + σ 0 15) : Ct (S := Unit) l G NoX yX5_bestPace (Wy yX5_bestPace cX5_bestPace 6 ((Option.some Jvm.ClassFile.FieldType.int))) { frames := 2, cells := 0, slots := 0, locals := 40 } [.ref ts, .int 1] ([(ts, .inr (5, [.ref (a 0), .ref (a1 0), .ref (a2 0), .ref hh, .ref (b 0), .int (nI ks)]))] ++ (stW G a σ d ++ stW G a1 σ1 d1)) (fun u => True) (fun u => some (.int (-5))) (fun u => [(ts, .inr (5, [.ref (a 0), .ref (a1 0), .ref (a2 0), .ref hh, .ref (b 0), .int (nI ks)]))] ++ (stW G a σ d ++ stW G a1 σ1 d1)) := by
  refine Ct.of (by decide) (Nat.le_of_ble_eq_true rfl) (fun p e s m args below meth c C hr hnm hX => ?_)
  refine J_iload_n C rfl dX5_bestPace_0 ?_
  refine J_callS (as := [.int 1]) (rest := []) C (ct_isScr1 l G ) (fun u => [(ts, .inr (5, [.ref (a 0), .ref (a1 0), .ref (a2 0), .ref hh, .ref (b 0), .int (nI ks)]))] ++ (stW G a σ d ++ stW G a1 σ1 d1)) [] [0, 1, 2, 3, 4, 5, 6, 7, 8, 9, 10, 11, 12, 13, 14, 15, 16, 17, 18, 19, 20, 21, 22] 1 k409 k410 k10 k411 rfl (by decide +kernel) ⟨Nat.le_of_ble_eq_true rfl, Nat.le_of_ble_eq_true rfl⟩ ⟨Nat.le_of_ble_eq_true rfl, Nat.le_of_ble_eq_true rfl⟩ dX5_bestPace_1 (Nat.le_of_ble_eq_true rfl) rfl (by decide +kernel) (fun _ => rfl) ([(ts, .inr (5, [.ref (a 0), .ref (a1 0), .ref (a2 0), .ref hh, .ref (b 0), .int (nI ks)]))] ++ (stW G a σ d ++ stW G a1 σ1 d1)) rfl (fun _ => rfl) 23 (fun _ => rfl) (by decide +kernel) (by decide +kernel) (fun _ _ => ?_)
  refine J_st (st' := [.int 1]) rfl ?_
  refine J_if_ne C 9 (by decide) dX5_bestPace_4 (fun _ => ?_) (fun h => absurd h (by decide))
  refine J_aload_n C rfl dX5_bestPace_9 ?_
  refine J_get C 0 0 in5 rfl rfl (by decide) k217 rfl dX5_bestPace_10 ?_
  refine J_callV (as := []) (rest := []) C (ct_isDone l G a σ d hI) (fun u => [(ts, .inr (5, [.ref (a 0), .ref (a1 0), .ref (a2 0), .ref hh, .ref (b 0), .int (nI ks)]))] ++ (stW G a σ d ++ stW G a1 σ1 d1)) [1, 2, 3, 4, 5, 6, 7, 8, 9, 10, 11] [0, 12, 13, 14, 15, 16, 17, 18, 19, 20, 21, 22] 0 k539 k522 k523 k11 k524 rfl (by decide +kernel) ⟨Nat.le_of_ble_eq_true rfl, Nat.le_of_ble_eq_true rfl⟩ ⟨Nat.le_of_ble_eq_true rfl, Nat.le_of_ble_eq_true rfl⟩ dX5_bestPace_13 (Nat.le_of_ble_eq_true rfl) 1 rfl rfl rfl (by decide +kernel) (fun _ => rfl) ([(ts, .inr (5, [.ref (a 0), .ref (a1 0), .ref (a2 0), .ref hh, .ref (b 0), .int (nI ks)]))] ++ stW G a1 σ1 d1) rfl (fun _ => rfl) 23 (fun _ => rfl) (by decide +kernel) (by decide +kernel) (fun _ _ => ?_)
  refine J_st (st' := [.int (if σ 0 4 ≤ σ 0 14 + σ 0 15 then 1 else 0)]) rfl ?_
  refine J_if_eq C 22 (by decide) dX5_bestPace_16 (fun h => absurd h (fun q => by rw [if_pos (show σ 0 4 ≤ σ 0 14 + σ 0 15 from by first | assumption | omega)] at q; exact absurd q (by decide))) (fun _ => ?_)
  refine J_bipush C (-5) (by decide) dX5_bestPace_19 ?_
  exact J_zret C hr rfl dX5_bestPace_21 () rfl trivial rfl

set_option maxHeartbeats 4000000 in
set_option maxRecDepth 100000 in
theorem ct_bestPace1 (l : Launch) (G : GT) (ts : Nat) (a a1 a2 : Nat → Nat) (hh : Nat) (b : Nat → Nat) (ks : Nat) (σ : AS) (d : Nat → Nat) (σ1 : AS) (d1 : Nat → Nat)  (hI : Inv σ) (hD : DOK σ d) (ht : σ 0 3 ≤ 99999) (hdn : ¬ σ 0 4 ≤ σ 0 14 + σ 0 15) : Ct (S := AS × (Nat → Nat)) l G NoX yX5_bestPace (Wy yX5_bestPace cX5_bestPace 6 ((Option.some Jvm.ClassFile.FieldType.int))) { frames := 6, cells := 0, slots := 0, locals := 138 } [.ref ts, .int 1] ([(ts, .inr (5, [.ref (a 0), .ref (a1 0), .ref (a2 0), .ref hh, .ref (b 0), .int (nI ks)]))] ++ (stW G a σ d ++ stW G a1 σ1 d1)) (fun u => True) (fun u => some (.int ((bpF (bpG σ 1) 9).1))) (fun u => [(ts, .inr (5, [.ref (a 0), .ref (a1 0), .ref (a2 0), .ref hh, .ref (b 0), .int (nI ks)]))] ++ (stW G a σ d ++ stW G a1 u.1 u.2)) := by
  refine Ct.of (by decide) (Nat.le_of_ble_eq_true rfl) (fun p e s m args below meth c C hr hnm hX => ?_)
  have h40 := hI.a
  have hc := hI.c
  have hi := hI.i
  have hs := hI.s
  refine J_iload_n C rfl dX5_bestPace_0 ?_
  refine J_callS (as := [.int 1]) (rest := []) C (ct_isScr1 l G ) (fun u => [(ts, .inr (5, [.ref (a 0), .ref (a1 0), .ref (a2 0), .ref hh, .ref (b 0), .int (nI ks)]))] ++ (stW G a σ d ++ stW G a1 σ1 d1)) [] [0, 1, 2, 3, 4, 5, 6, 7, 8, 9, 10, 11, 12, 13, 14, 15, 16, 17, 18, 19, 20, 21, 22] 1 k409 k410 k10 k411 rfl (by decide +kernel) ⟨Nat.le_of_ble_eq_true rfl, Nat.le_of_ble_eq_true rfl⟩ ⟨Nat.le_of_ble_eq_true rfl, Nat.le_of_ble_eq_true rfl⟩ dX5_bestPace_1 (Nat.le_of_ble_eq_true rfl) rfl (by decide +kernel) (fun _ => rfl) ([(ts, .inr (5, [.ref (a 0), .ref (a1 0), .ref (a2 0), .ref hh, .ref (b 0), .int (nI ks)]))] ++ (stW G a σ d ++ stW G a1 σ1 d1)) rfl (fun _ => rfl) 23 (fun _ => rfl) (by decide +kernel) (by decide +kernel) (fun _ _ => ?_)
  refine J_st (st' := [.int 1]) rfl ?_
  refine J_if_ne C 9 (by decide) dX5_bestPace_4 (fun _ => ?_) (fun h => absurd h (by decide))
  refine J_aload_n C rfl dX5_bestPace_9 ?_
  refine J_get C 0 0 in5 rfl rfl (by decide) k217 rfl dX5_bestPace_10 ?_
  refine J_callV (as := []) (rest := []) C (ct_isDone l G a σ d hI) (fun u => [(ts, .inr (5, [.ref (a 0), .ref (a1 0), .ref (a2 0), .ref hh, .ref (b 0), .int (nI ks)]))] ++ (stW G a σ d ++ stW G a1 σ1 d1)) [1, 2, 3, 4, 5, 6, 7, 8, 9, 10, 11] [0, 12, 13, 14, 15, 16, 17, 18, 19, 20, 21, 22] 0 k539 k522 k523 k11 k524 rfl (by decide +kernel) ⟨Nat.le_of_ble_eq_true rfl, Nat.le_of_ble_eq_true rfl⟩ ⟨Nat.le_of_ble_eq_true rfl, Nat.le_of_ble_eq_true rfl⟩ dX5_bestPace_13 (Nat.le_of_ble_eq_true rfl) 1 rfl rfl rfl (by decide +kernel) (fun _ => rfl) ([(ts, .inr (5, [.ref (a 0), .ref (a1 0), .ref (a2 0), .ref hh, .ref (b 0), .int (nI ks)]))] ++ stW G a1 σ1 d1) rfl (fun _ => rfl) 23 (fun _ => rfl) (by decide +kernel) (by decide +kernel) (fun _ _ => ?_)
  refine J_st (st' := [.int (if σ 0 4 ≤ σ 0 14 + σ 0 15 then 1 else 0)]) rfl ?_
  refine J_if_eq C 22 (by decide) dX5_bestPace_16 (fun _ => ?_) (fun h => absurd h (fun q => q (by rw [if_neg (show ¬ (σ 0 4 ≤ σ 0 14 + σ 0 15) from by first | assumption | omega)])))
  refine J_bipush C (-5) (by decide) dX5_bestPace_22 ?_
  refine J_istore_n C [(2, .int (-5)), (0, .ref ts), (1, .int 1)] (by decide) rfl dX5_bestPace_24 ?_
  refine J_sipush C 2000 (by decide) dX5_bestPace_25 ?_
  refine J_istore_n C [(3, .int 2000), (2, .int (-5)), (0, .ref ts), (1, .int 1)] (by decide) rfl dX5_bestPace_28 ?_
  refine J_iconst C 1 (by decide) dX5_bestPace_29 ?_
  refine J_istore C [(4, .int 1), (3, .int 2000), (2, .int (-5)), (0, .ref ts), (1, .int 1)] (by decide) rfl dX5_bestPace_30 ?_
  refine J_lvp [3, 4, 2, 1, 0] [(0, .ref ts), (1, .int 1), (2, .int (-5)), (3, .int 2000), (4, .int 1)] rfl ?_
  refine J_loop (σ := Nat × AS × (Nat → Nat)) (fun x => [(ts, .inr (5, [.ref (a 0), .ref (a1 0), .ref (a2 0), .ref hh, .ref (b 0), .int (nI ks)]))] ++ (stW G a σ d ++ stW G a1 x.2.1 x.2.2)) (fun x => [(0, .ref ts), (1, .int 1), (2, .int (bpF (bpG σ 1) x.1).1), (3, .int (bpF (bpG σ 1) x.1).2), (4, .int (nI (x.1 + 1)))]) (fun x => x.1 ≤ 9) (fun x => 9 - x.1) (fun x hx ih => ?_) (0, σ1, d1) (Nat.zero_le _) rfl rfl
  refine J_iload C rfl dX5_bestPace_32 ?_
  refine J_bipush C 9 (by decide) dX5_bestPace_34 ?_
  refine J_icmp_gt C 97 (by decide) dX5_bestPace_36 (fun c36 => ?_) (fun c36 => ?_)
  · skip
    have c36 := cv_gt_t (a := (x.1 + 1)) (b := 9) (by omega) (by omega) c36
    refine J_iload_n C rfl dX5_bestPace_97 ?_
    exact J_zret C hr rfl dX5_bestPace_98 (x.2.1, x.2.2) (by rw [show x.1 = 9 from by omega]) trivial rfl
  · skip
    have c36 := cv_gt_f (a := (x.1 + 1)) (b := 9) (by omega) (by omega) c36
    refine J_aload_n C rfl dX5_bestPace_39 ?_
    refine J_get C 0 1 in5 rfl rfl (by decide) k218 rfl dX5_bestPace_40 ?_
    refine J_aload_n C rfl dX5_bestPace_43 ?_
    refine J_get C 0 0 in5 rfl rfl (by decide) k217 rfl dX5_bestPace_44 ?_
    refine J_callV (as := [.ref (a 0)]) (rest := []) C (ct_stateCopy l G a1 x.2.1 x.2.2 a σ d) (fun u => [(ts, .inr (5, [.ref (a 0), .ref (a1 0), .ref (a2 0), .ref hh, .ref (b 0), .int (nI ks)]))] ++ (stW G a σ d ++ stW G a1 σ d)) [12, 13, 14, 15, 16, 17, 18, 19, 20, 21, 22, 1, 2, 3, 4, 5, 6, 7, 8, 9, 10, 11] [0] 1 k469 k309 k310 k11 k311 rfl (by decide +kernel) ⟨Nat.le_of_ble_eq_true rfl, Nat.le_of_ble_eq_true rfl⟩ ⟨Nat.le_of_ble_eq_true rfl, Nat.le_of_ble_eq_true rfl⟩ dX5_bestPace_47 (Nat.le_of_ble_eq_true rfl) 12 rfl rfl rfl (by decide +kernel) (fun _ => rfl) ([(ts, .inr (5, [.ref (a 0), .ref (a1 0), .ref (a2 0), .ref hh, .ref (b 0), .int (nI ks)]))]) rfl (fun _ => rfl) 23 (fun _ => rfl) (by decide +kernel) (by decide +kernel) (fun _ _ => ?_)
    refine J_st (st' := []) rfl ?_
    refine J_aload_n C rfl dX5_bestPace_50 ?_
    refine J_get C 0 1 in5 rfl rfl (by decide) k218 rfl dX5_bestPace_51 ?_
    refine J_iload_n C rfl dX5_bestPace_54 ?_
    refine J_callV (as := [.int 1]) (rest := []) C (ct_scribeOf1 l G a1 σ d) (fun u => [(ts, .inr (5, [.ref (a 0), .ref (a1 0), .ref (a2 0), .ref hh, .ref (b 0), .int (nI ks)]))] ++ (stW G a σ d ++ stW G a1 σ d)) [12, 13, 14, 15, 16, 17, 18, 19, 20, 21, 22] [0, 1, 2, 3, 4, 5, 6, 7, 8, 9, 10, 11] 1 k412 k372 k373 k11 k374 rfl (by decide +kernel) ⟨Nat.le_of_ble_eq_true rfl, Nat.le_of_ble_eq_true rfl⟩ ⟨Nat.le_of_ble_eq_true rfl, Nat.le_of_ble_eq_true rfl⟩ dX5_bestPace_55 (Nat.le_of_ble_eq_true rfl) 12 rfl rfl rfl (by decide +kernel) (fun _ => rfl) ([(ts, .inr (5, [.ref (a 0), .ref (a1 0), .ref (a2 0), .ref hh, .ref (b 0), .int (nI ks)]))] ++ stW G a σ d) rfl (fun _ => rfl) 23 (fun _ => rfl) (by decide +kernel) (by decide +kernel) (fun _ _ => ?_)
    refine J_st (st' := [.ref (a1 9)]) rfl ?_
    refine J_iload C rfl dX5_bestPace_58 ?_
    refine J_putN C 21 0 in3 tyX3 tyX3_ok nmX3 ([(ts, .inr (5, [.ref (a 0), .ref (a1 0), .ref (a2 0), .ref hh, .ref (b 0), .int (nI ks)]))] ++ (stW G a σ d ++ [(a1 0, .inr (4, [.ref (a1 1), .ref (a1 8), .ref (a1 9), .ref (a1 10), .float (fl (σ 0 6)), .float (fl (σ 0 7)), .float (fl (σ 0 8)), .int (nI (σ 0 3)), .int (nI (σ 0 9)), .int (nI (σ 0 10)), .int (nI (σ 0 11))])), (a1 1, .inr (1, [.ref (a1 2), .ref (a1 3), .ref (a1 4), .ref (a1 5), .ref (a1 6), .ref (a1 7), .int (nI (σ 0 4)), .int (nI (σ 0 5))])), (a1 2, .inl (G.2.1, 40, .inl (fun q => nI (d q)))), (a1 3, .inl (G.2.1, 40, .inl (fun q => nI (σ 2 q)))), (a1 4, .inl (G.2.1, 40, .inl (fun q => nI (σ 3 q)))), (a1 5, .inl (G.2.1, 40, .inl (fun q => nI (σ 6 q)))), (a1 6, .inl (G.2.1, 40, .inl (fun q => nI (σ 4 q)))), (a1 7, .inl (G.2.1, 40, .inl (fun q => nI (σ 5 q)))), (a1 8, .inr (3, [.int (nI (σ 0 12)), .int (nI (σ 0 14)), .int (nI (σ 0 16)), .int (nI (σ 0 18)), .int (nI (σ 0 20)), .int (nI (σ 0 22)), .float (fl (σ 0 24))])), (a1 9, .inr (3, [.int (nI (x.1 + 1)), .int (nI (σ 0 15)), .int (nI (σ 0 17)), .int (nI (σ 0 19)), .int (nI (σ 0 21)), .int (nI (σ 0 23)), .float (fl (σ 0 25))])), (a1 10, .inl (G.2.1, 3, .inl (fun q => nI (σ 7 q))))])) rfl rfl (by decide) nfTwoScribes_107 rfl rfl rfl (Nat.le_of_ble_eq_true rfl) rfl dX5_bestPace_60 ?_
    refine J_ws (ws' := [(ts, .inr (5, [.ref (a 0), .ref (a1 0), .ref (a2 0), .ref hh, .ref (b 0), .int (nI ks)]))] ++ (stW G a σ d ++ stW G a1 (up2 σ 0 13 (x.1 + 1)) d)) rfl ?_
    refine J_aload_n C rfl dX5_bestPace_63 ?_
    refine J_get C 0 1 in5 rfl rfl (by decide) k218 rfl dX5_bestPace_64 ?_
    refine J_callV (as := []) (rest := []) C (ct_runDone l G a1 (up2 σ 0 13 (x.1 + 1)) d (hI.pace1 (by omega) (by omega)) (hD.up (by omega) (by omega)) ht) (fun u1 => [(ts, .inr (5, [.ref (a 0), .ref (a1 0), .ref (a2 0), .ref hh, .ref (b 0), .int (nI ks)]))] ++ (stW G a σ d ++ stW G a1 u1 d)) [12, 13, 14, 15, 16, 17, 18, 19, 20, 21, 22] [0, 1, 2, 3, 4, 5, 6, 7, 8, 9, 10, 11] 0 k517 k518 k519 k11 k520 rfl (by decide +kernel) ⟨Nat.le_of_ble_eq_true rfl, Nat.le_of_ble_eq_true rfl⟩ ⟨Nat.le_of_ble_eq_true rfl, Nat.le_of_ble_eq_true rfl⟩ dX5_bestPace_67 (Nat.le_of_ble_eq_true rfl) 12 rfl rfl rfl (by decide +kernel) (fun _ => rfl) ([(ts, .inr (5, [.ref (a 0), .ref (a1 0), .ref (a2 0), .ref hh, .ref (b 0), .int (nI ks)]))] ++ stW G a σ d) rfl (fun _ => rfl) 23 (fun _ => rfl) (by decide +kernel) (by decide +kernel) (fun u1 _ => ?_)
    refine J_st (st' := [.int (dnF 2001 0 (up2 σ 0 13 (x.1 + 1)))]) rfl ?_
    refine J_i (rfl : (dnF 2001 0 (up2 σ 0 13 (x.1 + 1)) : Int32) = (bpG σ 1 (x.1 + 1))) ?_
    refine J_istore C [(5, .int (bpG σ 1 (x.1 + 1))), (0, .ref ts), (1, .int 1), (2, .int ((bpF (bpG σ 1) x.1).1)), (3, .int ((bpF (bpG σ 1) x.1).2)), (4, .int (nI (x.1 + 1)))] (by decide) rfl dX5_bestPace_70 ?_
    refine J_iload C rfl dX5_bestPace_72 ?_
    refine J_bipush C (-5) (by decide) dX5_bestPace_74 ?_
    refine J_icmp_eq C 91 (by decide) dX5_bestPace_76 (fun c76 => ?_) (fun c76 => ?_)
    · skip
      have hno : ¬ (¬ bpG σ 1 (x.1 + 1) = -5 ∧ bpG σ 1 (x.1 + 1) ≤ (bpF (bpG σ 1) x.1).2) := fun q => q.1 c76
      have hbp : bpF (bpG σ 1) (x.1 + 1) = bpF (bpG σ 1) x.1 := if_neg (fun q => hno q)
      refine J_lvp [0, 1, 2, 3, 4, 5] [(5, .int (bpG σ 1 (x.1 + 1))), (0, .ref ts), (1, .int 1), (2, .int ((bpF (bpG σ 1) (x.1 + 1)).1)), (3, .int ((bpF (bpG σ 1) (x.1 + 1)).2)), (4, .int (nI (x.1 + 1)))] (by rw [hbp] <;> rfl) ?_
      refine J_iinc C (nI (x.1 + 1 + 1)) [(4, .int (nI (x.1 + 1 + 1))), (5, .int (bpG σ 1 (x.1 + 1))), (0, .ref ts), (1, .int 1), (2, .int ((bpF (bpG σ 1) (x.1 + 1)).1)), (3, .int ((bpF (bpG σ 1) (x.1 + 1)).2))] 5 rfl (by first | exact nI_add _ 1 | rfl) (by decide) rfl dX5_bestPace_91 ?_
      refine J_goto C 32 (by decide) dX5_bestPace_94 ?_
      refine J_lvp [2, 3, 4, 5, 0] [(0, .ref ts), (1, .int 1), (2, .int ((bpF (bpG σ 1) (x.1 + 1)).1)), (3, .int ((bpF (bpG σ 1) (x.1 + 1)).2)), (4, .int (nI (x.1 + 1 + 1)))] rfl ?_
      exact ih (x.1 + 1, u1, d) (by show x.1 + 1 ≤ 9; omega) (by show 9 - (x.1 + 1) < 9 - x.1; omega)
    · skip
      have hn5 : ¬ bpG σ 1 (x.1 + 1) = -5 := c76
      refine J_iload C rfl dX5_bestPace_79 ?_
      refine J_iload_n C rfl dX5_bestPace_81 ?_
      refine J_icmp_gt C 91 (by decide) dX5_bestPace_82 (fun c82 => ?_) (fun c82 => ?_)
      · skip
        have hno : ¬ (¬ bpG σ 1 (x.1 + 1) = -5 ∧ bpG σ 1 (x.1 + 1) ≤ (bpF (bpG σ 1) x.1).2) := fun q => by have h1 := (fa_lt _ _).mp c82; have h2 := (fa_le _ _).mp q.2; omega
        have hbp : bpF (bpG σ 1) (x.1 + 1) = bpF (bpG σ 1) x.1 := if_neg (fun q => hno q)
        refine J_lvp [0, 1, 2, 3, 4, 5] [(5, .int (bpG σ 1 (x.1 + 1))), (0, .ref ts), (1, .int 1), (2, .int ((bpF (bpG σ 1) (x.1 + 1)).1)), (3, .int ((bpF (bpG σ 1) (x.1 + 1)).2)), (4, .int (nI (x.1 + 1)))] (by rw [hbp] <;> rfl) ?_
        refine J_iinc C (nI (x.1 + 1 + 1)) [(4, .int (nI (x.1 + 1 + 1))), (5, .int (bpG σ 1 (x.1 + 1))), (0, .ref ts), (1, .int 1), (2, .int ((bpF (bpG σ 1) (x.1 + 1)).1)), (3, .int ((bpF (bpG σ 1) (x.1 + 1)).2))] 5 rfl (by first | exact nI_add _ 1 | rfl) (by decide) rfl dX5_bestPace_91 ?_
        refine J_goto C 32 (by decide) dX5_bestPace_94 ?_
        refine J_lvp [2, 3, 4, 5, 0] [(0, .ref ts), (1, .int 1), (2, .int ((bpF (bpG σ 1) (x.1 + 1)).1)), (3, .int ((bpF (bpG σ 1) (x.1 + 1)).2)), (4, .int (nI (x.1 + 1 + 1)))] rfl ?_
        exact ih (x.1 + 1, u1, d) (by show x.1 + 1 ≤ 9; omega) (by show 9 - (x.1 + 1) < 9 - x.1; omega)
      · skip
        have hle : bpG σ 1 (x.1 + 1) ≤ (bpF (bpG σ 1) x.1).2 := by rw [fa_lt] at c82; rw [fa_le]; omega
        refine J_iload C rfl dX5_bestPace_85 ?_
        refine J_istore_n C [(2, .int (nI (x.1 + 1))), (5, .int (bpG σ 1 (x.1 + 1))), (0, .ref ts), (1, .int 1), (3, .int ((bpF (bpG σ 1) x.1).2)), (4, .int (nI (x.1 + 1)))] (by decide) rfl dX5_bestPace_87 ?_
        refine J_iload C rfl dX5_bestPace_88 ?_
        refine J_istore_n C [(3, .int (bpG σ 1 (x.1 + 1))), (2, .int (nI (x.1 + 1))), (5, .int (bpG σ 1 (x.1 + 1))), (0, .ref ts), (1, .int 1), (4, .int (nI (x.1 + 1)))] (by decide) rfl dX5_bestPace_90 ?_
        have hbp : bpF (bpG σ 1) (x.1 + 1) = (nI (x.1 + 1), bpG σ 1 (x.1 + 1)) := if_pos ⟨hn5, hle⟩
        refine J_lvp [0, 1, 2, 3, 4, 5] [(3, .int ((bpF (bpG σ 1) (x.1 + 1)).2)), (2, .int ((bpF (bpG σ 1) (x.1 + 1)).1)), (5, .int (bpG σ 1 (x.1 + 1))), (0, .ref ts), (1, .int 1), (4, .int (nI (x.1 + 1)))] (by rw [hbp] <;> rfl) ?_
        refine J_iinc C (nI (x.1 + 1 + 1)) [(4, .int (nI (x.1 + 1 + 1))), (3, .int ((bpF (bpG σ 1) (x.1 + 1)).2)), (2, .int ((bpF (bpG σ 1) (x.1 + 1)).1)), (5, .int (bpG σ 1 (x.1 + 1))), (0, .ref ts), (1, .int 1)] 5 rfl (by first | exact nI_add _ 1 | rfl) (by decide) rfl dX5_bestPace_91 ?_
        refine J_goto C 32 (by decide) dX5_bestPace_94 ?_
        refine J_lvp [4, 5, 2, 1, 0] [(0, .ref ts), (1, .int 1), (2, .int ((bpF (bpG σ 1) (x.1 + 1)).1)), (3, .int ((bpF (bpG σ 1) (x.1 + 1)).2)), (4, .int (nI (x.1 + 1 + 1)))] rfl ?_
        exact ih (x.1 + 1, u1, d) (by show x.1 + 1 ≤ 9; omega) (by show 9 - (x.1 + 1) < 9 - x.1; omega)

set_option maxHeartbeats 4000000 in
set_option maxRecDepth 100000 in
theorem ct_count (l : Launch) (G : GT) (ts : Nat) (a a1 a2 : Nat → Nat) (hh : Nat) (b : Nat → Nat) (ks : Nat) (σ : AS) (d : Nat → Nat) (ha : Nat) (hb : Nat → Nat → Nat) (f n : Nat) (t : Nat → Nat) (L : Nat) (lt ms : Nat → Nat) (hf : Nat) (fa : Int32) (cu : Nat) (x : Int32) (hI : Inv σ) (hD : DOK σ d) : Ct (S := Unit) l G NoX yX5_count (Wy yX5_count cX5_count 2 ((Option.some Jvm.ClassFile.FieldType.int))) { frames := 3, cells := 0, slots := 0, locals := 64 } [.ref ts, .int x] ([(ts, .inr (5, [.ref (a 0), .ref (a1 0), .ref (a2 0), .ref hh, .ref (b 0), .int (nI ks)]))] ++ (stW G a σ d ++ ([(hh, .inr (0, [.ref ha, .int (nI f), .int (nI n)])), (ha, .inl (G.2.2.2, 4, .inr (.inr (.inr (.inr (fun j => some (hb j 0)))))))] ++ [(b 0, .inr (2, [.ref (b 1), .ref (b 2), .ref (b 3), .int (nI L), .int (nI hf), .int fa, .int (nI cu)]))]))) (fun u => True) (fun u => some (.int (cntF σ n L x.toInt))) (fun u => [(ts, .inr (5, [.ref (a 0), .ref (a1 0), .ref (a2 0), .ref hh, .ref (b 0), .int (nI ks)]))] ++ (stW G a σ d ++ ([(hh, .inr (0, [.ref ha, .int (nI f), .int (nI n)])), (ha, .inl (G.2.2.2, 4, .inr (.inr (.inr (.inr (fun j => some (hb j 0)))))))] ++ [(b 0, .inr (2, [.ref (b 1), .ref (b 2), .ref (b 3), .int (nI L), .int (nI hf), .int fa, .int (nI cu)]))]))) := by
  refine Ct.of (by decide) (Nat.le_of_ble_eq_true rfl) (fun p e s m args below meth c C hr hnm hX => ?_)
  have h40 := hI.a
  have hc := hI.c
  have hi := hI.i
  have hs := hI.s
  refine J_iload_n C rfl dX5_count_0 ?_
  by_cases hsw : x.toInt < 0 ∨ 13 < x.toInt
  · skip
    refine J_tableOut C 205 hsw (by decide) dX5_count_1 ?_
    refine J_bipush C (-2) (by decide) dX5_count_205 ?_
    exact J_zret C hr rfl dX5_count_207 () (by rw [show cntF σ n L x.toInt = -2 from by unfold cntF; rw [if_neg (by omega), if_neg (by omega), if_neg (by omega), if_neg (by omega), if_neg (by omega), if_neg (by omega), if_neg (by omega), if_neg (by omega), if_neg (by omega), if_neg (by omega), if_neg (by omega), if_neg (by omega), if_neg (by omega), if_neg (by omega)]]) trivial rfl
  · skip
    rcases (show x.toInt = 0 ∨ x.toInt = 1 ∨ x.toInt = 2 ∨ x.toInt = 3 ∨ x.toInt = 4 ∨ x.toInt = 5 ∨ x.toInt = 6 ∨ x.toInt = 7 ∨ x.toInt = 8 ∨ x.toInt = 9 ∨ x.toInt = 10 ∨ x.toInt = 11 ∨ x.toInt = 12 ∨ x.toInt = 13 by omega) with hwi | hwi | hwi | hwi | hwi | hwi | hwi | hwi | hwi | hwi | hwi | hwi | hwi | hwi
    · skip
      have hw : x = 0 := Int32.toInt_inj.mp (by rw [hwi]; decide)
      refine J_tableIn C 72 (by rw [hw]; decide) (by rw [hw]; decide) (by rw [hw]; rfl) (by decide) dX5_count_1 ?_
      refine J_aload_n C rfl dX5_count_72 ?_
      refine J_get C 0 0 in5 rfl rfl (by decide) k217 rfl dX5_count_73 ?_
      refine J_getN C 1 7 in4 rfl rfl (by decide) nfTwoScribes_129 rfl dX5_count_76 ?_
      exact J_zret C hr rfl dX5_count_79 () (by rw [hwi] <;> rfl) trivial rfl
    · skip
      have hw : x = 1 := Int32.toInt_inj.mp (by rw [hwi]; decide)
      refine J_tableIn C 80 (by rw [hw]; decide) (by rw [hw]; decide) (by rw [hw]; rfl) (by decide) dX5_count_1 ?_
      refine J_aload_n C rfl dX5_count_80 ?_
      refine J_get C 0 0 in5 rfl rfl (by decide) k217 rfl dX5_count_81 ?_
      refine J_getN C 1 0 in4 rfl rfl (by decide) nfTwoScribes_55 rfl dX5_count_84 ?_
      refine J_getN C 2 6 in1 rfl rfl (by decide) nfTwoScribes_59 rfl dX5_count_87 ?_
      exact J_zret C hr rfl dX5_count_90 () (by rw [hwi] <;> rfl) trivial rfl
    · skip
      have hw : x = 2 := Int32.toInt_inj.mp (by rw [hwi]; decide)
      refine J_tableIn C 91 (by rw [hw]; decide) (by rw [hw]; decide) (by rw [hw]; rfl) (by decide) dX5_count_1 ?_
      refine J_aload_n C rfl dX5_count_91 ?_
      refine J_get C 0 0 in5 rfl rfl (by decide) k217 rfl dX5_count_92 ?_
      refine J_callV (as := []) (rest := []) C (ct_lettersOnPage l G a σ d) (fun u => [(ts, .inr (5, [.ref (a 0), .ref (a1 0), .ref (a2 0), .ref hh, .ref (b 0), .int (nI ks)]))] ++ (stW G a σ d ++ ([(hh, .inr (0, [.ref ha, .int (nI f), .int (nI n)])), (ha, .inl (G.2.2.2, 4, .inr (.inr (.inr (.inr (fun j => some (hb j 0)))))))] ++ [(b 0, .inr (2, [.ref (b 1), .ref (b 2), .ref (b 3), .int (nI L), .int (nI hf), .int fa, .int (nI cu)]))]))) [1, 2, 3, 4, 5, 6, 7, 8, 9, 10, 11] [0, 12, 13, 14] 0 k386 k387 k388 k11 k389 rfl (by decide +kernel) ⟨Nat.le_of_ble_eq_true rfl, Nat.le_of_ble_eq_true rfl⟩ ⟨Nat.le_of_ble_eq_true rfl, Nat.le_of_ble_eq_true rfl⟩ dX5_count_95 (Nat.le_of_ble_eq_true rfl) 1 rfl rfl rfl (by decide +kernel) (fun _ => rfl) ([(ts, .inr (5, [.ref (a 0), .ref (a1 0), .ref (a2 0), .ref hh, .ref (b 0), .int (nI ks)]))] ++ ([(hh, .inr (0, [.ref ha, .int (nI f), .int (nI n)])), (ha, .inl (G.2.2.2, 4, .inr (.inr (.inr (.inr (fun j => some (hb j 0)))))))] ++ [(b 0, .inr (2, [.ref (b 1), .ref (b 2), .ref (b 3), .int (nI L), .int (nI hf), .int fa, .int (nI cu)]))])) rfl (fun _ => rfl) 15 (fun _ => rfl) (by decide +kernel) (by decide +kernel) (fun _ _ => ?_)
      refine J_st (st' := [.int (nI (σ 0 14 + σ 0 15))]) rfl ?_
      exact J_zret C hr rfl dX5_count_98 () (by rw [hwi] <;> rfl) trivial rfl
    · skip
      have hw : x = 3 := Int32.toInt_inj.mp (by rw [hwi]; decide)
      refine J_tableIn C 99 (by rw [hw]; decide) (by rw [hw]; decide) (by rw [hw]; rfl) (by decide) dX5_count_1 ?_
      refine J_aload_n C rfl dX5_count_99 ?_
      refine J_get C 0 0 in5 rfl rfl (by decide) k217 rfl dX5_count_100 ?_
      refine J_getN C 1 0 in4 rfl rfl (by decide) nfTwoScribes_55 rfl dX5_count_103 ?_
      refine J_callV (as := []) (rest := []) C (ct_countBlots l G a σ d hI) (fun u => [(ts, .inr (5, [.ref (a 0), .ref (a1 0), .ref (a2 0), .ref hh, .ref (b 0), .int (nI ks)]))] ++ (stW G a σ d ++ ([(hh, .inr (0, [.ref ha, .int (nI f), .int (nI n)])), (ha, .inl (G.2.2.2, 4, .inr (.inr (.inr (.inr (fun j => some (hb j 0)))))))] ++ [(b 0, .inr (2, [.ref (b 1), .ref (b 2), .ref (b 3), .int (nI L), .int (nI hf), .int fa, .int (nI cu)]))]))) [2, 3, 4, 5, 6, 7, 8] [0, 1, 9, 10, 11, 12, 13, 14] 0 k390 k391 k392 k12 k393 rfl (by decide +kernel) ⟨Nat.le_of_ble_eq_true rfl, Nat.le_of_ble_eq_true rfl⟩ ⟨Nat.le_of_ble_eq_true rfl, Nat.le_of_ble_eq_true rfl⟩ dX5_count_106 (Nat.le_of_ble_eq_true rfl) 2 rfl rfl rfl (by decide +kernel) (fun _ => rfl) ([(ts, .inr (5, [.ref (a 0), .ref (a1 0), .ref (a2 0), .ref hh, .ref (b 0), .int (nI ks)]))] ++ ([(a 0, .inr (4, [.ref (a 1), .ref (a 8), .ref (a 9), .ref (a 10), .float (fl (σ 0 6)), .float (fl (σ 0 7)), .float (fl (σ 0 8)), .int (nI (σ 0 3)), .int (nI (σ 0 9)), .int (nI (σ 0 10)), .int (nI (σ 0 11))])), (a 8, .inr (3, [.int (nI (σ 0 12)), .int (nI (σ 0 14)), .int (nI (σ 0 16)), .int (nI (σ 0 18)), .int (nI (σ 0 20)), .int (nI (σ 0 22)), .float (fl (σ 0 24))])), (a 9, .inr (3, [.int (nI (σ 0 13)), .int (nI (σ 0 15)), .int (nI (σ 0 17)), .int (nI (σ 0 19)), .int (nI (σ 0 21)), .int (nI (σ 0 23)), .float (fl (σ 0 25))])), (a 10, .inl (G.2.1, 3, .inl (fun q => nI (σ 7 q))))] ++ ([(hh, .inr (0, [.ref ha, .int (nI f), .int (nI n)])), (ha, .inl (G.2.2.2, 4, .inr (.inr (.inr (.inr (fun j => some (hb j 0)))))))] ++ [(b 0, .inr (2, [.ref (b 1), .ref (b 2), .ref (b 3), .int (nI L), .int (nI hf), .int fa, .int (nI cu)]))]))) rfl (fun _ => rfl) 15 (fun _ => rfl) (by decide +kernel) (by decide +kernel) (fun _ _ => ?_)
      refine J_st (st' := [.int (nI (sumN (fun q => σ 4 q) (σ 0 4)))]) rfl ?_
      exact J_zret C hr rfl dX5_count_109 () (by rw [hwi] <;> rfl) trivial rfl
    · skip
      have hw : x = 4 := Int32.toInt_inj.mp (by rw [hwi]; decide)
      refine J_tableIn C 110 (by rw [hw]; decide) (by rw [hw]; decide) (by rw [hw]; rfl) (by decide) dX5_count_1 ?_
      refine J_aload_n C rfl dX5_count_110 ?_
      refine J_get C 0 0 in5 rfl rfl (by decide) k217 rfl dX5_count_111 ?_
      refine J_getN C 1 0 in4 rfl rfl (by decide) nfTwoScribes_55 rfl dX5_count_114 ?_
      refine J_callV (as := []) (rest := []) C (ct_countNotDue l G a σ d hI hD) (fun u => [(ts, .inr (5, [.ref (a 0), .ref (a1 0), .ref (a2 0), .ref hh, .ref (b 0), .int (nI ks)]))] ++ (stW G a σ d ++ ([(hh, .inr (0, [.ref ha, .int (nI f), .int (nI n)])), (ha, .inl (G.2.2.2, 4, .inr (.inr (.inr (.inr (fun j => some (hb j 0)))))))] ++ [(b 0, .inr (2, [.ref (b 1), .ref (b 2), .ref (b 3), .int (nI L), .int (nI hf), .int fa, .int (nI cu)]))]))) [2, 3, 4, 5, 6, 7, 8] [0, 1, 9, 10, 11, 12, 13, 14] 0 k394 k395 k396 k12 k397 rfl (by decide +kernel) ⟨Nat.le_of_ble_eq_true rfl, Nat.le_of_ble_eq_true rfl⟩ ⟨Nat.le_of_ble_eq_true rfl, Nat.le_of_ble_eq_true rfl⟩ dX5_count_117 (Nat.le_of_ble_eq_true rfl) 2 rfl rfl rfl (by decide +kernel) (fun _ => rfl) ([(ts, .inr (5, [.ref (a 0), .ref (a1 0), .ref (a2 0), .ref hh, .ref (b 0), .int (nI ks)]))] ++ ([(a 0, .inr (4, [.ref (a 1), .ref (a 8), .ref (a 9), .ref (a 10), .float (fl (σ 0 6)), .float (fl (σ 0 7)), .float (fl (σ 0 8)), .int (nI (σ 0 3)), .int (nI (σ 0 9)), .int (nI (σ 0 10)), .int (nI (σ 0 11))])), (a 8, .inr (3, [.int (nI (σ 0 12)), .int (nI (σ 0 14)), .int (nI (σ 0 16)), .int (nI (σ 0 18)), .int (nI (σ 0 20)), .int (nI (σ 0 22)), .float (fl (σ 0 24))])), (a 9, .inr (3, [.int (nI (σ 0 13)), .int (nI (σ 0 15)), .int (nI (σ 0 17)), .int (nI (σ 0 19)), .int (nI (σ 0 21)), .int (nI (σ 0 23)), .float (fl (σ 0 25))])), (a 10, .inl (G.2.1, 3, .inl (fun q => nI (σ 7 q))))] ++ ([(hh, .inr (0, [.ref ha, .int (nI f), .int (nI n)])), (ha, .inl (G.2.2.2, 4, .inr (.inr (.inr (.inr (fun j => some (hb j 0)))))))] ++ [(b 0, .inr (2, [.ref (b 1), .ref (b 2), .ref (b 3), .int (nI L), .int (nI hf), .int fa, .int (nI cu)]))]))) rfl (fun _ => rfl) 15 (fun _ => rfl) (by decide +kernel) (by decide +kernel) (fun _ _ => ?_)
      refine J_st (st' := [.int (nI (sumN (notDue σ) (σ 0 4)))]) rfl ?_
      exact J_zret C hr rfl dX5_count_120 () (by rw [hwi] <;> rfl) trivial rfl
    · skip
      have hw : x = 5 := Int32.toInt_inj.mp (by rw [hwi]; decide)
      refine J_tableIn C 121 (by rw [hw]; decide) (by rw [hw]; decide) (by rw [hw]; rfl) (by decide) dX5_count_1 ?_
      refine J_aload_n C rfl dX5_count_121 ?_
      refine J_get C 0 0 in5 rfl rfl (by decide) k217 rfl dX5_count_122 ?_
      refine J_callV (as := []) (rest := []) C (ct_corrLeft l G a σ d hI) (fun u => [(ts, .inr (5, [.ref (a 0), .ref (a1 0), .ref (a2 0), .ref hh, .ref (b 0), .int (nI ks)]))] ++ (stW G a σ d ++ ([(hh, .inr (0, [.ref ha, .int (nI f), .int (nI n)])), (ha, .inl (G.2.2.2, 4, .inr (.inr (.inr (.inr (fun j => some (hb j 0)))))))] ++ [(b 0, .inr (2, [.ref (b 1), .ref (b 2), .ref (b 3), .int (nI L), .int (nI hf), .int fa, .int (nI cu)]))]))) [1, 2, 3, 4, 5, 6, 7, 8, 9, 10, 11] [0, 12, 13, 14] 0 k399 k400 k401 k11 k402 rfl (by decide +kernel) ⟨Nat.le_of_ble_eq_true rfl, Nat.le_of_ble_eq_true rfl⟩ ⟨Nat.le_of_ble_eq_true rfl, Nat.le_of_ble_eq_true rfl⟩ dX5_count_125 (Nat.le_of_ble_eq_true rfl) 1 rfl rfl rfl (by decide +kernel) (fun _ => rfl) ([(ts, .inr (5, [.ref (a 0), .ref (a1 0), .ref (a2 0), .ref hh, .ref (b 0), .int (nI ks)]))] ++ ([(hh, .inr (0, [.ref ha, .int (nI f), .int (nI n)])), (ha, .inl (G.2.2.2, 4, .inr (.inr (.inr (.inr (fun j => some (hb j 0)))))))] ++ [(b 0, .inr (2, [.ref (b 1), .ref (b 2), .ref (b 3), .int (nI L), .int (nI hf), .int fa, .int (nI cu)]))])) rfl (fun _ => rfl) 15 (fun _ => rfl) (by decide +kernel) (by decide +kernel) (fun _ _ => ?_)
      refine J_st (st' := [.int (nI (σ 7 2 - σ 0 5))]) rfl ?_
      exact J_zret C hr rfl dX5_count_128 () (by rw [hwi] <;> rfl) trivial rfl
    · skip
      have hw : x = 6 := Int32.toInt_inj.mp (by rw [hwi]; decide)
      refine J_tableIn C 129 (by rw [hw]; decide) (by rw [hw]; decide) (by rw [hw]; rfl) (by decide) dX5_count_1 ?_
      refine J_aload_n C rfl dX5_count_129 ?_
      refine J_get C 0 0 in5 rfl rfl (by decide) k217 rfl dX5_count_130 ?_
      refine J_getN C 1 8 in4 rfl rfl (by decide) nfTwoScribes_245 rfl dX5_count_133 ?_
      exact J_zret C hr rfl dX5_count_136 () (by rw [hwi] <;> rfl) trivial rfl
    · skip
      have hw : x = 7 := Int32.toInt_inj.mp (by rw [hwi]; decide)
      refine J_tableIn C 137 (by rw [hw]; decide) (by rw [hw]; decide) (by rw [hw]; rfl) (by decide) dX5_count_1 ?_
      refine J_aload_n C rfl dX5_count_137 ?_
      refine J_get C 0 0 in5 rfl rfl (by decide) k217 rfl dX5_count_138 ?_
      refine J_getN C 1 9 in4 rfl rfl (by decide) nfTwoScribes_133 rfl dX5_count_141 ?_
      exact J_zret C hr rfl dX5_count_144 () (by rw [hwi] <;> rfl) trivial rfl
    · skip
      have hw : x = 8 := Int32.toInt_inj.mp (by rw [hwi]; decide)
      refine J_tableIn C 145 (by rw [hw]; decide) (by rw [hw]; decide) (by rw [hw]; rfl) (by decide) dX5_count_1 ?_
      refine J_aload_n C rfl dX5_count_145 ?_
      refine J_get C 0 0 in5 rfl rfl (by decide) k217 rfl dX5_count_146 ?_
      refine J_getN C 1 10 in4 rfl rfl (by decide) nfTwoScribes_112 rfl dX5_count_149 ?_
      exact J_zret C hr rfl dX5_count_152 () (by rw [hwi] <;> rfl) trivial rfl
    · skip
      have hw : x = 9 := Int32.toInt_inj.mp (by rw [hwi]; decide)
      refine J_tableIn C 153 (by rw [hw]; decide) (by rw [hw]; decide) (by rw [hw]; rfl) (by decide) dX5_count_1 ?_
      refine J_aload_n C rfl dX5_count_153 ?_
      refine J_get C 0 0 in5 rfl rfl (by decide) k217 rfl dX5_count_154 ?_
      refine J_getN C 1 3 in4 rfl rfl (by decide) nfTwoScribes_126 rfl dX5_count_157 ?_
      refine J_iconst C 0 (by decide) dX5_count_160 ?_
      refine J_callS (as := [.ref (a 10), .int 0]) (rest := []) C (ct_at l G (a 10) 3 (fun q => nI (σ 7 q)) 0 (by omega) (by decide)) (fun u => [(ts, .inr (5, [.ref (a 0), .ref (a1 0), .ref (a2 0), .ref hh, .ref (b 0), .int (nI ks)]))] ++ (stW G a σ d ++ ([(hh, .inr (0, [.ref ha, .int (nI f), .int (nI n)])), (ha, .inl (G.2.2.2, 4, .inr (.inr (.inr (.inr (fun j => some (hb j 0)))))))] ++ [(b 0, .inr (2, [.ref (b 1), .ref (b 2), .ref (b 3), .int (nI L), .int (nI hf), .int fa, .int (nI cu)]))]))) [11] [0, 1, 2, 3, 4, 5, 6, 7, 8, 9, 10, 12, 13, 14] 2 k376 k340 k10 k341 rfl (by decide +kernel) ⟨Nat.le_of_ble_eq_true rfl, Nat.le_of_ble_eq_true rfl⟩ ⟨Nat.le_of_ble_eq_true rfl, Nat.le_of_ble_eq_true rfl⟩ dX5_count_161 (Nat.le_of_ble_eq_true rfl) rfl (by decide +kernel) (fun _ => rfl) ([(ts, .inr (5, [.ref (a 0), .ref (a1 0), .ref (a2 0), .ref hh, .ref (b 0), .int (nI ks)]))] ++ ([(a 0, .inr (4, [.ref (a 1), .ref (a 8), .ref (a 9), .ref (a 10), .float (fl (σ 0 6)), .float (fl (σ 0 7)), .float (fl (σ 0 8)), .int (nI (σ 0 3)), .int (nI (σ 0 9)), .int (nI (σ 0 10)), .int (nI (σ 0 11))])), (a 1, .inr (1, [.ref (a 2), .ref (a 3), .ref (a 4), .ref (a 5), .ref (a 6), .ref (a 7), .int (nI (σ 0 4)), .int (nI (σ 0 5))])), (a 2, .inl (G.2.1, 40, .inl (fun q => nI (d q)))), (a 3, .inl (G.2.1, 40, .inl (fun q => nI (σ 2 q)))), (a 4, .inl (G.2.1, 40, .inl (fun q => nI (σ 3 q)))), (a 5, .inl (G.2.1, 40, .inl (fun q => nI (σ 6 q)))), (a 6, .inl (G.2.1, 40, .inl (fun q => nI (σ 4 q)))), (a 7, .inl (G.2.1, 40, .inl (fun q => nI (σ 5 q)))), (a 8, .inr (3, [.int (nI (σ 0 12)), .int (nI (σ 0 14)), .int (nI (σ 0 16)), .int (nI (σ 0 18)), .int (nI (σ 0 20)), .int (nI (σ 0 22)), .float (fl (σ 0 24))])), (a 9, .inr (3, [.int (nI (σ 0 13)), .int (nI (σ 0 15)), .int (nI (σ 0 17)), .int (nI (σ 0 19)), .int (nI (σ 0 21)), .int (nI (σ 0 23)), .float (fl (σ 0 25))]))] ++ ([(hh, .inr (0, [.ref ha, .int (nI f), .int (nI n)])), (ha, .inl (G.2.2.2, 4, .inr (.inr (.inr (.inr (fun j => some (hb j 0)))))))] ++ [(b 0, .inr (2, [.ref (b 1), .ref (b 2), .ref (b 3), .int (nI L), .int (nI hf), .int fa, .int (nI cu)]))]))) rfl (fun _ => rfl) 15 (fun _ => rfl) (by decide +kernel) (by decide +kernel) (fun _ _ => ?_)
      refine J_st (st' := [.int (nI (σ 7 0))]) rfl ?_
      exact J_zret C hr rfl dX5_count_164 () (by rw [hwi] <;> rfl) trivial rfl
    · skip
      have hw : x = 10 := Int32.toInt_inj.mp (by rw [hwi]; decide)
      refine J_tableIn C 165 (by rw [hw]; decide) (by rw [hw]; decide) (by rw [hw]; rfl) (by decide) dX5_count_1 ?_
      refine J_aload_n C rfl dX5_count_165 ?_
      refine J_get C 0 0 in5 rfl rfl (by decide) k217 rfl dX5_count_166 ?_
      refine J_getN C 1 3 in4 rfl rfl (by decide) nfTwoScribes_126 rfl dX5_count_169 ?_
      refine J_iconst C 1 (by decide) dX5_count_172 ?_
      refine J_callS (as := [.ref (a 10), .int 1]) (rest := []) C (ct_at l G (a 10) 3 (fun q => nI (σ 7 q)) 1 (by omega) (by decide)) (fun u => [(ts, .inr (5, [.ref (a 0), .ref (a1 0), .ref (a2 0), .ref hh, .ref (b 0), .int (nI ks)]))] ++ (stW G a σ d ++ ([(hh, .inr (0, [.ref ha, .int (nI f), .int (nI n)])), (ha, .inl (G.2.2.2, 4, .inr (.inr (.inr (.inr (fun j => some (hb j 0)))))))] ++ [(b 0, .inr (2, [.ref (b 1), .ref (b 2), .ref (b 3), .int (nI L), .int (nI hf), .int fa, .int (nI cu)]))]))) [11] [0, 1, 2, 3, 4, 5, 6, 7, 8, 9, 10, 12, 13, 14] 2 k376 k340 k10 k341 rfl (by decide +kernel) ⟨Nat.le_of_ble_eq_true rfl, Nat.le_of_ble_eq_true rfl⟩ ⟨Nat.le_of_ble_eq_true rfl, Nat.le_of_ble_eq_true rfl⟩ dX5_count_173 (Nat.le_of_ble_eq_true rfl) rfl (by decide +kernel) (fun _ => rfl) ([(ts, .inr (5, [.ref (a 0), .ref (a1 0), .ref (a2 0), .ref hh, .ref (b 0), .int (nI ks)]))] ++ ([(a 0, .inr (4, [.ref (a 1), .ref (a 8), .ref (a 9), .ref (a 10), .float (fl (σ 0 6)), .float (fl (σ 0 7)), .float (fl (σ 0 8)), .int (nI (σ 0 3)), .int (nI (σ 0 9)), .int (nI (σ 0 10)), .int (nI (σ 0 11))])), (a 1, .inr (1, [.ref (a 2), .ref (a 3), .ref (a 4), .ref (a 5), .ref (a 6), .ref (a 7), .int (nI (σ 0 4)), .int (nI (σ 0 5))])), (a 2, .inl (G.2.1, 40, .inl (fun q => nI (d q)))), (a 3, .inl (G.2.1, 40, .inl (fun q => nI (σ 2 q)))), (a 4, .inl (G.2.1, 40, .inl (fun q => nI (σ 3 q)))), (a 5, .inl (G.2.1, 40, .inl (fun q => nI (σ 6 q)))), (a 6, .inl (G.2.1, 40, .inl (fun q => nI (σ 4 q)))), (a 7, .inl (G.2.1, 40, .inl (fun q => nI (σ 5 q)))), (a 8, .inr (3, [.int (nI (σ 0 12)), .int (nI (σ 0 14)), .int (nI (σ 0 16)), .int (nI (σ 0 18)), .int (nI (σ 0 20)), .int (nI (σ 0 22)), .float (fl (σ 0 24))])), (a 9, .inr (3, [.int (nI (σ 0 13)), .int (nI (σ 0 15)), .int (nI (σ 0 17)), .int (nI (σ 0 19)), .int (nI (σ 0 21)), .int (nI (σ 0 23)), .float (fl (σ 0 25))]))] ++ ([(hh, .inr (0, [.ref ha, .int (nI f), .int (nI n)])), (ha, .inl (G.2.2.2, 4, .inr (.inr (.inr (.inr (fun j => some (hb j 0)))))))] ++ [(b 0, .inr (2, [.ref (b 1), .ref (b 2), .ref (b 3), .int (nI L), .int (nI hf), .int fa, .int (nI cu)]))]))) rfl (fun _ => rfl) 15 (fun _ => rfl) (by decide +kernel) (by decide +kernel) (fun _ _ => ?_)
      refine J_st (st' := [.int (nI (σ 7 1))]) rfl ?_
      exact J_zret C hr rfl dX5_count_176 () (by rw [hwi] <;> rfl) trivial rfl
    · skip
      have hw : x = 11 := Int32.toInt_inj.mp (by rw [hwi]; decide)
      refine J_tableIn C 177 (by rw [hw]; decide) (by rw [hw]; decide) (by rw [hw]; rfl) (by decide) dX5_count_1 ?_
      refine J_aload_n C rfl dX5_count_177 ?_
      refine J_get C 0 0 in5 rfl rfl (by decide) k217 rfl dX5_count_178 ?_
      refine J_getN C 1 3 in4 rfl rfl (by decide) nfTwoScribes_126 rfl dX5_count_181 ?_
      refine J_iconst C 2 (by decide) dX5_count_184 ?_
      refine J_callS (as := [.ref (a 10), .int 2]) (rest := []) C (ct_at l G (a 10) 3 (fun q => nI (σ 7 q)) 2 (by omega) (by decide)) (fun u => [(ts, .inr (5, [.ref (a 0), .ref (a1 0), .ref (a2 0), .ref hh, .ref (b 0), .int (nI ks)]))] ++ (stW G a σ d ++ ([(hh, .inr (0, [.ref ha, .int (nI f), .int (nI n)])), (ha, .inl (G.2.2.2, 4, .inr (.inr (.inr (.inr (fun j => some (hb j 0)))))))] ++ [(b 0, .inr (2, [.ref (b 1), .ref (b 2), .ref (b 3), .int (nI L), .int (nI hf), .int fa, .int (nI cu)]))]))) [11] [0, 1, 2, 3, 4, 5, 6, 7, 8, 9, 10, 12, 13, 14] 2 k376 k340 k10 k341 rfl (by decide +kernel) ⟨Nat.le_of_ble_eq_true rfl, Nat.le_of_ble_eq_true rfl⟩ ⟨Nat.le_of_ble_eq_true rfl, Nat.le_of_ble_eq_true rfl⟩ dX5_count_185 (Nat.le_of_ble_eq_true rfl) rfl (by decide +kernel) (fun _ => rfl) ([(ts, .inr (5, [.ref (a 0), .ref (a1 0), .ref (a2 0), .ref hh, .ref (b 0), .int (nI ks)]))] ++ ([(a 0, .inr (4, [.ref (a 1), .ref (a 8), .ref (a 9), .ref (a 10), .float (fl (σ 0 6)), .float (fl (σ 0 7)), .float (fl (σ 0 8)), .int (nI (σ 0 3)), .int (nI (σ 0 9)), .int (nI (σ 0 10)), .int (nI (σ 0 11))])), (a 1, .inr (1, [.ref (a 2), .ref (a 3), .ref (a 4), .ref (a 5), .ref (a 6), .ref (a 7), .int (nI (σ 0 4)), .int (nI (σ 0 5))])), (a 2, .inl (G.2.1, 40, .inl (fun q => nI (d q)))), (a 3, .inl (G.2.1, 40, .inl (fun q => nI (σ 2 q)))), (a 4, .inl (G.2.1, 40, .inl (fun q => nI (σ 3 q)))), (a 5, .inl (G.2.1, 40, .inl (fun q => nI (σ 6 q)))), (a 6, .inl (G.2.1, 40, .inl (fun q => nI (σ 4 q)))), (a 7, .inl (G.2.1, 40, .inl (fun q => nI (σ 5 q)))), (a 8, .inr (3, [.int (nI (σ 0 12)), .int (nI (σ 0 14)), .int (nI (σ 0 16)), .int (nI (σ 0 18)), .int (nI (σ 0 20)), .int (nI (σ 0 22)), .float (fl (σ 0 24))])), (a 9, .inr (3, [.int (nI (σ 0 13)), .int (nI (σ 0 15)), .int (nI (σ 0 17)), .int (nI (σ 0 19)), .int (nI (σ 0 21)), .int (nI (σ 0 23)), .float (fl (σ 0 25))]))] ++ ([(hh, .inr (0, [.ref ha, .int (nI f), .int (nI n)])), (ha, .inl (G.2.2.2, 4, .inr (.inr (.inr (.inr (fun j => some (hb j 0)))))))] ++ [(b 0, .inr (2, [.ref (b 1), .ref (b 2), .ref (b 3), .int (nI L), .int (nI hf), .int fa, .int (nI cu)]))]))) rfl (fun _ => rfl) 15 (fun _ => rfl) (by decide +kernel) (by decide +kernel) (fun _ _ => ?_)
      refine J_st (st' := [.int (nI (σ 7 2))]) rfl ?_
      exact J_zret C hr rfl dX5_count_188 () (by rw [hwi] <;> rfl) trivial rfl
    · skip
      have hw : x = 12 := Int32.toInt_inj.mp (by rw [hwi]; decide)
      refine J_tableIn C 189 (by rw [hw]; decide) (by rw [hw]; decide) (by rw [hw]; rfl) (by decide) dX5_count_1 ?_
      refine J_aload_n C rfl dX5_count_189 ?_
      refine J_get C 0 3 in5 rfl rfl (by decide) k220 rfl dX5_count_190 ?_
      refine J_getN C 12 2 in0 rfl rfl (by decide) nfTwoScribes_151 rfl dX5_count_193 ?_
      exact J_zret C hr rfl dX5_count_196 () (by rw [hwi] <;> rfl) trivial rfl
    · skip
      have hw : x = 13 := Int32.toInt_inj.mp (by rw [hwi]; decide)
      refine J_tableIn C 197 (by rw [hw]; decide) (by rw [hw]; decide) (by rw [hw]; rfl) (by decide) dX5_count_1 ?_
      refine J_aload_n C rfl dX5_count_197 ?_
      refine J_get C 0 4 in5 rfl rfl (by decide) k221 rfl dX5_count_198 ?_
      refine J_getN C 14 3 in2 rfl rfl (by decide) nfTwoScribes_144 rfl dX5_count_201 ?_
      exact J_zret C hr rfl dX5_count_204 () (by rw [hwi] <;> rfl) trivial rfl
