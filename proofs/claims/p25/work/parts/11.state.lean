set_option maxHeartbeats 4000000 in
set_option maxRecDepth 100000 in
theorem ct_stateCopy (l : Launch) (G : GT) (a : Nat → Nat) (σ : AS) (d : Nat → Nat) (a2 : Nat → Nat) (σ2 : AS) (d2 : Nat → Nat)  : Ct (S := Unit) l G NoX yX4_copyFrom (Wy yX4_copyFrom cX4_copyFrom 2 ((Option.none : Option Jvm.ClassFile.FieldType))) { frames := 3, cells := 0, slots := 0, locals := 82 } [.ref (a 0), .ref (a2 0)] (stW G a σ d ++ stW G a2 σ2 d2) (fun u => True) (fun u => none) (fun u => stW G a σ2 d2 ++ stW G a2 σ2 d2) := by
  refine Ct.of (by decide) (Nat.le_of_ble_eq_true rfl) (fun p e s m args below meth c C hr hnm hX => ?_)
  refine J_aload_n C rfl dX4_copyFrom_0 ?_
  refine J_get C 0 0 in4 rfl rfl (by decide) k117 rfl dX4_copyFrom_1 ?_
  refine J_aload_n C rfl dX4_copyFrom_4 ?_
  refine J_get C 11 0 in4 rfl rfl (by decide) k117 rfl dX4_copyFrom_5 ?_
  refine J_callV (as := [.ref (a2 1)]) (rest := []) C (ct_pageCopy l G a σ d a2 σ2 d2) (fun u => [(a 0, .inr (4, [.ref (a 1), .ref (a 8), .ref (a 9), .ref (a 10), .float (fl (σ 0 6)), .float (fl (σ 0 7)), .float (fl (σ 0 8)), .int (nI (σ 0 3)), .int (nI (σ 0 9)), .int (nI (σ 0 10)), .int (nI (σ 0 11))])), (a 1, .inr (1, [.ref (a 2), .ref (a 3), .ref (a 4), .ref (a 5), .ref (a 6), .ref (a 7), .int (nI (σ2 0 4)), .int (nI (σ2 0 5))])), (a 2, .inl (G.2.1, 40, .inl (fun q => nI (d2 q)))), (a 3, .inl (G.2.1, 40, .inl (fun q => nI (σ2 2 q)))), (a 4, .inl (G.2.1, 40, .inl (fun q => nI (σ2 3 q)))), (a 5, .inl (G.2.1, 40, .inl (fun q => nI (σ2 6 q)))), (a 6, .inl (G.2.1, 40, .inl (fun q => nI (σ2 4 q)))), (a 7, .inl (G.2.1, 40, .inl (fun q => nI (σ2 5 q)))), (a 8, .inr (3, [.int (nI (σ 0 12)), .int (nI (σ 0 14)), .int (nI (σ 0 16)), .int (nI (σ 0 18)), .int (nI (σ 0 20)), .int (nI (σ 0 22)), .float (fl (σ 0 24))])), (a 9, .inr (3, [.int (nI (σ 0 13)), .int (nI (σ 0 15)), .int (nI (σ 0 17)), .int (nI (σ 0 19)), .int (nI (σ 0 21)), .int (nI (σ 0 23)), .float (fl (σ 0 25))])), (a 10, .inl (G.2.1, 3, .inl (fun q => nI (σ 7 q))))] ++ stW G a2 σ2 d2) [1, 2, 3, 4, 5, 6, 7, 12, 13, 14, 15, 16, 17, 18] [0, 8, 9, 10, 11, 19, 20, 21] 1 k312 k313 k314 k12 k315 rfl (by decide +kernel) ⟨Nat.le_of_ble_eq_true rfl, Nat.le_of_ble_eq_true rfl⟩ ⟨Nat.le_of_ble_eq_true rfl, Nat.le_of_ble_eq_true rfl⟩ dX4_copyFrom_8 (Nat.le_of_ble_eq_true rfl) 1 rfl rfl rfl (by decide +kernel) (fun _ => rfl) ([(a 0, .inr (4, [.ref (a 1), .ref (a 8), .ref (a 9), .ref (a 10), .float (fl (σ 0 6)), .float (fl (σ 0 7)), .float (fl (σ 0 8)), .int (nI (σ 0 3)), .int (nI (σ 0 9)), .int (nI (σ 0 10)), .int (nI (σ 0 11))])), (a 8, .inr (3, [.int (nI (σ 0 12)), .int (nI (σ 0 14)), .int (nI (σ 0 16)), .int (nI (σ 0 18)), .int (nI (σ 0 20)), .int (nI (σ 0 22)), .float (fl (σ 0 24))])), (a 9, .inr (3, [.int (nI (σ 0 13)), .int (nI (σ 0 15)), .int (nI (σ 0 17)), .int (nI (σ 0 19)), .int (nI (σ 0 21)), .int (nI (σ 0 23)), .float (fl (σ 0 25))])), (a 10, .inl (G.2.1, 3, .inl (fun q => nI (σ 7 q))))] ++ [(a2 0, .inr (4, [.ref (a2 1), .ref (a2 8), .ref (a2 9), .ref (a2 10), .float (fl (σ2 0 6)), .float (fl (σ2 0 7)), .float (fl (σ2 0 8)), .int (nI (σ2 0 3)), .int (nI (σ2 0 9)), .int (nI (σ2 0 10)), .int (nI (σ2 0 11))])), (a2 8, .inr (3, [.int (nI (σ2 0 12)), .int (nI (σ2 0 14)), .int (nI (σ2 0 16)), .int (nI (σ2 0 18)), .int (nI (σ2 0 20)), .int (nI (σ2 0 22)), .float (fl (σ2 0 24))])), (a2 9, .inr (3, [.int (nI (σ2 0 13)), .int (nI (σ2 0 15)), .int (nI (σ2 0 17)), .int (nI (σ2 0 19)), .int (nI (σ2 0 21)), .int (nI (σ2 0 23)), .float (fl (σ2 0 25))])), (a2 10, .inl (G.2.1, 3, .inl (fun q => nI (σ2 7 q))))]) rfl (fun _ => rfl) 22 (fun _ => rfl) (by decide +kernel) (by decide +kernel) (fun _ _ => ?_)
  refine J_st (st' := []) rfl ?_
  refine J_aload_n C rfl dX4_copyFrom_11 ?_
  refine J_get C 0 1 in4 rfl rfl (by decide) k119 rfl dX4_copyFrom_12 ?_
  refine J_aload_n C rfl dX4_copyFrom_15 ?_
  refine J_get C 11 1 in4 rfl rfl (by decide) k119 rfl dX4_copyFrom_16 ?_
  refine J_callV (as := [.ref (a2 8)]) (rest := []) C (ct_scrCopy l G (a 8) (a2 8) (nI (σ 0 12)) (nI (σ 0 14)) (nI (σ 0 16)) (nI (σ 0 18)) (nI (σ 0 20)) (nI (σ 0 22)) (fl (σ 0 24)) (nI (σ2 0 12)) (nI (σ2 0 14)) (nI (σ2 0 16)) (nI (σ2 0 18)) (nI (σ2 0 20)) (nI (σ2 0 22)) (fl (σ2 0 24))) (fun u => [(a 0, .inr (4, [.ref (a 1), .ref (a 8), .ref (a 9), .ref (a 10), .float (fl (σ 0 6)), .float (fl (σ 0 7)), .float (fl (σ 0 8)), .int (nI (σ 0 3)), .int (nI (σ 0 9)), .int (nI (σ 0 10)), .int (nI (σ 0 11))])), (a 1, .inr (1, [.ref (a 2), .ref (a 3), .ref (a 4), .ref (a 5), .ref (a 6), .ref (a 7), .int (nI (σ2 0 4)), .int (nI (σ2 0 5))])), (a 2, .inl (G.2.1, 40, .inl (fun q => nI (d2 q)))), (a 3, .inl (G.2.1, 40, .inl (fun q => nI (σ2 2 q)))), (a 4, .inl (G.2.1, 40, .inl (fun q => nI (σ2 3 q)))), (a 5, .inl (G.2.1, 40, .inl (fun q => nI (σ2 6 q)))), (a 6, .inl (G.2.1, 40, .inl (fun q => nI (σ2 4 q)))), (a 7, .inl (G.2.1, 40, .inl (fun q => nI (σ2 5 q)))), (a 8, .inr (3, [.int (nI (σ2 0 12)), .int (nI (σ2 0 14)), .int (nI (σ2 0 16)), .int (nI (σ2 0 18)), .int (nI (σ2 0 20)), .int (nI (σ2 0 22)), .float (fl (σ2 0 24))])), (a 9, .inr (3, [.int (nI (σ 0 13)), .int (nI (σ 0 15)), .int (nI (σ 0 17)), .int (nI (σ 0 19)), .int (nI (σ 0 21)), .int (nI (σ 0 23)), .float (fl (σ 0 25))])), (a 10, .inl (G.2.1, 3, .inl (fun q => nI (σ 7 q))))] ++ stW G a2 σ2 d2) [8, 19] [0, 1, 2, 3, 4, 5, 6, 7, 9, 10, 11, 12, 13, 14, 15, 16, 17, 18, 20, 21] 1 k325 k326 k327 k13 k328 rfl (by decide +kernel) ⟨Nat.le_of_ble_eq_true rfl, Nat.le_of_ble_eq_true rfl⟩ ⟨Nat.le_of_ble_eq_true rfl, Nat.le_of_ble_eq_true rfl⟩ dX4_copyFrom_19 (Nat.le_of_ble_eq_true rfl) 8 rfl rfl rfl (by decide +kernel) (fun _ => rfl) ([(a 0, .inr (4, [.ref (a 1), .ref (a 8), .ref (a 9), .ref (a 10), .float (fl (σ 0 6)), .float (fl (σ 0 7)), .float (fl (σ 0 8)), .int (nI (σ 0 3)), .int (nI (σ 0 9)), .int (nI (σ 0 10)), .int (nI (σ 0 11))])), (a 1, .inr (1, [.ref (a 2), .ref (a 3), .ref (a 4), .ref (a 5), .ref (a 6), .ref (a 7), .int (nI (σ2 0 4)), .int (nI (σ2 0 5))])), (a 2, .inl (G.2.1, 40, .inl (fun q => nI (d2 q)))), (a 3, .inl (G.2.1, 40, .inl (fun q => nI (σ2 2 q)))), (a 4, .inl (G.2.1, 40, .inl (fun q => nI (σ2 3 q)))), (a 5, .inl (G.2.1, 40, .inl (fun q => nI (σ2 6 q)))), (a 6, .inl (G.2.1, 40, .inl (fun q => nI (σ2 4 q)))), (a 7, .inl (G.2.1, 40, .inl (fun q => nI (σ2 5 q)))), (a 9, .inr (3, [.int (nI (σ 0 13)), .int (nI (σ 0 15)), .int (nI (σ 0 17)), .int (nI (σ 0 19)), .int (nI (σ 0 21)), .int (nI (σ 0 23)), .float (fl (σ 0 25))])), (a 10, .inl (G.2.1, 3, .inl (fun q => nI (σ 7 q))))] ++ [(a2 0, .inr (4, [.ref (a2 1), .ref (a2 8), .ref (a2 9), .ref (a2 10), .float (fl (σ2 0 6)), .float (fl (σ2 0 7)), .float (fl (σ2 0 8)), .int (nI (σ2 0 3)), .int (nI (σ2 0 9)), .int (nI (σ2 0 10)), .int (nI (σ2 0 11))])), (a2 1, .inr (1, [.ref (a2 2), .ref (a2 3), .ref (a2 4), .ref (a2 5), .ref (a2 6), .ref (a2 7), .int (nI (σ2 0 4)), .int (nI (σ2 0 5))])), (a2 2, .inl (G.2.1, 40, .inl (fun q => nI (d2 q)))), (a2 3, .inl (G.2.1, 40, .inl (fun q => nI (σ2 2 q)))), (a2 4, .inl (G.2.1, 40, .inl (fun q => nI (σ2 3 q)))), (a2 5, .inl (G.2.1, 40, .inl (fun q => nI (σ2 6 q)))), (a2 6, .inl (G.2.1, 40, .inl (fun q => nI (σ2 4 q)))), (a2 7, .inl (G.2.1, 40, .inl (fun q => nI (σ2 5 q)))), (a2 9, .inr (3, [.int (nI (σ2 0 13)), .int (nI (σ2 0 15)), .int (nI (σ2 0 17)), .int (nI (σ2 0 19)), .int (nI (σ2 0 21)), .int (nI (σ2 0 23)), .float (fl (σ2 0 25))])), (a2 10, .inl (G.2.1, 3, .inl (fun q => nI (σ2 7 q))))]) rfl (fun _ => rfl) 22 (fun _ => rfl) (by decide +kernel) (by decide +kernel) (fun _ _ => ?_)
  refine J_st (st' := []) rfl ?_
  refine J_aload_n C rfl dX4_copyFrom_22 ?_
  refine J_get C 0 2 in4 rfl rfl (by decide) k121 rfl dX4_copyFrom_23 ?_
  refine J_aload_n C rfl dX4_copyFrom_26 ?_
  refine J_get C 11 2 in4 rfl rfl (by decide) k121 rfl dX4_copyFrom_27 ?_
  refine J_callV (as := [.ref (a2 9)]) (rest := []) C (ct_scrCopy l G (a 9) (a2 9) (nI (σ 0 13)) (nI (σ 0 15)) (nI (σ 0 17)) (nI (σ 0 19)) (nI (σ 0 21)) (nI (σ 0 23)) (fl (σ 0 25)) (nI (σ2 0 13)) (nI (σ2 0 15)) (nI (σ2 0 17)) (nI (σ2 0 19)) (nI (σ2 0 21)) (nI (σ2 0 23)) (fl (σ2 0 25))) (fun u => [(a 0, .inr (4, [.ref (a 1), .ref (a 8), .ref (a 9), .ref (a 10), .float (fl (σ 0 6)), .float (fl (σ 0 7)), .float (fl (σ 0 8)), .int (nI (σ 0 3)), .int (nI (σ 0 9)), .int (nI (σ 0 10)), .int (nI (σ 0 11))])), (a 1, .inr (1, [.ref (a 2), .ref (a 3), .ref (a 4), .ref (a 5), .ref (a 6), .ref (a 7), .int (nI (σ2 0 4)), .int (nI (σ2 0 5))])), (a 2, .inl (G.2.1, 40, .inl (fun q => nI (d2 q)))), (a 3, .inl (G.2.1, 40, .inl (fun q => nI (σ2 2 q)))), (a 4, .inl (G.2.1, 40, .inl (fun q => nI (σ2 3 q)))), (a 5, .inl (G.2.1, 40, .inl (fun q => nI (σ2 6 q)))), (a 6, .inl (G.2.1, 40, .inl (fun q => nI (σ2 4 q)))), (a 7, .inl (G.2.1, 40, .inl (fun q => nI (σ2 5 q)))), (a 8, .inr (3, [.int (nI (σ2 0 12)), .int (nI (σ2 0 14)), .int (nI (σ2 0 16)), .int (nI (σ2 0 18)), .int (nI (σ2 0 20)), .int (nI (σ2 0 22)), .float (fl (σ2 0 24))])), (a 9, .inr (3, [.int (nI (σ2 0 13)), .int (nI (σ2 0 15)), .int (nI (σ2 0 17)), .int (nI (σ2 0 19)), .int (nI (σ2 0 21)), .int (nI (σ2 0 23)), .float (fl (σ2 0 25))])), (a 10, .inl (G.2.1, 3, .inl (fun q => nI (σ 7 q))))] ++ stW G a2 σ2 d2) [9, 20] [0, 1, 2, 3, 4, 5, 6, 7, 8, 10, 11, 12, 13, 14, 15, 16, 17, 18, 19, 21] 1 k325 k326 k327 k13 k328 rfl (by decide +kernel) ⟨Nat.le_of_ble_eq_true rfl, Nat.le_of_ble_eq_true rfl⟩ ⟨Nat.le_of_ble_eq_true rfl, Nat.le_of_ble_eq_true rfl⟩ dX4_copyFrom_30 (Nat.le_of_ble_eq_true rfl) 9 rfl rfl rfl (by decide +kernel) (fun _ => rfl) ([(a 0, .inr (4, [.ref (a 1), .ref (a 8), .ref (a 9), .ref (a 10), .float (fl (σ 0 6)), .float (fl (σ 0 7)), .float (fl (σ 0 8)), .int (nI (σ 0 3)), .int (nI (σ 0 9)), .int (nI (σ 0 10)), .int (nI (σ 0 11))])), (a 1, .inr (1, [.ref (a 2), .ref (a 3), .ref (a 4), .ref (a 5), .ref (a 6), .ref (a 7), .int (nI (σ2 0 4)), .int (nI (σ2 0 5))])), (a 2, .inl (G.2.1, 40, .inl (fun q => nI (d2 q)))), (a 3, .inl (G.2.1, 40, .inl (fun q => nI (σ2 2 q)))), (a 4, .inl (G.2.1, 40, .inl (fun q => nI (σ2 3 q)))), (a 5, .inl (G.2.1, 40, .inl (fun q => nI (σ2 6 q)))), (a 6, .inl (G.2.1, 40, .inl (fun q => nI (σ2 4 q)))), (a 7, .inl (G.2.1, 40, .inl (fun q => nI (σ2 5 q)))), (a 8, .inr (3, [.int (nI (σ2 0 12)), .int (nI (σ2 0 14)), .int (nI (σ2 0 16)), .int (nI (σ2 0 18)), .int (nI (σ2 0 20)), .int (nI (σ2 0 22)), .float (fl (σ2 0 24))])), (a 10, .inl (G.2.1, 3, .inl (fun q => nI (σ 7 q))))] ++ [(a2 0, .inr (4, [.ref (a2 1), .ref (a2 8), .ref (a2 9), .ref (a2 10), .float (fl (σ2 0 6)), .float (fl (σ2 0 7)), .float (fl (σ2 0 8)), .int (nI (σ2 0 3)), .int (nI (σ2 0 9)), .int (nI (σ2 0 10)), .int (nI (σ2 0 11))])), (a2 1, .inr (1, [.ref (a2 2), .ref (a2 3), .ref (a2 4), .ref (a2 5), .ref (a2 6), .ref (a2 7), .int (nI (σ2 0 4)), .int (nI (σ2 0 5))])), (a2 2, .inl (G.2.1, 40, .inl (fun q => nI (d2 q)))), (a2 3, .inl (G.2.1, 40, .inl (fun q => nI (σ2 2 q)))), (a2 4, .inl (G.2.1, 40, .inl (fun q => nI (σ2 3 q)))), (a2 5, .inl (G.2.1, 40, .inl (fun q => nI (σ2 6 q)))), (a2 6, .inl (G.2.1, 40, .inl (fun q => nI (σ2 4 q)))), (a2 7, .inl (G.2.1, 40, .inl (fun q => nI (σ2 5 q)))), (a2 8, .inr (3, [.int (nI (σ2 0 12)), .int (nI (σ2 0 14)), .int (nI (σ2 0 16)), .int (nI (σ2 0 18)), .int (nI (σ2 0 20)), .int (nI (σ2 0 22)), .float (fl (σ2 0 24))])), (a2 10, .inl (G.2.1, 3, .inl (fun q => nI (σ2 7 q))))]) rfl (fun _ => rfl) 22 (fun _ => rfl) (by decide +kernel) (by decide +kernel) (fun _ _ => ?_)
  refine J_st (st' := []) rfl ?_
  refine J_aload_n C rfl dX4_copyFrom_33 ?_
  refine J_get C 11 3 in4 rfl rfl (by decide) k123 rfl dX4_copyFrom_34 ?_
  refine J_aload_n C rfl dX4_copyFrom_37 ?_
  refine J_get C 0 3 in4 rfl rfl (by decide) k123 rfl dX4_copyFrom_38 ?_
  refine J_callSN (as := [.ref (a2 10), .ref (a 10)]) (rest := []) C (ct_copyRow l G (a2 10) (a 10) 3 (fun q => nI (σ2 7 q)) (fun q => nI (σ 7 q)) (by decide)) (fun u => [(a 0, .inr (4, [.ref (a 1), .ref (a 8), .ref (a 9), .ref (a 10), .float (fl (σ 0 6)), .float (fl (σ 0 7)), .float (fl (σ 0 8)), .int (nI (σ 0 3)), .int (nI (σ 0 9)), .int (nI (σ 0 10)), .int (nI (σ 0 11))])), (a 1, .inr (1, [.ref (a 2), .ref (a 3), .ref (a 4), .ref (a 5), .ref (a 6), .ref (a 7), .int (nI (σ2 0 4)), .int (nI (σ2 0 5))])), (a 2, .inl (G.2.1, 40, .inl (fun q => nI (d2 q)))), (a 3, .inl (G.2.1, 40, .inl (fun q => nI (σ2 2 q)))), (a 4, .inl (G.2.1, 40, .inl (fun q => nI (σ2 3 q)))), (a 5, .inl (G.2.1, 40, .inl (fun q => nI (σ2 6 q)))), (a 6, .inl (G.2.1, 40, .inl (fun q => nI (σ2 4 q)))), (a 7, .inl (G.2.1, 40, .inl (fun q => nI (σ2 5 q)))), (a 8, .inr (3, [.int (nI (σ2 0 12)), .int (nI (σ2 0 14)), .int (nI (σ2 0 16)), .int (nI (σ2 0 18)), .int (nI (σ2 0 20)), .int (nI (σ2 0 22)), .float (fl (σ2 0 24))])), (a 9, .inr (3, [.int (nI (σ2 0 13)), .int (nI (σ2 0 15)), .int (nI (σ2 0 17)), .int (nI (σ2 0 19)), .int (nI (σ2 0 21)), .int (nI (σ2 0 23)), .float (fl (σ2 0 25))])), (a 10, .inl (G.2.1, 3, .inl (fun q => nI (σ2 7 q))))] ++ stW G a2 σ2 d2) [21, 10] [0, 1, 2, 3, 4, 5, 6, 7, 8, 9, 11, 12, 13, 14, 15, 16, 17, 18, 19, 20] 2 nmTwoScribes_State_44 k317 k10 k318 rfl (by decide +kernel) ⟨Nat.le_of_ble_eq_true rfl, Nat.le_of_ble_eq_true rfl⟩ ⟨Nat.le_of_ble_eq_true rfl, Nat.le_of_ble_eq_true rfl⟩ dX4_copyFrom_41 (Nat.le_of_ble_eq_true rfl) rfl (by decide +kernel) (fun _ => rfl) ([(a 0, .inr (4, [.ref (a 1), .ref (a 8), .ref (a 9), .ref (a 10), .float (fl (σ 0 6)), .float (fl (σ 0 7)), .float (fl (σ 0 8)), .int (nI (σ 0 3)), .int (nI (σ 0 9)), .int (nI (σ 0 10)), .int (nI (σ 0 11))])), (a 1, .inr (1, [.ref (a 2), .ref (a 3), .ref (a 4), .ref (a 5), .ref (a 6), .ref (a 7), .int (nI (σ2 0 4)), .int (nI (σ2 0 5))])), (a 2, .inl (G.2.1, 40, .inl (fun q => nI (d2 q)))), (a 3, .inl (G.2.1, 40, .inl (fun q => nI (σ2 2 q)))), (a 4, .inl (G.2.1, 40, .inl (fun q => nI (σ2 3 q)))), (a 5, .inl (G.2.1, 40, .inl (fun q => nI (σ2 6 q)))), (a 6, .inl (G.2.1, 40, .inl (fun q => nI (σ2 4 q)))), (a 7, .inl (G.2.1, 40, .inl (fun q => nI (σ2 5 q)))), (a 8, .inr (3, [.int (nI (σ2 0 12)), .int (nI (σ2 0 14)), .int (nI (σ2 0 16)), .int (nI (σ2 0 18)), .int (nI (σ2 0 20)), .int (nI (σ2 0 22)), .float (fl (σ2 0 24))])), (a 9, .inr (3, [.int (nI (σ2 0 13)), .int (nI (σ2 0 15)), .int (nI (σ2 0 17)), .int (nI (σ2 0 19)), .int (nI (σ2 0 21)), .int (nI (σ2 0 23)), .float (fl (σ2 0 25))]))] ++ [(a2 0, .inr (4, [.ref (a2 1), .ref (a2 8), .ref (a2 9), .ref (a2 10), .float (fl (σ2 0 6)), .float (fl (σ2 0 7)), .float (fl (σ2 0 8)), .int (nI (σ2 0 3)), .int (nI (σ2 0 9)), .int (nI (σ2 0 10)), .int (nI (σ2 0 11))])), (a2 1, .inr (1, [.ref (a2 2), .ref (a2 3), .ref (a2 4), .ref (a2 5), .ref (a2 6), .ref (a2 7), .int (nI (σ2 0 4)), .int (nI (σ2 0 5))])), (a2 2, .inl (G.2.1, 40, .inl (fun q => nI (d2 q)))), (a2 3, .inl (G.2.1, 40, .inl (fun q => nI (σ2 2 q)))), (a2 4, .inl (G.2.1, 40, .inl (fun q => nI (σ2 3 q)))), (a2 5, .inl (G.2.1, 40, .inl (fun q => nI (σ2 6 q)))), (a2 6, .inl (G.2.1, 40, .inl (fun q => nI (σ2 4 q)))), (a2 7, .inl (G.2.1, 40, .inl (fun q => nI (σ2 5 q)))), (a2 8, .inr (3, [.int (nI (σ2 0 12)), .int (nI (σ2 0 14)), .int (nI (σ2 0 16)), .int (nI (σ2 0 18)), .int (nI (σ2 0 20)), .int (nI (σ2 0 22)), .float (fl (σ2 0 24))])), (a2 9, .inr (3, [.int (nI (σ2 0 13)), .int (nI (σ2 0 15)), .int (nI (σ2 0 17)), .int (nI (σ2 0 19)), .int (nI (σ2 0 21)), .int (nI (σ2 0 23)), .float (fl (σ2 0 25))]))]) rfl (fun _ => rfl) 22 (fun _ => rfl) (by decide +kernel) (by decide +kernel) (fun _ _ => ?_)
  refine J_st (st' := []) rfl ?_
  refine J_aload_n C rfl dX4_copyFrom_44 ?_
  refine J_aload_n C rfl dX4_copyFrom_45 ?_
  refine J_get C 11 4 in4 rfl rfl (by decide) k125 rfl dX4_copyFrom_46 ?_
  refine J_put C 0 4 in4 tyX4 tyX4_ok nmX4 ([(a 0, .inr (4, [.ref (a 1), .ref (a 8), .ref (a 9), .ref (a 10), .float (fl (σ2 0 6)), .float (fl (σ 0 7)), .float (fl (σ 0 8)), .int (nI (σ 0 3)), .int (nI (σ 0 9)), .int (nI (σ 0 10)), .int (nI (σ 0 11))])), (a 1, .inr (1, [.ref (a 2), .ref (a 3), .ref (a 4), .ref (a 5), .ref (a 6), .ref (a 7), .int (nI (σ2 0 4)), .int (nI (σ2 0 5))])), (a 2, .inl (G.2.1, 40, .inl (fun q => nI (d2 q)))), (a 3, .inl (G.2.1, 40, .inl (fun q => nI (σ2 2 q)))), (a 4, .inl (G.2.1, 40, .inl (fun q => nI (σ2 3 q)))), (a 5, .inl (G.2.1, 40, .inl (fun q => nI (σ2 6 q)))), (a 6, .inl (G.2.1, 40, .inl (fun q => nI (σ2 4 q)))), (a 7, .inl (G.2.1, 40, .inl (fun q => nI (σ2 5 q)))), (a 8, .inr (3, [.int (nI (σ2 0 12)), .int (nI (σ2 0 14)), .int (nI (σ2 0 16)), .int (nI (σ2 0 18)), .int (nI (σ2 0 20)), .int (nI (σ2 0 22)), .float (fl (σ2 0 24))])), (a 9, .inr (3, [.int (nI (σ2 0 13)), .int (nI (σ2 0 15)), .int (nI (σ2 0 17)), .int (nI (σ2 0 19)), .int (nI (σ2 0 21)), .int (nI (σ2 0 23)), .float (fl (σ2 0 25))])), (a 10, .inl (G.2.1, 3, .inl (fun q => nI (σ2 7 q))))] ++ stW G a2 σ2 d2) rfl rfl (by decide) k125 rfl rfl rfl (Nat.le_of_ble_eq_true rfl) rfl dX4_copyFrom_49 ?_
  refine J_aload_n C rfl dX4_copyFrom_52 ?_
  refine J_aload_n C rfl dX4_copyFrom_53 ?_
  refine J_get C 11 5 in4 rfl rfl (by decide) k127 rfl dX4_copyFrom_54 ?_
  refine J_put C 0 5 in4 tyX4 tyX4_ok nmX4 ([(a 0, .inr (4, [.ref (a 1), .ref (a 8), .ref (a 9), .ref (a 10), .float (fl (σ2 0 6)), .float (fl (σ2 0 7)), .float (fl (σ 0 8)), .int (nI (σ 0 3)), .int (nI (σ 0 9)), .int (nI (σ 0 10)), .int (nI (σ 0 11))])), (a 1, .inr (1, [.ref (a 2), .ref (a 3), .ref (a 4), .ref (a 5), .ref (a 6), .ref (a 7), .int (nI (σ2 0 4)), .int (nI (σ2 0 5))])), (a 2, .inl (G.2.1, 40, .inl (fun q => nI (d2 q)))), (a 3, .inl (G.2.1, 40, .inl (fun q => nI (σ2 2 q)))), (a 4, .inl (G.2.1, 40, .inl (fun q => nI (σ2 3 q)))), (a 5, .inl (G.2.1, 40, .inl (fun q => nI (σ2 6 q)))), (a 6, .inl (G.2.1, 40, .inl (fun q => nI (σ2 4 q)))), (a 7, .inl (G.2.1, 40, .inl (fun q => nI (σ2 5 q)))), (a 8, .inr (3, [.int (nI (σ2 0 12)), .int (nI (σ2 0 14)), .int (nI (σ2 0 16)), .int (nI (σ2 0 18)), .int (nI (σ2 0 20)), .int (nI (σ2 0 22)), .float (fl (σ2 0 24))])), (a 9, .inr (3, [.int (nI (σ2 0 13)), .int (nI (σ2 0 15)), .int (nI (σ2 0 17)), .int (nI (σ2 0 19)), .int (nI (σ2 0 21)), .int (nI (σ2 0 23)), .float (fl (σ2 0 25))])), (a 10, .inl (G.2.1, 3, .inl (fun q => nI (σ2 7 q))))] ++ stW G a2 σ2 d2) rfl rfl (by decide) k127 rfl rfl rfl (Nat.le_of_ble_eq_true rfl) rfl dX4_copyFrom_57 ?_
  refine J_aload_n C rfl dX4_copyFrom_60 ?_
  refine J_aload_n C rfl dX4_copyFrom_61 ?_
  refine J_get C 11 6 in4 rfl rfl (by decide) k129 rfl dX4_copyFrom_62 ?_
  refine J_put C 0 6 in4 tyX4 tyX4_ok nmX4 ([(a 0, .inr (4, [.ref (a 1), .ref (a 8), .ref (a 9), .ref (a 10), .float (fl (σ2 0 6)), .float (fl (σ2 0 7)), .float (fl (σ2 0 8)), .int (nI (σ 0 3)), .int (nI (σ 0 9)), .int (nI (σ 0 10)), .int (nI (σ 0 11))])), (a 1, .inr (1, [.ref (a 2), .ref (a 3), .ref (a 4), .ref (a 5), .ref (a 6), .ref (a 7), .int (nI (σ2 0 4)), .int (nI (σ2 0 5))])), (a 2, .inl (G.2.1, 40, .inl (fun q => nI (d2 q)))), (a 3, .inl (G.2.1, 40, .inl (fun q => nI (σ2 2 q)))), (a 4, .inl (G.2.1, 40, .inl (fun q => nI (σ2 3 q)))), (a 5, .inl (G.2.1, 40, .inl (fun q => nI (σ2 6 q)))), (a 6, .inl (G.2.1, 40, .inl (fun q => nI (σ2 4 q)))), (a 7, .inl (G.2.1, 40, .inl (fun q => nI (σ2 5 q)))), (a 8, .inr (3, [.int (nI (σ2 0 12)), .int (nI (σ2 0 14)), .int (nI (σ2 0 16)), .int (nI (σ2 0 18)), .int (nI (σ2 0 20)), .int (nI (σ2 0 22)), .float (fl (σ2 0 24))])), (a 9, .inr (3, [.int (nI (σ2 0 13)), .int (nI (σ2 0 15)), .int (nI (σ2 0 17)), .int (nI (σ2 0 19)), .int (nI (σ2 0 21)), .int (nI (σ2 0 23)), .float (fl (σ2 0 25))])), (a 10, .inl (G.2.1, 3, .inl (fun q => nI (σ2 7 q))))] ++ stW G a2 σ2 d2) rfl rfl (by decide) k129 rfl rfl rfl (Nat.le_of_ble_eq_true rfl) rfl dX4_copyFrom_65 ?_
  refine J_aload_n C rfl dX4_copyFrom_68 ?_
  refine J_aload_n C rfl dX4_copyFrom_69 ?_
  refine J_get C 11 7 in4 rfl rfl (by decide) k131 rfl dX4_copyFrom_70 ?_
  refine J_put C 0 7 in4 tyX4 tyX4_ok nmX4 ([(a 0, .inr (4, [.ref (a 1), .ref (a 8), .ref (a 9), .ref (a 10), .float (fl (σ2 0 6)), .float (fl (σ2 0 7)), .float (fl (σ2 0 8)), .int (nI (σ2 0 3)), .int (nI (σ 0 9)), .int (nI (σ 0 10)), .int (nI (σ 0 11))])), (a 1, .inr (1, [.ref (a 2), .ref (a 3), .ref (a 4), .ref (a 5), .ref (a 6), .ref (a 7), .int (nI (σ2 0 4)), .int (nI (σ2 0 5))])), (a 2, .inl (G.2.1, 40, .inl (fun q => nI (d2 q)))), (a 3, .inl (G.2.1, 40, .inl (fun q => nI (σ2 2 q)))), (a 4, .inl (G.2.1, 40, .inl (fun q => nI (σ2 3 q)))), (a 5, .inl (G.2.1, 40, .inl (fun q => nI (σ2 6 q)))), (a 6, .inl (G.2.1, 40, .inl (fun q => nI (σ2 4 q)))), (a 7, .inl (G.2.1, 40, .inl (fun q => nI (σ2 5 q)))), (a 8, .inr (3, [.int (nI (σ2 0 12)), .int (nI (σ2 0 14)), .int (nI (σ2 0 16)), .int (nI (σ2 0 18)), .int (nI (σ2 0 20)), .int (nI (σ2 0 22)), .float (fl (σ2 0 24))])), (a 9, .inr (3, [.int (nI (σ2 0 13)), .int (nI (σ2 0 15)), .int (nI (σ2 0 17)), .int (nI (σ2 0 19)), .int (nI (σ2 0 21)), .int (nI (σ2 0 23)), .float (fl (σ2 0 25))])), (a 10, .inl (G.2.1, 3, .inl (fun q => nI (σ2 7 q))))] ++ stW G a2 σ2 d2) rfl rfl (by decide) k131 rfl rfl rfl (Nat.le_of_ble_eq_true rfl) rfl dX4_copyFrom_73 ?_
  refine J_aload_n C rfl dX4_copyFrom_76 ?_
  refine J_aload_n C rfl dX4_copyFrom_77 ?_
  refine J_get C 11 8 in4 rfl rfl (by decide) k133 rfl dX4_copyFrom_78 ?_
  refine J_put C 0 8 in4 tyX4 tyX4_ok nmX4 ([(a 0, .inr (4, [.ref (a 1), .ref (a 8), .ref (a 9), .ref (a 10), .float (fl (σ2 0 6)), .float (fl (σ2 0 7)), .float (fl (σ2 0 8)), .int (nI (σ2 0 3)), .int (nI (σ2 0 9)), .int (nI (σ 0 10)), .int (nI (σ 0 11))])), (a 1, .inr (1, [.ref (a 2), .ref (a 3), .ref (a 4), .ref (a 5), .ref (a 6), .ref (a 7), .int (nI (σ2 0 4)), .int (nI (σ2 0 5))])), (a 2, .inl (G.2.1, 40, .inl (fun q => nI (d2 q)))), (a 3, .inl (G.2.1, 40, .inl (fun q => nI (σ2 2 q)))), (a 4, .inl (G.2.1, 40, .inl (fun q => nI (σ2 3 q)))), (a 5, .inl (G.2.1, 40, .inl (fun q => nI (σ2 6 q)))), (a 6, .inl (G.2.1, 40, .inl (fun q => nI (σ2 4 q)))), (a 7, .inl (G.2.1, 40, .inl (fun q => nI (σ2 5 q)))), (a 8, .inr (3, [.int (nI (σ2 0 12)), .int (nI (σ2 0 14)), .int (nI (σ2 0 16)), .int (nI (σ2 0 18)), .int (nI (σ2 0 20)), .int (nI (σ2 0 22)), .float (fl (σ2 0 24))])), (a 9, .inr (3, [.int (nI (σ2 0 13)), .int (nI (σ2 0 15)), .int (nI (σ2 0 17)), .int (nI (σ2 0 19)), .int (nI (σ2 0 21)), .int (nI (σ2 0 23)), .float (fl (σ2 0 25))])), (a 10, .inl (G.2.1, 3, .inl (fun q => nI (σ2 7 q))))] ++ stW G a2 σ2 d2) rfl rfl (by decide) k133 rfl rfl rfl (Nat.le_of_ble_eq_true rfl) rfl dX4_copyFrom_81 ?_
  refine J_aload_n C rfl dX4_copyFrom_84 ?_
  refine J_aload_n C rfl dX4_copyFrom_85 ?_
  refine J_get C 11 9 in4 rfl rfl (by decide) k135 rfl dX4_copyFrom_86 ?_
  refine J_put C 0 9 in4 tyX4 tyX4_ok nmX4 ([(a 0, .inr (4, [.ref (a 1), .ref (a 8), .ref (a 9), .ref (a 10), .float (fl (σ2 0 6)), .float (fl (σ2 0 7)), .float (fl (σ2 0 8)), .int (nI (σ2 0 3)), .int (nI (σ2 0 9)), .int (nI (σ2 0 10)), .int (nI (σ 0 11))])), (a 1, .inr (1, [.ref (a 2), .ref (a 3), .ref (a 4), .ref (a 5), .ref (a 6), .ref (a 7), .int (nI (σ2 0 4)), .int (nI (σ2 0 5))])), (a 2, .inl (G.2.1, 40, .inl (fun q => nI (d2 q)))), (a 3, .inl (G.2.1, 40, .inl (fun q => nI (σ2 2 q)))), (a 4, .inl (G.2.1, 40, .inl (fun q => nI (σ2 3 q)))), (a 5, .inl (G.2.1, 40, .inl (fun q => nI (σ2 6 q)))), (a 6, .inl (G.2.1, 40, .inl (fun q => nI (σ2 4 q)))), (a 7, .inl (G.2.1, 40, .inl (fun q => nI (σ2 5 q)))), (a 8, .inr (3, [.int (nI (σ2 0 12)), .int (nI (σ2 0 14)), .int (nI (σ2 0 16)), .int (nI (σ2 0 18)), .int (nI (σ2 0 20)), .int (nI (σ2 0 22)), .float (fl (σ2 0 24))])), (a 9, .inr (3, [.int (nI (σ2 0 13)), .int (nI (σ2 0 15)), .int (nI (σ2 0 17)), .int (nI (σ2 0 19)), .int (nI (σ2 0 21)), .int (nI (σ2 0 23)), .float (fl (σ2 0 25))])), (a 10, .inl (G.2.1, 3, .inl (fun q => nI (σ2 7 q))))] ++ stW G a2 σ2 d2) rfl rfl (by decide) k135 rfl rfl rfl (Nat.le_of_ble_eq_true rfl) rfl dX4_copyFrom_89 ?_
  refine J_aload_n C rfl dX4_copyFrom_92 ?_
  refine J_aload_n C rfl dX4_copyFrom_93 ?_
  refine J_get C 11 10 in4 rfl rfl (by decide) k137 rfl dX4_copyFrom_94 ?_
  refine J_put C 0 10 in4 tyX4 tyX4_ok nmX4 ([(a 0, .inr (4, [.ref (a 1), .ref (a 8), .ref (a 9), .ref (a 10), .float (fl (σ2 0 6)), .float (fl (σ2 0 7)), .float (fl (σ2 0 8)), .int (nI (σ2 0 3)), .int (nI (σ2 0 9)), .int (nI (σ2 0 10)), .int (nI (σ2 0 11))])), (a 1, .inr (1, [.ref (a 2), .ref (a 3), .ref (a 4), .ref (a 5), .ref (a 6), .ref (a 7), .int (nI (σ2 0 4)), .int (nI (σ2 0 5))])), (a 2, .inl (G.2.1, 40, .inl (fun q => nI (d2 q)))), (a 3, .inl (G.2.1, 40, .inl (fun q => nI (σ2 2 q)))), (a 4, .inl (G.2.1, 40, .inl (fun q => nI (σ2 3 q)))), (a 5, .inl (G.2.1, 40, .inl (fun q => nI (σ2 6 q)))), (a 6, .inl (G.2.1, 40, .inl (fun q => nI (σ2 4 q)))), (a 7, .inl (G.2.1, 40, .inl (fun q => nI (σ2 5 q)))), (a 8, .inr (3, [.int (nI (σ2 0 12)), .int (nI (σ2 0 14)), .int (nI (σ2 0 16)), .int (nI (σ2 0 18)), .int (nI (σ2 0 20)), .int (nI (σ2 0 22)), .float (fl (σ2 0 24))])), (a 9, .inr (3, [.int (nI (σ2 0 13)), .int (nI (σ2 0 15)), .int (nI (σ2 0 17)), .int (nI (σ2 0 19)), .int (nI (σ2 0 21)), .int (nI (σ2 0 23)), .float (fl (σ2 0 25))])), (a 10, .inl (G.2.1, 3, .inl (fun q => nI (σ2 7 q))))] ++ stW G a2 σ2 d2) rfl rfl (by decide) k137 rfl rfl rfl (Nat.le_of_ble_eq_true rfl) rfl dX4_copyFrom_97 ?_
  exact J_vret C hr dX4_copyFrom_100 () rfl trivial rfl

set_option maxHeartbeats 4000000 in
set_option maxRecDepth 100000 in
theorem ct_scribeOf0 (l : Launch) (G : GT) (a : Nat → Nat) (σ : AS) (d : Nat → Nat)  : Ct (S := Unit) l G NoX yX4_scribeOf (Wy yX4_scribeOf cX4_scribeOf 2 ((Option.some (Jvm.ClassFile.FieldType.object "TwoScribes$Scribe")))) { frames := 0, cells := 0, slots := 0, locals := 0 } [.ref (a 0), .int 0] (stW G a σ d) (fun u => True) (fun u => some (.ref (a 8))) (fun u => stW G a σ d) := by
  refine Ct.of (by decide) (Nat.le_of_ble_eq_true rfl) (fun p e s m args below meth c C hr hnm hX => ?_)
  refine J_iload_n C rfl dX4_scribeOf_0 ?_
  refine J_if_ne C 11 (by decide) dX4_scribeOf_1 (fun h => absurd h (by decide)) (fun _ => ?_)
  refine J_aload_n C rfl dX4_scribeOf_4 ?_
  refine J_get C 0 1 in4 rfl rfl (by decide) k119 rfl dX4_scribeOf_5 ?_
  refine J_goto C 15 (by decide) dX4_scribeOf_8 ?_
  exact J_aret C hr (Or.inr ⟨_, rfl⟩) dX4_scribeOf_15 () rfl trivial rfl

set_option maxHeartbeats 4000000 in
set_option maxRecDepth 100000 in
theorem ct_scribeOf1 (l : Launch) (G : GT) (a : Nat → Nat) (σ : AS) (d : Nat → Nat)  : Ct (S := Unit) l G NoX yX4_scribeOf (Wy yX4_scribeOf cX4_scribeOf 2 ((Option.some (Jvm.ClassFile.FieldType.object "TwoScribes$Scribe")))) { frames := 0, cells := 0, slots := 0, locals := 0 } [.ref (a 0), .int 1] (stW G a σ d) (fun u => True) (fun u => some (.ref (a 9))) (fun u => stW G a σ d) := by
  refine Ct.of (by decide) (Nat.le_of_ble_eq_true rfl) (fun p e s m args below meth c C hr hnm hX => ?_)
  refine J_iload_n C rfl dX4_scribeOf_0 ?_
  refine J_if_ne C 11 (by decide) dX4_scribeOf_1 (fun _ => ?_) (fun h => absurd h (by decide))
  refine J_aload_n C rfl dX4_scribeOf_11 ?_
  refine J_get C 0 2 in4 rfl rfl (by decide) k121 rfl dX4_scribeOf_12 ?_
  exact J_aret C hr (Or.inr ⟨_, rfl⟩) dX4_scribeOf_15 () rfl trivial rfl

set_option maxHeartbeats 4000000 in
set_option maxRecDepth 100000 in
theorem ct_lettersOnPage (l : Launch) (G : GT) (a : Nat → Nat) (σ : AS) (d : Nat → Nat)   : Ct (S := Unit) l G NoX yX4_lettersOnPage (Wy yX4_lettersOnPage cX4_lettersOnPage 1 ((Option.some Jvm.ClassFile.FieldType.int))) { frames := 0, cells := 0, slots := 0, locals := 0 } [.ref (a 0)] (stW G a σ d) (fun u => True) (fun u => some (.int (nI (σ 0 14 + σ 0 15)))) (fun u => stW G a σ d) := by
  refine Ct.of (by decide) (Nat.le_of_ble_eq_true rfl) (fun p e s m args below meth c C hr hnm hX => ?_)
  refine J_aload_n C rfl dX4_lettersOnPage_0 ?_
  refine J_get C 0 1 in4 rfl rfl (by decide) k119 rfl dX4_lettersOnPage_1 ?_
  refine J_getN C 8 1 in3 rfl rfl (by decide) nfTwoScribes_State_74 rfl dX4_lettersOnPage_4 ?_
  refine J_aload_n C rfl dX4_lettersOnPage_7 ?_
  refine J_get C 0 2 in4 rfl rfl (by decide) k121 rfl dX4_lettersOnPage_8 ?_
  refine J_getN C 9 1 in3 rfl rfl (by decide) nfTwoScribes_State_74 rfl dX4_lettersOnPage_11 ?_
  refine J_iadd C dX4_lettersOnPage_14 ?_
  refine J_i (nI_add (σ 0 14) (σ 0 15) : ((nI (σ 0 14)) + (nI (σ 0 15)) : Int32) = (nI (σ 0 14 + σ 0 15))) ?_
  exact J_zret C hr rfl dX4_lettersOnPage_15 () rfl trivial rfl

set_option maxHeartbeats 4000000 in
set_option maxRecDepth 100000 in
theorem ct_isDone (l : Launch) (G : GT) (a : Nat → Nat) (σ : AS) (d : Nat → Nat)  (hI : Inv σ) : Ct (S := Unit) l G NoX yX4_isDone (Wy yX4_isDone cX4_isDone 1 ((Option.some Jvm.ClassFile.FieldType.boolean))) { frames := 1, cells := 0, slots := 0, locals := 20 } [.ref (a 0)] (stW G a σ d) (fun u => True) (fun u => some (.int (if σ 0 4 ≤ σ 0 14 + σ 0 15 then 1 else 0))) (fun u => stW G a σ d) := by
  refine Ct.of (by decide) (Nat.le_of_ble_eq_true rfl) (fun p e s m args below meth c C hr hnm hX => ?_)
  have h40 := hI.a
  have hc := hI.c
  refine J_aload_n C rfl dX4_isDone_0 ?_
  refine J_callV (as := []) (rest := []) C (ct_lettersOnPage l G a σ d) (fun u => stW G a σ d) [0, 1, 2, 3, 4, 5, 6, 7, 8, 9, 10] [] 0 k525 k387 k388 k11 k389 rfl (by decide +kernel) ⟨Nat.le_of_ble_eq_true rfl, Nat.le_of_ble_eq_true rfl⟩ ⟨Nat.le_of_ble_eq_true rfl, Nat.le_of_ble_eq_true rfl⟩ dX4_isDone_1 (Nat.le_of_ble_eq_true rfl) 0 rfl rfl rfl (by decide +kernel) (fun _ => rfl) ([]) rfl (fun _ => rfl) 11 (fun _ => rfl) (by decide +kernel) (by decide +kernel) (fun _ _ => ?_)
  refine J_st (st' := [.int (nI (σ 0 14 + σ 0 15))]) rfl ?_
  refine J_aload_n C rfl dX4_isDone_4 ?_
  refine J_get C 0 0 in4 rfl rfl (by decide) k117 rfl dX4_isDone_5 ?_
  refine J_getN C 1 6 in1 rfl rfl (by decide) nfTwoScribes_State_79 rfl dX4_isDone_8 ?_
  refine J_icmp_lt C 18 (by decide) dX4_isDone_11 (fun c11 => ?_) (fun c11 => ?_)
  · skip
    have c11 := cv_lt_t (a := (σ 0 14 + σ 0 15)) (b := (σ 0 4)) (by omega) (by omega) c11
    refine J_iconst C 0 (by decide) dX4_isDone_18 ?_
    exact J_zret C hr rfl dX4_isDone_19 () (by rw [if_neg (by omega)]) trivial rfl
  · skip
    have c11 := cv_lt_f (a := (σ 0 14 + σ 0 15)) (b := (σ 0 4)) (by omega) (by omega) c11
    refine J_iconst C 1 (by decide) dX4_isDone_14 ?_
    refine J_goto C 19 (by decide) dX4_isDone_15 ?_
    exact J_zret C hr rfl dX4_isDone_19 () (by rw [if_pos (by omega)]) trivial rfl

set_option maxHeartbeats 4000000 in
set_option maxRecDepth 100000 in
theorem ct_nextNone0 (l : Launch) (G : GT) (a : Nat → Nat) (σ : AS) (d : Nat → Nat)  (hn : σ 0 4 ≤ 40) (hf : σ 0 4 ≤ 2 * σ 0 14) (hb : σ 0 14 ≤ 40) : Ct (S := Unit) l G NoX yX4_nextPlaceOf (Wy yX4_nextPlaceOf cX4_nextPlaceOf 3 ((Option.some Jvm.ClassFile.FieldType.int))) { frames := 1, cells := 0, slots := 0, locals := 21 } [.ref (a 0), .int 0] (stW G a σ d) (fun u => True) (fun u => some (.int (-5))) (fun u => stW G a σ d) := by
  refine Ct.of (by decide) (Nat.le_of_ble_eq_true rfl) (fun p e s m args below meth c C hr hnm hX => ?_)
  refine J_aload_n C rfl dX4_nextPlaceOf_0 ?_
  refine J_iload_n C rfl dX4_nextPlaceOf_1 ?_
  refine J_callV (as := [.int 0]) (rest := []) C (ct_scribeOf0 l G a σ d) (fun u => stW G a σ d) [0, 1, 2, 3, 4, 5, 6, 7, 8, 9, 10] [] 1 k371 k372 k373 k11 k374 rfl (by decide +kernel) ⟨Nat.le_of_ble_eq_true rfl, Nat.le_of_ble_eq_true rfl⟩ ⟨Nat.le_of_ble_eq_true rfl, Nat.le_of_ble_eq_true rfl⟩ dX4_nextPlaceOf_2 (Nat.le_of_ble_eq_true rfl) 0 rfl rfl rfl (by decide +kernel) (fun _ => rfl) ([]) rfl (fun _ => rfl) 11 (fun _ => rfl) (by decide +kernel) (by decide +kernel) (fun _ _ => ?_)
  refine J_st (st' := [.ref (a 8)]) rfl ?_
  refine J_getN C 8 1 in3 rfl rfl (by decide) nfTwoScribes_State_74 rfl dX4_nextPlaceOf_5 ?_
  refine J_istore_n C [(2, .int (nI (σ 0 14))), (0, .ref (a 0)), (1, .int 0)] (by decide) rfl dX4_nextPlaceOf_8 ?_
  refine J_iload_n C rfl dX4_nextPlaceOf_9 ?_
  refine J_aload_n C rfl dX4_nextPlaceOf_10 ?_
  refine J_get C 0 0 in4 rfl rfl (by decide) k117 rfl dX4_nextPlaceOf_11 ?_
  refine J_getN C 1 6 in1 rfl rfl (by decide) nfTwoScribes_State_79 rfl dX4_nextPlaceOf_14 ?_
  refine J_iconst C 2 (by decide) dX4_nextPlaceOf_17 ?_
  refine J_idiv C (by decide) dX4_nextPlaceOf_18 ?_
  refine J_i (pk_div (a := σ 0 4) (d := 2) (by omega) (by omega) (by omega) : ((nI (σ 0 4)) / 2 : Int32) = (nI ((σ 0 4) / 2))) ?_
  refine J_icmp_lt C 25 (by decide) dX4_nextPlaceOf_19 (fun h => absurd (cv_lt_t (a := (σ 0 14)) (b := ((σ 0 4) / 2)) (by omega) (by omega) h) (by omega)) (fun c19 => ?_)
  refine J_bipush C (-5) (by decide) dX4_nextPlaceOf_22 ?_
  exact J_zret C hr rfl dX4_nextPlaceOf_24 () rfl trivial rfl

set_option maxHeartbeats 4000000 in
set_option maxRecDepth 100000 in
theorem ct_nextPlace0 (l : Launch) (G : GT) (a : Nat → Nat) (σ : AS) (d : Nat → Nat)  (hn : σ 0 4 ≤ 40) (he : σ 0 4 % 2 = 0) (hf : 2 * σ 0 14 < σ 0 4) : Ct (S := Unit) l G NoX yX4_nextPlaceOf (Wy yX4_nextPlaceOf cX4_nextPlaceOf 3 ((Option.some Jvm.ClassFile.FieldType.int))) { frames := 1, cells := 0, slots := 0, locals := 21 } [.ref (a 0), .int 0] (stW G a σ d) (fun u => True) (fun u => some (.int (nI (σ 0 14)))) (fun u => stW G a σ d) := by
  refine Ct.of (by decide) (Nat.le_of_ble_eq_true rfl) (fun p e s m args below meth c C hr hnm hX => ?_)
  refine J_aload_n C rfl dX4_nextPlaceOf_0 ?_
  refine J_iload_n C rfl dX4_nextPlaceOf_1 ?_
  refine J_callV (as := [.int 0]) (rest := []) C (ct_scribeOf0 l G a σ d) (fun u => stW G a σ d) [0, 1, 2, 3, 4, 5, 6, 7, 8, 9, 10] [] 1 k371 k372 k373 k11 k374 rfl (by decide +kernel) ⟨Nat.le_of_ble_eq_true rfl, Nat.le_of_ble_eq_true rfl⟩ ⟨Nat.le_of_ble_eq_true rfl, Nat.le_of_ble_eq_true rfl⟩ dX4_nextPlaceOf_2 (Nat.le_of_ble_eq_true rfl) 0 rfl rfl rfl (by decide +kernel) (fun _ => rfl) ([]) rfl (fun _ => rfl) 11 (fun _ => rfl) (by decide +kernel) (by decide +kernel) (fun _ _ => ?_)
  refine J_st (st' := [.ref (a 8)]) rfl ?_
  refine J_getN C 8 1 in3 rfl rfl (by decide) nfTwoScribes_State_74 rfl dX4_nextPlaceOf_5 ?_
  refine J_istore_n C [(2, .int (nI (σ 0 14))), (0, .ref (a 0)), (1, .int 0)] (by decide) rfl dX4_nextPlaceOf_8 ?_
  refine J_iload_n C rfl dX4_nextPlaceOf_9 ?_
  refine J_aload_n C rfl dX4_nextPlaceOf_10 ?_
  refine J_get C 0 0 in4 rfl rfl (by decide) k117 rfl dX4_nextPlaceOf_11 ?_
  refine J_getN C 1 6 in1 rfl rfl (by decide) nfTwoScribes_State_79 rfl dX4_nextPlaceOf_14 ?_
  refine J_iconst C 2 (by decide) dX4_nextPlaceOf_17 ?_
  refine J_idiv C (by decide) dX4_nextPlaceOf_18 ?_
  refine J_i (pk_div (a := σ 0 4) (d := 2) (by omega) (by omega) (by omega) : ((nI (σ 0 4)) / 2 : Int32) = (nI ((σ 0 4) / 2))) ?_
  refine J_icmp_lt C 25 (by decide) dX4_nextPlaceOf_19 (fun c19 => ?_) (fun h => absurd (cv_lt_f (a := (σ 0 14)) (b := ((σ 0 4) / 2)) (by omega) (by omega) h) (by omega))
  refine J_iload_n C rfl dX4_nextPlaceOf_25 ?_
  refine J_if_ne C 33 (by decide) dX4_nextPlaceOf_26 (fun h => absurd h (by decide)) (fun _ => ?_)
  refine J_iload_n C rfl dX4_nextPlaceOf_29 ?_
  refine J_goto C 41 (by decide) dX4_nextPlaceOf_30 ?_
  exact J_zret C hr rfl dX4_nextPlaceOf_41 () rfl trivial rfl

set_option maxHeartbeats 4000000 in
set_option maxRecDepth 100000 in
theorem ct_nextNone1 (l : Launch) (G : GT) (a : Nat → Nat) (σ : AS) (d : Nat → Nat)  (hn : σ 0 4 ≤ 40) (hf : σ 0 4 ≤ 2 * σ 0 15) (hb : σ 0 15 ≤ 40) : Ct (S := Unit) l G NoX yX4_nextPlaceOf (Wy yX4_nextPlaceOf cX4_nextPlaceOf 3 ((Option.some Jvm.ClassFile.FieldType.int))) { frames := 1, cells := 0, slots := 0, locals := 21 } [.ref (a 0), .int 1] (stW G a σ d) (fun u => True) (fun u => some (.int (-5))) (fun u => stW G a σ d) := by
  refine Ct.of (by decide) (Nat.le_of_ble_eq_true rfl) (fun p e s m args below meth c C hr hnm hX => ?_)
  refine J_aload_n C rfl dX4_nextPlaceOf_0 ?_
  refine J_iload_n C rfl dX4_nextPlaceOf_1 ?_
  refine J_callV (as := [.int 1]) (rest := []) C (ct_scribeOf1 l G a σ d) (fun u => stW G a σ d) [0, 1, 2, 3, 4, 5, 6, 7, 8, 9, 10] [] 1 k371 k372 k373 k11 k374 rfl (by decide +kernel) ⟨Nat.le_of_ble_eq_true rfl, Nat.le_of_ble_eq_true rfl⟩ ⟨Nat.le_of_ble_eq_true rfl, Nat.le_of_ble_eq_true rfl⟩ dX4_nextPlaceOf_2 (Nat.le_of_ble_eq_true rfl) 0 rfl rfl rfl (by decide +kernel) (fun _ => rfl) ([]) rfl (fun _ => rfl) 11 (fun _ => rfl) (by decide +kernel) (by decide +kernel) (fun _ _ => ?_)
  refine J_st (st' := [.ref (a 9)]) rfl ?_
  refine J_getN C 9 1 in3 rfl rfl (by decide) nfTwoScribes_State_74 rfl dX4_nextPlaceOf_5 ?_
  refine J_istore_n C [(2, .int (nI (σ 0 15))), (0, .ref (a 0)), (1, .int 1)] (by decide) rfl dX4_nextPlaceOf_8 ?_
  refine J_iload_n C rfl dX4_nextPlaceOf_9 ?_
  refine J_aload_n C rfl dX4_nextPlaceOf_10 ?_
  refine J_get C 0 0 in4 rfl rfl (by decide) k117 rfl dX4_nextPlaceOf_11 ?_
  refine J_getN C 1 6 in1 rfl rfl (by decide) nfTwoScribes_State_79 rfl dX4_nextPlaceOf_14 ?_
  refine J_iconst C 2 (by decide) dX4_nextPlaceOf_17 ?_
  refine J_idiv C (by decide) dX4_nextPlaceOf_18 ?_
  refine J_i (pk_div (a := σ 0 4) (d := 2) (by omega) (by omega) (by omega) : ((nI (σ 0 4)) / 2 : Int32) = (nI ((σ 0 4) / 2))) ?_
  refine J_icmp_lt C 25 (by decide) dX4_nextPlaceOf_19 (fun h => absurd (cv_lt_t (a := (σ 0 15)) (b := ((σ 0 4) / 2)) (by omega) (by omega) h) (by omega)) (fun c19 => ?_)
  refine J_bipush C (-5) (by decide) dX4_nextPlaceOf_22 ?_
  exact J_zret C hr rfl dX4_nextPlaceOf_24 () rfl trivial rfl

set_option maxHeartbeats 4000000 in
set_option maxRecDepth 100000 in
theorem ct_nextPlace1 (l : Launch) (G : GT) (a : Nat → Nat) (σ : AS) (d : Nat → Nat)  (hn : σ 0 4 ≤ 40) (he : σ 0 4 % 2 = 0) (hf : 2 * σ 0 15 < σ 0 4) : Ct (S := Unit) l G NoX yX4_nextPlaceOf (Wy yX4_nextPlaceOf cX4_nextPlaceOf 3 ((Option.some Jvm.ClassFile.FieldType.int))) { frames := 1, cells := 0, slots := 0, locals := 21 } [.ref (a 0), .int 1] (stW G a σ d) (fun u => True) (fun u => some (.int (nI (σ 0 4 - 1 - σ 0 15)))) (fun u => stW G a σ d) := by
  refine Ct.of (by decide) (Nat.le_of_ble_eq_true rfl) (fun p e s m args below meth c C hr hnm hX => ?_)
  refine J_aload_n C rfl dX4_nextPlaceOf_0 ?_
  refine J_iload_n C rfl dX4_nextPlaceOf_1 ?_
  refine J_callV (as := [.int 1]) (rest := []) C (ct_scribeOf1 l G a σ d) (fun u => stW G a σ d) [0, 1, 2, 3, 4, 5, 6, 7, 8, 9, 10] [] 1 k371 k372 k373 k11 k374 rfl (by decide +kernel) ⟨Nat.le_of_ble_eq_true rfl, Nat.le_of_ble_eq_true rfl⟩ ⟨Nat.le_of_ble_eq_true rfl, Nat.le_of_ble_eq_true rfl⟩ dX4_nextPlaceOf_2 (Nat.le_of_ble_eq_true rfl) 0 rfl rfl rfl (by decide +kernel) (fun _ => rfl) ([]) rfl (fun _ => rfl) 11 (fun _ => rfl) (by decide +kernel) (by decide +kernel) (fun _ _ => ?_)
  refine J_st (st' := [.ref (a 9)]) rfl ?_
  refine J_getN C 9 1 in3 rfl rfl (by decide) nfTwoScribes_State_74 rfl dX4_nextPlaceOf_5 ?_
  refine J_istore_n C [(2, .int (nI (σ 0 15))), (0, .ref (a 0)), (1, .int 1)] (by decide) rfl dX4_nextPlaceOf_8 ?_
  refine J_iload_n C rfl dX4_nextPlaceOf_9 ?_
  refine J_aload_n C rfl dX4_nextPlaceOf_10 ?_
  refine J_get C 0 0 in4 rfl rfl (by decide) k117 rfl dX4_nextPlaceOf_11 ?_
  refine J_getN C 1 6 in1 rfl rfl (by decide) nfTwoScribes_State_79 rfl dX4_nextPlaceOf_14 ?_
  refine J_iconst C 2 (by decide) dX4_nextPlaceOf_17 ?_
  refine J_idiv C (by decide) dX4_nextPlaceOf_18 ?_
  refine J_i (pk_div (a := σ 0 4) (d := 2) (by omega) (by omega) (by omega) : ((nI (σ 0 4)) / 2 : Int32) = (nI ((σ 0 4) / 2))) ?_
  refine J_icmp_lt C 25 (by decide) dX4_nextPlaceOf_19 (fun c19 => ?_) (fun h => absurd (cv_lt_f (a := (σ 0 15)) (b := ((σ 0 4) / 2)) (by omega) (by omega) h) (by omega))
  refine J_iload_n C rfl dX4_nextPlaceOf_25 ?_
  refine J_if_ne C 33 (by decide) dX4_nextPlaceOf_26 (fun _ => ?_) (fun h => absurd h (by decide))
  refine J_aload_n C rfl dX4_nextPlaceOf_33 ?_
  refine J_get C 0 0 in4 rfl rfl (by decide) k117 rfl dX4_nextPlaceOf_34 ?_
  refine J_iload_n C rfl dX4_nextPlaceOf_37 ?_
  refine J_callV (as := [.int (nI (σ 0 15))]) (rest := []) C (ct_mirrorOf l G a σ d (σ 0 15) (by omega) (by omega)) (fun u => stW G a σ d) [1, 2, 3, 4, 5, 6, 7] [0, 8, 9, 10] 1 k375 k344 k345 k12 k346 rfl (by decide +kernel) ⟨Nat.le_of_ble_eq_true rfl, Nat.le_of_ble_eq_true rfl⟩ ⟨Nat.le_of_ble_eq_true rfl, Nat.le_of_ble_eq_true rfl⟩ dX4_nextPlaceOf_38 (Nat.le_of_ble_eq_true rfl) 1 rfl rfl rfl (by decide +kernel) (fun _ => rfl) ([(a 0, .inr (4, [.ref (a 1), .ref (a 8), .ref (a 9), .ref (a 10), .float (fl (σ 0 6)), .float (fl (σ 0 7)), .float (fl (σ 0 8)), .int (nI (σ 0 3)), .int (nI (σ 0 9)), .int (nI (σ 0 10)), .int (nI (σ 0 11))])), (a 8, .inr (3, [.int (nI (σ 0 12)), .int (nI (σ 0 14)), .int (nI (σ 0 16)), .int (nI (σ 0 18)), .int (nI (σ 0 20)), .int (nI (σ 0 22)), .float (fl (σ 0 24))])), (a 9, .inr (3, [.int (nI (σ 0 13)), .int (nI (σ 0 15)), .int (nI (σ 0 17)), .int (nI (σ 0 19)), .int (nI (σ 0 21)), .int (nI (σ 0 23)), .float (fl (σ 0 25))])), (a 10, .inl (G.2.1, 3, .inl (fun q => nI (σ 7 q))))]) rfl (fun _ => rfl) 11 (fun _ => rfl) (by decide +kernel) (by decide +kernel) (fun _ _ => ?_)
  refine J_st (st' := [.int (nI (σ 0 4 - 1 - (σ 0 15)))]) rfl ?_
  exact J_zret C hr rfl dX4_nextPlaceOf_41 () rfl trivial rfl

set_option maxHeartbeats 4000000 in
set_option maxRecDepth 100000 in
theorem ct_isBegun (l : Launch) (G : GT) (a : Nat → Nat) (σ : AS) (d : Nat → Nat) (j : Nat) (hI : Inv σ) (hj : j < σ 0 4) : Ct (S := Unit) l G NoX yX4_isBegun (Wy yX4_isBegun cX4_isBegun 2 ((Option.some Jvm.ClassFile.FieldType.boolean))) { frames := 2, cells := 0, slots := 0, locals := 43 } [.ref (a 0), .int (nI j)] (stW G a σ d) (fun u => True) (fun u => some (.int (if 0 < σ 3 j ∨ (0 < σ 0 16 ∧ σ 0 14 = j) ∨ (0 < σ 0 17 ∧ σ 0 4 - 1 - σ 0 15 = j) then 1 else 0))) (fun u => stW G a σ d) := by
  refine Ct.of (by decide) (Nat.le_of_ble_eq_true rfl) (fun p e s m args below meth c C hr hnm hX => ?_)
  have h40 := hI.a
  have hc := hI.c
  have hl := hI.l
  have hr2 := hI.r
  have hq := hI.q (q := j) (by omega)
  refine J_aload_n C rfl dX4_isBegun_0 ?_
  refine J_get C 0 0 in4 rfl rfl (by decide) k117 rfl dX4_isBegun_1 ?_
  refine J_iload_n C rfl dX4_isBegun_4 ?_
  refine J_callV (as := [.int (nI j)]) (rest := []) C (ct_isWritten l G a σ d j (by omega) (by omega)) (fun u => stW G a σ d) [1, 2, 3, 4, 5, 6, 7] [0, 8, 9, 10] 1 k363 k364 k365 k12 k366 rfl (by decide +kernel) ⟨Nat.le_of_ble_eq_true rfl, Nat.le_of_ble_eq_true rfl⟩ ⟨Nat.le_of_ble_eq_true rfl, Nat.le_of_ble_eq_true rfl⟩ dX4_isBegun_5 (Nat.le_of_ble_eq_true rfl) 1 rfl rfl rfl (by decide +kernel) (fun _ => rfl) ([(a 0, .inr (4, [.ref (a 1), .ref (a 8), .ref (a 9), .ref (a 10), .float (fl (σ 0 6)), .float (fl (σ 0 7)), .float (fl (σ 0 8)), .int (nI (σ 0 3)), .int (nI (σ 0 9)), .int (nI (σ 0 10)), .int (nI (σ 0 11))])), (a 8, .inr (3, [.int (nI (σ 0 12)), .int (nI (σ 0 14)), .int (nI (σ 0 16)), .int (nI (σ 0 18)), .int (nI (σ 0 20)), .int (nI (σ 0 22)), .float (fl (σ 0 24))])), (a 9, .inr (3, [.int (nI (σ 0 13)), .int (nI (σ 0 15)), .int (nI (σ 0 17)), .int (nI (σ 0 19)), .int (nI (σ 0 21)), .int (nI (σ 0 23)), .float (fl (σ 0 25))])), (a 10, .inl (G.2.1, 3, .inl (fun q => nI (σ 7 q))))]) rfl (fun _ => rfl) 11 (fun _ => rfl) (by decide +kernel) (by decide +kernel) (fun _ _ => ?_)
  refine J_st (st' := [.int (if 0 < σ 3 j then 1 else 0)]) rfl ?_
  refine J_if_ne C 49 (by decide) dX4_isBegun_8 (fun c8 => ?_) (fun c8 => ?_)
  · skip
    have c8 : 0 < σ 3 j := Classical.byContradiction fun q => c8 (by rw [if_neg q])
    refine J_iconst C 1 (by decide) dX4_isBegun_49 ?_
    refine J_goto C 54 (by decide) dX4_isBegun_50 ?_
    exact J_zret C hr rfl dX4_isBegun_54 () (by rw [if_pos (by omega)]) trivial rfl
  · skip
    have c8 : ¬ 0 < σ 3 j := fun q => by rw [if_pos q] at c8; exact absurd c8 (by decide)
    refine J_aload_n C rfl dX4_isBegun_11 ?_
    refine J_get C 0 1 in4 rfl rfl (by decide) k119 rfl dX4_isBegun_12 ?_
    refine J_getN C 8 2 in3 rfl rfl (by decide) nfTwoScribes_State_94 rfl dX4_isBegun_15 ?_
    refine J_if_le C 30 (by decide) dX4_isBegun_18 (fun c18 => ?_) (fun c18 => ?_)
    · skip
      have c18 := cv_le_t (a := (σ 0 16)) (b := 0) (by omega) (by omega) c18
      refine J_aload_n C rfl dX4_isBegun_30 ?_
      refine J_get C 0 2 in4 rfl rfl (by decide) k121 rfl dX4_isBegun_31 ?_
      refine J_getN C 9 2 in3 rfl rfl (by decide) nfTwoScribes_State_94 rfl dX4_isBegun_34 ?_
      refine J_if_le C 53 (by decide) dX4_isBegun_37 (fun c37 => ?_) (fun c37 => ?_)
      · skip
        have c37 := cv_le_t (a := (σ 0 17)) (b := 0) (by omega) (by omega) c37
        refine J_iconst C 0 (by decide) dX4_isBegun_53 ?_
        exact J_zret C hr rfl dX4_isBegun_54 () (by rw [if_neg (by omega)]) trivial rfl
      · skip
        have c37 := cv_le_f (a := (σ 0 17)) (b := 0) (by omega) (by omega) c37
        refine J_aload_n C rfl dX4_isBegun_40 ?_
        refine J_iconst C 1 (by decide) dX4_isBegun_41 ?_
        refine J_callV (as := [.int 1]) (rest := []) C (ct_nextPlace1 l G a σ d (by omega) (by omega) (by omega)) (fun u => stW G a σ d) [0, 1, 2, 3, 4, 5, 6, 7, 8, 9, 10] [] 1 k367 k368 k369 k11 k370 rfl (by decide +kernel) ⟨Nat.le_of_ble_eq_true rfl, Nat.le_of_ble_eq_true rfl⟩ ⟨Nat.le_of_ble_eq_true rfl, Nat.le_of_ble_eq_true rfl⟩ dX4_isBegun_42 (Nat.le_of_ble_eq_true rfl) 0 rfl rfl rfl (by decide +kernel) (fun _ => rfl) ([]) rfl (fun _ => rfl) 11 (fun _ => rfl) (by decide +kernel) (by decide +kernel) (fun _ _ => ?_)
        refine J_st (st' := [.int (nI (σ 0 4 - 1 - σ 0 15))]) rfl ?_
        refine J_iload_n C rfl dX4_isBegun_45 ?_
        refine J_icmp_ne C 53 (by decide) dX4_isBegun_46 (fun c46 => ?_) (fun c46 => ?_)
        · skip
          have c46 := cv_ne_t (a := (σ 0 4 - 1 - σ 0 15)) (b := j) (by omega) (by omega) c46
          refine J_iconst C 0 (by decide) dX4_isBegun_53 ?_
          exact J_zret C hr rfl dX4_isBegun_54 () (by rw [if_neg (by omega)]) trivial rfl
        · skip
          have c46 := cv_ne_f (a := (σ 0 4 - 1 - σ 0 15)) (b := j) (by omega) (by omega) c46
          refine J_iconst C 1 (by decide) dX4_isBegun_49 ?_
          refine J_goto C 54 (by decide) dX4_isBegun_50 ?_
          exact J_zret C hr rfl dX4_isBegun_54 () (by rw [if_pos (by omega)]) trivial rfl
    · skip
      have c18 := cv_le_f (a := (σ 0 16)) (b := 0) (by omega) (by omega) c18
      refine J_aload_n C rfl dX4_isBegun_21 ?_
      refine J_iconst C 0 (by decide) dX4_isBegun_22 ?_
      refine J_callV (as := [.int 0]) (rest := []) C (ct_nextPlace0 l G a σ d (by omega) (by omega) (by omega)) (fun u => stW G a σ d) [0, 1, 2, 3, 4, 5, 6, 7, 8, 9, 10] [] 1 k367 k368 k369 k11 k370 rfl (by decide +kernel) ⟨Nat.le_of_ble_eq_true rfl, Nat.le_of_ble_eq_true rfl⟩ ⟨Nat.le_of_ble_eq_true rfl, Nat.le_of_ble_eq_true rfl⟩ dX4_isBegun_23 (Nat.le_of_ble_eq_true rfl) 0 rfl rfl rfl (by decide +kernel) (fun _ => rfl) ([]) rfl (fun _ => rfl) 11 (fun _ => rfl) (by decide +kernel) (by decide +kernel) (fun _ _ => ?_)
      refine J_st (st' := [.int (nI (σ 0 14))]) rfl ?_
      refine J_iload_n C rfl dX4_isBegun_26 ?_
      refine J_icmp_eq C 49 (by decide) dX4_isBegun_27 (fun c27 => ?_) (fun c27 => ?_)
      · skip
        have c27 := cv_eq_t (a := (σ 0 14)) (b := j) (by omega) (by omega) c27
        refine J_iconst C 1 (by decide) dX4_isBegun_49 ?_
        refine J_goto C 54 (by decide) dX4_isBegun_50 ?_
        exact J_zret C hr rfl dX4_isBegun_54 () (by rw [if_pos (by omega)]) trivial rfl
      · skip
        have c27 := cv_eq_f (a := (σ 0 14)) (b := j) (by omega) (by omega) c27
        refine J_aload_n C rfl dX4_isBegun_30 ?_
        refine J_get C 0 2 in4 rfl rfl (by decide) k121 rfl dX4_isBegun_31 ?_
        refine J_getN C 9 2 in3 rfl rfl (by decide) nfTwoScribes_State_94 rfl dX4_isBegun_34 ?_
        refine J_if_le C 53 (by decide) dX4_isBegun_37 (fun c37 => ?_) (fun c37 => ?_)
        · skip
          have c37 := cv_le_t (a := (σ 0 17)) (b := 0) (by omega) (by omega) c37
          refine J_iconst C 0 (by decide) dX4_isBegun_53 ?_
          exact J_zret C hr rfl dX4_isBegun_54 () (by rw [if_neg (by omega)]) trivial rfl
        · skip
          have c37 := cv_le_f (a := (σ 0 17)) (b := 0) (by omega) (by omega) c37
          refine J_aload_n C rfl dX4_isBegun_40 ?_
          refine J_iconst C 1 (by decide) dX4_isBegun_41 ?_
          refine J_callV (as := [.int 1]) (rest := []) C (ct_nextPlace1 l G a σ d (by omega) (by omega) (by omega)) (fun u => stW G a σ d) [0, 1, 2, 3, 4, 5, 6, 7, 8, 9, 10] [] 1 k367 k368 k369 k11 k370 rfl (by decide +kernel) ⟨Nat.le_of_ble_eq_true rfl, Nat.le_of_ble_eq_true rfl⟩ ⟨Nat.le_of_ble_eq_true rfl, Nat.le_of_ble_eq_true rfl⟩ dX4_isBegun_42 (Nat.le_of_ble_eq_true rfl) 0 rfl rfl rfl (by decide +kernel) (fun _ => rfl) ([]) rfl (fun _ => rfl) 11 (fun _ => rfl) (by decide +kernel) (by decide +kernel) (fun _ _ => ?_)
          refine J_st (st' := [.int (nI (σ 0 4 - 1 - σ 0 15))]) rfl ?_
          refine J_iload_n C rfl dX4_isBegun_45 ?_
          refine J_icmp_ne C 53 (by decide) dX4_isBegun_46 (fun c46 => ?_) (fun c46 => ?_)
          · skip
            have c46 := cv_ne_t (a := (σ 0 4 - 1 - σ 0 15)) (b := j) (by omega) (by omega) c46
            refine J_iconst C 0 (by decide) dX4_isBegun_53 ?_
            exact J_zret C hr rfl dX4_isBegun_54 () (by rw [if_neg (by omega)]) trivial rfl
          · skip
            have c46 := cv_ne_f (a := (σ 0 4 - 1 - σ 0 15)) (b := j) (by omega) (by omega) c46
            refine J_iconst C 1 (by decide) dX4_isBegun_49 ?_
            refine J_goto C 54 (by decide) dX4_isBegun_50 ?_
            exact J_zret C hr rfl dX4_isBegun_54 () (by rw [if_pos (by omega)]) trivial rfl

set_option maxHeartbeats 4000000 in
set_option maxRecDepth 100000 in
theorem ct_corrLeft (l : Launch) (G : GT) (a : Nat → Nat) (σ : AS) (d : Nat → Nat)  (hI : Inv σ) : Ct (S := Unit) l G NoX yX4_correctionsLeft (Wy yX4_correctionsLeft cX4_correctionsLeft 1 ((Option.some Jvm.ClassFile.FieldType.int))) { frames := 1, cells := 0, slots := 0, locals := 21 } [.ref (a 0)] (stW G a σ d) (fun u => True) (fun u => some (.int (nI (σ 7 2 - σ 0 5)))) (fun u => stW G a σ d) := by
  refine Ct.of (by decide) (Nat.le_of_ble_eq_true rfl) (fun p e s m args below meth c C hr hnm hX => ?_)
  have h40 := hI.a
  have hs := hI.s
  refine J_iconst C 0 (by decide) dX4_correctionsLeft_0 ?_
  refine J_aload_n C rfl dX4_correctionsLeft_1 ?_
  refine J_get C 0 3 in4 rfl rfl (by decide) k123 rfl dX4_correctionsLeft_2 ?_
  refine J_iconst C 2 (by decide) dX4_correctionsLeft_5 ?_
  refine J_callSN (as := [.ref (a 10), .int 2]) (rest := [.int 0]) C (ct_at l G (a 10) 3 (fun q => nI (σ 7 q)) 2 (by omega) (by decide)) (fun u => stW G a σ d) [10] [0, 1, 2, 3, 4, 5, 6, 7, 8, 9] 2 nmTwoScribes_State_100 k340 k10 k341 rfl (by decide +kernel) ⟨Nat.le_of_ble_eq_true rfl, Nat.le_of_ble_eq_true rfl⟩ ⟨Nat.le_of_ble_eq_true rfl, Nat.le_of_ble_eq_true rfl⟩ dX4_correctionsLeft_6 (Nat.le_of_ble_eq_true rfl) rfl (by decide +kernel) (fun _ => rfl) ([(a 0, .inr (4, [.ref (a 1), .ref (a 8), .ref (a 9), .ref (a 10), .float (fl (σ 0 6)), .float (fl (σ 0 7)), .float (fl (σ 0 8)), .int (nI (σ 0 3)), .int (nI (σ 0 9)), .int (nI (σ 0 10)), .int (nI (σ 0 11))])), (a 1, .inr (1, [.ref (a 2), .ref (a 3), .ref (a 4), .ref (a 5), .ref (a 6), .ref (a 7), .int (nI (σ 0 4)), .int (nI (σ 0 5))])), (a 2, .inl (G.2.1, 40, .inl (fun q => nI (d q)))), (a 3, .inl (G.2.1, 40, .inl (fun q => nI (σ 2 q)))), (a 4, .inl (G.2.1, 40, .inl (fun q => nI (σ 3 q)))), (a 5, .inl (G.2.1, 40, .inl (fun q => nI (σ 6 q)))), (a 6, .inl (G.2.1, 40, .inl (fun q => nI (σ 4 q)))), (a 7, .inl (G.2.1, 40, .inl (fun q => nI (σ 5 q)))), (a 8, .inr (3, [.int (nI (σ 0 12)), .int (nI (σ 0 14)), .int (nI (σ 0 16)), .int (nI (σ 0 18)), .int (nI (σ 0 20)), .int (nI (σ 0 22)), .float (fl (σ 0 24))])), (a 9, .inr (3, [.int (nI (σ 0 13)), .int (nI (σ 0 15)), .int (nI (σ 0 17)), .int (nI (σ 0 19)), .int (nI (σ 0 21)), .int (nI (σ 0 23)), .float (fl (σ 0 25))]))]) rfl (fun _ => rfl) 11 (fun _ => rfl) (by decide +kernel) (by decide +kernel) (fun _ _ => ?_)
  refine J_st (st' := [.int (nI (σ 7 2)), .int 0]) rfl ?_
  refine J_aload_n C rfl dX4_correctionsLeft_9 ?_
  refine J_get C 0 0 in4 rfl rfl (by decide) k117 rfl dX4_correctionsLeft_10 ?_
  refine J_getN C 1 7 in1 rfl rfl (by decide) nfTwoScribes_State_104 rfl dX4_correctionsLeft_13 ?_
  refine J_isub C dX4_correctionsLeft_16 ?_
  refine J_mmax C k404 k298 k16 k299 (Nat.le_of_ble_eq_true rfl) (Nat.le_of_ble_eq_true rfl) ⟨Nat.le_of_ble_eq_true rfl, Nat.le_of_ble_eq_true rfl⟩ dX4_correctionsLeft_17 ?_
  refine J_i (mx_sub (a := σ 7 2) (b := σ 0 5) (by omega) (by omega) : (if 0 < ((nI (σ 7 2)) - (nI (σ 0 5))) then ((nI (σ 7 2)) - (nI (σ 0 5))) else 0 : Int32) = (nI (σ 7 2 - σ 0 5))) ?_
  exact J_zret C hr rfl dX4_correctionsLeft_20 () rfl trivial rfl

set_option maxHeartbeats 4000000 in
set_option maxRecDepth 100000 in
theorem ct_canCorrect (l : Launch) (G : GT) (a : Nat → Nat) (σ : AS) (d : Nat → Nat) (j : Nat) (hI : Inv σ) (hD : DOK σ d) (hj : j < σ 0 4) : Ct (S := Unit) l G NoX yX4_canCorrect (Wy yX4_canCorrect cX4_canCorrect 2 ((Option.some Jvm.ClassFile.FieldType.boolean))) { frames := 2, cells := 0, slots := 0, locals := 42 } [.ref (a 0), .int (nI j)] (stW G a σ d) (fun u => True) (fun u => some (.int (if 0 < σ 3 j ∧ σ 0 5 < σ 7 2 ∧ dueAt σ j ≤ σ 0 6 then 1 else 0))) (fun u => stW G a σ d) := by
  refine Ct.of (by decide) (Nat.le_of_ble_eq_true rfl) (fun p e s m args below meth c C hr hnm hX => ?_)
  have h40 := hI.a
  have hs := hI.s
  have hi := hI.i
  have hq := hI.q (q := j) (by omega)
  have hdj := hD j hj
  have hdu := hI.due hj
  refine J_aload_n C rfl dX4_canCorrect_0 ?_
  refine J_get C 0 0 in4 rfl rfl (by decide) k117 rfl dX4_canCorrect_1 ?_
  refine J_iload_n C rfl dX4_canCorrect_4 ?_
  refine J_callV (as := [.int (nI j)]) (rest := []) C (ct_isWritten l G a σ d j (by omega) (by omega)) (fun u => stW G a σ d) [1, 2, 3, 4, 5, 6, 7] [0, 8, 9, 10] 1 k363 k364 k365 k12 k366 rfl (by decide +kernel) ⟨Nat.le_of_ble_eq_true rfl, Nat.le_of_ble_eq_true rfl⟩ ⟨Nat.le_of_ble_eq_true rfl, Nat.le_of_ble_eq_true rfl⟩ dX4_canCorrect_5 (Nat.le_of_ble_eq_true rfl) 1 rfl rfl rfl (by decide +kernel) (fun _ => rfl) ([(a 0, .inr (4, [.ref (a 1), .ref (a 8), .ref (a 9), .ref (a 10), .float (fl (σ 0 6)), .float (fl (σ 0 7)), .float (fl (σ 0 8)), .int (nI (σ 0 3)), .int (nI (σ 0 9)), .int (nI (σ 0 10)), .int (nI (σ 0 11))])), (a 8, .inr (3, [.int (nI (σ 0 12)), .int (nI (σ 0 14)), .int (nI (σ 0 16)), .int (nI (σ 0 18)), .int (nI (σ 0 20)), .int (nI (σ 0 22)), .float (fl (σ 0 24))])), (a 9, .inr (3, [.int (nI (σ 0 13)), .int (nI (σ 0 15)), .int (nI (σ 0 17)), .int (nI (σ 0 19)), .int (nI (σ 0 21)), .int (nI (σ 0 23)), .float (fl (σ 0 25))])), (a 10, .inl (G.2.1, 3, .inl (fun q => nI (σ 7 q))))]) rfl (fun _ => rfl) 11 (fun _ => rfl) (by decide +kernel) (by decide +kernel) (fun _ _ => ?_)
  refine J_st (st' := [.int (if 0 < σ 3 j then 1 else 0)]) rfl ?_
  refine J_if_eq C 44 (by decide) dX4_canCorrect_8 (fun c8 => ?_) (fun c8 => ?_)
  · skip
    have c8 : ¬ (0 < σ 3 j) := fun q => by rw [if_pos q] at c8; exact absurd c8 (by decide)
    refine J_iconst C 0 (by decide) dX4_canCorrect_44 ?_
    exact J_zret C hr rfl dX4_canCorrect_45 () (by rw [if_neg (by omega)]) trivial rfl
  · skip
    have c8 : 0 < σ 3 j := Classical.byContradiction fun q => c8 (by rw [if_neg q])
    refine J_aload_n C rfl dX4_canCorrect_11 ?_
    refine J_callV (as := []) (rest := []) C (ct_corrLeft l G a σ d hI) (fun u => stW G a σ d) [0, 1, 2, 3, 4, 5, 6, 7, 8, 9, 10] [] 0 k448 k400 k401 k11 k402 rfl (by decide +kernel) ⟨Nat.le_of_ble_eq_true rfl, Nat.le_of_ble_eq_true rfl⟩ ⟨Nat.le_of_ble_eq_true rfl, Nat.le_of_ble_eq_true rfl⟩ dX4_canCorrect_12 (Nat.le_of_ble_eq_true rfl) 0 rfl rfl rfl (by decide +kernel) (fun _ => rfl) ([]) rfl (fun _ => rfl) 11 (fun _ => rfl) (by decide +kernel) (by decide +kernel) (fun _ _ => ?_)
    refine J_st (st' := [.int (nI (σ 7 2 - σ 0 5))]) rfl ?_
    refine J_if_le C 44 (by decide) dX4_canCorrect_15 (fun c15 => ?_) (fun c15 => ?_)
    · skip
      have c15 := cv_le_t (a := (σ 7 2 - σ 0 5)) (b := 0) (by omega) (by omega) c15
      refine J_iconst C 0 (by decide) dX4_canCorrect_44 ?_
      exact J_zret C hr rfl dX4_canCorrect_45 () (by rw [if_neg (by omega)]) trivial rfl
    · skip
      have c15 := cv_le_f (a := (σ 7 2 - σ 0 5)) (b := 0) (by omega) (by omega) c15
      refine J_aload_n C rfl dX4_canCorrect_18 ?_
      refine J_get C 0 4 in4 rfl rfl (by decide) k125 rfl dX4_canCorrect_19 ?_
      refine J_aload_n C rfl dX4_canCorrect_22 ?_
      refine J_get C 0 0 in4 rfl rfl (by decide) k117 rfl dX4_canCorrect_23 ?_
      refine J_getN C 1 0 in1 rfl rfl (by decide) nfTwoScribes_State_116 rfl dX4_canCorrect_26 ?_
      refine J_iload_n C rfl dX4_canCorrect_29 ?_
      refine J_callSN (as := [.ref (a 2), .int (nI j)]) (rest := [.float (fl (σ 0 6))]) C (ct_at l G (a 2) 40 (fun q => nI (d q)) j (by omega) (by decide)) (fun u => stW G a σ d) [2] [0, 1, 3, 4, 5, 6, 7, 8, 9, 10] 2 nmTwoScribes_State_100 k340 k10 k341 rfl (by decide +kernel) ⟨Nat.le_of_ble_eq_true rfl, Nat.le_of_ble_eq_true rfl⟩ ⟨Nat.le_of_ble_eq_true rfl, Nat.le_of_ble_eq_true rfl⟩ dX4_canCorrect_30 (Nat.le_of_ble_eq_true rfl) rfl (by decide +kernel) (fun _ => rfl) ([(a 0, .inr (4, [.ref (a 1), .ref (a 8), .ref (a 9), .ref (a 10), .float (fl (σ 0 6)), .float (fl (σ 0 7)), .float (fl (σ 0 8)), .int (nI (σ 0 3)), .int (nI (σ 0 9)), .int (nI (σ 0 10)), .int (nI (σ 0 11))])), (a 1, .inr (1, [.ref (a 2), .ref (a 3), .ref (a 4), .ref (a 5), .ref (a 6), .ref (a 7), .int (nI (σ 0 4)), .int (nI (σ 0 5))])), (a 3, .inl (G.2.1, 40, .inl (fun q => nI (σ 2 q)))), (a 4, .inl (G.2.1, 40, .inl (fun q => nI (σ 3 q)))), (a 5, .inl (G.2.1, 40, .inl (fun q => nI (σ 6 q)))), (a 6, .inl (G.2.1, 40, .inl (fun q => nI (σ 4 q)))), (a 7, .inl (G.2.1, 40, .inl (fun q => nI (σ 5 q)))), (a 8, .inr (3, [.int (nI (σ 0 12)), .int (nI (σ 0 14)), .int (nI (σ 0 16)), .int (nI (σ 0 18)), .int (nI (σ 0 20)), .int (nI (σ 0 22)), .float (fl (σ 0 24))])), (a 9, .inr (3, [.int (nI (σ 0 13)), .int (nI (σ 0 15)), .int (nI (σ 0 17)), .int (nI (σ 0 19)), .int (nI (σ 0 21)), .int (nI (σ 0 23)), .float (fl (σ 0 25))])), (a 10, .inl (G.2.1, 3, .inl (fun q => nI (σ 7 q))))]) rfl (fun _ => rfl) 11 (fun _ => rfl) (by decide +kernel) (by decide +kernel) (fun _ _ => ?_)
      refine J_st (st' := [.int (nI (d j)), .float (fl (σ 0 6))]) rfl ?_
      refine J_callSN (as := [.int (nI (d j))]) (rest := [.float (fl (σ 0 6))]) C (ct_inkFor l G (d j) (by omega)) (fun u => stW G a σ d) [] [0, 1, 2, 3, 4, 5, 6, 7, 8, 9, 10] 1 nmTwoScribes_State_119 k450 k10 k451 rfl (by decide +kernel) ⟨Nat.le_of_ble_eq_true rfl, Nat.le_of_ble_eq_true rfl⟩ ⟨Nat.le_of_ble_eq_true rfl, Nat.le_of_ble_eq_true rfl⟩ dX4_canCorrect_33 (Nat.le_of_ble_eq_true rfl) rfl (by decide +kernel) (fun _ => rfl) (stW G a σ d) rfl (fun _ => rfl) 11 (fun _ => rfl) (by decide +kernel) (by decide +kernel) (fun _ _ => ?_)
      refine J_st (st' := [.float (fl (d j)), .float (fl (σ 0 6))]) rfl ?_
      refine J_fcmp C dX4_canCorrect_36 ?_
      refine J_i (fl_cmp (a := σ 0 6) (b := d j) (by omega) (by omega) _ : (Op.cmpValue (FP.fcmp (fl (σ 0 6)) (fl (d j))) .l : Int32) = (if (σ 0 6) < (d j) then -1 else if (σ 0 6) = (d j) then 0 else 1)) ?_
      refine J_if_lt C 44 (by decide) dX4_canCorrect_37 (fun c37 => ?_) (fun c37 => ?_)
      · skip
        have c37 := fcv_lt_t (a := (σ 0 6)) (b := (d j)) c37
        refine J_iconst C 0 (by decide) dX4_canCorrect_44 ?_
        exact J_zret C hr rfl dX4_canCorrect_45 () (by rw [if_neg (by omega)]) trivial rfl
      · skip
        have c37 := fcv_lt_f (a := (σ 0 6)) (b := (d j)) c37
        refine J_iconst C 1 (by decide) dX4_canCorrect_40 ?_
        refine J_goto C 45 (by decide) dX4_canCorrect_41 ?_
        exact J_zret C hr rfl dX4_canCorrect_45 () (by rw [if_pos (by omega)]) trivial rfl

set_option maxHeartbeats 4000000 in
set_option maxRecDepth 100000 in
theorem ct_makeCorr (l : Launch) (G : GT) (a : Nat → Nat) (σ : AS) (d : Nat → Nat) (j : Nat) (hI : Inv σ) (hD : DOK σ d) (hj : j < σ 0 4) (hw : dueAt σ j ≤ σ 0 6) : Ct (S := Unit) l G NoX yX4_makeCorrection (Wy yX4_makeCorrection cX4_makeCorrection 3 ((Option.none : Option Jvm.ClassFile.FieldType))) { frames := 2, cells := 0, slots := 0, locals := 43 } [.ref (a 0), .int (nI j)] (stW G a σ d) (fun u => True) (fun u => none) (fun u => stW G a (up2 (up2 (up2 (up2 (up2 (up2 σ 3 j (d j)) 4 j 0) 5 j 1) 0 5 (σ 0 5 + 1)) 0 6 (σ 0 6 - d j)) 0 8 (σ 0 8 + d j)) d) := by
  refine Ct.of (by decide) (Nat.le_of_ble_eq_true rfl) (fun p e s m args below meth c C hr hnm hX => ?_)
  have h40 := hI.a
  have hs := hI.s
  have hi := hI.i
  have hdj := hD j hj
  have hdu := hI.due hj
  refine J_aload_n C rfl dX4_makeCorrection_0 ?_
  refine J_get C 0 0 in4 rfl rfl (by decide) k117 rfl dX4_makeCorrection_1 ?_
  refine J_getN C 1 0 in1 rfl rfl (by decide) nfTwoScribes_State_116 rfl dX4_makeCorrection_4 ?_
  refine J_iload_n C rfl dX4_makeCorrection_7 ?_
  refine J_callSN (as := [.ref (a 2), .int (nI j)]) (rest := []) C (ct_at l G (a 2) 40 (fun q => nI (d q)) j (by omega) (by decide)) (fun u => stW G a σ d) [2] [0, 1, 3, 4, 5, 6, 7, 8, 9, 10] 2 nmTwoScribes_State_100 k340 k10 k341 rfl (by decide +kernel) ⟨Nat.le_of_ble_eq_true rfl, Nat.le_of_ble_eq_true rfl⟩ ⟨Nat.le_of_ble_eq_true rfl, Nat.le_of_ble_eq_true rfl⟩ dX4_makeCorrection_8 (Nat.le_of_ble_eq_true rfl) rfl (by decide +kernel) (fun _ => rfl) ([(a 0, .inr (4, [.ref (a 1), .ref (a 8), .ref (a 9), .ref (a 10), .float (fl (σ 0 6)), .float (fl (σ 0 7)), .float (fl (σ 0 8)), .int (nI (σ 0 3)), .int (nI (σ 0 9)), .int (nI (σ 0 10)), .int (nI (σ 0 11))])), (a 1, .inr (1, [.ref (a 2), .ref (a 3), .ref (a 4), .ref (a 5), .ref (a 6), .ref (a 7), .int (nI (σ 0 4)), .int (nI (σ 0 5))])), (a 3, .inl (G.2.1, 40, .inl (fun q => nI (σ 2 q)))), (a 4, .inl (G.2.1, 40, .inl (fun q => nI (σ 3 q)))), (a 5, .inl (G.2.1, 40, .inl (fun q => nI (σ 6 q)))), (a 6, .inl (G.2.1, 40, .inl (fun q => nI (σ 4 q)))), (a 7, .inl (G.2.1, 40, .inl (fun q => nI (σ 5 q)))), (a 8, .inr (3, [.int (nI (σ 0 12)), .int (nI (σ 0 14)), .int (nI (σ 0 16)), .int (nI (σ 0 18)), .int (nI (σ 0 20)), .int (nI (σ 0 22)), .float (fl (σ 0 24))])), (a 9, .inr (3, [.int (nI (σ 0 13)), .int (nI (σ 0 15)), .int (nI (σ 0 17)), .int (nI (σ 0 19)), .int (nI (σ 0 21)), .int (nI (σ 0 23)), .float (fl (σ 0 25))])), (a 10, .inl (G.2.1, 3, .inl (fun q => nI (σ 7 q))))]) rfl (fun _ => rfl) 11 (fun _ => rfl) (by decide +kernel) (by decide +kernel) (fun _ _ => ?_)
  refine J_st (st' := [.int (nI (d j))]) rfl ?_
  refine J_callSN (as := [.int (nI (d j))]) (rest := []) C (ct_inkFor l G (d j) (by omega)) (fun u => stW G a σ d) [] [0, 1, 2, 3, 4, 5, 6, 7, 8, 9, 10] 1 nmTwoScribes_State_119 k450 k10 k451 rfl (by decide +kernel) ⟨Nat.le_of_ble_eq_true rfl, Nat.le_of_ble_eq_true rfl⟩ ⟨Nat.le_of_ble_eq_true rfl, Nat.le_of_ble_eq_true rfl⟩ dX4_makeCorrection_11 (Nat.le_of_ble_eq_true rfl) rfl (by decide +kernel) (fun _ => rfl) (stW G a σ d) rfl (fun _ => rfl) 11 (fun _ => rfl) (by decide +kernel) (by decide +kernel) (fun _ _ => ?_)
  refine J_st (st' := [.float (fl (d j))]) rfl ?_
  refine J_fstore_n C [(2, .float (fl (d j))), (0, .ref (a 0)), (1, .int (nI j))] (by decide) rfl dX4_makeCorrection_14 ?_
  refine J_aload_n C rfl dX4_makeCorrection_15 ?_
  refine J_dup C rfl dX4_makeCorrection_16 ?_
  refine J_get C 0 4 in4 rfl rfl (by decide) k125 rfl dX4_makeCorrection_17 ?_
  refine J_fload_n C rfl dX4_makeCorrection_20 ?_
  refine J_fsub C (by rw [fl_sub (a := σ 0 6) (b := d j) (by omega) (by omega)]; exact fl_num (by omega)) dX4_makeCorrection_21 ?_
  refine J_f (fl_sub (a := σ 0 6) (b := d j) (by omega) (by omega) : (FP.fsub (fl (σ 0 6)) (fl (d j)) : UInt32) = (fl (σ 0 6 - (d j)))) ?_
  refine J_put C 0 4 in4 tyX4 tyX4_ok nmX4 ([(a 0, .inr (4, [.ref (a 1), .ref (a 8), .ref (a 9), .ref (a 10), .float (fl (σ 0 6 - (d j))), .float (fl (σ 0 7)), .float (fl (σ 0 8)), .int (nI (σ 0 3)), .int (nI (σ 0 9)), .int (nI (σ 0 10)), .int (nI (σ 0 11))])), (a 1, .inr (1, [.ref (a 2), .ref (a 3), .ref (a 4), .ref (a 5), .ref (a 6), .ref (a 7), .int (nI (σ 0 4)), .int (nI (σ 0 5))])), (a 2, .inl (G.2.1, 40, .inl (fun q => nI (d q)))), (a 3, .inl (G.2.1, 40, .inl (fun q => nI (σ 2 q)))), (a 4, .inl (G.2.1, 40, .inl (fun q => nI (σ 3 q)))), (a 5, .inl (G.2.1, 40, .inl (fun q => nI (σ 6 q)))), (a 6, .inl (G.2.1, 40, .inl (fun q => nI (σ 4 q)))), (a 7, .inl (G.2.1, 40, .inl (fun q => nI (σ 5 q)))), (a 8, .inr (3, [.int (nI (σ 0 12)), .int (nI (σ 0 14)), .int (nI (σ 0 16)), .int (nI (σ 0 18)), .int (nI (σ 0 20)), .int (nI (σ 0 22)), .float (fl (σ 0 24))])), (a 9, .inr (3, [.int (nI (σ 0 13)), .int (nI (σ 0 15)), .int (nI (σ 0 17)), .int (nI (σ 0 19)), .int (nI (σ 0 21)), .int (nI (σ 0 23)), .float (fl (σ 0 25))])), (a 10, .inl (G.2.1, 3, .inl (fun q => nI (σ 7 q))))]) rfl rfl (by decide) k125 rfl rfl rfl (Nat.le_of_ble_eq_true rfl) rfl dX4_makeCorrection_22 ?_
  refine J_aload_n C rfl dX4_makeCorrection_25 ?_
  refine J_dup C rfl dX4_makeCorrection_26 ?_
  refine J_get C 0 6 in4 rfl rfl (by decide) k129 rfl dX4_makeCorrection_27 ?_
  refine J_fload_n C rfl dX4_makeCorrection_30 ?_
  refine J_fadd C (by rw [fl_add (a := σ 0 8) (b := d j) (by omega)]; exact fl_num (by omega)) dX4_makeCorrection_31 ?_
  refine J_f (fl_add (a := σ 0 8) (b := d j) (by omega) : (FP.fadd (fl (σ 0 8)) (fl (d j)) : UInt32) = (fl (σ 0 8 + d j))) ?_
  refine J_put C 0 6 in4 tyX4 tyX4_ok nmX4 ([(a 0, .inr (4, [.ref (a 1), .ref (a 8), .ref (a 9), .ref (a 10), .float (fl (σ 0 6 - (d j))), .float (fl (σ 0 7)), .float (fl (σ 0 8 + d j)), .int (nI (σ 0 3)), .int (nI (σ 0 9)), .int (nI (σ 0 10)), .int (nI (σ 0 11))])), (a 1, .inr (1, [.ref (a 2), .ref (a 3), .ref (a 4), .ref (a 5), .ref (a 6), .ref (a 7), .int (nI (σ 0 4)), .int (nI (σ 0 5))])), (a 2, .inl (G.2.1, 40, .inl (fun q => nI (d q)))), (a 3, .inl (G.2.1, 40, .inl (fun q => nI (σ 2 q)))), (a 4, .inl (G.2.1, 40, .inl (fun q => nI (σ 3 q)))), (a 5, .inl (G.2.1, 40, .inl (fun q => nI (σ 6 q)))), (a 6, .inl (G.2.1, 40, .inl (fun q => nI (σ 4 q)))), (a 7, .inl (G.2.1, 40, .inl (fun q => nI (σ 5 q)))), (a 8, .inr (3, [.int (nI (σ 0 12)), .int (nI (σ 0 14)), .int (nI (σ 0 16)), .int (nI (σ 0 18)), .int (nI (σ 0 20)), .int (nI (σ 0 22)), .float (fl (σ 0 24))])), (a 9, .inr (3, [.int (nI (σ 0 13)), .int (nI (σ 0 15)), .int (nI (σ 0 17)), .int (nI (σ 0 19)), .int (nI (σ 0 21)), .int (nI (σ 0 23)), .float (fl (σ 0 25))])), (a 10, .inl (G.2.1, 3, .inl (fun q => nI (σ 7 q))))]) rfl rfl (by decide) k129 rfl rfl rfl (Nat.le_of_ble_eq_true rfl) rfl dX4_makeCorrection_32 ?_
  refine J_aload_n C rfl dX4_makeCorrection_35 ?_
  refine J_get C 0 0 in4 rfl rfl (by decide) k117 rfl dX4_makeCorrection_36 ?_
  refine J_iload_n C rfl dX4_makeCorrection_39 ?_
  refine J_callV (as := [.int (nI j)]) (rest := []) C (ct_amend l G a σ d j (by omega)) (fun u => [(a 0, .inr (4, [.ref (a 1), .ref (a 8), .ref (a 9), .ref (a 10), .float (fl (σ 0 6 - (d j))), .float (fl (σ 0 7)), .float (fl (σ 0 8 + d j)), .int (nI (σ 0 3)), .int (nI (σ 0 9)), .int (nI (σ 0 10)), .int (nI (σ 0 11))])), (a 1, .inr (1, [.ref (a 2), .ref (a 3), .ref (a 4), .ref (a 5), .ref (a 6), .ref (a 7), .int (nI (σ 0 4)), .int (nI (σ 0 5 + 1))])), (a 2, .inl (G.2.1, 40, .inl (fun q => nI (d q)))), (a 3, .inl (G.2.1, 40, .inl (fun q => nI (σ 2 q)))), (a 4, .inl (G.2.1, 40, .inl (fun q => nI (if q = j then d j else σ 3 q)))), (a 5, .inl (G.2.1, 40, .inl (fun q => nI (σ 6 q)))), (a 6, .inl (G.2.1, 40, .inl (fun q => nI (if q = j then 0 else σ 4 q)))), (a 7, .inl (G.2.1, 40, .inl (fun q => nI (if q = j then 1 else σ 5 q)))), (a 8, .inr (3, [.int (nI (σ 0 12)), .int (nI (σ 0 14)), .int (nI (σ 0 16)), .int (nI (σ 0 18)), .int (nI (σ 0 20)), .int (nI (σ 0 22)), .float (fl (σ 0 24))])), (a 9, .inr (3, [.int (nI (σ 0 13)), .int (nI (σ 0 15)), .int (nI (σ 0 17)), .int (nI (σ 0 19)), .int (nI (σ 0 21)), .int (nI (σ 0 23)), .float (fl (σ 0 25))])), (a 10, .inl (G.2.1, 3, .inl (fun q => nI (σ 7 q))))]) [1, 2, 3, 4, 5, 6, 7] [0, 8, 9, 10] 1 k461 k462 k463 k12 k464 rfl (by decide +kernel) ⟨Nat.le_of_ble_eq_true rfl, Nat.le_of_ble_eq_true rfl⟩ ⟨Nat.le_of_ble_eq_true rfl, Nat.le_of_ble_eq_true rfl⟩ dX4_makeCorrection_40 (Nat.le_of_ble_eq_true rfl) 1 rfl rfl rfl (by decide +kernel) (fun _ => rfl) ([(a 0, .inr (4, [.ref (a 1), .ref (a 8), .ref (a 9), .ref (a 10), .float (fl (σ 0 6 - (d j))), .float (fl (σ 0 7)), .float (fl (σ 0 8 + d j)), .int (nI (σ 0 3)), .int (nI (σ 0 9)), .int (nI (σ 0 10)), .int (nI (σ 0 11))])), (a 8, .inr (3, [.int (nI (σ 0 12)), .int (nI (σ 0 14)), .int (nI (σ 0 16)), .int (nI (σ 0 18)), .int (nI (σ 0 20)), .int (nI (σ 0 22)), .float (fl (σ 0 24))])), (a 9, .inr (3, [.int (nI (σ 0 13)), .int (nI (σ 0 15)), .int (nI (σ 0 17)), .int (nI (σ 0 19)), .int (nI (σ 0 21)), .int (nI (σ 0 23)), .float (fl (σ 0 25))])), (a 10, .inl (G.2.1, 3, .inl (fun q => nI (σ 7 q))))]) rfl (fun _ => rfl) 11 (fun _ => rfl) (by decide +kernel) (by decide +kernel) (fun _ _ => ?_)
  refine J_st (st' := []) rfl ?_
  exact J_vret C hr dX4_makeCorrection_43 () rfl trivial rfl

set_option maxHeartbeats 4000000 in
set_option maxRecDepth 100000 in
theorem ct_deedOf0 (l : Launch) (G : GT) (a : Nat → Nat) (σ : AS) (d : Nat → Nat)  (hI : Inv σ) (hD : DOK σ d) : Ct (S := Unit) l G NoX yX4_deedOf (Wy yX4_deedOf cX4_deedOf 4 ((Option.some Jvm.ClassFile.FieldType.int))) { frames := 2, cells := 0, slots := 0, locals := 43 } [.ref (a 0), .int 0] (stW G a σ d) (fun u => True) (fun u => some (.int (nI (doesN σ 0)))) (fun u => stW G a σ d) := by
  refine Ct.of (by decide) (Nat.le_of_ble_eq_true rfl) (fun p e s m args below meth c C hr hnm hX => ?_)
  have h40 := hI.a
  have hc := hI.c
  have hi := hI.i
  have hl := hI.l
  have hr2 := hI.r
  have hs := hI.s
  refine J_aload_n C rfl dX4_deedOf_0 ?_
  refine J_iload_n C rfl dX4_deedOf_1 ?_
  refine J_callV (as := [.int 0]) (rest := []) C (ct_scribeOf0 l G a σ d) (fun u => stW G a σ d) [0, 1, 2, 3, 4, 5, 6, 7, 8, 9, 10] [] 1 k371 k372 k373 k11 k374 rfl (by decide +kernel) ⟨Nat.le_of_ble_eq_true rfl, Nat.le_of_ble_eq_true rfl⟩ ⟨Nat.le_of_ble_eq_true rfl, Nat.le_of_ble_eq_true rfl⟩ dX4_deedOf_2 (Nat.le_of_ble_eq_true rfl) 0 rfl rfl rfl (by decide +kernel) (fun _ => rfl) ([]) rfl (fun _ => rfl) 11 (fun _ => rfl) (by decide +kernel) (by decide +kernel) (fun _ _ => ?_)
  refine J_st (st' := [.ref (a 8)]) rfl ?_
  refine J_astore_n C [(2, .ref (a 8)), (0, .ref (a 0)), (1, .int 0)] (by decide) rfl dX4_deedOf_5 ?_
  refine J_aload_n C rfl dX4_deedOf_6 ?_
  refine J_getN C 8 3 in3 rfl rfl (by decide) nfTwoScribes_State_127 rfl dX4_deedOf_7 ?_
  refine J_if_le C 15 (by decide) dX4_deedOf_10 (fun c10 => ?_) (fun c10 => ?_)
  · skip
    have c10 := cv_le_t (a := (σ 0 18)) (b := 0) (by omega) (by omega) c10
    refine J_aload_n C rfl dX4_deedOf_15 ?_
    refine J_iload_n C rfl dX4_deedOf_16 ?_
    rcases Nat.lt_or_ge (2 * σ 0 14) (σ 0 4) with hf | hf
    · skip
      have hlt := hI.let (p := σ 0 14) (by omega)
      refine J_callV (as := [.int 0]) (rest := []) C (ct_nextPlace0 l G a σ d (by omega) (by omega) hf) (fun u => stW G a σ d) [0, 1, 2, 3, 4, 5, 6, 7, 8, 9, 10] [] 1 k367 k368 k369 k11 k370 rfl (by decide +kernel) ⟨Nat.le_of_ble_eq_true rfl, Nat.le_of_ble_eq_true rfl⟩ ⟨Nat.le_of_ble_eq_true rfl, Nat.le_of_ble_eq_true rfl⟩ dX4_deedOf_17 (Nat.le_of_ble_eq_true rfl) 0 rfl rfl rfl (by decide +kernel) (fun _ => rfl) ([]) rfl (fun _ => rfl) 11 (fun _ => rfl) (by decide +kernel) (by decide +kernel) (fun _ _ => ?_)
      refine J_st (st' := [.int (nI (σ 0 14))]) rfl ?_
      refine J_istore_n C [(3, .int (nI (σ 0 14))), (2, .ref (a 8)), (0, .ref (a 0)), (1, .int 0)] (by decide) rfl dX4_deedOf_20 ?_
      refine J_iload_n C rfl dX4_deedOf_21 ?_
      refine J_bipush C (-5) (by decide) dX4_deedOf_22 ?_
      refine J_icmp_ne C 29 (by decide) dX4_deedOf_24 (fun _ => ?_) (fun h => absurd h (nI_ne5 (by omega)))
      refine J_aload_n C rfl dX4_deedOf_29 ?_
      refine J_getN C 8 2 in3 rfl rfl (by decide) nfTwoScribes_State_94 rfl dX4_deedOf_30 ?_
      refine J_if_gt C 55 (by decide) dX4_deedOf_33 (fun c33 => ?_) (fun c33 => ?_)
      · skip
        have c33 := cv_gt_t (a := (σ 0 16)) (b := 0) (by omega) (by omega) c33
        refine J_iconst C 0 (by decide) dX4_deedOf_55 ?_
        exact J_zret C hr rfl dX4_deedOf_56 () (by rw [show doesN σ 0 = 0 from by rw [doesN_0]; (repeat' split) <;> first | rfl | omega] <;> rfl) trivial rfl
      · skip
        have c33 := cv_gt_f (a := (σ 0 16)) (b := 0) (by omega) (by omega) c33
        refine J_aload_n C rfl dX4_deedOf_36 ?_
        refine J_getN C 8 6 in3 rfl rfl (by decide) nfTwoScribes_State_130 rfl dX4_deedOf_37 ?_
        refine J_aload_n C rfl dX4_deedOf_40 ?_
        refine J_get C 0 0 in4 rfl rfl (by decide) k117 rfl dX4_deedOf_41 ?_
        refine J_iload_n C rfl dX4_deedOf_44 ?_
        refine J_callV (as := [.int (nI (σ 0 14))]) (rest := [.float (fl (σ 0 24))]) C (ct_letterFor l G a σ d (σ 0 14) hI hD (by omega)) (fun u => stW G a σ d) [1, 2, 3, 4, 5, 6, 7] [0, 8, 9, 10] 1 k491 k378 k379 k12 k380 rfl (by decide +kernel) ⟨Nat.le_of_ble_eq_true rfl, Nat.le_of_ble_eq_true rfl⟩ ⟨Nat.le_of_ble_eq_true rfl, Nat.le_of_ble_eq_true rfl⟩ dX4_deedOf_45 (Nat.le_of_ble_eq_true rfl) 1 rfl rfl rfl (by decide +kernel) (fun _ => rfl) ([(a 0, .inr (4, [.ref (a 1), .ref (a 8), .ref (a 9), .ref (a 10), .float (fl (σ 0 6)), .float (fl (σ 0 7)), .float (fl (σ 0 8)), .int (nI (σ 0 3)), .int (nI (σ 0 9)), .int (nI (σ 0 10)), .int (nI (σ 0 11))])), (a 8, .inr (3, [.int (nI (σ 0 12)), .int (nI (σ 0 14)), .int (nI (σ 0 16)), .int (nI (σ 0 18)), .int (nI (σ 0 20)), .int (nI (σ 0 22)), .float (fl (σ 0 24))])), (a 9, .inr (3, [.int (nI (σ 0 13)), .int (nI (σ 0 15)), .int (nI (σ 0 17)), .int (nI (σ 0 19)), .int (nI (σ 0 21)), .int (nI (σ 0 23)), .float (fl (σ 0 25))])), (a 10, .inl (G.2.1, 3, .inl (fun q => nI (σ 7 q))))]) rfl (fun _ => rfl) 11 (fun _ => rfl) (by decide +kernel) (by decide +kernel) (fun _ _ => ?_)
        refine J_st (st' := [.int (nI (letAt σ (σ 0 14))), .float (fl (σ 0 24))]) rfl ?_
        refine J_callSN (as := [.int (nI (letAt σ (σ 0 14)))]) (rest := [.float (fl (σ 0 24))]) C (ct_inkFor l G (letAt σ (σ 0 14)) (by omega)) (fun u => stW G a σ d) [] [0, 1, 2, 3, 4, 5, 6, 7, 8, 9, 10] 1 nmTwoScribes_State_119 k450 k10 k451 rfl (by decide +kernel) ⟨Nat.le_of_ble_eq_true rfl, Nat.le_of_ble_eq_true rfl⟩ ⟨Nat.le_of_ble_eq_true rfl, Nat.le_of_ble_eq_true rfl⟩ dX4_deedOf_48 (Nat.le_of_ble_eq_true rfl) rfl (by decide +kernel) (fun _ => rfl) (stW G a σ d) rfl (fun _ => rfl) 11 (fun _ => rfl) (by decide +kernel) (by decide +kernel) (fun _ _ => ?_)
        refine J_st (st' := [.float (fl (letAt σ (σ 0 14))), .float (fl (σ 0 24))]) rfl ?_
        refine J_fcmp C dX4_deedOf_51 ?_
        refine J_i (fl_cmp (a := σ 0 24) (b := letAt σ (σ 0 14)) (by omega) (by omega) _ : (Op.cmpValue (FP.fcmp (fl (σ 0 24)) (fl (letAt σ (σ 0 14)))) .l : Int32) = (if (σ 0 24) < (letAt σ (σ 0 14)) then -1 else if (σ 0 24) = (letAt σ (σ 0 14)) then 0 else 1)) ?_
        refine J_if_lt C 57 (by decide) dX4_deedOf_52 (fun c52 => ?_) (fun c52 => ?_)
        · skip
          have c52 := fcv_lt_t (a := (σ 0 24)) (b := (letAt σ (σ 0 14))) c52
          refine J_aload_n C rfl dX4_deedOf_57 ?_
          refine J_iconst C 1 (by decide) dX4_deedOf_58 ?_
          refine J_iload_n C rfl dX4_deedOf_59 ?_
          refine J_isub C dX4_deedOf_60 ?_
          refine J_i ((by decide) : (1 - 0 : Int32) = 1) ?_
          refine J_callV (as := [.int 1]) (rest := []) C (ct_scribeOf1 l G a σ d) (fun u => stW G a σ d) [0, 1, 2, 3, 4, 5, 6, 7, 8, 9, 10] [] 1 k371 k372 k373 k11 k374 rfl (by decide +kernel) ⟨Nat.le_of_ble_eq_true rfl, Nat.le_of_ble_eq_true rfl⟩ ⟨Nat.le_of_ble_eq_true rfl, Nat.le_of_ble_eq_true rfl⟩ dX4_deedOf_61 (Nat.le_of_ble_eq_true rfl) 0 rfl rfl rfl (by decide +kernel) (fun _ => rfl) ([]) rfl (fun _ => rfl) 11 (fun _ => rfl) (by decide +kernel) (by decide +kernel) (fun _ _ => ?_)
          refine J_st (st' := [.ref (a 9)]) rfl ?_
          refine J_getN C 9 3 in3 rfl rfl (by decide) nfTwoScribes_State_127 rfl dX4_deedOf_64 ?_
          refine J_if_le C 72 (by decide) dX4_deedOf_67 (fun c67 => ?_) (fun c67 => ?_)
          · skip
            have c67 := cv_le_t (a := (σ 0 19)) (b := 0) (by omega) (by omega) c67
            refine J_aload_n C rfl dX4_deedOf_72 ?_
            refine J_get C 0 4 in4 rfl rfl (by decide) k125 rfl dX4_deedOf_73 ?_
            refine J_fconst0 C dX4_deedOf_76 ?_
            refine J_f (fl_0 : (FP.fconst0 : UInt32) = (fl 0)) ?_
            refine J_fcmp C dX4_deedOf_77 ?_
            refine J_i (fl_cmp (a := σ 0 6) (b := 0) (by omega) (by omega) _ : (Op.cmpValue (FP.fcmp (fl (σ 0 6)) (fl 0)) .l : Int32) = (if (σ 0 6) < 0 then -1 else if (σ 0 6) = 0 then 0 else 1)) ?_
            refine J_if_le C 85 (by decide) dX4_deedOf_78 (fun c78 => ?_) (fun c78 => ?_)
            · skip
              have c78 := fcv_le_t (a := (σ 0 6)) (b := 0) c78
              refine J_iconst C 4 (by decide) dX4_deedOf_85 ?_
              exact J_zret C hr rfl dX4_deedOf_86 () (by rw [show doesN σ 0 = 4 from by rw [doesN_0]; (repeat' split) <;> first | rfl | omega] <;> rfl) trivial rfl
            · skip
              have c78 := fcv_le_f (a := (σ 0 6)) (b := 0) c78
              refine J_iconst C 2 (by decide) dX4_deedOf_81 ?_
              refine J_goto C 86 (by decide) dX4_deedOf_82 ?_
              exact J_zret C hr rfl dX4_deedOf_86 () (by rw [show doesN σ 0 = 2 from by rw [doesN_0]; (repeat' split) <;> first | rfl | omega] <;> rfl) trivial rfl
          · skip
            have c67 := cv_le_f (a := (σ 0 19)) (b := 0) (by omega) (by omega) c67
            refine J_iconst C 3 (by decide) dX4_deedOf_70 ?_
            exact J_zret C hr rfl dX4_deedOf_71 () (by rw [show doesN σ 0 = 3 from by rw [doesN_0]; (repeat' split) <;> first | rfl | omega] <;> rfl) trivial rfl
        · skip
          have c52 := fcv_lt_f (a := (σ 0 24)) (b := (letAt σ (σ 0 14))) c52
          refine J_iconst C 0 (by decide) dX4_deedOf_55 ?_
          exact J_zret C hr rfl dX4_deedOf_56 () (by rw [show doesN σ 0 = 0 from by rw [doesN_0]; (repeat' split) <;> first | rfl | omega] <;> rfl) trivial rfl
    · skip
      refine J_callV (as := [.int 0]) (rest := []) C (ct_nextNone0 l G a σ d (by omega) hf (by omega)) (fun u => stW G a σ d) [0, 1, 2, 3, 4, 5, 6, 7, 8, 9, 10] [] 1 k367 k368 k369 k11 k370 rfl (by decide +kernel) ⟨Nat.le_of_ble_eq_true rfl, Nat.le_of_ble_eq_true rfl⟩ ⟨Nat.le_of_ble_eq_true rfl, Nat.le_of_ble_eq_true rfl⟩ dX4_deedOf_17 (Nat.le_of_ble_eq_true rfl) 0 rfl rfl rfl (by decide +kernel) (fun _ => rfl) ([]) rfl (fun _ => rfl) 11 (fun _ => rfl) (by decide +kernel) (by decide +kernel) (fun _ _ => ?_)
      refine J_st (st' := [.int (-5)]) rfl ?_
      refine J_istore_n C [(3, .int (-5)), (2, .ref (a 8)), (0, .ref (a 0)), (1, .int 0)] (by decide) rfl dX4_deedOf_20 ?_
      refine J_iload_n C rfl dX4_deedOf_21 ?_
      refine J_bipush C (-5) (by decide) dX4_deedOf_22 ?_
      refine J_icmp_ne C 29 (by decide) dX4_deedOf_24 (fun h => absurd h (by decide)) (fun _ => ?_)
      refine J_iconst C 5 (by decide) dX4_deedOf_27 ?_
      exact J_zret C hr rfl dX4_deedOf_28 () (by rw [show doesN σ 0 = 5 from by rw [doesN_0]; (repeat' split) <;> first | rfl | omega] <;> rfl) trivial rfl
  · skip
    have c10 := cv_le_f (a := (σ 0 18)) (b := 0) (by omega) (by omega) c10
    refine J_iconst C 1 (by decide) dX4_deedOf_13 ?_
    exact J_zret C hr rfl dX4_deedOf_14 () (by rw [show doesN σ 0 = 1 from by rw [doesN_0]; (repeat' split) <;> first | rfl | omega] <;> rfl) trivial rfl

set_option maxHeartbeats 4000000 in
set_option maxRecDepth 100000 in
theorem ct_deedOf1 (l : Launch) (G : GT) (a : Nat → Nat) (σ : AS) (d : Nat → Nat)  (hI : Inv σ) (hD : DOK σ d) : Ct (S := Unit) l G NoX yX4_deedOf (Wy yX4_deedOf cX4_deedOf 4 ((Option.some Jvm.ClassFile.FieldType.int))) { frames := 2, cells := 0, slots := 0, locals := 43 } [.ref (a 0), .int 1] (stW G a σ d) (fun u => True) (fun u => some (.int (nI (doesN σ 1)))) (fun u => stW G a σ d) := by
  refine Ct.of (by decide) (Nat.le_of_ble_eq_true rfl) (fun p e s m args below meth c C hr hnm hX => ?_)
  have h40 := hI.a
  have hc := hI.c
  have hi := hI.i
  have hl := hI.l
  have hr2 := hI.r
  have hs := hI.s
  refine J_aload_n C rfl dX4_deedOf_0 ?_
  refine J_iload_n C rfl dX4_deedOf_1 ?_
  refine J_callV (as := [.int 1]) (rest := []) C (ct_scribeOf1 l G a σ d) (fun u => stW G a σ d) [0, 1, 2, 3, 4, 5, 6, 7, 8, 9, 10] [] 1 k371 k372 k373 k11 k374 rfl (by decide +kernel) ⟨Nat.le_of_ble_eq_true rfl, Nat.le_of_ble_eq_true rfl⟩ ⟨Nat.le_of_ble_eq_true rfl, Nat.le_of_ble_eq_true rfl⟩ dX4_deedOf_2 (Nat.le_of_ble_eq_true rfl) 0 rfl rfl rfl (by decide +kernel) (fun _ => rfl) ([]) rfl (fun _ => rfl) 11 (fun _ => rfl) (by decide +kernel) (by decide +kernel) (fun _ _ => ?_)
  refine J_st (st' := [.ref (a 9)]) rfl ?_
  refine J_astore_n C [(2, .ref (a 9)), (0, .ref (a 0)), (1, .int 1)] (by decide) rfl dX4_deedOf_5 ?_
  refine J_aload_n C rfl dX4_deedOf_6 ?_
  refine J_getN C 9 3 in3 rfl rfl (by decide) nfTwoScribes_State_127 rfl dX4_deedOf_7 ?_
  refine J_if_le C 15 (by decide) dX4_deedOf_10 (fun c10 => ?_) (fun c10 => ?_)
  · skip
    have c10 := cv_le_t (a := (σ 0 19)) (b := 0) (by omega) (by omega) c10
    refine J_aload_n C rfl dX4_deedOf_15 ?_
    refine J_iload_n C rfl dX4_deedOf_16 ?_
    rcases Nat.lt_or_ge (2 * σ 0 15) (σ 0 4) with hf | hf
    · skip
      have hlt := hI.let (p := σ 0 4 - 1 - σ 0 15) (by omega)
      refine J_callV (as := [.int 1]) (rest := []) C (ct_nextPlace1 l G a σ d (by omega) (by omega) hf) (fun u => stW G a σ d) [0, 1, 2, 3, 4, 5, 6, 7, 8, 9, 10] [] 1 k367 k368 k369 k11 k370 rfl (by decide +kernel) ⟨Nat.le_of_ble_eq_true rfl, Nat.le_of_ble_eq_true rfl⟩ ⟨Nat.le_of_ble_eq_true rfl, Nat.le_of_ble_eq_true rfl⟩ dX4_deedOf_17 (Nat.le_of_ble_eq_true rfl) 0 rfl rfl rfl (by decide +kernel) (fun _ => rfl) ([]) rfl (fun _ => rfl) 11 (fun _ => rfl) (by decide +kernel) (by decide +kernel) (fun _ _ => ?_)
      refine J_st (st' := [.int (nI (σ 0 4 - 1 - σ 0 15))]) rfl ?_
      refine J_istore_n C [(3, .int (nI (σ 0 4 - 1 - σ 0 15))), (2, .ref (a 9)), (0, .ref (a 0)), (1, .int 1)] (by decide) rfl dX4_deedOf_20 ?_
      refine J_iload_n C rfl dX4_deedOf_21 ?_
      refine J_bipush C (-5) (by decide) dX4_deedOf_22 ?_
      refine J_icmp_ne C 29 (by decide) dX4_deedOf_24 (fun _ => ?_) (fun h => absurd h (nI_ne5 (by omega)))
      refine J_aload_n C rfl dX4_deedOf_29 ?_
      refine J_getN C 9 2 in3 rfl rfl (by decide) nfTwoScribes_State_94 rfl dX4_deedOf_30 ?_
      refine J_if_gt C 55 (by decide) dX4_deedOf_33 (fun c33 => ?_) (fun c33 => ?_)
      · skip
        have c33 := cv_gt_t (a := (σ 0 17)) (b := 0) (by omega) (by omega) c33
        refine J_iconst C 0 (by decide) dX4_deedOf_55 ?_
        exact J_zret C hr rfl dX4_deedOf_56 () (by rw [show doesN σ 1 = 0 from by rw [doesN_1]; (repeat' split) <;> first | rfl | omega] <;> rfl) trivial rfl
      · skip
        have c33 := cv_gt_f (a := (σ 0 17)) (b := 0) (by omega) (by omega) c33
        refine J_aload_n C rfl dX4_deedOf_36 ?_
        refine J_getN C 9 6 in3 rfl rfl (by decide) nfTwoScribes_State_130 rfl dX4_deedOf_37 ?_
        refine J_aload_n C rfl dX4_deedOf_40 ?_
        refine J_get C 0 0 in4 rfl rfl (by decide) k117 rfl dX4_deedOf_41 ?_
        refine J_iload_n C rfl dX4_deedOf_44 ?_
        refine J_callV (as := [.int (nI (σ 0 4 - 1 - σ 0 15))]) (rest := [.float (fl (σ 0 25))]) C (ct_letterFor l G a σ d (σ 0 4 - 1 - σ 0 15) hI hD (by omega)) (fun u => stW G a σ d) [1, 2, 3, 4, 5, 6, 7] [0, 8, 9, 10] 1 k491 k378 k379 k12 k380 rfl (by decide +kernel) ⟨Nat.le_of_ble_eq_true rfl, Nat.le_of_ble_eq_true rfl⟩ ⟨Nat.le_of_ble_eq_true rfl, Nat.le_of_ble_eq_true rfl⟩ dX4_deedOf_45 (Nat.le_of_ble_eq_true rfl) 1 rfl rfl rfl (by decide +kernel) (fun _ => rfl) ([(a 0, .inr (4, [.ref (a 1), .ref (a 8), .ref (a 9), .ref (a 10), .float (fl (σ 0 6)), .float (fl (σ 0 7)), .float (fl (σ 0 8)), .int (nI (σ 0 3)), .int (nI (σ 0 9)), .int (nI (σ 0 10)), .int (nI (σ 0 11))])), (a 8, .inr (3, [.int (nI (σ 0 12)), .int (nI (σ 0 14)), .int (nI (σ 0 16)), .int (nI (σ 0 18)), .int (nI (σ 0 20)), .int (nI (σ 0 22)), .float (fl (σ 0 24))])), (a 9, .inr (3, [.int (nI (σ 0 13)), .int (nI (σ 0 15)), .int (nI (σ 0 17)), .int (nI (σ 0 19)), .int (nI (σ 0 21)), .int (nI (σ 0 23)), .float (fl (σ 0 25))])), (a 10, .inl (G.2.1, 3, .inl (fun q => nI (σ 7 q))))]) rfl (fun _ => rfl) 11 (fun _ => rfl) (by decide +kernel) (by decide +kernel) (fun _ _ => ?_)
        refine J_st (st' := [.int (nI (letAt σ (σ 0 4 - 1 - σ 0 15))), .float (fl (σ 0 25))]) rfl ?_
        refine J_callSN (as := [.int (nI (letAt σ (σ 0 4 - 1 - σ 0 15)))]) (rest := [.float (fl (σ 0 25))]) C (ct_inkFor l G (letAt σ (σ 0 4 - 1 - σ 0 15)) (by omega)) (fun u => stW G a σ d) [] [0, 1, 2, 3, 4, 5, 6, 7, 8, 9, 10] 1 nmTwoScribes_State_119 k450 k10 k451 rfl (by decide +kernel) ⟨Nat.le_of_ble_eq_true rfl, Nat.le_of_ble_eq_true rfl⟩ ⟨Nat.le_of_ble_eq_true rfl, Nat.le_of_ble_eq_true rfl⟩ dX4_deedOf_48 (Nat.le_of_ble_eq_true rfl) rfl (by decide +kernel) (fun _ => rfl) (stW G a σ d) rfl (fun _ => rfl) 11 (fun _ => rfl) (by decide +kernel) (by decide +kernel) (fun _ _ => ?_)
        refine J_st (st' := [.float (fl (letAt σ (σ 0 4 - 1 - σ 0 15))), .float (fl (σ 0 25))]) rfl ?_
        refine J_fcmp C dX4_deedOf_51 ?_
        refine J_i (fl_cmp (a := σ 0 25) (b := letAt σ (σ 0 4 - 1 - σ 0 15)) (by omega) (by omega) _ : (Op.cmpValue (FP.fcmp (fl (σ 0 25)) (fl (letAt σ (σ 0 4 - 1 - σ 0 15)))) .l : Int32) = (if (σ 0 25) < (letAt σ (σ 0 4 - 1 - σ 0 15)) then -1 else if (σ 0 25) = (letAt σ (σ 0 4 - 1 - σ 0 15)) then 0 else 1)) ?_
        refine J_if_lt C 57 (by decide) dX4_deedOf_52 (fun c52 => ?_) (fun c52 => ?_)
        · skip
          have c52 := fcv_lt_t (a := (σ 0 25)) (b := (letAt σ (σ 0 4 - 1 - σ 0 15))) c52
          refine J_aload_n C rfl dX4_deedOf_57 ?_
          refine J_iconst C 1 (by decide) dX4_deedOf_58 ?_
          refine J_iload_n C rfl dX4_deedOf_59 ?_
          refine J_isub C dX4_deedOf_60 ?_
          refine J_i ((by decide) : (1 - 1 : Int32) = 0) ?_
          refine J_callV (as := [.int 0]) (rest := []) C (ct_scribeOf0 l G a σ d) (fun u => stW G a σ d) [0, 1, 2, 3, 4, 5, 6, 7, 8, 9, 10] [] 1 k371 k372 k373 k11 k374 rfl (by decide +kernel) ⟨Nat.le_of_ble_eq_true rfl, Nat.le_of_ble_eq_true rfl⟩ ⟨Nat.le_of_ble_eq_true rfl, Nat.le_of_ble_eq_true rfl⟩ dX4_deedOf_61 (Nat.le_of_ble_eq_true rfl) 0 rfl rfl rfl (by decide +kernel) (fun _ => rfl) ([]) rfl (fun _ => rfl) 11 (fun _ => rfl) (by decide +kernel) (by decide +kernel) (fun _ _ => ?_)
          refine J_st (st' := [.ref (a 8)]) rfl ?_
          refine J_getN C 8 3 in3 rfl rfl (by decide) nfTwoScribes_State_127 rfl dX4_deedOf_64 ?_
          refine J_if_le C 72 (by decide) dX4_deedOf_67 (fun c67 => ?_) (fun c67 => ?_)
          · skip
            have c67 := cv_le_t (a := (σ 0 18)) (b := 0) (by omega) (by omega) c67
            refine J_aload_n C rfl dX4_deedOf_72 ?_
            refine J_get C 0 4 in4 rfl rfl (by decide) k125 rfl dX4_deedOf_73 ?_
            refine J_fconst0 C dX4_deedOf_76 ?_
            refine J_f (fl_0 : (FP.fconst0 : UInt32) = (fl 0)) ?_
            refine J_fcmp C dX4_deedOf_77 ?_
            refine J_i (fl_cmp (a := σ 0 6) (b := 0) (by omega) (by omega) _ : (Op.cmpValue (FP.fcmp (fl (σ 0 6)) (fl 0)) .l : Int32) = (if (σ 0 6) < 0 then -1 else if (σ 0 6) = 0 then 0 else 1)) ?_
            refine J_if_le C 85 (by decide) dX4_deedOf_78 (fun c78 => ?_) (fun c78 => ?_)
            · skip
              have c78 := fcv_le_t (a := (σ 0 6)) (b := 0) c78
              refine J_iconst C 4 (by decide) dX4_deedOf_85 ?_
              exact J_zret C hr rfl dX4_deedOf_86 () (by rw [show doesN σ 1 = 4 from by rw [doesN_1]; (repeat' split) <;> first | rfl | omega] <;> rfl) trivial rfl
            · skip
              have c78 := fcv_le_f (a := (σ 0 6)) (b := 0) c78
              refine J_iconst C 2 (by decide) dX4_deedOf_81 ?_
              refine J_goto C 86 (by decide) dX4_deedOf_82 ?_
              exact J_zret C hr rfl dX4_deedOf_86 () (by rw [show doesN σ 1 = 2 from by rw [doesN_1]; (repeat' split) <;> first | rfl | omega] <;> rfl) trivial rfl
          · skip
            have c67 := cv_le_f (a := (σ 0 18)) (b := 0) (by omega) (by omega) c67
            refine J_iconst C 3 (by decide) dX4_deedOf_70 ?_
            exact J_zret C hr rfl dX4_deedOf_71 () (by rw [show doesN σ 1 = 3 from by rw [doesN_1]; (repeat' split) <;> first | rfl | omega] <;> rfl) trivial rfl
        · skip
          have c52 := fcv_lt_f (a := (σ 0 25)) (b := (letAt σ (σ 0 4 - 1 - σ 0 15))) c52
          refine J_iconst C 0 (by decide) dX4_deedOf_55 ?_
          exact J_zret C hr rfl dX4_deedOf_56 () (by rw [show doesN σ 1 = 0 from by rw [doesN_1]; (repeat' split) <;> first | rfl | omega] <;> rfl) trivial rfl
    · skip
      refine J_callV (as := [.int 1]) (rest := []) C (ct_nextNone1 l G a σ d (by omega) hf (by omega)) (fun u => stW G a σ d) [0, 1, 2, 3, 4, 5, 6, 7, 8, 9, 10] [] 1 k367 k368 k369 k11 k370 rfl (by decide +kernel) ⟨Nat.le_of_ble_eq_true rfl, Nat.le_of_ble_eq_true rfl⟩ ⟨Nat.le_of_ble_eq_true rfl, Nat.le_of_ble_eq_true rfl⟩ dX4_deedOf_17 (Nat.le_of_ble_eq_true rfl) 0 rfl rfl rfl (by decide +kernel) (fun _ => rfl) ([]) rfl (fun _ => rfl) 11 (fun _ => rfl) (by decide +kernel) (by decide +kernel) (fun _ _ => ?_)
      refine J_st (st' := [.int (-5)]) rfl ?_
      refine J_istore_n C [(3, .int (-5)), (2, .ref (a 9)), (0, .ref (a 0)), (1, .int 1)] (by decide) rfl dX4_deedOf_20 ?_
      refine J_iload_n C rfl dX4_deedOf_21 ?_
      refine J_bipush C (-5) (by decide) dX4_deedOf_22 ?_
      refine J_icmp_ne C 29 (by decide) dX4_deedOf_24 (fun h => absurd h (by decide)) (fun _ => ?_)
      refine J_iconst C 5 (by decide) dX4_deedOf_27 ?_
      exact J_zret C hr rfl dX4_deedOf_28 () (by rw [show doesN σ 1 = 5 from by rw [doesN_1]; (repeat' split) <;> first | rfl | omega] <;> rfl) trivial rfl
  · skip
    have c10 := cv_le_f (a := (σ 0 19)) (b := 0) (by omega) (by omega) c10
    refine J_iconst C 1 (by decide) dX4_deedOf_13 ?_
    exact J_zret C hr rfl dX4_deedOf_14 () (by rw [show doesN σ 1 = 1 from by rw [doesN_1]; (repeat' split) <;> first | rfl | omega] <;> rfl) trivial rfl

set_option maxHeartbeats 4000000 in
set_option maxRecDepth 100000 in
theorem ct_goOn0 (l : Launch) (G : GT) (a : Nat → Nat) (σ : AS) (d : Nat → Nat)  (hI : Inv σ) (hp : 0 < σ 0 18) : Ct (S := Unit) l G NoX yX4_goOnDipping (Wy yX4_goOnDipping cX4_goOnDipping 4 ((Option.none : Option Jvm.ClassFile.FieldType))) { frames := 0, cells := 0, slots := 0, locals := 0 } [.ref (a 0), .ref (a 8)] (stW G a σ d) (fun u => True) (fun u => none) (fun u => stW G a (dipsF σ 0) d) := by
  refine Ct.of (by decide) (Nat.le_of_ble_eq_true rfl) (fun p e s m args below meth c C hr hnm hX => ?_)
  have h40 := hI.a
  have hc := hI.c
  have hi := hI.i
  have hl := hI.l
  have hr2 := hI.r
  have hs := hI.s
  refine J_aload_n C rfl dX4_goOnDipping_0 ?_
  refine J_dup C rfl dX4_goOnDipping_1 ?_
  refine J_getN C 8 3 in3 rfl rfl (by decide) nfTwoScribes_State_127 rfl dX4_goOnDipping_2 ?_
  refine J_iconst C 1 (by decide) dX4_goOnDipping_5 ?_
  refine J_isub C dX4_goOnDipping_6 ?_
  refine J_i (pk_sub (a := σ 0 18) (b := 1) (by omega) : ((nI (σ 0 18)) - 1 : Int32) = (nI (σ 0 18 - 1))) ?_
  refine J_putN C 8 3 in3 tyX3 tyX3_ok nmX3 ([(a 0, .inr (4, [.ref (a 1), .ref (a 8), .ref (a 9), .ref (a 10), .float (fl (σ 0 6)), .float (fl (σ 0 7)), .float (fl (σ 0 8)), .int (nI (σ 0 3)), .int (nI (σ 0 9)), .int (nI (σ 0 10)), .int (nI (σ 0 11))])), (a 1, .inr (1, [.ref (a 2), .ref (a 3), .ref (a 4), .ref (a 5), .ref (a 6), .ref (a 7), .int (nI (σ 0 4)), .int (nI (σ 0 5))])), (a 2, .inl (G.2.1, 40, .inl (fun q => nI (d q)))), (a 3, .inl (G.2.1, 40, .inl (fun q => nI (σ 2 q)))), (a 4, .inl (G.2.1, 40, .inl (fun q => nI (σ 3 q)))), (a 5, .inl (G.2.1, 40, .inl (fun q => nI (σ 6 q)))), (a 6, .inl (G.2.1, 40, .inl (fun q => nI (σ 4 q)))), (a 7, .inl (G.2.1, 40, .inl (fun q => nI (σ 5 q)))), (a 8, .inr (3, [.int (nI (σ 0 12)), .int (nI (σ 0 14)), .int (nI (σ 0 16)), .int (nI (σ 0 18 - 1)), .int (nI (σ 0 20)), .int (nI (σ 0 22)), .float (fl (σ 0 24))])), (a 9, .inr (3, [.int (nI (σ 0 13)), .int (nI (σ 0 15)), .int (nI (σ 0 17)), .int (nI (σ 0 19)), .int (nI (σ 0 21)), .int (nI (σ 0 23)), .float (fl (σ 0 25))])), (a 10, .inl (G.2.1, 3, .inl (fun q => nI (σ 7 q))))]) rfl rfl (by decide) nfTwoScribes_State_127 rfl rfl rfl (Nat.le_of_ble_eq_true rfl) rfl dX4_goOnDipping_7 ?_
  refine J_aload_n C rfl dX4_goOnDipping_10 ?_
  refine J_getN C 8 3 in3 rfl rfl (by decide) nfTwoScribes_State_127 rfl dX4_goOnDipping_11 ?_
  refine J_if_le C 18 (by decide) dX4_goOnDipping_14 (fun c14 => ?_) (fun c14 => ?_)
  · skip
    have c14 := cv_le_t (a := (σ 0 18 - 1)) (b := 0) (by omega) (by omega) c14
    refine J_fconst1 C dX4_goOnDipping_18 ?_
    refine J_f (fl_64 : (FP.fconst1 : UInt32) = (fl 64)) ?_
    refine J_aload_n C rfl dX4_goOnDipping_19 ?_
    refine J_getN C 8 6 in3 rfl rfl (by decide) nfTwoScribes_State_130 rfl dX4_goOnDipping_20 ?_
    refine J_fsub C (by rw [fl_sub (a := 64) (b := σ 0 24) (by omega) (by omega)]; exact fl_num (by omega)) dX4_goOnDipping_23 ?_
    refine J_f (fl_sub (a := 64) (b := σ 0 24) (by omega) (by omega) : (FP.fsub (fl 64) (fl (σ 0 24)) : UInt32) = (fl (64 - (σ 0 24)))) ?_
    refine J_fstore_n C [(2, .float (fl (64 - (σ 0 24)))), (0, .ref (a 0)), (1, .ref (a 8))] (by decide) rfl dX4_goOnDipping_24 ?_
    refine J_aload_n C rfl dX4_goOnDipping_25 ?_
    refine J_get C 0 4 in4 rfl rfl (by decide) k125 rfl dX4_goOnDipping_26 ?_
    refine J_fload_n C rfl dX4_goOnDipping_29 ?_
    refine J_fcmp C dX4_goOnDipping_30 ?_
    refine J_i (fl_cmp (a := σ 0 6) (b := 64 - (σ 0 24)) (by omega) (by omega) _ : (Op.cmpValue (FP.fcmp (fl (σ 0 6)) (fl (64 - (σ 0 24)))) .g : Int32) = (if (σ 0 6) < (64 - (σ 0 24)) then -1 else if (σ 0 6) = (64 - (σ 0 24)) then 0 else 1)) ?_
    refine J_if_ge C 41 (by decide) dX4_goOnDipping_31 (fun c31 => ?_) (fun c31 => ?_)
    · skip
      have c31 := fcv_ge_t (a := (σ 0 6)) (b := (64 - (σ 0 24))) c31
      refine J_fload_n C rfl dX4_goOnDipping_41 ?_
      refine J_fstore_n C [(3, .float (fl (64 - (σ 0 24)))), (2, .float (fl (64 - (σ 0 24)))), (0, .ref (a 0)), (1, .ref (a 8))] (by decide) rfl dX4_goOnDipping_42 ?_
      refine J_aload_n C rfl dX4_goOnDipping_43 ?_
      refine J_dup C rfl dX4_goOnDipping_44 ?_
      refine J_getN C 8 6 in3 rfl rfl (by decide) nfTwoScribes_State_130 rfl dX4_goOnDipping_45 ?_
      refine J_fload_n C rfl dX4_goOnDipping_48 ?_
      refine J_fadd C (by rw [fl_add (a := σ 0 24) (b := 64 - (σ 0 24)) (by omega)]; exact fl_num (by omega)) dX4_goOnDipping_49 ?_
      refine J_f (fl_add (a := σ 0 24) (b := 64 - (σ 0 24)) (by omega) : (FP.fadd (fl (σ 0 24)) (fl (64 - (σ 0 24))) : UInt32) = (fl (σ 0 24 + (64 - (σ 0 24))))) ?_
      refine J_putN C 8 6 in3 tyX3 tyX3_ok nmX3 ([(a 0, .inr (4, [.ref (a 1), .ref (a 8), .ref (a 9), .ref (a 10), .float (fl (σ 0 6)), .float (fl (σ 0 7)), .float (fl (σ 0 8)), .int (nI (σ 0 3)), .int (nI (σ 0 9)), .int (nI (σ 0 10)), .int (nI (σ 0 11))])), (a 1, .inr (1, [.ref (a 2), .ref (a 3), .ref (a 4), .ref (a 5), .ref (a 6), .ref (a 7), .int (nI (σ 0 4)), .int (nI (σ 0 5))])), (a 2, .inl (G.2.1, 40, .inl (fun q => nI (d q)))), (a 3, .inl (G.2.1, 40, .inl (fun q => nI (σ 2 q)))), (a 4, .inl (G.2.1, 40, .inl (fun q => nI (σ 3 q)))), (a 5, .inl (G.2.1, 40, .inl (fun q => nI (σ 6 q)))), (a 6, .inl (G.2.1, 40, .inl (fun q => nI (σ 4 q)))), (a 7, .inl (G.2.1, 40, .inl (fun q => nI (σ 5 q)))), (a 8, .inr (3, [.int (nI (σ 0 12)), .int (nI (σ 0 14)), .int (nI (σ 0 16)), .int (nI (σ 0 18 - 1)), .int (nI (σ 0 20)), .int (nI (σ 0 22)), .float (fl (σ 0 24 + (64 - (σ 0 24))))])), (a 9, .inr (3, [.int (nI (σ 0 13)), .int (nI (σ 0 15)), .int (nI (σ 0 17)), .int (nI (σ 0 19)), .int (nI (σ 0 21)), .int (nI (σ 0 23)), .float (fl (σ 0 25))])), (a 10, .inl (G.2.1, 3, .inl (fun q => nI (σ 7 q))))]) rfl rfl (by decide) nfTwoScribes_State_130 rfl rfl rfl (Nat.le_of_ble_eq_true rfl) rfl dX4_goOnDipping_50 ?_
      refine J_aload_n C rfl dX4_goOnDipping_53 ?_
      refine J_dup C rfl dX4_goOnDipping_54 ?_
      refine J_get C 0 4 in4 rfl rfl (by decide) k125 rfl dX4_goOnDipping_55 ?_
      refine J_fload_n C rfl dX4_goOnDipping_58 ?_
      refine J_fsub C (by rw [fl_sub (a := σ 0 6) (b := 64 - (σ 0 24)) (by omega) (by omega)]; exact fl_num (by omega)) dX4_goOnDipping_59 ?_
      refine J_f (fl_sub (a := σ 0 6) (b := 64 - (σ 0 24)) (by omega) (by omega) : (FP.fsub (fl (σ 0 6)) (fl (64 - (σ 0 24))) : UInt32) = (fl (σ 0 6 - (64 - (σ 0 24))))) ?_
      refine J_put C 0 4 in4 tyX4 tyX4_ok nmX4 ([(a 0, .inr (4, [.ref (a 1), .ref (a 8), .ref (a 9), .ref (a 10), .float (fl (σ 0 6 - (64 - (σ 0 24)))), .float (fl (σ 0 7)), .float (fl (σ 0 8)), .int (nI (σ 0 3)), .int (nI (σ 0 9)), .int (nI (σ 0 10)), .int (nI (σ 0 11))])), (a 1, .inr (1, [.ref (a 2), .ref (a 3), .ref (a 4), .ref (a 5), .ref (a 6), .ref (a 7), .int (nI (σ 0 4)), .int (nI (σ 0 5))])), (a 2, .inl (G.2.1, 40, .inl (fun q => nI (d q)))), (a 3, .inl (G.2.1, 40, .inl (fun q => nI (σ 2 q)))), (a 4, .inl (G.2.1, 40, .inl (fun q => nI (σ 3 q)))), (a 5, .inl (G.2.1, 40, .inl (fun q => nI (σ 6 q)))), (a 6, .inl (G.2.1, 40, .inl (fun q => nI (σ 4 q)))), (a 7, .inl (G.2.1, 40, .inl (fun q => nI (σ 5 q)))), (a 8, .inr (3, [.int (nI (σ 0 12)), .int (nI (σ 0 14)), .int (nI (σ 0 16)), .int (nI (σ 0 18 - 1)), .int (nI (σ 0 20)), .int (nI (σ 0 22)), .float (fl (σ 0 24 + (64 - (σ 0 24))))])), (a 9, .inr (3, [.int (nI (σ 0 13)), .int (nI (σ 0 15)), .int (nI (σ 0 17)), .int (nI (σ 0 19)), .int (nI (σ 0 21)), .int (nI (σ 0 23)), .float (fl (σ 0 25))])), (a 10, .inl (G.2.1, 3, .inl (fun q => nI (σ 7 q))))]) rfl rfl (by decide) k125 rfl rfl rfl (Nat.le_of_ble_eq_true rfl) rfl dX4_goOnDipping_60 ?_
      refine J_aload_n C rfl dX4_goOnDipping_63 ?_
      refine J_dup C rfl dX4_goOnDipping_64 ?_
      refine J_getN C 8 4 in3 rfl rfl (by decide) nfTwoScribes_State_148 rfl dX4_goOnDipping_65 ?_
      refine J_iconst C 1 (by decide) dX4_goOnDipping_68 ?_
      refine J_iadd C dX4_goOnDipping_69 ?_
      refine J_i (nI_add (σ 0 20) 1 : ((nI (σ 0 20)) + 1 : Int32) = (nI (σ 0 20 + 1))) ?_
      refine J_putN C 8 4 in3 tyX3 tyX3_ok nmX3 ([(a 0, .inr (4, [.ref (a 1), .ref (a 8), .ref (a 9), .ref (a 10), .float (fl (σ 0 6 - (64 - (σ 0 24)))), .float (fl (σ 0 7)), .float (fl (σ 0 8)), .int (nI (σ 0 3)), .int (nI (σ 0 9)), .int (nI (σ 0 10)), .int (nI (σ 0 11))])), (a 1, .inr (1, [.ref (a 2), .ref (a 3), .ref (a 4), .ref (a 5), .ref (a 6), .ref (a 7), .int (nI (σ 0 4)), .int (nI (σ 0 5))])), (a 2, .inl (G.2.1, 40, .inl (fun q => nI (d q)))), (a 3, .inl (G.2.1, 40, .inl (fun q => nI (σ 2 q)))), (a 4, .inl (G.2.1, 40, .inl (fun q => nI (σ 3 q)))), (a 5, .inl (G.2.1, 40, .inl (fun q => nI (σ 6 q)))), (a 6, .inl (G.2.1, 40, .inl (fun q => nI (σ 4 q)))), (a 7, .inl (G.2.1, 40, .inl (fun q => nI (σ 5 q)))), (a 8, .inr (3, [.int (nI (σ 0 12)), .int (nI (σ 0 14)), .int (nI (σ 0 16)), .int (nI (σ 0 18 - 1)), .int (nI (σ 0 20 + 1)), .int (nI (σ 0 22)), .float (fl (σ 0 24 + (64 - (σ 0 24))))])), (a 9, .inr (3, [.int (nI (σ 0 13)), .int (nI (σ 0 15)), .int (nI (σ 0 17)), .int (nI (σ 0 19)), .int (nI (σ 0 21)), .int (nI (σ 0 23)), .float (fl (σ 0 25))])), (a 10, .inl (G.2.1, 3, .inl (fun q => nI (σ 7 q))))]) rfl rfl (by decide) nfTwoScribes_State_148 rfl rfl rfl (Nat.le_of_ble_eq_true rfl) rfl dX4_goOnDipping_70 ?_
      exact J_vret C hr dX4_goOnDipping_73 () rfl trivial (by rw [dipsF_0, if_pos (by omega), gotF_0, if_neg (by omega)] <;> rfl)
    · skip
      have c31 := fcv_ge_f (a := (σ 0 6)) (b := (64 - (σ 0 24))) c31
      refine J_aload_n C rfl dX4_goOnDipping_34 ?_
      refine J_get C 0 4 in4 rfl rfl (by decide) k125 rfl dX4_goOnDipping_35 ?_
      refine J_goto C 42 (by decide) dX4_goOnDipping_38 ?_
      refine J_fstore_n C [(3, .float (fl (σ 0 6))), (2, .float (fl (64 - (σ 0 24)))), (0, .ref (a 0)), (1, .ref (a 8))] (by decide) rfl dX4_goOnDipping_42 ?_
      refine J_aload_n C rfl dX4_goOnDipping_43 ?_
      refine J_dup C rfl dX4_goOnDipping_44 ?_
      refine J_getN C 8 6 in3 rfl rfl (by decide) nfTwoScribes_State_130 rfl dX4_goOnDipping_45 ?_
      refine J_fload_n C rfl dX4_goOnDipping_48 ?_
      refine J_fadd C (by rw [fl_add (a := σ 0 24) (b := σ 0 6) (by omega)]; exact fl_num (by omega)) dX4_goOnDipping_49 ?_
      refine J_f (fl_add (a := σ 0 24) (b := σ 0 6) (by omega) : (FP.fadd (fl (σ 0 24)) (fl (σ 0 6)) : UInt32) = (fl (σ 0 24 + σ 0 6))) ?_
      refine J_putN C 8 6 in3 tyX3 tyX3_ok nmX3 ([(a 0, .inr (4, [.ref (a 1), .ref (a 8), .ref (a 9), .ref (a 10), .float (fl (σ 0 6)), .float (fl (σ 0 7)), .float (fl (σ 0 8)), .int (nI (σ 0 3)), .int (nI (σ 0 9)), .int (nI (σ 0 10)), .int (nI (σ 0 11))])), (a 1, .inr (1, [.ref (a 2), .ref (a 3), .ref (a 4), .ref (a 5), .ref (a 6), .ref (a 7), .int (nI (σ 0 4)), .int (nI (σ 0 5))])), (a 2, .inl (G.2.1, 40, .inl (fun q => nI (d q)))), (a 3, .inl (G.2.1, 40, .inl (fun q => nI (σ 2 q)))), (a 4, .inl (G.2.1, 40, .inl (fun q => nI (σ 3 q)))), (a 5, .inl (G.2.1, 40, .inl (fun q => nI (σ 6 q)))), (a 6, .inl (G.2.1, 40, .inl (fun q => nI (σ 4 q)))), (a 7, .inl (G.2.1, 40, .inl (fun q => nI (σ 5 q)))), (a 8, .inr (3, [.int (nI (σ 0 12)), .int (nI (σ 0 14)), .int (nI (σ 0 16)), .int (nI (σ 0 18 - 1)), .int (nI (σ 0 20)), .int (nI (σ 0 22)), .float (fl (σ 0 24 + σ 0 6))])), (a 9, .inr (3, [.int (nI (σ 0 13)), .int (nI (σ 0 15)), .int (nI (σ 0 17)), .int (nI (σ 0 19)), .int (nI (σ 0 21)), .int (nI (σ 0 23)), .float (fl (σ 0 25))])), (a 10, .inl (G.2.1, 3, .inl (fun q => nI (σ 7 q))))]) rfl rfl (by decide) nfTwoScribes_State_130 rfl rfl rfl (Nat.le_of_ble_eq_true rfl) rfl dX4_goOnDipping_50 ?_
      refine J_aload_n C rfl dX4_goOnDipping_53 ?_
      refine J_dup C rfl dX4_goOnDipping_54 ?_
      refine J_get C 0 4 in4 rfl rfl (by decide) k125 rfl dX4_goOnDipping_55 ?_
      refine J_fload_n C rfl dX4_goOnDipping_58 ?_
      refine J_fsub C (by rw [fl_sub (a := σ 0 6) (b := σ 0 6) (by omega) (by omega)]; exact fl_num (by omega)) dX4_goOnDipping_59 ?_
      refine J_f (fl_sub (a := σ 0 6) (b := σ 0 6) (by omega) (by omega) : (FP.fsub (fl (σ 0 6)) (fl (σ 0 6)) : UInt32) = (fl (σ 0 6 - (σ 0 6)))) ?_
      refine J_put C 0 4 in4 tyX4 tyX4_ok nmX4 ([(a 0, .inr (4, [.ref (a 1), .ref (a 8), .ref (a 9), .ref (a 10), .float (fl (σ 0 6 - (σ 0 6))), .float (fl (σ 0 7)), .float (fl (σ 0 8)), .int (nI (σ 0 3)), .int (nI (σ 0 9)), .int (nI (σ 0 10)), .int (nI (σ 0 11))])), (a 1, .inr (1, [.ref (a 2), .ref (a 3), .ref (a 4), .ref (a 5), .ref (a 6), .ref (a 7), .int (nI (σ 0 4)), .int (nI (σ 0 5))])), (a 2, .inl (G.2.1, 40, .inl (fun q => nI (d q)))), (a 3, .inl (G.2.1, 40, .inl (fun q => nI (σ 2 q)))), (a 4, .inl (G.2.1, 40, .inl (fun q => nI (σ 3 q)))), (a 5, .inl (G.2.1, 40, .inl (fun q => nI (σ 6 q)))), (a 6, .inl (G.2.1, 40, .inl (fun q => nI (σ 4 q)))), (a 7, .inl (G.2.1, 40, .inl (fun q => nI (σ 5 q)))), (a 8, .inr (3, [.int (nI (σ 0 12)), .int (nI (σ 0 14)), .int (nI (σ 0 16)), .int (nI (σ 0 18 - 1)), .int (nI (σ 0 20)), .int (nI (σ 0 22)), .float (fl (σ 0 24 + σ 0 6))])), (a 9, .inr (3, [.int (nI (σ 0 13)), .int (nI (σ 0 15)), .int (nI (σ 0 17)), .int (nI (σ 0 19)), .int (nI (σ 0 21)), .int (nI (σ 0 23)), .float (fl (σ 0 25))])), (a 10, .inl (G.2.1, 3, .inl (fun q => nI (σ 7 q))))]) rfl rfl (by decide) k125 rfl rfl rfl (Nat.le_of_ble_eq_true rfl) rfl dX4_goOnDipping_60 ?_
      refine J_aload_n C rfl dX4_goOnDipping_63 ?_
      refine J_dup C rfl dX4_goOnDipping_64 ?_
      refine J_getN C 8 4 in3 rfl rfl (by decide) nfTwoScribes_State_148 rfl dX4_goOnDipping_65 ?_
      refine J_iconst C 1 (by decide) dX4_goOnDipping_68 ?_
      refine J_iadd C dX4_goOnDipping_69 ?_
      refine J_i (nI_add (σ 0 20) 1 : ((nI (σ 0 20)) + 1 : Int32) = (nI (σ 0 20 + 1))) ?_
      refine J_putN C 8 4 in3 tyX3 tyX3_ok nmX3 ([(a 0, .inr (4, [.ref (a 1), .ref (a 8), .ref (a 9), .ref (a 10), .float (fl (σ 0 6 - (σ 0 6))), .float (fl (σ 0 7)), .float (fl (σ 0 8)), .int (nI (σ 0 3)), .int (nI (σ 0 9)), .int (nI (σ 0 10)), .int (nI (σ 0 11))])), (a 1, .inr (1, [.ref (a 2), .ref (a 3), .ref (a 4), .ref (a 5), .ref (a 6), .ref (a 7), .int (nI (σ 0 4)), .int (nI (σ 0 5))])), (a 2, .inl (G.2.1, 40, .inl (fun q => nI (d q)))), (a 3, .inl (G.2.1, 40, .inl (fun q => nI (σ 2 q)))), (a 4, .inl (G.2.1, 40, .inl (fun q => nI (σ 3 q)))), (a 5, .inl (G.2.1, 40, .inl (fun q => nI (σ 6 q)))), (a 6, .inl (G.2.1, 40, .inl (fun q => nI (σ 4 q)))), (a 7, .inl (G.2.1, 40, .inl (fun q => nI (σ 5 q)))), (a 8, .inr (3, [.int (nI (σ 0 12)), .int (nI (σ 0 14)), .int (nI (σ 0 16)), .int (nI (σ 0 18 - 1)), .int (nI (σ 0 20 + 1)), .int (nI (σ 0 22)), .float (fl (σ 0 24 + σ 0 6))])), (a 9, .inr (3, [.int (nI (σ 0 13)), .int (nI (σ 0 15)), .int (nI (σ 0 17)), .int (nI (σ 0 19)), .int (nI (σ 0 21)), .int (nI (σ 0 23)), .float (fl (σ 0 25))])), (a 10, .inl (G.2.1, 3, .inl (fun q => nI (σ 7 q))))]) rfl rfl (by decide) nfTwoScribes_State_148 rfl rfl rfl (Nat.le_of_ble_eq_true rfl) rfl dX4_goOnDipping_70 ?_
      exact J_vret C hr dX4_goOnDipping_73 () rfl trivial (by rw [dipsF_0, if_pos (by omega), gotF_0, if_pos (by omega)] <;> rfl)
  · skip
    have c14 := cv_le_f (a := (σ 0 18 - 1)) (b := 0) (by omega) (by omega) c14
    exact J_vret C hr dX4_goOnDipping_17 () rfl trivial (by rw [dipsF_0, if_neg (by omega)] <;> rfl)

set_option maxHeartbeats 4000000 in
set_option maxRecDepth 100000 in
theorem ct_goOn1 (l : Launch) (G : GT) (a : Nat → Nat) (σ : AS) (d : Nat → Nat)  (hI : Inv σ) (hp : 0 < σ 0 19) : Ct (S := Unit) l G NoX yX4_goOnDipping (Wy yX4_goOnDipping cX4_goOnDipping 4 ((Option.none : Option Jvm.ClassFile.FieldType))) { frames := 0, cells := 0, slots := 0, locals := 0 } [.ref (a 0), .ref (a 9)] (stW G a σ d) (fun u => True) (fun u => none) (fun u => stW G a (dipsF σ 1) d) := by
  refine Ct.of (by decide) (Nat.le_of_ble_eq_true rfl) (fun p e s m args below meth c C hr hnm hX => ?_)
  have h40 := hI.a
  have hc := hI.c
  have hi := hI.i
  have hl := hI.l
  have hr2 := hI.r
  have hs := hI.s
  refine J_aload_n C rfl dX4_goOnDipping_0 ?_
  refine J_dup C rfl dX4_goOnDipping_1 ?_
  refine J_getN C 9 3 in3 rfl rfl (by decide) nfTwoScribes_State_127 rfl dX4_goOnDipping_2 ?_
  refine J_iconst C 1 (by decide) dX4_goOnDipping_5 ?_
  refine J_isub C dX4_goOnDipping_6 ?_
  refine J_i (pk_sub (a := σ 0 19) (b := 1) (by omega) : ((nI (σ 0 19)) - 1 : Int32) = (nI (σ 0 19 - 1))) ?_
  refine J_putN C 9 3 in3 tyX3 tyX3_ok nmX3 ([(a 0, .inr (4, [.ref (a 1), .ref (a 8), .ref (a 9), .ref (a 10), .float (fl (σ 0 6)), .float (fl (σ 0 7)), .float (fl (σ 0 8)), .int (nI (σ 0 3)), .int (nI (σ 0 9)), .int (nI (σ 0 10)), .int (nI (σ 0 11))])), (a 1, .inr (1, [.ref (a 2), .ref (a 3), .ref (a 4), .ref (a 5), .ref (a 6), .ref (a 7), .int (nI (σ 0 4)), .int (nI (σ 0 5))])), (a 2, .inl (G.2.1, 40, .inl (fun q => nI (d q)))), (a 3, .inl (G.2.1, 40, .inl (fun q => nI (σ 2 q)))), (a 4, .inl (G.2.1, 40, .inl (fun q => nI (σ 3 q)))), (a 5, .inl (G.2.1, 40, .inl (fun q => nI (σ 6 q)))), (a 6, .inl (G.2.1, 40, .inl (fun q => nI (σ 4 q)))), (a 7, .inl (G.2.1, 40, .inl (fun q => nI (σ 5 q)))), (a 8, .inr (3, [.int (nI (σ 0 12)), .int (nI (σ 0 14)), .int (nI (σ 0 16)), .int (nI (σ 0 18)), .int (nI (σ 0 20)), .int (nI (σ 0 22)), .float (fl (σ 0 24))])), (a 9, .inr (3, [.int (nI (σ 0 13)), .int (nI (σ 0 15)), .int (nI (σ 0 17)), .int (nI (σ 0 19 - 1)), .int (nI (σ 0 21)), .int (nI (σ 0 23)), .float (fl (σ 0 25))])), (a 10, .inl (G.2.1, 3, .inl (fun q => nI (σ 7 q))))]) rfl rfl (by decide) nfTwoScribes_State_127 rfl rfl rfl (Nat.le_of_ble_eq_true rfl) rfl dX4_goOnDipping_7 ?_
  refine J_aload_n C rfl dX4_goOnDipping_10 ?_
  refine J_getN C 9 3 in3 rfl rfl (by decide) nfTwoScribes_State_127 rfl dX4_goOnDipping_11 ?_
  refine J_if_le C 18 (by decide) dX4_goOnDipping_14 (fun c14 => ?_) (fun c14 => ?_)
  · skip
    have c14 := cv_le_t (a := (σ 0 19 - 1)) (b := 0) (by omega) (by omega) c14
    refine J_fconst1 C dX4_goOnDipping_18 ?_
    refine J_f (fl_64 : (FP.fconst1 : UInt32) = (fl 64)) ?_
    refine J_aload_n C rfl dX4_goOnDipping_19 ?_
    refine J_getN C 9 6 in3 rfl rfl (by decide) nfTwoScribes_State_130 rfl dX4_goOnDipping_20 ?_
    refine J_fsub C (by rw [fl_sub (a := 64) (b := σ 0 25) (by omega) (by omega)]; exact fl_num (by omega)) dX4_goOnDipping_23 ?_
    refine J_f (fl_sub (a := 64) (b := σ 0 25) (by omega) (by omega) : (FP.fsub (fl 64) (fl (σ 0 25)) : UInt32) = (fl (64 - (σ 0 25)))) ?_
    refine J_fstore_n C [(2, .float (fl (64 - (σ 0 25)))), (0, .ref (a 0)), (1, .ref (a 9))] (by decide) rfl dX4_goOnDipping_24 ?_
    refine J_aload_n C rfl dX4_goOnDipping_25 ?_
    refine J_get C 0 4 in4 rfl rfl (by decide) k125 rfl dX4_goOnDipping_26 ?_
    refine J_fload_n C rfl dX4_goOnDipping_29 ?_
    refine J_fcmp C dX4_goOnDipping_30 ?_
    refine J_i (fl_cmp (a := σ 0 6) (b := 64 - (σ 0 25)) (by omega) (by omega) _ : (Op.cmpValue (FP.fcmp (fl (σ 0 6)) (fl (64 - (σ 0 25)))) .g : Int32) = (if (σ 0 6) < (64 - (σ 0 25)) then -1 else if (σ 0 6) = (64 - (σ 0 25)) then 0 else 1)) ?_
    refine J_if_ge C 41 (by decide) dX4_goOnDipping_31 (fun c31 => ?_) (fun c31 => ?_)
    · skip
      have c31 := fcv_ge_t (a := (σ 0 6)) (b := (64 - (σ 0 25))) c31
      refine J_fload_n C rfl dX4_goOnDipping_41 ?_
      refine J_fstore_n C [(3, .float (fl (64 - (σ 0 25)))), (2, .float (fl (64 - (σ 0 25)))), (0, .ref (a 0)), (1, .ref (a 9))] (by decide) rfl dX4_goOnDipping_42 ?_
      refine J_aload_n C rfl dX4_goOnDipping_43 ?_
      refine J_dup C rfl dX4_goOnDipping_44 ?_
      refine J_getN C 9 6 in3 rfl rfl (by decide) nfTwoScribes_State_130 rfl dX4_goOnDipping_45 ?_
      refine J_fload_n C rfl dX4_goOnDipping_48 ?_
      refine J_fadd C (by rw [fl_add (a := σ 0 25) (b := 64 - (σ 0 25)) (by omega)]; exact fl_num (by omega)) dX4_goOnDipping_49 ?_
      refine J_f (fl_add (a := σ 0 25) (b := 64 - (σ 0 25)) (by omega) : (FP.fadd (fl (σ 0 25)) (fl (64 - (σ 0 25))) : UInt32) = (fl (σ 0 25 + (64 - (σ 0 25))))) ?_
      refine J_putN C 9 6 in3 tyX3 tyX3_ok nmX3 ([(a 0, .inr (4, [.ref (a 1), .ref (a 8), .ref (a 9), .ref (a 10), .float (fl (σ 0 6)), .float (fl (σ 0 7)), .float (fl (σ 0 8)), .int (nI (σ 0 3)), .int (nI (σ 0 9)), .int (nI (σ 0 10)), .int (nI (σ 0 11))])), (a 1, .inr (1, [.ref (a 2), .ref (a 3), .ref (a 4), .ref (a 5), .ref (a 6), .ref (a 7), .int (nI (σ 0 4)), .int (nI (σ 0 5))])), (a 2, .inl (G.2.1, 40, .inl (fun q => nI (d q)))), (a 3, .inl (G.2.1, 40, .inl (fun q => nI (σ 2 q)))), (a 4, .inl (G.2.1, 40, .inl (fun q => nI (σ 3 q)))), (a 5, .inl (G.2.1, 40, .inl (fun q => nI (σ 6 q)))), (a 6, .inl (G.2.1, 40, .inl (fun q => nI (σ 4 q)))), (a 7, .inl (G.2.1, 40, .inl (fun q => nI (σ 5 q)))), (a 8, .inr (3, [.int (nI (σ 0 12)), .int (nI (σ 0 14)), .int (nI (σ 0 16)), .int (nI (σ 0 18)), .int (nI (σ 0 20)), .int (nI (σ 0 22)), .float (fl (σ 0 24))])), (a 9, .inr (3, [.int (nI (σ 0 13)), .int (nI (σ 0 15)), .int (nI (σ 0 17)), .int (nI (σ 0 19 - 1)), .int (nI (σ 0 21)), .int (nI (σ 0 23)), .float (fl (σ 0 25 + (64 - (σ 0 25))))])), (a 10, .inl (G.2.1, 3, .inl (fun q => nI (σ 7 q))))]) rfl rfl (by decide) nfTwoScribes_State_130 rfl rfl rfl (Nat.le_of_ble_eq_true rfl) rfl dX4_goOnDipping_50 ?_
      refine J_aload_n C rfl dX4_goOnDipping_53 ?_
      refine J_dup C rfl dX4_goOnDipping_54 ?_
      refine J_get C 0 4 in4 rfl rfl (by decide) k125 rfl dX4_goOnDipping_55 ?_
      refine J_fload_n C rfl dX4_goOnDipping_58 ?_
      refine J_fsub C (by rw [fl_sub (a := σ 0 6) (b := 64 - (σ 0 25)) (by omega) (by omega)]; exact fl_num (by omega)) dX4_goOnDipping_59 ?_
      refine J_f (fl_sub (a := σ 0 6) (b := 64 - (σ 0 25)) (by omega) (by omega) : (FP.fsub (fl (σ 0 6)) (fl (64 - (σ 0 25))) : UInt32) = (fl (σ 0 6 - (64 - (σ 0 25))))) ?_
      refine J_put C 0 4 in4 tyX4 tyX4_ok nmX4 ([(a 0, .inr (4, [.ref (a 1), .ref (a 8), .ref (a 9), .ref (a 10), .float (fl (σ 0 6 - (64 - (σ 0 25)))), .float (fl (σ 0 7)), .float (fl (σ 0 8)), .int (nI (σ 0 3)), .int (nI (σ 0 9)), .int (nI (σ 0 10)), .int (nI (σ 0 11))])), (a 1, .inr (1, [.ref (a 2), .ref (a 3), .ref (a 4), .ref (a 5), .ref (a 6), .ref (a 7), .int (nI (σ 0 4)), .int (nI (σ 0 5))])), (a 2, .inl (G.2.1, 40, .inl (fun q => nI (d q)))), (a 3, .inl (G.2.1, 40, .inl (fun q => nI (σ 2 q)))), (a 4, .inl (G.2.1, 40, .inl (fun q => nI (σ 3 q)))), (a 5, .inl (G.2.1, 40, .inl (fun q => nI (σ 6 q)))), (a 6, .inl (G.2.1, 40, .inl (fun q => nI (σ 4 q)))), (a 7, .inl (G.2.1, 40, .inl (fun q => nI (σ 5 q)))), (a 8, .inr (3, [.int (nI (σ 0 12)), .int (nI (σ 0 14)), .int (nI (σ 0 16)), .int (nI (σ 0 18)), .int (nI (σ 0 20)), .int (nI (σ 0 22)), .float (fl (σ 0 24))])), (a 9, .inr (3, [.int (nI (σ 0 13)), .int (nI (σ 0 15)), .int (nI (σ 0 17)), .int (nI (σ 0 19 - 1)), .int (nI (σ 0 21)), .int (nI (σ 0 23)), .float (fl (σ 0 25 + (64 - (σ 0 25))))])), (a 10, .inl (G.2.1, 3, .inl (fun q => nI (σ 7 q))))]) rfl rfl (by decide) k125 rfl rfl rfl (Nat.le_of_ble_eq_true rfl) rfl dX4_goOnDipping_60 ?_
      refine J_aload_n C rfl dX4_goOnDipping_63 ?_
      refine J_dup C rfl dX4_goOnDipping_64 ?_
      refine J_getN C 9 4 in3 rfl rfl (by decide) nfTwoScribes_State_148 rfl dX4_goOnDipping_65 ?_
      refine J_iconst C 1 (by decide) dX4_goOnDipping_68 ?_
      refine J_iadd C dX4_goOnDipping_69 ?_
      refine J_i (nI_add (σ 0 21) 1 : ((nI (σ 0 21)) + 1 : Int32) = (nI (σ 0 21 + 1))) ?_
      refine J_putN C 9 4 in3 tyX3 tyX3_ok nmX3 ([(a 0, .inr (4, [.ref (a 1), .ref (a 8), .ref (a 9), .ref (a 10), .float (fl (σ 0 6 - (64 - (σ 0 25)))), .float (fl (σ 0 7)), .float (fl (σ 0 8)), .int (nI (σ 0 3)), .int (nI (σ 0 9)), .int (nI (σ 0 10)), .int (nI (σ 0 11))])), (a 1, .inr (1, [.ref (a 2), .ref (a 3), .ref (a 4), .ref (a 5), .ref (a 6), .ref (a 7), .int (nI (σ 0 4)), .int (nI (σ 0 5))])), (a 2, .inl (G.2.1, 40, .inl (fun q => nI (d q)))), (a 3, .inl (G.2.1, 40, .inl (fun q => nI (σ 2 q)))), (a 4, .inl (G.2.1, 40, .inl (fun q => nI (σ 3 q)))), (a 5, .inl (G.2.1, 40, .inl (fun q => nI (σ 6 q)))), (a 6, .inl (G.2.1, 40, .inl (fun q => nI (σ 4 q)))), (a 7, .inl (G.2.1, 40, .inl (fun q => nI (σ 5 q)))), (a 8, .inr (3, [.int (nI (σ 0 12)), .int (nI (σ 0 14)), .int (nI (σ 0 16)), .int (nI (σ 0 18)), .int (nI (σ 0 20)), .int (nI (σ 0 22)), .float (fl (σ 0 24))])), (a 9, .inr (3, [.int (nI (σ 0 13)), .int (nI (σ 0 15)), .int (nI (σ 0 17)), .int (nI (σ 0 19 - 1)), .int (nI (σ 0 21 + 1)), .int (nI (σ 0 23)), .float (fl (σ 0 25 + (64 - (σ 0 25))))])), (a 10, .inl (G.2.1, 3, .inl (fun q => nI (σ 7 q))))]) rfl rfl (by decide) nfTwoScribes_State_148 rfl rfl rfl (Nat.le_of_ble_eq_true rfl) rfl dX4_goOnDipping_70 ?_
      exact J_vret C hr dX4_goOnDipping_73 () rfl trivial (by rw [dipsF_1, if_pos (by omega), gotF_1, if_neg (by omega)] <;> rfl)
    · skip
      have c31 := fcv_ge_f (a := (σ 0 6)) (b := (64 - (σ 0 25))) c31
      refine J_aload_n C rfl dX4_goOnDipping_34 ?_
      refine J_get C 0 4 in4 rfl rfl (by decide) k125 rfl dX4_goOnDipping_35 ?_
      refine J_goto C 42 (by decide) dX4_goOnDipping_38 ?_
      refine J_fstore_n C [(3, .float (fl (σ 0 6))), (2, .float (fl (64 - (σ 0 25)))), (0, .ref (a 0)), (1, .ref (a 9))] (by decide) rfl dX4_goOnDipping_42 ?_
      refine J_aload_n C rfl dX4_goOnDipping_43 ?_
      refine J_dup C rfl dX4_goOnDipping_44 ?_
      refine J_getN C 9 6 in3 rfl rfl (by decide) nfTwoScribes_State_130 rfl dX4_goOnDipping_45 ?_
      refine J_fload_n C rfl dX4_goOnDipping_48 ?_
      refine J_fadd C (by rw [fl_add (a := σ 0 25) (b := σ 0 6) (by omega)]; exact fl_num (by omega)) dX4_goOnDipping_49 ?_
      refine J_f (fl_add (a := σ 0 25) (b := σ 0 6) (by omega) : (FP.fadd (fl (σ 0 25)) (fl (σ 0 6)) : UInt32) = (fl (σ 0 25 + σ 0 6))) ?_
      refine J_putN C 9 6 in3 tyX3 tyX3_ok nmX3 ([(a 0, .inr (4, [.ref (a 1), .ref (a 8), .ref (a 9), .ref (a 10), .float (fl (σ 0 6)), .float (fl (σ 0 7)), .float (fl (σ 0 8)), .int (nI (σ 0 3)), .int (nI (σ 0 9)), .int (nI (σ 0 10)), .int (nI (σ 0 11))])), (a 1, .inr (1, [.ref (a 2), .ref (a 3), .ref (a 4), .ref (a 5), .ref (a 6), .ref (a 7), .int (nI (σ 0 4)), .int (nI (σ 0 5))])), (a 2, .inl (G.2.1, 40, .inl (fun q => nI (d q)))), (a 3, .inl (G.2.1, 40, .inl (fun q => nI (σ 2 q)))), (a 4, .inl (G.2.1, 40, .inl (fun q => nI (σ 3 q)))), (a 5, .inl (G.2.1, 40, .inl (fun q => nI (σ 6 q)))), (a 6, .inl (G.2.1, 40, .inl (fun q => nI (σ 4 q)))), (a 7, .inl (G.2.1, 40, .inl (fun q => nI (σ 5 q)))), (a 8, .inr (3, [.int (nI (σ 0 12)), .int (nI (σ 0 14)), .int (nI (σ 0 16)), .int (nI (σ 0 18)), .int (nI (σ 0 20)), .int (nI (σ 0 22)), .float (fl (σ 0 24))])), (a 9, .inr (3, [.int (nI (σ 0 13)), .int (nI (σ 0 15)), .int (nI (σ 0 17)), .int (nI (σ 0 19 - 1)), .int (nI (σ 0 21)), .int (nI (σ 0 23)), .float (fl (σ 0 25 + σ 0 6))])), (a 10, .inl (G.2.1, 3, .inl (fun q => nI (σ 7 q))))]) rfl rfl (by decide) nfTwoScribes_State_130 rfl rfl rfl (Nat.le_of_ble_eq_true rfl) rfl dX4_goOnDipping_50 ?_
      refine J_aload_n C rfl dX4_goOnDipping_53 ?_
      refine J_dup C rfl dX4_goOnDipping_54 ?_
      refine J_get C 0 4 in4 rfl rfl (by decide) k125 rfl dX4_goOnDipping_55 ?_
      refine J_fload_n C rfl dX4_goOnDipping_58 ?_
      refine J_fsub C (by rw [fl_sub (a := σ 0 6) (b := σ 0 6) (by omega) (by omega)]; exact fl_num (by omega)) dX4_goOnDipping_59 ?_
      refine J_f (fl_sub (a := σ 0 6) (b := σ 0 6) (by omega) (by omega) : (FP.fsub (fl (σ 0 6)) (fl (σ 0 6)) : UInt32) = (fl (σ 0 6 - (σ 0 6)))) ?_
      refine J_put C 0 4 in4 tyX4 tyX4_ok nmX4 ([(a 0, .inr (4, [.ref (a 1), .ref (a 8), .ref (a 9), .ref (a 10), .float (fl (σ 0 6 - (σ 0 6))), .float (fl (σ 0 7)), .float (fl (σ 0 8)), .int (nI (σ 0 3)), .int (nI (σ 0 9)), .int (nI (σ 0 10)), .int (nI (σ 0 11))])), (a 1, .inr (1, [.ref (a 2), .ref (a 3), .ref (a 4), .ref (a 5), .ref (a 6), .ref (a 7), .int (nI (σ 0 4)), .int (nI (σ 0 5))])), (a 2, .inl (G.2.1, 40, .inl (fun q => nI (d q)))), (a 3, .inl (G.2.1, 40, .inl (fun q => nI (σ 2 q)))), (a 4, .inl (G.2.1, 40, .inl (fun q => nI (σ 3 q)))), (a 5, .inl (G.2.1, 40, .inl (fun q => nI (σ 6 q)))), (a 6, .inl (G.2.1, 40, .inl (fun q => nI (σ 4 q)))), (a 7, .inl (G.2.1, 40, .inl (fun q => nI (σ 5 q)))), (a 8, .inr (3, [.int (nI (σ 0 12)), .int (nI (σ 0 14)), .int (nI (σ 0 16)), .int (nI (σ 0 18)), .int (nI (σ 0 20)), .int (nI (σ 0 22)), .float (fl (σ 0 24))])), (a 9, .inr (3, [.int (nI (σ 0 13)), .int (nI (σ 0 15)), .int (nI (σ 0 17)), .int (nI (σ 0 19 - 1)), .int (nI (σ 0 21)), .int (nI (σ 0 23)), .float (fl (σ 0 25 + σ 0 6))])), (a 10, .inl (G.2.1, 3, .inl (fun q => nI (σ 7 q))))]) rfl rfl (by decide) k125 rfl rfl rfl (Nat.le_of_ble_eq_true rfl) rfl dX4_goOnDipping_60 ?_
      refine J_aload_n C rfl dX4_goOnDipping_63 ?_
      refine J_dup C rfl dX4_goOnDipping_64 ?_
      refine J_getN C 9 4 in3 rfl rfl (by decide) nfTwoScribes_State_148 rfl dX4_goOnDipping_65 ?_
      refine J_iconst C 1 (by decide) dX4_goOnDipping_68 ?_
      refine J_iadd C dX4_goOnDipping_69 ?_
      refine J_i (nI_add (σ 0 21) 1 : ((nI (σ 0 21)) + 1 : Int32) = (nI (σ 0 21 + 1))) ?_
      refine J_putN C 9 4 in3 tyX3 tyX3_ok nmX3 ([(a 0, .inr (4, [.ref (a 1), .ref (a 8), .ref (a 9), .ref (a 10), .float (fl (σ 0 6 - (σ 0 6))), .float (fl (σ 0 7)), .float (fl (σ 0 8)), .int (nI (σ 0 3)), .int (nI (σ 0 9)), .int (nI (σ 0 10)), .int (nI (σ 0 11))])), (a 1, .inr (1, [.ref (a 2), .ref (a 3), .ref (a 4), .ref (a 5), .ref (a 6), .ref (a 7), .int (nI (σ 0 4)), .int (nI (σ 0 5))])), (a 2, .inl (G.2.1, 40, .inl (fun q => nI (d q)))), (a 3, .inl (G.2.1, 40, .inl (fun q => nI (σ 2 q)))), (a 4, .inl (G.2.1, 40, .inl (fun q => nI (σ 3 q)))), (a 5, .inl (G.2.1, 40, .inl (fun q => nI (σ 6 q)))), (a 6, .inl (G.2.1, 40, .inl (fun q => nI (σ 4 q)))), (a 7, .inl (G.2.1, 40, .inl (fun q => nI (σ 5 q)))), (a 8, .inr (3, [.int (nI (σ 0 12)), .int (nI (σ 0 14)), .int (nI (σ 0 16)), .int (nI (σ 0 18)), .int (nI (σ 0 20)), .int (nI (σ 0 22)), .float (fl (σ 0 24))])), (a 9, .inr (3, [.int (nI (σ 0 13)), .int (nI (σ 0 15)), .int (nI (σ 0 17)), .int (nI (σ 0 19 - 1)), .int (nI (σ 0 21 + 1)), .int (nI (σ 0 23)), .float (fl (σ 0 25 + σ 0 6))])), (a 10, .inl (G.2.1, 3, .inl (fun q => nI (σ 7 q))))]) rfl rfl (by decide) nfTwoScribes_State_148 rfl rfl rfl (Nat.le_of_ble_eq_true rfl) rfl dX4_goOnDipping_70 ?_
      exact J_vret C hr dX4_goOnDipping_73 () rfl trivial (by rw [dipsF_1, if_pos (by omega), gotF_1, if_pos (by omega)] <;> rfl)
  · skip
    have c14 := cv_le_f (a := (σ 0 19 - 1)) (b := 0) (by omega) (by omega) c14
    exact J_vret C hr dX4_goOnDipping_17 () rfl trivial (by rw [dipsF_1, if_neg (by omega)] <;> rfl)

set_option maxHeartbeats 4000000 in
set_option maxRecDepth 100000 in
theorem ct_spend0 (l : Launch) (G : GT) (a : Nat → Nat) (σ : AS) (d : Nat → Nat)  (hI : Inv σ) (hD : DOK σ d) (hf : 2 * σ 0 14 < σ 0 4) (hp : letAt σ (σ 0 14) ≤ σ 0 24) : Ct (S := Unit) l G NoX yX4_spendTick (Wy yX4_spendTick cX4_spendTick 7 ((Option.none : Option Jvm.ClassFile.FieldType))) { frames := 2, cells := 0, slots := 0, locals := 46 } [.ref (a 0), .int 0] (stW G a σ d) (fun u => True) (fun u => none) (fun u => stW G a (writesF σ 0 (σ 0 3)) d) := by
  refine Ct.of (by decide) (Nat.le_of_ble_eq_true rfl) (fun p e s m args below meth c C hr hnm hX => ?_)
  have h40 := hI.a
  have hc := hI.c
  have hi := hI.i
  have hl := hI.l
  have hr2 := hI.r
  have hs := hI.s
  have hlt := hI.let (p := σ 0 14) (by omega)
  refine J_aload_n C rfl dX4_spendTick_0 ?_
  refine J_iload_n C rfl dX4_spendTick_1 ?_
  refine J_callV (as := [.int 0]) (rest := []) C (ct_scribeOf0 l G a σ d) (fun u => stW G a σ d) [0, 1, 2, 3, 4, 5, 6, 7, 8, 9, 10] [] 1 k371 k372 k373 k11 k374 rfl (by decide +kernel) ⟨Nat.le_of_ble_eq_true rfl, Nat.le_of_ble_eq_true rfl⟩ ⟨Nat.le_of_ble_eq_true rfl, Nat.le_of_ble_eq_true rfl⟩ dX4_spendTick_2 (Nat.le_of_ble_eq_true rfl) 0 rfl rfl rfl (by decide +kernel) (fun _ => rfl) ([]) rfl (fun _ => rfl) 11 (fun _ => rfl) (by decide +kernel) (by decide +kernel) (fun _ _ => ?_)
  refine J_st (st' := [.ref (a 8)]) rfl ?_
  refine J_astore_n C [(2, .ref (a 8)), (0, .ref (a 0)), (1, .int 0)] (by decide) rfl dX4_spendTick_5 ?_
  refine J_aload_n C rfl dX4_spendTick_6 ?_
  refine J_dup C rfl dX4_spendTick_7 ?_
  refine J_getN C 8 2 in3 rfl rfl (by decide) nfTwoScribes_State_94 rfl dX4_spendTick_8 ?_
  refine J_iconst C 1 (by decide) dX4_spendTick_11 ?_
  refine J_iadd C dX4_spendTick_12 ?_
  refine J_i (nI_add (σ 0 16) 1 : ((nI (σ 0 16)) + 1 : Int32) = (nI (σ 0 16 + 1))) ?_
  refine J_putN C 8 2 in3 tyX3 tyX3_ok nmX3 ([(a 0, .inr (4, [.ref (a 1), .ref (a 8), .ref (a 9), .ref (a 10), .float (fl (σ 0 6)), .float (fl (σ 0 7)), .float (fl (σ 0 8)), .int (nI (σ 0 3)), .int (nI (σ 0 9)), .int (nI (σ 0 10)), .int (nI (σ 0 11))])), (a 1, .inr (1, [.ref (a 2), .ref (a 3), .ref (a 4), .ref (a 5), .ref (a 6), .ref (a 7), .int (nI (σ 0 4)), .int (nI (σ 0 5))])), (a 2, .inl (G.2.1, 40, .inl (fun q => nI (d q)))), (a 3, .inl (G.2.1, 40, .inl (fun q => nI (σ 2 q)))), (a 4, .inl (G.2.1, 40, .inl (fun q => nI (σ 3 q)))), (a 5, .inl (G.2.1, 40, .inl (fun q => nI (σ 6 q)))), (a 6, .inl (G.2.1, 40, .inl (fun q => nI (σ 4 q)))), (a 7, .inl (G.2.1, 40, .inl (fun q => nI (σ 5 q)))), (a 8, .inr (3, [.int (nI (σ 0 12)), .int (nI (σ 0 14)), .int (nI (σ 0 16 + 1)), .int (nI (σ 0 18)), .int (nI (σ 0 20)), .int (nI (σ 0 22)), .float (fl (σ 0 24))])), (a 9, .inr (3, [.int (nI (σ 0 13)), .int (nI (σ 0 15)), .int (nI (σ 0 17)), .int (nI (σ 0 19)), .int (nI (σ 0 21)), .int (nI (σ 0 23)), .float (fl (σ 0 25))])), (a 10, .inl (G.2.1, 3, .inl (fun q => nI (σ 7 q))))]) rfl rfl (by decide) nfTwoScribes_State_94 rfl rfl rfl (Nat.le_of_ble_eq_true rfl) rfl dX4_spendTick_13 ?_
  refine J_aload_n C rfl dX4_spendTick_16 ?_
  refine J_getN C 8 2 in3 rfl rfl (by decide) nfTwoScribes_State_94 rfl dX4_spendTick_17 ?_
  refine J_aload_n C rfl dX4_spendTick_20 ?_
  refine J_getN C 8 0 in3 rfl rfl (by decide) nfTwoScribes_State_151 rfl dX4_spendTick_21 ?_
  refine J_icmp_ge C 28 (by decide) dX4_spendTick_24 (fun c24 => ?_) (fun c24 => ?_)
  · skip
    have c24 := cv_ge_t (a := (σ 0 16 + 1)) (b := (σ 0 12)) (by omega) (by omega) c24
    refine J_aload_n C rfl dX4_spendTick_28 ?_
    refine J_iload_n C rfl dX4_spendTick_29 ?_
    refine J_callV (as := [.int 0]) (rest := []) C (ct_nextPlace0 l G a (up2 σ 0 16 (σ 0 16 + 1)) d h40.1 h40.2.1 hf) (fun u => [(a 0, .inr (4, [.ref (a 1), .ref (a 8), .ref (a 9), .ref (a 10), .float (fl (σ 0 6)), .float (fl (σ 0 7)), .float (fl (σ 0 8)), .int (nI (σ 0 3)), .int (nI (σ 0 9)), .int (nI (σ 0 10)), .int (nI (σ 0 11))])), (a 1, .inr (1, [.ref (a 2), .ref (a 3), .ref (a 4), .ref (a 5), .ref (a 6), .ref (a 7), .int (nI (σ 0 4)), .int (nI (σ 0 5))])), (a 2, .inl (G.2.1, 40, .inl (fun q => nI (d q)))), (a 3, .inl (G.2.1, 40, .inl (fun q => nI (σ 2 q)))), (a 4, .inl (G.2.1, 40, .inl (fun q => nI (σ 3 q)))), (a 5, .inl (G.2.1, 40, .inl (fun q => nI (σ 6 q)))), (a 6, .inl (G.2.1, 40, .inl (fun q => nI (σ 4 q)))), (a 7, .inl (G.2.1, 40, .inl (fun q => nI (σ 5 q)))), (a 8, .inr (3, [.int (nI (σ 0 12)), .int (nI (σ 0 14)), .int (nI (σ 0 16 + 1)), .int (nI (σ 0 18)), .int (nI (σ 0 20)), .int (nI (σ 0 22)), .float (fl (σ 0 24))])), (a 9, .inr (3, [.int (nI (σ 0 13)), .int (nI (σ 0 15)), .int (nI (σ 0 17)), .int (nI (σ 0 19)), .int (nI (σ 0 21)), .int (nI (σ 0 23)), .float (fl (σ 0 25))])), (a 10, .inl (G.2.1, 3, .inl (fun q => nI (σ 7 q))))]) [0, 1, 2, 3, 4, 5, 6, 7, 8, 9, 10] [] 1 k367 k368 k369 k11 k370 rfl (by decide +kernel) ⟨Nat.le_of_ble_eq_true rfl, Nat.le_of_ble_eq_true rfl⟩ ⟨Nat.le_of_ble_eq_true rfl, Nat.le_of_ble_eq_true rfl⟩ dX4_spendTick_30 (Nat.le_of_ble_eq_true rfl) 0 rfl rfl rfl (by decide +kernel) (fun _ => rfl) ([]) rfl (fun _ => rfl) 11 (fun _ => rfl) (by decide +kernel) (by decide +kernel) (fun _ _ => ?_)
    refine J_st (st' := [.int (nI ((up2 σ 0 16 (σ 0 16 + 1)) 0 14))]) rfl ?_
    refine J_istore_n C [(3, .int (nI ((up2 σ 0 16 (σ 0 16 + 1)) 0 14))), (2, .ref (a 8)), (0, .ref (a 0)), (1, .int 0)] (by decide) rfl dX4_spendTick_33 ?_
    refine J_aload_n C rfl dX4_spendTick_34 ?_
    refine J_get C 0 0 in4 rfl rfl (by decide) k117 rfl dX4_spendTick_35 ?_
    refine J_iload_n C rfl dX4_spendTick_38 ?_
    refine J_callV (as := [.int (nI ((up2 σ 0 16 (σ 0 16 + 1)) 0 14))]) (rest := []) C (ct_letterFor l G a σ d (σ 0 14) hI hD (by omega)) (fun u => [(a 0, .inr (4, [.ref (a 1), .ref (a 8), .ref (a 9), .ref (a 10), .float (fl (σ 0 6)), .float (fl (σ 0 7)), .float (fl (σ 0 8)), .int (nI (σ 0 3)), .int (nI (σ 0 9)), .int (nI (σ 0 10)), .int (nI (σ 0 11))])), (a 1, .inr (1, [.ref (a 2), .ref (a 3), .ref (a 4), .ref (a 5), .ref (a 6), .ref (a 7), .int (nI (σ 0 4)), .int (nI (σ 0 5))])), (a 2, .inl (G.2.1, 40, .inl (fun q => nI (d q)))), (a 3, .inl (G.2.1, 40, .inl (fun q => nI (σ 2 q)))), (a 4, .inl (G.2.1, 40, .inl (fun q => nI (σ 3 q)))), (a 5, .inl (G.2.1, 40, .inl (fun q => nI (σ 6 q)))), (a 6, .inl (G.2.1, 40, .inl (fun q => nI (σ 4 q)))), (a 7, .inl (G.2.1, 40, .inl (fun q => nI (σ 5 q)))), (a 8, .inr (3, [.int (nI (σ 0 12)), .int (nI (σ 0 14)), .int (nI (σ 0 16 + 1)), .int (nI (σ 0 18)), .int (nI (σ 0 20)), .int (nI (σ 0 22)), .float (fl (σ 0 24))])), (a 9, .inr (3, [.int (nI (σ 0 13)), .int (nI (σ 0 15)), .int (nI (σ 0 17)), .int (nI (σ 0 19)), .int (nI (σ 0 21)), .int (nI (σ 0 23)), .float (fl (σ 0 25))])), (a 10, .inl (G.2.1, 3, .inl (fun q => nI (σ 7 q))))]) [1, 2, 3, 4, 5, 6, 7] [0, 8, 9, 10] 1 k491 k378 k379 k12 k380 rfl (by decide +kernel) ⟨Nat.le_of_ble_eq_true rfl, Nat.le_of_ble_eq_true rfl⟩ ⟨Nat.le_of_ble_eq_true rfl, Nat.le_of_ble_eq_true rfl⟩ dX4_spendTick_39 (Nat.le_of_ble_eq_true rfl) 1 rfl rfl rfl (by decide +kernel) (fun _ => rfl) ([(a 0, .inr (4, [.ref (a 1), .ref (a 8), .ref (a 9), .ref (a 10), .float (fl (σ 0 6)), .float (fl (σ 0 7)), .float (fl (σ 0 8)), .int (nI (σ 0 3)), .int (nI (σ 0 9)), .int (nI (σ 0 10)), .int (nI (σ 0 11))])), (a 8, .inr (3, [.int (nI (σ 0 12)), .int (nI (σ 0 14)), .int (nI (σ 0 16 + 1)), .int (nI (σ 0 18)), .int (nI (σ 0 20)), .int (nI (σ 0 22)), .float (fl (σ 0 24))])), (a 9, .inr (3, [.int (nI (σ 0 13)), .int (nI (σ 0 15)), .int (nI (σ 0 17)), .int (nI (σ 0 19)), .int (nI (σ 0 21)), .int (nI (σ 0 23)), .float (fl (σ 0 25))])), (a 10, .inl (G.2.1, 3, .inl (fun q => nI (σ 7 q))))]) rfl (fun _ => rfl) 11 (fun _ => rfl) (by decide +kernel) (by decide +kernel) (fun _ _ => ?_)
    refine J_st (st' := [.int (nI (letAt σ (σ 0 14)))]) rfl ?_
    refine J_istore C [(4, .int (nI (letAt σ (σ 0 14)))), (3, .int (nI ((up2 σ 0 16 (σ 0 16 + 1)) 0 14))), (2, .ref (a 8)), (0, .ref (a 0)), (1, .int 0)] (by decide) rfl dX4_spendTick_42 ?_
    refine J_iload C rfl dX4_spendTick_44 ?_
    refine J_callSN (as := [.int (nI (letAt σ (σ 0 14)))]) (rest := []) C (ct_inkFor l G (letAt σ (σ 0 14)) (by omega)) (fun u => [(a 0, .inr (4, [.ref (a 1), .ref (a 8), .ref (a 9), .ref (a 10), .float (fl (σ 0 6)), .float (fl (σ 0 7)), .float (fl (σ 0 8)), .int (nI (σ 0 3)), .int (nI (σ 0 9)), .int (nI (σ 0 10)), .int (nI (σ 0 11))])), (a 1, .inr (1, [.ref (a 2), .ref (a 3), .ref (a 4), .ref (a 5), .ref (a 6), .ref (a 7), .int (nI (σ 0 4)), .int (nI (σ 0 5))])), (a 2, .inl (G.2.1, 40, .inl (fun q => nI (d q)))), (a 3, .inl (G.2.1, 40, .inl (fun q => nI (σ 2 q)))), (a 4, .inl (G.2.1, 40, .inl (fun q => nI (σ 3 q)))), (a 5, .inl (G.2.1, 40, .inl (fun q => nI (σ 6 q)))), (a 6, .inl (G.2.1, 40, .inl (fun q => nI (σ 4 q)))), (a 7, .inl (G.2.1, 40, .inl (fun q => nI (σ 5 q)))), (a 8, .inr (3, [.int (nI (σ 0 12)), .int (nI (σ 0 14)), .int (nI (σ 0 16 + 1)), .int (nI (σ 0 18)), .int (nI (σ 0 20)), .int (nI (σ 0 22)), .float (fl (σ 0 24))])), (a 9, .inr (3, [.int (nI (σ 0 13)), .int (nI (σ 0 15)), .int (nI (σ 0 17)), .int (nI (σ 0 19)), .int (nI (σ 0 21)), .int (nI (σ 0 23)), .float (fl (σ 0 25))])), (a 10, .inl (G.2.1, 3, .inl (fun q => nI (σ 7 q))))]) [] [0, 1, 2, 3, 4, 5, 6, 7, 8, 9, 10] 1 nmTwoScribes_State_119 k450 k10 k451 rfl (by decide +kernel) ⟨Nat.le_of_ble_eq_true rfl, Nat.le_of_ble_eq_true rfl⟩ ⟨Nat.le_of_ble_eq_true rfl, Nat.le_of_ble_eq_true rfl⟩ dX4_spendTick_46 (Nat.le_of_ble_eq_true rfl) rfl (by decide +kernel) (fun _ => rfl) ([(a 0, .inr (4, [.ref (a 1), .ref (a 8), .ref (a 9), .ref (a 10), .float (fl (σ 0 6)), .float (fl (σ 0 7)), .float (fl (σ 0 8)), .int (nI (σ 0 3)), .int (nI (σ 0 9)), .int (nI (σ 0 10)), .int (nI (σ 0 11))])), (a 1, .inr (1, [.ref (a 2), .ref (a 3), .ref (a 4), .ref (a 5), .ref (a 6), .ref (a 7), .int (nI (σ 0 4)), .int (nI (σ 0 5))])), (a 2, .inl (G.2.1, 40, .inl (fun q => nI (d q)))), (a 3, .inl (G.2.1, 40, .inl (fun q => nI (σ 2 q)))), (a 4, .inl (G.2.1, 40, .inl (fun q => nI (σ 3 q)))), (a 5, .inl (G.2.1, 40, .inl (fun q => nI (σ 6 q)))), (a 6, .inl (G.2.1, 40, .inl (fun q => nI (σ 4 q)))), (a 7, .inl (G.2.1, 40, .inl (fun q => nI (σ 5 q)))), (a 8, .inr (3, [.int (nI (σ 0 12)), .int (nI (σ 0 14)), .int (nI (σ 0 16 + 1)), .int (nI (σ 0 18)), .int (nI (σ 0 20)), .int (nI (σ 0 22)), .float (fl (σ 0 24))])), (a 9, .inr (3, [.int (nI (σ 0 13)), .int (nI (σ 0 15)), .int (nI (σ 0 17)), .int (nI (σ 0 19)), .int (nI (σ 0 21)), .int (nI (σ 0 23)), .float (fl (σ 0 25))])), (a 10, .inl (G.2.1, 3, .inl (fun q => nI (σ 7 q))))]) rfl (fun _ => rfl) 11 (fun _ => rfl) (by decide +kernel) (by decide +kernel) (fun _ _ => ?_)
    refine J_st (st' := [.float (fl (letAt σ (σ 0 14)))]) rfl ?_
    refine J_fstore C [(5, .float (fl (letAt σ (σ 0 14)))), (4, .int (nI (letAt σ (σ 0 14)))), (3, .int (nI ((up2 σ 0 16 (σ 0 16 + 1)) 0 14))), (2, .ref (a 8)), (0, .ref (a 0)), (1, .int 0)] (by decide) rfl dX4_spendTick_49 ?_
    refine J_aload_n C rfl dX4_spendTick_51 ?_
    refine J_getN C 8 6 in3 rfl rfl (by decide) nfTwoScribes_State_130 rfl dX4_spendTick_52 ?_
    refine J_aload_n C rfl dX4_spendTick_55 ?_
    refine J_get C 0 3 in4 rfl rfl (by decide) k123 rfl dX4_spendTick_56 ?_
    refine J_iconst C 1 (by decide) dX4_spendTick_59 ?_
    refine J_callSN (as := [.ref (a 10), .int 1]) (rest := [.float (fl (σ 0 24))]) C (ct_at l G (a 10) 3 (fun q => nI (σ 7 q)) 1 (by omega) (by decide)) (fun u => [(a 0, .inr (4, [.ref (a 1), .ref (a 8), .ref (a 9), .ref (a 10), .float (fl (σ 0 6)), .float (fl (σ 0 7)), .float (fl (σ 0 8)), .int (nI (σ 0 3)), .int (nI (σ 0 9)), .int (nI (σ 0 10)), .int (nI (σ 0 11))])), (a 1, .inr (1, [.ref (a 2), .ref (a 3), .ref (a 4), .ref (a 5), .ref (a 6), .ref (a 7), .int (nI (σ 0 4)), .int (nI (σ 0 5))])), (a 2, .inl (G.2.1, 40, .inl (fun q => nI (d q)))), (a 3, .inl (G.2.1, 40, .inl (fun q => nI (σ 2 q)))), (a 4, .inl (G.2.1, 40, .inl (fun q => nI (σ 3 q)))), (a 5, .inl (G.2.1, 40, .inl (fun q => nI (σ 6 q)))), (a 6, .inl (G.2.1, 40, .inl (fun q => nI (σ 4 q)))), (a 7, .inl (G.2.1, 40, .inl (fun q => nI (σ 5 q)))), (a 8, .inr (3, [.int (nI (σ 0 12)), .int (nI (σ 0 14)), .int (nI (σ 0 16 + 1)), .int (nI (σ 0 18)), .int (nI (σ 0 20)), .int (nI (σ 0 22)), .float (fl (σ 0 24))])), (a 9, .inr (3, [.int (nI (σ 0 13)), .int (nI (σ 0 15)), .int (nI (σ 0 17)), .int (nI (σ 0 19)), .int (nI (σ 0 21)), .int (nI (σ 0 23)), .float (fl (σ 0 25))])), (a 10, .inl (G.2.1, 3, .inl (fun q => nI (σ 7 q))))]) [10] [0, 1, 2, 3, 4, 5, 6, 7, 8, 9] 2 nmTwoScribes_State_100 k340 k10 k341 rfl (by decide +kernel) ⟨Nat.le_of_ble_eq_true rfl, Nat.le_of_ble_eq_true rfl⟩ ⟨Nat.le_of_ble_eq_true rfl, Nat.le_of_ble_eq_true rfl⟩ dX4_spendTick_60 (Nat.le_of_ble_eq_true rfl) rfl (by decide +kernel) (fun _ => rfl) ([(a 0, .inr (4, [.ref (a 1), .ref (a 8), .ref (a 9), .ref (a 10), .float (fl (σ 0 6)), .float (fl (σ 0 7)), .float (fl (σ 0 8)), .int (nI (σ 0 3)), .int (nI (σ 0 9)), .int (nI (σ 0 10)), .int (nI (σ 0 11))])), (a 1, .inr (1, [.ref (a 2), .ref (a 3), .ref (a 4), .ref (a 5), .ref (a 6), .ref (a 7), .int (nI (σ 0 4)), .int (nI (σ 0 5))])), (a 2, .inl (G.2.1, 40, .inl (fun q => nI (d q)))), (a 3, .inl (G.2.1, 40, .inl (fun q => nI (σ 2 q)))), (a 4, .inl (G.2.1, 40, .inl (fun q => nI (σ 3 q)))), (a 5, .inl (G.2.1, 40, .inl (fun q => nI (σ 6 q)))), (a 6, .inl (G.2.1, 40, .inl (fun q => nI (σ 4 q)))), (a 7, .inl (G.2.1, 40, .inl (fun q => nI (σ 5 q)))), (a 8, .inr (3, [.int (nI (σ 0 12)), .int (nI (σ 0 14)), .int (nI (σ 0 16 + 1)), .int (nI (σ 0 18)), .int (nI (σ 0 20)), .int (nI (σ 0 22)), .float (fl (σ 0 24))])), (a 9, .inr (3, [.int (nI (σ 0 13)), .int (nI (σ 0 15)), .int (nI (σ 0 17)), .int (nI (σ 0 19)), .int (nI (σ 0 21)), .int (nI (σ 0 23)), .float (fl (σ 0 25))]))]) rfl (fun _ => rfl) 11 (fun _ => rfl) (by decide +kernel) (by decide +kernel) (fun _ _ => ?_)
    refine J_st (st' := [.int (nI (σ 7 1)), .float (fl (σ 0 24))]) rfl ?_
    refine J_i2f C dX4_spendTick_63 ?_
    refine J_ldcf C k496 dX4_spendTick_64 ?_
    refine J_fdiv C (by rw [fl_8 (n := σ 7 1) (by omega)]; exact fl_num (by omega)) dX4_spendTick_66 ?_
    refine J_f (fl_8 (n := σ 7 1) (by omega) : (FP.fdiv (FP.i2f (nI (σ 7 1))) 1090519040 : UInt32) = (fl (8 * (σ 7 1)))) ?_
    refine J_fcmp C dX4_spendTick_67 ?_
    refine J_i (fl_cmp (a := σ 0 24) (b := 8 * (σ 7 1)) (by omega) (by omega) _ : (Op.cmpValue (FP.fcmp (fl (σ 0 24)) (fl (8 * (σ 7 1)))) .l : Int32) = (if (σ 0 24) < (8 * (σ 7 1)) then -1 else if (σ 0 24) = (8 * (σ 7 1)) then 0 else 1)) ?_
    refine J_if_le C 75 (by decide) dX4_spendTick_68 (fun c68 => ?_) (fun c68 => ?_)
    · skip
      have c68 := fcv_le_t (a := (σ 0 24)) (b := (8 * (σ 7 1))) c68
      refine J_iconst C 0 (by decide) dX4_spendTick_75 ?_
      refine J_istore C [(6, .int 0), (5, .float (fl (letAt σ (σ 0 14)))), (4, .int (nI (letAt σ (σ 0 14)))), (3, .int (nI ((up2 σ 0 16 (σ 0 16 + 1)) 0 14))), (2, .ref (a 8)), (0, .ref (a 0)), (1, .int 0)] (by decide) rfl dX4_spendTick_76 ?_
      refine J_aload_n C rfl dX4_spendTick_78 ?_
      refine J_get C 0 0 in4 rfl rfl (by decide) k117 rfl dX4_spendTick_79 ?_
      refine J_iload_n C rfl dX4_spendTick_82 ?_
      refine J_iload C rfl dX4_spendTick_83 ?_
      refine J_iload C rfl dX4_spendTick_85 ?_
      refine J_aload_n C rfl dX4_spendTick_87 ?_
      refine J_get C 0 7 in4 rfl rfl (by decide) k131 rfl dX4_spendTick_88 ?_
      refine J_callV (as := [.int (nI ((up2 σ 0 16 (σ 0 16 + 1)) 0 14)), .int (nI (letAt σ (σ 0 14))), .int 0, .int (nI (σ 0 3))]) (rest := []) C (ct_write l G a σ d (σ 0 14) (letAt σ (σ 0 14)) 0 (σ 0 3) (by omega) (by decide)) (fun u => [(a 0, .inr (4, [.ref (a 1), .ref (a 8), .ref (a 9), .ref (a 10), .float (fl (σ 0 6)), .float (fl (σ 0 7)), .float (fl (σ 0 8)), .int (nI (σ 0 3)), .int (nI (σ 0 9)), .int (nI (σ 0 10)), .int (nI (σ 0 11))])), (a 1, .inr (1, [.ref (a 2), .ref (a 3), .ref (a 4), .ref (a 5), .ref (a 6), .ref (a 7), .int (nI (σ 0 4)), .int (nI (σ 0 5))])), (a 2, .inl (G.2.1, 40, .inl (fun q => nI (d q)))), (a 3, .inl (G.2.1, 40, .inl (fun q => nI (σ 2 q)))), (a 4, .inl (G.2.1, 40, .inl (fun q => nI (if q = σ 0 14 then letAt σ (σ 0 14) else σ 3 q)))), (a 5, .inl (G.2.1, 40, .inl (fun q => nI (if q = σ 0 14 then σ 0 3 else σ 6 q)))), (a 6, .inl (G.2.1, 40, .inl (fun q => nI (if q = σ 0 14 then 0 else σ 4 q)))), (a 7, .inl (G.2.1, 40, .inl (fun q => nI (σ 5 q)))), (a 8, .inr (3, [.int (nI (σ 0 12)), .int (nI (σ 0 14)), .int (nI (σ 0 16 + 1)), .int (nI (σ 0 18)), .int (nI (σ 0 20)), .int (nI (σ 0 22)), .float (fl (σ 0 24))])), (a 9, .inr (3, [.int (nI (σ 0 13)), .int (nI (σ 0 15)), .int (nI (σ 0 17)), .int (nI (σ 0 19)), .int (nI (σ 0 21)), .int (nI (σ 0 23)), .float (fl (σ 0 25))])), (a 10, .inl (G.2.1, 3, .inl (fun q => nI (σ 7 q))))]) [1, 2, 3, 4, 5, 6, 7] [0, 8, 9, 10] 4 k497 k498 k499 k12 k500 rfl (by decide +kernel) ⟨Nat.le_of_ble_eq_true rfl, Nat.le_of_ble_eq_true rfl⟩ ⟨Nat.le_of_ble_eq_true rfl, Nat.le_of_ble_eq_true rfl⟩ dX4_spendTick_91 (Nat.le_of_ble_eq_true rfl) 1 rfl rfl rfl (by decide +kernel) (fun _ => rfl) ([(a 0, .inr (4, [.ref (a 1), .ref (a 8), .ref (a 9), .ref (a 10), .float (fl (σ 0 6)), .float (fl (σ 0 7)), .float (fl (σ 0 8)), .int (nI (σ 0 3)), .int (nI (σ 0 9)), .int (nI (σ 0 10)), .int (nI (σ 0 11))])), (a 8, .inr (3, [.int (nI (σ 0 12)), .int (nI (σ 0 14)), .int (nI (σ 0 16 + 1)), .int (nI (σ 0 18)), .int (nI (σ 0 20)), .int (nI (σ 0 22)), .float (fl (σ 0 24))])), (a 9, .inr (3, [.int (nI (σ 0 13)), .int (nI (σ 0 15)), .int (nI (σ 0 17)), .int (nI (σ 0 19)), .int (nI (σ 0 21)), .int (nI (σ 0 23)), .float (fl (σ 0 25))])), (a 10, .inl (G.2.1, 3, .inl (fun q => nI (σ 7 q))))]) rfl (fun _ => rfl) 11 (fun _ => rfl) (by decide +kernel) (by decide +kernel) (fun _ _ => ?_)
      refine J_st (st' := []) rfl ?_
      refine J_aload_n C rfl dX4_spendTick_94 ?_
      refine J_dup C rfl dX4_spendTick_95 ?_
      refine J_getN C 8 6 in3 rfl rfl (by decide) nfTwoScribes_State_130 rfl dX4_spendTick_96 ?_
      refine J_fload C rfl dX4_spendTick_99 ?_
      refine J_fsub C (by rw [fl_sub (a := σ 0 24) (b := letAt σ (σ 0 14)) (by omega) (by omega)]; exact fl_num (by omega)) dX4_spendTick_101 ?_
      refine J_f (fl_sub (a := σ 0 24) (b := letAt σ (σ 0 14)) (by omega) (by omega) : (FP.fsub (fl (σ 0 24)) (fl (letAt σ (σ 0 14))) : UInt32) = (fl (σ 0 24 - (letAt σ (σ 0 14))))) ?_
      refine J_putN C 8 6 in3 tyX3 tyX3_ok nmX3 ([(a 0, .inr (4, [.ref (a 1), .ref (a 8), .ref (a 9), .ref (a 10), .float (fl (σ 0 6)), .float (fl (σ 0 7)), .float (fl (σ 0 8)), .int (nI (σ 0 3)), .int (nI (σ 0 9)), .int (nI (σ 0 10)), .int (nI (σ 0 11))])), (a 1, .inr (1, [.ref (a 2), .ref (a 3), .ref (a 4), .ref (a 5), .ref (a 6), .ref (a 7), .int (nI (σ 0 4)), .int (nI (σ 0 5))])), (a 2, .inl (G.2.1, 40, .inl (fun q => nI (d q)))), (a 3, .inl (G.2.1, 40, .inl (fun q => nI (σ 2 q)))), (a 4, .inl (G.2.1, 40, .inl (fun q => nI (if q = σ 0 14 then letAt σ (σ 0 14) else σ 3 q)))), (a 5, .inl (G.2.1, 40, .inl (fun q => nI (if q = σ 0 14 then σ 0 3 else σ 6 q)))), (a 6, .inl (G.2.1, 40, .inl (fun q => nI (if q = σ 0 14 then 0 else σ 4 q)))), (a 7, .inl (G.2.1, 40, .inl (fun q => nI (σ 5 q)))), (a 8, .inr (3, [.int (nI (σ 0 12)), .int (nI (σ 0 14)), .int (nI (σ 0 16 + 1)), .int (nI (σ 0 18)), .int (nI (σ 0 20)), .int (nI (σ 0 22)), .float (fl (σ 0 24 - (letAt σ (σ 0 14))))])), (a 9, .inr (3, [.int (nI (σ 0 13)), .int (nI (σ 0 15)), .int (nI (σ 0 17)), .int (nI (σ 0 19)), .int (nI (σ 0 21)), .int (nI (σ 0 23)), .float (fl (σ 0 25))])), (a 10, .inl (G.2.1, 3, .inl (fun q => nI (σ 7 q))))]) rfl rfl (by decide) nfTwoScribes_State_130 rfl rfl rfl (Nat.le_of_ble_eq_true rfl) rfl dX4_spendTick_102 ?_
      refine J_aload_n C rfl dX4_spendTick_105 ?_
      refine J_dup C rfl dX4_spendTick_106 ?_
      refine J_get C 0 5 in4 rfl rfl (by decide) k127 rfl dX4_spendTick_107 ?_
      refine J_fload C rfl dX4_spendTick_110 ?_
      refine J_fadd C (by rw [fl_add (a := σ 0 7) (b := letAt σ (σ 0 14)) (by omega)]; exact fl_num (by omega)) dX4_spendTick_112 ?_
      refine J_f (fl_add (a := σ 0 7) (b := letAt σ (σ 0 14)) (by omega) : (FP.fadd (fl (σ 0 7)) (fl (letAt σ (σ 0 14))) : UInt32) = (fl (σ 0 7 + (letAt σ (σ 0 14))))) ?_
      refine J_put C 0 5 in4 tyX4 tyX4_ok nmX4 ([(a 0, .inr (4, [.ref (a 1), .ref (a 8), .ref (a 9), .ref (a 10), .float (fl (σ 0 6)), .float (fl (σ 0 7 + (letAt σ (σ 0 14)))), .float (fl (σ 0 8)), .int (nI (σ 0 3)), .int (nI (σ 0 9)), .int (nI (σ 0 10)), .int (nI (σ 0 11))])), (a 1, .inr (1, [.ref (a 2), .ref (a 3), .ref (a 4), .ref (a 5), .ref (a 6), .ref (a 7), .int (nI (σ 0 4)), .int (nI (σ 0 5))])), (a 2, .inl (G.2.1, 40, .inl (fun q => nI (d q)))), (a 3, .inl (G.2.1, 40, .inl (fun q => nI (σ 2 q)))), (a 4, .inl (G.2.1, 40, .inl (fun q => nI (if q = σ 0 14 then letAt σ (σ 0 14) else σ 3 q)))), (a 5, .inl (G.2.1, 40, .inl (fun q => nI (if q = σ 0 14 then σ 0 3 else σ 6 q)))), (a 6, .inl (G.2.1, 40, .inl (fun q => nI (if q = σ 0 14 then 0 else σ 4 q)))), (a 7, .inl (G.2.1, 40, .inl (fun q => nI (σ 5 q)))), (a 8, .inr (3, [.int (nI (σ 0 12)), .int (nI (σ 0 14)), .int (nI (σ 0 16 + 1)), .int (nI (σ 0 18)), .int (nI (σ 0 20)), .int (nI (σ 0 22)), .float (fl (σ 0 24 - (letAt σ (σ 0 14))))])), (a 9, .inr (3, [.int (nI (σ 0 13)), .int (nI (σ 0 15)), .int (nI (σ 0 17)), .int (nI (σ 0 19)), .int (nI (σ 0 21)), .int (nI (σ 0 23)), .float (fl (σ 0 25))])), (a 10, .inl (G.2.1, 3, .inl (fun q => nI (σ 7 q))))]) rfl rfl (by decide) k127 rfl rfl rfl (Nat.le_of_ble_eq_true rfl) rfl dX4_spendTick_113 ?_
      refine J_aload_n C rfl dX4_spendTick_116 ?_
      refine J_iconst C 0 (by decide) dX4_spendTick_117 ?_
      refine J_putN C 8 2 in3 tyX3 tyX3_ok nmX3 ([(a 0, .inr (4, [.ref (a 1), .ref (a 8), .ref (a 9), .ref (a 10), .float (fl (σ 0 6)), .float (fl (σ 0 7 + (letAt σ (σ 0 14)))), .float (fl (σ 0 8)), .int (nI (σ 0 3)), .int (nI (σ 0 9)), .int (nI (σ 0 10)), .int (nI (σ 0 11))])), (a 1, .inr (1, [.ref (a 2), .ref (a 3), .ref (a 4), .ref (a 5), .ref (a 6), .ref (a 7), .int (nI (σ 0 4)), .int (nI (σ 0 5))])), (a 2, .inl (G.2.1, 40, .inl (fun q => nI (d q)))), (a 3, .inl (G.2.1, 40, .inl (fun q => nI (σ 2 q)))), (a 4, .inl (G.2.1, 40, .inl (fun q => nI (if q = σ 0 14 then letAt σ (σ 0 14) else σ 3 q)))), (a 5, .inl (G.2.1, 40, .inl (fun q => nI (if q = σ 0 14 then σ 0 3 else σ 6 q)))), (a 6, .inl (G.2.1, 40, .inl (fun q => nI (if q = σ 0 14 then 0 else σ 4 q)))), (a 7, .inl (G.2.1, 40, .inl (fun q => nI (σ 5 q)))), (a 8, .inr (3, [.int (nI (σ 0 12)), .int (nI (σ 0 14)), .int 0, .int (nI (σ 0 18)), .int (nI (σ 0 20)), .int (nI (σ 0 22)), .float (fl (σ 0 24 - (letAt σ (σ 0 14))))])), (a 9, .inr (3, [.int (nI (σ 0 13)), .int (nI (σ 0 15)), .int (nI (σ 0 17)), .int (nI (σ 0 19)), .int (nI (σ 0 21)), .int (nI (σ 0 23)), .float (fl (σ 0 25))])), (a 10, .inl (G.2.1, 3, .inl (fun q => nI (σ 7 q))))]) rfl rfl (by decide) nfTwoScribes_State_94 rfl rfl rfl (Nat.le_of_ble_eq_true rfl) rfl dX4_spendTick_118 ?_
      refine J_aload_n C rfl dX4_spendTick_121 ?_
      refine J_dup C rfl dX4_spendTick_122 ?_
      refine J_getN C 8 1 in3 rfl rfl (by decide) nfTwoScribes_State_74 rfl dX4_spendTick_123 ?_
      refine J_iconst C 1 (by decide) dX4_spendTick_126 ?_
      refine J_iadd C dX4_spendTick_127 ?_
      refine J_i (nI_add (σ 0 14) 1 : ((nI (σ 0 14)) + 1 : Int32) = (nI (σ 0 14 + 1))) ?_
      refine J_putN C 8 1 in3 tyX3 tyX3_ok nmX3 ([(a 0, .inr (4, [.ref (a 1), .ref (a 8), .ref (a 9), .ref (a 10), .float (fl (σ 0 6)), .float (fl (σ 0 7 + (letAt σ (σ 0 14)))), .float (fl (σ 0 8)), .int (nI (σ 0 3)), .int (nI (σ 0 9)), .int (nI (σ 0 10)), .int (nI (σ 0 11))])), (a 1, .inr (1, [.ref (a 2), .ref (a 3), .ref (a 4), .ref (a 5), .ref (a 6), .ref (a 7), .int (nI (σ 0 4)), .int (nI (σ 0 5))])), (a 2, .inl (G.2.1, 40, .inl (fun q => nI (d q)))), (a 3, .inl (G.2.1, 40, .inl (fun q => nI (σ 2 q)))), (a 4, .inl (G.2.1, 40, .inl (fun q => nI (if q = σ 0 14 then letAt σ (σ 0 14) else σ 3 q)))), (a 5, .inl (G.2.1, 40, .inl (fun q => nI (if q = σ 0 14 then σ 0 3 else σ 6 q)))), (a 6, .inl (G.2.1, 40, .inl (fun q => nI (if q = σ 0 14 then 0 else σ 4 q)))), (a 7, .inl (G.2.1, 40, .inl (fun q => nI (σ 5 q)))), (a 8, .inr (3, [.int (nI (σ 0 12)), .int (nI (σ 0 14 + 1)), .int 0, .int (nI (σ 0 18)), .int (nI (σ 0 20)), .int (nI (σ 0 22)), .float (fl (σ 0 24 - (letAt σ (σ 0 14))))])), (a 9, .inr (3, [.int (nI (σ 0 13)), .int (nI (σ 0 15)), .int (nI (σ 0 17)), .int (nI (σ 0 19)), .int (nI (σ 0 21)), .int (nI (σ 0 23)), .float (fl (σ 0 25))])), (a 10, .inl (G.2.1, 3, .inl (fun q => nI (σ 7 q))))]) rfl rfl (by decide) nfTwoScribes_State_74 rfl rfl rfl (Nat.le_of_ble_eq_true rfl) rfl dX4_spendTick_128 ?_
      refine J_aload_n C rfl dX4_spendTick_131 ?_
      refine J_dup C rfl dX4_spendTick_132 ?_
      refine J_get C 0 9 in4 rfl rfl (by decide) k135 rfl dX4_spendTick_133 ?_
      refine J_iconst C 1 (by decide) dX4_spendTick_136 ?_
      refine J_iadd C dX4_spendTick_137 ?_
      refine J_i (nI_add (σ 0 10) 1 : ((nI (σ 0 10)) + 1 : Int32) = (nI (σ 0 10 + 1))) ?_
      refine J_put C 0 9 in4 tyX4 tyX4_ok nmX4 ([(a 0, .inr (4, [.ref (a 1), .ref (a 8), .ref (a 9), .ref (a 10), .float (fl (σ 0 6)), .float (fl (σ 0 7 + (letAt σ (σ 0 14)))), .float (fl (σ 0 8)), .int (nI (σ 0 3)), .int (nI (σ 0 9)), .int (nI (σ 0 10 + 1)), .int (nI (σ 0 11))])), (a 1, .inr (1, [.ref (a 2), .ref (a 3), .ref (a 4), .ref (a 5), .ref (a 6), .ref (a 7), .int (nI (σ 0 4)), .int (nI (σ 0 5))])), (a 2, .inl (G.2.1, 40, .inl (fun q => nI (d q)))), (a 3, .inl (G.2.1, 40, .inl (fun q => nI (σ 2 q)))), (a 4, .inl (G.2.1, 40, .inl (fun q => nI (if q = σ 0 14 then letAt σ (σ 0 14) else σ 3 q)))), (a 5, .inl (G.2.1, 40, .inl (fun q => nI (if q = σ 0 14 then σ 0 3 else σ 6 q)))), (a 6, .inl (G.2.1, 40, .inl (fun q => nI (if q = σ 0 14 then 0 else σ 4 q)))), (a 7, .inl (G.2.1, 40, .inl (fun q => nI (σ 5 q)))), (a 8, .inr (3, [.int (nI (σ 0 12)), .int (nI (σ 0 14 + 1)), .int 0, .int (nI (σ 0 18)), .int (nI (σ 0 20)), .int (nI (σ 0 22)), .float (fl (σ 0 24 - (letAt σ (σ 0 14))))])), (a 9, .inr (3, [.int (nI (σ 0 13)), .int (nI (σ 0 15)), .int (nI (σ 0 17)), .int (nI (σ 0 19)), .int (nI (σ 0 21)), .int (nI (σ 0 23)), .float (fl (σ 0 25))])), (a 10, .inl (G.2.1, 3, .inl (fun q => nI (σ 7 q))))]) rfl rfl (by decide) k135 rfl rfl rfl (Nat.le_of_ble_eq_true rfl) rfl dX4_spendTick_138 ?_
      exact J_vret C hr dX4_spendTick_141 () rfl trivial (by rw [writesF_0, if_neg (by omega), wroteF_0, blotN_0, if_neg (by omega)] <;> rfl)
    · skip
      have c68 := fcv_le_f (a := (σ 0 24)) (b := (8 * (σ 7 1))) c68
      refine J_iconst C 1 (by decide) dX4_spendTick_71 ?_
      refine J_goto C 76 (by decide) dX4_spendTick_72 ?_
      refine J_istore C [(6, .int 1), (5, .float (fl (letAt σ (σ 0 14)))), (4, .int (nI (letAt σ (σ 0 14)))), (3, .int (nI ((up2 σ 0 16 (σ 0 16 + 1)) 0 14))), (2, .ref (a 8)), (0, .ref (a 0)), (1, .int 0)] (by decide) rfl dX4_spendTick_76 ?_
      refine J_aload_n C rfl dX4_spendTick_78 ?_
      refine J_get C 0 0 in4 rfl rfl (by decide) k117 rfl dX4_spendTick_79 ?_
      refine J_iload_n C rfl dX4_spendTick_82 ?_
      refine J_iload C rfl dX4_spendTick_83 ?_
      refine J_iload C rfl dX4_spendTick_85 ?_
      refine J_aload_n C rfl dX4_spendTick_87 ?_
      refine J_get C 0 7 in4 rfl rfl (by decide) k131 rfl dX4_spendTick_88 ?_
      refine J_callV (as := [.int (nI ((up2 σ 0 16 (σ 0 16 + 1)) 0 14)), .int (nI (letAt σ (σ 0 14))), .int 1, .int (nI (σ 0 3))]) (rest := []) C (ct_write l G a σ d (σ 0 14) (letAt σ (σ 0 14)) 1 (σ 0 3) (by omega) (by decide)) (fun u => [(a 0, .inr (4, [.ref (a 1), .ref (a 8), .ref (a 9), .ref (a 10), .float (fl (σ 0 6)), .float (fl (σ 0 7)), .float (fl (σ 0 8)), .int (nI (σ 0 3)), .int (nI (σ 0 9)), .int (nI (σ 0 10)), .int (nI (σ 0 11))])), (a 1, .inr (1, [.ref (a 2), .ref (a 3), .ref (a 4), .ref (a 5), .ref (a 6), .ref (a 7), .int (nI (σ 0 4)), .int (nI (σ 0 5))])), (a 2, .inl (G.2.1, 40, .inl (fun q => nI (d q)))), (a 3, .inl (G.2.1, 40, .inl (fun q => nI (σ 2 q)))), (a 4, .inl (G.2.1, 40, .inl (fun q => nI (if q = σ 0 14 then letAt σ (σ 0 14) else σ 3 q)))), (a 5, .inl (G.2.1, 40, .inl (fun q => nI (if q = σ 0 14 then σ 0 3 else σ 6 q)))), (a 6, .inl (G.2.1, 40, .inl (fun q => nI (if q = σ 0 14 then 1 else σ 4 q)))), (a 7, .inl (G.2.1, 40, .inl (fun q => nI (σ 5 q)))), (a 8, .inr (3, [.int (nI (σ 0 12)), .int (nI (σ 0 14)), .int (nI (σ 0 16 + 1)), .int (nI (σ 0 18)), .int (nI (σ 0 20)), .int (nI (σ 0 22)), .float (fl (σ 0 24))])), (a 9, .inr (3, [.int (nI (σ 0 13)), .int (nI (σ 0 15)), .int (nI (σ 0 17)), .int (nI (σ 0 19)), .int (nI (σ 0 21)), .int (nI (σ 0 23)), .float (fl (σ 0 25))])), (a 10, .inl (G.2.1, 3, .inl (fun q => nI (σ 7 q))))]) [1, 2, 3, 4, 5, 6, 7] [0, 8, 9, 10] 4 k497 k498 k499 k12 k500 rfl (by decide +kernel) ⟨Nat.le_of_ble_eq_true rfl, Nat.le_of_ble_eq_true rfl⟩ ⟨Nat.le_of_ble_eq_true rfl, Nat.le_of_ble_eq_true rfl⟩ dX4_spendTick_91 (Nat.le_of_ble_eq_true rfl) 1 rfl rfl rfl (by decide +kernel) (fun _ => rfl) ([(a 0, .inr (4, [.ref (a 1), .ref (a 8), .ref (a 9), .ref (a 10), .float (fl (σ 0 6)), .float (fl (σ 0 7)), .float (fl (σ 0 8)), .int (nI (σ 0 3)), .int (nI (σ 0 9)), .int (nI (σ 0 10)), .int (nI (σ 0 11))])), (a 8, .inr (3, [.int (nI (σ 0 12)), .int (nI (σ 0 14)), .int (nI (σ 0 16 + 1)), .int (nI (σ 0 18)), .int (nI (σ 0 20)), .int (nI (σ 0 22)), .float (fl (σ 0 24))])), (a 9, .inr (3, [.int (nI (σ 0 13)), .int (nI (σ 0 15)), .int (nI (σ 0 17)), .int (nI (σ 0 19)), .int (nI (σ 0 21)), .int (nI (σ 0 23)), .float (fl (σ 0 25))])), (a 10, .inl (G.2.1, 3, .inl (fun q => nI (σ 7 q))))]) rfl (fun _ => rfl) 11 (fun _ => rfl) (by decide +kernel) (by decide +kernel) (fun _ _ => ?_)
      refine J_st (st' := []) rfl ?_
      refine J_aload_n C rfl dX4_spendTick_94 ?_
      refine J_dup C rfl dX4_spendTick_95 ?_
      refine J_getN C 8 6 in3 rfl rfl (by decide) nfTwoScribes_State_130 rfl dX4_spendTick_96 ?_
      refine J_fload C rfl dX4_spendTick_99 ?_
      refine J_fsub C (by rw [fl_sub (a := σ 0 24) (b := letAt σ (σ 0 14)) (by omega) (by omega)]; exact fl_num (by omega)) dX4_spendTick_101 ?_
      refine J_f (fl_sub (a := σ 0 24) (b := letAt σ (σ 0 14)) (by omega) (by omega) : (FP.fsub (fl (σ 0 24)) (fl (letAt σ (σ 0 14))) : UInt32) = (fl (σ 0 24 - (letAt σ (σ 0 14))))) ?_
      refine J_putN C 8 6 in3 tyX3 tyX3_ok nmX3 ([(a 0, .inr (4, [.ref (a 1), .ref (a 8), .ref (a 9), .ref (a 10), .float (fl (σ 0 6)), .float (fl (σ 0 7)), .float (fl (σ 0 8)), .int (nI (σ 0 3)), .int (nI (σ 0 9)), .int (nI (σ 0 10)), .int (nI (σ 0 11))])), (a 1, .inr (1, [.ref (a 2), .ref (a 3), .ref (a 4), .ref (a 5), .ref (a 6), .ref (a 7), .int (nI (σ 0 4)), .int (nI (σ 0 5))])), (a 2, .inl (G.2.1, 40, .inl (fun q => nI (d q)))), (a 3, .inl (G.2.1, 40, .inl (fun q => nI (σ 2 q)))), (a 4, .inl (G.2.1, 40, .inl (fun q => nI (if q = σ 0 14 then letAt σ (σ 0 14) else σ 3 q)))), (a 5, .inl (G.2.1, 40, .inl (fun q => nI (if q = σ 0 14 then σ 0 3 else σ 6 q)))), (a 6, .inl (G.2.1, 40, .inl (fun q => nI (if q = σ 0 14 then 1 else σ 4 q)))), (a 7, .inl (G.2.1, 40, .inl (fun q => nI (σ 5 q)))), (a 8, .inr (3, [.int (nI (σ 0 12)), .int (nI (σ 0 14)), .int (nI (σ 0 16 + 1)), .int (nI (σ 0 18)), .int (nI (σ 0 20)), .int (nI (σ 0 22)), .float (fl (σ 0 24 - (letAt σ (σ 0 14))))])), (a 9, .inr (3, [.int (nI (σ 0 13)), .int (nI (σ 0 15)), .int (nI (σ 0 17)), .int (nI (σ 0 19)), .int (nI (σ 0 21)), .int (nI (σ 0 23)), .float (fl (σ 0 25))])), (a 10, .inl (G.2.1, 3, .inl (fun q => nI (σ 7 q))))]) rfl rfl (by decide) nfTwoScribes_State_130 rfl rfl rfl (Nat.le_of_ble_eq_true rfl) rfl dX4_spendTick_102 ?_
      refine J_aload_n C rfl dX4_spendTick_105 ?_
      refine J_dup C rfl dX4_spendTick_106 ?_
      refine J_get C 0 5 in4 rfl rfl (by decide) k127 rfl dX4_spendTick_107 ?_
      refine J_fload C rfl dX4_spendTick_110 ?_
      refine J_fadd C (by rw [fl_add (a := σ 0 7) (b := letAt σ (σ 0 14)) (by omega)]; exact fl_num (by omega)) dX4_spendTick_112 ?_
      refine J_f (fl_add (a := σ 0 7) (b := letAt σ (σ 0 14)) (by omega) : (FP.fadd (fl (σ 0 7)) (fl (letAt σ (σ 0 14))) : UInt32) = (fl (σ 0 7 + (letAt σ (σ 0 14))))) ?_
      refine J_put C 0 5 in4 tyX4 tyX4_ok nmX4 ([(a 0, .inr (4, [.ref (a 1), .ref (a 8), .ref (a 9), .ref (a 10), .float (fl (σ 0 6)), .float (fl (σ 0 7 + (letAt σ (σ 0 14)))), .float (fl (σ 0 8)), .int (nI (σ 0 3)), .int (nI (σ 0 9)), .int (nI (σ 0 10)), .int (nI (σ 0 11))])), (a 1, .inr (1, [.ref (a 2), .ref (a 3), .ref (a 4), .ref (a 5), .ref (a 6), .ref (a 7), .int (nI (σ 0 4)), .int (nI (σ 0 5))])), (a 2, .inl (G.2.1, 40, .inl (fun q => nI (d q)))), (a 3, .inl (G.2.1, 40, .inl (fun q => nI (σ 2 q)))), (a 4, .inl (G.2.1, 40, .inl (fun q => nI (if q = σ 0 14 then letAt σ (σ 0 14) else σ 3 q)))), (a 5, .inl (G.2.1, 40, .inl (fun q => nI (if q = σ 0 14 then σ 0 3 else σ 6 q)))), (a 6, .inl (G.2.1, 40, .inl (fun q => nI (if q = σ 0 14 then 1 else σ 4 q)))), (a 7, .inl (G.2.1, 40, .inl (fun q => nI (σ 5 q)))), (a 8, .inr (3, [.int (nI (σ 0 12)), .int (nI (σ 0 14)), .int (nI (σ 0 16 + 1)), .int (nI (σ 0 18)), .int (nI (σ 0 20)), .int (nI (σ 0 22)), .float (fl (σ 0 24 - (letAt σ (σ 0 14))))])), (a 9, .inr (3, [.int (nI (σ 0 13)), .int (nI (σ 0 15)), .int (nI (σ 0 17)), .int (nI (σ 0 19)), .int (nI (σ 0 21)), .int (nI (σ 0 23)), .float (fl (σ 0 25))])), (a 10, .inl (G.2.1, 3, .inl (fun q => nI (σ 7 q))))]) rfl rfl (by decide) k127 rfl rfl rfl (Nat.le_of_ble_eq_true rfl) rfl dX4_spendTick_113 ?_
      refine J_aload_n C rfl dX4_spendTick_116 ?_
      refine J_iconst C 0 (by decide) dX4_spendTick_117 ?_
      refine J_putN C 8 2 in3 tyX3 tyX3_ok nmX3 ([(a 0, .inr (4, [.ref (a 1), .ref (a 8), .ref (a 9), .ref (a 10), .float (fl (σ 0 6)), .float (fl (σ 0 7 + (letAt σ (σ 0 14)))), .float (fl (σ 0 8)), .int (nI (σ 0 3)), .int (nI (σ 0 9)), .int (nI (σ 0 10)), .int (nI (σ 0 11))])), (a 1, .inr (1, [.ref (a 2), .ref (a 3), .ref (a 4), .ref (a 5), .ref (a 6), .ref (a 7), .int (nI (σ 0 4)), .int (nI (σ 0 5))])), (a 2, .inl (G.2.1, 40, .inl (fun q => nI (d q)))), (a 3, .inl (G.2.1, 40, .inl (fun q => nI (σ 2 q)))), (a 4, .inl (G.2.1, 40, .inl (fun q => nI (if q = σ 0 14 then letAt σ (σ 0 14) else σ 3 q)))), (a 5, .inl (G.2.1, 40, .inl (fun q => nI (if q = σ 0 14 then σ 0 3 else σ 6 q)))), (a 6, .inl (G.2.1, 40, .inl (fun q => nI (if q = σ 0 14 then 1 else σ 4 q)))), (a 7, .inl (G.2.1, 40, .inl (fun q => nI (σ 5 q)))), (a 8, .inr (3, [.int (nI (σ 0 12)), .int (nI (σ 0 14)), .int 0, .int (nI (σ 0 18)), .int (nI (σ 0 20)), .int (nI (σ 0 22)), .float (fl (σ 0 24 - (letAt σ (σ 0 14))))])), (a 9, .inr (3, [.int (nI (σ 0 13)), .int (nI (σ 0 15)), .int (nI (σ 0 17)), .int (nI (σ 0 19)), .int (nI (σ 0 21)), .int (nI (σ 0 23)), .float (fl (σ 0 25))])), (a 10, .inl (G.2.1, 3, .inl (fun q => nI (σ 7 q))))]) rfl rfl (by decide) nfTwoScribes_State_94 rfl rfl rfl (Nat.le_of_ble_eq_true rfl) rfl dX4_spendTick_118 ?_
      refine J_aload_n C rfl dX4_spendTick_121 ?_
      refine J_dup C rfl dX4_spendTick_122 ?_
      refine J_getN C 8 1 in3 rfl rfl (by decide) nfTwoScribes_State_74 rfl dX4_spendTick_123 ?_
      refine J_iconst C 1 (by decide) dX4_spendTick_126 ?_
      refine J_iadd C dX4_spendTick_127 ?_
      refine J_i (nI_add (σ 0 14) 1 : ((nI (σ 0 14)) + 1 : Int32) = (nI (σ 0 14 + 1))) ?_
      refine J_putN C 8 1 in3 tyX3 tyX3_ok nmX3 ([(a 0, .inr (4, [.ref (a 1), .ref (a 8), .ref (a 9), .ref (a 10), .float (fl (σ 0 6)), .float (fl (σ 0 7 + (letAt σ (σ 0 14)))), .float (fl (σ 0 8)), .int (nI (σ 0 3)), .int (nI (σ 0 9)), .int (nI (σ 0 10)), .int (nI (σ 0 11))])), (a 1, .inr (1, [.ref (a 2), .ref (a 3), .ref (a 4), .ref (a 5), .ref (a 6), .ref (a 7), .int (nI (σ 0 4)), .int (nI (σ 0 5))])), (a 2, .inl (G.2.1, 40, .inl (fun q => nI (d q)))), (a 3, .inl (G.2.1, 40, .inl (fun q => nI (σ 2 q)))), (a 4, .inl (G.2.1, 40, .inl (fun q => nI (if q = σ 0 14 then letAt σ (σ 0 14) else σ 3 q)))), (a 5, .inl (G.2.1, 40, .inl (fun q => nI (if q = σ 0 14 then σ 0 3 else σ 6 q)))), (a 6, .inl (G.2.1, 40, .inl (fun q => nI (if q = σ 0 14 then 1 else σ 4 q)))), (a 7, .inl (G.2.1, 40, .inl (fun q => nI (σ 5 q)))), (a 8, .inr (3, [.int (nI (σ 0 12)), .int (nI (σ 0 14 + 1)), .int 0, .int (nI (σ 0 18)), .int (nI (σ 0 20)), .int (nI (σ 0 22)), .float (fl (σ 0 24 - (letAt σ (σ 0 14))))])), (a 9, .inr (3, [.int (nI (σ 0 13)), .int (nI (σ 0 15)), .int (nI (σ 0 17)), .int (nI (σ 0 19)), .int (nI (σ 0 21)), .int (nI (σ 0 23)), .float (fl (σ 0 25))])), (a 10, .inl (G.2.1, 3, .inl (fun q => nI (σ 7 q))))]) rfl rfl (by decide) nfTwoScribes_State_74 rfl rfl rfl (Nat.le_of_ble_eq_true rfl) rfl dX4_spendTick_128 ?_
      refine J_aload_n C rfl dX4_spendTick_131 ?_
      refine J_dup C rfl dX4_spendTick_132 ?_
      refine J_get C 0 9 in4 rfl rfl (by decide) k135 rfl dX4_spendTick_133 ?_
      refine J_iconst C 1 (by decide) dX4_spendTick_136 ?_
      refine J_iadd C dX4_spendTick_137 ?_
      refine J_i (nI_add (σ 0 10) 1 : ((nI (σ 0 10)) + 1 : Int32) = (nI (σ 0 10 + 1))) ?_
      refine J_put C 0 9 in4 tyX4 tyX4_ok nmX4 ([(a 0, .inr (4, [.ref (a 1), .ref (a 8), .ref (a 9), .ref (a 10), .float (fl (σ 0 6)), .float (fl (σ 0 7 + (letAt σ (σ 0 14)))), .float (fl (σ 0 8)), .int (nI (σ 0 3)), .int (nI (σ 0 9)), .int (nI (σ 0 10 + 1)), .int (nI (σ 0 11))])), (a 1, .inr (1, [.ref (a 2), .ref (a 3), .ref (a 4), .ref (a 5), .ref (a 6), .ref (a 7), .int (nI (σ 0 4)), .int (nI (σ 0 5))])), (a 2, .inl (G.2.1, 40, .inl (fun q => nI (d q)))), (a 3, .inl (G.2.1, 40, .inl (fun q => nI (σ 2 q)))), (a 4, .inl (G.2.1, 40, .inl (fun q => nI (if q = σ 0 14 then letAt σ (σ 0 14) else σ 3 q)))), (a 5, .inl (G.2.1, 40, .inl (fun q => nI (if q = σ 0 14 then σ 0 3 else σ 6 q)))), (a 6, .inl (G.2.1, 40, .inl (fun q => nI (if q = σ 0 14 then 1 else σ 4 q)))), (a 7, .inl (G.2.1, 40, .inl (fun q => nI (σ 5 q)))), (a 8, .inr (3, [.int (nI (σ 0 12)), .int (nI (σ 0 14 + 1)), .int 0, .int (nI (σ 0 18)), .int (nI (σ 0 20)), .int (nI (σ 0 22)), .float (fl (σ 0 24 - (letAt σ (σ 0 14))))])), (a 9, .inr (3, [.int (nI (σ 0 13)), .int (nI (σ 0 15)), .int (nI (σ 0 17)), .int (nI (σ 0 19)), .int (nI (σ 0 21)), .int (nI (σ 0 23)), .float (fl (σ 0 25))])), (a 10, .inl (G.2.1, 3, .inl (fun q => nI (σ 7 q))))]) rfl rfl (by decide) k135 rfl rfl rfl (Nat.le_of_ble_eq_true rfl) rfl dX4_spendTick_138 ?_
      exact J_vret C hr dX4_spendTick_141 () rfl trivial (by rw [writesF_0, if_neg (by omega), wroteF_0, blotN_0, if_pos (by omega)] <;> rfl)
  · skip
    have c24 := cv_ge_f (a := (σ 0 16 + 1)) (b := (σ 0 12)) (by omega) (by omega) c24
    exact J_vret C hr dX4_spendTick_27 () rfl trivial (by rw [writesF_0, if_pos (by omega)] <;> rfl)

set_option maxHeartbeats 4000000 in
set_option maxRecDepth 100000 in
theorem ct_spend1 (l : Launch) (G : GT) (a : Nat → Nat) (σ : AS) (d : Nat → Nat)  (hI : Inv σ) (hD : DOK σ d) (hf : 2 * σ 0 15 < σ 0 4) (hp : letAt σ (σ 0 4 - 1 - σ 0 15) ≤ σ 0 25) : Ct (S := Unit) l G NoX yX4_spendTick (Wy yX4_spendTick cX4_spendTick 7 ((Option.none : Option Jvm.ClassFile.FieldType))) { frames := 2, cells := 0, slots := 0, locals := 46 } [.ref (a 0), .int 1] (stW G a σ d) (fun u => True) (fun u => none) (fun u => stW G a (writesF σ 1 (σ 0 3)) d) := by
  refine Ct.of (by decide) (Nat.le_of_ble_eq_true rfl) (fun p e s m args below meth c C hr hnm hX => ?_)
  have h40 := hI.a
  have hc := hI.c
  have hi := hI.i
  have hl := hI.l
  have hr2 := hI.r
  have hs := hI.s
  have hlt := hI.let (p := σ 0 4 - 1 - σ 0 15) (by omega)
  refine J_aload_n C rfl dX4_spendTick_0 ?_
  refine J_iload_n C rfl dX4_spendTick_1 ?_
  refine J_callV (as := [.int 1]) (rest := []) C (ct_scribeOf1 l G a σ d) (fun u => stW G a σ d) [0, 1, 2, 3, 4, 5, 6, 7, 8, 9, 10] [] 1 k371 k372 k373 k11 k374 rfl (by decide +kernel) ⟨Nat.le_of_ble_eq_true rfl, Nat.le_of_ble_eq_true rfl⟩ ⟨Nat.le_of_ble_eq_true rfl, Nat.le_of_ble_eq_true rfl⟩ dX4_spendTick_2 (Nat.le_of_ble_eq_true rfl) 0 rfl rfl rfl (by decide +kernel) (fun _ => rfl) ([]) rfl (fun _ => rfl) 11 (fun _ => rfl) (by decide +kernel) (by decide +kernel) (fun _ _ => ?_)
  refine J_st (st' := [.ref (a 9)]) rfl ?_
  refine J_astore_n C [(2, .ref (a 9)), (0, .ref (a 0)), (1, .int 1)] (by decide) rfl dX4_spendTick_5 ?_
  refine J_aload_n C rfl dX4_spendTick_6 ?_
  refine J_dup C rfl dX4_spendTick_7 ?_
  refine J_getN C 9 2 in3 rfl rfl (by decide) nfTwoScribes_State_94 rfl dX4_spendTick_8 ?_
  refine J_iconst C 1 (by decide) dX4_spendTick_11 ?_
  refine J_iadd C dX4_spendTick_12 ?_
  refine J_i (nI_add (σ 0 17) 1 : ((nI (σ 0 17)) + 1 : Int32) = (nI (σ 0 17 + 1))) ?_
  refine J_putN C 9 2 in3 tyX3 tyX3_ok nmX3 ([(a 0, .inr (4, [.ref (a 1), .ref (a 8), .ref (a 9), .ref (a 10), .float (fl (σ 0 6)), .float (fl (σ 0 7)), .float (fl (σ 0 8)), .int (nI (σ 0 3)), .int (nI (σ 0 9)), .int (nI (σ 0 10)), .int (nI (σ 0 11))])), (a 1, .inr (1, [.ref (a 2), .ref (a 3), .ref (a 4), .ref (a 5), .ref (a 6), .ref (a 7), .int (nI (σ 0 4)), .int (nI (σ 0 5))])), (a 2, .inl (G.2.1, 40, .inl (fun q => nI (d q)))), (a 3, .inl (G.2.1, 40, .inl (fun q => nI (σ 2 q)))), (a 4, .inl (G.2.1, 40, .inl (fun q => nI (σ 3 q)))), (a 5, .inl (G.2.1, 40, .inl (fun q => nI (σ 6 q)))), (a 6, .inl (G.2.1, 40, .inl (fun q => nI (σ 4 q)))), (a 7, .inl (G.2.1, 40, .inl (fun q => nI (σ 5 q)))), (a 8, .inr (3, [.int (nI (σ 0 12)), .int (nI (σ 0 14)), .int (nI (σ 0 16)), .int (nI (σ 0 18)), .int (nI (σ 0 20)), .int (nI (σ 0 22)), .float (fl (σ 0 24))])), (a 9, .inr (3, [.int (nI (σ 0 13)), .int (nI (σ 0 15)), .int (nI (σ 0 17 + 1)), .int (nI (σ 0 19)), .int (nI (σ 0 21)), .int (nI (σ 0 23)), .float (fl (σ 0 25))])), (a 10, .inl (G.2.1, 3, .inl (fun q => nI (σ 7 q))))]) rfl rfl (by decide) nfTwoScribes_State_94 rfl rfl rfl (Nat.le_of_ble_eq_true rfl) rfl dX4_spendTick_13 ?_
  refine J_aload_n C rfl dX4_spendTick_16 ?_
  refine J_getN C 9 2 in3 rfl rfl (by decide) nfTwoScribes_State_94 rfl dX4_spendTick_17 ?_
  refine J_aload_n C rfl dX4_spendTick_20 ?_
  refine J_getN C 9 0 in3 rfl rfl (by decide) nfTwoScribes_State_151 rfl dX4_spendTick_21 ?_
  refine J_icmp_ge C 28 (by decide) dX4_spendTick_24 (fun c24 => ?_) (fun c24 => ?_)
  · skip
    have c24 := cv_ge_t (a := (σ 0 17 + 1)) (b := (σ 0 13)) (by omega) (by omega) c24
    refine J_aload_n C rfl dX4_spendTick_28 ?_
    refine J_iload_n C rfl dX4_spendTick_29 ?_
    refine J_callV (as := [.int 1]) (rest := []) C (ct_nextPlace1 l G a (up2 σ 0 17 (σ 0 17 + 1)) d h40.1 h40.2.1 hf) (fun u => [(a 0, .inr (4, [.ref (a 1), .ref (a 8), .ref (a 9), .ref (a 10), .float (fl (σ 0 6)), .float (fl (σ 0 7)), .float (fl (σ 0 8)), .int (nI (σ 0 3)), .int (nI (σ 0 9)), .int (nI (σ 0 10)), .int (nI (σ 0 11))])), (a 1, .inr (1, [.ref (a 2), .ref (a 3), .ref (a 4), .ref (a 5), .ref (a 6), .ref (a 7), .int (nI (σ 0 4)), .int (nI (σ 0 5))])), (a 2, .inl (G.2.1, 40, .inl (fun q => nI (d q)))), (a 3, .inl (G.2.1, 40, .inl (fun q => nI (σ 2 q)))), (a 4, .inl (G.2.1, 40, .inl (fun q => nI (σ 3 q)))), (a 5, .inl (G.2.1, 40, .inl (fun q => nI (σ 6 q)))), (a 6, .inl (G.2.1, 40, .inl (fun q => nI (σ 4 q)))), (a 7, .inl (G.2.1, 40, .inl (fun q => nI (σ 5 q)))), (a 8, .inr (3, [.int (nI (σ 0 12)), .int (nI (σ 0 14)), .int (nI (σ 0 16)), .int (nI (σ 0 18)), .int (nI (σ 0 20)), .int (nI (σ 0 22)), .float (fl (σ 0 24))])), (a 9, .inr (3, [.int (nI (σ 0 13)), .int (nI (σ 0 15)), .int (nI (σ 0 17 + 1)), .int (nI (σ 0 19)), .int (nI (σ 0 21)), .int (nI (σ 0 23)), .float (fl (σ 0 25))])), (a 10, .inl (G.2.1, 3, .inl (fun q => nI (σ 7 q))))]) [0, 1, 2, 3, 4, 5, 6, 7, 8, 9, 10] [] 1 k367 k368 k369 k11 k370 rfl (by decide +kernel) ⟨Nat.le_of_ble_eq_true rfl, Nat.le_of_ble_eq_true rfl⟩ ⟨Nat.le_of_ble_eq_true rfl, Nat.le_of_ble_eq_true rfl⟩ dX4_spendTick_30 (Nat.le_of_ble_eq_true rfl) 0 rfl rfl rfl (by decide +kernel) (fun _ => rfl) ([]) rfl (fun _ => rfl) 11 (fun _ => rfl) (by decide +kernel) (by decide +kernel) (fun _ _ => ?_)
    refine J_st (st' := [.int (nI ((up2 σ 0 17 (σ 0 17 + 1)) 0 4 - 1 - (up2 σ 0 17 (σ 0 17 + 1)) 0 15))]) rfl ?_
    refine J_istore_n C [(3, .int (nI ((up2 σ 0 17 (σ 0 17 + 1)) 0 4 - 1 - (up2 σ 0 17 (σ 0 17 + 1)) 0 15))), (2, .ref (a 9)), (0, .ref (a 0)), (1, .int 1)] (by decide) rfl dX4_spendTick_33 ?_
    refine J_aload_n C rfl dX4_spendTick_34 ?_
    refine J_get C 0 0 in4 rfl rfl (by decide) k117 rfl dX4_spendTick_35 ?_
    refine J_iload_n C rfl dX4_spendTick_38 ?_
    refine J_callV (as := [.int (nI ((up2 σ 0 17 (σ 0 17 + 1)) 0 4 - 1 - (up2 σ 0 17 (σ 0 17 + 1)) 0 15))]) (rest := []) C (ct_letterFor l G a σ d (σ 0 4 - 1 - σ 0 15) hI hD (by omega)) (fun u => [(a 0, .inr (4, [.ref (a 1), .ref (a 8), .ref (a 9), .ref (a 10), .float (fl (σ 0 6)), .float (fl (σ 0 7)), .float (fl (σ 0 8)), .int (nI (σ 0 3)), .int (nI (σ 0 9)), .int (nI (σ 0 10)), .int (nI (σ 0 11))])), (a 1, .inr (1, [.ref (a 2), .ref (a 3), .ref (a 4), .ref (a 5), .ref (a 6), .ref (a 7), .int (nI (σ 0 4)), .int (nI (σ 0 5))])), (a 2, .inl (G.2.1, 40, .inl (fun q => nI (d q)))), (a 3, .inl (G.2.1, 40, .inl (fun q => nI (σ 2 q)))), (a 4, .inl (G.2.1, 40, .inl (fun q => nI (σ 3 q)))), (a 5, .inl (G.2.1, 40, .inl (fun q => nI (σ 6 q)))), (a 6, .inl (G.2.1, 40, .inl (fun q => nI (σ 4 q)))), (a 7, .inl (G.2.1, 40, .inl (fun q => nI (σ 5 q)))), (a 8, .inr (3, [.int (nI (σ 0 12)), .int (nI (σ 0 14)), .int (nI (σ 0 16)), .int (nI (σ 0 18)), .int (nI (σ 0 20)), .int (nI (σ 0 22)), .float (fl (σ 0 24))])), (a 9, .inr (3, [.int (nI (σ 0 13)), .int (nI (σ 0 15)), .int (nI (σ 0 17 + 1)), .int (nI (σ 0 19)), .int (nI (σ 0 21)), .int (nI (σ 0 23)), .float (fl (σ 0 25))])), (a 10, .inl (G.2.1, 3, .inl (fun q => nI (σ 7 q))))]) [1, 2, 3, 4, 5, 6, 7] [0, 8, 9, 10] 1 k491 k378 k379 k12 k380 rfl (by decide +kernel) ⟨Nat.le_of_ble_eq_true rfl, Nat.le_of_ble_eq_true rfl⟩ ⟨Nat.le_of_ble_eq_true rfl, Nat.le_of_ble_eq_true rfl⟩ dX4_spendTick_39 (Nat.le_of_ble_eq_true rfl) 1 rfl rfl rfl (by decide +kernel) (fun _ => rfl) ([(a 0, .inr (4, [.ref (a 1), .ref (a 8), .ref (a 9), .ref (a 10), .float (fl (σ 0 6)), .float (fl (σ 0 7)), .float (fl (σ 0 8)), .int (nI (σ 0 3)), .int (nI (σ 0 9)), .int (nI (σ 0 10)), .int (nI (σ 0 11))])), (a 8, .inr (3, [.int (nI (σ 0 12)), .int (nI (σ 0 14)), .int (nI (σ 0 16)), .int (nI (σ 0 18)), .int (nI (σ 0 20)), .int (nI (σ 0 22)), .float (fl (σ 0 24))])), (a 9, .inr (3, [.int (nI (σ 0 13)), .int (nI (σ 0 15)), .int (nI (σ 0 17 + 1)), .int (nI (σ 0 19)), .int (nI (σ 0 21)), .int (nI (σ 0 23)), .float (fl (σ 0 25))])), (a 10, .inl (G.2.1, 3, .inl (fun q => nI (σ 7 q))))]) rfl (fun _ => rfl) 11 (fun _ => rfl) (by decide +kernel) (by decide +kernel) (fun _ _ => ?_)
    refine J_st (st' := [.int (nI (letAt σ (σ 0 4 - 1 - σ 0 15)))]) rfl ?_
    refine J_istore C [(4, .int (nI (letAt σ (σ 0 4 - 1 - σ 0 15)))), (3, .int (nI ((up2 σ 0 17 (σ 0 17 + 1)) 0 4 - 1 - (up2 σ 0 17 (σ 0 17 + 1)) 0 15))), (2, .ref (a 9)), (0, .ref (a 0)), (1, .int 1)] (by decide) rfl dX4_spendTick_42 ?_
    refine J_iload C rfl dX4_spendTick_44 ?_
    refine J_callSN (as := [.int (nI (letAt σ (σ 0 4 - 1 - σ 0 15)))]) (rest := []) C (ct_inkFor l G (letAt σ (σ 0 4 - 1 - σ 0 15)) (by omega)) (fun u => [(a 0, .inr (4, [.ref (a 1), .ref (a 8), .ref (a 9), .ref (a 10), .float (fl (σ 0 6)), .float (fl (σ 0 7)), .float (fl (σ 0 8)), .int (nI (σ 0 3)), .int (nI (σ 0 9)), .int (nI (σ 0 10)), .int (nI (σ 0 11))])), (a 1, .inr (1, [.ref (a 2), .ref (a 3), .ref (a 4), .ref (a 5), .ref (a 6), .ref (a 7), .int (nI (σ 0 4)), .int (nI (σ 0 5))])), (a 2, .inl (G.2.1, 40, .inl (fun q => nI (d q)))), (a 3, .inl (G.2.1, 40, .inl (fun q => nI (σ 2 q)))), (a 4, .inl (G.2.1, 40, .inl (fun q => nI (σ 3 q)))), (a 5, .inl (G.2.1, 40, .inl (fun q => nI (σ 6 q)))), (a 6, .inl (G.2.1, 40, .inl (fun q => nI (σ 4 q)))), (a 7, .inl (G.2.1, 40, .inl (fun q => nI (σ 5 q)))), (a 8, .inr (3, [.int (nI (σ 0 12)), .int (nI (σ 0 14)), .int (nI (σ 0 16)), .int (nI (σ 0 18)), .int (nI (σ 0 20)), .int (nI (σ 0 22)), .float (fl (σ 0 24))])), (a 9, .inr (3, [.int (nI (σ 0 13)), .int (nI (σ 0 15)), .int (nI (σ 0 17 + 1)), .int (nI (σ 0 19)), .int (nI (σ 0 21)), .int (nI (σ 0 23)), .float (fl (σ 0 25))])), (a 10, .inl (G.2.1, 3, .inl (fun q => nI (σ 7 q))))]) [] [0, 1, 2, 3, 4, 5, 6, 7, 8, 9, 10] 1 nmTwoScribes_State_119 k450 k10 k451 rfl (by decide +kernel) ⟨Nat.le_of_ble_eq_true rfl, Nat.le_of_ble_eq_true rfl⟩ ⟨Nat.le_of_ble_eq_true rfl, Nat.le_of_ble_eq_true rfl⟩ dX4_spendTick_46 (Nat.le_of_ble_eq_true rfl) rfl (by decide +kernel) (fun _ => rfl) ([(a 0, .inr (4, [.ref (a 1), .ref (a 8), .ref (a 9), .ref (a 10), .float (fl (σ 0 6)), .float (fl (σ 0 7)), .float (fl (σ 0 8)), .int (nI (σ 0 3)), .int (nI (σ 0 9)), .int (nI (σ 0 10)), .int (nI (σ 0 11))])), (a 1, .inr (1, [.ref (a 2), .ref (a 3), .ref (a 4), .ref (a 5), .ref (a 6), .ref (a 7), .int (nI (σ 0 4)), .int (nI (σ 0 5))])), (a 2, .inl (G.2.1, 40, .inl (fun q => nI (d q)))), (a 3, .inl (G.2.1, 40, .inl (fun q => nI (σ 2 q)))), (a 4, .inl (G.2.1, 40, .inl (fun q => nI (σ 3 q)))), (a 5, .inl (G.2.1, 40, .inl (fun q => nI (σ 6 q)))), (a 6, .inl (G.2.1, 40, .inl (fun q => nI (σ 4 q)))), (a 7, .inl (G.2.1, 40, .inl (fun q => nI (σ 5 q)))), (a 8, .inr (3, [.int (nI (σ 0 12)), .int (nI (σ 0 14)), .int (nI (σ 0 16)), .int (nI (σ 0 18)), .int (nI (σ 0 20)), .int (nI (σ 0 22)), .float (fl (σ 0 24))])), (a 9, .inr (3, [.int (nI (σ 0 13)), .int (nI (σ 0 15)), .int (nI (σ 0 17 + 1)), .int (nI (σ 0 19)), .int (nI (σ 0 21)), .int (nI (σ 0 23)), .float (fl (σ 0 25))])), (a 10, .inl (G.2.1, 3, .inl (fun q => nI (σ 7 q))))]) rfl (fun _ => rfl) 11 (fun _ => rfl) (by decide +kernel) (by decide +kernel) (fun _ _ => ?_)
    refine J_st (st' := [.float (fl (letAt σ (σ 0 4 - 1 - σ 0 15)))]) rfl ?_
    refine J_fstore C [(5, .float (fl (letAt σ (σ 0 4 - 1 - σ 0 15)))), (4, .int (nI (letAt σ (σ 0 4 - 1 - σ 0 15)))), (3, .int (nI ((up2 σ 0 17 (σ 0 17 + 1)) 0 4 - 1 - (up2 σ 0 17 (σ 0 17 + 1)) 0 15))), (2, .ref (a 9)), (0, .ref (a 0)), (1, .int 1)] (by decide) rfl dX4_spendTick_49 ?_
    refine J_aload_n C rfl dX4_spendTick_51 ?_
    refine J_getN C 9 6 in3 rfl rfl (by decide) nfTwoScribes_State_130 rfl dX4_spendTick_52 ?_
    refine J_aload_n C rfl dX4_spendTick_55 ?_
    refine J_get C 0 3 in4 rfl rfl (by decide) k123 rfl dX4_spendTick_56 ?_
    refine J_iconst C 1 (by decide) dX4_spendTick_59 ?_
    refine J_callSN (as := [.ref (a 10), .int 1]) (rest := [.float (fl (σ 0 25))]) C (ct_at l G (a 10) 3 (fun q => nI (σ 7 q)) 1 (by omega) (by decide)) (fun u => [(a 0, .inr (4, [.ref (a 1), .ref (a 8), .ref (a 9), .ref (a 10), .float (fl (σ 0 6)), .float (fl (σ 0 7)), .float (fl (σ 0 8)), .int (nI (σ 0 3)), .int (nI (σ 0 9)), .int (nI (σ 0 10)), .int (nI (σ 0 11))])), (a 1, .inr (1, [.ref (a 2), .ref (a 3), .ref (a 4), .ref (a 5), .ref (a 6), .ref (a 7), .int (nI (σ 0 4)), .int (nI (σ 0 5))])), (a 2, .inl (G.2.1, 40, .inl (fun q => nI (d q)))), (a 3, .inl (G.2.1, 40, .inl (fun q => nI (σ 2 q)))), (a 4, .inl (G.2.1, 40, .inl (fun q => nI (σ 3 q)))), (a 5, .inl (G.2.1, 40, .inl (fun q => nI (σ 6 q)))), (a 6, .inl (G.2.1, 40, .inl (fun q => nI (σ 4 q)))), (a 7, .inl (G.2.1, 40, .inl (fun q => nI (σ 5 q)))), (a 8, .inr (3, [.int (nI (σ 0 12)), .int (nI (σ 0 14)), .int (nI (σ 0 16)), .int (nI (σ 0 18)), .int (nI (σ 0 20)), .int (nI (σ 0 22)), .float (fl (σ 0 24))])), (a 9, .inr (3, [.int (nI (σ 0 13)), .int (nI (σ 0 15)), .int (nI (σ 0 17 + 1)), .int (nI (σ 0 19)), .int (nI (σ 0 21)), .int (nI (σ 0 23)), .float (fl (σ 0 25))])), (a 10, .inl (G.2.1, 3, .inl (fun q => nI (σ 7 q))))]) [10] [0, 1, 2, 3, 4, 5, 6, 7, 8, 9] 2 nmTwoScribes_State_100 k340 k10 k341 rfl (by decide +kernel) ⟨Nat.le_of_ble_eq_true rfl, Nat.le_of_ble_eq_true rfl⟩ ⟨Nat.le_of_ble_eq_true rfl, Nat.le_of_ble_eq_true rfl⟩ dX4_spendTick_60 (Nat.le_of_ble_eq_true rfl) rfl (by decide +kernel) (fun _ => rfl) ([(a 0, .inr (4, [.ref (a 1), .ref (a 8), .ref (a 9), .ref (a 10), .float (fl (σ 0 6)), .float (fl (σ 0 7)), .float (fl (σ 0 8)), .int (nI (σ 0 3)), .int (nI (σ 0 9)), .int (nI (σ 0 10)), .int (nI (σ 0 11))])), (a 1, .inr (1, [.ref (a 2), .ref (a 3), .ref (a 4), .ref (a 5), .ref (a 6), .ref (a 7), .int (nI (σ 0 4)), .int (nI (σ 0 5))])), (a 2, .inl (G.2.1, 40, .inl (fun q => nI (d q)))), (a 3, .inl (G.2.1, 40, .inl (fun q => nI (σ 2 q)))), (a 4, .inl (G.2.1, 40, .inl (fun q => nI (σ 3 q)))), (a 5, .inl (G.2.1, 40, .inl (fun q => nI (σ 6 q)))), (a 6, .inl (G.2.1, 40, .inl (fun q => nI (σ 4 q)))), (a 7, .inl (G.2.1, 40, .inl (fun q => nI (σ 5 q)))), (a 8, .inr (3, [.int (nI (σ 0 12)), .int (nI (σ 0 14)), .int (nI (σ 0 16)), .int (nI (σ 0 18)), .int (nI (σ 0 20)), .int (nI (σ 0 22)), .float (fl (σ 0 24))])), (a 9, .inr (3, [.int (nI (σ 0 13)), .int (nI (σ 0 15)), .int (nI (σ 0 17 + 1)), .int (nI (σ 0 19)), .int (nI (σ 0 21)), .int (nI (σ 0 23)), .float (fl (σ 0 25))]))]) rfl (fun _ => rfl) 11 (fun _ => rfl) (by decide +kernel) (by decide +kernel) (fun _ _ => ?_)
    refine J_st (st' := [.int (nI (σ 7 1)), .float (fl (σ 0 25))]) rfl ?_
    refine J_i2f C dX4_spendTick_63 ?_
    refine J_ldcf C k496 dX4_spendTick_64 ?_
    refine J_fdiv C (by rw [fl_8 (n := σ 7 1) (by omega)]; exact fl_num (by omega)) dX4_spendTick_66 ?_
    refine J_f (fl_8 (n := σ 7 1) (by omega) : (FP.fdiv (FP.i2f (nI (σ 7 1))) 1090519040 : UInt32) = (fl (8 * (σ 7 1)))) ?_
    refine J_fcmp C dX4_spendTick_67 ?_
    refine J_i (fl_cmp (a := σ 0 25) (b := 8 * (σ 7 1)) (by omega) (by omega) _ : (Op.cmpValue (FP.fcmp (fl (σ 0 25)) (fl (8 * (σ 7 1)))) .l : Int32) = (if (σ 0 25) < (8 * (σ 7 1)) then -1 else if (σ 0 25) = (8 * (σ 7 1)) then 0 else 1)) ?_
    refine J_if_le C 75 (by decide) dX4_spendTick_68 (fun c68 => ?_) (fun c68 => ?_)
    · skip
      have c68 := fcv_le_t (a := (σ 0 25)) (b := (8 * (σ 7 1))) c68
      refine J_iconst C 0 (by decide) dX4_spendTick_75 ?_
      refine J_istore C [(6, .int 0), (5, .float (fl (letAt σ (σ 0 4 - 1 - σ 0 15)))), (4, .int (nI (letAt σ (σ 0 4 - 1 - σ 0 15)))), (3, .int (nI ((up2 σ 0 17 (σ 0 17 + 1)) 0 4 - 1 - (up2 σ 0 17 (σ 0 17 + 1)) 0 15))), (2, .ref (a 9)), (0, .ref (a 0)), (1, .int 1)] (by decide) rfl dX4_spendTick_76 ?_
      refine J_aload_n C rfl dX4_spendTick_78 ?_
      refine J_get C 0 0 in4 rfl rfl (by decide) k117 rfl dX4_spendTick_79 ?_
      refine J_iload_n C rfl dX4_spendTick_82 ?_
      refine J_iload C rfl dX4_spendTick_83 ?_
      refine J_iload C rfl dX4_spendTick_85 ?_
      refine J_aload_n C rfl dX4_spendTick_87 ?_
      refine J_get C 0 7 in4 rfl rfl (by decide) k131 rfl dX4_spendTick_88 ?_
      refine J_callV (as := [.int (nI ((up2 σ 0 17 (σ 0 17 + 1)) 0 4 - 1 - (up2 σ 0 17 (σ 0 17 + 1)) 0 15)), .int (nI (letAt σ (σ 0 4 - 1 - σ 0 15))), .int 0, .int (nI (σ 0 3))]) (rest := []) C (ct_write l G a σ d (σ 0 4 - 1 - σ 0 15) (letAt σ (σ 0 4 - 1 - σ 0 15)) 0 (σ 0 3) (by omega) (by decide)) (fun u => [(a 0, .inr (4, [.ref (a 1), .ref (a 8), .ref (a 9), .ref (a 10), .float (fl (σ 0 6)), .float (fl (σ 0 7)), .float (fl (σ 0 8)), .int (nI (σ 0 3)), .int (nI (σ 0 9)), .int (nI (σ 0 10)), .int (nI (σ 0 11))])), (a 1, .inr (1, [.ref (a 2), .ref (a 3), .ref (a 4), .ref (a 5), .ref (a 6), .ref (a 7), .int (nI (σ 0 4)), .int (nI (σ 0 5))])), (a 2, .inl (G.2.1, 40, .inl (fun q => nI (d q)))), (a 3, .inl (G.2.1, 40, .inl (fun q => nI (σ 2 q)))), (a 4, .inl (G.2.1, 40, .inl (fun q => nI (if q = σ 0 4 - 1 - σ 0 15 then letAt σ (σ 0 4 - 1 - σ 0 15) else σ 3 q)))), (a 5, .inl (G.2.1, 40, .inl (fun q => nI (if q = σ 0 4 - 1 - σ 0 15 then σ 0 3 else σ 6 q)))), (a 6, .inl (G.2.1, 40, .inl (fun q => nI (if q = σ 0 4 - 1 - σ 0 15 then 0 else σ 4 q)))), (a 7, .inl (G.2.1, 40, .inl (fun q => nI (σ 5 q)))), (a 8, .inr (3, [.int (nI (σ 0 12)), .int (nI (σ 0 14)), .int (nI (σ 0 16)), .int (nI (σ 0 18)), .int (nI (σ 0 20)), .int (nI (σ 0 22)), .float (fl (σ 0 24))])), (a 9, .inr (3, [.int (nI (σ 0 13)), .int (nI (σ 0 15)), .int (nI (σ 0 17 + 1)), .int (nI (σ 0 19)), .int (nI (σ 0 21)), .int (nI (σ 0 23)), .float (fl (σ 0 25))])), (a 10, .inl (G.2.1, 3, .inl (fun q => nI (σ 7 q))))]) [1, 2, 3, 4, 5, 6, 7] [0, 8, 9, 10] 4 k497 k498 k499 k12 k500 rfl (by decide +kernel) ⟨Nat.le_of_ble_eq_true rfl, Nat.le_of_ble_eq_true rfl⟩ ⟨Nat.le_of_ble_eq_true rfl, Nat.le_of_ble_eq_true rfl⟩ dX4_spendTick_91 (Nat.le_of_ble_eq_true rfl) 1 rfl rfl rfl (by decide +kernel) (fun _ => rfl) ([(a 0, .inr (4, [.ref (a 1), .ref (a 8), .ref (a 9), .ref (a 10), .float (fl (σ 0 6)), .float (fl (σ 0 7)), .float (fl (σ 0 8)), .int (nI (σ 0 3)), .int (nI (σ 0 9)), .int (nI (σ 0 10)), .int (nI (σ 0 11))])), (a 8, .inr (3, [.int (nI (σ 0 12)), .int (nI (σ 0 14)), .int (nI (σ 0 16)), .int (nI (σ 0 18)), .int (nI (σ 0 20)), .int (nI (σ 0 22)), .float (fl (σ 0 24))])), (a 9, .inr (3, [.int (nI (σ 0 13)), .int (nI (σ 0 15)), .int (nI (σ 0 17 + 1)), .int (nI (σ 0 19)), .int (nI (σ 0 21)), .int (nI (σ 0 23)), .float (fl (σ 0 25))])), (a 10, .inl (G.2.1, 3, .inl (fun q => nI (σ 7 q))))]) rfl (fun _ => rfl) 11 (fun _ => rfl) (by decide +kernel) (by decide +kernel) (fun _ _ => ?_)
      refine J_st (st' := []) rfl ?_
      refine J_aload_n C rfl dX4_spendTick_94 ?_
      refine J_dup C rfl dX4_spendTick_95 ?_
      refine J_getN C 9 6 in3 rfl rfl (by decide) nfTwoScribes_State_130 rfl dX4_spendTick_96 ?_
      refine J_fload C rfl dX4_spendTick_99 ?_
      refine J_fsub C (by rw [fl_sub (a := σ 0 25) (b := letAt σ (σ 0 4 - 1 - σ 0 15)) (by omega) (by omega)]; exact fl_num (by omega)) dX4_spendTick_101 ?_
      refine J_f (fl_sub (a := σ 0 25) (b := letAt σ (σ 0 4 - 1 - σ 0 15)) (by omega) (by omega) : (FP.fsub (fl (σ 0 25)) (fl (letAt σ (σ 0 4 - 1 - σ 0 15))) : UInt32) = (fl (σ 0 25 - (letAt σ (σ 0 4 - 1 - σ 0 15))))) ?_
      refine J_putN C 9 6 in3 tyX3 tyX3_ok nmX3 ([(a 0, .inr (4, [.ref (a 1), .ref (a 8), .ref (a 9), .ref (a 10), .float (fl (σ 0 6)), .float (fl (σ 0 7)), .float (fl (σ 0 8)), .int (nI (σ 0 3)), .int (nI (σ 0 9)), .int (nI (σ 0 10)), .int (nI (σ 0 11))])), (a 1, .inr (1, [.ref (a 2), .ref (a 3), .ref (a 4), .ref (a 5), .ref (a 6), .ref (a 7), .int (nI (σ 0 4)), .int (nI (σ 0 5))])), (a 2, .inl (G.2.1, 40, .inl (fun q => nI (d q)))), (a 3, .inl (G.2.1, 40, .inl (fun q => nI (σ 2 q)))), (a 4, .inl (G.2.1, 40, .inl (fun q => nI (if q = σ 0 4 - 1 - σ 0 15 then letAt σ (σ 0 4 - 1 - σ 0 15) else σ 3 q)))), (a 5, .inl (G.2.1, 40, .inl (fun q => nI (if q = σ 0 4 - 1 - σ 0 15 then σ 0 3 else σ 6 q)))), (a 6, .inl (G.2.1, 40, .inl (fun q => nI (if q = σ 0 4 - 1 - σ 0 15 then 0 else σ 4 q)))), (a 7, .inl (G.2.1, 40, .inl (fun q => nI (σ 5 q)))), (a 8, .inr (3, [.int (nI (σ 0 12)), .int (nI (σ 0 14)), .int (nI (σ 0 16)), .int (nI (σ 0 18)), .int (nI (σ 0 20)), .int (nI (σ 0 22)), .float (fl (σ 0 24))])), (a 9, .inr (3, [.int (nI (σ 0 13)), .int (nI (σ 0 15)), .int (nI (σ 0 17 + 1)), .int (nI (σ 0 19)), .int (nI (σ 0 21)), .int (nI (σ 0 23)), .float (fl (σ 0 25 - (letAt σ (σ 0 4 - 1 - σ 0 15))))])), (a 10, .inl (G.2.1, 3, .inl (fun q => nI (σ 7 q))))]) rfl rfl (by decide) nfTwoScribes_State_130 rfl rfl rfl (Nat.le_of_ble_eq_true rfl) rfl dX4_spendTick_102 ?_
      refine J_aload_n C rfl dX4_spendTick_105 ?_
      refine J_dup C rfl dX4_spendTick_106 ?_
      refine J_get C 0 5 in4 rfl rfl (by decide) k127 rfl dX4_spendTick_107 ?_
      refine J_fload C rfl dX4_spendTick_110 ?_
      refine J_fadd C (by rw [fl_add (a := σ 0 7) (b := letAt σ (σ 0 4 - 1 - σ 0 15)) (by omega)]; exact fl_num (by omega)) dX4_spendTick_112 ?_
      refine J_f (fl_add (a := σ 0 7) (b := letAt σ (σ 0 4 - 1 - σ 0 15)) (by omega) : (FP.fadd (fl (σ 0 7)) (fl (letAt σ (σ 0 4 - 1 - σ 0 15))) : UInt32) = (fl (σ 0 7 + (letAt σ (σ 0 4 - 1 - σ 0 15))))) ?_
      refine J_put C 0 5 in4 tyX4 tyX4_ok nmX4 ([(a 0, .inr (4, [.ref (a 1), .ref (a 8), .ref (a 9), .ref (a 10), .float (fl (σ 0 6)), .float (fl (σ 0 7 + (letAt σ (σ 0 4 - 1 - σ 0 15)))), .float (fl (σ 0 8)), .int (nI (σ 0 3)), .int (nI (σ 0 9)), .int (nI (σ 0 10)), .int (nI (σ 0 11))])), (a 1, .inr (1, [.ref (a 2), .ref (a 3), .ref (a 4), .ref (a 5), .ref (a 6), .ref (a 7), .int (nI (σ 0 4)), .int (nI (σ 0 5))])), (a 2, .inl (G.2.1, 40, .inl (fun q => nI (d q)))), (a 3, .inl (G.2.1, 40, .inl (fun q => nI (σ 2 q)))), (a 4, .inl (G.2.1, 40, .inl (fun q => nI (if q = σ 0 4 - 1 - σ 0 15 then letAt σ (σ 0 4 - 1 - σ 0 15) else σ 3 q)))), (a 5, .inl (G.2.1, 40, .inl (fun q => nI (if q = σ 0 4 - 1 - σ 0 15 then σ 0 3 else σ 6 q)))), (a 6, .inl (G.2.1, 40, .inl (fun q => nI (if q = σ 0 4 - 1 - σ 0 15 then 0 else σ 4 q)))), (a 7, .inl (G.2.1, 40, .inl (fun q => nI (σ 5 q)))), (a 8, .inr (3, [.int (nI (σ 0 12)), .int (nI (σ 0 14)), .int (nI (σ 0 16)), .int (nI (σ 0 18)), .int (nI (σ 0 20)), .int (nI (σ 0 22)), .float (fl (σ 0 24))])), (a 9, .inr (3, [.int (nI (σ 0 13)), .int (nI (σ 0 15)), .int (nI (σ 0 17 + 1)), .int (nI (σ 0 19)), .int (nI (σ 0 21)), .int (nI (σ 0 23)), .float (fl (σ 0 25 - (letAt σ (σ 0 4 - 1 - σ 0 15))))])), (a 10, .inl (G.2.1, 3, .inl (fun q => nI (σ 7 q))))]) rfl rfl (by decide) k127 rfl rfl rfl (Nat.le_of_ble_eq_true rfl) rfl dX4_spendTick_113 ?_
      refine J_aload_n C rfl dX4_spendTick_116 ?_
      refine J_iconst C 0 (by decide) dX4_spendTick_117 ?_
      refine J_putN C 9 2 in3 tyX3 tyX3_ok nmX3 ([(a 0, .inr (4, [.ref (a 1), .ref (a 8), .ref (a 9), .ref (a 10), .float (fl (σ 0 6)), .float (fl (σ 0 7 + (letAt σ (σ 0 4 - 1 - σ 0 15)))), .float (fl (σ 0 8)), .int (nI (σ 0 3)), .int (nI (σ 0 9)), .int (nI (σ 0 10)), .int (nI (σ 0 11))])), (a 1, .inr (1, [.ref (a 2), .ref (a 3), .ref (a 4), .ref (a 5), .ref (a 6), .ref (a 7), .int (nI (σ 0 4)), .int (nI (σ 0 5))])), (a 2, .inl (G.2.1, 40, .inl (fun q => nI (d q)))), (a 3, .inl (G.2.1, 40, .inl (fun q => nI (σ 2 q)))), (a 4, .inl (G.2.1, 40, .inl (fun q => nI (if q = σ 0 4 - 1 - σ 0 15 then letAt σ (σ 0 4 - 1 - σ 0 15) else σ 3 q)))), (a 5, .inl (G.2.1, 40, .inl (fun q => nI (if q = σ 0 4 - 1 - σ 0 15 then σ 0 3 else σ 6 q)))), (a 6, .inl (G.2.1, 40, .inl (fun q => nI (if q = σ 0 4 - 1 - σ 0 15 then 0 else σ 4 q)))), (a 7, .inl (G.2.1, 40, .inl (fun q => nI (σ 5 q)))), (a 8, .inr (3, [.int (nI (σ 0 12)), .int (nI (σ 0 14)), .int (nI (σ 0 16)), .int (nI (σ 0 18)), .int (nI (σ 0 20)), .int (nI (σ 0 22)), .float (fl (σ 0 24))])), (a 9, .inr (3, [.int (nI (σ 0 13)), .int (nI (σ 0 15)), .int 0, .int (nI (σ 0 19)), .int (nI (σ 0 21)), .int (nI (σ 0 23)), .float (fl (σ 0 25 - (letAt σ (σ 0 4 - 1 - σ 0 15))))])), (a 10, .inl (G.2.1, 3, .inl (fun q => nI (σ 7 q))))]) rfl rfl (by decide) nfTwoScribes_State_94 rfl rfl rfl (Nat.le_of_ble_eq_true rfl) rfl dX4_spendTick_118 ?_
      refine J_aload_n C rfl dX4_spendTick_121 ?_
      refine J_dup C rfl dX4_spendTick_122 ?_
      refine J_getN C 9 1 in3 rfl rfl (by decide) nfTwoScribes_State_74 rfl dX4_spendTick_123 ?_
      refine J_iconst C 1 (by decide) dX4_spendTick_126 ?_
      refine J_iadd C dX4_spendTick_127 ?_
      refine J_i (nI_add (σ 0 15) 1 : ((nI (σ 0 15)) + 1 : Int32) = (nI (σ 0 15 + 1))) ?_
      refine J_putN C 9 1 in3 tyX3 tyX3_ok nmX3 ([(a 0, .inr (4, [.ref (a 1), .ref (a 8), .ref (a 9), .ref (a 10), .float (fl (σ 0 6)), .float (fl (σ 0 7 + (letAt σ (σ 0 4 - 1 - σ 0 15)))), .float (fl (σ 0 8)), .int (nI (σ 0 3)), .int (nI (σ 0 9)), .int (nI (σ 0 10)), .int (nI (σ 0 11))])), (a 1, .inr (1, [.ref (a 2), .ref (a 3), .ref (a 4), .ref (a 5), .ref (a 6), .ref (a 7), .int (nI (σ 0 4)), .int (nI (σ 0 5))])), (a 2, .inl (G.2.1, 40, .inl (fun q => nI (d q)))), (a 3, .inl (G.2.1, 40, .inl (fun q => nI (σ 2 q)))), (a 4, .inl (G.2.1, 40, .inl (fun q => nI (if q = σ 0 4 - 1 - σ 0 15 then letAt σ (σ 0 4 - 1 - σ 0 15) else σ 3 q)))), (a 5, .inl (G.2.1, 40, .inl (fun q => nI (if q = σ 0 4 - 1 - σ 0 15 then σ 0 3 else σ 6 q)))), (a 6, .inl (G.2.1, 40, .inl (fun q => nI (if q = σ 0 4 - 1 - σ 0 15 then 0 else σ 4 q)))), (a 7, .inl (G.2.1, 40, .inl (fun q => nI (σ 5 q)))), (a 8, .inr (3, [.int (nI (σ 0 12)), .int (nI (σ 0 14)), .int (nI (σ 0 16)), .int (nI (σ 0 18)), .int (nI (σ 0 20)), .int (nI (σ 0 22)), .float (fl (σ 0 24))])), (a 9, .inr (3, [.int (nI (σ 0 13)), .int (nI (σ 0 15 + 1)), .int 0, .int (nI (σ 0 19)), .int (nI (σ 0 21)), .int (nI (σ 0 23)), .float (fl (σ 0 25 - (letAt σ (σ 0 4 - 1 - σ 0 15))))])), (a 10, .inl (G.2.1, 3, .inl (fun q => nI (σ 7 q))))]) rfl rfl (by decide) nfTwoScribes_State_74 rfl rfl rfl (Nat.le_of_ble_eq_true rfl) rfl dX4_spendTick_128 ?_
      refine J_aload_n C rfl dX4_spendTick_131 ?_
      refine J_dup C rfl dX4_spendTick_132 ?_
      refine J_get C 0 9 in4 rfl rfl (by decide) k135 rfl dX4_spendTick_133 ?_
      refine J_iconst C 1 (by decide) dX4_spendTick_136 ?_
      refine J_iadd C dX4_spendTick_137 ?_
      refine J_i (nI_add (σ 0 10) 1 : ((nI (σ 0 10)) + 1 : Int32) = (nI (σ 0 10 + 1))) ?_
      refine J_put C 0 9 in4 tyX4 tyX4_ok nmX4 ([(a 0, .inr (4, [.ref (a 1), .ref (a 8), .ref (a 9), .ref (a 10), .float (fl (σ 0 6)), .float (fl (σ 0 7 + (letAt σ (σ 0 4 - 1 - σ 0 15)))), .float (fl (σ 0 8)), .int (nI (σ 0 3)), .int (nI (σ 0 9)), .int (nI (σ 0 10 + 1)), .int (nI (σ 0 11))])), (a 1, .inr (1, [.ref (a 2), .ref (a 3), .ref (a 4), .ref (a 5), .ref (a 6), .ref (a 7), .int (nI (σ 0 4)), .int (nI (σ 0 5))])), (a 2, .inl (G.2.1, 40, .inl (fun q => nI (d q)))), (a 3, .inl (G.2.1, 40, .inl (fun q => nI (σ 2 q)))), (a 4, .inl (G.2.1, 40, .inl (fun q => nI (if q = σ 0 4 - 1 - σ 0 15 then letAt σ (σ 0 4 - 1 - σ 0 15) else σ 3 q)))), (a 5, .inl (G.2.1, 40, .inl (fun q => nI (if q = σ 0 4 - 1 - σ 0 15 then σ 0 3 else σ 6 q)))), (a 6, .inl (G.2.1, 40, .inl (fun q => nI (if q = σ 0 4 - 1 - σ 0 15 then 0 else σ 4 q)))), (a 7, .inl (G.2.1, 40, .inl (fun q => nI (σ 5 q)))), (a 8, .inr (3, [.int (nI (σ 0 12)), .int (nI (σ 0 14)), .int (nI (σ 0 16)), .int (nI (σ 0 18)), .int (nI (σ 0 20)), .int (nI (σ 0 22)), .float (fl (σ 0 24))])), (a 9, .inr (3, [.int (nI (σ 0 13)), .int (nI (σ 0 15 + 1)), .int 0, .int (nI (σ 0 19)), .int (nI (σ 0 21)), .int (nI (σ 0 23)), .float (fl (σ 0 25 - (letAt σ (σ 0 4 - 1 - σ 0 15))))])), (a 10, .inl (G.2.1, 3, .inl (fun q => nI (σ 7 q))))]) rfl rfl (by decide) k135 rfl rfl rfl (Nat.le_of_ble_eq_true rfl) rfl dX4_spendTick_138 ?_
      exact J_vret C hr dX4_spendTick_141 () rfl trivial (by rw [writesF_1, if_neg (by omega), wroteF_1, blotN_1, if_neg (by omega)] <;> rfl)
    · skip
      have c68 := fcv_le_f (a := (σ 0 25)) (b := (8 * (σ 7 1))) c68
      refine J_iconst C 1 (by decide) dX4_spendTick_71 ?_
      refine J_goto C 76 (by decide) dX4_spendTick_72 ?_
      refine J_istore C [(6, .int 1), (5, .float (fl (letAt σ (σ 0 4 - 1 - σ 0 15)))), (4, .int (nI (letAt σ (σ 0 4 - 1 - σ 0 15)))), (3, .int (nI ((up2 σ 0 17 (σ 0 17 + 1)) 0 4 - 1 - (up2 σ 0 17 (σ 0 17 + 1)) 0 15))), (2, .ref (a 9)), (0, .ref (a 0)), (1, .int 1)] (by decide) rfl dX4_spendTick_76 ?_
      refine J_aload_n C rfl dX4_spendTick_78 ?_
      refine J_get C 0 0 in4 rfl rfl (by decide) k117 rfl dX4_spendTick_79 ?_
      refine J_iload_n C rfl dX4_spendTick_82 ?_
      refine J_iload C rfl dX4_spendTick_83 ?_
      refine J_iload C rfl dX4_spendTick_85 ?_
      refine J_aload_n C rfl dX4_spendTick_87 ?_
      refine J_get C 0 7 in4 rfl rfl (by decide) k131 rfl dX4_spendTick_88 ?_
      refine J_callV (as := [.int (nI ((up2 σ 0 17 (σ 0 17 + 1)) 0 4 - 1 - (up2 σ 0 17 (σ 0 17 + 1)) 0 15)), .int (nI (letAt σ (σ 0 4 - 1 - σ 0 15))), .int 1, .int (nI (σ 0 3))]) (rest := []) C (ct_write l G a σ d (σ 0 4 - 1 - σ 0 15) (letAt σ (σ 0 4 - 1 - σ 0 15)) 1 (σ 0 3) (by omega) (by decide)) (fun u => [(a 0, .inr (4, [.ref (a 1), .ref (a 8), .ref (a 9), .ref (a 10), .float (fl (σ 0 6)), .float (fl (σ 0 7)), .float (fl (σ 0 8)), .int (nI (σ 0 3)), .int (nI (σ 0 9)), .int (nI (σ 0 10)), .int (nI (σ 0 11))])), (a 1, .inr (1, [.ref (a 2), .ref (a 3), .ref (a 4), .ref (a 5), .ref (a 6), .ref (a 7), .int (nI (σ 0 4)), .int (nI (σ 0 5))])), (a 2, .inl (G.2.1, 40, .inl (fun q => nI (d q)))), (a 3, .inl (G.2.1, 40, .inl (fun q => nI (σ 2 q)))), (a 4, .inl (G.2.1, 40, .inl (fun q => nI (if q = σ 0 4 - 1 - σ 0 15 then letAt σ (σ 0 4 - 1 - σ 0 15) else σ 3 q)))), (a 5, .inl (G.2.1, 40, .inl (fun q => nI (if q = σ 0 4 - 1 - σ 0 15 then σ 0 3 else σ 6 q)))), (a 6, .inl (G.2.1, 40, .inl (fun q => nI (if q = σ 0 4 - 1 - σ 0 15 then 1 else σ 4 q)))), (a 7, .inl (G.2.1, 40, .inl (fun q => nI (σ 5 q)))), (a 8, .inr (3, [.int (nI (σ 0 12)), .int (nI (σ 0 14)), .int (nI (σ 0 16)), .int (nI (σ 0 18)), .int (nI (σ 0 20)), .int (nI (σ 0 22)), .float (fl (σ 0 24))])), (a 9, .inr (3, [.int (nI (σ 0 13)), .int (nI (σ 0 15)), .int (nI (σ 0 17 + 1)), .int (nI (σ 0 19)), .int (nI (σ 0 21)), .int (nI (σ 0 23)), .float (fl (σ 0 25))])), (a 10, .inl (G.2.1, 3, .inl (fun q => nI (σ 7 q))))]) [1, 2, 3, 4, 5, 6, 7] [0, 8, 9, 10] 4 k497 k498 k499 k12 k500 rfl (by decide +kernel) ⟨Nat.le_of_ble_eq_true rfl, Nat.le_of_ble_eq_true rfl⟩ ⟨Nat.le_of_ble_eq_true rfl, Nat.le_of_ble_eq_true rfl⟩ dX4_spendTick_91 (Nat.le_of_ble_eq_true rfl) 1 rfl rfl rfl (by decide +kernel) (fun _ => rfl) ([(a 0, .inr (4, [.ref (a 1), .ref (a 8), .ref (a 9), .ref (a 10), .float (fl (σ 0 6)), .float (fl (σ 0 7)), .float (fl (σ 0 8)), .int (nI (σ 0 3)), .int (nI (σ 0 9)), .int (nI (σ 0 10)), .int (nI (σ 0 11))])), (a 8, .inr (3, [.int (nI (σ 0 12)), .int (nI (σ 0 14)), .int (nI (σ 0 16)), .int (nI (σ 0 18)), .int (nI (σ 0 20)), .int (nI (σ 0 22)), .float (fl (σ 0 24))])), (a 9, .inr (3, [.int (nI (σ 0 13)), .int (nI (σ 0 15)), .int (nI (σ 0 17 + 1)), .int (nI (σ 0 19)), .int (nI (σ 0 21)), .int (nI (σ 0 23)), .float (fl (σ 0 25))])), (a 10, .inl (G.2.1, 3, .inl (fun q => nI (σ 7 q))))]) rfl (fun _ => rfl) 11 (fun _ => rfl) (by decide +kernel) (by decide +kernel) (fun _ _ => ?_)
      refine J_st (st' := []) rfl ?_
      refine J_aload_n C rfl dX4_spendTick_94 ?_
      refine J_dup C rfl dX4_spendTick_95 ?_
      refine J_getN C 9 6 in3 rfl rfl (by decide) nfTwoScribes_State_130 rfl dX4_spendTick_96 ?_
      refine J_fload C rfl dX4_spendTick_99 ?_
      refine J_fsub C (by rw [fl_sub (a := σ 0 25) (b := letAt σ (σ 0 4 - 1 - σ 0 15)) (by omega) (by omega)]; exact fl_num (by omega)) dX4_spendTick_101 ?_
      refine J_f (fl_sub (a := σ 0 25) (b := letAt σ (σ 0 4 - 1 - σ 0 15)) (by omega) (by omega) : (FP.fsub (fl (σ 0 25)) (fl (letAt σ (σ 0 4 - 1 - σ 0 15))) : UInt32) = (fl (σ 0 25 - (letAt σ (σ 0 4 - 1 - σ 0 15))))) ?_
      refine J_putN C 9 6 in3 tyX3 tyX3_ok nmX3 ([(a 0, .inr (4, [.ref (a 1), .ref (a 8), .ref (a 9), .ref (a 10), .float (fl (σ 0 6)), .float (fl (σ 0 7)), .float (fl (σ 0 8)), .int (nI (σ 0 3)), .int (nI (σ 0 9)), .int (nI (σ 0 10)), .int (nI (σ 0 11))])), (a 1, .inr (1, [.ref (a 2), .ref (a 3), .ref (a 4), .ref (a 5), .ref (a 6), .ref (a 7), .int (nI (σ 0 4)), .int (nI (σ 0 5))])), (a 2, .inl (G.2.1, 40, .inl (fun q => nI (d q)))), (a 3, .inl (G.2.1, 40, .inl (fun q => nI (σ 2 q)))), (a 4, .inl (G.2.1, 40, .inl (fun q => nI (if q = σ 0 4 - 1 - σ 0 15 then letAt σ (σ 0 4 - 1 - σ 0 15) else σ 3 q)))), (a 5, .inl (G.2.1, 40, .inl (fun q => nI (if q = σ 0 4 - 1 - σ 0 15 then σ 0 3 else σ 6 q)))), (a 6, .inl (G.2.1, 40, .inl (fun q => nI (if q = σ 0 4 - 1 - σ 0 15 then 1 else σ 4 q)))), (a 7, .inl (G.2.1, 40, .inl (fun q => nI (σ 5 q)))), (a 8, .inr (3, [.int (nI (σ 0 12)), .int (nI (σ 0 14)), .int (nI (σ 0 16)), .int (nI (σ 0 18)), .int (nI (σ 0 20)), .int (nI (σ 0 22)), .float (fl (σ 0 24))])), (a 9, .inr (3, [.int (nI (σ 0 13)), .int (nI (σ 0 15)), .int (nI (σ 0 17 + 1)), .int (nI (σ 0 19)), .int (nI (σ 0 21)), .int (nI (σ 0 23)), .float (fl (σ 0 25 - (letAt σ (σ 0 4 - 1 - σ 0 15))))])), (a 10, .inl (G.2.1, 3, .inl (fun q => nI (σ 7 q))))]) rfl rfl (by decide) nfTwoScribes_State_130 rfl rfl rfl (Nat.le_of_ble_eq_true rfl) rfl dX4_spendTick_102 ?_
      refine J_aload_n C rfl dX4_spendTick_105 ?_
      refine J_dup C rfl dX4_spendTick_106 ?_
      refine J_get C 0 5 in4 rfl rfl (by decide) k127 rfl dX4_spendTick_107 ?_
      refine J_fload C rfl dX4_spendTick_110 ?_
      refine J_fadd C (by rw [fl_add (a := σ 0 7) (b := letAt σ (σ 0 4 - 1 - σ 0 15)) (by omega)]; exact fl_num (by omega)) dX4_spendTick_112 ?_
      refine J_f (fl_add (a := σ 0 7) (b := letAt σ (σ 0 4 - 1 - σ 0 15)) (by omega) : (FP.fadd (fl (σ 0 7)) (fl (letAt σ (σ 0 4 - 1 - σ 0 15))) : UInt32) = (fl (σ 0 7 + (letAt σ (σ 0 4 - 1 - σ 0 15))))) ?_
      refine J_put C 0 5 in4 tyX4 tyX4_ok nmX4 ([(a 0, .inr (4, [.ref (a 1), .ref (a 8), .ref (a 9), .ref (a 10), .float (fl (σ 0 6)), .float (fl (σ 0 7 + (letAt σ (σ 0 4 - 1 - σ 0 15)))), .float (fl (σ 0 8)), .int (nI (σ 0 3)), .int (nI (σ 0 9)), .int (nI (σ 0 10)), .int (nI (σ 0 11))])), (a 1, .inr (1, [.ref (a 2), .ref (a 3), .ref (a 4), .ref (a 5), .ref (a 6), .ref (a 7), .int (nI (σ 0 4)), .int (nI (σ 0 5))])), (a 2, .inl (G.2.1, 40, .inl (fun q => nI (d q)))), (a 3, .inl (G.2.1, 40, .inl (fun q => nI (σ 2 q)))), (a 4, .inl (G.2.1, 40, .inl (fun q => nI (if q = σ 0 4 - 1 - σ 0 15 then letAt σ (σ 0 4 - 1 - σ 0 15) else σ 3 q)))), (a 5, .inl (G.2.1, 40, .inl (fun q => nI (if q = σ 0 4 - 1 - σ 0 15 then σ 0 3 else σ 6 q)))), (a 6, .inl (G.2.1, 40, .inl (fun q => nI (if q = σ 0 4 - 1 - σ 0 15 then 1 else σ 4 q)))), (a 7, .inl (G.2.1, 40, .inl (fun q => nI (σ 5 q)))), (a 8, .inr (3, [.int (nI (σ 0 12)), .int (nI (σ 0 14)), .int (nI (σ 0 16)), .int (nI (σ 0 18)), .int (nI (σ 0 20)), .int (nI (σ 0 22)), .float (fl (σ 0 24))])), (a 9, .inr (3, [.int (nI (σ 0 13)), .int (nI (σ 0 15)), .int (nI (σ 0 17 + 1)), .int (nI (σ 0 19)), .int (nI (σ 0 21)), .int (nI (σ 0 23)), .float (fl (σ 0 25 - (letAt σ (σ 0 4 - 1 - σ 0 15))))])), (a 10, .inl (G.2.1, 3, .inl (fun q => nI (σ 7 q))))]) rfl rfl (by decide) k127 rfl rfl rfl (Nat.le_of_ble_eq_true rfl) rfl dX4_spendTick_113 ?_
      refine J_aload_n C rfl dX4_spendTick_116 ?_
      refine J_iconst C 0 (by decide) dX4_spendTick_117 ?_
      refine J_putN C 9 2 in3 tyX3 tyX3_ok nmX3 ([(a 0, .inr (4, [.ref (a 1), .ref (a 8), .ref (a 9), .ref (a 10), .float (fl (σ 0 6)), .float (fl (σ 0 7 + (letAt σ (σ 0 4 - 1 - σ 0 15)))), .float (fl (σ 0 8)), .int (nI (σ 0 3)), .int (nI (σ 0 9)), .int (nI (σ 0 10)), .int (nI (σ 0 11))])), (a 1, .inr (1, [.ref (a 2), .ref (a 3), .ref (a 4), .ref (a 5), .ref (a 6), .ref (a 7), .int (nI (σ 0 4)), .int (nI (σ 0 5))])), (a 2, .inl (G.2.1, 40, .inl (fun q => nI (d q)))), (a 3, .inl (G.2.1, 40, .inl (fun q => nI (σ 2 q)))), (a 4, .inl (G.2.1, 40, .inl (fun q => nI (if q = σ 0 4 - 1 - σ 0 15 then letAt σ (σ 0 4 - 1 - σ 0 15) else σ 3 q)))), (a 5, .inl (G.2.1, 40, .inl (fun q => nI (if q = σ 0 4 - 1 - σ 0 15 then σ 0 3 else σ 6 q)))), (a 6, .inl (G.2.1, 40, .inl (fun q => nI (if q = σ 0 4 - 1 - σ 0 15 then 1 else σ 4 q)))), (a 7, .inl (G.2.1, 40, .inl (fun q => nI (σ 5 q)))), (a 8, .inr (3, [.int (nI (σ 0 12)), .int (nI (σ 0 14)), .int (nI (σ 0 16)), .int (nI (σ 0 18)), .int (nI (σ 0 20)), .int (nI (σ 0 22)), .float (fl (σ 0 24))])), (a 9, .inr (3, [.int (nI (σ 0 13)), .int (nI (σ 0 15)), .int 0, .int (nI (σ 0 19)), .int (nI (σ 0 21)), .int (nI (σ 0 23)), .float (fl (σ 0 25 - (letAt σ (σ 0 4 - 1 - σ 0 15))))])), (a 10, .inl (G.2.1, 3, .inl (fun q => nI (σ 7 q))))]) rfl rfl (by decide) nfTwoScribes_State_94 rfl rfl rfl (Nat.le_of_ble_eq_true rfl) rfl dX4_spendTick_118 ?_
      refine J_aload_n C rfl dX4_spendTick_121 ?_
      refine J_dup C rfl dX4_spendTick_122 ?_
      refine J_getN C 9 1 in3 rfl rfl (by decide) nfTwoScribes_State_74 rfl dX4_spendTick_123 ?_
      refine J_iconst C 1 (by decide) dX4_spendTick_126 ?_
      refine J_iadd C dX4_spendTick_127 ?_
      refine J_i (nI_add (σ 0 15) 1 : ((nI (σ 0 15)) + 1 : Int32) = (nI (σ 0 15 + 1))) ?_
      refine J_putN C 9 1 in3 tyX3 tyX3_ok nmX3 ([(a 0, .inr (4, [.ref (a 1), .ref (a 8), .ref (a 9), .ref (a 10), .float (fl (σ 0 6)), .float (fl (σ 0 7 + (letAt σ (σ 0 4 - 1 - σ 0 15)))), .float (fl (σ 0 8)), .int (nI (σ 0 3)), .int (nI (σ 0 9)), .int (nI (σ 0 10)), .int (nI (σ 0 11))])), (a 1, .inr (1, [.ref (a 2), .ref (a 3), .ref (a 4), .ref (a 5), .ref (a 6), .ref (a 7), .int (nI (σ 0 4)), .int (nI (σ 0 5))])), (a 2, .inl (G.2.1, 40, .inl (fun q => nI (d q)))), (a 3, .inl (G.2.1, 40, .inl (fun q => nI (σ 2 q)))), (a 4, .inl (G.2.1, 40, .inl (fun q => nI (if q = σ 0 4 - 1 - σ 0 15 then letAt σ (σ 0 4 - 1 - σ 0 15) else σ 3 q)))), (a 5, .inl (G.2.1, 40, .inl (fun q => nI (if q = σ 0 4 - 1 - σ 0 15 then σ 0 3 else σ 6 q)))), (a 6, .inl (G.2.1, 40, .inl (fun q => nI (if q = σ 0 4 - 1 - σ 0 15 then 1 else σ 4 q)))), (a 7, .inl (G.2.1, 40, .inl (fun q => nI (σ 5 q)))), (a 8, .inr (3, [.int (nI (σ 0 12)), .int (nI (σ 0 14)), .int (nI (σ 0 16)), .int (nI (σ 0 18)), .int (nI (σ 0 20)), .int (nI (σ 0 22)), .float (fl (σ 0 24))])), (a 9, .inr (3, [.int (nI (σ 0 13)), .int (nI (σ 0 15 + 1)), .int 0, .int (nI (σ 0 19)), .int (nI (σ 0 21)), .int (nI (σ 0 23)), .float (fl (σ 0 25 - (letAt σ (σ 0 4 - 1 - σ 0 15))))])), (a 10, .inl (G.2.1, 3, .inl (fun q => nI (σ 7 q))))]) rfl rfl (by decide) nfTwoScribes_State_74 rfl rfl rfl (Nat.le_of_ble_eq_true rfl) rfl dX4_spendTick_128 ?_
      refine J_aload_n C rfl dX4_spendTick_131 ?_
      refine J_dup C rfl dX4_spendTick_132 ?_
      refine J_get C 0 9 in4 rfl rfl (by decide) k135 rfl dX4_spendTick_133 ?_
      refine J_iconst C 1 (by decide) dX4_spendTick_136 ?_
      refine J_iadd C dX4_spendTick_137 ?_
      refine J_i (nI_add (σ 0 10) 1 : ((nI (σ 0 10)) + 1 : Int32) = (nI (σ 0 10 + 1))) ?_
      refine J_put C 0 9 in4 tyX4 tyX4_ok nmX4 ([(a 0, .inr (4, [.ref (a 1), .ref (a 8), .ref (a 9), .ref (a 10), .float (fl (σ 0 6)), .float (fl (σ 0 7 + (letAt σ (σ 0 4 - 1 - σ 0 15)))), .float (fl (σ 0 8)), .int (nI (σ 0 3)), .int (nI (σ 0 9)), .int (nI (σ 0 10 + 1)), .int (nI (σ 0 11))])), (a 1, .inr (1, [.ref (a 2), .ref (a 3), .ref (a 4), .ref (a 5), .ref (a 6), .ref (a 7), .int (nI (σ 0 4)), .int (nI (σ 0 5))])), (a 2, .inl (G.2.1, 40, .inl (fun q => nI (d q)))), (a 3, .inl (G.2.1, 40, .inl (fun q => nI (σ 2 q)))), (a 4, .inl (G.2.1, 40, .inl (fun q => nI (if q = σ 0 4 - 1 - σ 0 15 then letAt σ (σ 0 4 - 1 - σ 0 15) else σ 3 q)))), (a 5, .inl (G.2.1, 40, .inl (fun q => nI (if q = σ 0 4 - 1 - σ 0 15 then σ 0 3 else σ 6 q)))), (a 6, .inl (G.2.1, 40, .inl (fun q => nI (if q = σ 0 4 - 1 - σ 0 15 then 1 else σ 4 q)))), (a 7, .inl (G.2.1, 40, .inl (fun q => nI (σ 5 q)))), (a 8, .inr (3, [.int (nI (σ 0 12)), .int (nI (σ 0 14)), .int (nI (σ 0 16)), .int (nI (σ 0 18)), .int (nI (σ 0 20)), .int (nI (σ 0 22)), .float (fl (σ 0 24))])), (a 9, .inr (3, [.int (nI (σ 0 13)), .int (nI (σ 0 15 + 1)), .int 0, .int (nI (σ 0 19)), .int (nI (σ 0 21)), .int (nI (σ 0 23)), .float (fl (σ 0 25 - (letAt σ (σ 0 4 - 1 - σ 0 15))))])), (a 10, .inl (G.2.1, 3, .inl (fun q => nI (σ 7 q))))]) rfl rfl (by decide) k135 rfl rfl rfl (Nat.le_of_ble_eq_true rfl) rfl dX4_spendTick_138 ?_
      exact J_vret C hr dX4_spendTick_141 () rfl trivial (by rw [writesF_1, if_neg (by omega), wroteF_1, blotN_1, if_pos (by omega)] <;> rfl)
  · skip
    have c24 := cv_ge_f (a := (σ 0 17 + 1)) (b := (σ 0 13)) (by omega) (by omega) c24
    exact J_vret C hr dX4_spendTick_27 () rfl trivial (by rw [writesF_1, if_pos (by omega)] <;> rfl)

set_option maxHeartbeats 4000000 in
set_option maxRecDepth 100000 in
theorem ct_takeTurn0 (l : Launch) (G : GT) (a : Nat → Nat) (σ : AS) (d : Nat → Nat)  (hI : Inv σ) (hD : DOK σ d) : Ct (S := Unit) l G NoX yX4_takeTurn (Wy yX4_takeTurn cX4_takeTurn 4 ((Option.some Jvm.ClassFile.FieldType.int))) { frames := 3, cells := 0, slots := 0, locals := 72 } [.ref (a 0), .int 0] (stW G a σ d) (fun u => True) (fun u => some (.int (nI (doesN σ 0)))) (fun u => stW G a (goesF σ 0 (σ 0 3)) d) := by
  refine Ct.of (by decide) (Nat.le_of_ble_eq_true rfl) (fun p e s m args below meth c C hr hnm hX => ?_)
  have h40 := hI.a
  have hle := doesN_le σ 0
  refine J_aload_n C rfl dX4_takeTurn_0 ?_
  refine J_iload_n C rfl dX4_takeTurn_1 ?_
  refine J_callV (as := [.int 0]) (rest := []) C (ct_scribeOf0 l G a σ d) (fun u => stW G a σ d) [0, 1, 2, 3, 4, 5, 6, 7, 8, 9, 10] [] 1 k371 k372 k373 k11 k374 rfl (by decide +kernel) ⟨Nat.le_of_ble_eq_true rfl, Nat.le_of_ble_eq_true rfl⟩ ⟨Nat.le_of_ble_eq_true rfl, Nat.le_of_ble_eq_true rfl⟩ dX4_takeTurn_2 (Nat.le_of_ble_eq_true rfl) 0 rfl rfl rfl (by decide +kernel) (fun _ => rfl) ([]) rfl (fun _ => rfl) 11 (fun _ => rfl) (by decide +kernel) (by decide +kernel) (fun _ _ => ?_)
  refine J_st (st' := [.ref (a 8)]) rfl ?_
  refine J_astore_n C [(2, .ref (a 8)), (0, .ref (a 0)), (1, .int 0)] (by decide) rfl dX4_takeTurn_5 ?_
  refine J_aload_n C rfl dX4_takeTurn_6 ?_
  refine J_iload_n C rfl dX4_takeTurn_7 ?_
  refine J_callV (as := [.int 0]) (rest := []) C (ct_deedOf0 l G a σ d hI hD) (fun u => stW G a σ d) [0, 1, 2, 3, 4, 5, 6, 7, 8, 9, 10] [] 1 k487 k488 k489 k11 k490 rfl (by decide +kernel) ⟨Nat.le_of_ble_eq_true rfl, Nat.le_of_ble_eq_true rfl⟩ ⟨Nat.le_of_ble_eq_true rfl, Nat.le_of_ble_eq_true rfl⟩ dX4_takeTurn_8 (Nat.le_of_ble_eq_true rfl) 0 rfl rfl rfl (by decide +kernel) (fun _ => rfl) ([]) rfl (fun _ => rfl) 11 (fun _ => rfl) (by decide +kernel) (by decide +kernel) (fun _ _ => ?_)
  refine J_st (st' := [.int (nI (doesN σ 0))]) rfl ?_
  refine J_istore_n C [(3, .int (nI (doesN σ 0))), (2, .ref (a 8)), (0, .ref (a 0)), (1, .int 0)] (by decide) rfl dX4_takeTurn_11 ?_
  refine J_iload_n C rfl dX4_takeTurn_12 ?_
  rcases (show doesN σ 0 = 0 ∨ doesN σ 0 = 1 ∨ doesN σ 0 = 2 ∨ doesN σ 0 = 3 ∨ doesN σ 0 = 4 ∨ doesN σ 0 = 5 by omega) with hd | hd | hd | hd | hd | hd
  · skip
    rw [hd]
    refine J_tableIn C 48 (by decide) (by decide) rfl (by decide) dX4_takeTurn_13 ?_
    refine J_aload_n C rfl dX4_takeTurn_48 ?_
    refine J_iload_n C rfl dX4_takeTurn_49 ?_
    refine J_callV (as := [.int 0]) (rest := []) C (ct_spend0 l G a σ d hI hD ((does0_0 hI hd).1) ((does0_0 hI hd).2.1)) (fun u => stW G a (writesF σ 0 (σ 0 3)) d) [0, 1, 2, 3, 4, 5, 6, 7, 8, 9, 10] [] 1 k492 k494 k7 k11 k495 rfl (by decide +kernel) ⟨Nat.le_of_ble_eq_true rfl, Nat.le_of_ble_eq_true rfl⟩ ⟨Nat.le_of_ble_eq_true rfl, Nat.le_of_ble_eq_true rfl⟩ dX4_takeTurn_50 (Nat.le_of_ble_eq_true rfl) 0 rfl rfl rfl (by decide +kernel) (fun _ => rfl) ([]) rfl (fun _ => rfl) 11 (fun _ => rfl) (by decide +kernel) (by decide +kernel) (fun _ _ => ?_)
    refine J_st (st' := []) rfl ?_
    refine J_goto C 92 (by decide) dX4_takeTurn_53 ?_
    refine J_iload_n C rfl dX4_takeTurn_92 ?_
    exact J_zret C hr rfl dX4_takeTurn_93 () rfl trivial (by rw [goesF_0, hd] <;> rfl)
  · skip
    rw [hd]
    refine J_tableIn C 56 (by decide) (by decide) rfl (by decide) dX4_takeTurn_13 ?_
    refine J_aload_n C rfl dX4_takeTurn_56 ?_
    refine J_aload_n C rfl dX4_takeTurn_57 ?_
    refine J_callV (as := [.ref (a 8)]) (rest := []) C (ct_goOn0 l G a σ d hI (does1_0 hd)) (fun u => stW G a (dipsF σ 0) d) [0, 1, 2, 3, 4, 5, 6, 7, 8, 9, 10] [] 1 k501 k503 k8 k11 k504 rfl (by decide +kernel) ⟨Nat.le_of_ble_eq_true rfl, Nat.le_of_ble_eq_true rfl⟩ ⟨Nat.le_of_ble_eq_true rfl, Nat.le_of_ble_eq_true rfl⟩ dX4_takeTurn_58 (Nat.le_of_ble_eq_true rfl) 0 rfl rfl rfl (by decide +kernel) (fun _ => rfl) ([]) rfl (fun _ => rfl) 11 (fun _ => rfl) (by decide +kernel) (by decide +kernel) (fun _ _ => ?_)
    refine J_st (st' := []) rfl ?_
    refine J_goto C 92 (by decide) dX4_takeTurn_61 ?_
    refine J_iload_n C rfl dX4_takeTurn_92 ?_
    exact J_zret C hr rfl dX4_takeTurn_93 () rfl trivial (by rw [goesF_0, hd] <;> rfl)
  · skip
    rw [hd]
    refine J_tableIn C 64 (by decide) (by decide) rfl (by decide) dX4_takeTurn_13 ?_
    refine J_aload_n C rfl dX4_takeTurn_64 ?_
    refine J_aload_n C rfl dX4_takeTurn_65 ?_
    refine J_get C 0 3 in4 rfl rfl (by decide) k123 rfl dX4_takeTurn_66 ?_
    refine J_iconst C 0 (by decide) dX4_takeTurn_69 ?_
    refine J_callSN (as := [.ref (a 10), .int 0]) (rest := [.ref (a 8)]) C (ct_at l G (a 10) 3 (fun q => nI (σ 7 q)) 0 (by omega) (by decide)) (fun u => stW G a σ d) [10] [0, 1, 2, 3, 4, 5, 6, 7, 8, 9] 2 nmTwoScribes_State_100 k340 k10 k341 rfl (by decide +kernel) ⟨Nat.le_of_ble_eq_true rfl, Nat.le_of_ble_eq_true rfl⟩ ⟨Nat.le_of_ble_eq_true rfl, Nat.le_of_ble_eq_true rfl⟩ dX4_takeTurn_70 (Nat.le_of_ble_eq_true rfl) rfl (by decide +kernel) (fun _ => rfl) ([(a 0, .inr (4, [.ref (a 1), .ref (a 8), .ref (a 9), .ref (a 10), .float (fl (σ 0 6)), .float (fl (σ 0 7)), .float (fl (σ 0 8)), .int (nI (σ 0 3)), .int (nI (σ 0 9)), .int (nI (σ 0 10)), .int (nI (σ 0 11))])), (a 1, .inr (1, [.ref (a 2), .ref (a 3), .ref (a 4), .ref (a 5), .ref (a 6), .ref (a 7), .int (nI (σ 0 4)), .int (nI (σ 0 5))])), (a 2, .inl (G.2.1, 40, .inl (fun q => nI (d q)))), (a 3, .inl (G.2.1, 40, .inl (fun q => nI (σ 2 q)))), (a 4, .inl (G.2.1, 40, .inl (fun q => nI (σ 3 q)))), (a 5, .inl (G.2.1, 40, .inl (fun q => nI (σ 6 q)))), (a 6, .inl (G.2.1, 40, .inl (fun q => nI (σ 4 q)))), (a 7, .inl (G.2.1, 40, .inl (fun q => nI (σ 5 q)))), (a 8, .inr (3, [.int (nI (σ 0 12)), .int (nI (σ 0 14)), .int (nI (σ 0 16)), .int (nI (σ 0 18)), .int (nI (σ 0 20)), .int (nI (σ 0 22)), .float (fl (σ 0 24))])), (a 9, .inr (3, [.int (nI (σ 0 13)), .int (nI (σ 0 15)), .int (nI (σ 0 17)), .int (nI (σ 0 19)), .int (nI (σ 0 21)), .int (nI (σ 0 23)), .float (fl (σ 0 25))]))]) rfl (fun _ => rfl) 11 (fun _ => rfl) (by decide +kernel) (by decide +kernel) (fun _ _ => ?_)
    refine J_st (st' := [.int (nI (σ 7 0)), .ref (a 8)]) rfl ?_
    refine J_putN C 8 3 in3 tyX3 tyX3_ok nmX3 ([(a 0, .inr (4, [.ref (a 1), .ref (a 8), .ref (a 9), .ref (a 10), .float (fl (σ 0 6)), .float (fl (σ 0 7)), .float (fl (σ 0 8)), .int (nI (σ 0 3)), .int (nI (σ 0 9)), .int (nI (σ 0 10)), .int (nI (σ 0 11))])), (a 1, .inr (1, [.ref (a 2), .ref (a 3), .ref (a 4), .ref (a 5), .ref (a 6), .ref (a 7), .int (nI (σ 0 4)), .int (nI (σ 0 5))])), (a 2, .inl (G.2.1, 40, .inl (fun q => nI (d q)))), (a 3, .inl (G.2.1, 40, .inl (fun q => nI (σ 2 q)))), (a 4, .inl (G.2.1, 40, .inl (fun q => nI (σ 3 q)))), (a 5, .inl (G.2.1, 40, .inl (fun q => nI (σ 6 q)))), (a 6, .inl (G.2.1, 40, .inl (fun q => nI (σ 4 q)))), (a 7, .inl (G.2.1, 40, .inl (fun q => nI (σ 5 q)))), (a 8, .inr (3, [.int (nI (σ 0 12)), .int (nI (σ 0 14)), .int (nI (σ 0 16)), .int (nI (σ 7 0)), .int (nI (σ 0 20)), .int (nI (σ 0 22)), .float (fl (σ 0 24))])), (a 9, .inr (3, [.int (nI (σ 0 13)), .int (nI (σ 0 15)), .int (nI (σ 0 17)), .int (nI (σ 0 19)), .int (nI (σ 0 21)), .int (nI (σ 0 23)), .float (fl (σ 0 25))])), (a 10, .inl (G.2.1, 3, .inl (fun q => nI (σ 7 q))))]) rfl rfl (by decide) nfTwoScribes_State_127 rfl rfl rfl (Nat.le_of_ble_eq_true rfl) rfl dX4_takeTurn_73 ?_
    refine J_goto C 92 (by decide) dX4_takeTurn_76 ?_
    refine J_iload_n C rfl dX4_takeTurn_92 ?_
    exact J_zret C hr rfl dX4_takeTurn_93 () rfl trivial (by rw [goesF_0, hd] <;> rfl)
  · skip
    rw [hd]
    refine J_tableIn C 79 (by decide) (by decide) rfl (by decide) dX4_takeTurn_13 ?_
    refine J_aload_n C rfl dX4_takeTurn_79 ?_
    refine J_dup C rfl dX4_takeTurn_80 ?_
    refine J_getN C 8 5 in3 rfl rfl (by decide) nfTwoScribes_State_145 rfl dX4_takeTurn_81 ?_
    refine J_iconst C 1 (by decide) dX4_takeTurn_84 ?_
    refine J_iadd C dX4_takeTurn_85 ?_
    refine J_i (nI_add (σ 0 22) 1 : ((nI (σ 0 22)) + 1 : Int32) = (nI (σ 0 22 + 1))) ?_
    refine J_putN C 8 5 in3 tyX3 tyX3_ok nmX3 ([(a 0, .inr (4, [.ref (a 1), .ref (a 8), .ref (a 9), .ref (a 10), .float (fl (σ 0 6)), .float (fl (σ 0 7)), .float (fl (σ 0 8)), .int (nI (σ 0 3)), .int (nI (σ 0 9)), .int (nI (σ 0 10)), .int (nI (σ 0 11))])), (a 1, .inr (1, [.ref (a 2), .ref (a 3), .ref (a 4), .ref (a 5), .ref (a 6), .ref (a 7), .int (nI (σ 0 4)), .int (nI (σ 0 5))])), (a 2, .inl (G.2.1, 40, .inl (fun q => nI (d q)))), (a 3, .inl (G.2.1, 40, .inl (fun q => nI (σ 2 q)))), (a 4, .inl (G.2.1, 40, .inl (fun q => nI (σ 3 q)))), (a 5, .inl (G.2.1, 40, .inl (fun q => nI (σ 6 q)))), (a 6, .inl (G.2.1, 40, .inl (fun q => nI (σ 4 q)))), (a 7, .inl (G.2.1, 40, .inl (fun q => nI (σ 5 q)))), (a 8, .inr (3, [.int (nI (σ 0 12)), .int (nI (σ 0 14)), .int (nI (σ 0 16)), .int (nI (σ 0 18)), .int (nI (σ 0 20)), .int (nI (σ 0 22 + 1)), .float (fl (σ 0 24))])), (a 9, .inr (3, [.int (nI (σ 0 13)), .int (nI (σ 0 15)), .int (nI (σ 0 17)), .int (nI (σ 0 19)), .int (nI (σ 0 21)), .int (nI (σ 0 23)), .float (fl (σ 0 25))])), (a 10, .inl (G.2.1, 3, .inl (fun q => nI (σ 7 q))))]) rfl rfl (by decide) nfTwoScribes_State_145 rfl rfl rfl (Nat.le_of_ble_eq_true rfl) rfl dX4_takeTurn_86 ?_
    refine J_goto C 92 (by decide) dX4_takeTurn_89 ?_
    refine J_iload_n C rfl dX4_takeTurn_92 ?_
    exact J_zret C hr rfl dX4_takeTurn_93 () rfl trivial (by rw [goesF_0, hd] <;> rfl)
  · skip
    rw [hd]
    refine J_tableIn C 79 (by decide) (by decide) rfl (by decide) dX4_takeTurn_13 ?_
    refine J_aload_n C rfl dX4_takeTurn_79 ?_
    refine J_dup C rfl dX4_takeTurn_80 ?_
    refine J_getN C 8 5 in3 rfl rfl (by decide) nfTwoScribes_State_145 rfl dX4_takeTurn_81 ?_
    refine J_iconst C 1 (by decide) dX4_takeTurn_84 ?_
    refine J_iadd C dX4_takeTurn_85 ?_
    refine J_i (nI_add (σ 0 22) 1 : ((nI (σ 0 22)) + 1 : Int32) = (nI (σ 0 22 + 1))) ?_
    refine J_putN C 8 5 in3 tyX3 tyX3_ok nmX3 ([(a 0, .inr (4, [.ref (a 1), .ref (a 8), .ref (a 9), .ref (a 10), .float (fl (σ 0 6)), .float (fl (σ 0 7)), .float (fl (σ 0 8)), .int (nI (σ 0 3)), .int (nI (σ 0 9)), .int (nI (σ 0 10)), .int (nI (σ 0 11))])), (a 1, .inr (1, [.ref (a 2), .ref (a 3), .ref (a 4), .ref (a 5), .ref (a 6), .ref (a 7), .int (nI (σ 0 4)), .int (nI (σ 0 5))])), (a 2, .inl (G.2.1, 40, .inl (fun q => nI (d q)))), (a 3, .inl (G.2.1, 40, .inl (fun q => nI (σ 2 q)))), (a 4, .inl (G.2.1, 40, .inl (fun q => nI (σ 3 q)))), (a 5, .inl (G.2.1, 40, .inl (fun q => nI (σ 6 q)))), (a 6, .inl (G.2.1, 40, .inl (fun q => nI (σ 4 q)))), (a 7, .inl (G.2.1, 40, .inl (fun q => nI (σ 5 q)))), (a 8, .inr (3, [.int (nI (σ 0 12)), .int (nI (σ 0 14)), .int (nI (σ 0 16)), .int (nI (σ 0 18)), .int (nI (σ 0 20)), .int (nI (σ 0 22 + 1)), .float (fl (σ 0 24))])), (a 9, .inr (3, [.int (nI (σ 0 13)), .int (nI (σ 0 15)), .int (nI (σ 0 17)), .int (nI (σ 0 19)), .int (nI (σ 0 21)), .int (nI (σ 0 23)), .float (fl (σ 0 25))])), (a 10, .inl (G.2.1, 3, .inl (fun q => nI (σ 7 q))))]) rfl rfl (by decide) nfTwoScribes_State_145 rfl rfl rfl (Nat.le_of_ble_eq_true rfl) rfl dX4_takeTurn_86 ?_
    refine J_goto C 92 (by decide) dX4_takeTurn_89 ?_
    refine J_iload_n C rfl dX4_takeTurn_92 ?_
    exact J_zret C hr rfl dX4_takeTurn_93 () rfl trivial (by rw [goesF_0, hd] <;> rfl)
  · skip
    rw [hd]
    refine J_tableOut C 92 (by decide) (by decide) dX4_takeTurn_13 ?_
    refine J_iload_n C rfl dX4_takeTurn_92 ?_
    exact J_zret C hr rfl dX4_takeTurn_93 () rfl trivial (by rw [goesF_0, hd] <;> rfl)

set_option maxHeartbeats 4000000 in
set_option maxRecDepth 100000 in
theorem ct_takeTurn1 (l : Launch) (G : GT) (a : Nat → Nat) (σ : AS) (d : Nat → Nat)  (hI : Inv σ) (hD : DOK σ d) : Ct (S := Unit) l G NoX yX4_takeTurn (Wy yX4_takeTurn cX4_takeTurn 4 ((Option.some Jvm.ClassFile.FieldType.int))) { frames := 3, cells := 0, slots := 0, locals := 72 } [.ref (a 0), .int 1] (stW G a σ d) (fun u => True) (fun u => some (.int (nI (doesN σ 1)))) (fun u => stW G a (goesF σ 1 (σ 0 3)) d) := by
  refine Ct.of (by decide) (Nat.le_of_ble_eq_true rfl) (fun p e s m args below meth c C hr hnm hX => ?_)
  have h40 := hI.a
  have hle := doesN_le σ 1
  refine J_aload_n C rfl dX4_takeTurn_0 ?_
  refine J_iload_n C rfl dX4_takeTurn_1 ?_
  refine J_callV (as := [.int 1]) (rest := []) C (ct_scribeOf1 l G a σ d) (fun u => stW G a σ d) [0, 1, 2, 3, 4, 5, 6, 7, 8, 9, 10] [] 1 k371 k372 k373 k11 k374 rfl (by decide +kernel) ⟨Nat.le_of_ble_eq_true rfl, Nat.le_of_ble_eq_true rfl⟩ ⟨Nat.le_of_ble_eq_true rfl, Nat.le_of_ble_eq_true rfl⟩ dX4_takeTurn_2 (Nat.le_of_ble_eq_true rfl) 0 rfl rfl rfl (by decide +kernel) (fun _ => rfl) ([]) rfl (fun _ => rfl) 11 (fun _ => rfl) (by decide +kernel) (by decide +kernel) (fun _ _ => ?_)
  refine J_st (st' := [.ref (a 9)]) rfl ?_
  refine J_astore_n C [(2, .ref (a 9)), (0, .ref (a 0)), (1, .int 1)] (by decide) rfl dX4_takeTurn_5 ?_
  refine J_aload_n C rfl dX4_takeTurn_6 ?_
  refine J_iload_n C rfl dX4_takeTurn_7 ?_
  refine J_callV (as := [.int 1]) (rest := []) C (ct_deedOf1 l G a σ d hI hD) (fun u => stW G a σ d) [0, 1, 2, 3, 4, 5, 6, 7, 8, 9, 10] [] 1 k487 k488 k489 k11 k490 rfl (by decide +kernel) ⟨Nat.le_of_ble_eq_true rfl, Nat.le_of_ble_eq_true rfl⟩ ⟨Nat.le_of_ble_eq_true rfl, Nat.le_of_ble_eq_true rfl⟩ dX4_takeTurn_8 (Nat.le_of_ble_eq_true rfl) 0 rfl rfl rfl (by decide +kernel) (fun _ => rfl) ([]) rfl (fun _ => rfl) 11 (fun _ => rfl) (by decide +kernel) (by decide +kernel) (fun _ _ => ?_)
  refine J_st (st' := [.int (nI (doesN σ 1))]) rfl ?_
  refine J_istore_n C [(3, .int (nI (doesN σ 1))), (2, .ref (a 9)), (0, .ref (a 0)), (1, .int 1)] (by decide) rfl dX4_takeTurn_11 ?_
  refine J_iload_n C rfl dX4_takeTurn_12 ?_
  rcases (show doesN σ 1 = 0 ∨ doesN σ 1 = 1 ∨ doesN σ 1 = 2 ∨ doesN σ 1 = 3 ∨ doesN σ 1 = 4 ∨ doesN σ 1 = 5 by omega) with hd | hd | hd | hd | hd | hd
  · skip
    rw [hd]
    refine J_tableIn C 48 (by decide) (by decide) rfl (by decide) dX4_takeTurn_13 ?_
    refine J_aload_n C rfl dX4_takeTurn_48 ?_
    refine J_iload_n C rfl dX4_takeTurn_49 ?_
    refine J_callV (as := [.int 1]) (rest := []) C (ct_spend1 l G a σ d hI hD ((does0_1 hI hd).1) ((does0_1 hI hd).2.1)) (fun u => stW G a (writesF σ 1 (σ 0 3)) d) [0, 1, 2, 3, 4, 5, 6, 7, 8, 9, 10] [] 1 k492 k494 k7 k11 k495 rfl (by decide +kernel) ⟨Nat.le_of_ble_eq_true rfl, Nat.le_of_ble_eq_true rfl⟩ ⟨Nat.le_of_ble_eq_true rfl, Nat.le_of_ble_eq_true rfl⟩ dX4_takeTurn_50 (Nat.le_of_ble_eq_true rfl) 0 rfl rfl rfl (by decide +kernel) (fun _ => rfl) ([]) rfl (fun _ => rfl) 11 (fun _ => rfl) (by decide +kernel) (by decide +kernel) (fun _ _ => ?_)
    refine J_st (st' := []) rfl ?_
    refine J_goto C 92 (by decide) dX4_takeTurn_53 ?_
    refine J_iload_n C rfl dX4_takeTurn_92 ?_
    exact J_zret C hr rfl dX4_takeTurn_93 () rfl trivial (by rw [goesF_1, hd] <;> rfl)
  · skip
    rw [hd]
    refine J_tableIn C 56 (by decide) (by decide) rfl (by decide) dX4_takeTurn_13 ?_
    refine J_aload_n C rfl dX4_takeTurn_56 ?_
    refine J_aload_n C rfl dX4_takeTurn_57 ?_
    refine J_callV (as := [.ref (a 9)]) (rest := []) C (ct_goOn1 l G a σ d hI (does1_1 hd)) (fun u => stW G a (dipsF σ 1) d) [0, 1, 2, 3, 4, 5, 6, 7, 8, 9, 10] [] 1 k501 k503 k8 k11 k504 rfl (by decide +kernel) ⟨Nat.le_of_ble_eq_true rfl, Nat.le_of_ble_eq_true rfl⟩ ⟨Nat.le_of_ble_eq_true rfl, Nat.le_of_ble_eq_true rfl⟩ dX4_takeTurn_58 (Nat.le_of_ble_eq_true rfl) 0 rfl rfl rfl (by decide +kernel) (fun _ => rfl) ([]) rfl (fun _ => rfl) 11 (fun _ => rfl) (by decide +kernel) (by decide +kernel) (fun _ _ => ?_)
    refine J_st (st' := []) rfl ?_
    refine J_goto C 92 (by decide) dX4_takeTurn_61 ?_
    refine J_iload_n C rfl dX4_takeTurn_92 ?_
    exact J_zret C hr rfl dX4_takeTurn_93 () rfl trivial (by rw [goesF_1, hd] <;> rfl)
  · skip
    rw [hd]
    refine J_tableIn C 64 (by decide) (by decide) rfl (by decide) dX4_takeTurn_13 ?_
    refine J_aload_n C rfl dX4_takeTurn_64 ?_
    refine J_aload_n C rfl dX4_takeTurn_65 ?_
    refine J_get C 0 3 in4 rfl rfl (by decide) k123 rfl dX4_takeTurn_66 ?_
    refine J_iconst C 0 (by decide) dX4_takeTurn_69 ?_
    refine J_callSN (as := [.ref (a 10), .int 0]) (rest := [.ref (a 9)]) C (ct_at l G (a 10) 3 (fun q => nI (σ 7 q)) 0 (by omega) (by decide)) (fun u => stW G a σ d) [10] [0, 1, 2, 3, 4, 5, 6, 7, 8, 9] 2 nmTwoScribes_State_100 k340 k10 k341 rfl (by decide +kernel) ⟨Nat.le_of_ble_eq_true rfl, Nat.le_of_ble_eq_true rfl⟩ ⟨Nat.le_of_ble_eq_true rfl, Nat.le_of_ble_eq_true rfl⟩ dX4_takeTurn_70 (Nat.le_of_ble_eq_true rfl) rfl (by decide +kernel) (fun _ => rfl) ([(a 0, .inr (4, [.ref (a 1), .ref (a 8), .ref (a 9), .ref (a 10), .float (fl (σ 0 6)), .float (fl (σ 0 7)), .float (fl (σ 0 8)), .int (nI (σ 0 3)), .int (nI (σ 0 9)), .int (nI (σ 0 10)), .int (nI (σ 0 11))])), (a 1, .inr (1, [.ref (a 2), .ref (a 3), .ref (a 4), .ref (a 5), .ref (a 6), .ref (a 7), .int (nI (σ 0 4)), .int (nI (σ 0 5))])), (a 2, .inl (G.2.1, 40, .inl (fun q => nI (d q)))), (a 3, .inl (G.2.1, 40, .inl (fun q => nI (σ 2 q)))), (a 4, .inl (G.2.1, 40, .inl (fun q => nI (σ 3 q)))), (a 5, .inl (G.2.1, 40, .inl (fun q => nI (σ 6 q)))), (a 6, .inl (G.2.1, 40, .inl (fun q => nI (σ 4 q)))), (a 7, .inl (G.2.1, 40, .inl (fun q => nI (σ 5 q)))), (a 8, .inr (3, [.int (nI (σ 0 12)), .int (nI (σ 0 14)), .int (nI (σ 0 16)), .int (nI (σ 0 18)), .int (nI (σ 0 20)), .int (nI (σ 0 22)), .float (fl (σ 0 24))])), (a 9, .inr (3, [.int (nI (σ 0 13)), .int (nI (σ 0 15)), .int (nI (σ 0 17)), .int (nI (σ 0 19)), .int (nI (σ 0 21)), .int (nI (σ 0 23)), .float (fl (σ 0 25))]))]) rfl (fun _ => rfl) 11 (fun _ => rfl) (by decide +kernel) (by decide +kernel) (fun _ _ => ?_)
    refine J_st (st' := [.int (nI (σ 7 0)), .ref (a 9)]) rfl ?_
    refine J_putN C 9 3 in3 tyX3 tyX3_ok nmX3 ([(a 0, .inr (4, [.ref (a 1), .ref (a 8), .ref (a 9), .ref (a 10), .float (fl (σ 0 6)), .float (fl (σ 0 7)), .float (fl (σ 0 8)), .int (nI (σ 0 3)), .int (nI (σ 0 9)), .int (nI (σ 0 10)), .int (nI (σ 0 11))])), (a 1, .inr (1, [.ref (a 2), .ref (a 3), .ref (a 4), .ref (a 5), .ref (a 6), .ref (a 7), .int (nI (σ 0 4)), .int (nI (σ 0 5))])), (a 2, .inl (G.2.1, 40, .inl (fun q => nI (d q)))), (a 3, .inl (G.2.1, 40, .inl (fun q => nI (σ 2 q)))), (a 4, .inl (G.2.1, 40, .inl (fun q => nI (σ 3 q)))), (a 5, .inl (G.2.1, 40, .inl (fun q => nI (σ 6 q)))), (a 6, .inl (G.2.1, 40, .inl (fun q => nI (σ 4 q)))), (a 7, .inl (G.2.1, 40, .inl (fun q => nI (σ 5 q)))), (a 8, .inr (3, [.int (nI (σ 0 12)), .int (nI (σ 0 14)), .int (nI (σ 0 16)), .int (nI (σ 0 18)), .int (nI (σ 0 20)), .int (nI (σ 0 22)), .float (fl (σ 0 24))])), (a 9, .inr (3, [.int (nI (σ 0 13)), .int (nI (σ 0 15)), .int (nI (σ 0 17)), .int (nI (σ 7 0)), .int (nI (σ 0 21)), .int (nI (σ 0 23)), .float (fl (σ 0 25))])), (a 10, .inl (G.2.1, 3, .inl (fun q => nI (σ 7 q))))]) rfl rfl (by decide) nfTwoScribes_State_127 rfl rfl rfl (Nat.le_of_ble_eq_true rfl) rfl dX4_takeTurn_73 ?_
    refine J_goto C 92 (by decide) dX4_takeTurn_76 ?_
    refine J_iload_n C rfl dX4_takeTurn_92 ?_
    exact J_zret C hr rfl dX4_takeTurn_93 () rfl trivial (by rw [goesF_1, hd] <;> rfl)
  · skip
    rw [hd]
    refine J_tableIn C 79 (by decide) (by decide) rfl (by decide) dX4_takeTurn_13 ?_
    refine J_aload_n C rfl dX4_takeTurn_79 ?_
    refine J_dup C rfl dX4_takeTurn_80 ?_
    refine J_getN C 9 5 in3 rfl rfl (by decide) nfTwoScribes_State_145 rfl dX4_takeTurn_81 ?_
    refine J_iconst C 1 (by decide) dX4_takeTurn_84 ?_
    refine J_iadd C dX4_takeTurn_85 ?_
    refine J_i (nI_add (σ 0 23) 1 : ((nI (σ 0 23)) + 1 : Int32) = (nI (σ 0 23 + 1))) ?_
    refine J_putN C 9 5 in3 tyX3 tyX3_ok nmX3 ([(a 0, .inr (4, [.ref (a 1), .ref (a 8), .ref (a 9), .ref (a 10), .float (fl (σ 0 6)), .float (fl (σ 0 7)), .float (fl (σ 0 8)), .int (nI (σ 0 3)), .int (nI (σ 0 9)), .int (nI (σ 0 10)), .int (nI (σ 0 11))])), (a 1, .inr (1, [.ref (a 2), .ref (a 3), .ref (a 4), .ref (a 5), .ref (a 6), .ref (a 7), .int (nI (σ 0 4)), .int (nI (σ 0 5))])), (a 2, .inl (G.2.1, 40, .inl (fun q => nI (d q)))), (a 3, .inl (G.2.1, 40, .inl (fun q => nI (σ 2 q)))), (a 4, .inl (G.2.1, 40, .inl (fun q => nI (σ 3 q)))), (a 5, .inl (G.2.1, 40, .inl (fun q => nI (σ 6 q)))), (a 6, .inl (G.2.1, 40, .inl (fun q => nI (σ 4 q)))), (a 7, .inl (G.2.1, 40, .inl (fun q => nI (σ 5 q)))), (a 8, .inr (3, [.int (nI (σ 0 12)), .int (nI (σ 0 14)), .int (nI (σ 0 16)), .int (nI (σ 0 18)), .int (nI (σ 0 20)), .int (nI (σ 0 22)), .float (fl (σ 0 24))])), (a 9, .inr (3, [.int (nI (σ 0 13)), .int (nI (σ 0 15)), .int (nI (σ 0 17)), .int (nI (σ 0 19)), .int (nI (σ 0 21)), .int (nI (σ 0 23 + 1)), .float (fl (σ 0 25))])), (a 10, .inl (G.2.1, 3, .inl (fun q => nI (σ 7 q))))]) rfl rfl (by decide) nfTwoScribes_State_145 rfl rfl rfl (Nat.le_of_ble_eq_true rfl) rfl dX4_takeTurn_86 ?_
    refine J_goto C 92 (by decide) dX4_takeTurn_89 ?_
    refine J_iload_n C rfl dX4_takeTurn_92 ?_
    exact J_zret C hr rfl dX4_takeTurn_93 () rfl trivial (by rw [goesF_1, hd] <;> rfl)
  · skip
    rw [hd]
    refine J_tableIn C 79 (by decide) (by decide) rfl (by decide) dX4_takeTurn_13 ?_
    refine J_aload_n C rfl dX4_takeTurn_79 ?_
    refine J_dup C rfl dX4_takeTurn_80 ?_
    refine J_getN C 9 5 in3 rfl rfl (by decide) nfTwoScribes_State_145 rfl dX4_takeTurn_81 ?_
    refine J_iconst C 1 (by decide) dX4_takeTurn_84 ?_
    refine J_iadd C dX4_takeTurn_85 ?_
    refine J_i (nI_add (σ 0 23) 1 : ((nI (σ 0 23)) + 1 : Int32) = (nI (σ 0 23 + 1))) ?_
    refine J_putN C 9 5 in3 tyX3 tyX3_ok nmX3 ([(a 0, .inr (4, [.ref (a 1), .ref (a 8), .ref (a 9), .ref (a 10), .float (fl (σ 0 6)), .float (fl (σ 0 7)), .float (fl (σ 0 8)), .int (nI (σ 0 3)), .int (nI (σ 0 9)), .int (nI (σ 0 10)), .int (nI (σ 0 11))])), (a 1, .inr (1, [.ref (a 2), .ref (a 3), .ref (a 4), .ref (a 5), .ref (a 6), .ref (a 7), .int (nI (σ 0 4)), .int (nI (σ 0 5))])), (a 2, .inl (G.2.1, 40, .inl (fun q => nI (d q)))), (a 3, .inl (G.2.1, 40, .inl (fun q => nI (σ 2 q)))), (a 4, .inl (G.2.1, 40, .inl (fun q => nI (σ 3 q)))), (a 5, .inl (G.2.1, 40, .inl (fun q => nI (σ 6 q)))), (a 6, .inl (G.2.1, 40, .inl (fun q => nI (σ 4 q)))), (a 7, .inl (G.2.1, 40, .inl (fun q => nI (σ 5 q)))), (a 8, .inr (3, [.int (nI (σ 0 12)), .int (nI (σ 0 14)), .int (nI (σ 0 16)), .int (nI (σ 0 18)), .int (nI (σ 0 20)), .int (nI (σ 0 22)), .float (fl (σ 0 24))])), (a 9, .inr (3, [.int (nI (σ 0 13)), .int (nI (σ 0 15)), .int (nI (σ 0 17)), .int (nI (σ 0 19)), .int (nI (σ 0 21)), .int (nI (σ 0 23 + 1)), .float (fl (σ 0 25))])), (a 10, .inl (G.2.1, 3, .inl (fun q => nI (σ 7 q))))]) rfl rfl (by decide) nfTwoScribes_State_145 rfl rfl rfl (Nat.le_of_ble_eq_true rfl) rfl dX4_takeTurn_86 ?_
    refine J_goto C 92 (by decide) dX4_takeTurn_89 ?_
    refine J_iload_n C rfl dX4_takeTurn_92 ?_
    exact J_zret C hr rfl dX4_takeTurn_93 () rfl trivial (by rw [goesF_1, hd] <;> rfl)
  · skip
    rw [hd]
    refine J_tableOut C 92 (by decide) (by decide) dX4_takeTurn_13 ?_
    refine J_iload_n C rfl dX4_takeTurn_92 ?_
    exact J_zret C hr rfl dX4_takeTurn_93 () rfl trivial (by rw [goesF_1, hd] <;> rfl)

set_option maxHeartbeats 4000000 in
set_option maxRecDepth 100000 in
theorem ct_passTick (l : Launch) (G : GT) (a : Nat → Nat) (σ : AS) (d : Nat → Nat)  (hI : Inv σ) (hD : DOK σ d) (ht : σ 0 3 < 102100) : Ct (S := Unit) l G NoX yX4_passTick (Wy yX4_passTick cX4_passTick 3 ((Option.some Jvm.ClassFile.FieldType.boolean))) { frames := 4, cells := 0, slots := 0, locals := 95 } [.ref (a 0)] (stW G a σ d) (fun u => True) (fun u => some (.int (if doesN (tickF σ) 0 ≤ 2 ∨ doesN (goesF (tickF σ) 0 (σ 0 3 + 1)) 1 ≤ 2 then 1 else 0))) (fun u => stW G a (ticksF σ) d) := by
  refine Ct.of (by decide) (Nat.le_of_ble_eq_true rfl) (fun p e s m args below meth c C hr hnm hX => ?_)
  have h40 := hI.a
  have hT := hI.tick ht
  have hTD := hD.tick
  have hl0 := doesN_le (tickF σ) 0
  have hl1 := doesN_le (goesF (tickF σ) 0 (σ 0 3 + 1)) 1
  refine J_aload_n C rfl dX4_passTick_0 ?_
  refine J_dup C rfl dX4_passTick_1 ?_
  refine J_get C 0 7 in4 rfl rfl (by decide) k131 rfl dX4_passTick_2 ?_
  refine J_iconst C 1 (by decide) dX4_passTick_5 ?_
  refine J_iadd C dX4_passTick_6 ?_
  refine J_i (nI_add (σ 0 3) 1 : ((nI (σ 0 3)) + 1 : Int32) = (nI (σ 0 3 + 1))) ?_
  refine J_put C 0 7 in4 tyX4 tyX4_ok nmX4 ([(a 0, .inr (4, [.ref (a 1), .ref (a 8), .ref (a 9), .ref (a 10), .float (fl (σ 0 6)), .float (fl (σ 0 7)), .float (fl (σ 0 8)), .int (nI (σ 0 3 + 1)), .int (nI (σ 0 9)), .int (nI (σ 0 10)), .int (nI (σ 0 11))])), (a 1, .inr (1, [.ref (a 2), .ref (a 3), .ref (a 4), .ref (a 5), .ref (a 6), .ref (a 7), .int (nI (σ 0 4)), .int (nI (σ 0 5))])), (a 2, .inl (G.2.1, 40, .inl (fun q => nI (d q)))), (a 3, .inl (G.2.1, 40, .inl (fun q => nI (σ 2 q)))), (a 4, .inl (G.2.1, 40, .inl (fun q => nI (σ 3 q)))), (a 5, .inl (G.2.1, 40, .inl (fun q => nI (σ 6 q)))), (a 6, .inl (G.2.1, 40, .inl (fun q => nI (σ 4 q)))), (a 7, .inl (G.2.1, 40, .inl (fun q => nI (σ 5 q)))), (a 8, .inr (3, [.int (nI (σ 0 12)), .int (nI (σ 0 14)), .int (nI (σ 0 16)), .int (nI (σ 0 18)), .int (nI (σ 0 20)), .int (nI (σ 0 22)), .float (fl (σ 0 24))])), (a 9, .inr (3, [.int (nI (σ 0 13)), .int (nI (σ 0 15)), .int (nI (σ 0 17)), .int (nI (σ 0 19)), .int (nI (σ 0 21)), .int (nI (σ 0 23)), .float (fl (σ 0 25))])), (a 10, .inl (G.2.1, 3, .inl (fun q => nI (σ 7 q))))]) rfl rfl (by decide) k131 rfl rfl rfl (Nat.le_of_ble_eq_true rfl) rfl dX4_passTick_7 ?_
  refine J_ws (ws' := stW G a (tickF σ) d) rfl ?_
  refine J_aload_n C rfl dX4_passTick_10 ?_
  refine J_iconst C 0 (by decide) dX4_passTick_11 ?_
  refine J_callV (as := [.int 0]) (rest := []) C (ct_takeTurn0 l G a (tickF σ) d hT hTD) (fun u => stW G a (goesF (tickF σ) 0 ((tickF σ) 0 3)) d) [0, 1, 2, 3, 4, 5, 6, 7, 8, 9, 10] [] 1 k483 k484 k485 k11 k486 rfl (by decide +kernel) ⟨Nat.le_of_ble_eq_true rfl, Nat.le_of_ble_eq_true rfl⟩ ⟨Nat.le_of_ble_eq_true rfl, Nat.le_of_ble_eq_true rfl⟩ dX4_passTick_12 (Nat.le_of_ble_eq_true rfl) 0 rfl rfl rfl (by decide +kernel) (fun _ => rfl) ([]) rfl (fun _ => rfl) 11 (fun _ => rfl) (by decide +kernel) (by decide +kernel) (fun _ _ => ?_)
  refine J_st (st' := [.int (nI (doesN (tickF σ) 0))]) rfl ?_
  refine J_ws (ws' := stW G a (goesF (tickF σ) 0 (σ 0 3 + 1)) d) rfl ?_
  refine J_istore_n C [(1, .int (nI (doesN (tickF σ) 0))), (0, .ref (a 0))] (by decide) rfl dX4_passTick_15 ?_
  refine J_aload_n C rfl dX4_passTick_16 ?_
  refine J_iconst C 1 (by decide) dX4_passTick_17 ?_
  refine J_callV (as := [.int 1]) (rest := []) C (ct_takeTurn1 l G a (goesF (tickF σ) 0 (σ 0 3 + 1)) d (hT.goes0 (by omega)) hTD.goes0) (fun u => stW G a (goesF (goesF (tickF σ) 0 (σ 0 3 + 1)) 1 ((goesF (tickF σ) 0 (σ 0 3 + 1)) 0 3)) d) [0, 1, 2, 3, 4, 5, 6, 7, 8, 9, 10] [] 1 k483 k484 k485 k11 k486 rfl (by decide +kernel) ⟨Nat.le_of_ble_eq_true rfl, Nat.le_of_ble_eq_true rfl⟩ ⟨Nat.le_of_ble_eq_true rfl, Nat.le_of_ble_eq_true rfl⟩ dX4_passTick_18 (Nat.le_of_ble_eq_true rfl) 0 rfl rfl rfl (by decide +kernel) (fun _ => rfl) ([]) rfl (fun _ => rfl) 11 (fun _ => rfl) (by decide +kernel) (by decide +kernel) (fun _ _ => ?_)
  refine J_st (st' := [.int (nI (doesN (goesF (tickF σ) 0 (σ 0 3 + 1)) 1))]) rfl ?_
  refine J_istore_n C [(2, .int (nI (doesN (goesF (tickF σ) 0 (σ 0 3 + 1)) 1))), (1, .int (nI (doesN (tickF σ) 0))), (0, .ref (a 0))] (by decide) rfl dX4_passTick_21 ?_
  refine J_iload_n C rfl dX4_passTick_22 ?_
  refine J_iconst C 2 (by decide) dX4_passTick_23 ?_
  refine J_icmp_le C 32 (by decide) dX4_passTick_24 (fun c24 => ?_) (fun c24 => ?_)
  · skip
    have c24 := cv_le_t (a := (doesN (tickF σ) 0)) (b := 2) (by omega) (by omega) c24
    refine J_iconst C 1 (by decide) dX4_passTick_32 ?_
    refine J_goto C 37 (by decide) dX4_passTick_33 ?_
    exact J_zret C hr rfl dX4_passTick_37 () (by rw [if_pos (by omega)]) trivial (by unfold ticksF; rw [(goes_keep (tickF σ) 0 (σ 0 3 + 1) (Or.inl rfl)).1] <;> rfl)
  · skip
    have c24 := cv_le_f (a := (doesN (tickF σ) 0)) (b := 2) (by omega) (by omega) c24
    refine J_iload_n C rfl dX4_passTick_27 ?_
    refine J_iconst C 2 (by decide) dX4_passTick_28 ?_
    refine J_icmp_gt C 36 (by decide) dX4_passTick_29 (fun c29 => ?_) (fun c29 => ?_)
    · skip
      have c29 := cv_gt_t (a := (doesN (goesF (tickF σ) 0 (σ 0 3 + 1)) 1)) (b := 2) (by omega) (by omega) c29
      refine J_iconst C 0 (by decide) dX4_passTick_36 ?_
      exact J_zret C hr rfl dX4_passTick_37 () (by rw [if_neg (by omega)]) trivial (by unfold ticksF; rw [(goes_keep (tickF σ) 0 (σ 0 3 + 1) (Or.inl rfl)).1] <;> rfl)
    · skip
      have c29 := cv_gt_f (a := (doesN (goesF (tickF σ) 0 (σ 0 3 + 1)) 1)) (b := 2) (by omega) (by omega) c29
      refine J_iconst C 1 (by decide) dX4_passTick_32 ?_
      refine J_goto C 37 (by decide) dX4_passTick_33 ?_
      exact J_zret C hr rfl dX4_passTick_37 () (by rw [if_pos (by omega)]) trivial (by unfold ticksF; rw [(goes_keep (tickF σ) 0 (σ 0 3 + 1) (Or.inl rfl)).1] <;> rfl)

set_option maxHeartbeats 4000000 in
set_option maxRecDepth 100000 in
theorem ct_runDone (l : Launch) (G : GT) (a : Nat → Nat) (σ : AS) (d : Nat → Nat)  (hI : Inv σ) (hD : DOK σ d) (ht : σ 0 3 ≤ 99999) : Ct (S := AS) l G NoX yX4_runUntilDone (Wy yX4_runUntilDone cX4_runUntilDone 2 ((Option.some Jvm.ClassFile.FieldType.int))) { frames := 5, cells := 0, slots := 0, locals := 117 } [.ref (a 0)] (stW G a σ d) (fun u => True) (fun u => some (.int (dnF 2001 0 σ))) (fun u => stW G a u d) := by
  refine Ct.of (by decide) (Nat.le_of_ble_eq_true rfl) (fun p e s m args below meth c C hr hnm hX => ?_)
  have h40 := hI.a
  refine J_iconst C 0 (by decide) dX4_runUntilDone_0 ?_
  refine J_istore_n C [(1, .int 0), (0, .ref (a 0))] (by decide) rfl dX4_runUntilDone_1 ?_
  refine J_lvp [1, 0] [(0, .ref (a 0)), (1, .int 0)] rfl ?_
  refine J_loop (σ := Nat × AS) (fun x => stW G a x.2 d) (fun x => [(0, .ref (a 0)), (1, .int (nI x.1))]) (fun x => x.1 ≤ 2001 ∧ Inv x.2 ∧ DOK x.2 d ∧ x.2 0 3 ≤ 99999 + x.1 ∧ dnF (2001 - x.1) x.1 x.2 = dnF 2001 0 σ) (fun x => 2001 - x.1) (fun x hx ih => ?_) (0, σ) ⟨Nat.zero_le _, hI, hD, by show σ 0 3 ≤ 99999 + 0; omega, rfl⟩ rfl rfl
  obtain ⟨hx1, hIx, hDx, htx, hR⟩ := hx
  refine J_iload_n C rfl dX4_runUntilDone_2 ?_
  refine J_sipush C 2000 (by decide) dX4_runUntilDone_3 ?_
  refine J_icmp_gt C 34 (by decide) dX4_runUntilDone_6 (fun c6 => ?_) (fun c6 => ?_)
  · skip
    have c6 := cv_gt_t (a := x.1) (b := 2000) (by omega) (by omega) c6
    refine J_bipush C (-5) (by decide) dX4_runUntilDone_34 ?_
    exact J_zret C hr rfl dX4_runUntilDone_36 x.2 (by rw [← hR]; rw [show 2001 - x.1 = 0 by omega] <;> rfl) trivial rfl
  · skip
    have c6 := cv_gt_f (a := x.1) (b := 2000) (by omega) (by omega) c6
    refine J_aload_n C rfl dX4_runUntilDone_9 ?_
    refine J_callV (as := []) (rest := []) C (ct_isDone l G a x.2 d hIx) (fun u => stW G a x.2 d) [0, 1, 2, 3, 4, 5, 6, 7, 8, 9, 10] [] 0 k521 k522 k523 k11 k524 rfl (by decide +kernel) ⟨Nat.le_of_ble_eq_true rfl, Nat.le_of_ble_eq_true rfl⟩ ⟨Nat.le_of_ble_eq_true rfl, Nat.le_of_ble_eq_true rfl⟩ dX4_runUntilDone_10 (Nat.le_of_ble_eq_true rfl) 0 rfl rfl rfl (by decide +kernel) (fun _ => rfl) ([]) rfl (fun _ => rfl) 11 (fun _ => rfl) (by decide +kernel) (by decide +kernel) (fun _ _ => ?_)
    refine J_st (st' := [.int (if x.2 0 4 ≤ x.2 0 14 + x.2 0 15 then 1 else 0)]) rfl ?_
    refine J_if_eq C 18 (by decide) dX4_runUntilDone_13 (fun c13 => ?_) (fun c13 => ?_)
    · skip
      have hnd : ¬ (x.2 0 4 ≤ x.2 0 14 + x.2 0 15) := fun q => by rw [if_pos q] at c13; exact absurd c13 (by decide)
      refine J_aload_n C rfl dX4_runUntilDone_18 ?_
      refine J_callV (as := []) (rest := []) C (ct_passTick l G a x.2 d hIx hDx (by omega)) (fun u => stW G a (ticksF x.2) d) [0, 1, 2, 3, 4, 5, 6, 7, 8, 9, 10] [] 0 k526 k480 k481 k11 k482 rfl (by decide +kernel) ⟨Nat.le_of_ble_eq_true rfl, Nat.le_of_ble_eq_true rfl⟩ ⟨Nat.le_of_ble_eq_true rfl, Nat.le_of_ble_eq_true rfl⟩ dX4_runUntilDone_19 (Nat.le_of_ble_eq_true rfl) 0 rfl rfl rfl (by decide +kernel) (fun _ => rfl) ([]) rfl (fun _ => rfl) 11 (fun _ => rfl) (by decide +kernel) (by decide +kernel) (fun _ _ => ?_)
      refine J_st (st' := [.int (if doesN (tickF x.2) 0 ≤ 2 ∨ doesN (goesF (tickF x.2) 0 (x.2 0 3 + 1)) 1 ≤ 2 then 1 else 0)]) rfl ?_
      refine J_if_ne C 28 (by decide) dX4_runUntilDone_22 (fun c22 => ?_) (fun c22 => ?_)
      · skip
        skip
        refine J_iinc C (nI (x.1 + 1)) [(1, .int (nI (x.1 + 1))), (0, .ref (a 0))] 1 rfl (by first | exact nI_add _ 1 | rfl) (by decide) rfl dX4_runUntilDone_28 ?_
        refine J_goto C 2 (by decide) dX4_runUntilDone_31 ?_
        refine J_lvp [1, 0] [(0, .ref (a 0)), (1, .int (nI (x.1 + 1)))] rfl ?_
        exact ih (x.1 + 1, ticksF x.2) ⟨by show x.1 + 1 ≤ 2001; omega, hIx.ticks (by omega), hDx.ticks, by show ticksF x.2 0 3 ≤ 99999 + (x.1 + 1); rw [ticks_tick]; omega, by show dnF (2001 - (x.1 + 1)) (x.1 + 1) (ticksF x.2) = _; rw [← hR, show 2001 - x.1 = (2001 - (x.1 + 1)) + 1 by omega, dnF_s, if_neg hnd]⟩ (by show 2001 - (x.1 + 1) < 2001 - x.1; omega)
      · skip
        have hst : ¬ (doesN (tickF x.2) 0 ≤ 2 ∨ doesN (goesF (tickF x.2) 0 (x.2 0 3 + 1)) 1 ≤ 2) := fun q => by rw [if_pos q] at c22; exact absurd c22 (by decide)
        refine J_bipush C (-5) (by decide) dX4_runUntilDone_25 ?_
        exact J_zret C hr rfl dX4_runUntilDone_27 (ticksF x.2) (by rw [← hR]; rw [(Stuck.of (by omega) (by omega) hnd).never] <;> rfl) trivial rfl
    · skip
      have hnd : x.2 0 4 ≤ x.2 0 14 + x.2 0 15 := Classical.byContradiction fun q => c13 (by rw [if_neg q])
      refine J_iload_n C rfl dX4_runUntilDone_16 ?_
      exact J_zret C hr rfl dX4_runUntilDone_17 x.2 (by rw [← hR]; rw [show 2001 - x.1 = (2000 - x.1) + 1 by omega, dnF_s, if_pos hnd]) trivial rfl
