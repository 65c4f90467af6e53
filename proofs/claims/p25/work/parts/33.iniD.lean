set_option maxHeartbeats 4000000 in
set_option maxRecDepth 100000 in
theorem ct_newHist (l : Launch) (G : GT) (h : Nat)  : Ct (S := Nat × (Nat → Nat → Nat)) l G XA yX0_init (Wy yX0_init cX0_init 2 ((Option.none : Option Jvm.ClassFile.FieldType))) { frames := 3, cells := 45, slots := 1108, locals := 52 } [.ref h] ([(h, .inr (0, [.null, .int 0, .int 0]))]) (fun u => True) (fun u => none) (fun u => [(h, .inr (0, [.ref u.1, .int (nI 0), .int (nI 0)])), (u.1, .inl (G.2.2.2, 4, .inr (.inr (.inr (.inr (fun j => some (u.2 j 0)))))))] ++ (stW G (u.2 0) sg0 (fun _ => 0) ++ (stW G (u.2 1) sg0 (fun _ => 0) ++ (stW G (u.2 2) sg0 (fun _ => 0) ++ stW G (u.2 3) sg0 (fun _ => 0))))) := by
  refine Ct.of (by decide) (Nat.le_of_ble_eq_true rfl) (fun p e s m args below meth c C hr hnm hX => ?_)
  refine J_aload_n C rfl dX0_init_0 ?_
  refine J_objInit C k167 k24 k25 (Nat.le_of_ble_eq_true rfl) (Nat.le_of_ble_eq_true rfl) dX0_init_1 ?_
  refine J_aload_n C rfl dX0_init_4 ?_
  refine J_iconst C 4 (by decide) dX0_init_5 ?_
  refine J_newq C 4 k168 hX rfl (Nat.le_of_ble_eq_true rfl) (Nat.le_of_ble_eq_true rfl) (Nat.le_of_ble_eq_true rfl) dX0_init_6 (fun q1 => ?_)
  refine J_ws (ws' := [(h, .inr (0, [.null, .int 0, .int 0]))] ++ [(q1, .inl (G.2.2.2, 4, .inr (.inr (.inr (.inr (fun _ => none))))))]) rfl ?_
  refine J_putF C 0 0 in0 tyX0 tyX0_ok nmX0 ([(h, .inr (0, [.ref q1, .int 0, .int 0]))] ++ [(q1, .inl (G.2.2.2, 4, .inr (.inr (.inr (.inr (fun _ => none))))))]) rfl rfl (by decide) k171 rfl hnm rfl rfl rfl (Nat.le_of_ble_eq_true rfl) rfl dX0_init_9 ?_
  refine J_iconst C 0 (by decide) dX0_init_12 ?_
  refine J_istore_n C [(1, .int 0), (0, .ref h)] (by decide) rfl dX0_init_13 ?_
  refine J_iload_n C rfl dX0_init_14 ?_
  refine J_aload_n C rfl dX0_init_15 ?_
  refine J_get C 0 0 in0 rfl rfl (by decide) k171 rfl dX0_init_16 ?_
  refine J_alen C 1 rfl dX0_init_19 ?_
  refine J_icmp_ge C 42 (by decide) dX0_init_20 (fun h => absurd h (by decide)) (fun _ => ?_)
  refine J_aload_n C rfl dX0_init_23 ?_
  refine J_get C 0 0 in0 rfl rfl (by decide) k171 rfl dX0_init_24 ?_
  refine J_iload_n C rfl dX0_init_27 ?_
  refine J_new C (ci := 4) tyX4 [.null, .null, .null, .null, .float 0, .float 0, .float 0, .int 0, .int 0, .int 0, .int 0] in4 tyX4_ok k168 k27 k11 rfl (fun j hj => by rcases (show j = 0 ∨ j = 1 ∨ j = 2 ∨ j = 3 ∨ j = 4 ∨ j = 5 ∨ j = 6 ∨ j = 7 ∨ j = 8 ∨ j = 9 ∨ j = 10 by omega) with rfl | rfl | rfl | rfl | rfl | rfl | rfl | rfl | rfl | rfl | rfl <;> rfl) (Nat.le_of_ble_eq_true rfl) (Nat.le_of_ble_eq_true rfl) dX0_init_28 (fun q2 => ?_)
  refine J_ws (ws' := [(h, .inr (0, [.ref q1, .int 0, .int 0]))] ++ ([(q1, .inl (G.2.2.2, 4, .inr (.inr (.inr (.inr (fun _ => none))))))] ++ [(q2, .inr (4, [.null, .null, .null, .null, .float 0, .float 0, .float 0, .int 0, .int 0, .int 0, .int 0]))])) rfl ?_
  refine J_ws (ws' := [(h, .inr (0, [.ref q1, .int 0, .int 0]))] ++ ([(q1, .inl (G.2.2.2, 4, .inr (.inr (.inr (.inr (fun _ => none))))))] ++ [(q2, .inr (4, [.null, .null, .null, .null, .float (fl 0), .float (fl 0), .float (fl 0), .int 0, .int 0, .int 0, .int 0]))])) (by rw [← fl_z]) ?_
  refine J_dup C rfl dX0_init_31 ?_
  refine J_callING (as := []) (rest := [.ref q2, .int 0, .ref q1]) C NoX.b NoX.f (ct_newState l G q2) (fun v0 => [(h, .inr (0, [.ref q1, .int 0, .int 0]))] ++ ([(q1, .inl (G.2.2.2, 4, .inr (.inr (.inr (.inr (fun _ => none))))))] ++ stW G (hA q2 v0) sg0 (fun _ => 0))) [2] [2, 3, 4, 5, 6, 7, 8, 9, 10, 11, 12] [0, 1] 0 nmTwoScribes_History_17 rfl k29 k11 k30 rfl (by decide +kernel) ⟨Nat.le_of_ble_eq_true rfl, Nat.le_of_ble_eq_true rfl⟩ ⟨Nat.le_of_ble_eq_true rfl, Nat.le_of_ble_eq_true rfl⟩ dX0_init_32 (Nat.le_of_ble_eq_true rfl) rfl (by decide +kernel) (fun _ => rfl) ([(h, .inr (0, [.ref q1, .int 0, .int 0]))] ++ [(q1, .inl (G.2.2.2, 4, .inr (.inr (.inr (.inr (fun _ => none))))))]) rfl (fun _ => rfl) 13 (fun _ => rfl) (by decide +kernel) (by decide +kernel) (fun v0 _ => ?_)
  refine J_st (st' := [.ref q2, .int 0, .ref q1]) rfl ?_
  refine J_aast C 1 2 ([(h, .inr (0, [.ref q1, .int 0, .int 0]))] ++ ([(q1, .inl (G.2.2.2, 4, .inr (.inr (.inr (.inr (va_up (fun _ => none) 0 (some q2)))))))] ++ stW G (hA q2 v0) sg0 (fun _ => 0))) rfl rfl rfl rfl 0 rfl (by decide) (by decide) rfl dX0_init_35 ?_
  refine J_iinc C 1 [(1, .int 1), (0, .ref h)] 0 rfl (by decide) (by decide) rfl dX0_init_36 ?_
  refine J_goto C 14 (by decide) dX0_init_39 ?_
  refine J_iload_n C rfl dX0_init_14 ?_
  refine J_aload_n C rfl dX0_init_15 ?_
  refine J_get C 0 0 in0 rfl rfl (by decide) k171 rfl dX0_init_16 ?_
  refine J_alen C 1 rfl dX0_init_19 ?_
  refine J_icmp_ge C 42 (by decide) dX0_init_20 (fun h => absurd h (by decide)) (fun _ => ?_)
  refine J_aload_n C rfl dX0_init_23 ?_
  refine J_get C 0 0 in0 rfl rfl (by decide) k171 rfl dX0_init_24 ?_
  refine J_iload_n C rfl dX0_init_27 ?_
  refine J_new C (ci := 4) tyX4 [.null, .null, .null, .null, .float 0, .float 0, .float 0, .int 0, .int 0, .int 0, .int 0] in4 tyX4_ok k168 k27 k11 rfl (fun j hj => by rcases (show j = 0 ∨ j = 1 ∨ j = 2 ∨ j = 3 ∨ j = 4 ∨ j = 5 ∨ j = 6 ∨ j = 7 ∨ j = 8 ∨ j = 9 ∨ j = 10 by omega) with rfl | rfl | rfl | rfl | rfl | rfl | rfl | rfl | rfl | rfl | rfl <;> rfl) (Nat.le_of_ble_eq_true rfl) (Nat.le_of_ble_eq_true rfl) dX0_init_28 (fun q3 => ?_)
  refine J_ws (ws' := [(h, .inr (0, [.ref q1, .int 0, .int 0]))] ++ ([(q1, .inl (G.2.2.2, 4, .inr (.inr (.inr (.inr (va_up (fun _ => none) 0 (some q2)))))))] ++ (stW G (hA q2 v0) sg0 (fun _ => 0) ++ [(q3, .inr (4, [.null, .null, .null, .null, .float 0, .float 0, .float 0, .int 0, .int 0, .int 0, .int 0]))]))) rfl ?_
  refine J_ws (ws' := [(h, .inr (0, [.ref q1, .int 0, .int 0]))] ++ ([(q1, .inl (G.2.2.2, 4, .inr (.inr (.inr (.inr (va_up (fun _ => none) 0 (some q2)))))))] ++ (stW G (hA q2 v0) sg0 (fun _ => 0) ++ [(q3, .inr (4, [.null, .null, .null, .null, .float (fl 0), .float (fl 0), .float (fl 0), .int 0, .int 0, .int 0, .int 0]))]))) (by rw [← fl_z]) ?_
  refine J_dup C rfl dX0_init_31 ?_
  refine J_callING (as := []) (rest := [.ref q3, .int 1, .ref q1]) C NoX.b NoX.f (ct_newState l G q3) (fun v1 => [(h, .inr (0, [.ref q1, .int 0, .int 0]))] ++ ([(q1, .inl (G.2.2.2, 4, .inr (.inr (.inr (.inr (va_up (fun _ => none) 0 (some q2)))))))] ++ (stW G (hA q2 v0) sg0 (fun _ => 0) ++ stW G (hA q3 v1) sg0 (fun _ => 0)))) [13] [13, 14, 15, 16, 17, 18, 19, 20, 21, 22, 23] [0, 1, 2, 3, 4, 5, 6, 7, 8, 9, 10, 11, 12] 0 nmTwoScribes_History_17 rfl k29 k11 k30 rfl (by decide +kernel) ⟨Nat.le_of_ble_eq_true rfl, Nat.le_of_ble_eq_true rfl⟩ ⟨Nat.le_of_ble_eq_true rfl, Nat.le_of_ble_eq_true rfl⟩ dX0_init_32 (Nat.le_of_ble_eq_true rfl) rfl (by decide +kernel) (fun _ => rfl) ([(h, .inr (0, [.ref q1, .int 0, .int 0]))] ++ ([(q1, .inl (G.2.2.2, 4, .inr (.inr (.inr (.inr (va_up (fun _ => none) 0 (some q2)))))))] ++ stW G (hA q2 v0) sg0 (fun _ => 0))) rfl (fun _ => rfl) 24 (fun _ => rfl) (by decide +kernel) (by decide +kernel) (fun v1 _ => ?_)
  refine J_st (st' := [.ref q3, .int 1, .ref q1]) rfl ?_
  refine J_aast C 1 13 ([(h, .inr (0, [.ref q1, .int 0, .int 0]))] ++ ([(q1, .inl (G.2.2.2, 4, .inr (.inr (.inr (.inr (va_up (va_up (fun _ => none) 0 (some q2)) 1 (some q3)))))))] ++ (stW G (hA q2 v0) sg0 (fun _ => 0) ++ stW G (hA q3 v1) sg0 (fun _ => 0)))) rfl rfl rfl rfl 1 rfl (by decide) (by decide) rfl dX0_init_35 ?_
  refine J_iinc C 2 [(1, .int 2), (0, .ref h)] 0 rfl (by decide) (by decide) rfl dX0_init_36 ?_
  refine J_goto C 14 (by decide) dX0_init_39 ?_
  refine J_iload_n C rfl dX0_init_14 ?_
  refine J_aload_n C rfl dX0_init_15 ?_
  refine J_get C 0 0 in0 rfl rfl (by decide) k171 rfl dX0_init_16 ?_
  refine J_alen C 1 rfl dX0_init_19 ?_
  refine J_icmp_ge C 42 (by decide) dX0_init_20 (fun h => absurd h (by decide)) (fun _ => ?_)
  refine J_aload_n C rfl dX0_init_23 ?_
  refine J_get C 0 0 in0 rfl rfl (by decide) k171 rfl dX0_init_24 ?_
  refine J_iload_n C rfl dX0_init_27 ?_
  refine J_new C (ci := 4) tyX4 [.null, .null, .null, .null, .float 0, .float 0, .float 0, .int 0, .int 0, .int 0, .int 0] in4 tyX4_ok k168 k27 k11 rfl (fun j hj => by rcases (show j = 0 ∨ j = 1 ∨ j = 2 ∨ j = 3 ∨ j = 4 ∨ j = 5 ∨ j = 6 ∨ j = 7 ∨ j = 8 ∨ j = 9 ∨ j = 10 by omega) with rfl | rfl | rfl | rfl | rfl | rfl | rfl | rfl | rfl | rfl | rfl <;> rfl) (Nat.le_of_ble_eq_true rfl) (Nat.le_of_ble_eq_true rfl) dX0_init_28 (fun q4 => ?_)
  refine J_ws (ws' := [(h, .inr (0, [.ref q1, .int 0, .int 0]))] ++ ([(q1, .inl (G.2.2.2, 4, .inr (.inr (.inr (.inr (va_up (va_up (fun _ => none) 0 (some q2)) 1 (some q3)))))))] ++ (stW G (hA q2 v0) sg0 (fun _ => 0) ++ (stW G (hA q3 v1) sg0 (fun _ => 0) ++ [(q4, .inr (4, [.null, .null, .null, .null, .float 0, .float 0, .float 0, .int 0, .int 0, .int 0, .int 0]))])))) rfl ?_
  refine J_ws (ws' := [(h, .inr (0, [.ref q1, .int 0, .int 0]))] ++ ([(q1, .inl (G.2.2.2, 4, .inr (.inr (.inr (.inr (va_up (va_up (fun _ => none) 0 (some q2)) 1 (some q3)))))))] ++ (stW G (hA q2 v0) sg0 (fun _ => 0) ++ (stW G (hA q3 v1) sg0 (fun _ => 0) ++ [(q4, .inr (4, [.null, .null, .null, .null, .float (fl 0), .float (fl 0), .float (fl 0), .int 0, .int 0, .int 0, .int 0]))])))) (by rw [← fl_z]) ?_
  refine J_dup C rfl dX0_init_31 ?_
  refine J_callING (as := []) (rest := [.ref q4, .int 2, .ref q1]) C NoX.b NoX.f (ct_newState l G q4) (fun v2 => [(h, .inr (0, [.ref q1, .int 0, .int 0]))] ++ ([(q1, .inl (G.2.2.2, 4, .inr (.inr (.inr (.inr (va_up (va_up (fun _ => none) 0 (some q2)) 1 (some q3)))))))] ++ (stW G (hA q2 v0) sg0 (fun _ => 0) ++ (stW G (hA q3 v1) sg0 (fun _ => 0) ++ stW G (hA q4 v2) sg0 (fun _ => 0))))) [24] [24, 25, 26, 27, 28, 29, 30, 31, 32, 33, 34] [0, 1, 2, 3, 4, 5, 6, 7, 8, 9, 10, 11, 12, 13, 14, 15, 16, 17, 18, 19, 20, 21, 22, 23] 0 nmTwoScribes_History_17 rfl k29 k11 k30 rfl (by decide +kernel) ⟨Nat.le_of_ble_eq_true rfl, Nat.le_of_ble_eq_true rfl⟩ ⟨Nat.le_of_ble_eq_true rfl, Nat.le_of_ble_eq_true rfl⟩ dX0_init_32 (Nat.le_of_ble_eq_true rfl) rfl (by decide +kernel) (fun _ => rfl) ([(h, .inr (0, [.ref q1, .int 0, .int 0]))] ++ ([(q1, .inl (G.2.2.2, 4, .inr (.inr (.inr (.inr (va_up (va_up (fun _ => none) 0 (some q2)) 1 (some q3)))))))] ++ (stW G (hA q2 v0) sg0 (fun _ => 0) ++ stW G (hA q3 v1) sg0 (fun _ => 0)))) rfl (fun _ => rfl) 35 (fun _ => rfl) (by decide +kernel) (by decide +kernel) (fun v2 _ => ?_)
  refine J_st (st' := [.ref q4, .int 2, .ref q1]) rfl ?_
  refine J_aast C 1 24 ([(h, .inr (0, [.ref q1, .int 0, .int 0]))] ++ ([(q1, .inl (G.2.2.2, 4, .inr (.inr (.inr (.inr (va_up (va_up (va_up (fun _ => none) 0 (some q2)) 1 (some q3)) 2 (some q4)))))))] ++ (stW G (hA q2 v0) sg0 (fun _ => 0) ++ (stW G (hA q3 v1) sg0 (fun _ => 0) ++ stW G (hA q4 v2) sg0 (fun _ => 0))))) rfl rfl rfl rfl 2 rfl (by decide) (by decide) rfl dX0_init_35 ?_
  refine J_iinc C 3 [(1, .int 3), (0, .ref h)] 0 rfl (by decide) (by decide) rfl dX0_init_36 ?_
  refine J_goto C 14 (by decide) dX0_init_39 ?_
  refine J_iload_n C rfl dX0_init_14 ?_
  refine J_aload_n C rfl dX0_init_15 ?_
  refine J_get C 0 0 in0 rfl rfl (by decide) k171 rfl dX0_init_16 ?_
  refine J_alen C 1 rfl dX0_init_19 ?_
  refine J_icmp_ge C 42 (by decide) dX0_init_20 (fun h => absurd h (by decide)) (fun _ => ?_)
  refine J_aload_n C rfl dX0_init_23 ?_
  refine J_get C 0 0 in0 rfl rfl (by decide) k171 rfl dX0_init_24 ?_
  refine J_iload_n C rfl dX0_init_27 ?_
  refine J_new C (ci := 4) tyX4 [.null, .null, .null, .null, .float 0, .float 0, .float 0, .int 0, .int 0, .int 0, .int 0] in4 tyX4_ok k168 k27 k11 rfl (fun j hj => by rcases (show j = 0 ∨ j = 1 ∨ j = 2 ∨ j = 3 ∨ j = 4 ∨ j = 5 ∨ j = 6 ∨ j = 7 ∨ j = 8 ∨ j = 9 ∨ j = 10 by omega) with rfl | rfl | rfl | rfl | rfl | rfl | rfl | rfl | rfl | rfl | rfl <;> rfl) (Nat.le_of_ble_eq_true rfl) (Nat.le_of_ble_eq_true rfl) dX0_init_28 (fun q5 => ?_)
  refine J_ws (ws' := [(h, .inr (0, [.ref q1, .int 0, .int 0]))] ++ ([(q1, .inl (G.2.2.2, 4, .inr (.inr (.inr (.inr (va_up (va_up (va_up (fun _ => none) 0 (some q2)) 1 (some q3)) 2 (some q4)))))))] ++ (stW G (hA q2 v0) sg0 (fun _ => 0) ++ (stW G (hA q3 v1) sg0 (fun _ => 0) ++ (stW G (hA q4 v2) sg0 (fun _ => 0) ++ [(q5, .inr (4, [.null, .null, .null, .null, .float 0, .float 0, .float 0, .int 0, .int 0, .int 0, .int 0]))]))))) rfl ?_
  refine J_ws (ws' := [(h, .inr (0, [.ref q1, .int 0, .int 0]))] ++ ([(q1, .inl (G.2.2.2, 4, .inr (.inr (.inr (.inr (va_up (va_up (va_up (fun _ => none) 0 (some q2)) 1 (some q3)) 2 (some q4)))))))] ++ (stW G (hA q2 v0) sg0 (fun _ => 0) ++ (stW G (hA q3 v1) sg0 (fun _ => 0) ++ (stW G (hA q4 v2) sg0 (fun _ => 0) ++ [(q5, .inr (4, [.null, .null, .null, .null, .float (fl 0), .float (fl 0), .float (fl 0), .int 0, .int 0, .int 0, .int 0]))]))))) (by rw [← fl_z]) ?_
  refine J_dup C rfl dX0_init_31 ?_
  refine J_callING (as := []) (rest := [.ref q5, .int 3, .ref q1]) C NoX.b NoX.f (ct_newState l G q5) (fun v3 => [(h, .inr (0, [.ref q1, .int 0, .int 0]))] ++ ([(q1, .inl (G.2.2.2, 4, .inr (.inr (.inr (.inr (va_up (va_up (va_up (fun _ => none) 0 (some q2)) 1 (some q3)) 2 (some q4)))))))] ++ (stW G (hA q2 v0) sg0 (fun _ => 0) ++ (stW G (hA q3 v1) sg0 (fun _ => 0) ++ (stW G (hA q4 v2) sg0 (fun _ => 0) ++ stW G (hA q5 v3) sg0 (fun _ => 0)))))) [35] [35, 36, 37, 38, 39, 40, 41, 42, 43, 44, 45] [0, 1, 2, 3, 4, 5, 6, 7, 8, 9, 10, 11, 12, 13, 14, 15, 16, 17, 18, 19, 20, 21, 22, 23, 24, 25, 26, 27, 28, 29, 30, 31, 32, 33, 34] 0 nmTwoScribes_History_17 rfl k29 k11 k30 rfl (by decide +kernel) ⟨Nat.le_of_ble_eq_true rfl, Nat.le_of_ble_eq_true rfl⟩ ⟨Nat.le_of_ble_eq_true rfl, Nat.le_of_ble_eq_true rfl⟩ dX0_init_32 (Nat.le_of_ble_eq_true rfl) rfl (by decide +kernel) (fun _ => rfl) ([(h, .inr (0, [.ref q1, .int 0, .int 0]))] ++ ([(q1, .inl (G.2.2.2, 4, .inr (.inr (.inr (.inr (va_up (va_up (va_up (fun _ => none) 0 (some q2)) 1 (some q3)) 2 (some q4)))))))] ++ (stW G (hA q2 v0) sg0 (fun _ => 0) ++ (stW G (hA q3 v1) sg0 (fun _ => 0) ++ stW G (hA q4 v2) sg0 (fun _ => 0))))) rfl (fun _ => rfl) 46 (fun _ => rfl) (by decide +kernel) (by decide +kernel) (fun v3 _ => ?_)
  refine J_st (st' := [.ref q5, .int 3, .ref q1]) rfl ?_
  refine J_aast C 1 35 ([(h, .inr (0, [.ref q1, .int 0, .int 0]))] ++ ([(q1, .inl (G.2.2.2, 4, .inr (.inr (.inr (.inr (va_up (va_up (va_up (va_up (fun _ => none) 0 (some q2)) 1 (some q3)) 2 (some q4)) 3 (some q5)))))))] ++ (stW G (hA q2 v0) sg0 (fun _ => 0) ++ (stW G (hA q3 v1) sg0 (fun _ => 0) ++ (stW G (hA q4 v2) sg0 (fun _ => 0) ++ stW G (hA q5 v3) sg0 (fun _ => 0)))))) rfl rfl rfl rfl 3 rfl (by decide) (by decide) rfl dX0_init_35 ?_
  refine J_iinc C 4 [(1, .int 4), (0, .ref h)] 0 rfl (by decide) (by decide) rfl dX0_init_36 ?_
  refine J_goto C 14 (by decide) dX0_init_39 ?_
  refine J_iload_n C rfl dX0_init_14 ?_
  refine J_aload_n C rfl dX0_init_15 ?_
  refine J_get C 0 0 in0 rfl rfl (by decide) k171 rfl dX0_init_16 ?_
  refine J_alen C 1 rfl dX0_init_19 ?_
  refine J_icmp_ge C 42 (by decide) dX0_init_20 (fun _ => ?_) (fun h => absurd h (by decide))
  refine J_arrq 1 (fun j => some ((fun k => List.getD [hA q2 v0, hA q3 v1, hA q4 v2, hA q5 v3] k (fun _ => 0)) j 0)) rfl (fun j hj => by rcases (show j = 0 ∨ j = 1 ∨ j = 2 ∨ j = 3 by omega) with rfl | rfl | rfl | rfl <;> rfl) ?_
  refine J_ws (ws' := [(h, .inr (0, [.ref q1, .int 0, .int 0])), (q1, .inl (G.2.2.2, 4, .inr (.inr (.inr (.inr (fun j => some ((fun k => List.getD [hA q2 v0, hA q3 v1, hA q4 v2, hA q5 v3] k (fun _ => 0)) j 0)))))))] ++ (stW G (hA q2 v0) sg0 (fun _ => 0) ++ (stW G (hA q3 v1) sg0 (fun _ => 0) ++ (stW G (hA q4 v2) sg0 (fun _ => 0) ++ stW G (hA q5 v3) sg0 (fun _ => 0))))) rfl ?_
  refine J_widen (k' := 45) (n' := 1108) (Nat.le_of_ble_eq_true rfl) (Nat.le_of_ble_eq_true rfl) ?_
  exact J_vret C hr dX0_init_42 (q1, (fun k => List.getD [hA q2 v0, hA q3 v1, hA q4 v2, hA q5 v3] k (fun _ => 0))) rfl trivial rfl
