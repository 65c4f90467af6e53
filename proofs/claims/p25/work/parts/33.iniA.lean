set_option maxHeartbeats 4000000 in
set_option maxRecDepth 100000 in
theorem ct_newScr (l : Launch) (G : GT) (h : Nat)  : Ct (S := Unit) l G NoX yX3_init (Wy yX3_init cX3_init 1 ((Option.none : Option Jvm.ClassFile.FieldType))) { frames := 1, cells := 0, slots := 0, locals := 12 } [.ref h] ([(h, .inr (3, [.int 0, .int 0, .int 0, .int 0, .int 0, .int 0, .float (fl 0)]))]) (fun u => True) (fun u => none) (fun u => [(h, .inr (3, [.int 2, .int 0, .int 0, .int 0, .int 0, .int 0, .float (fl 0)]))]) := by
  refine Ct.of (by decide) (Nat.le_of_ble_eq_true rfl) (fun p e s m args below meth c C hr hnm hX => ?_)
  refine J_aload_n C rfl dX3_init_0 ?_
  refine J_objInit C k79 k24 k25 (Nat.le_of_ble_eq_true rfl) (Nat.le_of_ble_eq_true rfl) dX3_init_1 ?_
  refine J_aload_n C rfl dX3_init_4 ?_
  refine J_iconst C 2 (by decide) dX3_init_5 ?_
  refine J_put C 0 0 in3 tyX3 tyX3_ok nmX3 ([(h, .inr (3, [.int 2, .int 0, .int 0, .int 0, .int 0, .int 0, .float (fl 0)]))]) rfl rfl (by decide) k80 rfl rfl rfl (Nat.le_of_ble_eq_true rfl) rfl dX3_init_6 ?_
  refine J_widen (k' := 0) (n' := 0) (Nat.le_of_ble_eq_true rfl) (Nat.le_of_ble_eq_true rfl) ?_
  exact J_vret C hr dX3_init_9 () rfl trivial rfl

set_option maxHeartbeats 4000000 in
set_option maxRecDepth 100000 in
theorem ct_newPage (l : Launch) (G : GT) (h : Nat)  : Ct (S := Nat → Nat) l G NoX yX1_init (Wy yX1_init cX1_init 1 ((Option.none : Option Jvm.ClassFile.FieldType))) { frames := 1, cells := 6, slots := 240, locals := 12 } [.ref h] ([(h, .inr (1, [.null, .null, .null, .null, .null, .null, .int 0, .int 0]))]) (fun u => True) (fun u => none) (fun u => [(h, .inr (1, [.ref (u 2), .ref (u 3), .ref (u 4), .ref (u 5), .ref (u 6), .ref (u 7), .int 0, .int 0])), (u 2, .inl (G.2.1, 40, .inl (fun _ => 0))), (u 3, .inl (G.2.1, 40, .inl (fun _ => 0))), (u 4, .inl (G.2.1, 40, .inl (fun _ => 0))), (u 5, .inl (G.2.1, 40, .inl (fun _ => 0))), (u 6, .inl (G.2.1, 40, .inl (fun _ => 0))), (u 7, .inl (G.2.1, 40, .inl (fun _ => 0)))]) := by
  refine Ct.of (by decide) (Nat.le_of_ble_eq_true rfl) (fun p e s m args below meth c C hr hnm hX => ?_)
  refine J_aload_n C rfl dX1_init_0 ?_
  refine J_objInit C k37 k24 k25 (Nat.le_of_ble_eq_true rfl) (Nat.le_of_ble_eq_true rfl) dX1_init_1 ?_
  refine J_aload_n C rfl dX1_init_4 ?_
  refine J_bipush C 40 (by decide) dX1_init_5 ?_
  refine J_newi C 40 k73 rfl (Nat.le_of_ble_eq_true rfl) (Nat.le_of_ble_eq_true rfl) (Nat.le_of_ble_eq_true rfl) dX1_init_7 (fun q1 => ?_)
  refine J_ws (ws' := [(h, .inr (1, [.null, .null, .null, .null, .null, .null, .int 0, .int 0]))] ++ [(q1, .inl (G.2.1, 40, .inl (fun _ => 0)))]) rfl ?_
  refine J_putF C 0 0 in1 tyX1 tyX1_ok nmX1 ([(h, .inr (1, [.ref q1, .null, .null, .null, .null, .null, .int 0, .int 0]))] ++ [(q1, .inl (G.2.1, 40, .inl (fun _ => 0)))]) rfl rfl (by decide) k38 rfl hnm rfl rfl rfl (Nat.le_of_ble_eq_true rfl) rfl dX1_init_9 ?_
  refine J_aload_n C rfl dX1_init_12 ?_
  refine J_bipush C 40 (by decide) dX1_init_13 ?_
  refine J_newi C 40 k73 rfl (Nat.le_of_ble_eq_true rfl) (Nat.le_of_ble_eq_true rfl) (Nat.le_of_ble_eq_true rfl) dX1_init_15 (fun q2 => ?_)
  refine J_ws (ws' := [(h, .inr (1, [.ref q1, .null, .null, .null, .null, .null, .int 0, .int 0]))] ++ ([(q1, .inl (G.2.1, 40, .inl (fun _ => 0)))] ++ [(q2, .inl (G.2.1, 40, .inl (fun _ => 0)))])) rfl ?_
  refine J_putF C 0 1 in1 tyX1 tyX1_ok nmX1 ([(h, .inr (1, [.ref q1, .ref q2, .null, .null, .null, .null, .int 0, .int 0]))] ++ ([(q1, .inl (G.2.1, 40, .inl (fun _ => 0)))] ++ [(q2, .inl (G.2.1, 40, .inl (fun _ => 0)))])) rfl rfl (by decide) k41 rfl hnm rfl rfl rfl (Nat.le_of_ble_eq_true rfl) rfl dX1_init_17 ?_
  refine J_aload_n C rfl dX1_init_20 ?_
  refine J_bipush C 40 (by decide) dX1_init_21 ?_
  refine J_newi C 40 k73 rfl (Nat.le_of_ble_eq_true rfl) (Nat.le_of_ble_eq_true rfl) (Nat.le_of_ble_eq_true rfl) dX1_init_23 (fun q3 => ?_)
  refine J_ws (ws' := [(h, .inr (1, [.ref q1, .ref q2, .null, .null, .null, .null, .int 0, .int 0]))] ++ ([(q1, .inl (G.2.1, 40, .inl (fun _ => 0)))] ++ ([(q2, .inl (G.2.1, 40, .inl (fun _ => 0)))] ++ [(q3, .inl (G.2.1, 40, .inl (fun _ => 0)))]))) rfl ?_
  refine J_putF C 0 2 in1 tyX1 tyX1_ok nmX1 ([(h, .inr (1, [.ref q1, .ref q2, .ref q3, .null, .null, .null, .int 0, .int 0]))] ++ ([(q1, .inl (G.2.1, 40, .inl (fun _ => 0)))] ++ ([(q2, .inl (G.2.1, 40, .inl (fun _ => 0)))] ++ [(q3, .inl (G.2.1, 40, .inl (fun _ => 0)))]))) rfl rfl (by decide) k43 rfl hnm rfl rfl rfl (Nat.le_of_ble_eq_true rfl) rfl dX1_init_25 ?_
  refine J_aload_n C rfl dX1_init_28 ?_
  refine J_bipush C 40 (by decide) dX1_init_29 ?_
  refine J_newi C 40 k73 rfl (Nat.le_of_ble_eq_true rfl) (Nat.le_of_ble_eq_true rfl) (Nat.le_of_ble_eq_true rfl) dX1_init_31 (fun q4 => ?_)
  refine J_ws (ws' := [(h, .inr (1, [.ref q1, .ref q2, .ref q3, .null, .null, .null, .int 0, .int 0]))] ++ ([(q1, .inl (G.2.1, 40, .inl (fun _ => 0)))] ++ ([(q2, .inl (G.2.1, 40, .inl (fun _ => 0)))] ++ ([(q3, .inl (G.2.1, 40, .inl (fun _ => 0)))] ++ [(q4, .inl (G.2.1, 40, .inl (fun _ => 0)))])))) rfl ?_
  refine J_putF C 0 3 in1 tyX1 tyX1_ok nmX1 ([(h, .inr (1, [.ref q1, .ref q2, .ref q3, .ref q4, .null, .null, .int 0, .int 0]))] ++ ([(q1, .inl (G.2.1, 40, .inl (fun _ => 0)))] ++ ([(q2, .inl (G.2.1, 40, .inl (fun _ => 0)))] ++ ([(q3, .inl (G.2.1, 40, .inl (fun _ => 0)))] ++ [(q4, .inl (G.2.1, 40, .inl (fun _ => 0)))])))) rfl rfl (by decide) k45 rfl hnm rfl rfl rfl (Nat.le_of_ble_eq_true rfl) rfl dX1_init_33 ?_
  refine J_aload_n C rfl dX1_init_36 ?_
  refine J_bipush C 40 (by decide) dX1_init_37 ?_
  refine J_newi C 40 k73 rfl (Nat.le_of_ble_eq_true rfl) (Nat.le_of_ble_eq_true rfl) (Nat.le_of_ble_eq_true rfl) dX1_init_39 (fun q5 => ?_)
  refine J_ws (ws' := [(h, .inr (1, [.ref q1, .ref q2, .ref q3, .ref q4, .null, .null, .int 0, .int 0]))] ++ ([(q1, .inl (G.2.1, 40, .inl (fun _ => 0)))] ++ ([(q2, .inl (G.2.1, 40, .inl (fun _ => 0)))] ++ ([(q3, .inl (G.2.1, 40, .inl (fun _ => 0)))] ++ ([(q4, .inl (G.2.1, 40, .inl (fun _ => 0)))] ++ [(q5, .inl (G.2.1, 40, .inl (fun _ => 0)))]))))) rfl ?_
  refine J_putF C 0 4 in1 tyX1 tyX1_ok nmX1 ([(h, .inr (1, [.ref q1, .ref q2, .ref q3, .ref q4, .ref q5, .null, .int 0, .int 0]))] ++ ([(q1, .inl (G.2.1, 40, .inl (fun _ => 0)))] ++ ([(q2, .inl (G.2.1, 40, .inl (fun _ => 0)))] ++ ([(q3, .inl (G.2.1, 40, .inl (fun _ => 0)))] ++ ([(q4, .inl (G.2.1, 40, .inl (fun _ => 0)))] ++ [(q5, .inl (G.2.1, 40, .inl (fun _ => 0)))]))))) rfl rfl (by decide) k47 rfl hnm rfl rfl rfl (Nat.le_of_ble_eq_true rfl) rfl dX1_init_41 ?_
  refine J_aload_n C rfl dX1_init_44 ?_
  refine J_bipush C 40 (by decide) dX1_init_45 ?_
  refine J_newi C 40 k73 rfl (Nat.le_of_ble_eq_true rfl) (Nat.le_of_ble_eq_true rfl) (Nat.le_of_ble_eq_true rfl) dX1_init_47 (fun q6 => ?_)
  refine J_ws (ws' := [(h, .inr (1, [.ref q1, .ref q2, .ref q3, .ref q4, .ref q5, .null, .int 0, .int 0]))] ++ ([(q1, .inl (G.2.1, 40, .inl (fun _ => 0)))] ++ ([(q2, .inl (G.2.1, 40, .inl (fun _ => 0)))] ++ ([(q3, .inl (G.2.1, 40, .inl (fun _ => 0)))] ++ ([(q4, .inl (G.2.1, 40, .inl (fun _ => 0)))] ++ ([(q5, .inl (G.2.1, 40, .inl (fun _ => 0)))] ++ [(q6, .inl (G.2.1, 40, .inl (fun _ => 0)))])))))) rfl ?_
  refine J_putF C 0 5 in1 tyX1 tyX1_ok nmX1 ([(h, .inr (1, [.ref q1, .ref q2, .ref q3, .ref q4, .ref q5, .ref q6, .int 0, .int 0]))] ++ ([(q1, .inl (G.2.1, 40, .inl (fun _ => 0)))] ++ ([(q2, .inl (G.2.1, 40, .inl (fun _ => 0)))] ++ ([(q3, .inl (G.2.1, 40, .inl (fun _ => 0)))] ++ ([(q4, .inl (G.2.1, 40, .inl (fun _ => 0)))] ++ ([(q5, .inl (G.2.1, 40, .inl (fun _ => 0)))] ++ [(q6, .inl (G.2.1, 40, .inl (fun _ => 0)))])))))) rfl rfl (by decide) k49 rfl hnm rfl rfl rfl (Nat.le_of_ble_eq_true rfl) rfl dX1_init_49 ?_
  refine J_widen (k' := 6) (n' := 240) (Nat.le_of_ble_eq_true rfl) (Nat.le_of_ble_eq_true rfl) ?_
  exact J_vret C hr dX1_init_52 (fun k => List.getD [h, h, q1, q2, q3, q4, q5, q6] k 0) rfl trivial rfl

set_option maxHeartbeats 4000000 in
set_option maxRecDepth 100000 in
theorem ct_newText (l : Launch) (G : GT) (h : Nat)  : Ct (S := Nat → Nat) l G NoX yX2_init (Wy yX2_init cX2_init 1 ((Option.none : Option Jvm.ClassFile.FieldType))) { frames := 1, cells := 3, slots := 120, locals := 12 } [.ref h] ([(h, .inr (2, [.null, .null, .null, .int 0, .int 0, .int 0, .int 0]))]) (fun u => True) (fun u => none) (fun u => txW G (hA h u) (fun _ => 0) 0 (fun _ => 0) (fun _ => 0) 0 0 0) := by
  refine Ct.of (by decide) (Nat.le_of_ble_eq_true rfl) (fun p e s m args below meth c C hr hnm hX => ?_)
  refine J_aload_n C rfl dX2_init_0 ?_
  refine J_objInit C k187 k24 k25 (Nat.le_of_ble_eq_true rfl) (Nat.le_of_ble_eq_true rfl) dX2_init_1 ?_
  refine J_aload_n C rfl dX2_init_4 ?_
  refine J_bipush C 60 (by decide) dX2_init_5 ?_
  refine J_newc C 60 k216 rfl (Nat.le_of_ble_eq_true rfl) (Nat.le_of_ble_eq_true rfl) (Nat.le_of_ble_eq_true rfl) dX2_init_7 (fun q1 => ?_)
  refine J_ws (ws' := [(h, .inr (2, [.null, .null, .null, .int 0, .int 0, .int 0, .int 0]))] ++ [(q1, .inl (G.2.2.1, 60, .inl (fun _ => 0)))]) rfl ?_
  refine J_putF C 0 0 in2 tyX2 tyX2_ok nmX2 ([(h, .inr (2, [.ref q1, .null, .null, .int 0, .int 0, .int 0, .int 0]))] ++ [(q1, .inl (G.2.2.1, 60, .inl (fun _ => 0)))]) rfl rfl (by decide) k188 rfl hnm rfl rfl rfl (Nat.le_of_ble_eq_true rfl) rfl dX2_init_9 ?_
  refine J_aload_n C rfl dX2_init_12 ?_
  refine J_bipush C 20 (by decide) dX2_init_13 ?_
  refine J_newi C 20 k73 rfl (Nat.le_of_ble_eq_true rfl) (Nat.le_of_ble_eq_true rfl) (Nat.le_of_ble_eq_true rfl) dX2_init_15 (fun q2 => ?_)
  refine J_ws (ws' := [(h, .inr (2, [.ref q1, .null, .null, .int 0, .int 0, .int 0, .int 0]))] ++ ([(q1, .inl (G.2.2.1, 60, .inl (fun _ => 0)))] ++ [(q2, .inl (G.2.1, 20, .inl (fun _ => 0)))])) rfl ?_
  refine J_putF C 0 1 in2 tyX2 tyX2_ok nmX2 ([(h, .inr (2, [.ref q1, .ref q2, .null, .int 0, .int 0, .int 0, .int 0]))] ++ ([(q1, .inl (G.2.2.1, 60, .inl (fun _ => 0)))] ++ [(q2, .inl (G.2.1, 20, .inl (fun _ => 0)))])) rfl rfl (by decide) k189 rfl hnm rfl rfl rfl (Nat.le_of_ble_eq_true rfl) rfl dX2_init_17 ?_
  refine J_aload_n C rfl dX2_init_20 ?_
  refine J_bipush C 40 (by decide) dX2_init_21 ?_
  refine J_newi C 40 k73 rfl (Nat.le_of_ble_eq_true rfl) (Nat.le_of_ble_eq_true rfl) (Nat.le_of_ble_eq_true rfl) dX2_init_23 (fun q3 => ?_)
  refine J_ws (ws' := [(h, .inr (2, [.ref q1, .ref q2, .null, .int 0, .int 0, .int 0, .int 0]))] ++ ([(q1, .inl (G.2.2.1, 60, .inl (fun _ => 0)))] ++ ([(q2, .inl (G.2.1, 20, .inl (fun _ => 0)))] ++ [(q3, .inl (G.2.1, 40, .inl (fun _ => 0)))]))) rfl ?_
  refine J_putF C 0 2 in2 tyX2 tyX2_ok nmX2 ([(h, .inr (2, [.ref q1, .ref q2, .ref q3, .int 0, .int 0, .int 0, .int 0]))] ++ ([(q1, .inl (G.2.2.1, 60, .inl (fun _ => 0)))] ++ ([(q2, .inl (G.2.1, 20, .inl (fun _ => 0)))] ++ [(q3, .inl (G.2.1, 40, .inl (fun _ => 0)))]))) rfl rfl (by decide) k191 rfl hnm rfl rfl rfl (Nat.le_of_ble_eq_true rfl) rfl dX2_init_25 ?_
  refine J_widen (k' := 3) (n' := 120) (Nat.le_of_ble_eq_true rfl) (Nat.le_of_ble_eq_true rfl) ?_
  exact J_vret C hr dX2_init_28 (fun k => List.getD [h, q1, q2, q3] k 0) rfl trivial rfl
