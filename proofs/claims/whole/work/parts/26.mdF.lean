set_option maxHeartbeats 4000000 in
set_option maxRecDepth 100000 in
theorem ct_mUndoN (l : Launch) (G : GT) (mo : Nat → Nat) (σ : AS) (kf tf H sf df xf : Nat → Nat) (hn ik tl sp rd : Nat) (gr : Int32) (h0 : hn = 0) : Ct (S := Unit) l G NoX yX6_undo (Wy yX6_undo cX6_undo 2 ((Option.some Jvm.ClassFile.FieldType.int))) { frames := 0, cells := 0, slots := 0, locals := 0 } [.ref (mo 0)] (mdW G mo σ kf tf H sf df xf hn ik tl sp rd gr) (fun u => True) (fun u => some (.int (-5))) (fun u => mdW G mo σ kf tf H sf df xf hn ik tl sp rd gr) := by
  refine Ct.of (by decide) (Nat.le_of_ble_eq_true rfl) (fun p e s m args below meth c C hr hnm hX => ?_)
  refine J_aload_n C rfl dX6_undo_0 ?_
  refine J_get C 0 4 in6 rfl rfl (by decide) k579 rfl dX6_undo_1 ?_
  refine J_if_ne C 10 (by decide) dX6_undo_4 (fun h => absurd (cv_ne_t (a := hn) (b := 0) (by omega) (by omega) h) (by omega)) (fun c4 => ?_)
  refine J_bipush C (-5) (by decide) dX6_undo_7 ?_
  exact J_zret C hr rfl dX6_undo_9 () rfl trivial rfl

set_option maxHeartbeats 4000000 in
set_option maxRecDepth 100000 in
theorem ct_mUndoY (l : Launch) (G : GT) (mo : Nat → Nat) (σ : AS) (kf tf H sf df xf : Nat → Nat) (hn ik tl sp rd : Nat) (gr : Int32) (τ : AS) (h4 : 0 < hn ∧ hn ≤ 4) (hτ : ∀ q, q < 246 → H (246 * (hn - 1) + q) = rowM τ q) : Ct (S := Unit) l G NoX yX6_undo (Wy yX6_undo cX6_undo 2 ((Option.some Jvm.ClassFile.FieldType.int))) { frames := 0, cells := 0, slots := 0, locals := 0 } [.ref (mo 0)] (mdW G mo σ kf tf H sf df xf hn ik tl sp rd gr) (fun u => True) (fun u => some (.int (nI (hn - 1)))) (fun u => mdW G mo τ kf tf H sf df xf (hn - 1) ik tl sp rd gr) := by
  refine Ct.of (by decide) (Nat.le_of_ble_eq_true rfl) (fun p e s m args below meth c C hr hnm hX => ?_)
  refine J_aload_n C rfl dX6_undo_0 ?_
  refine J_get C 0 4 in6 rfl rfl (by decide) k579 rfl dX6_undo_1 ?_
  refine J_if_ne C 10 (by decide) dX6_undo_4 (fun c4 => ?_) (fun h => absurd (cv_ne_f (a := hn) (b := 0) (by omega) (by omega) h) (by omega))
  refine J_aload_n C rfl dX6_undo_10 ?_
  refine J_dup C rfl dX6_undo_11 ?_
  refine J_get C 0 4 in6 rfl rfl (by decide) k579 rfl dX6_undo_12 ?_
  refine J_iconst C 1 (by decide) dX6_undo_15 ?_
  refine J_isub C dX6_undo_16 ?_
  refine J_i (pk_sub (a := hn) (b := 1) (by omega) : ((nI hn) - 1 : Int32) = (nI (hn - 1))) ?_
  refine J_put C 0 4 in6 tyX6 tyX6_ok nmX6 ([(mo 0, .inr (6, [.ref (mo 1), .ref (mo 2), .ref (mo 3), .ref (mo 4), .int (nI (hn - 1)), .ref (mo 5), .int (nI ik), .ref (mo 6), .ref (mo 7), .int (nI tl), .int (nI sp), .int (nI rd), .int gr])), (mo 1, .inl (G.2.1, 246, .inl (fun q => nI ((rowM σ) q)))), (mo 2, .inl (G.2.1, 246, .inl (fun q => nI (kf q)))), (mo 3, .inl (G.2.1, 246, .inl (fun q => nI (tf q)))), (mo 4, .inl (G.2.1, 984, .inl (fun q => nI (H q)))), (mo 5, .inl (G.2.1, 246, .inl (fun q => nI (sf q)))), (mo 6, .inl (G.2.1, 40, .inl (fun q => nI (df q)))), (mo 7, .inl (G.2.1, 60, .inl (fun q => nI (xf q))))]) rfl rfl (by decide) k579 rfl rfl rfl (Nat.le_of_ble_eq_true rfl) rfl dX6_undo_17 ?_
  refine J_ws (ws' := mdW G mo σ kf tf H sf df xf (hn - 1) ik tl sp rd gr) rfl ?_
  refine J_iconst C 0 (by decide) dX6_undo_20 ?_
  refine J_istore_n C [(1, .int 0), (0, .ref (mo 0))] (by decide) rfl dX6_undo_21 ?_
  refine J_lvp [1, 0] [(0, .ref (mo 0)), (1, .int 0)] rfl ?_
  refine J_loop (fun i => [(mo 0, .inr (6, [.ref (mo 1), .ref (mo 2), .ref (mo 3), .ref (mo 4), .int (nI (hn - 1)), .ref (mo 5), .int (nI ik), .ref (mo 6), .ref (mo 7), .int (nI tl), .int (nI sp), .int (nI rd), .int gr])), (mo 1, .inl (G.2.1, 246, .inl (fun q => nI ((cpM i (fun q => H (246 * (hn - 1) + q)) (rowM σ)) q)))), (mo 2, .inl (G.2.1, 246, .inl (fun q => nI (kf q)))), (mo 3, .inl (G.2.1, 246, .inl (fun q => nI (tf q)))), (mo 4, .inl (G.2.1, 984, .inl (fun q => nI (H q)))), (mo 5, .inl (G.2.1, 246, .inl (fun q => nI (sf q)))), (mo 6, .inl (G.2.1, 40, .inl (fun q => nI (df q)))), (mo 7, .inl (G.2.1, 60, .inl (fun q => nI (xf q))))]) (fun i => [(0, .ref (mo 0)), (1, .int (nI i))]) (fun i => i ≤ 246) (fun i => 246 - i) (fun i hi2 ih => ?_) 0 (Nat.zero_le _) (by rw [cpM_0]) rfl
  refine J_iload_n C rfl dX6_undo_22 ?_
  refine J_sipush C 246 (by decide) dX6_undo_23 ?_
  refine J_icmp_ge C 56 (by decide) dX6_undo_26 (fun c26 => ?_) (fun c26 => ?_)
  · skip
    have c26 := cv_ge_t (a := i) (b := 246) (by omega) (by omega) c26
    refine J_arr 1 (fun q => nI (rowM τ q)) rfl (fun q hq => congrArg nI ((if_pos (show q < i by omega)).trans (hτ q hq))) ?_
    refine J_ws (ws' := mdW G mo τ kf tf H sf df xf (hn - 1) ik tl sp rd gr) rfl ?_
    refine J_aload_n C rfl dX6_undo_56 ?_
    refine J_get C 0 4 in6 rfl rfl (by decide) k579 rfl dX6_undo_57 ?_
    exact J_zret C hr rfl dX6_undo_60 () rfl trivial rfl
  · skip
    have c26 := cv_ge_f (a := i) (b := 246) (by omega) (by omega) c26
    refine J_aload_n C rfl dX6_undo_29 ?_
    refine J_get C 0 0 in6 rfl rfl (by decide) k575 rfl dX6_undo_30 ?_
    refine J_iload_n C rfl dX6_undo_33 ?_
    refine J_aload_n C rfl dX6_undo_34 ?_
    refine J_get C 0 3 in6 rfl rfl (by decide) k578 rfl dX6_undo_35 ?_
    refine J_sipush C 246 (by decide) dX6_undo_38 ?_
    refine J_aload_n C rfl dX6_undo_41 ?_
    refine J_get C 0 4 in6 rfl rfl (by decide) k579 rfl dX6_undo_42 ?_
    refine J_imul C dX6_undo_45 ?_
    refine J_i (pk_mul 246 (hn - 1) : (246 * (nI (hn - 1)) : Int32) = (nI (246 * (hn - 1)))) ?_
    refine J_iload_n C rfl dX6_undo_46 ?_
    refine J_iadd C dX6_undo_47 ?_
    refine J_i (nI_add (246 * (hn - 1)) i : ((nI (246 * (hn - 1))) + (nI i) : Int32) = (nI ((246 * (hn - 1)) + i))) ?_
    refine J_iald C 4 rfl ((246 * (hn - 1)) + i) rfl (by omega) (Nat.le_of_ble_eq_true rfl) dX6_undo_48 ?_
    refine J_iast C 1 ([(mo 0, .inr (6, [.ref (mo 1), .ref (mo 2), .ref (mo 3), .ref (mo 4), .int (nI (hn - 1)), .ref (mo 5), .int (nI ik), .ref (mo 6), .ref (mo 7), .int (nI tl), .int (nI sp), .int (nI rd), .int gr])), (mo 1, .inl (G.2.1, 246, .inl (upd (fun q => nI ((cpM i (fun q => H (246 * (hn - 1) + q)) (rowM σ)) q)) i (nI (H ((246 * (hn - 1)) + i)))))), (mo 2, .inl (G.2.1, 246, .inl (fun q => nI (kf q)))), (mo 3, .inl (G.2.1, 246, .inl (fun q => nI (tf q)))), (mo 4, .inl (G.2.1, 984, .inl (fun q => nI (H q)))), (mo 5, .inl (G.2.1, 246, .inl (fun q => nI (sf q)))), (mo 6, .inl (G.2.1, 40, .inl (fun q => nI (df q)))), (mo 7, .inl (G.2.1, 60, .inl (fun q => nI (xf q))))]) rfl i rfl (by omega) (Nat.le_of_ble_eq_true rfl) rfl dX6_undo_49 ?_
    refine J_arr 1 (fun q => nI (if q = i then H ((246 * (hn - 1)) + i) else cpM i (fun q => H (246 * (hn - 1) + q)) (rowM σ) q)) rfl (fun q _ => congrFun (upd_nI _ _ _) q) ?_
    refine J_ws (ws' := [(mo 0, .inr (6, [.ref (mo 1), .ref (mo 2), .ref (mo 3), .ref (mo 4), .int (nI (hn - 1)), .ref (mo 5), .int (nI ik), .ref (mo 6), .ref (mo 7), .int (nI tl), .int (nI sp), .int (nI rd), .int gr])), (mo 1, .inl (G.2.1, 246, .inl (fun q => nI (if q = i then H ((246 * (hn - 1)) + i) else cpM i (fun q => H (246 * (hn - 1) + q)) (rowM σ) q)))), (mo 2, .inl (G.2.1, 246, .inl (fun q => nI (kf q)))), (mo 3, .inl (G.2.1, 246, .inl (fun q => nI (tf q)))), (mo 4, .inl (G.2.1, 984, .inl (fun q => nI (H q)))), (mo 5, .inl (G.2.1, 246, .inl (fun q => nI (sf q)))), (mo 6, .inl (G.2.1, 40, .inl (fun q => nI (df q)))), (mo 7, .inl (G.2.1, 60, .inl (fun q => nI (xf q))))]) rfl ?_
    refine J_iinc C (nI (i + 1)) [(1, .int (nI (i + 1))), (0, .ref (mo 0))] 1 rfl (by first | exact nI_add _ 1 | rfl) (by decide) rfl dX6_undo_50 ?_
    refine J_goto C 22 (by decide) dX6_undo_53 ?_
    rw [cpM_nextI (fun q => H (246 * (hn - 1) + q))]
    refine J_lvp [1, 0] [(0, .ref (mo 0)), (1, .int (nI (i + 1)))] rfl ?_
    exact ih (i + 1) (by omega) (by omega)

set_option maxHeartbeats 4000000 in
set_option maxRecDepth 100000 in
theorem ct_mKeep (l : Launch) (G : GT) (mo : Nat → Nat) (σ : AS) (kf tf H sf df xf : Nat → Nat) (hn ik tl sp rd : Nat) (gr : Int32)  : Ct (S := Unit) l G NoX yX6_keep (Wy yX6_keep cX6_keep 2 ((Option.some Jvm.ClassFile.FieldType.int))) { frames := 0, cells := 0, slots := 0, locals := 0 } [.ref (mo 0)] (mdW G mo σ kf tf H sf df xf hn ik tl sp rd gr) (fun u => True) (fun u => some (.int (nI (σ 0 3)))) (fun u => mdW G mo σ kf tf H (rowM σ) df xf hn 1 tl sp rd gr) := by
  refine Ct.of (by decide) (Nat.le_of_ble_eq_true rfl) (fun p e s m args below meth c C hr hnm hX => ?_)
  refine J_iconst C 0 (by decide) dX6_keep_0 ?_
  refine J_istore_n C [(1, .int 0), (0, .ref (mo 0))] (by decide) rfl dX6_keep_1 ?_
  refine J_lvp [1, 0] [(0, .ref (mo 0)), (1, .int 0)] rfl ?_
  refine J_loop (fun i => mdW G mo σ kf tf H (cpM i (rowM σ) sf) df xf hn ik tl sp rd gr) (fun i => [(0, .ref (mo 0)), (1, .int (nI i))]) (fun i => i ≤ 246) (fun i => 246 - i) (fun i hi ih => ?_) 0 (Nat.zero_le _) (by rw [cpM_0]) rfl
  refine J_iload_n C rfl dX6_keep_2 ?_
  refine J_sipush C 246 (by decide) dX6_keep_3 ?_
  refine J_icmp_ge C 27 (by decide) dX6_keep_6 (fun c6 => ?_) (fun c6 => ?_)
  · skip
    have c6 := cv_ge_t (a := i) (b := 246) (by omega) (by omega) c6
    refine J_arr 5 (fun q => nI (rowM σ q)) rfl (fun q hq => congrArg nI (if_pos (show q < i by omega))) ?_
    refine J_ws (ws' := mdW G mo σ kf tf H (rowM σ) df xf hn ik tl sp rd gr) rfl ?_
    refine J_aload_n C rfl dX6_keep_27 ?_
    refine J_iconst C 1 (by decide) dX6_keep_28 ?_
    refine J_put C 0 6 in6 tyX6 tyX6_ok nmX6 ([(mo 0, .inr (6, [.ref (mo 1), .ref (mo 2), .ref (mo 3), .ref (mo 4), .int (nI hn), .ref (mo 5), .int 1, .ref (mo 6), .ref (mo 7), .int (nI tl), .int (nI sp), .int (nI rd), .int gr])), (mo 1, .inl (G.2.1, 246, .inl (fun q => nI ((rowM σ) q)))), (mo 2, .inl (G.2.1, 246, .inl (fun q => nI (kf q)))), (mo 3, .inl (G.2.1, 246, .inl (fun q => nI (tf q)))), (mo 4, .inl (G.2.1, 984, .inl (fun q => nI (H q)))), (mo 5, .inl (G.2.1, 246, .inl (fun q => nI ((rowM σ) q)))), (mo 6, .inl (G.2.1, 40, .inl (fun q => nI (df q)))), (mo 7, .inl (G.2.1, 60, .inl (fun q => nI (xf q))))]) rfl rfl (by decide) k581 rfl rfl rfl (Nat.le_of_ble_eq_true rfl) rfl dX6_keep_29 ?_
    refine J_ws (ws' := mdW G mo σ kf tf H (rowM σ) df xf hn 1 tl sp rd gr) rfl ?_
    refine J_aload_n C rfl dX6_keep_32 ?_
    refine J_get C 0 0 in6 rfl rfl (by decide) k575 rfl dX6_keep_33 ?_
    refine J_iconst C 3 (by decide) dX6_keep_36 ?_
    refine J_iald C 1 rfl 3 rfl (by decide) (Nat.le_of_ble_eq_true rfl) dX6_keep_37 ?_
    refine J_i (y := nI (σ 0 3)) (rfl) ?_
    exact J_zret C hr rfl dX6_keep_38 () rfl trivial rfl
  · skip
    have c6 := cv_ge_f (a := i) (b := 246) (by omega) (by omega) c6
    refine J_aload_n C rfl dX6_keep_9 ?_
    refine J_get C 0 5 in6 rfl rfl (by decide) k580 rfl dX6_keep_10 ?_
    refine J_iload_n C rfl dX6_keep_13 ?_
    refine J_aload_n C rfl dX6_keep_14 ?_
    refine J_get C 0 0 in6 rfl rfl (by decide) k575 rfl dX6_keep_15 ?_
    refine J_iload_n C rfl dX6_keep_18 ?_
    refine J_iald C 1 rfl i rfl (by omega) (Nat.le_of_ble_eq_true rfl) dX6_keep_19 ?_
    refine J_iast C 5 ([(mo 0, .inr (6, [.ref (mo 1), .ref (mo 2), .ref (mo 3), .ref (mo 4), .int (nI hn), .ref (mo 5), .int (nI ik), .ref (mo 6), .ref (mo 7), .int (nI tl), .int (nI sp), .int (nI rd), .int gr])), (mo 1, .inl (G.2.1, 246, .inl (fun q => nI ((rowM σ) q)))), (mo 2, .inl (G.2.1, 246, .inl (fun q => nI (kf q)))), (mo 3, .inl (G.2.1, 246, .inl (fun q => nI (tf q)))), (mo 4, .inl (G.2.1, 984, .inl (fun q => nI (H q)))), (mo 5, .inl (G.2.1, 246, .inl (upd (fun q => nI ((cpM i (rowM σ) sf) q)) i (nI ((rowM σ) i))))), (mo 6, .inl (G.2.1, 40, .inl (fun q => nI (df q)))), (mo 7, .inl (G.2.1, 60, .inl (fun q => nI (xf q))))]) rfl i rfl (by omega) (Nat.le_of_ble_eq_true rfl) rfl dX6_keep_20 ?_
    refine J_arr 5 (fun q => nI (if q = i then (rowM σ) i else (cpM i (rowM σ) sf) q)) rfl (fun q _ => congrFun (upd_nI _ _ _) q) ?_
    refine J_ws (ws' := mdW G mo σ kf tf H (fun q => if q = i then (rowM σ) i else (cpM i (rowM σ) sf) q) df xf hn ik tl sp rd gr) rfl ?_
    refine J_iinc C (nI (i + 1)) [(1, .int (nI (i + 1))), (0, .ref (mo 0))] 1 rfl (by first | exact nI_add _ 1 | rfl) (by decide) rfl dX6_keep_21 ?_
    refine J_goto C 2 (by decide) dX6_keep_24 ?_
    rw [cpM_next]
    refine J_lvp [1, 0] [(0, .ref (mo 0)), (1, .int (nI (i + 1)))] rfl ?_
    exact ih (i + 1) (by omega) (by omega)

set_option maxHeartbeats 4000000 in
set_option maxRecDepth 100000 in
theorem ct_mRestN (l : Launch) (G : GT) (mo : Nat → Nat) (σ : AS) (kf tf H sf df xf : Nat → Nat) (hn ik tl sp rd : Nat) (gr : Int32) (hk : ik = 0) : Ct (S := Unit) l G NoX yX6_restore (Wy yX6_restore cX6_restore 2 ((Option.some Jvm.ClassFile.FieldType.int))) { frames := 0, cells := 0, slots := 0, locals := 0 } [.ref (mo 0)] (mdW G mo σ kf tf H sf df xf hn ik tl sp rd gr) (fun u => True) (fun u => some (.int (-5))) (fun u => mdW G mo σ kf tf H sf df xf hn ik tl sp rd gr) := by
  refine Ct.of (by decide) (Nat.le_of_ble_eq_true rfl) (fun p e s m args below meth c C hr hnm hX => ?_)
  refine J_aload_n C rfl dX6_restore_0 ?_
  refine J_get C 0 6 in6 rfl rfl (by decide) k581 rfl dX6_restore_1 ?_
  refine J_if_ne C 10 (by decide) dX6_restore_4 (fun h => absurd (cv_ne_t (a := ik) (b := 0) (by omega) (by omega) h) (by omega)) (fun c4 => ?_)
  refine J_bipush C (-5) (by decide) dX6_restore_7 ?_
  exact J_zret C hr rfl dX6_restore_9 () rfl trivial rfl

set_option maxHeartbeats 4000000 in
set_option maxRecDepth 100000 in
theorem ct_mRestY (l : Launch) (G : GT) (mo : Nat → Nat) (σ : AS) (kf tf H sf df xf : Nat → Nat) (hn ik tl sp rd : Nat) (gr : Int32) (τ : AS) (hk : ik = 1) (h4 : hn ≤ 4) (hτ : ∀ q, q < 246 → sf q = rowM τ q) : Ct (S := Unit) l G NoX yX6_restore (Wy yX6_restore cX6_restore 2 ((Option.some Jvm.ClassFile.FieldType.int))) { frames := 1, cells := 0, slots := 0, locals := 22 } [.ref (mo 0)] (mdW G mo σ kf tf H sf df xf hn ik tl sp rd gr) (fun u => True) (fun u => some (.int (nI (τ 0 3)))) (fun u => mdW G mo τ (rowM σ) tf (endH H (rowM σ) hn) sf df xf (sizeF hn) ik tl sp rd gr) := by
  refine Ct.of (by decide) (Nat.le_of_ble_eq_true rfl) (fun p e s m args below meth c C hr hnm hX => ?_)
  refine J_aload_n C rfl dX6_restore_0 ?_
  refine J_get C 0 6 in6 rfl rfl (by decide) k581 rfl dX6_restore_1 ?_
  refine J_if_ne C 10 (by decide) dX6_restore_4 (fun c4 => ?_) (fun h => absurd (cv_ne_f (a := ik) (b := 0) (by omega) (by omega) h) (by omega))
  refine J_aload_n C rfl dX6_restore_10 ?_
  refine J_callV (as := []) (rest := []) C (ct_keeps l G mo σ kf tf H sf df xf hn ik tl sp rd gr) (fun u => mdW G mo σ (rowM σ) tf H sf df xf hn ik tl sp rd gr) [0, 1, 2, 3, 4, 5, 6, 7] [] 0 k638 k640 k13 k38 k641 rfl (by decide +kernel) ⟨Nat.le_of_ble_eq_true rfl, Nat.le_of_ble_eq_true rfl⟩ ⟨Nat.le_of_ble_eq_true rfl, Nat.le_of_ble_eq_true rfl⟩ dX6_restore_11 (Nat.le_of_ble_eq_true rfl) 0 rfl rfl rfl (by decide +kernel) (fun _ => rfl) ([]) rfl (fun _ => rfl) 8 (fun _ => rfl) (by decide +kernel) (by decide +kernel) (fun _ _ => ?_)
  refine J_st (st' := []) rfl ?_
  refine J_ws (ws' := mdW G mo σ (rowM σ) tf H sf df xf hn ik tl sp rd gr) rfl ?_
  refine J_iconst C 0 (by decide) dX6_restore_14 ?_
  refine J_istore_n C [(1, .int 0), (0, .ref (mo 0))] (by decide) rfl dX6_restore_15 ?_
  refine J_lvp [1, 0] [(0, .ref (mo 0)), (1, .int 0)] rfl ?_
  refine J_loop (fun i => [(mo 0, .inr (6, [.ref (mo 1), .ref (mo 2), .ref (mo 3), .ref (mo 4), .int (nI hn), .ref (mo 5), .int (nI ik), .ref (mo 6), .ref (mo 7), .int (nI tl), .int (nI sp), .int (nI rd), .int gr])), (mo 1, .inl (G.2.1, 246, .inl (fun q => nI ((cpM i (sf) (rowM σ)) q)))), (mo 2, .inl (G.2.1, 246, .inl (fun q => nI ((rowM σ) q)))), (mo 3, .inl (G.2.1, 246, .inl (fun q => nI (tf q)))), (mo 4, .inl (G.2.1, 984, .inl (fun q => nI (H q)))), (mo 5, .inl (G.2.1, 246, .inl (fun q => nI (sf q)))), (mo 6, .inl (G.2.1, 40, .inl (fun q => nI (df q)))), (mo 7, .inl (G.2.1, 60, .inl (fun q => nI (xf q))))]) (fun i => [(0, .ref (mo 0)), (1, .int (nI i))]) (fun i => i ≤ 246) (fun i => 246 - i) (fun i hi2 ih => ?_) 0 (Nat.zero_le _) (by rw [cpM_0]) rfl
  refine J_iload_n C rfl dX6_restore_16 ?_
  refine J_sipush C 246 (by decide) dX6_restore_17 ?_
  refine J_icmp_ge C 41 (by decide) dX6_restore_20 (fun c20 => ?_) (fun c20 => ?_)
  · skip
    have c20 := cv_ge_t (a := i) (b := 246) (by omega) (by omega) c20
    refine J_arr 1 (fun q => nI (rowM τ q)) rfl (fun q hq => congrArg nI ((if_pos (show q < i by omega)).trans (hτ q hq))) ?_
    refine J_ws (ws' := mdW G mo τ (rowM σ) tf H sf df xf hn ik tl sp rd gr) rfl ?_
    refine J_aload_n C rfl dX6_restore_41 ?_
    refine J_aload_n C rfl dX6_restore_42 ?_
    refine J_get C 0 0 in6 rfl rfl (by decide) k575 rfl dX6_restore_43 ?_
    refine J_iconst C 3 (by decide) dX6_restore_46 ?_
    refine J_iald C 1 rfl 3 rfl (by decide) (Nat.le_of_ble_eq_true rfl) dX6_restore_47 ?_
    refine J_i (y := nI (τ 0 3)) (rfl) ?_
    refine J_callV (as := [.int (nI (τ 0 3))]) (rest := []) C (ct_ends l G mo τ (rowM σ) tf H sf df xf hn ik tl sp rd gr (nI (τ 0 3)) h4) (fun u => mdW G mo τ (rowM σ) tf (endH H (rowM σ) hn) sf df xf (sizeF hn) ik tl sp rd gr) [0, 1, 2, 3, 4, 5, 6, 7] [] 1 k642 k644 k14 k38 k645 rfl (by decide +kernel) ⟨Nat.le_of_ble_eq_true rfl, Nat.le_of_ble_eq_true rfl⟩ ⟨Nat.le_of_ble_eq_true rfl, Nat.le_of_ble_eq_true rfl⟩ dX6_restore_48 (Nat.le_of_ble_eq_true rfl) 0 rfl rfl rfl (by decide +kernel) (fun _ => rfl) ([]) rfl (fun _ => rfl) 8 (fun _ => rfl) (by decide +kernel) (by decide +kernel) (fun _ _ => ?_)
    refine J_st (st' := [.int (nI (τ 0 3))]) rfl ?_
    exact J_zret C hr rfl dX6_restore_51 () rfl trivial rfl
  · skip
    have c20 := cv_ge_f (a := i) (b := 246) (by omega) (by omega) c20
    refine J_aload_n C rfl dX6_restore_23 ?_
    refine J_get C 0 0 in6 rfl rfl (by decide) k575 rfl dX6_restore_24 ?_
    refine J_iload_n C rfl dX6_restore_27 ?_
    refine J_aload_n C rfl dX6_restore_28 ?_
    refine J_get C 0 5 in6 rfl rfl (by decide) k580 rfl dX6_restore_29 ?_
    refine J_iload_n C rfl dX6_restore_32 ?_
    refine J_iald C 5 rfl i rfl (by omega) (Nat.le_of_ble_eq_true rfl) dX6_restore_33 ?_
    refine J_iast C 1 ([(mo 0, .inr (6, [.ref (mo 1), .ref (mo 2), .ref (mo 3), .ref (mo 4), .int (nI hn), .ref (mo 5), .int (nI ik), .ref (mo 6), .ref (mo 7), .int (nI tl), .int (nI sp), .int (nI rd), .int gr])), (mo 1, .inl (G.2.1, 246, .inl (upd (fun q => nI ((cpM i (sf) (rowM σ)) q)) i (nI (sf i))))), (mo 2, .inl (G.2.1, 246, .inl (fun q => nI ((rowM σ) q)))), (mo 3, .inl (G.2.1, 246, .inl (fun q => nI (tf q)))), (mo 4, .inl (G.2.1, 984, .inl (fun q => nI (H q)))), (mo 5, .inl (G.2.1, 246, .inl (fun q => nI (sf q)))), (mo 6, .inl (G.2.1, 40, .inl (fun q => nI (df q)))), (mo 7, .inl (G.2.1, 60, .inl (fun q => nI (xf q))))]) rfl i rfl (by omega) (Nat.le_of_ble_eq_true rfl) rfl dX6_restore_34 ?_
    refine J_arr 1 (fun q => nI (if q = i then sf i else cpM i (sf) (rowM σ) q)) rfl (fun q _ => congrFun (upd_nI _ _ _) q) ?_
    refine J_ws (ws' := [(mo 0, .inr (6, [.ref (mo 1), .ref (mo 2), .ref (mo 3), .ref (mo 4), .int (nI hn), .ref (mo 5), .int (nI ik), .ref (mo 6), .ref (mo 7), .int (nI tl), .int (nI sp), .int (nI rd), .int gr])), (mo 1, .inl (G.2.1, 246, .inl (fun q => nI (if q = i then sf i else cpM i (sf) (rowM σ) q)))), (mo 2, .inl (G.2.1, 246, .inl (fun q => nI ((rowM σ) q)))), (mo 3, .inl (G.2.1, 246, .inl (fun q => nI (tf q)))), (mo 4, .inl (G.2.1, 984, .inl (fun q => nI (H q)))), (mo 5, .inl (G.2.1, 246, .inl (fun q => nI (sf q)))), (mo 6, .inl (G.2.1, 40, .inl (fun q => nI (df q)))), (mo 7, .inl (G.2.1, 60, .inl (fun q => nI (xf q))))]) rfl ?_
    refine J_iinc C (nI (i + 1)) [(1, .int (nI (i + 1))), (0, .ref (mo 0))] 1 rfl (by first | exact nI_add _ 1 | rfl) (by decide) rfl dX6_restore_35 ?_
    refine J_goto C 16 (by decide) dX6_restore_38 ?_
    rw [cpM_nextI sf]
    refine J_lvp [1, 0] [(0, .ref (mo 0)), (1, .int (nI (i + 1)))] rfl ?_
    exact ih (i + 1) (by omega) (by omega)
