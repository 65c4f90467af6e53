def wrN (σ : AS) (q : Nat) : Nat := if 0 < σ 3 q then 1 else 0
def blN (σ : AS) (q : Nat) : Nat := σ 4 q
theorem cpM_nextZ (g : Nat → Nat) (n : Nat) : (fun q => if q = n then 0 else cpM n (fun _ => 0) g q) = cpM (n + 1) (fun _ => 0) g := cpM_next (fun _ => 0) g n

set_option maxHeartbeats 4000000 in
set_option maxRecDepth 100000 in
theorem ct_places0 (l : Launch) (G : GT) (mo : Nat → Nat) (σ : AS) (kf tf H sf df xf : Nat → Nat) (hn ik tl sp rd : Nat) (gr : Int32) (hI : Inv σ) : Ct (S := Unit) l G NoX yX6_places (Wy yX6_places cX6_places 5 ((Option.some Jvm.ClassFile.FieldType.int))) { frames := 0, cells := 0, slots := 0, locals := 0 } [.ref (mo 0), .int 0] (mdW G mo σ kf tf H sf df xf hn ik tl sp rd gr) (fun u => True) (fun u => some (.int (nI (sumN (wrN σ) (σ 0 4))))) (fun u => mdW G mo σ kf tf H sf df xf hn ik tl sp rd gr) := by
  refine Ct.of (by decide) (Nat.le_of_ble_eq_true rfl) (fun p e s m args below meth c C hr hnm hX => ?_)
  have h40 := hI.a
  refine J_iconst C 0 (by decide) dX6_places_0 ?_
  refine J_istore_n C [(2, .int 0), (0, .ref (mo 0)), (1, .int 0)] (by decide) rfl dX6_places_1 ?_
  refine J_iconst C 0 (by decide) dX6_places_2 ?_
  refine J_istore_n C [(3, .int 0), (2, .int 0), (0, .ref (mo 0)), (1, .int 0)] (by decide) rfl dX6_places_3 ?_
  refine J_lvp [2, 3, 1, 0] [(0, .ref (mo 0)), (1, .int 0), (2, .int 0), (3, .int 0)] rfl ?_
  refine J_loop (fun i => mdW G mo σ kf tf H sf df xf hn ik tl sp rd gr) (fun i => [(0, .ref (mo 0)), (1, .int 0), (2, .int (nI (sumN (wrN σ) i))), (3, .int (nI i))]) (fun i => i ≤ σ 0 4) (fun i => σ 0 4 - i) (fun i hi ih => ?_) 0 (Nat.zero_le _) rfl rfl
  refine J_iload_n C rfl dX6_places_4 ?_
  refine J_aload_n C rfl dX6_places_5 ?_
  refine J_get C 0 0 in6 rfl rfl (by decide) k575 rfl dX6_places_6 ?_
  refine J_iconst C 4 (by decide) dX6_places_9 ?_
  refine J_iald C 1 rfl 4 rfl (by decide) (Nat.le_of_ble_eq_true rfl) dX6_places_10 ?_
  refine J_i (rfl : (nI ((rowM σ) 4) : Int32) = (nI (σ 0 4))) ?_
  refine J_icmp_ge C 119 (by decide) dX6_places_11 (fun c11 => ?_) (fun c11 => ?_)
  · skip
    have c11 := cv_ge_t (a := i) (b := (σ 0 4)) (by omega) (by omega) c11
    refine J_iload_n C rfl dX6_places_119 ?_
    exact J_zret C hr rfl dX6_places_120 () (by rw [show i = σ 0 4 from by omega]) trivial rfl
  · skip
    have c11 := cv_ge_f (a := i) (b := (σ 0 4)) (by omega) (by omega) c11
    have hq := hI.q (q := i) (by omega)
    have hdu := hI.due (p := i) (by omega)
    refine J_iload_n C rfl dX6_places_14 ?_
    refine J_if_ne C 38 (by decide) dX6_places_15 (fun h => absurd h (by decide)) (fun _ => ?_)
    refine J_aload_n C rfl dX6_places_18 ?_
    refine J_get C 0 0 in6 rfl rfl (by decide) k575 rfl dX6_places_19 ?_
    refine J_bipush C 86 (by decide) dX6_places_22 ?_
    refine J_iload_n C rfl dX6_places_24 ?_
    refine J_iadd C dX6_places_25 ?_
    refine J_i (nI_add 86 i : (86 + (nI i) : Int32) = (nI (86 + i))) ?_
    refine J_iald C 1 rfl (86 + i) rfl (by omega) (Nat.le_of_ble_eq_true rfl) dX6_places_26 ?_
    refine J_i (congrArg nI (rowM_3 σ (by omega)) : (nI ((rowM σ) (86 + i)) : Int32) = (nI (σ 3 i))) ?_
    refine J_if_le C 34 (by decide) dX6_places_27 (fun c27 => ?_) (fun c27 => ?_)
    · skip
      have c27 := cv_le_t (a := (σ 3 i)) (b := 0) (by omega) (by omega) c27
      refine J_iconst C 0 (by decide) dX6_places_34 ?_
      refine J_goto C 98 (by decide) dX6_places_35 ?_
      refine J_istore C [(4, .int 0), (0, .ref (mo 0)), (1, .int 0), (2, .int (nI (sumN (wrN σ) i))), (3, .int (nI i))] (by decide) rfl dX6_places_98 ?_
      refine J_iload_n C rfl dX6_places_100 ?_
      refine J_iload C rfl dX6_places_101 ?_
      refine J_if_eq C 110 (by decide) dX6_places_103 (fun _ => ?_) (fun h => absurd h (by decide))
      refine J_iconst C 0 (by decide) dX6_places_110 ?_
      refine J_iadd C dX6_places_111 ?_
      refine J_i (nI_add (sumN (wrN σ) i) 0 : ((nI (sumN (wrN σ) i)) + 0 : Int32) = (nI (sumN (wrN σ) i + 0))) ?_
      refine J_istore_n C [(2, .int (nI (sumN (wrN σ) i + 0))), (4, .int 0), (0, .ref (mo 0)), (1, .int 0), (3, .int (nI i))] (by decide) rfl dX6_places_112 ?_
      have hsum : nI (sumN (wrN σ) i + 0) = nI (sumN (wrN σ) (i + 1)) := by show _ = nI (sumN (wrN σ) i + wrN σ i); rw [show wrN σ i = 0 from if_neg (by omega)]
      rw [hsum]
      refine J_iinc C (nI (i + 1)) [(3, .int (nI (i + 1))), (2, .int (nI (sumN (wrN σ) (i + 1)))), (4, .int 0), (0, .ref (mo 0)), (1, .int 0)] 4 rfl (by first | exact nI_add _ 1 | rfl) (by decide) rfl dX6_places_113 ?_
      refine J_goto C 4 (by decide) dX6_places_116 ?_
      refine J_lvp [3, 4, 1, 0] [(0, .ref (mo 0)), (1, .int 0), (2, .int (nI (sumN (wrN σ) (i + 1)))), (3, .int (nI (i + 1)))] rfl ?_
      exact ih (i + 1) (by omega) (by omega)
    · skip
      have c27 := cv_le_f (a := (σ 3 i)) (b := 0) (by omega) (by omega) c27
      refine J_iconst C 1 (by decide) dX6_places_30 ?_
      refine J_goto C 98 (by decide) dX6_places_31 ?_
      refine J_istore C [(4, .int 1), (0, .ref (mo 0)), (1, .int 0), (2, .int (nI (sumN (wrN σ) i))), (3, .int (nI i))] (by decide) rfl dX6_places_98 ?_
      refine J_iload_n C rfl dX6_places_100 ?_
      refine J_iload C rfl dX6_places_101 ?_
      refine J_if_eq C 110 (by decide) dX6_places_103 (fun h => absurd h (by decide)) (fun _ => ?_)
      refine J_iconst C 1 (by decide) dX6_places_106 ?_
      refine J_goto C 111 (by decide) dX6_places_107 ?_
      refine J_iadd C dX6_places_111 ?_
      refine J_i (nI_add (sumN (wrN σ) i) 1 : ((nI (sumN (wrN σ) i)) + 1 : Int32) = (nI (sumN (wrN σ) i + 1))) ?_
      refine J_istore_n C [(2, .int (nI (sumN (wrN σ) i + 1))), (4, .int 1), (0, .ref (mo 0)), (1, .int 0), (3, .int (nI i))] (by decide) rfl dX6_places_112 ?_
      have hsum : nI (sumN (wrN σ) i + 1) = nI (sumN (wrN σ) (i + 1)) := by show _ = nI (sumN (wrN σ) i + wrN σ i); rw [show wrN σ i = 1 from if_pos (by omega)]
      rw [hsum]
      refine J_iinc C (nI (i + 1)) [(3, .int (nI (i + 1))), (2, .int (nI (sumN (wrN σ) (i + 1)))), (4, .int 1), (0, .ref (mo 0)), (1, .int 0)] 4 rfl (by first | exact nI_add _ 1 | rfl) (by decide) rfl dX6_places_113 ?_
      refine J_goto C 4 (by decide) dX6_places_116 ?_
      refine J_lvp [3, 4, 1, 0] [(0, .ref (mo 0)), (1, .int 0), (2, .int (nI (sumN (wrN σ) (i + 1)))), (3, .int (nI (i + 1)))] rfl ?_
      exact ih (i + 1) (by omega) (by omega)

set_option maxHeartbeats 4000000 in
set_option maxRecDepth 100000 in
theorem ct_places1 (l : Launch) (G : GT) (mo : Nat → Nat) (σ : AS) (kf tf H sf df xf : Nat → Nat) (hn ik tl sp rd : Nat) (gr : Int32) (hI : Inv σ) : Ct (S := Unit) l G NoX yX6_places (Wy yX6_places cX6_places 5 ((Option.some Jvm.ClassFile.FieldType.int))) { frames := 0, cells := 0, slots := 0, locals := 0 } [.ref (mo 0), .int 1] (mdW G mo σ kf tf H sf df xf hn ik tl sp rd gr) (fun u => True) (fun u => some (.int (nI (sumN (blN σ) (σ 0 4))))) (fun u => mdW G mo σ kf tf H sf df xf hn ik tl sp rd gr) := by
  refine Ct.of (by decide) (Nat.le_of_ble_eq_true rfl) (fun p e s m args below meth c C hr hnm hX => ?_)
  have h40 := hI.a
  refine J_iconst C 0 (by decide) dX6_places_0 ?_
  refine J_istore_n C [(2, .int 0), (0, .ref (mo 0)), (1, .int 1)] (by decide) rfl dX6_places_1 ?_
  refine J_iconst C 0 (by decide) dX6_places_2 ?_
  refine J_istore_n C [(3, .int 0), (2, .int 0), (0, .ref (mo 0)), (1, .int 1)] (by decide) rfl dX6_places_3 ?_
  refine J_lvp [2, 3, 1, 0] [(0, .ref (mo 0)), (1, .int 1), (2, .int 0), (3, .int 0)] rfl ?_
  refine J_loop (fun i => mdW G mo σ kf tf H sf df xf hn ik tl sp rd gr) (fun i => [(0, .ref (mo 0)), (1, .int 1), (2, .int (nI (sumN (blN σ) i))), (3, .int (nI i))]) (fun i => i ≤ σ 0 4) (fun i => σ 0 4 - i) (fun i hi ih => ?_) 0 (Nat.zero_le _) rfl rfl
  refine J_iload_n C rfl dX6_places_4 ?_
  refine J_aload_n C rfl dX6_places_5 ?_
  refine J_get C 0 0 in6 rfl rfl (by decide) k575 rfl dX6_places_6 ?_
  refine J_iconst C 4 (by decide) dX6_places_9 ?_
  refine J_iald C 1 rfl 4 rfl (by decide) (Nat.le_of_ble_eq_true rfl) dX6_places_10 ?_
  refine J_i (rfl : (nI ((rowM σ) 4) : Int32) = (nI (σ 0 4))) ?_
  refine J_icmp_ge C 119 (by decide) dX6_places_11 (fun c11 => ?_) (fun c11 => ?_)
  · skip
    have c11 := cv_ge_t (a := i) (b := (σ 0 4)) (by omega) (by omega) c11
    refine J_iload_n C rfl dX6_places_119 ?_
    exact J_zret C hr rfl dX6_places_120 () (by rw [show i = σ 0 4 from by omega]) trivial rfl
  · skip
    have c11 := cv_ge_f (a := i) (b := (σ 0 4)) (by omega) (by omega) c11
    have hq := hI.q (q := i) (by omega)
    have hdu := hI.due (p := i) (by omega)
    refine J_iload_n C rfl dX6_places_14 ?_
    refine J_if_ne C 38 (by decide) dX6_places_15 (fun _ => ?_) (fun h => absurd h (by decide))
    refine J_iload_n C rfl dX6_places_38 ?_
    refine J_iconst C 1 (by decide) dX6_places_39 ?_
    refine J_icmp_ne C 64 (by decide) dX6_places_40 (fun h => absurd h (by decide)) (fun _ => ?_)
    refine J_aload_n C rfl dX6_places_43 ?_
    refine J_get C 0 0 in6 rfl rfl (by decide) k575 rfl dX6_places_44 ?_
    refine J_bipush C 126 (by decide) dX6_places_47 ?_
    refine J_iload_n C rfl dX6_places_49 ?_
    refine J_iadd C dX6_places_50 ?_
    refine J_i (nI_add 126 i : (126 + (nI i) : Int32) = (nI (126 + i))) ?_
    refine J_iald C 1 rfl (126 + i) rfl (by omega) (Nat.le_of_ble_eq_true rfl) dX6_places_51 ?_
    refine J_i (congrArg nI (rowM_4 σ (by omega)) : (nI ((rowM σ) (126 + i)) : Int32) = (nI (σ 4 i))) ?_
    refine J_iconst C 1 (by decide) dX6_places_52 ?_
    refine J_icmp_ne C 60 (by decide) dX6_places_53 (fun c53 => ?_) (fun c53 => ?_)
    · skip
      have c53 := cv_ne_t (a := (σ 4 i)) (b := 1) (by omega) (by omega) c53
      refine J_iconst C 0 (by decide) dX6_places_60 ?_
      refine J_goto C 98 (by decide) dX6_places_61 ?_
      refine J_istore C [(4, .int 0), (0, .ref (mo 0)), (1, .int 1), (2, .int (nI (sumN (blN σ) i))), (3, .int (nI i))] (by decide) rfl dX6_places_98 ?_
      refine J_iload_n C rfl dX6_places_100 ?_
      refine J_iload C rfl dX6_places_101 ?_
      refine J_if_eq C 110 (by decide) dX6_places_103 (fun _ => ?_) (fun h => absurd h (by decide))
      refine J_iconst C 0 (by decide) dX6_places_110 ?_
      refine J_iadd C dX6_places_111 ?_
      refine J_i (nI_add (sumN (blN σ) i) 0 : ((nI (sumN (blN σ) i)) + 0 : Int32) = (nI (sumN (blN σ) i + 0))) ?_
      refine J_istore_n C [(2, .int (nI (sumN (blN σ) i + 0))), (4, .int 0), (0, .ref (mo 0)), (1, .int 1), (3, .int (nI i))] (by decide) rfl dX6_places_112 ?_
      have hsum : nI (sumN (blN σ) i + 0) = nI (sumN (blN σ) (i + 1)) := by show _ = nI (sumN (blN σ) i + blN σ i); rw [show blN σ i = 0 from (show σ 4 i = 0 by omega)]
      rw [hsum]
      refine J_iinc C (nI (i + 1)) [(3, .int (nI (i + 1))), (2, .int (nI (sumN (blN σ) (i + 1)))), (4, .int 0), (0, .ref (mo 0)), (1, .int 1)] 4 rfl (by first | exact nI_add _ 1 | rfl) (by decide) rfl dX6_places_113 ?_
      refine J_goto C 4 (by decide) dX6_places_116 ?_
      refine J_lvp [3, 4, 1, 0] [(0, .ref (mo 0)), (1, .int 1), (2, .int (nI (sumN (blN σ) (i + 1)))), (3, .int (nI (i + 1)))] rfl ?_
      exact ih (i + 1) (by omega) (by omega)
    · skip
      have c53 := cv_ne_f (a := (σ 4 i)) (b := 1) (by omega) (by omega) c53
      refine J_iconst C 1 (by decide) dX6_places_56 ?_
      refine J_goto C 98 (by decide) dX6_places_57 ?_
      refine J_istore C [(4, .int 1), (0, .ref (mo 0)), (1, .int 1), (2, .int (nI (sumN (blN σ) i))), (3, .int (nI i))] (by decide) rfl dX6_places_98 ?_
      refine J_iload_n C rfl dX6_places_100 ?_
      refine J_iload C rfl dX6_places_101 ?_
      refine J_if_eq C 110 (by decide) dX6_places_103 (fun h => absurd h (by decide)) (fun _ => ?_)
      refine J_iconst C 1 (by decide) dX6_places_106 ?_
      refine J_goto C 111 (by decide) dX6_places_107 ?_
      refine J_iadd C dX6_places_111 ?_
      refine J_i (nI_add (sumN (blN σ) i) 1 : ((nI (sumN (blN σ) i)) + 1 : Int32) = (nI (sumN (blN σ) i + 1))) ?_
      refine J_istore_n C [(2, .int (nI (sumN (blN σ) i + 1))), (4, .int 1), (0, .ref (mo 0)), (1, .int 1), (3, .int (nI i))] (by decide) rfl dX6_places_112 ?_
      have hsum : nI (sumN (blN σ) i + 1) = nI (sumN (blN σ) (i + 1)) := by show _ = nI (sumN (blN σ) i + blN σ i); rw [show blN σ i = 1 from (show σ 4 i = 1 by omega)]
      rw [hsum]
      refine J_iinc C (nI (i + 1)) [(3, .int (nI (i + 1))), (2, .int (nI (sumN (blN σ) (i + 1)))), (4, .int 1), (0, .ref (mo 0)), (1, .int 1)] 4 rfl (by first | exact nI_add _ 1 | rfl) (by decide) rfl dX6_places_113 ?_
      refine J_goto C 4 (by decide) dX6_places_116 ?_
      refine J_lvp [3, 4, 1, 0] [(0, .ref (mo 0)), (1, .int 1), (2, .int (nI (sumN (blN σ) (i + 1)))), (3, .int (nI (i + 1)))] rfl ?_
      exact ih (i + 1) (by omega) (by omega)

set_option maxHeartbeats 4000000 in
set_option maxRecDepth 100000 in
theorem ct_places2 (l : Launch) (G : GT) (mo : Nat → Nat) (σ : AS) (kf tf H sf df xf : Nat → Nat) (hn ik tl sp rd : Nat) (gr : Int32) (hI : Inv σ) : Ct (S := Unit) l G NoX yX6_places (Wy yX6_places cX6_places 5 ((Option.some Jvm.ClassFile.FieldType.int))) { frames := 1, cells := 0, slots := 0, locals := 21 } [.ref (mo 0), .int 2] (mdW G mo σ kf tf H sf df xf hn ik tl sp rd gr) (fun u => True) (fun u => some (.int (nI (sumN (notDue σ) (σ 0 4))))) (fun u => mdW G mo σ kf tf H sf df xf hn ik tl sp rd gr) := by
  refine Ct.of (by decide) (Nat.le_of_ble_eq_true rfl) (fun p e s m args below meth c C hr hnm hX => ?_)
  have h40 := hI.a
  refine J_iconst C 0 (by decide) dX6_places_0 ?_
  refine J_istore_n C [(2, .int 0), (0, .ref (mo 0)), (1, .int 2)] (by decide) rfl dX6_places_1 ?_
  refine J_iconst C 0 (by decide) dX6_places_2 ?_
  refine J_istore_n C [(3, .int 0), (2, .int 0), (0, .ref (mo 0)), (1, .int 2)] (by decide) rfl dX6_places_3 ?_
  refine J_lvp [2, 3, 1, 0] [(0, .ref (mo 0)), (1, .int 2), (2, .int 0), (3, .int 0)] rfl ?_
  refine J_loop (fun i => mdW G mo σ kf tf H sf df xf hn ik tl sp rd gr) (fun i => [(0, .ref (mo 0)), (1, .int 2), (2, .int (nI (sumN (notDue σ) i))), (3, .int (nI i))]) (fun i => i ≤ σ 0 4) (fun i => σ 0 4 - i) (fun i hi ih => ?_) 0 (Nat.zero_le _) rfl rfl
  refine J_iload_n C rfl dX6_places_4 ?_
  refine J_aload_n C rfl dX6_places_5 ?_
  refine J_get C 0 0 in6 rfl rfl (by decide) k575 rfl dX6_places_6 ?_
  refine J_iconst C 4 (by decide) dX6_places_9 ?_
  refine J_iald C 1 rfl 4 rfl (by decide) (Nat.le_of_ble_eq_true rfl) dX6_places_10 ?_
  refine J_i (rfl : (nI ((rowM σ) 4) : Int32) = (nI (σ 0 4))) ?_
  refine J_icmp_ge C 119 (by decide) dX6_places_11 (fun c11 => ?_) (fun c11 => ?_)
  · skip
    have c11 := cv_ge_t (a := i) (b := (σ 0 4)) (by omega) (by omega) c11
    refine J_iload_n C rfl dX6_places_119 ?_
    exact J_zret C hr rfl dX6_places_120 () (by rw [show i = σ 0 4 from by omega]) trivial rfl
  · skip
    have c11 := cv_ge_f (a := i) (b := (σ 0 4)) (by omega) (by omega) c11
    have hq := hI.q (q := i) (by omega)
    have hdu := hI.due (p := i) (by omega)
    refine J_iload_n C rfl dX6_places_14 ?_
    refine J_if_ne C 38 (by decide) dX6_places_15 (fun _ => ?_) (fun h => absurd h (by decide))
    refine J_iload_n C rfl dX6_places_38 ?_
    refine J_iconst C 1 (by decide) dX6_places_39 ?_
    refine J_icmp_ne C 64 (by decide) dX6_places_40 (fun _ => ?_) (fun h => absurd h (by decide))
    refine J_aload_n C rfl dX6_places_64 ?_
    refine J_get C 0 0 in6 rfl rfl (by decide) k575 rfl dX6_places_65 ?_
    refine J_bipush C 86 (by decide) dX6_places_68 ?_
    refine J_iload_n C rfl dX6_places_70 ?_
    refine J_iadd C dX6_places_71 ?_
    refine J_i (nI_add 86 i : (86 + (nI i) : Int32) = (nI (86 + i))) ?_
    refine J_iald C 1 rfl (86 + i) rfl (by omega) (Nat.le_of_ble_eq_true rfl) dX6_places_72 ?_
    refine J_i (congrArg nI (rowM_3 σ (by omega)) : (nI ((rowM σ) (86 + i)) : Int32) = (nI (σ 3 i))) ?_
    refine J_if_le C 97 (by decide) dX6_places_73 (fun c73 => ?_) (fun c73 => ?_)
    · skip
      have c73 := cv_le_t (a := (σ 3 i)) (b := 0) (by omega) (by omega) c73
      refine J_iconst C 0 (by decide) dX6_places_97 ?_
      refine J_istore C [(4, .int 0), (0, .ref (mo 0)), (1, .int 2), (2, .int (nI (sumN (notDue σ) i))), (3, .int (nI i))] (by decide) rfl dX6_places_98 ?_
      refine J_iload_n C rfl dX6_places_100 ?_
      refine J_iload C rfl dX6_places_101 ?_
      refine J_if_eq C 110 (by decide) dX6_places_103 (fun _ => ?_) (fun h => absurd h (by decide))
      refine J_iconst C 0 (by decide) dX6_places_110 ?_
      refine J_iadd C dX6_places_111 ?_
      refine J_i (nI_add (sumN (notDue σ) i) 0 : ((nI (sumN (notDue σ) i)) + 0 : Int32) = (nI (sumN (notDue σ) i + 0))) ?_
      refine J_istore_n C [(2, .int (nI (sumN (notDue σ) i + 0))), (4, .int 0), (0, .ref (mo 0)), (1, .int 2), (3, .int (nI i))] (by decide) rfl dX6_places_112 ?_
      have hsum : nI (sumN (notDue σ) i + 0) = nI (sumN (notDue σ) (i + 1)) := by show _ = nI (sumN (notDue σ) i + notDue σ i); rw [show notDue σ i = 0 from if_neg (by omega)]
      rw [hsum]
      refine J_iinc C (nI (i + 1)) [(3, .int (nI (i + 1))), (2, .int (nI (sumN (notDue σ) (i + 1)))), (4, .int 0), (0, .ref (mo 0)), (1, .int 2)] 4 rfl (by first | exact nI_add _ 1 | rfl) (by decide) rfl dX6_places_113 ?_
      refine J_goto C 4 (by decide) dX6_places_116 ?_
      refine J_lvp [3, 4, 1, 0] [(0, .ref (mo 0)), (1, .int 2), (2, .int (nI (sumN (notDue σ) (i + 1)))), (3, .int (nI (i + 1)))] rfl ?_
      exact ih (i + 1) (by omega) (by omega)
    · skip
      have c73 := cv_le_f (a := (σ 3 i)) (b := 0) (by omega) (by omega) c73
      refine J_aload_n C rfl dX6_places_76 ?_
      refine J_get C 0 0 in6 rfl rfl (by decide) k575 rfl dX6_places_77 ?_
      refine J_bipush C 86 (by decide) dX6_places_80 ?_
      refine J_iload_n C rfl dX6_places_82 ?_
      refine J_iadd C dX6_places_83 ?_
      refine J_i (nI_add 86 i : (86 + (nI i) : Int32) = (nI (86 + i))) ?_
      refine J_iald C 1 rfl (86 + i) rfl (by omega) (Nat.le_of_ble_eq_true rfl) dX6_places_84 ?_
      refine J_i (congrArg nI (rowM_3 σ (by omega)) : (nI ((rowM σ) (86 + i)) : Int32) = (nI (σ 3 i))) ?_
      refine J_aload_n C rfl dX6_places_85 ?_
      refine J_iload_n C rfl dX6_places_86 ?_
      refine J_callV (as := [.int (nI i)]) (rest := [.int (nI (σ 3 i))]) C (ct_due l G mo σ kf tf H sf df xf hn ik tl sp rd gr i (by omega) (by omega)) (fun u => mdW G mo σ kf tf H sf df xf hn ik tl sp rd gr) [0, 1, 2, 3, 4, 5, 6, 7] [] 1 k667 k669 k19 k38 k670 rfl (by decide +kernel) ⟨Nat.le_of_ble_eq_true rfl, Nat.le_of_ble_eq_true rfl⟩ ⟨Nat.le_of_ble_eq_true rfl, Nat.le_of_ble_eq_true rfl⟩ dX6_places_87 (Nat.le_of_ble_eq_true rfl) 0 rfl rfl rfl (by decide +kernel) (fun _ => rfl) ([]) rfl (fun _ => rfl) 8 (fun _ => rfl) (by decide +kernel) (by decide +kernel) (fun _ _ => ?_)
      refine J_st (st' := [.int (nI (dueAt σ i)), .int (nI (σ 3 i))]) rfl ?_
      refine J_icmp_eq C 97 (by decide) dX6_places_90 (fun c90 => ?_) (fun c90 => ?_)
      · skip
        have c90 := cv_eq_t (a := (σ 3 i)) (b := (dueAt σ i)) (by omega) (by omega) c90
        refine J_iconst C 0 (by decide) dX6_places_97 ?_
        refine J_istore C [(4, .int 0), (0, .ref (mo 0)), (1, .int 2), (2, .int (nI (sumN (notDue σ) i))), (3, .int (nI i))] (by decide) rfl dX6_places_98 ?_
        refine J_iload_n C rfl dX6_places_100 ?_
        refine J_iload C rfl dX6_places_101 ?_
        refine J_if_eq C 110 (by decide) dX6_places_103 (fun _ => ?_) (fun h => absurd h (by decide))
        refine J_iconst C 0 (by decide) dX6_places_110 ?_
        refine J_iadd C dX6_places_111 ?_
        refine J_i (nI_add (sumN (notDue σ) i) 0 : ((nI (sumN (notDue σ) i)) + 0 : Int32) = (nI (sumN (notDue σ) i + 0))) ?_
        refine J_istore_n C [(2, .int (nI (sumN (notDue σ) i + 0))), (4, .int 0), (0, .ref (mo 0)), (1, .int 2), (3, .int (nI i))] (by decide) rfl dX6_places_112 ?_
        have hsum : nI (sumN (notDue σ) i + 0) = nI (sumN (notDue σ) (i + 1)) := by show _ = nI (sumN (notDue σ) i + notDue σ i); rw [show notDue σ i = 0 from if_neg (by omega)]
        rw [hsum]
        refine J_iinc C (nI (i + 1)) [(3, .int (nI (i + 1))), (2, .int (nI (sumN (notDue σ) (i + 1)))), (4, .int 0), (0, .ref (mo 0)), (1, .int 2)] 4 rfl (by first | exact nI_add _ 1 | rfl) (by decide) rfl dX6_places_113 ?_
        refine J_goto C 4 (by decide) dX6_places_116 ?_
        refine J_lvp [3, 4, 1, 0] [(0, .ref (mo 0)), (1, .int 2), (2, .int (nI (sumN (notDue σ) (i + 1)))), (3, .int (nI (i + 1)))] rfl ?_
        exact ih (i + 1) (by omega) (by omega)
      · skip
        have c90 := cv_eq_f (a := (σ 3 i)) (b := (dueAt σ i)) (by omega) (by omega) c90
        refine J_iconst C 1 (by decide) dX6_places_93 ?_
        refine J_goto C 98 (by decide) dX6_places_94 ?_
        refine J_istore C [(4, .int 1), (0, .ref (mo 0)), (1, .int 2), (2, .int (nI (sumN (notDue σ) i))), (3, .int (nI i))] (by decide) rfl dX6_places_98 ?_
        refine J_iload_n C rfl dX6_places_100 ?_
        refine J_iload C rfl dX6_places_101 ?_
        refine J_if_eq C 110 (by decide) dX6_places_103 (fun h => absurd h (by decide)) (fun _ => ?_)
        refine J_iconst C 1 (by decide) dX6_places_106 ?_
        refine J_goto C 111 (by decide) dX6_places_107 ?_
        refine J_iadd C dX6_places_111 ?_
        refine J_i (nI_add (sumN (notDue σ) i) 1 : ((nI (sumN (notDue σ) i)) + 1 : Int32) = (nI (sumN (notDue σ) i + 1))) ?_
        refine J_istore_n C [(2, .int (nI (sumN (notDue σ) i + 1))), (4, .int 1), (0, .ref (mo 0)), (1, .int 2), (3, .int (nI i))] (by decide) rfl dX6_places_112 ?_
        have hsum : nI (sumN (notDue σ) i + 1) = nI (sumN (notDue σ) (i + 1)) := by show _ = nI (sumN (notDue σ) i + notDue σ i); rw [show notDue σ i = 1 from if_pos (by omega)]
        rw [hsum]
        refine J_iinc C (nI (i + 1)) [(3, .int (nI (i + 1))), (2, .int (nI (sumN (notDue σ) (i + 1)))), (4, .int 1), (0, .ref (mo 0)), (1, .int 2)] 4 rfl (by first | exact nI_add _ 1 | rfl) (by decide) rfl dX6_places_113 ?_
        refine J_goto C 4 (by decide) dX6_places_116 ?_
        refine J_lvp [3, 4, 1, 0] [(0, .ref (mo 0)), (1, .int 2), (2, .int (nI (sumN (notDue σ) (i + 1)))), (3, .int (nI (i + 1)))] rfl ?_
        exact ih (i + 1) (by omega) (by omega)

set_option maxHeartbeats 4000000 in
set_option maxRecDepth 100000 in
theorem ct_fault (l : Launch) (G : GT) (mo : Nat → Nat) (σ : AS) (kf tf H sf df xf : Nat → Nat) (hn ik tl sp rd : Nat) (gr : Int32) (htl : tl ≤ 60) (hx : ∀ q, xf q < 65536) : Ct (S := Unit) l G NoX yX6_fault (Wy yX6_fault cX6_fault 2 ((Option.some Jvm.ClassFile.FieldType.int))) { frames := 3, cells := 0, slots := 0, locals := 69 } [.ref (mo 0)] (mdW G mo σ kf tf H sf df xf hn ik tl sp rd gr) (fun u => True) (fun u => some (.int (if (psF xf tl).1 = 0 then -5 else nI (psF xf tl).2.1))) (fun u => mdW G mo σ kf tf H sf ((psF xf tl).2.2.1) xf hn ik tl ((psF xf tl).2.1) (halfN xf tl) (nI (psF xf tl).2.2.2 - 1)) := by
  refine Ct.of (by decide) (Nat.le_of_ble_eq_true rfl) (fun p e s m args below meth c C hr hnm hX => ?_)
  have hh := halfN_le xf tl
  refine J_aload_n C rfl dX6_fault_0 ?_
  refine J_iconst C 0 (by decide) dX6_fault_1 ?_
  refine J_put C 0 10 in6 tyX6 tyX6_ok nmX6 ([(mo 0, .inr (6, [.ref (mo 1), .ref (mo 2), .ref (mo 3), .ref (mo 4), .int (nI hn), .ref (mo 5), .int (nI ik), .ref (mo 6), .ref (mo 7), .int (nI tl), .int 0, .int (nI rd), .int gr])), (mo 1, .inl (G.2.1, 246, .inl (fun q => nI ((rowM σ) q)))), (mo 2, .inl (G.2.1, 246, .inl (fun q => nI (kf q)))), (mo 3, .inl (G.2.1, 246, .inl (fun q => nI (tf q)))), (mo 4, .inl (G.2.1, 984, .inl (fun q => nI (H q)))), (mo 5, .inl (G.2.1, 246, .inl (fun q => nI (sf q)))), (mo 6, .inl (G.2.1, 40, .inl (fun q => nI (df q)))), (mo 7, .inl (G.2.1, 60, .inl (fun q => nI (xf q))))]) rfl rfl (by decide) k585 rfl rfl rfl (Nat.le_of_ble_eq_true rfl) rfl dX6_fault_2 ?_
  refine J_ws (ws' := mdW G mo σ kf tf H sf df xf hn ik tl 0 rd gr) rfl ?_
  refine J_aload_n C rfl dX6_fault_5 ?_
  refine J_iconst C (-1) (by decide) dX6_fault_6 ?_
  refine J_put C 0 12 in6 tyX6 tyX6_ok nmX6 ([(mo 0, .inr (6, [.ref (mo 1), .ref (mo 2), .ref (mo 3), .ref (mo 4), .int (nI hn), .ref (mo 5), .int (nI ik), .ref (mo 6), .ref (mo 7), .int (nI tl), .int (nI 0), .int (nI rd), .int (-1)])), (mo 1, .inl (G.2.1, 246, .inl (fun q => nI ((rowM σ) q)))), (mo 2, .inl (G.2.1, 246, .inl (fun q => nI (kf q)))), (mo 3, .inl (G.2.1, 246, .inl (fun q => nI (tf q)))), (mo 4, .inl (G.2.1, 984, .inl (fun q => nI (H q)))), (mo 5, .inl (G.2.1, 246, .inl (fun q => nI (sf q)))), (mo 6, .inl (G.2.1, 40, .inl (fun q => nI (df q)))), (mo 7, .inl (G.2.1, 60, .inl (fun q => nI (xf q))))]) rfl rfl (by decide) k587 rfl rfl rfl (Nat.le_of_ble_eq_true rfl) rfl dX6_fault_7 ?_
  refine J_ws (ws' := mdW G mo σ kf tf H sf df xf hn ik tl 0 rd (-1)) rfl ?_
  refine J_iconst C 0 (by decide) dX6_fault_10 ?_
  refine J_istore_n C [(1, .int 0), (0, .ref (mo 0))] (by decide) rfl dX6_fault_11 ?_
  refine J_lvp [1, 0] [(0, .ref (mo 0)), (1, .int 0)] rfl ?_
  refine J_loop (fun i => mdW G mo σ kf tf H sf (cpM i (fun _ => 0) df) xf hn ik tl 0 rd (-1)) (fun i => [(0, .ref (mo 0)), (1, .int (nI i))]) (fun i => i ≤ 40) (fun i => 40 - i) (fun i hi ih => ?_) 0 (Nat.zero_le _) (by rw [cpM_0]) rfl
  refine J_iload_n C rfl dX6_fault_12 ?_
  refine J_bipush C 40 (by decide) dX6_fault_13 ?_
  refine J_icmp_ge C 31 (by decide) dX6_fault_15 (fun c15 => ?_) (fun c15 => ?_)
  · skip
    have c15 := cv_ge_t (a := i) (b := 40) (by omega) (by omega) c15
    refine J_arr 6 (fun q => nI ((fun _ => 0) q)) rfl (fun q hq => congrArg nI (if_pos (show q < i by omega))) ?_
    refine J_ws (ws' := mdW G mo σ kf tf H sf (fun _ => 0) xf hn ik tl 0 rd (-1)) rfl ?_
    refine J_lvp [0] [(0, .ref (mo 0))] rfl ?_
    refine J_loop (fun m => mdW G mo σ kf tf H sf (fun _ => 0) xf hn ik tl m rd (-1)) (fun m => [(0, .ref (mo 0))]) (fun m => m ≤ 20 ∧ hfF xf tl (20 - m) m = halfN xf tl) (fun m => 20 - m) (fun m hm ih2 => ?_) 0 ⟨Nat.zero_le _, rfl⟩ rfl rfl
    obtain ⟨hm1, hm2⟩ := hm
    refine J_aload_n C rfl dX6_fault_31 ?_
    refine J_get C 0 10 in6 rfl rfl (by decide) k585 rfl dX6_fault_32 ?_
    refine J_bipush C 20 (by decide) dX6_fault_35 ?_
    refine J_icmp_ge C 64 (by decide) dX6_fault_37 (fun c37 => ?_) (fun c37 => ?_)
    · skip
      have c37 := cv_ge_t (a := m) (b := 20) (by omega) (by omega) c37
      have hend : m = halfN xf tl := by rw [← hm2, show 20 - m = 0 by omega] <;> rfl
      refine J_ws (ws' := mdW G mo σ kf tf H sf (fun _ => 0) xf hn ik tl (halfN xf tl) rd (-1)) (by rw [hend]) ?_
      refine J_aload_n C rfl dX6_fault_64 ?_
      refine J_aload_n C rfl dX6_fault_65 ?_
      refine J_get C 0 10 in6 rfl rfl (by decide) k585 rfl dX6_fault_66 ?_
      refine J_put C 0 11 in6 tyX6 tyX6_ok nmX6 ([(mo 0, .inr (6, [.ref (mo 1), .ref (mo 2), .ref (mo 3), .ref (mo 4), .int (nI hn), .ref (mo 5), .int (nI ik), .ref (mo 6), .ref (mo 7), .int (nI tl), .int (nI (halfN xf tl)), .int (nI (halfN xf tl)), .int (-1)])), (mo 1, .inl (G.2.1, 246, .inl (fun q => nI ((rowM σ) q)))), (mo 2, .inl (G.2.1, 246, .inl (fun q => nI (kf q)))), (mo 3, .inl (G.2.1, 246, .inl (fun q => nI (tf q)))), (mo 4, .inl (G.2.1, 984, .inl (fun q => nI (H q)))), (mo 5, .inl (G.2.1, 246, .inl (fun q => nI (sf q)))), (mo 6, .inl (G.2.1, 40, .inl (fun q => nI (0)))), (mo 7, .inl (G.2.1, 60, .inl (fun q => nI (xf q))))]) rfl rfl (by decide) k586 rfl rfl rfl (Nat.le_of_ble_eq_true rfl) rfl dX6_fault_69 ?_
      refine J_ws (ws' := mdW G mo σ kf tf H sf (fun _ => 0) xf hn ik tl (halfN xf tl) (halfN xf tl) (-1)) rfl ?_
      refine J_aload_n C rfl dX6_fault_72 ?_
      refine J_get C 0 11 in6 rfl rfl (by decide) k586 rfl dX6_fault_73 ?_
      refine J_if_le C 92 (by decide) dX6_fault_76 (fun c76 => ?_) (fun c76 => ?_)
      · skip
        have c76 := cv_le_t (a := (halfN xf tl)) (b := 0) (by omega) (by omega) c76
        refine J_iconst C 0 (by decide) dX6_fault_92 ?_
        refine J_istore_n C [(1, .int 0), (0, .ref (mo 0))] (by decide) rfl dX6_fault_93 ?_
        refine J_iload_n C rfl dX6_fault_94 ?_
        refine J_if_eq C 120 (by decide) dX6_fault_95 (fun _ => ?_) (fun h => absurd h (by decide))
        refine J_aload_n C rfl dX6_fault_120 ?_
        refine J_get C 0 10 in6 rfl rfl (by decide) k585 rfl dX6_fault_121 ?_
        refine J_aload_n C rfl dX6_fault_124 ?_
        refine J_get C 0 9 in6 rfl rfl (by decide) k584 rfl dX6_fault_125 ?_
        refine J_icmp_ne C 143 (by decide) dX6_fault_128 (fun c128 => ?_) (fun c128 => ?_)
        · skip
          have c128 := cv_ne_t (a := (halfN xf tl)) (b := tl) (by omega) (by omega) c128
          refine J_aload_n C rfl dX6_fault_143 ?_
          refine J_get C 0 10 in6 rfl rfl (by decide) k585 rfl dX6_fault_144 ?_
          have hpe : psF xf tl = (1, 0, (fun _ => 0), 0) := by unfold psF; rw [if_pos (by omega)]
          exact J_zret C hr rfl dX6_fault_147 () (by rw [hpe, show halfN xf tl = 0 from by omega] <;> rfl) trivial (by rw [hpe, show halfN xf tl = 0 from by omega] <;> rfl)
        · skip
          have c128 := cv_ne_f (a := (halfN xf tl)) (b := tl) (by omega) (by omega) c128
          refine J_aload_n C rfl dX6_fault_131 ?_
          refine J_get C 0 11 in6 rfl rfl (by decide) k586 rfl dX6_fault_132 ?_
          refine J_if_le C 143 (by decide) dX6_fault_135 (fun c135 => ?_) (fun h => absurd (cv_le_f (a := (halfN xf tl)) (b := 0) (by omega) (by omega) h) (by omega))
          refine J_aload_n C rfl dX6_fault_143 ?_
          refine J_get C 0 10 in6 rfl rfl (by decide) k585 rfl dX6_fault_144 ?_
          have hpe : psF xf tl = (1, 0, (fun _ => 0), 0) := by unfold psF; rw [if_pos (by omega)]
          exact J_zret C hr rfl dX6_fault_147 () (by rw [hpe, show halfN xf tl = 0 from by omega] <;> rfl) trivial (by rw [hpe, show halfN xf tl = 0 from by omega] <;> rfl)
      · skip
        have c76 := cv_le_f (a := (halfN xf tl)) (b := 0) (by omega) (by omega) c76
        by_cases hs : halfN xf tl < tl ∧ xf (halfN xf tl) = 33
        · skip
          refine J_aload_n C rfl dX6_fault_79 ?_
          refine J_bipush C 33 (by decide) dX6_fault_80 ?_
          refine J_callV (as := [.int 33]) (rest := []) C (ct_takesY l G mo σ kf tf H sf (fun _ => 0) xf hn ik tl (halfN xf tl) (halfN xf tl) (-1) 33 htl (by omega) hx (by decide) hs) (fun u => mdW G mo σ kf tf H sf (fun _ => 0) xf hn ik tl ((halfN xf tl) + 1) (halfN xf tl) (-1)) [0, 1, 2, 3, 4, 5, 6, 7] [] 1 k630 k632 k11 k38 k633 rfl (by decide +kernel) ⟨Nat.le_of_ble_eq_true rfl, Nat.le_of_ble_eq_true rfl⟩ ⟨Nat.le_of_ble_eq_true rfl, Nat.le_of_ble_eq_true rfl⟩ dX6_fault_82 (Nat.le_of_ble_eq_true rfl) 0 rfl rfl rfl (by decide +kernel) (fun _ => rfl) ([]) rfl (fun _ => rfl) 8 (fun _ => rfl) (by decide +kernel) (by decide +kernel) (fun _ _ => ?_)
          refine J_st (st' := [.int 1]) rfl ?_
          refine J_ws (ws' := mdW G mo σ kf tf H sf (fun _ => 0) xf hn ik tl (halfN xf tl + 1) (halfN xf tl) (-1)) rfl ?_
          refine J_if_eq C 92 (by decide) dX6_fault_85 (fun h => absurd h (by decide)) (fun _ => ?_)
          refine J_iconst C 1 (by decide) dX6_fault_88 ?_
          refine J_goto C 93 (by decide) dX6_fault_89 ?_
          refine J_istore_n C [(1, .int 1), (0, .ref (mo 0))] (by decide) rfl dX6_fault_93 ?_
          refine J_lvp [1, 0] [(0, .ref (mo 0)), (1, .int 1)] rfl ?_
          have hps : psF xf tl = pmF xf tl 60 (halfN xf tl + 1) (fun _ => 0) 0 := by unfold psF; rw [if_neg (by omega), if_neg (by omega), if_pos hs.2]
          refine J_loop (σ := Nat × Nat × (Nat → Nat) × Nat) (fun x => mdW G mo σ kf tf H sf x.2.2.1 xf hn ik tl x.2.1 (halfN xf tl) (nI x.2.2.2 - 1)) (fun x => [(0, .ref (mo 0)), (1, .int 1)]) (fun x => x.1 ≤ 60 ∧ tl < (60 - x.1) + x.2.1 ∧ x.2.1 ≤ tl ∧ x.2.2.2 ≤ 40 ∧ pmF xf tl (60 - x.1) x.2.1 x.2.2.1 x.2.2.2 = psF xf tl) (fun x => 60 - x.1) (fun x hxi ih3 => ?_) (0, halfN xf tl + 1, (fun _ => 0), 0) ⟨Nat.zero_le _, by show tl < 60 - 0 + (halfN xf tl + 1); omega, by show halfN xf tl + 1 ≤ tl; omega, Nat.zero_le _, hps.symm⟩ rfl rfl
          obtain ⟨hx1, hx2, hx3, hx4, hx5⟩ := hxi
          obtain ⟨i3, hie⟩ : ∃ i3, i3 = x.1 := ⟨_, rfl⟩
          rw [← hie] at hx1 hx2 hx5
          refine J_iload_n C rfl dX6_fault_94 ?_
          refine J_if_eq C 120 (by decide) dX6_fault_95 (fun h => absurd h (by decide)) (fun _ => ?_)
          by_cases hok : mrOk xf tl x.2.1
          · skip
            have hml := mrOk_lt hok
            have hnl := mrNum_le hok.1
            have hpl := mrPos_le xf tl x.2.1
            refine J_aload_n C rfl dX6_fault_98 ?_
            refine J_callV (as := []) (rest := []) C (ct_mMisY l G mo σ kf tf H sf x.2.2.1 xf hn ik tl x.2.1 (halfN xf tl) (nI x.2.2.2 - 1) x.2.2.2 htl (by omega) hx hx4 rfl hok) (fun u => mdW G mo σ kf tf H sf (upN x.2.2.1 (mrNum xf tl x.2.1) (letC xf tl (mrPos xf tl x.2.1))) xf hn ik tl (mrPos xf tl x.2.1 + 1) (halfN xf tl) (nI (max x.2.2.2 (mrNum xf tl x.2.1 + 1)) - 1)) [0, 1, 2, 3, 4, 5, 6, 7] [] 0 k634 k636 k12 k38 k637 rfl (by decide +kernel) ⟨Nat.le_of_ble_eq_true rfl, Nat.le_of_ble_eq_true rfl⟩ ⟨Nat.le_of_ble_eq_true rfl, Nat.le_of_ble_eq_true rfl⟩ dX6_fault_99 (Nat.le_of_ble_eq_true rfl) 0 rfl rfl rfl (by decide +kernel) (fun _ => rfl) ([]) rfl (fun _ => rfl) 8 (fun _ => rfl) (by decide +kernel) (by decide +kernel) (fun _ _ => ?_)
            refine J_st (st' := [.int 1]) rfl ?_
            refine J_ws (ws' := mdW G mo σ kf tf H sf (upN x.2.2.1 (mrNum xf tl x.2.1) (letC xf tl (mrPos xf tl x.2.1))) xf hn ik tl (mrPos xf tl x.2.1 + 1) (halfN xf tl) (nI (max x.2.2.2 (mrNum xf tl x.2.1 + 1)) - 1)) rfl ?_
            refine J_if_ne C 110 (by decide) dX6_fault_102 (fun _ => ?_) (fun h => absurd h (by decide))
            by_cases hs2 : mrPos xf tl x.2.1 + 1 < tl ∧ xf (mrPos xf tl x.2.1 + 1) = 44
            · skip
              refine J_aload_n C rfl dX6_fault_110 ?_
              refine J_bipush C 44 (by decide) dX6_fault_111 ?_
              refine J_callV (as := [.int 44]) (rest := []) C (ct_takesY l G mo σ kf tf H sf (upN x.2.2.1 (mrNum xf tl x.2.1) (letC xf tl (mrPos xf tl x.2.1))) xf hn ik tl (mrPos xf tl x.2.1 + 1) (halfN xf tl) (nI (max x.2.2.2 (mrNum xf tl x.2.1 + 1)) - 1) 44 htl (by omega) hx (by decide) hs2) (fun u => mdW G mo σ kf tf H sf (upN x.2.2.1 (mrNum xf tl x.2.1) (letC xf tl (mrPos xf tl x.2.1))) xf hn ik tl ((mrPos xf tl x.2.1 + 1) + 1) (halfN xf tl) (nI (max x.2.2.2 (mrNum xf tl x.2.1 + 1)) - 1)) [0, 1, 2, 3, 4, 5, 6, 7] [] 1 k630 k632 k11 k38 k633 rfl (by decide +kernel) ⟨Nat.le_of_ble_eq_true rfl, Nat.le_of_ble_eq_true rfl⟩ ⟨Nat.le_of_ble_eq_true rfl, Nat.le_of_ble_eq_true rfl⟩ dX6_fault_113 (Nat.le_of_ble_eq_true rfl) 0 rfl rfl rfl (by decide +kernel) (fun _ => rfl) ([]) rfl (fun _ => rfl) 8 (fun _ => rfl) (by decide +kernel) (by decide +kernel) (fun _ _ => ?_)
              refine J_st (st' := [.int 1]) rfl ?_
              refine J_ws (ws' := mdW G mo σ kf tf H sf (upN x.2.2.1 (mrNum xf tl x.2.1) (letC xf tl (mrPos xf tl x.2.1))) xf hn ik tl (mrPos xf tl x.2.1 + 2) (halfN xf tl) (nI (max x.2.2.2 (mrNum xf tl x.2.1 + 1)) - 1)) rfl ?_
              refine J_istore_n C [(1, .int 1), (0, .ref (mo 0))] (by decide) rfl dX6_fault_116 ?_
              refine J_goto C 94 (by decide) dX6_fault_117 ?_
              refine J_lvp [1, 0] [(0, .ref (mo 0)), (1, .int 1)] rfl ?_
              exact ih3 (⟨i3 + 1, mrPos xf tl x.2.1 + 2, upN x.2.2.1 (mrNum xf tl x.2.1) (letC xf tl (mrPos xf tl x.2.1)), max x.2.2.2 (mrNum xf tl x.2.1 + 1)⟩) ⟨by omega, by show tl < (60 - (i3 + 1)) + (mrPos xf tl x.2.1 + 2); omega, by show mrPos xf tl x.2.1 + 2 ≤ tl; omega, by show max _ _ ≤ 40; omega, by show pmF xf tl (60 - (i3 + 1)) (mrPos xf tl x.2.1 + 2) _ _ = _; rw [← hx5, show 60 - i3 = (60 - (i3 + 1)) + 1 by omega, pmF_s, if_pos hok, if_neg (by omega), if_pos hs2.2]⟩ (by show 60 - (i3 + 1) < 60 - x.1; omega)
            · skip
              refine J_aload_n C rfl dX6_fault_110 ?_
              refine J_bipush C 44 (by decide) dX6_fault_111 ?_
              refine J_callV (as := [.int 44]) (rest := []) C (ct_takesN l G mo σ kf tf H sf (upN x.2.2.1 (mrNum xf tl x.2.1) (letC xf tl (mrPos xf tl x.2.1))) xf hn ik tl (mrPos xf tl x.2.1 + 1) (halfN xf tl) (nI (max x.2.2.2 (mrNum xf tl x.2.1 + 1)) - 1) 44 htl (by omega) hx (by decide) hs2) (fun u => mdW G mo σ kf tf H sf (upN x.2.2.1 (mrNum xf tl x.2.1) (letC xf tl (mrPos xf tl x.2.1))) xf hn ik tl ((mrPos xf tl x.2.1 + 1) + 0) (halfN xf tl) (nI (max x.2.2.2 (mrNum xf tl x.2.1 + 1)) - 1)) [0, 1, 2, 3, 4, 5, 6, 7] [] 1 k630 k632 k11 k38 k633 rfl (by decide +kernel) ⟨Nat.le_of_ble_eq_true rfl, Nat.le_of_ble_eq_true rfl⟩ ⟨Nat.le_of_ble_eq_true rfl, Nat.le_of_ble_eq_true rfl⟩ dX6_fault_113 (Nat.le_of_ble_eq_true rfl) 0 rfl rfl rfl (by decide +kernel) (fun _ => rfl) ([]) rfl (fun _ => rfl) 8 (fun _ => rfl) (by decide +kernel) (by decide +kernel) (fun _ _ => ?_)
              refine J_st (st' := [.int 0]) rfl ?_
              refine J_ws (ws' := mdW G mo σ kf tf H sf (upN x.2.2.1 (mrNum xf tl x.2.1) (letC xf tl (mrPos xf tl x.2.1))) xf hn ik tl (mrPos xf tl x.2.1 + 1) (halfN xf tl) (nI (max x.2.2.2 (mrNum xf tl x.2.1 + 1)) - 1)) rfl ?_
              refine J_istore_n C [(1, .int 0), (0, .ref (mo 0))] (by decide) rfl dX6_fault_116 ?_
              refine J_goto C 94 (by decide) dX6_fault_117 ?_
              refine J_iload_n C rfl dX6_fault_94 ?_
              refine J_if_eq C 120 (by decide) dX6_fault_95 (fun _ => ?_) (fun h => absurd h (by decide))
              refine J_aload_n C rfl dX6_fault_120 ?_
              refine J_get C 0 10 in6 rfl rfl (by decide) k585 rfl dX6_fault_121 ?_
              refine J_aload_n C rfl dX6_fault_124 ?_
              refine J_get C 0 9 in6 rfl rfl (by decide) k584 rfl dX6_fault_125 ?_
              refine J_icmp_ne C 143 (by decide) dX6_fault_128 (fun c128 => ?_) (fun c128 => ?_)
              · skip
                have c128 := cv_ne_t (a := (mrPos xf tl x.2.1 + 1)) (b := tl) (by omega) (by omega) c128
                refine J_aload_n C rfl dX6_fault_143 ?_
                refine J_get C 0 10 in6 rfl rfl (by decide) k585 rfl dX6_fault_144 ?_
                have hpe : psF xf tl = (1, mrPos xf tl x.2.1 + 1, upN x.2.2.1 (mrNum xf tl x.2.1) (letC xf tl (mrPos xf tl x.2.1)), max x.2.2.2 (mrNum xf tl x.2.1 + 1)) := by rw [← hx5, show 60 - i3 = (59 - i3) + 1 by omega, pmF_s, if_pos hok, if_neg (by omega), if_neg (by omega)]
                exact J_zret C hr rfl dX6_fault_147 () (by rw [hpe] <;> rfl) trivial (by rw [hpe] <;> rfl)
              · skip
                have c128 := cv_ne_f (a := (mrPos xf tl x.2.1 + 1)) (b := tl) (by omega) (by omega) c128
                refine J_aload_n C rfl dX6_fault_131 ?_
                refine J_get C 0 11 in6 rfl rfl (by decide) k586 rfl dX6_fault_132 ?_
                refine J_if_le C 143 (by decide) dX6_fault_135 (fun h => absurd (cv_le_t (a := (halfN xf tl)) (b := 0) (by omega) (by omega) h) (by omega)) (fun c135 => ?_)
                refine J_bipush C (-5) (by decide) dX6_fault_138 ?_
                refine J_goto C 147 (by decide) dX6_fault_140 ?_
                have hpe : psF xf tl = (0, tl, upN x.2.2.1 (mrNum xf tl x.2.1) (letC xf tl (mrPos xf tl x.2.1)), max x.2.2.2 (mrNum xf tl x.2.1 + 1)) := by rw [← hx5, show 60 - i3 = (59 - i3) + 1 by omega, pmF_s, if_pos hok, if_pos (by omega)]
                exact J_zret C hr rfl dX6_fault_147 () (by rw [hpe] <;> rfl) trivial (by rw [hpe, show mrPos xf tl x.2.1 + 1 = tl from by omega] <;> rfl)
          · skip
            refine J_aload_n C rfl dX6_fault_98 ?_
            refine J_callV (as := []) (rest := []) C (ct_mMisN l G mo σ kf tf H sf x.2.2.1 xf hn ik tl x.2.1 (halfN xf tl) (nI x.2.2.2 - 1) x.2.2.2 htl (by omega) hx hx4 rfl hok) (fun u => mdW G mo σ kf tf H sf x.2.2.1 xf hn ik tl (mrBad xf tl x.2.1) (halfN xf tl) (nI x.2.2.2 - 1)) [0, 1, 2, 3, 4, 5, 6, 7] [] 0 k634 k636 k12 k38 k637 rfl (by decide +kernel) ⟨Nat.le_of_ble_eq_true rfl, Nat.le_of_ble_eq_true rfl⟩ ⟨Nat.le_of_ble_eq_true rfl, Nat.le_of_ble_eq_true rfl⟩ dX6_fault_99 (Nat.le_of_ble_eq_true rfl) 0 rfl rfl rfl (by decide +kernel) (fun _ => rfl) ([]) rfl (fun _ => rfl) 8 (fun _ => rfl) (by decide +kernel) (by decide +kernel) (fun _ _ => ?_)
            refine J_st (st' := [.int 0]) rfl ?_
            refine J_ws (ws' := mdW G mo σ kf tf H sf x.2.2.1 xf hn ik tl (mrBad xf tl x.2.1) (halfN xf tl) (nI x.2.2.2 - 1)) rfl ?_
            refine J_if_ne C 110 (by decide) dX6_fault_102 (fun h => absurd h (by decide)) (fun _ => ?_)
            refine J_aload_n C rfl dX6_fault_105 ?_
            refine J_get C 0 10 in6 rfl rfl (by decide) k585 rfl dX6_fault_106 ?_
            have hpe : psF xf tl = (1, mrBad xf tl x.2.1, x.2.2.1, x.2.2.2) := by rw [← hx5, show 60 - i3 = (59 - i3) + 1 by omega, pmF_s, if_neg hok]
            exact J_zret C hr rfl dX6_fault_109 () (by rw [hpe] <;> rfl) trivial (by rw [hpe] <;> rfl)
        · skip
          refine J_aload_n C rfl dX6_fault_79 ?_
          refine J_bipush C 33 (by decide) dX6_fault_80 ?_
          refine J_callV (as := [.int 33]) (rest := []) C (ct_takesN l G mo σ kf tf H sf (fun _ => 0) xf hn ik tl (halfN xf tl) (halfN xf tl) (-1) 33 htl (by omega) hx (by decide) hs) (fun u => mdW G mo σ kf tf H sf (fun _ => 0) xf hn ik tl ((halfN xf tl) + 0) (halfN xf tl) (-1)) [0, 1, 2, 3, 4, 5, 6, 7] [] 1 k630 k632 k11 k38 k633 rfl (by decide +kernel) ⟨Nat.le_of_ble_eq_true rfl, Nat.le_of_ble_eq_true rfl⟩ ⟨Nat.le_of_ble_eq_true rfl, Nat.le_of_ble_eq_true rfl⟩ dX6_fault_82 (Nat.le_of_ble_eq_true rfl) 0 rfl rfl rfl (by decide +kernel) (fun _ => rfl) ([]) rfl (fun _ => rfl) 8 (fun _ => rfl) (by decide +kernel) (by decide +kernel) (fun _ _ => ?_)
          refine J_st (st' := [.int 0]) rfl ?_
          refine J_ws (ws' := mdW G mo σ kf tf H sf (fun _ => 0) xf hn ik tl (halfN xf tl) (halfN xf tl) (-1)) rfl ?_
          refine J_if_eq C 92 (by decide) dX6_fault_85 (fun _ => ?_) (fun h => absurd h (by decide))
          refine J_iconst C 0 (by decide) dX6_fault_92 ?_
          refine J_istore_n C [(1, .int 0), (0, .ref (mo 0))] (by decide) rfl dX6_fault_93 ?_
          refine J_iload_n C rfl dX6_fault_94 ?_
          refine J_if_eq C 120 (by decide) dX6_fault_95 (fun _ => ?_) (fun h => absurd h (by decide))
          refine J_aload_n C rfl dX6_fault_120 ?_
          refine J_get C 0 10 in6 rfl rfl (by decide) k585 rfl dX6_fault_121 ?_
          refine J_aload_n C rfl dX6_fault_124 ?_
          refine J_get C 0 9 in6 rfl rfl (by decide) k584 rfl dX6_fault_125 ?_
          refine J_icmp_ne C 143 (by decide) dX6_fault_128 (fun c128 => ?_) (fun c128 => ?_)
          · skip
            have c128 := cv_ne_t (a := (halfN xf tl)) (b := tl) (by omega) (by omega) c128
            refine J_aload_n C rfl dX6_fault_143 ?_
            refine J_get C 0 10 in6 rfl rfl (by decide) k585 rfl dX6_fault_144 ?_
            have hpe : psF xf tl = (1, halfN xf tl, (fun _ => 0), 0) := by unfold psF; rw [if_neg (by omega), if_neg (by omega), if_neg (by omega)]
            exact J_zret C hr rfl dX6_fault_147 () (by rw [hpe] <;> rfl) trivial (by rw [hpe] <;> rfl)
          · skip
            have c128 := cv_ne_f (a := (halfN xf tl)) (b := tl) (by omega) (by omega) c128
            refine J_aload_n C rfl dX6_fault_131 ?_
            refine J_get C 0 11 in6 rfl rfl (by decide) k586 rfl dX6_fault_132 ?_
            refine J_if_le C 143 (by decide) dX6_fault_135 (fun h => absurd (cv_le_t (a := (halfN xf tl)) (b := 0) (by omega) (by omega) h) (by omega)) (fun c135 => ?_)
            refine J_bipush C (-5) (by decide) dX6_fault_138 ?_
            refine J_goto C 147 (by decide) dX6_fault_140 ?_
            have hpe : psF xf tl = (0, tl, (fun _ => 0), 0) := by unfold psF; rw [if_neg (by omega), if_pos (by omega)]
            exact J_zret C hr rfl dX6_fault_147 () (by rw [hpe] <;> rfl) trivial (by rw [hpe, show halfN xf tl = tl from by omega] <;> rfl)
    · skip
      have c37 := cv_ge_f (a := m) (b := 20) (by omega) (by omega) c37
      by_cases hlt : m < tl ∧ 97 ≤ xf m ∧ xf m ≤ 122
      · skip
        have hlz : ¬ letC xf tl m = 0 := by unfold letC; rw [if_pos hlt]; omega
        refine J_aload_n C rfl dX6_fault_40 ?_
        refine J_bipush C 97 (by decide) dX6_fault_41 ?_
        refine J_bipush C 122 (by decide) dX6_fault_43 ?_
        refine J_callV (as := [.int 97, .int 122]) (rest := []) C (ct_hereY l G mo σ kf tf H sf (fun _ => 0) xf hn ik tl m rd (-1) 97 122 htl (by omega) hx (by decide) (by decide) hlt) (fun u => mdW G mo σ kf tf H sf (fun _ => 0) xf hn ik tl m rd (-1)) [0, 1, 2, 3, 4, 5, 6, 7] [] 2 k623 k625 k10 k38 k626 rfl (by decide +kernel) ⟨Nat.le_of_ble_eq_true rfl, Nat.le_of_ble_eq_true rfl⟩ ⟨Nat.le_of_ble_eq_true rfl, Nat.le_of_ble_eq_true rfl⟩ dX6_fault_45 (Nat.le_of_ble_eq_true rfl) 0 rfl rfl rfl (by decide +kernel) (fun _ => rfl) ([]) rfl (fun _ => rfl) 8 (fun _ => rfl) (by decide +kernel) (by decide +kernel) (fun _ _ => ?_)
        refine J_st (st' := [.int 1]) rfl ?_
        refine J_if_eq C 64 (by decide) dX6_fault_48 (fun h => absurd h (by decide)) (fun _ => ?_)
        refine J_aload_n C rfl dX6_fault_51 ?_
        refine J_dup C rfl dX6_fault_52 ?_
        refine J_get C 0 10 in6 rfl rfl (by decide) k585 rfl dX6_fault_53 ?_
        refine J_iconst C 1 (by decide) dX6_fault_56 ?_
        refine J_iadd C dX6_fault_57 ?_
        refine J_i (nI_add m 1 : ((nI m) + 1 : Int32) = (nI (m + 1))) ?_
        refine J_put C 0 10 in6 tyX6 tyX6_ok nmX6 ([(mo 0, .inr (6, [.ref (mo 1), .ref (mo 2), .ref (mo 3), .ref (mo 4), .int (nI hn), .ref (mo 5), .int (nI ik), .ref (mo 6), .ref (mo 7), .int (nI tl), .int (nI (m + 1)), .int (nI rd), .int (-1)])), (mo 1, .inl (G.2.1, 246, .inl (fun q => nI ((rowM σ) q)))), (mo 2, .inl (G.2.1, 246, .inl (fun q => nI (kf q)))), (mo 3, .inl (G.2.1, 246, .inl (fun q => nI (tf q)))), (mo 4, .inl (G.2.1, 984, .inl (fun q => nI (H q)))), (mo 5, .inl (G.2.1, 246, .inl (fun q => nI (sf q)))), (mo 6, .inl (G.2.1, 40, .inl (fun q => nI (0)))), (mo 7, .inl (G.2.1, 60, .inl (fun q => nI (xf q))))]) rfl rfl (by decide) k585 rfl rfl rfl (Nat.le_of_ble_eq_true rfl) rfl dX6_fault_58 ?_
        refine J_ws (ws' := mdW G mo σ kf tf H sf (fun _ => 0) xf hn ik tl (m + 1) rd (-1)) rfl ?_
        refine J_goto C 31 (by decide) dX6_fault_61 ?_
        refine J_lvp [0] [(0, .ref (mo 0))] rfl ?_
        exact ih2 (m + 1) ⟨by omega, by rw [← hm2, show 20 - m = (20 - (m + 1)) + 1 by omega, hfF_next hlz]⟩ (by omega)
      · skip
        refine J_aload_n C rfl dX6_fault_40 ?_
        refine J_bipush C 97 (by decide) dX6_fault_41 ?_
        refine J_bipush C 122 (by decide) dX6_fault_43 ?_
        refine J_callV (as := [.int 97, .int 122]) (rest := []) C (ct_hereN l G mo σ kf tf H sf (fun _ => 0) xf hn ik tl m rd (-1) 97 122 htl (by omega) hx (by decide) (by decide) hlt) (fun u => mdW G mo σ kf tf H sf (fun _ => 0) xf hn ik tl m rd (-1)) [0, 1, 2, 3, 4, 5, 6, 7] [] 2 k623 k625 k10 k38 k626 rfl (by decide +kernel) ⟨Nat.le_of_ble_eq_true rfl, Nat.le_of_ble_eq_true rfl⟩ ⟨Nat.le_of_ble_eq_true rfl, Nat.le_of_ble_eq_true rfl⟩ dX6_fault_45 (Nat.le_of_ble_eq_true rfl) 0 rfl rfl rfl (by decide +kernel) (fun _ => rfl) ([]) rfl (fun _ => rfl) 8 (fun _ => rfl) (by decide +kernel) (by decide +kernel) (fun _ _ => ?_)
        refine J_st (st' := [.int 0]) rfl ?_
        refine J_if_eq C 64 (by decide) dX6_fault_48 (fun _ => ?_) (fun h => absurd h (by decide))
        have hend : m = halfN xf tl := by rw [← hm2]; exact (hfF_stop (show letC xf tl m = 0 from if_neg hlt) _).symm
        refine J_ws (ws' := mdW G mo σ kf tf H sf (fun _ => 0) xf hn ik tl (halfN xf tl) rd (-1)) (by rw [hend]) ?_
        refine J_aload_n C rfl dX6_fault_64 ?_
        refine J_aload_n C rfl dX6_fault_65 ?_
        refine J_get C 0 10 in6 rfl rfl (by decide) k585 rfl dX6_fault_66 ?_
        refine J_put C 0 11 in6 tyX6 tyX6_ok nmX6 ([(mo 0, .inr (6, [.ref (mo 1), .ref (mo 2), .ref (mo 3), .ref (mo 4), .int (nI hn), .ref (mo 5), .int (nI ik), .ref (mo 6), .ref (mo 7), .int (nI tl), .int (nI (halfN xf tl)), .int (nI (halfN xf tl)), .int (-1)])), (mo 1, .inl (G.2.1, 246, .inl (fun q => nI ((rowM σ) q)))), (mo 2, .inl (G.2.1, 246, .inl (fun q => nI (kf q)))), (mo 3, .inl (G.2.1, 246, .inl (fun q => nI (tf q)))), (mo 4, .inl (G.2.1, 984, .inl (fun q => nI (H q)))), (mo 5, .inl (G.2.1, 246, .inl (fun q => nI (sf q)))), (mo 6, .inl (G.2.1, 40, .inl (fun q => nI (0)))), (mo 7, .inl (G.2.1, 60, .inl (fun q => nI (xf q))))]) rfl rfl (by decide) k586 rfl rfl rfl (Nat.le_of_ble_eq_true rfl) rfl dX6_fault_69 ?_
        refine J_ws (ws' := mdW G mo σ kf tf H sf (fun _ => 0) xf hn ik tl (halfN xf tl) (halfN xf tl) (-1)) rfl ?_
        refine J_aload_n C rfl dX6_fault_72 ?_
        refine J_get C 0 11 in6 rfl rfl (by decide) k586 rfl dX6_fault_73 ?_
        refine J_if_le C 92 (by decide) dX6_fault_76 (fun c76 => ?_) (fun c76 => ?_)
        · skip
          have c76 := cv_le_t (a := (halfN xf tl)) (b := 0) (by omega) (by omega) c76
          refine J_iconst C 0 (by decide) dX6_fault_92 ?_
          refine J_istore_n C [(1, .int 0), (0, .ref (mo 0))] (by decide) rfl dX6_fault_93 ?_
          refine J_iload_n C rfl dX6_fault_94 ?_
          refine J_if_eq C 120 (by decide) dX6_fault_95 (fun _ => ?_) (fun h => absurd h (by decide))
          refine J_aload_n C rfl dX6_fault_120 ?_
          refine J_get C 0 10 in6 rfl rfl (by decide) k585 rfl dX6_fault_121 ?_
          refine J_aload_n C rfl dX6_fault_124 ?_
          refine J_get C 0 9 in6 rfl rfl (by decide) k584 rfl dX6_fault_125 ?_
          refine J_icmp_ne C 143 (by decide) dX6_fault_128 (fun c128 => ?_) (fun c128 => ?_)
          · skip
            have c128 := cv_ne_t (a := (halfN xf tl)) (b := tl) (by omega) (by omega) c128
            refine J_aload_n C rfl dX6_fault_143 ?_
            refine J_get C 0 10 in6 rfl rfl (by decide) k585 rfl dX6_fault_144 ?_
            have hpe : psF xf tl = (1, 0, (fun _ => 0), 0) := by unfold psF; rw [if_pos (by omega)]
            exact J_zret C hr rfl dX6_fault_147 () (by rw [hpe, show halfN xf tl = 0 from by omega] <;> rfl) trivial (by rw [hpe, show halfN xf tl = 0 from by omega] <;> rfl)
          · skip
            have c128 := cv_ne_f (a := (halfN xf tl)) (b := tl) (by omega) (by omega) c128
            refine J_aload_n C rfl dX6_fault_131 ?_
            refine J_get C 0 11 in6 rfl rfl (by decide) k586 rfl dX6_fault_132 ?_
            refine J_if_le C 143 (by decide) dX6_fault_135 (fun c135 => ?_) (fun h => absurd (cv_le_f (a := (halfN xf tl)) (b := 0) (by omega) (by omega) h) (by omega))
            refine J_aload_n C rfl dX6_fault_143 ?_
            refine J_get C 0 10 in6 rfl rfl (by decide) k585 rfl dX6_fault_144 ?_
            have hpe : psF xf tl = (1, 0, (fun _ => 0), 0) := by unfold psF; rw [if_pos (by omega)]
            exact J_zret C hr rfl dX6_fault_147 () (by rw [hpe, show halfN xf tl = 0 from by omega] <;> rfl) trivial (by rw [hpe, show halfN xf tl = 0 from by omega] <;> rfl)
        · skip
          have c76 := cv_le_f (a := (halfN xf tl)) (b := 0) (by omega) (by omega) c76
          by_cases hs : halfN xf tl < tl ∧ xf (halfN xf tl) = 33
          · skip
            refine J_aload_n C rfl dX6_fault_79 ?_
            refine J_bipush C 33 (by decide) dX6_fault_80 ?_
            refine J_callV (as := [.int 33]) (rest := []) C (ct_takesY l G mo σ kf tf H sf (fun _ => 0) xf hn ik tl (halfN xf tl) (halfN xf tl) (-1) 33 htl (by omega) hx (by decide) hs) (fun u => mdW G mo σ kf tf H sf (fun _ => 0) xf hn ik tl ((halfN xf tl) + 1) (halfN xf tl) (-1)) [0, 1, 2, 3, 4, 5, 6, 7] [] 1 k630 k632 k11 k38 k633 rfl (by decide +kernel) ⟨Nat.le_of_ble_eq_true rfl, Nat.le_of_ble_eq_true rfl⟩ ⟨Nat.le_of_ble_eq_true rfl, Nat.le_of_ble_eq_true rfl⟩ dX6_fault_82 (Nat.le_of_ble_eq_true rfl) 0 rfl rfl rfl (by decide +kernel) (fun _ => rfl) ([]) rfl (fun _ => rfl) 8 (fun _ => rfl) (by decide +kernel) (by decide +kernel) (fun _ _ => ?_)
            refine J_st (st' := [.int 1]) rfl ?_
            refine J_ws (ws' := mdW G mo σ kf tf H sf (fun _ => 0) xf hn ik tl (halfN xf tl + 1) (halfN xf tl) (-1)) rfl ?_
            refine J_if_eq C 92 (by decide) dX6_fault_85 (fun h => absurd h (by decide)) (fun _ => ?_)
            refine J_iconst C 1 (by decide) dX6_fault_88 ?_
            refine J_goto C 93 (by decide) dX6_fault_89 ?_
            refine J_istore_n C [(1, .int 1), (0, .ref (mo 0))] (by decide) rfl dX6_fault_93 ?_
            refine J_lvp [1, 0] [(0, .ref (mo 0)), (1, .int 1)] rfl ?_
            have hps : psF xf tl = pmF xf tl 60 (halfN xf tl + 1) (fun _ => 0) 0 := by unfold psF; rw [if_neg (by omega), if_neg (by omega), if_pos hs.2]
            refine J_loop (σ := Nat × Nat × (Nat → Nat) × Nat) (fun x => mdW G mo σ kf tf H sf x.2.2.1 xf hn ik tl x.2.1 (halfN xf tl) (nI x.2.2.2 - 1)) (fun x => [(0, .ref (mo 0)), (1, .int 1)]) (fun x => x.1 ≤ 60 ∧ tl < (60 - x.1) + x.2.1 ∧ x.2.1 ≤ tl ∧ x.2.2.2 ≤ 40 ∧ pmF xf tl (60 - x.1) x.2.1 x.2.2.1 x.2.2.2 = psF xf tl) (fun x => 60 - x.1) (fun x hxi ih3 => ?_) (0, halfN xf tl + 1, (fun _ => 0), 0) ⟨Nat.zero_le _, by show tl < 60 - 0 + (halfN xf tl + 1); omega, by show halfN xf tl + 1 ≤ tl; omega, Nat.zero_le _, hps.symm⟩ rfl rfl
            obtain ⟨hx1, hx2, hx3, hx4, hx5⟩ := hxi
            obtain ⟨i3, hie⟩ : ∃ i3, i3 = x.1 := ⟨_, rfl⟩
            rw [← hie] at hx1 hx2 hx5
            refine J_iload_n C rfl dX6_fault_94 ?_
            refine J_if_eq C 120 (by decide) dX6_fault_95 (fun h => absurd h (by decide)) (fun _ => ?_)
            by_cases hok : mrOk xf tl x.2.1
            · skip
              have hml := mrOk_lt hok
              have hnl := mrNum_le hok.1
              have hpl := mrPos_le xf tl x.2.1
              refine J_aload_n C rfl dX6_fault_98 ?_
              refine J_callV (as := []) (rest := []) C (ct_mMisY l G mo σ kf tf H sf x.2.2.1 xf hn ik tl x.2.1 (halfN xf tl) (nI x.2.2.2 - 1) x.2.2.2 htl (by omega) hx hx4 rfl hok) (fun u => mdW G mo σ kf tf H sf (upN x.2.2.1 (mrNum xf tl x.2.1) (letC xf tl (mrPos xf tl x.2.1))) xf hn ik tl (mrPos xf tl x.2.1 + 1) (halfN xf tl) (nI (max x.2.2.2 (mrNum xf tl x.2.1 + 1)) - 1)) [0, 1, 2, 3, 4, 5, 6, 7] [] 0 k634 k636 k12 k38 k637 rfl (by decide +kernel) ⟨Nat.le_of_ble_eq_true rfl, Nat.le_of_ble_eq_true rfl⟩ ⟨Nat.le_of_ble_eq_true rfl, Nat.le_of_ble_eq_true rfl⟩ dX6_fault_99 (Nat.le_of_ble_eq_true rfl) 0 rfl rfl rfl (by decide +kernel) (fun _ => rfl) ([]) rfl (fun _ => rfl) 8 (fun _ => rfl) (by decide +kernel) (by decide +kernel) (fun _ _ => ?_)
              refine J_st (st' := [.int 1]) rfl ?_
              refine J_ws (ws' := mdW G mo σ kf tf H sf (upN x.2.2.1 (mrNum xf tl x.2.1) (letC xf tl (mrPos xf tl x.2.1))) xf hn ik tl (mrPos xf tl x.2.1 + 1) (halfN xf tl) (nI (max x.2.2.2 (mrNum xf tl x.2.1 + 1)) - 1)) rfl ?_
              refine J_if_ne C 110 (by decide) dX6_fault_102 (fun _ => ?_) (fun h => absurd h (by decide))
              by_cases hs2 : mrPos xf tl x.2.1 + 1 < tl ∧ xf (mrPos xf tl x.2.1 + 1) = 44
              · skip
                refine J_aload_n C rfl dX6_fault_110 ?_
                refine J_bipush C 44 (by decide) dX6_fault_111 ?_
                refine J_callV (as := [.int 44]) (rest := []) C (ct_takesY l G mo σ kf tf H sf (upN x.2.2.1 (mrNum xf tl x.2.1) (letC xf tl (mrPos xf tl x.2.1))) xf hn ik tl (mrPos xf tl x.2.1 + 1) (halfN xf tl) (nI (max x.2.2.2 (mrNum xf tl x.2.1 + 1)) - 1) 44 htl (by omega) hx (by decide) hs2) (fun u => mdW G mo σ kf tf H sf (upN x.2.2.1 (mrNum xf tl x.2.1) (letC xf tl (mrPos xf tl x.2.1))) xf hn ik tl ((mrPos xf tl x.2.1 + 1) + 1) (halfN xf tl) (nI (max x.2.2.2 (mrNum xf tl x.2.1 + 1)) - 1)) [0, 1, 2, 3, 4, 5, 6, 7] [] 1 k630 k632 k11 k38 k633 rfl (by decide +kernel) ⟨Nat.le_of_ble_eq_true rfl, Nat.le_of_ble_eq_true rfl⟩ ⟨Nat.le_of_ble_eq_true rfl, Nat.le_of_ble_eq_true rfl⟩ dX6_fault_113 (Nat.le_of_ble_eq_true rfl) 0 rfl rfl rfl (by decide +kernel) (fun _ => rfl) ([]) rfl (fun _ => rfl) 8 (fun _ => rfl) (by decide +kernel) (by decide +kernel) (fun _ _ => ?_)
                refine J_st (st' := [.int 1]) rfl ?_
                refine J_ws (ws' := mdW G mo σ kf tf H sf (upN x.2.2.1 (mrNum xf tl x.2.1) (letC xf tl (mrPos xf tl x.2.1))) xf hn ik tl (mrPos xf tl x.2.1 + 2) (halfN xf tl) (nI (max x.2.2.2 (mrNum xf tl x.2.1 + 1)) - 1)) rfl ?_
                refine J_istore_n C [(1, .int 1), (0, .ref (mo 0))] (by decide) rfl dX6_fault_116 ?_
                refine J_goto C 94 (by decide) dX6_fault_117 ?_
                refine J_lvp [1, 0] [(0, .ref (mo 0)), (1, .int 1)] rfl ?_
                exact ih3 (⟨i3 + 1, mrPos xf tl x.2.1 + 2, upN x.2.2.1 (mrNum xf tl x.2.1) (letC xf tl (mrPos xf tl x.2.1)), max x.2.2.2 (mrNum xf tl x.2.1 + 1)⟩) ⟨by omega, by show tl < (60 - (i3 + 1)) + (mrPos xf tl x.2.1 + 2); omega, by show mrPos xf tl x.2.1 + 2 ≤ tl; omega, by show max _ _ ≤ 40; omega, by show pmF xf tl (60 - (i3 + 1)) (mrPos xf tl x.2.1 + 2) _ _ = _; rw [← hx5, show 60 - i3 = (60 - (i3 + 1)) + 1 by omega, pmF_s, if_pos hok, if_neg (by omega), if_pos hs2.2]⟩ (by show 60 - (i3 + 1) < 60 - x.1; omega)
              · skip
                refine J_aload_n C rfl dX6_fault_110 ?_
                refine J_bipush C 44 (by decide) dX6_fault_111 ?_
                refine J_callV (as := [.int 44]) (rest := []) C (ct_takesN l G mo σ kf tf H sf (upN x.2.2.1 (mrNum xf tl x.2.1) (letC xf tl (mrPos xf tl x.2.1))) xf hn ik tl (mrPos xf tl x.2.1 + 1) (halfN xf tl) (nI (max x.2.2.2 (mrNum xf tl x.2.1 + 1)) - 1) 44 htl (by omega) hx (by decide) hs2) (fun u => mdW G mo σ kf tf H sf (upN x.2.2.1 (mrNum xf tl x.2.1) (letC xf tl (mrPos xf tl x.2.1))) xf hn ik tl ((mrPos xf tl x.2.1 + 1) + 0) (halfN xf tl) (nI (max x.2.2.2 (mrNum xf tl x.2.1 + 1)) - 1)) [0, 1, 2, 3, 4, 5, 6, 7] [] 1 k630 k632 k11 k38 k633 rfl (by decide +kernel) ⟨Nat.le_of_ble_eq_true rfl, Nat.le_of_ble_eq_true rfl⟩ ⟨Nat.le_of_ble_eq_true rfl, Nat.le_of_ble_eq_true rfl⟩ dX6_fault_113 (Nat.le_of_ble_eq_true rfl) 0 rfl rfl rfl (by decide +kernel) (fun _ => rfl) ([]) rfl (fun _ => rfl) 8 (fun _ => rfl) (by decide +kernel) (by decide +kernel) (fun _ _ => ?_)
                refine J_st (st' := [.int 0]) rfl ?_
                refine J_ws (ws' := mdW G mo σ kf tf H sf (upN x.2.2.1 (mrNum xf tl x.2.1) (letC xf tl (mrPos xf tl x.2.1))) xf hn ik tl (mrPos xf tl x.2.1 + 1) (halfN xf tl) (nI (max x.2.2.2 (mrNum xf tl x.2.1 + 1)) - 1)) rfl ?_
                refine J_istore_n C [(1, .int 0), (0, .ref (mo 0))] (by decide) rfl dX6_fault_116 ?_
                refine J_goto C 94 (by decide) dX6_fault_117 ?_
                refine J_iload_n C rfl dX6_fault_94 ?_
                refine J_if_eq C 120 (by decide) dX6_fault_95 (fun _ => ?_) (fun h => absurd h (by decide))
                refine J_aload_n C rfl dX6_fault_120 ?_
                refine J_get C 0 10 in6 rfl rfl (by decide) k585 rfl dX6_fault_121 ?_
                refine J_aload_n C rfl dX6_fault_124 ?_
                refine J_get C 0 9 in6 rfl rfl (by decide) k584 rfl dX6_fault_125 ?_
                refine J_icmp_ne C 143 (by decide) dX6_fault_128 (fun c128 => ?_) (fun c128 => ?_)
                · skip
                  have c128 := cv_ne_t (a := (mrPos xf tl x.2.1 + 1)) (b := tl) (by omega) (by omega) c128
                  refine J_aload_n C rfl dX6_fault_143 ?_
                  refine J_get C 0 10 in6 rfl rfl (by decide) k585 rfl dX6_fault_144 ?_
                  have hpe : psF xf tl = (1, mrPos xf tl x.2.1 + 1, upN x.2.2.1 (mrNum xf tl x.2.1) (letC xf tl (mrPos xf tl x.2.1)), max x.2.2.2 (mrNum xf tl x.2.1 + 1)) := by rw [← hx5, show 60 - i3 = (59 - i3) + 1 by omega, pmF_s, if_pos hok, if_neg (by omega), if_neg (by omega)]
                  exact J_zret C hr rfl dX6_fault_147 () (by rw [hpe] <;> rfl) trivial (by rw [hpe] <;> rfl)
                · skip
                  have c128 := cv_ne_f (a := (mrPos xf tl x.2.1 + 1)) (b := tl) (by omega) (by omega) c128
                  refine J_aload_n C rfl dX6_fault_131 ?_
                  refine J_get C 0 11 in6 rfl rfl (by decide) k586 rfl dX6_fault_132 ?_
                  refine J_if_le C 143 (by decide) dX6_fault_135 (fun h => absurd (cv_le_t (a := (halfN xf tl)) (b := 0) (by omega) (by omega) h) (by omega)) (fun c135 => ?_)
                  refine J_bipush C (-5) (by decide) dX6_fault_138 ?_
                  refine J_goto C 147 (by decide) dX6_fault_140 ?_
                  have hpe : psF xf tl = (0, tl, upN x.2.2.1 (mrNum xf tl x.2.1) (letC xf tl (mrPos xf tl x.2.1)), max x.2.2.2 (mrNum xf tl x.2.1 + 1)) := by rw [← hx5, show 60 - i3 = (59 - i3) + 1 by omega, pmF_s, if_pos hok, if_pos (by omega)]
                  exact J_zret C hr rfl dX6_fault_147 () (by rw [hpe] <;> rfl) trivial (by rw [hpe, show mrPos xf tl x.2.1 + 1 = tl from by omega] <;> rfl)
            · skip
              refine J_aload_n C rfl dX6_fault_98 ?_
              refine J_callV (as := []) (rest := []) C (ct_mMisN l G mo σ kf tf H sf x.2.2.1 xf hn ik tl x.2.1 (halfN xf tl) (nI x.2.2.2 - 1) x.2.2.2 htl (by omega) hx hx4 rfl hok) (fun u => mdW G mo σ kf tf H sf x.2.2.1 xf hn ik tl (mrBad xf tl x.2.1) (halfN xf tl) (nI x.2.2.2 - 1)) [0, 1, 2, 3, 4, 5, 6, 7] [] 0 k634 k636 k12 k38 k637 rfl (by decide +kernel) ⟨Nat.le_of_ble_eq_true rfl, Nat.le_of_ble_eq_true rfl⟩ ⟨Nat.le_of_ble_eq_true rfl, Nat.le_of_ble_eq_true rfl⟩ dX6_fault_99 (Nat.le_of_ble_eq_true rfl) 0 rfl rfl rfl (by decide +kernel) (fun _ => rfl) ([]) rfl (fun _ => rfl) 8 (fun _ => rfl) (by decide +kernel) (by decide +kernel) (fun _ _ => ?_)
              refine J_st (st' := [.int 0]) rfl ?_
              refine J_ws (ws' := mdW G mo σ kf tf H sf x.2.2.1 xf hn ik tl (mrBad xf tl x.2.1) (halfN xf tl) (nI x.2.2.2 - 1)) rfl ?_
              refine J_if_ne C 110 (by decide) dX6_fault_102 (fun h => absurd h (by decide)) (fun _ => ?_)
              refine J_aload_n C rfl dX6_fault_105 ?_
              refine J_get C 0 10 in6 rfl rfl (by decide) k585 rfl dX6_fault_106 ?_
              have hpe : psF xf tl = (1, mrBad xf tl x.2.1, x.2.2.1, x.2.2.2) := by rw [← hx5, show 60 - i3 = (59 - i3) + 1 by omega, pmF_s, if_neg hok]
              exact J_zret C hr rfl dX6_fault_109 () (by rw [hpe] <;> rfl) trivial (by rw [hpe] <;> rfl)
          · skip
            refine J_aload_n C rfl dX6_fault_79 ?_
            refine J_bipush C 33 (by decide) dX6_fault_80 ?_
            refine J_callV (as := [.int 33]) (rest := []) C (ct_takesN l G mo σ kf tf H sf (fun _ => 0) xf hn ik tl (halfN xf tl) (halfN xf tl) (-1) 33 htl (by omega) hx (by decide) hs) (fun u => mdW G mo σ kf tf H sf (fun _ => 0) xf hn ik tl ((halfN xf tl) + 0) (halfN xf tl) (-1)) [0, 1, 2, 3, 4, 5, 6, 7] [] 1 k630 k632 k11 k38 k633 rfl (by decide +kernel) ⟨Nat.le_of_ble_eq_true rfl, Nat.le_of_ble_eq_true rfl⟩ ⟨Nat.le_of_ble_eq_true rfl, Nat.le_of_ble_eq_true rfl⟩ dX6_fault_82 (Nat.le_of_ble_eq_true rfl) 0 rfl rfl rfl (by decide +kernel) (fun _ => rfl) ([]) rfl (fun _ => rfl) 8 (fun _ => rfl) (by decide +kernel) (by decide +kernel) (fun _ _ => ?_)
            refine J_st (st' := [.int 0]) rfl ?_
            refine J_ws (ws' := mdW G mo σ kf tf H sf (fun _ => 0) xf hn ik tl (halfN xf tl) (halfN xf tl) (-1)) rfl ?_
            refine J_if_eq C 92 (by decide) dX6_fault_85 (fun _ => ?_) (fun h => absurd h (by decide))
            refine J_iconst C 0 (by decide) dX6_fault_92 ?_
            refine J_istore_n C [(1, .int 0), (0, .ref (mo 0))] (by decide) rfl dX6_fault_93 ?_
            refine J_iload_n C rfl dX6_fault_94 ?_
            refine J_if_eq C 120 (by decide) dX6_fault_95 (fun _ => ?_) (fun h => absurd h (by decide))
            refine J_aload_n C rfl dX6_fault_120 ?_
            refine J_get C 0 10 in6 rfl rfl (by decide) k585 rfl dX6_fault_121 ?_
            refine J_aload_n C rfl dX6_fault_124 ?_
            refine J_get C 0 9 in6 rfl rfl (by decide) k584 rfl dX6_fault_125 ?_
            refine J_icmp_ne C 143 (by decide) dX6_fault_128 (fun c128 => ?_) (fun c128 => ?_)
            · skip
              have c128 := cv_ne_t (a := (halfN xf tl)) (b := tl) (by omega) (by omega) c128
              refine J_aload_n C rfl dX6_fault_143 ?_
              refine J_get C 0 10 in6 rfl rfl (by decide) k585 rfl dX6_fault_144 ?_
              have hpe : psF xf tl = (1, halfN xf tl, (fun _ => 0), 0) := by unfold psF; rw [if_neg (by omega), if_neg (by omega), if_neg (by omega)]
              exact J_zret C hr rfl dX6_fault_147 () (by rw [hpe] <;> rfl) trivial (by rw [hpe] <;> rfl)
            · skip
              have c128 := cv_ne_f (a := (halfN xf tl)) (b := tl) (by omega) (by omega) c128
              refine J_aload_n C rfl dX6_fault_131 ?_
              refine J_get C 0 11 in6 rfl rfl (by decide) k586 rfl dX6_fault_132 ?_
              refine J_if_le C 143 (by decide) dX6_fault_135 (fun h => absurd (cv_le_t (a := (halfN xf tl)) (b := 0) (by omega) (by omega) h) (by omega)) (fun c135 => ?_)
              refine J_bipush C (-5) (by decide) dX6_fault_138 ?_
              refine J_goto C 147 (by decide) dX6_fault_140 ?_
              have hpe : psF xf tl = (0, tl, (fun _ => 0), 0) := by unfold psF; rw [if_neg (by omega), if_pos (by omega)]
              exact J_zret C hr rfl dX6_fault_147 () (by rw [hpe] <;> rfl) trivial (by rw [hpe, show halfN xf tl = tl from by omega] <;> rfl)
  · skip
    have c15 := cv_ge_f (a := i) (b := 40) (by omega) (by omega) c15
    refine J_aload_n C rfl dX6_fault_18 ?_
    refine J_get C 0 7 in6 rfl rfl (by decide) k582 rfl dX6_fault_19 ?_
    refine J_iload_n C rfl dX6_fault_22 ?_
    refine J_iconst C 0 (by decide) dX6_fault_23 ?_
    refine J_iast C 6 ([(mo 0, .inr (6, [.ref (mo 1), .ref (mo 2), .ref (mo 3), .ref (mo 4), .int (nI hn), .ref (mo 5), .int (nI ik), .ref (mo 6), .ref (mo 7), .int (nI tl), .int (nI 0), .int (nI rd), .int (-1)])), (mo 1, .inl (G.2.1, 246, .inl (fun q => nI ((rowM σ) q)))), (mo 2, .inl (G.2.1, 246, .inl (fun q => nI (kf q)))), (mo 3, .inl (G.2.1, 246, .inl (fun q => nI (tf q)))), (mo 4, .inl (G.2.1, 984, .inl (fun q => nI (H q)))), (mo 5, .inl (G.2.1, 246, .inl (fun q => nI (sf q)))), (mo 6, .inl (G.2.1, 40, .inl (upd (fun q => nI ((cpM i (fun _ => 0) df) q)) i 0))), (mo 7, .inl (G.2.1, 60, .inl (fun q => nI (xf q))))]) rfl i rfl (by omega) (Nat.le_of_ble_eq_true rfl) rfl dX6_fault_24 ?_
    refine J_arr 6 (fun q => nI (if q = i then 0 else (cpM i (fun _ => 0) df) q)) rfl (fun q _ => congrFun (upd_nI _ _ _) q) ?_
    refine J_ws (ws' := mdW G mo σ kf tf H sf (fun q => if q = i then 0 else (cpM i (fun _ => 0) df) q) xf hn ik tl 0 rd (-1)) rfl ?_
    refine J_iinc C (nI (i + 1)) [(1, .int (nI (i + 1))), (0, .ref (mo 0))] 1 rfl (by first | exact nI_add _ 1 | rfl) (by decide) rfl dX6_fault_25 ?_
    refine J_goto C 12 (by decide) dX6_fault_28 ?_
    rw [cpM_nextZ]
    refine J_lvp [1, 0] [(0, .ref (mo 0)), (1, .int (nI (i + 1)))] rfl ?_
    exact ih (i + 1) (by omega) (by omega)
