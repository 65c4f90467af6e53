set_option maxHeartbeats 4000000 in
set_option maxRecDepth 100000 in
theorem ct_isAt (l : Launch) (G : GT) (b : Nat → Nat) (t : Nat → Nat) (L : Nat) (lt ms : Nat → Nat) (hf : Nat) (fa : Int32) (cu : Nat)  (hL : L ≤ 60) (hcu : cu ≤ 100) : Ct (S := Unit) l G NoX yX2_isAtCharacter (Wy yX2_isAtCharacter cX2_isAtCharacter 1 ((Option.some Jvm.ClassFile.FieldType.boolean))) { frames := 0, cells := 0, slots := 0, locals := 0 } [.ref (b 0)] (txW G b t L lt ms hf fa cu) (fun u => True) (fun u => some (.int (if cu < L then 1 else 0))) (fun u => txW G b t L lt ms hf fa cu) := by
  refine Ct.of (by decide) (Nat.le_of_ble_eq_true rfl) (fun p e s m args below meth c C hr hnm hX => ?_)
  refine J_aload_n C rfl dX2_isAtCharacter_0 ?_
  refine J_get C 0 6 in2 rfl rfl (by decide) k200 rfl dX2_isAtCharacter_1 ?_
  refine J_if_lt C 34 (by decide) dX2_isAtCharacter_4 (fun h => absurd h (nI_pos (by omega))) (fun _ => ?_)
  refine J_aload_n C rfl dX2_isAtCharacter_7 ?_
  refine J_get C 0 6 in2 rfl rfl (by decide) k200 rfl dX2_isAtCharacter_8 ?_
  refine J_aload_n C rfl dX2_isAtCharacter_11 ?_
  refine J_get C 0 3 in2 rfl rfl (by decide) k193 rfl dX2_isAtCharacter_12 ?_
  refine J_icmp_ge C 34 (by decide) dX2_isAtCharacter_15 (fun c15 => ?_) (fun c15 => ?_)
  · skip
    have c15 := cv_ge_t (a := cu) (b := L) (by omega) (by omega) c15
    refine J_iconst C 0 (by decide) dX2_isAtCharacter_34 ?_
    exact J_zret C hr rfl dX2_isAtCharacter_35 () (by rw [if_neg (by omega)]) trivial rfl
  · skip
    have c15 := cv_ge_f (a := cu) (b := L) (by omega) (by omega) c15
    refine J_aload_n C rfl dX2_isAtCharacter_18 ?_
    refine J_get C 0 6 in2 rfl rfl (by decide) k200 rfl dX2_isAtCharacter_19 ?_
    refine J_aload_n C rfl dX2_isAtCharacter_22 ?_
    refine J_get C 0 0 in2 rfl rfl (by decide) k188 rfl dX2_isAtCharacter_23 ?_
    refine J_clen C 1 rfl dX2_isAtCharacter_26 ?_
    refine J_icmp_ge C 34 (by decide) dX2_isAtCharacter_27 (fun h => absurd (cv_ge_t (a := cu) (b := 60) (by omega) (by omega) h) (by omega)) (fun c27 => ?_)
    refine J_iconst C 1 (by decide) dX2_isAtCharacter_30 ?_
    refine J_goto C 35 (by decide) dX2_isAtCharacter_31 ?_
    exact J_zret C hr rfl dX2_isAtCharacter_35 () (by rw [if_pos (by omega)]) trivial rfl

set_option maxHeartbeats 4000000 in
set_option maxRecDepth 100000 in
theorem ct_letterAt (l : Launch) (G : GT) (b : Nat → Nat) (t : Nat → Nat) (L : Nat) (lt ms : Nat → Nat) (hf : Nat) (fa : Int32) (cu : Nat)  (hL : L ≤ 60) (hcu : cu ≤ 100) (ht : ∀ q, t q < 65536) : Ct (S := Unit) l G NoX yX2_letterAtCursor (Wy yX2_letterAtCursor cX2_letterAtCursor 2 ((Option.some Jvm.ClassFile.FieldType.int))) { frames := 1, cells := 0, slots := 0, locals := 20 } [.ref (b 0)] (txW G b t L lt ms hf fa cu) (fun u => True) (fun u => some (.int (nI (letC t L cu)))) (fun u => txW G b t L lt ms hf fa cu) := by
  refine Ct.of (by decide) (Nat.le_of_ble_eq_true rfl) (fun p e s m args below meth c C hr hnm hX => ?_)
  have htc := ht cu
  refine J_aload_n C rfl dX2_letterAtCursor_0 ?_
  refine J_callV (as := []) (rest := []) C (ct_isAt l G b t L lt ms hf fa cu hL (by omega)) (fun u => txW G b t L lt ms hf fa cu) [0, 1, 2, 3] [] 0 k278 k280 k2 k15 k281 rfl (by decide +kernel) ⟨Nat.le_of_ble_eq_true rfl, Nat.le_of_ble_eq_true rfl⟩ ⟨Nat.le_of_ble_eq_true rfl, Nat.le_of_ble_eq_true rfl⟩ dX2_letterAtCursor_1 (Nat.le_of_ble_eq_true rfl) 0 rfl rfl rfl (by decide +kernel) (fun _ => rfl) ([]) rfl (fun _ => rfl) 4 (fun _ => rfl) (by decide +kernel) (by decide +kernel) (fun _ _ => ?_)
  refine J_st (st' := [.int (if cu < L then 1 else 0)]) rfl ?_
  refine J_if_ne C 9 (by decide) dX2_letterAtCursor_4 (fun c4 => ?_) (fun c4 => ?_)
  · skip
    have c4 : cu < L := Classical.byContradiction fun q => c4 (by rw [if_neg q])
    refine J_aload_n C rfl dX2_letterAtCursor_9 ?_
    refine J_get C 0 0 in2 rfl rfl (by decide) k188 rfl dX2_letterAtCursor_10 ?_
    refine J_aload_n C rfl dX2_letterAtCursor_13 ?_
    refine J_get C 0 6 in2 rfl rfl (by decide) k200 rfl dX2_letterAtCursor_14 ?_
    refine J_cald C 1 rfl cu rfl (by omega) (Nat.le_of_ble_eq_true rfl) dX2_letterAtCursor_17 ?_
    refine J_istore_n C [(1, .int (nI (t cu))), (0, .ref (b 0))] (by decide) rfl dX2_letterAtCursor_18 ?_
    refine J_iload_n C rfl dX2_letterAtCursor_19 ?_
    refine J_bipush C 97 (by decide) dX2_letterAtCursor_20 ?_
    refine J_icmp_lt C 40 (by decide) dX2_letterAtCursor_22 (fun c22 => ?_) (fun c22 => ?_)
    · skip
      have c22 := cv_lt_t (a := (t cu)) (b := 97) (by omega) (by omega) c22
      refine J_iconst C 0 (by decide) dX2_letterAtCursor_40 ?_
      exact J_zret C hr rfl dX2_letterAtCursor_41 () (by rw [show letC t L cu = 0 from by unfold letC; rw [if_neg (by omega)]] <;> rfl) trivial rfl
    · skip
      have c22 := cv_lt_f (a := (t cu)) (b := 97) (by omega) (by omega) c22
      refine J_iload_n C rfl dX2_letterAtCursor_25 ?_
      refine J_bipush C 122 (by decide) dX2_letterAtCursor_26 ?_
      refine J_icmp_gt C 40 (by decide) dX2_letterAtCursor_28 (fun c28 => ?_) (fun c28 => ?_)
      · skip
        have c28 := cv_gt_t (a := (t cu)) (b := 122) (by omega) (by omega) c28
        refine J_iconst C 0 (by decide) dX2_letterAtCursor_40 ?_
        exact J_zret C hr rfl dX2_letterAtCursor_41 () (by rw [show letC t L cu = 0 from by unfold letC; rw [if_neg (by omega)]] <;> rfl) trivial rfl
      · skip
        have c28 := cv_gt_f (a := (t cu)) (b := 122) (by omega) (by omega) c28
        refine J_iload_n C rfl dX2_letterAtCursor_31 ?_
        refine J_bipush C 97 (by decide) dX2_letterAtCursor_32 ?_
        refine J_isub C dX2_letterAtCursor_34 ?_
        refine J_i (pk_sub (a := t cu) (b := 97) (by omega) : ((nI (t cu)) - 97 : Int32) = (nI (t cu - 97))) ?_
        refine J_iconst C 1 (by decide) dX2_letterAtCursor_35 ?_
        refine J_iadd C dX2_letterAtCursor_36 ?_
        refine J_i (nI_add (t cu - 97) 1 : ((nI (t cu - 97)) + 1 : Int32) = (nI ((t cu - 97) + 1))) ?_
        refine J_goto C 41 (by decide) dX2_letterAtCursor_37 ?_
        exact J_zret C hr rfl dX2_letterAtCursor_41 () (by rw [show letC t L cu = (t cu - 97) + 1 from by unfold letC; rw [if_pos (by omega)]; omega] <;> rfl) trivial rfl
  · skip
    have c4 : ¬ (cu < L) := fun q => by rw [if_pos q] at c4; exact absurd c4 (by decide)
    refine J_iconst C 0 (by decide) dX2_letterAtCursor_7 ?_
    exact J_zret C hr rfl dX2_letterAtCursor_8 () (by rw [show letC t L cu = 0 from by unfold letC; rw [if_neg (by omega)]] <;> rfl) trivial rfl

set_option maxHeartbeats 4000000 in
set_option maxRecDepth 100000 in
theorem ct_digitAt (l : Launch) (G : GT) (b : Nat → Nat) (t : Nat → Nat) (L : Nat) (lt ms : Nat → Nat) (hf : Nat) (fa : Int32) (cu : Nat)  (hL : L ≤ 60) (hcu : cu ≤ 100) (ht : ∀ q, t q < 65536) : Ct (S := Unit) l G NoX yX2_digitAtCursor (Wy yX2_digitAtCursor cX2_digitAtCursor 2 ((Option.some Jvm.ClassFile.FieldType.int))) { frames := 1, cells := 0, slots := 0, locals := 20 } [.ref (b 0)] (txW G b t L lt ms hf fa cu) (fun u => True) (fun u => some (.int (digC t L cu))) (fun u => txW G b t L lt ms hf fa cu) := by
  refine Ct.of (by decide) (Nat.le_of_ble_eq_true rfl) (fun p e s m args below meth c C hr hnm hX => ?_)
  have htc := ht cu
  refine J_aload_n C rfl dX2_digitAtCursor_0 ?_
  refine J_callV (as := []) (rest := []) C (ct_isAt l G b t L lt ms hf fa cu hL (by omega)) (fun u => txW G b t L lt ms hf fa cu) [0, 1, 2, 3] [] 0 k278 k280 k2 k15 k281 rfl (by decide +kernel) ⟨Nat.le_of_ble_eq_true rfl, Nat.le_of_ble_eq_true rfl⟩ ⟨Nat.le_of_ble_eq_true rfl, Nat.le_of_ble_eq_true rfl⟩ dX2_digitAtCursor_1 (Nat.le_of_ble_eq_true rfl) 0 rfl rfl rfl (by decide +kernel) (fun _ => rfl) ([]) rfl (fun _ => rfl) 4 (fun _ => rfl) (by decide +kernel) (by decide +kernel) (fun _ _ => ?_)
  refine J_st (st' := [.int (if cu < L then 1 else 0)]) rfl ?_
  refine J_if_ne C 9 (by decide) dX2_digitAtCursor_4 (fun c4 => ?_) (fun c4 => ?_)
  · skip
    have c4 : cu < L := Classical.byContradiction fun q => c4 (by rw [if_neg q])
    refine J_aload_n C rfl dX2_digitAtCursor_9 ?_
    refine J_get C 0 0 in2 rfl rfl (by decide) k188 rfl dX2_digitAtCursor_10 ?_
    refine J_aload_n C rfl dX2_digitAtCursor_13 ?_
    refine J_get C 0 6 in2 rfl rfl (by decide) k200 rfl dX2_digitAtCursor_14 ?_
    refine J_cald C 1 rfl cu rfl (by omega) (Nat.le_of_ble_eq_true rfl) dX2_digitAtCursor_17 ?_
    refine J_istore_n C [(1, .int (nI (t cu))), (0, .ref (b 0))] (by decide) rfl dX2_digitAtCursor_18 ?_
    refine J_iload_n C rfl dX2_digitAtCursor_19 ?_
    refine J_bipush C 48 (by decide) dX2_digitAtCursor_20 ?_
    refine J_icmp_lt C 38 (by decide) dX2_digitAtCursor_22 (fun c22 => ?_) (fun c22 => ?_)
    · skip
      have c22 := cv_lt_t (a := (t cu)) (b := 48) (by omega) (by omega) c22
      refine J_iconst C (-1) (by decide) dX2_digitAtCursor_38 ?_
      exact J_zret C hr rfl dX2_digitAtCursor_39 () (by rw [show digC t L cu = (-1) from by unfold digC; rw [if_neg (by omega)]]) trivial rfl
    · skip
      have c22 := cv_lt_f (a := (t cu)) (b := 48) (by omega) (by omega) c22
      refine J_iload_n C rfl dX2_digitAtCursor_25 ?_
      refine J_bipush C 57 (by decide) dX2_digitAtCursor_26 ?_
      refine J_icmp_gt C 38 (by decide) dX2_digitAtCursor_28 (fun c28 => ?_) (fun c28 => ?_)
      · skip
        have c28 := cv_gt_t (a := (t cu)) (b := 57) (by omega) (by omega) c28
        refine J_iconst C (-1) (by decide) dX2_digitAtCursor_38 ?_
        exact J_zret C hr rfl dX2_digitAtCursor_39 () (by rw [show digC t L cu = (-1) from by unfold digC; rw [if_neg (by omega)]]) trivial rfl
      · skip
        have c28 := cv_gt_f (a := (t cu)) (b := 57) (by omega) (by omega) c28
        refine J_iload_n C rfl dX2_digitAtCursor_31 ?_
        refine J_bipush C 48 (by decide) dX2_digitAtCursor_32 ?_
        refine J_isub C dX2_digitAtCursor_34 ?_
        refine J_i (pk_sub (a := t cu) (b := 48) (by omega) : ((nI (t cu)) - 48 : Int32) = (nI (t cu - 48))) ?_
        refine J_goto C 39 (by decide) dX2_digitAtCursor_35 ?_
        exact J_zret C hr rfl dX2_digitAtCursor_39 () (by rw [show digC t L cu = nI (t cu - 48) from by unfold digC; rw [if_pos (by omega)]]) trivial rfl
  · skip
    have c4 : ¬ (cu < L) := fun q => by rw [if_pos q] at c4; exact absurd c4 (by decide)
    refine J_iconst C (-1) (by decide) dX2_digitAtCursor_7 ?_
    exact J_zret C hr rfl dX2_digitAtCursor_8 () (by rw [show digC t L cu = (-1) from by unfold digC; rw [if_neg (by omega)]]) trivial rfl

set_option maxHeartbeats 4000000 in
set_option maxRecDepth 100000 in
theorem ct_skipY (l : Launch) (G : GT) (b : Nat → Nat) (t : Nat → Nat) (L : Nat) (lt ms : Nat → Nat) (hf : Nat) (fa : Int32) (cu : Nat) (x : Nat) (hL : L ≤ 60) (hcu : cu ≤ 100) (ht : ∀ q, t q < 65536) (hx : x < 65536) (hs : cu < L ∧ t cu = x) : Ct (S := Unit) l G NoX yX2_skip (Wy yX2_skip cX2_skip 2 ((Option.some Jvm.ClassFile.FieldType.boolean))) { frames := 1, cells := 0, slots := 0, locals := 20 } [.ref (b 0), .int (nI x)] (txW G b t L lt ms hf fa cu) (fun u => True) (fun u => some (.int 1)) (fun u => txW G b t L lt ms hf fa (cu + 1)) := by
  refine Ct.of (by decide) (Nat.le_of_ble_eq_true rfl) (fun p e s m args below meth c C hr hnm hX => ?_)
  have htc := ht cu
  refine J_aload_n C rfl dX2_skip_0 ?_
  refine J_callV (as := []) (rest := []) C (ct_isAt l G b t L lt ms hf fa cu hL (by omega)) (fun u => txW G b t L lt ms hf fa cu) [0, 1, 2, 3] [] 0 k278 k280 k2 k15 k281 rfl (by decide +kernel) ⟨Nat.le_of_ble_eq_true rfl, Nat.le_of_ble_eq_true rfl⟩ ⟨Nat.le_of_ble_eq_true rfl, Nat.le_of_ble_eq_true rfl⟩ dX2_skip_1 (Nat.le_of_ble_eq_true rfl) 0 rfl rfl rfl (by decide +kernel) (fun _ => rfl) ([]) rfl (fun _ => rfl) 4 (fun _ => rfl) (by decide +kernel) (by decide +kernel) (fun _ _ => ?_)
  refine J_st (st' := [.int (if cu < L then 1 else 0)]) rfl ?_
  refine J_if_eq C 20 (by decide) dX2_skip_4 (fun h => absurd h (fun q => by rw [if_pos hs.1] at q; exact absurd q (by decide))) (fun _ => ?_)
  refine J_aload_n C rfl dX2_skip_7 ?_
  refine J_get C 0 0 in2 rfl rfl (by decide) k188 rfl dX2_skip_8 ?_
  refine J_aload_n C rfl dX2_skip_11 ?_
  refine J_get C 0 6 in2 rfl rfl (by decide) k200 rfl dX2_skip_12 ?_
  refine J_cald C 1 rfl cu rfl (by omega) (Nat.le_of_ble_eq_true rfl) dX2_skip_15 ?_
  refine J_iload_n C rfl dX2_skip_16 ?_
  refine J_icmp_eq C 22 (by decide) dX2_skip_17 (fun c17 => ?_) (fun h => absurd (cv_eq_f (a := (t cu)) (b := x) (by omega) (by omega) h) (by omega))
  refine J_aload_n C rfl dX2_skip_22 ?_
  refine J_dup C rfl dX2_skip_23 ?_
  refine J_get C 0 6 in2 rfl rfl (by decide) k200 rfl dX2_skip_24 ?_
  refine J_iconst C 1 (by decide) dX2_skip_27 ?_
  refine J_iadd C dX2_skip_28 ?_
  refine J_i (nI_add cu 1 : ((nI cu) + 1 : Int32) = (nI (cu + 1))) ?_
  refine J_put C 0 6 in2 tyX2 tyX2_ok nmX2 ([(b 0, .inr (2, [.ref (b 1), .ref (b 2), .ref (b 3), .int (nI L), .int (nI hf), .int fa, .int (nI (cu + 1))])), (b 1, .inl (G.2.2.1, 60, .inl (fun q => nI (t q)))), (b 2, .inl (G.2.1, 20, .inl (fun q => nI (lt q)))), (b 3, .inl (G.2.1, 40, .inl (fun q => nI (ms q))))]) rfl rfl (by decide) k200 rfl rfl rfl (Nat.le_of_ble_eq_true rfl) rfl dX2_skip_29 ?_
  refine J_iconst C 1 (by decide) dX2_skip_32 ?_
  exact J_zret C hr rfl dX2_skip_33 () rfl trivial rfl

set_option maxHeartbeats 4000000 in
set_option maxRecDepth 100000 in
theorem ct_skipN (l : Launch) (G : GT) (b : Nat → Nat) (t : Nat → Nat) (L : Nat) (lt ms : Nat → Nat) (hf : Nat) (fa : Int32) (cu : Nat) (x : Nat) (hL : L ≤ 60) (hcu : cu ≤ 100) (ht : ∀ q, t q < 65536) (hx : x < 65536) (hs : ¬ (cu < L ∧ t cu = x)) : Ct (S := Unit) l G NoX yX2_skip (Wy yX2_skip cX2_skip 2 ((Option.some Jvm.ClassFile.FieldType.boolean))) { frames := 1, cells := 0, slots := 0, locals := 20 } [.ref (b 0), .int (nI x)] (txW G b t L lt ms hf fa cu) (fun u => True) (fun u => some (.int 0)) (fun u => txW G b t L lt ms hf fa cu) := by
  refine Ct.of (by decide) (Nat.le_of_ble_eq_true rfl) (fun p e s m args below meth c C hr hnm hX => ?_)
  have htc := ht cu
  refine J_aload_n C rfl dX2_skip_0 ?_
  refine J_callV (as := []) (rest := []) C (ct_isAt l G b t L lt ms hf fa cu hL (by omega)) (fun u => txW G b t L lt ms hf fa cu) [0, 1, 2, 3] [] 0 k278 k280 k2 k15 k281 rfl (by decide +kernel) ⟨Nat.le_of_ble_eq_true rfl, Nat.le_of_ble_eq_true rfl⟩ ⟨Nat.le_of_ble_eq_true rfl, Nat.le_of_ble_eq_true rfl⟩ dX2_skip_1 (Nat.le_of_ble_eq_true rfl) 0 rfl rfl rfl (by decide +kernel) (fun _ => rfl) ([]) rfl (fun _ => rfl) 4 (fun _ => rfl) (by decide +kernel) (by decide +kernel) (fun _ _ => ?_)
  refine J_st (st' := [.int (if cu < L then 1 else 0)]) rfl ?_
  refine J_if_eq C 20 (by decide) dX2_skip_4 (fun c4 => ?_) (fun c4 => ?_)
  · skip
    have c4 : ¬ (cu < L) := fun q => by rw [if_pos q] at c4; exact absurd c4 (by decide)
    refine J_iconst C 0 (by decide) dX2_skip_20 ?_
    exact J_zret C hr rfl dX2_skip_21 () rfl trivial rfl
  · skip
    have c4 : cu < L := Classical.byContradiction fun q => c4 (by rw [if_neg q])
    refine J_aload_n C rfl dX2_skip_7 ?_
    refine J_get C 0 0 in2 rfl rfl (by decide) k188 rfl dX2_skip_8 ?_
    refine J_aload_n C rfl dX2_skip_11 ?_
    refine J_get C 0 6 in2 rfl rfl (by decide) k200 rfl dX2_skip_12 ?_
    refine J_cald C 1 rfl cu rfl (by omega) (Nat.le_of_ble_eq_true rfl) dX2_skip_15 ?_
    refine J_iload_n C rfl dX2_skip_16 ?_
    refine J_icmp_eq C 22 (by decide) dX2_skip_17 (fun h => absurd (cv_eq_t (a := (t cu)) (b := x) (by omega) (by omega) h) (by omega)) (fun c17 => ?_)
    refine J_iconst C 0 (by decide) dX2_skip_20 ?_
    exact J_zret C hr rfl dX2_skip_21 () rfl trivial rfl

set_option maxHeartbeats 4000000 in
set_option maxRecDepth 100000 in
theorem ct_readHalf (l : Launch) (G : GT) (b : Nat → Nat) (t : Nat → Nat) (L : Nat) (lt ms : Nat → Nat) (hf : Nat) (fa : Int32) (cu : Nat)  (hL : L ≤ 60) (ht : ∀ q, t q < 65536) : Ct (S := Unit) l G NoX yX2_readHalf (Wy yX2_readHalf cX2_readHalf 3 ((Option.none : Option Jvm.ClassFile.FieldType))) { frames := 2, cells := 0, slots := 0, locals := 41 } [.ref (b 0)] (txW G b t L lt ms hf fa cu) (fun u => True) (fun u => none) (fun u => txW G b t L (fun q => if q < halfN t L then letC t L q else lt q) (fun _ => 0) (halfN t L) (-1) (halfN t L)) := by
  refine Ct.of (by decide) (Nat.le_of_ble_eq_true rfl) (fun p e s m args below meth c C hr hnm hX => ?_)
  refine J_aload_n C rfl dX2_readHalf_0 ?_
  refine J_iconst C 0 (by decide) dX2_readHalf_1 ?_
  refine J_put C 0 6 in2 tyX2 tyX2_ok nmX2 ([(b 0, .inr (2, [.ref (b 1), .ref (b 2), .ref (b 3), .int (nI L), .int (nI hf), .int fa, .int 0])), (b 1, .inl (G.2.2.1, 60, .inl (fun q => nI (t q)))), (b 2, .inl (G.2.1, 20, .inl (fun q => nI (lt q)))), (b 3, .inl (G.2.1, 40, .inl (fun q => nI (ms q))))]) rfl rfl (by decide) k200 rfl rfl rfl (Nat.le_of_ble_eq_true rfl) rfl dX2_readHalf_2 ?_
  refine J_aload_n C rfl dX2_readHalf_5 ?_
  refine J_iconst C 0 (by decide) dX2_readHalf_6 ?_
  refine J_put C 0 4 in2 tyX2 tyX2_ok nmX2 ([(b 0, .inr (2, [.ref (b 1), .ref (b 2), .ref (b 3), .int (nI L), .int 0, .int fa, .int 0])), (b 1, .inl (G.2.2.1, 60, .inl (fun q => nI (t q)))), (b 2, .inl (G.2.1, 20, .inl (fun q => nI (lt q)))), (b 3, .inl (G.2.1, 40, .inl (fun q => nI (ms q))))]) rfl rfl (by decide) k197 rfl rfl rfl (Nat.le_of_ble_eq_true rfl) rfl dX2_readHalf_7 ?_
  refine J_aload_n C rfl dX2_readHalf_10 ?_
  refine J_iconst C (-1) (by decide) dX2_readHalf_11 ?_
  refine J_put C 0 5 in2 tyX2 tyX2_ok nmX2 ([(b 0, .inr (2, [.ref (b 1), .ref (b 2), .ref (b 3), .int (nI L), .int 0, .int (-1), .int 0])), (b 1, .inl (G.2.2.1, 60, .inl (fun q => nI (t q)))), (b 2, .inl (G.2.1, 20, .inl (fun q => nI (lt q)))), (b 3, .inl (G.2.1, 40, .inl (fun q => nI (ms q))))]) rfl rfl (by decide) k199 rfl rfl rfl (Nat.le_of_ble_eq_true rfl) rfl dX2_readHalf_12 ?_
  refine J_aload_n C rfl dX2_readHalf_15 ?_
  refine J_get C 0 2 in2 rfl rfl (by decide) k191 rfl dX2_readHalf_16 ?_
  refine J_callSN (as := [.ref (b 3)]) (rest := []) C (ct_clearRow l G (b 3) 40 (fun q => nI (ms q)) (by decide)) (fun u => [(b 0, .inr (2, [.ref (b 1), .ref (b 2), .ref (b 3), .int (nI L), .int 0, .int (-1), .int 0])), (b 1, .inl (G.2.2.1, 60, .inl (fun q => nI (t q)))), (b 2, .inl (G.2.1, 20, .inl (fun q => nI (lt q)))), (b 3, .inl (G.2.1, 40, .inl (fun _ => nI 0)))]) [3] [0, 1, 2] 1 nmTwoScribes_PageText_46 k272 k10 k273 rfl (by decide +kernel) ⟨Nat.le_of_ble_eq_true rfl, Nat.le_of_ble_eq_true rfl⟩ ⟨Nat.le_of_ble_eq_true rfl, Nat.le_of_ble_eq_true rfl⟩ dX2_readHalf_19 (Nat.le_of_ble_eq_true rfl) rfl (by decide +kernel) (fun _ => rfl) ([(b 0, .inr (2, [.ref (b 1), .ref (b 2), .ref (b 3), .int (nI L), .int 0, .int (-1), .int 0])), (b 1, .inl (G.2.2.1, 60, .inl (fun q => nI (t q)))), (b 2, .inl (G.2.1, 20, .inl (fun q => nI (lt q))))]) rfl (fun _ => rfl) 4 (fun _ => rfl) (by decide +kernel) (by decide +kernel) (fun _ _ => ?_)
  refine J_st (st' := []) rfl ?_
  refine J_iconst C 0 (by decide) dX2_readHalf_22 ?_
  refine J_istore_n C [(1, .int 0), (0, .ref (b 0))] (by decide) rfl dX2_readHalf_23 ?_
  refine J_lvp [1, 0] [(0, .ref (b 0)), (1, .int 0)] rfl ?_
  refine J_ws (ws' := txW G b t L lt (fun _ => 0) 0 (-1) 0) rfl ?_
  refine J_loop (fun i => txW G b t L (fun q => if q < i then letC t L q else lt q) (fun _ => 0) i (-1) i) (fun i => [(0, .ref (b 0)), (1, .int (nI i))]) (fun i => i ≤ 20 ∧ hfF t L (20 - i) i = halfN t L) (fun i => 20 - i) (fun i hi ih => ?_) 0 ⟨Nat.zero_le _, rfl⟩ rfl rfl
  obtain ⟨hi1, hi2⟩ := hi
  have hlb := letC_le t L i
  refine J_iload_n C rfl dX2_readHalf_24 ?_
  refine J_bipush C 20 (by decide) dX2_readHalf_25 ?_
  refine J_icmp_ge C 75 (by decide) dX2_readHalf_27 (fun c27 => ?_) (fun c27 => ?_)
  · skip
    have c27 := cv_ge_t (a := i) (b := 20) (by omega) (by omega) c27
    exact J_vret C hr dX2_readHalf_75 () rfl trivial (by rw [show halfN t L = i from by rw [← hi2, show 20 - i = 0 by omega]; rfl])
  · skip
    have c27 := cv_ge_f (a := i) (b := 20) (by omega) (by omega) c27
    refine J_aload_n C rfl dX2_readHalf_30 ?_
    refine J_callV (as := []) (rest := []) C (ct_letterAt l G b t L (fun q => if q < i then letC t L q else lt q) (fun _ => 0) i (-1) i hL (by omega) ht) (fun u => txW G b t L (fun q => if q < i then letC t L q else lt q) (fun _ => 0) i (-1) i) [0, 1, 2, 3] [] 0 k274 k276 k1 k15 k277 rfl (by decide +kernel) ⟨Nat.le_of_ble_eq_true rfl, Nat.le_of_ble_eq_true rfl⟩ ⟨Nat.le_of_ble_eq_true rfl, Nat.le_of_ble_eq_true rfl⟩ dX2_readHalf_31 (Nat.le_of_ble_eq_true rfl) 0 rfl rfl rfl (by decide +kernel) (fun _ => rfl) ([]) rfl (fun _ => rfl) 4 (fun _ => rfl) (by decide +kernel) (by decide +kernel) (fun _ _ => ?_)
    refine J_st (st' := [.int (nI (letC t L i))]) rfl ?_
    refine J_istore_n C [(2, .int (nI (letC t L i))), (0, .ref (b 0)), (1, .int (nI i))] (by decide) rfl dX2_readHalf_34 ?_
    refine J_iload_n C rfl dX2_readHalf_35 ?_
    refine J_if_ne C 40 (by decide) dX2_readHalf_36 (fun c36 => ?_) (fun c36 => ?_)
    · skip
      have c36 := cv_ne_t (a := (letC t L i)) (b := 0) (by omega) (by omega) c36
      have hlz : ¬ letC t L i = 0 := c36
      refine J_aload_n C rfl dX2_readHalf_40 ?_
      refine J_get C 0 1 in2 rfl rfl (by decide) k189 rfl dX2_readHalf_41 ?_
      refine J_iload_n C rfl dX2_readHalf_44 ?_
      refine J_iload_n C rfl dX2_readHalf_45 ?_
      refine J_callSN (as := [.ref (b 2), .int (nI i), .int (nI (letC t L i))]) (rest := []) C (ct_putN l G (b 2) 20 (fun q => if q < i then letC t L q else lt q) i (letC t L i) (by omega) (by decide)) (fun u => [(b 0, .inr (2, [.ref (b 1), .ref (b 2), .ref (b 3), .int (nI L), .int (nI i), .int (-1), .int (nI i)])), (b 1, .inl (G.2.2.1, 60, .inl (fun q => nI (t q)))), (b 2, .inl (G.2.1, 20, .inl (fun q => nI (if q = i then letC t L i else if q < i then letC t L q else lt q)))), (b 3, .inl (G.2.1, 40, .inl (fun q => nI (0))))]) [2] [0, 1, 3] 3 nmTwoScribes_PageText_54 k283 k10 k284 rfl (by decide +kernel) ⟨Nat.le_of_ble_eq_true rfl, Nat.le_of_ble_eq_true rfl⟩ ⟨Nat.le_of_ble_eq_true rfl, Nat.le_of_ble_eq_true rfl⟩ dX2_readHalf_46 (Nat.le_of_ble_eq_true rfl) rfl (by decide +kernel) (fun _ => rfl) ([(b 0, .inr (2, [.ref (b 1), .ref (b 2), .ref (b 3), .int (nI L), .int (nI i), .int (-1), .int (nI i)])), (b 1, .inl (G.2.2.1, 60, .inl (fun q => nI (t q)))), (b 3, .inl (G.2.1, 40, .inl (fun q => nI (0))))]) rfl (fun _ => rfl) 4 (fun _ => rfl) (by decide +kernel) (by decide +kernel) (fun _ _ => ?_)
      refine J_st (st' := []) rfl ?_
      refine J_aload_n C rfl dX2_readHalf_49 ?_
      refine J_dup C rfl dX2_readHalf_50 ?_
      refine J_get C 0 4 in2 rfl rfl (by decide) k197 rfl dX2_readHalf_51 ?_
      refine J_iconst C 1 (by decide) dX2_readHalf_54 ?_
      refine J_iadd C dX2_readHalf_55 ?_
      refine J_i (nI_add i 1 : ((nI i) + 1 : Int32) = (nI (i + 1))) ?_
      refine J_put C 0 4 in2 tyX2 tyX2_ok nmX2 ([(b 0, .inr (2, [.ref (b 1), .ref (b 2), .ref (b 3), .int (nI L), .int (nI (i + 1)), .int (-1), .int (nI i)])), (b 1, .inl (G.2.2.1, 60, .inl (fun q => nI (t q)))), (b 2, .inl (G.2.1, 20, .inl (fun q => nI (if q = i then letC t L i else if q < i then letC t L q else lt q)))), (b 3, .inl (G.2.1, 40, .inl (fun q => nI (0))))]) rfl rfl (by decide) k197 rfl rfl rfl (Nat.le_of_ble_eq_true rfl) rfl dX2_readHalf_56 ?_
      refine J_aload_n C rfl dX2_readHalf_59 ?_
      refine J_dup C rfl dX2_readHalf_60 ?_
      refine J_get C 0 6 in2 rfl rfl (by decide) k200 rfl dX2_readHalf_61 ?_
      refine J_iconst C 1 (by decide) dX2_readHalf_64 ?_
      refine J_iadd C dX2_readHalf_65 ?_
      refine J_i (nI_add i 1 : ((nI i) + 1 : Int32) = (nI (i + 1))) ?_
      refine J_put C 0 6 in2 tyX2 tyX2_ok nmX2 ([(b 0, .inr (2, [.ref (b 1), .ref (b 2), .ref (b 3), .int (nI L), .int (nI (i + 1)), .int (-1), .int (nI (i + 1))])), (b 1, .inl (G.2.2.1, 60, .inl (fun q => nI (t q)))), (b 2, .inl (G.2.1, 20, .inl (fun q => nI (if q = i then letC t L i else if q < i then letC t L q else lt q)))), (b 3, .inl (G.2.1, 40, .inl (fun q => nI (0))))]) rfl rfl (by decide) k200 rfl rfl rfl (Nat.le_of_ble_eq_true rfl) rfl dX2_readHalf_66 ?_
      refine J_ws (ws' := txW G b t L (fun q => if q < i + 1 then letC t L q else lt q) (fun _ => 0) (i + 1) (-1) (i + 1)) (by rw [lt_step] <;> rfl) ?_
      refine J_iinc C (nI (i + 1)) [(1, .int (nI (i + 1))), (2, .int (nI (letC t L i))), (0, .ref (b 0))] 2 rfl (by first | exact nI_add _ 1 | rfl) (by decide) rfl dX2_readHalf_69 ?_
      refine J_goto C 24 (by decide) dX2_readHalf_72 ?_
      refine J_lvp [2, 0] [(0, .ref (b 0)), (1, .int (nI (i + 1)))] rfl ?_
      exact ih (i + 1) ⟨by omega, by rw [← hi2, show 20 - i = (20 - (i + 1)) + 1 by omega, hfF_next hlz]⟩ (by omega)
    · skip
      have c36 := cv_ne_f (a := (letC t L i)) (b := 0) (by omega) (by omega) c36
      have hend : halfN t L = i := by rw [← hi2]; exact hfF_stop c36 _
      exact J_vret C hr dX2_readHalf_39 () rfl trivial (by rw [hend])

set_option maxHeartbeats 4000000 in
set_option maxRecDepth 100000 in
theorem ct_misrY (l : Launch) (G : GT) (b : Nat → Nat) (t : Nat → Nat) (L : Nat) (lt ms : Nat → Nat) (hf : Nat) (fa : Int32) (cu : Nat) (g : Nat) (hL : L ≤ 60) (hcu : cu ≤ 60) (ht : ∀ q, t q < 65536) (hg : g ≤ 40) (hfa : fa = nI g - 1) (hok : mrOk t L cu) : Ct (S := Unit) l G NoX yX2_readMisreading (Wy yX2_readMisreading cX2_readMisreading 4 ((Option.some Jvm.ClassFile.FieldType.boolean))) { frames := 2, cells := 0, slots := 0, locals := 41 } [.ref (b 0)] (txW G b t L lt ms hf fa cu) (fun u => True) (fun u => some (.int 1)) (fun u => txW G b t L lt (upN ms (mrNum t L cu) (letC t L (mrPos t L cu))) hf (nI (max g (mrNum t L cu + 1)) - 1) (mrPos t L cu + 1)) := by
  refine Ct.of (by decide) (Nat.le_of_ble_eq_true rfl) (fun p e s m args below meth c C hr hnm hX => ?_)
  have htc := ht cu
  have htc2 := ht (cu + 1)
  refine J_aload_n C rfl dX2_readMisreading_0 ?_
  refine J_callV (as := []) (rest := []) C (ct_digitAt l G b t L lt ms hf fa cu hL (by omega) ht) (fun u => txW G b t L lt ms hf fa cu) [0, 1, 2, 3] [] 0 k293 k295 k5 k15 k296 rfl (by decide +kernel) ⟨Nat.le_of_ble_eq_true rfl, Nat.le_of_ble_eq_true rfl⟩ ⟨Nat.le_of_ble_eq_true rfl, Nat.le_of_ble_eq_true rfl⟩ dX2_readMisreading_1 (Nat.le_of_ble_eq_true rfl) 0 rfl rfl rfl (by decide +kernel) (fun _ => rfl) ([]) rfl (fun _ => rfl) 4 (fun _ => rfl) (by decide +kernel) (by decide +kernel) (fun _ _ => ?_)
  refine J_st (st' := [.int (digC t L cu)]) rfl ?_
  refine J_istore_n C [(1, .int (digC t L cu)), (0, .ref (b 0))] (by decide) rfl dX2_readMisreading_4 ?_
  by_cases hd1 : cu < L ∧ 48 ≤ t cu ∧ t cu ≤ 57
  · skip
    rw [show digC t L cu = nI (t cu - 48) from if_pos hd1]
    refine J_iload_n C rfl dX2_readMisreading_5 ?_
    refine J_if_ge C 11 (by decide) dX2_readMisreading_6 (fun _ => ?_) (fun h => absurd h (fun q => q (nI_pos' (by omega))))
    refine J_aload_n C rfl dX2_readMisreading_11 ?_
    refine J_dup C rfl dX2_readMisreading_12 ?_
    refine J_get C 0 6 in2 rfl rfl (by decide) k200 rfl dX2_readMisreading_13 ?_
    refine J_iconst C 1 (by decide) dX2_readMisreading_16 ?_
    refine J_iadd C dX2_readMisreading_17 ?_
    refine J_i (nI_add cu 1 : ((nI cu) + 1 : Int32) = (nI (cu + 1))) ?_
    refine J_put C 0 6 in2 tyX2 tyX2_ok nmX2 ([(b 0, .inr (2, [.ref (b 1), .ref (b 2), .ref (b 3), .int (nI L), .int (nI hf), .int fa, .int (nI (cu + 1))])), (b 1, .inl (G.2.2.1, 60, .inl (fun q => nI (t q)))), (b 2, .inl (G.2.1, 20, .inl (fun q => nI (lt q)))), (b 3, .inl (G.2.1, 40, .inl (fun q => nI (ms q))))]) rfl rfl (by decide) k200 rfl rfl rfl (Nat.le_of_ble_eq_true rfl) rfl dX2_readMisreading_18 ?_
    refine J_aload_n C rfl dX2_readMisreading_21 ?_
    refine J_callV (as := []) (rest := []) C (ct_digitAt l G b t L lt ms hf fa (cu + 1) hL (by omega) ht) (fun u => [(b 0, .inr (2, [.ref (b 1), .ref (b 2), .ref (b 3), .int (nI L), .int (nI hf), .int fa, .int (nI (cu + 1))])), (b 1, .inl (G.2.2.1, 60, .inl (fun q => nI (t q)))), (b 2, .inl (G.2.1, 20, .inl (fun q => nI (lt q)))), (b 3, .inl (G.2.1, 40, .inl (fun q => nI (ms q))))]) [0, 1, 2, 3] [] 0 k293 k295 k5 k15 k296 rfl (by decide +kernel) ⟨Nat.le_of_ble_eq_true rfl, Nat.le_of_ble_eq_true rfl⟩ ⟨Nat.le_of_ble_eq_true rfl, Nat.le_of_ble_eq_true rfl⟩ dX2_readMisreading_22 (Nat.le_of_ble_eq_true rfl) 0 rfl rfl rfl (by decide +kernel) (fun _ => rfl) ([]) rfl (fun _ => rfl) 4 (fun _ => rfl) (by decide +kernel) (by decide +kernel) (fun _ _ => ?_)
    refine J_st (st' := [.int (digC t L (cu + 1))]) rfl ?_
    refine J_istore_n C [(2, .int (digC t L (cu + 1))), (1, .int (nI (t cu - 48))), (0, .ref (b 0))] (by decide) rfl dX2_readMisreading_25 ?_
    by_cases hd2 : cu + 1 < L ∧ 48 ≤ t (cu + 1) ∧ t (cu + 1) ≤ 57
    · skip
      rw [show digC t L (cu + 1) = nI (t (cu + 1) - 48) from if_pos hd2]
      refine J_iload_n C rfl dX2_readMisreading_26 ?_
      refine J_if_eq C 62 (by decide) dX2_readMisreading_27 (fun c27 => ?_) (fun c27 => ?_)
      · skip
        have c27 := cv_eq_t (a := (t cu - 48)) (b := 0) (by omega) (by omega) c27
        have hnum : mrNum t L cu = t cu - 48 := by unfold mrNum; rw [if_neg (by omega)]
        have hpos : mrPos t L cu = cu + 1 := by unfold mrPos; rw [if_neg (by omega)]
        have hlb := letC_le t L (cu + 1)
        have hz : ¬ letC t L (cu + 1) = 0 := by have h9 := hok.2; rw [hpos] at h9; exact h9
        refine J_aload_n C rfl dX2_readMisreading_62 ?_
        refine J_callV (as := []) (rest := []) C (ct_letterAt l G b t L lt ms hf fa (cu + 1) hL (by omega) ht) (fun u => [(b 0, .inr (2, [.ref (b 1), .ref (b 2), .ref (b 3), .int (nI L), .int (nI hf), .int fa, .int (nI (cu + 1))])), (b 1, .inl (G.2.2.1, 60, .inl (fun q => nI (t q)))), (b 2, .inl (G.2.1, 20, .inl (fun q => nI (lt q)))), (b 3, .inl (G.2.1, 40, .inl (fun q => nI (ms q))))]) [0, 1, 2, 3] [] 0 k274 k276 k1 k15 k277 rfl (by decide +kernel) ⟨Nat.le_of_ble_eq_true rfl, Nat.le_of_ble_eq_true rfl⟩ ⟨Nat.le_of_ble_eq_true rfl, Nat.le_of_ble_eq_true rfl⟩ dX2_readMisreading_63 (Nat.le_of_ble_eq_true rfl) 0 rfl rfl rfl (by decide +kernel) (fun _ => rfl) ([]) rfl (fun _ => rfl) 4 (fun _ => rfl) (by decide +kernel) (by decide +kernel) (fun _ _ => ?_)
        refine J_st (st' := [.int (nI (letC t L (cu + 1)))]) rfl ?_
        refine J_istore_n C [(3, .int (nI (letC t L (cu + 1)))), (2, .int (nI (t (cu + 1) - 48))), (1, .int (nI (t cu - 48))), (0, .ref (b 0))] (by decide) rfl dX2_readMisreading_66 ?_
        refine J_iload_n C rfl dX2_readMisreading_67 ?_
        refine J_if_ne C 73 (by decide) dX2_readMisreading_68 (fun c68 => ?_) (fun h => absurd (cv_ne_f (a := (letC t L (cu + 1))) (b := 0) (by omega) (by omega) h) (by omega))
        refine J_aload_n C rfl dX2_readMisreading_73 ?_
        refine J_get C 0 2 in2 rfl rfl (by decide) k191 rfl dX2_readMisreading_74 ?_
        refine J_iload_n C rfl dX2_readMisreading_77 ?_
        refine J_iload_n C rfl dX2_readMisreading_78 ?_
        refine J_callSN (as := [.ref (b 3), .int (nI (t cu - 48)), .int (nI (letC t L (cu + 1)))]) (rest := []) C (ct_putN l G (b 3) 40 ms (t cu - 48) (letC t L (cu + 1)) (by omega) (by decide)) (fun u => [(b 0, .inr (2, [.ref (b 1), .ref (b 2), .ref (b 3), .int (nI L), .int (nI hf), .int fa, .int (nI (cu + 1))])), (b 1, .inl (G.2.2.1, 60, .inl (fun q => nI (t q)))), (b 2, .inl (G.2.1, 20, .inl (fun q => nI (lt q)))), (b 3, .inl (G.2.1, 40, .inl (fun q => nI (if q = t cu - 48 then letC t L (cu + 1) else ms q))))]) [3] [0, 1, 2] 3 nmTwoScribes_PageText_54 k283 k10 k284 rfl (by decide +kernel) ⟨Nat.le_of_ble_eq_true rfl, Nat.le_of_ble_eq_true rfl⟩ ⟨Nat.le_of_ble_eq_true rfl, Nat.le_of_ble_eq_true rfl⟩ dX2_readMisreading_79 (Nat.le_of_ble_eq_true rfl) rfl (by decide +kernel) (fun _ => rfl) ([(b 0, .inr (2, [.ref (b 1), .ref (b 2), .ref (b 3), .int (nI L), .int (nI hf), .int fa, .int (nI (cu + 1))])), (b 1, .inl (G.2.2.1, 60, .inl (fun q => nI (t q)))), (b 2, .inl (G.2.1, 20, .inl (fun q => nI (lt q))))]) rfl (fun _ => rfl) 4 (fun _ => rfl) (by decide +kernel) (by decide +kernel) (fun _ _ => ?_)
        refine J_st (st' := []) rfl ?_
        refine J_aload_n C rfl dX2_readMisreading_82 ?_
        refine J_aload_n C rfl dX2_readMisreading_83 ?_
        refine J_get C 0 5 in2 rfl rfl (by decide) k199 rfl dX2_readMisreading_84 ?_
        refine J_iload_n C rfl dX2_readMisreading_87 ?_
        refine J_mmax C k297 k298 k16 k299 (Nat.le_of_ble_eq_true rfl) (Nat.le_of_ble_eq_true rfl) ⟨Nat.le_of_ble_eq_true rfl, Nat.le_of_ble_eq_true rfl⟩ dX2_readMisreading_88 ?_
        refine J_i ((by rw [hfa, hnum]; exact mx_far (g := g) (n := t cu - 48) (by omega) (by omega)) : (if fa < (nI (t cu - 48)) then (nI (t cu - 48)) else fa : Int32) = (nI (max g (mrNum t L cu + 1)) - 1)) ?_
        refine J_put C 0 5 in2 tyX2 tyX2_ok nmX2 ([(b 0, .inr (2, [.ref (b 1), .ref (b 2), .ref (b 3), .int (nI L), .int (nI hf), .int (nI (max g (mrNum t L cu + 1)) - 1), .int (nI (cu + 1))])), (b 1, .inl (G.2.2.1, 60, .inl (fun q => nI (t q)))), (b 2, .inl (G.2.1, 20, .inl (fun q => nI (lt q)))), (b 3, .inl (G.2.1, 40, .inl (fun q => nI (if q = t cu - 48 then letC t L (cu + 1) else ms q))))]) rfl rfl (by decide) k199 rfl rfl rfl (Nat.le_of_ble_eq_true rfl) rfl dX2_readMisreading_91 ?_
        refine J_aload_n C rfl dX2_readMisreading_94 ?_
        refine J_dup C rfl dX2_readMisreading_95 ?_
        refine J_get C 0 6 in2 rfl rfl (by decide) k200 rfl dX2_readMisreading_96 ?_
        refine J_iconst C 1 (by decide) dX2_readMisreading_99 ?_
        refine J_iadd C dX2_readMisreading_100 ?_
        refine J_i (nI_add (cu + 1) 1 : ((nI (cu + 1)) + 1 : Int32) = (nI (cu + 1 + 1))) ?_
        refine J_put C 0 6 in2 tyX2 tyX2_ok nmX2 ([(b 0, .inr (2, [.ref (b 1), .ref (b 2), .ref (b 3), .int (nI L), .int (nI hf), .int (nI (max g (mrNum t L cu + 1)) - 1), .int (nI (cu + 1 + 1))])), (b 1, .inl (G.2.2.1, 60, .inl (fun q => nI (t q)))), (b 2, .inl (G.2.1, 20, .inl (fun q => nI (lt q)))), (b 3, .inl (G.2.1, 40, .inl (fun q => nI (if q = t cu - 48 then letC t L (cu + 1) else ms q))))]) rfl rfl (by decide) k200 rfl rfl rfl (Nat.le_of_ble_eq_true rfl) rfl dX2_readMisreading_101 ?_
        refine J_iconst C 1 (by decide) dX2_readMisreading_104 ?_
        exact J_zret C hr rfl dX2_readMisreading_105 () rfl trivial (by rw [hnum, hpos] <;> rfl)
      · skip
        have c27 := cv_eq_f (a := (t cu - 48)) (b := 0) (by omega) (by omega) c27
        refine J_iload_n C rfl dX2_readMisreading_30 ?_
        refine J_if_lt C 62 (by decide) dX2_readMisreading_31 (fun h => absurd h (nI_pos (by omega))) (fun _ => ?_)
        refine J_iload_n C rfl dX2_readMisreading_34 ?_
        refine J_bipush C 10 (by decide) dX2_readMisreading_35 ?_
        refine J_imul C dX2_readMisreading_37 ?_
        refine J_i (pk_mul (t cu - 48) 10 : ((nI (t cu - 48)) * 10 : Int32) = (nI ((t cu - 48) * 10))) ?_
        refine J_iload_n C rfl dX2_readMisreading_38 ?_
        refine J_iadd C dX2_readMisreading_39 ?_
        refine J_i (nI_add ((t cu - 48) * 10) (t (cu + 1) - 48) : ((nI ((t cu - 48) * 10)) + (nI (t (cu + 1) - 48)) : Int32) = (nI (((t cu - 48) * 10) + (t (cu + 1) - 48)))) ?_
        refine J_bipush C 39 (by decide) dX2_readMisreading_40 ?_
        refine J_icmp_gt C 62 (by decide) dX2_readMisreading_42 (fun c42 => ?_) (fun c42 => ?_)
        · skip
          have c42 := cv_gt_t (a := (((t cu - 48) * 10) + (t (cu + 1) - 48))) (b := 39) (by omega) (by omega) c42
          have hnum : mrNum t L cu = t cu - 48 := by unfold mrNum; rw [if_neg (by omega)]
          have hpos : mrPos t L cu = cu + 1 := by unfold mrPos; rw [if_neg (by omega)]
          have hlb := letC_le t L (cu + 1)
          have hz : ¬ letC t L (cu + 1) = 0 := by have h9 := hok.2; rw [hpos] at h9; exact h9
          refine J_aload_n C rfl dX2_readMisreading_62 ?_
          refine J_callV (as := []) (rest := []) C (ct_letterAt l G b t L lt ms hf fa (cu + 1) hL (by omega) ht) (fun u => [(b 0, .inr (2, [.ref (b 1), .ref (b 2), .ref (b 3), .int (nI L), .int (nI hf), .int fa, .int (nI (cu + 1))])), (b 1, .inl (G.2.2.1, 60, .inl (fun q => nI (t q)))), (b 2, .inl (G.2.1, 20, .inl (fun q => nI (lt q)))), (b 3, .inl (G.2.1, 40, .inl (fun q => nI (ms q))))]) [0, 1, 2, 3] [] 0 k274 k276 k1 k15 k277 rfl (by decide +kernel) ⟨Nat.le_of_ble_eq_true rfl, Nat.le_of_ble_eq_true rfl⟩ ⟨Nat.le_of_ble_eq_true rfl, Nat.le_of_ble_eq_true rfl⟩ dX2_readMisreading_63 (Nat.le_of_ble_eq_true rfl) 0 rfl rfl rfl (by decide +kernel) (fun _ => rfl) ([]) rfl (fun _ => rfl) 4 (fun _ => rfl) (by decide +kernel) (by decide +kernel) (fun _ _ => ?_)
          refine J_st (st' := [.int (nI (letC t L (cu + 1)))]) rfl ?_
          refine J_istore_n C [(3, .int (nI (letC t L (cu + 1)))), (2, .int (nI (t (cu + 1) - 48))), (1, .int (nI (t cu - 48))), (0, .ref (b 0))] (by decide) rfl dX2_readMisreading_66 ?_
          refine J_iload_n C rfl dX2_readMisreading_67 ?_
          refine J_if_ne C 73 (by decide) dX2_readMisreading_68 (fun c68 => ?_) (fun h => absurd (cv_ne_f (a := (letC t L (cu + 1))) (b := 0) (by omega) (by omega) h) (by omega))
          refine J_aload_n C rfl dX2_readMisreading_73 ?_
          refine J_get C 0 2 in2 rfl rfl (by decide) k191 rfl dX2_readMisreading_74 ?_
          refine J_iload_n C rfl dX2_readMisreading_77 ?_
          refine J_iload_n C rfl dX2_readMisreading_78 ?_
          refine J_callSN (as := [.ref (b 3), .int (nI (t cu - 48)), .int (nI (letC t L (cu + 1)))]) (rest := []) C (ct_putN l G (b 3) 40 ms (t cu - 48) (letC t L (cu + 1)) (by omega) (by decide)) (fun u => [(b 0, .inr (2, [.ref (b 1), .ref (b 2), .ref (b 3), .int (nI L), .int (nI hf), .int fa, .int (nI (cu + 1))])), (b 1, .inl (G.2.2.1, 60, .inl (fun q => nI (t q)))), (b 2, .inl (G.2.1, 20, .inl (fun q => nI (lt q)))), (b 3, .inl (G.2.1, 40, .inl (fun q => nI (if q = t cu - 48 then letC t L (cu + 1) else ms q))))]) [3] [0, 1, 2] 3 nmTwoScribes_PageText_54 k283 k10 k284 rfl (by decide +kernel) ⟨Nat.le_of_ble_eq_true rfl, Nat.le_of_ble_eq_true rfl⟩ ⟨Nat.le_of_ble_eq_true rfl, Nat.le_of_ble_eq_true rfl⟩ dX2_readMisreading_79 (Nat.le_of_ble_eq_true rfl) rfl (by decide +kernel) (fun _ => rfl) ([(b 0, .inr (2, [.ref (b 1), .ref (b 2), .ref (b 3), .int (nI L), .int (nI hf), .int fa, .int (nI (cu + 1))])), (b 1, .inl (G.2.2.1, 60, .inl (fun q => nI (t q)))), (b 2, .inl (G.2.1, 20, .inl (fun q => nI (lt q))))]) rfl (fun _ => rfl) 4 (fun _ => rfl) (by decide +kernel) (by decide +kernel) (fun _ _ => ?_)
          refine J_st (st' := []) rfl ?_
          refine J_aload_n C rfl dX2_readMisreading_82 ?_
          refine J_aload_n C rfl dX2_readMisreading_83 ?_
          refine J_get C 0 5 in2 rfl rfl (by decide) k199 rfl dX2_readMisreading_84 ?_
          refine J_iload_n C rfl dX2_readMisreading_87 ?_
          refine J_mmax C k297 k298 k16 k299 (Nat.le_of_ble_eq_true rfl) (Nat.le_of_ble_eq_true rfl) ⟨Nat.le_of_ble_eq_true rfl, Nat.le_of_ble_eq_true rfl⟩ dX2_readMisreading_88 ?_
          refine J_i ((by rw [hfa, hnum]; exact mx_far (g := g) (n := t cu - 48) (by omega) (by omega)) : (if fa < (nI (t cu - 48)) then (nI (t cu - 48)) else fa : Int32) = (nI (max g (mrNum t L cu + 1)) - 1)) ?_
          refine J_put C 0 5 in2 tyX2 tyX2_ok nmX2 ([(b 0, .inr (2, [.ref (b 1), .ref (b 2), .ref (b 3), .int (nI L), .int (nI hf), .int (nI (max g (mrNum t L cu + 1)) - 1), .int (nI (cu + 1))])), (b 1, .inl (G.2.2.1, 60, .inl (fun q => nI (t q)))), (b 2, .inl (G.2.1, 20, .inl (fun q => nI (lt q)))), (b 3, .inl (G.2.1, 40, .inl (fun q => nI (if q = t cu - 48 then letC t L (cu + 1) else ms q))))]) rfl rfl (by decide) k199 rfl rfl rfl (Nat.le_of_ble_eq_true rfl) rfl dX2_readMisreading_91 ?_
          refine J_aload_n C rfl dX2_readMisreading_94 ?_
          refine J_dup C rfl dX2_readMisreading_95 ?_
          refine J_get C 0 6 in2 rfl rfl (by decide) k200 rfl dX2_readMisreading_96 ?_
          refine J_iconst C 1 (by decide) dX2_readMisreading_99 ?_
          refine J_iadd C dX2_readMisreading_100 ?_
          refine J_i (nI_add (cu + 1) 1 : ((nI (cu + 1)) + 1 : Int32) = (nI (cu + 1 + 1))) ?_
          refine J_put C 0 6 in2 tyX2 tyX2_ok nmX2 ([(b 0, .inr (2, [.ref (b 1), .ref (b 2), .ref (b 3), .int (nI L), .int (nI hf), .int (nI (max g (mrNum t L cu + 1)) - 1), .int (nI (cu + 1 + 1))])), (b 1, .inl (G.2.2.1, 60, .inl (fun q => nI (t q)))), (b 2, .inl (G.2.1, 20, .inl (fun q => nI (lt q)))), (b 3, .inl (G.2.1, 40, .inl (fun q => nI (if q = t cu - 48 then letC t L (cu + 1) else ms q))))]) rfl rfl (by decide) k200 rfl rfl rfl (Nat.le_of_ble_eq_true rfl) rfl dX2_readMisreading_101 ?_
          refine J_iconst C 1 (by decide) dX2_readMisreading_104 ?_
          exact J_zret C hr rfl dX2_readMisreading_105 () rfl trivial (by rw [hnum, hpos] <;> rfl)
        · skip
          have c42 := cv_gt_f (a := (((t cu - 48) * 10) + (t (cu + 1) - 48))) (b := 39) (by omega) (by omega) c42
          refine J_iload_n C rfl dX2_readMisreading_45 ?_
          refine J_bipush C 10 (by decide) dX2_readMisreading_46 ?_
          refine J_imul C dX2_readMisreading_48 ?_
          refine J_i (pk_mul (t cu - 48) 10 : ((nI (t cu - 48)) * 10 : Int32) = (nI ((t cu - 48) * 10))) ?_
          refine J_iload_n C rfl dX2_readMisreading_49 ?_
          refine J_iadd C dX2_readMisreading_50 ?_
          refine J_i (nI_add ((t cu - 48) * 10) (t (cu + 1) - 48) : ((nI ((t cu - 48) * 10)) + (nI (t (cu + 1) - 48)) : Int32) = (nI (((t cu - 48) * 10) + (t (cu + 1) - 48)))) ?_
          refine J_istore_n C [(1, .int (nI (((t cu - 48) * 10) + (t (cu + 1) - 48)))), (2, .int (nI (t (cu + 1) - 48))), (0, .ref (b 0))] (by decide) rfl dX2_readMisreading_51 ?_
          refine J_aload_n C rfl dX2_readMisreading_52 ?_
          refine J_dup C rfl dX2_readMisreading_53 ?_
          refine J_get C 0 6 in2 rfl rfl (by decide) k200 rfl dX2_readMisreading_54 ?_
          refine J_iconst C 1 (by decide) dX2_readMisreading_57 ?_
          refine J_iadd C dX2_readMisreading_58 ?_
          refine J_i (nI_add (cu + 1) 1 : ((nI (cu + 1)) + 1 : Int32) = (nI (cu + 1 + 1))) ?_
          refine J_put C 0 6 in2 tyX2 tyX2_ok nmX2 ([(b 0, .inr (2, [.ref (b 1), .ref (b 2), .ref (b 3), .int (nI L), .int (nI hf), .int fa, .int (nI (cu + 1 + 1))])), (b 1, .inl (G.2.2.1, 60, .inl (fun q => nI (t q)))), (b 2, .inl (G.2.1, 20, .inl (fun q => nI (lt q)))), (b 3, .inl (G.2.1, 40, .inl (fun q => nI (ms q))))]) rfl rfl (by decide) k200 rfl rfl rfl (Nat.le_of_ble_eq_true rfl) rfl dX2_readMisreading_59 ?_
          have hnum : mrNum t L cu = (t cu - 48) * 10 + (t (cu + 1) - 48) := by unfold mrNum; rw [if_pos (by omega)]
          have hpos : mrPos t L cu = cu + 2 := by unfold mrPos; rw [if_pos (by omega)]
          have hlb := letC_le t L (cu + 2)
          have hz : ¬ letC t L (cu + 2) = 0 := by have h9 := hok.2; rw [hpos] at h9; exact h9
          refine J_aload_n C rfl dX2_readMisreading_62 ?_
          refine J_callV (as := []) (rest := []) C (ct_letterAt l G b t L lt ms hf fa (cu + 2) hL (by omega) ht) (fun u => [(b 0, .inr (2, [.ref (b 1), .ref (b 2), .ref (b 3), .int (nI L), .int (nI hf), .int fa, .int (nI (cu + 1 + 1))])), (b 1, .inl (G.2.2.1, 60, .inl (fun q => nI (t q)))), (b 2, .inl (G.2.1, 20, .inl (fun q => nI (lt q)))), (b 3, .inl (G.2.1, 40, .inl (fun q => nI (ms q))))]) [0, 1, 2, 3] [] 0 k274 k276 k1 k15 k277 rfl (by decide +kernel) ⟨Nat.le_of_ble_eq_true rfl, Nat.le_of_ble_eq_true rfl⟩ ⟨Nat.le_of_ble_eq_true rfl, Nat.le_of_ble_eq_true rfl⟩ dX2_readMisreading_63 (Nat.le_of_ble_eq_true rfl) 0 rfl rfl rfl (by decide +kernel) (fun _ => rfl) ([]) rfl (fun _ => rfl) 4 (fun _ => rfl) (by decide +kernel) (by decide +kernel) (fun _ _ => ?_)
          refine J_st (st' := [.int (nI (letC t L (cu + 2)))]) rfl ?_
          refine J_istore_n C [(3, .int (nI (letC t L (cu + 2)))), (1, .int (nI (((t cu - 48) * 10) + (t (cu + 1) - 48)))), (2, .int (nI (t (cu + 1) - 48))), (0, .ref (b 0))] (by decide) rfl dX2_readMisreading_66 ?_
          refine J_iload_n C rfl dX2_readMisreading_67 ?_
          refine J_if_ne C 73 (by decide) dX2_readMisreading_68 (fun c68 => ?_) (fun h => absurd (cv_ne_f (a := (letC t L (cu + 2))) (b := 0) (by omega) (by omega) h) (by omega))
          refine J_aload_n C rfl dX2_readMisreading_73 ?_
          refine J_get C 0 2 in2 rfl rfl (by decide) k191 rfl dX2_readMisreading_74 ?_
          refine J_iload_n C rfl dX2_readMisreading_77 ?_
          refine J_iload_n C rfl dX2_readMisreading_78 ?_
          refine J_callSN (as := [.ref (b 3), .int (nI (((t cu - 48) * 10) + (t (cu + 1) - 48))), .int (nI (letC t L (cu + 2)))]) (rest := []) C (ct_putN l G (b 3) 40 ms (((t cu - 48) * 10) + (t (cu + 1) - 48)) (letC t L (cu + 2)) (by omega) (by decide)) (fun u => [(b 0, .inr (2, [.ref (b 1), .ref (b 2), .ref (b 3), .int (nI L), .int (nI hf), .int fa, .int (nI (cu + 1 + 1))])), (b 1, .inl (G.2.2.1, 60, .inl (fun q => nI (t q)))), (b 2, .inl (G.2.1, 20, .inl (fun q => nI (lt q)))), (b 3, .inl (G.2.1, 40, .inl (fun q => nI (if q = ((t cu - 48) * 10) + (t (cu + 1) - 48) then letC t L (cu + 2) else ms q))))]) [3] [0, 1, 2] 3 nmTwoScribes_PageText_54 k283 k10 k284 rfl (by decide +kernel) ⟨Nat.le_of_ble_eq_true rfl, Nat.le_of_ble_eq_true rfl⟩ ⟨Nat.le_of_ble_eq_true rfl, Nat.le_of_ble_eq_true rfl⟩ dX2_readMisreading_79 (Nat.le_of_ble_eq_true rfl) rfl (by decide +kernel) (fun _ => rfl) ([(b 0, .inr (2, [.ref (b 1), .ref (b 2), .ref (b 3), .int (nI L), .int (nI hf), .int fa, .int (nI (cu + 1 + 1))])), (b 1, .inl (G.2.2.1, 60, .inl (fun q => nI (t q)))), (b 2, .inl (G.2.1, 20, .inl (fun q => nI (lt q))))]) rfl (fun _ => rfl) 4 (fun _ => rfl) (by decide +kernel) (by decide +kernel) (fun _ _ => ?_)
          refine J_st (st' := []) rfl ?_
          refine J_aload_n C rfl dX2_readMisreading_82 ?_
          refine J_aload_n C rfl dX2_readMisreading_83 ?_
          refine J_get C 0 5 in2 rfl rfl (by decide) k199 rfl dX2_readMisreading_84 ?_
          refine J_iload_n C rfl dX2_readMisreading_87 ?_
          refine J_mmax C k297 k298 k16 k299 (Nat.le_of_ble_eq_true rfl) (Nat.le_of_ble_eq_true rfl) ⟨Nat.le_of_ble_eq_true rfl, Nat.le_of_ble_eq_true rfl⟩ dX2_readMisreading_88 ?_
          refine J_i ((by rw [hfa, hnum]; exact mx_far (g := g) (n := ((t cu - 48) * 10) + (t (cu + 1) - 48)) (by omega) (by omega)) : (if fa < (nI (((t cu - 48) * 10) + (t (cu + 1) - 48))) then (nI (((t cu - 48) * 10) + (t (cu + 1) - 48))) else fa : Int32) = (nI (max g (mrNum t L cu + 1)) - 1)) ?_
          refine J_put C 0 5 in2 tyX2 tyX2_ok nmX2 ([(b 0, .inr (2, [.ref (b 1), .ref (b 2), .ref (b 3), .int (nI L), .int (nI hf), .int (nI (max g (mrNum t L cu + 1)) - 1), .int (nI (cu + 1 + 1))])), (b 1, .inl (G.2.2.1, 60, .inl (fun q => nI (t q)))), (b 2, .inl (G.2.1, 20, .inl (fun q => nI (lt q)))), (b 3, .inl (G.2.1, 40, .inl (fun q => nI (if q = ((t cu - 48) * 10) + (t (cu + 1) - 48) then letC t L (cu + 2) else ms q))))]) rfl rfl (by decide) k199 rfl rfl rfl (Nat.le_of_ble_eq_true rfl) rfl dX2_readMisreading_91 ?_
          refine J_aload_n C rfl dX2_readMisreading_94 ?_
          refine J_dup C rfl dX2_readMisreading_95 ?_
          refine J_get C 0 6 in2 rfl rfl (by decide) k200 rfl dX2_readMisreading_96 ?_
          refine J_iconst C 1 (by decide) dX2_readMisreading_99 ?_
          refine J_iadd C dX2_readMisreading_100 ?_
          refine J_i (nI_add (cu + 1 + 1) 1 : ((nI (cu + 1 + 1)) + 1 : Int32) = (nI (cu + 1 + 1 + 1))) ?_
          refine J_put C 0 6 in2 tyX2 tyX2_ok nmX2 ([(b 0, .inr (2, [.ref (b 1), .ref (b 2), .ref (b 3), .int (nI L), .int (nI hf), .int (nI (max g (mrNum t L cu + 1)) - 1), .int (nI (cu + 1 + 1 + 1))])), (b 1, .inl (G.2.2.1, 60, .inl (fun q => nI (t q)))), (b 2, .inl (G.2.1, 20, .inl (fun q => nI (lt q)))), (b 3, .inl (G.2.1, 40, .inl (fun q => nI (if q = ((t cu - 48) * 10) + (t (cu + 1) - 48) then letC t L (cu + 2) else ms q))))]) rfl rfl (by decide) k200 rfl rfl rfl (Nat.le_of_ble_eq_true rfl) rfl dX2_readMisreading_101 ?_
          refine J_iconst C 1 (by decide) dX2_readMisreading_104 ?_
          exact J_zret C hr rfl dX2_readMisreading_105 () rfl trivial (by rw [hnum, hpos] <;> rfl)
    · skip
      rw [show digC t L (cu + 1) = -1 from if_neg hd2]
      refine J_iload_n C rfl dX2_readMisreading_26 ?_
      refine J_if_eq C 62 (by decide) dX2_readMisreading_27 (fun c27 => ?_) (fun c27 => ?_)
      · skip
        have c27 := cv_eq_t (a := (t cu - 48)) (b := 0) (by omega) (by omega) c27
        have hnum : mrNum t L cu = t cu - 48 := by unfold mrNum; rw [if_neg (by omega)]
        have hpos : mrPos t L cu = cu + 1 := by unfold mrPos; rw [if_neg (by omega)]
        have hlb := letC_le t L (cu + 1)
        have hz : ¬ letC t L (cu + 1) = 0 := by have h9 := hok.2; rw [hpos] at h9; exact h9
        refine J_aload_n C rfl dX2_readMisreading_62 ?_
        refine J_callV (as := []) (rest := []) C (ct_letterAt l G b t L lt ms hf fa (cu + 1) hL (by omega) ht) (fun u => [(b 0, .inr (2, [.ref (b 1), .ref (b 2), .ref (b 3), .int (nI L), .int (nI hf), .int fa, .int (nI (cu + 1))])), (b 1, .inl (G.2.2.1, 60, .inl (fun q => nI (t q)))), (b 2, .inl (G.2.1, 20, .inl (fun q => nI (lt q)))), (b 3, .inl (G.2.1, 40, .inl (fun q => nI (ms q))))]) [0, 1, 2, 3] [] 0 k274 k276 k1 k15 k277 rfl (by decide +kernel) ⟨Nat.le_of_ble_eq_true rfl, Nat.le_of_ble_eq_true rfl⟩ ⟨Nat.le_of_ble_eq_true rfl, Nat.le_of_ble_eq_true rfl⟩ dX2_readMisreading_63 (Nat.le_of_ble_eq_true rfl) 0 rfl rfl rfl (by decide +kernel) (fun _ => rfl) ([]) rfl (fun _ => rfl) 4 (fun _ => rfl) (by decide +kernel) (by decide +kernel) (fun _ _ => ?_)
        refine J_st (st' := [.int (nI (letC t L (cu + 1)))]) rfl ?_
        refine J_istore_n C [(3, .int (nI (letC t L (cu + 1)))), (2, .int (-1)), (1, .int (nI (t cu - 48))), (0, .ref (b 0))] (by decide) rfl dX2_readMisreading_66 ?_
        refine J_iload_n C rfl dX2_readMisreading_67 ?_
        refine J_if_ne C 73 (by decide) dX2_readMisreading_68 (fun c68 => ?_) (fun h => absurd (cv_ne_f (a := (letC t L (cu + 1))) (b := 0) (by omega) (by omega) h) (by omega))
        refine J_aload_n C rfl dX2_readMisreading_73 ?_
        refine J_get C 0 2 in2 rfl rfl (by decide) k191 rfl dX2_readMisreading_74 ?_
        refine J_iload_n C rfl dX2_readMisreading_77 ?_
        refine J_iload_n C rfl dX2_readMisreading_78 ?_
        refine J_callSN (as := [.ref (b 3), .int (nI (t cu - 48)), .int (nI (letC t L (cu + 1)))]) (rest := []) C (ct_putN l G (b 3) 40 ms (t cu - 48) (letC t L (cu + 1)) (by omega) (by decide)) (fun u => [(b 0, .inr (2, [.ref (b 1), .ref (b 2), .ref (b 3), .int (nI L), .int (nI hf), .int fa, .int (nI (cu + 1))])), (b 1, .inl (G.2.2.1, 60, .inl (fun q => nI (t q)))), (b 2, .inl (G.2.1, 20, .inl (fun q => nI (lt q)))), (b 3, .inl (G.2.1, 40, .inl (fun q => nI (if q = t cu - 48 then letC t L (cu + 1) else ms q))))]) [3] [0, 1, 2] 3 nmTwoScribes_PageText_54 k283 k10 k284 rfl (by decide +kernel) ⟨Nat.le_of_ble_eq_true rfl, Nat.le_of_ble_eq_true rfl⟩ ⟨Nat.le_of_ble_eq_true rfl, Nat.le_of_ble_eq_true rfl⟩ dX2_readMisreading_79 (Nat.le_of_ble_eq_true rfl) rfl (by decide +kernel) (fun _ => rfl) ([(b 0, .inr (2, [.ref (b 1), .ref (b 2), .ref (b 3), .int (nI L), .int (nI hf), .int fa, .int (nI (cu + 1))])), (b 1, .inl (G.2.2.1, 60, .inl (fun q => nI (t q)))), (b 2, .inl (G.2.1, 20, .inl (fun q => nI (lt q))))]) rfl (fun _ => rfl) 4 (fun _ => rfl) (by decide +kernel) (by decide +kernel) (fun _ _ => ?_)
        refine J_st (st' := []) rfl ?_
        refine J_aload_n C rfl dX2_readMisreading_82 ?_
        refine J_aload_n C rfl dX2_readMisreading_83 ?_
        refine J_get C 0 5 in2 rfl rfl (by decide) k199 rfl dX2_readMisreading_84 ?_
        refine J_iload_n C rfl dX2_readMisreading_87 ?_
        refine J_mmax C k297 k298 k16 k299 (Nat.le_of_ble_eq_true rfl) (Nat.le_of_ble_eq_true rfl) ⟨Nat.le_of_ble_eq_true rfl, Nat.le_of_ble_eq_true rfl⟩ dX2_readMisreading_88 ?_
        refine J_i ((by rw [hfa, hnum]; exact mx_far (g := g) (n := t cu - 48) (by omega) (by omega)) : (if fa < (nI (t cu - 48)) then (nI (t cu - 48)) else fa : Int32) = (nI (max g (mrNum t L cu + 1)) - 1)) ?_
        refine J_put C 0 5 in2 tyX2 tyX2_ok nmX2 ([(b 0, .inr (2, [.ref (b 1), .ref (b 2), .ref (b 3), .int (nI L), .int (nI hf), .int (nI (max g (mrNum t L cu + 1)) - 1), .int (nI (cu + 1))])), (b 1, .inl (G.2.2.1, 60, .inl (fun q => nI (t q)))), (b 2, .inl (G.2.1, 20, .inl (fun q => nI (lt q)))), (b 3, .inl (G.2.1, 40, .inl (fun q => nI (if q = t cu - 48 then letC t L (cu + 1) else ms q))))]) rfl rfl (by decide) k199 rfl rfl rfl (Nat.le_of_ble_eq_true rfl) rfl dX2_readMisreading_91 ?_
        refine J_aload_n C rfl dX2_readMisreading_94 ?_
        refine J_dup C rfl dX2_readMisreading_95 ?_
        refine J_get C 0 6 in2 rfl rfl (by decide) k200 rfl dX2_readMisreading_96 ?_
        refine J_iconst C 1 (by decide) dX2_readMisreading_99 ?_
        refine J_iadd C dX2_readMisreading_100 ?_
        refine J_i (nI_add (cu + 1) 1 : ((nI (cu + 1)) + 1 : Int32) = (nI (cu + 1 + 1))) ?_
        refine J_put C 0 6 in2 tyX2 tyX2_ok nmX2 ([(b 0, .inr (2, [.ref (b 1), .ref (b 2), .ref (b 3), .int (nI L), .int (nI hf), .int (nI (max g (mrNum t L cu + 1)) - 1), .int (nI (cu + 1 + 1))])), (b 1, .inl (G.2.2.1, 60, .inl (fun q => nI (t q)))), (b 2, .inl (G.2.1, 20, .inl (fun q => nI (lt q)))), (b 3, .inl (G.2.1, 40, .inl (fun q => nI (if q = t cu - 48 then letC t L (cu + 1) else ms q))))]) rfl rfl (by decide) k200 rfl rfl rfl (Nat.le_of_ble_eq_true rfl) rfl dX2_readMisreading_101 ?_
        refine J_iconst C 1 (by decide) dX2_readMisreading_104 ?_
        exact J_zret C hr rfl dX2_readMisreading_105 () rfl trivial (by rw [hnum, hpos] <;> rfl)
      · skip
        have c27 := cv_eq_f (a := (t cu - 48)) (b := 0) (by omega) (by omega) c27
        refine J_iload_n C rfl dX2_readMisreading_30 ?_
        refine J_if_lt C 62 (by decide) dX2_readMisreading_31 (fun _ => ?_) (fun h => absurd h (by decide))
        have hnum : mrNum t L cu = t cu - 48 := by unfold mrNum; rw [if_neg (by omega)]
        have hpos : mrPos t L cu = cu + 1 := by unfold mrPos; rw [if_neg (by omega)]
        have hlb := letC_le t L (cu + 1)
        have hz : ¬ letC t L (cu + 1) = 0 := by have h9 := hok.2; rw [hpos] at h9; exact h9
        refine J_aload_n C rfl dX2_readMisreading_62 ?_
        refine J_callV (as := []) (rest := []) C (ct_letterAt l G b t L lt ms hf fa (cu + 1) hL (by omega) ht) (fun u => [(b 0, .inr (2, [.ref (b 1), .ref (b 2), .ref (b 3), .int (nI L), .int (nI hf), .int fa, .int (nI (cu + 1))])), (b 1, .inl (G.2.2.1, 60, .inl (fun q => nI (t q)))), (b 2, .inl (G.2.1, 20, .inl (fun q => nI (lt q)))), (b 3, .inl (G.2.1, 40, .inl (fun q => nI (ms q))))]) [0, 1, 2, 3] [] 0 k274 k276 k1 k15 k277 rfl (by decide +kernel) ⟨Nat.le_of_ble_eq_true rfl, Nat.le_of_ble_eq_true rfl⟩ ⟨Nat.le_of_ble_eq_true rfl, Nat.le_of_ble_eq_true rfl⟩ dX2_readMisreading_63 (Nat.le_of_ble_eq_true rfl) 0 rfl rfl rfl (by decide +kernel) (fun _ => rfl) ([]) rfl (fun _ => rfl) 4 (fun _ => rfl) (by decide +kernel) (by decide +kernel) (fun _ _ => ?_)
        refine J_st (st' := [.int (nI (letC t L (cu + 1)))]) rfl ?_
        refine J_istore_n C [(3, .int (nI (letC t L (cu + 1)))), (2, .int (-1)), (1, .int (nI (t cu - 48))), (0, .ref (b 0))] (by decide) rfl dX2_readMisreading_66 ?_
        refine J_iload_n C rfl dX2_readMisreading_67 ?_
        refine J_if_ne C 73 (by decide) dX2_readMisreading_68 (fun c68 => ?_) (fun h => absurd (cv_ne_f (a := (letC t L (cu + 1))) (b := 0) (by omega) (by omega) h) (by omega))
        refine J_aload_n C rfl dX2_readMisreading_73 ?_
        refine J_get C 0 2 in2 rfl rfl (by decide) k191 rfl dX2_readMisreading_74 ?_
        refine J_iload_n C rfl dX2_readMisreading_77 ?_
        refine J_iload_n C rfl dX2_readMisreading_78 ?_
        refine J_callSN (as := [.ref (b 3), .int (nI (t cu - 48)), .int (nI (letC t L (cu + 1)))]) (rest := []) C (ct_putN l G (b 3) 40 ms (t cu - 48) (letC t L (cu + 1)) (by omega) (by decide)) (fun u => [(b 0, .inr (2, [.ref (b 1), .ref (b 2), .ref (b 3), .int (nI L), .int (nI hf), .int fa, .int (nI (cu + 1))])), (b 1, .inl (G.2.2.1, 60, .inl (fun q => nI (t q)))), (b 2, .inl (G.2.1, 20, .inl (fun q => nI (lt q)))), (b 3, .inl (G.2.1, 40, .inl (fun q => nI (if q = t cu - 48 then letC t L (cu + 1) else ms q))))]) [3] [0, 1, 2] 3 nmTwoScribes_PageText_54 k283 k10 k284 rfl (by decide +kernel) ⟨Nat.le_of_ble_eq_true rfl, Nat.le_of_ble_eq_true rfl⟩ ⟨Nat.le_of_ble_eq_true rfl, Nat.le_of_ble_eq_true rfl⟩ dX2_readMisreading_79 (Nat.le_of_ble_eq_true rfl) rfl (by decide +kernel) (fun _ => rfl) ([(b 0, .inr (2, [.ref (b 1), .ref (b 2), .ref (b 3), .int (nI L), .int (nI hf), .int fa, .int (nI (cu + 1))])), (b 1, .inl (G.2.2.1, 60, .inl (fun q => nI (t q)))), (b 2, .inl (G.2.1, 20, .inl (fun q => nI (lt q))))]) rfl (fun _ => rfl) 4 (fun _ => rfl) (by decide +kernel) (by decide +kernel) (fun _ _ => ?_)
        refine J_st (st' := []) rfl ?_
        refine J_aload_n C rfl dX2_readMisreading_82 ?_
        refine J_aload_n C rfl dX2_readMisreading_83 ?_
        refine J_get C 0 5 in2 rfl rfl (by decide) k199 rfl dX2_readMisreading_84 ?_
        refine J_iload_n C rfl dX2_readMisreading_87 ?_
        refine J_mmax C k297 k298 k16 k299 (Nat.le_of_ble_eq_true rfl) (Nat.le_of_ble_eq_true rfl) ⟨Nat.le_of_ble_eq_true rfl, Nat.le_of_ble_eq_true rfl⟩ dX2_readMisreading_88 ?_
        refine J_i ((by rw [hfa, hnum]; exact mx_far (g := g) (n := t cu - 48) (by omega) (by omega)) : (if fa < (nI (t cu - 48)) then (nI (t cu - 48)) else fa : Int32) = (nI (max g (mrNum t L cu + 1)) - 1)) ?_
        refine J_put C 0 5 in2 tyX2 tyX2_ok nmX2 ([(b 0, .inr (2, [.ref (b 1), .ref (b 2), .ref (b 3), .int (nI L), .int (nI hf), .int (nI (max g (mrNum t L cu + 1)) - 1), .int (nI (cu + 1))])), (b 1, .inl (G.2.2.1, 60, .inl (fun q => nI (t q)))), (b 2, .inl (G.2.1, 20, .inl (fun q => nI (lt q)))), (b 3, .inl (G.2.1, 40, .inl (fun q => nI (if q = t cu - 48 then letC t L (cu + 1) else ms q))))]) rfl rfl (by decide) k199 rfl rfl rfl (Nat.le_of_ble_eq_true rfl) rfl dX2_readMisreading_91 ?_
        refine J_aload_n C rfl dX2_readMisreading_94 ?_
        refine J_dup C rfl dX2_readMisreading_95 ?_
        refine J_get C 0 6 in2 rfl rfl (by decide) k200 rfl dX2_readMisreading_96 ?_
        refine J_iconst C 1 (by decide) dX2_readMisreading_99 ?_
        refine J_iadd C dX2_readMisreading_100 ?_
        refine J_i (nI_add (cu + 1) 1 : ((nI (cu + 1)) + 1 : Int32) = (nI (cu + 1 + 1))) ?_
        refine J_put C 0 6 in2 tyX2 tyX2_ok nmX2 ([(b 0, .inr (2, [.ref (b 1), .ref (b 2), .ref (b 3), .int (nI L), .int (nI hf), .int (nI (max g (mrNum t L cu + 1)) - 1), .int (nI (cu + 1 + 1))])), (b 1, .inl (G.2.2.1, 60, .inl (fun q => nI (t q)))), (b 2, .inl (G.2.1, 20, .inl (fun q => nI (lt q)))), (b 3, .inl (G.2.1, 40, .inl (fun q => nI (if q = t cu - 48 then letC t L (cu + 1) else ms q))))]) rfl rfl (by decide) k200 rfl rfl rfl (Nat.le_of_ble_eq_true rfl) rfl dX2_readMisreading_101 ?_
        refine J_iconst C 1 (by decide) dX2_readMisreading_104 ?_
        exact J_zret C hr rfl dX2_readMisreading_105 () rfl trivial (by rw [hnum, hpos] <;> rfl)
  · skip
    rw [show digC t L cu = -1 from if_neg hd1]
    refine J_iload_n C rfl dX2_readMisreading_5 ?_
    refine J_if_ge C 11 (by decide) dX2_readMisreading_6 (fun h => absurd h (by decide)) (fun _ => ?_)
    exact absurd hok.1 hd1

set_option maxHeartbeats 4000000 in
set_option maxRecDepth 100000 in
theorem ct_misrN (l : Launch) (G : GT) (b : Nat → Nat) (t : Nat → Nat) (L : Nat) (lt ms : Nat → Nat) (hf : Nat) (fa : Int32) (cu : Nat) (g : Nat) (hL : L ≤ 60) (hcu : cu ≤ 60) (ht : ∀ q, t q < 65536) (hg : g ≤ 40) (hfa : fa = nI g - 1) (hok : ¬ mrOk t L cu) : Ct (S := Unit) l G NoX yX2_readMisreading (Wy yX2_readMisreading cX2_readMisreading 4 ((Option.some Jvm.ClassFile.FieldType.boolean))) { frames := 2, cells := 0, slots := 0, locals := 41 } [.ref (b 0)] (txW G b t L lt ms hf fa cu) (fun u => True) (fun u => some (.int 0)) (fun u => txW G b t L lt ms hf fa (mrBad t L cu)) := by
  refine Ct.of (by decide) (Nat.le_of_ble_eq_true rfl) (fun p e s m args below meth c C hr hnm hX => ?_)
  have htc := ht cu
  have htc2 := ht (cu + 1)
  refine J_aload_n C rfl dX2_readMisreading_0 ?_
  refine J_callV (as := []) (rest := []) C (ct_digitAt l G b t L lt ms hf fa cu hL (by omega) ht) (fun u => txW G b t L lt ms hf fa cu) [0, 1, 2, 3] [] 0 k293 k295 k5 k15 k296 rfl (by decide +kernel) ⟨Nat.le_of_ble_eq_true rfl, Nat.le_of_ble_eq_true rfl⟩ ⟨Nat.le_of_ble_eq_true rfl, Nat.le_of_ble_eq_true rfl⟩ dX2_readMisreading_1 (Nat.le_of_ble_eq_true rfl) 0 rfl rfl rfl (by decide +kernel) (fun _ => rfl) ([]) rfl (fun _ => rfl) 4 (fun _ => rfl) (by decide +kernel) (by decide +kernel) (fun _ _ => ?_)
  refine J_st (st' := [.int (digC t L cu)]) rfl ?_
  refine J_istore_n C [(1, .int (digC t L cu)), (0, .ref (b 0))] (by decide) rfl dX2_readMisreading_4 ?_
  by_cases hd1 : cu < L ∧ 48 ≤ t cu ∧ t cu ≤ 57
  · skip
    rw [show digC t L cu = nI (t cu - 48) from if_pos hd1]
    refine J_iload_n C rfl dX2_readMisreading_5 ?_
    refine J_if_ge C 11 (by decide) dX2_readMisreading_6 (fun _ => ?_) (fun h => absurd h (fun q => q (nI_pos' (by omega))))
    refine J_aload_n C rfl dX2_readMisreading_11 ?_
    refine J_dup C rfl dX2_readMisreading_12 ?_
    refine J_get C 0 6 in2 rfl rfl (by decide) k200 rfl dX2_readMisreading_13 ?_
    refine J_iconst C 1 (by decide) dX2_readMisreading_16 ?_
    refine J_iadd C dX2_readMisreading_17 ?_
    refine J_i (nI_add cu 1 : ((nI cu) + 1 : Int32) = (nI (cu + 1))) ?_
    refine J_put C 0 6 in2 tyX2 tyX2_ok nmX2 ([(b 0, .inr (2, [.ref (b 1), .ref (b 2), .ref (b 3), .int (nI L), .int (nI hf), .int fa, .int (nI (cu + 1))])), (b 1, .inl (G.2.2.1, 60, .inl (fun q => nI (t q)))), (b 2, .inl (G.2.1, 20, .inl (fun q => nI (lt q)))), (b 3, .inl (G.2.1, 40, .inl (fun q => nI (ms q))))]) rfl rfl (by decide) k200 rfl rfl rfl (Nat.le_of_ble_eq_true rfl) rfl dX2_readMisreading_18 ?_
    refine J_aload_n C rfl dX2_readMisreading_21 ?_
    refine J_callV (as := []) (rest := []) C (ct_digitAt l G b t L lt ms hf fa (cu + 1) hL (by omega) ht) (fun u => [(b 0, .inr (2, [.ref (b 1), .ref (b 2), .ref (b 3), .int (nI L), .int (nI hf), .int fa, .int (nI (cu + 1))])), (b 1, .inl (G.2.2.1, 60, .inl (fun q => nI (t q)))), (b 2, .inl (G.2.1, 20, .inl (fun q => nI (lt q)))), (b 3, .inl (G.2.1, 40, .inl (fun q => nI (ms q))))]) [0, 1, 2, 3] [] 0 k293 k295 k5 k15 k296 rfl (by decide +kernel) ⟨Nat.le_of_ble_eq_true rfl, Nat.le_of_ble_eq_true rfl⟩ ⟨Nat.le_of_ble_eq_true rfl, Nat.le_of_ble_eq_true rfl⟩ dX2_readMisreading_22 (Nat.le_of_ble_eq_true rfl) 0 rfl rfl rfl (by decide +kernel) (fun _ => rfl) ([]) rfl (fun _ => rfl) 4 (fun _ => rfl) (by decide +kernel) (by decide +kernel) (fun _ _ => ?_)
    refine J_st (st' := [.int (digC t L (cu + 1))]) rfl ?_
    refine J_istore_n C [(2, .int (digC t L (cu + 1))), (1, .int (nI (t cu - 48))), (0, .ref (b 0))] (by decide) rfl dX2_readMisreading_25 ?_
    by_cases hd2 : cu + 1 < L ∧ 48 ≤ t (cu + 1) ∧ t (cu + 1) ≤ 57
    · skip
      rw [show digC t L (cu + 1) = nI (t (cu + 1) - 48) from if_pos hd2]
      refine J_iload_n C rfl dX2_readMisreading_26 ?_
      refine J_if_eq C 62 (by decide) dX2_readMisreading_27 (fun c27 => ?_) (fun c27 => ?_)
      · skip
        have c27 := cv_eq_t (a := (t cu - 48)) (b := 0) (by omega) (by omega) c27
        have hnum : mrNum t L cu = t cu - 48 := by unfold mrNum; rw [if_neg (by omega)]
        have hpos : mrPos t L cu = cu + 1 := by unfold mrPos; rw [if_neg (by omega)]
        have hlb := letC_le t L (cu + 1)
        have hz : letC t L (cu + 1) = 0 := Classical.byContradiction fun q => hok ⟨hd1, by rw [hpos]; exact q⟩
        refine J_aload_n C rfl dX2_readMisreading_62 ?_
        refine J_callV (as := []) (rest := []) C (ct_letterAt l G b t L lt ms hf fa (cu + 1) hL (by omega) ht) (fun u => [(b 0, .inr (2, [.ref (b 1), .ref (b 2), .ref (b 3), .int (nI L), .int (nI hf), .int fa, .int (nI (cu + 1))])), (b 1, .inl (G.2.2.1, 60, .inl (fun q => nI (t q)))), (b 2, .inl (G.2.1, 20, .inl (fun q => nI (lt q)))), (b 3, .inl (G.2.1, 40, .inl (fun q => nI (ms q))))]) [0, 1, 2, 3] [] 0 k274 k276 k1 k15 k277 rfl (by decide +kernel) ⟨Nat.le_of_ble_eq_true rfl, Nat.le_of_ble_eq_true rfl⟩ ⟨Nat.le_of_ble_eq_true rfl, Nat.le_of_ble_eq_true rfl⟩ dX2_readMisreading_63 (Nat.le_of_ble_eq_true rfl) 0 rfl rfl rfl (by decide +kernel) (fun _ => rfl) ([]) rfl (fun _ => rfl) 4 (fun _ => rfl) (by decide +kernel) (by decide +kernel) (fun _ _ => ?_)
        refine J_st (st' := [.int (nI (letC t L (cu + 1)))]) rfl ?_
        refine J_istore_n C [(3, .int (nI (letC t L (cu + 1)))), (2, .int (nI (t (cu + 1) - 48))), (1, .int (nI (t cu - 48))), (0, .ref (b 0))] (by decide) rfl dX2_readMisreading_66 ?_
        refine J_iload_n C rfl dX2_readMisreading_67 ?_
        refine J_if_ne C 73 (by decide) dX2_readMisreading_68 (fun h => absurd (cv_ne_t (a := (letC t L (cu + 1))) (b := 0) (by omega) (by omega) h) (by omega)) (fun c68 => ?_)
        refine J_iconst C 0 (by decide) dX2_readMisreading_71 ?_
        exact J_zret C hr rfl dX2_readMisreading_72 () rfl trivial (by rw [show mrBad t L cu = mrPos t L cu from if_pos hd1, hpos] <;> rfl)
      · skip
        have c27 := cv_eq_f (a := (t cu - 48)) (b := 0) (by omega) (by omega) c27
        refine J_iload_n C rfl dX2_readMisreading_30 ?_
        refine J_if_lt C 62 (by decide) dX2_readMisreading_31 (fun h => absurd h (nI_pos (by omega))) (fun _ => ?_)
        refine J_iload_n C rfl dX2_readMisreading_34 ?_
        refine J_bipush C 10 (by decide) dX2_readMisreading_35 ?_
        refine J_imul C dX2_readMisreading_37 ?_
        refine J_i (pk_mul (t cu - 48) 10 : ((nI (t cu - 48)) * 10 : Int32) = (nI ((t cu - 48) * 10))) ?_
        refine J_iload_n C rfl dX2_readMisreading_38 ?_
        refine J_iadd C dX2_readMisreading_39 ?_
        refine J_i (nI_add ((t cu - 48) * 10) (t (cu + 1) - 48) : ((nI ((t cu - 48) * 10)) + (nI (t (cu + 1) - 48)) : Int32) = (nI (((t cu - 48) * 10) + (t (cu + 1) - 48)))) ?_
        refine J_bipush C 39 (by decide) dX2_readMisreading_40 ?_
        refine J_icmp_gt C 62 (by decide) dX2_readMisreading_42 (fun c42 => ?_) (fun c42 => ?_)
        · skip
          have c42 := cv_gt_t (a := (((t cu - 48) * 10) + (t (cu + 1) - 48))) (b := 39) (by omega) (by omega) c42
          have hnum : mrNum t L cu = t cu - 48 := by unfold mrNum; rw [if_neg (by omega)]
          have hpos : mrPos t L cu = cu + 1 := by unfold mrPos; rw [if_neg (by omega)]
          have hlb := letC_le t L (cu + 1)
          have hz : letC t L (cu + 1) = 0 := Classical.byContradiction fun q => hok ⟨hd1, by rw [hpos]; exact q⟩
          refine J_aload_n C rfl dX2_readMisreading_62 ?_
          refine J_callV (as := []) (rest := []) C (ct_letterAt l G b t L lt ms hf fa (cu + 1) hL (by omega) ht) (fun u => [(b 0, .inr (2, [.ref (b 1), .ref (b 2), .ref (b 3), .int (nI L), .int (nI hf), .int fa, .int (nI (cu + 1))])), (b 1, .inl (G.2.2.1, 60, .inl (fun q => nI (t q)))), (b 2, .inl (G.2.1, 20, .inl (fun q => nI (lt q)))), (b 3, .inl (G.2.1, 40, .inl (fun q => nI (ms q))))]) [0, 1, 2, 3] [] 0 k274 k276 k1 k15 k277 rfl (by decide +kernel) ⟨Nat.le_of_ble_eq_true rfl, Nat.le_of_ble_eq_true rfl⟩ ⟨Nat.le_of_ble_eq_true rfl, Nat.le_of_ble_eq_true rfl⟩ dX2_readMisreading_63 (Nat.le_of_ble_eq_true rfl) 0 rfl rfl rfl (by decide +kernel) (fun _ => rfl) ([]) rfl (fun _ => rfl) 4 (fun _ => rfl) (by decide +kernel) (by decide +kernel) (fun _ _ => ?_)
          refine J_st (st' := [.int (nI (letC t L (cu + 1)))]) rfl ?_
          refine J_istore_n C [(3, .int (nI (letC t L (cu + 1)))), (2, .int (nI (t (cu + 1) - 48))), (1, .int (nI (t cu - 48))), (0, .ref (b 0))] (by decide) rfl dX2_readMisreading_66 ?_
          refine J_iload_n C rfl dX2_readMisreading_67 ?_
          refine J_if_ne C 73 (by decide) dX2_readMisreading_68 (fun h => absurd (cv_ne_t (a := (letC t L (cu + 1))) (b := 0) (by omega) (by omega) h) (by omega)) (fun c68 => ?_)
          refine J_iconst C 0 (by decide) dX2_readMisreading_71 ?_
          exact J_zret C hr rfl dX2_readMisreading_72 () rfl trivial (by rw [show mrBad t L cu = mrPos t L cu from if_pos hd1, hpos] <;> rfl)
        · skip
          have c42 := cv_gt_f (a := (((t cu - 48) * 10) + (t (cu + 1) - 48))) (b := 39) (by omega) (by omega) c42
          refine J_iload_n C rfl dX2_readMisreading_45 ?_
          refine J_bipush C 10 (by decide) dX2_readMisreading_46 ?_
          refine J_imul C dX2_readMisreading_48 ?_
          refine J_i (pk_mul (t cu - 48) 10 : ((nI (t cu - 48)) * 10 : Int32) = (nI ((t cu - 48) * 10))) ?_
          refine J_iload_n C rfl dX2_readMisreading_49 ?_
          refine J_iadd C dX2_readMisreading_50 ?_
          refine J_i (nI_add ((t cu - 48) * 10) (t (cu + 1) - 48) : ((nI ((t cu - 48) * 10)) + (nI (t (cu + 1) - 48)) : Int32) = (nI (((t cu - 48) * 10) + (t (cu + 1) - 48)))) ?_
          refine J_istore_n C [(1, .int (nI (((t cu - 48) * 10) + (t (cu + 1) - 48)))), (2, .int (nI (t (cu + 1) - 48))), (0, .ref (b 0))] (by decide) rfl dX2_readMisreading_51 ?_
          refine J_aload_n C rfl dX2_readMisreading_52 ?_
          refine J_dup C rfl dX2_readMisreading_53 ?_
          refine J_get C 0 6 in2 rfl rfl (by decide) k200 rfl dX2_readMisreading_54 ?_
          refine J_iconst C 1 (by decide) dX2_readMisreading_57 ?_
          refine J_iadd C dX2_readMisreading_58 ?_
          refine J_i (nI_add (cu + 1) 1 : ((nI (cu + 1)) + 1 : Int32) = (nI (cu + 1 + 1))) ?_
          refine J_put C 0 6 in2 tyX2 tyX2_ok nmX2 ([(b 0, .inr (2, [.ref (b 1), .ref (b 2), .ref (b 3), .int (nI L), .int (nI hf), .int fa, .int (nI (cu + 1 + 1))])), (b 1, .inl (G.2.2.1, 60, .inl (fun q => nI (t q)))), (b 2, .inl (G.2.1, 20, .inl (fun q => nI (lt q)))), (b 3, .inl (G.2.1, 40, .inl (fun q => nI (ms q))))]) rfl rfl (by decide) k200 rfl rfl rfl (Nat.le_of_ble_eq_true rfl) rfl dX2_readMisreading_59 ?_
          have hnum : mrNum t L cu = (t cu - 48) * 10 + (t (cu + 1) - 48) := by unfold mrNum; rw [if_pos (by omega)]
          have hpos : mrPos t L cu = cu + 2 := by unfold mrPos; rw [if_pos (by omega)]
          have hlb := letC_le t L (cu + 2)
          have hz : letC t L (cu + 2) = 0 := Classical.byContradiction fun q => hok ⟨hd1, by rw [hpos]; exact q⟩
          refine J_aload_n C rfl dX2_readMisreading_62 ?_
          refine J_callV (as := []) (rest := []) C (ct_letterAt l G b t L lt ms hf fa (cu + 2) hL (by omega) ht) (fun u => [(b 0, .inr (2, [.ref (b 1), .ref (b 2), .ref (b 3), .int (nI L), .int (nI hf), .int fa, .int (nI (cu + 1 + 1))])), (b 1, .inl (G.2.2.1, 60, .inl (fun q => nI (t q)))), (b 2, .inl (G.2.1, 20, .inl (fun q => nI (lt q)))), (b 3, .inl (G.2.1, 40, .inl (fun q => nI (ms q))))]) [0, 1, 2, 3] [] 0 k274 k276 k1 k15 k277 rfl (by decide +kernel) ⟨Nat.le_of_ble_eq_true rfl, Nat.le_of_ble_eq_true rfl⟩ ⟨Nat.le_of_ble_eq_true rfl, Nat.le_of_ble_eq_true rfl⟩ dX2_readMisreading_63 (Nat.le_of_ble_eq_true rfl) 0 rfl rfl rfl (by decide +kernel) (fun _ => rfl) ([]) rfl (fun _ => rfl) 4 (fun _ => rfl) (by decide +kernel) (by decide +kernel) (fun _ _ => ?_)
          refine J_st (st' := [.int (nI (letC t L (cu + 2)))]) rfl ?_
          refine J_istore_n C [(3, .int (nI (letC t L (cu + 2)))), (1, .int (nI (((t cu - 48) * 10) + (t (cu + 1) - 48)))), (2, .int (nI (t (cu + 1) - 48))), (0, .ref (b 0))] (by decide) rfl dX2_readMisreading_66 ?_
          refine J_iload_n C rfl dX2_readMisreading_67 ?_
          refine J_if_ne C 73 (by decide) dX2_readMisreading_68 (fun h => absurd (cv_ne_t (a := (letC t L (cu + 2))) (b := 0) (by omega) (by omega) h) (by omega)) (fun c68 => ?_)
          refine J_iconst C 0 (by decide) dX2_readMisreading_71 ?_
          exact J_zret C hr rfl dX2_readMisreading_72 () rfl trivial (by rw [show mrBad t L cu = mrPos t L cu from if_pos hd1, hpos] <;> rfl)
    · skip
      rw [show digC t L (cu + 1) = -1 from if_neg hd2]
      refine J_iload_n C rfl dX2_readMisreading_26 ?_
      refine J_if_eq C 62 (by decide) dX2_readMisreading_27 (fun c27 => ?_) (fun c27 => ?_)
      · skip
        have c27 := cv_eq_t (a := (t cu - 48)) (b := 0) (by omega) (by omega) c27
        have hnum : mrNum t L cu = t cu - 48 := by unfold mrNum; rw [if_neg (by omega)]
        have hpos : mrPos t L cu = cu + 1 := by unfold mrPos; rw [if_neg (by omega)]
        have hlb := letC_le t L (cu + 1)
        have hz : letC t L (cu + 1) = 0 := Classical.byContradiction fun q => hok ⟨hd1, by rw [hpos]; exact q⟩
        refine J_aload_n C rfl dX2_readMisreading_62 ?_
        refine J_callV (as := []) (rest := []) C (ct_letterAt l G b t L lt ms hf fa (cu + 1) hL (by omega) ht) (fun u => [(b 0, .inr (2, [.ref (b 1), .ref (b 2), .ref (b 3), .int (nI L), .int (nI hf), .int fa, .int (nI (cu + 1))])), (b 1, .inl (G.2.2.1, 60, .inl (fun q => nI (t q)))), (b 2, .inl (G.2.1, 20, .inl (fun q => nI (lt q)))), (b 3, .inl (G.2.1, 40, .inl (fun q => nI (ms q))))]) [0, 1, 2, 3] [] 0 k274 k276 k1 k15 k277 rfl (by decide +kernel) ⟨Nat.le_of_ble_eq_true rfl, Nat.le_of_ble_eq_true rfl⟩ ⟨Nat.le_of_ble_eq_true rfl, Nat.le_of_ble_eq_true rfl⟩ dX2_readMisreading_63 (Nat.le_of_ble_eq_true rfl) 0 rfl rfl rfl (by decide +kernel) (fun _ => rfl) ([]) rfl (fun _ => rfl) 4 (fun _ => rfl) (by decide +kernel) (by decide +kernel) (fun _ _ => ?_)
        refine J_st (st' := [.int (nI (letC t L (cu + 1)))]) rfl ?_
        refine J_istore_n C [(3, .int (nI (letC t L (cu + 1)))), (2, .int (-1)), (1, .int (nI (t cu - 48))), (0, .ref (b 0))] (by decide) rfl dX2_readMisreading_66 ?_
        refine J_iload_n C rfl dX2_readMisreading_67 ?_
        refine J_if_ne C 73 (by decide) dX2_readMisreading_68 (fun h => absurd (cv_ne_t (a := (letC t L (cu + 1))) (b := 0) (by omega) (by omega) h) (by omega)) (fun c68 => ?_)
        refine J_iconst C 0 (by decide) dX2_readMisreading_71 ?_
        exact J_zret C hr rfl dX2_readMisreading_72 () rfl trivial (by rw [show mrBad t L cu = mrPos t L cu from if_pos hd1, hpos] <;> rfl)
      · skip
        have c27 := cv_eq_f (a := (t cu - 48)) (b := 0) (by omega) (by omega) c27
        refine J_iload_n C rfl dX2_readMisreading_30 ?_
        refine J_if_lt C 62 (by decide) dX2_readMisreading_31 (fun _ => ?_) (fun h => absurd h (by decide))
        have hnum : mrNum t L cu = t cu - 48 := by unfold mrNum; rw [if_neg (by omega)]
        have hpos : mrPos t L cu = cu + 1 := by unfold mrPos; rw [if_neg (by omega)]
        have hlb := letC_le t L (cu + 1)
        have hz : letC t L (cu + 1) = 0 := Classical.byContradiction fun q => hok ⟨hd1, by rw [hpos]; exact q⟩
        refine J_aload_n C rfl dX2_readMisreading_62 ?_
        refine J_callV (as := []) (rest := []) C (ct_letterAt l G b t L lt ms hf fa (cu + 1) hL (by omega) ht) (fun u => [(b 0, .inr (2, [.ref (b 1), .ref (b 2), .ref (b 3), .int (nI L), .int (nI hf), .int fa, .int (nI (cu + 1))])), (b 1, .inl (G.2.2.1, 60, .inl (fun q => nI (t q)))), (b 2, .inl (G.2.1, 20, .inl (fun q => nI (lt q)))), (b 3, .inl (G.2.1, 40, .inl (fun q => nI (ms q))))]) [0, 1, 2, 3] [] 0 k274 k276 k1 k15 k277 rfl (by decide +kernel) ⟨Nat.le_of_ble_eq_true rfl, Nat.le_of_ble_eq_true rfl⟩ ⟨Nat.le_of_ble_eq_true rfl, Nat.le_of_ble_eq_true rfl⟩ dX2_readMisreading_63 (Nat.le_of_ble_eq_true rfl) 0 rfl rfl rfl (by decide +kernel) (fun _ => rfl) ([]) rfl (fun _ => rfl) 4 (fun _ => rfl) (by decide +kernel) (by decide +kernel) (fun _ _ => ?_)
        refine J_st (st' := [.int (nI (letC t L (cu + 1)))]) rfl ?_
        refine J_istore_n C [(3, .int (nI (letC t L (cu + 1)))), (2, .int (-1)), (1, .int (nI (t cu - 48))), (0, .ref (b 0))] (by decide) rfl dX2_readMisreading_66 ?_
        refine J_iload_n C rfl dX2_readMisreading_67 ?_
        refine J_if_ne C 73 (by decide) dX2_readMisreading_68 (fun h => absurd (cv_ne_t (a := (letC t L (cu + 1))) (b := 0) (by omega) (by omega) h) (by omega)) (fun c68 => ?_)
        refine J_iconst C 0 (by decide) dX2_readMisreading_71 ?_
        exact J_zret C hr rfl dX2_readMisreading_72 () rfl trivial (by rw [show mrBad t L cu = mrPos t L cu from if_pos hd1, hpos] <;> rfl)
  · skip
    rw [show digC t L cu = -1 from if_neg hd1]
    refine J_iload_n C rfl dX2_readMisreading_5 ?_
    refine J_if_ge C 11 (by decide) dX2_readMisreading_6 (fun h => absurd h (by decide)) (fun _ => ?_)
    refine J_iconst C 0 (by decide) dX2_readMisreading_9 ?_
    exact J_zret C hr rfl dX2_readMisreading_10 () rfl trivial (by rw [show mrBad t L cu = cu from if_neg hd1] <;> rfl)

set_option maxHeartbeats 4000000 in
set_option maxRecDepth 100000 in
theorem ct_findFault (l : Launch) (G : GT) (b : Nat → Nat) (t : Nat → Nat) (L : Nat) (lt ms : Nat → Nat) (hf : Nat) (fa : Int32) (cu : Nat)  (hL : L ≤ 60) (ht : ∀ q, t q < 65536) : Ct (S := Unit) l G NoX yX2_findFault (Wy yX2_findFault cX2_findFault 2 ((Option.some Jvm.ClassFile.FieldType.int))) { frames := 3, cells := 0, slots := 0, locals := 64 } [.ref (b 0)] (txW G b t L lt ms hf fa cu) (fun u => True) (fun u => some (.int (if (psF t L).1 = 0 then -1 else nI (psF t L).2.1))) (fun u => txW G b t L (fun q => if q < halfN t L then letC t L q else lt q) ((psF t L).2.2.1) (halfN t L) (nI (psF t L).2.2.2 - 1) ((psF t L).2.1)) := by
  refine Ct.of (by decide) (Nat.le_of_ble_eq_true rfl) (fun p e s m args below meth c C hr hnm hX => ?_)
  have hh := halfN_le t L
  refine J_aload_n C rfl dX2_findFault_0 ?_
  refine J_callV (as := []) (rest := []) C (ct_readHalf l G b t L lt ms hf fa cu hL ht) (fun u => txW G b t L (fun q => if q < halfN t L then letC t L q else lt q) (fun _ => 0) (halfN t L) (-1) (halfN t L)) [0, 1, 2, 3] [] 0 k267 k269 k0 k15 k270 rfl (by decide +kernel) ⟨Nat.le_of_ble_eq_true rfl, Nat.le_of_ble_eq_true rfl⟩ ⟨Nat.le_of_ble_eq_true rfl, Nat.le_of_ble_eq_true rfl⟩ dX2_findFault_1 (Nat.le_of_ble_eq_true rfl) 0 rfl rfl rfl (by decide +kernel) (fun _ => rfl) ([]) rfl (fun _ => rfl) 4 (fun _ => rfl) (by decide +kernel) (by decide +kernel) (fun _ _ => ?_)
  refine J_st (st' := []) rfl ?_
  refine J_aload_n C rfl dX2_findFault_4 ?_
  refine J_get C 0 4 in2 rfl rfl (by decide) k197 rfl dX2_findFault_5 ?_
  refine J_if_ne C 16 (by decide) dX2_findFault_8 (fun c8 => ?_) (fun c8 => ?_)
  · skip
    have c8 := cv_ne_t (a := (halfN t L)) (b := 0) (by omega) (by omega) c8
    refine J_aload_n C rfl dX2_findFault_16 ?_
    refine J_get C 0 6 in2 rfl rfl (by decide) k200 rfl dX2_findFault_17 ?_
    refine J_aload_n C rfl dX2_findFault_20 ?_
    refine J_get C 0 3 in2 rfl rfl (by decide) k193 rfl dX2_findFault_21 ?_
    refine J_icmp_ne C 29 (by decide) dX2_findFault_24 (fun c24 => ?_) (fun c24 => ?_)
    · skip
      have c24 := cv_ne_t (a := (halfN t L)) (b := L) (by omega) (by omega) c24
      by_cases hs : halfN t L < L ∧ t (halfN t L) = 33
      · skip
        refine J_aload_n C rfl dX2_findFault_29 ?_
        refine J_bipush C 33 (by decide) dX2_findFault_30 ?_
        refine J_callV (as := [.int 33]) (rest := []) C (ct_skipY l G b t L (fun q => if q < halfN t L then letC t L q else lt q) (fun _ => 0) (halfN t L) (-1) (halfN t L) 33 hL (by omega) ht (by decide) hs) (fun u => txW G b t L (fun q => if q < halfN t L then letC t L q else lt q) (fun _ => 0) (halfN t L) (-1) ((halfN t L) + 1)) [0, 1, 2, 3] [] 1 k285 k287 k3 k15 k288 rfl (by decide +kernel) ⟨Nat.le_of_ble_eq_true rfl, Nat.le_of_ble_eq_true rfl⟩ ⟨Nat.le_of_ble_eq_true rfl, Nat.le_of_ble_eq_true rfl⟩ dX2_findFault_32 (Nat.le_of_ble_eq_true rfl) 0 rfl rfl rfl (by decide +kernel) (fun _ => rfl) ([]) rfl (fun _ => rfl) 4 (fun _ => rfl) (by decide +kernel) (by decide +kernel) (fun _ _ => ?_)
        refine J_st (st' := [.int 1]) rfl ?_
        refine J_if_ne C 43 (by decide) dX2_findFault_35 (fun _ => ?_) (fun h => absurd h (by decide))
        refine J_iconst C 0 (by decide) dX2_findFault_43 ?_
        refine J_istore_n C [(1, .int 0), (0, .ref (b 0))] (by decide) rfl dX2_findFault_44 ?_
        refine J_lvp [1, 0] [(0, .ref (b 0)), (1, .int 0)] rfl ?_
        have hps : psF t L = pmF t L 60 (halfN t L + 1) (fun _ => 0) 0 := by unfold psF; rw [if_neg (by omega), if_neg (by omega), if_pos hs.2]
        refine J_loop (σ := Nat × Nat × (Nat → Nat) × Nat) (fun x => txW G b t L (fun q => if q < halfN t L then letC t L q else lt q) x.2.2.1 (halfN t L) (nI x.2.2.2 - 1) x.2.1) (fun x => [(0, .ref (b 0)), (1, .int (nI x.1))]) (fun x => x.1 ≤ 60 ∧ L < (60 - x.1) + x.2.1 ∧ x.2.1 ≤ L ∧ x.2.2.2 ≤ 40 ∧ pmF t L (60 - x.1) x.2.1 x.2.2.1 x.2.2.2 = psF t L) (fun x => 60 - x.1) (fun x hx ih => ?_) (0, halfN t L + 1, (fun _ => 0), 0) ⟨Nat.zero_le _, by show L < 60 - 0 + (halfN t L + 1); omega, by show halfN t L + 1 ≤ L; omega, Nat.zero_le _, hps.symm⟩ rfl rfl
        obtain ⟨hx1, hx2, hx3, hx4, hx5⟩ := hx
        obtain ⟨i, hie⟩ : ∃ i, i = x.1 := ⟨_, rfl⟩
        rw [← hie] at hx1 hx2 hx5 ⊢
        refine J_iload_n C rfl dX2_findFault_45 ?_
        refine J_bipush C 60 (by decide) dX2_findFault_46 ?_
        refine J_icmp_ge C 96 (by decide) dX2_findFault_48 (fun h => absurd (cv_ge_t (a := i) (b := 60) (by omega) (by omega) h) (by omega)) (fun c48 => ?_)
        by_cases hok : mrOk t L x.2.1
        · skip
          have hml := mrOk_lt hok
          have hnl := mrNum_le hok.1
          have hpl := mrPos_le t L x.2.1
          refine J_aload_n C rfl dX2_findFault_51 ?_
          refine J_callV (as := []) (rest := []) C (ct_misrY l G b t L (fun q => if q < halfN t L then letC t L q else lt q) x.2.2.1 (halfN t L) (nI x.2.2.2 - 1) x.2.1 x.2.2.2 hL (by omega) ht hx4 rfl hok) (fun u => txW G b t L (fun q => if q < halfN t L then letC t L q else lt q) (upN x.2.2.1 (mrNum t L x.2.1) (letC t L (mrPos t L x.2.1))) (halfN t L) (nI (max x.2.2.2 (mrNum t L x.2.1 + 1)) - 1) (mrPos t L x.2.1 + 1)) [0, 1, 2, 3] [] 0 k289 k291 k4 k15 k292 rfl (by decide +kernel) ⟨Nat.le_of_ble_eq_true rfl, Nat.le_of_ble_eq_true rfl⟩ ⟨Nat.le_of_ble_eq_true rfl, Nat.le_of_ble_eq_true rfl⟩ dX2_findFault_52 (Nat.le_of_ble_eq_true rfl) 0 rfl rfl rfl (by decide +kernel) (fun _ => rfl) ([]) rfl (fun _ => rfl) 4 (fun _ => rfl) (by decide +kernel) (by decide +kernel) (fun _ _ => ?_)
          refine J_st (st' := [.int 1]) rfl ?_
          refine J_if_ne C 63 (by decide) dX2_findFault_55 (fun _ => ?_) (fun h => absurd h (by decide))
          refine J_aload_n C rfl dX2_findFault_63 ?_
          refine J_get C 0 6 in2 rfl rfl (by decide) k200 rfl dX2_findFault_64 ?_
          refine J_aload_n C rfl dX2_findFault_67 ?_
          refine J_get C 0 3 in2 rfl rfl (by decide) k193 rfl dX2_findFault_68 ?_
          refine J_icmp_ne C 76 (by decide) dX2_findFault_71 (fun c71 => ?_) (fun c71 => ?_)
          · skip
            have c71 := cv_ne_t (a := (mrPos t L x.2.1 + 1)) (b := L) (by omega) (by omega) c71
            have hne : ¬ mrPos t L x.2.1 + 1 = L := c71
            by_cases hs2 : mrPos t L x.2.1 + 1 < L ∧ t (mrPos t L x.2.1 + 1) = 44
            · skip
              refine J_aload_n C rfl dX2_findFault_76 ?_
              refine J_bipush C 44 (by decide) dX2_findFault_77 ?_
              refine J_callV (as := [.int 44]) (rest := []) C (ct_skipY l G b t L (fun q => if q < halfN t L then letC t L q else lt q) (upN x.2.2.1 (mrNum t L x.2.1) (letC t L (mrPos t L x.2.1))) (halfN t L) (nI (max x.2.2.2 (mrNum t L x.2.1 + 1)) - 1) (mrPos t L x.2.1 + 1) 44 hL (by omega) ht (by decide) hs2) (fun u => txW G b t L (fun q => if q < halfN t L then letC t L q else lt q) (upN x.2.2.1 (mrNum t L x.2.1) (letC t L (mrPos t L x.2.1))) (halfN t L) (nI (max x.2.2.2 (mrNum t L x.2.1 + 1)) - 1) ((mrPos t L x.2.1 + 1) + 1)) [0, 1, 2, 3] [] 1 k285 k287 k3 k15 k288 rfl (by decide +kernel) ⟨Nat.le_of_ble_eq_true rfl, Nat.le_of_ble_eq_true rfl⟩ ⟨Nat.le_of_ble_eq_true rfl, Nat.le_of_ble_eq_true rfl⟩ dX2_findFault_79 (Nat.le_of_ble_eq_true rfl) 0 rfl rfl rfl (by decide +kernel) (fun _ => rfl) ([]) rfl (fun _ => rfl) 4 (fun _ => rfl) (by decide +kernel) (by decide +kernel) (fun _ _ => ?_)
              refine J_st (st' := [.int 1]) rfl ?_
              refine J_if_ne C 90 (by decide) dX2_findFault_82 (fun _ => ?_) (fun h => absurd h (by decide))
              refine J_iinc C (nI (i + 1)) [(1, .int (nI (i + 1))), (0, .ref (b 0))] 1 rfl (by first | exact nI_add _ 1 | rfl) (by decide) rfl dX2_findFault_90 ?_
              refine J_goto C 45 (by decide) dX2_findFault_93 ?_
              refine J_lvp [1, 0] [(0, .ref (b 0)), (1, .int (nI (i + 1)))] rfl ?_
              exact ih (⟨i + 1, mrPos t L x.2.1 + 2, upN x.2.2.1 (mrNum t L x.2.1) (letC t L (mrPos t L x.2.1)), max x.2.2.2 (mrNum t L x.2.1 + 1)⟩) ⟨by omega, by show L < (60 - (i + 1)) + (mrPos t L x.2.1 + 2); omega, by show mrPos t L x.2.1 + 2 ≤ L; omega, by show max _ _ ≤ 40; omega, by show pmF t L (60 - (i + 1)) (mrPos t L x.2.1 + 2) _ _ = _; rw [← hx5, show 60 - i = (60 - (i + 1)) + 1 by omega, pmF_s, if_pos hok, if_neg hne, if_pos hs2.2]⟩ (by show 60 - (i + 1) < 60 - x.1; omega)
            · skip
              refine J_aload_n C rfl dX2_findFault_76 ?_
              refine J_bipush C 44 (by decide) dX2_findFault_77 ?_
              refine J_callV (as := [.int 44]) (rest := []) C (ct_skipN l G b t L (fun q => if q < halfN t L then letC t L q else lt q) (upN x.2.2.1 (mrNum t L x.2.1) (letC t L (mrPos t L x.2.1))) (halfN t L) (nI (max x.2.2.2 (mrNum t L x.2.1 + 1)) - 1) (mrPos t L x.2.1 + 1) 44 hL (by omega) ht (by decide) hs2) (fun u => txW G b t L (fun q => if q < halfN t L then letC t L q else lt q) (upN x.2.2.1 (mrNum t L x.2.1) (letC t L (mrPos t L x.2.1))) (halfN t L) (nI (max x.2.2.2 (mrNum t L x.2.1 + 1)) - 1) (mrPos t L x.2.1 + 1)) [0, 1, 2, 3] [] 1 k285 k287 k3 k15 k288 rfl (by decide +kernel) ⟨Nat.le_of_ble_eq_true rfl, Nat.le_of_ble_eq_true rfl⟩ ⟨Nat.le_of_ble_eq_true rfl, Nat.le_of_ble_eq_true rfl⟩ dX2_findFault_79 (Nat.le_of_ble_eq_true rfl) 0 rfl rfl rfl (by decide +kernel) (fun _ => rfl) ([]) rfl (fun _ => rfl) 4 (fun _ => rfl) (by decide +kernel) (by decide +kernel) (fun _ _ => ?_)
              refine J_st (st' := [.int 0]) rfl ?_
              refine J_if_ne C 90 (by decide) dX2_findFault_82 (fun h => absurd h (by decide)) (fun _ => ?_)
              refine J_aload_n C rfl dX2_findFault_85 ?_
              refine J_get C 0 6 in2 rfl rfl (by decide) k200 rfl dX2_findFault_86 ?_
              have hpe : psF t L = (1, mrPos t L x.2.1 + 1, upN x.2.2.1 (mrNum t L x.2.1) (letC t L (mrPos t L x.2.1)), max x.2.2.2 (mrNum t L x.2.1 + 1)) := by rw [← hx5, show 60 - i = (59 - i) + 1 by omega, pmF_s, if_pos hok, if_neg hne, if_neg (by omega)]
              exact J_zret C hr rfl dX2_findFault_89 () (by rw [hpe] <;> rfl) trivial (by rw [hpe] <;> rfl)
          · skip
            have c71 := cv_ne_f (a := (mrPos t L x.2.1 + 1)) (b := L) (by omega) (by omega) c71
            have hne : mrPos t L x.2.1 + 1 = L := c71
            refine J_iconst C (-1) (by decide) dX2_findFault_74 ?_
            have hpe : psF t L = (0, L, upN x.2.2.1 (mrNum t L x.2.1) (letC t L (mrPos t L x.2.1)), max x.2.2.2 (mrNum t L x.2.1 + 1)) := by rw [← hx5, show 60 - i = (59 - i) + 1 by omega, pmF_s, if_pos hok, if_pos hne]
            exact J_zret C hr rfl dX2_findFault_75 () (by rw [hpe] <;> rfl) trivial (by rw [hpe, hne] <;> rfl)
        · skip
          refine J_aload_n C rfl dX2_findFault_51 ?_
          refine J_callV (as := []) (rest := []) C (ct_misrN l G b t L (fun q => if q < halfN t L then letC t L q else lt q) x.2.2.1 (halfN t L) (nI x.2.2.2 - 1) x.2.1 x.2.2.2 hL (by omega) ht hx4 rfl hok) (fun u => txW G b t L (fun q => if q < halfN t L then letC t L q else lt q) x.2.2.1 (halfN t L) (nI x.2.2.2 - 1) (mrBad t L x.2.1)) [0, 1, 2, 3] [] 0 k289 k291 k4 k15 k292 rfl (by decide +kernel) ⟨Nat.le_of_ble_eq_true rfl, Nat.le_of_ble_eq_true rfl⟩ ⟨Nat.le_of_ble_eq_true rfl, Nat.le_of_ble_eq_true rfl⟩ dX2_findFault_52 (Nat.le_of_ble_eq_true rfl) 0 rfl rfl rfl (by decide +kernel) (fun _ => rfl) ([]) rfl (fun _ => rfl) 4 (fun _ => rfl) (by decide +kernel) (by decide +kernel) (fun _ _ => ?_)
          refine J_st (st' := [.int 0]) rfl ?_
          refine J_if_ne C 63 (by decide) dX2_findFault_55 (fun h => absurd h (by decide)) (fun _ => ?_)
          refine J_aload_n C rfl dX2_findFault_58 ?_
          refine J_get C 0 6 in2 rfl rfl (by decide) k200 rfl dX2_findFault_59 ?_
          have hpe : psF t L = (1, mrBad t L x.2.1, x.2.2.1, x.2.2.2) := by rw [← hx5, show 60 - i = (59 - i) + 1 by omega, pmF_s, if_neg hok]
          exact J_zret C hr rfl dX2_findFault_62 () (by rw [hpe] <;> rfl) trivial (by rw [hpe] <;> rfl)
      · skip
        refine J_aload_n C rfl dX2_findFault_29 ?_
        refine J_bipush C 33 (by decide) dX2_findFault_30 ?_
        refine J_callV (as := [.int 33]) (rest := []) C (ct_skipN l G b t L (fun q => if q < halfN t L then letC t L q else lt q) (fun _ => 0) (halfN t L) (-1) (halfN t L) 33 hL (by omega) ht (by decide) hs) (fun u => txW G b t L (fun q => if q < halfN t L then letC t L q else lt q) (fun _ => 0) (halfN t L) (-1) (halfN t L)) [0, 1, 2, 3] [] 1 k285 k287 k3 k15 k288 rfl (by decide +kernel) ⟨Nat.le_of_ble_eq_true rfl, Nat.le_of_ble_eq_true rfl⟩ ⟨Nat.le_of_ble_eq_true rfl, Nat.le_of_ble_eq_true rfl⟩ dX2_findFault_32 (Nat.le_of_ble_eq_true rfl) 0 rfl rfl rfl (by decide +kernel) (fun _ => rfl) ([]) rfl (fun _ => rfl) 4 (fun _ => rfl) (by decide +kernel) (by decide +kernel) (fun _ _ => ?_)
        refine J_st (st' := [.int 0]) rfl ?_
        refine J_if_ne C 43 (by decide) dX2_findFault_35 (fun h => absurd h (by decide)) (fun _ => ?_)
        refine J_aload_n C rfl dX2_findFault_38 ?_
        refine J_get C 0 6 in2 rfl rfl (by decide) k200 rfl dX2_findFault_39 ?_
        have hpe : psF t L = (1, halfN t L, (fun _ => 0), 0) := by unfold psF; rw [if_neg (by omega), if_neg (by omega), if_neg (by omega)]
        exact J_zret C hr rfl dX2_findFault_42 () (by rw [hpe] <;> rfl) trivial (by rw [hpe] <;> rfl)
    · skip
      have c24 := cv_ne_f (a := (halfN t L)) (b := L) (by omega) (by omega) c24
      refine J_iconst C (-1) (by decide) dX2_findFault_27 ?_
      have hpe : psF t L = (0, L, (fun _ => 0), 0) := by unfold psF; rw [if_neg (by omega), if_pos (by omega)]
      have hzL : halfN t L = L := by omega
      exact J_zret C hr rfl dX2_findFault_28 () (by rw [hpe] <;> rfl) trivial (by rw [hpe, hzL] <;> rfl)
  · skip
    have c8 := cv_ne_f (a := (halfN t L)) (b := 0) (by omega) (by omega) c8
    refine J_aload_n C rfl dX2_findFault_11 ?_
    refine J_get C 0 6 in2 rfl rfl (by decide) k200 rfl dX2_findFault_12 ?_
    have hpe : psF t L = (1, 0, (fun _ => 0), 0) := by unfold psF; rw [if_pos (by omega)]
    have hz0 : halfN t L = 0 := by omega
    exact J_zret C hr rfl dX2_findFault_15 () (by rw [hpe, hz0] <;> rfl) trivial (by rw [hpe, hz0] <;> rfl)

set_option maxHeartbeats 4000000 in
set_option maxRecDepth 100000 in
theorem ct_appendN (l : Launch) (G : GT) (b : Nat → Nat) (t : Nat → Nat) (L : Nat) (lt ms : Nat → Nat) (hf : Nat) (fa : Int32) (cu : Nat) (x : Nat) (hL : L = 60) : Ct (S := Unit) l G NoX yX2_append (Wy yX2_append cX2_append 2 ((Option.some Jvm.ClassFile.FieldType.boolean))) { frames := 0, cells := 0, slots := 0, locals := 0 } [.ref (b 0), .int (nI x)] (txW G b t L lt ms hf fa cu) (fun u => True) (fun u => some (.int 0)) (fun u => txW G b t L lt ms hf fa cu) := by
  refine Ct.of (by decide) (Nat.le_of_ble_eq_true rfl) (fun p e s m args below meth c C hr hnm hX => ?_)
  refine J_aload_n C rfl dX2_append_0 ?_
  refine J_get C 0 3 in2 rfl rfl (by decide) k193 rfl dX2_append_1 ?_
  refine J_if_lt C 19 (by decide) dX2_append_4 (fun h => absurd h (nI_pos (by omega))) (fun _ => ?_)
  refine J_aload_n C rfl dX2_append_7 ?_
  refine J_get C 0 3 in2 rfl rfl (by decide) k193 rfl dX2_append_8 ?_
  refine J_aload_n C rfl dX2_append_11 ?_
  refine J_get C 0 0 in2 rfl rfl (by decide) k188 rfl dX2_append_12 ?_
  refine J_clen C 1 rfl dX2_append_15 ?_
  refine J_icmp_lt C 21 (by decide) dX2_append_16 (fun h => absurd (cv_lt_t (a := L) (b := 60) (by omega) (by omega) h) (by omega)) (fun c16 => ?_)
  refine J_iconst C 0 (by decide) dX2_append_19 ?_
  exact J_zret C hr rfl dX2_append_20 () rfl trivial rfl

set_option maxHeartbeats 4000000 in
set_option maxRecDepth 100000 in
theorem ct_appendY (l : Launch) (G : GT) (b : Nat → Nat) (t : Nat → Nat) (L : Nat) (lt ms : Nat → Nat) (hf : Nat) (fa : Int32) (cu : Nat) (x : Nat) (hL : L < 60) (hx : x < 65536) : Ct (S := Unit) l G NoX yX2_append (Wy yX2_append cX2_append 2 ((Option.some Jvm.ClassFile.FieldType.boolean))) { frames := 0, cells := 0, slots := 0, locals := 0 } [.ref (b 0), .int (nI x)] (txW G b t L lt ms hf fa cu) (fun u => True) (fun u => some (.int 1)) (fun u => txW G b (fun q => if q = L then x else t q) (L + 1) lt ms hf fa cu) := by
  refine Ct.of (by decide) (Nat.le_of_ble_eq_true rfl) (fun p e s m args below meth c C hr hnm hX => ?_)
  refine J_aload_n C rfl dX2_append_0 ?_
  refine J_get C 0 3 in2 rfl rfl (by decide) k193 rfl dX2_append_1 ?_
  refine J_if_lt C 19 (by decide) dX2_append_4 (fun h => absurd h (nI_pos (by omega))) (fun _ => ?_)
  refine J_aload_n C rfl dX2_append_7 ?_
  refine J_get C 0 3 in2 rfl rfl (by decide) k193 rfl dX2_append_8 ?_
  refine J_aload_n C rfl dX2_append_11 ?_
  refine J_get C 0 0 in2 rfl rfl (by decide) k188 rfl dX2_append_12 ?_
  refine J_clen C 1 rfl dX2_append_15 ?_
  refine J_icmp_lt C 21 (by decide) dX2_append_16 (fun c16 => ?_) (fun h => absurd (cv_lt_f (a := L) (b := 60) (by omega) (by omega) h) (by omega))
  refine J_aload_n C rfl dX2_append_21 ?_
  refine J_get C 0 0 in2 rfl rfl (by decide) k188 rfl dX2_append_22 ?_
  refine J_aload_n C rfl dX2_append_25 ?_
  refine J_get C 0 3 in2 rfl rfl (by decide) k193 rfl dX2_append_26 ?_
  refine J_iload_n C rfl dX2_append_29 ?_
  refine J_cast C 1 ([(b 0, .inr (2, [.ref (b 1), .ref (b 2), .ref (b 3), .int (nI L), .int (nI hf), .int fa, .int (nI cu)])), (b 1, .inl (G.2.2.1, 60, .inl (upd (fun q => nI (t q)) L (vp_nar .char (nI x))))), (b 2, .inl (G.2.1, 20, .inl (fun q => nI (lt q)))), (b 3, .inl (G.2.1, 40, .inl (fun q => nI (ms q))))]) rfl L rfl (by omega) (Nat.le_of_ble_eq_true rfl) rfl dX2_append_30 ?_
  refine J_ws (ws' := [(b 0, .inr (2, [.ref (b 1), .ref (b 2), .ref (b 3), .int (nI L), .int (nI hf), .int fa, .int (nI cu)])), (b 1, .inl (G.2.2.1, 60, .inl (fun q => nI (if q = L then x else t q)))), (b 2, .inl (G.2.1, 20, .inl (fun q => nI (lt q)))), (b 3, .inl (G.2.1, 40, .inl (fun q => nI (ms q))))]) (by rw [nar_c hx, upd_nI]) ?_
  refine J_aload_n C rfl dX2_append_31 ?_
  refine J_dup C rfl dX2_append_32 ?_
  refine J_get C 0 3 in2 rfl rfl (by decide) k193 rfl dX2_append_33 ?_
  refine J_iconst C 1 (by decide) dX2_append_36 ?_
  refine J_iadd C dX2_append_37 ?_
  refine J_i (nI_add L 1 : ((nI L) + 1 : Int32) = (nI (L + 1))) ?_
  refine J_put C 0 3 in2 tyX2 tyX2_ok nmX2 ([(b 0, .inr (2, [.ref (b 1), .ref (b 2), .ref (b 3), .int (nI (L + 1)), .int (nI hf), .int fa, .int (nI cu)])), (b 1, .inl (G.2.2.1, 60, .inl (fun q => nI (if q = L then x else t q)))), (b 2, .inl (G.2.1, 20, .inl (fun q => nI (lt q)))), (b 3, .inl (G.2.1, 40, .inl (fun q => nI (ms q))))]) rfl rfl (by decide) k193 rfl rfl rfl (Nat.le_of_ble_eq_true rfl) rfl dX2_append_38 ?_
  refine J_iconst C 1 (by decide) dX2_append_41 ?_
  exact J_zret C hr rfl dX2_append_42 () rfl trivial rfl
