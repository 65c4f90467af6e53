theorem corF_m (σ : AS) (j : Nat) : corF σ j = up2 (up2 (up2 (up2 (up2 (up2 σ 3 j (dueAt σ j)) 4 j 0) 5 j 1) 0 6 (σ 0 6 - dueAt σ j)) 0 8 (σ 0 8 + dueAt σ j)) 0 5 (σ 0 5 + 1) := by
  unfold corF
  rw [up2_cc (k := 5) (k' := 6) (by omega), up2_cc (k := 5) (k' := 8) (by omega)]

set_option maxHeartbeats 4000000 in
set_option maxRecDepth 100000 in
theorem ct_mMr1 (l : Launch) (G : GT) (mo : Nat → Nat) (σ : AS) (kf tf H sf df xf : Nat → Nat) (hn ik tl sp rd : Nat) (gr : Int32) (x y : Int32) (hI : Inv σ) (hx : ¬ isPl σ x) : Ct (S := Unit) l G NoX yX6_misread (Wy yX6_misread cX6_misread 4 ((Option.some Jvm.ClassFile.FieldType.int))) { frames := 2, cells := 0, slots := 0, locals := 46 } [.ref (mo 0), .int x, .int y] (mdW G mo σ kf tf H sf df xf hn ik tl sp rd gr) (fun u => True) (fun u => some (.int (-1))) (fun u => mdW G mo σ kf tf H sf df xf hn ik tl sp rd gr) := by
  refine Ct.of (by decide) (Nat.le_of_ble_eq_true rfl) (fun p e s m args below meth c C hr hnm hX => ?_)
  have h40 := hI.a
  have hc := hI.c
  have hi := hI.i
  have hs := hI.s
  refine J_aload_n C rfl dX6_misread_0 ?_
  refine J_iload_n C rfl dX6_misread_1 ?_
  refine J_callV (as := [.int x]) (rest := []) C (ct_isPlN l G mo σ kf tf H sf df xf hn ik tl sp rd gr x (by omega) hx) (fun u => mdW G mo σ kf tf H sf df xf hn ik tl sp rd gr) [0, 1, 2, 3, 4, 5, 6, 7] [] 1 k650 k652 k15 k38 k653 rfl (by decide +kernel) ⟨Nat.le_of_ble_eq_true rfl, Nat.le_of_ble_eq_true rfl⟩ ⟨Nat.le_of_ble_eq_true rfl, Nat.le_of_ble_eq_true rfl⟩ dX6_misread_2 (Nat.le_of_ble_eq_true rfl) 0 rfl rfl rfl (by decide +kernel) (fun _ => rfl) ([]) rfl (fun _ => rfl) 8 (fun _ => rfl) (by decide +kernel) (by decide +kernel) (fun _ _ => ?_)
  refine J_st (st' := [.int 0]) rfl ?_
  refine J_if_ne C 10 (by decide) dX6_misread_5 (fun h => absurd h (by decide)) (fun _ => ?_)
  refine J_iconst C (-1) (by decide) dX6_misread_8 ?_
  exact J_zret C hr rfl dX6_misread_9 () rfl trivial rfl

set_option maxHeartbeats 4000000 in
set_option maxRecDepth 100000 in
theorem ct_mMr2 (l : Launch) (G : GT) (mo : Nat → Nat) (σ : AS) (kf tf H sf df xf : Nat → Nat) (hn ik tl sp rd : Nat) (gr : Int32) (j : Nat) (y : Int32) (hI : Inv σ) (hj : j < σ 0 4) (hy : ¬ (0 ≤ y.toInt ∧ y.toInt ≤ 26)) : Ct (S := Unit) l G NoX yX6_misread (Wy yX6_misread cX6_misread 4 ((Option.some Jvm.ClassFile.FieldType.int))) { frames := 2, cells := 0, slots := 0, locals := 46 } [.ref (mo 0), .int (nI j), .int y] (mdW G mo σ kf tf H sf df xf hn ik tl sp rd gr) (fun u => True) (fun u => some (.int (-2))) (fun u => mdW G mo σ kf tf H sf df xf hn ik tl sp rd gr) := by
  refine Ct.of (by decide) (Nat.le_of_ble_eq_true rfl) (fun p e s m args below meth c C hr hnm hX => ?_)
  have h40 := hI.a
  have hc := hI.c
  have hi := hI.i
  have hs := hI.s
  have hq := hI.q (q := j) (by omega)
  have hdu := hI.due hj
  have hpl := isPl_nI h40.1 hj
  refine J_aload_n C rfl dX6_misread_0 ?_
  refine J_iload_n C rfl dX6_misread_1 ?_
  refine J_callV (as := [.int (nI j)]) (rest := []) C (ct_isPlY l G mo σ kf tf H sf df xf hn ik tl sp rd gr (nI j) (by omega) hpl) (fun u => mdW G mo σ kf tf H sf df xf hn ik tl sp rd gr) [0, 1, 2, 3, 4, 5, 6, 7] [] 1 k650 k652 k15 k38 k653 rfl (by decide +kernel) ⟨Nat.le_of_ble_eq_true rfl, Nat.le_of_ble_eq_true rfl⟩ ⟨Nat.le_of_ble_eq_true rfl, Nat.le_of_ble_eq_true rfl⟩ dX6_misread_2 (Nat.le_of_ble_eq_true rfl) 0 rfl rfl rfl (by decide +kernel) (fun _ => rfl) ([]) rfl (fun _ => rfl) 8 (fun _ => rfl) (by decide +kernel) (by decide +kernel) (fun _ _ => ?_)
  refine J_st (st' := [.int 1]) rfl ?_
  refine J_if_ne C 10 (by decide) dX6_misread_5 (fun _ => ?_) (fun h => absurd h (by decide))
  refine J_iload_n C rfl dX6_misread_10 ?_
  refine J_i2l C dX6_misread_11 ?_
  refine J_lconst C 0 (by decide) dX6_misread_12 ?_
  refine J_ldc2 C k654 dX6_misread_13 ?_
  refine J_callS (as := [.long y.toInt64, .long 0, .long 26]) (rest := []) C (ct_inN l G y.toInt64 0 26 (fun q => absurd ((in32 (zl := 0) (zh := 26) rfl rfl).mp q) hy)) (fun u => mdW G mo σ kf tf H sf df xf hn ik tl sp rd gr) [] [0, 1, 2, 3, 4, 5, 6, 7] 3 k627 k628 k38 k629 rfl (by decide +kernel) ⟨Nat.le_of_ble_eq_true rfl, Nat.le_of_ble_eq_true rfl⟩ ⟨Nat.le_of_ble_eq_true rfl, Nat.le_of_ble_eq_true rfl⟩ dX6_misread_16 (Nat.le_of_ble_eq_true rfl) rfl (by decide +kernel) (fun _ => rfl) (mdW G mo σ kf tf H sf df xf hn ik tl sp rd gr) rfl (fun _ => rfl) 8 (fun _ => rfl) (by decide +kernel) (by decide +kernel) (fun _ _ => ?_)
  refine J_st (st' := [.int 0]) rfl ?_
  refine J_if_ne C 25 (by decide) dX6_misread_19 (fun h => absurd h (by decide)) (fun _ => ?_)
  refine J_bipush C (-2) (by decide) dX6_misread_22 ?_
  exact J_zret C hr rfl dX6_misread_24 () rfl trivial rfl

set_option maxHeartbeats 4000000 in
set_option maxRecDepth 100000 in
theorem ct_mMr3 (l : Launch) (G : GT) (mo : Nat → Nat) (σ : AS) (kf tf H sf df xf : Nat → Nat) (hn ik tl sp rd : Nat) (gr : Int32) (j k : Nat) (hI : Inv σ) (hj : j < σ 0 4) (hk : k ≤ 26) (hbg : begunP σ j) : Ct (S := Unit) l G NoX yX6_misread (Wy yX6_misread cX6_misread 4 ((Option.some Jvm.ClassFile.FieldType.int))) { frames := 2, cells := 0, slots := 0, locals := 46 } [.ref (mo 0), .int (nI j), .int (nI k)] (mdW G mo σ kf tf H sf df xf hn ik tl sp rd gr) (fun u => True) (fun u => some (.int (-4))) (fun u => mdW G mo σ kf tf H sf df xf hn ik tl sp rd gr) := by
  refine Ct.of (by decide) (Nat.le_of_ble_eq_true rfl) (fun p e s m args below meth c C hr hnm hX => ?_)
  have h40 := hI.a
  have hc := hI.c
  have hi := hI.i
  have hs := hI.s
  have hq := hI.q (q := j) (by omega)
  have hdu := hI.due hj
  have hpl := isPl_nI h40.1 hj
  refine J_aload_n C rfl dX6_misread_0 ?_
  refine J_iload_n C rfl dX6_misread_1 ?_
  refine J_callV (as := [.int (nI j)]) (rest := []) C (ct_isPlY l G mo σ kf tf H sf df xf hn ik tl sp rd gr (nI j) (by omega) hpl) (fun u => mdW G mo σ kf tf H sf df xf hn ik tl sp rd gr) [0, 1, 2, 3, 4, 5, 6, 7] [] 1 k650 k652 k15 k38 k653 rfl (by decide +kernel) ⟨Nat.le_of_ble_eq_true rfl, Nat.le_of_ble_eq_true rfl⟩ ⟨Nat.le_of_ble_eq_true rfl, Nat.le_of_ble_eq_true rfl⟩ dX6_misread_2 (Nat.le_of_ble_eq_true rfl) 0 rfl rfl rfl (by decide +kernel) (fun _ => rfl) ([]) rfl (fun _ => rfl) 8 (fun _ => rfl) (by decide +kernel) (by decide +kernel) (fun _ _ => ?_)
  refine J_st (st' := [.int 1]) rfl ?_
  refine J_if_ne C 10 (by decide) dX6_misread_5 (fun _ => ?_) (fun h => absurd h (by decide))
  refine J_iload_n C rfl dX6_misread_10 ?_
  refine J_i2l C dX6_misread_11 ?_
  refine J_lconst C 0 (by decide) dX6_misread_12 ?_
  refine J_ldc2 C k654 dX6_misread_13 ?_
  refine J_callS (as := [.long ((nI k).toInt64), .long 0, .long 26]) (rest := []) C (ct_inY l G ((nI k).toInt64) 0 26 ((in32 (zl := 0) (zh := 26) rfl rfl).mpr (by rw [nI_toInt (by omega)]; omega))) (fun u => mdW G mo σ kf tf H sf df xf hn ik tl sp rd gr) [] [0, 1, 2, 3, 4, 5, 6, 7] 3 k627 k628 k38 k629 rfl (by decide +kernel) ⟨Nat.le_of_ble_eq_true rfl, Nat.le_of_ble_eq_true rfl⟩ ⟨Nat.le_of_ble_eq_true rfl, Nat.le_of_ble_eq_true rfl⟩ dX6_misread_16 (Nat.le_of_ble_eq_true rfl) rfl (by decide +kernel) (fun _ => rfl) (mdW G mo σ kf tf H sf df xf hn ik tl sp rd gr) rfl (fun _ => rfl) 8 (fun _ => rfl) (by decide +kernel) (by decide +kernel) (fun _ _ => ?_)
  refine J_st (st' := [.int 1]) rfl ?_
  refine J_if_ne C 25 (by decide) dX6_misread_19 (fun _ => ?_) (fun h => absurd h (by decide))
  refine J_aload_n C rfl dX6_misread_25 ?_
  refine J_iload_n C rfl dX6_misread_26 ?_
  refine J_callV (as := [.int (nI j)]) (rest := []) C (ct_mBegun l G mo σ kf tf H sf df xf hn ik tl sp rd gr j hI hj) (fun u => mdW G mo σ kf tf H sf df xf hn ik tl sp rd gr) [0, 1, 2, 3, 4, 5, 6, 7] [] 1 k655 k657 k16 k38 k658 rfl (by decide +kernel) ⟨Nat.le_of_ble_eq_true rfl, Nat.le_of_ble_eq_true rfl⟩ ⟨Nat.le_of_ble_eq_true rfl, Nat.le_of_ble_eq_true rfl⟩ dX6_misread_27 (Nat.le_of_ble_eq_true rfl) 0 rfl rfl rfl (by decide +kernel) (fun _ => rfl) ([]) rfl (fun _ => rfl) 8 (fun _ => rfl) (by decide +kernel) (by decide +kernel) (fun _ _ => ?_)
  refine J_st (st' := [.int (if 0 < σ 3 j ∨ (0 < σ 0 16 ∧ σ 0 14 = j) ∨ (0 < σ 0 17 ∧ σ 0 4 - 1 - σ 0 15 = j) then 1 else 0)]) rfl ?_
  refine J_if_eq C 36 (by decide) dX6_misread_30 (fun h => absurd h (fun q => by rw [if_pos (show 0 < σ 3 j ∨ (0 < σ 0 16 ∧ σ 0 14 = j) ∨ (0 < σ 0 17 ∧ σ 0 4 - 1 - σ 0 15 = j) from by first | assumption | omega)] at q; exact absurd q (by decide))) (fun _ => ?_)
  refine J_bipush C (-4) (by decide) dX6_misread_33 ?_
  exact J_zret C hr rfl dX6_misread_35 () rfl trivial rfl

set_option maxHeartbeats 4000000 in
set_option maxRecDepth 100000 in
theorem ct_mMr4 (l : Launch) (G : GT) (mo : Nat → Nat) (σ : AS) (kf tf H sf df xf : Nat → Nat) (hn ik tl sp rd : Nat) (gr : Int32) (j k : Nat) (hI : Inv σ) (hj : j < σ 0 4) (hk : k ≤ 26) (hbg : ¬ begunP σ j) (he : σ 2 j = k) : Ct (S := Unit) l G NoX yX6_misread (Wy yX6_misread cX6_misread 4 ((Option.some Jvm.ClassFile.FieldType.int))) { frames := 2, cells := 0, slots := 0, locals := 46 } [.ref (mo 0), .int (nI j), .int (nI k)] (mdW G mo σ kf tf H sf df xf hn ik tl sp rd gr) (fun u => True) (fun u => some (.int (-5))) (fun u => mdW G mo σ kf tf H sf df xf hn ik tl sp rd gr) := by
  refine Ct.of (by decide) (Nat.le_of_ble_eq_true rfl) (fun p e s m args below meth c C hr hnm hX => ?_)
  have h40 := hI.a
  have hc := hI.c
  have hi := hI.i
  have hs := hI.s
  have hq := hI.q (q := j) (by omega)
  have hdu := hI.due hj
  have hpl := isPl_nI h40.1 hj
  refine J_aload_n C rfl dX6_misread_0 ?_
  refine J_iload_n C rfl dX6_misread_1 ?_
  refine J_callV (as := [.int (nI j)]) (rest := []) C (ct_isPlY l G mo σ kf tf H sf df xf hn ik tl sp rd gr (nI j) (by omega) hpl) (fun u => mdW G mo σ kf tf H sf df xf hn ik tl sp rd gr) [0, 1, 2, 3, 4, 5, 6, 7] [] 1 k650 k652 k15 k38 k653 rfl (by decide +kernel) ⟨Nat.le_of_ble_eq_true rfl, Nat.le_of_ble_eq_true rfl⟩ ⟨Nat.le_of_ble_eq_true rfl, Nat.le_of_ble_eq_true rfl⟩ dX6_misread_2 (Nat.le_of_ble_eq_true rfl) 0 rfl rfl rfl (by decide +kernel) (fun _ => rfl) ([]) rfl (fun _ => rfl) 8 (fun _ => rfl) (by decide +kernel) (by decide +kernel) (fun _ _ => ?_)
  refine J_st (st' := [.int 1]) rfl ?_
  refine J_if_ne C 10 (by decide) dX6_misread_5 (fun _ => ?_) (fun h => absurd h (by decide))
  refine J_iload_n C rfl dX6_misread_10 ?_
  refine J_i2l C dX6_misread_11 ?_
  refine J_lconst C 0 (by decide) dX6_misread_12 ?_
  refine J_ldc2 C k654 dX6_misread_13 ?_
  refine J_callS (as := [.long ((nI k).toInt64), .long 0, .long 26]) (rest := []) C (ct_inY l G ((nI k).toInt64) 0 26 ((in32 (zl := 0) (zh := 26) rfl rfl).mpr (by rw [nI_toInt (by omega)]; omega))) (fun u => mdW G mo σ kf tf H sf df xf hn ik tl sp rd gr) [] [0, 1, 2, 3, 4, 5, 6, 7] 3 k627 k628 k38 k629 rfl (by decide +kernel) ⟨Nat.le_of_ble_eq_true rfl, Nat.le_of_ble_eq_true rfl⟩ ⟨Nat.le_of_ble_eq_true rfl, Nat.le_of_ble_eq_true rfl⟩ dX6_misread_16 (Nat.le_of_ble_eq_true rfl) rfl (by decide +kernel) (fun _ => rfl) (mdW G mo σ kf tf H sf df xf hn ik tl sp rd gr) rfl (fun _ => rfl) 8 (fun _ => rfl) (by decide +kernel) (by decide +kernel) (fun _ _ => ?_)
  refine J_st (st' := [.int 1]) rfl ?_
  refine J_if_ne C 25 (by decide) dX6_misread_19 (fun _ => ?_) (fun h => absurd h (by decide))
  refine J_aload_n C rfl dX6_misread_25 ?_
  refine J_iload_n C rfl dX6_misread_26 ?_
  refine J_callV (as := [.int (nI j)]) (rest := []) C (ct_mBegun l G mo σ kf tf H sf df xf hn ik tl sp rd gr j hI hj) (fun u => mdW G mo σ kf tf H sf df xf hn ik tl sp rd gr) [0, 1, 2, 3, 4, 5, 6, 7] [] 1 k655 k657 k16 k38 k658 rfl (by decide +kernel) ⟨Nat.le_of_ble_eq_true rfl, Nat.le_of_ble_eq_true rfl⟩ ⟨Nat.le_of_ble_eq_true rfl, Nat.le_of_ble_eq_true rfl⟩ dX6_misread_27 (Nat.le_of_ble_eq_true rfl) 0 rfl rfl rfl (by decide +kernel) (fun _ => rfl) ([]) rfl (fun _ => rfl) 8 (fun _ => rfl) (by decide +kernel) (by decide +kernel) (fun _ _ => ?_)
  refine J_st (st' := [.int (if 0 < σ 3 j ∨ (0 < σ 0 16 ∧ σ 0 14 = j) ∨ (0 < σ 0 17 ∧ σ 0 4 - 1 - σ 0 15 = j) then 1 else 0)]) rfl ?_
  refine J_if_eq C 36 (by decide) dX6_misread_30 (fun _ => ?_) (fun h => absurd h (fun q => q (by rw [if_neg (show ¬ (0 < σ 3 j ∨ (0 < σ 0 16 ∧ σ 0 14 = j) ∨ (0 < σ 0 17 ∧ σ 0 4 - 1 - σ 0 15 = j)) from by first | assumption | omega)])))
  refine J_aload_n C rfl dX6_misread_36 ?_
  refine J_get C 0 0 in6 rfl rfl (by decide) k575 rfl dX6_misread_37 ?_
  refine J_bipush C 46 (by decide) dX6_misread_40 ?_
  refine J_iload_n C rfl dX6_misread_42 ?_
  refine J_iadd C dX6_misread_43 ?_
  refine J_i (nI_add 46 j : (46 + (nI j) : Int32) = (nI (46 + j))) ?_
  refine J_iald C 1 rfl (46 + j) rfl (by omega) (Nat.le_of_ble_eq_true rfl) dX6_misread_44 ?_
  refine J_i (y := nI (σ 2 j)) (congrArg nI (rowM_2 σ (by omega))) ?_
  refine J_iload_n C rfl dX6_misread_45 ?_
  refine J_icmp_ne C 52 (by decide) dX6_misread_46 (fun h => absurd (cv_ne_t (a := (σ 2 j)) (b := k) (by omega) (by omega) h) (by omega)) (fun c46 => ?_)
  refine J_bipush C (-5) (by decide) dX6_misread_49 ?_
  exact J_zret C hr rfl dX6_misread_51 () rfl trivial rfl

set_option maxHeartbeats 4000000 in
set_option maxRecDepth 100000 in
theorem ct_mMrY (l : Launch) (G : GT) (mo : Nat → Nat) (σ : AS) (kf tf H sf df xf : Nat → Nat) (hn ik tl sp rd : Nat) (gr : Int32) (j k : Nat) (hI : Inv σ) (h4 : hn ≤ 4) (hj : j < σ 0 4) (hk : k ≤ 26) (hbg : ¬ begunP σ j) (he : ¬ σ 2 j = k) : Ct (S := Unit) l G NoX yX6_misread (Wy yX6_misread cX6_misread 4 ((Option.some Jvm.ClassFile.FieldType.int))) { frames := 2, cells := 0, slots := 0, locals := 46 } [.ref (mo 0), .int (nI j), .int (nI k)] (mdW G mo σ kf tf H sf df xf hn ik tl sp rd gr) (fun u => True) (fun u => some (.int (nI (letAt σ j)))) (fun u => mdW G mo (up2 σ 2 j k) (rowM σ) tf (endH H (rowM σ) hn) sf df xf (sizeF hn) ik tl sp rd gr) := by
  refine Ct.of (by decide) (Nat.le_of_ble_eq_true rfl) (fun p e s m args below meth c C hr hnm hX => ?_)
  have h40 := hI.a
  have hc := hI.c
  have hi := hI.i
  have hs := hI.s
  have hq := hI.q (q := j) (by omega)
  have hdu := hI.due hj
  have hpl := isPl_nI h40.1 hj
  refine J_aload_n C rfl dX6_misread_0 ?_
  refine J_iload_n C rfl dX6_misread_1 ?_
  refine J_callV (as := [.int (nI j)]) (rest := []) C (ct_isPlY l G mo σ kf tf H sf df xf hn ik tl sp rd gr (nI j) (by omega) hpl) (fun u => mdW G mo σ kf tf H sf df xf hn ik tl sp rd gr) [0, 1, 2, 3, 4, 5, 6, 7] [] 1 k650 k652 k15 k38 k653 rfl (by decide +kernel) ⟨Nat.le_of_ble_eq_true rfl, Nat.le_of_ble_eq_true rfl⟩ ⟨Nat.le_of_ble_eq_true rfl, Nat.le_of_ble_eq_true rfl⟩ dX6_misread_2 (Nat.le_of_ble_eq_true rfl) 0 rfl rfl rfl (by decide +kernel) (fun _ => rfl) ([]) rfl (fun _ => rfl) 8 (fun _ => rfl) (by decide +kernel) (by decide +kernel) (fun _ _ => ?_)
  refine J_st (st' := [.int 1]) rfl ?_
  refine J_if_ne C 10 (by decide) dX6_misread_5 (fun _ => ?_) (fun h => absurd h (by decide))
  refine J_iload_n C rfl dX6_misread_10 ?_
  refine J_i2l C dX6_misread_11 ?_
  refine J_lconst C 0 (by decide) dX6_misread_12 ?_
  refine J_ldc2 C k654 dX6_misread_13 ?_
  refine J_callS (as := [.long ((nI k).toInt64), .long 0, .long 26]) (rest := []) C (ct_inY l G ((nI k).toInt64) 0 26 ((in32 (zl := 0) (zh := 26) rfl rfl).mpr (by rw [nI_toInt (by omega)]; omega))) (fun u => mdW G mo σ kf tf H sf df xf hn ik tl sp rd gr) [] [0, 1, 2, 3, 4, 5, 6, 7] 3 k627 k628 k38 k629 rfl (by decide +kernel) ⟨Nat.le_of_ble_eq_true rfl, Nat.le_of_ble_eq_true rfl⟩ ⟨Nat.le_of_ble_eq_true rfl, Nat.le_of_ble_eq_true rfl⟩ dX6_misread_16 (Nat.le_of_ble_eq_true rfl) rfl (by decide +kernel) (fun _ => rfl) (mdW G mo σ kf tf H sf df xf hn ik tl sp rd gr) rfl (fun _ => rfl) 8 (fun _ => rfl) (by decide +kernel) (by decide +kernel) (fun _ _ => ?_)
  refine J_st (st' := [.int 1]) rfl ?_
  refine J_if_ne C 25 (by decide) dX6_misread_19 (fun _ => ?_) (fun h => absurd h (by decide))
  refine J_aload_n C rfl dX6_misread_25 ?_
  refine J_iload_n C rfl dX6_misread_26 ?_
  refine J_callV (as := [.int (nI j)]) (rest := []) C (ct_mBegun l G mo σ kf tf H sf df xf hn ik tl sp rd gr j hI hj) (fun u => mdW G mo σ kf tf H sf df xf hn ik tl sp rd gr) [0, 1, 2, 3, 4, 5, 6, 7] [] 1 k655 k657 k16 k38 k658 rfl (by decide +kernel) ⟨Nat.le_of_ble_eq_true rfl, Nat.le_of_ble_eq_true rfl⟩ ⟨Nat.le_of_ble_eq_true rfl, Nat.le_of_ble_eq_true rfl⟩ dX6_misread_27 (Nat.le_of_ble_eq_true rfl) 0 rfl rfl rfl (by decide +kernel) (fun _ => rfl) ([]) rfl (fun _ => rfl) 8 (fun _ => rfl) (by decide +kernel) (by decide +kernel) (fun _ _ => ?_)
  refine J_st (st' := [.int (if 0 < σ 3 j ∨ (0 < σ 0 16 ∧ σ 0 14 = j) ∨ (0 < σ 0 17 ∧ σ 0 4 - 1 - σ 0 15 = j) then 1 else 0)]) rfl ?_
  refine J_if_eq C 36 (by decide) dX6_misread_30 (fun _ => ?_) (fun h => absurd h (fun q => q (by rw [if_neg (show ¬ (0 < σ 3 j ∨ (0 < σ 0 16 ∧ σ 0 14 = j) ∨ (0 < σ 0 17 ∧ σ 0 4 - 1 - σ 0 15 = j)) from by first | assumption | omega)])))
  refine J_aload_n C rfl dX6_misread_36 ?_
  refine J_get C 0 0 in6 rfl rfl (by decide) k575 rfl dX6_misread_37 ?_
  refine J_bipush C 46 (by decide) dX6_misread_40 ?_
  refine J_iload_n C rfl dX6_misread_42 ?_
  refine J_iadd C dX6_misread_43 ?_
  refine J_i (nI_add 46 j : (46 + (nI j) : Int32) = (nI (46 + j))) ?_
  refine J_iald C 1 rfl (46 + j) rfl (by omega) (Nat.le_of_ble_eq_true rfl) dX6_misread_44 ?_
  refine J_i (y := nI (σ 2 j)) (congrArg nI (rowM_2 σ (by omega))) ?_
  refine J_iload_n C rfl dX6_misread_45 ?_
  refine J_icmp_ne C 52 (by decide) dX6_misread_46 (fun c46 => ?_) (fun h => absurd (cv_ne_f (a := (σ 2 j)) (b := k) (by omega) (by omega) h) (by omega))
  refine J_aload_n C rfl dX6_misread_52 ?_
  refine J_callV (as := []) (rest := []) C (ct_keeps l G mo σ kf tf H sf df xf hn ik tl sp rd gr) (fun u => mdW G mo σ (rowM σ) tf H sf df xf hn ik tl sp rd gr) [0, 1, 2, 3, 4, 5, 6, 7] [] 0 k638 k640 k13 k38 k641 rfl (by decide +kernel) ⟨Nat.le_of_ble_eq_true rfl, Nat.le_of_ble_eq_true rfl⟩ ⟨Nat.le_of_ble_eq_true rfl, Nat.le_of_ble_eq_true rfl⟩ dX6_misread_53 (Nat.le_of_ble_eq_true rfl) 0 rfl rfl rfl (by decide +kernel) (fun _ => rfl) ([]) rfl (fun _ => rfl) 8 (fun _ => rfl) (by decide +kernel) (by decide +kernel) (fun _ _ => ?_)
  refine J_st (st' := []) rfl ?_
  refine J_ws (ws' := mdW G mo σ (rowM σ) tf H sf df xf hn ik tl sp rd gr) rfl ?_
  refine J_aload_n C rfl dX6_misread_56 ?_
  refine J_iload_n C rfl dX6_misread_57 ?_
  refine J_callV (as := [.int (nI j)]) (rest := []) C (ct_letAt l G mo σ (rowM σ) tf H sf df xf hn ik tl sp rd gr j (by omega) hj hq.1) (fun u => mdW G mo σ (rowM σ) tf H sf df xf hn ik tl sp rd gr) [0, 1, 2, 3, 4, 5, 6, 7] [] 1 k663 k665 k18 k38 k666 rfl (by decide +kernel) ⟨Nat.le_of_ble_eq_true rfl, Nat.le_of_ble_eq_true rfl⟩ ⟨Nat.le_of_ble_eq_true rfl, Nat.le_of_ble_eq_true rfl⟩ dX6_misread_58 (Nat.le_of_ble_eq_true rfl) 0 rfl rfl rfl (by decide +kernel) (fun _ => rfl) ([]) rfl (fun _ => rfl) 8 (fun _ => rfl) (by decide +kernel) (by decide +kernel) (fun _ _ => ?_)
  refine J_st (st' := [.int (nI (letAt σ j))]) rfl ?_
  refine J_istore_n C [(3, .int (nI (letAt σ j))), (0, .ref (mo 0)), (1, .int (nI j)), (2, .int (nI k))] (by decide) rfl dX6_misread_61 ?_
  refine J_aload_n C rfl dX6_misread_62 ?_
  refine J_get C 0 0 in6 rfl rfl (by decide) k575 rfl dX6_misread_63 ?_
  refine J_bipush C 46 (by decide) dX6_misread_66 ?_
  refine J_iload_n C rfl dX6_misread_68 ?_
  refine J_iadd C dX6_misread_69 ?_
  refine J_i (nI_add 46 j : (46 + (nI j) : Int32) = (nI (46 + j))) ?_
  refine J_iload_n C rfl dX6_misread_70 ?_
  refine J_iast C 1 ([(mo 0, .inr (6, [.ref (mo 1), .ref (mo 2), .ref (mo 3), .ref (mo 4), .int (nI hn), .ref (mo 5), .int (nI ik), .ref (mo 6), .ref (mo 7), .int (nI tl), .int (nI sp), .int (nI rd), .int gr])), (mo 1, .inl (G.2.1, 246, .inl (upd (fun q => nI ((rowM σ) q)) (46 + j) (nI k)))), (mo 2, .inl (G.2.1, 246, .inl (fun q => nI ((rowM σ) q)))), (mo 3, .inl (G.2.1, 246, .inl (fun q => nI (tf q)))), (mo 4, .inl (G.2.1, 984, .inl (fun q => nI (H q)))), (mo 5, .inl (G.2.1, 246, .inl (fun q => nI (sf q)))), (mo 6, .inl (G.2.1, 40, .inl (fun q => nI (df q)))), (mo 7, .inl (G.2.1, 60, .inl (fun q => nI (xf q))))]) rfl (46 + j) rfl (by omega) (Nat.le_of_ble_eq_true rfl) rfl dX6_misread_71 ?_
  refine J_arr 1 (fun q => nI (rowM (up2 σ 2 j k) q)) rfl (fun q _ => congrFun (rowM_u2 σ k (by omega)) q) ?_
  refine J_ws (ws' := mdW G mo (up2 σ 2 j k) (rowM σ) tf H sf df xf hn ik tl sp rd gr) rfl ?_
  refine J_aload_n C rfl dX6_misread_72 ?_
  refine J_iload_n C rfl dX6_misread_73 ?_
  refine J_callV (as := [.int (nI (letAt σ j))]) (rest := []) C (ct_ends l G mo (up2 σ 2 j k) (rowM σ) tf H sf df xf hn ik tl sp rd gr (nI (letAt σ j)) h4) (fun u => mdW G mo (up2 σ 2 j k) (rowM σ) tf (endH H (rowM σ) hn) sf df xf (sizeF hn) ik tl sp rd gr) [0, 1, 2, 3, 4, 5, 6, 7] [] 1 k642 k644 k14 k38 k645 rfl (by decide +kernel) ⟨Nat.le_of_ble_eq_true rfl, Nat.le_of_ble_eq_true rfl⟩ ⟨Nat.le_of_ble_eq_true rfl, Nat.le_of_ble_eq_true rfl⟩ dX6_misread_74 (Nat.le_of_ble_eq_true rfl) 0 rfl rfl rfl (by decide +kernel) (fun _ => rfl) ([]) rfl (fun _ => rfl) 8 (fun _ => rfl) (by decide +kernel) (by decide +kernel) (fun _ _ => ?_)
  refine J_st (st' := [.int (nI (letAt σ j))]) rfl ?_
  exact J_zret C hr rfl dX6_misread_77 () rfl trivial rfl

set_option maxHeartbeats 4000000 in
set_option maxRecDepth 100000 in
theorem ct_mCor1 (l : Launch) (G : GT) (mo : Nat → Nat) (σ : AS) (kf tf H sf df xf : Nat → Nat) (hn ik tl sp rd : Nat) (gr : Int32) (x : Int32) (hI : Inv σ) (hx : ¬ isPl σ x) : Ct (S := Unit) l G NoX yX6_correct (Wy yX6_correct cX6_correct 3 ((Option.some Jvm.ClassFile.FieldType.int))) { frames := 2, cells := 0, slots := 0, locals := 46 } [.ref (mo 0), .int x] (mdW G mo σ kf tf H sf df xf hn ik tl sp rd gr) (fun u => True) (fun u => some (.int (-1))) (fun u => mdW G mo σ kf tf H sf df xf hn ik tl sp rd gr) := by
  refine Ct.of (by decide) (Nat.le_of_ble_eq_true rfl) (fun p e s m args below meth c C hr hnm hX => ?_)
  have h40 := hI.a
  have hc := hI.c
  have hi := hI.i
  have hs := hI.s
  refine J_aload_n C rfl dX6_correct_0 ?_
  refine J_iload_n C rfl dX6_correct_1 ?_
  refine J_callV (as := [.int x]) (rest := []) C (ct_isPlN l G mo σ kf tf H sf df xf hn ik tl sp rd gr x (by omega) hx) (fun u => mdW G mo σ kf tf H sf df xf hn ik tl sp rd gr) [0, 1, 2, 3, 4, 5, 6, 7] [] 1 k650 k652 k15 k38 k653 rfl (by decide +kernel) ⟨Nat.le_of_ble_eq_true rfl, Nat.le_of_ble_eq_true rfl⟩ ⟨Nat.le_of_ble_eq_true rfl, Nat.le_of_ble_eq_true rfl⟩ dX6_correct_2 (Nat.le_of_ble_eq_true rfl) 0 rfl rfl rfl (by decide +kernel) (fun _ => rfl) ([]) rfl (fun _ => rfl) 8 (fun _ => rfl) (by decide +kernel) (by decide +kernel) (fun _ _ => ?_)
  refine J_st (st' := [.int 0]) rfl ?_
  refine J_if_ne C 10 (by decide) dX6_correct_5 (fun h => absurd h (by decide)) (fun _ => ?_)
  refine J_iconst C (-1) (by decide) dX6_correct_8 ?_
  exact J_zret C hr rfl dX6_correct_9 () rfl trivial rfl

set_option maxHeartbeats 4000000 in
set_option maxRecDepth 100000 in
theorem ct_mCor2 (l : Launch) (G : GT) (mo : Nat → Nat) (σ : AS) (kf tf H sf df xf : Nat → Nat) (hn ik tl sp rd : Nat) (gr : Int32) (j : Nat) (hI : Inv σ) (hj : j < σ 0 4) (hbg : ¬ canP σ j) : Ct (S := Unit) l G NoX yX6_correct (Wy yX6_correct cX6_correct 3 ((Option.some Jvm.ClassFile.FieldType.int))) { frames := 2, cells := 0, slots := 0, locals := 46 } [.ref (mo 0), .int (nI j)] (mdW G mo σ kf tf H sf df xf hn ik tl sp rd gr) (fun u => True) (fun u => some (.int (-4))) (fun u => mdW G mo σ kf tf H sf df xf hn ik tl sp rd gr) := by
  refine Ct.of (by decide) (Nat.le_of_ble_eq_true rfl) (fun p e s m args below meth c C hr hnm hX => ?_)
  have h40 := hI.a
  have hc := hI.c
  have hi := hI.i
  have hs := hI.s
  have hq := hI.q (q := j) (by omega)
  have hdu := hI.due hj
  have hpl := isPl_nI h40.1 hj
  have hbg2 : ¬ (0 < σ 3 j ∧ σ 0 5 < σ 7 2 ∧ dueAt σ j ≤ σ 0 6) := hbg
  refine J_aload_n C rfl dX6_correct_0 ?_
  refine J_iload_n C rfl dX6_correct_1 ?_
  refine J_callV (as := [.int (nI j)]) (rest := []) C (ct_isPlY l G mo σ kf tf H sf df xf hn ik tl sp rd gr (nI j) (by omega) hpl) (fun u => mdW G mo σ kf tf H sf df xf hn ik tl sp rd gr) [0, 1, 2, 3, 4, 5, 6, 7] [] 1 k650 k652 k15 k38 k653 rfl (by decide +kernel) ⟨Nat.le_of_ble_eq_true rfl, Nat.le_of_ble_eq_true rfl⟩ ⟨Nat.le_of_ble_eq_true rfl, Nat.le_of_ble_eq_true rfl⟩ dX6_correct_2 (Nat.le_of_ble_eq_true rfl) 0 rfl rfl rfl (by decide +kernel) (fun _ => rfl) ([]) rfl (fun _ => rfl) 8 (fun _ => rfl) (by decide +kernel) (by decide +kernel) (fun _ _ => ?_)
  refine J_st (st' := [.int 1]) rfl ?_
  refine J_if_ne C 10 (by decide) dX6_correct_5 (fun _ => ?_) (fun h => absurd h (by decide))
  refine J_aload_n C rfl dX6_correct_10 ?_
  refine J_iload_n C rfl dX6_correct_11 ?_
  refine J_callV (as := [.int (nI j)]) (rest := []) C (ct_due l G mo σ kf tf H sf df xf hn ik tl sp rd gr j (by omega) hj) (fun u => mdW G mo σ kf tf H sf df xf hn ik tl sp rd gr) [0, 1, 2, 3, 4, 5, 6, 7] [] 1 k667 k669 k19 k38 k670 rfl (by decide +kernel) ⟨Nat.le_of_ble_eq_true rfl, Nat.le_of_ble_eq_true rfl⟩ ⟨Nat.le_of_ble_eq_true rfl, Nat.le_of_ble_eq_true rfl⟩ dX6_correct_12 (Nat.le_of_ble_eq_true rfl) 0 rfl rfl rfl (by decide +kernel) (fun _ => rfl) ([]) rfl (fun _ => rfl) 8 (fun _ => rfl) (by decide +kernel) (by decide +kernel) (fun _ _ => ?_)
  refine J_st (st' := [.int (nI (dueAt σ j))]) rfl ?_
  refine J_istore_n C [(2, .int (nI (dueAt σ j))), (0, .ref (mo 0)), (1, .int (nI j))] (by decide) rfl dX6_correct_15 ?_
  refine J_aload_n C rfl dX6_correct_16 ?_
  refine J_get C 0 0 in6 rfl rfl (by decide) k575 rfl dX6_correct_17 ?_
  refine J_bipush C 86 (by decide) dX6_correct_20 ?_
  refine J_iload_n C rfl dX6_correct_22 ?_
  refine J_iadd C dX6_correct_23 ?_
  refine J_i (nI_add 86 j : (86 + (nI j) : Int32) = (nI (86 + j))) ?_
  refine J_iald C 1 rfl (86 + j) rfl (by omega) (Nat.le_of_ble_eq_true rfl) dX6_correct_24 ?_
  refine J_i (y := nI (σ 3 j)) (congrArg nI (rowM_3 σ (by omega))) ?_
  refine J_if_eq C 46 (by decide) dX6_correct_25 (fun c25 => ?_) (fun c25 => ?_)
  · skip
    have c25 := cv_eq_t (a := (σ 3 j)) (b := 0) (by omega) (by omega) c25
    refine J_bipush C (-4) (by decide) dX6_correct_46 ?_
    exact J_zret C hr rfl dX6_correct_48 () rfl trivial rfl
  · skip
    have c25 := cv_eq_f (a := (σ 3 j)) (b := 0) (by omega) (by omega) c25
    refine J_aload_n C rfl dX6_correct_28 ?_
    refine J_callV (as := []) (rest := []) C (ct_margin l G mo σ kf tf H sf df xf hn ik tl sp rd gr hI) (fun u => mdW G mo σ kf tf H sf df xf hn ik tl sp rd gr) [0, 1, 2, 3, 4, 5, 6, 7] [] 0 k675 k677 k20 k38 k678 rfl (by decide +kernel) ⟨Nat.le_of_ble_eq_true rfl, Nat.le_of_ble_eq_true rfl⟩ ⟨Nat.le_of_ble_eq_true rfl, Nat.le_of_ble_eq_true rfl⟩ dX6_correct_29 (Nat.le_of_ble_eq_true rfl) 0 rfl rfl rfl (by decide +kernel) (fun _ => rfl) ([]) rfl (fun _ => rfl) 8 (fun _ => rfl) (by decide +kernel) (by decide +kernel) (fun _ _ => ?_)
    refine J_st (st' := [.int (nI (σ 7 2 - σ 0 5))]) rfl ?_
    refine J_if_eq C 46 (by decide) dX6_correct_32 (fun c32 => ?_) (fun c32 => ?_)
    · skip
      have c32 := cv_eq_t (a := (σ 7 2 - σ 0 5)) (b := 0) (by omega) (by omega) c32
      refine J_bipush C (-4) (by decide) dX6_correct_46 ?_
      exact J_zret C hr rfl dX6_correct_48 () rfl trivial rfl
    · skip
      have c32 := cv_eq_f (a := (σ 7 2 - σ 0 5)) (b := 0) (by omega) (by omega) c32
      refine J_aload_n C rfl dX6_correct_35 ?_
      refine J_get C 0 0 in6 rfl rfl (by decide) k575 rfl dX6_correct_36 ?_
      refine J_bipush C 6 (by decide) dX6_correct_39 ?_
      refine J_iald C 1 rfl 6 rfl (by decide) (Nat.le_of_ble_eq_true rfl) dX6_correct_41 ?_
      refine J_i (y := nI (σ 0 6)) (rfl) ?_
      refine J_iload_n C rfl dX6_correct_42 ?_
      refine J_icmp_ge C 49 (by decide) dX6_correct_43 (fun h => absurd (cv_ge_t (a := (σ 0 6)) (b := (dueAt σ j)) (by omega) (by omega) h) (by omega)) (fun c43 => ?_)
      refine J_bipush C (-4) (by decide) dX6_correct_46 ?_
      exact J_zret C hr rfl dX6_correct_48 () rfl trivial rfl

set_option maxHeartbeats 4000000 in
set_option maxRecDepth 100000 in
theorem ct_mCor3 (l : Launch) (G : GT) (mo : Nat → Nat) (σ : AS) (kf tf H sf df xf : Nat → Nat) (hn ik tl sp rd : Nat) (gr : Int32) (j : Nat) (hI : Inv σ) (hj : j < σ 0 4) (hbg : canP σ j) (hg : goodP σ j) : Ct (S := Unit) l G NoX yX6_correct (Wy yX6_correct cX6_correct 3 ((Option.some Jvm.ClassFile.FieldType.int))) { frames := 2, cells := 0, slots := 0, locals := 46 } [.ref (mo 0), .int (nI j)] (mdW G mo σ kf tf H sf df xf hn ik tl sp rd gr) (fun u => True) (fun u => some (.int (-5))) (fun u => mdW G mo σ kf tf H sf df xf hn ik tl sp rd gr) := by
  refine Ct.of (by decide) (Nat.le_of_ble_eq_true rfl) (fun p e s m args below meth c C hr hnm hX => ?_)
  have h40 := hI.a
  have hc := hI.c
  have hi := hI.i
  have hs := hI.s
  have hq := hI.q (q := j) (by omega)
  have hdu := hI.due hj
  have hpl := isPl_nI h40.1 hj
  have hbg2 : 0 < σ 3 j ∧ σ 0 5 < σ 7 2 ∧ dueAt σ j ≤ σ 0 6 := hbg
  have hg2 : σ 3 j = dueAt σ j ∧ σ 4 j = 0 := hg
  refine J_aload_n C rfl dX6_correct_0 ?_
  refine J_iload_n C rfl dX6_correct_1 ?_
  refine J_callV (as := [.int (nI j)]) (rest := []) C (ct_isPlY l G mo σ kf tf H sf df xf hn ik tl sp rd gr (nI j) (by omega) hpl) (fun u => mdW G mo σ kf tf H sf df xf hn ik tl sp rd gr) [0, 1, 2, 3, 4, 5, 6, 7] [] 1 k650 k652 k15 k38 k653 rfl (by decide +kernel) ⟨Nat.le_of_ble_eq_true rfl, Nat.le_of_ble_eq_true rfl⟩ ⟨Nat.le_of_ble_eq_true rfl, Nat.le_of_ble_eq_true rfl⟩ dX6_correct_2 (Nat.le_of_ble_eq_true rfl) 0 rfl rfl rfl (by decide +kernel) (fun _ => rfl) ([]) rfl (fun _ => rfl) 8 (fun _ => rfl) (by decide +kernel) (by decide +kernel) (fun _ _ => ?_)
  refine J_st (st' := [.int 1]) rfl ?_
  refine J_if_ne C 10 (by decide) dX6_correct_5 (fun _ => ?_) (fun h => absurd h (by decide))
  refine J_aload_n C rfl dX6_correct_10 ?_
  refine J_iload_n C rfl dX6_correct_11 ?_
  refine J_callV (as := [.int (nI j)]) (rest := []) C (ct_due l G mo σ kf tf H sf df xf hn ik tl sp rd gr j (by omega) hj) (fun u => mdW G mo σ kf tf H sf df xf hn ik tl sp rd gr) [0, 1, 2, 3, 4, 5, 6, 7] [] 1 k667 k669 k19 k38 k670 rfl (by decide +kernel) ⟨Nat.le_of_ble_eq_true rfl, Nat.le_of_ble_eq_true rfl⟩ ⟨Nat.le_of_ble_eq_true rfl, Nat.le_of_ble_eq_true rfl⟩ dX6_correct_12 (Nat.le_of_ble_eq_true rfl) 0 rfl rfl rfl (by decide +kernel) (fun _ => rfl) ([]) rfl (fun _ => rfl) 8 (fun _ => rfl) (by decide +kernel) (by decide +kernel) (fun _ _ => ?_)
  refine J_st (st' := [.int (nI (dueAt σ j))]) rfl ?_
  refine J_istore_n C [(2, .int (nI (dueAt σ j))), (0, .ref (mo 0)), (1, .int (nI j))] (by decide) rfl dX6_correct_15 ?_
  refine J_aload_n C rfl dX6_correct_16 ?_
  refine J_get C 0 0 in6 rfl rfl (by decide) k575 rfl dX6_correct_17 ?_
  refine J_bipush C 86 (by decide) dX6_correct_20 ?_
  refine J_iload_n C rfl dX6_correct_22 ?_
  refine J_iadd C dX6_correct_23 ?_
  refine J_i (nI_add 86 j : (86 + (nI j) : Int32) = (nI (86 + j))) ?_
  refine J_iald C 1 rfl (86 + j) rfl (by omega) (Nat.le_of_ble_eq_true rfl) dX6_correct_24 ?_
  refine J_i (y := nI (σ 3 j)) (congrArg nI (rowM_3 σ (by omega))) ?_
  refine J_if_eq C 46 (by decide) dX6_correct_25 (fun h => absurd (cv_eq_t (a := (σ 3 j)) (b := 0) (by omega) (by omega) h) (by omega)) (fun c25 => ?_)
  refine J_aload_n C rfl dX6_correct_28 ?_
  refine J_callV (as := []) (rest := []) C (ct_margin l G mo σ kf tf H sf df xf hn ik tl sp rd gr hI) (fun u => mdW G mo σ kf tf H sf df xf hn ik tl sp rd gr) [0, 1, 2, 3, 4, 5, 6, 7] [] 0 k675 k677 k20 k38 k678 rfl (by decide +kernel) ⟨Nat.le_of_ble_eq_true rfl, Nat.le_of_ble_eq_true rfl⟩ ⟨Nat.le_of_ble_eq_true rfl, Nat.le_of_ble_eq_true rfl⟩ dX6_correct_29 (Nat.le_of_ble_eq_true rfl) 0 rfl rfl rfl (by decide +kernel) (fun _ => rfl) ([]) rfl (fun _ => rfl) 8 (fun _ => rfl) (by decide +kernel) (by decide +kernel) (fun _ _ => ?_)
  refine J_st (st' := [.int (nI (σ 7 2 - σ 0 5))]) rfl ?_
  refine J_if_eq C 46 (by decide) dX6_correct_32 (fun h => absurd (cv_eq_t (a := (σ 7 2 - σ 0 5)) (b := 0) (by omega) (by omega) h) (by omega)) (fun c32 => ?_)
  refine J_aload_n C rfl dX6_correct_35 ?_
  refine J_get C 0 0 in6 rfl rfl (by decide) k575 rfl dX6_correct_36 ?_
  refine J_bipush C 6 (by decide) dX6_correct_39 ?_
  refine J_iald C 1 rfl 6 rfl (by decide) (Nat.le_of_ble_eq_true rfl) dX6_correct_41 ?_
  refine J_i (y := nI (σ 0 6)) (rfl) ?_
  refine J_iload_n C rfl dX6_correct_42 ?_
  refine J_icmp_ge C 49 (by decide) dX6_correct_43 (fun c43 => ?_) (fun h => absurd (cv_ge_f (a := (σ 0 6)) (b := (dueAt σ j)) (by omega) (by omega) h) (by omega))
  refine J_aload_n C rfl dX6_correct_49 ?_
  refine J_get C 0 0 in6 rfl rfl (by decide) k575 rfl dX6_correct_50 ?_
  refine J_bipush C 86 (by decide) dX6_correct_53 ?_
  refine J_iload_n C rfl dX6_correct_55 ?_
  refine J_iadd C dX6_correct_56 ?_
  refine J_i (nI_add 86 j : (86 + (nI j) : Int32) = (nI (86 + j))) ?_
  refine J_iald C 1 rfl (86 + j) rfl (by omega) (Nat.le_of_ble_eq_true rfl) dX6_correct_57 ?_
  refine J_i (y := nI (σ 3 j)) (congrArg nI (rowM_3 σ (by omega))) ?_
  refine J_iload_n C rfl dX6_correct_58 ?_
  refine J_icmp_ne C 77 (by decide) dX6_correct_59 (fun h => absurd (cv_ne_t (a := (σ 3 j)) (b := (dueAt σ j)) (by omega) (by omega) h) (by omega)) (fun c59 => ?_)
  refine J_aload_n C rfl dX6_correct_62 ?_
  refine J_get C 0 0 in6 rfl rfl (by decide) k575 rfl dX6_correct_63 ?_
  refine J_bipush C 126 (by decide) dX6_correct_66 ?_
  refine J_iload_n C rfl dX6_correct_68 ?_
  refine J_iadd C dX6_correct_69 ?_
  refine J_i (nI_add 126 j : (126 + (nI j) : Int32) = (nI (126 + j))) ?_
  refine J_iald C 1 rfl (126 + j) rfl (by omega) (Nat.le_of_ble_eq_true rfl) dX6_correct_70 ?_
  refine J_i (y := nI (σ 4 j)) (congrArg nI (rowM_4 σ (by omega))) ?_
  refine J_if_ne C 77 (by decide) dX6_correct_71 (fun h => absurd (cv_ne_t (a := (σ 4 j)) (b := 0) (by omega) (by omega) h) (by omega)) (fun c71 => ?_)
  refine J_bipush C (-5) (by decide) dX6_correct_74 ?_
  exact J_zret C hr rfl dX6_correct_76 () rfl trivial rfl

set_option maxHeartbeats 4000000 in
set_option maxRecDepth 100000 in
theorem ct_mCorY (l : Launch) (G : GT) (mo : Nat → Nat) (σ : AS) (kf tf H sf df xf : Nat → Nat) (hn ik tl sp rd : Nat) (gr : Int32) (j : Nat) (hI : Inv σ) (h4 : hn ≤ 4) (hj : j < σ 0 4) (hbg : canP σ j) (hg : ¬ goodP σ j) : Ct (S := Unit) l G NoX yX6_correct (Wy yX6_correct cX6_correct 3 ((Option.some Jvm.ClassFile.FieldType.int))) { frames := 2, cells := 0, slots := 0, locals := 46 } [.ref (mo 0), .int (nI j)] (mdW G mo σ kf tf H sf df xf hn ik tl sp rd gr) (fun u => True) (fun u => some (.int (nI (σ 7 2 - (σ 0 5 + 1))))) (fun u => mdW G mo (corF σ j) (rowM σ) tf (endH H (rowM σ) hn) sf df xf (sizeF hn) ik tl sp rd gr) := by
  refine Ct.of (by decide) (Nat.le_of_ble_eq_true rfl) (fun p e s m args below meth c C hr hnm hX => ?_)
  have h40 := hI.a
  have hc := hI.c
  have hi := hI.i
  have hs := hI.s
  have hq := hI.q (q := j) (by omega)
  have hdu := hI.due hj
  have hpl := isPl_nI h40.1 hj
  have hbg2 : 0 < σ 3 j ∧ σ 0 5 < σ 7 2 ∧ dueAt σ j ≤ σ 0 6 := hbg
  have hg2 : ¬ (σ 3 j = dueAt σ j ∧ σ 4 j = 0) := hg
  refine J_aload_n C rfl dX6_correct_0 ?_
  refine J_iload_n C rfl dX6_correct_1 ?_
  refine J_callV (as := [.int (nI j)]) (rest := []) C (ct_isPlY l G mo σ kf tf H sf df xf hn ik tl sp rd gr (nI j) (by omega) hpl) (fun u => mdW G mo σ kf tf H sf df xf hn ik tl sp rd gr) [0, 1, 2, 3, 4, 5, 6, 7] [] 1 k650 k652 k15 k38 k653 rfl (by decide +kernel) ⟨Nat.le_of_ble_eq_true rfl, Nat.le_of_ble_eq_true rfl⟩ ⟨Nat.le_of_ble_eq_true rfl, Nat.le_of_ble_eq_true rfl⟩ dX6_correct_2 (Nat.le_of_ble_eq_true rfl) 0 rfl rfl rfl (by decide +kernel) (fun _ => rfl) ([]) rfl (fun _ => rfl) 8 (fun _ => rfl) (by decide +kernel) (by decide +kernel) (fun _ _ => ?_)
  refine J_st (st' := [.int 1]) rfl ?_
  refine J_if_ne C 10 (by decide) dX6_correct_5 (fun _ => ?_) (fun h => absurd h (by decide))
  refine J_aload_n C rfl dX6_correct_10 ?_
  refine J_iload_n C rfl dX6_correct_11 ?_
  refine J_callV (as := [.int (nI j)]) (rest := []) C (ct_due l G mo σ kf tf H sf df xf hn ik tl sp rd gr j (by omega) hj) (fun u => mdW G mo σ kf tf H sf df xf hn ik tl sp rd gr) [0, 1, 2, 3, 4, 5, 6, 7] [] 1 k667 k669 k19 k38 k670 rfl (by decide +kernel) ⟨Nat.le_of_ble_eq_true rfl, Nat.le_of_ble_eq_true rfl⟩ ⟨Nat.le_of_ble_eq_true rfl, Nat.le_of_ble_eq_true rfl⟩ dX6_correct_12 (Nat.le_of_ble_eq_true rfl) 0 rfl rfl rfl (by decide +kernel) (fun _ => rfl) ([]) rfl (fun _ => rfl) 8 (fun _ => rfl) (by decide +kernel) (by decide +kernel) (fun _ _ => ?_)
  refine J_st (st' := [.int (nI (dueAt σ j))]) rfl ?_
  refine J_istore_n C [(2, .int (nI (dueAt σ j))), (0, .ref (mo 0)), (1, .int (nI j))] (by decide) rfl dX6_correct_15 ?_
  refine J_aload_n C rfl dX6_correct_16 ?_
  refine J_get C 0 0 in6 rfl rfl (by decide) k575 rfl dX6_correct_17 ?_
  refine J_bipush C 86 (by decide) dX6_correct_20 ?_
  refine J_iload_n C rfl dX6_correct_22 ?_
  refine J_iadd C dX6_correct_23 ?_
  refine J_i (nI_add 86 j : (86 + (nI j) : Int32) = (nI (86 + j))) ?_
  refine J_iald C 1 rfl (86 + j) rfl (by omega) (Nat.le_of_ble_eq_true rfl) dX6_correct_24 ?_
  refine J_i (y := nI (σ 3 j)) (congrArg nI (rowM_3 σ (by omega))) ?_
  refine J_if_eq C 46 (by decide) dX6_correct_25 (fun h => absurd (cv_eq_t (a := (σ 3 j)) (b := 0) (by omega) (by omega) h) (by omega)) (fun c25 => ?_)
  refine J_aload_n C rfl dX6_correct_28 ?_
  refine J_callV (as := []) (rest := []) C (ct_margin l G mo σ kf tf H sf df xf hn ik tl sp rd gr hI) (fun u => mdW G mo σ kf tf H sf df xf hn ik tl sp rd gr) [0, 1, 2, 3, 4, 5, 6, 7] [] 0 k675 k677 k20 k38 k678 rfl (by decide +kernel) ⟨Nat.le_of_ble_eq_true rfl, Nat.le_of_ble_eq_true rfl⟩ ⟨Nat.le_of_ble_eq_true rfl, Nat.le_of_ble_eq_true rfl⟩ dX6_correct_29 (Nat.le_of_ble_eq_true rfl) 0 rfl rfl rfl (by decide +kernel) (fun _ => rfl) ([]) rfl (fun _ => rfl) 8 (fun _ => rfl) (by decide +kernel) (by decide +kernel) (fun _ _ => ?_)
  refine J_st (st' := [.int (nI (σ 7 2 - σ 0 5))]) rfl ?_
  refine J_if_eq C 46 (by decide) dX6_correct_32 (fun h => absurd (cv_eq_t (a := (σ 7 2 - σ 0 5)) (b := 0) (by omega) (by omega) h) (by omega)) (fun c32 => ?_)
  refine J_aload_n C rfl dX6_correct_35 ?_
  refine J_get C 0 0 in6 rfl rfl (by decide) k575 rfl dX6_correct_36 ?_
  refine J_bipush C 6 (by decide) dX6_correct_39 ?_
  refine J_iald C 1 rfl 6 rfl (by decide) (Nat.le_of_ble_eq_true rfl) dX6_correct_41 ?_
  refine J_i (y := nI (σ 0 6)) (rfl) ?_
  refine J_iload_n C rfl dX6_correct_42 ?_
  refine J_icmp_ge C 49 (by decide) dX6_correct_43 (fun c43 => ?_) (fun h => absurd (cv_ge_f (a := (σ 0 6)) (b := (dueAt σ j)) (by omega) (by omega) h) (by omega))
  refine J_aload_n C rfl dX6_correct_49 ?_
  refine J_get C 0 0 in6 rfl rfl (by decide) k575 rfl dX6_correct_50 ?_
  refine J_bipush C 86 (by decide) dX6_correct_53 ?_
  refine J_iload_n C rfl dX6_correct_55 ?_
  refine J_iadd C dX6_correct_56 ?_
  refine J_i (nI_add 86 j : (86 + (nI j) : Int32) = (nI (86 + j))) ?_
  refine J_iald C 1 rfl (86 + j) rfl (by omega) (Nat.le_of_ble_eq_true rfl) dX6_correct_57 ?_
  refine J_i (y := nI (σ 3 j)) (congrArg nI (rowM_3 σ (by omega))) ?_
  refine J_iload_n C rfl dX6_correct_58 ?_
  refine J_icmp_ne C 77 (by decide) dX6_correct_59 (fun c59 => ?_) (fun c59 => ?_)
  · skip
    have c59 := cv_ne_t (a := (σ 3 j)) (b := (dueAt σ j)) (by omega) (by omega) c59
    refine J_aload_n C rfl dX6_correct_77 ?_
    refine J_callV (as := []) (rest := []) C (ct_keeps l G mo σ kf tf H sf df xf hn ik tl sp rd gr) (fun u => mdW G mo σ (rowM σ) tf H sf df xf hn ik tl sp rd gr) [0, 1, 2, 3, 4, 5, 6, 7] [] 0 k638 k640 k13 k38 k641 rfl (by decide +kernel) ⟨Nat.le_of_ble_eq_true rfl, Nat.le_of_ble_eq_true rfl⟩ ⟨Nat.le_of_ble_eq_true rfl, Nat.le_of_ble_eq_true rfl⟩ dX6_correct_78 (Nat.le_of_ble_eq_true rfl) 0 rfl rfl rfl (by decide +kernel) (fun _ => rfl) ([]) rfl (fun _ => rfl) 8 (fun _ => rfl) (by decide +kernel) (by decide +kernel) (fun _ _ => ?_)
    refine J_st (st' := []) rfl ?_
    refine J_ws (ws' := mdW G mo σ (rowM σ) tf H sf df xf hn ik tl sp rd gr) rfl ?_
    refine J_aload_n C rfl dX6_correct_81 ?_
    refine J_get C 0 0 in6 rfl rfl (by decide) k575 rfl dX6_correct_82 ?_
    refine J_bipush C 86 (by decide) dX6_correct_85 ?_
    refine J_iload_n C rfl dX6_correct_87 ?_
    refine J_iadd C dX6_correct_88 ?_
    refine J_i (nI_add 86 j : (86 + (nI j) : Int32) = (nI (86 + j))) ?_
    refine J_iload_n C rfl dX6_correct_89 ?_
    refine J_iast C 1 ([(mo 0, .inr (6, [.ref (mo 1), .ref (mo 2), .ref (mo 3), .ref (mo 4), .int (nI hn), .ref (mo 5), .int (nI ik), .ref (mo 6), .ref (mo 7), .int (nI tl), .int (nI sp), .int (nI rd), .int gr])), (mo 1, .inl (G.2.1, 246, .inl (upd (fun q => nI ((rowM σ) q)) (86 + j) (nI (dueAt σ j))))), (mo 2, .inl (G.2.1, 246, .inl (fun q => nI ((rowM σ) q)))), (mo 3, .inl (G.2.1, 246, .inl (fun q => nI (tf q)))), (mo 4, .inl (G.2.1, 984, .inl (fun q => nI (H q)))), (mo 5, .inl (G.2.1, 246, .inl (fun q => nI (sf q)))), (mo 6, .inl (G.2.1, 40, .inl (fun q => nI (df q)))), (mo 7, .inl (G.2.1, 60, .inl (fun q => nI (xf q))))]) rfl (86 + j) rfl (by omega) (Nat.le_of_ble_eq_true rfl) rfl dX6_correct_90 ?_
    refine J_arr 1 (fun q => nI (rowM (up2 σ 3 j (dueAt σ j)) q)) rfl (fun q _ => congrFun (rowM_u3 σ (dueAt σ j) (by omega)) q) ?_
    refine J_ws (ws' := mdW G mo (up2 σ 3 j (dueAt σ j)) (rowM σ) tf H sf df xf hn ik tl sp rd gr) rfl ?_
    refine J_aload_n C rfl dX6_correct_91 ?_
    refine J_get C 0 0 in6 rfl rfl (by decide) k575 rfl dX6_correct_92 ?_
    refine J_bipush C 126 (by decide) dX6_correct_95 ?_
    refine J_iload_n C rfl dX6_correct_97 ?_
    refine J_iadd C dX6_correct_98 ?_
    refine J_i (nI_add 126 j : (126 + (nI j) : Int32) = (nI (126 + j))) ?_
    refine J_iconst C 0 (by decide) dX6_correct_99 ?_
    refine J_iast C 1 ([(mo 0, .inr (6, [.ref (mo 1), .ref (mo 2), .ref (mo 3), .ref (mo 4), .int (nI hn), .ref (mo 5), .int (nI ik), .ref (mo 6), .ref (mo 7), .int (nI tl), .int (nI sp), .int (nI rd), .int gr])), (mo 1, .inl (G.2.1, 246, .inl (upd (fun q => nI ((rowM (up2 σ 3 j (dueAt σ j))) q)) (126 + j) 0))), (mo 2, .inl (G.2.1, 246, .inl (fun q => nI ((rowM σ) q)))), (mo 3, .inl (G.2.1, 246, .inl (fun q => nI (tf q)))), (mo 4, .inl (G.2.1, 984, .inl (fun q => nI (H q)))), (mo 5, .inl (G.2.1, 246, .inl (fun q => nI (sf q)))), (mo 6, .inl (G.2.1, 40, .inl (fun q => nI (df q)))), (mo 7, .inl (G.2.1, 60, .inl (fun q => nI (xf q))))]) rfl (126 + j) rfl (by omega) (Nat.le_of_ble_eq_true rfl) rfl dX6_correct_100 ?_
    refine J_arr 1 (fun q => nI (rowM (up2 (up2 σ 3 j (dueAt σ j)) 4 j 0) q)) rfl (fun q _ => congrFun (rowM_u4 (up2 σ 3 j (dueAt σ j)) 0 (by omega)) q) ?_
    refine J_ws (ws' := mdW G mo (up2 (up2 σ 3 j (dueAt σ j)) 4 j 0) (rowM σ) tf H sf df xf hn ik tl sp rd gr) rfl ?_
    refine J_aload_n C rfl dX6_correct_101 ?_
    refine J_get C 0 0 in6 rfl rfl (by decide) k575 rfl dX6_correct_102 ?_
    refine J_sipush C 166 (by decide) dX6_correct_105 ?_
    refine J_iload_n C rfl dX6_correct_108 ?_
    refine J_iadd C dX6_correct_109 ?_
    refine J_i (nI_add 166 j : (166 + (nI j) : Int32) = (nI (166 + j))) ?_
    refine J_iconst C 1 (by decide) dX6_correct_110 ?_
    refine J_iast C 1 ([(mo 0, .inr (6, [.ref (mo 1), .ref (mo 2), .ref (mo 3), .ref (mo 4), .int (nI hn), .ref (mo 5), .int (nI ik), .ref (mo 6), .ref (mo 7), .int (nI tl), .int (nI sp), .int (nI rd), .int gr])), (mo 1, .inl (G.2.1, 246, .inl (upd (fun q => nI ((rowM (up2 (up2 σ 3 j (dueAt σ j)) 4 j 0)) q)) (166 + j) 1))), (mo 2, .inl (G.2.1, 246, .inl (fun q => nI ((rowM σ) q)))), (mo 3, .inl (G.2.1, 246, .inl (fun q => nI (tf q)))), (mo 4, .inl (G.2.1, 984, .inl (fun q => nI (H q)))), (mo 5, .inl (G.2.1, 246, .inl (fun q => nI (sf q)))), (mo 6, .inl (G.2.1, 40, .inl (fun q => nI (df q)))), (mo 7, .inl (G.2.1, 60, .inl (fun q => nI (xf q))))]) rfl (166 + j) rfl (by omega) (Nat.le_of_ble_eq_true rfl) rfl dX6_correct_111 ?_
    refine J_arr 1 (fun q => nI (rowM (up2 (up2 (up2 σ 3 j (dueAt σ j)) 4 j 0) 5 j 1) q)) rfl (fun q _ => congrFun (rowM_u5 (up2 (up2 σ 3 j (dueAt σ j)) 4 j 0) 1 (by omega)) q) ?_
    refine J_ws (ws' := mdW G mo (up2 (up2 (up2 σ 3 j (dueAt σ j)) 4 j 0) 5 j 1) (rowM σ) tf H sf df xf hn ik tl sp rd gr) rfl ?_
    refine J_aload_n C rfl dX6_correct_112 ?_
    refine J_get C 0 0 in6 rfl rfl (by decide) k575 rfl dX6_correct_113 ?_
    refine J_bipush C 6 (by decide) dX6_correct_116 ?_
    refine J_dup2 C rfl rfl dX6_correct_118 ?_
    refine J_iald C 1 rfl 6 rfl (by decide) (Nat.le_of_ble_eq_true rfl) dX6_correct_119 ?_
    refine J_i (y := nI (σ 0 6)) (rfl) ?_
    refine J_iload_n C rfl dX6_correct_120 ?_
    refine J_isub C dX6_correct_121 ?_
    refine J_i (pk_sub (a := σ 0 6) (b := dueAt σ j) (by omega) : ((nI (σ 0 6)) - (nI (dueAt σ j)) : Int32) = (nI (σ 0 6 - (dueAt σ j)))) ?_
    refine J_iast C 1 ([(mo 0, .inr (6, [.ref (mo 1), .ref (mo 2), .ref (mo 3), .ref (mo 4), .int (nI hn), .ref (mo 5), .int (nI ik), .ref (mo 6), .ref (mo 7), .int (nI tl), .int (nI sp), .int (nI rd), .int gr])), (mo 1, .inl (G.2.1, 246, .inl (upd (fun q => nI ((rowM (up2 (up2 (up2 σ 3 j (dueAt σ j)) 4 j 0) 5 j 1)) q)) 6 (nI (σ 0 6 - (dueAt σ j)))))), (mo 2, .inl (G.2.1, 246, .inl (fun q => nI ((rowM σ) q)))), (mo 3, .inl (G.2.1, 246, .inl (fun q => nI (tf q)))), (mo 4, .inl (G.2.1, 984, .inl (fun q => nI (H q)))), (mo 5, .inl (G.2.1, 246, .inl (fun q => nI (sf q)))), (mo 6, .inl (G.2.1, 40, .inl (fun q => nI (df q)))), (mo 7, .inl (G.2.1, 60, .inl (fun q => nI (xf q))))]) rfl 6 rfl (by decide) (Nat.le_of_ble_eq_true rfl) rfl dX6_correct_122 ?_
    refine J_arr 1 (fun q => nI (rowM (up2 (up2 (up2 (up2 σ 3 j (dueAt σ j)) 4 j 0) 5 j 1) 0 6 (σ 0 6 - (dueAt σ j))) q)) rfl (fun q _ => congrFun (rowM_u0 (up2 (up2 (up2 σ 3 j (dueAt σ j)) 4 j 0) 5 j 1) (σ 0 6 - (dueAt σ j)) (by decide) (by decide)) q) ?_
    refine J_ws (ws' := mdW G mo (up2 (up2 (up2 (up2 σ 3 j (dueAt σ j)) 4 j 0) 5 j 1) 0 6 (σ 0 6 - (dueAt σ j))) (rowM σ) tf H sf df xf hn ik tl sp rd gr) rfl ?_
    refine J_aload_n C rfl dX6_correct_123 ?_
    refine J_get C 0 0 in6 rfl rfl (by decide) k575 rfl dX6_correct_124 ?_
    refine J_bipush C 8 (by decide) dX6_correct_127 ?_
    refine J_dup2 C rfl rfl dX6_correct_129 ?_
    refine J_iald C 1 rfl 8 rfl (by decide) (Nat.le_of_ble_eq_true rfl) dX6_correct_130 ?_
    refine J_i (y := nI (σ 0 8)) (rfl) ?_
    refine J_iload_n C rfl dX6_correct_131 ?_
    refine J_iadd C dX6_correct_132 ?_
    refine J_i (nI_add (σ 0 8) (dueAt σ j) : ((nI (σ 0 8)) + (nI (dueAt σ j)) : Int32) = (nI (σ 0 8 + dueAt σ j))) ?_
    refine J_iast C 1 ([(mo 0, .inr (6, [.ref (mo 1), .ref (mo 2), .ref (mo 3), .ref (mo 4), .int (nI hn), .ref (mo 5), .int (nI ik), .ref (mo 6), .ref (mo 7), .int (nI tl), .int (nI sp), .int (nI rd), .int gr])), (mo 1, .inl (G.2.1, 246, .inl (upd (fun q => nI ((rowM (up2 (up2 (up2 (up2 σ 3 j (dueAt σ j)) 4 j 0) 5 j 1) 0 6 (σ 0 6 - (dueAt σ j)))) q)) 8 (nI (σ 0 8 + dueAt σ j))))), (mo 2, .inl (G.2.1, 246, .inl (fun q => nI ((rowM σ) q)))), (mo 3, .inl (G.2.1, 246, .inl (fun q => nI (tf q)))), (mo 4, .inl (G.2.1, 984, .inl (fun q => nI (H q)))), (mo 5, .inl (G.2.1, 246, .inl (fun q => nI (sf q)))), (mo 6, .inl (G.2.1, 40, .inl (fun q => nI (df q)))), (mo 7, .inl (G.2.1, 60, .inl (fun q => nI (xf q))))]) rfl 8 rfl (by decide) (Nat.le_of_ble_eq_true rfl) rfl dX6_correct_133 ?_
    refine J_arr 1 (fun q => nI (rowM (up2 (up2 (up2 (up2 (up2 σ 3 j (dueAt σ j)) 4 j 0) 5 j 1) 0 6 (σ 0 6 - (dueAt σ j))) 0 8 (σ 0 8 + dueAt σ j)) q)) rfl (fun q _ => congrFun (rowM_u0 (up2 (up2 (up2 (up2 σ 3 j (dueAt σ j)) 4 j 0) 5 j 1) 0 6 (σ 0 6 - (dueAt σ j))) (σ 0 8 + dueAt σ j) (by decide) (by decide)) q) ?_
    refine J_ws (ws' := mdW G mo (up2 (up2 (up2 (up2 (up2 σ 3 j (dueAt σ j)) 4 j 0) 5 j 1) 0 6 (σ 0 6 - (dueAt σ j))) 0 8 (σ 0 8 + dueAt σ j)) (rowM σ) tf H sf df xf hn ik tl sp rd gr) rfl ?_
    refine J_aload_n C rfl dX6_correct_134 ?_
    refine J_get C 0 0 in6 rfl rfl (by decide) k575 rfl dX6_correct_135 ?_
    refine J_iconst C 5 (by decide) dX6_correct_138 ?_
    refine J_dup2 C rfl rfl dX6_correct_139 ?_
    refine J_iald C 1 rfl 5 rfl (by decide) (Nat.le_of_ble_eq_true rfl) dX6_correct_140 ?_
    refine J_i (y := nI (σ 0 5)) (rfl) ?_
    refine J_iconst C 1 (by decide) dX6_correct_141 ?_
    refine J_iadd C dX6_correct_142 ?_
    refine J_i (nI_add (σ 0 5) 1 : ((nI (σ 0 5)) + 1 : Int32) = (nI (σ 0 5 + 1))) ?_
    refine J_iast C 1 ([(mo 0, .inr (6, [.ref (mo 1), .ref (mo 2), .ref (mo 3), .ref (mo 4), .int (nI hn), .ref (mo 5), .int (nI ik), .ref (mo 6), .ref (mo 7), .int (nI tl), .int (nI sp), .int (nI rd), .int gr])), (mo 1, .inl (G.2.1, 246, .inl (upd (fun q => nI ((rowM (up2 (up2 (up2 (up2 (up2 σ 3 j (dueAt σ j)) 4 j 0) 5 j 1) 0 6 (σ 0 6 - (dueAt σ j))) 0 8 (σ 0 8 + dueAt σ j))) q)) 5 (nI (σ 0 5 + 1))))), (mo 2, .inl (G.2.1, 246, .inl (fun q => nI ((rowM σ) q)))), (mo 3, .inl (G.2.1, 246, .inl (fun q => nI (tf q)))), (mo 4, .inl (G.2.1, 984, .inl (fun q => nI (H q)))), (mo 5, .inl (G.2.1, 246, .inl (fun q => nI (sf q)))), (mo 6, .inl (G.2.1, 40, .inl (fun q => nI (df q)))), (mo 7, .inl (G.2.1, 60, .inl (fun q => nI (xf q))))]) rfl 5 rfl (by decide) (Nat.le_of_ble_eq_true rfl) rfl dX6_correct_143 ?_
    refine J_arr 1 (fun q => nI (rowM (up2 (up2 (up2 (up2 (up2 (up2 σ 3 j (dueAt σ j)) 4 j 0) 5 j 1) 0 6 (σ 0 6 - (dueAt σ j))) 0 8 (σ 0 8 + dueAt σ j)) 0 5 (σ 0 5 + 1)) q)) rfl (fun q _ => congrFun (rowM_u0 (up2 (up2 (up2 (up2 (up2 σ 3 j (dueAt σ j)) 4 j 0) 5 j 1) 0 6 (σ 0 6 - (dueAt σ j))) 0 8 (σ 0 8 + dueAt σ j)) (σ 0 5 + 1) (by decide) (by decide)) q) ?_
    refine J_ws (ws' := mdW G mo (up2 (up2 (up2 (up2 (up2 (up2 σ 3 j (dueAt σ j)) 4 j 0) 5 j 1) 0 6 (σ 0 6 - (dueAt σ j))) 0 8 (σ 0 8 + dueAt σ j)) 0 5 (σ 0 5 + 1)) (rowM σ) tf H sf df xf hn ik tl sp rd gr) rfl ?_
    refine J_ws (ws' := mdW G mo (corF σ j) (rowM σ) tf H sf df xf hn ik tl sp rd gr) (by rw [corF_m]) ?_
    refine J_aload_n C rfl dX6_correct_144 ?_
    refine J_aload_n C rfl dX6_correct_145 ?_
    refine J_callV (as := []) (rest := [.ref (mo 0)]) C (ct_margin l G mo (corF σ j) (rowM σ) tf H sf df xf hn ik tl sp rd gr (hI.cor hj hbg)) (fun u => mdW G mo (corF σ j) (rowM σ) tf H sf df xf hn ik tl sp rd gr) [0, 1, 2, 3, 4, 5, 6, 7] [] 0 k675 k677 k20 k38 k678 rfl (by decide +kernel) ⟨Nat.le_of_ble_eq_true rfl, Nat.le_of_ble_eq_true rfl⟩ ⟨Nat.le_of_ble_eq_true rfl, Nat.le_of_ble_eq_true rfl⟩ dX6_correct_146 (Nat.le_of_ble_eq_true rfl) 0 rfl rfl rfl (by decide +kernel) (fun _ => rfl) ([]) rfl (fun _ => rfl) 8 (fun _ => rfl) (by decide +kernel) (by decide +kernel) (fun _ _ => ?_)
    refine J_st (st' := [.int (nI ((corF σ j) 7 2 - (corF σ j) 0 5)), .ref (mo 0)]) rfl ?_
    refine J_i (rfl : (nI ((corF σ j) 7 2 - (corF σ j) 0 5) : Int32) = (nI (σ 7 2 - (σ 0 5 + 1)))) ?_
    refine J_callV (as := [.int (nI (σ 7 2 - (σ 0 5 + 1)))]) (rest := []) C (ct_ends l G mo (corF σ j) (rowM σ) tf H sf df xf hn ik tl sp rd gr (nI (σ 7 2 - (σ 0 5 + 1))) h4) (fun u => mdW G mo (corF σ j) (rowM σ) tf (endH H (rowM σ) hn) sf df xf (sizeF hn) ik tl sp rd gr) [0, 1, 2, 3, 4, 5, 6, 7] [] 1 k642 k644 k14 k38 k645 rfl (by decide +kernel) ⟨Nat.le_of_ble_eq_true rfl, Nat.le_of_ble_eq_true rfl⟩ ⟨Nat.le_of_ble_eq_true rfl, Nat.le_of_ble_eq_true rfl⟩ dX6_correct_149 (Nat.le_of_ble_eq_true rfl) 0 rfl rfl rfl (by decide +kernel) (fun _ => rfl) ([]) rfl (fun _ => rfl) 8 (fun _ => rfl) (by decide +kernel) (by decide +kernel) (fun _ _ => ?_)
    refine J_st (st' := [.int (nI (σ 7 2 - (σ 0 5 + 1)))]) rfl ?_
    exact J_zret C hr rfl dX6_correct_152 () rfl trivial rfl
  · skip
    have c59 := cv_ne_f (a := (σ 3 j)) (b := (dueAt σ j)) (by omega) (by omega) c59
    refine J_aload_n C rfl dX6_correct_62 ?_
    refine J_get C 0 0 in6 rfl rfl (by decide) k575 rfl dX6_correct_63 ?_
    refine J_bipush C 126 (by decide) dX6_correct_66 ?_
    refine J_iload_n C rfl dX6_correct_68 ?_
    refine J_iadd C dX6_correct_69 ?_
    refine J_i (nI_add 126 j : (126 + (nI j) : Int32) = (nI (126 + j))) ?_
    refine J_iald C 1 rfl (126 + j) rfl (by omega) (Nat.le_of_ble_eq_true rfl) dX6_correct_70 ?_
    refine J_i (y := nI (σ 4 j)) (congrArg nI (rowM_4 σ (by omega))) ?_
    refine J_if_ne C 77 (by decide) dX6_correct_71 (fun c71 => ?_) (fun h => absurd (cv_ne_f (a := (σ 4 j)) (b := 0) (by omega) (by omega) h) (by omega))
    refine J_aload_n C rfl dX6_correct_77 ?_
    refine J_callV (as := []) (rest := []) C (ct_keeps l G mo σ kf tf H sf df xf hn ik tl sp rd gr) (fun u => mdW G mo σ (rowM σ) tf H sf df xf hn ik tl sp rd gr) [0, 1, 2, 3, 4, 5, 6, 7] [] 0 k638 k640 k13 k38 k641 rfl (by decide +kernel) ⟨Nat.le_of_ble_eq_true rfl, Nat.le_of_ble_eq_true rfl⟩ ⟨Nat.le_of_ble_eq_true rfl, Nat.le_of_ble_eq_true rfl⟩ dX6_correct_78 (Nat.le_of_ble_eq_true rfl) 0 rfl rfl rfl (by decide +kernel) (fun _ => rfl) ([]) rfl (fun _ => rfl) 8 (fun _ => rfl) (by decide +kernel) (by decide +kernel) (fun _ _ => ?_)
    refine J_st (st' := []) rfl ?_
    refine J_ws (ws' := mdW G mo σ (rowM σ) tf H sf df xf hn ik tl sp rd gr) rfl ?_
    refine J_aload_n C rfl dX6_correct_81 ?_
    refine J_get C 0 0 in6 rfl rfl (by decide) k575 rfl dX6_correct_82 ?_
    refine J_bipush C 86 (by decide) dX6_correct_85 ?_
    refine J_iload_n C rfl dX6_correct_87 ?_
    refine J_iadd C dX6_correct_88 ?_
    refine J_i (nI_add 86 j : (86 + (nI j) : Int32) = (nI (86 + j))) ?_
    refine J_iload_n C rfl dX6_correct_89 ?_
    refine J_iast C 1 ([(mo 0, .inr (6, [.ref (mo 1), .ref (mo 2), .ref (mo 3), .ref (mo 4), .int (nI hn), .ref (mo 5), .int (nI ik), .ref (mo 6), .ref (mo 7), .int (nI tl), .int (nI sp), .int (nI rd), .int gr])), (mo 1, .inl (G.2.1, 246, .inl (upd (fun q => nI ((rowM σ) q)) (86 + j) (nI (dueAt σ j))))), (mo 2, .inl (G.2.1, 246, .inl (fun q => nI ((rowM σ) q)))), (mo 3, .inl (G.2.1, 246, .inl (fun q => nI (tf q)))), (mo 4, .inl (G.2.1, 984, .inl (fun q => nI (H q)))), (mo 5, .inl (G.2.1, 246, .inl (fun q => nI (sf q)))), (mo 6, .inl (G.2.1, 40, .inl (fun q => nI (df q)))), (mo 7, .inl (G.2.1, 60, .inl (fun q => nI (xf q))))]) rfl (86 + j) rfl (by omega) (Nat.le_of_ble_eq_true rfl) rfl dX6_correct_90 ?_
    refine J_arr 1 (fun q => nI (rowM (up2 σ 3 j (dueAt σ j)) q)) rfl (fun q _ => congrFun (rowM_u3 σ (dueAt σ j) (by omega)) q) ?_
    refine J_ws (ws' := mdW G mo (up2 σ 3 j (dueAt σ j)) (rowM σ) tf H sf df xf hn ik tl sp rd gr) rfl ?_
    refine J_aload_n C rfl dX6_correct_91 ?_
    refine J_get C 0 0 in6 rfl rfl (by decide) k575 rfl dX6_correct_92 ?_
    refine J_bipush C 126 (by decide) dX6_correct_95 ?_
    refine J_iload_n C rfl dX6_correct_97 ?_
    refine J_iadd C dX6_correct_98 ?_
    refine J_i (nI_add 126 j : (126 + (nI j) : Int32) = (nI (126 + j))) ?_
    refine J_iconst C 0 (by decide) dX6_correct_99 ?_
    refine J_iast C 1 ([(mo 0, .inr (6, [.ref (mo 1), .ref (mo 2), .ref (mo 3), .ref (mo 4), .int (nI hn), .ref (mo 5), .int (nI ik), .ref (mo 6), .ref (mo 7), .int (nI tl), .int (nI sp), .int (nI rd), .int gr])), (mo 1, .inl (G.2.1, 246, .inl (upd (fun q => nI ((rowM (up2 σ 3 j (dueAt σ j))) q)) (126 + j) 0))), (mo 2, .inl (G.2.1, 246, .inl (fun q => nI ((rowM σ) q)))), (mo 3, .inl (G.2.1, 246, .inl (fun q => nI (tf q)))), (mo 4, .inl (G.2.1, 984, .inl (fun q => nI (H q)))), (mo 5, .inl (G.2.1, 246, .inl (fun q => nI (sf q)))), (mo 6, .inl (G.2.1, 40, .inl (fun q => nI (df q)))), (mo 7, .inl (G.2.1, 60, .inl (fun q => nI (xf q))))]) rfl (126 + j) rfl (by omega) (Nat.le_of_ble_eq_true rfl) rfl dX6_correct_100 ?_
    refine J_arr 1 (fun q => nI (rowM (up2 (up2 σ 3 j (dueAt σ j)) 4 j 0) q)) rfl (fun q _ => congrFun (rowM_u4 (up2 σ 3 j (dueAt σ j)) 0 (by omega)) q) ?_
    refine J_ws (ws' := mdW G mo (up2 (up2 σ 3 j (dueAt σ j)) 4 j 0) (rowM σ) tf H sf df xf hn ik tl sp rd gr) rfl ?_
    refine J_aload_n C rfl dX6_correct_101 ?_
    refine J_get C 0 0 in6 rfl rfl (by decide) k575 rfl dX6_correct_102 ?_
    refine J_sipush C 166 (by decide) dX6_correct_105 ?_
    refine J_iload_n C rfl dX6_correct_108 ?_
    refine J_iadd C dX6_correct_109 ?_
    refine J_i (nI_add 166 j : (166 + (nI j) : Int32) = (nI (166 + j))) ?_
    refine J_iconst C 1 (by decide) dX6_correct_110 ?_
    refine J_iast C 1 ([(mo 0, .inr (6, [.ref (mo 1), .ref (mo 2), .ref (mo 3), .ref (mo 4), .int (nI hn), .ref (mo 5), .int (nI ik), .ref (mo 6), .ref (mo 7), .int (nI tl), .int (nI sp), .int (nI rd), .int gr])), (mo 1, .inl (G.2.1, 246, .inl (upd (fun q => nI ((rowM (up2 (up2 σ 3 j (dueAt σ j)) 4 j 0)) q)) (166 + j) 1))), (mo 2, .inl (G.2.1, 246, .inl (fun q => nI ((rowM σ) q)))), (mo 3, .inl (G.2.1, 246, .inl (fun q => nI (tf q)))), (mo 4, .inl (G.2.1, 984, .inl (fun q => nI (H q)))), (mo 5, .inl (G.2.1, 246, .inl (fun q => nI (sf q)))), (mo 6, .inl (G.2.1, 40, .inl (fun q => nI (df q)))), (mo 7, .inl (G.2.1, 60, .inl (fun q => nI (xf q))))]) rfl (166 + j) rfl (by omega) (Nat.le_of_ble_eq_true rfl) rfl dX6_correct_111 ?_
    refine J_arr 1 (fun q => nI (rowM (up2 (up2 (up2 σ 3 j (dueAt σ j)) 4 j 0) 5 j 1) q)) rfl (fun q _ => congrFun (rowM_u5 (up2 (up2 σ 3 j (dueAt σ j)) 4 j 0) 1 (by omega)) q) ?_
    refine J_ws (ws' := mdW G mo (up2 (up2 (up2 σ 3 j (dueAt σ j)) 4 j 0) 5 j 1) (rowM σ) tf H sf df xf hn ik tl sp rd gr) rfl ?_
    refine J_aload_n C rfl dX6_correct_112 ?_
    refine J_get C 0 0 in6 rfl rfl (by decide) k575 rfl dX6_correct_113 ?_
    refine J_bipush C 6 (by decide) dX6_correct_116 ?_
    refine J_dup2 C rfl rfl dX6_correct_118 ?_
    refine J_iald C 1 rfl 6 rfl (by decide) (Nat.le_of_ble_eq_true rfl) dX6_correct_119 ?_
    refine J_i (y := nI (σ 0 6)) (rfl) ?_
    refine J_iload_n C rfl dX6_correct_120 ?_
    refine J_isub C dX6_correct_121 ?_
    refine J_i (pk_sub (a := σ 0 6) (b := dueAt σ j) (by omega) : ((nI (σ 0 6)) - (nI (dueAt σ j)) : Int32) = (nI (σ 0 6 - (dueAt σ j)))) ?_
    refine J_iast C 1 ([(mo 0, .inr (6, [.ref (mo 1), .ref (mo 2), .ref (mo 3), .ref (mo 4), .int (nI hn), .ref (mo 5), .int (nI ik), .ref (mo 6), .ref (mo 7), .int (nI tl), .int (nI sp), .int (nI rd), .int gr])), (mo 1, .inl (G.2.1, 246, .inl (upd (fun q => nI ((rowM (up2 (up2 (up2 σ 3 j (dueAt σ j)) 4 j 0) 5 j 1)) q)) 6 (nI (σ 0 6 - (dueAt σ j)))))), (mo 2, .inl (G.2.1, 246, .inl (fun q => nI ((rowM σ) q)))), (mo 3, .inl (G.2.1, 246, .inl (fun q => nI (tf q)))), (mo 4, .inl (G.2.1, 984, .inl (fun q => nI (H q)))), (mo 5, .inl (G.2.1, 246, .inl (fun q => nI (sf q)))), (mo 6, .inl (G.2.1, 40, .inl (fun q => nI (df q)))), (mo 7, .inl (G.2.1, 60, .inl (fun q => nI (xf q))))]) rfl 6 rfl (by decide) (Nat.le_of_ble_eq_true rfl) rfl dX6_correct_122 ?_
    refine J_arr 1 (fun q => nI (rowM (up2 (up2 (up2 (up2 σ 3 j (dueAt σ j)) 4 j 0) 5 j 1) 0 6 (σ 0 6 - (dueAt σ j))) q)) rfl (fun q _ => congrFun (rowM_u0 (up2 (up2 (up2 σ 3 j (dueAt σ j)) 4 j 0) 5 j 1) (σ 0 6 - (dueAt σ j)) (by decide) (by decide)) q) ?_
    refine J_ws (ws' := mdW G mo (up2 (up2 (up2 (up2 σ 3 j (dueAt σ j)) 4 j 0) 5 j 1) 0 6 (σ 0 6 - (dueAt σ j))) (rowM σ) tf H sf df xf hn ik tl sp rd gr) rfl ?_
    refine J_aload_n C rfl dX6_correct_123 ?_
    refine J_get C 0 0 in6 rfl rfl (by decide) k575 rfl dX6_correct_124 ?_
    refine J_bipush C 8 (by decide) dX6_correct_127 ?_
    refine J_dup2 C rfl rfl dX6_correct_129 ?_
    refine J_iald C 1 rfl 8 rfl (by decide) (Nat.le_of_ble_eq_true rfl) dX6_correct_130 ?_
    refine J_i (y := nI (σ 0 8)) (rfl) ?_
    refine J_iload_n C rfl dX6_correct_131 ?_
    refine J_iadd C dX6_correct_132 ?_
    refine J_i (nI_add (σ 0 8) (dueAt σ j) : ((nI (σ 0 8)) + (nI (dueAt σ j)) : Int32) = (nI (σ 0 8 + dueAt σ j))) ?_
    refine J_iast C 1 ([(mo 0, .inr (6, [.ref (mo 1), .ref (mo 2), .ref (mo 3), .ref (mo 4), .int (nI hn), .ref (mo 5), .int (nI ik), .ref (mo 6), .ref (mo 7), .int (nI tl), .int (nI sp), .int (nI rd), .int gr])), (mo 1, .inl (G.2.1, 246, .inl (upd (fun q => nI ((rowM (up2 (up2 (up2 (up2 σ 3 j (dueAt σ j)) 4 j 0) 5 j 1) 0 6 (σ 0 6 - (dueAt σ j)))) q)) 8 (nI (σ 0 8 + dueAt σ j))))), (mo 2, .inl (G.2.1, 246, .inl (fun q => nI ((rowM σ) q)))), (mo 3, .inl (G.2.1, 246, .inl (fun q => nI (tf q)))), (mo 4, .inl (G.2.1, 984, .inl (fun q => nI (H q)))), (mo 5, .inl (G.2.1, 246, .inl (fun q => nI (sf q)))), (mo 6, .inl (G.2.1, 40, .inl (fun q => nI (df q)))), (mo 7, .inl (G.2.1, 60, .inl (fun q => nI (xf q))))]) rfl 8 rfl (by decide) (Nat.le_of_ble_eq_true rfl) rfl dX6_correct_133 ?_
    refine J_arr 1 (fun q => nI (rowM (up2 (up2 (up2 (up2 (up2 σ 3 j (dueAt σ j)) 4 j 0) 5 j 1) 0 6 (σ 0 6 - (dueAt σ j))) 0 8 (σ 0 8 + dueAt σ j)) q)) rfl (fun q _ => congrFun (rowM_u0 (up2 (up2 (up2 (up2 σ 3 j (dueAt σ j)) 4 j 0) 5 j 1) 0 6 (σ 0 6 - (dueAt σ j))) (σ 0 8 + dueAt σ j) (by decide) (by decide)) q) ?_
    refine J_ws (ws' := mdW G mo (up2 (up2 (up2 (up2 (up2 σ 3 j (dueAt σ j)) 4 j 0) 5 j 1) 0 6 (σ 0 6 - (dueAt σ j))) 0 8 (σ 0 8 + dueAt σ j)) (rowM σ) tf H sf df xf hn ik tl sp rd gr) rfl ?_
    refine J_aload_n C rfl dX6_correct_134 ?_
    refine J_get C 0 0 in6 rfl rfl (by decide) k575 rfl dX6_correct_135 ?_
    refine J_iconst C 5 (by decide) dX6_correct_138 ?_
    refine J_dup2 C rfl rfl dX6_correct_139 ?_
    refine J_iald C 1 rfl 5 rfl (by decide) (Nat.le_of_ble_eq_true rfl) dX6_correct_140 ?_
    refine J_i (y := nI (σ 0 5)) (rfl) ?_
    refine J_iconst C 1 (by decide) dX6_correct_141 ?_
    refine J_iadd C dX6_correct_142 ?_
    refine J_i (nI_add (σ 0 5) 1 : ((nI (σ 0 5)) + 1 : Int32) = (nI (σ 0 5 + 1))) ?_
    refine J_iast C 1 ([(mo 0, .inr (6, [.ref (mo 1), .ref (mo 2), .ref (mo 3), .ref (mo 4), .int (nI hn), .ref (mo 5), .int (nI ik), .ref (mo 6), .ref (mo 7), .int (nI tl), .int (nI sp), .int (nI rd), .int gr])), (mo 1, .inl (G.2.1, 246, .inl (upd (fun q => nI ((rowM (up2 (up2 (up2 (up2 (up2 σ 3 j (dueAt σ j)) 4 j 0) 5 j 1) 0 6 (σ 0 6 - (dueAt σ j))) 0 8 (σ 0 8 + dueAt σ j))) q)) 5 (nI (σ 0 5 + 1))))), (mo 2, .inl (G.2.1, 246, .inl (fun q => nI ((rowM σ) q)))), (mo 3, .inl (G.2.1, 246, .inl (fun q => nI (tf q)))), (mo 4, .inl (G.2.1, 984, .inl (fun q => nI (H q)))), (mo 5, .inl (G.2.1, 246, .inl (fun q => nI (sf q)))), (mo 6, .inl (G.2.1, 40, .inl (fun q => nI (df q)))), (mo 7, .inl (G.2.1, 60, .inl (fun q => nI (xf q))))]) rfl 5 rfl (by decide) (Nat.le_of_ble_eq_true rfl) rfl dX6_correct_143 ?_
    refine J_arr 1 (fun q => nI (rowM (up2 (up2 (up2 (up2 (up2 (up2 σ 3 j (dueAt σ j)) 4 j 0) 5 j 1) 0 6 (σ 0 6 - (dueAt σ j))) 0 8 (σ 0 8 + dueAt σ j)) 0 5 (σ 0 5 + 1)) q)) rfl (fun q _ => congrFun (rowM_u0 (up2 (up2 (up2 (up2 (up2 σ 3 j (dueAt σ j)) 4 j 0) 5 j 1) 0 6 (σ 0 6 - (dueAt σ j))) 0 8 (σ 0 8 + dueAt σ j)) (σ 0 5 + 1) (by decide) (by decide)) q) ?_
    refine J_ws (ws' := mdW G mo (up2 (up2 (up2 (up2 (up2 (up2 σ 3 j (dueAt σ j)) 4 j 0) 5 j 1) 0 6 (σ 0 6 - (dueAt σ j))) 0 8 (σ 0 8 + dueAt σ j)) 0 5 (σ 0 5 + 1)) (rowM σ) tf H sf df xf hn ik tl sp rd gr) rfl ?_
    refine J_ws (ws' := mdW G mo (corF σ j) (rowM σ) tf H sf df xf hn ik tl sp rd gr) (by rw [corF_m]) ?_
    refine J_aload_n C rfl dX6_correct_144 ?_
    refine J_aload_n C rfl dX6_correct_145 ?_
    refine J_callV (as := []) (rest := [.ref (mo 0)]) C (ct_margin l G mo (corF σ j) (rowM σ) tf H sf df xf hn ik tl sp rd gr (hI.cor hj hbg)) (fun u => mdW G mo (corF σ j) (rowM σ) tf H sf df xf hn ik tl sp rd gr) [0, 1, 2, 3, 4, 5, 6, 7] [] 0 k675 k677 k20 k38 k678 rfl (by decide +kernel) ⟨Nat.le_of_ble_eq_true rfl, Nat.le_of_ble_eq_true rfl⟩ ⟨Nat.le_of_ble_eq_true rfl, Nat.le_of_ble_eq_true rfl⟩ dX6_correct_146 (Nat.le_of_ble_eq_true rfl) 0 rfl rfl rfl (by decide +kernel) (fun _ => rfl) ([]) rfl (fun _ => rfl) 8 (fun _ => rfl) (by decide +kernel) (by decide +kernel) (fun _ _ => ?_)
    refine J_st (st' := [.int (nI ((corF σ j) 7 2 - (corF σ j) 0 5)), .ref (mo 0)]) rfl ?_
    refine J_i (rfl : (nI ((corF σ j) 7 2 - (corF σ j) 0 5) : Int32) = (nI (σ 7 2 - (σ 0 5 + 1)))) ?_
    refine J_callV (as := [.int (nI (σ 7 2 - (σ 0 5 + 1)))]) (rest := []) C (ct_ends l G mo (corF σ j) (rowM σ) tf H sf df xf hn ik tl sp rd gr (nI (σ 7 2 - (σ 0 5 + 1))) h4) (fun u => mdW G mo (corF σ j) (rowM σ) tf (endH H (rowM σ) hn) sf df xf (sizeF hn) ik tl sp rd gr) [0, 1, 2, 3, 4, 5, 6, 7] [] 1 k642 k644 k14 k38 k645 rfl (by decide +kernel) ⟨Nat.le_of_ble_eq_true rfl, Nat.le_of_ble_eq_true rfl⟩ ⟨Nat.le_of_ble_eq_true rfl, Nat.le_of_ble_eq_true rfl⟩ dX6_correct_149 (Nat.le_of_ble_eq_true rfl) 0 rfl rfl rfl (by decide +kernel) (fun _ => rfl) ([]) rfl (fun _ => rfl) 8 (fun _ => rfl) (by decide +kernel) (by decide +kernel) (fun _ _ => ?_)
    refine J_st (st' := [.int (nI (σ 7 2 - (σ 0 5 + 1)))]) rfl ?_
    exact J_zret C hr rfl dX6_correct_152 () rfl trivial rfl

set_option maxHeartbeats 4000000 in
set_option maxRecDepth 100000 in
theorem ct_mPc1 (l : Launch) (G : GT) (mo : Nat → Nat) (σ : AS) (kf tf H sf df xf : Nat → Nat) (hn ik tl sp rd : Nat) (gr : Int32) (x y : Int32) (hx : ¬ (x = 0 ∨ x = 1)) : Ct (S := Unit) l G NoX yX6_setPace (Wy yX6_setPace cX6_setPace 4 ((Option.some Jvm.ClassFile.FieldType.int))) { frames := 1, cells := 0, slots := 0, locals := 20 } [.ref (mo 0), .int x, .int y] (mdW G mo σ kf tf H sf df xf hn ik tl sp rd gr) (fun u => True) (fun u => some (.int (-1))) (fun u => mdW G mo σ kf tf H sf df xf hn ik tl sp rd gr) := by
  refine Ct.of (by decide) (Nat.le_of_ble_eq_true rfl) (fun p e s m args below meth c C hr hnm hX => ?_)
  refine J_iload_n C rfl dX6_setPace_0 ?_
  refine J_callS (as := [.int x]) (rest := []) C (ct_mScrN l G x hx) (fun u => mdW G mo σ kf tf H sf df xf hn ik tl sp rd gr) [] [0, 1, 2, 3, 4, 5, 6, 7] 1 k683 k684 k38 k685 rfl (by decide +kernel) ⟨Nat.le_of_ble_eq_true rfl, Nat.le_of_ble_eq_true rfl⟩ ⟨Nat.le_of_ble_eq_true rfl, Nat.le_of_ble_eq_true rfl⟩ dX6_setPace_1 (Nat.le_of_ble_eq_true rfl) rfl (by decide +kernel) (fun _ => rfl) (mdW G mo σ kf tf H sf df xf hn ik tl sp rd gr) rfl (fun _ => rfl) 8 (fun _ => rfl) (by decide +kernel) (by decide +kernel) (fun _ _ => ?_)
  refine J_st (st' := [.int 0]) rfl ?_
  refine J_if_ne C 9 (by decide) dX6_setPace_4 (fun h => absurd h (by decide)) (fun _ => ?_)
  refine J_iconst C (-1) (by decide) dX6_setPace_7 ?_
  exact J_zret C hr rfl dX6_setPace_8 () rfl trivial rfl

set_option maxHeartbeats 4000000 in
set_option maxRecDepth 100000 in
theorem ct_mPc2_0 (l : Launch) (G : GT) (mo : Nat → Nat) (σ : AS) (kf tf H sf df xf : Nat → Nat) (hn ik tl sp rd : Nat) (gr : Int32) (y : Int32) (hy : ¬ (1 ≤ y.toInt ∧ y.toInt ≤ 9)) : Ct (S := Unit) l G NoX yX6_setPace (Wy yX6_setPace cX6_setPace 4 ((Option.some Jvm.ClassFile.FieldType.int))) { frames := 1, cells := 0, slots := 0, locals := 25 } [.ref (mo 0), .int 0, .int y] (mdW G mo σ kf tf H sf df xf hn ik tl sp rd gr) (fun u => True) (fun u => some (.int (-2))) (fun u => mdW G mo σ kf tf H sf df xf hn ik tl sp rd gr) := by
  refine Ct.of (by decide) (Nat.le_of_ble_eq_true rfl) (fun p e s m args below meth c C hr hnm hX => ?_)
  refine J_iload_n C rfl dX6_setPace_0 ?_
  refine J_callS (as := [.int 0]) (rest := []) C (ct_mScr0 l G ) (fun u => mdW G mo σ kf tf H sf df xf hn ik tl sp rd gr) [] [0, 1, 2, 3, 4, 5, 6, 7] 1 k683 k684 k38 k685 rfl (by decide +kernel) ⟨Nat.le_of_ble_eq_true rfl, Nat.le_of_ble_eq_true rfl⟩ ⟨Nat.le_of_ble_eq_true rfl, Nat.le_of_ble_eq_true rfl⟩ dX6_setPace_1 (Nat.le_of_ble_eq_true rfl) rfl (by decide +kernel) (fun _ => rfl) (mdW G mo σ kf tf H sf df xf hn ik tl sp rd gr) rfl (fun _ => rfl) 8 (fun _ => rfl) (by decide +kernel) (by decide +kernel) (fun _ _ => ?_)
  refine J_st (st' := [.int 1]) rfl ?_
  refine J_if_ne C 9 (by decide) dX6_setPace_4 (fun _ => ?_) (fun h => absurd h (by decide))
  refine J_iload_n C rfl dX6_setPace_9 ?_
  refine J_i2l C dX6_setPace_10 ?_
  refine J_lconst C 1 (by decide) dX6_setPace_11 ?_
  refine J_ldc2 C k686 dX6_setPace_12 ?_
  refine J_callS (as := [.long y.toInt64, .long 1, .long 9]) (rest := []) C (ct_inN l G y.toInt64 1 9 (fun q => absurd ((in32 (zl := 1) (zh := 9) rfl rfl).mp q) hy)) (fun u => mdW G mo σ kf tf H sf df xf hn ik tl sp rd gr) [] [0, 1, 2, 3, 4, 5, 6, 7] 3 k627 k628 k38 k629 rfl (by decide +kernel) ⟨Nat.le_of_ble_eq_true rfl, Nat.le_of_ble_eq_true rfl⟩ ⟨Nat.le_of_ble_eq_true rfl, Nat.le_of_ble_eq_true rfl⟩ dX6_setPace_15 (Nat.le_of_ble_eq_true rfl) rfl (by decide +kernel) (fun _ => rfl) (mdW G mo σ kf tf H sf df xf hn ik tl sp rd gr) rfl (fun _ => rfl) 8 (fun _ => rfl) (by decide +kernel) (by decide +kernel) (fun _ _ => ?_)
  refine J_st (st' := [.int 0]) rfl ?_
  refine J_if_ne C 24 (by decide) dX6_setPace_18 (fun h => absurd h (by decide)) (fun _ => ?_)
  refine J_bipush C (-2) (by decide) dX6_setPace_21 ?_
  exact J_zret C hr rfl dX6_setPace_23 () rfl trivial rfl

set_option maxHeartbeats 4000000 in
set_option maxRecDepth 100000 in
theorem ct_mPc3_0 (l : Launch) (G : GT) (mo : Nat → Nat) (σ : AS) (kf tf H sf df xf : Nat → Nat) (hn ik tl sp rd : Nat) (gr : Int32) (k : Nat) (hI : Inv σ) (hk : 1 ≤ k ∧ k ≤ 9) (he : σ 0 12 = k) : Ct (S := Unit) l G NoX yX6_setPace (Wy yX6_setPace cX6_setPace 4 ((Option.some Jvm.ClassFile.FieldType.int))) { frames := 1, cells := 0, slots := 0, locals := 25 } [.ref (mo 0), .int 0, .int (nI k)] (mdW G mo σ kf tf H sf df xf hn ik tl sp rd gr) (fun u => True) (fun u => some (.int (-5))) (fun u => mdW G mo σ kf tf H sf df xf hn ik tl sp rd gr) := by
  refine Ct.of (by decide) (Nat.le_of_ble_eq_true rfl) (fun p e s m args below meth c C hr hnm hX => ?_)
  have h40 := hI.a
  have hc := hI.c
  have hi := hI.i
  have hs := hI.s
  refine J_iload_n C rfl dX6_setPace_0 ?_
  refine J_callS (as := [.int 0]) (rest := []) C (ct_mScr0 l G ) (fun u => mdW G mo σ kf tf H sf df xf hn ik tl sp rd gr) [] [0, 1, 2, 3, 4, 5, 6, 7] 1 k683 k684 k38 k685 rfl (by decide +kernel) ⟨Nat.le_of_ble_eq_true rfl, Nat.le_of_ble_eq_true rfl⟩ ⟨Nat.le_of_ble_eq_true rfl, Nat.le_of_ble_eq_true rfl⟩ dX6_setPace_1 (Nat.le_of_ble_eq_true rfl) rfl (by decide +kernel) (fun _ => rfl) (mdW G mo σ kf tf H sf df xf hn ik tl sp rd gr) rfl (fun _ => rfl) 8 (fun _ => rfl) (by decide +kernel) (by decide +kernel) (fun _ _ => ?_)
  refine J_st (st' := [.int 1]) rfl ?_
  refine J_if_ne C 9 (by decide) dX6_setPace_4 (fun _ => ?_) (fun h => absurd h (by decide))
  refine J_iload_n C rfl dX6_setPace_9 ?_
  refine J_i2l C dX6_setPace_10 ?_
  refine J_lconst C 1 (by decide) dX6_setPace_11 ?_
  refine J_ldc2 C k686 dX6_setPace_12 ?_
  refine J_callS (as := [.long ((nI k).toInt64), .long 1, .long 9]) (rest := []) C (ct_inY l G ((nI k).toInt64) 1 9 ((in32 (zl := 1) (zh := 9) rfl rfl).mpr (by rw [nI_toInt (by omega)]; omega))) (fun u => mdW G mo σ kf tf H sf df xf hn ik tl sp rd gr) [] [0, 1, 2, 3, 4, 5, 6, 7] 3 k627 k628 k38 k629 rfl (by decide +kernel) ⟨Nat.le_of_ble_eq_true rfl, Nat.le_of_ble_eq_true rfl⟩ ⟨Nat.le_of_ble_eq_true rfl, Nat.le_of_ble_eq_true rfl⟩ dX6_setPace_15 (Nat.le_of_ble_eq_true rfl) rfl (by decide +kernel) (fun _ => rfl) (mdW G mo σ kf tf H sf df xf hn ik tl sp rd gr) rfl (fun _ => rfl) 8 (fun _ => rfl) (by decide +kernel) (by decide +kernel) (fun _ _ => ?_)
  refine J_st (st' := [.int 1]) rfl ?_
  refine J_if_ne C 24 (by decide) dX6_setPace_18 (fun _ => ?_) (fun h => absurd h (by decide))
  refine J_aload_n C rfl dX6_setPace_24 ?_
  refine J_get C 0 0 in6 rfl rfl (by decide) k575 rfl dX6_setPace_25 ?_
  refine J_bipush C 12 (by decide) dX6_setPace_28 ?_
  refine J_iload_n C rfl dX6_setPace_30 ?_
  refine J_iadd C dX6_setPace_31 ?_
  refine J_i ((by decide) : (12 + 0 : Int32) = 12) ?_
  refine J_iald C 1 rfl 12 rfl (by decide) (Nat.le_of_ble_eq_true rfl) dX6_setPace_32 ?_
  refine J_i (y := nI (σ 0 12)) (rfl) ?_
  refine J_istore_n C [(3, .int (nI (σ 0 12))), (0, .ref (mo 0)), (1, .int 0), (2, .int (nI k))] (by decide) rfl dX6_setPace_33 ?_
  refine J_iload_n C rfl dX6_setPace_34 ?_
  refine J_iload_n C rfl dX6_setPace_35 ?_
  refine J_icmp_ne C 42 (by decide) dX6_setPace_36 (fun h => absurd (cv_ne_t (a := (σ 0 12)) (b := k) (by omega) (by omega) h) (by omega)) (fun c36 => ?_)
  refine J_bipush C (-5) (by decide) dX6_setPace_39 ?_
  exact J_zret C hr rfl dX6_setPace_41 () rfl trivial rfl

set_option maxHeartbeats 4000000 in
set_option maxRecDepth 100000 in
theorem ct_mPcY_0 (l : Launch) (G : GT) (mo : Nat → Nat) (σ : AS) (kf tf H sf df xf : Nat → Nat) (hn ik tl sp rd : Nat) (gr : Int32) (k : Nat) (hI : Inv σ) (h4 : hn ≤ 4) (hk : 1 ≤ k ∧ k ≤ 9) (he : ¬ σ 0 12 = k) : Ct (S := Unit) l G NoX yX6_setPace (Wy yX6_setPace cX6_setPace 4 ((Option.some Jvm.ClassFile.FieldType.int))) { frames := 1, cells := 0, slots := 0, locals := 25 } [.ref (mo 0), .int 0, .int (nI k)] (mdW G mo σ kf tf H sf df xf hn ik tl sp rd gr) (fun u => True) (fun u => some (.int (nI (σ 0 12)))) (fun u => mdW G mo (up2 σ 0 12 k) (rowM σ) tf (endH H (rowM σ) hn) sf df xf (sizeF hn) ik tl sp rd gr) := by
  refine Ct.of (by decide) (Nat.le_of_ble_eq_true rfl) (fun p e s m args below meth c C hr hnm hX => ?_)
  have h40 := hI.a
  have hc := hI.c
  have hi := hI.i
  have hs := hI.s
  refine J_iload_n C rfl dX6_setPace_0 ?_
  refine J_callS (as := [.int 0]) (rest := []) C (ct_mScr0 l G ) (fun u => mdW G mo σ kf tf H sf df xf hn ik tl sp rd gr) [] [0, 1, 2, 3, 4, 5, 6, 7] 1 k683 k684 k38 k685 rfl (by decide +kernel) ⟨Nat.le_of_ble_eq_true rfl, Nat.le_of_ble_eq_true rfl⟩ ⟨Nat.le_of_ble_eq_true rfl, Nat.le_of_ble_eq_true rfl⟩ dX6_setPace_1 (Nat.le_of_ble_eq_true rfl) rfl (by decide +kernel) (fun _ => rfl) (mdW G mo σ kf tf H sf df xf hn ik tl sp rd gr) rfl (fun _ => rfl) 8 (fun _ => rfl) (by decide +kernel) (by decide +kernel) (fun _ _ => ?_)
  refine J_st (st' := [.int 1]) rfl ?_
  refine J_if_ne C 9 (by decide) dX6_setPace_4 (fun _ => ?_) (fun h => absurd h (by decide))
  refine J_iload_n C rfl dX6_setPace_9 ?_
  refine J_i2l C dX6_setPace_10 ?_
  refine J_lconst C 1 (by decide) dX6_setPace_11 ?_
  refine J_ldc2 C k686 dX6_setPace_12 ?_
  refine J_callS (as := [.long ((nI k).toInt64), .long 1, .long 9]) (rest := []) C (ct_inY l G ((nI k).toInt64) 1 9 ((in32 (zl := 1) (zh := 9) rfl rfl).mpr (by rw [nI_toInt (by omega)]; omega))) (fun u => mdW G mo σ kf tf H sf df xf hn ik tl sp rd gr) [] [0, 1, 2, 3, 4, 5, 6, 7] 3 k627 k628 k38 k629 rfl (by decide +kernel) ⟨Nat.le_of_ble_eq_true rfl, Nat.le_of_ble_eq_true rfl⟩ ⟨Nat.le_of_ble_eq_true rfl, Nat.le_of_ble_eq_true rfl⟩ dX6_setPace_15 (Nat.le_of_ble_eq_true rfl) rfl (by decide +kernel) (fun _ => rfl) (mdW G mo σ kf tf H sf df xf hn ik tl sp rd gr) rfl (fun _ => rfl) 8 (fun _ => rfl) (by decide +kernel) (by decide +kernel) (fun _ _ => ?_)
  refine J_st (st' := [.int 1]) rfl ?_
  refine J_if_ne C 24 (by decide) dX6_setPace_18 (fun _ => ?_) (fun h => absurd h (by decide))
  refine J_aload_n C rfl dX6_setPace_24 ?_
  refine J_get C 0 0 in6 rfl rfl (by decide) k575 rfl dX6_setPace_25 ?_
  refine J_bipush C 12 (by decide) dX6_setPace_28 ?_
  refine J_iload_n C rfl dX6_setPace_30 ?_
  refine J_iadd C dX6_setPace_31 ?_
  refine J_i ((by decide) : (12 + 0 : Int32) = 12) ?_
  refine J_iald C 1 rfl 12 rfl (by decide) (Nat.le_of_ble_eq_true rfl) dX6_setPace_32 ?_
  refine J_i (y := nI (σ 0 12)) (rfl) ?_
  refine J_istore_n C [(3, .int (nI (σ 0 12))), (0, .ref (mo 0)), (1, .int 0), (2, .int (nI k))] (by decide) rfl dX6_setPace_33 ?_
  refine J_iload_n C rfl dX6_setPace_34 ?_
  refine J_iload_n C rfl dX6_setPace_35 ?_
  refine J_icmp_ne C 42 (by decide) dX6_setPace_36 (fun c36 => ?_) (fun h => absurd (cv_ne_f (a := (σ 0 12)) (b := k) (by omega) (by omega) h) (by omega))
  refine J_aload_n C rfl dX6_setPace_42 ?_
  refine J_callV (as := []) (rest := []) C (ct_keeps l G mo σ kf tf H sf df xf hn ik tl sp rd gr) (fun u => mdW G mo σ (rowM σ) tf H sf df xf hn ik tl sp rd gr) [0, 1, 2, 3, 4, 5, 6, 7] [] 0 k638 k640 k13 k38 k641 rfl (by decide +kernel) ⟨Nat.le_of_ble_eq_true rfl, Nat.le_of_ble_eq_true rfl⟩ ⟨Nat.le_of_ble_eq_true rfl, Nat.le_of_ble_eq_true rfl⟩ dX6_setPace_43 (Nat.le_of_ble_eq_true rfl) 0 rfl rfl rfl (by decide +kernel) (fun _ => rfl) ([]) rfl (fun _ => rfl) 8 (fun _ => rfl) (by decide +kernel) (by decide +kernel) (fun _ _ => ?_)
  refine J_st (st' := []) rfl ?_
  refine J_ws (ws' := mdW G mo σ (rowM σ) tf H sf df xf hn ik tl sp rd gr) rfl ?_
  refine J_aload_n C rfl dX6_setPace_46 ?_
  refine J_get C 0 0 in6 rfl rfl (by decide) k575 rfl dX6_setPace_47 ?_
  refine J_bipush C 12 (by decide) dX6_setPace_50 ?_
  refine J_iload_n C rfl dX6_setPace_52 ?_
  refine J_iadd C dX6_setPace_53 ?_
  refine J_i ((by decide) : (12 + 0 : Int32) = 12) ?_
  refine J_iload_n C rfl dX6_setPace_54 ?_
  refine J_iast C 1 ([(mo 0, .inr (6, [.ref (mo 1), .ref (mo 2), .ref (mo 3), .ref (mo 4), .int (nI hn), .ref (mo 5), .int (nI ik), .ref (mo 6), .ref (mo 7), .int (nI tl), .int (nI sp), .int (nI rd), .int gr])), (mo 1, .inl (G.2.1, 246, .inl (upd (fun q => nI ((rowM σ) q)) 12 (nI k)))), (mo 2, .inl (G.2.1, 246, .inl (fun q => nI ((rowM σ) q)))), (mo 3, .inl (G.2.1, 246, .inl (fun q => nI (tf q)))), (mo 4, .inl (G.2.1, 984, .inl (fun q => nI (H q)))), (mo 5, .inl (G.2.1, 246, .inl (fun q => nI (sf q)))), (mo 6, .inl (G.2.1, 40, .inl (fun q => nI (df q)))), (mo 7, .inl (G.2.1, 60, .inl (fun q => nI (xf q))))]) rfl 12 rfl (by decide) (Nat.le_of_ble_eq_true rfl) rfl dX6_setPace_55 ?_
  refine J_arr 1 (fun q => nI (rowM (up2 σ 0 12 k) q)) rfl (fun q _ => congrFun (rowM_u0 σ k (by decide) (by decide)) q) ?_
  refine J_ws (ws' := mdW G mo (up2 σ 0 12 k) (rowM σ) tf H sf df xf hn ik tl sp rd gr) rfl ?_
  refine J_aload_n C rfl dX6_setPace_56 ?_
  refine J_iload_n C rfl dX6_setPace_57 ?_
  refine J_callV (as := [.int (nI (σ 0 12))]) (rest := []) C (ct_ends l G mo (up2 σ 0 12 k) (rowM σ) tf H sf df xf hn ik tl sp rd gr (nI (σ 0 12)) h4) (fun u => mdW G mo (up2 σ 0 12 k) (rowM σ) tf (endH H (rowM σ) hn) sf df xf (sizeF hn) ik tl sp rd gr) [0, 1, 2, 3, 4, 5, 6, 7] [] 1 k642 k644 k14 k38 k645 rfl (by decide +kernel) ⟨Nat.le_of_ble_eq_true rfl, Nat.le_of_ble_eq_true rfl⟩ ⟨Nat.le_of_ble_eq_true rfl, Nat.le_of_ble_eq_true rfl⟩ dX6_setPace_58 (Nat.le_of_ble_eq_true rfl) 0 rfl rfl rfl (by decide +kernel) (fun _ => rfl) ([]) rfl (fun _ => rfl) 8 (fun _ => rfl) (by decide +kernel) (by decide +kernel) (fun _ _ => ?_)
  refine J_st (st' := [.int (nI (σ 0 12))]) rfl ?_
  exact J_zret C hr rfl dX6_setPace_61 () rfl trivial rfl

set_option maxHeartbeats 4000000 in
set_option maxRecDepth 100000 in
theorem ct_mPc2_1 (l : Launch) (G : GT) (mo : Nat → Nat) (σ : AS) (kf tf H sf df xf : Nat → Nat) (hn ik tl sp rd : Nat) (gr : Int32) (y : Int32) (hy : ¬ (1 ≤ y.toInt ∧ y.toInt ≤ 9)) : Ct (S := Unit) l G NoX yX6_setPace (Wy yX6_setPace cX6_setPace 4 ((Option.some Jvm.ClassFile.FieldType.int))) { frames := 1, cells := 0, slots := 0, locals := 25 } [.ref (mo 0), .int 1, .int y] (mdW G mo σ kf tf H sf df xf hn ik tl sp rd gr) (fun u => True) (fun u => some (.int (-2))) (fun u => mdW G mo σ kf tf H sf df xf hn ik tl sp rd gr) := by
  refine Ct.of (by decide) (Nat.le_of_ble_eq_true rfl) (fun p e s m args below meth c C hr hnm hX => ?_)
  refine J_iload_n C rfl dX6_setPace_0 ?_
  refine J_callS (as := [.int 1]) (rest := []) C (ct_mScr1 l G ) (fun u => mdW G mo σ kf tf H sf df xf hn ik tl sp rd gr) [] [0, 1, 2, 3, 4, 5, 6, 7] 1 k683 k684 k38 k685 rfl (by decide +kernel) ⟨Nat.le_of_ble_eq_true rfl, Nat.le_of_ble_eq_true rfl⟩ ⟨Nat.le_of_ble_eq_true rfl, Nat.le_of_ble_eq_true rfl⟩ dX6_setPace_1 (Nat.le_of_ble_eq_true rfl) rfl (by decide +kernel) (fun _ => rfl) (mdW G mo σ kf tf H sf df xf hn ik tl sp rd gr) rfl (fun _ => rfl) 8 (fun _ => rfl) (by decide +kernel) (by decide +kernel) (fun _ _ => ?_)
  refine J_st (st' := [.int 1]) rfl ?_
  refine J_if_ne C 9 (by decide) dX6_setPace_4 (fun _ => ?_) (fun h => absurd h (by decide))
  refine J_iload_n C rfl dX6_setPace_9 ?_
  refine J_i2l C dX6_setPace_10 ?_
  refine J_lconst C 1 (by decide) dX6_setPace_11 ?_
  refine J_ldc2 C k686 dX6_setPace_12 ?_
  refine J_callS (as := [.long y.toInt64, .long 1, .long 9]) (rest := []) C (ct_inN l G y.toInt64 1 9 (fun q => absurd ((in32 (zl := 1) (zh := 9) rfl rfl).mp q) hy)) (fun u => mdW G mo σ kf tf H sf df xf hn ik tl sp rd gr) [] [0, 1, 2, 3, 4, 5, 6, 7] 3 k627 k628 k38 k629 rfl (by decide +kernel) ⟨Nat.le_of_ble_eq_true rfl, Nat.le_of_ble_eq_true rfl⟩ ⟨Nat.le_of_ble_eq_true rfl, Nat.le_of_ble_eq_true rfl⟩ dX6_setPace_15 (Nat.le_of_ble_eq_true rfl) rfl (by decide +kernel) (fun _ => rfl) (mdW G mo σ kf tf H sf df xf hn ik tl sp rd gr) rfl (fun _ => rfl) 8 (fun _ => rfl) (by decide +kernel) (by decide +kernel) (fun _ _ => ?_)
  refine J_st (st' := [.int 0]) rfl ?_
  refine J_if_ne C 24 (by decide) dX6_setPace_18 (fun h => absurd h (by decide)) (fun _ => ?_)
  refine J_bipush C (-2) (by decide) dX6_setPace_21 ?_
  exact J_zret C hr rfl dX6_setPace_23 () rfl trivial rfl

set_option maxHeartbeats 4000000 in
set_option maxRecDepth 100000 in
theorem ct_mPc3_1 (l : Launch) (G : GT) (mo : Nat → Nat) (σ : AS) (kf tf H sf df xf : Nat → Nat) (hn ik tl sp rd : Nat) (gr : Int32) (k : Nat) (hI : Inv σ) (hk : 1 ≤ k ∧ k ≤ 9) (he : σ 0 13 = k) : Ct (S := Unit) l G NoX yX6_setPace (Wy yX6_setPace cX6_setPace 4 ((Option.some Jvm.ClassFile.FieldType.int))) { frames := 1, cells := 0, slots := 0, locals := 25 } [.ref (mo 0), .int 1, .int (nI k)] (mdW G mo σ kf tf H sf df xf hn ik tl sp rd gr) (fun u => True) (fun u => some (.int (-5))) (fun u => mdW G mo σ kf tf H sf df xf hn ik tl sp rd gr) := by
  refine Ct.of (by decide) (Nat.le_of_ble_eq_true rfl) (fun p e s m args below meth c C hr hnm hX => ?_)
  have h40 := hI.a
  have hc := hI.c
  have hi := hI.i
  have hs := hI.s
  refine J_iload_n C rfl dX6_setPace_0 ?_
  refine J_callS (as := [.int 1]) (rest := []) C (ct_mScr1 l G ) (fun u => mdW G mo σ kf tf H sf df xf hn ik tl sp rd gr) [] [0, 1, 2, 3, 4, 5, 6, 7] 1 k683 k684 k38 k685 rfl (by decide +kernel) ⟨Nat.le_of_ble_eq_true rfl, Nat.le_of_ble_eq_true rfl⟩ ⟨Nat.le_of_ble_eq_true rfl, Nat.le_of_ble_eq_true rfl⟩ dX6_setPace_1 (Nat.le_of_ble_eq_true rfl) rfl (by decide +kernel) (fun _ => rfl) (mdW G mo σ kf tf H sf df xf hn ik tl sp rd gr) rfl (fun _ => rfl) 8 (fun _ => rfl) (by decide +kernel) (by decide +kernel) (fun _ _ => ?_)
  refine J_st (st' := [.int 1]) rfl ?_
  refine J_if_ne C 9 (by decide) dX6_setPace_4 (fun _ => ?_) (fun h => absurd h (by decide))
  refine J_iload_n C rfl dX6_setPace_9 ?_
  refine J_i2l C dX6_setPace_10 ?_
  refine J_lconst C 1 (by decide) dX6_setPace_11 ?_
  refine J_ldc2 C k686 dX6_setPace_12 ?_
  refine J_callS (as := [.long ((nI k).toInt64), .long 1, .long 9]) (rest := []) C (ct_inY l G ((nI k).toInt64) 1 9 ((in32 (zl := 1) (zh := 9) rfl rfl).mpr (by rw [nI_toInt (by omega)]; omega))) (fun u => mdW G mo σ kf tf H sf df xf hn ik tl sp rd gr) [] [0, 1, 2, 3, 4, 5, 6, 7] 3 k627 k628 k38 k629 rfl (by decide +kernel) ⟨Nat.le_of_ble_eq_true rfl, Nat.le_of_ble_eq_true rfl⟩ ⟨Nat.le_of_ble_eq_true rfl, Nat.le_of_ble_eq_true rfl⟩ dX6_setPace_15 (Nat.le_of_ble_eq_true rfl) rfl (by decide +kernel) (fun _ => rfl) (mdW G mo σ kf tf H sf df xf hn ik tl sp rd gr) rfl (fun _ => rfl) 8 (fun _ => rfl) (by decide +kernel) (by decide +kernel) (fun _ _ => ?_)
  refine J_st (st' := [.int 1]) rfl ?_
  refine J_if_ne C 24 (by decide) dX6_setPace_18 (fun _ => ?_) (fun h => absurd h (by decide))
  refine J_aload_n C rfl dX6_setPace_24 ?_
  refine J_get C 0 0 in6 rfl rfl (by decide) k575 rfl dX6_setPace_25 ?_
  refine J_bipush C 12 (by decide) dX6_setPace_28 ?_
  refine J_iload_n C rfl dX6_setPace_30 ?_
  refine J_iadd C dX6_setPace_31 ?_
  refine J_i ((by decide) : (12 + 1 : Int32) = 13) ?_
  refine J_iald C 1 rfl 13 rfl (by decide) (Nat.le_of_ble_eq_true rfl) dX6_setPace_32 ?_
  refine J_i (y := nI (σ 0 13)) (rfl) ?_
  refine J_istore_n C [(3, .int (nI (σ 0 13))), (0, .ref (mo 0)), (1, .int 1), (2, .int (nI k))] (by decide) rfl dX6_setPace_33 ?_
  refine J_iload_n C rfl dX6_setPace_34 ?_
  refine J_iload_n C rfl dX6_setPace_35 ?_
  refine J_icmp_ne C 42 (by decide) dX6_setPace_36 (fun h => absurd (cv_ne_t (a := (σ 0 13)) (b := k) (by omega) (by omega) h) (by omega)) (fun c36 => ?_)
  refine J_bipush C (-5) (by decide) dX6_setPace_39 ?_
  exact J_zret C hr rfl dX6_setPace_41 () rfl trivial rfl

set_option maxHeartbeats 4000000 in
set_option maxRecDepth 100000 in
theorem ct_mPcY_1 (l : Launch) (G : GT) (mo : Nat → Nat) (σ : AS) (kf tf H sf df xf : Nat → Nat) (hn ik tl sp rd : Nat) (gr : Int32) (k : Nat) (hI : Inv σ) (h4 : hn ≤ 4) (hk : 1 ≤ k ∧ k ≤ 9) (he : ¬ σ 0 13 = k) : Ct (S := Unit) l G NoX yX6_setPace (Wy yX6_setPace cX6_setPace 4 ((Option.some Jvm.ClassFile.FieldType.int))) { frames := 1, cells := 0, slots := 0, locals := 25 } [.ref (mo 0), .int 1, .int (nI k)] (mdW G mo σ kf tf H sf df xf hn ik tl sp rd gr) (fun u => True) (fun u => some (.int (nI (σ 0 13)))) (fun u => mdW G mo (up2 σ 0 13 k) (rowM σ) tf (endH H (rowM σ) hn) sf df xf (sizeF hn) ik tl sp rd gr) := by
  refine Ct.of (by decide) (Nat.le_of_ble_eq_true rfl) (fun p e s m args below meth c C hr hnm hX => ?_)
  have h40 := hI.a
  have hc := hI.c
  have hi := hI.i
  have hs := hI.s
  refine J_iload_n C rfl dX6_setPace_0 ?_
  refine J_callS (as := [.int 1]) (rest := []) C (ct_mScr1 l G ) (fun u => mdW G mo σ kf tf H sf df xf hn ik tl sp rd gr) [] [0, 1, 2, 3, 4, 5, 6, 7] 1 k683 k684 k38 k685 rfl (by decide +kernel) ⟨Nat.le_of_ble_eq_true rfl, Nat.le_of_ble_eq_true rfl⟩ ⟨Nat.le_of_ble_eq_true rfl, Nat.le_of_ble_eq_true rfl⟩ dX6_setPace_1 (Nat.le_of_ble_eq_true rfl) rfl (by decide +kernel) (fun _ => rfl) (mdW G mo σ kf tf H sf df xf hn ik tl sp rd gr) rfl (fun _ => rfl) 8 (fun _ => rfl) (by decide +kernel) (by decide +kernel) (fun _ _ => ?_)
  refine J_st (st' := [.int 1]) rfl ?_
  refine J_if_ne C 9 (by decide) dX6_setPace_4 (fun _ => ?_) (fun h => absurd h (by decide))
  refine J_iload_n C rfl dX6_setPace_9 ?_
  refine J_i2l C dX6_setPace_10 ?_
  refine J_lconst C 1 (by decide) dX6_setPace_11 ?_
  refine J_ldc2 C k686 dX6_setPace_12 ?_
  refine J_callS (as := [.long ((nI k).toInt64), .long 1, .long 9]) (rest := []) C (ct_inY l G ((nI k).toInt64) 1 9 ((in32 (zl := 1) (zh := 9) rfl rfl).mpr (by rw [nI_toInt (by omega)]; omega))) (fun u => mdW G mo σ kf tf H sf df xf hn ik tl sp rd gr) [] [0, 1, 2, 3, 4, 5, 6, 7] 3 k627 k628 k38 k629 rfl (by decide +kernel) ⟨Nat.le_of_ble_eq_true rfl, Nat.le_of_ble_eq_true rfl⟩ ⟨Nat.le_of_ble_eq_true rfl, Nat.le_of_ble_eq_true rfl⟩ dX6_setPace_15 (Nat.le_of_ble_eq_true rfl) rfl (by decide +kernel) (fun _ => rfl) (mdW G mo σ kf tf H sf df xf hn ik tl sp rd gr) rfl (fun _ => rfl) 8 (fun _ => rfl) (by decide +kernel) (by decide +kernel) (fun _ _ => ?_)
  refine J_st (st' := [.int 1]) rfl ?_
  refine J_if_ne C 24 (by decide) dX6_setPace_18 (fun _ => ?_) (fun h => absurd h (by decide))
  refine J_aload_n C rfl dX6_setPace_24 ?_
  refine J_get C 0 0 in6 rfl rfl (by decide) k575 rfl dX6_setPace_25 ?_
  refine J_bipush C 12 (by decide) dX6_setPace_28 ?_
  refine J_iload_n C rfl dX6_setPace_30 ?_
  refine J_iadd C dX6_setPace_31 ?_
  refine J_i ((by decide) : (12 + 1 : Int32) = 13) ?_
  refine J_iald C 1 rfl 13 rfl (by decide) (Nat.le_of_ble_eq_true rfl) dX6_setPace_32 ?_
  refine J_i (y := nI (σ 0 13)) (rfl) ?_
  refine J_istore_n C [(3, .int (nI (σ 0 13))), (0, .ref (mo 0)), (1, .int 1), (2, .int (nI k))] (by decide) rfl dX6_setPace_33 ?_
  refine J_iload_n C rfl dX6_setPace_34 ?_
  refine J_iload_n C rfl dX6_setPace_35 ?_
  refine J_icmp_ne C 42 (by decide) dX6_setPace_36 (fun c36 => ?_) (fun h => absurd (cv_ne_f (a := (σ 0 13)) (b := k) (by omega) (by omega) h) (by omega))
  refine J_aload_n C rfl dX6_setPace_42 ?_
  refine J_callV (as := []) (rest := []) C (ct_keeps l G mo σ kf tf H sf df xf hn ik tl sp rd gr) (fun u => mdW G mo σ (rowM σ) tf H sf df xf hn ik tl sp rd gr) [0, 1, 2, 3, 4, 5, 6, 7] [] 0 k638 k640 k13 k38 k641 rfl (by decide +kernel) ⟨Nat.le_of_ble_eq_true rfl, Nat.le_of_ble_eq_true rfl⟩ ⟨Nat.le_of_ble_eq_true rfl, Nat.le_of_ble_eq_true rfl⟩ dX6_setPace_43 (Nat.le_of_ble_eq_true rfl) 0 rfl rfl rfl (by decide +kernel) (fun _ => rfl) ([]) rfl (fun _ => rfl) 8 (fun _ => rfl) (by decide +kernel) (by decide +kernel) (fun _ _ => ?_)
  refine J_st (st' := []) rfl ?_
  refine J_ws (ws' := mdW G mo σ (rowM σ) tf H sf df xf hn ik tl sp rd gr) rfl ?_
  refine J_aload_n C rfl dX6_setPace_46 ?_
  refine J_get C 0 0 in6 rfl rfl (by decide) k575 rfl dX6_setPace_47 ?_
  refine J_bipush C 12 (by decide) dX6_setPace_50 ?_
  refine J_iload_n C rfl dX6_setPace_52 ?_
  refine J_iadd C dX6_setPace_53 ?_
  refine J_i ((by decide) : (12 + 1 : Int32) = 13) ?_
  refine J_iload_n C rfl dX6_setPace_54 ?_
  refine J_iast C 1 ([(mo 0, .inr (6, [.ref (mo 1), .ref (mo 2), .ref (mo 3), .ref (mo 4), .int (nI hn), .ref (mo 5), .int (nI ik), .ref (mo 6), .ref (mo 7), .int (nI tl), .int (nI sp), .int (nI rd), .int gr])), (mo 1, .inl (G.2.1, 246, .inl (upd (fun q => nI ((rowM σ) q)) 13 (nI k)))), (mo 2, .inl (G.2.1, 246, .inl (fun q => nI ((rowM σ) q)))), (mo 3, .inl (G.2.1, 246, .inl (fun q => nI (tf q)))), (mo 4, .inl (G.2.1, 984, .inl (fun q => nI (H q)))), (mo 5, .inl (G.2.1, 246, .inl (fun q => nI (sf q)))), (mo 6, .inl (G.2.1, 40, .inl (fun q => nI (df q)))), (mo 7, .inl (G.2.1, 60, .inl (fun q => nI (xf q))))]) rfl 13 rfl (by decide) (Nat.le_of_ble_eq_true rfl) rfl dX6_setPace_55 ?_
  refine J_arr 1 (fun q => nI (rowM (up2 σ 0 13 k) q)) rfl (fun q _ => congrFun (rowM_u0 σ k (by decide) (by decide)) q) ?_
  refine J_ws (ws' := mdW G mo (up2 σ 0 13 k) (rowM σ) tf H sf df xf hn ik tl sp rd gr) rfl ?_
  refine J_aload_n C rfl dX6_setPace_56 ?_
  refine J_iload_n C rfl dX6_setPace_57 ?_
  refine J_callV (as := [.int (nI (σ 0 13))]) (rest := []) C (ct_ends l G mo (up2 σ 0 13 k) (rowM σ) tf H sf df xf hn ik tl sp rd gr (nI (σ 0 13)) h4) (fun u => mdW G mo (up2 σ 0 13 k) (rowM σ) tf (endH H (rowM σ) hn) sf df xf (sizeF hn) ik tl sp rd gr) [0, 1, 2, 3, 4, 5, 6, 7] [] 1 k642 k644 k14 k38 k645 rfl (by decide +kernel) ⟨Nat.le_of_ble_eq_true rfl, Nat.le_of_ble_eq_true rfl⟩ ⟨Nat.le_of_ble_eq_true rfl, Nat.le_of_ble_eq_true rfl⟩ dX6_setPace_58 (Nat.le_of_ble_eq_true rfl) 0 rfl rfl rfl (by decide +kernel) (fun _ => rfl) ([]) rfl (fun _ => rfl) 8 (fun _ => rfl) (by decide +kernel) (by decide +kernel) (fun _ _ => ?_)
  refine J_st (st' := [.int (nI (σ 0 13))]) rfl ?_
  exact J_zret C hr rfl dX6_setPace_61 () rfl trivial rfl

set_option maxHeartbeats 4000000 in
set_option maxRecDepth 100000 in
theorem ct_mPour1 (l : Launch) (G : GT) (mo : Nat → Nat) (σ : AS) (kf tf H sf df xf : Nat → Nat) (hn ik tl sp rd : Nat) (gr : Int32) (x : Int32) (hx : ¬ (1 ≤ x.toInt ∧ x.toInt ≤ 80)) : Ct (S := Unit) l G NoX yX6_pour (Wy yX6_pour cX6_pour 2 ((Option.some Jvm.ClassFile.FieldType.int))) { frames := 1, cells := 0, slots := 0, locals := 25 } [.ref (mo 0), .int x] (mdW G mo σ kf tf H sf df xf hn ik tl sp rd gr) (fun u => True) (fun u => some (.int (-2))) (fun u => mdW G mo σ kf tf H sf df xf hn ik tl sp rd gr) := by
  refine Ct.of (by decide) (Nat.le_of_ble_eq_true rfl) (fun p e s m args below meth c C hr hnm hX => ?_)
  refine J_iload_n C rfl dX6_pour_0 ?_
  refine J_i2l C dX6_pour_1 ?_
  refine J_lconst C 1 (by decide) dX6_pour_2 ?_
  refine J_ldc2 C k691 dX6_pour_3 ?_
  refine J_callS (as := [.long x.toInt64, .long 1, .long 80]) (rest := []) C (ct_inN l G x.toInt64 1 80 (fun q => absurd ((in32 (zl := 1) (zh := 80) rfl rfl).mp q) hx)) (fun u => mdW G mo σ kf tf H sf df xf hn ik tl sp rd gr) [] [0, 1, 2, 3, 4, 5, 6, 7] 3 k627 k628 k38 k629 rfl (by decide +kernel) ⟨Nat.le_of_ble_eq_true rfl, Nat.le_of_ble_eq_true rfl⟩ ⟨Nat.le_of_ble_eq_true rfl, Nat.le_of_ble_eq_true rfl⟩ dX6_pour_6 (Nat.le_of_ble_eq_true rfl) rfl (by decide +kernel) (fun _ => rfl) (mdW G mo σ kf tf H sf df xf hn ik tl sp rd gr) rfl (fun _ => rfl) 8 (fun _ => rfl) (by decide +kernel) (by decide +kernel) (fun _ _ => ?_)
  refine J_st (st' := [.int 0]) rfl ?_
  refine J_if_ne C 15 (by decide) dX6_pour_9 (fun h => absurd h (by decide)) (fun _ => ?_)
  refine J_bipush C (-2) (by decide) dX6_pour_12 ?_
  exact J_zret C hr rfl dX6_pour_14 () rfl trivial rfl

set_option maxHeartbeats 4000000 in
set_option maxRecDepth 100000 in
theorem ct_mPour2 (l : Launch) (G : GT) (mo : Nat → Nat) (σ : AS) (kf tf H sf df xf : Nat → Nat) (hn ik tl sp rd : Nat) (gr : Int32) (k : Nat) (hI : Inv σ) (hk : 1 ≤ k ∧ k ≤ 80) (he : ¬ σ 0 11 + k ≤ 9999) : Ct (S := Unit) l G NoX yX6_pour (Wy yX6_pour cX6_pour 2 ((Option.some Jvm.ClassFile.FieldType.int))) { frames := 1, cells := 0, slots := 0, locals := 25 } [.ref (mo 0), .int (nI k)] (mdW G mo σ kf tf H sf df xf hn ik tl sp rd gr) (fun u => True) (fun u => some (.int (-3))) (fun u => mdW G mo σ kf tf H sf df xf hn ik tl sp rd gr) := by
  refine Ct.of (by decide) (Nat.le_of_ble_eq_true rfl) (fun p e s m args below meth c C hr hnm hX => ?_)
  have h40 := hI.a
  have hc := hI.c
  have hi := hI.i
  have hs := hI.s
  refine J_iload_n C rfl dX6_pour_0 ?_
  refine J_i2l C dX6_pour_1 ?_
  refine J_lconst C 1 (by decide) dX6_pour_2 ?_
  refine J_ldc2 C k691 dX6_pour_3 ?_
  refine J_callS (as := [.long ((nI k).toInt64), .long 1, .long 80]) (rest := []) C (ct_inY l G ((nI k).toInt64) 1 80 ((in32 (zl := 1) (zh := 80) rfl rfl).mpr (by rw [nI_toInt (by omega)]; omega))) (fun u => mdW G mo σ kf tf H sf df xf hn ik tl sp rd gr) [] [0, 1, 2, 3, 4, 5, 6, 7] 3 k627 k628 k38 k629 rfl (by decide +kernel) ⟨Nat.le_of_ble_eq_true rfl, Nat.le_of_ble_eq_true rfl⟩ ⟨Nat.le_of_ble_eq_true rfl, Nat.le_of_ble_eq_true rfl⟩ dX6_pour_6 (Nat.le_of_ble_eq_true rfl) rfl (by decide +kernel) (fun _ => rfl) (mdW G mo σ kf tf H sf df xf hn ik tl sp rd gr) rfl (fun _ => rfl) 8 (fun _ => rfl) (by decide +kernel) (by decide +kernel) (fun _ _ => ?_)
  refine J_st (st' := [.int 1]) rfl ?_
  refine J_if_ne C 15 (by decide) dX6_pour_9 (fun _ => ?_) (fun h => absurd h (by decide))
  refine J_aload_n C rfl dX6_pour_15 ?_
  refine J_get C 0 0 in6 rfl rfl (by decide) k575 rfl dX6_pour_16 ?_
  refine J_bipush C 11 (by decide) dX6_pour_19 ?_
  refine J_iald C 1 rfl 11 rfl (by decide) (Nat.le_of_ble_eq_true rfl) dX6_pour_21 ?_
  refine J_i (y := nI (σ 0 11)) (rfl) ?_
  refine J_iload_n C rfl dX6_pour_22 ?_
  refine J_iadd C dX6_pour_23 ?_
  refine J_i (nI_add (σ 0 11) k : ((nI (σ 0 11)) + (nI k) : Int32) = (nI (σ 0 11 + k))) ?_
  refine J_sipush C 9999 (by decide) dX6_pour_24 ?_
  refine J_icmp_le C 33 (by decide) dX6_pour_27 (fun h => absurd (cv_le_t (a := (σ 0 11 + k)) (b := 9999) (by omega) (by omega) h) (by omega)) (fun c27 => ?_)
  refine J_bipush C (-3) (by decide) dX6_pour_30 ?_
  exact J_zret C hr rfl dX6_pour_32 () rfl trivial rfl

set_option maxHeartbeats 4000000 in
set_option maxRecDepth 100000 in
theorem ct_mPourY (l : Launch) (G : GT) (mo : Nat → Nat) (σ : AS) (kf tf H sf df xf : Nat → Nat) (hn ik tl sp rd : Nat) (gr : Int32) (k : Nat) (hI : Inv σ) (h4 : hn ≤ 4) (hk : 1 ≤ k ∧ k ≤ 80) (he : σ 0 11 + k ≤ 9999) : Ct (S := Unit) l G NoX yX6_pour (Wy yX6_pour cX6_pour 2 ((Option.some Jvm.ClassFile.FieldType.int))) { frames := 1, cells := 0, slots := 0, locals := 25 } [.ref (mo 0), .int (nI k)] (mdW G mo σ kf tf H sf df xf hn ik tl sp rd gr) (fun u => True) (fun u => some (.int (nI (σ 0 11 + k)))) (fun u => mdW G mo (pourF σ k) (rowM σ) tf (endH H (rowM σ) hn) sf df xf (sizeF hn) ik tl sp rd gr) := by
  refine Ct.of (by decide) (Nat.le_of_ble_eq_true rfl) (fun p e s m args below meth c C hr hnm hX => ?_)
  have h40 := hI.a
  have hc := hI.c
  have hi := hI.i
  have hs := hI.s
  refine J_iload_n C rfl dX6_pour_0 ?_
  refine J_i2l C dX6_pour_1 ?_
  refine J_lconst C 1 (by decide) dX6_pour_2 ?_
  refine J_ldc2 C k691 dX6_pour_3 ?_
  refine J_callS (as := [.long ((nI k).toInt64), .long 1, .long 80]) (rest := []) C (ct_inY l G ((nI k).toInt64) 1 80 ((in32 (zl := 1) (zh := 80) rfl rfl).mpr (by rw [nI_toInt (by omega)]; omega))) (fun u => mdW G mo σ kf tf H sf df xf hn ik tl sp rd gr) [] [0, 1, 2, 3, 4, 5, 6, 7] 3 k627 k628 k38 k629 rfl (by decide +kernel) ⟨Nat.le_of_ble_eq_true rfl, Nat.le_of_ble_eq_true rfl⟩ ⟨Nat.le_of_ble_eq_true rfl, Nat.le_of_ble_eq_true rfl⟩ dX6_pour_6 (Nat.le_of_ble_eq_true rfl) rfl (by decide +kernel) (fun _ => rfl) (mdW G mo σ kf tf H sf df xf hn ik tl sp rd gr) rfl (fun _ => rfl) 8 (fun _ => rfl) (by decide +kernel) (by decide +kernel) (fun _ _ => ?_)
  refine J_st (st' := [.int 1]) rfl ?_
  refine J_if_ne C 15 (by decide) dX6_pour_9 (fun _ => ?_) (fun h => absurd h (by decide))
  refine J_aload_n C rfl dX6_pour_15 ?_
  refine J_get C 0 0 in6 rfl rfl (by decide) k575 rfl dX6_pour_16 ?_
  refine J_bipush C 11 (by decide) dX6_pour_19 ?_
  refine J_iald C 1 rfl 11 rfl (by decide) (Nat.le_of_ble_eq_true rfl) dX6_pour_21 ?_
  refine J_i (y := nI (σ 0 11)) (rfl) ?_
  refine J_iload_n C rfl dX6_pour_22 ?_
  refine J_iadd C dX6_pour_23 ?_
  refine J_i (nI_add (σ 0 11) k : ((nI (σ 0 11)) + (nI k) : Int32) = (nI (σ 0 11 + k))) ?_
  refine J_sipush C 9999 (by decide) dX6_pour_24 ?_
  refine J_icmp_le C 33 (by decide) dX6_pour_27 (fun c27 => ?_) (fun h => absurd (cv_le_f (a := (σ 0 11 + k)) (b := 9999) (by omega) (by omega) h) (by omega))
  refine J_aload_n C rfl dX6_pour_33 ?_
  refine J_callV (as := []) (rest := []) C (ct_keeps l G mo σ kf tf H sf df xf hn ik tl sp rd gr) (fun u => mdW G mo σ (rowM σ) tf H sf df xf hn ik tl sp rd gr) [0, 1, 2, 3, 4, 5, 6, 7] [] 0 k638 k640 k13 k38 k641 rfl (by decide +kernel) ⟨Nat.le_of_ble_eq_true rfl, Nat.le_of_ble_eq_true rfl⟩ ⟨Nat.le_of_ble_eq_true rfl, Nat.le_of_ble_eq_true rfl⟩ dX6_pour_34 (Nat.le_of_ble_eq_true rfl) 0 rfl rfl rfl (by decide +kernel) (fun _ => rfl) ([]) rfl (fun _ => rfl) 8 (fun _ => rfl) (by decide +kernel) (by decide +kernel) (fun _ _ => ?_)
  refine J_st (st' := []) rfl ?_
  refine J_ws (ws' := mdW G mo σ (rowM σ) tf H sf df xf hn ik tl sp rd gr) rfl ?_
  refine J_aload_n C rfl dX6_pour_37 ?_
  refine J_get C 0 0 in6 rfl rfl (by decide) k575 rfl dX6_pour_38 ?_
  refine J_bipush C 11 (by decide) dX6_pour_41 ?_
  refine J_dup2 C rfl rfl dX6_pour_43 ?_
  refine J_iald C 1 rfl 11 rfl (by decide) (Nat.le_of_ble_eq_true rfl) dX6_pour_44 ?_
  refine J_i (y := nI (σ 0 11)) (rfl) ?_
  refine J_iload_n C rfl dX6_pour_45 ?_
  refine J_iadd C dX6_pour_46 ?_
  refine J_i (nI_add (σ 0 11) k : ((nI (σ 0 11)) + (nI k) : Int32) = (nI (σ 0 11 + k))) ?_
  refine J_iast C 1 ([(mo 0, .inr (6, [.ref (mo 1), .ref (mo 2), .ref (mo 3), .ref (mo 4), .int (nI hn), .ref (mo 5), .int (nI ik), .ref (mo 6), .ref (mo 7), .int (nI tl), .int (nI sp), .int (nI rd), .int gr])), (mo 1, .inl (G.2.1, 246, .inl (upd (fun q => nI ((rowM σ) q)) 11 (nI (σ 0 11 + k))))), (mo 2, .inl (G.2.1, 246, .inl (fun q => nI ((rowM σ) q)))), (mo 3, .inl (G.2.1, 246, .inl (fun q => nI (tf q)))), (mo 4, .inl (G.2.1, 984, .inl (fun q => nI (H q)))), (mo 5, .inl (G.2.1, 246, .inl (fun q => nI (sf q)))), (mo 6, .inl (G.2.1, 40, .inl (fun q => nI (df q)))), (mo 7, .inl (G.2.1, 60, .inl (fun q => nI (xf q))))]) rfl 11 rfl (by decide) (Nat.le_of_ble_eq_true rfl) rfl dX6_pour_47 ?_
  refine J_arr 1 (fun q => nI (rowM (up2 σ 0 11 (σ 0 11 + k)) q)) rfl (fun q _ => congrFun (rowM_u0 σ (σ 0 11 + k) (by decide) (by decide)) q) ?_
  refine J_ws (ws' := mdW G mo (up2 σ 0 11 (σ 0 11 + k)) (rowM σ) tf H sf df xf hn ik tl sp rd gr) rfl ?_
  refine J_aload_n C rfl dX6_pour_48 ?_
  refine J_get C 0 0 in6 rfl rfl (by decide) k575 rfl dX6_pour_49 ?_
  refine J_bipush C 6 (by decide) dX6_pour_52 ?_
  refine J_dup2 C rfl rfl dX6_pour_54 ?_
  refine J_iald C 1 rfl 6 rfl (by decide) (Nat.le_of_ble_eq_true rfl) dX6_pour_55 ?_
  refine J_i (y := nI (σ 0 6)) (rfl) ?_
  refine J_bipush C 8 (by decide) dX6_pour_56 ?_
  refine J_iload_n C rfl dX6_pour_58 ?_
  refine J_imul C dX6_pour_59 ?_
  refine J_i (pk_mul 8 k : (8 * (nI k) : Int32) = (nI (8 * k))) ?_
  refine J_iadd C dX6_pour_60 ?_
  refine J_i (nI_add (σ 0 6) (8 * k) : ((nI (σ 0 6)) + (nI (8 * k)) : Int32) = (nI (σ 0 6 + (8 * k)))) ?_
  refine J_iast C 1 ([(mo 0, .inr (6, [.ref (mo 1), .ref (mo 2), .ref (mo 3), .ref (mo 4), .int (nI hn), .ref (mo 5), .int (nI ik), .ref (mo 6), .ref (mo 7), .int (nI tl), .int (nI sp), .int (nI rd), .int gr])), (mo 1, .inl (G.2.1, 246, .inl (upd (fun q => nI ((rowM (up2 σ 0 11 (σ 0 11 + k))) q)) 6 (nI (σ 0 6 + (8 * k)))))), (mo 2, .inl (G.2.1, 246, .inl (fun q => nI ((rowM σ) q)))), (mo 3, .inl (G.2.1, 246, .inl (fun q => nI (tf q)))), (mo 4, .inl (G.2.1, 984, .inl (fun q => nI (H q)))), (mo 5, .inl (G.2.1, 246, .inl (fun q => nI (sf q)))), (mo 6, .inl (G.2.1, 40, .inl (fun q => nI (df q)))), (mo 7, .inl (G.2.1, 60, .inl (fun q => nI (xf q))))]) rfl 6 rfl (by decide) (Nat.le_of_ble_eq_true rfl) rfl dX6_pour_61 ?_
  refine J_arr 1 (fun q => nI (rowM (up2 (up2 σ 0 11 (σ 0 11 + k)) 0 6 (σ 0 6 + (8 * k))) q)) rfl (fun q _ => congrFun (rowM_u0 (up2 σ 0 11 (σ 0 11 + k)) (σ 0 6 + (8 * k)) (by decide) (by decide)) q) ?_
  refine J_ws (ws' := mdW G mo (up2 (up2 σ 0 11 (σ 0 11 + k)) 0 6 (σ 0 6 + (8 * k))) (rowM σ) tf H sf df xf hn ik tl sp rd gr) rfl ?_
  refine J_aload_n C rfl dX6_pour_62 ?_
  refine J_aload_n C rfl dX6_pour_63 ?_
  refine J_get C 0 0 in6 rfl rfl (by decide) k575 rfl dX6_pour_64 ?_
  refine J_bipush C 11 (by decide) dX6_pour_67 ?_
  refine J_iald C 1 rfl 11 rfl (by decide) (Nat.le_of_ble_eq_true rfl) dX6_pour_69 ?_
  refine J_i (y := nI (σ 0 11 + k)) (rfl) ?_
  refine J_callV (as := [.int (nI (σ 0 11 + k))]) (rest := []) C (ct_ends l G mo (up2 (up2 σ 0 11 (σ 0 11 + k)) 0 6 (σ 0 6 + (8 * k))) (rowM σ) tf H sf df xf hn ik tl sp rd gr (nI (σ 0 11 + k)) h4) (fun u => mdW G mo (up2 (up2 σ 0 11 (σ 0 11 + k)) 0 6 (σ 0 6 + (8 * k))) (rowM σ) tf (endH H (rowM σ) hn) sf df xf (sizeF hn) ik tl sp rd gr) [0, 1, 2, 3, 4, 5, 6, 7] [] 1 k642 k644 k14 k38 k645 rfl (by decide +kernel) ⟨Nat.le_of_ble_eq_true rfl, Nat.le_of_ble_eq_true rfl⟩ ⟨Nat.le_of_ble_eq_true rfl, Nat.le_of_ble_eq_true rfl⟩ dX6_pour_70 (Nat.le_of_ble_eq_true rfl) 0 rfl rfl rfl (by decide +kernel) (fun _ => rfl) ([]) rfl (fun _ => rfl) 8 (fun _ => rfl) (by decide +kernel) (by decide +kernel) (fun _ _ => ?_)
  refine J_st (st' := [.int (nI (σ 0 11 + k))]) rfl ?_
  exact J_zret C hr rfl dX6_pour_73 () rfl trivial rfl

set_option maxHeartbeats 4000000 in
set_option maxRecDepth 100000 in
theorem ct_mPass1 (l : Launch) (G : GT) (mo : Nat → Nat) (σ : AS) (kf tf H sf df xf : Nat → Nat) (hn ik tl sp rd : Nat) (gr : Int32) (x : Int32) (hx : ¬ (1 ≤ x.toInt ∧ x.toInt ≤ 99)) : Ct (S := Unit) l G NoX yX6_pass (Wy yX6_pass cX6_pass 4 ((Option.some Jvm.ClassFile.FieldType.int))) { frames := 1, cells := 0, slots := 0, locals := 25 } [.ref (mo 0), .int x] (mdW G mo σ kf tf H sf df xf hn ik tl sp rd gr) (fun u => True) (fun u => some (.int (-2))) (fun u => mdW G mo σ kf tf H sf df xf hn ik tl sp rd gr) := by
  refine Ct.of (by decide) (Nat.le_of_ble_eq_true rfl) (fun p e s m args below meth c C hr hnm hX => ?_)
  refine J_iload_n C rfl dX6_pass_0 ?_
  refine J_i2l C dX6_pass_1 ?_
  refine J_lconst C 1 (by decide) dX6_pass_2 ?_
  refine J_ldc2 C k703 dX6_pass_3 ?_
  refine J_callS (as := [.long x.toInt64, .long 1, .long 99]) (rest := []) C (ct_inN l G x.toInt64 1 99 (fun q => absurd ((in32 (zl := 1) (zh := 99) rfl rfl).mp q) hx)) (fun u => mdW G mo σ kf tf H sf df xf hn ik tl sp rd gr) [] [0, 1, 2, 3, 4, 5, 6, 7] 3 k627 k628 k38 k629 rfl (by decide +kernel) ⟨Nat.le_of_ble_eq_true rfl, Nat.le_of_ble_eq_true rfl⟩ ⟨Nat.le_of_ble_eq_true rfl, Nat.le_of_ble_eq_true rfl⟩ dX6_pass_6 (Nat.le_of_ble_eq_true rfl) rfl (by decide +kernel) (fun _ => rfl) (mdW G mo σ kf tf H sf df xf hn ik tl sp rd gr) rfl (fun _ => rfl) 8 (fun _ => rfl) (by decide +kernel) (by decide +kernel) (fun _ _ => ?_)
  refine J_st (st' := [.int 0]) rfl ?_
  refine J_if_ne C 15 (by decide) dX6_pass_9 (fun h => absurd h (by decide)) (fun _ => ?_)
  refine J_bipush C (-2) (by decide) dX6_pass_12 ?_
  exact J_zret C hr rfl dX6_pass_14 () rfl trivial rfl

set_option maxHeartbeats 4000000 in
set_option maxRecDepth 100000 in
theorem ct_mPass2 (l : Launch) (G : GT) (mo : Nat → Nat) (σ : AS) (kf tf H sf df xf : Nat → Nat) (hn ik tl sp rd : Nat) (gr : Int32) (k : Nat) (hI : Inv σ) (hk : 1 ≤ k ∧ k ≤ 99) (he : ¬ σ 0 3 + k ≤ 99999) : Ct (S := Unit) l G NoX yX6_pass (Wy yX6_pass cX6_pass 4 ((Option.some Jvm.ClassFile.FieldType.int))) { frames := 1, cells := 0, slots := 0, locals := 25 } [.ref (mo 0), .int (nI k)] (mdW G mo σ kf tf H sf df xf hn ik tl sp rd gr) (fun u => True) (fun u => some (.int (-3))) (fun u => mdW G mo σ kf tf H sf df xf hn ik tl sp rd gr) := by
  refine Ct.of (by decide) (Nat.le_of_ble_eq_true rfl) (fun p e s m args below meth c C hr hnm hX => ?_)
  have h40 := hI.a
  have hc := hI.c
  have hi := hI.i
  have hs := hI.s
  refine J_iload_n C rfl dX6_pass_0 ?_
  refine J_i2l C dX6_pass_1 ?_
  refine J_lconst C 1 (by decide) dX6_pass_2 ?_
  refine J_ldc2 C k703 dX6_pass_3 ?_
  refine J_callS (as := [.long ((nI k).toInt64), .long 1, .long 99]) (rest := []) C (ct_inY l G ((nI k).toInt64) 1 99 ((in32 (zl := 1) (zh := 99) rfl rfl).mpr (by rw [nI_toInt (by omega)]; omega))) (fun u => mdW G mo σ kf tf H sf df xf hn ik tl sp rd gr) [] [0, 1, 2, 3, 4, 5, 6, 7] 3 k627 k628 k38 k629 rfl (by decide +kernel) ⟨Nat.le_of_ble_eq_true rfl, Nat.le_of_ble_eq_true rfl⟩ ⟨Nat.le_of_ble_eq_true rfl, Nat.le_of_ble_eq_true rfl⟩ dX6_pass_6 (Nat.le_of_ble_eq_true rfl) rfl (by decide +kernel) (fun _ => rfl) (mdW G mo σ kf tf H sf df xf hn ik tl sp rd gr) rfl (fun _ => rfl) 8 (fun _ => rfl) (by decide +kernel) (by decide +kernel) (fun _ _ => ?_)
  refine J_st (st' := [.int 1]) rfl ?_
  refine J_if_ne C 15 (by decide) dX6_pass_9 (fun _ => ?_) (fun h => absurd h (by decide))
  refine J_aload_n C rfl dX6_pass_15 ?_
  refine J_get C 0 0 in6 rfl rfl (by decide) k575 rfl dX6_pass_16 ?_
  refine J_iconst C 3 (by decide) dX6_pass_19 ?_
  refine J_iald C 1 rfl 3 rfl (by decide) (Nat.le_of_ble_eq_true rfl) dX6_pass_20 ?_
  refine J_i (y := nI (σ 0 3)) (rfl) ?_
  refine J_iload_n C rfl dX6_pass_21 ?_
  refine J_iadd C dX6_pass_22 ?_
  refine J_i (nI_add (σ 0 3) k : ((nI (σ 0 3)) + (nI k) : Int32) = (nI (σ 0 3 + k))) ?_
  refine J_ldc C k704 dX6_pass_23 ?_
  refine J_icmp_le C 31 (by decide) dX6_pass_25 (fun h => absurd (cv_le_t (a := (σ 0 3 + k)) (b := 99999) (by omega) (by omega) h) (by omega)) (fun c25 => ?_)
  refine J_bipush C (-3) (by decide) dX6_pass_28 ?_
  exact J_zret C hr rfl dX6_pass_30 () rfl trivial rfl

set_option maxHeartbeats 4000000 in
set_option maxRecDepth 100000 in
theorem ct_mPassY (l : Launch) (G : GT) (mo : Nat → Nat) (σ : AS) (kf tf H sf df xf : Nat → Nat) (hn ik tl sp rd : Nat) (gr : Int32) (k : Nat) (hI : Inv σ) (h4 : hn ≤ 4) (hk : 1 ≤ k ∧ k ≤ 99) (he : σ 0 3 + k ≤ 99999) : Ct (S := Unit) l G NoX yX6_pass (Wy yX6_pass cX6_pass 4 ((Option.some Jvm.ClassFile.FieldType.int))) { frames := 5, cells := 0, slots := 0, locals := 106 } [.ref (mo 0), .int (nI k)] (mdW G mo σ kf tf H sf df xf hn ik tl sp rd gr) (fun u => True) (fun u => some (.int (nI (itF k σ 0 10) - nI (σ 0 10)))) (fun u => mdW G mo (itF k σ) (rowM σ) tf (endH H (rowM σ) hn) sf df xf (sizeF hn) ik tl sp rd gr) := by
  refine Ct.of (by decide) (Nat.le_of_ble_eq_true rfl) (fun p e s m args below meth c C hr hnm hX => ?_)
  have h40 := hI.a
  have hc := hI.c
  have hi := hI.i
  have hs := hI.s
  refine J_iload_n C rfl dX6_pass_0 ?_
  refine J_i2l C dX6_pass_1 ?_
  refine J_lconst C 1 (by decide) dX6_pass_2 ?_
  refine J_ldc2 C k703 dX6_pass_3 ?_
  refine J_callS (as := [.long ((nI k).toInt64), .long 1, .long 99]) (rest := []) C (ct_inY l G ((nI k).toInt64) 1 99 ((in32 (zl := 1) (zh := 99) rfl rfl).mpr (by rw [nI_toInt (by omega)]; omega))) (fun u => mdW G mo σ kf tf H sf df xf hn ik tl sp rd gr) [] [0, 1, 2, 3, 4, 5, 6, 7] 3 k627 k628 k38 k629 rfl (by decide +kernel) ⟨Nat.le_of_ble_eq_true rfl, Nat.le_of_ble_eq_true rfl⟩ ⟨Nat.le_of_ble_eq_true rfl, Nat.le_of_ble_eq_true rfl⟩ dX6_pass_6 (Nat.le_of_ble_eq_true rfl) rfl (by decide +kernel) (fun _ => rfl) (mdW G mo σ kf tf H sf df xf hn ik tl sp rd gr) rfl (fun _ => rfl) 8 (fun _ => rfl) (by decide +kernel) (by decide +kernel) (fun _ _ => ?_)
  refine J_st (st' := [.int 1]) rfl ?_
  refine J_if_ne C 15 (by decide) dX6_pass_9 (fun _ => ?_) (fun h => absurd h (by decide))
  refine J_aload_n C rfl dX6_pass_15 ?_
  refine J_get C 0 0 in6 rfl rfl (by decide) k575 rfl dX6_pass_16 ?_
  refine J_iconst C 3 (by decide) dX6_pass_19 ?_
  refine J_iald C 1 rfl 3 rfl (by decide) (Nat.le_of_ble_eq_true rfl) dX6_pass_20 ?_
  refine J_i (y := nI (σ 0 3)) (rfl) ?_
  refine J_iload_n C rfl dX6_pass_21 ?_
  refine J_iadd C dX6_pass_22 ?_
  refine J_i (nI_add (σ 0 3) k : ((nI (σ 0 3)) + (nI k) : Int32) = (nI (σ 0 3 + k))) ?_
  refine J_ldc C k704 dX6_pass_23 ?_
  refine J_icmp_le C 31 (by decide) dX6_pass_25 (fun c25 => ?_) (fun h => absurd (cv_le_f (a := (σ 0 3 + k)) (b := 99999) (by omega) (by omega) h) (by omega))
  refine J_aload_n C rfl dX6_pass_31 ?_
  refine J_callV (as := []) (rest := []) C (ct_keeps l G mo σ kf tf H sf df xf hn ik tl sp rd gr) (fun u => mdW G mo σ (rowM σ) tf H sf df xf hn ik tl sp rd gr) [0, 1, 2, 3, 4, 5, 6, 7] [] 0 k638 k640 k13 k38 k641 rfl (by decide +kernel) ⟨Nat.le_of_ble_eq_true rfl, Nat.le_of_ble_eq_true rfl⟩ ⟨Nat.le_of_ble_eq_true rfl, Nat.le_of_ble_eq_true rfl⟩ dX6_pass_32 (Nat.le_of_ble_eq_true rfl) 0 rfl rfl rfl (by decide +kernel) (fun _ => rfl) ([]) rfl (fun _ => rfl) 8 (fun _ => rfl) (by decide +kernel) (by decide +kernel) (fun _ _ => ?_)
  refine J_st (st' := []) rfl ?_
  refine J_ws (ws' := mdW G mo σ (rowM σ) tf H sf df xf hn ik tl sp rd gr) rfl ?_
  refine J_aload_n C rfl dX6_pass_35 ?_
  refine J_get C 0 0 in6 rfl rfl (by decide) k575 rfl dX6_pass_36 ?_
  refine J_bipush C 10 (by decide) dX6_pass_39 ?_
  refine J_iald C 1 rfl 10 rfl (by decide) (Nat.le_of_ble_eq_true rfl) dX6_pass_41 ?_
  refine J_i (y := nI (σ 0 10)) (rfl) ?_
  refine J_istore_n C [(2, .int (nI (σ 0 10))), (0, .ref (mo 0)), (1, .int (nI k))] (by decide) rfl dX6_pass_42 ?_
  refine J_iconst C 0 (by decide) dX6_pass_43 ?_
  refine J_istore_n C [(3, .int 0), (2, .int (nI (σ 0 10))), (0, .ref (mo 0)), (1, .int (nI k))] (by decide) rfl dX6_pass_44 ?_
  refine J_lvp [2, 3, 1, 0] [(0, .ref (mo 0)), (1, .int (nI k)), (2, .int (nI (σ 0 10))), (3, .int 0)] rfl ?_
  refine J_loop (fun i => mdW G mo (itF i σ) (rowM σ) tf H sf df xf hn ik tl sp rd gr) (fun i => [(0, .ref (mo 0)), (1, .int (nI k)), (2, .int (nI (σ 0 10))), (3, .int (nI i))]) (fun i => i ≤ k) (fun i => k - i) (fun i hi2 ih => ?_) 0 (Nat.zero_le _) rfl rfl
  refine J_iload_n C rfl dX6_pass_45 ?_
  refine J_iload_n C rfl dX6_pass_46 ?_
  refine J_icmp_ge C 60 (by decide) dX6_pass_47 (fun c47 => ?_) (fun c47 => ?_)
  · skip
    have c47 := cv_ge_t (a := i) (b := k) (by omega) (by omega) c47
    refine J_aload_n C rfl dX6_pass_60 ?_
    refine J_aload_n C rfl dX6_pass_61 ?_
    refine J_get C 0 0 in6 rfl rfl (by decide) k575 rfl dX6_pass_62 ?_
    refine J_bipush C 10 (by decide) dX6_pass_65 ?_
    refine J_iald C 1 rfl 10 rfl (by decide) (Nat.le_of_ble_eq_true rfl) dX6_pass_67 ?_
    refine J_i (y := nI ((itF i σ) 0 10)) (rfl) ?_
    refine J_iload_n C rfl dX6_pass_68 ?_
    refine J_isub C dX6_pass_69 ?_
    refine J_callV (as := [.int ((nI ((itF i σ) 0 10)) - (nI (σ 0 10)))]) (rest := []) C (ct_ends l G mo (itF i σ) (rowM σ) tf H sf df xf hn ik tl sp rd gr ((nI ((itF i σ) 0 10)) - (nI (σ 0 10))) h4) (fun u => mdW G mo (itF i σ) (rowM σ) tf (endH H (rowM σ) hn) sf df xf (sizeF hn) ik tl sp rd gr) [0, 1, 2, 3, 4, 5, 6, 7] [] 1 k642 k644 k14 k38 k645 rfl (by decide +kernel) ⟨Nat.le_of_ble_eq_true rfl, Nat.le_of_ble_eq_true rfl⟩ ⟨Nat.le_of_ble_eq_true rfl, Nat.le_of_ble_eq_true rfl⟩ dX6_pass_70 (Nat.le_of_ble_eq_true rfl) 0 rfl rfl rfl (by decide +kernel) (fun _ => rfl) ([]) rfl (fun _ => rfl) 8 (fun _ => rfl) (by decide +kernel) (by decide +kernel) (fun _ _ => ?_)
    refine J_st (st' := [.int ((nI ((itF i σ) 0 10)) - (nI (σ 0 10)))]) rfl ?_
    exact J_zret C hr rfl dX6_pass_73 () (by rw [show i = k from by omega]) trivial (by rw [show i = k from by omega])
  · skip
    have c47 := cv_ge_f (a := i) (b := k) (by omega) (by omega) c47
    refine J_aload_n C rfl dX6_pass_50 ?_
    refine J_callV (as := []) (rest := []) C (ct_ticks l G mo (itF i σ) (rowM σ) tf H sf df xf hn ik tl sp rd gr (hI.it i (by omega)) (by rw [itF_tick]; omega)) (fun u => mdW G mo (ticksF (itF i σ)) (rowM σ) tf H sf df xf hn ik tl sp rd gr) [0, 1, 2, 3, 4, 5, 6, 7] [] 0 k705 k707 k21 k38 k708 rfl (by decide +kernel) ⟨Nat.le_of_ble_eq_true rfl, Nat.le_of_ble_eq_true rfl⟩ ⟨Nat.le_of_ble_eq_true rfl, Nat.le_of_ble_eq_true rfl⟩ dX6_pass_51 (Nat.le_of_ble_eq_true rfl) 0 rfl rfl rfl (by decide +kernel) (fun _ => rfl) ([]) rfl (fun _ => rfl) 8 (fun _ => rfl) (by decide +kernel) (by decide +kernel) (fun _ _ => ?_)
    refine J_st (st' := []) rfl ?_
    refine J_iinc C (nI (i + 1)) [(3, .int (nI (i + 1))), (0, .ref (mo 0)), (1, .int (nI k)), (2, .int (nI (σ 0 10)))] 3 rfl (by first | exact nI_add _ 1 | rfl) (by decide) rfl dX6_pass_54 ?_
    refine J_goto C 45 (by decide) dX6_pass_57 ?_
    refine J_lvp [1, 2, 3, 0] [(0, .ref (mo 0)), (1, .int (nI k)), (2, .int (nI (σ 0 10))), (3, .int (nI (i + 1)))] rfl ?_
    exact ih (i + 1) (by omega) (by omega)

set_option maxHeartbeats 4000000 in
set_option maxRecDepth 100000 in
theorem ct_mTypeN (l : Launch) (G : GT) (mo : Nat → Nat) (σ : AS) (kf tf H sf df xf : Nat → Nat) (hn ik tl sp rd : Nat) (gr : Int32) (x : Nat) (htl : tl = 60) : Ct (S := Unit) l G NoX yX6_type (Wy yX6_type cX6_type 2 ((Option.some Jvm.ClassFile.FieldType.int))) { frames := 0, cells := 0, slots := 0, locals := 0 } [.ref (mo 0), .int (nI x)] (mdW G mo σ kf tf H sf df xf hn ik tl sp rd gr) (fun u => True) (fun u => some (.int (-3))) (fun u => mdW G mo σ kf tf H sf df xf hn ik tl sp rd gr) := by
  refine Ct.of (by decide) (Nat.le_of_ble_eq_true rfl) (fun p e s m args below meth c C hr hnm hX => ?_)
  refine J_aload_n C rfl dX6_type_0 ?_
  refine J_get C 0 9 in6 rfl rfl (by decide) k584 rfl dX6_type_1 ?_
  refine J_bipush C 60 (by decide) dX6_type_4 ?_
  refine J_icmp_ne C 12 (by decide) dX6_type_6 (fun h => absurd (cv_ne_t (a := tl) (b := 60) (by omega) (by omega) h) (by omega)) (fun c6 => ?_)
  refine J_bipush C (-3) (by decide) dX6_type_9 ?_
  exact J_zret C hr rfl dX6_type_11 () rfl trivial rfl

set_option maxHeartbeats 4000000 in
set_option maxRecDepth 100000 in
theorem ct_mTypeY (l : Launch) (G : GT) (mo : Nat → Nat) (σ : AS) (kf tf H sf df xf : Nat → Nat) (hn ik tl sp rd : Nat) (gr : Int32) (x : Nat) (htl : tl < 60) : Ct (S := Unit) l G NoX yX6_type (Wy yX6_type cX6_type 2 ((Option.some Jvm.ClassFile.FieldType.int))) { frames := 0, cells := 0, slots := 0, locals := 0 } [.ref (mo 0), .int (nI x)] (mdW G mo σ kf tf H sf df xf hn ik tl sp rd gr) (fun u => True) (fun u => some (.int (nI (tl + 1)))) (fun u => mdW G mo σ kf tf H sf df (fun q => if q = tl then x else xf q) hn ik (tl + 1) sp rd gr) := by
  refine Ct.of (by decide) (Nat.le_of_ble_eq_true rfl) (fun p e s m args below meth c C hr hnm hX => ?_)
  refine J_aload_n C rfl dX6_type_0 ?_
  refine J_get C 0 9 in6 rfl rfl (by decide) k584 rfl dX6_type_1 ?_
  refine J_bipush C 60 (by decide) dX6_type_4 ?_
  refine J_icmp_ne C 12 (by decide) dX6_type_6 (fun c6 => ?_) (fun h => absurd (cv_ne_f (a := tl) (b := 60) (by omega) (by omega) h) (by omega))
  refine J_aload_n C rfl dX6_type_12 ?_
  refine J_get C 0 8 in6 rfl rfl (by decide) k583 rfl dX6_type_13 ?_
  refine J_aload_n C rfl dX6_type_16 ?_
  refine J_get C 0 9 in6 rfl rfl (by decide) k584 rfl dX6_type_17 ?_
  refine J_iload_n C rfl dX6_type_20 ?_
  refine J_iast C 7 ([(mo 0, .inr (6, [.ref (mo 1), .ref (mo 2), .ref (mo 3), .ref (mo 4), .int (nI hn), .ref (mo 5), .int (nI ik), .ref (mo 6), .ref (mo 7), .int (nI tl), .int (nI sp), .int (nI rd), .int gr])), (mo 1, .inl (G.2.1, 246, .inl (fun q => nI ((rowM σ) q)))), (mo 2, .inl (G.2.1, 246, .inl (fun q => nI (kf q)))), (mo 3, .inl (G.2.1, 246, .inl (fun q => nI (tf q)))), (mo 4, .inl (G.2.1, 984, .inl (fun q => nI (H q)))), (mo 5, .inl (G.2.1, 246, .inl (fun q => nI (sf q)))), (mo 6, .inl (G.2.1, 40, .inl (fun q => nI (df q)))), (mo 7, .inl (G.2.1, 60, .inl (upd (fun q => nI (xf q)) tl (nI x))))]) rfl tl rfl (by omega) (Nat.le_of_ble_eq_true rfl) rfl dX6_type_21 ?_
  refine J_arr 7 (fun q => nI (if q = tl then x else xf q)) rfl (fun q _ => congrFun (upd_nI _ _ _) q) ?_
  refine J_ws (ws' := mdW G mo σ kf tf H sf df (fun q => if q = tl then x else xf q) hn ik tl sp rd gr) rfl ?_
  refine J_aload_n C rfl dX6_type_22 ?_
  refine J_dup C rfl dX6_type_23 ?_
  refine J_get C 0 9 in6 rfl rfl (by decide) k584 rfl dX6_type_24 ?_
  refine J_iconst C 1 (by decide) dX6_type_27 ?_
  refine J_iadd C dX6_type_28 ?_
  refine J_i (nI_add tl 1 : ((nI tl) + 1 : Int32) = (nI (tl + 1))) ?_
  refine J_put C 0 9 in6 tyX6 tyX6_ok nmX6 ([(mo 0, .inr (6, [.ref (mo 1), .ref (mo 2), .ref (mo 3), .ref (mo 4), .int (nI hn), .ref (mo 5), .int (nI ik), .ref (mo 6), .ref (mo 7), .int (nI (tl + 1)), .int (nI sp), .int (nI rd), .int gr])), (mo 1, .inl (G.2.1, 246, .inl (fun q => nI ((rowM σ) q)))), (mo 2, .inl (G.2.1, 246, .inl (fun q => nI (kf q)))), (mo 3, .inl (G.2.1, 246, .inl (fun q => nI (tf q)))), (mo 4, .inl (G.2.1, 984, .inl (fun q => nI (H q)))), (mo 5, .inl (G.2.1, 246, .inl (fun q => nI (sf q)))), (mo 6, .inl (G.2.1, 40, .inl (fun q => nI (df q)))), (mo 7, .inl (G.2.1, 60, .inl (fun q => nI (if q = tl then x else xf q))))]) rfl rfl (by decide) k584 rfl rfl rfl (Nat.le_of_ble_eq_true rfl) rfl dX6_type_29 ?_
  refine J_ws (ws' := mdW G mo σ kf tf H sf df (fun q => if q = tl then x else xf q) hn ik (tl + 1) sp rd gr) rfl ?_
  refine J_aload_n C rfl dX6_type_32 ?_
  refine J_get C 0 9 in6 rfl rfl (by decide) k584 rfl dX6_type_33 ?_
  exact J_zret C hr rfl dX6_type_36 () rfl trivial rfl

set_option maxHeartbeats 4000000 in
set_option maxRecDepth 100000 in
theorem ct_mClear (l : Launch) (G : GT) (mo : Nat → Nat) (σ : AS) (kf tf H sf df xf : Nat → Nat) (hn ik tl sp rd : Nat) (gr : Int32)  : Ct (S := Unit) l G NoX yX6_clearText (Wy yX6_clearText cX6_clearText 2 ((Option.some Jvm.ClassFile.FieldType.int))) { frames := 0, cells := 0, slots := 0, locals := 0 } [.ref (mo 0)] (mdW G mo σ kf tf H sf df xf hn ik tl sp rd gr) (fun u => True) (fun u => some (.int (nI tl))) (fun u => mdW G mo σ kf tf H sf df xf hn ik 0 sp rd gr) := by
  refine Ct.of (by decide) (Nat.le_of_ble_eq_true rfl) (fun p e s m args below meth c C hr hnm hX => ?_)
  refine J_aload_n C rfl dX6_clearText_0 ?_
  refine J_get C 0 9 in6 rfl rfl (by decide) k584 rfl dX6_clearText_1 ?_
  refine J_istore_n C [(1, .int (nI tl)), (0, .ref (mo 0))] (by decide) rfl dX6_clearText_4 ?_
  refine J_aload_n C rfl dX6_clearText_5 ?_
  refine J_iconst C 0 (by decide) dX6_clearText_6 ?_
  refine J_put C 0 9 in6 tyX6 tyX6_ok nmX6 ([(mo 0, .inr (6, [.ref (mo 1), .ref (mo 2), .ref (mo 3), .ref (mo 4), .int (nI hn), .ref (mo 5), .int (nI ik), .ref (mo 6), .ref (mo 7), .int 0, .int (nI sp), .int (nI rd), .int gr])), (mo 1, .inl (G.2.1, 246, .inl (fun q => nI ((rowM σ) q)))), (mo 2, .inl (G.2.1, 246, .inl (fun q => nI (kf q)))), (mo 3, .inl (G.2.1, 246, .inl (fun q => nI (tf q)))), (mo 4, .inl (G.2.1, 984, .inl (fun q => nI (H q)))), (mo 5, .inl (G.2.1, 246, .inl (fun q => nI (sf q)))), (mo 6, .inl (G.2.1, 40, .inl (fun q => nI (df q)))), (mo 7, .inl (G.2.1, 60, .inl (fun q => nI (xf q))))]) rfl rfl (by decide) k584 rfl rfl rfl (Nat.le_of_ble_eq_true rfl) rfl dX6_clearText_7 ?_
  refine J_ws (ws' := mdW G mo σ kf tf H sf df xf hn ik 0 sp rd gr) rfl ?_
  refine J_iload_n C rfl dX6_clearText_10 ?_
  exact J_zret C hr rfl dX6_clearText_11 () rfl trivial rfl
