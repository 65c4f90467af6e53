set_option maxHeartbeats 4000000 in
set_option maxRecDepth 100000 in
theorem ct_areAlike (l : Launch) (G : GT) (P R : AD) (σ : AS) (x y : OS) (r : Nat) (hx : GV r σ x.1) (hy : GV r σ y.1) (hVx : VO x) (hVy : VO y) : Ct (S := OS × OS) l G NoX yL_areAlike (Wy yL_areAlike cL_areAlike 5 ((Option.some Jvm.ClassFile.FieldType.boolean))) { frames := 7, cells := 0, slots := 0, locals := 220 } [.ref P.1, .ref R.1] (OW G P σ x ++ OW G R σ y) (fun u => True) (fun u => some (.int 1)) (fun u => OW G P σ u.1 ++ OW G R σ u.2) := by
  refine Ct.of (by decide) (Nat.le_of_ble_eq_true rfl) (fun p e s m args below meth c C hr hnm hX => ?_)
  have hI := hx.i
  have h40 := hI.a
  have hi := hI.i
  have hc := hI.c
  have hnd := nd_le hI _ (Nat.le_refl _)
  have hts := hx.1.2.2.2
  refine J_aload_n C rfl dL_areAlike_0 ?_
  refine J_V1 (as := []) (rest := []) C NoX.b NoX.f (o_needed l G P σ x (hx).i (hx).d) (OW G R σ y) (fun _ => OW_l2 _ _ _ _ _ _) 0 k508 k509 k510 k10 k511 rfl (by decide +kernel) ⟨Nat.le_of_ble_eq_true rfl, Nat.le_of_ble_eq_true rfl⟩ ⟨Nat.le_of_ble_eq_true rfl, Nat.le_of_ble_eq_true rfl⟩ dL_areAlike_1 (Nat.le_of_ble_eq_true rfl) (OW_0 _ _ _ _) rfl (fun _ _ => ?_)
  refine J_st (st' := [.double (dl (sumN (ndF σ) (σ 0 4)))]) rfl ?_
  refine J_ws (ws' := OW G P σ x ++ OW G R σ y) rfl ?_
  refine J_aload_n C rfl dL_areAlike_4 ?_
  refine J_V2 (as := []) (rest := [.double (dl (sumN (ndF σ) (σ 0 4)))]) C NoX.b NoX.f (o_needed l G R σ y (hy).i (hy).d) (OW G P σ x) (fun _ => OW_l2 _ _ _ _ _ _) 0 k508 k509 k510 k10 k511 rfl (by decide +kernel) ⟨Nat.le_of_ble_eq_true rfl, Nat.le_of_ble_eq_true rfl⟩ ⟨Nat.le_of_ble_eq_true rfl, Nat.le_of_ble_eq_true rfl⟩ dL_areAlike_5 (Nat.le_of_ble_eq_true rfl) (OW_0 _ _ _ _) rfl (fun _ _ => ?_)
  refine J_st (st' := [.double (dl (sumN (ndF σ) (σ 0 4))), .double (dl (sumN (ndF σ) (σ 0 4)))]) rfl ?_
  refine J_ws (ws' := OW G P σ x ++ OW G R σ y) rfl ?_
  refine J_dcmp C dL_areAlike_8 ?_
  refine J_i (((dl_cmp (a := sumN (ndF σ) (σ 0 4)) (b := sumN (ndF σ) (σ 0 4)) (by omega) (by omega) _).trans ((if_neg (Nat.lt_irrefl _)).trans (if_pos rfl))) : (Op.cmpValue (FP.dcmp (dl (sumN (ndF σ) (σ 0 4))) (dl (sumN (ndF σ) (σ 0 4)))) .l : Int32) = 0) ?_
  refine J_if_ne C 90 (by decide) dL_areAlike_9 (fun h => absurd h (by decide)) (fun _ => ?_)
  refine J_aload_n C rfl dL_areAlike_12 ?_
  refine J_V1 (as := []) (rest := []) C NoX.b NoX.f (o_doneIn l G P σ x hx.i hx.d hx.1.2.2.2 hVx) (OW G R σ y) (fun _ => OW_l2 _ _ _ _ _ _) 0 k513 k514 k515 k10 k516 rfl (by decide +kernel) ⟨Nat.le_of_ble_eq_true rfl, Nat.le_of_ble_eq_true rfl⟩ ⟨Nat.le_of_ble_eq_true rfl, Nat.le_of_ble_eq_true rfl⟩ dL_areAlike_13 (Nat.le_of_ble_eq_true rfl) (OW_0 _ _ _ _) rfl (fun x1 hx1 => ?_)
  refine J_st (st' := [.int (dnF 2001 0 σ)]) rfl ?_
  refine J_ws (ws' := OW G P σ x1 ++ OW G R σ y) rfl ?_
  have gx1 : GV r σ x1.1 := by rw [hx1.2.1]; exact hx
  refine J_aload_n C rfl dL_areAlike_16 ?_
  refine J_V2 (as := []) (rest := [.int (dnF 2001 0 σ)]) C NoX.b NoX.f (o_doneIn l G R σ y hy.i hy.d hy.1.2.2.2 hVy) (OW G P σ x1) (fun _ => OW_l2 _ _ _ _ _ _) 0 k513 k514 k515 k10 k516 rfl (by decide +kernel) ⟨Nat.le_of_ble_eq_true rfl, Nat.le_of_ble_eq_true rfl⟩ ⟨Nat.le_of_ble_eq_true rfl, Nat.le_of_ble_eq_true rfl⟩ dL_areAlike_17 (Nat.le_of_ble_eq_true rfl) (OW_0 _ _ _ _) rfl (fun x2 hx2 => ?_)
  refine J_st (st' := [.int (dnF 2001 0 σ), .int (dnF 2001 0 σ)]) rfl ?_
  refine J_ws (ws' := OW G P σ x1 ++ OW G R σ x2) rfl ?_
  have gx2 : GV r σ x2.1 := by rw [hx2.2.1]; exact hy
  refine J_icmp_ne C 90 (by decide) dL_areAlike_20 (fun h => absurd h (fun q => q rfl)) (fun _ => ?_)
  refine J_aload_n C rfl dL_areAlike_23 ?_
  refine J_V1 (as := []) (rest := []) C NoX.b NoX.f (o_unlike l G P σ x1 (gx1).i) (OW G R σ x2) (fun _ => OW_l2 _ _ _ _ _ _) 0 k527 k528 k529 k10 k530 rfl (by decide +kernel) ⟨Nat.le_of_ble_eq_true rfl, Nat.le_of_ble_eq_true rfl⟩ ⟨Nat.le_of_ble_eq_true rfl, Nat.le_of_ble_eq_true rfl⟩ dL_areAlike_24 (Nat.le_of_ble_eq_true rfl) (OW_0 _ _ _ _) rfl (fun _ _ => ?_)
  refine J_st (st' := [.int (nI (sumN (unl σ) (σ 0 4 / 2)))]) rfl ?_
  refine J_ws (ws' := OW G P σ x1 ++ OW G R σ x2) rfl ?_
  refine J_aload_n C rfl dL_areAlike_27 ?_
  refine J_V2 (as := []) (rest := [.int (nI (sumN (unl σ) (σ 0 4 / 2)))]) C NoX.b NoX.f (o_unlike l G R σ x2 (gx2).i) (OW G P σ x1) (fun _ => OW_l2 _ _ _ _ _ _) 0 k527 k528 k529 k10 k530 rfl (by decide +kernel) ⟨Nat.le_of_ble_eq_true rfl, Nat.le_of_ble_eq_true rfl⟩ ⟨Nat.le_of_ble_eq_true rfl, Nat.le_of_ble_eq_true rfl⟩ dL_areAlike_28 (Nat.le_of_ble_eq_true rfl) (OW_0 _ _ _ _) rfl (fun _ _ => ?_)
  refine J_st (st' := [.int (nI (sumN (unl σ) (σ 0 4 / 2))), .int (nI (sumN (unl σ) (σ 0 4 / 2)))]) rfl ?_
  refine J_ws (ws' := OW G P σ x1 ++ OW G R σ x2) rfl ?_
  refine J_icmp_ne C 90 (by decide) dL_areAlike_31 (fun h => absurd h (fun q => q rfl)) (fun _ => ?_)
  refine J_aload_n C rfl dL_areAlike_34 ?_
  by_cases hdn : σ 0 4 ≤ σ 0 14 + σ 0 15
  · skip
    refine J_iconst C 0 (by decide) dL_areAlike_35 ?_
    refine J_V1 (as := [.int 0]) (rest := []) C NoX.b NoX.f (o_bestD0 l G P σ x1 gx1.i gx1.d hdn hx1.1) (OW G R σ x2) (fun _ => OW_l2 _ _ _ _ _ _) 1 k535 k536 k537 k10 k538 rfl (by decide +kernel) ⟨Nat.le_of_ble_eq_true rfl, Nat.le_of_ble_eq_true rfl⟩ ⟨Nat.le_of_ble_eq_true rfl, Nat.le_of_ble_eq_true rfl⟩ dL_areAlike_36 (Nat.le_of_ble_eq_true rfl) (OW_0 _ _ _ _) rfl (fun x3 hx3 => ?_)
    refine J_st (st' := [.int (-5)]) rfl ?_
    refine J_ws (ws' := OW G P σ x3 ++ OW G R σ x2) rfl ?_
    have gx3 : GV r σ x3.1 := by rw [hx3.2.1]; exact gx1
    refine J_aload_n C rfl dL_areAlike_39 ?_
    refine J_iconst C 0 (by decide) dL_areAlike_40 ?_
    refine J_V2 (as := [.int 0]) (rest := [.int (-5)]) C NoX.b NoX.f (o_bestD0 l G R σ x2 gx2.i gx2.d hdn hx2.1) (OW G P σ x3) (fun _ => OW_l2 _ _ _ _ _ _) 1 k535 k536 k537 k10 k538 rfl (by decide +kernel) ⟨Nat.le_of_ble_eq_true rfl, Nat.le_of_ble_eq_true rfl⟩ ⟨Nat.le_of_ble_eq_true rfl, Nat.le_of_ble_eq_true rfl⟩ dL_areAlike_41 (Nat.le_of_ble_eq_true rfl) (OW_0 _ _ _ _) rfl (fun x4 hx4 => ?_)
    refine J_st (st' := [.int (-5), .int (-5)]) rfl ?_
    refine J_ws (ws' := OW G P σ x3 ++ OW G R σ x4) rfl ?_
    have gx4 : GV r σ x4.1 := by rw [hx4.2.1]; exact gx2
    refine J_icmp_ne C 90 (by decide) dL_areAlike_44 (fun h => absurd h (by decide)) (fun _ => ?_)
    refine J_aload_n C rfl dL_areAlike_47 ?_
    refine J_iconst C 1 (by decide) dL_areAlike_48 ?_
    refine J_V1 (as := [.int 1]) (rest := []) C NoX.b NoX.f (o_bestD1 l G P σ x3 gx3.i gx3.d hdn hx3.1) (OW G R σ x4) (fun _ => OW_l2 _ _ _ _ _ _) 1 k535 k536 k537 k10 k538 rfl (by decide +kernel) ⟨Nat.le_of_ble_eq_true rfl, Nat.le_of_ble_eq_true rfl⟩ ⟨Nat.le_of_ble_eq_true rfl, Nat.le_of_ble_eq_true rfl⟩ dL_areAlike_49 (Nat.le_of_ble_eq_true rfl) (OW_0 _ _ _ _) rfl (fun x5 hx5 => ?_)
    refine J_st (st' := [.int (-5)]) rfl ?_
    refine J_ws (ws' := OW G P σ x5 ++ OW G R σ x4) rfl ?_
    have gx5 : GV r σ x5.1 := by rw [hx5.2.1]; exact gx3
    refine J_aload_n C rfl dL_areAlike_52 ?_
    refine J_iconst C 1 (by decide) dL_areAlike_53 ?_
    refine J_V2 (as := [.int 1]) (rest := [.int (-5)]) C NoX.b NoX.f (o_bestD1 l G R σ x4 gx4.i gx4.d hdn hx4.1) (OW G P σ x5) (fun _ => OW_l2 _ _ _ _ _ _) 1 k535 k536 k537 k10 k538 rfl (by decide +kernel) ⟨Nat.le_of_ble_eq_true rfl, Nat.le_of_ble_eq_true rfl⟩ ⟨Nat.le_of_ble_eq_true rfl, Nat.le_of_ble_eq_true rfl⟩ dL_areAlike_54 (Nat.le_of_ble_eq_true rfl) (OW_0 _ _ _ _) rfl (fun x6 hx6 => ?_)
    refine J_st (st' := [.int (-5), .int (-5)]) rfl ?_
    refine J_ws (ws' := OW G P σ x5 ++ OW G R σ x6) rfl ?_
    have gx6 : GV r σ x6.1 := by rw [hx6.2.1]; exact gx4
    refine J_icmp_ne C 90 (by decide) dL_areAlike_57 (fun h => absurd h (by decide)) (fun _ => ?_)
    refine J_aload_n C rfl dL_areAlike_60 ?_
    refine J_iconst C 0 (by decide) dL_areAlike_61 ?_
    refine J_V1 (as := [.int 0]) (rest := []) C NoX.b NoX.f (o_next0 l G P σ x5 (gx5).i (gx5).d) (OW G R σ x6) (fun _ => OW_l2 _ _ _ _ _ _) 1 k540 k541 k542 k10 k543 rfl (by decide +kernel) ⟨Nat.le_of_ble_eq_true rfl, Nat.le_of_ble_eq_true rfl⟩ ⟨Nat.le_of_ble_eq_true rfl, Nat.le_of_ble_eq_true rfl⟩ dL_areAlike_62 (Nat.le_of_ble_eq_true rfl) (OW_0 _ _ _ _) rfl (fun _ _ => ?_)
    refine J_st (st' := [.int (nI (doesN σ 0))]) rfl ?_
    refine J_ws (ws' := OW G P σ x5 ++ OW G R σ x6) rfl ?_
    refine J_aload_n C rfl dL_areAlike_65 ?_
    refine J_iconst C 0 (by decide) dL_areAlike_66 ?_
    refine J_V2 (as := [.int 0]) (rest := [.int (nI (doesN σ 0))]) C NoX.b NoX.f (o_next0 l G R σ x6 (gx6).i (gx6).d) (OW G P σ x5) (fun _ => OW_l2 _ _ _ _ _ _) 1 k540 k541 k542 k10 k543 rfl (by decide +kernel) ⟨Nat.le_of_ble_eq_true rfl, Nat.le_of_ble_eq_true rfl⟩ ⟨Nat.le_of_ble_eq_true rfl, Nat.le_of_ble_eq_true rfl⟩ dL_areAlike_67 (Nat.le_of_ble_eq_true rfl) (OW_0 _ _ _ _) rfl (fun _ _ => ?_)
    refine J_st (st' := [.int (nI (doesN σ 0)), .int (nI (doesN σ 0))]) rfl ?_
    refine J_ws (ws' := OW G P σ x5 ++ OW G R σ x6) rfl ?_
    refine J_icmp_ne C 90 (by decide) dL_areAlike_70 (fun h => absurd h (fun q => q rfl)) (fun _ => ?_)
    refine J_aload_n C rfl dL_areAlike_73 ?_
    refine J_iconst C 1 (by decide) dL_areAlike_74 ?_
    refine J_V1 (as := [.int 1]) (rest := []) C NoX.b NoX.f (o_next1 l G P σ x5 (gx5).i (gx5).d) (OW G R σ x6) (fun _ => OW_l2 _ _ _ _ _ _) 1 k540 k541 k542 k10 k543 rfl (by decide +kernel) ⟨Nat.le_of_ble_eq_true rfl, Nat.le_of_ble_eq_true rfl⟩ ⟨Nat.le_of_ble_eq_true rfl, Nat.le_of_ble_eq_true rfl⟩ dL_areAlike_75 (Nat.le_of_ble_eq_true rfl) (OW_0 _ _ _ _) rfl (fun _ _ => ?_)
    refine J_st (st' := [.int (nI (nextN σ))]) rfl ?_
    refine J_ws (ws' := OW G P σ (triX x5 (goesF σ 0 (σ 0 3)) x5.1) ++ OW G R σ x6) rfl ?_
    obtain ⟨x7, hx7⟩ : ∃ z : OS, z = triX x5 (goesF σ 0 (σ 0 3)) x5.1 := ⟨_, rfl⟩
    have vx7 : VO x7 := by rw [hx7]; exact hx5.1.tri _ _
    have gx7 : GV r σ x7.1 := by rw [hx7]; exact gx5
    refine J_ws (ws' := OW G P σ x7 ++ OW G R σ x6) (by rw [hx7]) ?_
    refine J_aload_n C rfl dL_areAlike_78 ?_
    refine J_iconst C 1 (by decide) dL_areAlike_79 ?_
    refine J_V2 (as := [.int 1]) (rest := [.int (nI (nextN σ))]) C NoX.b NoX.f (o_next1 l G R σ x6 (gx6).i (gx6).d) (OW G P σ x7) (fun _ => OW_l2 _ _ _ _ _ _) 1 k540 k541 k542 k10 k543 rfl (by decide +kernel) ⟨Nat.le_of_ble_eq_true rfl, Nat.le_of_ble_eq_true rfl⟩ ⟨Nat.le_of_ble_eq_true rfl, Nat.le_of_ble_eq_true rfl⟩ dL_areAlike_80 (Nat.le_of_ble_eq_true rfl) (OW_0 _ _ _ _) rfl (fun _ _ => ?_)
    refine J_st (st' := [.int (nI (nextN σ)), .int (nI (nextN σ))]) rfl ?_
    refine J_ws (ws' := OW G P σ x7 ++ OW G R σ (triX x6 (goesF σ 0 (σ 0 3)) x6.1)) rfl ?_
    obtain ⟨x8, hx8⟩ : ∃ z : OS, z = triX x6 (goesF σ 0 (σ 0 3)) x6.1 := ⟨_, rfl⟩
    have vx8 : VO x8 := by rw [hx8]; exact hx6.1.tri _ _
    have gx8 : GV r σ x8.1 := by rw [hx8]; exact gx6
    refine J_ws (ws' := OW G P σ x7 ++ OW G R σ x8) (by rw [hx8]) ?_
    refine J_icmp_ne C 90 (by decide) dL_areAlike_83 (fun h => absurd h (fun q => q rfl)) (fun _ => ?_)
    refine J_iconst C 1 (by decide) dL_areAlike_86 ?_
    refine J_goto C 91 (by decide) dL_areAlike_87 ?_
    refine J_istore_n C [(2, .int 1), (0, .ref P.1), (1, .ref R.1)] (by decide) rfl dL_areAlike_91 ?_
    refine J_iconst C 0 (by decide) dL_areAlike_92 ?_
    refine J_istore_n C [(3, .int 0), (2, .int 1), (0, .ref P.1), (1, .ref R.1)] (by decide) rfl dL_areAlike_93 ?_
    refine J_lvp [2, 3, 1, 0] [(0, .ref P.1), (1, .ref R.1), (2, .int 1), (3, .int 0)] rfl ?_
    refine J_loop (fun _ => OW G P σ x7 ++ OW G R σ x8) (fun i => [(0, .ref P.1), (1, .ref R.1), (2, .int 1), (3, .int (nI i))]) (fun i => i ≤ 12) (fun i => 12 - i) (fun i ha iha => ?_) 0 (Nat.zero_le _) rfl rfl
    refine J_iload_n C rfl dL_areAlike_94 ?_
    refine J_bipush C 12 (by decide) dL_areAlike_95 ?_
    refine J_icmp_ge C 129 (by decide) dL_areAlike_97 (fun c97 => ?_) (fun c97 => ?_)
    · skip
      have c97 := cv_ge_t (a := i) (b := 12) (by omega) (by omega) c97
      refine J_iconst C 0 (by decide) dL_areAlike_129 ?_
      refine J_istore_n C [(3, .int 0), (0, .ref P.1), (1, .ref R.1), (2, .int 1)] (by decide) rfl dL_areAlike_130 ?_
      refine J_lvp [1, 2, 3, 0] [(0, .ref P.1), (1, .ref R.1), (2, .int 1), (3, .int 0)] rfl ?_
      refine J_loop (fun _ => OW G P σ x7 ++ OW G R σ x8) (fun i => [(0, .ref P.1), (1, .ref R.1), (2, .int 1), (3, .int (nI i))]) (fun i => i ≤ 14) (fun i => 14 - i) (fun i hb ihb => ?_) 0 (Nat.zero_le _) rfl rfl
      refine J_iload_n C rfl dL_areAlike_131 ?_
      refine J_bipush C 14 (by decide) dL_areAlike_132 ?_
      refine J_icmp_ge C 194 (by decide) dL_areAlike_134 (fun c134 => ?_) (fun c134 => ?_)
      · skip
        have c134 := cv_ge_t (a := i) (b := 14) (by omega) (by omega) c134
        refine J_iconst C 0 (by decide) dL_areAlike_194 ?_
        refine J_istore_n C [(3, .int 0), (0, .ref P.1), (1, .ref R.1), (2, .int 1)] (by decide) rfl dL_areAlike_195 ?_
        refine J_lvp [1, 2, 3, 0] [(0, .ref P.1), (1, .ref R.1), (2, .int 1), (3, .int 0)] rfl ?_
        refine J_loop (fun _ => OW G P σ x7 ++ OW G R σ x8) (fun j => [(0, .ref P.1), (1, .ref R.1), (2, .int 1), (3, .int (nI j))]) (fun j => j ≤ σ 0 4) (fun j => σ 0 4 - j) (fun j hc ihc => ?_) 0 (Nat.zero_le _) rfl rfl
        refine J_iload_n C rfl dL_areAlike_196 ?_
        refine J_aload_n C rfl dL_areAlike_197 ?_
        refine J_iconst C 1 (by decide) dL_areAlike_198 ?_
        refine J_V1 (as := [.int 1]) (rest := [.int (nI j)]) C NoX.b NoX.f (o_count l G P σ x7 1 (gx7).i (gx7).d) (OW G R σ x8) (fun _ => OW_l2 _ _ _ _ _ _) 1 k382 k383 k384 k10 k385 rfl (by decide +kernel) ⟨Nat.le_of_ble_eq_true rfl, Nat.le_of_ble_eq_true rfl⟩ ⟨Nat.le_of_ble_eq_true rfl, Nat.le_of_ble_eq_true rfl⟩ dL_areAlike_199 (Nat.le_of_ble_eq_true rfl) (OW_0 _ _ _ _) rfl (fun _ _ => ?_)
        refine J_st (st' := [.int (cntF σ x7.2.2.2.1.2.2.2 x7.2.2.2.2.1.2 (1 : Int32).toInt), .int (nI j)]) rfl ?_
        refine J_ws (ws' := OW G P σ x7 ++ OW G R σ x8) rfl ?_
        refine J_i ((by rw [show (1 : Int32).toInt = 1 from by decide] <;> rfl) : (cntF σ x7.2.2.2.1.2.2.2 x7.2.2.2.2.1.2 (1 : Int32).toInt : Int32) = (nI (σ 0 4))) ?_
        refine J_icmp_ge C 254 (by decide) dL_areAlike_202 (fun c202 => ?_) (fun c202 => ?_)
        · skip
          have c202 := cv_ge_t (a := j) (b := (σ 0 4)) (by omega) (by omega) c202
          refine J_iload_n C rfl dL_areAlike_254 ?_
          exact J_zret C hr rfl dL_areAlike_255 (x7, x8) rfl trivial rfl
        · skip
          have c202 := cv_ge_f (a := j) (b := (σ 0 4)) (by omega) (by omega) c202
          refine J_iconst C 0 (by decide) dL_areAlike_205 ?_
          refine J_istore C [(4, .int 0), (0, .ref P.1), (1, .ref R.1), (2, .int 1), (3, .int (nI j))] (by decide) rfl dL_areAlike_206 ?_
          refine J_lvp [1, 2, 3, 4, 0] [(0, .ref P.1), (1, .ref R.1), (2, .int 1), (3, .int (nI j)), (4, .int 0)] rfl ?_
          refine J_loop (fun _ => OW G P σ x7 ++ OW G R σ x8) (fun k => [(0, .ref P.1), (1, .ref R.1), (2, .int 1), (3, .int (nI j)), (4, .int (nI k))]) (fun k => k ≤ 7) (fun k => 7 - k) (fun k hd ihd => ?_) 0 (Nat.zero_le _) rfl rfl
          refine J_iload C rfl dL_areAlike_208 ?_
          refine J_bipush C 7 (by decide) dL_areAlike_210 ?_
          refine J_icmp_ge C 248 (by decide) dL_areAlike_212 (fun c212 => ?_) (fun c212 => ?_)
          · skip
            have c212 := cv_ge_t (a := k) (b := 7) (by omega) (by omega) c212
            refine J_iinc C (nI (j + 1)) [(3, .int (nI (j + 1))), (0, .ref P.1), (1, .ref R.1), (2, .int 1), (4, .int (nI k))] 3 rfl (by first | exact nI_add _ 1 | rfl) (by decide) rfl dL_areAlike_248 ?_
            refine J_goto C 196 (by decide) dL_areAlike_251 ?_
            refine J_lvp [1, 2, 3, 0] [(0, .ref P.1), (1, .ref R.1), (2, .int 1), (3, .int (nI (j + 1)))] rfl ?_
            exact ihc (j + 1) (by omega) (by omega)
          · skip
            have c212 := cv_ge_f (a := k) (b := 7) (by omega) (by omega) c212
            refine J_iload_n C rfl dL_areAlike_215 ?_
            refine J_if_eq C 240 (by decide) dL_areAlike_216 (fun h => absurd h (by decide)) (fun _ => ?_)
            refine J_aload_n C rfl dL_areAlike_219 ?_
            refine J_iload_n C rfl dL_areAlike_220 ?_
            refine J_iload C rfl dL_areAlike_221 ?_
            refine J_V1 (as := [.int (nI j), .int (nI k)]) (rest := []) C NoX.b NoX.f (o_place l G P σ x7 j (nI k) gx7.i gx7.d (by omega)) (OW G R σ x8) (fun _ => OW_l2 _ _ _ _ _ _) 2 k434 k435 k436 k10 k437 rfl (by decide +kernel) ⟨Nat.le_of_ble_eq_true rfl, Nat.le_of_ble_eq_true rfl⟩ ⟨Nat.le_of_ble_eq_true rfl, Nat.le_of_ble_eq_true rfl⟩ dL_areAlike_223 (Nat.le_of_ble_eq_true rfl) (OW_0 _ _ _ _) rfl (fun _ _ => ?_)
            refine J_st (st' := [.int (plF σ j (nI k).toInt)]) rfl ?_
            refine J_ws (ws' := OW G P σ x7 ++ OW G R σ x8) rfl ?_
            refine J_aload_n C rfl dL_areAlike_226 ?_
            refine J_iload_n C rfl dL_areAlike_227 ?_
            refine J_iload C rfl dL_areAlike_228 ?_
            refine J_V2 (as := [.int (nI j), .int (nI k)]) (rest := [.int (plF σ j (nI k).toInt)]) C NoX.b NoX.f (o_place l G R σ x8 j (nI k) gx8.i gx8.d (by omega)) (OW G P σ x7) (fun _ => OW_l2 _ _ _ _ _ _) 2 k434 k435 k436 k10 k437 rfl (by decide +kernel) ⟨Nat.le_of_ble_eq_true rfl, Nat.le_of_ble_eq_true rfl⟩ ⟨Nat.le_of_ble_eq_true rfl, Nat.le_of_ble_eq_true rfl⟩ dL_areAlike_230 (Nat.le_of_ble_eq_true rfl) (OW_0 _ _ _ _) rfl (fun _ _ => ?_)
            refine J_st (st' := [.int (plF σ j (nI k).toInt), .int (plF σ j (nI k).toInt)]) rfl ?_
            refine J_ws (ws' := OW G P σ x7 ++ OW G R σ x8) rfl ?_
            refine J_icmp_ne C 240 (by decide) dL_areAlike_233 (fun h => absurd h (fun q => q rfl)) (fun _ => ?_)
            refine J_iconst C 1 (by decide) dL_areAlike_236 ?_
            refine J_goto C 241 (by decide) dL_areAlike_237 ?_
            refine J_istore_n C [(2, .int 1), (0, .ref P.1), (1, .ref R.1), (3, .int (nI j)), (4, .int (nI k))] (by decide) rfl dL_areAlike_241 ?_
            refine J_iinc C (nI (k + 1)) [(4, .int (nI (k + 1))), (2, .int 1), (0, .ref P.1), (1, .ref R.1), (3, .int (nI j))] 4 rfl (by first | exact nI_add _ 1 | rfl) (by decide) rfl dL_areAlike_242 ?_
            refine J_goto C 208 (by decide) dL_areAlike_245 ?_
            refine J_lvp [2, 3, 1, 4, 0] [(0, .ref P.1), (1, .ref R.1), (2, .int 1), (3, .int (nI j)), (4, .int (nI (k + 1)))] rfl ?_
            exact ihd (k + 1) (by omega) (by omega)
      · skip
        have c134 := cv_ge_f (a := i) (b := 14) (by omega) (by omega) c134
        refine J_iload_n C rfl dL_areAlike_137 ?_
        refine J_if_eq C 186 (by decide) dL_areAlike_138 (fun h => absurd h (by decide)) (fun _ => ?_)
        refine J_aload_n C rfl dL_areAlike_141 ?_
        refine J_iload_n C rfl dL_areAlike_142 ?_
        refine J_iconst C 2 (by decide) dL_areAlike_143 ?_
        refine J_irem C (by decide) dL_areAlike_144 ?_
        refine J_i (pk_rem (a := i) (d := 2) (by omega) (by omega) (by omega) : ((nI i) - (nI i) / 2 * 2 : Int32) = (nI (i % 2))) ?_
        rcases (show i % 2 = 0 ∨ i % 2 = 1 by omega) with hp2 | hp2
        · skip
          refine J_i ((congrArg nI hp2) : (nI (i % 2) : Int32) = 0) ?_
          refine J_iload_n C rfl dL_areAlike_145 ?_
          refine J_iconst C 2 (by decide) dL_areAlike_146 ?_
          refine J_idiv C (by decide) dL_areAlike_147 ?_
          refine J_i (pk_div (a := i) (d := 2) (by omega) (by omega) (by omega) : ((nI i) / 2 : Int32) = (nI (i / 2))) ?_
          refine J_V1 (as := [.int 0, .int (nI (i / 2))]) (rest := []) C NoX.b NoX.f (o_scribe0 l G P σ x7 (nI (i / 2)) gx7.i) (OW G R σ x8) (fun _ => OW_l2 _ _ _ _ _ _) 2 k405 k406 k407 k10 k408 rfl (by decide +kernel) ⟨Nat.le_of_ble_eq_true rfl, Nat.le_of_ble_eq_true rfl⟩ ⟨Nat.le_of_ble_eq_true rfl, Nat.le_of_ble_eq_true rfl⟩ dL_areAlike_148 (Nat.le_of_ble_eq_true rfl) (OW_0 _ _ _ _) rfl (fun _ _ => ?_)
          refine J_st (st' := [.int (scrF σ 0 (nI (i / 2)).toInt)]) rfl ?_
          refine J_ws (ws' := OW G P σ x7 ++ OW G R σ x8) rfl ?_
          refine J_aload_n C rfl dL_areAlike_151 ?_
          refine J_iload_n C rfl dL_areAlike_152 ?_
          refine J_iconst C 2 (by decide) dL_areAlike_153 ?_
          refine J_irem C (by decide) dL_areAlike_154 ?_
          refine J_i (pk_rem (a := i) (d := 2) (by omega) (by omega) (by omega) : ((nI i) - (nI i) / 2 * 2 : Int32) = (nI (i % 2))) ?_
          refine J_i ((congrArg nI hp2) : (nI (i % 2) : Int32) = 0) ?_
          refine J_iload_n C rfl dL_areAlike_155 ?_
          refine J_iconst C 2 (by decide) dL_areAlike_156 ?_
          refine J_idiv C (by decide) dL_areAlike_157 ?_
          refine J_i (pk_div (a := i) (d := 2) (by omega) (by omega) (by omega) : ((nI i) / 2 : Int32) = (nI (i / 2))) ?_
          refine J_V2 (as := [.int 0, .int (nI (i / 2))]) (rest := [.int (scrF σ 0 (nI (i / 2)).toInt)]) C NoX.b NoX.f (o_scribe0 l G R σ x8 (nI (i / 2)) gx8.i) (OW G P σ x7) (fun _ => OW_l2 _ _ _ _ _ _) 2 k405 k406 k407 k10 k408 rfl (by decide +kernel) ⟨Nat.le_of_ble_eq_true rfl, Nat.le_of_ble_eq_true rfl⟩ ⟨Nat.le_of_ble_eq_true rfl, Nat.le_of_ble_eq_true rfl⟩ dL_areAlike_158 (Nat.le_of_ble_eq_true rfl) (OW_0 _ _ _ _) rfl (fun _ _ => ?_)
          refine J_st (st' := [.int (scrF σ 0 (nI (i / 2)).toInt), .int (scrF σ 0 (nI (i / 2)).toInt)]) rfl ?_
          refine J_ws (ws' := OW G P σ x7 ++ OW G R σ x8) rfl ?_
          refine J_icmp_ne C 186 (by decide) dL_areAlike_161 (fun h => absurd h (fun q => q rfl)) (fun _ => ?_)
          refine J_aload_n C rfl dL_areAlike_164 ?_
          refine J_iload_n C rfl dL_areAlike_165 ?_
          refine J_iconst C 5 (by decide) dL_areAlike_166 ?_
          refine J_irem C (by decide) dL_areAlike_167 ?_
          refine J_i (pk_rem (a := i) (d := 5) (by omega) (by omega) (by omega) : ((nI i) - (nI i) / 5 * 5 : Int32) = (nI (i % 5))) ?_
          refine J_V1 (as := [.int (nI (i % 5))]) (rest := []) C NoX.b NoX.f (o_ink l G P σ x7 (nI (i % 5)) gx7.i) (OW G R σ x8) (fun _ => OW_l2 _ _ _ _ _ _) 1 k546 k547 k548 k10 k549 rfl (by decide +kernel) ⟨Nat.le_of_ble_eq_true rfl, Nat.le_of_ble_eq_true rfl⟩ ⟨Nat.le_of_ble_eq_true rfl, Nat.le_of_ble_eq_true rfl⟩ dL_areAlike_168 (Nat.le_of_ble_eq_true rfl) (OW_0 _ _ _ _) rfl (fun _ _ => ?_)
          refine J_st (st' := [.double (inkF σ (nI (i % 5)).toInt)]) rfl ?_
          refine J_ws (ws' := OW G P σ x7 ++ OW G R σ x8) rfl ?_
          obtain ⟨n9, hn9, he9⟩ := ink_dl hI (i := i % 5) (by omega)
          refine J_d (he9 : (inkF σ (nI (i % 5)).toInt : UInt64) = (dl n9)) ?_
          refine J_aload_n C rfl dL_areAlike_171 ?_
          refine J_iload_n C rfl dL_areAlike_172 ?_
          refine J_iconst C 5 (by decide) dL_areAlike_173 ?_
          refine J_irem C (by decide) dL_areAlike_174 ?_
          refine J_i (pk_rem (a := i) (d := 5) (by omega) (by omega) (by omega) : ((nI i) - (nI i) / 5 * 5 : Int32) = (nI (i % 5))) ?_
          refine J_V2 (as := [.int (nI (i % 5))]) (rest := [.double (dl n9)]) C NoX.b NoX.f (o_ink l G R σ x8 (nI (i % 5)) gx8.i) (OW G P σ x7) (fun _ => OW_l2 _ _ _ _ _ _) 1 k546 k547 k548 k10 k549 rfl (by decide +kernel) ⟨Nat.le_of_ble_eq_true rfl, Nat.le_of_ble_eq_true rfl⟩ ⟨Nat.le_of_ble_eq_true rfl, Nat.le_of_ble_eq_true rfl⟩ dL_areAlike_175 (Nat.le_of_ble_eq_true rfl) (OW_0 _ _ _ _) rfl (fun _ _ => ?_)
          refine J_st (st' := [.double (inkF σ (nI (i % 5)).toInt), .double (dl n9)]) rfl ?_
          refine J_ws (ws' := OW G P σ x7 ++ OW G R σ x8) rfl ?_
          refine J_d (he9 : (inkF σ (nI (i % 5)).toInt : UInt64) = (dl n9)) ?_
          refine J_dcmp C dL_areAlike_178 ?_
          refine J_i (((dl_cmp (a := n9) (b := n9) hn9 hn9 _).trans ((if_neg (Nat.lt_irrefl _)).trans (if_pos rfl))) : (Op.cmpValue (FP.dcmp (dl n9) (dl n9)) .l : Int32) = 0) ?_
          refine J_if_ne C 186 (by decide) dL_areAlike_179 (fun h => absurd h (by decide)) (fun _ => ?_)
          refine J_iconst C 1 (by decide) dL_areAlike_182 ?_
          refine J_goto C 187 (by decide) dL_areAlike_183 ?_
          refine J_istore_n C [(2, .int 1), (0, .ref P.1), (1, .ref R.1), (3, .int (nI i))] (by decide) rfl dL_areAlike_187 ?_
          refine J_iinc C (nI (i + 1)) [(3, .int (nI (i + 1))), (2, .int 1), (0, .ref P.1), (1, .ref R.1)] 3 rfl (by first | exact nI_add _ 1 | rfl) (by decide) rfl dL_areAlike_188 ?_
          refine J_goto C 131 (by decide) dL_areAlike_191 ?_
          refine J_lvp [2, 3, 1, 0] [(0, .ref P.1), (1, .ref R.1), (2, .int 1), (3, .int (nI (i + 1)))] rfl ?_
          exact ihb (i + 1) (by omega) (by omega)
        · skip
          refine J_i ((congrArg nI hp2) : (nI (i % 2) : Int32) = 1) ?_
          refine J_iload_n C rfl dL_areAlike_145 ?_
          refine J_iconst C 2 (by decide) dL_areAlike_146 ?_
          refine J_idiv C (by decide) dL_areAlike_147 ?_
          refine J_i (pk_div (a := i) (d := 2) (by omega) (by omega) (by omega) : ((nI i) / 2 : Int32) = (nI (i / 2))) ?_
          refine J_V1 (as := [.int 1, .int (nI (i / 2))]) (rest := []) C NoX.b NoX.f (o_scribe1 l G P σ x7 (nI (i / 2)) gx7.i) (OW G R σ x8) (fun _ => OW_l2 _ _ _ _ _ _) 2 k405 k406 k407 k10 k408 rfl (by decide +kernel) ⟨Nat.le_of_ble_eq_true rfl, Nat.le_of_ble_eq_true rfl⟩ ⟨Nat.le_of_ble_eq_true rfl, Nat.le_of_ble_eq_true rfl⟩ dL_areAlike_148 (Nat.le_of_ble_eq_true rfl) (OW_0 _ _ _ _) rfl (fun _ _ => ?_)
          refine J_st (st' := [.int (scrF σ 1 (nI (i / 2)).toInt)]) rfl ?_
          refine J_ws (ws' := OW G P σ x7 ++ OW G R σ x8) rfl ?_
          refine J_aload_n C rfl dL_areAlike_151 ?_
          refine J_iload_n C rfl dL_areAlike_152 ?_
          refine J_iconst C 2 (by decide) dL_areAlike_153 ?_
          refine J_irem C (by decide) dL_areAlike_154 ?_
          refine J_i (pk_rem (a := i) (d := 2) (by omega) (by omega) (by omega) : ((nI i) - (nI i) / 2 * 2 : Int32) = (nI (i % 2))) ?_
          refine J_i ((congrArg nI hp2) : (nI (i % 2) : Int32) = 1) ?_
          refine J_iload_n C rfl dL_areAlike_155 ?_
          refine J_iconst C 2 (by decide) dL_areAlike_156 ?_
          refine J_idiv C (by decide) dL_areAlike_157 ?_
          refine J_i (pk_div (a := i) (d := 2) (by omega) (by omega) (by omega) : ((nI i) / 2 : Int32) = (nI (i / 2))) ?_
          refine J_V2 (as := [.int 1, .int (nI (i / 2))]) (rest := [.int (scrF σ 1 (nI (i / 2)).toInt)]) C NoX.b NoX.f (o_scribe1 l G R σ x8 (nI (i / 2)) gx8.i) (OW G P σ x7) (fun _ => OW_l2 _ _ _ _ _ _) 2 k405 k406 k407 k10 k408 rfl (by decide +kernel) ⟨Nat.le_of_ble_eq_true rfl, Nat.le_of_ble_eq_true rfl⟩ ⟨Nat.le_of_ble_eq_true rfl, Nat.le_of_ble_eq_true rfl⟩ dL_areAlike_158 (Nat.le_of_ble_eq_true rfl) (OW_0 _ _ _ _) rfl (fun _ _ => ?_)
          refine J_st (st' := [.int (scrF σ 1 (nI (i / 2)).toInt), .int (scrF σ 1 (nI (i / 2)).toInt)]) rfl ?_
          refine J_ws (ws' := OW G P σ x7 ++ OW G R σ x8) rfl ?_
          refine J_icmp_ne C 186 (by decide) dL_areAlike_161 (fun h => absurd h (fun q => q rfl)) (fun _ => ?_)
          refine J_aload_n C rfl dL_areAlike_164 ?_
          refine J_iload_n C rfl dL_areAlike_165 ?_
          refine J_iconst C 5 (by decide) dL_areAlike_166 ?_
          refine J_irem C (by decide) dL_areAlike_167 ?_
          refine J_i (pk_rem (a := i) (d := 5) (by omega) (by omega) (by omega) : ((nI i) - (nI i) / 5 * 5 : Int32) = (nI (i % 5))) ?_
          refine J_V1 (as := [.int (nI (i % 5))]) (rest := []) C NoX.b NoX.f (o_ink l G P σ x7 (nI (i % 5)) gx7.i) (OW G R σ x8) (fun _ => OW_l2 _ _ _ _ _ _) 1 k546 k547 k548 k10 k549 rfl (by decide +kernel) ⟨Nat.le_of_ble_eq_true rfl, Nat.le_of_ble_eq_true rfl⟩ ⟨Nat.le_of_ble_eq_true rfl, Nat.le_of_ble_eq_true rfl⟩ dL_areAlike_168 (Nat.le_of_ble_eq_true rfl) (OW_0 _ _ _ _) rfl (fun _ _ => ?_)
          refine J_st (st' := [.double (inkF σ (nI (i % 5)).toInt)]) rfl ?_
          refine J_ws (ws' := OW G P σ x7 ++ OW G R σ x8) rfl ?_
          obtain ⟨n9, hn9, he9⟩ := ink_dl hI (i := i % 5) (by omega)
          refine J_d (he9 : (inkF σ (nI (i % 5)).toInt : UInt64) = (dl n9)) ?_
          refine J_aload_n C rfl dL_areAlike_171 ?_
          refine J_iload_n C rfl dL_areAlike_172 ?_
          refine J_iconst C 5 (by decide) dL_areAlike_173 ?_
          refine J_irem C (by decide) dL_areAlike_174 ?_
          refine J_i (pk_rem (a := i) (d := 5) (by omega) (by omega) (by omega) : ((nI i) - (nI i) / 5 * 5 : Int32) = (nI (i % 5))) ?_
          refine J_V2 (as := [.int (nI (i % 5))]) (rest := [.double (dl n9)]) C NoX.b NoX.f (o_ink l G R σ x8 (nI (i % 5)) gx8.i) (OW G P σ x7) (fun _ => OW_l2 _ _ _ _ _ _) 1 k546 k547 k548 k10 k549 rfl (by decide +kernel) ⟨Nat.le_of_ble_eq_true rfl, Nat.le_of_ble_eq_true rfl⟩ ⟨Nat.le_of_ble_eq_true rfl, Nat.le_of_ble_eq_true rfl⟩ dL_areAlike_175 (Nat.le_of_ble_eq_true rfl) (OW_0 _ _ _ _) rfl (fun _ _ => ?_)
          refine J_st (st' := [.double (inkF σ (nI (i % 5)).toInt), .double (dl n9)]) rfl ?_
          refine J_ws (ws' := OW G P σ x7 ++ OW G R σ x8) rfl ?_
          refine J_d (he9 : (inkF σ (nI (i % 5)).toInt : UInt64) = (dl n9)) ?_
          refine J_dcmp C dL_areAlike_178 ?_
          refine J_i (((dl_cmp (a := n9) (b := n9) hn9 hn9 _).trans ((if_neg (Nat.lt_irrefl _)).trans (if_pos rfl))) : (Op.cmpValue (FP.dcmp (dl n9) (dl n9)) .l : Int32) = 0) ?_
          refine J_if_ne C 186 (by decide) dL_areAlike_179 (fun h => absurd h (by decide)) (fun _ => ?_)
          refine J_iconst C 1 (by decide) dL_areAlike_182 ?_
          refine J_goto C 187 (by decide) dL_areAlike_183 ?_
          refine J_istore_n C [(2, .int 1), (0, .ref P.1), (1, .ref R.1), (3, .int (nI i))] (by decide) rfl dL_areAlike_187 ?_
          refine J_iinc C (nI (i + 1)) [(3, .int (nI (i + 1))), (2, .int 1), (0, .ref P.1), (1, .ref R.1)] 3 rfl (by first | exact nI_add _ 1 | rfl) (by decide) rfl dL_areAlike_188 ?_
          refine J_goto C 131 (by decide) dL_areAlike_191 ?_
          refine J_lvp [2, 3, 1, 0] [(0, .ref P.1), (1, .ref R.1), (2, .int 1), (3, .int (nI (i + 1)))] rfl ?_
          exact ihb (i + 1) (by omega) (by omega)
    · skip
      have c97 := cv_ge_f (a := i) (b := 12) (by omega) (by omega) c97
      refine J_iload_n C rfl dL_areAlike_100 ?_
      refine J_if_eq C 121 (by decide) dL_areAlike_101 (fun h => absurd h (by decide)) (fun _ => ?_)
      refine J_aload_n C rfl dL_areAlike_104 ?_
      refine J_iload_n C rfl dL_areAlike_105 ?_
      refine J_V1 (as := [.int (nI i)]) (rest := []) C NoX.b NoX.f (o_count l G P σ x7 (nI i) gx7.i gx7.d) (OW G R σ x8) (fun _ => OW_l2 _ _ _ _ _ _) 1 k382 k383 k384 k10 k385 rfl (by decide +kernel) ⟨Nat.le_of_ble_eq_true rfl, Nat.le_of_ble_eq_true rfl⟩ ⟨Nat.le_of_ble_eq_true rfl, Nat.le_of_ble_eq_true rfl⟩ dL_areAlike_106 (Nat.le_of_ble_eq_true rfl) (OW_0 _ _ _ _) rfl (fun _ _ => ?_)
      refine J_st (st' := [.int (cntF σ x7.2.2.2.1.2.2.2 x7.2.2.2.2.1.2 (nI i).toInt)]) rfl ?_
      refine J_ws (ws' := OW G P σ x7 ++ OW G R σ x8) rfl ?_
      refine J_aload_n C rfl dL_areAlike_109 ?_
      refine J_iload_n C rfl dL_areAlike_110 ?_
      refine J_V2 (as := [.int (nI i)]) (rest := [.int (cntF σ x7.2.2.2.1.2.2.2 x7.2.2.2.2.1.2 (nI i).toInt)]) C NoX.b NoX.f (o_count l G R σ x8 (nI i) gx8.i gx8.d) (OW G P σ x7) (fun _ => OW_l2 _ _ _ _ _ _) 1 k382 k383 k384 k10 k385 rfl (by decide +kernel) ⟨Nat.le_of_ble_eq_true rfl, Nat.le_of_ble_eq_true rfl⟩ ⟨Nat.le_of_ble_eq_true rfl, Nat.le_of_ble_eq_true rfl⟩ dL_areAlike_111 (Nat.le_of_ble_eq_true rfl) (OW_0 _ _ _ _) rfl (fun _ _ => ?_)
      refine J_st (st' := [.int (cntF σ x8.2.2.2.1.2.2.2 x8.2.2.2.2.1.2 (nI i).toInt), .int (cntF σ x7.2.2.2.1.2.2.2 x7.2.2.2.2.1.2 (nI i).toInt)]) rfl ?_
      refine J_ws (ws' := OW G P σ x7 ++ OW G R σ x8) rfl ?_
      refine J_icmp_ne C 121 (by decide) dL_areAlike_114 (fun h => absurd h (fun q => q (cnt_eq σ _ _ _ _ (by omega)))) (fun _ => ?_)
      refine J_iconst C 1 (by decide) dL_areAlike_117 ?_
      refine J_goto C 122 (by decide) dL_areAlike_118 ?_
      refine J_istore_n C [(2, .int 1), (0, .ref P.1), (1, .ref R.1), (3, .int (nI i))] (by decide) rfl dL_areAlike_122 ?_
      refine J_iinc C (nI (i + 1)) [(3, .int (nI (i + 1))), (2, .int 1), (0, .ref P.1), (1, .ref R.1)] 3 rfl (by first | exact nI_add _ 1 | rfl) (by decide) rfl dL_areAlike_123 ?_
      refine J_goto C 94 (by decide) dL_areAlike_126 ?_
      refine J_lvp [2, 3, 1, 0] [(0, .ref P.1), (1, .ref R.1), (2, .int 1), (3, .int (nI (i + 1)))] rfl ?_
      exact iha (i + 1) (by omega) (by omega)
  · skip
    refine J_iconst C 0 (by decide) dL_areAlike_35 ?_
    refine J_V1 (as := [.int 0]) (rest := []) C NoX.b NoX.f (o_best0 l G P σ x1 gx1.i gx1.d gx1.1.2.2.2 hdn hx1.1) (OW G R σ x2) (fun _ => OW_l2 _ _ _ _ _ _) 1 k535 k536 k537 k10 k538 rfl (by decide +kernel) ⟨Nat.le_of_ble_eq_true rfl, Nat.le_of_ble_eq_true rfl⟩ ⟨Nat.le_of_ble_eq_true rfl, Nat.le_of_ble_eq_true rfl⟩ dL_areAlike_36 (Nat.le_of_ble_eq_true rfl) (OW_0 _ _ _ _) rfl (fun x9 hx9 => ?_)
    refine J_st (st' := [.int ((bpF (bpG σ 0) 9).1)]) rfl ?_
    refine J_ws (ws' := OW G P σ x9 ++ OW G R σ x2) rfl ?_
    have gx9 : GV r σ x9.1 := by rw [hx9.2.1]; exact gx1
    refine J_aload_n C rfl dL_areAlike_39 ?_
    refine J_iconst C 0 (by decide) dL_areAlike_40 ?_
    refine J_V2 (as := [.int 0]) (rest := [.int ((bpF (bpG σ 0) 9).1)]) C NoX.b NoX.f (o_best0 l G R σ x2 gx2.i gx2.d gx2.1.2.2.2 hdn hx2.1) (OW G P σ x9) (fun _ => OW_l2 _ _ _ _ _ _) 1 k535 k536 k537 k10 k538 rfl (by decide +kernel) ⟨Nat.le_of_ble_eq_true rfl, Nat.le_of_ble_eq_true rfl⟩ ⟨Nat.le_of_ble_eq_true rfl, Nat.le_of_ble_eq_true rfl⟩ dL_areAlike_41 (Nat.le_of_ble_eq_true rfl) (OW_0 _ _ _ _) rfl (fun x10 hx10 => ?_)
    refine J_st (st' := [.int ((bpF (bpG σ 0) 9).1), .int ((bpF (bpG σ 0) 9).1)]) rfl ?_
    refine J_ws (ws' := OW G P σ x9 ++ OW G R σ x10) rfl ?_
    have gx10 : GV r σ x10.1 := by rw [hx10.2.1]; exact gx2
    refine J_icmp_ne C 90 (by decide) dL_areAlike_44 (fun h => absurd h (fun q => q rfl)) (fun _ => ?_)
    refine J_aload_n C rfl dL_areAlike_47 ?_
    refine J_iconst C 1 (by decide) dL_areAlike_48 ?_
    refine J_V1 (as := [.int 1]) (rest := []) C NoX.b NoX.f (o_best1 l G P σ x9 gx9.i gx9.d gx9.1.2.2.2 hdn hx9.1) (OW G R σ x10) (fun _ => OW_l2 _ _ _ _ _ _) 1 k535 k536 k537 k10 k538 rfl (by decide +kernel) ⟨Nat.le_of_ble_eq_true rfl, Nat.le_of_ble_eq_true rfl⟩ ⟨Nat.le_of_ble_eq_true rfl, Nat.le_of_ble_eq_true rfl⟩ dL_areAlike_49 (Nat.le_of_ble_eq_true rfl) (OW_0 _ _ _ _) rfl (fun x11 hx11 => ?_)
    refine J_st (st' := [.int ((bpF (bpG σ 1) 9).1)]) rfl ?_
    refine J_ws (ws' := OW G P σ x11 ++ OW G R σ x10) rfl ?_
    have gx11 : GV r σ x11.1 := by rw [hx11.2.1]; exact gx9
    refine J_aload_n C rfl dL_areAlike_52 ?_
    refine J_iconst C 1 (by decide) dL_areAlike_53 ?_
    refine J_V2 (as := [.int 1]) (rest := [.int ((bpF (bpG σ 1) 9).1)]) C NoX.b NoX.f (o_best1 l G R σ x10 gx10.i gx10.d gx10.1.2.2.2 hdn hx10.1) (OW G P σ x11) (fun _ => OW_l2 _ _ _ _ _ _) 1 k535 k536 k537 k10 k538 rfl (by decide +kernel) ⟨Nat.le_of_ble_eq_true rfl, Nat.le_of_ble_eq_true rfl⟩ ⟨Nat.le_of_ble_eq_true rfl, Nat.le_of_ble_eq_true rfl⟩ dL_areAlike_54 (Nat.le_of_ble_eq_true rfl) (OW_0 _ _ _ _) rfl (fun x12 hx12 => ?_)
    refine J_st (st' := [.int ((bpF (bpG σ 1) 9).1), .int ((bpF (bpG σ 1) 9).1)]) rfl ?_
    refine J_ws (ws' := OW G P σ x11 ++ OW G R σ x12) rfl ?_
    have gx12 : GV r σ x12.1 := by rw [hx12.2.1]; exact gx10
    refine J_icmp_ne C 90 (by decide) dL_areAlike_57 (fun h => absurd h (fun q => q rfl)) (fun _ => ?_)
    refine J_aload_n C rfl dL_areAlike_60 ?_
    refine J_iconst C 0 (by decide) dL_areAlike_61 ?_
    refine J_V1 (as := [.int 0]) (rest := []) C NoX.b NoX.f (o_next0 l G P σ x11 (gx11).i (gx11).d) (OW G R σ x12) (fun _ => OW_l2 _ _ _ _ _ _) 1 k540 k541 k542 k10 k543 rfl (by decide +kernel) ⟨Nat.le_of_ble_eq_true rfl, Nat.le_of_ble_eq_true rfl⟩ ⟨Nat.le_of_ble_eq_true rfl, Nat.le_of_ble_eq_true rfl⟩ dL_areAlike_62 (Nat.le_of_ble_eq_true rfl) (OW_0 _ _ _ _) rfl (fun _ _ => ?_)
    refine J_st (st' := [.int (nI (doesN σ 0))]) rfl ?_
    refine J_ws (ws' := OW G P σ x11 ++ OW G R σ x12) rfl ?_
    refine J_aload_n C rfl dL_areAlike_65 ?_
    refine J_iconst C 0 (by decide) dL_areAlike_66 ?_
    refine J_V2 (as := [.int 0]) (rest := [.int (nI (doesN σ 0))]) C NoX.b NoX.f (o_next0 l G R σ x12 (gx12).i (gx12).d) (OW G P σ x11) (fun _ => OW_l2 _ _ _ _ _ _) 1 k540 k541 k542 k10 k543 rfl (by decide +kernel) ⟨Nat.le_of_ble_eq_true rfl, Nat.le_of_ble_eq_true rfl⟩ ⟨Nat.le_of_ble_eq_true rfl, Nat.le_of_ble_eq_true rfl⟩ dL_areAlike_67 (Nat.le_of_ble_eq_true rfl) (OW_0 _ _ _ _) rfl (fun _ _ => ?_)
    refine J_st (st' := [.int (nI (doesN σ 0)), .int (nI (doesN σ 0))]) rfl ?_
    refine J_ws (ws' := OW G P σ x11 ++ OW G R σ x12) rfl ?_
    refine J_icmp_ne C 90 (by decide) dL_areAlike_70 (fun h => absurd h (fun q => q rfl)) (fun _ => ?_)
    refine J_aload_n C rfl dL_areAlike_73 ?_
    refine J_iconst C 1 (by decide) dL_areAlike_74 ?_
    refine J_V1 (as := [.int 1]) (rest := []) C NoX.b NoX.f (o_next1 l G P σ x11 (gx11).i (gx11).d) (OW G R σ x12) (fun _ => OW_l2 _ _ _ _ _ _) 1 k540 k541 k542 k10 k543 rfl (by decide +kernel) ⟨Nat.le_of_ble_eq_true rfl, Nat.le_of_ble_eq_true rfl⟩ ⟨Nat.le_of_ble_eq_true rfl, Nat.le_of_ble_eq_true rfl⟩ dL_areAlike_75 (Nat.le_of_ble_eq_true rfl) (OW_0 _ _ _ _) rfl (fun _ _ => ?_)
    refine J_st (st' := [.int (nI (nextN σ))]) rfl ?_
    refine J_ws (ws' := OW G P σ (triX x11 (goesF σ 0 (σ 0 3)) x11.1) ++ OW G R σ x12) rfl ?_
    obtain ⟨x13, hx13⟩ : ∃ z : OS, z = triX x11 (goesF σ 0 (σ 0 3)) x11.1 := ⟨_, rfl⟩
    have vx13 : VO x13 := by rw [hx13]; exact hx11.1.tri _ _
    have gx13 : GV r σ x13.1 := by rw [hx13]; exact gx11
    refine J_ws (ws' := OW G P σ x13 ++ OW G R σ x12) (by rw [hx13]) ?_
    refine J_aload_n C rfl dL_areAlike_78 ?_
    refine J_iconst C 1 (by decide) dL_areAlike_79 ?_
    refine J_V2 (as := [.int 1]) (rest := [.int (nI (nextN σ))]) C NoX.b NoX.f (o_next1 l G R σ x12 (gx12).i (gx12).d) (OW G P σ x13) (fun _ => OW_l2 _ _ _ _ _ _) 1 k540 k541 k542 k10 k543 rfl (by decide +kernel) ⟨Nat.le_of_ble_eq_true rfl, Nat.le_of_ble_eq_true rfl⟩ ⟨Nat.le_of_ble_eq_true rfl, Nat.le_of_ble_eq_true rfl⟩ dL_areAlike_80 (Nat.le_of_ble_eq_true rfl) (OW_0 _ _ _ _) rfl (fun _ _ => ?_)
    refine J_st (st' := [.int (nI (nextN σ)), .int (nI (nextN σ))]) rfl ?_
    refine J_ws (ws' := OW G P σ x13 ++ OW G R σ (triX x12 (goesF σ 0 (σ 0 3)) x12.1)) rfl ?_
    obtain ⟨x14, hx14⟩ : ∃ z : OS, z = triX x12 (goesF σ 0 (σ 0 3)) x12.1 := ⟨_, rfl⟩
    have vx14 : VO x14 := by rw [hx14]; exact hx12.1.tri _ _
    have gx14 : GV r σ x14.1 := by rw [hx14]; exact gx12
    refine J_ws (ws' := OW G P σ x13 ++ OW G R σ x14) (by rw [hx14]) ?_
    refine J_icmp_ne C 90 (by decide) dL_areAlike_83 (fun h => absurd h (fun q => q rfl)) (fun _ => ?_)
    refine J_iconst C 1 (by decide) dL_areAlike_86 ?_
    refine J_goto C 91 (by decide) dL_areAlike_87 ?_
    refine J_istore_n C [(2, .int 1), (0, .ref P.1), (1, .ref R.1)] (by decide) rfl dL_areAlike_91 ?_
    refine J_iconst C 0 (by decide) dL_areAlike_92 ?_
    refine J_istore_n C [(3, .int 0), (2, .int 1), (0, .ref P.1), (1, .ref R.1)] (by decide) rfl dL_areAlike_93 ?_
    refine J_lvp [2, 3, 1, 0] [(0, .ref P.1), (1, .ref R.1), (2, .int 1), (3, .int 0)] rfl ?_
    refine J_loop (fun _ => OW G P σ x13 ++ OW G R σ x14) (fun i => [(0, .ref P.1), (1, .ref R.1), (2, .int 1), (3, .int (nI i))]) (fun i => i ≤ 12) (fun i => 12 - i) (fun i ha iha => ?_) 0 (Nat.zero_le _) rfl rfl
    refine J_iload_n C rfl dL_areAlike_94 ?_
    refine J_bipush C 12 (by decide) dL_areAlike_95 ?_
    refine J_icmp_ge C 129 (by decide) dL_areAlike_97 (fun c97 => ?_) (fun c97 => ?_)
    · skip
      have c97 := cv_ge_t (a := i) (b := 12) (by omega) (by omega) c97
      refine J_iconst C 0 (by decide) dL_areAlike_129 ?_
      refine J_istore_n C [(3, .int 0), (0, .ref P.1), (1, .ref R.1), (2, .int 1)] (by decide) rfl dL_areAlike_130 ?_
      refine J_lvp [1, 2, 3, 0] [(0, .ref P.1), (1, .ref R.1), (2, .int 1), (3, .int 0)] rfl ?_
      refine J_loop (fun _ => OW G P σ x13 ++ OW G R σ x14) (fun i => [(0, .ref P.1), (1, .ref R.1), (2, .int 1), (3, .int (nI i))]) (fun i => i ≤ 14) (fun i => 14 - i) (fun i hb ihb => ?_) 0 (Nat.zero_le _) rfl rfl
      refine J_iload_n C rfl dL_areAlike_131 ?_
      refine J_bipush C 14 (by decide) dL_areAlike_132 ?_
      refine J_icmp_ge C 194 (by decide) dL_areAlike_134 (fun c134 => ?_) (fun c134 => ?_)
      · skip
        have c134 := cv_ge_t (a := i) (b := 14) (by omega) (by omega) c134
        refine J_iconst C 0 (by decide) dL_areAlike_194 ?_
        refine J_istore_n C [(3, .int 0), (0, .ref P.1), (1, .ref R.1), (2, .int 1)] (by decide) rfl dL_areAlike_195 ?_
        refine J_lvp [1, 2, 3, 0] [(0, .ref P.1), (1, .ref R.1), (2, .int 1), (3, .int 0)] rfl ?_
        refine J_loop (fun _ => OW G P σ x13 ++ OW G R σ x14) (fun j => [(0, .ref P.1), (1, .ref R.1), (2, .int 1), (3, .int (nI j))]) (fun j => j ≤ σ 0 4) (fun j => σ 0 4 - j) (fun j hc ihc => ?_) 0 (Nat.zero_le _) rfl rfl
        refine J_iload_n C rfl dL_areAlike_196 ?_
        refine J_aload_n C rfl dL_areAlike_197 ?_
        refine J_iconst C 1 (by decide) dL_areAlike_198 ?_
        refine J_V1 (as := [.int 1]) (rest := [.int (nI j)]) C NoX.b NoX.f (o_count l G P σ x13 1 (gx13).i (gx13).d) (OW G R σ x14) (fun _ => OW_l2 _ _ _ _ _ _) 1 k382 k383 k384 k10 k385 rfl (by decide +kernel) ⟨Nat.le_of_ble_eq_true rfl, Nat.le_of_ble_eq_true rfl⟩ ⟨Nat.le_of_ble_eq_true rfl, Nat.le_of_ble_eq_true rfl⟩ dL_areAlike_199 (Nat.le_of_ble_eq_true rfl) (OW_0 _ _ _ _) rfl (fun _ _ => ?_)
        refine J_st (st' := [.int (cntF σ x13.2.2.2.1.2.2.2 x13.2.2.2.2.1.2 (1 : Int32).toInt), .int (nI j)]) rfl ?_
        refine J_ws (ws' := OW G P σ x13 ++ OW G R σ x14) rfl ?_
        refine J_i ((by rw [show (1 : Int32).toInt = 1 from by decide] <;> rfl) : (cntF σ x13.2.2.2.1.2.2.2 x13.2.2.2.2.1.2 (1 : Int32).toInt : Int32) = (nI (σ 0 4))) ?_
        refine J_icmp_ge C 254 (by decide) dL_areAlike_202 (fun c202 => ?_) (fun c202 => ?_)
        · skip
          have c202 := cv_ge_t (a := j) (b := (σ 0 4)) (by omega) (by omega) c202
          refine J_iload_n C rfl dL_areAlike_254 ?_
          exact J_zret C hr rfl dL_areAlike_255 (x13, x14) rfl trivial rfl
        · skip
          have c202 := cv_ge_f (a := j) (b := (σ 0 4)) (by omega) (by omega) c202
          refine J_iconst C 0 (by decide) dL_areAlike_205 ?_
          refine J_istore C [(4, .int 0), (0, .ref P.1), (1, .ref R.1), (2, .int 1), (3, .int (nI j))] (by decide) rfl dL_areAlike_206 ?_
          refine J_lvp [1, 2, 3, 4, 0] [(0, .ref P.1), (1, .ref R.1), (2, .int 1), (3, .int (nI j)), (4, .int 0)] rfl ?_
          refine J_loop (fun _ => OW G P σ x13 ++ OW G R σ x14) (fun k => [(0, .ref P.1), (1, .ref R.1), (2, .int 1), (3, .int (nI j)), (4, .int (nI k))]) (fun k => k ≤ 7) (fun k => 7 - k) (fun k hd ihd => ?_) 0 (Nat.zero_le _) rfl rfl
          refine J_iload C rfl dL_areAlike_208 ?_
          refine J_bipush C 7 (by decide) dL_areAlike_210 ?_
          refine J_icmp_ge C 248 (by decide) dL_areAlike_212 (fun c212 => ?_) (fun c212 => ?_)
          · skip
            have c212 := cv_ge_t (a := k) (b := 7) (by omega) (by omega) c212
            refine J_iinc C (nI (j + 1)) [(3, .int (nI (j + 1))), (0, .ref P.1), (1, .ref R.1), (2, .int 1), (4, .int (nI k))] 3 rfl (by first | exact nI_add _ 1 | rfl) (by decide) rfl dL_areAlike_248 ?_
            refine J_goto C 196 (by decide) dL_areAlike_251 ?_
            refine J_lvp [1, 2, 3, 0] [(0, .ref P.1), (1, .ref R.1), (2, .int 1), (3, .int (nI (j + 1)))] rfl ?_
            exact ihc (j + 1) (by omega) (by omega)
          · skip
            have c212 := cv_ge_f (a := k) (b := 7) (by omega) (by omega) c212
            refine J_iload_n C rfl dL_areAlike_215 ?_
            refine J_if_eq C 240 (by decide) dL_areAlike_216 (fun h => absurd h (by decide)) (fun _ => ?_)
            refine J_aload_n C rfl dL_areAlike_219 ?_
            refine J_iload_n C rfl dL_areAlike_220 ?_
            refine J_iload C rfl dL_areAlike_221 ?_
            refine J_V1 (as := [.int (nI j), .int (nI k)]) (rest := []) C NoX.b NoX.f (o_place l G P σ x13 j (nI k) gx13.i gx13.d (by omega)) (OW G R σ x14) (fun _ => OW_l2 _ _ _ _ _ _) 2 k434 k435 k436 k10 k437 rfl (by decide +kernel) ⟨Nat.le_of_ble_eq_true rfl, Nat.le_of_ble_eq_true rfl⟩ ⟨Nat.le_of_ble_eq_true rfl, Nat.le_of_ble_eq_true rfl⟩ dL_areAlike_223 (Nat.le_of_ble_eq_true rfl) (OW_0 _ _ _ _) rfl (fun _ _ => ?_)
            refine J_st (st' := [.int (plF σ j (nI k).toInt)]) rfl ?_
            refine J_ws (ws' := OW G P σ x13 ++ OW G R σ x14) rfl ?_
            refine J_aload_n C rfl dL_areAlike_226 ?_
            refine J_iload_n C rfl dL_areAlike_227 ?_
            refine J_iload C rfl dL_areAlike_228 ?_
            refine J_V2 (as := [.int (nI j), .int (nI k)]) (rest := [.int (plF σ j (nI k).toInt)]) C NoX.b NoX.f (o_place l G R σ x14 j (nI k) gx14.i gx14.d (by omega)) (OW G P σ x13) (fun _ => OW_l2 _ _ _ _ _ _) 2 k434 k435 k436 k10 k437 rfl (by decide +kernel) ⟨Nat.le_of_ble_eq_true rfl, Nat.le_of_ble_eq_true rfl⟩ ⟨Nat.le_of_ble_eq_true rfl, Nat.le_of_ble_eq_true rfl⟩ dL_areAlike_230 (Nat.le_of_ble_eq_true rfl) (OW_0 _ _ _ _) rfl (fun _ _ => ?_)
            refine J_st (st' := [.int (plF σ j (nI k).toInt), .int (plF σ j (nI k).toInt)]) rfl ?_
            refine J_ws (ws' := OW G P σ x13 ++ OW G R σ x14) rfl ?_
            refine J_icmp_ne C 240 (by decide) dL_areAlike_233 (fun h => absurd h (fun q => q rfl)) (fun _ => ?_)
            refine J_iconst C 1 (by decide) dL_areAlike_236 ?_
            refine J_goto C 241 (by decide) dL_areAlike_237 ?_
            refine J_istore_n C [(2, .int 1), (0, .ref P.1), (1, .ref R.1), (3, .int (nI j)), (4, .int (nI k))] (by decide) rfl dL_areAlike_241 ?_
            refine J_iinc C (nI (k + 1)) [(4, .int (nI (k + 1))), (2, .int 1), (0, .ref P.1), (1, .ref R.1), (3, .int (nI j))] 4 rfl (by first | exact nI_add _ 1 | rfl) (by decide) rfl dL_areAlike_242 ?_
            refine J_goto C 208 (by decide) dL_areAlike_245 ?_
            refine J_lvp [2, 3, 1, 4, 0] [(0, .ref P.1), (1, .ref R.1), (2, .int 1), (3, .int (nI j)), (4, .int (nI (k + 1)))] rfl ?_
            exact ihd (k + 1) (by omega) (by omega)
      · skip
        have c134 := cv_ge_f (a := i) (b := 14) (by omega) (by omega) c134
        refine J_iload_n C rfl dL_areAlike_137 ?_
        refine J_if_eq C 186 (by decide) dL_areAlike_138 (fun h => absurd h (by decide)) (fun _ => ?_)
        refine J_aload_n C rfl dL_areAlike_141 ?_
        refine J_iload_n C rfl dL_areAlike_142 ?_
        refine J_iconst C 2 (by decide) dL_areAlike_143 ?_
        refine J_irem C (by decide) dL_areAlike_144 ?_
        refine J_i (pk_rem (a := i) (d := 2) (by omega) (by omega) (by omega) : ((nI i) - (nI i) / 2 * 2 : Int32) = (nI (i % 2))) ?_
        rcases (show i % 2 = 0 ∨ i % 2 = 1 by omega) with hp2 | hp2
        · skip
          refine J_i ((congrArg nI hp2) : (nI (i % 2) : Int32) = 0) ?_
          refine J_iload_n C rfl dL_areAlike_145 ?_
          refine J_iconst C 2 (by decide) dL_areAlike_146 ?_
          refine J_idiv C (by decide) dL_areAlike_147 ?_
          refine J_i (pk_div (a := i) (d := 2) (by omega) (by omega) (by omega) : ((nI i) / 2 : Int32) = (nI (i / 2))) ?_
          refine J_V1 (as := [.int 0, .int (nI (i / 2))]) (rest := []) C NoX.b NoX.f (o_scribe0 l G P σ x13 (nI (i / 2)) gx13.i) (OW G R σ x14) (fun _ => OW_l2 _ _ _ _ _ _) 2 k405 k406 k407 k10 k408 rfl (by decide +kernel) ⟨Nat.le_of_ble_eq_true rfl, Nat.le_of_ble_eq_true rfl⟩ ⟨Nat.le_of_ble_eq_true rfl, Nat.le_of_ble_eq_true rfl⟩ dL_areAlike_148 (Nat.le_of_ble_eq_true rfl) (OW_0 _ _ _ _) rfl (fun _ _ => ?_)
          refine J_st (st' := [.int (scrF σ 0 (nI (i / 2)).toInt)]) rfl ?_
          refine J_ws (ws' := OW G P σ x13 ++ OW G R σ x14) rfl ?_
          refine J_aload_n C rfl dL_areAlike_151 ?_
          refine J_iload_n C rfl dL_areAlike_152 ?_
          refine J_iconst C 2 (by decide) dL_areAlike_153 ?_
          refine J_irem C (by decide) dL_areAlike_154 ?_
          refine J_i (pk_rem (a := i) (d := 2) (by omega) (by omega) (by omega) : ((nI i) - (nI i) / 2 * 2 : Int32) = (nI (i % 2))) ?_
          refine J_i ((congrArg nI hp2) : (nI (i % 2) : Int32) = 0) ?_
          refine J_iload_n C rfl dL_areAlike_155 ?_
          refine J_iconst C 2 (by decide) dL_areAlike_156 ?_
          refine J_idiv C (by decide) dL_areAlike_157 ?_
          refine J_i (pk_div (a := i) (d := 2) (by omega) (by omega) (by omega) : ((nI i) / 2 : Int32) = (nI (i / 2))) ?_
          refine J_V2 (as := [.int 0, .int (nI (i / 2))]) (rest := [.int (scrF σ 0 (nI (i / 2)).toInt)]) C NoX.b NoX.f (o_scribe0 l G R σ x14 (nI (i / 2)) gx14.i) (OW G P σ x13) (fun _ => OW_l2 _ _ _ _ _ _) 2 k405 k406 k407 k10 k408 rfl (by decide +kernel) ⟨Nat.le_of_ble_eq_true rfl, Nat.le_of_ble_eq_true rfl⟩ ⟨Nat.le_of_ble_eq_true rfl, Nat.le_of_ble_eq_true rfl⟩ dL_areAlike_158 (Nat.le_of_ble_eq_true rfl) (OW_0 _ _ _ _) rfl (fun _ _ => ?_)
          refine J_st (st' := [.int (scrF σ 0 (nI (i / 2)).toInt), .int (scrF σ 0 (nI (i / 2)).toInt)]) rfl ?_
          refine J_ws (ws' := OW G P σ x13 ++ OW G R σ x14) rfl ?_
          refine J_icmp_ne C 186 (by decide) dL_areAlike_161 (fun h => absurd h (fun q => q rfl)) (fun _ => ?_)
          refine J_aload_n C rfl dL_areAlike_164 ?_
          refine J_iload_n C rfl dL_areAlike_165 ?_
          refine J_iconst C 5 (by decide) dL_areAlike_166 ?_
          refine J_irem C (by decide) dL_areAlike_167 ?_
          refine J_i (pk_rem (a := i) (d := 5) (by omega) (by omega) (by omega) : ((nI i) - (nI i) / 5 * 5 : Int32) = (nI (i % 5))) ?_
          refine J_V1 (as := [.int (nI (i % 5))]) (rest := []) C NoX.b NoX.f (o_ink l G P σ x13 (nI (i % 5)) gx13.i) (OW G R σ x14) (fun _ => OW_l2 _ _ _ _ _ _) 1 k546 k547 k548 k10 k549 rfl (by decide +kernel) ⟨Nat.le_of_ble_eq_true rfl, Nat.le_of_ble_eq_true rfl⟩ ⟨Nat.le_of_ble_eq_true rfl, Nat.le_of_ble_eq_true rfl⟩ dL_areAlike_168 (Nat.le_of_ble_eq_true rfl) (OW_0 _ _ _ _) rfl (fun _ _ => ?_)
          refine J_st (st' := [.double (inkF σ (nI (i % 5)).toInt)]) rfl ?_
          refine J_ws (ws' := OW G P σ x13 ++ OW G R σ x14) rfl ?_
          obtain ⟨n9, hn9, he9⟩ := ink_dl hI (i := i % 5) (by omega)
          refine J_d (he9 : (inkF σ (nI (i % 5)).toInt : UInt64) = (dl n9)) ?_
          refine J_aload_n C rfl dL_areAlike_171 ?_
          refine J_iload_n C rfl dL_areAlike_172 ?_
          refine J_iconst C 5 (by decide) dL_areAlike_173 ?_
          refine J_irem C (by decide) dL_areAlike_174 ?_
          refine J_i (pk_rem (a := i) (d := 5) (by omega) (by omega) (by omega) : ((nI i) - (nI i) / 5 * 5 : Int32) = (nI (i % 5))) ?_
          refine J_V2 (as := [.int (nI (i % 5))]) (rest := [.double (dl n9)]) C NoX.b NoX.f (o_ink l G R σ x14 (nI (i % 5)) gx14.i) (OW G P σ x13) (fun _ => OW_l2 _ _ _ _ _ _) 1 k546 k547 k548 k10 k549 rfl (by decide +kernel) ⟨Nat.le_of_ble_eq_true rfl, Nat.le_of_ble_eq_true rfl⟩ ⟨Nat.le_of_ble_eq_true rfl, Nat.le_of_ble_eq_true rfl⟩ dL_areAlike_175 (Nat.le_of_ble_eq_true rfl) (OW_0 _ _ _ _) rfl (fun _ _ => ?_)
          refine J_st (st' := [.double (inkF σ (nI (i % 5)).toInt), .double (dl n9)]) rfl ?_
          refine J_ws (ws' := OW G P σ x13 ++ OW G R σ x14) rfl ?_
          refine J_d (he9 : (inkF σ (nI (i % 5)).toInt : UInt64) = (dl n9)) ?_
          refine J_dcmp C dL_areAlike_178 ?_
          refine J_i (((dl_cmp (a := n9) (b := n9) hn9 hn9 _).trans ((if_neg (Nat.lt_irrefl _)).trans (if_pos rfl))) : (Op.cmpValue (FP.dcmp (dl n9) (dl n9)) .l : Int32) = 0) ?_
          refine J_if_ne C 186 (by decide) dL_areAlike_179 (fun h => absurd h (by decide)) (fun _ => ?_)
          refine J_iconst C 1 (by decide) dL_areAlike_182 ?_
          refine J_goto C 187 (by decide) dL_areAlike_183 ?_
          refine J_istore_n C [(2, .int 1), (0, .ref P.1), (1, .ref R.1), (3, .int (nI i))] (by decide) rfl dL_areAlike_187 ?_
          refine J_iinc C (nI (i + 1)) [(3, .int (nI (i + 1))), (2, .int 1), (0, .ref P.1), (1, .ref R.1)] 3 rfl (by first | exact nI_add _ 1 | rfl) (by decide) rfl dL_areAlike_188 ?_
          refine J_goto C 131 (by decide) dL_areAlike_191 ?_
          refine J_lvp [2, 3, 1, 0] [(0, .ref P.1), (1, .ref R.1), (2, .int 1), (3, .int (nI (i + 1)))] rfl ?_
          exact ihb (i + 1) (by omega) (by omega)
        · skip
          refine J_i ((congrArg nI hp2) : (nI (i % 2) : Int32) = 1) ?_
          refine J_iload_n C rfl dL_areAlike_145 ?_
          refine J_iconst C 2 (by decide) dL_areAlike_146 ?_
          refine J_idiv C (by decide) dL_areAlike_147 ?_
          refine J_i (pk_div (a := i) (d := 2) (by omega) (by omega) (by omega) : ((nI i) / 2 : Int32) = (nI (i / 2))) ?_
          refine J_V1 (as := [.int 1, .int (nI (i / 2))]) (rest := []) C NoX.b NoX.f (o_scribe1 l G P σ x13 (nI (i / 2)) gx13.i) (OW G R σ x14) (fun _ => OW_l2 _ _ _ _ _ _) 2 k405 k406 k407 k10 k408 rfl (by decide +kernel) ⟨Nat.le_of_ble_eq_true rfl, Nat.le_of_ble_eq_true rfl⟩ ⟨Nat.le_of_ble_eq_true rfl, Nat.le_of_ble_eq_true rfl⟩ dL_areAlike_148 (Nat.le_of_ble_eq_true rfl) (OW_0 _ _ _ _) rfl (fun _ _ => ?_)
          refine J_st (st' := [.int (scrF σ 1 (nI (i / 2)).toInt)]) rfl ?_
          refine J_ws (ws' := OW G P σ x13 ++ OW G R σ x14) rfl ?_
          refine J_aload_n C rfl dL_areAlike_151 ?_
          refine J_iload_n C rfl dL_areAlike_152 ?_
          refine J_iconst C 2 (by decide) dL_areAlike_153 ?_
          refine J_irem C (by decide) dL_areAlike_154 ?_
          refine J_i (pk_rem (a := i) (d := 2) (by omega) (by omega) (by omega) : ((nI i) - (nI i) / 2 * 2 : Int32) = (nI (i % 2))) ?_
          refine J_i ((congrArg nI hp2) : (nI (i % 2) : Int32) = 1) ?_
          refine J_iload_n C rfl dL_areAlike_155 ?_
          refine J_iconst C 2 (by decide) dL_areAlike_156 ?_
          refine J_idiv C (by decide) dL_areAlike_157 ?_
          refine J_i (pk_div (a := i) (d := 2) (by omega) (by omega) (by omega) : ((nI i) / 2 : Int32) = (nI (i / 2))) ?_
          refine J_V2 (as := [.int 1, .int (nI (i / 2))]) (rest := [.int (scrF σ 1 (nI (i / 2)).toInt)]) C NoX.b NoX.f (o_scribe1 l G R σ x14 (nI (i / 2)) gx14.i) (OW G P σ x13) (fun _ => OW_l2 _ _ _ _ _ _) 2 k405 k406 k407 k10 k408 rfl (by decide +kernel) ⟨Nat.le_of_ble_eq_true rfl, Nat.le_of_ble_eq_true rfl⟩ ⟨Nat.le_of_ble_eq_true rfl, Nat.le_of_ble_eq_true rfl⟩ dL_areAlike_158 (Nat.le_of_ble_eq_true rfl) (OW_0 _ _ _ _) rfl (fun _ _ => ?_)
          refine J_st (st' := [.int (scrF σ 1 (nI (i / 2)).toInt), .int (scrF σ 1 (nI (i / 2)).toInt)]) rfl ?_
          refine J_ws (ws' := OW G P σ x13 ++ OW G R σ x14) rfl ?_
          refine J_icmp_ne C 186 (by decide) dL_areAlike_161 (fun h => absurd h (fun q => q rfl)) (fun _ => ?_)
          refine J_aload_n C rfl dL_areAlike_164 ?_
          refine J_iload_n C rfl dL_areAlike_165 ?_
          refine J_iconst C 5 (by decide) dL_areAlike_166 ?_
          refine J_irem C (by decide) dL_areAlike_167 ?_
          refine J_i (pk_rem (a := i) (d := 5) (by omega) (by omega) (by omega) : ((nI i) - (nI i) / 5 * 5 : Int32) = (nI (i % 5))) ?_
          refine J_V1 (as := [.int (nI (i % 5))]) (rest := []) C NoX.b NoX.f (o_ink l G P σ x13 (nI (i % 5)) gx13.i) (OW G R σ x14) (fun _ => OW_l2 _ _ _ _ _ _) 1 k546 k547 k548 k10 k549 rfl (by decide +kernel) ⟨Nat.le_of_ble_eq_true rfl, Nat.le_of_ble_eq_true rfl⟩ ⟨Nat.le_of_ble_eq_true rfl, Nat.le_of_ble_eq_true rfl⟩ dL_areAlike_168 (Nat.le_of_ble_eq_true rfl) (OW_0 _ _ _ _) rfl (fun _ _ => ?_)
          refine J_st (st' := [.double (inkF σ (nI (i % 5)).toInt)]) rfl ?_
          refine J_ws (ws' := OW G P σ x13 ++ OW G R σ x14) rfl ?_
          obtain ⟨n9, hn9, he9⟩ := ink_dl hI (i := i % 5) (by omega)
          refine J_d (he9 : (inkF σ (nI (i % 5)).toInt : UInt64) = (dl n9)) ?_
          refine J_aload_n C rfl dL_areAlike_171 ?_
          refine J_iload_n C rfl dL_areAlike_172 ?_
          refine J_iconst C 5 (by decide) dL_areAlike_173 ?_
          refine J_irem C (by decide) dL_areAlike_174 ?_
          refine J_i (pk_rem (a := i) (d := 5) (by omega) (by omega) (by omega) : ((nI i) - (nI i) / 5 * 5 : Int32) = (nI (i % 5))) ?_
          refine J_V2 (as := [.int (nI (i % 5))]) (rest := [.double (dl n9)]) C NoX.b NoX.f (o_ink l G R σ x14 (nI (i % 5)) gx14.i) (OW G P σ x13) (fun _ => OW_l2 _ _ _ _ _ _) 1 k546 k547 k548 k10 k549 rfl (by decide +kernel) ⟨Nat.le_of_ble_eq_true rfl, Nat.le_of_ble_eq_true rfl⟩ ⟨Nat.le_of_ble_eq_true rfl, Nat.le_of_ble_eq_true rfl⟩ dL_areAlike_175 (Nat.le_of_ble_eq_true rfl) (OW_0 _ _ _ _) rfl (fun _ _ => ?_)
          refine J_st (st' := [.double (inkF σ (nI (i % 5)).toInt), .double (dl n9)]) rfl ?_
          refine J_ws (ws' := OW G P σ x13 ++ OW G R σ x14) rfl ?_
          refine J_d (he9 : (inkF σ (nI (i % 5)).toInt : UInt64) = (dl n9)) ?_
          refine J_dcmp C dL_areAlike_178 ?_
          refine J_i (((dl_cmp (a := n9) (b := n9) hn9 hn9 _).trans ((if_neg (Nat.lt_irrefl _)).trans (if_pos rfl))) : (Op.cmpValue (FP.dcmp (dl n9) (dl n9)) .l : Int32) = 0) ?_
          refine J_if_ne C 186 (by decide) dL_areAlike_179 (fun h => absurd h (by decide)) (fun _ => ?_)
          refine J_iconst C 1 (by decide) dL_areAlike_182 ?_
          refine J_goto C 187 (by decide) dL_areAlike_183 ?_
          refine J_istore_n C [(2, .int 1), (0, .ref P.1), (1, .ref R.1), (3, .int (nI i))] (by decide) rfl dL_areAlike_187 ?_
          refine J_iinc C (nI (i + 1)) [(3, .int (nI (i + 1))), (2, .int 1), (0, .ref P.1), (1, .ref R.1)] 3 rfl (by first | exact nI_add _ 1 | rfl) (by decide) rfl dL_areAlike_188 ?_
          refine J_goto C 131 (by decide) dL_areAlike_191 ?_
          refine J_lvp [2, 3, 1, 0] [(0, .ref P.1), (1, .ref R.1), (2, .int 1), (3, .int (nI (i + 1)))] rfl ?_
          exact ihb (i + 1) (by omega) (by omega)
    · skip
      have c97 := cv_ge_f (a := i) (b := 12) (by omega) (by omega) c97
      refine J_iload_n C rfl dL_areAlike_100 ?_
      refine J_if_eq C 121 (by decide) dL_areAlike_101 (fun h => absurd h (by decide)) (fun _ => ?_)
      refine J_aload_n C rfl dL_areAlike_104 ?_
      refine J_iload_n C rfl dL_areAlike_105 ?_
      refine J_V1 (as := [.int (nI i)]) (rest := []) C NoX.b NoX.f (o_count l G P σ x13 (nI i) gx13.i gx13.d) (OW G R σ x14) (fun _ => OW_l2 _ _ _ _ _ _) 1 k382 k383 k384 k10 k385 rfl (by decide +kernel) ⟨Nat.le_of_ble_eq_true rfl, Nat.le_of_ble_eq_true rfl⟩ ⟨Nat.le_of_ble_eq_true rfl, Nat.le_of_ble_eq_true rfl⟩ dL_areAlike_106 (Nat.le_of_ble_eq_true rfl) (OW_0 _ _ _ _) rfl (fun _ _ => ?_)
      refine J_st (st' := [.int (cntF σ x13.2.2.2.1.2.2.2 x13.2.2.2.2.1.2 (nI i).toInt)]) rfl ?_
      refine J_ws (ws' := OW G P σ x13 ++ OW G R σ x14) rfl ?_
      refine J_aload_n C rfl dL_areAlike_109 ?_
      refine J_iload_n C rfl dL_areAlike_110 ?_
      refine J_V2 (as := [.int (nI i)]) (rest := [.int (cntF σ x13.2.2.2.1.2.2.2 x13.2.2.2.2.1.2 (nI i).toInt)]) C NoX.b NoX.f (o_count l G R σ x14 (nI i) gx14.i gx14.d) (OW G P σ x13) (fun _ => OW_l2 _ _ _ _ _ _) 1 k382 k383 k384 k10 k385 rfl (by decide +kernel) ⟨Nat.le_of_ble_eq_true rfl, Nat.le_of_ble_eq_true rfl⟩ ⟨Nat.le_of_ble_eq_true rfl, Nat.le_of_ble_eq_true rfl⟩ dL_areAlike_111 (Nat.le_of_ble_eq_true rfl) (OW_0 _ _ _ _) rfl (fun _ _ => ?_)
      refine J_st (st' := [.int (cntF σ x14.2.2.2.1.2.2.2 x14.2.2.2.2.1.2 (nI i).toInt), .int (cntF σ x13.2.2.2.1.2.2.2 x13.2.2.2.2.1.2 (nI i).toInt)]) rfl ?_
      refine J_ws (ws' := OW G P σ x13 ++ OW G R σ x14) rfl ?_
      refine J_icmp_ne C 121 (by decide) dL_areAlike_114 (fun h => absurd h (fun q => q (cnt_eq σ _ _ _ _ (by omega)))) (fun _ => ?_)
      refine J_iconst C 1 (by decide) dL_areAlike_117 ?_
      refine J_goto C 122 (by decide) dL_areAlike_118 ?_
      refine J_istore_n C [(2, .int 1), (0, .ref P.1), (1, .ref R.1), (3, .int (nI i))] (by decide) rfl dL_areAlike_122 ?_
      refine J_iinc C (nI (i + 1)) [(3, .int (nI (i + 1))), (2, .int 1), (0, .ref P.1), (1, .ref R.1)] 3 rfl (by first | exact nI_add _ 1 | rfl) (by decide) rfl dL_areAlike_123 ?_
      refine J_goto C 94 (by decide) dL_areAlike_126 ?_
      refine J_lvp [2, 3, 1, 0] [(0, .ref P.1), (1, .ref R.1), (2, .int 1), (3, .int (nI (i + 1)))] rfl ?_
      exact iha (i + 1) (by omega) (by omega)
