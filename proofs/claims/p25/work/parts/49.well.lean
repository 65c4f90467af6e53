set_option maxHeartbeats 4000000 in
set_option maxRecDepth 100000 in
theorem ct_isWell (l : Launch) (G : GT) (P : AD) (σ : AS) (x : OS) (r : Nat) (hg : GV r σ x.1) (hV : VO x) : Ct (S := OS) l G NoX yL_isWell (Wy yL_isWell cL_isWell 9 ((Option.some Jvm.ClassFile.FieldType.boolean))) { frames := 7, cells := 0, slots := 0, locals := 200 } [.ref P.1] (OW G P σ x) (fun u => VO u ∧ KO x u) (fun u => some (.int 1)) (fun u => OW G P σ u) := by
  refine Ct.of (by decide) (Nat.le_of_ble_eq_true rfl) (fun p e s m args below meth c C hr hnm hX => ?_)
  have hI := hg.i
  have h40 := hI.a
  have hs := hI.s
  have hi := hI.i
  have hc := hI.c
  have hun := unl_two hI
  have hwr := wr_all hI
  have hnd := nd_le hI _ (Nat.le_refl _)
  refine J_aload_n C rfl dL_isWell_0 ?_
  refine J_iconst C 1 (by decide) dL_isWell_1 ?_
  refine J_V0 (as := [.int 1]) (rest := []) C NoX.b NoX.f (o_count l G P σ x 1 (hg).i (hg).d) (fun _ => OW_l2 _ _ _ _ _ _) 1 k382 k383 k384 k10 k385 rfl (by decide +kernel) ⟨Nat.le_of_ble_eq_true rfl, Nat.le_of_ble_eq_true rfl⟩ ⟨Nat.le_of_ble_eq_true rfl, Nat.le_of_ble_eq_true rfl⟩ dL_isWell_2 (Nat.le_of_ble_eq_true rfl) (OW_0 _ _ _ _) rfl (fun _ _ => ?_)
  refine J_st (st' := [.int (cntF σ x.2.2.2.1.2.2.2 x.2.2.2.2.1.2 (1 : Int32).toInt)]) rfl ?_
  refine J_ws (ws' := OW G P σ x) rfl ?_
  refine J_i ((by rw [show (1 : Int32).toInt = 1 from by decide] <;> rfl) : (cntF σ x.2.2.2.1.2.2.2 x.2.2.2.2.1.2 (1 : Int32).toInt : Int32) = (nI (σ 0 4))) ?_
  refine J_istore_n C [(1, .int (nI (σ 0 4))), (0, .ref P.1)] (by decide) rfl dL_isWell_5 ?_
  refine J_iconst C 0 (by decide) dL_isWell_6 ?_
  refine J_istore_n C [(2, .int 0), (1, .int (nI (σ 0 4))), (0, .ref P.1)] (by decide) rfl dL_isWell_7 ?_
  refine J_iconst C 0 (by decide) dL_isWell_8 ?_
  refine J_istore_n C [(3, .int 0), (2, .int 0), (1, .int (nI (σ 0 4))), (0, .ref P.1)] (by decide) rfl dL_isWell_9 ?_
  refine J_iconst C 0 (by decide) dL_isWell_10 ?_
  refine J_istore C [(4, .int 0), (3, .int 0), (2, .int 0), (1, .int (nI (σ 0 4))), (0, .ref P.1)] (by decide) rfl dL_isWell_11 ?_
  refine J_iconst C 0 (by decide) dL_isWell_13 ?_
  refine J_istore C [(5, .int 0), (4, .int 0), (3, .int 0), (2, .int 0), (1, .int (nI (σ 0 4))), (0, .ref P.1)] (by decide) rfl dL_isWell_14 ?_
  refine J_aload_n C rfl dL_isWell_16 ?_
  refine J_iconst C 0 (by decide) dL_isWell_17 ?_
  refine J_V0 (as := [.int 0]) (rest := []) C NoX.b NoX.f (o_ink l G P σ x 0 (hg).i) (fun _ => OW_l2 _ _ _ _ _ _) 1 k546 k547 k548 k10 k549 rfl (by decide +kernel) ⟨Nat.le_of_ble_eq_true rfl, Nat.le_of_ble_eq_true rfl⟩ ⟨Nat.le_of_ble_eq_true rfl, Nat.le_of_ble_eq_true rfl⟩ dL_isWell_18 (Nat.le_of_ble_eq_true rfl) (OW_0 _ _ _ _) rfl (fun _ _ => ?_)
  refine J_st (st' := [.double (inkF σ (0 : Int32).toInt)]) rfl ?_
  refine J_ws (ws' := OW G P σ x) rfl ?_
  refine J_d ((by rw [show (0 : Int32).toInt = 0 from by decide] <;> rfl) : (inkF σ (0 : Int32).toInt : UInt64) = (dl (σ 0 24))) ?_
  refine J_aload_n C rfl dL_isWell_21 ?_
  refine J_iconst C 1 (by decide) dL_isWell_22 ?_
  refine J_V0 (as := [.int 1]) (rest := [.double (dl (σ 0 24))]) C NoX.b NoX.f (o_ink l G P σ x 1 (hg).i) (fun _ => OW_l2 _ _ _ _ _ _) 1 k546 k547 k548 k10 k549 rfl (by decide +kernel) ⟨Nat.le_of_ble_eq_true rfl, Nat.le_of_ble_eq_true rfl⟩ ⟨Nat.le_of_ble_eq_true rfl, Nat.le_of_ble_eq_true rfl⟩ dL_isWell_23 (Nat.le_of_ble_eq_true rfl) (OW_0 _ _ _ _) rfl (fun _ _ => ?_)
  refine J_st (st' := [.double (inkF σ (1 : Int32).toInt), .double (dl (σ 0 24))]) rfl ?_
  refine J_ws (ws' := OW G P σ x) rfl ?_
  refine J_d ((by rw [show (1 : Int32).toInt = 1 from by decide] <;> rfl) : (inkF σ (1 : Int32).toInt : UInt64) = (dl (σ 0 25))) ?_
  refine J_dadd C (by rw [dl_add (a := σ 0 24) (b := σ 0 25) (by omega)]; exact dl_num (by omega)) dL_isWell_26 ?_
  refine J_d (dl_add (a := σ 0 24) (b := σ 0 25) (by omega) : (FP.dadd (dl (σ 0 24)) (dl (σ 0 25)) : UInt64) = (dl (σ 0 24 + σ 0 25))) ?_
  refine J_aload_n C rfl dL_isWell_27 ?_
  refine J_iconst C 2 (by decide) dL_isWell_28 ?_
  refine J_V0 (as := [.int 2]) (rest := [.double (dl (σ 0 24 + σ 0 25))]) C NoX.b NoX.f (o_ink l G P σ x 2 (hg).i) (fun _ => OW_l2 _ _ _ _ _ _) 1 k546 k547 k548 k10 k549 rfl (by decide +kernel) ⟨Nat.le_of_ble_eq_true rfl, Nat.le_of_ble_eq_true rfl⟩ ⟨Nat.le_of_ble_eq_true rfl, Nat.le_of_ble_eq_true rfl⟩ dL_isWell_29 (Nat.le_of_ble_eq_true rfl) (OW_0 _ _ _ _) rfl (fun _ _ => ?_)
  refine J_st (st' := [.double (inkF σ (2 : Int32).toInt), .double (dl (σ 0 24 + σ 0 25))]) rfl ?_
  refine J_ws (ws' := OW G P σ x) rfl ?_
  refine J_d ((by rw [show (2 : Int32).toInt = 2 from by decide] <;> rfl) : (inkF σ (2 : Int32).toInt : UInt64) = (dl (σ 0 6))) ?_
  refine J_dadd C (by rw [dl_add (a := σ 0 24 + σ 0 25) (b := σ 0 6) (by omega)]; exact dl_num (by omega)) dL_isWell_32 ?_
  refine J_d (dl_add (a := σ 0 24 + σ 0 25) (b := σ 0 6) (by omega) : (FP.dadd (dl (σ 0 24 + σ 0 25)) (dl (σ 0 6)) : UInt64) = (dl (σ 0 24 + σ 0 25 + σ 0 6))) ?_
  refine J_aload_n C rfl dL_isWell_33 ?_
  refine J_iconst C 3 (by decide) dL_isWell_34 ?_
  refine J_V0 (as := [.int 3]) (rest := [.double (dl (σ 0 24 + σ 0 25 + σ 0 6))]) C NoX.b NoX.f (o_ink l G P σ x 3 (hg).i) (fun _ => OW_l2 _ _ _ _ _ _) 1 k546 k547 k548 k10 k549 rfl (by decide +kernel) ⟨Nat.le_of_ble_eq_true rfl, Nat.le_of_ble_eq_true rfl⟩ ⟨Nat.le_of_ble_eq_true rfl, Nat.le_of_ble_eq_true rfl⟩ dL_isWell_35 (Nat.le_of_ble_eq_true rfl) (OW_0 _ _ _ _) rfl (fun _ _ => ?_)
  refine J_st (st' := [.double (inkF σ (3 : Int32).toInt), .double (dl (σ 0 24 + σ 0 25 + σ 0 6))]) rfl ?_
  refine J_ws (ws' := OW G P σ x) rfl ?_
  refine J_d ((by rw [show (3 : Int32).toInt = 3 from by decide] <;> rfl) : (inkF σ (3 : Int32).toInt : UInt64) = (dl (σ 0 7))) ?_
  refine J_dadd C (by rw [dl_add (a := σ 0 24 + σ 0 25 + σ 0 6) (b := σ 0 7) (by omega)]; exact dl_num (by omega)) dL_isWell_38 ?_
  refine J_d (dl_add (a := σ 0 24 + σ 0 25 + σ 0 6) (b := σ 0 7) (by omega) : (FP.dadd (dl (σ 0 24 + σ 0 25 + σ 0 6)) (dl (σ 0 7)) : UInt64) = (dl (σ 0 24 + σ 0 25 + σ 0 6 + σ 0 7))) ?_
  refine J_aload_n C rfl dL_isWell_39 ?_
  refine J_iconst C 4 (by decide) dL_isWell_40 ?_
  refine J_V0 (as := [.int 4]) (rest := [.double (dl (σ 0 24 + σ 0 25 + σ 0 6 + σ 0 7))]) C NoX.b NoX.f (o_ink l G P σ x 4 (hg).i) (fun _ => OW_l2 _ _ _ _ _ _) 1 k546 k547 k548 k10 k549 rfl (by decide +kernel) ⟨Nat.le_of_ble_eq_true rfl, Nat.le_of_ble_eq_true rfl⟩ ⟨Nat.le_of_ble_eq_true rfl, Nat.le_of_ble_eq_true rfl⟩ dL_isWell_41 (Nat.le_of_ble_eq_true rfl) (OW_0 _ _ _ _) rfl (fun _ _ => ?_)
  refine J_st (st' := [.double (inkF σ (4 : Int32).toInt), .double (dl (σ 0 24 + σ 0 25 + σ 0 6 + σ 0 7))]) rfl ?_
  refine J_ws (ws' := OW G P σ x) rfl ?_
  refine J_d ((by rw [show (4 : Int32).toInt = 4 from by decide] <;> rfl) : (inkF σ (4 : Int32).toInt : UInt64) = (dl (σ 0 8))) ?_
  refine J_dadd C (by rw [dl_add (a := σ 0 24 + σ 0 25 + σ 0 6 + σ 0 7) (b := σ 0 8) (by omega)]; exact dl_num (by omega)) dL_isWell_44 ?_
  refine J_d (dl_add (a := σ 0 24 + σ 0 25 + σ 0 6 + σ 0 7) (b := σ 0 8) (by omega) : (FP.dadd (dl (σ 0 24 + σ 0 25 + σ 0 6 + σ 0 7)) (dl (σ 0 8)) : UInt64) = (dl (σ 0 24 + σ 0 25 + σ 0 6 + σ 0 7 + σ 0 8))) ?_
  refine J_ldc2d C k554 dL_isWell_45 ?_
  refine J_d (dl_256 : (4616189618054758400 : UInt64) = (dl 256)) ?_
  refine J_aload_n C rfl dL_isWell_48 ?_
  refine J_bipush C 8 (by decide) dL_isWell_49 ?_
  refine J_V0 (as := [.int 8]) (rest := [.double (dl 256), .double (dl (σ 0 24 + σ 0 25 + σ 0 6 + σ 0 7 + σ 0 8))]) C NoX.b NoX.f (o_count l G P σ x 8 (hg).i (hg).d) (fun _ => OW_l2 _ _ _ _ _ _) 1 k382 k383 k384 k10 k385 rfl (by decide +kernel) ⟨Nat.le_of_ble_eq_true rfl, Nat.le_of_ble_eq_true rfl⟩ ⟨Nat.le_of_ble_eq_true rfl, Nat.le_of_ble_eq_true rfl⟩ dL_isWell_51 (Nat.le_of_ble_eq_true rfl) (OW_0 _ _ _ _) rfl (fun _ _ => ?_)
  refine J_st (st' := [.int (cntF σ x.2.2.2.1.2.2.2 x.2.2.2.2.1.2 (8 : Int32).toInt), .double (dl 256), .double (dl (σ 0 24 + σ 0 25 + σ 0 6 + σ 0 7 + σ 0 8))]) rfl ?_
  refine J_ws (ws' := OW G P σ x) rfl ?_
  refine J_i ((by rw [show (8 : Int32).toInt = 8 from by decide] <;> rfl) : (cntF σ x.2.2.2.1.2.2.2 x.2.2.2.2.1.2 (8 : Int32).toInt : Int32) = (nI (σ 0 11))) ?_
  refine J_bipush C 8 (by decide) dL_isWell_54 ?_
  refine J_imul C dL_isWell_56 ?_
  refine J_i (pk_mul (σ 0 11) 8 : ((nI (σ 0 11)) * 8 : Int32) = (nI ((σ 0 11) * 8))) ?_
  refine J_i2d C dL_isWell_57 ?_
  refine J_ldc2d C k555 dL_isWell_58 ?_
  refine J_ddiv C (by rw [dl_div (n := (σ 0 11) * 8) (by omega)]; exact dl_num (by omega)) dL_isWell_61 ?_
  refine J_d (dl_div (n := (σ 0 11) * 8) (by omega) : (FP.ddiv (FP.i2d (nI ((σ 0 11) * 8))) 4634204016564240384 : UInt64) = (dl ((σ 0 11) * 8))) ?_
  refine J_dadd C (by rw [dl_add (a := 256) (b := (σ 0 11) * 8) (by omega)]; exact dl_num (by omega)) dL_isWell_62 ?_
  refine J_d (dl_add (a := 256) (b := (σ 0 11) * 8) (by omega) : (FP.dadd (dl 256) (dl ((σ 0 11) * 8)) : UInt64) = (dl (256 + ((σ 0 11) * 8)))) ?_
  refine J_dcmp C dL_isWell_63 ?_
  refine J_i (((dl_cmp (a := σ 0 24 + σ 0 25 + σ 0 6 + σ 0 7 + σ 0 8) (b := 256 + ((σ 0 11) * 8)) (by omega) (by omega) _).trans ((if_neg (by omega)).trans (if_pos (by omega)))) : (Op.cmpValue (FP.dcmp (dl (σ 0 24 + σ 0 25 + σ 0 6 + σ 0 7 + σ 0 8)) (dl (256 + ((σ 0 11) * 8)))) .l : Int32) = 0) ?_
  refine J_if_ne C 132 (by decide) dL_isWell_64 (fun h => absurd h (by decide)) (fun _ => ?_)
  refine J_aload_n C rfl dL_isWell_67 ?_
  refine J_iconst C 0 (by decide) dL_isWell_68 ?_
  refine J_V0 (as := [.int 0]) (rest := []) C NoX.b NoX.f (o_ink l G P σ x 0 (hg).i) (fun _ => OW_l2 _ _ _ _ _ _) 1 k546 k547 k548 k10 k549 rfl (by decide +kernel) ⟨Nat.le_of_ble_eq_true rfl, Nat.le_of_ble_eq_true rfl⟩ ⟨Nat.le_of_ble_eq_true rfl, Nat.le_of_ble_eq_true rfl⟩ dL_isWell_69 (Nat.le_of_ble_eq_true rfl) (OW_0 _ _ _ _) rfl (fun _ _ => ?_)
  refine J_st (st' := [.double (inkF σ (0 : Int32).toInt)]) rfl ?_
  refine J_ws (ws' := OW G P σ x) rfl ?_
  refine J_d ((by rw [show (0 : Int32).toInt = 0 from by decide] <;> rfl) : (inkF σ (0 : Int32).toInt : UInt64) = (dl (σ 0 24))) ?_
  refine J_dconst1 C dL_isWell_72 ?_
  refine J_d (dl_64 : (FP.dconst1 : UInt64) = (dl 64)) ?_
  refine J_dcmp C dL_isWell_73 ?_
  refine J_i (dt_cmp (t := 6) (a := σ 0 24) (b := 64) (by omega) (by omega) (by omega) _ : (Op.cmpValue (FP.dcmp (dl (σ 0 24)) (dl 64)) .g : Int32) = (if (σ 0 24) < 64 then -1 else if (σ 0 24) = 64 then 0 else 1)) ?_
  refine J_if_gt C 132 (by decide) dL_isWell_74 (fun h => absurd h (fcv_gt_no (by omega))) (fun _ => ?_)
  refine J_aload_n C rfl dL_isWell_77 ?_
  refine J_iconst C 1 (by decide) dL_isWell_78 ?_
  refine J_V0 (as := [.int 1]) (rest := []) C NoX.b NoX.f (o_ink l G P σ x 1 (hg).i) (fun _ => OW_l2 _ _ _ _ _ _) 1 k546 k547 k548 k10 k549 rfl (by decide +kernel) ⟨Nat.le_of_ble_eq_true rfl, Nat.le_of_ble_eq_true rfl⟩ ⟨Nat.le_of_ble_eq_true rfl, Nat.le_of_ble_eq_true rfl⟩ dL_isWell_79 (Nat.le_of_ble_eq_true rfl) (OW_0 _ _ _ _) rfl (fun _ _ => ?_)
  refine J_st (st' := [.double (inkF σ (1 : Int32).toInt)]) rfl ?_
  refine J_ws (ws' := OW G P σ x) rfl ?_
  refine J_d ((by rw [show (1 : Int32).toInt = 1 from by decide] <;> rfl) : (inkF σ (1 : Int32).toInt : UInt64) = (dl (σ 0 25))) ?_
  refine J_dconst1 C dL_isWell_82 ?_
  refine J_d (dl_64 : (FP.dconst1 : UInt64) = (dl 64)) ?_
  refine J_dcmp C dL_isWell_83 ?_
  refine J_i (dt_cmp (t := 6) (a := σ 0 25) (b := 64) (by omega) (by omega) (by omega) _ : (Op.cmpValue (FP.dcmp (dl (σ 0 25)) (dl 64)) .g : Int32) = (if (σ 0 25) < 64 then -1 else if (σ 0 25) = 64 then 0 else 1)) ?_
  refine J_if_gt C 132 (by decide) dL_isWell_84 (fun h => absurd h (fcv_gt_no (by omega))) (fun _ => ?_)
  refine J_aload_n C rfl dL_isWell_87 ?_
  refine J_iconst C 0 (by decide) dL_isWell_88 ?_
  refine J_V0 (as := [.int 0]) (rest := []) C NoX.b NoX.f (o_ink l G P σ x 0 (hg).i) (fun _ => OW_l2 _ _ _ _ _ _) 1 k546 k547 k548 k10 k549 rfl (by decide +kernel) ⟨Nat.le_of_ble_eq_true rfl, Nat.le_of_ble_eq_true rfl⟩ ⟨Nat.le_of_ble_eq_true rfl, Nat.le_of_ble_eq_true rfl⟩ dL_isWell_89 (Nat.le_of_ble_eq_true rfl) (OW_0 _ _ _ _) rfl (fun _ _ => ?_)
  refine J_st (st' := [.double (inkF σ (0 : Int32).toInt)]) rfl ?_
  refine J_ws (ws' := OW G P σ x) rfl ?_
  refine J_d ((by rw [show (0 : Int32).toInt = 0 from by decide] <;> rfl) : (inkF σ (0 : Int32).toInt : UInt64) = (dl (σ 0 24))) ?_
  refine J_dconst0 C dL_isWell_92 ?_
  refine J_d (dl_0 : (FP.dconst0 : UInt64) = (dl 0)) ?_
  refine J_dcmp C dL_isWell_93 ?_
  refine J_i (dt_cmp (t := 6) (a := σ 0 24) (b := 0) (by omega) (by omega) (by omega) _ : (Op.cmpValue (FP.dcmp (dl (σ 0 24)) (dl 0)) .l : Int32) = (if (σ 0 24) < 0 then -1 else if (σ 0 24) = 0 then 0 else 1)) ?_
  refine J_if_lt C 132 (by decide) dL_isWell_94 (fun h => absurd h (fcv_lt_no (Nat.zero_le _))) (fun _ => ?_)
  refine J_aload_n C rfl dL_isWell_97 ?_
  refine J_iconst C 1 (by decide) dL_isWell_98 ?_
  refine J_V0 (as := [.int 1]) (rest := []) C NoX.b NoX.f (o_ink l G P σ x 1 (hg).i) (fun _ => OW_l2 _ _ _ _ _ _) 1 k546 k547 k548 k10 k549 rfl (by decide +kernel) ⟨Nat.le_of_ble_eq_true rfl, Nat.le_of_ble_eq_true rfl⟩ ⟨Nat.le_of_ble_eq_true rfl, Nat.le_of_ble_eq_true rfl⟩ dL_isWell_99 (Nat.le_of_ble_eq_true rfl) (OW_0 _ _ _ _) rfl (fun _ _ => ?_)
  refine J_st (st' := [.double (inkF σ (1 : Int32).toInt)]) rfl ?_
  refine J_ws (ws' := OW G P σ x) rfl ?_
  refine J_d ((by rw [show (1 : Int32).toInt = 1 from by decide] <;> rfl) : (inkF σ (1 : Int32).toInt : UInt64) = (dl (σ 0 25))) ?_
  refine J_dconst0 C dL_isWell_102 ?_
  refine J_d (dl_0 : (FP.dconst0 : UInt64) = (dl 0)) ?_
  refine J_dcmp C dL_isWell_103 ?_
  refine J_i (dt_cmp (t := 6) (a := σ 0 25) (b := 0) (by omega) (by omega) (by omega) _ : (Op.cmpValue (FP.dcmp (dl (σ 0 25)) (dl 0)) .l : Int32) = (if (σ 0 25) < 0 then -1 else if (σ 0 25) = 0 then 0 else 1)) ?_
  refine J_if_lt C 132 (by decide) dL_isWell_104 (fun h => absurd h (fcv_lt_no (Nat.zero_le _))) (fun _ => ?_)
  refine J_aload_n C rfl dL_isWell_107 ?_
  refine J_iconst C 2 (by decide) dL_isWell_108 ?_
  refine J_V0 (as := [.int 2]) (rest := []) C NoX.b NoX.f (o_ink l G P σ x 2 (hg).i) (fun _ => OW_l2 _ _ _ _ _ _) 1 k546 k547 k548 k10 k549 rfl (by decide +kernel) ⟨Nat.le_of_ble_eq_true rfl, Nat.le_of_ble_eq_true rfl⟩ ⟨Nat.le_of_ble_eq_true rfl, Nat.le_of_ble_eq_true rfl⟩ dL_isWell_109 (Nat.le_of_ble_eq_true rfl) (OW_0 _ _ _ _) rfl (fun _ _ => ?_)
  refine J_st (st' := [.double (inkF σ (2 : Int32).toInt)]) rfl ?_
  refine J_ws (ws' := OW G P σ x) rfl ?_
  refine J_d ((by rw [show (2 : Int32).toInt = 2 from by decide] <;> rfl) : (inkF σ (2 : Int32).toInt : UInt64) = (dl (σ 0 6))) ?_
  refine J_dconst0 C dL_isWell_112 ?_
  refine J_d (dl_0 : (FP.dconst0 : UInt64) = (dl 0)) ?_
  refine J_dcmp C dL_isWell_113 ?_
  refine J_i (dt_cmp (t := 6) (a := σ 0 6) (b := 0) (by omega) (by omega) (by omega) _ : (Op.cmpValue (FP.dcmp (dl (σ 0 6)) (dl 0)) .l : Int32) = (if (σ 0 6) < 0 then -1 else if (σ 0 6) = 0 then 0 else 1)) ?_
  refine J_if_lt C 132 (by decide) dL_isWell_114 (fun h => absurd h (fcv_lt_no (Nat.zero_le _))) (fun _ => ?_)
  refine J_aload_n C rfl dL_isWell_117 ?_
  refine J_V0 (as := []) (rest := []) C NoX.b NoX.f (o_unlike l G P σ x (hg).i) (fun _ => OW_l2 _ _ _ _ _ _) 0 k527 k528 k529 k10 k530 rfl (by decide +kernel) ⟨Nat.le_of_ble_eq_true rfl, Nat.le_of_ble_eq_true rfl⟩ ⟨Nat.le_of_ble_eq_true rfl, Nat.le_of_ble_eq_true rfl⟩ dL_isWell_118 (Nat.le_of_ble_eq_true rfl) (OW_0 _ _ _ _) rfl (fun _ _ => ?_)
  refine J_st (st' := [.int (nI (sumN (unl σ) (σ 0 4 / 2)))]) rfl ?_
  refine J_ws (ws' := OW G P σ x) rfl ?_
  refine J_aload_n C rfl dL_isWell_121 ?_
  refine J_V0 (as := []) (rest := [.int (nI (sumN (unl σ) (σ 0 4 / 2)))]) C NoX.b NoX.f (o_unread l G P σ x (hg).i) (fun _ => OW_l2 _ _ _ _ _ _) 0 k556 k557 k558 k10 k559 rfl (by decide +kernel) ⟨Nat.le_of_ble_eq_true rfl, Nat.le_of_ble_eq_true rfl⟩ ⟨Nat.le_of_ble_eq_true rfl, Nat.le_of_ble_eq_true rfl⟩ dL_isWell_122 (Nat.le_of_ble_eq_true rfl) (OW_0 _ _ _ _) rfl (fun _ _ => ?_)
  refine J_st (st' := [.int (nI (sumN (unl σ) (σ 0 4) / 2)), .int (nI (sumN (unl σ) (σ 0 4 / 2)))]) rfl ?_
  refine J_ws (ws' := OW G P σ x) rfl ?_
  refine J_icmp_ne C 132 (by decide) dL_isWell_125 (fun h => absurd h (fun q => q (congrArg nI hun))) (fun _ => ?_)
  refine J_iconst C 1 (by decide) dL_isWell_128 ?_
  refine J_goto C 133 (by decide) dL_isWell_129 ?_
  refine J_istore C [(6, .int 1), (5, .int 0), (4, .int 0), (3, .int 0), (2, .int 0), (1, .int (nI (σ 0 4))), (0, .ref P.1)] (by decide) rfl dL_isWell_133 ?_
  refine J_iconst C 0 (by decide) dL_isWell_135 ?_
  refine J_istore C [(7, .int 0), (6, .int 1), (5, .int 0), (4, .int 0), (3, .int 0), (2, .int 0), (1, .int (nI (σ 0 4))), (0, .ref P.1)] (by decide) rfl dL_isWell_136 ?_
  refine J_lvp [7, 6, 5, 4, 3, 2, 1, 0] [(0, .ref P.1), (1, .int (nI (σ 0 4))), (2, .int 0), (3, .int 0), (4, .int 0), (5, .int 0), (6, .int 1), (7, .int 0)] rfl ?_
  refine J_loop (fun _ => OW G P σ x) (fun i => [(0, .ref P.1), (1, .int (nI (σ 0 4))), (2, .int (nI (sumN (wrF σ) i))), (3, .int (nI (sumN (fun q => σ 4 q) i))), (4, .int (nI (sumN (notDue σ) i))), (5, .int (nI (sumN (ndF σ) i))), (6, .int 1), (7, .int (nI i))]) (fun i => i ≤ σ 0 4) (fun i => σ 0 4 - i) (fun i h2 ih => ?_) 0 (Nat.zero_le _) rfl rfl
  refine J_iload C rfl dL_isWell_138 ?_
  refine J_iload_n C rfl dL_isWell_140 ?_
  refine J_icmp_ge C 426 (by decide) dL_isWell_141 (fun c141 => ?_) (fun c141 => ?_)
  · skip
    have c141 := cv_ge_t (a := i) (b := (σ 0 4)) (by omega) (by omega) c141
    have hie : i = σ 0 4 := by omega
    rw [hie]
    refine J_iconst C 0 (by decide) dL_isWell_426 ?_
    refine J_istore C [(7, .int 0), (0, .ref P.1), (1, .int (nI (σ 0 4))), (2, .int (nI (sumN (wrF σ) (σ 0 4)))), (3, .int (nI (sumN (fun q => σ 4 q) (σ 0 4)))), (4, .int (nI (sumN (notDue σ) (σ 0 4)))), (5, .int (nI (sumN (ndF σ) (σ 0 4)))), (6, .int 1)] (by decide) rfl dL_isWell_427 ?_
    refine J_iload C rfl dL_isWell_429 ?_
    refine J_iconst C 2 (by decide) dL_isWell_431 ?_
    refine J_icmp_ge C 521 (by decide) dL_isWell_432 (fun h => absurd h (by decide)) (fun _ => ?_)
    refine J_aload_n C rfl dL_isWell_435 ?_
    refine J_iload C rfl dL_isWell_436 ?_
    refine J_iconst C 1 (by decide) dL_isWell_438 ?_
    refine J_V0 (as := [.int 0, .int 1]) (rest := []) C NoX.b NoX.f (o_scribe0 l G P σ x 1 (hg).i) (fun _ => OW_l2 _ _ _ _ _ _) 2 k405 k406 k407 k10 k408 rfl (by decide +kernel) ⟨Nat.le_of_ble_eq_true rfl, Nat.le_of_ble_eq_true rfl⟩ ⟨Nat.le_of_ble_eq_true rfl, Nat.le_of_ble_eq_true rfl⟩ dL_isWell_439 (Nat.le_of_ble_eq_true rfl) (OW_0 _ _ _ _) rfl (fun _ _ => ?_)
    refine J_st (st' := [.int (scrF σ 0 (1 : Int32).toInt)]) rfl ?_
    refine J_ws (ws' := OW G P σ x) rfl ?_
    refine J_i ((by rw [show (1 : Int32).toInt = 1 from by decide] <;> rfl) : (scrF σ 0 (1 : Int32).toInt : Int32) = (nI (σ 0 14))) ?_
    refine J_istore C [(8, .int (nI (σ 0 14))), (7, .int 0), (0, .ref P.1), (1, .int (nI (σ 0 4))), (2, .int (nI (sumN (wrF σ) (σ 0 4)))), (3, .int (nI (sumN (fun q => σ 4 q) (σ 0 4)))), (4, .int (nI (sumN (notDue σ) (σ 0 4)))), (5, .int (nI (sumN (ndF σ) (σ 0 4)))), (6, .int 1)] (by decide) rfl dL_isWell_442 ?_
    refine J_iload C rfl dL_isWell_444 ?_
    refine J_if_eq C 512 (by decide) dL_isWell_446 (fun h => absurd h (by decide)) (fun _ => ?_)
    by_cases hn0 : σ 0 4 ≤ 2 * σ 0 14
    · skip
      refine J_aload_n C rfl dL_isWell_449 ?_
      refine J_iload C rfl dL_isWell_450 ?_
      refine J_iconst C 2 (by decide) dL_isWell_452 ?_
      refine J_V0 (as := [.int 0, .int 2]) (rest := []) C NoX.b NoX.f (o_scribe0 l G P σ x 2 (hg).i) (fun _ => OW_l2 _ _ _ _ _ _) 2 k405 k406 k407 k10 k408 rfl (by decide +kernel) ⟨Nat.le_of_ble_eq_true rfl, Nat.le_of_ble_eq_true rfl⟩ ⟨Nat.le_of_ble_eq_true rfl, Nat.le_of_ble_eq_true rfl⟩ dL_isWell_453 (Nat.le_of_ble_eq_true rfl) (OW_0 _ _ _ _) rfl (fun _ _ => ?_)
      refine J_st (st' := [.int (scrF σ 0 (2 : Int32).toInt)]) rfl ?_
      refine J_ws (ws' := OW G P σ x) rfl ?_
      refine J_i ((by rw [show (2 : Int32).toInt = 2 from by decide] <;> rfl) : (scrF σ 0 (2 : Int32).toInt : Int32) = (nxP σ 0)) ?_
      refine J_i ((if_pos hn0) : (nxP σ 0 : Int32) = (-5)) ?_
      refine J_iload C rfl dL_isWell_456 ?_
      refine J_iload_n C rfl dL_isWell_458 ?_
      refine J_iconst C 2 (by decide) dL_isWell_459 ?_
      refine J_idiv C (by decide) dL_isWell_460 ?_
      refine J_i (pk_div (a := σ 0 4) (d := 2) (by omega) (by omega) (by omega) : ((nI (σ 0 4)) / 2 : Int32) = (nI ((σ 0 4) / 2))) ?_
      refine J_icmp_ne C 469 (by decide) dL_isWell_461 (fun h => absurd (cv_ne_t (a := (σ 0 14)) (b := ((σ 0 4) / 2)) (by omega) (by omega) h) (by omega)) (fun c461 => ?_)
      refine J_bipush C (-5) (by decide) dL_isWell_464 ?_
      refine J_goto C 485 (by decide) dL_isWell_466 ?_
      refine J_icmp_ne C 512 (by decide) dL_isWell_485 (fun h => absurd h (by decide)) (fun _ => ?_)
      refine J_aload_n C rfl dL_isWell_488 ?_
      refine J_iload C rfl dL_isWell_489 ?_
      refine J_iconst C 3 (by decide) dL_isWell_491 ?_
      refine J_V0 (as := [.int 0, .int 3]) (rest := []) C NoX.b NoX.f (o_scribe0 l G P σ x 3 (hg).i) (fun _ => OW_l2 _ _ _ _ _ _) 2 k405 k406 k407 k10 k408 rfl (by decide +kernel) ⟨Nat.le_of_ble_eq_true rfl, Nat.le_of_ble_eq_true rfl⟩ ⟨Nat.le_of_ble_eq_true rfl, Nat.le_of_ble_eq_true rfl⟩ dL_isWell_492 (Nat.le_of_ble_eq_true rfl) (OW_0 _ _ _ _) rfl (fun _ _ => ?_)
      refine J_st (st' := [.int (scrF σ 0 (3 : Int32).toInt)]) rfl ?_
      refine J_ws (ws' := OW G P σ x) rfl ?_
      refine J_i ((by rw [show (3 : Int32).toInt = 3 from by decide] <;> rfl) : (scrF σ 0 (3 : Int32).toInt : Int32) = (nI (σ 0 16))) ?_
      refine J_if_lt C 512 (by decide) dL_isWell_495 (fun h => absurd h (nI_pos (by omega))) (fun _ => ?_)
      refine J_aload_n C rfl dL_isWell_498 ?_
      refine J_iload C rfl dL_isWell_499 ?_
      refine J_iconst C 4 (by decide) dL_isWell_501 ?_
      refine J_V0 (as := [.int 0, .int 4]) (rest := []) C NoX.b NoX.f (o_scribe0 l G P σ x 4 (hg).i) (fun _ => OW_l2 _ _ _ _ _ _) 2 k405 k406 k407 k10 k408 rfl (by decide +kernel) ⟨Nat.le_of_ble_eq_true rfl, Nat.le_of_ble_eq_true rfl⟩ ⟨Nat.le_of_ble_eq_true rfl, Nat.le_of_ble_eq_true rfl⟩ dL_isWell_502 (Nat.le_of_ble_eq_true rfl) (OW_0 _ _ _ _) rfl (fun _ _ => ?_)
      refine J_st (st' := [.int (scrF σ 0 (4 : Int32).toInt)]) rfl ?_
      refine J_ws (ws' := OW G P σ x) rfl ?_
      refine J_i ((by rw [show (4 : Int32).toInt = 4 from by decide] <;> rfl) : (scrF σ 0 (4 : Int32).toInt : Int32) = (nI (σ 0 18))) ?_
      refine J_if_lt C 512 (by decide) dL_isWell_505 (fun h => absurd h (nI_pos (by omega))) (fun _ => ?_)
      refine J_iconst C 1 (by decide) dL_isWell_508 ?_
      refine J_goto C 513 (by decide) dL_isWell_509 ?_
      refine J_istore C [(6, .int 1), (8, .int (nI (σ 0 14))), (7, .int 0), (0, .ref P.1), (1, .int (nI (σ 0 4))), (2, .int (nI (sumN (wrF σ) (σ 0 4)))), (3, .int (nI (sumN (fun q => σ 4 q) (σ 0 4)))), (4, .int (nI (sumN (notDue σ) (σ 0 4)))), (5, .int (nI (sumN (ndF σ) (σ 0 4))))] (by decide) rfl dL_isWell_513 ?_
      refine J_iinc C 1 [(7, .int 1), (6, .int 1), (8, .int (nI (σ 0 14))), (0, .ref P.1), (1, .int (nI (σ 0 4))), (2, .int (nI (sumN (wrF σ) (σ 0 4)))), (3, .int (nI (sumN (fun q => σ 4 q) (σ 0 4)))), (4, .int (nI (sumN (notDue σ) (σ 0 4)))), (5, .int (nI (sumN (ndF σ) (σ 0 4))))] 2 rfl (by decide) (by decide) rfl dL_isWell_515 ?_
      refine J_goto C 429 (by decide) dL_isWell_518 ?_
      refine J_iload C rfl dL_isWell_429 ?_
      refine J_iconst C 2 (by decide) dL_isWell_431 ?_
      refine J_icmp_ge C 521 (by decide) dL_isWell_432 (fun h => absurd h (by decide)) (fun _ => ?_)
      refine J_aload_n C rfl dL_isWell_435 ?_
      refine J_iload C rfl dL_isWell_436 ?_
      refine J_iconst C 1 (by decide) dL_isWell_438 ?_
      refine J_V0 (as := [.int 1, .int 1]) (rest := []) C NoX.b NoX.f (o_scribe1 l G P σ x 1 (hg).i) (fun _ => OW_l2 _ _ _ _ _ _) 2 k405 k406 k407 k10 k408 rfl (by decide +kernel) ⟨Nat.le_of_ble_eq_true rfl, Nat.le_of_ble_eq_true rfl⟩ ⟨Nat.le_of_ble_eq_true rfl, Nat.le_of_ble_eq_true rfl⟩ dL_isWell_439 (Nat.le_of_ble_eq_true rfl) (OW_0 _ _ _ _) rfl (fun _ _ => ?_)
      refine J_st (st' := [.int (scrF σ 1 (1 : Int32).toInt)]) rfl ?_
      refine J_ws (ws' := OW G P σ x) rfl ?_
      refine J_i ((by rw [show (1 : Int32).toInt = 1 from by decide] <;> rfl) : (scrF σ 1 (1 : Int32).toInt : Int32) = (nI (σ 0 15))) ?_
      refine J_istore C [(8, .int (nI (σ 0 15))), (7, .int 1), (6, .int 1), (0, .ref P.1), (1, .int (nI (σ 0 4))), (2, .int (nI (sumN (wrF σ) (σ 0 4)))), (3, .int (nI (sumN (fun q => σ 4 q) (σ 0 4)))), (4, .int (nI (sumN (notDue σ) (σ 0 4)))), (5, .int (nI (sumN (ndF σ) (σ 0 4))))] (by decide) rfl dL_isWell_442 ?_
      refine J_iload C rfl dL_isWell_444 ?_
      refine J_if_eq C 512 (by decide) dL_isWell_446 (fun h => absurd h (by decide)) (fun _ => ?_)
      by_cases hn1 : σ 0 4 ≤ 2 * σ 0 15
      · skip
        refine J_aload_n C rfl dL_isWell_449 ?_
        refine J_iload C rfl dL_isWell_450 ?_
        refine J_iconst C 2 (by decide) dL_isWell_452 ?_
        refine J_V0 (as := [.int 1, .int 2]) (rest := []) C NoX.b NoX.f (o_scribe1 l G P σ x 2 (hg).i) (fun _ => OW_l2 _ _ _ _ _ _) 2 k405 k406 k407 k10 k408 rfl (by decide +kernel) ⟨Nat.le_of_ble_eq_true rfl, Nat.le_of_ble_eq_true rfl⟩ ⟨Nat.le_of_ble_eq_true rfl, Nat.le_of_ble_eq_true rfl⟩ dL_isWell_453 (Nat.le_of_ble_eq_true rfl) (OW_0 _ _ _ _) rfl (fun _ _ => ?_)
        refine J_st (st' := [.int (scrF σ 1 (2 : Int32).toInt)]) rfl ?_
        refine J_ws (ws' := OW G P σ x) rfl ?_
        refine J_i ((by rw [show (2 : Int32).toInt = 2 from by decide] <;> rfl) : (scrF σ 1 (2 : Int32).toInt : Int32) = (nxP σ 1)) ?_
        refine J_i ((if_pos hn1) : (nxP σ 1 : Int32) = (-5)) ?_
        refine J_iload C rfl dL_isWell_456 ?_
        refine J_iload_n C rfl dL_isWell_458 ?_
        refine J_iconst C 2 (by decide) dL_isWell_459 ?_
        refine J_idiv C (by decide) dL_isWell_460 ?_
        refine J_i (pk_div (a := σ 0 4) (d := 2) (by omega) (by omega) (by omega) : ((nI (σ 0 4)) / 2 : Int32) = (nI ((σ 0 4) / 2))) ?_
        refine J_icmp_ne C 469 (by decide) dL_isWell_461 (fun h => absurd (cv_ne_t (a := (σ 0 15)) (b := ((σ 0 4) / 2)) (by omega) (by omega) h) (by omega)) (fun c461 => ?_)
        refine J_bipush C (-5) (by decide) dL_isWell_464 ?_
        refine J_goto C 485 (by decide) dL_isWell_466 ?_
        refine J_icmp_ne C 512 (by decide) dL_isWell_485 (fun h => absurd h (by decide)) (fun _ => ?_)
        refine J_aload_n C rfl dL_isWell_488 ?_
        refine J_iload C rfl dL_isWell_489 ?_
        refine J_iconst C 3 (by decide) dL_isWell_491 ?_
        refine J_V0 (as := [.int 1, .int 3]) (rest := []) C NoX.b NoX.f (o_scribe1 l G P σ x 3 (hg).i) (fun _ => OW_l2 _ _ _ _ _ _) 2 k405 k406 k407 k10 k408 rfl (by decide +kernel) ⟨Nat.le_of_ble_eq_true rfl, Nat.le_of_ble_eq_true rfl⟩ ⟨Nat.le_of_ble_eq_true rfl, Nat.le_of_ble_eq_true rfl⟩ dL_isWell_492 (Nat.le_of_ble_eq_true rfl) (OW_0 _ _ _ _) rfl (fun _ _ => ?_)
        refine J_st (st' := [.int (scrF σ 1 (3 : Int32).toInt)]) rfl ?_
        refine J_ws (ws' := OW G P σ x) rfl ?_
        refine J_i ((by rw [show (3 : Int32).toInt = 3 from by decide] <;> rfl) : (scrF σ 1 (3 : Int32).toInt : Int32) = (nI (σ 0 17))) ?_
        refine J_if_lt C 512 (by decide) dL_isWell_495 (fun h => absurd h (nI_pos (by omega))) (fun _ => ?_)
        refine J_aload_n C rfl dL_isWell_498 ?_
        refine J_iload C rfl dL_isWell_499 ?_
        refine J_iconst C 4 (by decide) dL_isWell_501 ?_
        refine J_V0 (as := [.int 1, .int 4]) (rest := []) C NoX.b NoX.f (o_scribe1 l G P σ x 4 (hg).i) (fun _ => OW_l2 _ _ _ _ _ _) 2 k405 k406 k407 k10 k408 rfl (by decide +kernel) ⟨Nat.le_of_ble_eq_true rfl, Nat.le_of_ble_eq_true rfl⟩ ⟨Nat.le_of_ble_eq_true rfl, Nat.le_of_ble_eq_true rfl⟩ dL_isWell_502 (Nat.le_of_ble_eq_true rfl) (OW_0 _ _ _ _) rfl (fun _ _ => ?_)
        refine J_st (st' := [.int (scrF σ 1 (4 : Int32).toInt)]) rfl ?_
        refine J_ws (ws' := OW G P σ x) rfl ?_
        refine J_i ((by rw [show (4 : Int32).toInt = 4 from by decide] <;> rfl) : (scrF σ 1 (4 : Int32).toInt : Int32) = (nI (σ 0 19))) ?_
        refine J_if_lt C 512 (by decide) dL_isWell_505 (fun h => absurd h (nI_pos (by omega))) (fun _ => ?_)
        refine J_iconst C 1 (by decide) dL_isWell_508 ?_
        refine J_goto C 513 (by decide) dL_isWell_509 ?_
        refine J_istore C [(6, .int 1), (8, .int (nI (σ 0 15))), (7, .int 1), (0, .ref P.1), (1, .int (nI (σ 0 4))), (2, .int (nI (sumN (wrF σ) (σ 0 4)))), (3, .int (nI (sumN (fun q => σ 4 q) (σ 0 4)))), (4, .int (nI (sumN (notDue σ) (σ 0 4)))), (5, .int (nI (sumN (ndF σ) (σ 0 4))))] (by decide) rfl dL_isWell_513 ?_
        refine J_iinc C 2 [(7, .int 2), (6, .int 1), (8, .int (nI (σ 0 15))), (0, .ref P.1), (1, .int (nI (σ 0 4))), (2, .int (nI (sumN (wrF σ) (σ 0 4)))), (3, .int (nI (sumN (fun q => σ 4 q) (σ 0 4)))), (4, .int (nI (sumN (notDue σ) (σ 0 4)))), (5, .int (nI (sumN (ndF σ) (σ 0 4))))] 2 rfl (by decide) (by decide) rfl dL_isWell_515 ?_
        refine J_goto C 429 (by decide) dL_isWell_518 ?_
        refine J_iload C rfl dL_isWell_429 ?_
        refine J_iconst C 2 (by decide) dL_isWell_431 ?_
        refine J_icmp_ge C 521 (by decide) dL_isWell_432 (fun _ => ?_) (fun h => absurd h (by decide))
        refine J_iload C rfl dL_isWell_521 ?_
        refine J_if_eq C 633 (by decide) dL_isWell_523 (fun h => absurd h (by decide)) (fun _ => ?_)
        refine J_iload_n C rfl dL_isWell_526 ?_
        refine J_aload_n C rfl dL_isWell_527 ?_
        refine J_iconst C 2 (by decide) dL_isWell_528 ?_
        refine J_V0 (as := [.int 2]) (rest := [.int (nI (sumN (wrF σ) (σ 0 4)))]) C NoX.b NoX.f (o_count l G P σ x 2 (hg).i (hg).d) (fun _ => OW_l2 _ _ _ _ _ _) 1 k382 k383 k384 k10 k385 rfl (by decide +kernel) ⟨Nat.le_of_ble_eq_true rfl, Nat.le_of_ble_eq_true rfl⟩ ⟨Nat.le_of_ble_eq_true rfl, Nat.le_of_ble_eq_true rfl⟩ dL_isWell_529 (Nat.le_of_ble_eq_true rfl) (OW_0 _ _ _ _) rfl (fun _ _ => ?_)
        refine J_st (st' := [.int (cntF σ x.2.2.2.1.2.2.2 x.2.2.2.2.1.2 (2 : Int32).toInt), .int (nI (sumN (wrF σ) (σ 0 4)))]) rfl ?_
        refine J_ws (ws' := OW G P σ x) rfl ?_
        refine J_i ((by rw [show (2 : Int32).toInt = 2 from by decide] <;> rfl) : (cntF σ x.2.2.2.1.2.2.2 x.2.2.2.2.1.2 (2 : Int32).toInt : Int32) = (nI (σ 0 14 + σ 0 15))) ?_
        refine J_icmp_ne C 633 (by decide) dL_isWell_532 (fun h => absurd (cv_ne_t (a := (sumN (wrF σ) (σ 0 4))) (b := (σ 0 14 + σ 0 15)) (by omega) (by omega) h) (by omega)) (fun c532 => ?_)
        refine J_iload_n C rfl dL_isWell_535 ?_
        refine J_aload_n C rfl dL_isWell_536 ?_
        refine J_iconst C 0 (by decide) dL_isWell_537 ?_
        refine J_iconst C 1 (by decide) dL_isWell_538 ?_
        refine J_V0 (as := [.int 0, .int 1]) (rest := [.int (nI (sumN (wrF σ) (σ 0 4)))]) C NoX.b NoX.f (o_scribe0 l G P σ x 1 (hg).i) (fun _ => OW_l2 _ _ _ _ _ _) 2 k405 k406 k407 k10 k408 rfl (by decide +kernel) ⟨Nat.le_of_ble_eq_true rfl, Nat.le_of_ble_eq_true rfl⟩ ⟨Nat.le_of_ble_eq_true rfl, Nat.le_of_ble_eq_true rfl⟩ dL_isWell_539 (Nat.le_of_ble_eq_true rfl) (OW_0 _ _ _ _) rfl (fun _ _ => ?_)
        refine J_st (st' := [.int (scrF σ 0 (1 : Int32).toInt), .int (nI (sumN (wrF σ) (σ 0 4)))]) rfl ?_
        refine J_ws (ws' := OW G P σ x) rfl ?_
        refine J_i ((by rw [show (1 : Int32).toInt = 1 from by decide] <;> rfl) : (scrF σ 0 (1 : Int32).toInt : Int32) = (nI (σ 0 14))) ?_
        refine J_aload_n C rfl dL_isWell_542 ?_
        refine J_iconst C 1 (by decide) dL_isWell_543 ?_
        refine J_iconst C 1 (by decide) dL_isWell_544 ?_
        refine J_V0 (as := [.int 1, .int 1]) (rest := [.int (nI (σ 0 14)), .int (nI (sumN (wrF σ) (σ 0 4)))]) C NoX.b NoX.f (o_scribe1 l G P σ x 1 (hg).i) (fun _ => OW_l2 _ _ _ _ _ _) 2 k405 k406 k407 k10 k408 rfl (by decide +kernel) ⟨Nat.le_of_ble_eq_true rfl, Nat.le_of_ble_eq_true rfl⟩ ⟨Nat.le_of_ble_eq_true rfl, Nat.le_of_ble_eq_true rfl⟩ dL_isWell_545 (Nat.le_of_ble_eq_true rfl) (OW_0 _ _ _ _) rfl (fun _ _ => ?_)
        refine J_st (st' := [.int (scrF σ 1 (1 : Int32).toInt), .int (nI (σ 0 14)), .int (nI (sumN (wrF σ) (σ 0 4)))]) rfl ?_
        refine J_ws (ws' := OW G P σ x) rfl ?_
        refine J_i ((by rw [show (1 : Int32).toInt = 1 from by decide] <;> rfl) : (scrF σ 1 (1 : Int32).toInt : Int32) = (nI (σ 0 15))) ?_
        refine J_iadd C dL_isWell_548 ?_
        refine J_i (nI_add (σ 0 14) (σ 0 15) : ((nI (σ 0 14)) + (nI (σ 0 15)) : Int32) = (nI (σ 0 14 + σ 0 15))) ?_
        refine J_icmp_ne C 633 (by decide) dL_isWell_549 (fun h => absurd (cv_ne_t (a := (sumN (wrF σ) (σ 0 4))) (b := (σ 0 14 + σ 0 15)) (by omega) (by omega) h) (by omega)) (fun c549 => ?_)
        refine J_iload_n C rfl dL_isWell_552 ?_
        refine J_aload_n C rfl dL_isWell_553 ?_
        refine J_iconst C 3 (by decide) dL_isWell_554 ?_
        refine J_V0 (as := [.int 3]) (rest := [.int (nI (sumN (fun q => σ 4 q) (σ 0 4)))]) C NoX.b NoX.f (o_count l G P σ x 3 (hg).i (hg).d) (fun _ => OW_l2 _ _ _ _ _ _) 1 k382 k383 k384 k10 k385 rfl (by decide +kernel) ⟨Nat.le_of_ble_eq_true rfl, Nat.le_of_ble_eq_true rfl⟩ ⟨Nat.le_of_ble_eq_true rfl, Nat.le_of_ble_eq_true rfl⟩ dL_isWell_555 (Nat.le_of_ble_eq_true rfl) (OW_0 _ _ _ _) rfl (fun _ _ => ?_)
        refine J_st (st' := [.int (cntF σ x.2.2.2.1.2.2.2 x.2.2.2.2.1.2 (3 : Int32).toInt), .int (nI (sumN (fun q => σ 4 q) (σ 0 4)))]) rfl ?_
        refine J_ws (ws' := OW G P σ x) rfl ?_
        refine J_i ((by rw [show (3 : Int32).toInt = 3 from by decide] <;> rfl) : (cntF σ x.2.2.2.1.2.2.2 x.2.2.2.2.1.2 (3 : Int32).toInt : Int32) = (nI (sumN (fun q => σ 4 q) (σ 0 4)))) ?_
        refine J_icmp_ne C 633 (by decide) dL_isWell_558 (fun h => absurd h (fun q => q rfl)) (fun _ => ?_)
        refine J_iload C rfl dL_isWell_561 ?_
        refine J_aload_n C rfl dL_isWell_563 ?_
        refine J_iconst C 4 (by decide) dL_isWell_564 ?_
        refine J_V0 (as := [.int 4]) (rest := [.int (nI (sumN (notDue σ) (σ 0 4)))]) C NoX.b NoX.f (o_count l G P σ x 4 (hg).i (hg).d) (fun _ => OW_l2 _ _ _ _ _ _) 1 k382 k383 k384 k10 k385 rfl (by decide +kernel) ⟨Nat.le_of_ble_eq_true rfl, Nat.le_of_ble_eq_true rfl⟩ ⟨Nat.le_of_ble_eq_true rfl, Nat.le_of_ble_eq_true rfl⟩ dL_isWell_565 (Nat.le_of_ble_eq_true rfl) (OW_0 _ _ _ _) rfl (fun _ _ => ?_)
        refine J_st (st' := [.int (cntF σ x.2.2.2.1.2.2.2 x.2.2.2.2.1.2 (4 : Int32).toInt), .int (nI (sumN (notDue σ) (σ 0 4)))]) rfl ?_
        refine J_ws (ws' := OW G P σ x) rfl ?_
        refine J_i ((by rw [show (4 : Int32).toInt = 4 from by decide] <;> rfl) : (cntF σ x.2.2.2.1.2.2.2 x.2.2.2.2.1.2 (4 : Int32).toInt : Int32) = (nI (sumN (notDue σ) (σ 0 4)))) ?_
        refine J_icmp_ne C 633 (by decide) dL_isWell_568 (fun h => absurd h (fun q => q rfl)) (fun _ => ?_)
        refine J_aload_n C rfl dL_isWell_571 ?_
        refine J_V0 (as := []) (rest := []) C NoX.b NoX.f (o_needed l G P σ x (hg).i (hg).d) (fun _ => OW_l2 _ _ _ _ _ _) 0 k508 k509 k510 k10 k511 rfl (by decide +kernel) ⟨Nat.le_of_ble_eq_true rfl, Nat.le_of_ble_eq_true rfl⟩ ⟨Nat.le_of_ble_eq_true rfl, Nat.le_of_ble_eq_true rfl⟩ dL_isWell_572 (Nat.le_of_ble_eq_true rfl) (OW_0 _ _ _ _) rfl (fun _ _ => ?_)
        refine J_st (st' := [.double (dl (sumN (ndF σ) (σ 0 4)))]) rfl ?_
        refine J_ws (ws' := OW G P σ x) rfl ?_
        refine J_ldc2d C k555 dL_isWell_575 ?_
        refine J_dmul C (by rw [dl_mul (n := sumN (ndF σ) (σ 0 4)) (by omega)]; exact dt_num (by omega) (by omega)) dL_isWell_578 ?_
        refine J_d (dl_mul (n := sumN (ndF σ) (σ 0 4)) (by omega) : (FP.dmul (dl (sumN (ndF σ) (σ 0 4))) 4634204016564240384 : UInt64) = (dt 0 (sumN (ndF σ) (σ 0 4)))) ?_
        refine J_iload C rfl dL_isWell_579 ?_
        refine J_i2d C dL_isWell_581 ?_
        refine J_d (di_i2 (n := sumN (ndF σ) (σ 0 4)) (by omega) : (FP.i2d (nI (sumN (ndF σ) (σ 0 4))) : UInt64) = (dt 0 (sumN (ndF σ) (σ 0 4)))) ?_
        refine J_dcmp C dL_isWell_582 ?_
        refine J_i (((dt_cmp (t := 0) (a := sumN (ndF σ) (σ 0 4)) (b := sumN (ndF σ) (σ 0 4)) (by omega) (by omega) (by omega) _).trans ((if_neg (Nat.lt_irrefl _)).trans (if_pos rfl))) : (Op.cmpValue (FP.dcmp (dt 0 (sumN (ndF σ) (σ 0 4))) (dt 0 (sumN (ndF σ) (σ 0 4)))) .l : Int32) = 0) ?_
        refine J_if_ne C 633 (by decide) dL_isWell_583 (fun h => absurd h (by decide)) (fun _ => ?_)
        refine J_aload_n C rfl dL_isWell_586 ?_
        refine J_V0 (as := []) (rest := []) C NoX.b NoX.f (o_doneIn l G P σ x hg.i hg.d hg.1.2.2.2 hV) (fun _ => OW_l2 _ _ _ _ _ _) 0 k513 k514 k515 k10 k516 rfl (by decide +kernel) ⟨Nat.le_of_ble_eq_true rfl, Nat.le_of_ble_eq_true rfl⟩ ⟨Nat.le_of_ble_eq_true rfl, Nat.le_of_ble_eq_true rfl⟩ dL_isWell_587 (Nat.le_of_ble_eq_true rfl) (OW_0 _ _ _ _) rfl (fun x9 hx9 => ?_)
        refine J_st (st' := [.int (dnF 2001 0 σ)]) rfl ?_
        refine J_ws (ws' := OW G P σ x9) rfl ?_
        by_cases hdn : σ 0 4 ≤ σ 0 14 + σ 0 15
        · skip
          refine J_i ((if_pos hdn) : (dnF 2001 0 σ : Int32) = 0) ?_
          refine J_if_ne C 597 (by decide) dL_isWell_590 (fun h => absurd h (by decide)) (fun _ => ?_)
          refine J_iconst C 1 (by decide) dL_isWell_593 ?_
          refine J_goto C 598 (by decide) dL_isWell_594 ?_
          refine J_iload_n C rfl dL_isWell_598 ?_
          refine J_iload_n C rfl dL_isWell_599 ?_
          refine J_icmp_ne C 607 (by decide) dL_isWell_600 (fun h => absurd (cv_ne_t (a := (sumN (wrF σ) (σ 0 4))) (b := (σ 0 4)) (by omega) (by omega) h) (by omega)) (fun c600 => ?_)
          refine J_iconst C 1 (by decide) dL_isWell_603 ?_
          refine J_goto C 608 (by decide) dL_isWell_604 ?_
          refine J_icmp_ne C 633 (by decide) dL_isWell_608 (fun h => absurd h (by decide)) (fun _ => ?_)
          refine J_aload_n C rfl dL_isWell_611 ?_
          refine J_iconst C 0 (by decide) dL_isWell_612 ?_
          refine J_iconst C 4 (by decide) dL_isWell_613 ?_
          refine J_V0 (as := [.int 0, .int 4]) (rest := []) C NoX.b NoX.f (o_scribe0 l G P σ x9 4 (hg).i) (fun _ => OW_l2 _ _ _ _ _ _) 2 k405 k406 k407 k10 k408 rfl (by decide +kernel) ⟨Nat.le_of_ble_eq_true rfl, Nat.le_of_ble_eq_true rfl⟩ ⟨Nat.le_of_ble_eq_true rfl, Nat.le_of_ble_eq_true rfl⟩ dL_isWell_614 (Nat.le_of_ble_eq_true rfl) (OW_0 _ _ _ _) rfl (fun _ _ => ?_)
          refine J_st (st' := [.int (scrF σ 0 (4 : Int32).toInt)]) rfl ?_
          refine J_ws (ws' := OW G P σ x9) rfl ?_
          refine J_i ((by rw [show (4 : Int32).toInt = 4 from by decide] <;> rfl) : (scrF σ 0 (4 : Int32).toInt : Int32) = (nI (σ 0 18))) ?_
          have hdd := hg.2.1.2.2
          refine J_if_eq C 629 (by decide) dL_isWell_617 (fun c617 => ?_) (fun c617 => ?_)
          · skip
            have c617 := cv_eq_t (a := (σ 0 18)) (b := 0) (by omega) (by omega) c617
            refine J_iconst C 1 (by decide) dL_isWell_629 ?_
            refine J_goto C 634 (by decide) dL_isWell_630 ?_
            exact J_zret C hr rfl dL_isWell_634 x9 rfl hx9 rfl
          · skip
            have c617 := cv_eq_f (a := (σ 0 18)) (b := 0) (by omega) (by omega) c617
            refine J_aload_n C rfl dL_isWell_620 ?_
            refine J_iconst C 1 (by decide) dL_isWell_621 ?_
            refine J_iconst C 4 (by decide) dL_isWell_622 ?_
            refine J_V0 (as := [.int 1, .int 4]) (rest := []) C NoX.b NoX.f (o_scribe1 l G P σ x9 4 (hg).i) (fun _ => OW_l2 _ _ _ _ _ _) 2 k405 k406 k407 k10 k408 rfl (by decide +kernel) ⟨Nat.le_of_ble_eq_true rfl, Nat.le_of_ble_eq_true rfl⟩ ⟨Nat.le_of_ble_eq_true rfl, Nat.le_of_ble_eq_true rfl⟩ dL_isWell_623 (Nat.le_of_ble_eq_true rfl) (OW_0 _ _ _ _) rfl (fun _ _ => ?_)
            refine J_st (st' := [.int (scrF σ 1 (4 : Int32).toInt)]) rfl ?_
            refine J_ws (ws' := OW G P σ x9) rfl ?_
            refine J_i ((by rw [show (4 : Int32).toInt = 4 from by decide] <;> rfl) : (scrF σ 1 (4 : Int32).toInt : Int32) = (nI (σ 0 19))) ?_
            refine J_if_ne C 633 (by decide) dL_isWell_626 (fun h => absurd (cv_ne_t (a := (σ 0 19)) (b := 0) (by omega) (by omega) h) (by omega)) (fun c626 => ?_)
            refine J_iconst C 1 (by decide) dL_isWell_629 ?_
            refine J_goto C 634 (by decide) dL_isWell_630 ?_
            exact J_zret C hr rfl dL_isWell_634 x9 rfl hx9 rfl
        · skip
          refine J_i ((if_neg hdn) : (dnF 2001 0 σ : Int32) = (dnF 2000 1 (ticksF σ))) ?_
          refine J_if_ne C 597 (by decide) dL_isWell_590 (fun _ => ?_) (fun h => absurd h (dnF_ne (ticksF σ) 2000 1 (by omega) (by omega)))
          refine J_iconst C 0 (by decide) dL_isWell_597 ?_
          refine J_iload_n C rfl dL_isWell_598 ?_
          refine J_iload_n C rfl dL_isWell_599 ?_
          refine J_icmp_ne C 607 (by decide) dL_isWell_600 (fun c600 => ?_) (fun h => absurd (cv_ne_f (a := (sumN (wrF σ) (σ 0 4))) (b := (σ 0 4)) (by omega) (by omega) h) (by omega))
          refine J_iconst C 0 (by decide) dL_isWell_607 ?_
          refine J_icmp_ne C 633 (by decide) dL_isWell_608 (fun h => absurd h (by decide)) (fun _ => ?_)
          refine J_aload_n C rfl dL_isWell_611 ?_
          refine J_iconst C 0 (by decide) dL_isWell_612 ?_
          refine J_iconst C 4 (by decide) dL_isWell_613 ?_
          refine J_V0 (as := [.int 0, .int 4]) (rest := []) C NoX.b NoX.f (o_scribe0 l G P σ x9 4 (hg).i) (fun _ => OW_l2 _ _ _ _ _ _) 2 k405 k406 k407 k10 k408 rfl (by decide +kernel) ⟨Nat.le_of_ble_eq_true rfl, Nat.le_of_ble_eq_true rfl⟩ ⟨Nat.le_of_ble_eq_true rfl, Nat.le_of_ble_eq_true rfl⟩ dL_isWell_614 (Nat.le_of_ble_eq_true rfl) (OW_0 _ _ _ _) rfl (fun _ _ => ?_)
          refine J_st (st' := [.int (scrF σ 0 (4 : Int32).toInt)]) rfl ?_
          refine J_ws (ws' := OW G P σ x9) rfl ?_
          refine J_i ((by rw [show (4 : Int32).toInt = 4 from by decide] <;> rfl) : (scrF σ 0 (4 : Int32).toInt : Int32) = (nI (σ 0 18))) ?_
          have hdd := hg.2.1.2.2
          refine J_if_eq C 629 (by decide) dL_isWell_617 (fun c617 => ?_) (fun c617 => ?_)
          · skip
            have c617 := cv_eq_t (a := (σ 0 18)) (b := 0) (by omega) (by omega) c617
            refine J_iconst C 1 (by decide) dL_isWell_629 ?_
            refine J_goto C 634 (by decide) dL_isWell_630 ?_
            exact J_zret C hr rfl dL_isWell_634 x9 rfl hx9 rfl
          · skip
            have c617 := cv_eq_f (a := (σ 0 18)) (b := 0) (by omega) (by omega) c617
            refine J_aload_n C rfl dL_isWell_620 ?_
            refine J_iconst C 1 (by decide) dL_isWell_621 ?_
            refine J_iconst C 4 (by decide) dL_isWell_622 ?_
            refine J_V0 (as := [.int 1, .int 4]) (rest := []) C NoX.b NoX.f (o_scribe1 l G P σ x9 4 (hg).i) (fun _ => OW_l2 _ _ _ _ _ _) 2 k405 k406 k407 k10 k408 rfl (by decide +kernel) ⟨Nat.le_of_ble_eq_true rfl, Nat.le_of_ble_eq_true rfl⟩ ⟨Nat.le_of_ble_eq_true rfl, Nat.le_of_ble_eq_true rfl⟩ dL_isWell_623 (Nat.le_of_ble_eq_true rfl) (OW_0 _ _ _ _) rfl (fun _ _ => ?_)
            refine J_st (st' := [.int (scrF σ 1 (4 : Int32).toInt)]) rfl ?_
            refine J_ws (ws' := OW G P σ x9) rfl ?_
            refine J_i ((by rw [show (4 : Int32).toInt = 4 from by decide] <;> rfl) : (scrF σ 1 (4 : Int32).toInt : Int32) = (nI (σ 0 19))) ?_
            refine J_if_ne C 633 (by decide) dL_isWell_626 (fun h => absurd (cv_ne_t (a := (σ 0 19)) (b := 0) (by omega) (by omega) h) (by omega)) (fun c626 => ?_)
            refine J_iconst C 1 (by decide) dL_isWell_629 ?_
            refine J_goto C 634 (by decide) dL_isWell_630 ?_
            exact J_zret C hr rfl dL_isWell_634 x9 rfl hx9 rfl
      · skip
        refine J_aload_n C rfl dL_isWell_449 ?_
        refine J_iload C rfl dL_isWell_450 ?_
        refine J_iconst C 2 (by decide) dL_isWell_452 ?_
        refine J_V0 (as := [.int 1, .int 2]) (rest := []) C NoX.b NoX.f (o_scribe1 l G P σ x 2 (hg).i) (fun _ => OW_l2 _ _ _ _ _ _) 2 k405 k406 k407 k10 k408 rfl (by decide +kernel) ⟨Nat.le_of_ble_eq_true rfl, Nat.le_of_ble_eq_true rfl⟩ ⟨Nat.le_of_ble_eq_true rfl, Nat.le_of_ble_eq_true rfl⟩ dL_isWell_453 (Nat.le_of_ble_eq_true rfl) (OW_0 _ _ _ _) rfl (fun _ _ => ?_)
        refine J_st (st' := [.int (scrF σ 1 (2 : Int32).toInt)]) rfl ?_
        refine J_ws (ws' := OW G P σ x) rfl ?_
        refine J_i ((by rw [show (2 : Int32).toInt = 2 from by decide] <;> rfl) : (scrF σ 1 (2 : Int32).toInt : Int32) = (nxP σ 1)) ?_
        refine J_i ((if_neg hn1) : (nxP σ 1 : Int32) = (nI (σ 0 4 - 1 - σ 0 15))) ?_
        refine J_iload C rfl dL_isWell_456 ?_
        refine J_iload_n C rfl dL_isWell_458 ?_
        refine J_iconst C 2 (by decide) dL_isWell_459 ?_
        refine J_idiv C (by decide) dL_isWell_460 ?_
        refine J_i (pk_div (a := σ 0 4) (d := 2) (by omega) (by omega) (by omega) : ((nI (σ 0 4)) / 2 : Int32) = (nI ((σ 0 4) / 2))) ?_
        refine J_icmp_ne C 469 (by decide) dL_isWell_461 (fun c461 => ?_) (fun h => absurd (cv_ne_f (a := (σ 0 15)) (b := ((σ 0 4) / 2)) (by omega) (by omega) h) (by omega))
        refine J_iload C rfl dL_isWell_469 ?_
        refine J_if_ne C 479 (by decide) dL_isWell_471 (fun _ => ?_) (fun h => absurd h (by decide))
        refine J_iload_n C rfl dL_isWell_479 ?_
        refine J_iconst C 1 (by decide) dL_isWell_480 ?_
        refine J_isub C dL_isWell_481 ?_
        refine J_i (pk_sub (a := σ 0 4) (b := 1) (by omega) : ((nI (σ 0 4)) - 1 : Int32) = (nI (σ 0 4 - 1))) ?_
        refine J_iload C rfl dL_isWell_482 ?_
        refine J_isub C dL_isWell_484 ?_
        refine J_i (pk_sub (a := σ 0 4 - 1) (b := σ 0 15) (by omega) : ((nI (σ 0 4 - 1)) - (nI (σ 0 15)) : Int32) = (nI ((σ 0 4 - 1) - (σ 0 15)))) ?_
        refine J_icmp_ne C 512 (by decide) dL_isWell_485 (fun h => absurd (cv_ne_t (a := (σ 0 4 - 1 - σ 0 15)) (b := ((σ 0 4 - 1) - (σ 0 15))) (by omega) (by omega) h) (by omega)) (fun c485 => ?_)
        refine J_aload_n C rfl dL_isWell_488 ?_
        refine J_iload C rfl dL_isWell_489 ?_
        refine J_iconst C 3 (by decide) dL_isWell_491 ?_
        refine J_V0 (as := [.int 1, .int 3]) (rest := []) C NoX.b NoX.f (o_scribe1 l G P σ x 3 (hg).i) (fun _ => OW_l2 _ _ _ _ _ _) 2 k405 k406 k407 k10 k408 rfl (by decide +kernel) ⟨Nat.le_of_ble_eq_true rfl, Nat.le_of_ble_eq_true rfl⟩ ⟨Nat.le_of_ble_eq_true rfl, Nat.le_of_ble_eq_true rfl⟩ dL_isWell_492 (Nat.le_of_ble_eq_true rfl) (OW_0 _ _ _ _) rfl (fun _ _ => ?_)
        refine J_st (st' := [.int (scrF σ 1 (3 : Int32).toInt)]) rfl ?_
        refine J_ws (ws' := OW G P σ x) rfl ?_
        refine J_i ((by rw [show (3 : Int32).toInt = 3 from by decide] <;> rfl) : (scrF σ 1 (3 : Int32).toInt : Int32) = (nI (σ 0 17))) ?_
        refine J_if_lt C 512 (by decide) dL_isWell_495 (fun h => absurd h (nI_pos (by omega))) (fun _ => ?_)
        refine J_aload_n C rfl dL_isWell_498 ?_
        refine J_iload C rfl dL_isWell_499 ?_
        refine J_iconst C 4 (by decide) dL_isWell_501 ?_
        refine J_V0 (as := [.int 1, .int 4]) (rest := []) C NoX.b NoX.f (o_scribe1 l G P σ x 4 (hg).i) (fun _ => OW_l2 _ _ _ _ _ _) 2 k405 k406 k407 k10 k408 rfl (by decide +kernel) ⟨Nat.le_of_ble_eq_true rfl, Nat.le_of_ble_eq_true rfl⟩ ⟨Nat.le_of_ble_eq_true rfl, Nat.le_of_ble_eq_true rfl⟩ dL_isWell_502 (Nat.le_of_ble_eq_true rfl) (OW_0 _ _ _ _) rfl (fun _ _ => ?_)
        refine J_st (st' := [.int (scrF σ 1 (4 : Int32).toInt)]) rfl ?_
        refine J_ws (ws' := OW G P σ x) rfl ?_
        refine J_i ((by rw [show (4 : Int32).toInt = 4 from by decide] <;> rfl) : (scrF σ 1 (4 : Int32).toInt : Int32) = (nI (σ 0 19))) ?_
        refine J_if_lt C 512 (by decide) dL_isWell_505 (fun h => absurd h (nI_pos (by omega))) (fun _ => ?_)
        refine J_iconst C 1 (by decide) dL_isWell_508 ?_
        refine J_goto C 513 (by decide) dL_isWell_509 ?_
        refine J_istore C [(6, .int 1), (8, .int (nI (σ 0 15))), (7, .int 1), (0, .ref P.1), (1, .int (nI (σ 0 4))), (2, .int (nI (sumN (wrF σ) (σ 0 4)))), (3, .int (nI (sumN (fun q => σ 4 q) (σ 0 4)))), (4, .int (nI (sumN (notDue σ) (σ 0 4)))), (5, .int (nI (sumN (ndF σ) (σ 0 4))))] (by decide) rfl dL_isWell_513 ?_
        refine J_iinc C 2 [(7, .int 2), (6, .int 1), (8, .int (nI (σ 0 15))), (0, .ref P.1), (1, .int (nI (σ 0 4))), (2, .int (nI (sumN (wrF σ) (σ 0 4)))), (3, .int (nI (sumN (fun q => σ 4 q) (σ 0 4)))), (4, .int (nI (sumN (notDue σ) (σ 0 4)))), (5, .int (nI (sumN (ndF σ) (σ 0 4))))] 2 rfl (by decide) (by decide) rfl dL_isWell_515 ?_
        refine J_goto C 429 (by decide) dL_isWell_518 ?_
        refine J_iload C rfl dL_isWell_429 ?_
        refine J_iconst C 2 (by decide) dL_isWell_431 ?_
        refine J_icmp_ge C 521 (by decide) dL_isWell_432 (fun _ => ?_) (fun h => absurd h (by decide))
        refine J_iload C rfl dL_isWell_521 ?_
        refine J_if_eq C 633 (by decide) dL_isWell_523 (fun h => absurd h (by decide)) (fun _ => ?_)
        refine J_iload_n C rfl dL_isWell_526 ?_
        refine J_aload_n C rfl dL_isWell_527 ?_
        refine J_iconst C 2 (by decide) dL_isWell_528 ?_
        refine J_V0 (as := [.int 2]) (rest := [.int (nI (sumN (wrF σ) (σ 0 4)))]) C NoX.b NoX.f (o_count l G P σ x 2 (hg).i (hg).d) (fun _ => OW_l2 _ _ _ _ _ _) 1 k382 k383 k384 k10 k385 rfl (by decide +kernel) ⟨Nat.le_of_ble_eq_true rfl, Nat.le_of_ble_eq_true rfl⟩ ⟨Nat.le_of_ble_eq_true rfl, Nat.le_of_ble_eq_true rfl⟩ dL_isWell_529 (Nat.le_of_ble_eq_true rfl) (OW_0 _ _ _ _) rfl (fun _ _ => ?_)
        refine J_st (st' := [.int (cntF σ x.2.2.2.1.2.2.2 x.2.2.2.2.1.2 (2 : Int32).toInt), .int (nI (sumN (wrF σ) (σ 0 4)))]) rfl ?_
        refine J_ws (ws' := OW G P σ x) rfl ?_
        refine J_i ((by rw [show (2 : Int32).toInt = 2 from by decide] <;> rfl) : (cntF σ x.2.2.2.1.2.2.2 x.2.2.2.2.1.2 (2 : Int32).toInt : Int32) = (nI (σ 0 14 + σ 0 15))) ?_
        refine J_icmp_ne C 633 (by decide) dL_isWell_532 (fun h => absurd (cv_ne_t (a := (sumN (wrF σ) (σ 0 4))) (b := (σ 0 14 + σ 0 15)) (by omega) (by omega) h) (by omega)) (fun c532 => ?_)
        refine J_iload_n C rfl dL_isWell_535 ?_
        refine J_aload_n C rfl dL_isWell_536 ?_
        refine J_iconst C 0 (by decide) dL_isWell_537 ?_
        refine J_iconst C 1 (by decide) dL_isWell_538 ?_
        refine J_V0 (as := [.int 0, .int 1]) (rest := [.int (nI (sumN (wrF σ) (σ 0 4)))]) C NoX.b NoX.f (o_scribe0 l G P σ x 1 (hg).i) (fun _ => OW_l2 _ _ _ _ _ _) 2 k405 k406 k407 k10 k408 rfl (by decide +kernel) ⟨Nat.le_of_ble_eq_true rfl, Nat.le_of_ble_eq_true rfl⟩ ⟨Nat.le_of_ble_eq_true rfl, Nat.le_of_ble_eq_true rfl⟩ dL_isWell_539 (Nat.le_of_ble_eq_true rfl) (OW_0 _ _ _ _) rfl (fun _ _ => ?_)
        refine J_st (st' := [.int (scrF σ 0 (1 : Int32).toInt), .int (nI (sumN (wrF σ) (σ 0 4)))]) rfl ?_
        refine J_ws (ws' := OW G P σ x) rfl ?_
        refine J_i ((by rw [show (1 : Int32).toInt = 1 from by decide] <;> rfl) : (scrF σ 0 (1 : Int32).toInt : Int32) = (nI (σ 0 14))) ?_
        refine J_aload_n C rfl dL_isWell_542 ?_
        refine J_iconst C 1 (by decide) dL_isWell_543 ?_
        refine J_iconst C 1 (by decide) dL_isWell_544 ?_
        refine J_V0 (as := [.int 1, .int 1]) (rest := [.int (nI (σ 0 14)), .int (nI (sumN (wrF σ) (σ 0 4)))]) C NoX.b NoX.f (o_scribe1 l G P σ x 1 (hg).i) (fun _ => OW_l2 _ _ _ _ _ _) 2 k405 k406 k407 k10 k408 rfl (by decide +kernel) ⟨Nat.le_of_ble_eq_true rfl, Nat.le_of_ble_eq_true rfl⟩ ⟨Nat.le_of_ble_eq_true rfl, Nat.le_of_ble_eq_true rfl⟩ dL_isWell_545 (Nat.le_of_ble_eq_true rfl) (OW_0 _ _ _ _) rfl (fun _ _ => ?_)
        refine J_st (st' := [.int (scrF σ 1 (1 : Int32).toInt), .int (nI (σ 0 14)), .int (nI (sumN (wrF σ) (σ 0 4)))]) rfl ?_
        refine J_ws (ws' := OW G P σ x) rfl ?_
        refine J_i ((by rw [show (1 : Int32).toInt = 1 from by decide] <;> rfl) : (scrF σ 1 (1 : Int32).toInt : Int32) = (nI (σ 0 15))) ?_
        refine J_iadd C dL_isWell_548 ?_
        refine J_i (nI_add (σ 0 14) (σ 0 15) : ((nI (σ 0 14)) + (nI (σ 0 15)) : Int32) = (nI (σ 0 14 + σ 0 15))) ?_
        refine J_icmp_ne C 633 (by decide) dL_isWell_549 (fun h => absurd (cv_ne_t (a := (sumN (wrF σ) (σ 0 4))) (b := (σ 0 14 + σ 0 15)) (by omega) (by omega) h) (by omega)) (fun c549 => ?_)
        refine J_iload_n C rfl dL_isWell_552 ?_
        refine J_aload_n C rfl dL_isWell_553 ?_
        refine J_iconst C 3 (by decide) dL_isWell_554 ?_
        refine J_V0 (as := [.int 3]) (rest := [.int (nI (sumN (fun q => σ 4 q) (σ 0 4)))]) C NoX.b NoX.f (o_count l G P σ x 3 (hg).i (hg).d) (fun _ => OW_l2 _ _ _ _ _ _) 1 k382 k383 k384 k10 k385 rfl (by decide +kernel) ⟨Nat.le_of_ble_eq_true rfl, Nat.le_of_ble_eq_true rfl⟩ ⟨Nat.le_of_ble_eq_true rfl, Nat.le_of_ble_eq_true rfl⟩ dL_isWell_555 (Nat.le_of_ble_eq_true rfl) (OW_0 _ _ _ _) rfl (fun _ _ => ?_)
        refine J_st (st' := [.int (cntF σ x.2.2.2.1.2.2.2 x.2.2.2.2.1.2 (3 : Int32).toInt), .int (nI (sumN (fun q => σ 4 q) (σ 0 4)))]) rfl ?_
        refine J_ws (ws' := OW G P σ x) rfl ?_
        refine J_i ((by rw [show (3 : Int32).toInt = 3 from by decide] <;> rfl) : (cntF σ x.2.2.2.1.2.2.2 x.2.2.2.2.1.2 (3 : Int32).toInt : Int32) = (nI (sumN (fun q => σ 4 q) (σ 0 4)))) ?_
        refine J_icmp_ne C 633 (by decide) dL_isWell_558 (fun h => absurd h (fun q => q rfl)) (fun _ => ?_)
        refine J_iload C rfl dL_isWell_561 ?_
        refine J_aload_n C rfl dL_isWell_563 ?_
        refine J_iconst C 4 (by decide) dL_isWell_564 ?_
        refine J_V0 (as := [.int 4]) (rest := [.int (nI (sumN (notDue σ) (σ 0 4)))]) C NoX.b NoX.f (o_count l G P σ x 4 (hg).i (hg).d) (fun _ => OW_l2 _ _ _ _ _ _) 1 k382 k383 k384 k10 k385 rfl (by decide +kernel) ⟨Nat.le_of_ble_eq_true rfl, Nat.le_of_ble_eq_true rfl⟩ ⟨Nat.le_of_ble_eq_true rfl, Nat.le_of_ble_eq_true rfl⟩ dL_isWell_565 (Nat.le_of_ble_eq_true rfl) (OW_0 _ _ _ _) rfl (fun _ _ => ?_)
        refine J_st (st' := [.int (cntF σ x.2.2.2.1.2.2.2 x.2.2.2.2.1.2 (4 : Int32).toInt), .int (nI (sumN (notDue σ) (σ 0 4)))]) rfl ?_
        refine J_ws (ws' := OW G P σ x) rfl ?_
        refine J_i ((by rw [show (4 : Int32).toInt = 4 from by decide] <;> rfl) : (cntF σ x.2.2.2.1.2.2.2 x.2.2.2.2.1.2 (4 : Int32).toInt : Int32) = (nI (sumN (notDue σ) (σ 0 4)))) ?_
        refine J_icmp_ne C 633 (by decide) dL_isWell_568 (fun h => absurd h (fun q => q rfl)) (fun _ => ?_)
        refine J_aload_n C rfl dL_isWell_571 ?_
        refine J_V0 (as := []) (rest := []) C NoX.b NoX.f (o_needed l G P σ x (hg).i (hg).d) (fun _ => OW_l2 _ _ _ _ _ _) 0 k508 k509 k510 k10 k511 rfl (by decide +kernel) ⟨Nat.le_of_ble_eq_true rfl, Nat.le_of_ble_eq_true rfl⟩ ⟨Nat.le_of_ble_eq_true rfl, Nat.le_of_ble_eq_true rfl⟩ dL_isWell_572 (Nat.le_of_ble_eq_true rfl) (OW_0 _ _ _ _) rfl (fun _ _ => ?_)
        refine J_st (st' := [.double (dl (sumN (ndF σ) (σ 0 4)))]) rfl ?_
        refine J_ws (ws' := OW G P σ x) rfl ?_
        refine J_ldc2d C k555 dL_isWell_575 ?_
        refine J_dmul C (by rw [dl_mul (n := sumN (ndF σ) (σ 0 4)) (by omega)]; exact dt_num (by omega) (by omega)) dL_isWell_578 ?_
        refine J_d (dl_mul (n := sumN (ndF σ) (σ 0 4)) (by omega) : (FP.dmul (dl (sumN (ndF σ) (σ 0 4))) 4634204016564240384 : UInt64) = (dt 0 (sumN (ndF σ) (σ 0 4)))) ?_
        refine J_iload C rfl dL_isWell_579 ?_
        refine J_i2d C dL_isWell_581 ?_
        refine J_d (di_i2 (n := sumN (ndF σ) (σ 0 4)) (by omega) : (FP.i2d (nI (sumN (ndF σ) (σ 0 4))) : UInt64) = (dt 0 (sumN (ndF σ) (σ 0 4)))) ?_
        refine J_dcmp C dL_isWell_582 ?_
        refine J_i (((dt_cmp (t := 0) (a := sumN (ndF σ) (σ 0 4)) (b := sumN (ndF σ) (σ 0 4)) (by omega) (by omega) (by omega) _).trans ((if_neg (Nat.lt_irrefl _)).trans (if_pos rfl))) : (Op.cmpValue (FP.dcmp (dt 0 (sumN (ndF σ) (σ 0 4))) (dt 0 (sumN (ndF σ) (σ 0 4)))) .l : Int32) = 0) ?_
        refine J_if_ne C 633 (by decide) dL_isWell_583 (fun h => absurd h (by decide)) (fun _ => ?_)
        refine J_aload_n C rfl dL_isWell_586 ?_
        refine J_V0 (as := []) (rest := []) C NoX.b NoX.f (o_doneIn l G P σ x hg.i hg.d hg.1.2.2.2 hV) (fun _ => OW_l2 _ _ _ _ _ _) 0 k513 k514 k515 k10 k516 rfl (by decide +kernel) ⟨Nat.le_of_ble_eq_true rfl, Nat.le_of_ble_eq_true rfl⟩ ⟨Nat.le_of_ble_eq_true rfl, Nat.le_of_ble_eq_true rfl⟩ dL_isWell_587 (Nat.le_of_ble_eq_true rfl) (OW_0 _ _ _ _) rfl (fun x9 hx9 => ?_)
        refine J_st (st' := [.int (dnF 2001 0 σ)]) rfl ?_
        refine J_ws (ws' := OW G P σ x9) rfl ?_
        by_cases hdn : σ 0 4 ≤ σ 0 14 + σ 0 15
        · skip
          refine J_i ((if_pos hdn) : (dnF 2001 0 σ : Int32) = 0) ?_
          refine J_if_ne C 597 (by decide) dL_isWell_590 (fun h => absurd h (by decide)) (fun _ => ?_)
          refine J_iconst C 1 (by decide) dL_isWell_593 ?_
          refine J_goto C 598 (by decide) dL_isWell_594 ?_
          refine J_iload_n C rfl dL_isWell_598 ?_
          refine J_iload_n C rfl dL_isWell_599 ?_
          refine J_icmp_ne C 607 (by decide) dL_isWell_600 (fun h => absurd (cv_ne_t (a := (sumN (wrF σ) (σ 0 4))) (b := (σ 0 4)) (by omega) (by omega) h) (by omega)) (fun c600 => ?_)
          refine J_iconst C 1 (by decide) dL_isWell_603 ?_
          refine J_goto C 608 (by decide) dL_isWell_604 ?_
          refine J_icmp_ne C 633 (by decide) dL_isWell_608 (fun h => absurd h (by decide)) (fun _ => ?_)
          refine J_aload_n C rfl dL_isWell_611 ?_
          refine J_iconst C 0 (by decide) dL_isWell_612 ?_
          refine J_iconst C 4 (by decide) dL_isWell_613 ?_
          refine J_V0 (as := [.int 0, .int 4]) (rest := []) C NoX.b NoX.f (o_scribe0 l G P σ x9 4 (hg).i) (fun _ => OW_l2 _ _ _ _ _ _) 2 k405 k406 k407 k10 k408 rfl (by decide +kernel) ⟨Nat.le_of_ble_eq_true rfl, Nat.le_of_ble_eq_true rfl⟩ ⟨Nat.le_of_ble_eq_true rfl, Nat.le_of_ble_eq_true rfl⟩ dL_isWell_614 (Nat.le_of_ble_eq_true rfl) (OW_0 _ _ _ _) rfl (fun _ _ => ?_)
          refine J_st (st' := [.int (scrF σ 0 (4 : Int32).toInt)]) rfl ?_
          refine J_ws (ws' := OW G P σ x9) rfl ?_
          refine J_i ((by rw [show (4 : Int32).toInt = 4 from by decide] <;> rfl) : (scrF σ 0 (4 : Int32).toInt : Int32) = (nI (σ 0 18))) ?_
          have hdd := hg.2.1.2.2
          refine J_if_eq C 629 (by decide) dL_isWell_617 (fun c617 => ?_) (fun c617 => ?_)
          · skip
            have c617 := cv_eq_t (a := (σ 0 18)) (b := 0) (by omega) (by omega) c617
            refine J_iconst C 1 (by decide) dL_isWell_629 ?_
            refine J_goto C 634 (by decide) dL_isWell_630 ?_
            exact J_zret C hr rfl dL_isWell_634 x9 rfl hx9 rfl
          · skip
            have c617 := cv_eq_f (a := (σ 0 18)) (b := 0) (by omega) (by omega) c617
            refine J_aload_n C rfl dL_isWell_620 ?_
            refine J_iconst C 1 (by decide) dL_isWell_621 ?_
            refine J_iconst C 4 (by decide) dL_isWell_622 ?_
            refine J_V0 (as := [.int 1, .int 4]) (rest := []) C NoX.b NoX.f (o_scribe1 l G P σ x9 4 (hg).i) (fun _ => OW_l2 _ _ _ _ _ _) 2 k405 k406 k407 k10 k408 rfl (by decide +kernel) ⟨Nat.le_of_ble_eq_true rfl, Nat.le_of_ble_eq_true rfl⟩ ⟨Nat.le_of_ble_eq_true rfl, Nat.le_of_ble_eq_true rfl⟩ dL_isWell_623 (Nat.le_of_ble_eq_true rfl) (OW_0 _ _ _ _) rfl (fun _ _ => ?_)
            refine J_st (st' := [.int (scrF σ 1 (4 : Int32).toInt)]) rfl ?_
            refine J_ws (ws' := OW G P σ x9) rfl ?_
            refine J_i ((by rw [show (4 : Int32).toInt = 4 from by decide] <;> rfl) : (scrF σ 1 (4 : Int32).toInt : Int32) = (nI (σ 0 19))) ?_
            refine J_if_ne C 633 (by decide) dL_isWell_626 (fun h => absurd (cv_ne_t (a := (σ 0 19)) (b := 0) (by omega) (by omega) h) (by omega)) (fun c626 => ?_)
            refine J_iconst C 1 (by decide) dL_isWell_629 ?_
            refine J_goto C 634 (by decide) dL_isWell_630 ?_
            exact J_zret C hr rfl dL_isWell_634 x9 rfl hx9 rfl
        · skip
          refine J_i ((if_neg hdn) : (dnF 2001 0 σ : Int32) = (dnF 2000 1 (ticksF σ))) ?_
          refine J_if_ne C 597 (by decide) dL_isWell_590 (fun _ => ?_) (fun h => absurd h (dnF_ne (ticksF σ) 2000 1 (by omega) (by omega)))
          refine J_iconst C 0 (by decide) dL_isWell_597 ?_
          refine J_iload_n C rfl dL_isWell_598 ?_
          refine J_iload_n C rfl dL_isWell_599 ?_
          refine J_icmp_ne C 607 (by decide) dL_isWell_600 (fun c600 => ?_) (fun h => absurd (cv_ne_f (a := (sumN (wrF σ) (σ 0 4))) (b := (σ 0 4)) (by omega) (by omega) h) (by omega))
          refine J_iconst C 0 (by decide) dL_isWell_607 ?_
          refine J_icmp_ne C 633 (by decide) dL_isWell_608 (fun h => absurd h (by decide)) (fun _ => ?_)
          refine J_aload_n C rfl dL_isWell_611 ?_
          refine J_iconst C 0 (by decide) dL_isWell_612 ?_
          refine J_iconst C 4 (by decide) dL_isWell_613 ?_
          refine J_V0 (as := [.int 0, .int 4]) (rest := []) C NoX.b NoX.f (o_scribe0 l G P σ x9 4 (hg).i) (fun _ => OW_l2 _ _ _ _ _ _) 2 k405 k406 k407 k10 k408 rfl (by decide +kernel) ⟨Nat.le_of_ble_eq_true rfl, Nat.le_of_ble_eq_true rfl⟩ ⟨Nat.le_of_ble_eq_true rfl, Nat.le_of_ble_eq_true rfl⟩ dL_isWell_614 (Nat.le_of_ble_eq_true rfl) (OW_0 _ _ _ _) rfl (fun _ _ => ?_)
          refine J_st (st' := [.int (scrF σ 0 (4 : Int32).toInt)]) rfl ?_
          refine J_ws (ws' := OW G P σ x9) rfl ?_
          refine J_i ((by rw [show (4 : Int32).toInt = 4 from by decide] <;> rfl) : (scrF σ 0 (4 : Int32).toInt : Int32) = (nI (σ 0 18))) ?_
          have hdd := hg.2.1.2.2
          refine J_if_eq C 629 (by decide) dL_isWell_617 (fun c617 => ?_) (fun c617 => ?_)
          · skip
            have c617 := cv_eq_t (a := (σ 0 18)) (b := 0) (by omega) (by omega) c617
            refine J_iconst C 1 (by decide) dL_isWell_629 ?_
            refine J_goto C 634 (by decide) dL_isWell_630 ?_
            exact J_zret C hr rfl dL_isWell_634 x9 rfl hx9 rfl
          · skip
            have c617 := cv_eq_f (a := (σ 0 18)) (b := 0) (by omega) (by omega) c617
            refine J_aload_n C rfl dL_isWell_620 ?_
            refine J_iconst C 1 (by decide) dL_isWell_621 ?_
            refine J_iconst C 4 (by decide) dL_isWell_622 ?_
            refine J_V0 (as := [.int 1, .int 4]) (rest := []) C NoX.b NoX.f (o_scribe1 l G P σ x9 4 (hg).i) (fun _ => OW_l2 _ _ _ _ _ _) 2 k405 k406 k407 k10 k408 rfl (by decide +kernel) ⟨Nat.le_of_ble_eq_true rfl, Nat.le_of_ble_eq_true rfl⟩ ⟨Nat.le_of_ble_eq_true rfl, Nat.le_of_ble_eq_true rfl⟩ dL_isWell_623 (Nat.le_of_ble_eq_true rfl) (OW_0 _ _ _ _) rfl (fun _ _ => ?_)
            refine J_st (st' := [.int (scrF σ 1 (4 : Int32).toInt)]) rfl ?_
            refine J_ws (ws' := OW G P σ x9) rfl ?_
            refine J_i ((by rw [show (4 : Int32).toInt = 4 from by decide] <;> rfl) : (scrF σ 1 (4 : Int32).toInt : Int32) = (nI (σ 0 19))) ?_
            refine J_if_ne C 633 (by decide) dL_isWell_626 (fun h => absurd (cv_ne_t (a := (σ 0 19)) (b := 0) (by omega) (by omega) h) (by omega)) (fun c626 => ?_)
            refine J_iconst C 1 (by decide) dL_isWell_629 ?_
            refine J_goto C 634 (by decide) dL_isWell_630 ?_
            exact J_zret C hr rfl dL_isWell_634 x9 rfl hx9 rfl
    · skip
      refine J_aload_n C rfl dL_isWell_449 ?_
      refine J_iload C rfl dL_isWell_450 ?_
      refine J_iconst C 2 (by decide) dL_isWell_452 ?_
      refine J_V0 (as := [.int 0, .int 2]) (rest := []) C NoX.b NoX.f (o_scribe0 l G P σ x 2 (hg).i) (fun _ => OW_l2 _ _ _ _ _ _) 2 k405 k406 k407 k10 k408 rfl (by decide +kernel) ⟨Nat.le_of_ble_eq_true rfl, Nat.le_of_ble_eq_true rfl⟩ ⟨Nat.le_of_ble_eq_true rfl, Nat.le_of_ble_eq_true rfl⟩ dL_isWell_453 (Nat.le_of_ble_eq_true rfl) (OW_0 _ _ _ _) rfl (fun _ _ => ?_)
      refine J_st (st' := [.int (scrF σ 0 (2 : Int32).toInt)]) rfl ?_
      refine J_ws (ws' := OW G P σ x) rfl ?_
      refine J_i ((by rw [show (2 : Int32).toInt = 2 from by decide] <;> rfl) : (scrF σ 0 (2 : Int32).toInt : Int32) = (nxP σ 0)) ?_
      refine J_i ((if_neg hn0) : (nxP σ 0 : Int32) = (nI (σ 0 14))) ?_
      refine J_iload C rfl dL_isWell_456 ?_
      refine J_iload_n C rfl dL_isWell_458 ?_
      refine J_iconst C 2 (by decide) dL_isWell_459 ?_
      refine J_idiv C (by decide) dL_isWell_460 ?_
      refine J_i (pk_div (a := σ 0 4) (d := 2) (by omega) (by omega) (by omega) : ((nI (σ 0 4)) / 2 : Int32) = (nI ((σ 0 4) / 2))) ?_
      refine J_icmp_ne C 469 (by decide) dL_isWell_461 (fun c461 => ?_) (fun h => absurd (cv_ne_f (a := (σ 0 14)) (b := ((σ 0 4) / 2)) (by omega) (by omega) h) (by omega))
      refine J_iload C rfl dL_isWell_469 ?_
      refine J_if_ne C 479 (by decide) dL_isWell_471 (fun h => absurd h (by decide)) (fun _ => ?_)
      refine J_iload C rfl dL_isWell_474 ?_
      refine J_goto C 485 (by decide) dL_isWell_476 ?_
      refine J_icmp_ne C 512 (by decide) dL_isWell_485 (fun h => absurd (cv_ne_t (a := (σ 0 14)) (b := (σ 0 14)) (by omega) (by omega) h) (by omega)) (fun c485 => ?_)
      refine J_aload_n C rfl dL_isWell_488 ?_
      refine J_iload C rfl dL_isWell_489 ?_
      refine J_iconst C 3 (by decide) dL_isWell_491 ?_
      refine J_V0 (as := [.int 0, .int 3]) (rest := []) C NoX.b NoX.f (o_scribe0 l G P σ x 3 (hg).i) (fun _ => OW_l2 _ _ _ _ _ _) 2 k405 k406 k407 k10 k408 rfl (by decide +kernel) ⟨Nat.le_of_ble_eq_true rfl, Nat.le_of_ble_eq_true rfl⟩ ⟨Nat.le_of_ble_eq_true rfl, Nat.le_of_ble_eq_true rfl⟩ dL_isWell_492 (Nat.le_of_ble_eq_true rfl) (OW_0 _ _ _ _) rfl (fun _ _ => ?_)
      refine J_st (st' := [.int (scrF σ 0 (3 : Int32).toInt)]) rfl ?_
      refine J_ws (ws' := OW G P σ x) rfl ?_
      refine J_i ((by rw [show (3 : Int32).toInt = 3 from by decide] <;> rfl) : (scrF σ 0 (3 : Int32).toInt : Int32) = (nI (σ 0 16))) ?_
      refine J_if_lt C 512 (by decide) dL_isWell_495 (fun h => absurd h (nI_pos (by omega))) (fun _ => ?_)
      refine J_aload_n C rfl dL_isWell_498 ?_
      refine J_iload C rfl dL_isWell_499 ?_
      refine J_iconst C 4 (by decide) dL_isWell_501 ?_
      refine J_V0 (as := [.int 0, .int 4]) (rest := []) C NoX.b NoX.f (o_scribe0 l G P σ x 4 (hg).i) (fun _ => OW_l2 _ _ _ _ _ _) 2 k405 k406 k407 k10 k408 rfl (by decide +kernel) ⟨Nat.le_of_ble_eq_true rfl, Nat.le_of_ble_eq_true rfl⟩ ⟨Nat.le_of_ble_eq_true rfl, Nat.le_of_ble_eq_true rfl⟩ dL_isWell_502 (Nat.le_of_ble_eq_true rfl) (OW_0 _ _ _ _) rfl (fun _ _ => ?_)
      refine J_st (st' := [.int (scrF σ 0 (4 : Int32).toInt)]) rfl ?_
      refine J_ws (ws' := OW G P σ x) rfl ?_
      refine J_i ((by rw [show (4 : Int32).toInt = 4 from by decide] <;> rfl) : (scrF σ 0 (4 : Int32).toInt : Int32) = (nI (σ 0 18))) ?_
      refine J_if_lt C 512 (by decide) dL_isWell_505 (fun h => absurd h (nI_pos (by omega))) (fun _ => ?_)
      refine J_iconst C 1 (by decide) dL_isWell_508 ?_
      refine J_goto C 513 (by decide) dL_isWell_509 ?_
      refine J_istore C [(6, .int 1), (8, .int (nI (σ 0 14))), (7, .int 0), (0, .ref P.1), (1, .int (nI (σ 0 4))), (2, .int (nI (sumN (wrF σ) (σ 0 4)))), (3, .int (nI (sumN (fun q => σ 4 q) (σ 0 4)))), (4, .int (nI (sumN (notDue σ) (σ 0 4)))), (5, .int (nI (sumN (ndF σ) (σ 0 4))))] (by decide) rfl dL_isWell_513 ?_
      refine J_iinc C 1 [(7, .int 1), (6, .int 1), (8, .int (nI (σ 0 14))), (0, .ref P.1), (1, .int (nI (σ 0 4))), (2, .int (nI (sumN (wrF σ) (σ 0 4)))), (3, .int (nI (sumN (fun q => σ 4 q) (σ 0 4)))), (4, .int (nI (sumN (notDue σ) (σ 0 4)))), (5, .int (nI (sumN (ndF σ) (σ 0 4))))] 2 rfl (by decide) (by decide) rfl dL_isWell_515 ?_
      refine J_goto C 429 (by decide) dL_isWell_518 ?_
      refine J_iload C rfl dL_isWell_429 ?_
      refine J_iconst C 2 (by decide) dL_isWell_431 ?_
      refine J_icmp_ge C 521 (by decide) dL_isWell_432 (fun h => absurd h (by decide)) (fun _ => ?_)
      refine J_aload_n C rfl dL_isWell_435 ?_
      refine J_iload C rfl dL_isWell_436 ?_
      refine J_iconst C 1 (by decide) dL_isWell_438 ?_
      refine J_V0 (as := [.int 1, .int 1]) (rest := []) C NoX.b NoX.f (o_scribe1 l G P σ x 1 (hg).i) (fun _ => OW_l2 _ _ _ _ _ _) 2 k405 k406 k407 k10 k408 rfl (by decide +kernel) ⟨Nat.le_of_ble_eq_true rfl, Nat.le_of_ble_eq_true rfl⟩ ⟨Nat.le_of_ble_eq_true rfl, Nat.le_of_ble_eq_true rfl⟩ dL_isWell_439 (Nat.le_of_ble_eq_true rfl) (OW_0 _ _ _ _) rfl (fun _ _ => ?_)
      refine J_st (st' := [.int (scrF σ 1 (1 : Int32).toInt)]) rfl ?_
      refine J_ws (ws' := OW G P σ x) rfl ?_
      refine J_i ((by rw [show (1 : Int32).toInt = 1 from by decide] <;> rfl) : (scrF σ 1 (1 : Int32).toInt : Int32) = (nI (σ 0 15))) ?_
      refine J_istore C [(8, .int (nI (σ 0 15))), (7, .int 1), (6, .int 1), (0, .ref P.1), (1, .int (nI (σ 0 4))), (2, .int (nI (sumN (wrF σ) (σ 0 4)))), (3, .int (nI (sumN (fun q => σ 4 q) (σ 0 4)))), (4, .int (nI (sumN (notDue σ) (σ 0 4)))), (5, .int (nI (sumN (ndF σ) (σ 0 4))))] (by decide) rfl dL_isWell_442 ?_
      refine J_iload C rfl dL_isWell_444 ?_
      refine J_if_eq C 512 (by decide) dL_isWell_446 (fun h => absurd h (by decide)) (fun _ => ?_)
      by_cases hn1 : σ 0 4 ≤ 2 * σ 0 15
      · skip
        refine J_aload_n C rfl dL_isWell_449 ?_
        refine J_iload C rfl dL_isWell_450 ?_
        refine J_iconst C 2 (by decide) dL_isWell_452 ?_
        refine J_V0 (as := [.int 1, .int 2]) (rest := []) C NoX.b NoX.f (o_scribe1 l G P σ x 2 (hg).i) (fun _ => OW_l2 _ _ _ _ _ _) 2 k405 k406 k407 k10 k408 rfl (by decide +kernel) ⟨Nat.le_of_ble_eq_true rfl, Nat.le_of_ble_eq_true rfl⟩ ⟨Nat.le_of_ble_eq_true rfl, Nat.le_of_ble_eq_true rfl⟩ dL_isWell_453 (Nat.le_of_ble_eq_true rfl) (OW_0 _ _ _ _) rfl (fun _ _ => ?_)
        refine J_st (st' := [.int (scrF σ 1 (2 : Int32).toInt)]) rfl ?_
        refine J_ws (ws' := OW G P σ x) rfl ?_
        refine J_i ((by rw [show (2 : Int32).toInt = 2 from by decide] <;> rfl) : (scrF σ 1 (2 : Int32).toInt : Int32) = (nxP σ 1)) ?_
        refine J_i ((if_pos hn1) : (nxP σ 1 : Int32) = (-5)) ?_
        refine J_iload C rfl dL_isWell_456 ?_
        refine J_iload_n C rfl dL_isWell_458 ?_
        refine J_iconst C 2 (by decide) dL_isWell_459 ?_
        refine J_idiv C (by decide) dL_isWell_460 ?_
        refine J_i (pk_div (a := σ 0 4) (d := 2) (by omega) (by omega) (by omega) : ((nI (σ 0 4)) / 2 : Int32) = (nI ((σ 0 4) / 2))) ?_
        refine J_icmp_ne C 469 (by decide) dL_isWell_461 (fun h => absurd (cv_ne_t (a := (σ 0 15)) (b := ((σ 0 4) / 2)) (by omega) (by omega) h) (by omega)) (fun c461 => ?_)
        refine J_bipush C (-5) (by decide) dL_isWell_464 ?_
        refine J_goto C 485 (by decide) dL_isWell_466 ?_
        refine J_icmp_ne C 512 (by decide) dL_isWell_485 (fun h => absurd h (by decide)) (fun _ => ?_)
        refine J_aload_n C rfl dL_isWell_488 ?_
        refine J_iload C rfl dL_isWell_489 ?_
        refine J_iconst C 3 (by decide) dL_isWell_491 ?_
        refine J_V0 (as := [.int 1, .int 3]) (rest := []) C NoX.b NoX.f (o_scribe1 l G P σ x 3 (hg).i) (fun _ => OW_l2 _ _ _ _ _ _) 2 k405 k406 k407 k10 k408 rfl (by decide +kernel) ⟨Nat.le_of_ble_eq_true rfl, Nat.le_of_ble_eq_true rfl⟩ ⟨Nat.le_of_ble_eq_true rfl, Nat.le_of_ble_eq_true rfl⟩ dL_isWell_492 (Nat.le_of_ble_eq_true rfl) (OW_0 _ _ _ _) rfl (fun _ _ => ?_)
        refine J_st (st' := [.int (scrF σ 1 (3 : Int32).toInt)]) rfl ?_
        refine J_ws (ws' := OW G P σ x) rfl ?_
        refine J_i ((by rw [show (3 : Int32).toInt = 3 from by decide] <;> rfl) : (scrF σ 1 (3 : Int32).toInt : Int32) = (nI (σ 0 17))) ?_
        refine J_if_lt C 512 (by decide) dL_isWell_495 (fun h => absurd h (nI_pos (by omega))) (fun _ => ?_)
        refine J_aload_n C rfl dL_isWell_498 ?_
        refine J_iload C rfl dL_isWell_499 ?_
        refine J_iconst C 4 (by decide) dL_isWell_501 ?_
        refine J_V0 (as := [.int 1, .int 4]) (rest := []) C NoX.b NoX.f (o_scribe1 l G P σ x 4 (hg).i) (fun _ => OW_l2 _ _ _ _ _ _) 2 k405 k406 k407 k10 k408 rfl (by decide +kernel) ⟨Nat.le_of_ble_eq_true rfl, Nat.le_of_ble_eq_true rfl⟩ ⟨Nat.le_of_ble_eq_true rfl, Nat.le_of_ble_eq_true rfl⟩ dL_isWell_502 (Nat.le_of_ble_eq_true rfl) (OW_0 _ _ _ _) rfl (fun _ _ => ?_)
        refine J_st (st' := [.int (scrF σ 1 (4 : Int32).toInt)]) rfl ?_
        refine J_ws (ws' := OW G P σ x) rfl ?_
        refine J_i ((by rw [show (4 : Int32).toInt = 4 from by decide] <;> rfl) : (scrF σ 1 (4 : Int32).toInt : Int32) = (nI (σ 0 19))) ?_
        refine J_if_lt C 512 (by decide) dL_isWell_505 (fun h => absurd h (nI_pos (by omega))) (fun _ => ?_)
        refine J_iconst C 1 (by decide) dL_isWell_508 ?_
        refine J_goto C 513 (by decide) dL_isWell_509 ?_
        refine J_istore C [(6, .int 1), (8, .int (nI (σ 0 15))), (7, .int 1), (0, .ref P.1), (1, .int (nI (σ 0 4))), (2, .int (nI (sumN (wrF σ) (σ 0 4)))), (3, .int (nI (sumN (fun q => σ 4 q) (σ 0 4)))), (4, .int (nI (sumN (notDue σ) (σ 0 4)))), (5, .int (nI (sumN (ndF σ) (σ 0 4))))] (by decide) rfl dL_isWell_513 ?_
        refine J_iinc C 2 [(7, .int 2), (6, .int 1), (8, .int (nI (σ 0 15))), (0, .ref P.1), (1, .int (nI (σ 0 4))), (2, .int (nI (sumN (wrF σ) (σ 0 4)))), (3, .int (nI (sumN (fun q => σ 4 q) (σ 0 4)))), (4, .int (nI (sumN (notDue σ) (σ 0 4)))), (5, .int (nI (sumN (ndF σ) (σ 0 4))))] 2 rfl (by decide) (by decide) rfl dL_isWell_515 ?_
        refine J_goto C 429 (by decide) dL_isWell_518 ?_
        refine J_iload C rfl dL_isWell_429 ?_
        refine J_iconst C 2 (by decide) dL_isWell_431 ?_
        refine J_icmp_ge C 521 (by decide) dL_isWell_432 (fun _ => ?_) (fun h => absurd h (by decide))
        refine J_iload C rfl dL_isWell_521 ?_
        refine J_if_eq C 633 (by decide) dL_isWell_523 (fun h => absurd h (by decide)) (fun _ => ?_)
        refine J_iload_n C rfl dL_isWell_526 ?_
        refine J_aload_n C rfl dL_isWell_527 ?_
        refine J_iconst C 2 (by decide) dL_isWell_528 ?_
        refine J_V0 (as := [.int 2]) (rest := [.int (nI (sumN (wrF σ) (σ 0 4)))]) C NoX.b NoX.f (o_count l G P σ x 2 (hg).i (hg).d) (fun _ => OW_l2 _ _ _ _ _ _) 1 k382 k383 k384 k10 k385 rfl (by decide +kernel) ⟨Nat.le_of_ble_eq_true rfl, Nat.le_of_ble_eq_true rfl⟩ ⟨Nat.le_of_ble_eq_true rfl, Nat.le_of_ble_eq_true rfl⟩ dL_isWell_529 (Nat.le_of_ble_eq_true rfl) (OW_0 _ _ _ _) rfl (fun _ _ => ?_)
        refine J_st (st' := [.int (cntF σ x.2.2.2.1.2.2.2 x.2.2.2.2.1.2 (2 : Int32).toInt), .int (nI (sumN (wrF σ) (σ 0 4)))]) rfl ?_
        refine J_ws (ws' := OW G P σ x) rfl ?_
        refine J_i ((by rw [show (2 : Int32).toInt = 2 from by decide] <;> rfl) : (cntF σ x.2.2.2.1.2.2.2 x.2.2.2.2.1.2 (2 : Int32).toInt : Int32) = (nI (σ 0 14 + σ 0 15))) ?_
        refine J_icmp_ne C 633 (by decide) dL_isWell_532 (fun h => absurd (cv_ne_t (a := (sumN (wrF σ) (σ 0 4))) (b := (σ 0 14 + σ 0 15)) (by omega) (by omega) h) (by omega)) (fun c532 => ?_)
        refine J_iload_n C rfl dL_isWell_535 ?_
        refine J_aload_n C rfl dL_isWell_536 ?_
        refine J_iconst C 0 (by decide) dL_isWell_537 ?_
        refine J_iconst C 1 (by decide) dL_isWell_538 ?_
        refine J_V0 (as := [.int 0, .int 1]) (rest := [.int (nI (sumN (wrF σ) (σ 0 4)))]) C NoX.b NoX.f (o_scribe0 l G P σ x 1 (hg).i) (fun _ => OW_l2 _ _ _ _ _ _) 2 k405 k406 k407 k10 k408 rfl (by decide +kernel) ⟨Nat.le_of_ble_eq_true rfl, Nat.le_of_ble_eq_true rfl⟩ ⟨Nat.le_of_ble_eq_true rfl, Nat.le_of_ble_eq_true rfl⟩ dL_isWell_539 (Nat.le_of_ble_eq_true rfl) (OW_0 _ _ _ _) rfl (fun _ _ => ?_)
        refine J_st (st' := [.int (scrF σ 0 (1 : Int32).toInt), .int (nI (sumN (wrF σ) (σ 0 4)))]) rfl ?_
        refine J_ws (ws' := OW G P σ x) rfl ?_
        refine J_i ((by rw [show (1 : Int32).toInt = 1 from by decide] <;> rfl) : (scrF σ 0 (1 : Int32).toInt : Int32) = (nI (σ 0 14))) ?_
        refine J_aload_n C rfl dL_isWell_542 ?_
        refine J_iconst C 1 (by decide) dL_isWell_543 ?_
        refine J_iconst C 1 (by decide) dL_isWell_544 ?_
        refine J_V0 (as := [.int 1, .int 1]) (rest := [.int (nI (σ 0 14)), .int (nI (sumN (wrF σ) (σ 0 4)))]) C NoX.b NoX.f (o_scribe1 l G P σ x 1 (hg).i) (fun _ => OW_l2 _ _ _ _ _ _) 2 k405 k406 k407 k10 k408 rfl (by decide +kernel) ⟨Nat.le_of_ble_eq_true rfl, Nat.le_of_ble_eq_true rfl⟩ ⟨Nat.le_of_ble_eq_true rfl, Nat.le_of_ble_eq_true rfl⟩ dL_isWell_545 (Nat.le_of_ble_eq_true rfl) (OW_0 _ _ _ _) rfl (fun _ _ => ?_)
        refine J_st (st' := [.int (scrF σ 1 (1 : Int32).toInt), .int (nI (σ 0 14)), .int (nI (sumN (wrF σ) (σ 0 4)))]) rfl ?_
        refine J_ws (ws' := OW G P σ x) rfl ?_
        refine J_i ((by rw [show (1 : Int32).toInt = 1 from by decide] <;> rfl) : (scrF σ 1 (1 : Int32).toInt : Int32) = (nI (σ 0 15))) ?_
        refine J_iadd C dL_isWell_548 ?_
        refine J_i (nI_add (σ 0 14) (σ 0 15) : ((nI (σ 0 14)) + (nI (σ 0 15)) : Int32) = (nI (σ 0 14 + σ 0 15))) ?_
        refine J_icmp_ne C 633 (by decide) dL_isWell_549 (fun h => absurd (cv_ne_t (a := (sumN (wrF σ) (σ 0 4))) (b := (σ 0 14 + σ 0 15)) (by omega) (by omega) h) (by omega)) (fun c549 => ?_)
        refine J_iload_n C rfl dL_isWell_552 ?_
        refine J_aload_n C rfl dL_isWell_553 ?_
        refine J_iconst C 3 (by decide) dL_isWell_554 ?_
        refine J_V0 (as := [.int 3]) (rest := [.int (nI (sumN (fun q => σ 4 q) (σ 0 4)))]) C NoX.b NoX.f (o_count l G P σ x 3 (hg).i (hg).d) (fun _ => OW_l2 _ _ _ _ _ _) 1 k382 k383 k384 k10 k385 rfl (by decide +kernel) ⟨Nat.le_of_ble_eq_true rfl, Nat.le_of_ble_eq_true rfl⟩ ⟨Nat.le_of_ble_eq_true rfl, Nat.le_of_ble_eq_true rfl⟩ dL_isWell_555 (Nat.le_of_ble_eq_true rfl) (OW_0 _ _ _ _) rfl (fun _ _ => ?_)
        refine J_st (st' := [.int (cntF σ x.2.2.2.1.2.2.2 x.2.2.2.2.1.2 (3 : Int32).toInt), .int (nI (sumN (fun q => σ 4 q) (σ 0 4)))]) rfl ?_
        refine J_ws (ws' := OW G P σ x) rfl ?_
        refine J_i ((by rw [show (3 : Int32).toInt = 3 from by decide] <;> rfl) : (cntF σ x.2.2.2.1.2.2.2 x.2.2.2.2.1.2 (3 : Int32).toInt : Int32) = (nI (sumN (fun q => σ 4 q) (σ 0 4)))) ?_
        refine J_icmp_ne C 633 (by decide) dL_isWell_558 (fun h => absurd h (fun q => q rfl)) (fun _ => ?_)
        refine J_iload C rfl dL_isWell_561 ?_
        refine J_aload_n C rfl dL_isWell_563 ?_
        refine J_iconst C 4 (by decide) dL_isWell_564 ?_
        refine J_V0 (as := [.int 4]) (rest := [.int (nI (sumN (notDue σ) (σ 0 4)))]) C NoX.b NoX.f (o_count l G P σ x 4 (hg).i (hg).d) (fun _ => OW_l2 _ _ _ _ _ _) 1 k382 k383 k384 k10 k385 rfl (by decide +kernel) ⟨Nat.le_of_ble_eq_true rfl, Nat.le_of_ble_eq_true rfl⟩ ⟨Nat.le_of_ble_eq_true rfl, Nat.le_of_ble_eq_true rfl⟩ dL_isWell_565 (Nat.le_of_ble_eq_true rfl) (OW_0 _ _ _ _) rfl (fun _ _ => ?_)
        refine J_st (st' := [.int (cntF σ x.2.2.2.1.2.2.2 x.2.2.2.2.1.2 (4 : Int32).toInt), .int (nI (sumN (notDue σ) (σ 0 4)))]) rfl ?_
        refine J_ws (ws' := OW G P σ x) rfl ?_
        refine J_i ((by rw [show (4 : Int32).toInt = 4 from by decide] <;> rfl) : (cntF σ x.2.2.2.1.2.2.2 x.2.2.2.2.1.2 (4 : Int32).toInt : Int32) = (nI (sumN (notDue σ) (σ 0 4)))) ?_
        refine J_icmp_ne C 633 (by decide) dL_isWell_568 (fun h => absurd h (fun q => q rfl)) (fun _ => ?_)
        refine J_aload_n C rfl dL_isWell_571 ?_
        refine J_V0 (as := []) (rest := []) C NoX.b NoX.f (o_needed l G P σ x (hg).i (hg).d) (fun _ => OW_l2 _ _ _ _ _ _) 0 k508 k509 k510 k10 k511 rfl (by decide +kernel) ⟨Nat.le_of_ble_eq_true rfl, Nat.le_of_ble_eq_true rfl⟩ ⟨Nat.le_of_ble_eq_true rfl, Nat.le_of_ble_eq_true rfl⟩ dL_isWell_572 (Nat.le_of_ble_eq_true rfl) (OW_0 _ _ _ _) rfl (fun _ _ => ?_)
        refine J_st (st' := [.double (dl (sumN (ndF σ) (σ 0 4)))]) rfl ?_
        refine J_ws (ws' := OW G P σ x) rfl ?_
        refine J_ldc2d C k555 dL_isWell_575 ?_
        refine J_dmul C (by rw [dl_mul (n := sumN (ndF σ) (σ 0 4)) (by omega)]; exact dt_num (by omega) (by omega)) dL_isWell_578 ?_
        refine J_d (dl_mul (n := sumN (ndF σ) (σ 0 4)) (by omega) : (FP.dmul (dl (sumN (ndF σ) (σ 0 4))) 4634204016564240384 : UInt64) = (dt 0 (sumN (ndF σ) (σ 0 4)))) ?_
        refine J_iload C rfl dL_isWell_579 ?_
        refine J_i2d C dL_isWell_581 ?_
        refine J_d (di_i2 (n := sumN (ndF σ) (σ 0 4)) (by omega) : (FP.i2d (nI (sumN (ndF σ) (σ 0 4))) : UInt64) = (dt 0 (sumN (ndF σ) (σ 0 4)))) ?_
        refine J_dcmp C dL_isWell_582 ?_
        refine J_i (((dt_cmp (t := 0) (a := sumN (ndF σ) (σ 0 4)) (b := sumN (ndF σ) (σ 0 4)) (by omega) (by omega) (by omega) _).trans ((if_neg (Nat.lt_irrefl _)).trans (if_pos rfl))) : (Op.cmpValue (FP.dcmp (dt 0 (sumN (ndF σ) (σ 0 4))) (dt 0 (sumN (ndF σ) (σ 0 4)))) .l : Int32) = 0) ?_
        refine J_if_ne C 633 (by decide) dL_isWell_583 (fun h => absurd h (by decide)) (fun _ => ?_)
        refine J_aload_n C rfl dL_isWell_586 ?_
        refine J_V0 (as := []) (rest := []) C NoX.b NoX.f (o_doneIn l G P σ x hg.i hg.d hg.1.2.2.2 hV) (fun _ => OW_l2 _ _ _ _ _ _) 0 k513 k514 k515 k10 k516 rfl (by decide +kernel) ⟨Nat.le_of_ble_eq_true rfl, Nat.le_of_ble_eq_true rfl⟩ ⟨Nat.le_of_ble_eq_true rfl, Nat.le_of_ble_eq_true rfl⟩ dL_isWell_587 (Nat.le_of_ble_eq_true rfl) (OW_0 _ _ _ _) rfl (fun x9 hx9 => ?_)
        refine J_st (st' := [.int (dnF 2001 0 σ)]) rfl ?_
        refine J_ws (ws' := OW G P σ x9) rfl ?_
        by_cases hdn : σ 0 4 ≤ σ 0 14 + σ 0 15
        · skip
          refine J_i ((if_pos hdn) : (dnF 2001 0 σ : Int32) = 0) ?_
          refine J_if_ne C 597 (by decide) dL_isWell_590 (fun h => absurd h (by decide)) (fun _ => ?_)
          refine J_iconst C 1 (by decide) dL_isWell_593 ?_
          refine J_goto C 598 (by decide) dL_isWell_594 ?_
          refine J_iload_n C rfl dL_isWell_598 ?_
          refine J_iload_n C rfl dL_isWell_599 ?_
          refine J_icmp_ne C 607 (by decide) dL_isWell_600 (fun h => absurd (cv_ne_t (a := (sumN (wrF σ) (σ 0 4))) (b := (σ 0 4)) (by omega) (by omega) h) (by omega)) (fun c600 => ?_)
          refine J_iconst C 1 (by decide) dL_isWell_603 ?_
          refine J_goto C 608 (by decide) dL_isWell_604 ?_
          refine J_icmp_ne C 633 (by decide) dL_isWell_608 (fun h => absurd h (by decide)) (fun _ => ?_)
          refine J_aload_n C rfl dL_isWell_611 ?_
          refine J_iconst C 0 (by decide) dL_isWell_612 ?_
          refine J_iconst C 4 (by decide) dL_isWell_613 ?_
          refine J_V0 (as := [.int 0, .int 4]) (rest := []) C NoX.b NoX.f (o_scribe0 l G P σ x9 4 (hg).i) (fun _ => OW_l2 _ _ _ _ _ _) 2 k405 k406 k407 k10 k408 rfl (by decide +kernel) ⟨Nat.le_of_ble_eq_true rfl, Nat.le_of_ble_eq_true rfl⟩ ⟨Nat.le_of_ble_eq_true rfl, Nat.le_of_ble_eq_true rfl⟩ dL_isWell_614 (Nat.le_of_ble_eq_true rfl) (OW_0 _ _ _ _) rfl (fun _ _ => ?_)
          refine J_st (st' := [.int (scrF σ 0 (4 : Int32).toInt)]) rfl ?_
          refine J_ws (ws' := OW G P σ x9) rfl ?_
          refine J_i ((by rw [show (4 : Int32).toInt = 4 from by decide] <;> rfl) : (scrF σ 0 (4 : Int32).toInt : Int32) = (nI (σ 0 18))) ?_
          have hdd := hg.2.1.2.2
          refine J_if_eq C 629 (by decide) dL_isWell_617 (fun c617 => ?_) (fun c617 => ?_)
          · skip
            have c617 := cv_eq_t (a := (σ 0 18)) (b := 0) (by omega) (by omega) c617
            refine J_iconst C 1 (by decide) dL_isWell_629 ?_
            refine J_goto C 634 (by decide) dL_isWell_630 ?_
            exact J_zret C hr rfl dL_isWell_634 x9 rfl hx9 rfl
          · skip
            have c617 := cv_eq_f (a := (σ 0 18)) (b := 0) (by omega) (by omega) c617
            refine J_aload_n C rfl dL_isWell_620 ?_
            refine J_iconst C 1 (by decide) dL_isWell_621 ?_
            refine J_iconst C 4 (by decide) dL_isWell_622 ?_
            refine J_V0 (as := [.int 1, .int 4]) (rest := []) C NoX.b NoX.f (o_scribe1 l G P σ x9 4 (hg).i) (fun _ => OW_l2 _ _ _ _ _ _) 2 k405 k406 k407 k10 k408 rfl (by decide +kernel) ⟨Nat.le_of_ble_eq_true rfl, Nat.le_of_ble_eq_true rfl⟩ ⟨Nat.le_of_ble_eq_true rfl, Nat.le_of_ble_eq_true rfl⟩ dL_isWell_623 (Nat.le_of_ble_eq_true rfl) (OW_0 _ _ _ _) rfl (fun _ _ => ?_)
            refine J_st (st' := [.int (scrF σ 1 (4 : Int32).toInt)]) rfl ?_
            refine J_ws (ws' := OW G P σ x9) rfl ?_
            refine J_i ((by rw [show (4 : Int32).toInt = 4 from by decide] <;> rfl) : (scrF σ 1 (4 : Int32).toInt : Int32) = (nI (σ 0 19))) ?_
            refine J_if_ne C 633 (by decide) dL_isWell_626 (fun h => absurd (cv_ne_t (a := (σ 0 19)) (b := 0) (by omega) (by omega) h) (by omega)) (fun c626 => ?_)
            refine J_iconst C 1 (by decide) dL_isWell_629 ?_
            refine J_goto C 634 (by decide) dL_isWell_630 ?_
            exact J_zret C hr rfl dL_isWell_634 x9 rfl hx9 rfl
        · skip
          refine J_i ((if_neg hdn) : (dnF 2001 0 σ : Int32) = (dnF 2000 1 (ticksF σ))) ?_
          refine J_if_ne C 597 (by decide) dL_isWell_590 (fun _ => ?_) (fun h => absurd h (dnF_ne (ticksF σ) 2000 1 (by omega) (by omega)))
          refine J_iconst C 0 (by decide) dL_isWell_597 ?_
          refine J_iload_n C rfl dL_isWell_598 ?_
          refine J_iload_n C rfl dL_isWell_599 ?_
          refine J_icmp_ne C 607 (by decide) dL_isWell_600 (fun c600 => ?_) (fun h => absurd (cv_ne_f (a := (sumN (wrF σ) (σ 0 4))) (b := (σ 0 4)) (by omega) (by omega) h) (by omega))
          refine J_iconst C 0 (by decide) dL_isWell_607 ?_
          refine J_icmp_ne C 633 (by decide) dL_isWell_608 (fun h => absurd h (by decide)) (fun _ => ?_)
          refine J_aload_n C rfl dL_isWell_611 ?_
          refine J_iconst C 0 (by decide) dL_isWell_612 ?_
          refine J_iconst C 4 (by decide) dL_isWell_613 ?_
          refine J_V0 (as := [.int 0, .int 4]) (rest := []) C NoX.b NoX.f (o_scribe0 l G P σ x9 4 (hg).i) (fun _ => OW_l2 _ _ _ _ _ _) 2 k405 k406 k407 k10 k408 rfl (by decide +kernel) ⟨Nat.le_of_ble_eq_true rfl, Nat.le_of_ble_eq_true rfl⟩ ⟨Nat.le_of_ble_eq_true rfl, Nat.le_of_ble_eq_true rfl⟩ dL_isWell_614 (Nat.le_of_ble_eq_true rfl) (OW_0 _ _ _ _) rfl (fun _ _ => ?_)
          refine J_st (st' := [.int (scrF σ 0 (4 : Int32).toInt)]) rfl ?_
          refine J_ws (ws' := OW G P σ x9) rfl ?_
          refine J_i ((by rw [show (4 : Int32).toInt = 4 from by decide] <;> rfl) : (scrF σ 0 (4 : Int32).toInt : Int32) = (nI (σ 0 18))) ?_
          have hdd := hg.2.1.2.2
          refine J_if_eq C 629 (by decide) dL_isWell_617 (fun c617 => ?_) (fun c617 => ?_)
          · skip
            have c617 := cv_eq_t (a := (σ 0 18)) (b := 0) (by omega) (by omega) c617
            refine J_iconst C 1 (by decide) dL_isWell_629 ?_
            refine J_goto C 634 (by decide) dL_isWell_630 ?_
            exact J_zret C hr rfl dL_isWell_634 x9 rfl hx9 rfl
          · skip
            have c617 := cv_eq_f (a := (σ 0 18)) (b := 0) (by omega) (by omega) c617
            refine J_aload_n C rfl dL_isWell_620 ?_
            refine J_iconst C 1 (by decide) dL_isWell_621 ?_
            refine J_iconst C 4 (by decide) dL_isWell_622 ?_
            refine J_V0 (as := [.int 1, .int 4]) (rest := []) C NoX.b NoX.f (o_scribe1 l G P σ x9 4 (hg).i) (fun _ => OW_l2 _ _ _ _ _ _) 2 k405 k406 k407 k10 k408 rfl (by decide +kernel) ⟨Nat.le_of_ble_eq_true rfl, Nat.le_of_ble_eq_true rfl⟩ ⟨Nat.le_of_ble_eq_true rfl, Nat.le_of_ble_eq_true rfl⟩ dL_isWell_623 (Nat.le_of_ble_eq_true rfl) (OW_0 _ _ _ _) rfl (fun _ _ => ?_)
            refine J_st (st' := [.int (scrF σ 1 (4 : Int32).toInt)]) rfl ?_
            refine J_ws (ws' := OW G P σ x9) rfl ?_
            refine J_i ((by rw [show (4 : Int32).toInt = 4 from by decide] <;> rfl) : (scrF σ 1 (4 : Int32).toInt : Int32) = (nI (σ 0 19))) ?_
            refine J_if_ne C 633 (by decide) dL_isWell_626 (fun h => absurd (cv_ne_t (a := (σ 0 19)) (b := 0) (by omega) (by omega) h) (by omega)) (fun c626 => ?_)
            refine J_iconst C 1 (by decide) dL_isWell_629 ?_
            refine J_goto C 634 (by decide) dL_isWell_630 ?_
            exact J_zret C hr rfl dL_isWell_634 x9 rfl hx9 rfl
      · skip
        refine J_aload_n C rfl dL_isWell_449 ?_
        refine J_iload C rfl dL_isWell_450 ?_
        refine J_iconst C 2 (by decide) dL_isWell_452 ?_
        refine J_V0 (as := [.int 1, .int 2]) (rest := []) C NoX.b NoX.f (o_scribe1 l G P σ x 2 (hg).i) (fun _ => OW_l2 _ _ _ _ _ _) 2 k405 k406 k407 k10 k408 rfl (by decide +kernel) ⟨Nat.le_of_ble_eq_true rfl, Nat.le_of_ble_eq_true rfl⟩ ⟨Nat.le_of_ble_eq_true rfl, Nat.le_of_ble_eq_true rfl⟩ dL_isWell_453 (Nat.le_of_ble_eq_true rfl) (OW_0 _ _ _ _) rfl (fun _ _ => ?_)
        refine J_st (st' := [.int (scrF σ 1 (2 : Int32).toInt)]) rfl ?_
        refine J_ws (ws' := OW G P σ x) rfl ?_
        refine J_i ((by rw [show (2 : Int32).toInt = 2 from by decide] <;> rfl) : (scrF σ 1 (2 : Int32).toInt : Int32) = (nxP σ 1)) ?_
        refine J_i ((if_neg hn1) : (nxP σ 1 : Int32) = (nI (σ 0 4 - 1 - σ 0 15))) ?_
        refine J_iload C rfl dL_isWell_456 ?_
        refine J_iload_n C rfl dL_isWell_458 ?_
        refine J_iconst C 2 (by decide) dL_isWell_459 ?_
        refine J_idiv C (by decide) dL_isWell_460 ?_
        refine J_i (pk_div (a := σ 0 4) (d := 2) (by omega) (by omega) (by omega) : ((nI (σ 0 4)) / 2 : Int32) = (nI ((σ 0 4) / 2))) ?_
        refine J_icmp_ne C 469 (by decide) dL_isWell_461 (fun c461 => ?_) (fun h => absurd (cv_ne_f (a := (σ 0 15)) (b := ((σ 0 4) / 2)) (by omega) (by omega) h) (by omega))
        refine J_iload C rfl dL_isWell_469 ?_
        refine J_if_ne C 479 (by decide) dL_isWell_471 (fun _ => ?_) (fun h => absurd h (by decide))
        refine J_iload_n C rfl dL_isWell_479 ?_
        refine J_iconst C 1 (by decide) dL_isWell_480 ?_
        refine J_isub C dL_isWell_481 ?_
        refine J_i (pk_sub (a := σ 0 4) (b := 1) (by omega) : ((nI (σ 0 4)) - 1 : Int32) = (nI (σ 0 4 - 1))) ?_
        refine J_iload C rfl dL_isWell_482 ?_
        refine J_isub C dL_isWell_484 ?_
        refine J_i (pk_sub (a := σ 0 4 - 1) (b := σ 0 15) (by omega) : ((nI (σ 0 4 - 1)) - (nI (σ 0 15)) : Int32) = (nI ((σ 0 4 - 1) - (σ 0 15)))) ?_
        refine J_icmp_ne C 512 (by decide) dL_isWell_485 (fun h => absurd (cv_ne_t (a := (σ 0 4 - 1 - σ 0 15)) (b := ((σ 0 4 - 1) - (σ 0 15))) (by omega) (by omega) h) (by omega)) (fun c485 => ?_)
        refine J_aload_n C rfl dL_isWell_488 ?_
        refine J_iload C rfl dL_isWell_489 ?_
        refine J_iconst C 3 (by decide) dL_isWell_491 ?_
        refine J_V0 (as := [.int 1, .int 3]) (rest := []) C NoX.b NoX.f (o_scribe1 l G P σ x 3 (hg).i) (fun _ => OW_l2 _ _ _ _ _ _) 2 k405 k406 k407 k10 k408 rfl (by decide +kernel) ⟨Nat.le_of_ble_eq_true rfl, Nat.le_of_ble_eq_true rfl⟩ ⟨Nat.le_of_ble_eq_true rfl, Nat.le_of_ble_eq_true rfl⟩ dL_isWell_492 (Nat.le_of_ble_eq_true rfl) (OW_0 _ _ _ _) rfl (fun _ _ => ?_)
        refine J_st (st' := [.int (scrF σ 1 (3 : Int32).toInt)]) rfl ?_
        refine J_ws (ws' := OW G P σ x) rfl ?_
        refine J_i ((by rw [show (3 : Int32).toInt = 3 from by decide] <;> rfl) : (scrF σ 1 (3 : Int32).toInt : Int32) = (nI (σ 0 17))) ?_
        refine J_if_lt C 512 (by decide) dL_isWell_495 (fun h => absurd h (nI_pos (by omega))) (fun _ => ?_)
        refine J_aload_n C rfl dL_isWell_498 ?_
        refine J_iload C rfl dL_isWell_499 ?_
        refine J_iconst C 4 (by decide) dL_isWell_501 ?_
        refine J_V0 (as := [.int 1, .int 4]) (rest := []) C NoX.b NoX.f (o_scribe1 l G P σ x 4 (hg).i) (fun _ => OW_l2 _ _ _ _ _ _) 2 k405 k406 k407 k10 k408 rfl (by decide +kernel) ⟨Nat.le_of_ble_eq_true rfl, Nat.le_of_ble_eq_true rfl⟩ ⟨Nat.le_of_ble_eq_true rfl, Nat.le_of_ble_eq_true rfl⟩ dL_isWell_502 (Nat.le_of_ble_eq_true rfl) (OW_0 _ _ _ _) rfl (fun _ _ => ?_)
        refine J_st (st' := [.int (scrF σ 1 (4 : Int32).toInt)]) rfl ?_
        refine J_ws (ws' := OW G P σ x) rfl ?_
        refine J_i ((by rw [show (4 : Int32).toInt = 4 from by decide] <;> rfl) : (scrF σ 1 (4 : Int32).toInt : Int32) = (nI (σ 0 19))) ?_
        refine J_if_lt C 512 (by decide) dL_isWell_505 (fun h => absurd h (nI_pos (by omega))) (fun _ => ?_)
        refine J_iconst C 1 (by decide) dL_isWell_508 ?_
        refine J_goto C 513 (by decide) dL_isWell_509 ?_
        refine J_istore C [(6, .int 1), (8, .int (nI (σ 0 15))), (7, .int 1), (0, .ref P.1), (1, .int (nI (σ 0 4))), (2, .int (nI (sumN (wrF σ) (σ 0 4)))), (3, .int (nI (sumN (fun q => σ 4 q) (σ 0 4)))), (4, .int (nI (sumN (notDue σ) (σ 0 4)))), (5, .int (nI (sumN (ndF σ) (σ 0 4))))] (by decide) rfl dL_isWell_513 ?_
        refine J_iinc C 2 [(7, .int 2), (6, .int 1), (8, .int (nI (σ 0 15))), (0, .ref P.1), (1, .int (nI (σ 0 4))), (2, .int (nI (sumN (wrF σ) (σ 0 4)))), (3, .int (nI (sumN (fun q => σ 4 q) (σ 0 4)))), (4, .int (nI (sumN (notDue σ) (σ 0 4)))), (5, .int (nI (sumN (ndF σ) (σ 0 4))))] 2 rfl (by decide) (by decide) rfl dL_isWell_515 ?_
        refine J_goto C 429 (by decide) dL_isWell_518 ?_
        refine J_iload C rfl dL_isWell_429 ?_
        refine J_iconst C 2 (by decide) dL_isWell_431 ?_
        refine J_icmp_ge C 521 (by decide) dL_isWell_432 (fun _ => ?_) (fun h => absurd h (by decide))
        refine J_iload C rfl dL_isWell_521 ?_
        refine J_if_eq C 633 (by decide) dL_isWell_523 (fun h => absurd h (by decide)) (fun _ => ?_)
        refine J_iload_n C rfl dL_isWell_526 ?_
        refine J_aload_n C rfl dL_isWell_527 ?_
        refine J_iconst C 2 (by decide) dL_isWell_528 ?_
        refine J_V0 (as := [.int 2]) (rest := [.int (nI (sumN (wrF σ) (σ 0 4)))]) C NoX.b NoX.f (o_count l G P σ x 2 (hg).i (hg).d) (fun _ => OW_l2 _ _ _ _ _ _) 1 k382 k383 k384 k10 k385 rfl (by decide +kernel) ⟨Nat.le_of_ble_eq_true rfl, Nat.le_of_ble_eq_true rfl⟩ ⟨Nat.le_of_ble_eq_true rfl, Nat.le_of_ble_eq_true rfl⟩ dL_isWell_529 (Nat.le_of_ble_eq_true rfl) (OW_0 _ _ _ _) rfl (fun _ _ => ?_)
        refine J_st (st' := [.int (cntF σ x.2.2.2.1.2.2.2 x.2.2.2.2.1.2 (2 : Int32).toInt), .int (nI (sumN (wrF σ) (σ 0 4)))]) rfl ?_
        refine J_ws (ws' := OW G P σ x) rfl ?_
        refine J_i ((by rw [show (2 : Int32).toInt = 2 from by decide] <;> rfl) : (cntF σ x.2.2.2.1.2.2.2 x.2.2.2.2.1.2 (2 : Int32).toInt : Int32) = (nI (σ 0 14 + σ 0 15))) ?_
        refine J_icmp_ne C 633 (by decide) dL_isWell_532 (fun h => absurd (cv_ne_t (a := (sumN (wrF σ) (σ 0 4))) (b := (σ 0 14 + σ 0 15)) (by omega) (by omega) h) (by omega)) (fun c532 => ?_)
        refine J_iload_n C rfl dL_isWell_535 ?_
        refine J_aload_n C rfl dL_isWell_536 ?_
        refine J_iconst C 0 (by decide) dL_isWell_537 ?_
        refine J_iconst C 1 (by decide) dL_isWell_538 ?_
        refine J_V0 (as := [.int 0, .int 1]) (rest := [.int (nI (sumN (wrF σ) (σ 0 4)))]) C NoX.b NoX.f (o_scribe0 l G P σ x 1 (hg).i) (fun _ => OW_l2 _ _ _ _ _ _) 2 k405 k406 k407 k10 k408 rfl (by decide +kernel) ⟨Nat.le_of_ble_eq_true rfl, Nat.le_of_ble_eq_true rfl⟩ ⟨Nat.le_of_ble_eq_true rfl, Nat.le_of_ble_eq_true rfl⟩ dL_isWell_539 (Nat.le_of_ble_eq_true rfl) (OW_0 _ _ _ _) rfl (fun _ _ => ?_)
        refine J_st (st' := [.int (scrF σ 0 (1 : Int32).toInt), .int (nI (sumN (wrF σ) (σ 0 4)))]) rfl ?_
        refine J_ws (ws' := OW G P σ x) rfl ?_
        refine J_i ((by rw [show (1 : Int32).toInt = 1 from by decide] <;> rfl) : (scrF σ 0 (1 : Int32).toInt : Int32) = (nI (σ 0 14))) ?_
        refine J_aload_n C rfl dL_isWell_542 ?_
        refine J_iconst C 1 (by decide) dL_isWell_543 ?_
        refine J_iconst C 1 (by decide) dL_isWell_544 ?_
        refine J_V0 (as := [.int 1, .int 1]) (rest := [.int (nI (σ 0 14)), .int (nI (sumN (wrF σ) (σ 0 4)))]) C NoX.b NoX.f (o_scribe1 l G P σ x 1 (hg).i) (fun _ => OW_l2 _ _ _ _ _ _) 2 k405 k406 k407 k10 k408 rfl (by decide +kernel) ⟨Nat.le_of_ble_eq_true rfl, Nat.le_of_ble_eq_true rfl⟩ ⟨Nat.le_of_ble_eq_true rfl, Nat.le_of_ble_eq_true rfl⟩ dL_isWell_545 (Nat.le_of_ble_eq_true rfl) (OW_0 _ _ _ _) rfl (fun _ _ => ?_)
        refine J_st (st' := [.int (scrF σ 1 (1 : Int32).toInt), .int (nI (σ 0 14)), .int (nI (sumN (wrF σ) (σ 0 4)))]) rfl ?_
        refine J_ws (ws' := OW G P σ x) rfl ?_
        refine J_i ((by rw [show (1 : Int32).toInt = 1 from by decide] <;> rfl) : (scrF σ 1 (1 : Int32).toInt : Int32) = (nI (σ 0 15))) ?_
        refine J_iadd C dL_isWell_548 ?_
        refine J_i (nI_add (σ 0 14) (σ 0 15) : ((nI (σ 0 14)) + (nI (σ 0 15)) : Int32) = (nI (σ 0 14 + σ 0 15))) ?_
        refine J_icmp_ne C 633 (by decide) dL_isWell_549 (fun h => absurd (cv_ne_t (a := (sumN (wrF σ) (σ 0 4))) (b := (σ 0 14 + σ 0 15)) (by omega) (by omega) h) (by omega)) (fun c549 => ?_)
        refine J_iload_n C rfl dL_isWell_552 ?_
        refine J_aload_n C rfl dL_isWell_553 ?_
        refine J_iconst C 3 (by decide) dL_isWell_554 ?_
        refine J_V0 (as := [.int 3]) (rest := [.int (nI (sumN (fun q => σ 4 q) (σ 0 4)))]) C NoX.b NoX.f (o_count l G P σ x 3 (hg).i (hg).d) (fun _ => OW_l2 _ _ _ _ _ _) 1 k382 k383 k384 k10 k385 rfl (by decide +kernel) ⟨Nat.le_of_ble_eq_true rfl, Nat.le_of_ble_eq_true rfl⟩ ⟨Nat.le_of_ble_eq_true rfl, Nat.le_of_ble_eq_true rfl⟩ dL_isWell_555 (Nat.le_of_ble_eq_true rfl) (OW_0 _ _ _ _) rfl (fun _ _ => ?_)
        refine J_st (st' := [.int (cntF σ x.2.2.2.1.2.2.2 x.2.2.2.2.1.2 (3 : Int32).toInt), .int (nI (sumN (fun q => σ 4 q) (σ 0 4)))]) rfl ?_
        refine J_ws (ws' := OW G P σ x) rfl ?_
        refine J_i ((by rw [show (3 : Int32).toInt = 3 from by decide] <;> rfl) : (cntF σ x.2.2.2.1.2.2.2 x.2.2.2.2.1.2 (3 : Int32).toInt : Int32) = (nI (sumN (fun q => σ 4 q) (σ 0 4)))) ?_
        refine J_icmp_ne C 633 (by decide) dL_isWell_558 (fun h => absurd h (fun q => q rfl)) (fun _ => ?_)
        refine J_iload C rfl dL_isWell_561 ?_
        refine J_aload_n C rfl dL_isWell_563 ?_
        refine J_iconst C 4 (by decide) dL_isWell_564 ?_
        refine J_V0 (as := [.int 4]) (rest := [.int (nI (sumN (notDue σ) (σ 0 4)))]) C NoX.b NoX.f (o_count l G P σ x 4 (hg).i (hg).d) (fun _ => OW_l2 _ _ _ _ _ _) 1 k382 k383 k384 k10 k385 rfl (by decide +kernel) ⟨Nat.le_of_ble_eq_true rfl, Nat.le_of_ble_eq_true rfl⟩ ⟨Nat.le_of_ble_eq_true rfl, Nat.le_of_ble_eq_true rfl⟩ dL_isWell_565 (Nat.le_of_ble_eq_true rfl) (OW_0 _ _ _ _) rfl (fun _ _ => ?_)
        refine J_st (st' := [.int (cntF σ x.2.2.2.1.2.2.2 x.2.2.2.2.1.2 (4 : Int32).toInt), .int (nI (sumN (notDue σ) (σ 0 4)))]) rfl ?_
        refine J_ws (ws' := OW G P σ x) rfl ?_
        refine J_i ((by rw [show (4 : Int32).toInt = 4 from by decide] <;> rfl) : (cntF σ x.2.2.2.1.2.2.2 x.2.2.2.2.1.2 (4 : Int32).toInt : Int32) = (nI (sumN (notDue σ) (σ 0 4)))) ?_
        refine J_icmp_ne C 633 (by decide) dL_isWell_568 (fun h => absurd h (fun q => q rfl)) (fun _ => ?_)
        refine J_aload_n C rfl dL_isWell_571 ?_
        refine J_V0 (as := []) (rest := []) C NoX.b NoX.f (o_needed l G P σ x (hg).i (hg).d) (fun _ => OW_l2 _ _ _ _ _ _) 0 k508 k509 k510 k10 k511 rfl (by decide +kernel) ⟨Nat.le_of_ble_eq_true rfl, Nat.le_of_ble_eq_true rfl⟩ ⟨Nat.le_of_ble_eq_true rfl, Nat.le_of_ble_eq_true rfl⟩ dL_isWell_572 (Nat.le_of_ble_eq_true rfl) (OW_0 _ _ _ _) rfl (fun _ _ => ?_)
        refine J_st (st' := [.double (dl (sumN (ndF σ) (σ 0 4)))]) rfl ?_
        refine J_ws (ws' := OW G P σ x) rfl ?_
        refine J_ldc2d C k555 dL_isWell_575 ?_
        refine J_dmul C (by rw [dl_mul (n := sumN (ndF σ) (σ 0 4)) (by omega)]; exact dt_num (by omega) (by omega)) dL_isWell_578 ?_
        refine J_d (dl_mul (n := sumN (ndF σ) (σ 0 4)) (by omega) : (FP.dmul (dl (sumN (ndF σ) (σ 0 4))) 4634204016564240384 : UInt64) = (dt 0 (sumN (ndF σ) (σ 0 4)))) ?_
        refine J_iload C rfl dL_isWell_579 ?_
        refine J_i2d C dL_isWell_581 ?_
        refine J_d (di_i2 (n := sumN (ndF σ) (σ 0 4)) (by omega) : (FP.i2d (nI (sumN (ndF σ) (σ 0 4))) : UInt64) = (dt 0 (sumN (ndF σ) (σ 0 4)))) ?_
        refine J_dcmp C dL_isWell_582 ?_
        refine J_i (((dt_cmp (t := 0) (a := sumN (ndF σ) (σ 0 4)) (b := sumN (ndF σ) (σ 0 4)) (by omega) (by omega) (by omega) _).trans ((if_neg (Nat.lt_irrefl _)).trans (if_pos rfl))) : (Op.cmpValue (FP.dcmp (dt 0 (sumN (ndF σ) (σ 0 4))) (dt 0 (sumN (ndF σ) (σ 0 4)))) .l : Int32) = 0) ?_
        refine J_if_ne C 633 (by decide) dL_isWell_583 (fun h => absurd h (by decide)) (fun _ => ?_)
        refine J_aload_n C rfl dL_isWell_586 ?_
        refine J_V0 (as := []) (rest := []) C NoX.b NoX.f (o_doneIn l G P σ x hg.i hg.d hg.1.2.2.2 hV) (fun _ => OW_l2 _ _ _ _ _ _) 0 k513 k514 k515 k10 k516 rfl (by decide +kernel) ⟨Nat.le_of_ble_eq_true rfl, Nat.le_of_ble_eq_true rfl⟩ ⟨Nat.le_of_ble_eq_true rfl, Nat.le_of_ble_eq_true rfl⟩ dL_isWell_587 (Nat.le_of_ble_eq_true rfl) (OW_0 _ _ _ _) rfl (fun x9 hx9 => ?_)
        refine J_st (st' := [.int (dnF 2001 0 σ)]) rfl ?_
        refine J_ws (ws' := OW G P σ x9) rfl ?_
        by_cases hdn : σ 0 4 ≤ σ 0 14 + σ 0 15
        · skip
          refine J_i ((if_pos hdn) : (dnF 2001 0 σ : Int32) = 0) ?_
          refine J_if_ne C 597 (by decide) dL_isWell_590 (fun h => absurd h (by decide)) (fun _ => ?_)
          refine J_iconst C 1 (by decide) dL_isWell_593 ?_
          refine J_goto C 598 (by decide) dL_isWell_594 ?_
          refine J_iload_n C rfl dL_isWell_598 ?_
          refine J_iload_n C rfl dL_isWell_599 ?_
          refine J_icmp_ne C 607 (by decide) dL_isWell_600 (fun h => absurd (cv_ne_t (a := (sumN (wrF σ) (σ 0 4))) (b := (σ 0 4)) (by omega) (by omega) h) (by omega)) (fun c600 => ?_)
          refine J_iconst C 1 (by decide) dL_isWell_603 ?_
          refine J_goto C 608 (by decide) dL_isWell_604 ?_
          refine J_icmp_ne C 633 (by decide) dL_isWell_608 (fun h => absurd h (by decide)) (fun _ => ?_)
          refine J_aload_n C rfl dL_isWell_611 ?_
          refine J_iconst C 0 (by decide) dL_isWell_612 ?_
          refine J_iconst C 4 (by decide) dL_isWell_613 ?_
          refine J_V0 (as := [.int 0, .int 4]) (rest := []) C NoX.b NoX.f (o_scribe0 l G P σ x9 4 (hg).i) (fun _ => OW_l2 _ _ _ _ _ _) 2 k405 k406 k407 k10 k408 rfl (by decide +kernel) ⟨Nat.le_of_ble_eq_true rfl, Nat.le_of_ble_eq_true rfl⟩ ⟨Nat.le_of_ble_eq_true rfl, Nat.le_of_ble_eq_true rfl⟩ dL_isWell_614 (Nat.le_of_ble_eq_true rfl) (OW_0 _ _ _ _) rfl (fun _ _ => ?_)
          refine J_st (st' := [.int (scrF σ 0 (4 : Int32).toInt)]) rfl ?_
          refine J_ws (ws' := OW G P σ x9) rfl ?_
          refine J_i ((by rw [show (4 : Int32).toInt = 4 from by decide] <;> rfl) : (scrF σ 0 (4 : Int32).toInt : Int32) = (nI (σ 0 18))) ?_
          have hdd := hg.2.1.2.2
          refine J_if_eq C 629 (by decide) dL_isWell_617 (fun c617 => ?_) (fun c617 => ?_)
          · skip
            have c617 := cv_eq_t (a := (σ 0 18)) (b := 0) (by omega) (by omega) c617
            refine J_iconst C 1 (by decide) dL_isWell_629 ?_
            refine J_goto C 634 (by decide) dL_isWell_630 ?_
            exact J_zret C hr rfl dL_isWell_634 x9 rfl hx9 rfl
          · skip
            have c617 := cv_eq_f (a := (σ 0 18)) (b := 0) (by omega) (by omega) c617
            refine J_aload_n C rfl dL_isWell_620 ?_
            refine J_iconst C 1 (by decide) dL_isWell_621 ?_
            refine J_iconst C 4 (by decide) dL_isWell_622 ?_
            refine J_V0 (as := [.int 1, .int 4]) (rest := []) C NoX.b NoX.f (o_scribe1 l G P σ x9 4 (hg).i) (fun _ => OW_l2 _ _ _ _ _ _) 2 k405 k406 k407 k10 k408 rfl (by decide +kernel) ⟨Nat.le_of_ble_eq_true rfl, Nat.le_of_ble_eq_true rfl⟩ ⟨Nat.le_of_ble_eq_true rfl, Nat.le_of_ble_eq_true rfl⟩ dL_isWell_623 (Nat.le_of_ble_eq_true rfl) (OW_0 _ _ _ _) rfl (fun _ _ => ?_)
            refine J_st (st' := [.int (scrF σ 1 (4 : Int32).toInt)]) rfl ?_
            refine J_ws (ws' := OW G P σ x9) rfl ?_
            refine J_i ((by rw [show (4 : Int32).toInt = 4 from by decide] <;> rfl) : (scrF σ 1 (4 : Int32).toInt : Int32) = (nI (σ 0 19))) ?_
            refine J_if_ne C 633 (by decide) dL_isWell_626 (fun h => absurd (cv_ne_t (a := (σ 0 19)) (b := 0) (by omega) (by omega) h) (by omega)) (fun c626 => ?_)
            refine J_iconst C 1 (by decide) dL_isWell_629 ?_
            refine J_goto C 634 (by decide) dL_isWell_630 ?_
            exact J_zret C hr rfl dL_isWell_634 x9 rfl hx9 rfl
        · skip
          refine J_i ((if_neg hdn) : (dnF 2001 0 σ : Int32) = (dnF 2000 1 (ticksF σ))) ?_
          refine J_if_ne C 597 (by decide) dL_isWell_590 (fun _ => ?_) (fun h => absurd h (dnF_ne (ticksF σ) 2000 1 (by omega) (by omega)))
          refine J_iconst C 0 (by decide) dL_isWell_597 ?_
          refine J_iload_n C rfl dL_isWell_598 ?_
          refine J_iload_n C rfl dL_isWell_599 ?_
          refine J_icmp_ne C 607 (by decide) dL_isWell_600 (fun c600 => ?_) (fun h => absurd (cv_ne_f (a := (sumN (wrF σ) (σ 0 4))) (b := (σ 0 4)) (by omega) (by omega) h) (by omega))
          refine J_iconst C 0 (by decide) dL_isWell_607 ?_
          refine J_icmp_ne C 633 (by decide) dL_isWell_608 (fun h => absurd h (by decide)) (fun _ => ?_)
          refine J_aload_n C rfl dL_isWell_611 ?_
          refine J_iconst C 0 (by decide) dL_isWell_612 ?_
          refine J_iconst C 4 (by decide) dL_isWell_613 ?_
          refine J_V0 (as := [.int 0, .int 4]) (rest := []) C NoX.b NoX.f (o_scribe0 l G P σ x9 4 (hg).i) (fun _ => OW_l2 _ _ _ _ _ _) 2 k405 k406 k407 k10 k408 rfl (by decide +kernel) ⟨Nat.le_of_ble_eq_true rfl, Nat.le_of_ble_eq_true rfl⟩ ⟨Nat.le_of_ble_eq_true rfl, Nat.le_of_ble_eq_true rfl⟩ dL_isWell_614 (Nat.le_of_ble_eq_true rfl) (OW_0 _ _ _ _) rfl (fun _ _ => ?_)
          refine J_st (st' := [.int (scrF σ 0 (4 : Int32).toInt)]) rfl ?_
          refine J_ws (ws' := OW G P σ x9) rfl ?_
          refine J_i ((by rw [show (4 : Int32).toInt = 4 from by decide] <;> rfl) : (scrF σ 0 (4 : Int32).toInt : Int32) = (nI (σ 0 18))) ?_
          have hdd := hg.2.1.2.2
          refine J_if_eq C 629 (by decide) dL_isWell_617 (fun c617 => ?_) (fun c617 => ?_)
          · skip
            have c617 := cv_eq_t (a := (σ 0 18)) (b := 0) (by omega) (by omega) c617
            refine J_iconst C 1 (by decide) dL_isWell_629 ?_
            refine J_goto C 634 (by decide) dL_isWell_630 ?_
            exact J_zret C hr rfl dL_isWell_634 x9 rfl hx9 rfl
          · skip
            have c617 := cv_eq_f (a := (σ 0 18)) (b := 0) (by omega) (by omega) c617
            refine J_aload_n C rfl dL_isWell_620 ?_
            refine J_iconst C 1 (by decide) dL_isWell_621 ?_
            refine J_iconst C 4 (by decide) dL_isWell_622 ?_
            refine J_V0 (as := [.int 1, .int 4]) (rest := []) C NoX.b NoX.f (o_scribe1 l G P σ x9 4 (hg).i) (fun _ => OW_l2 _ _ _ _ _ _) 2 k405 k406 k407 k10 k408 rfl (by decide +kernel) ⟨Nat.le_of_ble_eq_true rfl, Nat.le_of_ble_eq_true rfl⟩ ⟨Nat.le_of_ble_eq_true rfl, Nat.le_of_ble_eq_true rfl⟩ dL_isWell_623 (Nat.le_of_ble_eq_true rfl) (OW_0 _ _ _ _) rfl (fun _ _ => ?_)
            refine J_st (st' := [.int (scrF σ 1 (4 : Int32).toInt)]) rfl ?_
            refine J_ws (ws' := OW G P σ x9) rfl ?_
            refine J_i ((by rw [show (4 : Int32).toInt = 4 from by decide] <;> rfl) : (scrF σ 1 (4 : Int32).toInt : Int32) = (nI (σ 0 19))) ?_
            refine J_if_ne C 633 (by decide) dL_isWell_626 (fun h => absurd (cv_ne_t (a := (σ 0 19)) (b := 0) (by omega) (by omega) h) (by omega)) (fun c626 => ?_)
            refine J_iconst C 1 (by decide) dL_isWell_629 ?_
            refine J_goto C 634 (by decide) dL_isWell_630 ?_
            exact J_zret C hr rfl dL_isWell_634 x9 rfl hx9 rfl
  · skip
    have c141 := cv_ge_f (a := i) (b := (σ 0 4)) (by omega) (by omega) c141
    have hqi := hI.q (q := i) (by omega)
    have hdu := hI.due (p := i) (by omega)
    have hdm := due_mir hI (q := i) (by omega)
    have hwo := hg.1.2.2.1 i (by omega)
    have hwt := hg.2.1.1 i (by omega)
    have hwx := hg.2.1.2.1 i (by omega)
    by_cases hw : 0 < σ 3 i
    · skip
      refine J_aload_n C rfl dL_isWell_144 ?_
      refine J_iload C rfl dL_isWell_145 ?_
      refine J_iconst C 1 (by decide) dL_isWell_147 ?_
      refine J_V0 (as := [.int (nI i), .int 1]) (rest := []) C NoX.b NoX.f (o_place l G P σ x i 1 (hg).i (hg).d (by omega)) (fun _ => OW_l2 _ _ _ _ _ _) 2 k434 k435 k436 k10 k437 rfl (by decide +kernel) ⟨Nat.le_of_ble_eq_true rfl, Nat.le_of_ble_eq_true rfl⟩ ⟨Nat.le_of_ble_eq_true rfl, Nat.le_of_ble_eq_true rfl⟩ dL_isWell_148 (Nat.le_of_ble_eq_true rfl) (OW_0 _ _ _ _) rfl (fun _ _ => ?_)
      refine J_st (st' := [.int (plF σ i (1 : Int32).toInt)]) rfl ?_
      refine J_ws (ws' := OW G P σ x) rfl ?_
      refine J_i ((by rw [show (1 : Int32).toInt = 1 from by decide] <;> rfl) : (plF σ i (1 : Int32).toInt : Int32) = (nI (σ 3 i))) ?_
      refine J_istore C [(8, .int (nI (σ 3 i))), (0, .ref P.1), (1, .int (nI (σ 0 4))), (2, .int (nI (sumN (wrF σ) i))), (3, .int (nI (sumN (fun q => σ 4 q) i))), (4, .int (nI (sumN (notDue σ) i))), (5, .int (nI (sumN (ndF σ) i))), (6, .int 1), (7, .int (nI i))] (by decide) rfl dL_isWell_151 ?_
      refine J_iload_n C rfl dL_isWell_153 ?_
      refine J_iload C rfl dL_isWell_154 ?_
      refine J_if_le C 163 (by decide) dL_isWell_156 (fun h => absurd (cv_le_t (a := (σ 3 i)) (b := 0) (by omega) (by omega) h) (by omega)) (fun c156 => ?_)
      refine J_iconst C 1 (by decide) dL_isWell_159 ?_
      refine J_goto C 164 (by decide) dL_isWell_160 ?_
      refine J_iadd C dL_isWell_164 ?_
      refine J_i (((nI_add _ 1).trans (congrArg nI (show sumN (wrF σ) i + 1 = sumN (wrF σ) i + wrF σ i from by rw [show wrF σ i = 1 from if_pos hw]))) : ((nI (sumN (wrF σ) i)) + 1 : Int32) = (nI (sumN (wrF σ) (i + 1)))) ?_
      refine J_istore_n C [(2, .int (nI (sumN (wrF σ) (i + 1)))), (8, .int (nI (σ 3 i))), (0, .ref P.1), (1, .int (nI (σ 0 4))), (3, .int (nI (sumN (fun q => σ 4 q) i))), (4, .int (nI (sumN (notDue σ) i))), (5, .int (nI (sumN (ndF σ) i))), (6, .int 1), (7, .int (nI i))] (by decide) rfl dL_isWell_165 ?_
      refine J_iload_n C rfl dL_isWell_166 ?_
      refine J_aload_n C rfl dL_isWell_167 ?_
      refine J_iload C rfl dL_isWell_168 ?_
      refine J_iconst C 2 (by decide) dL_isWell_170 ?_
      refine J_V0 (as := [.int (nI i), .int 2]) (rest := [.int (nI (sumN (fun q => σ 4 q) i))]) C NoX.b NoX.f (o_place l G P σ x i 2 (hg).i (hg).d (by omega)) (fun _ => OW_l2 _ _ _ _ _ _) 2 k434 k435 k436 k10 k437 rfl (by decide +kernel) ⟨Nat.le_of_ble_eq_true rfl, Nat.le_of_ble_eq_true rfl⟩ ⟨Nat.le_of_ble_eq_true rfl, Nat.le_of_ble_eq_true rfl⟩ dL_isWell_171 (Nat.le_of_ble_eq_true rfl) (OW_0 _ _ _ _) rfl (fun _ _ => ?_)
      refine J_st (st' := [.int (plF σ i (2 : Int32).toInt), .int (nI (sumN (fun q => σ 4 q) i))]) rfl ?_
      refine J_ws (ws' := OW G P σ x) rfl ?_
      refine J_i ((by rw [show (2 : Int32).toInt = 2 from by decide] <;> rfl) : (plF σ i (2 : Int32).toInt : Int32) = (nI (σ 4 i))) ?_
      refine J_iadd C dL_isWell_174 ?_
      refine J_i ((nI_add _ _) : ((nI (sumN (fun q => σ 4 q) i)) + (nI (σ 4 i)) : Int32) = (nI (sumN (fun q => σ 4 q) (i + 1)))) ?_
      refine J_istore_n C [(3, .int (nI (sumN (fun q => σ 4 q) (i + 1)))), (2, .int (nI (sumN (wrF σ) (i + 1)))), (8, .int (nI (σ 3 i))), (0, .ref P.1), (1, .int (nI (σ 0 4))), (4, .int (nI (sumN (notDue σ) i))), (5, .int (nI (sumN (ndF σ) i))), (6, .int 1), (7, .int (nI i))] (by decide) rfl dL_isWell_175 ?_
      refine J_iload C rfl dL_isWell_176 ?_
      refine J_iload C rfl dL_isWell_178 ?_
      refine J_if_le C 199 (by decide) dL_isWell_180 (fun h => absurd (cv_le_t (a := (σ 3 i)) (b := 0) (by omega) (by omega) h) (by omega)) (fun c180 => ?_)
      by_cases hnq : ¬ σ 3 i = dueAt σ i
      · skip
        refine J_iload C rfl dL_isWell_183 ?_
        refine J_aload_n C rfl dL_isWell_185 ?_
        refine J_iload C rfl dL_isWell_186 ?_
        refine J_iconst C 0 (by decide) dL_isWell_188 ?_
        refine J_V0 (as := [.int (nI i), .int 0]) (rest := [.int (nI (σ 3 i)), .int (nI (sumN (notDue σ) i))]) C NoX.b NoX.f (o_place l G P σ x i 0 (hg).i (hg).d (by omega)) (fun _ => OW_l2 _ _ _ _ _ _) 2 k434 k435 k436 k10 k437 rfl (by decide +kernel) ⟨Nat.le_of_ble_eq_true rfl, Nat.le_of_ble_eq_true rfl⟩ ⟨Nat.le_of_ble_eq_true rfl, Nat.le_of_ble_eq_true rfl⟩ dL_isWell_189 (Nat.le_of_ble_eq_true rfl) (OW_0 _ _ _ _) rfl (fun _ _ => ?_)
        refine J_st (st' := [.int (plF σ i (0 : Int32).toInt), .int (nI (σ 3 i)), .int (nI (sumN (notDue σ) i))]) rfl ?_
        refine J_ws (ws' := OW G P σ x) rfl ?_
        refine J_i ((by rw [show (0 : Int32).toInt = 0 from by decide] <;> rfl) : (plF σ i (0 : Int32).toInt : Int32) = (nI (dueAt σ i))) ?_
        refine J_icmp_eq C 199 (by decide) dL_isWell_192 (fun h => absurd (cv_eq_t (a := (σ 3 i)) (b := (dueAt σ i)) (by omega) (by omega) h) (by omega)) (fun c192 => ?_)
        refine J_iconst C 1 (by decide) dL_isWell_195 ?_
        refine J_goto C 200 (by decide) dL_isWell_196 ?_
        refine J_iadd C dL_isWell_200 ?_
        refine J_i (((nI_add _ 1).trans (congrArg nI (show sumN (notDue σ) i + 1 = sumN (notDue σ) i + notDue σ i from by rw [show notDue σ i = 1 from if_pos ⟨hw, hnq⟩]))) : ((nI (sumN (notDue σ) i)) + 1 : Int32) = (nI (sumN (notDue σ) (i + 1)))) ?_
        refine J_istore C [(4, .int (nI (sumN (notDue σ) (i + 1)))), (3, .int (nI (sumN (fun q => σ 4 q) (i + 1)))), (2, .int (nI (sumN (wrF σ) (i + 1)))), (8, .int (nI (σ 3 i))), (0, .ref P.1), (1, .int (nI (σ 0 4))), (5, .int (nI (sumN (ndF σ) i))), (6, .int 1), (7, .int (nI i))] (by decide) rfl dL_isWell_201 ?_
        refine J_iload C rfl dL_isWell_203 ?_
        refine J_iload C rfl dL_isWell_205 ?_
        refine J_if_le C 214 (by decide) dL_isWell_207 (fun h => absurd (cv_le_t (a := (σ 3 i)) (b := 0) (by omega) (by omega) h) (by omega)) (fun c207 => ?_)
        refine J_iconst C 0 (by decide) dL_isWell_210 ?_
        refine J_goto C 241 (by decide) dL_isWell_211 ?_
        refine J_iadd C dL_isWell_241 ?_
        refine J_i (((nI_add _ (0)).trans (congrArg nI (show sumN (ndF σ) i + 0 = sumN (ndF σ) i + ndF σ i from by rw [show ndF σ i = 0 from if_pos hw]))) : ((nI (sumN (ndF σ) i)) + 0 : Int32) = (nI (sumN (ndF σ) (i + 1)))) ?_
        refine J_istore C [(5, .int (nI (sumN (ndF σ) (i + 1)))), (4, .int (nI (sumN (notDue σ) (i + 1)))), (3, .int (nI (sumN (fun q => σ 4 q) (i + 1)))), (2, .int (nI (sumN (wrF σ) (i + 1)))), (8, .int (nI (σ 3 i))), (0, .ref P.1), (1, .int (nI (σ 0 4))), (6, .int 1), (7, .int (nI i))] (by decide) rfl dL_isWell_242 ?_
        refine J_iload C rfl dL_isWell_244 ?_
        refine J_if_eq C 417 (by decide) dL_isWell_246 (fun h => absurd h (by decide)) (fun _ => ?_)
        refine J_aload_n C rfl dL_isWell_249 ?_
        refine J_iload C rfl dL_isWell_250 ?_
        refine J_iconst C 0 (by decide) dL_isWell_252 ?_
        refine J_V0 (as := [.int (nI i), .int 0]) (rest := []) C NoX.b NoX.f (o_place l G P σ x i 0 (hg).i (hg).d (by omega)) (fun _ => OW_l2 _ _ _ _ _ _) 2 k434 k435 k436 k10 k437 rfl (by decide +kernel) ⟨Nat.le_of_ble_eq_true rfl, Nat.le_of_ble_eq_true rfl⟩ ⟨Nat.le_of_ble_eq_true rfl, Nat.le_of_ble_eq_true rfl⟩ dL_isWell_253 (Nat.le_of_ble_eq_true rfl) (OW_0 _ _ _ _) rfl (fun _ _ => ?_)
        refine J_st (st' := [.int (plF σ i (0 : Int32).toInt)]) rfl ?_
        refine J_ws (ws' := OW G P σ x) rfl ?_
        refine J_i ((by rw [show (0 : Int32).toInt = 0 from by decide] <;> rfl) : (plF σ i (0 : Int32).toInt : Int32) = (nI (dueAt σ i))) ?_
        refine J_aload_n C rfl dL_isWell_256 ?_
        refine J_iload_n C rfl dL_isWell_257 ?_
        refine J_iconst C 1 (by decide) dL_isWell_258 ?_
        refine J_isub C dL_isWell_259 ?_
        refine J_i (pk_sub (a := σ 0 4) (b := 1) (by omega) : ((nI (σ 0 4)) - 1 : Int32) = (nI (σ 0 4 - 1))) ?_
        refine J_iload C rfl dL_isWell_260 ?_
        refine J_isub C dL_isWell_262 ?_
        refine J_i (pk_sub (a := σ 0 4 - 1) (b := i) (by omega) : ((nI (σ 0 4 - 1)) - (nI i) : Int32) = (nI ((σ 0 4 - 1) - i))) ?_
        refine J_iconst C 0 (by decide) dL_isWell_263 ?_
        refine J_V0 (as := [.int (nI ((σ 0 4 - 1) - i)), .int 0]) (rest := [.int (nI (dueAt σ i))]) C NoX.b NoX.f (o_place l G P σ x ((σ 0 4 - 1) - i) 0 (hg).i (hg).d (by omega)) (fun _ => OW_l2 _ _ _ _ _ _) 2 k434 k435 k436 k10 k437 rfl (by decide +kernel) ⟨Nat.le_of_ble_eq_true rfl, Nat.le_of_ble_eq_true rfl⟩ ⟨Nat.le_of_ble_eq_true rfl, Nat.le_of_ble_eq_true rfl⟩ dL_isWell_264 (Nat.le_of_ble_eq_true rfl) (OW_0 _ _ _ _) rfl (fun _ _ => ?_)
        refine J_st (st' := [.int (plF σ ((σ 0 4 - 1) - i) (0 : Int32).toInt), .int (nI (dueAt σ i))]) rfl ?_
        refine J_ws (ws' := OW G P σ x) rfl ?_
        refine J_i ((by rw [show (0 : Int32).toInt = 0 from by decide] <;> rfl) : (plF σ ((σ 0 4 - 1) - i) (0 : Int32).toInt : Int32) = (nI (dueAt σ ((σ 0 4 - 1) - i)))) ?_
        refine J_icmp_ne C 417 (by decide) dL_isWell_267 (fun h => absurd h (fun q => q (congrArg nI hdm.symm))) (fun _ => ?_)
        refine J_aload_n C rfl dL_isWell_270 ?_
        refine J_iload C rfl dL_isWell_271 ?_
        refine J_iconst C 5 (by decide) dL_isWell_273 ?_
        refine J_V0 (as := [.int (nI i), .int 5]) (rest := []) C NoX.b NoX.f (o_place l G P σ x i 5 (hg).i (hg).d (by omega)) (fun _ => OW_l2 _ _ _ _ _ _) 2 k434 k435 k436 k10 k437 rfl (by decide +kernel) ⟨Nat.le_of_ble_eq_true rfl, Nat.le_of_ble_eq_true rfl⟩ ⟨Nat.le_of_ble_eq_true rfl, Nat.le_of_ble_eq_true rfl⟩ dL_isWell_274 (Nat.le_of_ble_eq_true rfl) (OW_0 _ _ _ _) rfl (fun _ _ => ?_)
        refine J_st (st' := [.int (plF σ i (5 : Int32).toInt)]) rfl ?_
        refine J_ws (ws' := OW G P σ x) rfl ?_
        refine J_i ((by rw [show (5 : Int32).toInt = 5 from by decide] <;> rfl) : (plF σ i (5 : Int32).toInt : Int32) = (nI (σ 0 4 - 1 - i))) ?_
        refine J_iload_n C rfl dL_isWell_277 ?_
        refine J_iconst C 1 (by decide) dL_isWell_278 ?_
        refine J_isub C dL_isWell_279 ?_
        refine J_i (pk_sub (a := σ 0 4) (b := 1) (by omega) : ((nI (σ 0 4)) - 1 : Int32) = (nI (σ 0 4 - 1))) ?_
        refine J_iload C rfl dL_isWell_280 ?_
        refine J_isub C dL_isWell_282 ?_
        refine J_i (pk_sub (a := σ 0 4 - 1) (b := i) (by omega) : ((nI (σ 0 4 - 1)) - (nI i) : Int32) = (nI ((σ 0 4 - 1) - i))) ?_
        refine J_icmp_ne C 417 (by decide) dL_isWell_283 (fun h => absurd (cv_ne_t (a := (σ 0 4 - 1 - i)) (b := ((σ 0 4 - 1) - i)) (by omega) (by omega) h) (by omega)) (fun c283 => ?_)
        refine J_iload C rfl dL_isWell_286 ?_
        refine J_if_le C 295 (by decide) dL_isWell_288 (fun h => absurd (cv_le_t (a := (σ 3 i)) (b := 0) (by omega) (by omega) h) (by omega)) (fun c288 => ?_)
        refine J_iconst C 1 (by decide) dL_isWell_291 ?_
        refine J_goto C 296 (by decide) dL_isWell_292 ?_
        refine J_aload_n C rfl dL_isWell_296 ?_
        refine J_iload C rfl dL_isWell_297 ?_
        refine J_bipush C 6 (by decide) dL_isWell_299 ?_
        refine J_V0 (as := [.int (nI i), .int 6]) (rest := [.int 1]) C NoX.b NoX.f (o_place l G P σ x i 6 (hg).i (hg).d (by omega)) (fun _ => OW_l2 _ _ _ _ _ _) 2 k434 k435 k436 k10 k437 rfl (by decide +kernel) ⟨Nat.le_of_ble_eq_true rfl, Nat.le_of_ble_eq_true rfl⟩ ⟨Nat.le_of_ble_eq_true rfl, Nat.le_of_ble_eq_true rfl⟩ dL_isWell_301 (Nat.le_of_ble_eq_true rfl) (OW_0 _ _ _ _) rfl (fun _ _ => ?_)
        refine J_st (st' := [.int (plF σ i (6 : Int32).toInt), .int 1]) rfl ?_
        refine J_ws (ws' := OW G P σ x) rfl ?_
        refine J_i ((by rw [show (6 : Int32).toInt = 6 from by decide] <;> rfl) : (plF σ i (6 : Int32).toInt : Int32) = (if 0 < σ 3 i then nI (σ 6 i) else -5)) ?_
        refine J_i ((if_pos hw) : (if 0 < σ 3 i then nI (σ 6 i) else -5 : Int32) = (nI (σ 6 i))) ?_
        refine J_if_le C 311 (by decide) dL_isWell_304 (fun h => absurd (cv_le_t (a := (σ 6 i)) (b := 0) (by omega) (by omega) h) (by omega)) (fun c304 => ?_)
        refine J_iconst C 1 (by decide) dL_isWell_307 ?_
        refine J_goto C 312 (by decide) dL_isWell_308 ?_
        refine J_icmp_ne C 417 (by decide) dL_isWell_312 (fun h => absurd h (by decide)) (fun _ => ?_)
        refine J_iload C rfl dL_isWell_315 ?_
        refine J_if_le C 324 (by decide) dL_isWell_317 (fun h => absurd (cv_le_t (a := (σ 3 i)) (b := 0) (by omega) (by omega) h) (by omega)) (fun c317 => ?_)
        refine J_iconst C 1 (by decide) dL_isWell_320 ?_
        refine J_goto C 325 (by decide) dL_isWell_321 ?_
        refine J_iload C rfl dL_isWell_325 ?_
        refine J_iload_n C rfl dL_isWell_327 ?_
        refine J_iconst C 2 (by decide) dL_isWell_328 ?_
        refine J_idiv C (by decide) dL_isWell_329 ?_
        refine J_i (pk_div (a := σ 0 4) (d := 2) (by omega) (by omega) (by omega) : ((nI (σ 0 4)) / 2 : Int32) = (nI ((σ 0 4) / 2))) ?_
        refine J_icmp_ge C 352 (by decide) dL_isWell_330 (fun c330 => ?_) (fun c330 => ?_)
        · skip
          have c330 := cv_ge_t (a := i) (b := ((σ 0 4) / 2)) (by omega) (by omega) c330
          refine J_iload_n C rfl dL_isWell_352 ?_
          refine J_iconst C 1 (by decide) dL_isWell_353 ?_
          refine J_isub C dL_isWell_354 ?_
          refine J_i (pk_sub (a := σ 0 4) (b := 1) (by omega) : ((nI (σ 0 4)) - 1 : Int32) = (nI (σ 0 4 - 1))) ?_
          refine J_iload C rfl dL_isWell_355 ?_
          refine J_isub C dL_isWell_357 ?_
          refine J_i (pk_sub (a := σ 0 4 - 1) (b := i) (by omega) : ((nI (σ 0 4 - 1)) - (nI i) : Int32) = (nI ((σ 0 4 - 1) - i))) ?_
          refine J_aload_n C rfl dL_isWell_358 ?_
          refine J_iconst C 1 (by decide) dL_isWell_359 ?_
          refine J_iconst C 1 (by decide) dL_isWell_360 ?_
          refine J_V0 (as := [.int 1, .int 1]) (rest := [.int (nI ((σ 0 4 - 1) - i)), .int 1]) C NoX.b NoX.f (o_scribe1 l G P σ x 1 (hg).i) (fun _ => OW_l2 _ _ _ _ _ _) 2 k405 k406 k407 k10 k408 rfl (by decide +kernel) ⟨Nat.le_of_ble_eq_true rfl, Nat.le_of_ble_eq_true rfl⟩ ⟨Nat.le_of_ble_eq_true rfl, Nat.le_of_ble_eq_true rfl⟩ dL_isWell_361 (Nat.le_of_ble_eq_true rfl) (OW_0 _ _ _ _) rfl (fun _ _ => ?_)
          refine J_st (st' := [.int (scrF σ 1 (1 : Int32).toInt), .int (nI ((σ 0 4 - 1) - i)), .int 1]) rfl ?_
          refine J_ws (ws' := OW G P σ x) rfl ?_
          refine J_i ((by rw [show (1 : Int32).toInt = 1 from by decide] <;> rfl) : (scrF σ 1 (1 : Int32).toInt : Int32) = (nI (σ 0 15))) ?_
          refine J_icmp_ge C 371 (by decide) dL_isWell_364 (fun h => absurd (cv_ge_t (a := ((σ 0 4 - 1) - i)) (b := (σ 0 15)) (by omega) (by omega) h) (by omega)) (fun c364 => ?_)
          refine J_iconst C 1 (by decide) dL_isWell_367 ?_
          refine J_goto C 372 (by decide) dL_isWell_368 ?_
          refine J_icmp_ne C 417 (by decide) dL_isWell_372 (fun h => absurd h (by decide)) (fun _ => ?_)
          refine J_aload_n C rfl dL_isWell_375 ?_
          refine J_iload C rfl dL_isWell_376 ?_
          refine J_bipush C 6 (by decide) dL_isWell_378 ?_
          refine J_V0 (as := [.int (nI i), .int 6]) (rest := []) C NoX.b NoX.f (o_place l G P σ x i 6 (hg).i (hg).d (by omega)) (fun _ => OW_l2 _ _ _ _ _ _) 2 k434 k435 k436 k10 k437 rfl (by decide +kernel) ⟨Nat.le_of_ble_eq_true rfl, Nat.le_of_ble_eq_true rfl⟩ ⟨Nat.le_of_ble_eq_true rfl, Nat.le_of_ble_eq_true rfl⟩ dL_isWell_380 (Nat.le_of_ble_eq_true rfl) (OW_0 _ _ _ _) rfl (fun _ _ => ?_)
          refine J_st (st' := [.int (plF σ i (6 : Int32).toInt)]) rfl ?_
          refine J_ws (ws' := OW G P σ x) rfl ?_
          refine J_i ((by rw [show (6 : Int32).toInt = 6 from by decide] <;> rfl) : (plF σ i (6 : Int32).toInt : Int32) = (if 0 < σ 3 i then nI (σ 6 i) else -5)) ?_
          refine J_i ((if_pos hw) : (if 0 < σ 3 i then nI (σ 6 i) else -5 : Int32) = (nI (σ 6 i))) ?_
          refine J_aload_n C rfl dL_isWell_383 ?_
          refine J_iconst C 0 (by decide) dL_isWell_384 ?_
          refine J_V0 (as := [.int 0]) (rest := [.int (nI (σ 6 i))]) C NoX.b NoX.f (o_count l G P σ x 0 (hg).i (hg).d) (fun _ => OW_l2 _ _ _ _ _ _) 1 k382 k383 k384 k10 k385 rfl (by decide +kernel) ⟨Nat.le_of_ble_eq_true rfl, Nat.le_of_ble_eq_true rfl⟩ ⟨Nat.le_of_ble_eq_true rfl, Nat.le_of_ble_eq_true rfl⟩ dL_isWell_385 (Nat.le_of_ble_eq_true rfl) (OW_0 _ _ _ _) rfl (fun _ _ => ?_)
          refine J_st (st' := [.int (cntF σ x.2.2.2.1.2.2.2 x.2.2.2.2.1.2 (0 : Int32).toInt), .int (nI (σ 6 i))]) rfl ?_
          refine J_ws (ws' := OW G P σ x) rfl ?_
          refine J_i ((by rw [show (0 : Int32).toInt = 0 from by decide] <;> rfl) : (cntF σ x.2.2.2.1.2.2.2 x.2.2.2.2.1.2 (0 : Int32).toInt : Int32) = (nI (σ 0 3))) ?_
          refine J_icmp_gt C 417 (by decide) dL_isWell_388 (fun h => absurd (cv_gt_t (a := (σ 6 i)) (b := (σ 0 3)) (by omega) (by omega) h) (by omega)) (fun c388 => ?_)
          refine J_aload_n C rfl dL_isWell_391 ?_
          refine J_iload C rfl dL_isWell_392 ?_
          refine J_iconst C 3 (by decide) dL_isWell_394 ?_
          refine J_V0 (as := [.int (nI i), .int 3]) (rest := []) C NoX.b NoX.f (o_place l G P σ x i 3 (hg).i (hg).d (by omega)) (fun _ => OW_l2 _ _ _ _ _ _) 2 k434 k435 k436 k10 k437 rfl (by decide +kernel) ⟨Nat.le_of_ble_eq_true rfl, Nat.le_of_ble_eq_true rfl⟩ ⟨Nat.le_of_ble_eq_true rfl, Nat.le_of_ble_eq_true rfl⟩ dL_isWell_395 (Nat.le_of_ble_eq_true rfl) (OW_0 _ _ _ _) rfl (fun _ _ => ?_)
          refine J_st (st' := [.int (plF σ i (3 : Int32).toInt)]) rfl ?_
          refine J_ws (ws' := OW G P σ x) rfl ?_
          refine J_i ((by rw [show (3 : Int32).toInt = 3 from by decide] <;> rfl) : (plF σ i (3 : Int32).toInt : Int32) = (nI (σ 5 i))) ?_
          refine J_if_eq C 413 (by decide) dL_isWell_398 (fun c398 => ?_) (fun c398 => ?_)
          · skip
            have c398 := cv_eq_t (a := (σ 5 i)) (b := 0) (by omega) (by omega) c398
            refine J_iconst C 1 (by decide) dL_isWell_413 ?_
            refine J_goto C 418 (by decide) dL_isWell_414 ?_
            refine J_istore C [(6, .int 1), (5, .int (nI (sumN (ndF σ) (i + 1)))), (4, .int (nI (sumN (notDue σ) (i + 1)))), (3, .int (nI (sumN (fun q => σ 4 q) (i + 1)))), (2, .int (nI (sumN (wrF σ) (i + 1)))), (8, .int (nI (σ 3 i))), (0, .ref P.1), (1, .int (nI (σ 0 4))), (7, .int (nI i))] (by decide) rfl dL_isWell_418 ?_
            refine J_iinc C (nI (i + 1)) [(7, .int (nI (i + 1))), (6, .int 1), (5, .int (nI (sumN (ndF σ) (i + 1)))), (4, .int (nI (sumN (notDue σ) (i + 1)))), (3, .int (nI (sumN (fun q => σ 4 q) (i + 1)))), (2, .int (nI (sumN (wrF σ) (i + 1)))), (8, .int (nI (σ 3 i))), (0, .ref P.1), (1, .int (nI (σ 0 4)))] 8 rfl (by first | exact nI_add _ 1 | rfl) (by decide) rfl dL_isWell_420 ?_
            refine J_goto C 138 (by decide) dL_isWell_423 ?_
            refine J_lvp [7, 8, 5, 4, 3, 2, 1, 0] [(0, .ref P.1), (1, .int (nI (σ 0 4))), (2, .int (nI (sumN (wrF σ) (i + 1)))), (3, .int (nI (sumN (fun q => σ 4 q) (i + 1)))), (4, .int (nI (sumN (notDue σ) (i + 1)))), (5, .int (nI (sumN (ndF σ) (i + 1)))), (6, .int 1), (7, .int (nI (i + 1)))] rfl ?_
            exact ih (i + 1) (by omega) (by omega)
          · skip
            have c398 := cv_eq_f (a := (σ 5 i)) (b := 0) (by omega) (by omega) c398
            refine J_iload C rfl dL_isWell_401 ?_
            refine J_aload_n C rfl dL_isWell_403 ?_
            refine J_iload C rfl dL_isWell_404 ?_
            refine J_iconst C 0 (by decide) dL_isWell_406 ?_
            refine J_V0 (as := [.int (nI i), .int 0]) (rest := [.int (nI (σ 3 i))]) C NoX.b NoX.f (o_place l G P σ x i 0 (hg).i (hg).d (by omega)) (fun _ => OW_l2 _ _ _ _ _ _) 2 k434 k435 k436 k10 k437 rfl (by decide +kernel) ⟨Nat.le_of_ble_eq_true rfl, Nat.le_of_ble_eq_true rfl⟩ ⟨Nat.le_of_ble_eq_true rfl, Nat.le_of_ble_eq_true rfl⟩ dL_isWell_407 (Nat.le_of_ble_eq_true rfl) (OW_0 _ _ _ _) rfl (fun _ _ => ?_)
            refine J_st (st' := [.int (plF σ i (0 : Int32).toInt), .int (nI (σ 3 i))]) rfl ?_
            refine J_ws (ws' := OW G P σ x) rfl ?_
            refine J_i ((by rw [show (0 : Int32).toInt = 0 from by decide] <;> rfl) : (plF σ i (0 : Int32).toInt : Int32) = (nI (dueAt σ i))) ?_
            refine J_icmp_ne C 417 (by decide) dL_isWell_410 (fun h => absurd (cv_ne_t (a := (σ 3 i)) (b := (dueAt σ i)) (by omega) (by omega) h) (by omega)) (fun c410 => ?_)
            refine J_iconst C 1 (by decide) dL_isWell_413 ?_
            refine J_goto C 418 (by decide) dL_isWell_414 ?_
            refine J_istore C [(6, .int 1), (5, .int (nI (sumN (ndF σ) (i + 1)))), (4, .int (nI (sumN (notDue σ) (i + 1)))), (3, .int (nI (sumN (fun q => σ 4 q) (i + 1)))), (2, .int (nI (sumN (wrF σ) (i + 1)))), (8, .int (nI (σ 3 i))), (0, .ref P.1), (1, .int (nI (σ 0 4))), (7, .int (nI i))] (by decide) rfl dL_isWell_418 ?_
            refine J_iinc C (nI (i + 1)) [(7, .int (nI (i + 1))), (6, .int 1), (5, .int (nI (sumN (ndF σ) (i + 1)))), (4, .int (nI (sumN (notDue σ) (i + 1)))), (3, .int (nI (sumN (fun q => σ 4 q) (i + 1)))), (2, .int (nI (sumN (wrF σ) (i + 1)))), (8, .int (nI (σ 3 i))), (0, .ref P.1), (1, .int (nI (σ 0 4)))] 8 rfl (by first | exact nI_add _ 1 | rfl) (by decide) rfl dL_isWell_420 ?_
            refine J_goto C 138 (by decide) dL_isWell_423 ?_
            refine J_lvp [7, 8, 5, 4, 3, 2, 1, 0] [(0, .ref P.1), (1, .int (nI (σ 0 4))), (2, .int (nI (sumN (wrF σ) (i + 1)))), (3, .int (nI (sumN (fun q => σ 4 q) (i + 1)))), (4, .int (nI (sumN (notDue σ) (i + 1)))), (5, .int (nI (sumN (ndF σ) (i + 1)))), (6, .int 1), (7, .int (nI (i + 1)))] rfl ?_
            exact ih (i + 1) (by omega) (by omega)
        · skip
          have c330 := cv_ge_f (a := i) (b := ((σ 0 4) / 2)) (by omega) (by omega) c330
          refine J_iload C rfl dL_isWell_333 ?_
          refine J_aload_n C rfl dL_isWell_335 ?_
          refine J_iconst C 0 (by decide) dL_isWell_336 ?_
          refine J_iconst C 1 (by decide) dL_isWell_337 ?_
          refine J_V0 (as := [.int 0, .int 1]) (rest := [.int (nI i), .int 1]) C NoX.b NoX.f (o_scribe0 l G P σ x 1 (hg).i) (fun _ => OW_l2 _ _ _ _ _ _) 2 k405 k406 k407 k10 k408 rfl (by decide +kernel) ⟨Nat.le_of_ble_eq_true rfl, Nat.le_of_ble_eq_true rfl⟩ ⟨Nat.le_of_ble_eq_true rfl, Nat.le_of_ble_eq_true rfl⟩ dL_isWell_338 (Nat.le_of_ble_eq_true rfl) (OW_0 _ _ _ _) rfl (fun _ _ => ?_)
          refine J_st (st' := [.int (scrF σ 0 (1 : Int32).toInt), .int (nI i), .int 1]) rfl ?_
          refine J_ws (ws' := OW G P σ x) rfl ?_
          refine J_i ((by rw [show (1 : Int32).toInt = 1 from by decide] <;> rfl) : (scrF σ 0 (1 : Int32).toInt : Int32) = (nI (σ 0 14))) ?_
          refine J_icmp_ge C 348 (by decide) dL_isWell_341 (fun h => absurd (cv_ge_t (a := i) (b := (σ 0 14)) (by omega) (by omega) h) (by omega)) (fun c341 => ?_)
          refine J_iconst C 1 (by decide) dL_isWell_344 ?_
          refine J_goto C 372 (by decide) dL_isWell_345 ?_
          refine J_icmp_ne C 417 (by decide) dL_isWell_372 (fun h => absurd h (by decide)) (fun _ => ?_)
          refine J_aload_n C rfl dL_isWell_375 ?_
          refine J_iload C rfl dL_isWell_376 ?_
          refine J_bipush C 6 (by decide) dL_isWell_378 ?_
          refine J_V0 (as := [.int (nI i), .int 6]) (rest := []) C NoX.b NoX.f (o_place l G P σ x i 6 (hg).i (hg).d (by omega)) (fun _ => OW_l2 _ _ _ _ _ _) 2 k434 k435 k436 k10 k437 rfl (by decide +kernel) ⟨Nat.le_of_ble_eq_true rfl, Nat.le_of_ble_eq_true rfl⟩ ⟨Nat.le_of_ble_eq_true rfl, Nat.le_of_ble_eq_true rfl⟩ dL_isWell_380 (Nat.le_of_ble_eq_true rfl) (OW_0 _ _ _ _) rfl (fun _ _ => ?_)
          refine J_st (st' := [.int (plF σ i (6 : Int32).toInt)]) rfl ?_
          refine J_ws (ws' := OW G P σ x) rfl ?_
          refine J_i ((by rw [show (6 : Int32).toInt = 6 from by decide] <;> rfl) : (plF σ i (6 : Int32).toInt : Int32) = (if 0 < σ 3 i then nI (σ 6 i) else -5)) ?_
          refine J_i ((if_pos hw) : (if 0 < σ 3 i then nI (σ 6 i) else -5 : Int32) = (nI (σ 6 i))) ?_
          refine J_aload_n C rfl dL_isWell_383 ?_
          refine J_iconst C 0 (by decide) dL_isWell_384 ?_
          refine J_V0 (as := [.int 0]) (rest := [.int (nI (σ 6 i))]) C NoX.b NoX.f (o_count l G P σ x 0 (hg).i (hg).d) (fun _ => OW_l2 _ _ _ _ _ _) 1 k382 k383 k384 k10 k385 rfl (by decide +kernel) ⟨Nat.le_of_ble_eq_true rfl, Nat.le_of_ble_eq_true rfl⟩ ⟨Nat.le_of_ble_eq_true rfl, Nat.le_of_ble_eq_true rfl⟩ dL_isWell_385 (Nat.le_of_ble_eq_true rfl) (OW_0 _ _ _ _) rfl (fun _ _ => ?_)
          refine J_st (st' := [.int (cntF σ x.2.2.2.1.2.2.2 x.2.2.2.2.1.2 (0 : Int32).toInt), .int (nI (σ 6 i))]) rfl ?_
          refine J_ws (ws' := OW G P σ x) rfl ?_
          refine J_i ((by rw [show (0 : Int32).toInt = 0 from by decide] <;> rfl) : (cntF σ x.2.2.2.1.2.2.2 x.2.2.2.2.1.2 (0 : Int32).toInt : Int32) = (nI (σ 0 3))) ?_
          refine J_icmp_gt C 417 (by decide) dL_isWell_388 (fun h => absurd (cv_gt_t (a := (σ 6 i)) (b := (σ 0 3)) (by omega) (by omega) h) (by omega)) (fun c388 => ?_)
          refine J_aload_n C rfl dL_isWell_391 ?_
          refine J_iload C rfl dL_isWell_392 ?_
          refine J_iconst C 3 (by decide) dL_isWell_394 ?_
          refine J_V0 (as := [.int (nI i), .int 3]) (rest := []) C NoX.b NoX.f (o_place l G P σ x i 3 (hg).i (hg).d (by omega)) (fun _ => OW_l2 _ _ _ _ _ _) 2 k434 k435 k436 k10 k437 rfl (by decide +kernel) ⟨Nat.le_of_ble_eq_true rfl, Nat.le_of_ble_eq_true rfl⟩ ⟨Nat.le_of_ble_eq_true rfl, Nat.le_of_ble_eq_true rfl⟩ dL_isWell_395 (Nat.le_of_ble_eq_true rfl) (OW_0 _ _ _ _) rfl (fun _ _ => ?_)
          refine J_st (st' := [.int (plF σ i (3 : Int32).toInt)]) rfl ?_
          refine J_ws (ws' := OW G P σ x) rfl ?_
          refine J_i ((by rw [show (3 : Int32).toInt = 3 from by decide] <;> rfl) : (plF σ i (3 : Int32).toInt : Int32) = (nI (σ 5 i))) ?_
          refine J_if_eq C 413 (by decide) dL_isWell_398 (fun c398 => ?_) (fun c398 => ?_)
          · skip
            have c398 := cv_eq_t (a := (σ 5 i)) (b := 0) (by omega) (by omega) c398
            refine J_iconst C 1 (by decide) dL_isWell_413 ?_
            refine J_goto C 418 (by decide) dL_isWell_414 ?_
            refine J_istore C [(6, .int 1), (5, .int (nI (sumN (ndF σ) (i + 1)))), (4, .int (nI (sumN (notDue σ) (i + 1)))), (3, .int (nI (sumN (fun q => σ 4 q) (i + 1)))), (2, .int (nI (sumN (wrF σ) (i + 1)))), (8, .int (nI (σ 3 i))), (0, .ref P.1), (1, .int (nI (σ 0 4))), (7, .int (nI i))] (by decide) rfl dL_isWell_418 ?_
            refine J_iinc C (nI (i + 1)) [(7, .int (nI (i + 1))), (6, .int 1), (5, .int (nI (sumN (ndF σ) (i + 1)))), (4, .int (nI (sumN (notDue σ) (i + 1)))), (3, .int (nI (sumN (fun q => σ 4 q) (i + 1)))), (2, .int (nI (sumN (wrF σ) (i + 1)))), (8, .int (nI (σ 3 i))), (0, .ref P.1), (1, .int (nI (σ 0 4)))] 8 rfl (by first | exact nI_add _ 1 | rfl) (by decide) rfl dL_isWell_420 ?_
            refine J_goto C 138 (by decide) dL_isWell_423 ?_
            refine J_lvp [7, 8, 5, 4, 3, 2, 1, 0] [(0, .ref P.1), (1, .int (nI (σ 0 4))), (2, .int (nI (sumN (wrF σ) (i + 1)))), (3, .int (nI (sumN (fun q => σ 4 q) (i + 1)))), (4, .int (nI (sumN (notDue σ) (i + 1)))), (5, .int (nI (sumN (ndF σ) (i + 1)))), (6, .int 1), (7, .int (nI (i + 1)))] rfl ?_
            exact ih (i + 1) (by omega) (by omega)
          · skip
            have c398 := cv_eq_f (a := (σ 5 i)) (b := 0) (by omega) (by omega) c398
            refine J_iload C rfl dL_isWell_401 ?_
            refine J_aload_n C rfl dL_isWell_403 ?_
            refine J_iload C rfl dL_isWell_404 ?_
            refine J_iconst C 0 (by decide) dL_isWell_406 ?_
            refine J_V0 (as := [.int (nI i), .int 0]) (rest := [.int (nI (σ 3 i))]) C NoX.b NoX.f (o_place l G P σ x i 0 (hg).i (hg).d (by omega)) (fun _ => OW_l2 _ _ _ _ _ _) 2 k434 k435 k436 k10 k437 rfl (by decide +kernel) ⟨Nat.le_of_ble_eq_true rfl, Nat.le_of_ble_eq_true rfl⟩ ⟨Nat.le_of_ble_eq_true rfl, Nat.le_of_ble_eq_true rfl⟩ dL_isWell_407 (Nat.le_of_ble_eq_true rfl) (OW_0 _ _ _ _) rfl (fun _ _ => ?_)
            refine J_st (st' := [.int (plF σ i (0 : Int32).toInt), .int (nI (σ 3 i))]) rfl ?_
            refine J_ws (ws' := OW G P σ x) rfl ?_
            refine J_i ((by rw [show (0 : Int32).toInt = 0 from by decide] <;> rfl) : (plF σ i (0 : Int32).toInt : Int32) = (nI (dueAt σ i))) ?_
            refine J_icmp_ne C 417 (by decide) dL_isWell_410 (fun h => absurd (cv_ne_t (a := (σ 3 i)) (b := (dueAt σ i)) (by omega) (by omega) h) (by omega)) (fun c410 => ?_)
            refine J_iconst C 1 (by decide) dL_isWell_413 ?_
            refine J_goto C 418 (by decide) dL_isWell_414 ?_
            refine J_istore C [(6, .int 1), (5, .int (nI (sumN (ndF σ) (i + 1)))), (4, .int (nI (sumN (notDue σ) (i + 1)))), (3, .int (nI (sumN (fun q => σ 4 q) (i + 1)))), (2, .int (nI (sumN (wrF σ) (i + 1)))), (8, .int (nI (σ 3 i))), (0, .ref P.1), (1, .int (nI (σ 0 4))), (7, .int (nI i))] (by decide) rfl dL_isWell_418 ?_
            refine J_iinc C (nI (i + 1)) [(7, .int (nI (i + 1))), (6, .int 1), (5, .int (nI (sumN (ndF σ) (i + 1)))), (4, .int (nI (sumN (notDue σ) (i + 1)))), (3, .int (nI (sumN (fun q => σ 4 q) (i + 1)))), (2, .int (nI (sumN (wrF σ) (i + 1)))), (8, .int (nI (σ 3 i))), (0, .ref P.1), (1, .int (nI (σ 0 4)))] 8 rfl (by first | exact nI_add _ 1 | rfl) (by decide) rfl dL_isWell_420 ?_
            refine J_goto C 138 (by decide) dL_isWell_423 ?_
            refine J_lvp [7, 8, 5, 4, 3, 2, 1, 0] [(0, .ref P.1), (1, .int (nI (σ 0 4))), (2, .int (nI (sumN (wrF σ) (i + 1)))), (3, .int (nI (sumN (fun q => σ 4 q) (i + 1)))), (4, .int (nI (sumN (notDue σ) (i + 1)))), (5, .int (nI (sumN (ndF σ) (i + 1)))), (6, .int 1), (7, .int (nI (i + 1)))] rfl ?_
            exact ih (i + 1) (by omega) (by omega)
      · skip
        refine J_iload C rfl dL_isWell_183 ?_
        refine J_aload_n C rfl dL_isWell_185 ?_
        refine J_iload C rfl dL_isWell_186 ?_
        refine J_iconst C 0 (by decide) dL_isWell_188 ?_
        refine J_V0 (as := [.int (nI i), .int 0]) (rest := [.int (nI (σ 3 i)), .int (nI (sumN (notDue σ) i))]) C NoX.b NoX.f (o_place l G P σ x i 0 (hg).i (hg).d (by omega)) (fun _ => OW_l2 _ _ _ _ _ _) 2 k434 k435 k436 k10 k437 rfl (by decide +kernel) ⟨Nat.le_of_ble_eq_true rfl, Nat.le_of_ble_eq_true rfl⟩ ⟨Nat.le_of_ble_eq_true rfl, Nat.le_of_ble_eq_true rfl⟩ dL_isWell_189 (Nat.le_of_ble_eq_true rfl) (OW_0 _ _ _ _) rfl (fun _ _ => ?_)
        refine J_st (st' := [.int (plF σ i (0 : Int32).toInt), .int (nI (σ 3 i)), .int (nI (sumN (notDue σ) i))]) rfl ?_
        refine J_ws (ws' := OW G P σ x) rfl ?_
        refine J_i ((by rw [show (0 : Int32).toInt = 0 from by decide] <;> rfl) : (plF σ i (0 : Int32).toInt : Int32) = (nI (dueAt σ i))) ?_
        refine J_icmp_eq C 199 (by decide) dL_isWell_192 (fun c192 => ?_) (fun h => absurd (cv_eq_f (a := (σ 3 i)) (b := (dueAt σ i)) (by omega) (by omega) h) (by omega))
        refine J_iconst C 0 (by decide) dL_isWell_199 ?_
        refine J_iadd C dL_isWell_200 ?_
        refine J_i (((nI_add _ 0).trans (congrArg nI (show sumN (notDue σ) i + 0 = sumN (notDue σ) i + notDue σ i from by rw [show notDue σ i = 0 from if_neg (by omega)]))) : ((nI (sumN (notDue σ) i)) + 0 : Int32) = (nI (sumN (notDue σ) (i + 1)))) ?_
        refine J_istore C [(4, .int (nI (sumN (notDue σ) (i + 1)))), (3, .int (nI (sumN (fun q => σ 4 q) (i + 1)))), (2, .int (nI (sumN (wrF σ) (i + 1)))), (8, .int (nI (σ 3 i))), (0, .ref P.1), (1, .int (nI (σ 0 4))), (5, .int (nI (sumN (ndF σ) i))), (6, .int 1), (7, .int (nI i))] (by decide) rfl dL_isWell_201 ?_
        refine J_iload C rfl dL_isWell_203 ?_
        refine J_iload C rfl dL_isWell_205 ?_
        refine J_if_le C 214 (by decide) dL_isWell_207 (fun h => absurd (cv_le_t (a := (σ 3 i)) (b := 0) (by omega) (by omega) h) (by omega)) (fun c207 => ?_)
        refine J_iconst C 0 (by decide) dL_isWell_210 ?_
        refine J_goto C 241 (by decide) dL_isWell_211 ?_
        refine J_iadd C dL_isWell_241 ?_
        refine J_i (((nI_add _ (0)).trans (congrArg nI (show sumN (ndF σ) i + 0 = sumN (ndF σ) i + ndF σ i from by rw [show ndF σ i = 0 from if_pos hw]))) : ((nI (sumN (ndF σ) i)) + 0 : Int32) = (nI (sumN (ndF σ) (i + 1)))) ?_
        refine J_istore C [(5, .int (nI (sumN (ndF σ) (i + 1)))), (4, .int (nI (sumN (notDue σ) (i + 1)))), (3, .int (nI (sumN (fun q => σ 4 q) (i + 1)))), (2, .int (nI (sumN (wrF σ) (i + 1)))), (8, .int (nI (σ 3 i))), (0, .ref P.1), (1, .int (nI (σ 0 4))), (6, .int 1), (7, .int (nI i))] (by decide) rfl dL_isWell_242 ?_
        refine J_iload C rfl dL_isWell_244 ?_
        refine J_if_eq C 417 (by decide) dL_isWell_246 (fun h => absurd h (by decide)) (fun _ => ?_)
        refine J_aload_n C rfl dL_isWell_249 ?_
        refine J_iload C rfl dL_isWell_250 ?_
        refine J_iconst C 0 (by decide) dL_isWell_252 ?_
        refine J_V0 (as := [.int (nI i), .int 0]) (rest := []) C NoX.b NoX.f (o_place l G P σ x i 0 (hg).i (hg).d (by omega)) (fun _ => OW_l2 _ _ _ _ _ _) 2 k434 k435 k436 k10 k437 rfl (by decide +kernel) ⟨Nat.le_of_ble_eq_true rfl, Nat.le_of_ble_eq_true rfl⟩ ⟨Nat.le_of_ble_eq_true rfl, Nat.le_of_ble_eq_true rfl⟩ dL_isWell_253 (Nat.le_of_ble_eq_true rfl) (OW_0 _ _ _ _) rfl (fun _ _ => ?_)
        refine J_st (st' := [.int (plF σ i (0 : Int32).toInt)]) rfl ?_
        refine J_ws (ws' := OW G P σ x) rfl ?_
        refine J_i ((by rw [show (0 : Int32).toInt = 0 from by decide] <;> rfl) : (plF σ i (0 : Int32).toInt : Int32) = (nI (dueAt σ i))) ?_
        refine J_aload_n C rfl dL_isWell_256 ?_
        refine J_iload_n C rfl dL_isWell_257 ?_
        refine J_iconst C 1 (by decide) dL_isWell_258 ?_
        refine J_isub C dL_isWell_259 ?_
        refine J_i (pk_sub (a := σ 0 4) (b := 1) (by omega) : ((nI (σ 0 4)) - 1 : Int32) = (nI (σ 0 4 - 1))) ?_
        refine J_iload C rfl dL_isWell_260 ?_
        refine J_isub C dL_isWell_262 ?_
        refine J_i (pk_sub (a := σ 0 4 - 1) (b := i) (by omega) : ((nI (σ 0 4 - 1)) - (nI i) : Int32) = (nI ((σ 0 4 - 1) - i))) ?_
        refine J_iconst C 0 (by decide) dL_isWell_263 ?_
        refine J_V0 (as := [.int (nI ((σ 0 4 - 1) - i)), .int 0]) (rest := [.int (nI (dueAt σ i))]) C NoX.b NoX.f (o_place l G P σ x ((σ 0 4 - 1) - i) 0 (hg).i (hg).d (by omega)) (fun _ => OW_l2 _ _ _ _ _ _) 2 k434 k435 k436 k10 k437 rfl (by decide +kernel) ⟨Nat.le_of_ble_eq_true rfl, Nat.le_of_ble_eq_true rfl⟩ ⟨Nat.le_of_ble_eq_true rfl, Nat.le_of_ble_eq_true rfl⟩ dL_isWell_264 (Nat.le_of_ble_eq_true rfl) (OW_0 _ _ _ _) rfl (fun _ _ => ?_)
        refine J_st (st' := [.int (plF σ ((σ 0 4 - 1) - i) (0 : Int32).toInt), .int (nI (dueAt σ i))]) rfl ?_
        refine J_ws (ws' := OW G P σ x) rfl ?_
        refine J_i ((by rw [show (0 : Int32).toInt = 0 from by decide] <;> rfl) : (plF σ ((σ 0 4 - 1) - i) (0 : Int32).toInt : Int32) = (nI (dueAt σ ((σ 0 4 - 1) - i)))) ?_
        refine J_icmp_ne C 417 (by decide) dL_isWell_267 (fun h => absurd h (fun q => q (congrArg nI hdm.symm))) (fun _ => ?_)
        refine J_aload_n C rfl dL_isWell_270 ?_
        refine J_iload C rfl dL_isWell_271 ?_
        refine J_iconst C 5 (by decide) dL_isWell_273 ?_
        refine J_V0 (as := [.int (nI i), .int 5]) (rest := []) C NoX.b NoX.f (o_place l G P σ x i 5 (hg).i (hg).d (by omega)) (fun _ => OW_l2 _ _ _ _ _ _) 2 k434 k435 k436 k10 k437 rfl (by decide +kernel) ⟨Nat.le_of_ble_eq_true rfl, Nat.le_of_ble_eq_true rfl⟩ ⟨Nat.le_of_ble_eq_true rfl, Nat.le_of_ble_eq_true rfl⟩ dL_isWell_274 (Nat.le_of_ble_eq_true rfl) (OW_0 _ _ _ _) rfl (fun _ _ => ?_)
        refine J_st (st' := [.int (plF σ i (5 : Int32).toInt)]) rfl ?_
        refine J_ws (ws' := OW G P σ x) rfl ?_
        refine J_i ((by rw [show (5 : Int32).toInt = 5 from by decide] <;> rfl) : (plF σ i (5 : Int32).toInt : Int32) = (nI (σ 0 4 - 1 - i))) ?_
        refine J_iload_n C rfl dL_isWell_277 ?_
        refine J_iconst C 1 (by decide) dL_isWell_278 ?_
        refine J_isub C dL_isWell_279 ?_
        refine J_i (pk_sub (a := σ 0 4) (b := 1) (by omega) : ((nI (σ 0 4)) - 1 : Int32) = (nI (σ 0 4 - 1))) ?_
        refine J_iload C rfl dL_isWell_280 ?_
        refine J_isub C dL_isWell_282 ?_
        refine J_i (pk_sub (a := σ 0 4 - 1) (b := i) (by omega) : ((nI (σ 0 4 - 1)) - (nI i) : Int32) = (nI ((σ 0 4 - 1) - i))) ?_
        refine J_icmp_ne C 417 (by decide) dL_isWell_283 (fun h => absurd (cv_ne_t (a := (σ 0 4 - 1 - i)) (b := ((σ 0 4 - 1) - i)) (by omega) (by omega) h) (by omega)) (fun c283 => ?_)
        refine J_iload C rfl dL_isWell_286 ?_
        refine J_if_le C 295 (by decide) dL_isWell_288 (fun h => absurd (cv_le_t (a := (σ 3 i)) (b := 0) (by omega) (by omega) h) (by omega)) (fun c288 => ?_)
        refine J_iconst C 1 (by decide) dL_isWell_291 ?_
        refine J_goto C 296 (by decide) dL_isWell_292 ?_
        refine J_aload_n C rfl dL_isWell_296 ?_
        refine J_iload C rfl dL_isWell_297 ?_
        refine J_bipush C 6 (by decide) dL_isWell_299 ?_
        refine J_V0 (as := [.int (nI i), .int 6]) (rest := [.int 1]) C NoX.b NoX.f (o_place l G P σ x i 6 (hg).i (hg).d (by omega)) (fun _ => OW_l2 _ _ _ _ _ _) 2 k434 k435 k436 k10 k437 rfl (by decide +kernel) ⟨Nat.le_of_ble_eq_true rfl, Nat.le_of_ble_eq_true rfl⟩ ⟨Nat.le_of_ble_eq_true rfl, Nat.le_of_ble_eq_true rfl⟩ dL_isWell_301 (Nat.le_of_ble_eq_true rfl) (OW_0 _ _ _ _) rfl (fun _ _ => ?_)
        refine J_st (st' := [.int (plF σ i (6 : Int32).toInt), .int 1]) rfl ?_
        refine J_ws (ws' := OW G P σ x) rfl ?_
        refine J_i ((by rw [show (6 : Int32).toInt = 6 from by decide] <;> rfl) : (plF σ i (6 : Int32).toInt : Int32) = (if 0 < σ 3 i then nI (σ 6 i) else -5)) ?_
        refine J_i ((if_pos hw) : (if 0 < σ 3 i then nI (σ 6 i) else -5 : Int32) = (nI (σ 6 i))) ?_
        refine J_if_le C 311 (by decide) dL_isWell_304 (fun h => absurd (cv_le_t (a := (σ 6 i)) (b := 0) (by omega) (by omega) h) (by omega)) (fun c304 => ?_)
        refine J_iconst C 1 (by decide) dL_isWell_307 ?_
        refine J_goto C 312 (by decide) dL_isWell_308 ?_
        refine J_icmp_ne C 417 (by decide) dL_isWell_312 (fun h => absurd h (by decide)) (fun _ => ?_)
        refine J_iload C rfl dL_isWell_315 ?_
        refine J_if_le C 324 (by decide) dL_isWell_317 (fun h => absurd (cv_le_t (a := (σ 3 i)) (b := 0) (by omega) (by omega) h) (by omega)) (fun c317 => ?_)
        refine J_iconst C 1 (by decide) dL_isWell_320 ?_
        refine J_goto C 325 (by decide) dL_isWell_321 ?_
        refine J_iload C rfl dL_isWell_325 ?_
        refine J_iload_n C rfl dL_isWell_327 ?_
        refine J_iconst C 2 (by decide) dL_isWell_328 ?_
        refine J_idiv C (by decide) dL_isWell_329 ?_
        refine J_i (pk_div (a := σ 0 4) (d := 2) (by omega) (by omega) (by omega) : ((nI (σ 0 4)) / 2 : Int32) = (nI ((σ 0 4) / 2))) ?_
        refine J_icmp_ge C 352 (by decide) dL_isWell_330 (fun c330 => ?_) (fun c330 => ?_)
        · skip
          have c330 := cv_ge_t (a := i) (b := ((σ 0 4) / 2)) (by omega) (by omega) c330
          refine J_iload_n C rfl dL_isWell_352 ?_
          refine J_iconst C 1 (by decide) dL_isWell_353 ?_
          refine J_isub C dL_isWell_354 ?_
          refine J_i (pk_sub (a := σ 0 4) (b := 1) (by omega) : ((nI (σ 0 4)) - 1 : Int32) = (nI (σ 0 4 - 1))) ?_
          refine J_iload C rfl dL_isWell_355 ?_
          refine J_isub C dL_isWell_357 ?_
          refine J_i (pk_sub (a := σ 0 4 - 1) (b := i) (by omega) : ((nI (σ 0 4 - 1)) - (nI i) : Int32) = (nI ((σ 0 4 - 1) - i))) ?_
          refine J_aload_n C rfl dL_isWell_358 ?_
          refine J_iconst C 1 (by decide) dL_isWell_359 ?_
          refine J_iconst C 1 (by decide) dL_isWell_360 ?_
          refine J_V0 (as := [.int 1, .int 1]) (rest := [.int (nI ((σ 0 4 - 1) - i)), .int 1]) C NoX.b NoX.f (o_scribe1 l G P σ x 1 (hg).i) (fun _ => OW_l2 _ _ _ _ _ _) 2 k405 k406 k407 k10 k408 rfl (by decide +kernel) ⟨Nat.le_of_ble_eq_true rfl, Nat.le_of_ble_eq_true rfl⟩ ⟨Nat.le_of_ble_eq_true rfl, Nat.le_of_ble_eq_true rfl⟩ dL_isWell_361 (Nat.le_of_ble_eq_true rfl) (OW_0 _ _ _ _) rfl (fun _ _ => ?_)
          refine J_st (st' := [.int (scrF σ 1 (1 : Int32).toInt), .int (nI ((σ 0 4 - 1) - i)), .int 1]) rfl ?_
          refine J_ws (ws' := OW G P σ x) rfl ?_
          refine J_i ((by rw [show (1 : Int32).toInt = 1 from by decide] <;> rfl) : (scrF σ 1 (1 : Int32).toInt : Int32) = (nI (σ 0 15))) ?_
          refine J_icmp_ge C 371 (by decide) dL_isWell_364 (fun h => absurd (cv_ge_t (a := ((σ 0 4 - 1) - i)) (b := (σ 0 15)) (by omega) (by omega) h) (by omega)) (fun c364 => ?_)
          refine J_iconst C 1 (by decide) dL_isWell_367 ?_
          refine J_goto C 372 (by decide) dL_isWell_368 ?_
          refine J_icmp_ne C 417 (by decide) dL_isWell_372 (fun h => absurd h (by decide)) (fun _ => ?_)
          refine J_aload_n C rfl dL_isWell_375 ?_
          refine J_iload C rfl dL_isWell_376 ?_
          refine J_bipush C 6 (by decide) dL_isWell_378 ?_
          refine J_V0 (as := [.int (nI i), .int 6]) (rest := []) C NoX.b NoX.f (o_place l G P σ x i 6 (hg).i (hg).d (by omega)) (fun _ => OW_l2 _ _ _ _ _ _) 2 k434 k435 k436 k10 k437 rfl (by decide +kernel) ⟨Nat.le_of_ble_eq_true rfl, Nat.le_of_ble_eq_true rfl⟩ ⟨Nat.le_of_ble_eq_true rfl, Nat.le_of_ble_eq_true rfl⟩ dL_isWell_380 (Nat.le_of_ble_eq_true rfl) (OW_0 _ _ _ _) rfl (fun _ _ => ?_)
          refine J_st (st' := [.int (plF σ i (6 : Int32).toInt)]) rfl ?_
          refine J_ws (ws' := OW G P σ x) rfl ?_
          refine J_i ((by rw [show (6 : Int32).toInt = 6 from by decide] <;> rfl) : (plF σ i (6 : Int32).toInt : Int32) = (if 0 < σ 3 i then nI (σ 6 i) else -5)) ?_
          refine J_i ((if_pos hw) : (if 0 < σ 3 i then nI (σ 6 i) else -5 : Int32) = (nI (σ 6 i))) ?_
          refine J_aload_n C rfl dL_isWell_383 ?_
          refine J_iconst C 0 (by decide) dL_isWell_384 ?_
          refine J_V0 (as := [.int 0]) (rest := [.int (nI (σ 6 i))]) C NoX.b NoX.f (o_count l G P σ x 0 (hg).i (hg).d) (fun _ => OW_l2 _ _ _ _ _ _) 1 k382 k383 k384 k10 k385 rfl (by decide +kernel) ⟨Nat.le_of_ble_eq_true rfl, Nat.le_of_ble_eq_true rfl⟩ ⟨Nat.le_of_ble_eq_true rfl, Nat.le_of_ble_eq_true rfl⟩ dL_isWell_385 (Nat.le_of_ble_eq_true rfl) (OW_0 _ _ _ _) rfl (fun _ _ => ?_)
          refine J_st (st' := [.int (cntF σ x.2.2.2.1.2.2.2 x.2.2.2.2.1.2 (0 : Int32).toInt), .int (nI (σ 6 i))]) rfl ?_
          refine J_ws (ws' := OW G P σ x) rfl ?_
          refine J_i ((by rw [show (0 : Int32).toInt = 0 from by decide] <;> rfl) : (cntF σ x.2.2.2.1.2.2.2 x.2.2.2.2.1.2 (0 : Int32).toInt : Int32) = (nI (σ 0 3))) ?_
          refine J_icmp_gt C 417 (by decide) dL_isWell_388 (fun h => absurd (cv_gt_t (a := (σ 6 i)) (b := (σ 0 3)) (by omega) (by omega) h) (by omega)) (fun c388 => ?_)
          refine J_aload_n C rfl dL_isWell_391 ?_
          refine J_iload C rfl dL_isWell_392 ?_
          refine J_iconst C 3 (by decide) dL_isWell_394 ?_
          refine J_V0 (as := [.int (nI i), .int 3]) (rest := []) C NoX.b NoX.f (o_place l G P σ x i 3 (hg).i (hg).d (by omega)) (fun _ => OW_l2 _ _ _ _ _ _) 2 k434 k435 k436 k10 k437 rfl (by decide +kernel) ⟨Nat.le_of_ble_eq_true rfl, Nat.le_of_ble_eq_true rfl⟩ ⟨Nat.le_of_ble_eq_true rfl, Nat.le_of_ble_eq_true rfl⟩ dL_isWell_395 (Nat.le_of_ble_eq_true rfl) (OW_0 _ _ _ _) rfl (fun _ _ => ?_)
          refine J_st (st' := [.int (plF σ i (3 : Int32).toInt)]) rfl ?_
          refine J_ws (ws' := OW G P σ x) rfl ?_
          refine J_i ((by rw [show (3 : Int32).toInt = 3 from by decide] <;> rfl) : (plF σ i (3 : Int32).toInt : Int32) = (nI (σ 5 i))) ?_
          refine J_if_eq C 413 (by decide) dL_isWell_398 (fun c398 => ?_) (fun c398 => ?_)
          · skip
            have c398 := cv_eq_t (a := (σ 5 i)) (b := 0) (by omega) (by omega) c398
            refine J_iconst C 1 (by decide) dL_isWell_413 ?_
            refine J_goto C 418 (by decide) dL_isWell_414 ?_
            refine J_istore C [(6, .int 1), (5, .int (nI (sumN (ndF σ) (i + 1)))), (4, .int (nI (sumN (notDue σ) (i + 1)))), (3, .int (nI (sumN (fun q => σ 4 q) (i + 1)))), (2, .int (nI (sumN (wrF σ) (i + 1)))), (8, .int (nI (σ 3 i))), (0, .ref P.1), (1, .int (nI (σ 0 4))), (7, .int (nI i))] (by decide) rfl dL_isWell_418 ?_
            refine J_iinc C (nI (i + 1)) [(7, .int (nI (i + 1))), (6, .int 1), (5, .int (nI (sumN (ndF σ) (i + 1)))), (4, .int (nI (sumN (notDue σ) (i + 1)))), (3, .int (nI (sumN (fun q => σ 4 q) (i + 1)))), (2, .int (nI (sumN (wrF σ) (i + 1)))), (8, .int (nI (σ 3 i))), (0, .ref P.1), (1, .int (nI (σ 0 4)))] 8 rfl (by first | exact nI_add _ 1 | rfl) (by decide) rfl dL_isWell_420 ?_
            refine J_goto C 138 (by decide) dL_isWell_423 ?_
            refine J_lvp [7, 8, 5, 4, 3, 2, 1, 0] [(0, .ref P.1), (1, .int (nI (σ 0 4))), (2, .int (nI (sumN (wrF σ) (i + 1)))), (3, .int (nI (sumN (fun q => σ 4 q) (i + 1)))), (4, .int (nI (sumN (notDue σ) (i + 1)))), (5, .int (nI (sumN (ndF σ) (i + 1)))), (6, .int 1), (7, .int (nI (i + 1)))] rfl ?_
            exact ih (i + 1) (by omega) (by omega)
          · skip
            have c398 := cv_eq_f (a := (σ 5 i)) (b := 0) (by omega) (by omega) c398
            refine J_iload C rfl dL_isWell_401 ?_
            refine J_aload_n C rfl dL_isWell_403 ?_
            refine J_iload C rfl dL_isWell_404 ?_
            refine J_iconst C 0 (by decide) dL_isWell_406 ?_
            refine J_V0 (as := [.int (nI i), .int 0]) (rest := [.int (nI (σ 3 i))]) C NoX.b NoX.f (o_place l G P σ x i 0 (hg).i (hg).d (by omega)) (fun _ => OW_l2 _ _ _ _ _ _) 2 k434 k435 k436 k10 k437 rfl (by decide +kernel) ⟨Nat.le_of_ble_eq_true rfl, Nat.le_of_ble_eq_true rfl⟩ ⟨Nat.le_of_ble_eq_true rfl, Nat.le_of_ble_eq_true rfl⟩ dL_isWell_407 (Nat.le_of_ble_eq_true rfl) (OW_0 _ _ _ _) rfl (fun _ _ => ?_)
            refine J_st (st' := [.int (plF σ i (0 : Int32).toInt), .int (nI (σ 3 i))]) rfl ?_
            refine J_ws (ws' := OW G P σ x) rfl ?_
            refine J_i ((by rw [show (0 : Int32).toInt = 0 from by decide] <;> rfl) : (plF σ i (0 : Int32).toInt : Int32) = (nI (dueAt σ i))) ?_
            refine J_icmp_ne C 417 (by decide) dL_isWell_410 (fun h => absurd (cv_ne_t (a := (σ 3 i)) (b := (dueAt σ i)) (by omega) (by omega) h) (by omega)) (fun c410 => ?_)
            refine J_iconst C 1 (by decide) dL_isWell_413 ?_
            refine J_goto C 418 (by decide) dL_isWell_414 ?_
            refine J_istore C [(6, .int 1), (5, .int (nI (sumN (ndF σ) (i + 1)))), (4, .int (nI (sumN (notDue σ) (i + 1)))), (3, .int (nI (sumN (fun q => σ 4 q) (i + 1)))), (2, .int (nI (sumN (wrF σ) (i + 1)))), (8, .int (nI (σ 3 i))), (0, .ref P.1), (1, .int (nI (σ 0 4))), (7, .int (nI i))] (by decide) rfl dL_isWell_418 ?_
            refine J_iinc C (nI (i + 1)) [(7, .int (nI (i + 1))), (6, .int 1), (5, .int (nI (sumN (ndF σ) (i + 1)))), (4, .int (nI (sumN (notDue σ) (i + 1)))), (3, .int (nI (sumN (fun q => σ 4 q) (i + 1)))), (2, .int (nI (sumN (wrF σ) (i + 1)))), (8, .int (nI (σ 3 i))), (0, .ref P.1), (1, .int (nI (σ 0 4)))] 8 rfl (by first | exact nI_add _ 1 | rfl) (by decide) rfl dL_isWell_420 ?_
            refine J_goto C 138 (by decide) dL_isWell_423 ?_
            refine J_lvp [7, 8, 5, 4, 3, 2, 1, 0] [(0, .ref P.1), (1, .int (nI (σ 0 4))), (2, .int (nI (sumN (wrF σ) (i + 1)))), (3, .int (nI (sumN (fun q => σ 4 q) (i + 1)))), (4, .int (nI (sumN (notDue σ) (i + 1)))), (5, .int (nI (sumN (ndF σ) (i + 1)))), (6, .int 1), (7, .int (nI (i + 1)))] rfl ?_
            exact ih (i + 1) (by omega) (by omega)
        · skip
          have c330 := cv_ge_f (a := i) (b := ((σ 0 4) / 2)) (by omega) (by omega) c330
          refine J_iload C rfl dL_isWell_333 ?_
          refine J_aload_n C rfl dL_isWell_335 ?_
          refine J_iconst C 0 (by decide) dL_isWell_336 ?_
          refine J_iconst C 1 (by decide) dL_isWell_337 ?_
          refine J_V0 (as := [.int 0, .int 1]) (rest := [.int (nI i), .int 1]) C NoX.b NoX.f (o_scribe0 l G P σ x 1 (hg).i) (fun _ => OW_l2 _ _ _ _ _ _) 2 k405 k406 k407 k10 k408 rfl (by decide +kernel) ⟨Nat.le_of_ble_eq_true rfl, Nat.le_of_ble_eq_true rfl⟩ ⟨Nat.le_of_ble_eq_true rfl, Nat.le_of_ble_eq_true rfl⟩ dL_isWell_338 (Nat.le_of_ble_eq_true rfl) (OW_0 _ _ _ _) rfl (fun _ _ => ?_)
          refine J_st (st' := [.int (scrF σ 0 (1 : Int32).toInt), .int (nI i), .int 1]) rfl ?_
          refine J_ws (ws' := OW G P σ x) rfl ?_
          refine J_i ((by rw [show (1 : Int32).toInt = 1 from by decide] <;> rfl) : (scrF σ 0 (1 : Int32).toInt : Int32) = (nI (σ 0 14))) ?_
          refine J_icmp_ge C 348 (by decide) dL_isWell_341 (fun h => absurd (cv_ge_t (a := i) (b := (σ 0 14)) (by omega) (by omega) h) (by omega)) (fun c341 => ?_)
          refine J_iconst C 1 (by decide) dL_isWell_344 ?_
          refine J_goto C 372 (by decide) dL_isWell_345 ?_
          refine J_icmp_ne C 417 (by decide) dL_isWell_372 (fun h => absurd h (by decide)) (fun _ => ?_)
          refine J_aload_n C rfl dL_isWell_375 ?_
          refine J_iload C rfl dL_isWell_376 ?_
          refine J_bipush C 6 (by decide) dL_isWell_378 ?_
          refine J_V0 (as := [.int (nI i), .int 6]) (rest := []) C NoX.b NoX.f (o_place l G P σ x i 6 (hg).i (hg).d (by omega)) (fun _ => OW_l2 _ _ _ _ _ _) 2 k434 k435 k436 k10 k437 rfl (by decide +kernel) ⟨Nat.le_of_ble_eq_true rfl, Nat.le_of_ble_eq_true rfl⟩ ⟨Nat.le_of_ble_eq_true rfl, Nat.le_of_ble_eq_true rfl⟩ dL_isWell_380 (Nat.le_of_ble_eq_true rfl) (OW_0 _ _ _ _) rfl (fun _ _ => ?_)
          refine J_st (st' := [.int (plF σ i (6 : Int32).toInt)]) rfl ?_
          refine J_ws (ws' := OW G P σ x) rfl ?_
          refine J_i ((by rw [show (6 : Int32).toInt = 6 from by decide] <;> rfl) : (plF σ i (6 : Int32).toInt : Int32) = (if 0 < σ 3 i then nI (σ 6 i) else -5)) ?_
          refine J_i ((if_pos hw) : (if 0 < σ 3 i then nI (σ 6 i) else -5 : Int32) = (nI (σ 6 i))) ?_
          refine J_aload_n C rfl dL_isWell_383 ?_
          refine J_iconst C 0 (by decide) dL_isWell_384 ?_
          refine J_V0 (as := [.int 0]) (rest := [.int (nI (σ 6 i))]) C NoX.b NoX.f (o_count l G P σ x 0 (hg).i (hg).d) (fun _ => OW_l2 _ _ _ _ _ _) 1 k382 k383 k384 k10 k385 rfl (by decide +kernel) ⟨Nat.le_of_ble_eq_true rfl, Nat.le_of_ble_eq_true rfl⟩ ⟨Nat.le_of_ble_eq_true rfl, Nat.le_of_ble_eq_true rfl⟩ dL_isWell_385 (Nat.le_of_ble_eq_true rfl) (OW_0 _ _ _ _) rfl (fun _ _ => ?_)
          refine J_st (st' := [.int (cntF σ x.2.2.2.1.2.2.2 x.2.2.2.2.1.2 (0 : Int32).toInt), .int (nI (σ 6 i))]) rfl ?_
          refine J_ws (ws' := OW G P σ x) rfl ?_
          refine J_i ((by rw [show (0 : Int32).toInt = 0 from by decide] <;> rfl) : (cntF σ x.2.2.2.1.2.2.2 x.2.2.2.2.1.2 (0 : Int32).toInt : Int32) = (nI (σ 0 3))) ?_
          refine J_icmp_gt C 417 (by decide) dL_isWell_388 (fun h => absurd (cv_gt_t (a := (σ 6 i)) (b := (σ 0 3)) (by omega) (by omega) h) (by omega)) (fun c388 => ?_)
          refine J_aload_n C rfl dL_isWell_391 ?_
          refine J_iload C rfl dL_isWell_392 ?_
          refine J_iconst C 3 (by decide) dL_isWell_394 ?_
          refine J_V0 (as := [.int (nI i), .int 3]) (rest := []) C NoX.b NoX.f (o_place l G P σ x i 3 (hg).i (hg).d (by omega)) (fun _ => OW_l2 _ _ _ _ _ _) 2 k434 k435 k436 k10 k437 rfl (by decide +kernel) ⟨Nat.le_of_ble_eq_true rfl, Nat.le_of_ble_eq_true rfl⟩ ⟨Nat.le_of_ble_eq_true rfl, Nat.le_of_ble_eq_true rfl⟩ dL_isWell_395 (Nat.le_of_ble_eq_true rfl) (OW_0 _ _ _ _) rfl (fun _ _ => ?_)
          refine J_st (st' := [.int (plF σ i (3 : Int32).toInt)]) rfl ?_
          refine J_ws (ws' := OW G P σ x) rfl ?_
          refine J_i ((by rw [show (3 : Int32).toInt = 3 from by decide] <;> rfl) : (plF σ i (3 : Int32).toInt : Int32) = (nI (σ 5 i))) ?_
          refine J_if_eq C 413 (by decide) dL_isWell_398 (fun c398 => ?_) (fun c398 => ?_)
          · skip
            have c398 := cv_eq_t (a := (σ 5 i)) (b := 0) (by omega) (by omega) c398
            refine J_iconst C 1 (by decide) dL_isWell_413 ?_
            refine J_goto C 418 (by decide) dL_isWell_414 ?_
            refine J_istore C [(6, .int 1), (5, .int (nI (sumN (ndF σ) (i + 1)))), (4, .int (nI (sumN (notDue σ) (i + 1)))), (3, .int (nI (sumN (fun q => σ 4 q) (i + 1)))), (2, .int (nI (sumN (wrF σ) (i + 1)))), (8, .int (nI (σ 3 i))), (0, .ref P.1), (1, .int (nI (σ 0 4))), (7, .int (nI i))] (by decide) rfl dL_isWell_418 ?_
            refine J_iinc C (nI (i + 1)) [(7, .int (nI (i + 1))), (6, .int 1), (5, .int (nI (sumN (ndF σ) (i + 1)))), (4, .int (nI (sumN (notDue σ) (i + 1)))), (3, .int (nI (sumN (fun q => σ 4 q) (i + 1)))), (2, .int (nI (sumN (wrF σ) (i + 1)))), (8, .int (nI (σ 3 i))), (0, .ref P.1), (1, .int (nI (σ 0 4)))] 8 rfl (by first | exact nI_add _ 1 | rfl) (by decide) rfl dL_isWell_420 ?_
            refine J_goto C 138 (by decide) dL_isWell_423 ?_
            refine J_lvp [7, 8, 5, 4, 3, 2, 1, 0] [(0, .ref P.1), (1, .int (nI (σ 0 4))), (2, .int (nI (sumN (wrF σ) (i + 1)))), (3, .int (nI (sumN (fun q => σ 4 q) (i + 1)))), (4, .int (nI (sumN (notDue σ) (i + 1)))), (5, .int (nI (sumN (ndF σ) (i + 1)))), (6, .int 1), (7, .int (nI (i + 1)))] rfl ?_
            exact ih (i + 1) (by omega) (by omega)
          · skip
            have c398 := cv_eq_f (a := (σ 5 i)) (b := 0) (by omega) (by omega) c398
            refine J_iload C rfl dL_isWell_401 ?_
            refine J_aload_n C rfl dL_isWell_403 ?_
            refine J_iload C rfl dL_isWell_404 ?_
            refine J_iconst C 0 (by decide) dL_isWell_406 ?_
            refine J_V0 (as := [.int (nI i), .int 0]) (rest := [.int (nI (σ 3 i))]) C NoX.b NoX.f (o_place l G P σ x i 0 (hg).i (hg).d (by omega)) (fun _ => OW_l2 _ _ _ _ _ _) 2 k434 k435 k436 k10 k437 rfl (by decide +kernel) ⟨Nat.le_of_ble_eq_true rfl, Nat.le_of_ble_eq_true rfl⟩ ⟨Nat.le_of_ble_eq_true rfl, Nat.le_of_ble_eq_true rfl⟩ dL_isWell_407 (Nat.le_of_ble_eq_true rfl) (OW_0 _ _ _ _) rfl (fun _ _ => ?_)
            refine J_st (st' := [.int (plF σ i (0 : Int32).toInt), .int (nI (σ 3 i))]) rfl ?_
            refine J_ws (ws' := OW G P σ x) rfl ?_
            refine J_i ((by rw [show (0 : Int32).toInt = 0 from by decide] <;> rfl) : (plF σ i (0 : Int32).toInt : Int32) = (nI (dueAt σ i))) ?_
            refine J_icmp_ne C 417 (by decide) dL_isWell_410 (fun h => absurd (cv_ne_t (a := (σ 3 i)) (b := (dueAt σ i)) (by omega) (by omega) h) (by omega)) (fun c410 => ?_)
            refine J_iconst C 1 (by decide) dL_isWell_413 ?_
            refine J_goto C 418 (by decide) dL_isWell_414 ?_
            refine J_istore C [(6, .int 1), (5, .int (nI (sumN (ndF σ) (i + 1)))), (4, .int (nI (sumN (notDue σ) (i + 1)))), (3, .int (nI (sumN (fun q => σ 4 q) (i + 1)))), (2, .int (nI (sumN (wrF σ) (i + 1)))), (8, .int (nI (σ 3 i))), (0, .ref P.1), (1, .int (nI (σ 0 4))), (7, .int (nI i))] (by decide) rfl dL_isWell_418 ?_
            refine J_iinc C (nI (i + 1)) [(7, .int (nI (i + 1))), (6, .int 1), (5, .int (nI (sumN (ndF σ) (i + 1)))), (4, .int (nI (sumN (notDue σ) (i + 1)))), (3, .int (nI (sumN (fun q => σ 4 q) (i + 1)))), (2, .int (nI (sumN (wrF σ) (i + 1)))), (8, .int (nI (σ 3 i))), (0, .ref P.1), (1, .int (nI (σ 0 4)))] 8 rfl (by first | exact nI_add _ 1 | rfl) (by decide) rfl dL_isWell_420 ?_
            refine J_goto C 138 (by decide) dL_isWell_423 ?_
            refine J_lvp [7, 8, 5, 4, 3, 2, 1, 0] [(0, .ref P.1), (1, .int (nI (σ 0 4))), (2, .int (nI (sumN (wrF σ) (i + 1)))), (3, .int (nI (sumN (fun q => σ 4 q) (i + 1)))), (4, .int (nI (sumN (notDue σ) (i + 1)))), (5, .int (nI (sumN (ndF σ) (i + 1)))), (6, .int 1), (7, .int (nI (i + 1)))] rfl ?_
            exact ih (i + 1) (by omega) (by omega)
    · skip
      refine J_aload_n C rfl dL_isWell_144 ?_
      refine J_iload C rfl dL_isWell_145 ?_
      refine J_iconst C 1 (by decide) dL_isWell_147 ?_
      refine J_V0 (as := [.int (nI i), .int 1]) (rest := []) C NoX.b NoX.f (o_place l G P σ x i 1 (hg).i (hg).d (by omega)) (fun _ => OW_l2 _ _ _ _ _ _) 2 k434 k435 k436 k10 k437 rfl (by decide +kernel) ⟨Nat.le_of_ble_eq_true rfl, Nat.le_of_ble_eq_true rfl⟩ ⟨Nat.le_of_ble_eq_true rfl, Nat.le_of_ble_eq_true rfl⟩ dL_isWell_148 (Nat.le_of_ble_eq_true rfl) (OW_0 _ _ _ _) rfl (fun _ _ => ?_)
      refine J_st (st' := [.int (plF σ i (1 : Int32).toInt)]) rfl ?_
      refine J_ws (ws' := OW G P σ x) rfl ?_
      refine J_i ((by rw [show (1 : Int32).toInt = 1 from by decide] <;> rfl) : (plF σ i (1 : Int32).toInt : Int32) = (nI (σ 3 i))) ?_
      refine J_istore C [(8, .int (nI (σ 3 i))), (0, .ref P.1), (1, .int (nI (σ 0 4))), (2, .int (nI (sumN (wrF σ) i))), (3, .int (nI (sumN (fun q => σ 4 q) i))), (4, .int (nI (sumN (notDue σ) i))), (5, .int (nI (sumN (ndF σ) i))), (6, .int 1), (7, .int (nI i))] (by decide) rfl dL_isWell_151 ?_
      refine J_iload_n C rfl dL_isWell_153 ?_
      refine J_iload C rfl dL_isWell_154 ?_
      refine J_if_le C 163 (by decide) dL_isWell_156 (fun c156 => ?_) (fun h => absurd (cv_le_f (a := (σ 3 i)) (b := 0) (by omega) (by omega) h) (by omega))
      refine J_iconst C 0 (by decide) dL_isWell_163 ?_
      refine J_iadd C dL_isWell_164 ?_
      refine J_i (((nI_add _ 0).trans (congrArg nI (show sumN (wrF σ) i + 0 = sumN (wrF σ) i + wrF σ i from by rw [show wrF σ i = 0 from if_neg hw]))) : ((nI (sumN (wrF σ) i)) + 0 : Int32) = (nI (sumN (wrF σ) (i + 1)))) ?_
      refine J_istore_n C [(2, .int (nI (sumN (wrF σ) (i + 1)))), (8, .int (nI (σ 3 i))), (0, .ref P.1), (1, .int (nI (σ 0 4))), (3, .int (nI (sumN (fun q => σ 4 q) i))), (4, .int (nI (sumN (notDue σ) i))), (5, .int (nI (sumN (ndF σ) i))), (6, .int 1), (7, .int (nI i))] (by decide) rfl dL_isWell_165 ?_
      refine J_iload_n C rfl dL_isWell_166 ?_
      refine J_aload_n C rfl dL_isWell_167 ?_
      refine J_iload C rfl dL_isWell_168 ?_
      refine J_iconst C 2 (by decide) dL_isWell_170 ?_
      refine J_V0 (as := [.int (nI i), .int 2]) (rest := [.int (nI (sumN (fun q => σ 4 q) i))]) C NoX.b NoX.f (o_place l G P σ x i 2 (hg).i (hg).d (by omega)) (fun _ => OW_l2 _ _ _ _ _ _) 2 k434 k435 k436 k10 k437 rfl (by decide +kernel) ⟨Nat.le_of_ble_eq_true rfl, Nat.le_of_ble_eq_true rfl⟩ ⟨Nat.le_of_ble_eq_true rfl, Nat.le_of_ble_eq_true rfl⟩ dL_isWell_171 (Nat.le_of_ble_eq_true rfl) (OW_0 _ _ _ _) rfl (fun _ _ => ?_)
      refine J_st (st' := [.int (plF σ i (2 : Int32).toInt), .int (nI (sumN (fun q => σ 4 q) i))]) rfl ?_
      refine J_ws (ws' := OW G P σ x) rfl ?_
      refine J_i ((by rw [show (2 : Int32).toInt = 2 from by decide] <;> rfl) : (plF σ i (2 : Int32).toInt : Int32) = (nI (σ 4 i))) ?_
      refine J_iadd C dL_isWell_174 ?_
      refine J_i ((nI_add _ _) : ((nI (sumN (fun q => σ 4 q) i)) + (nI (σ 4 i)) : Int32) = (nI (sumN (fun q => σ 4 q) (i + 1)))) ?_
      refine J_istore_n C [(3, .int (nI (sumN (fun q => σ 4 q) (i + 1)))), (2, .int (nI (sumN (wrF σ) (i + 1)))), (8, .int (nI (σ 3 i))), (0, .ref P.1), (1, .int (nI (σ 0 4))), (4, .int (nI (sumN (notDue σ) i))), (5, .int (nI (sumN (ndF σ) i))), (6, .int 1), (7, .int (nI i))] (by decide) rfl dL_isWell_175 ?_
      refine J_iload C rfl dL_isWell_176 ?_
      refine J_iload C rfl dL_isWell_178 ?_
      refine J_if_le C 199 (by decide) dL_isWell_180 (fun c180 => ?_) (fun h => absurd (cv_le_f (a := (σ 3 i)) (b := 0) (by omega) (by omega) h) (by omega))
      refine J_iconst C 0 (by decide) dL_isWell_199 ?_
      refine J_iadd C dL_isWell_200 ?_
      refine J_i (((nI_add _ 0).trans (congrArg nI (show sumN (notDue σ) i + 0 = sumN (notDue σ) i + notDue σ i from by rw [show notDue σ i = 0 from if_neg (by omega)]))) : ((nI (sumN (notDue σ) i)) + 0 : Int32) = (nI (sumN (notDue σ) (i + 1)))) ?_
      refine J_istore C [(4, .int (nI (sumN (notDue σ) (i + 1)))), (3, .int (nI (sumN (fun q => σ 4 q) (i + 1)))), (2, .int (nI (sumN (wrF σ) (i + 1)))), (8, .int (nI (σ 3 i))), (0, .ref P.1), (1, .int (nI (σ 0 4))), (5, .int (nI (sumN (ndF σ) i))), (6, .int 1), (7, .int (nI i))] (by decide) rfl dL_isWell_201 ?_
      refine J_iload C rfl dL_isWell_203 ?_
      refine J_iload C rfl dL_isWell_205 ?_
      refine J_if_le C 214 (by decide) dL_isWell_207 (fun c207 => ?_) (fun h => absurd (cv_le_f (a := (σ 3 i)) (b := 0) (by omega) (by omega) h) (by omega))
      by_cases tq : ¬ σ 2 i = 0
      · skip
        have hla := letAt_y tq
        refine J_aload_n C rfl dL_isWell_214 ?_
        refine J_iload C rfl dL_isWell_215 ?_
        refine J_iconst C 4 (by decide) dL_isWell_217 ?_
        refine J_V0 (as := [.int (nI i), .int 4]) (rest := [.int (nI (sumN (ndF σ) i))]) C NoX.b NoX.f (o_place l G P σ x i 4 (hg).i (hg).d (by omega)) (fun _ => OW_l2 _ _ _ _ _ _) 2 k434 k435 k436 k10 k437 rfl (by decide +kernel) ⟨Nat.le_of_ble_eq_true rfl, Nat.le_of_ble_eq_true rfl⟩ ⟨Nat.le_of_ble_eq_true rfl, Nat.le_of_ble_eq_true rfl⟩ dL_isWell_218 (Nat.le_of_ble_eq_true rfl) (OW_0 _ _ _ _) rfl (fun _ _ => ?_)
        refine J_st (st' := [.int (plF σ i (4 : Int32).toInt), .int (nI (sumN (ndF σ) i))]) rfl ?_
        refine J_ws (ws' := OW G P σ x) rfl ?_
        refine J_i ((by rw [show (4 : Int32).toInt = 4 from by decide] <;> rfl) : (plF σ i (4 : Int32).toInt : Int32) = (nI (σ 2 i))) ?_
        refine J_if_le C 234 (by decide) dL_isWell_221 (fun h => absurd (cv_le_t (a := (σ 2 i)) (b := 0) (by omega) (by omega) h) (by omega)) (fun c221 => ?_)
        refine J_aload_n C rfl dL_isWell_224 ?_
        refine J_iload C rfl dL_isWell_225 ?_
        refine J_iconst C 4 (by decide) dL_isWell_227 ?_
        refine J_V0 (as := [.int (nI i), .int 4]) (rest := [.int (nI (sumN (ndF σ) i))]) C NoX.b NoX.f (o_place l G P σ x i 4 (hg).i (hg).d (by omega)) (fun _ => OW_l2 _ _ _ _ _ _) 2 k434 k435 k436 k10 k437 rfl (by decide +kernel) ⟨Nat.le_of_ble_eq_true rfl, Nat.le_of_ble_eq_true rfl⟩ ⟨Nat.le_of_ble_eq_true rfl, Nat.le_of_ble_eq_true rfl⟩ dL_isWell_228 (Nat.le_of_ble_eq_true rfl) (OW_0 _ _ _ _) rfl (fun _ _ => ?_)
        refine J_st (st' := [.int (plF σ i (4 : Int32).toInt), .int (nI (sumN (ndF σ) i))]) rfl ?_
        refine J_ws (ws' := OW G P σ x) rfl ?_
        refine J_i ((by rw [show (4 : Int32).toInt = 4 from by decide] <;> rfl) : (plF σ i (4 : Int32).toInt : Int32) = (nI (σ 2 i))) ?_
        refine J_goto C 241 (by decide) dL_isWell_231 ?_
        refine J_iadd C dL_isWell_241 ?_
        refine J_i (((nI_add _ (σ 2 i)).trans (congrArg nI (show sumN (ndF σ) i + (σ 2 i) = sumN (ndF σ) i + ndF σ i from by rw [show ndF σ i = σ 2 i from (if_neg hw).trans hla]))) : ((nI (sumN (ndF σ) i)) + (nI (σ 2 i)) : Int32) = (nI (sumN (ndF σ) (i + 1)))) ?_
        refine J_istore C [(5, .int (nI (sumN (ndF σ) (i + 1)))), (4, .int (nI (sumN (notDue σ) (i + 1)))), (3, .int (nI (sumN (fun q => σ 4 q) (i + 1)))), (2, .int (nI (sumN (wrF σ) (i + 1)))), (8, .int (nI (σ 3 i))), (0, .ref P.1), (1, .int (nI (σ 0 4))), (6, .int 1), (7, .int (nI i))] (by decide) rfl dL_isWell_242 ?_
        refine J_iload C rfl dL_isWell_244 ?_
        refine J_if_eq C 417 (by decide) dL_isWell_246 (fun h => absurd h (by decide)) (fun _ => ?_)
        refine J_aload_n C rfl dL_isWell_249 ?_
        refine J_iload C rfl dL_isWell_250 ?_
        refine J_iconst C 0 (by decide) dL_isWell_252 ?_
        refine J_V0 (as := [.int (nI i), .int 0]) (rest := []) C NoX.b NoX.f (o_place l G P σ x i 0 (hg).i (hg).d (by omega)) (fun _ => OW_l2 _ _ _ _ _ _) 2 k434 k435 k436 k10 k437 rfl (by decide +kernel) ⟨Nat.le_of_ble_eq_true rfl, Nat.le_of_ble_eq_true rfl⟩ ⟨Nat.le_of_ble_eq_true rfl, Nat.le_of_ble_eq_true rfl⟩ dL_isWell_253 (Nat.le_of_ble_eq_true rfl) (OW_0 _ _ _ _) rfl (fun _ _ => ?_)
        refine J_st (st' := [.int (plF σ i (0 : Int32).toInt)]) rfl ?_
        refine J_ws (ws' := OW G P σ x) rfl ?_
        refine J_i ((by rw [show (0 : Int32).toInt = 0 from by decide] <;> rfl) : (plF σ i (0 : Int32).toInt : Int32) = (nI (dueAt σ i))) ?_
        refine J_aload_n C rfl dL_isWell_256 ?_
        refine J_iload_n C rfl dL_isWell_257 ?_
        refine J_iconst C 1 (by decide) dL_isWell_258 ?_
        refine J_isub C dL_isWell_259 ?_
        refine J_i (pk_sub (a := σ 0 4) (b := 1) (by omega) : ((nI (σ 0 4)) - 1 : Int32) = (nI (σ 0 4 - 1))) ?_
        refine J_iload C rfl dL_isWell_260 ?_
        refine J_isub C dL_isWell_262 ?_
        refine J_i (pk_sub (a := σ 0 4 - 1) (b := i) (by omega) : ((nI (σ 0 4 - 1)) - (nI i) : Int32) = (nI ((σ 0 4 - 1) - i))) ?_
        refine J_iconst C 0 (by decide) dL_isWell_263 ?_
        refine J_V0 (as := [.int (nI ((σ 0 4 - 1) - i)), .int 0]) (rest := [.int (nI (dueAt σ i))]) C NoX.b NoX.f (o_place l G P σ x ((σ 0 4 - 1) - i) 0 (hg).i (hg).d (by omega)) (fun _ => OW_l2 _ _ _ _ _ _) 2 k434 k435 k436 k10 k437 rfl (by decide +kernel) ⟨Nat.le_of_ble_eq_true rfl, Nat.le_of_ble_eq_true rfl⟩ ⟨Nat.le_of_ble_eq_true rfl, Nat.le_of_ble_eq_true rfl⟩ dL_isWell_264 (Nat.le_of_ble_eq_true rfl) (OW_0 _ _ _ _) rfl (fun _ _ => ?_)
        refine J_st (st' := [.int (plF σ ((σ 0 4 - 1) - i) (0 : Int32).toInt), .int (nI (dueAt σ i))]) rfl ?_
        refine J_ws (ws' := OW G P σ x) rfl ?_
        refine J_i ((by rw [show (0 : Int32).toInt = 0 from by decide] <;> rfl) : (plF σ ((σ 0 4 - 1) - i) (0 : Int32).toInt : Int32) = (nI (dueAt σ ((σ 0 4 - 1) - i)))) ?_
        refine J_icmp_ne C 417 (by decide) dL_isWell_267 (fun h => absurd h (fun q => q (congrArg nI hdm.symm))) (fun _ => ?_)
        refine J_aload_n C rfl dL_isWell_270 ?_
        refine J_iload C rfl dL_isWell_271 ?_
        refine J_iconst C 5 (by decide) dL_isWell_273 ?_
        refine J_V0 (as := [.int (nI i), .int 5]) (rest := []) C NoX.b NoX.f (o_place l G P σ x i 5 (hg).i (hg).d (by omega)) (fun _ => OW_l2 _ _ _ _ _ _) 2 k434 k435 k436 k10 k437 rfl (by decide +kernel) ⟨Nat.le_of_ble_eq_true rfl, Nat.le_of_ble_eq_true rfl⟩ ⟨Nat.le_of_ble_eq_true rfl, Nat.le_of_ble_eq_true rfl⟩ dL_isWell_274 (Nat.le_of_ble_eq_true rfl) (OW_0 _ _ _ _) rfl (fun _ _ => ?_)
        refine J_st (st' := [.int (plF σ i (5 : Int32).toInt)]) rfl ?_
        refine J_ws (ws' := OW G P σ x) rfl ?_
        refine J_i ((by rw [show (5 : Int32).toInt = 5 from by decide] <;> rfl) : (plF σ i (5 : Int32).toInt : Int32) = (nI (σ 0 4 - 1 - i))) ?_
        refine J_iload_n C rfl dL_isWell_277 ?_
        refine J_iconst C 1 (by decide) dL_isWell_278 ?_
        refine J_isub C dL_isWell_279 ?_
        refine J_i (pk_sub (a := σ 0 4) (b := 1) (by omega) : ((nI (σ 0 4)) - 1 : Int32) = (nI (σ 0 4 - 1))) ?_
        refine J_iload C rfl dL_isWell_280 ?_
        refine J_isub C dL_isWell_282 ?_
        refine J_i (pk_sub (a := σ 0 4 - 1) (b := i) (by omega) : ((nI (σ 0 4 - 1)) - (nI i) : Int32) = (nI ((σ 0 4 - 1) - i))) ?_
        refine J_icmp_ne C 417 (by decide) dL_isWell_283 (fun h => absurd (cv_ne_t (a := (σ 0 4 - 1 - i)) (b := ((σ 0 4 - 1) - i)) (by omega) (by omega) h) (by omega)) (fun c283 => ?_)
        refine J_iload C rfl dL_isWell_286 ?_
        refine J_if_le C 295 (by decide) dL_isWell_288 (fun c288 => ?_) (fun h => absurd (cv_le_f (a := (σ 3 i)) (b := 0) (by omega) (by omega) h) (by omega))
        refine J_iconst C 0 (by decide) dL_isWell_295 ?_
        refine J_aload_n C rfl dL_isWell_296 ?_
        refine J_iload C rfl dL_isWell_297 ?_
        refine J_bipush C 6 (by decide) dL_isWell_299 ?_
        refine J_V0 (as := [.int (nI i), .int 6]) (rest := [.int 0]) C NoX.b NoX.f (o_place l G P σ x i 6 (hg).i (hg).d (by omega)) (fun _ => OW_l2 _ _ _ _ _ _) 2 k434 k435 k436 k10 k437 rfl (by decide +kernel) ⟨Nat.le_of_ble_eq_true rfl, Nat.le_of_ble_eq_true rfl⟩ ⟨Nat.le_of_ble_eq_true rfl, Nat.le_of_ble_eq_true rfl⟩ dL_isWell_301 (Nat.le_of_ble_eq_true rfl) (OW_0 _ _ _ _) rfl (fun _ _ => ?_)
        refine J_st (st' := [.int (plF σ i (6 : Int32).toInt), .int 0]) rfl ?_
        refine J_ws (ws' := OW G P σ x) rfl ?_
        refine J_i ((by rw [show (6 : Int32).toInt = 6 from by decide] <;> rfl) : (plF σ i (6 : Int32).toInt : Int32) = (if 0 < σ 3 i then nI (σ 6 i) else -5)) ?_
        refine J_i ((if_neg hw) : (if 0 < σ 3 i then nI (σ 6 i) else -5 : Int32) = (-5)) ?_
        refine J_if_le C 311 (by decide) dL_isWell_304 (fun _ => ?_) (fun h => absurd h (by decide))
        refine J_iconst C 0 (by decide) dL_isWell_311 ?_
        refine J_icmp_ne C 417 (by decide) dL_isWell_312 (fun h => absurd h (by decide)) (fun _ => ?_)
        refine J_iload C rfl dL_isWell_315 ?_
        refine J_if_le C 324 (by decide) dL_isWell_317 (fun c317 => ?_) (fun h => absurd (cv_le_f (a := (σ 3 i)) (b := 0) (by omega) (by omega) h) (by omega))
        refine J_iconst C 0 (by decide) dL_isWell_324 ?_
        refine J_iload C rfl dL_isWell_325 ?_
        refine J_iload_n C rfl dL_isWell_327 ?_
        refine J_iconst C 2 (by decide) dL_isWell_328 ?_
        refine J_idiv C (by decide) dL_isWell_329 ?_
        refine J_i (pk_div (a := σ 0 4) (d := 2) (by omega) (by omega) (by omega) : ((nI (σ 0 4)) / 2 : Int32) = (nI ((σ 0 4) / 2))) ?_
        refine J_icmp_ge C 352 (by decide) dL_isWell_330 (fun c330 => ?_) (fun c330 => ?_)
        · skip
          have c330 := cv_ge_t (a := i) (b := ((σ 0 4) / 2)) (by omega) (by omega) c330
          refine J_iload_n C rfl dL_isWell_352 ?_
          refine J_iconst C 1 (by decide) dL_isWell_353 ?_
          refine J_isub C dL_isWell_354 ?_
          refine J_i (pk_sub (a := σ 0 4) (b := 1) (by omega) : ((nI (σ 0 4)) - 1 : Int32) = (nI (σ 0 4 - 1))) ?_
          refine J_iload C rfl dL_isWell_355 ?_
          refine J_isub C dL_isWell_357 ?_
          refine J_i (pk_sub (a := σ 0 4 - 1) (b := i) (by omega) : ((nI (σ 0 4 - 1)) - (nI i) : Int32) = (nI ((σ 0 4 - 1) - i))) ?_
          refine J_aload_n C rfl dL_isWell_358 ?_
          refine J_iconst C 1 (by decide) dL_isWell_359 ?_
          refine J_iconst C 1 (by decide) dL_isWell_360 ?_
          refine J_V0 (as := [.int 1, .int 1]) (rest := [.int (nI ((σ 0 4 - 1) - i)), .int 0]) C NoX.b NoX.f (o_scribe1 l G P σ x 1 (hg).i) (fun _ => OW_l2 _ _ _ _ _ _) 2 k405 k406 k407 k10 k408 rfl (by decide +kernel) ⟨Nat.le_of_ble_eq_true rfl, Nat.le_of_ble_eq_true rfl⟩ ⟨Nat.le_of_ble_eq_true rfl, Nat.le_of_ble_eq_true rfl⟩ dL_isWell_361 (Nat.le_of_ble_eq_true rfl) (OW_0 _ _ _ _) rfl (fun _ _ => ?_)
          refine J_st (st' := [.int (scrF σ 1 (1 : Int32).toInt), .int (nI ((σ 0 4 - 1) - i)), .int 0]) rfl ?_
          refine J_ws (ws' := OW G P σ x) rfl ?_
          refine J_i ((by rw [show (1 : Int32).toInt = 1 from by decide] <;> rfl) : (scrF σ 1 (1 : Int32).toInt : Int32) = (nI (σ 0 15))) ?_
          refine J_icmp_ge C 371 (by decide) dL_isWell_364 (fun c364 => ?_) (fun h => absurd (cv_ge_f (a := ((σ 0 4 - 1) - i)) (b := (σ 0 15)) (by omega) (by omega) h) (by omega))
          refine J_iconst C 0 (by decide) dL_isWell_371 ?_
          refine J_icmp_ne C 417 (by decide) dL_isWell_372 (fun h => absurd h (by decide)) (fun _ => ?_)
          refine J_aload_n C rfl dL_isWell_375 ?_
          refine J_iload C rfl dL_isWell_376 ?_
          refine J_bipush C 6 (by decide) dL_isWell_378 ?_
          refine J_V0 (as := [.int (nI i), .int 6]) (rest := []) C NoX.b NoX.f (o_place l G P σ x i 6 (hg).i (hg).d (by omega)) (fun _ => OW_l2 _ _ _ _ _ _) 2 k434 k435 k436 k10 k437 rfl (by decide +kernel) ⟨Nat.le_of_ble_eq_true rfl, Nat.le_of_ble_eq_true rfl⟩ ⟨Nat.le_of_ble_eq_true rfl, Nat.le_of_ble_eq_true rfl⟩ dL_isWell_380 (Nat.le_of_ble_eq_true rfl) (OW_0 _ _ _ _) rfl (fun _ _ => ?_)
          refine J_st (st' := [.int (plF σ i (6 : Int32).toInt)]) rfl ?_
          refine J_ws (ws' := OW G P σ x) rfl ?_
          refine J_i ((by rw [show (6 : Int32).toInt = 6 from by decide] <;> rfl) : (plF σ i (6 : Int32).toInt : Int32) = (if 0 < σ 3 i then nI (σ 6 i) else -5)) ?_
          refine J_i ((if_neg hw) : (if 0 < σ 3 i then nI (σ 6 i) else -5 : Int32) = (-5)) ?_
          refine J_aload_n C rfl dL_isWell_383 ?_
          refine J_iconst C 0 (by decide) dL_isWell_384 ?_
          refine J_V0 (as := [.int 0]) (rest := [.int (-5)]) C NoX.b NoX.f (o_count l G P σ x 0 (hg).i (hg).d) (fun _ => OW_l2 _ _ _ _ _ _) 1 k382 k383 k384 k10 k385 rfl (by decide +kernel) ⟨Nat.le_of_ble_eq_true rfl, Nat.le_of_ble_eq_true rfl⟩ ⟨Nat.le_of_ble_eq_true rfl, Nat.le_of_ble_eq_true rfl⟩ dL_isWell_385 (Nat.le_of_ble_eq_true rfl) (OW_0 _ _ _ _) rfl (fun _ _ => ?_)
          refine J_st (st' := [.int (cntF σ x.2.2.2.1.2.2.2 x.2.2.2.2.1.2 (0 : Int32).toInt), .int (-5)]) rfl ?_
          refine J_ws (ws' := OW G P σ x) rfl ?_
          refine J_i ((by rw [show (0 : Int32).toInt = 0 from by decide] <;> rfl) : (cntF σ x.2.2.2.1.2.2.2 x.2.2.2.2.1.2 (0 : Int32).toInt : Int32) = (nI (σ 0 3))) ?_
          refine J_icmp_gt C 417 (by decide) dL_isWell_388 (fun h => absurd h (nI_nlt5 (by omega))) (fun _ => ?_)
          refine J_aload_n C rfl dL_isWell_391 ?_
          refine J_iload C rfl dL_isWell_392 ?_
          refine J_iconst C 3 (by decide) dL_isWell_394 ?_
          refine J_V0 (as := [.int (nI i), .int 3]) (rest := []) C NoX.b NoX.f (o_place l G P σ x i 3 (hg).i (hg).d (by omega)) (fun _ => OW_l2 _ _ _ _ _ _) 2 k434 k435 k436 k10 k437 rfl (by decide +kernel) ⟨Nat.le_of_ble_eq_true rfl, Nat.le_of_ble_eq_true rfl⟩ ⟨Nat.le_of_ble_eq_true rfl, Nat.le_of_ble_eq_true rfl⟩ dL_isWell_395 (Nat.le_of_ble_eq_true rfl) (OW_0 _ _ _ _) rfl (fun _ _ => ?_)
          refine J_st (st' := [.int (plF σ i (3 : Int32).toInt)]) rfl ?_
          refine J_ws (ws' := OW G P σ x) rfl ?_
          refine J_i ((by rw [show (3 : Int32).toInt = 3 from by decide] <;> rfl) : (plF σ i (3 : Int32).toInt : Int32) = (nI (σ 5 i))) ?_
          refine J_if_eq C 413 (by decide) dL_isWell_398 (fun c398 => ?_) (fun c398 => ?_)
          · skip
            have c398 := cv_eq_t (a := (σ 5 i)) (b := 0) (by omega) (by omega) c398
            refine J_iconst C 1 (by decide) dL_isWell_413 ?_
            refine J_goto C 418 (by decide) dL_isWell_414 ?_
            refine J_istore C [(6, .int 1), (5, .int (nI (sumN (ndF σ) (i + 1)))), (4, .int (nI (sumN (notDue σ) (i + 1)))), (3, .int (nI (sumN (fun q => σ 4 q) (i + 1)))), (2, .int (nI (sumN (wrF σ) (i + 1)))), (8, .int (nI (σ 3 i))), (0, .ref P.1), (1, .int (nI (σ 0 4))), (7, .int (nI i))] (by decide) rfl dL_isWell_418 ?_
            refine J_iinc C (nI (i + 1)) [(7, .int (nI (i + 1))), (6, .int 1), (5, .int (nI (sumN (ndF σ) (i + 1)))), (4, .int (nI (sumN (notDue σ) (i + 1)))), (3, .int (nI (sumN (fun q => σ 4 q) (i + 1)))), (2, .int (nI (sumN (wrF σ) (i + 1)))), (8, .int (nI (σ 3 i))), (0, .ref P.1), (1, .int (nI (σ 0 4)))] 8 rfl (by first | exact nI_add _ 1 | rfl) (by decide) rfl dL_isWell_420 ?_
            refine J_goto C 138 (by decide) dL_isWell_423 ?_
            refine J_lvp [7, 8, 5, 4, 3, 2, 1, 0] [(0, .ref P.1), (1, .int (nI (σ 0 4))), (2, .int (nI (sumN (wrF σ) (i + 1)))), (3, .int (nI (sumN (fun q => σ 4 q) (i + 1)))), (4, .int (nI (sumN (notDue σ) (i + 1)))), (5, .int (nI (sumN (ndF σ) (i + 1)))), (6, .int 1), (7, .int (nI (i + 1)))] rfl ?_
            exact ih (i + 1) (by omega) (by omega)
          · skip
            have c398 := cv_eq_f (a := (σ 5 i)) (b := 0) (by omega) (by omega) c398
            refine J_iload C rfl dL_isWell_401 ?_
            refine J_aload_n C rfl dL_isWell_403 ?_
            refine J_iload C rfl dL_isWell_404 ?_
            refine J_iconst C 0 (by decide) dL_isWell_406 ?_
            refine J_V0 (as := [.int (nI i), .int 0]) (rest := [.int (nI (σ 3 i))]) C NoX.b NoX.f (o_place l G P σ x i 0 (hg).i (hg).d (by omega)) (fun _ => OW_l2 _ _ _ _ _ _) 2 k434 k435 k436 k10 k437 rfl (by decide +kernel) ⟨Nat.le_of_ble_eq_true rfl, Nat.le_of_ble_eq_true rfl⟩ ⟨Nat.le_of_ble_eq_true rfl, Nat.le_of_ble_eq_true rfl⟩ dL_isWell_407 (Nat.le_of_ble_eq_true rfl) (OW_0 _ _ _ _) rfl (fun _ _ => ?_)
            refine J_st (st' := [.int (plF σ i (0 : Int32).toInt), .int (nI (σ 3 i))]) rfl ?_
            refine J_ws (ws' := OW G P σ x) rfl ?_
            refine J_i ((by rw [show (0 : Int32).toInt = 0 from by decide] <;> rfl) : (plF σ i (0 : Int32).toInt : Int32) = (nI (dueAt σ i))) ?_
            refine J_icmp_ne C 417 (by decide) dL_isWell_410 (fun h => absurd (cv_ne_t (a := (σ 3 i)) (b := (dueAt σ i)) (by omega) (by omega) h) (by omega)) (fun c410 => ?_)
            refine J_iconst C 1 (by decide) dL_isWell_413 ?_
            refine J_goto C 418 (by decide) dL_isWell_414 ?_
            refine J_istore C [(6, .int 1), (5, .int (nI (sumN (ndF σ) (i + 1)))), (4, .int (nI (sumN (notDue σ) (i + 1)))), (3, .int (nI (sumN (fun q => σ 4 q) (i + 1)))), (2, .int (nI (sumN (wrF σ) (i + 1)))), (8, .int (nI (σ 3 i))), (0, .ref P.1), (1, .int (nI (σ 0 4))), (7, .int (nI i))] (by decide) rfl dL_isWell_418 ?_
            refine J_iinc C (nI (i + 1)) [(7, .int (nI (i + 1))), (6, .int 1), (5, .int (nI (sumN (ndF σ) (i + 1)))), (4, .int (nI (sumN (notDue σ) (i + 1)))), (3, .int (nI (sumN (fun q => σ 4 q) (i + 1)))), (2, .int (nI (sumN (wrF σ) (i + 1)))), (8, .int (nI (σ 3 i))), (0, .ref P.1), (1, .int (nI (σ 0 4)))] 8 rfl (by first | exact nI_add _ 1 | rfl) (by decide) rfl dL_isWell_420 ?_
            refine J_goto C 138 (by decide) dL_isWell_423 ?_
            refine J_lvp [7, 8, 5, 4, 3, 2, 1, 0] [(0, .ref P.1), (1, .int (nI (σ 0 4))), (2, .int (nI (sumN (wrF σ) (i + 1)))), (3, .int (nI (sumN (fun q => σ 4 q) (i + 1)))), (4, .int (nI (sumN (notDue σ) (i + 1)))), (5, .int (nI (sumN (ndF σ) (i + 1)))), (6, .int 1), (7, .int (nI (i + 1)))] rfl ?_
            exact ih (i + 1) (by omega) (by omega)
        · skip
          have c330 := cv_ge_f (a := i) (b := ((σ 0 4) / 2)) (by omega) (by omega) c330
          refine J_iload C rfl dL_isWell_333 ?_
          refine J_aload_n C rfl dL_isWell_335 ?_
          refine J_iconst C 0 (by decide) dL_isWell_336 ?_
          refine J_iconst C 1 (by decide) dL_isWell_337 ?_
          refine J_V0 (as := [.int 0, .int 1]) (rest := [.int (nI i), .int 0]) C NoX.b NoX.f (o_scribe0 l G P σ x 1 (hg).i) (fun _ => OW_l2 _ _ _ _ _ _) 2 k405 k406 k407 k10 k408 rfl (by decide +kernel) ⟨Nat.le_of_ble_eq_true rfl, Nat.le_of_ble_eq_true rfl⟩ ⟨Nat.le_of_ble_eq_true rfl, Nat.le_of_ble_eq_true rfl⟩ dL_isWell_338 (Nat.le_of_ble_eq_true rfl) (OW_0 _ _ _ _) rfl (fun _ _ => ?_)
          refine J_st (st' := [.int (scrF σ 0 (1 : Int32).toInt), .int (nI i), .int 0]) rfl ?_
          refine J_ws (ws' := OW G P σ x) rfl ?_
          refine J_i ((by rw [show (1 : Int32).toInt = 1 from by decide] <;> rfl) : (scrF σ 0 (1 : Int32).toInt : Int32) = (nI (σ 0 14))) ?_
          refine J_icmp_ge C 348 (by decide) dL_isWell_341 (fun c341 => ?_) (fun h => absurd (cv_ge_f (a := i) (b := (σ 0 14)) (by omega) (by omega) h) (by omega))
          refine J_iconst C 0 (by decide) dL_isWell_348 ?_
          refine J_goto C 372 (by decide) dL_isWell_349 ?_
          refine J_icmp_ne C 417 (by decide) dL_isWell_372 (fun h => absurd h (by decide)) (fun _ => ?_)
          refine J_aload_n C rfl dL_isWell_375 ?_
          refine J_iload C rfl dL_isWell_376 ?_
          refine J_bipush C 6 (by decide) dL_isWell_378 ?_
          refine J_V0 (as := [.int (nI i), .int 6]) (rest := []) C NoX.b NoX.f (o_place l G P σ x i 6 (hg).i (hg).d (by omega)) (fun _ => OW_l2 _ _ _ _ _ _) 2 k434 k435 k436 k10 k437 rfl (by decide +kernel) ⟨Nat.le_of_ble_eq_true rfl, Nat.le_of_ble_eq_true rfl⟩ ⟨Nat.le_of_ble_eq_true rfl, Nat.le_of_ble_eq_true rfl⟩ dL_isWell_380 (Nat.le_of_ble_eq_true rfl) (OW_0 _ _ _ _) rfl (fun _ _ => ?_)
          refine J_st (st' := [.int (plF σ i (6 : Int32).toInt)]) rfl ?_
          refine J_ws (ws' := OW G P σ x) rfl ?_
          refine J_i ((by rw [show (6 : Int32).toInt = 6 from by decide] <;> rfl) : (plF σ i (6 : Int32).toInt : Int32) = (if 0 < σ 3 i then nI (σ 6 i) else -5)) ?_
          refine J_i ((if_neg hw) : (if 0 < σ 3 i then nI (σ 6 i) else -5 : Int32) = (-5)) ?_
          refine J_aload_n C rfl dL_isWell_383 ?_
          refine J_iconst C 0 (by decide) dL_isWell_384 ?_
          refine J_V0 (as := [.int 0]) (rest := [.int (-5)]) C NoX.b NoX.f (o_count l G P σ x 0 (hg).i (hg).d) (fun _ => OW_l2 _ _ _ _ _ _) 1 k382 k383 k384 k10 k385 rfl (by decide +kernel) ⟨Nat.le_of_ble_eq_true rfl, Nat.le_of_ble_eq_true rfl⟩ ⟨Nat.le_of_ble_eq_true rfl, Nat.le_of_ble_eq_true rfl⟩ dL_isWell_385 (Nat.le_of_ble_eq_true rfl) (OW_0 _ _ _ _) rfl (fun _ _ => ?_)
          refine J_st (st' := [.int (cntF σ x.2.2.2.1.2.2.2 x.2.2.2.2.1.2 (0 : Int32).toInt), .int (-5)]) rfl ?_
          refine J_ws (ws' := OW G P σ x) rfl ?_
          refine J_i ((by rw [show (0 : Int32).toInt = 0 from by decide] <;> rfl) : (cntF σ x.2.2.2.1.2.2.2 x.2.2.2.2.1.2 (0 : Int32).toInt : Int32) = (nI (σ 0 3))) ?_
          refine J_icmp_gt C 417 (by decide) dL_isWell_388 (fun h => absurd h (nI_nlt5 (by omega))) (fun _ => ?_)
          refine J_aload_n C rfl dL_isWell_391 ?_
          refine J_iload C rfl dL_isWell_392 ?_
          refine J_iconst C 3 (by decide) dL_isWell_394 ?_
          refine J_V0 (as := [.int (nI i), .int 3]) (rest := []) C NoX.b NoX.f (o_place l G P σ x i 3 (hg).i (hg).d (by omega)) (fun _ => OW_l2 _ _ _ _ _ _) 2 k434 k435 k436 k10 k437 rfl (by decide +kernel) ⟨Nat.le_of_ble_eq_true rfl, Nat.le_of_ble_eq_true rfl⟩ ⟨Nat.le_of_ble_eq_true rfl, Nat.le_of_ble_eq_true rfl⟩ dL_isWell_395 (Nat.le_of_ble_eq_true rfl) (OW_0 _ _ _ _) rfl (fun _ _ => ?_)
          refine J_st (st' := [.int (plF σ i (3 : Int32).toInt)]) rfl ?_
          refine J_ws (ws' := OW G P σ x) rfl ?_
          refine J_i ((by rw [show (3 : Int32).toInt = 3 from by decide] <;> rfl) : (plF σ i (3 : Int32).toInt : Int32) = (nI (σ 5 i))) ?_
          refine J_if_eq C 413 (by decide) dL_isWell_398 (fun c398 => ?_) (fun c398 => ?_)
          · skip
            have c398 := cv_eq_t (a := (σ 5 i)) (b := 0) (by omega) (by omega) c398
            refine J_iconst C 1 (by decide) dL_isWell_413 ?_
            refine J_goto C 418 (by decide) dL_isWell_414 ?_
            refine J_istore C [(6, .int 1), (5, .int (nI (sumN (ndF σ) (i + 1)))), (4, .int (nI (sumN (notDue σ) (i + 1)))), (3, .int (nI (sumN (fun q => σ 4 q) (i + 1)))), (2, .int (nI (sumN (wrF σ) (i + 1)))), (8, .int (nI (σ 3 i))), (0, .ref P.1), (1, .int (nI (σ 0 4))), (7, .int (nI i))] (by decide) rfl dL_isWell_418 ?_
            refine J_iinc C (nI (i + 1)) [(7, .int (nI (i + 1))), (6, .int 1), (5, .int (nI (sumN (ndF σ) (i + 1)))), (4, .int (nI (sumN (notDue σ) (i + 1)))), (3, .int (nI (sumN (fun q => σ 4 q) (i + 1)))), (2, .int (nI (sumN (wrF σ) (i + 1)))), (8, .int (nI (σ 3 i))), (0, .ref P.1), (1, .int (nI (σ 0 4)))] 8 rfl (by first | exact nI_add _ 1 | rfl) (by decide) rfl dL_isWell_420 ?_
            refine J_goto C 138 (by decide) dL_isWell_423 ?_
            refine J_lvp [7, 8, 5, 4, 3, 2, 1, 0] [(0, .ref P.1), (1, .int (nI (σ 0 4))), (2, .int (nI (sumN (wrF σ) (i + 1)))), (3, .int (nI (sumN (fun q => σ 4 q) (i + 1)))), (4, .int (nI (sumN (notDue σ) (i + 1)))), (5, .int (nI (sumN (ndF σ) (i + 1)))), (6, .int 1), (7, .int (nI (i + 1)))] rfl ?_
            exact ih (i + 1) (by omega) (by omega)
          · skip
            have c398 := cv_eq_f (a := (σ 5 i)) (b := 0) (by omega) (by omega) c398
            refine J_iload C rfl dL_isWell_401 ?_
            refine J_aload_n C rfl dL_isWell_403 ?_
            refine J_iload C rfl dL_isWell_404 ?_
            refine J_iconst C 0 (by decide) dL_isWell_406 ?_
            refine J_V0 (as := [.int (nI i), .int 0]) (rest := [.int (nI (σ 3 i))]) C NoX.b NoX.f (o_place l G P σ x i 0 (hg).i (hg).d (by omega)) (fun _ => OW_l2 _ _ _ _ _ _) 2 k434 k435 k436 k10 k437 rfl (by decide +kernel) ⟨Nat.le_of_ble_eq_true rfl, Nat.le_of_ble_eq_true rfl⟩ ⟨Nat.le_of_ble_eq_true rfl, Nat.le_of_ble_eq_true rfl⟩ dL_isWell_407 (Nat.le_of_ble_eq_true rfl) (OW_0 _ _ _ _) rfl (fun _ _ => ?_)
            refine J_st (st' := [.int (plF σ i (0 : Int32).toInt), .int (nI (σ 3 i))]) rfl ?_
            refine J_ws (ws' := OW G P σ x) rfl ?_
            refine J_i ((by rw [show (0 : Int32).toInt = 0 from by decide] <;> rfl) : (plF σ i (0 : Int32).toInt : Int32) = (nI (dueAt σ i))) ?_
            refine J_icmp_ne C 417 (by decide) dL_isWell_410 (fun h => absurd (cv_ne_t (a := (σ 3 i)) (b := (dueAt σ i)) (by omega) (by omega) h) (by omega)) (fun c410 => ?_)
            refine J_iconst C 1 (by decide) dL_isWell_413 ?_
            refine J_goto C 418 (by decide) dL_isWell_414 ?_
            refine J_istore C [(6, .int 1), (5, .int (nI (sumN (ndF σ) (i + 1)))), (4, .int (nI (sumN (notDue σ) (i + 1)))), (3, .int (nI (sumN (fun q => σ 4 q) (i + 1)))), (2, .int (nI (sumN (wrF σ) (i + 1)))), (8, .int (nI (σ 3 i))), (0, .ref P.1), (1, .int (nI (σ 0 4))), (7, .int (nI i))] (by decide) rfl dL_isWell_418 ?_
            refine J_iinc C (nI (i + 1)) [(7, .int (nI (i + 1))), (6, .int 1), (5, .int (nI (sumN (ndF σ) (i + 1)))), (4, .int (nI (sumN (notDue σ) (i + 1)))), (3, .int (nI (sumN (fun q => σ 4 q) (i + 1)))), (2, .int (nI (sumN (wrF σ) (i + 1)))), (8, .int (nI (σ 3 i))), (0, .ref P.1), (1, .int (nI (σ 0 4)))] 8 rfl (by first | exact nI_add _ 1 | rfl) (by decide) rfl dL_isWell_420 ?_
            refine J_goto C 138 (by decide) dL_isWell_423 ?_
            refine J_lvp [7, 8, 5, 4, 3, 2, 1, 0] [(0, .ref P.1), (1, .int (nI (σ 0 4))), (2, .int (nI (sumN (wrF σ) (i + 1)))), (3, .int (nI (sumN (fun q => σ 4 q) (i + 1)))), (4, .int (nI (sumN (notDue σ) (i + 1)))), (5, .int (nI (sumN (ndF σ) (i + 1)))), (6, .int 1), (7, .int (nI (i + 1)))] rfl ?_
            exact ih (i + 1) (by omega) (by omega)
      · skip
        have tz : σ 2 i = 0 := by omega
        have hla := letAt_n tz
        refine J_aload_n C rfl dL_isWell_214 ?_
        refine J_iload C rfl dL_isWell_215 ?_
        refine J_iconst C 4 (by decide) dL_isWell_217 ?_
        refine J_V0 (as := [.int (nI i), .int 4]) (rest := [.int (nI (sumN (ndF σ) i))]) C NoX.b NoX.f (o_place l G P σ x i 4 (hg).i (hg).d (by omega)) (fun _ => OW_l2 _ _ _ _ _ _) 2 k434 k435 k436 k10 k437 rfl (by decide +kernel) ⟨Nat.le_of_ble_eq_true rfl, Nat.le_of_ble_eq_true rfl⟩ ⟨Nat.le_of_ble_eq_true rfl, Nat.le_of_ble_eq_true rfl⟩ dL_isWell_218 (Nat.le_of_ble_eq_true rfl) (OW_0 _ _ _ _) rfl (fun _ _ => ?_)
        refine J_st (st' := [.int (plF σ i (4 : Int32).toInt), .int (nI (sumN (ndF σ) i))]) rfl ?_
        refine J_ws (ws' := OW G P σ x) rfl ?_
        refine J_i ((by rw [show (4 : Int32).toInt = 4 from by decide] <;> rfl) : (plF σ i (4 : Int32).toInt : Int32) = (nI (σ 2 i))) ?_
        refine J_if_le C 234 (by decide) dL_isWell_221 (fun c221 => ?_) (fun h => absurd (cv_le_f (a := (σ 2 i)) (b := 0) (by omega) (by omega) h) (by omega))
        refine J_aload_n C rfl dL_isWell_234 ?_
        refine J_iload C rfl dL_isWell_235 ?_
        refine J_iconst C 0 (by decide) dL_isWell_237 ?_
        refine J_V0 (as := [.int (nI i), .int 0]) (rest := [.int (nI (sumN (ndF σ) i))]) C NoX.b NoX.f (o_place l G P σ x i 0 (hg).i (hg).d (by omega)) (fun _ => OW_l2 _ _ _ _ _ _) 2 k434 k435 k436 k10 k437 rfl (by decide +kernel) ⟨Nat.le_of_ble_eq_true rfl, Nat.le_of_ble_eq_true rfl⟩ ⟨Nat.le_of_ble_eq_true rfl, Nat.le_of_ble_eq_true rfl⟩ dL_isWell_238 (Nat.le_of_ble_eq_true rfl) (OW_0 _ _ _ _) rfl (fun _ _ => ?_)
        refine J_st (st' := [.int (plF σ i (0 : Int32).toInt), .int (nI (sumN (ndF σ) i))]) rfl ?_
        refine J_ws (ws' := OW G P σ x) rfl ?_
        refine J_i ((by rw [show (0 : Int32).toInt = 0 from by decide] <;> rfl) : (plF σ i (0 : Int32).toInt : Int32) = (nI (dueAt σ i))) ?_
        refine J_iadd C dL_isWell_241 ?_
        refine J_i (((nI_add _ (dueAt σ i)).trans (congrArg nI (show sumN (ndF σ) i + (dueAt σ i) = sumN (ndF σ) i + ndF σ i from by rw [show ndF σ i = dueAt σ i from (if_neg hw).trans hla]))) : ((nI (sumN (ndF σ) i)) + (nI (dueAt σ i)) : Int32) = (nI (sumN (ndF σ) (i + 1)))) ?_
        refine J_istore C [(5, .int (nI (sumN (ndF σ) (i + 1)))), (4, .int (nI (sumN (notDue σ) (i + 1)))), (3, .int (nI (sumN (fun q => σ 4 q) (i + 1)))), (2, .int (nI (sumN (wrF σ) (i + 1)))), (8, .int (nI (σ 3 i))), (0, .ref P.1), (1, .int (nI (σ 0 4))), (6, .int 1), (7, .int (nI i))] (by decide) rfl dL_isWell_242 ?_
        refine J_iload C rfl dL_isWell_244 ?_
        refine J_if_eq C 417 (by decide) dL_isWell_246 (fun h => absurd h (by decide)) (fun _ => ?_)
        refine J_aload_n C rfl dL_isWell_249 ?_
        refine J_iload C rfl dL_isWell_250 ?_
        refine J_iconst C 0 (by decide) dL_isWell_252 ?_
        refine J_V0 (as := [.int (nI i), .int 0]) (rest := []) C NoX.b NoX.f (o_place l G P σ x i 0 (hg).i (hg).d (by omega)) (fun _ => OW_l2 _ _ _ _ _ _) 2 k434 k435 k436 k10 k437 rfl (by decide +kernel) ⟨Nat.le_of_ble_eq_true rfl, Nat.le_of_ble_eq_true rfl⟩ ⟨Nat.le_of_ble_eq_true rfl, Nat.le_of_ble_eq_true rfl⟩ dL_isWell_253 (Nat.le_of_ble_eq_true rfl) (OW_0 _ _ _ _) rfl (fun _ _ => ?_)
        refine J_st (st' := [.int (plF σ i (0 : Int32).toInt)]) rfl ?_
        refine J_ws (ws' := OW G P σ x) rfl ?_
        refine J_i ((by rw [show (0 : Int32).toInt = 0 from by decide] <;> rfl) : (plF σ i (0 : Int32).toInt : Int32) = (nI (dueAt σ i))) ?_
        refine J_aload_n C rfl dL_isWell_256 ?_
        refine J_iload_n C rfl dL_isWell_257 ?_
        refine J_iconst C 1 (by decide) dL_isWell_258 ?_
        refine J_isub C dL_isWell_259 ?_
        refine J_i (pk_sub (a := σ 0 4) (b := 1) (by omega) : ((nI (σ 0 4)) - 1 : Int32) = (nI (σ 0 4 - 1))) ?_
        refine J_iload C rfl dL_isWell_260 ?_
        refine J_isub C dL_isWell_262 ?_
        refine J_i (pk_sub (a := σ 0 4 - 1) (b := i) (by omega) : ((nI (σ 0 4 - 1)) - (nI i) : Int32) = (nI ((σ 0 4 - 1) - i))) ?_
        refine J_iconst C 0 (by decide) dL_isWell_263 ?_
        refine J_V0 (as := [.int (nI ((σ 0 4 - 1) - i)), .int 0]) (rest := [.int (nI (dueAt σ i))]) C NoX.b NoX.f (o_place l G P σ x ((σ 0 4 - 1) - i) 0 (hg).i (hg).d (by omega)) (fun _ => OW_l2 _ _ _ _ _ _) 2 k434 k435 k436 k10 k437 rfl (by decide +kernel) ⟨Nat.le_of_ble_eq_true rfl, Nat.le_of_ble_eq_true rfl⟩ ⟨Nat.le_of_ble_eq_true rfl, Nat.le_of_ble_eq_true rfl⟩ dL_isWell_264 (Nat.le_of_ble_eq_true rfl) (OW_0 _ _ _ _) rfl (fun _ _ => ?_)
        refine J_st (st' := [.int (plF σ ((σ 0 4 - 1) - i) (0 : Int32).toInt), .int (nI (dueAt σ i))]) rfl ?_
        refine J_ws (ws' := OW G P σ x) rfl ?_
        refine J_i ((by rw [show (0 : Int32).toInt = 0 from by decide] <;> rfl) : (plF σ ((σ 0 4 - 1) - i) (0 : Int32).toInt : Int32) = (nI (dueAt σ ((σ 0 4 - 1) - i)))) ?_
        refine J_icmp_ne C 417 (by decide) dL_isWell_267 (fun h => absurd h (fun q => q (congrArg nI hdm.symm))) (fun _ => ?_)
        refine J_aload_n C rfl dL_isWell_270 ?_
        refine J_iload C rfl dL_isWell_271 ?_
        refine J_iconst C 5 (by decide) dL_isWell_273 ?_
        refine J_V0 (as := [.int (nI i), .int 5]) (rest := []) C NoX.b NoX.f (o_place l G P σ x i 5 (hg).i (hg).d (by omega)) (fun _ => OW_l2 _ _ _ _ _ _) 2 k434 k435 k436 k10 k437 rfl (by decide +kernel) ⟨Nat.le_of_ble_eq_true rfl, Nat.le_of_ble_eq_true rfl⟩ ⟨Nat.le_of_ble_eq_true rfl, Nat.le_of_ble_eq_true rfl⟩ dL_isWell_274 (Nat.le_of_ble_eq_true rfl) (OW_0 _ _ _ _) rfl (fun _ _ => ?_)
        refine J_st (st' := [.int (plF σ i (5 : Int32).toInt)]) rfl ?_
        refine J_ws (ws' := OW G P σ x) rfl ?_
        refine J_i ((by rw [show (5 : Int32).toInt = 5 from by decide] <;> rfl) : (plF σ i (5 : Int32).toInt : Int32) = (nI (σ 0 4 - 1 - i))) ?_
        refine J_iload_n C rfl dL_isWell_277 ?_
        refine J_iconst C 1 (by decide) dL_isWell_278 ?_
        refine J_isub C dL_isWell_279 ?_
        refine J_i (pk_sub (a := σ 0 4) (b := 1) (by omega) : ((nI (σ 0 4)) - 1 : Int32) = (nI (σ 0 4 - 1))) ?_
        refine J_iload C rfl dL_isWell_280 ?_
        refine J_isub C dL_isWell_282 ?_
        refine J_i (pk_sub (a := σ 0 4 - 1) (b := i) (by omega) : ((nI (σ 0 4 - 1)) - (nI i) : Int32) = (nI ((σ 0 4 - 1) - i))) ?_
        refine J_icmp_ne C 417 (by decide) dL_isWell_283 (fun h => absurd (cv_ne_t (a := (σ 0 4 - 1 - i)) (b := ((σ 0 4 - 1) - i)) (by omega) (by omega) h) (by omega)) (fun c283 => ?_)
        refine J_iload C rfl dL_isWell_286 ?_
        refine J_if_le C 295 (by decide) dL_isWell_288 (fun c288 => ?_) (fun h => absurd (cv_le_f (a := (σ 3 i)) (b := 0) (by omega) (by omega) h) (by omega))
        refine J_iconst C 0 (by decide) dL_isWell_295 ?_
        refine J_aload_n C rfl dL_isWell_296 ?_
        refine J_iload C rfl dL_isWell_297 ?_
        refine J_bipush C 6 (by decide) dL_isWell_299 ?_
        refine J_V0 (as := [.int (nI i), .int 6]) (rest := [.int 0]) C NoX.b NoX.f (o_place l G P σ x i 6 (hg).i (hg).d (by omega)) (fun _ => OW_l2 _ _ _ _ _ _) 2 k434 k435 k436 k10 k437 rfl (by decide +kernel) ⟨Nat.le_of_ble_eq_true rfl, Nat.le_of_ble_eq_true rfl⟩ ⟨Nat.le_of_ble_eq_true rfl, Nat.le_of_ble_eq_true rfl⟩ dL_isWell_301 (Nat.le_of_ble_eq_true rfl) (OW_0 _ _ _ _) rfl (fun _ _ => ?_)
        refine J_st (st' := [.int (plF σ i (6 : Int32).toInt), .int 0]) rfl ?_
        refine J_ws (ws' := OW G P σ x) rfl ?_
        refine J_i ((by rw [show (6 : Int32).toInt = 6 from by decide] <;> rfl) : (plF σ i (6 : Int32).toInt : Int32) = (if 0 < σ 3 i then nI (σ 6 i) else -5)) ?_
        refine J_i ((if_neg hw) : (if 0 < σ 3 i then nI (σ 6 i) else -5 : Int32) = (-5)) ?_
        refine J_if_le C 311 (by decide) dL_isWell_304 (fun _ => ?_) (fun h => absurd h (by decide))
        refine J_iconst C 0 (by decide) dL_isWell_311 ?_
        refine J_icmp_ne C 417 (by decide) dL_isWell_312 (fun h => absurd h (by decide)) (fun _ => ?_)
        refine J_iload C rfl dL_isWell_315 ?_
        refine J_if_le C 324 (by decide) dL_isWell_317 (fun c317 => ?_) (fun h => absurd (cv_le_f (a := (σ 3 i)) (b := 0) (by omega) (by omega) h) (by omega))
        refine J_iconst C 0 (by decide) dL_isWell_324 ?_
        refine J_iload C rfl dL_isWell_325 ?_
        refine J_iload_n C rfl dL_isWell_327 ?_
        refine J_iconst C 2 (by decide) dL_isWell_328 ?_
        refine J_idiv C (by decide) dL_isWell_329 ?_
        refine J_i (pk_div (a := σ 0 4) (d := 2) (by omega) (by omega) (by omega) : ((nI (σ 0 4)) / 2 : Int32) = (nI ((σ 0 4) / 2))) ?_
        refine J_icmp_ge C 352 (by decide) dL_isWell_330 (fun c330 => ?_) (fun c330 => ?_)
        · skip
          have c330 := cv_ge_t (a := i) (b := ((σ 0 4) / 2)) (by omega) (by omega) c330
          refine J_iload_n C rfl dL_isWell_352 ?_
          refine J_iconst C 1 (by decide) dL_isWell_353 ?_
          refine J_isub C dL_isWell_354 ?_
          refine J_i (pk_sub (a := σ 0 4) (b := 1) (by omega) : ((nI (σ 0 4)) - 1 : Int32) = (nI (σ 0 4 - 1))) ?_
          refine J_iload C rfl dL_isWell_355 ?_
          refine J_isub C dL_isWell_357 ?_
          refine J_i (pk_sub (a := σ 0 4 - 1) (b := i) (by omega) : ((nI (σ 0 4 - 1)) - (nI i) : Int32) = (nI ((σ 0 4 - 1) - i))) ?_
          refine J_aload_n C rfl dL_isWell_358 ?_
          refine J_iconst C 1 (by decide) dL_isWell_359 ?_
          refine J_iconst C 1 (by decide) dL_isWell_360 ?_
          refine J_V0 (as := [.int 1, .int 1]) (rest := [.int (nI ((σ 0 4 - 1) - i)), .int 0]) C NoX.b NoX.f (o_scribe1 l G P σ x 1 (hg).i) (fun _ => OW_l2 _ _ _ _ _ _) 2 k405 k406 k407 k10 k408 rfl (by decide +kernel) ⟨Nat.le_of_ble_eq_true rfl, Nat.le_of_ble_eq_true rfl⟩ ⟨Nat.le_of_ble_eq_true rfl, Nat.le_of_ble_eq_true rfl⟩ dL_isWell_361 (Nat.le_of_ble_eq_true rfl) (OW_0 _ _ _ _) rfl (fun _ _ => ?_)
          refine J_st (st' := [.int (scrF σ 1 (1 : Int32).toInt), .int (nI ((σ 0 4 - 1) - i)), .int 0]) rfl ?_
          refine J_ws (ws' := OW G P σ x) rfl ?_
          refine J_i ((by rw [show (1 : Int32).toInt = 1 from by decide] <;> rfl) : (scrF σ 1 (1 : Int32).toInt : Int32) = (nI (σ 0 15))) ?_
          refine J_icmp_ge C 371 (by decide) dL_isWell_364 (fun c364 => ?_) (fun h => absurd (cv_ge_f (a := ((σ 0 4 - 1) - i)) (b := (σ 0 15)) (by omega) (by omega) h) (by omega))
          refine J_iconst C 0 (by decide) dL_isWell_371 ?_
          refine J_icmp_ne C 417 (by decide) dL_isWell_372 (fun h => absurd h (by decide)) (fun _ => ?_)
          refine J_aload_n C rfl dL_isWell_375 ?_
          refine J_iload C rfl dL_isWell_376 ?_
          refine J_bipush C 6 (by decide) dL_isWell_378 ?_
          refine J_V0 (as := [.int (nI i), .int 6]) (rest := []) C NoX.b NoX.f (o_place l G P σ x i 6 (hg).i (hg).d (by omega)) (fun _ => OW_l2 _ _ _ _ _ _) 2 k434 k435 k436 k10 k437 rfl (by decide +kernel) ⟨Nat.le_of_ble_eq_true rfl, Nat.le_of_ble_eq_true rfl⟩ ⟨Nat.le_of_ble_eq_true rfl, Nat.le_of_ble_eq_true rfl⟩ dL_isWell_380 (Nat.le_of_ble_eq_true rfl) (OW_0 _ _ _ _) rfl (fun _ _ => ?_)
          refine J_st (st' := [.int (plF σ i (6 : Int32).toInt)]) rfl ?_
          refine J_ws (ws' := OW G P σ x) rfl ?_
          refine J_i ((by rw [show (6 : Int32).toInt = 6 from by decide] <;> rfl) : (plF σ i (6 : Int32).toInt : Int32) = (if 0 < σ 3 i then nI (σ 6 i) else -5)) ?_
          refine J_i ((if_neg hw) : (if 0 < σ 3 i then nI (σ 6 i) else -5 : Int32) = (-5)) ?_
          refine J_aload_n C rfl dL_isWell_383 ?_
          refine J_iconst C 0 (by decide) dL_isWell_384 ?_
          refine J_V0 (as := [.int 0]) (rest := [.int (-5)]) C NoX.b NoX.f (o_count l G P σ x 0 (hg).i (hg).d) (fun _ => OW_l2 _ _ _ _ _ _) 1 k382 k383 k384 k10 k385 rfl (by decide +kernel) ⟨Nat.le_of_ble_eq_true rfl, Nat.le_of_ble_eq_true rfl⟩ ⟨Nat.le_of_ble_eq_true rfl, Nat.le_of_ble_eq_true rfl⟩ dL_isWell_385 (Nat.le_of_ble_eq_true rfl) (OW_0 _ _ _ _) rfl (fun _ _ => ?_)
          refine J_st (st' := [.int (cntF σ x.2.2.2.1.2.2.2 x.2.2.2.2.1.2 (0 : Int32).toInt), .int (-5)]) rfl ?_
          refine J_ws (ws' := OW G P σ x) rfl ?_
          refine J_i ((by rw [show (0 : Int32).toInt = 0 from by decide] <;> rfl) : (cntF σ x.2.2.2.1.2.2.2 x.2.2.2.2.1.2 (0 : Int32).toInt : Int32) = (nI (σ 0 3))) ?_
          refine J_icmp_gt C 417 (by decide) dL_isWell_388 (fun h => absurd h (nI_nlt5 (by omega))) (fun _ => ?_)
          refine J_aload_n C rfl dL_isWell_391 ?_
          refine J_iload C rfl dL_isWell_392 ?_
          refine J_iconst C 3 (by decide) dL_isWell_394 ?_
          refine J_V0 (as := [.int (nI i), .int 3]) (rest := []) C NoX.b NoX.f (o_place l G P σ x i 3 (hg).i (hg).d (by omega)) (fun _ => OW_l2 _ _ _ _ _ _) 2 k434 k435 k436 k10 k437 rfl (by decide +kernel) ⟨Nat.le_of_ble_eq_true rfl, Nat.le_of_ble_eq_true rfl⟩ ⟨Nat.le_of_ble_eq_true rfl, Nat.le_of_ble_eq_true rfl⟩ dL_isWell_395 (Nat.le_of_ble_eq_true rfl) (OW_0 _ _ _ _) rfl (fun _ _ => ?_)
          refine J_st (st' := [.int (plF σ i (3 : Int32).toInt)]) rfl ?_
          refine J_ws (ws' := OW G P σ x) rfl ?_
          refine J_i ((by rw [show (3 : Int32).toInt = 3 from by decide] <;> rfl) : (plF σ i (3 : Int32).toInt : Int32) = (nI (σ 5 i))) ?_
          refine J_if_eq C 413 (by decide) dL_isWell_398 (fun c398 => ?_) (fun c398 => ?_)
          · skip
            have c398 := cv_eq_t (a := (σ 5 i)) (b := 0) (by omega) (by omega) c398
            refine J_iconst C 1 (by decide) dL_isWell_413 ?_
            refine J_goto C 418 (by decide) dL_isWell_414 ?_
            refine J_istore C [(6, .int 1), (5, .int (nI (sumN (ndF σ) (i + 1)))), (4, .int (nI (sumN (notDue σ) (i + 1)))), (3, .int (nI (sumN (fun q => σ 4 q) (i + 1)))), (2, .int (nI (sumN (wrF σ) (i + 1)))), (8, .int (nI (σ 3 i))), (0, .ref P.1), (1, .int (nI (σ 0 4))), (7, .int (nI i))] (by decide) rfl dL_isWell_418 ?_
            refine J_iinc C (nI (i + 1)) [(7, .int (nI (i + 1))), (6, .int 1), (5, .int (nI (sumN (ndF σ) (i + 1)))), (4, .int (nI (sumN (notDue σ) (i + 1)))), (3, .int (nI (sumN (fun q => σ 4 q) (i + 1)))), (2, .int (nI (sumN (wrF σ) (i + 1)))), (8, .int (nI (σ 3 i))), (0, .ref P.1), (1, .int (nI (σ 0 4)))] 8 rfl (by first | exact nI_add _ 1 | rfl) (by decide) rfl dL_isWell_420 ?_
            refine J_goto C 138 (by decide) dL_isWell_423 ?_
            refine J_lvp [7, 8, 5, 4, 3, 2, 1, 0] [(0, .ref P.1), (1, .int (nI (σ 0 4))), (2, .int (nI (sumN (wrF σ) (i + 1)))), (3, .int (nI (sumN (fun q => σ 4 q) (i + 1)))), (4, .int (nI (sumN (notDue σ) (i + 1)))), (5, .int (nI (sumN (ndF σ) (i + 1)))), (6, .int 1), (7, .int (nI (i + 1)))] rfl ?_
            exact ih (i + 1) (by omega) (by omega)
          · skip
            have c398 := cv_eq_f (a := (σ 5 i)) (b := 0) (by omega) (by omega) c398
            refine J_iload C rfl dL_isWell_401 ?_
            refine J_aload_n C rfl dL_isWell_403 ?_
            refine J_iload C rfl dL_isWell_404 ?_
            refine J_iconst C 0 (by decide) dL_isWell_406 ?_
            refine J_V0 (as := [.int (nI i), .int 0]) (rest := [.int (nI (σ 3 i))]) C NoX.b NoX.f (o_place l G P σ x i 0 (hg).i (hg).d (by omega)) (fun _ => OW_l2 _ _ _ _ _ _) 2 k434 k435 k436 k10 k437 rfl (by decide +kernel) ⟨Nat.le_of_ble_eq_true rfl, Nat.le_of_ble_eq_true rfl⟩ ⟨Nat.le_of_ble_eq_true rfl, Nat.le_of_ble_eq_true rfl⟩ dL_isWell_407 (Nat.le_of_ble_eq_true rfl) (OW_0 _ _ _ _) rfl (fun _ _ => ?_)
            refine J_st (st' := [.int (plF σ i (0 : Int32).toInt), .int (nI (σ 3 i))]) rfl ?_
            refine J_ws (ws' := OW G P σ x) rfl ?_
            refine J_i ((by rw [show (0 : Int32).toInt = 0 from by decide] <;> rfl) : (plF σ i (0 : Int32).toInt : Int32) = (nI (dueAt σ i))) ?_
            refine J_icmp_ne C 417 (by decide) dL_isWell_410 (fun h => absurd (cv_ne_t (a := (σ 3 i)) (b := (dueAt σ i)) (by omega) (by omega) h) (by omega)) (fun c410 => ?_)
            refine J_iconst C 1 (by decide) dL_isWell_413 ?_
            refine J_goto C 418 (by decide) dL_isWell_414 ?_
            refine J_istore C [(6, .int 1), (5, .int (nI (sumN (ndF σ) (i + 1)))), (4, .int (nI (sumN (notDue σ) (i + 1)))), (3, .int (nI (sumN (fun q => σ 4 q) (i + 1)))), (2, .int (nI (sumN (wrF σ) (i + 1)))), (8, .int (nI (σ 3 i))), (0, .ref P.1), (1, .int (nI (σ 0 4))), (7, .int (nI i))] (by decide) rfl dL_isWell_418 ?_
            refine J_iinc C (nI (i + 1)) [(7, .int (nI (i + 1))), (6, .int 1), (5, .int (nI (sumN (ndF σ) (i + 1)))), (4, .int (nI (sumN (notDue σ) (i + 1)))), (3, .int (nI (sumN (fun q => σ 4 q) (i + 1)))), (2, .int (nI (sumN (wrF σ) (i + 1)))), (8, .int (nI (σ 3 i))), (0, .ref P.1), (1, .int (nI (σ 0 4)))] 8 rfl (by first | exact nI_add _ 1 | rfl) (by decide) rfl dL_isWell_420 ?_
            refine J_goto C 138 (by decide) dL_isWell_423 ?_
            refine J_lvp [7, 8, 5, 4, 3, 2, 1, 0] [(0, .ref P.1), (1, .int (nI (σ 0 4))), (2, .int (nI (sumN (wrF σ) (i + 1)))), (3, .int (nI (sumN (fun q => σ 4 q) (i + 1)))), (4, .int (nI (sumN (notDue σ) (i + 1)))), (5, .int (nI (sumN (ndF σ) (i + 1)))), (6, .int 1), (7, .int (nI (i + 1)))] rfl ?_
            exact ih (i + 1) (by omega) (by omega)
        · skip
          have c330 := cv_ge_f (a := i) (b := ((σ 0 4) / 2)) (by omega) (by omega) c330
          refine J_iload C rfl dL_isWell_333 ?_
          refine J_aload_n C rfl dL_isWell_335 ?_
          refine J_iconst C 0 (by decide) dL_isWell_336 ?_
          refine J_iconst C 1 (by decide) dL_isWell_337 ?_
          refine J_V0 (as := [.int 0, .int 1]) (rest := [.int (nI i), .int 0]) C NoX.b NoX.f (o_scribe0 l G P σ x 1 (hg).i) (fun _ => OW_l2 _ _ _ _ _ _) 2 k405 k406 k407 k10 k408 rfl (by decide +kernel) ⟨Nat.le_of_ble_eq_true rfl, Nat.le_of_ble_eq_true rfl⟩ ⟨Nat.le_of_ble_eq_true rfl, Nat.le_of_ble_eq_true rfl⟩ dL_isWell_338 (Nat.le_of_ble_eq_true rfl) (OW_0 _ _ _ _) rfl (fun _ _ => ?_)
          refine J_st (st' := [.int (scrF σ 0 (1 : Int32).toInt), .int (nI i), .int 0]) rfl ?_
          refine J_ws (ws' := OW G P σ x) rfl ?_
          refine J_i ((by rw [show (1 : Int32).toInt = 1 from by decide] <;> rfl) : (scrF σ 0 (1 : Int32).toInt : Int32) = (nI (σ 0 14))) ?_
          refine J_icmp_ge C 348 (by decide) dL_isWell_341 (fun c341 => ?_) (fun h => absurd (cv_ge_f (a := i) (b := (σ 0 14)) (by omega) (by omega) h) (by omega))
          refine J_iconst C 0 (by decide) dL_isWell_348 ?_
          refine J_goto C 372 (by decide) dL_isWell_349 ?_
          refine J_icmp_ne C 417 (by decide) dL_isWell_372 (fun h => absurd h (by decide)) (fun _ => ?_)
          refine J_aload_n C rfl dL_isWell_375 ?_
          refine J_iload C rfl dL_isWell_376 ?_
          refine J_bipush C 6 (by decide) dL_isWell_378 ?_
          refine J_V0 (as := [.int (nI i), .int 6]) (rest := []) C NoX.b NoX.f (o_place l G P σ x i 6 (hg).i (hg).d (by omega)) (fun _ => OW_l2 _ _ _ _ _ _) 2 k434 k435 k436 k10 k437 rfl (by decide +kernel) ⟨Nat.le_of_ble_eq_true rfl, Nat.le_of_ble_eq_true rfl⟩ ⟨Nat.le_of_ble_eq_true rfl, Nat.le_of_ble_eq_true rfl⟩ dL_isWell_380 (Nat.le_of_ble_eq_true rfl) (OW_0 _ _ _ _) rfl (fun _ _ => ?_)
          refine J_st (st' := [.int (plF σ i (6 : Int32).toInt)]) rfl ?_
          refine J_ws (ws' := OW G P σ x) rfl ?_
          refine J_i ((by rw [show (6 : Int32).toInt = 6 from by decide] <;> rfl) : (plF σ i (6 : Int32).toInt : Int32) = (if 0 < σ 3 i then nI (σ 6 i) else -5)) ?_
          refine J_i ((if_neg hw) : (if 0 < σ 3 i then nI (σ 6 i) else -5 : Int32) = (-5)) ?_
          refine J_aload_n C rfl dL_isWell_383 ?_
          refine J_iconst C 0 (by decide) dL_isWell_384 ?_
          refine J_V0 (as := [.int 0]) (rest := [.int (-5)]) C NoX.b NoX.f (o_count l G P σ x 0 (hg).i (hg).d) (fun _ => OW_l2 _ _ _ _ _ _) 1 k382 k383 k384 k10 k385 rfl (by decide +kernel) ⟨Nat.le_of_ble_eq_true rfl, Nat.le_of_ble_eq_true rfl⟩ ⟨Nat.le_of_ble_eq_true rfl, Nat.le_of_ble_eq_true rfl⟩ dL_isWell_385 (Nat.le_of_ble_eq_true rfl) (OW_0 _ _ _ _) rfl (fun _ _ => ?_)
          refine J_st (st' := [.int (cntF σ x.2.2.2.1.2.2.2 x.2.2.2.2.1.2 (0 : Int32).toInt), .int (-5)]) rfl ?_
          refine J_ws (ws' := OW G P σ x) rfl ?_
          refine J_i ((by rw [show (0 : Int32).toInt = 0 from by decide] <;> rfl) : (cntF σ x.2.2.2.1.2.2.2 x.2.2.2.2.1.2 (0 : Int32).toInt : Int32) = (nI (σ 0 3))) ?_
          refine J_icmp_gt C 417 (by decide) dL_isWell_388 (fun h => absurd h (nI_nlt5 (by omega))) (fun _ => ?_)
          refine J_aload_n C rfl dL_isWell_391 ?_
          refine J_iload C rfl dL_isWell_392 ?_
          refine J_iconst C 3 (by decide) dL_isWell_394 ?_
          refine J_V0 (as := [.int (nI i), .int 3]) (rest := []) C NoX.b NoX.f (o_place l G P σ x i 3 (hg).i (hg).d (by omega)) (fun _ => OW_l2 _ _ _ _ _ _) 2 k434 k435 k436 k10 k437 rfl (by decide +kernel) ⟨Nat.le_of_ble_eq_true rfl, Nat.le_of_ble_eq_true rfl⟩ ⟨Nat.le_of_ble_eq_true rfl, Nat.le_of_ble_eq_true rfl⟩ dL_isWell_395 (Nat.le_of_ble_eq_true rfl) (OW_0 _ _ _ _) rfl (fun _ _ => ?_)
          refine J_st (st' := [.int (plF σ i (3 : Int32).toInt)]) rfl ?_
          refine J_ws (ws' := OW G P σ x) rfl ?_
          refine J_i ((by rw [show (3 : Int32).toInt = 3 from by decide] <;> rfl) : (plF σ i (3 : Int32).toInt : Int32) = (nI (σ 5 i))) ?_
          refine J_if_eq C 413 (by decide) dL_isWell_398 (fun c398 => ?_) (fun c398 => ?_)
          · skip
            have c398 := cv_eq_t (a := (σ 5 i)) (b := 0) (by omega) (by omega) c398
            refine J_iconst C 1 (by decide) dL_isWell_413 ?_
            refine J_goto C 418 (by decide) dL_isWell_414 ?_
            refine J_istore C [(6, .int 1), (5, .int (nI (sumN (ndF σ) (i + 1)))), (4, .int (nI (sumN (notDue σ) (i + 1)))), (3, .int (nI (sumN (fun q => σ 4 q) (i + 1)))), (2, .int (nI (sumN (wrF σ) (i + 1)))), (8, .int (nI (σ 3 i))), (0, .ref P.1), (1, .int (nI (σ 0 4))), (7, .int (nI i))] (by decide) rfl dL_isWell_418 ?_
            refine J_iinc C (nI (i + 1)) [(7, .int (nI (i + 1))), (6, .int 1), (5, .int (nI (sumN (ndF σ) (i + 1)))), (4, .int (nI (sumN (notDue σ) (i + 1)))), (3, .int (nI (sumN (fun q => σ 4 q) (i + 1)))), (2, .int (nI (sumN (wrF σ) (i + 1)))), (8, .int (nI (σ 3 i))), (0, .ref P.1), (1, .int (nI (σ 0 4)))] 8 rfl (by first | exact nI_add _ 1 | rfl) (by decide) rfl dL_isWell_420 ?_
            refine J_goto C 138 (by decide) dL_isWell_423 ?_
            refine J_lvp [7, 8, 5, 4, 3, 2, 1, 0] [(0, .ref P.1), (1, .int (nI (σ 0 4))), (2, .int (nI (sumN (wrF σ) (i + 1)))), (3, .int (nI (sumN (fun q => σ 4 q) (i + 1)))), (4, .int (nI (sumN (notDue σ) (i + 1)))), (5, .int (nI (sumN (ndF σ) (i + 1)))), (6, .int 1), (7, .int (nI (i + 1)))] rfl ?_
            exact ih (i + 1) (by omega) (by omega)
          · skip
            have c398 := cv_eq_f (a := (σ 5 i)) (b := 0) (by omega) (by omega) c398
            refine J_iload C rfl dL_isWell_401 ?_
            refine J_aload_n C rfl dL_isWell_403 ?_
            refine J_iload C rfl dL_isWell_404 ?_
            refine J_iconst C 0 (by decide) dL_isWell_406 ?_
            refine J_V0 (as := [.int (nI i), .int 0]) (rest := [.int (nI (σ 3 i))]) C NoX.b NoX.f (o_place l G P σ x i 0 (hg).i (hg).d (by omega)) (fun _ => OW_l2 _ _ _ _ _ _) 2 k434 k435 k436 k10 k437 rfl (by decide +kernel) ⟨Nat.le_of_ble_eq_true rfl, Nat.le_of_ble_eq_true rfl⟩ ⟨Nat.le_of_ble_eq_true rfl, Nat.le_of_ble_eq_true rfl⟩ dL_isWell_407 (Nat.le_of_ble_eq_true rfl) (OW_0 _ _ _ _) rfl (fun _ _ => ?_)
            refine J_st (st' := [.int (plF σ i (0 : Int32).toInt), .int (nI (σ 3 i))]) rfl ?_
            refine J_ws (ws' := OW G P σ x) rfl ?_
            refine J_i ((by rw [show (0 : Int32).toInt = 0 from by decide] <;> rfl) : (plF σ i (0 : Int32).toInt : Int32) = (nI (dueAt σ i))) ?_
            refine J_icmp_ne C 417 (by decide) dL_isWell_410 (fun h => absurd (cv_ne_t (a := (σ 3 i)) (b := (dueAt σ i)) (by omega) (by omega) h) (by omega)) (fun c410 => ?_)
            refine J_iconst C 1 (by decide) dL_isWell_413 ?_
            refine J_goto C 418 (by decide) dL_isWell_414 ?_
            refine J_istore C [(6, .int 1), (5, .int (nI (sumN (ndF σ) (i + 1)))), (4, .int (nI (sumN (notDue σ) (i + 1)))), (3, .int (nI (sumN (fun q => σ 4 q) (i + 1)))), (2, .int (nI (sumN (wrF σ) (i + 1)))), (8, .int (nI (σ 3 i))), (0, .ref P.1), (1, .int (nI (σ 0 4))), (7, .int (nI i))] (by decide) rfl dL_isWell_418 ?_
            refine J_iinc C (nI (i + 1)) [(7, .int (nI (i + 1))), (6, .int 1), (5, .int (nI (sumN (ndF σ) (i + 1)))), (4, .int (nI (sumN (notDue σ) (i + 1)))), (3, .int (nI (sumN (fun q => σ 4 q) (i + 1)))), (2, .int (nI (sumN (wrF σ) (i + 1)))), (8, .int (nI (σ 3 i))), (0, .ref P.1), (1, .int (nI (σ 0 4)))] 8 rfl (by first | exact nI_add _ 1 | rfl) (by decide) rfl dL_isWell_420 ?_
            refine J_goto C 138 (by decide) dL_isWell_423 ?_
            refine J_lvp [7, 8, 5, 4, 3, 2, 1, 0] [(0, .ref P.1), (1, .int (nI (σ 0 4))), (2, .int (nI (sumN (wrF σ) (i + 1)))), (3, .int (nI (sumN (fun q => σ 4 q) (i + 1)))), (4, .int (nI (sumN (notDue σ) (i + 1)))), (5, .int (nI (sumN (ndF σ) (i + 1)))), (6, .int 1), (7, .int (nI (i + 1)))] rfl ?_
            exact ih (i + 1) (by omega) (by omega)
