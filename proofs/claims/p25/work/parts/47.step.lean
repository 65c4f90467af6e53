set_option maxHeartbeats 4000000 in
set_option maxRecDepth 100000 in
theorem ct_isStep (l : Launch) (G : GT) (al ag : Nat) (P R : AD) (σ : AS) (x y : OS) (v w : Int32) (r : Nat) (hP : PR (r + 1) σ x y) : Ct (S := AS × OS × OS) l G (XS al ag) yL_isStep (Wy yL_isStep cL_isStep 12 ((Option.some Jvm.ClassFile.FieldType.boolean))) { frames := 7, cells := 0, slots := 0, locals := 290 } [.ref P.1, .ref R.1, .int v, .int w] (OW G P σ x ++ OW G R σ y) (fun u => PR r u.1 u.2.1 u.2.2) (fun u => some (.int 1)) (fun u => OW G P u.1 u.2.1 ++ OW G R u.1 u.2.2) := by
  refine Ct.of (by decide) (Nat.le_of_ble_eq_true rfl) (fun p e s m args below meth c C hr hnm hX => ?_)
  have hx := hP.1.1
  have hy := hP.1.2
  have hVx := hP.2.1.1
  have hVy := hP.2.1.2
  have hpos := hP.2.2.1
  have h40 := hx.i.a
  have hs := hx.i.s
  have hc := hx.i.c
  have hb1 := hx.2.2.1
  have hb2 := hx.2.2.2
  refine J_iload_n C rfl dL_isStep_0 ?_
  refine J_iconst C 4 (by decide) dL_isStep_1 ?_
  refine J_ishr C dL_isStep_2 ?_
  generalize v >>> (4 &&& 31) = w1
  refine J_istore C [(4, .int w1), (0, .ref P.1), (1, .ref R.1), (2, .int v), (3, .int w)] (by decide) rfl dL_isStep_3 ?_
  refine J_aload_n C rfl dL_isStep_5 ?_
  refine J_iconst C 1 (by decide) dL_isStep_6 ?_
  refine J_V1 (as := [.int 1]) (rest := []) C NoX.b NoX.f (o_count l G P σ x 1 (hx).i (hx).d) (OW G R σ y) (fun _ => OW_l2 _ _ _ _ _ _) 1 k382 k383 k384 k10 k385 rfl (by decide +kernel) ⟨Nat.le_of_ble_eq_true rfl, Nat.le_of_ble_eq_true rfl⟩ ⟨Nat.le_of_ble_eq_true rfl, Nat.le_of_ble_eq_true rfl⟩ dL_isStep_7 (Nat.le_of_ble_eq_true rfl) (OW_0 _ _ _ _) rfl (fun _ _ => ?_)
  refine J_st (st' := [.int (cntF σ x.2.2.2.1.2.2.2 x.2.2.2.2.1.2 (1 : Int32).toInt)]) rfl ?_
  refine J_ws (ws' := OW G P σ x ++ OW G R σ y) rfl ?_
  refine J_i ((by rw [show (1 : Int32).toInt = 1 from by decide] <;> rfl) : (cntF σ x.2.2.2.1.2.2.2 x.2.2.2.2.1.2 (1 : Int32).toInt : Int32) = (nI (σ 0 4))) ?_
  refine J_istore C [(5, .int (nI (σ 0 4))), (4, .int w1), (0, .ref P.1), (1, .ref R.1), (2, .int v), (3, .int w)] (by decide) rfl dL_isStep_10 ?_
  refine J_iload_n C rfl dL_isStep_12 ?_
  refine J_bipush C 14 (by decide) dL_isStep_13 ?_
  refine J_S0 (as := [.int v, .int 14]) (rest := []) C NoX.b NoX.f (ct_up l G v 14 (by omega)) 2 k247 k248 k9 k249 rfl (by decide +kernel) ⟨Nat.le_of_ble_eq_true rfl, Nat.le_of_ble_eq_true rfl⟩ ⟨Nat.le_of_ble_eq_true rfl, Nat.le_of_ble_eq_true rfl⟩ dL_isStep_15 (Nat.le_of_ble_eq_true rfl) (fun u2 hu2 => ?_)
  refine J_st (st' := [.int (nI u2)]) rfl ?_
  refine J_ws (ws' := OW G P σ x ++ OW G R σ y) rfl ?_
  rcases (show u2 = 0 ∨ u2 = 1 ∨ u2 = 2 ∨ u2 = 3 ∨ u2 = 4 ∨ u2 = 5 ∨ u2 = 6 ∨ u2 = 7 ∨ u2 = 8 ∨ u2 = 9 ∨ 10 ≤ u2 by omega) with rfl | rfl | rfl | rfl | rfl | rfl | rfl | rfl | rfl | rfl | hge
  · skip
    refine J_i (y := 0) rfl ?_
    refine J_tableIn C 72 (by decide) (by decide) rfl (by decide) dL_isStep_18 ?_
    refine J_iload C rfl dL_isStep_72 ?_
    refine J_iconst C 3 (by decide) dL_isStep_74 ?_
    refine J_S0 (as := [.int w1, .int 3]) (rest := []) C NoX.b NoX.f (ct_up l G w1 3 (by omega)) 2 k247 k248 k9 k249 rfl (by decide +kernel) ⟨Nat.le_of_ble_eq_true rfl, Nat.le_of_ble_eq_true rfl⟩ ⟨Nat.le_of_ble_eq_true rfl, Nat.le_of_ble_eq_true rfl⟩ dL_isStep_75 (Nat.le_of_ble_eq_true rfl) (fun u3 hu3 => ?_)
    refine J_st (st' := [.int (nI u3)]) rfl ?_
    refine J_ws (ws' := OW G P σ x ++ OW G R σ y) rfl ?_
    rcases (show u3 = 0 ∨ u3 = 1 ∨ u3 = 2 by omega) with rfl | rfl | rfl
    · skip
      refine J_i (y := 0) rfl ?_
      refine J_istore C [(6, .int 0), (5, .int (nI (σ 0 4))), (4, .int w1), (0, .ref P.1), (1, .ref R.1), (2, .int v), (3, .int w)] (by decide) rfl dL_isStep_78 ?_
      refine J_iload C rfl dL_isStep_80 ?_
      refine J_if_ne C 96 (by decide) dL_isStep_82 (fun h => absurd h (by decide)) (fun _ => ?_)
      refine J_iconst C 1 (by decide) dL_isStep_85 ?_
      refine J_iload_n C rfl dL_isStep_86 ?_
      refine J_bipush C 9 (by decide) dL_isStep_87 ?_
      refine J_S0 (as := [.int w, .int 9]) (rest := [.int 1]) C NoX.b NoX.f (ct_up l G w 9 (by omega)) 2 k247 k248 k9 k249 rfl (by decide +kernel) ⟨Nat.le_of_ble_eq_true rfl, Nat.le_of_ble_eq_true rfl⟩ ⟨Nat.le_of_ble_eq_true rfl, Nat.le_of_ble_eq_true rfl⟩ dL_isStep_89 (Nat.le_of_ble_eq_true rfl) (fun u4 hu4 => ?_)
      refine J_st (st' := [.int (nI u4), .int 1]) rfl ?_
      refine J_ws (ws' := OW G P σ x ++ OW G R σ y) rfl ?_
      refine J_iadd C dL_isStep_92 ?_
      refine J_i (nI_add 1 u4 : (1 + (nI u4) : Int32) = (nI (1 + u4))) ?_
      refine J_goto C 117 (by decide) dL_isStep_93 ?_
      refine J_istore C [(7, .int (nI (1 + u4))), (6, .int 0), (5, .int (nI (σ 0 4))), (4, .int w1), (0, .ref P.1), (1, .ref R.1), (2, .int v), (3, .int w)] (by decide) rfl dL_isStep_117 ?_
      refine J_aload_n C rfl dL_isStep_119 ?_
      refine J_bipush C 9 (by decide) dL_isStep_120 ?_
      refine J_iload C rfl dL_isStep_122 ?_
      refine J_iadd C dL_isStep_124 ?_
      refine J_i ((by decide) : (9 + 0 : Int32) = 9) ?_
      refine J_V1 (as := [.int 9]) (rest := []) C NoX.b NoX.f (o_count l G P σ x 9 (hx).i (hx).d) (OW G R σ y) (fun _ => OW_l2 _ _ _ _ _ _) 1 k382 k383 k384 k10 k385 rfl (by decide +kernel) ⟨Nat.le_of_ble_eq_true rfl, Nat.le_of_ble_eq_true rfl⟩ ⟨Nat.le_of_ble_eq_true rfl, Nat.le_of_ble_eq_true rfl⟩ dL_isStep_125 (Nat.le_of_ble_eq_true rfl) (OW_0 _ _ _ _) rfl (fun _ _ => ?_)
      refine J_st (st' := [.int (cntF σ x.2.2.2.1.2.2.2 x.2.2.2.2.1.2 (9 : Int32).toInt)]) rfl ?_
      refine J_ws (ws' := OW G P σ x ++ OW G R σ y) rfl ?_
      refine J_i ((by rw [show (9 : Int32).toInt = 9 from by decide] <;> rfl) : (cntF σ x.2.2.2.1.2.2.2 x.2.2.2.2.1.2 (9 : Int32).toInt : Int32) = (nI (σ 7 0))) ?_
      refine J_istore C [(8, .int (nI (σ 7 0))), (7, .int (nI (1 + u4))), (6, .int 0), (5, .int (nI (σ 0 4))), (4, .int w1), (0, .ref P.1), (1, .ref R.1), (2, .int v), (3, .int w)] (by decide) rfl dL_isStep_128 ?_
      by_cases he : σ 7 0 = 1 + u4
      · skip
        refine J_aload_n C rfl dL_isStep_130 ?_
        refine J_iload C rfl dL_isStep_131 ?_
        refine J_iload C rfl dL_isStep_133 ?_
        refine J_V1 (as := [.int 0, .int (nI (1 + u4))]) (rest := []) C XS.b (XS.f hX) (o_set0 l G P σ x al ag (1 + u4) (hx).i (hx).d hVx ⟨by omega, by omega⟩) (OW G R σ y) (fun _ => OW_l2 _ _ _ _ _ _) 2 k417 k418 k419 k10 k420 rfl (by decide +kernel) ⟨Nat.le_of_ble_eq_true rfl, Nat.le_of_ble_eq_true rfl⟩ ⟨Nat.le_of_ble_eq_true rfl, Nat.le_of_ble_eq_true rfl⟩ dL_isStep_135 (Nat.le_of_ble_eq_true rfl) (OW_0 _ _ _ _) rfl (fun x5 hx6 => ?_)
        refine J_st (st' := [.int (setR2 σ 0 (1 + u4))]) rfl ?_
        refine J_ws (ws' := OW G P (setS σ 0 (1 + u4)) x5 ++ OW G R σ y) rfl ?_
        have hx5 : GV (r + 1) (setS σ 0 (1 + u4)) x5.1 := by rw [hx6.2.1]; exact hx.set (Or.inl ⟨rfl, by omega, by omega⟩)
        refine J_i ((if_pos he) : (setR2 σ 0 (1 + u4) : Int32) = (-5)) ?_
        refine J_istore C [(9, .int (-5)), (8, .int (nI (σ 7 0))), (7, .int (nI (1 + u4))), (6, .int 0), (5, .int (nI (σ 0 4))), (4, .int w1), (0, .ref P.1), (1, .ref R.1), (2, .int v), (3, .int w)] (by decide) rfl dL_isStep_138 ?_
        refine J_iload C rfl dL_isStep_140 ?_
        refine J_aload_n C rfl dL_isStep_142 ?_
        refine J_iload C rfl dL_isStep_143 ?_
        refine J_iload C rfl dL_isStep_145 ?_
        refine J_V2 (as := [.int 0, .int (nI (1 + u4))]) (rest := [.int (-5)]) C XS.b (XS.f hX) (o_set0 l G R σ y al ag (1 + u4) (hy).i (hy).d hVy ⟨by omega, by omega⟩) (OW G P (setS σ 0 (1 + u4)) x5) (fun _ => OW_l2 _ _ _ _ _ _) 2 k417 k418 k419 k10 k420 rfl (by decide +kernel) ⟨Nat.le_of_ble_eq_true rfl, Nat.le_of_ble_eq_true rfl⟩ ⟨Nat.le_of_ble_eq_true rfl, Nat.le_of_ble_eq_true rfl⟩ dL_isStep_147 (Nat.le_of_ble_eq_true rfl) (OW_0 _ _ _ _) rfl (fun x7 hx8 => ?_)
        refine J_st (st' := [.int (setR2 σ 0 (1 + u4)), .int (-5)]) rfl ?_
        refine J_ws (ws' := OW G P (setS σ 0 (1 + u4)) x5 ++ OW G R (setS σ 0 (1 + u4)) x7) rfl ?_
        have hx7 : GV (r + 1) (setS σ 0 (1 + u4)) x7.1 := by rw [hx8.2.1]; exact hy.set (Or.inl ⟨rfl, by omega, by omega⟩)
        refine J_i ((if_pos he) : (setR2 σ 0 (1 + u4) : Int32) = (-5)) ?_
        refine J_icmp_ne C 190 (by decide) dL_isStep_150 (fun h => absurd h (by decide)) (fun _ => ?_)
        refine J_iload C rfl dL_isStep_153 ?_
        refine J_iload C rfl dL_isStep_155 ?_
        refine J_iload C rfl dL_isStep_157 ?_
        refine J_icmp_ne C 167 (by decide) dL_isStep_159 (fun h => absurd (cv_ne_t (a := (σ 7 0)) (b := (1 + u4)) (by omega) (by omega) h) (by omega)) (fun c159 => ?_)
        refine J_bipush C (-5) (by decide) dL_isStep_162 ?_
        refine J_goto C 169 (by decide) dL_isStep_164 ?_
        refine J_icmp_ne C 190 (by decide) dL_isStep_169 (fun h => absurd h (by decide)) (fun _ => ?_)
        refine J_aload_n C rfl dL_isStep_172 ?_
        refine J_bipush C 9 (by decide) dL_isStep_173 ?_
        refine J_iload C rfl dL_isStep_175 ?_
        refine J_iadd C dL_isStep_177 ?_
        refine J_i ((by decide) : (9 + 0 : Int32) = 9) ?_
        refine J_V1 (as := [.int 9]) (rest := []) C NoX.b NoX.f (o_count l G P (setS σ 0 (1 + u4)) x5 9 (hx5).i (hx5).d) (OW G R (setS σ 0 (1 + u4)) x7) (fun _ => OW_l2 _ _ _ _ _ _) 1 k382 k383 k384 k10 k385 rfl (by decide +kernel) ⟨Nat.le_of_ble_eq_true rfl, Nat.le_of_ble_eq_true rfl⟩ ⟨Nat.le_of_ble_eq_true rfl, Nat.le_of_ble_eq_true rfl⟩ dL_isStep_178 (Nat.le_of_ble_eq_true rfl) (OW_0 _ _ _ _) rfl (fun _ _ => ?_)
        refine J_st (st' := [.int (cntF (setS σ 0 (1 + u4)) x5.2.2.2.1.2.2.2 x5.2.2.2.2.1.2 (9 : Int32).toInt)]) rfl ?_
        refine J_ws (ws' := OW G P (setS σ 0 (1 + u4)) x5 ++ OW G R (setS σ 0 (1 + u4)) x7) rfl ?_
        refine J_i ((by rw [show (9 : Int32).toInt = 9 from by decide] <;> rfl) : (cntF (setS σ 0 (1 + u4)) x5.2.2.2.1.2.2.2 x5.2.2.2.2.1.2 (9 : Int32).toInt : Int32) = (nI ((setS σ 0 (1 + u4)) 7 0))) ?_
        refine J_i ((by rw [setS_v]) : (nI ((setS σ 0 (1 + u4)) 7 0) : Int32) = (nI (1 + u4))) ?_
        refine J_iload C rfl dL_isStep_181 ?_
        refine J_icmp_ne C 190 (by decide) dL_isStep_183 (fun h => absurd (cv_ne_t (a := (1 + u4)) (b := (1 + u4)) (by omega) (by omega) h) (by omega)) (fun c183 => ?_)
        refine J_iconst C 1 (by decide) dL_isStep_186 ?_
        refine J_goto C 191 (by decide) dL_isStep_187 ?_
        exact J_zret C hr rfl dL_isStep_191 (setS σ 0 (1 + u4), x5, x7) rfl (hP.act (fun d h => (h.set (Or.inl ⟨rfl, by omega, by omega⟩)).le (Nat.le_succ r)) (setS_4 _ _ _) hx6 hx8) rfl
      · skip
        refine J_aload_n C rfl dL_isStep_130 ?_
        refine J_iload C rfl dL_isStep_131 ?_
        refine J_iload C rfl dL_isStep_133 ?_
        refine J_V1 (as := [.int 0, .int (nI (1 + u4))]) (rest := []) C XS.b (XS.f hX) (o_set0 l G P σ x al ag (1 + u4) (hx).i (hx).d hVx ⟨by omega, by omega⟩) (OW G R σ y) (fun _ => OW_l2 _ _ _ _ _ _) 2 k417 k418 k419 k10 k420 rfl (by decide +kernel) ⟨Nat.le_of_ble_eq_true rfl, Nat.le_of_ble_eq_true rfl⟩ ⟨Nat.le_of_ble_eq_true rfl, Nat.le_of_ble_eq_true rfl⟩ dL_isStep_135 (Nat.le_of_ble_eq_true rfl) (OW_0 _ _ _ _) rfl (fun x9 hx10 => ?_)
        refine J_st (st' := [.int (setR2 σ 0 (1 + u4))]) rfl ?_
        refine J_ws (ws' := OW G P (setS σ 0 (1 + u4)) x9 ++ OW G R σ y) rfl ?_
        have hx9 : GV (r + 1) (setS σ 0 (1 + u4)) x9.1 := by rw [hx10.2.1]; exact hx.set (Or.inl ⟨rfl, by omega, by omega⟩)
        refine J_i ((if_neg he) : (setR2 σ 0 (1 + u4) : Int32) = (nI (σ 7 0))) ?_
        refine J_istore C [(9, .int (nI (σ 7 0))), (8, .int (nI (σ 7 0))), (7, .int (nI (1 + u4))), (6, .int 0), (5, .int (nI (σ 0 4))), (4, .int w1), (0, .ref P.1), (1, .ref R.1), (2, .int v), (3, .int w)] (by decide) rfl dL_isStep_138 ?_
        refine J_iload C rfl dL_isStep_140 ?_
        refine J_aload_n C rfl dL_isStep_142 ?_
        refine J_iload C rfl dL_isStep_143 ?_
        refine J_iload C rfl dL_isStep_145 ?_
        refine J_V2 (as := [.int 0, .int (nI (1 + u4))]) (rest := [.int (nI (σ 7 0))]) C XS.b (XS.f hX) (o_set0 l G R σ y al ag (1 + u4) (hy).i (hy).d hVy ⟨by omega, by omega⟩) (OW G P (setS σ 0 (1 + u4)) x9) (fun _ => OW_l2 _ _ _ _ _ _) 2 k417 k418 k419 k10 k420 rfl (by decide +kernel) ⟨Nat.le_of_ble_eq_true rfl, Nat.le_of_ble_eq_true rfl⟩ ⟨Nat.le_of_ble_eq_true rfl, Nat.le_of_ble_eq_true rfl⟩ dL_isStep_147 (Nat.le_of_ble_eq_true rfl) (OW_0 _ _ _ _) rfl (fun x11 hx12 => ?_)
        refine J_st (st' := [.int (setR2 σ 0 (1 + u4)), .int (nI (σ 7 0))]) rfl ?_
        refine J_ws (ws' := OW G P (setS σ 0 (1 + u4)) x9 ++ OW G R (setS σ 0 (1 + u4)) x11) rfl ?_
        have hx11 : GV (r + 1) (setS σ 0 (1 + u4)) x11.1 := by rw [hx12.2.1]; exact hy.set (Or.inl ⟨rfl, by omega, by omega⟩)
        refine J_i ((if_neg he) : (setR2 σ 0 (1 + u4) : Int32) = (nI (σ 7 0))) ?_
        refine J_icmp_ne C 190 (by decide) dL_isStep_150 (fun h => absurd (cv_ne_t (a := (σ 7 0)) (b := (σ 7 0)) (by omega) (by omega) h) (by omega)) (fun c150 => ?_)
        refine J_iload C rfl dL_isStep_153 ?_
        refine J_iload C rfl dL_isStep_155 ?_
        refine J_iload C rfl dL_isStep_157 ?_
        refine J_icmp_ne C 167 (by decide) dL_isStep_159 (fun c159 => ?_) (fun h => absurd (cv_ne_f (a := (σ 7 0)) (b := (1 + u4)) (by omega) (by omega) h) (by omega))
        refine J_iload C rfl dL_isStep_167 ?_
        refine J_icmp_ne C 190 (by decide) dL_isStep_169 (fun h => absurd (cv_ne_t (a := (σ 7 0)) (b := (σ 7 0)) (by omega) (by omega) h) (by omega)) (fun c169 => ?_)
        refine J_aload_n C rfl dL_isStep_172 ?_
        refine J_bipush C 9 (by decide) dL_isStep_173 ?_
        refine J_iload C rfl dL_isStep_175 ?_
        refine J_iadd C dL_isStep_177 ?_
        refine J_i ((by decide) : (9 + 0 : Int32) = 9) ?_
        refine J_V1 (as := [.int 9]) (rest := []) C NoX.b NoX.f (o_count l G P (setS σ 0 (1 + u4)) x9 9 (hx9).i (hx9).d) (OW G R (setS σ 0 (1 + u4)) x11) (fun _ => OW_l2 _ _ _ _ _ _) 1 k382 k383 k384 k10 k385 rfl (by decide +kernel) ⟨Nat.le_of_ble_eq_true rfl, Nat.le_of_ble_eq_true rfl⟩ ⟨Nat.le_of_ble_eq_true rfl, Nat.le_of_ble_eq_true rfl⟩ dL_isStep_178 (Nat.le_of_ble_eq_true rfl) (OW_0 _ _ _ _) rfl (fun _ _ => ?_)
        refine J_st (st' := [.int (cntF (setS σ 0 (1 + u4)) x9.2.2.2.1.2.2.2 x9.2.2.2.2.1.2 (9 : Int32).toInt)]) rfl ?_
        refine J_ws (ws' := OW G P (setS σ 0 (1 + u4)) x9 ++ OW G R (setS σ 0 (1 + u4)) x11) rfl ?_
        refine J_i ((by rw [show (9 : Int32).toInt = 9 from by decide] <;> rfl) : (cntF (setS σ 0 (1 + u4)) x9.2.2.2.1.2.2.2 x9.2.2.2.2.1.2 (9 : Int32).toInt : Int32) = (nI ((setS σ 0 (1 + u4)) 7 0))) ?_
        refine J_i ((by rw [setS_v]) : (nI ((setS σ 0 (1 + u4)) 7 0) : Int32) = (nI (1 + u4))) ?_
        refine J_iload C rfl dL_isStep_181 ?_
        refine J_icmp_ne C 190 (by decide) dL_isStep_183 (fun h => absurd (cv_ne_t (a := (1 + u4)) (b := (1 + u4)) (by omega) (by omega) h) (by omega)) (fun c183 => ?_)
        refine J_iconst C 1 (by decide) dL_isStep_186 ?_
        refine J_goto C 191 (by decide) dL_isStep_187 ?_
        exact J_zret C hr rfl dL_isStep_191 (setS σ 0 (1 + u4), x9, x11) rfl (hP.act (fun d h => (h.set (Or.inl ⟨rfl, by omega, by omega⟩)).le (Nat.le_succ r)) (setS_4 _ _ _) hx10 hx12) rfl
    · skip
      refine J_i (y := 1) rfl ?_
      refine J_istore C [(6, .int 1), (5, .int (nI (σ 0 4))), (4, .int w1), (0, .ref P.1), (1, .ref R.1), (2, .int v), (3, .int w)] (by decide) rfl dL_isStep_78 ?_
      refine J_iload C rfl dL_isStep_80 ?_
      refine J_if_ne C 96 (by decide) dL_isStep_82 (fun _ => ?_) (fun h => absurd h (by decide))
      refine J_iload C rfl dL_isStep_96 ?_
      refine J_iconst C 1 (by decide) dL_isStep_98 ?_
      refine J_icmp_ne C 111 (by decide) dL_isStep_99 (fun h => absurd h (by decide)) (fun _ => ?_)
      refine J_iload_n C rfl dL_isStep_102 ?_
      refine J_bipush C 9 (by decide) dL_isStep_103 ?_
      refine J_S0 (as := [.int w, .int 9]) (rest := []) C NoX.b NoX.f (ct_up l G w 9 (by omega)) 2 k247 k248 k9 k249 rfl (by decide +kernel) ⟨Nat.le_of_ble_eq_true rfl, Nat.le_of_ble_eq_true rfl⟩ ⟨Nat.le_of_ble_eq_true rfl, Nat.le_of_ble_eq_true rfl⟩ dL_isStep_105 (Nat.le_of_ble_eq_true rfl) (fun u13 hu13 => ?_)
      refine J_st (st' := [.int (nI u13)]) rfl ?_
      refine J_ws (ws' := OW G P σ x ++ OW G R σ y) rfl ?_
      refine J_goto C 117 (by decide) dL_isStep_108 ?_
      refine J_istore C [(7, .int (nI u13)), (6, .int 1), (5, .int (nI (σ 0 4))), (4, .int w1), (0, .ref P.1), (1, .ref R.1), (2, .int v), (3, .int w)] (by decide) rfl dL_isStep_117 ?_
      refine J_aload_n C rfl dL_isStep_119 ?_
      refine J_bipush C 9 (by decide) dL_isStep_120 ?_
      refine J_iload C rfl dL_isStep_122 ?_
      refine J_iadd C dL_isStep_124 ?_
      refine J_i ((by decide) : (9 + 1 : Int32) = 10) ?_
      refine J_V1 (as := [.int 10]) (rest := []) C NoX.b NoX.f (o_count l G P σ x 10 (hx).i (hx).d) (OW G R σ y) (fun _ => OW_l2 _ _ _ _ _ _) 1 k382 k383 k384 k10 k385 rfl (by decide +kernel) ⟨Nat.le_of_ble_eq_true rfl, Nat.le_of_ble_eq_true rfl⟩ ⟨Nat.le_of_ble_eq_true rfl, Nat.le_of_ble_eq_true rfl⟩ dL_isStep_125 (Nat.le_of_ble_eq_true rfl) (OW_0 _ _ _ _) rfl (fun _ _ => ?_)
      refine J_st (st' := [.int (cntF σ x.2.2.2.1.2.2.2 x.2.2.2.2.1.2 (10 : Int32).toInt)]) rfl ?_
      refine J_ws (ws' := OW G P σ x ++ OW G R σ y) rfl ?_
      refine J_i ((by rw [show (10 : Int32).toInt = 10 from by decide] <;> rfl) : (cntF σ x.2.2.2.1.2.2.2 x.2.2.2.2.1.2 (10 : Int32).toInt : Int32) = (nI (σ 7 1))) ?_
      refine J_istore C [(8, .int (nI (σ 7 1))), (7, .int (nI u13)), (6, .int 1), (5, .int (nI (σ 0 4))), (4, .int w1), (0, .ref P.1), (1, .ref R.1), (2, .int v), (3, .int w)] (by decide) rfl dL_isStep_128 ?_
      by_cases he : σ 7 1 = u13
      · skip
        refine J_aload_n C rfl dL_isStep_130 ?_
        refine J_iload C rfl dL_isStep_131 ?_
        refine J_iload C rfl dL_isStep_133 ?_
        refine J_V1 (as := [.int 1, .int (nI u13)]) (rest := []) C XS.b (XS.f hX) (o_set1 l G P σ x al ag u13 (hx).i (hx).d hVx ⟨by omega, by omega⟩) (OW G R σ y) (fun _ => OW_l2 _ _ _ _ _ _) 2 k417 k418 k419 k10 k420 rfl (by decide +kernel) ⟨Nat.le_of_ble_eq_true rfl, Nat.le_of_ble_eq_true rfl⟩ ⟨Nat.le_of_ble_eq_true rfl, Nat.le_of_ble_eq_true rfl⟩ dL_isStep_135 (Nat.le_of_ble_eq_true rfl) (OW_0 _ _ _ _) rfl (fun x14 hx15 => ?_)
        refine J_st (st' := [.int (setR2 σ 1 u13)]) rfl ?_
        refine J_ws (ws' := OW G P (setS σ 1 u13) x14 ++ OW G R σ y) rfl ?_
        have hx14 : GV (r + 1) (setS σ 1 u13) x14.1 := by rw [hx15.2.1]; exact hx.set (Or.inr (Or.inl ⟨rfl, by omega⟩))
        refine J_i ((if_pos he) : (setR2 σ 1 u13 : Int32) = (-5)) ?_
        refine J_istore C [(9, .int (-5)), (8, .int (nI (σ 7 1))), (7, .int (nI u13)), (6, .int 1), (5, .int (nI (σ 0 4))), (4, .int w1), (0, .ref P.1), (1, .ref R.1), (2, .int v), (3, .int w)] (by decide) rfl dL_isStep_138 ?_
        refine J_iload C rfl dL_isStep_140 ?_
        refine J_aload_n C rfl dL_isStep_142 ?_
        refine J_iload C rfl dL_isStep_143 ?_
        refine J_iload C rfl dL_isStep_145 ?_
        refine J_V2 (as := [.int 1, .int (nI u13)]) (rest := [.int (-5)]) C XS.b (XS.f hX) (o_set1 l G R σ y al ag u13 (hy).i (hy).d hVy ⟨by omega, by omega⟩) (OW G P (setS σ 1 u13) x14) (fun _ => OW_l2 _ _ _ _ _ _) 2 k417 k418 k419 k10 k420 rfl (by decide +kernel) ⟨Nat.le_of_ble_eq_true rfl, Nat.le_of_ble_eq_true rfl⟩ ⟨Nat.le_of_ble_eq_true rfl, Nat.le_of_ble_eq_true rfl⟩ dL_isStep_147 (Nat.le_of_ble_eq_true rfl) (OW_0 _ _ _ _) rfl (fun x16 hx17 => ?_)
        refine J_st (st' := [.int (setR2 σ 1 u13), .int (-5)]) rfl ?_
        refine J_ws (ws' := OW G P (setS σ 1 u13) x14 ++ OW G R (setS σ 1 u13) x16) rfl ?_
        have hx16 : GV (r + 1) (setS σ 1 u13) x16.1 := by rw [hx17.2.1]; exact hy.set (Or.inr (Or.inl ⟨rfl, by omega⟩))
        refine J_i ((if_pos he) : (setR2 σ 1 u13 : Int32) = (-5)) ?_
        refine J_icmp_ne C 190 (by decide) dL_isStep_150 (fun h => absurd h (by decide)) (fun _ => ?_)
        refine J_iload C rfl dL_isStep_153 ?_
        refine J_iload C rfl dL_isStep_155 ?_
        refine J_iload C rfl dL_isStep_157 ?_
        refine J_icmp_ne C 167 (by decide) dL_isStep_159 (fun h => absurd (cv_ne_t (a := (σ 7 1)) (b := u13) (by omega) (by omega) h) (by omega)) (fun c159 => ?_)
        refine J_bipush C (-5) (by decide) dL_isStep_162 ?_
        refine J_goto C 169 (by decide) dL_isStep_164 ?_
        refine J_icmp_ne C 190 (by decide) dL_isStep_169 (fun h => absurd h (by decide)) (fun _ => ?_)
        refine J_aload_n C rfl dL_isStep_172 ?_
        refine J_bipush C 9 (by decide) dL_isStep_173 ?_
        refine J_iload C rfl dL_isStep_175 ?_
        refine J_iadd C dL_isStep_177 ?_
        refine J_i ((by decide) : (9 + 1 : Int32) = 10) ?_
        refine J_V1 (as := [.int 10]) (rest := []) C NoX.b NoX.f (o_count l G P (setS σ 1 u13) x14 10 (hx14).i (hx14).d) (OW G R (setS σ 1 u13) x16) (fun _ => OW_l2 _ _ _ _ _ _) 1 k382 k383 k384 k10 k385 rfl (by decide +kernel) ⟨Nat.le_of_ble_eq_true rfl, Nat.le_of_ble_eq_true rfl⟩ ⟨Nat.le_of_ble_eq_true rfl, Nat.le_of_ble_eq_true rfl⟩ dL_isStep_178 (Nat.le_of_ble_eq_true rfl) (OW_0 _ _ _ _) rfl (fun _ _ => ?_)
        refine J_st (st' := [.int (cntF (setS σ 1 u13) x14.2.2.2.1.2.2.2 x14.2.2.2.2.1.2 (10 : Int32).toInt)]) rfl ?_
        refine J_ws (ws' := OW G P (setS σ 1 u13) x14 ++ OW G R (setS σ 1 u13) x16) rfl ?_
        refine J_i ((by rw [show (10 : Int32).toInt = 10 from by decide] <;> rfl) : (cntF (setS σ 1 u13) x14.2.2.2.1.2.2.2 x14.2.2.2.2.1.2 (10 : Int32).toInt : Int32) = (nI ((setS σ 1 u13) 7 1))) ?_
        refine J_i ((by rw [setS_v]) : (nI ((setS σ 1 u13) 7 1) : Int32) = (nI u13)) ?_
        refine J_iload C rfl dL_isStep_181 ?_
        refine J_icmp_ne C 190 (by decide) dL_isStep_183 (fun h => absurd (cv_ne_t (a := u13) (b := u13) (by omega) (by omega) h) (by omega)) (fun c183 => ?_)
        refine J_iconst C 1 (by decide) dL_isStep_186 ?_
        refine J_goto C 191 (by decide) dL_isStep_187 ?_
        exact J_zret C hr rfl dL_isStep_191 (setS σ 1 u13, x14, x16) rfl (hP.act (fun d h => (h.set (Or.inr (Or.inl ⟨rfl, by omega⟩))).le (Nat.le_succ r)) (setS_4 _ _ _) hx15 hx17) rfl
      · skip
        refine J_aload_n C rfl dL_isStep_130 ?_
        refine J_iload C rfl dL_isStep_131 ?_
        refine J_iload C rfl dL_isStep_133 ?_
        refine J_V1 (as := [.int 1, .int (nI u13)]) (rest := []) C XS.b (XS.f hX) (o_set1 l G P σ x al ag u13 (hx).i (hx).d hVx ⟨by omega, by omega⟩) (OW G R σ y) (fun _ => OW_l2 _ _ _ _ _ _) 2 k417 k418 k419 k10 k420 rfl (by decide +kernel) ⟨Nat.le_of_ble_eq_true rfl, Nat.le_of_ble_eq_true rfl⟩ ⟨Nat.le_of_ble_eq_true rfl, Nat.le_of_ble_eq_true rfl⟩ dL_isStep_135 (Nat.le_of_ble_eq_true rfl) (OW_0 _ _ _ _) rfl (fun x18 hx19 => ?_)
        refine J_st (st' := [.int (setR2 σ 1 u13)]) rfl ?_
        refine J_ws (ws' := OW G P (setS σ 1 u13) x18 ++ OW G R σ y) rfl ?_
        have hx18 : GV (r + 1) (setS σ 1 u13) x18.1 := by rw [hx19.2.1]; exact hx.set (Or.inr (Or.inl ⟨rfl, by omega⟩))
        refine J_i ((if_neg he) : (setR2 σ 1 u13 : Int32) = (nI (σ 7 1))) ?_
        refine J_istore C [(9, .int (nI (σ 7 1))), (8, .int (nI (σ 7 1))), (7, .int (nI u13)), (6, .int 1), (5, .int (nI (σ 0 4))), (4, .int w1), (0, .ref P.1), (1, .ref R.1), (2, .int v), (3, .int w)] (by decide) rfl dL_isStep_138 ?_
        refine J_iload C rfl dL_isStep_140 ?_
        refine J_aload_n C rfl dL_isStep_142 ?_
        refine J_iload C rfl dL_isStep_143 ?_
        refine J_iload C rfl dL_isStep_145 ?_
        refine J_V2 (as := [.int 1, .int (nI u13)]) (rest := [.int (nI (σ 7 1))]) C XS.b (XS.f hX) (o_set1 l G R σ y al ag u13 (hy).i (hy).d hVy ⟨by omega, by omega⟩) (OW G P (setS σ 1 u13) x18) (fun _ => OW_l2 _ _ _ _ _ _) 2 k417 k418 k419 k10 k420 rfl (by decide +kernel) ⟨Nat.le_of_ble_eq_true rfl, Nat.le_of_ble_eq_true rfl⟩ ⟨Nat.le_of_ble_eq_true rfl, Nat.le_of_ble_eq_true rfl⟩ dL_isStep_147 (Nat.le_of_ble_eq_true rfl) (OW_0 _ _ _ _) rfl (fun x20 hx21 => ?_)
        refine J_st (st' := [.int (setR2 σ 1 u13), .int (nI (σ 7 1))]) rfl ?_
        refine J_ws (ws' := OW G P (setS σ 1 u13) x18 ++ OW G R (setS σ 1 u13) x20) rfl ?_
        have hx20 : GV (r + 1) (setS σ 1 u13) x20.1 := by rw [hx21.2.1]; exact hy.set (Or.inr (Or.inl ⟨rfl, by omega⟩))
        refine J_i ((if_neg he) : (setR2 σ 1 u13 : Int32) = (nI (σ 7 1))) ?_
        refine J_icmp_ne C 190 (by decide) dL_isStep_150 (fun h => absurd (cv_ne_t (a := (σ 7 1)) (b := (σ 7 1)) (by omega) (by omega) h) (by omega)) (fun c150 => ?_)
        refine J_iload C rfl dL_isStep_153 ?_
        refine J_iload C rfl dL_isStep_155 ?_
        refine J_iload C rfl dL_isStep_157 ?_
        refine J_icmp_ne C 167 (by decide) dL_isStep_159 (fun c159 => ?_) (fun h => absurd (cv_ne_f (a := (σ 7 1)) (b := u13) (by omega) (by omega) h) (by omega))
        refine J_iload C rfl dL_isStep_167 ?_
        refine J_icmp_ne C 190 (by decide) dL_isStep_169 (fun h => absurd (cv_ne_t (a := (σ 7 1)) (b := (σ 7 1)) (by omega) (by omega) h) (by omega)) (fun c169 => ?_)
        refine J_aload_n C rfl dL_isStep_172 ?_
        refine J_bipush C 9 (by decide) dL_isStep_173 ?_
        refine J_iload C rfl dL_isStep_175 ?_
        refine J_iadd C dL_isStep_177 ?_
        refine J_i ((by decide) : (9 + 1 : Int32) = 10) ?_
        refine J_V1 (as := [.int 10]) (rest := []) C NoX.b NoX.f (o_count l G P (setS σ 1 u13) x18 10 (hx18).i (hx18).d) (OW G R (setS σ 1 u13) x20) (fun _ => OW_l2 _ _ _ _ _ _) 1 k382 k383 k384 k10 k385 rfl (by decide +kernel) ⟨Nat.le_of_ble_eq_true rfl, Nat.le_of_ble_eq_true rfl⟩ ⟨Nat.le_of_ble_eq_true rfl, Nat.le_of_ble_eq_true rfl⟩ dL_isStep_178 (Nat.le_of_ble_eq_true rfl) (OW_0 _ _ _ _) rfl (fun _ _ => ?_)
        refine J_st (st' := [.int (cntF (setS σ 1 u13) x18.2.2.2.1.2.2.2 x18.2.2.2.2.1.2 (10 : Int32).toInt)]) rfl ?_
        refine J_ws (ws' := OW G P (setS σ 1 u13) x18 ++ OW G R (setS σ 1 u13) x20) rfl ?_
        refine J_i ((by rw [show (10 : Int32).toInt = 10 from by decide] <;> rfl) : (cntF (setS σ 1 u13) x18.2.2.2.1.2.2.2 x18.2.2.2.2.1.2 (10 : Int32).toInt : Int32) = (nI ((setS σ 1 u13) 7 1))) ?_
        refine J_i ((by rw [setS_v]) : (nI ((setS σ 1 u13) 7 1) : Int32) = (nI u13)) ?_
        refine J_iload C rfl dL_isStep_181 ?_
        refine J_icmp_ne C 190 (by decide) dL_isStep_183 (fun h => absurd (cv_ne_t (a := u13) (b := u13) (by omega) (by omega) h) (by omega)) (fun c183 => ?_)
        refine J_iconst C 1 (by decide) dL_isStep_186 ?_
        refine J_goto C 191 (by decide) dL_isStep_187 ?_
        exact J_zret C hr rfl dL_isStep_191 (setS σ 1 u13, x18, x20) rfl (hP.act (fun d h => (h.set (Or.inr (Or.inl ⟨rfl, by omega⟩))).le (Nat.le_succ r)) (setS_4 _ _ _) hx19 hx21) rfl
    · skip
      refine J_i (y := 2) rfl ?_
      refine J_istore C [(6, .int 2), (5, .int (nI (σ 0 4))), (4, .int w1), (0, .ref P.1), (1, .ref R.1), (2, .int v), (3, .int w)] (by decide) rfl dL_isStep_78 ?_
      refine J_iload C rfl dL_isStep_80 ?_
      refine J_if_ne C 96 (by decide) dL_isStep_82 (fun _ => ?_) (fun h => absurd h (by decide))
      refine J_iload C rfl dL_isStep_96 ?_
      refine J_iconst C 1 (by decide) dL_isStep_98 ?_
      refine J_icmp_ne C 111 (by decide) dL_isStep_99 (fun _ => ?_) (fun h => absurd h (by decide))
      refine J_iload_n C rfl dL_isStep_111 ?_
      refine J_bipush C 21 (by decide) dL_isStep_112 ?_
      refine J_S0 (as := [.int w, .int 21]) (rest := []) C NoX.b NoX.f (ct_up l G w 21 (by omega)) 2 k247 k248 k9 k249 rfl (by decide +kernel) ⟨Nat.le_of_ble_eq_true rfl, Nat.le_of_ble_eq_true rfl⟩ ⟨Nat.le_of_ble_eq_true rfl, Nat.le_of_ble_eq_true rfl⟩ dL_isStep_114 (Nat.le_of_ble_eq_true rfl) (fun u22 hu22 => ?_)
      refine J_st (st' := [.int (nI u22)]) rfl ?_
      refine J_ws (ws' := OW G P σ x ++ OW G R σ y) rfl ?_
      refine J_istore C [(7, .int (nI u22)), (6, .int 2), (5, .int (nI (σ 0 4))), (4, .int w1), (0, .ref P.1), (1, .ref R.1), (2, .int v), (3, .int w)] (by decide) rfl dL_isStep_117 ?_
      refine J_aload_n C rfl dL_isStep_119 ?_
      refine J_bipush C 9 (by decide) dL_isStep_120 ?_
      refine J_iload C rfl dL_isStep_122 ?_
      refine J_iadd C dL_isStep_124 ?_
      refine J_i ((by decide) : (9 + 2 : Int32) = 11) ?_
      refine J_V1 (as := [.int 11]) (rest := []) C NoX.b NoX.f (o_count l G P σ x 11 (hx).i (hx).d) (OW G R σ y) (fun _ => OW_l2 _ _ _ _ _ _) 1 k382 k383 k384 k10 k385 rfl (by decide +kernel) ⟨Nat.le_of_ble_eq_true rfl, Nat.le_of_ble_eq_true rfl⟩ ⟨Nat.le_of_ble_eq_true rfl, Nat.le_of_ble_eq_true rfl⟩ dL_isStep_125 (Nat.le_of_ble_eq_true rfl) (OW_0 _ _ _ _) rfl (fun _ _ => ?_)
      refine J_st (st' := [.int (cntF σ x.2.2.2.1.2.2.2 x.2.2.2.2.1.2 (11 : Int32).toInt)]) rfl ?_
      refine J_ws (ws' := OW G P σ x ++ OW G R σ y) rfl ?_
      refine J_i ((by rw [show (11 : Int32).toInt = 11 from by decide] <;> rfl) : (cntF σ x.2.2.2.1.2.2.2 x.2.2.2.2.1.2 (11 : Int32).toInt : Int32) = (nI (σ 7 2))) ?_
      refine J_istore C [(8, .int (nI (σ 7 2))), (7, .int (nI u22)), (6, .int 2), (5, .int (nI (σ 0 4))), (4, .int w1), (0, .ref P.1), (1, .ref R.1), (2, .int v), (3, .int w)] (by decide) rfl dL_isStep_128 ?_
      by_cases he : σ 7 2 = u22
      · skip
        refine J_aload_n C rfl dL_isStep_130 ?_
        refine J_iload C rfl dL_isStep_131 ?_
        refine J_iload C rfl dL_isStep_133 ?_
        refine J_V1 (as := [.int 2, .int (nI u22)]) (rest := []) C XS.b (XS.f hX) (o_set2 l G P σ x al ag u22 (hx).i (hx).d hVx ⟨by omega, by omega⟩) (OW G R σ y) (fun _ => OW_l2 _ _ _ _ _ _) 2 k417 k418 k419 k10 k420 rfl (by decide +kernel) ⟨Nat.le_of_ble_eq_true rfl, Nat.le_of_ble_eq_true rfl⟩ ⟨Nat.le_of_ble_eq_true rfl, Nat.le_of_ble_eq_true rfl⟩ dL_isStep_135 (Nat.le_of_ble_eq_true rfl) (OW_0 _ _ _ _) rfl (fun x23 hx24 => ?_)
        refine J_st (st' := [.int (setR2 σ 2 u22)]) rfl ?_
        refine J_ws (ws' := OW G P (setS σ 2 u22) x23 ++ OW G R σ y) rfl ?_
        have hx23 : GV (r + 1) (setS σ 2 u22) x23.1 := by rw [hx24.2.1]; exact hx.set (Or.inr (Or.inr ⟨rfl, by omega⟩))
        refine J_i ((if_pos he) : (setR2 σ 2 u22 : Int32) = (-5)) ?_
        refine J_istore C [(9, .int (-5)), (8, .int (nI (σ 7 2))), (7, .int (nI u22)), (6, .int 2), (5, .int (nI (σ 0 4))), (4, .int w1), (0, .ref P.1), (1, .ref R.1), (2, .int v), (3, .int w)] (by decide) rfl dL_isStep_138 ?_
        refine J_iload C rfl dL_isStep_140 ?_
        refine J_aload_n C rfl dL_isStep_142 ?_
        refine J_iload C rfl dL_isStep_143 ?_
        refine J_iload C rfl dL_isStep_145 ?_
        refine J_V2 (as := [.int 2, .int (nI u22)]) (rest := [.int (-5)]) C XS.b (XS.f hX) (o_set2 l G R σ y al ag u22 (hy).i (hy).d hVy ⟨by omega, by omega⟩) (OW G P (setS σ 2 u22) x23) (fun _ => OW_l2 _ _ _ _ _ _) 2 k417 k418 k419 k10 k420 rfl (by decide +kernel) ⟨Nat.le_of_ble_eq_true rfl, Nat.le_of_ble_eq_true rfl⟩ ⟨Nat.le_of_ble_eq_true rfl, Nat.le_of_ble_eq_true rfl⟩ dL_isStep_147 (Nat.le_of_ble_eq_true rfl) (OW_0 _ _ _ _) rfl (fun x25 hx26 => ?_)
        refine J_st (st' := [.int (setR2 σ 2 u22), .int (-5)]) rfl ?_
        refine J_ws (ws' := OW G P (setS σ 2 u22) x23 ++ OW G R (setS σ 2 u22) x25) rfl ?_
        have hx25 : GV (r + 1) (setS σ 2 u22) x25.1 := by rw [hx26.2.1]; exact hy.set (Or.inr (Or.inr ⟨rfl, by omega⟩))
        refine J_i ((if_pos he) : (setR2 σ 2 u22 : Int32) = (-5)) ?_
        refine J_icmp_ne C 190 (by decide) dL_isStep_150 (fun h => absurd h (by decide)) (fun _ => ?_)
        refine J_iload C rfl dL_isStep_153 ?_
        refine J_iload C rfl dL_isStep_155 ?_
        refine J_iload C rfl dL_isStep_157 ?_
        refine J_icmp_ne C 167 (by decide) dL_isStep_159 (fun h => absurd (cv_ne_t (a := (σ 7 2)) (b := u22) (by omega) (by omega) h) (by omega)) (fun c159 => ?_)
        refine J_bipush C (-5) (by decide) dL_isStep_162 ?_
        refine J_goto C 169 (by decide) dL_isStep_164 ?_
        refine J_icmp_ne C 190 (by decide) dL_isStep_169 (fun h => absurd h (by decide)) (fun _ => ?_)
        refine J_aload_n C rfl dL_isStep_172 ?_
        refine J_bipush C 9 (by decide) dL_isStep_173 ?_
        refine J_iload C rfl dL_isStep_175 ?_
        refine J_iadd C dL_isStep_177 ?_
        refine J_i ((by decide) : (9 + 2 : Int32) = 11) ?_
        refine J_V1 (as := [.int 11]) (rest := []) C NoX.b NoX.f (o_count l G P (setS σ 2 u22) x23 11 (hx23).i (hx23).d) (OW G R (setS σ 2 u22) x25) (fun _ => OW_l2 _ _ _ _ _ _) 1 k382 k383 k384 k10 k385 rfl (by decide +kernel) ⟨Nat.le_of_ble_eq_true rfl, Nat.le_of_ble_eq_true rfl⟩ ⟨Nat.le_of_ble_eq_true rfl, Nat.le_of_ble_eq_true rfl⟩ dL_isStep_178 (Nat.le_of_ble_eq_true rfl) (OW_0 _ _ _ _) rfl (fun _ _ => ?_)
        refine J_st (st' := [.int (cntF (setS σ 2 u22) x23.2.2.2.1.2.2.2 x23.2.2.2.2.1.2 (11 : Int32).toInt)]) rfl ?_
        refine J_ws (ws' := OW G P (setS σ 2 u22) x23 ++ OW G R (setS σ 2 u22) x25) rfl ?_
        refine J_i ((by rw [show (11 : Int32).toInt = 11 from by decide] <;> rfl) : (cntF (setS σ 2 u22) x23.2.2.2.1.2.2.2 x23.2.2.2.2.1.2 (11 : Int32).toInt : Int32) = (nI ((setS σ 2 u22) 7 2))) ?_
        refine J_i ((by rw [setS_v]) : (nI ((setS σ 2 u22) 7 2) : Int32) = (nI u22)) ?_
        refine J_iload C rfl dL_isStep_181 ?_
        refine J_icmp_ne C 190 (by decide) dL_isStep_183 (fun h => absurd (cv_ne_t (a := u22) (b := u22) (by omega) (by omega) h) (by omega)) (fun c183 => ?_)
        refine J_iconst C 1 (by decide) dL_isStep_186 ?_
        refine J_goto C 191 (by decide) dL_isStep_187 ?_
        exact J_zret C hr rfl dL_isStep_191 (setS σ 2 u22, x23, x25) rfl (hP.act (fun d h => (h.set (Or.inr (Or.inr ⟨rfl, by omega⟩))).le (Nat.le_succ r)) (setS_4 _ _ _) hx24 hx26) rfl
      · skip
        refine J_aload_n C rfl dL_isStep_130 ?_
        refine J_iload C rfl dL_isStep_131 ?_
        refine J_iload C rfl dL_isStep_133 ?_
        refine J_V1 (as := [.int 2, .int (nI u22)]) (rest := []) C XS.b (XS.f hX) (o_set2 l G P σ x al ag u22 (hx).i (hx).d hVx ⟨by omega, by omega⟩) (OW G R σ y) (fun _ => OW_l2 _ _ _ _ _ _) 2 k417 k418 k419 k10 k420 rfl (by decide +kernel) ⟨Nat.le_of_ble_eq_true rfl, Nat.le_of_ble_eq_true rfl⟩ ⟨Nat.le_of_ble_eq_true rfl, Nat.le_of_ble_eq_true rfl⟩ dL_isStep_135 (Nat.le_of_ble_eq_true rfl) (OW_0 _ _ _ _) rfl (fun x27 hx28 => ?_)
        refine J_st (st' := [.int (setR2 σ 2 u22)]) rfl ?_
        refine J_ws (ws' := OW G P (setS σ 2 u22) x27 ++ OW G R σ y) rfl ?_
        have hx27 : GV (r + 1) (setS σ 2 u22) x27.1 := by rw [hx28.2.1]; exact hx.set (Or.inr (Or.inr ⟨rfl, by omega⟩))
        refine J_i ((if_neg he) : (setR2 σ 2 u22 : Int32) = (nI (σ 7 2))) ?_
        refine J_istore C [(9, .int (nI (σ 7 2))), (8, .int (nI (σ 7 2))), (7, .int (nI u22)), (6, .int 2), (5, .int (nI (σ 0 4))), (4, .int w1), (0, .ref P.1), (1, .ref R.1), (2, .int v), (3, .int w)] (by decide) rfl dL_isStep_138 ?_
        refine J_iload C rfl dL_isStep_140 ?_
        refine J_aload_n C rfl dL_isStep_142 ?_
        refine J_iload C rfl dL_isStep_143 ?_
        refine J_iload C rfl dL_isStep_145 ?_
        refine J_V2 (as := [.int 2, .int (nI u22)]) (rest := [.int (nI (σ 7 2))]) C XS.b (XS.f hX) (o_set2 l G R σ y al ag u22 (hy).i (hy).d hVy ⟨by omega, by omega⟩) (OW G P (setS σ 2 u22) x27) (fun _ => OW_l2 _ _ _ _ _ _) 2 k417 k418 k419 k10 k420 rfl (by decide +kernel) ⟨Nat.le_of_ble_eq_true rfl, Nat.le_of_ble_eq_true rfl⟩ ⟨Nat.le_of_ble_eq_true rfl, Nat.le_of_ble_eq_true rfl⟩ dL_isStep_147 (Nat.le_of_ble_eq_true rfl) (OW_0 _ _ _ _) rfl (fun x29 hx30 => ?_)
        refine J_st (st' := [.int (setR2 σ 2 u22), .int (nI (σ 7 2))]) rfl ?_
        refine J_ws (ws' := OW G P (setS σ 2 u22) x27 ++ OW G R (setS σ 2 u22) x29) rfl ?_
        have hx29 : GV (r + 1) (setS σ 2 u22) x29.1 := by rw [hx30.2.1]; exact hy.set (Or.inr (Or.inr ⟨rfl, by omega⟩))
        refine J_i ((if_neg he) : (setR2 σ 2 u22 : Int32) = (nI (σ 7 2))) ?_
        refine J_icmp_ne C 190 (by decide) dL_isStep_150 (fun h => absurd (cv_ne_t (a := (σ 7 2)) (b := (σ 7 2)) (by omega) (by omega) h) (by omega)) (fun c150 => ?_)
        refine J_iload C rfl dL_isStep_153 ?_
        refine J_iload C rfl dL_isStep_155 ?_
        refine J_iload C rfl dL_isStep_157 ?_
        refine J_icmp_ne C 167 (by decide) dL_isStep_159 (fun c159 => ?_) (fun h => absurd (cv_ne_f (a := (σ 7 2)) (b := u22) (by omega) (by omega) h) (by omega))
        refine J_iload C rfl dL_isStep_167 ?_
        refine J_icmp_ne C 190 (by decide) dL_isStep_169 (fun h => absurd (cv_ne_t (a := (σ 7 2)) (b := (σ 7 2)) (by omega) (by omega) h) (by omega)) (fun c169 => ?_)
        refine J_aload_n C rfl dL_isStep_172 ?_
        refine J_bipush C 9 (by decide) dL_isStep_173 ?_
        refine J_iload C rfl dL_isStep_175 ?_
        refine J_iadd C dL_isStep_177 ?_
        refine J_i ((by decide) : (9 + 2 : Int32) = 11) ?_
        refine J_V1 (as := [.int 11]) (rest := []) C NoX.b NoX.f (o_count l G P (setS σ 2 u22) x27 11 (hx27).i (hx27).d) (OW G R (setS σ 2 u22) x29) (fun _ => OW_l2 _ _ _ _ _ _) 1 k382 k383 k384 k10 k385 rfl (by decide +kernel) ⟨Nat.le_of_ble_eq_true rfl, Nat.le_of_ble_eq_true rfl⟩ ⟨Nat.le_of_ble_eq_true rfl, Nat.le_of_ble_eq_true rfl⟩ dL_isStep_178 (Nat.le_of_ble_eq_true rfl) (OW_0 _ _ _ _) rfl (fun _ _ => ?_)
        refine J_st (st' := [.int (cntF (setS σ 2 u22) x27.2.2.2.1.2.2.2 x27.2.2.2.2.1.2 (11 : Int32).toInt)]) rfl ?_
        refine J_ws (ws' := OW G P (setS σ 2 u22) x27 ++ OW G R (setS σ 2 u22) x29) rfl ?_
        refine J_i ((by rw [show (11 : Int32).toInt = 11 from by decide] <;> rfl) : (cntF (setS σ 2 u22) x27.2.2.2.1.2.2.2 x27.2.2.2.2.1.2 (11 : Int32).toInt : Int32) = (nI ((setS σ 2 u22) 7 2))) ?_
        refine J_i ((by rw [setS_v]) : (nI ((setS σ 2 u22) 7 2) : Int32) = (nI u22)) ?_
        refine J_iload C rfl dL_isStep_181 ?_
        refine J_icmp_ne C 190 (by decide) dL_isStep_183 (fun h => absurd (cv_ne_t (a := u22) (b := u22) (by omega) (by omega) h) (by omega)) (fun c183 => ?_)
        refine J_iconst C 1 (by decide) dL_isStep_186 ?_
        refine J_goto C 191 (by decide) dL_isStep_187 ?_
        exact J_zret C hr rfl dL_isStep_191 (setS σ 2 u22, x27, x29) rfl (hP.act (fun d h => (h.set (Or.inr (Or.inr ⟨rfl, by omega⟩))).le (Nat.le_succ r)) (setS_4 _ _ _) hx28 hx30) rfl
  · skip
    refine J_i (y := 1) rfl ?_
    refine J_tableIn C 192 (by decide) (by decide) rfl (by decide) dL_isStep_18 ?_
    refine J_iload C rfl dL_isStep_192 ?_
    refine J_iconst C 2 (by decide) dL_isStep_194 ?_
    refine J_S0 (as := [.int w1, .int 2]) (rest := []) C NoX.b NoX.f (ct_up l G w1 2 (by omega)) 2 k247 k248 k9 k249 rfl (by decide +kernel) ⟨Nat.le_of_ble_eq_true rfl, Nat.le_of_ble_eq_true rfl⟩ ⟨Nat.le_of_ble_eq_true rfl, Nat.le_of_ble_eq_true rfl⟩ dL_isStep_195 (Nat.le_of_ble_eq_true rfl) (fun u31 hu31 => ?_)
    refine J_st (st' := [.int (nI u31)]) rfl ?_
    refine J_ws (ws' := OW G P σ x ++ OW G R σ y) rfl ?_
    rcases (show u31 = 0 ∨ u31 = 1 by omega) with rfl | rfl
    · skip
      refine J_i (y := 0) rfl ?_
      refine J_istore C [(6, .int 0), (5, .int (nI (σ 0 4))), (4, .int w1), (0, .ref P.1), (1, .ref R.1), (2, .int v), (3, .int w)] (by decide) rfl dL_isStep_198 ?_
      refine J_aload_n C rfl dL_isStep_200 ?_
      refine J_iload C rfl dL_isStep_201 ?_
      refine J_iconst C 0 (by decide) dL_isStep_203 ?_
      refine J_V1 (as := [.int 0, .int 0]) (rest := []) C NoX.b NoX.f (o_scribe0 l G P σ x 0 (hx).i) (OW G R σ y) (fun _ => OW_l2 _ _ _ _ _ _) 2 k405 k406 k407 k10 k408 rfl (by decide +kernel) ⟨Nat.le_of_ble_eq_true rfl, Nat.le_of_ble_eq_true rfl⟩ ⟨Nat.le_of_ble_eq_true rfl, Nat.le_of_ble_eq_true rfl⟩ dL_isStep_204 (Nat.le_of_ble_eq_true rfl) (OW_0 _ _ _ _) rfl (fun _ _ => ?_)
      refine J_st (st' := [.int (scrF σ 0 (0 : Int32).toInt)]) rfl ?_
      refine J_ws (ws' := OW G P σ x ++ OW G R σ y) rfl ?_
      refine J_i ((by rw [show (0 : Int32).toInt = 0 from by decide] <;> rfl) : (scrF σ 0 (0 : Int32).toInt : Int32) = (nI (σ 0 12))) ?_
      refine J_istore C [(7, .int (nI (σ 0 12))), (6, .int 0), (5, .int (nI (σ 0 4))), (4, .int w1), (0, .ref P.1), (1, .ref R.1), (2, .int v), (3, .int w)] (by decide) rfl dL_isStep_207 ?_
      refine J_iconst C 1 (by decide) dL_isStep_209 ?_
      refine J_iload_n C rfl dL_isStep_210 ?_
      refine J_bipush C 9 (by decide) dL_isStep_211 ?_
      refine J_S0 (as := [.int w, .int 9]) (rest := [.int 1]) C NoX.b NoX.f (ct_up l G w 9 (by omega)) 2 k247 k248 k9 k249 rfl (by decide +kernel) ⟨Nat.le_of_ble_eq_true rfl, Nat.le_of_ble_eq_true rfl⟩ ⟨Nat.le_of_ble_eq_true rfl, Nat.le_of_ble_eq_true rfl⟩ dL_isStep_213 (Nat.le_of_ble_eq_true rfl) (fun u32 hu32 => ?_)
      refine J_st (st' := [.int (nI u32), .int 1]) rfl ?_
      refine J_ws (ws' := OW G P σ x ++ OW G R σ y) rfl ?_
      refine J_iadd C dL_isStep_216 ?_
      refine J_i (nI_add 1 u32 : (1 + (nI u32) : Int32) = (nI (1 + u32))) ?_
      refine J_istore C [(8, .int (nI (1 + u32))), (7, .int (nI (σ 0 12))), (6, .int 0), (5, .int (nI (σ 0 4))), (4, .int w1), (0, .ref P.1), (1, .ref R.1), (2, .int v), (3, .int w)] (by decide) rfl dL_isStep_217 ?_
      by_cases he : σ 0 12 = 1 + u32
      · skip
        refine J_aload_n C rfl dL_isStep_219 ?_
        refine J_iload C rfl dL_isStep_220 ?_
        refine J_iload C rfl dL_isStep_222 ?_
        refine J_V1 (as := [.int 0, .int (nI (1 + u32))]) (rest := []) C NoX.b NoX.f (o_pace0 l G P σ x (1 + u32) (hx).i (hx).d hVx ⟨by omega, by omega⟩) (OW G R σ y) (fun _ => OW_l2 _ _ _ _ _ _) 2 k425 k426 k427 k10 k428 rfl (by decide +kernel) ⟨Nat.le_of_ble_eq_true rfl, Nat.le_of_ble_eq_true rfl⟩ ⟨Nat.le_of_ble_eq_true rfl, Nat.le_of_ble_eq_true rfl⟩ dL_isStep_224 (Nat.le_of_ble_eq_true rfl) (OW_0 _ _ _ _) rfl (fun x33 hx34 => ?_)
        refine J_st (st' := [.int (pacR σ 0 (1 + u32))]) rfl ?_
        refine J_ws (ws' := OW G P (pacS σ 0 (1 + u32)) x33 ++ OW G R σ y) rfl ?_
        have hx33 : GV (r + 1) (pacS σ 0 (1 + u32)) x33.1 := by rw [hx34.2.1]; exact hx.pac (Or.inl rfl) ⟨by omega, by omega⟩
        refine J_i ((if_pos he) : (pacR σ 0 (1 + u32) : Int32) = (-5)) ?_
        refine J_istore C [(9, .int (-5)), (8, .int (nI (1 + u32))), (7, .int (nI (σ 0 12))), (6, .int 0), (5, .int (nI (σ 0 4))), (4, .int w1), (0, .ref P.1), (1, .ref R.1), (2, .int v), (3, .int w)] (by decide) rfl dL_isStep_227 ?_
        refine J_iload C rfl dL_isStep_229 ?_
        refine J_aload_n C rfl dL_isStep_231 ?_
        refine J_iload C rfl dL_isStep_232 ?_
        refine J_iload C rfl dL_isStep_234 ?_
        refine J_V2 (as := [.int 0, .int (nI (1 + u32))]) (rest := [.int (-5)]) C NoX.b NoX.f (o_pace0 l G R σ y (1 + u32) (hy).i (hy).d hVy ⟨by omega, by omega⟩) (OW G P (pacS σ 0 (1 + u32)) x33) (fun _ => OW_l2 _ _ _ _ _ _) 2 k425 k426 k427 k10 k428 rfl (by decide +kernel) ⟨Nat.le_of_ble_eq_true rfl, Nat.le_of_ble_eq_true rfl⟩ ⟨Nat.le_of_ble_eq_true rfl, Nat.le_of_ble_eq_true rfl⟩ dL_isStep_236 (Nat.le_of_ble_eq_true rfl) (OW_0 _ _ _ _) rfl (fun x35 hx36 => ?_)
        refine J_st (st' := [.int (pacR σ 0 (1 + u32)), .int (-5)]) rfl ?_
        refine J_ws (ws' := OW G P (pacS σ 0 (1 + u32)) x33 ++ OW G R (pacS σ 0 (1 + u32)) x35) rfl ?_
        have hx35 : GV (r + 1) (pacS σ 0 (1 + u32)) x35.1 := by rw [hx36.2.1]; exact hy.pac (Or.inl rfl) ⟨by omega, by omega⟩
        refine J_i ((if_pos he) : (pacR σ 0 (1 + u32) : Int32) = (-5)) ?_
        refine J_icmp_ne C 277 (by decide) dL_isStep_239 (fun h => absurd h (by decide)) (fun _ => ?_)
        refine J_iload C rfl dL_isStep_242 ?_
        refine J_iload C rfl dL_isStep_244 ?_
        refine J_iload C rfl dL_isStep_246 ?_
        refine J_icmp_ne C 256 (by decide) dL_isStep_248 (fun h => absurd (cv_ne_t (a := (σ 0 12)) (b := (1 + u32)) (by omega) (by omega) h) (by omega)) (fun c248 => ?_)
        refine J_bipush C (-5) (by decide) dL_isStep_251 ?_
        refine J_goto C 258 (by decide) dL_isStep_253 ?_
        refine J_icmp_ne C 277 (by decide) dL_isStep_258 (fun h => absurd h (by decide)) (fun _ => ?_)
        refine J_aload_n C rfl dL_isStep_261 ?_
        refine J_iload C rfl dL_isStep_262 ?_
        refine J_iconst C 0 (by decide) dL_isStep_264 ?_
        refine J_V1 (as := [.int 0, .int 0]) (rest := []) C NoX.b NoX.f (o_scribe0 l G P (pacS σ 0 (1 + u32)) x33 0 (hx33).i) (OW G R (pacS σ 0 (1 + u32)) x35) (fun _ => OW_l2 _ _ _ _ _ _) 2 k405 k406 k407 k10 k408 rfl (by decide +kernel) ⟨Nat.le_of_ble_eq_true rfl, Nat.le_of_ble_eq_true rfl⟩ ⟨Nat.le_of_ble_eq_true rfl, Nat.le_of_ble_eq_true rfl⟩ dL_isStep_265 (Nat.le_of_ble_eq_true rfl) (OW_0 _ _ _ _) rfl (fun _ _ => ?_)
        refine J_st (st' := [.int (scrF (pacS σ 0 (1 + u32)) 0 (0 : Int32).toInt)]) rfl ?_
        refine J_ws (ws' := OW G P (pacS σ 0 (1 + u32)) x33 ++ OW G R (pacS σ 0 (1 + u32)) x35) rfl ?_
        refine J_i ((by rw [show (0 : Int32).toInt = 0 from by decide] <;> rfl) : (scrF (pacS σ 0 (1 + u32)) 0 (0 : Int32).toInt : Int32) = (nI ((pacS σ 0 (1 + u32)) 0 12))) ?_
        refine J_i ((congrArg nI (pacS_v σ 0 (1 + u32))) : (nI ((pacS σ 0 (1 + u32)) 0 12) : Int32) = (nI (1 + u32))) ?_
        refine J_iload C rfl dL_isStep_268 ?_
        refine J_icmp_ne C 277 (by decide) dL_isStep_270 (fun h => absurd (cv_ne_t (a := (1 + u32)) (b := (1 + u32)) (by omega) (by omega) h) (by omega)) (fun c270 => ?_)
        refine J_iconst C 1 (by decide) dL_isStep_273 ?_
        refine J_goto C 278 (by decide) dL_isStep_274 ?_
        exact J_zret C hr rfl dL_isStep_278 (pacS σ 0 (1 + u32), x33, x35) rfl (hP.act (fun d h => (h.pac (Or.inl rfl) ⟨by omega, by omega⟩).le (Nat.le_succ r)) (pacS_4 _ _ _ (by omega)) hx34 hx36) rfl
      · skip
        refine J_aload_n C rfl dL_isStep_219 ?_
        refine J_iload C rfl dL_isStep_220 ?_
        refine J_iload C rfl dL_isStep_222 ?_
        refine J_V1 (as := [.int 0, .int (nI (1 + u32))]) (rest := []) C NoX.b NoX.f (o_pace0 l G P σ x (1 + u32) (hx).i (hx).d hVx ⟨by omega, by omega⟩) (OW G R σ y) (fun _ => OW_l2 _ _ _ _ _ _) 2 k425 k426 k427 k10 k428 rfl (by decide +kernel) ⟨Nat.le_of_ble_eq_true rfl, Nat.le_of_ble_eq_true rfl⟩ ⟨Nat.le_of_ble_eq_true rfl, Nat.le_of_ble_eq_true rfl⟩ dL_isStep_224 (Nat.le_of_ble_eq_true rfl) (OW_0 _ _ _ _) rfl (fun x37 hx38 => ?_)
        refine J_st (st' := [.int (pacR σ 0 (1 + u32))]) rfl ?_
        refine J_ws (ws' := OW G P (pacS σ 0 (1 + u32)) x37 ++ OW G R σ y) rfl ?_
        have hx37 : GV (r + 1) (pacS σ 0 (1 + u32)) x37.1 := by rw [hx38.2.1]; exact hx.pac (Or.inl rfl) ⟨by omega, by omega⟩
        refine J_i ((if_neg he) : (pacR σ 0 (1 + u32) : Int32) = (nI (σ 0 12))) ?_
        refine J_istore C [(9, .int (nI (σ 0 12))), (8, .int (nI (1 + u32))), (7, .int (nI (σ 0 12))), (6, .int 0), (5, .int (nI (σ 0 4))), (4, .int w1), (0, .ref P.1), (1, .ref R.1), (2, .int v), (3, .int w)] (by decide) rfl dL_isStep_227 ?_
        refine J_iload C rfl dL_isStep_229 ?_
        refine J_aload_n C rfl dL_isStep_231 ?_
        refine J_iload C rfl dL_isStep_232 ?_
        refine J_iload C rfl dL_isStep_234 ?_
        refine J_V2 (as := [.int 0, .int (nI (1 + u32))]) (rest := [.int (nI (σ 0 12))]) C NoX.b NoX.f (o_pace0 l G R σ y (1 + u32) (hy).i (hy).d hVy ⟨by omega, by omega⟩) (OW G P (pacS σ 0 (1 + u32)) x37) (fun _ => OW_l2 _ _ _ _ _ _) 2 k425 k426 k427 k10 k428 rfl (by decide +kernel) ⟨Nat.le_of_ble_eq_true rfl, Nat.le_of_ble_eq_true rfl⟩ ⟨Nat.le_of_ble_eq_true rfl, Nat.le_of_ble_eq_true rfl⟩ dL_isStep_236 (Nat.le_of_ble_eq_true rfl) (OW_0 _ _ _ _) rfl (fun x39 hx40 => ?_)
        refine J_st (st' := [.int (pacR σ 0 (1 + u32)), .int (nI (σ 0 12))]) rfl ?_
        refine J_ws (ws' := OW G P (pacS σ 0 (1 + u32)) x37 ++ OW G R (pacS σ 0 (1 + u32)) x39) rfl ?_
        have hx39 : GV (r + 1) (pacS σ 0 (1 + u32)) x39.1 := by rw [hx40.2.1]; exact hy.pac (Or.inl rfl) ⟨by omega, by omega⟩
        refine J_i ((if_neg he) : (pacR σ 0 (1 + u32) : Int32) = (nI (σ 0 12))) ?_
        refine J_icmp_ne C 277 (by decide) dL_isStep_239 (fun h => absurd (cv_ne_t (a := (σ 0 12)) (b := (σ 0 12)) (by omega) (by omega) h) (by omega)) (fun c239 => ?_)
        refine J_iload C rfl dL_isStep_242 ?_
        refine J_iload C rfl dL_isStep_244 ?_
        refine J_iload C rfl dL_isStep_246 ?_
        refine J_icmp_ne C 256 (by decide) dL_isStep_248 (fun c248 => ?_) (fun h => absurd (cv_ne_f (a := (σ 0 12)) (b := (1 + u32)) (by omega) (by omega) h) (by omega))
        refine J_iload C rfl dL_isStep_256 ?_
        refine J_icmp_ne C 277 (by decide) dL_isStep_258 (fun h => absurd (cv_ne_t (a := (σ 0 12)) (b := (σ 0 12)) (by omega) (by omega) h) (by omega)) (fun c258 => ?_)
        refine J_aload_n C rfl dL_isStep_261 ?_
        refine J_iload C rfl dL_isStep_262 ?_
        refine J_iconst C 0 (by decide) dL_isStep_264 ?_
        refine J_V1 (as := [.int 0, .int 0]) (rest := []) C NoX.b NoX.f (o_scribe0 l G P (pacS σ 0 (1 + u32)) x37 0 (hx37).i) (OW G R (pacS σ 0 (1 + u32)) x39) (fun _ => OW_l2 _ _ _ _ _ _) 2 k405 k406 k407 k10 k408 rfl (by decide +kernel) ⟨Nat.le_of_ble_eq_true rfl, Nat.le_of_ble_eq_true rfl⟩ ⟨Nat.le_of_ble_eq_true rfl, Nat.le_of_ble_eq_true rfl⟩ dL_isStep_265 (Nat.le_of_ble_eq_true rfl) (OW_0 _ _ _ _) rfl (fun _ _ => ?_)
        refine J_st (st' := [.int (scrF (pacS σ 0 (1 + u32)) 0 (0 : Int32).toInt)]) rfl ?_
        refine J_ws (ws' := OW G P (pacS σ 0 (1 + u32)) x37 ++ OW G R (pacS σ 0 (1 + u32)) x39) rfl ?_
        refine J_i ((by rw [show (0 : Int32).toInt = 0 from by decide] <;> rfl) : (scrF (pacS σ 0 (1 + u32)) 0 (0 : Int32).toInt : Int32) = (nI ((pacS σ 0 (1 + u32)) 0 12))) ?_
        refine J_i ((congrArg nI (pacS_v σ 0 (1 + u32))) : (nI ((pacS σ 0 (1 + u32)) 0 12) : Int32) = (nI (1 + u32))) ?_
        refine J_iload C rfl dL_isStep_268 ?_
        refine J_icmp_ne C 277 (by decide) dL_isStep_270 (fun h => absurd (cv_ne_t (a := (1 + u32)) (b := (1 + u32)) (by omega) (by omega) h) (by omega)) (fun c270 => ?_)
        refine J_iconst C 1 (by decide) dL_isStep_273 ?_
        refine J_goto C 278 (by decide) dL_isStep_274 ?_
        exact J_zret C hr rfl dL_isStep_278 (pacS σ 0 (1 + u32), x37, x39) rfl (hP.act (fun d h => (h.pac (Or.inl rfl) ⟨by omega, by omega⟩).le (Nat.le_succ r)) (pacS_4 _ _ _ (by omega)) hx38 hx40) rfl
    · skip
      refine J_i (y := 1) rfl ?_
      refine J_istore C [(6, .int 1), (5, .int (nI (σ 0 4))), (4, .int w1), (0, .ref P.1), (1, .ref R.1), (2, .int v), (3, .int w)] (by decide) rfl dL_isStep_198 ?_
      refine J_aload_n C rfl dL_isStep_200 ?_
      refine J_iload C rfl dL_isStep_201 ?_
      refine J_iconst C 0 (by decide) dL_isStep_203 ?_
      refine J_V1 (as := [.int 1, .int 0]) (rest := []) C NoX.b NoX.f (o_scribe1 l G P σ x 0 (hx).i) (OW G R σ y) (fun _ => OW_l2 _ _ _ _ _ _) 2 k405 k406 k407 k10 k408 rfl (by decide +kernel) ⟨Nat.le_of_ble_eq_true rfl, Nat.le_of_ble_eq_true rfl⟩ ⟨Nat.le_of_ble_eq_true rfl, Nat.le_of_ble_eq_true rfl⟩ dL_isStep_204 (Nat.le_of_ble_eq_true rfl) (OW_0 _ _ _ _) rfl (fun _ _ => ?_)
      refine J_st (st' := [.int (scrF σ 1 (0 : Int32).toInt)]) rfl ?_
      refine J_ws (ws' := OW G P σ x ++ OW G R σ y) rfl ?_
      refine J_i ((by rw [show (0 : Int32).toInt = 0 from by decide] <;> rfl) : (scrF σ 1 (0 : Int32).toInt : Int32) = (nI (σ 0 13))) ?_
      refine J_istore C [(7, .int (nI (σ 0 13))), (6, .int 1), (5, .int (nI (σ 0 4))), (4, .int w1), (0, .ref P.1), (1, .ref R.1), (2, .int v), (3, .int w)] (by decide) rfl dL_isStep_207 ?_
      refine J_iconst C 1 (by decide) dL_isStep_209 ?_
      refine J_iload_n C rfl dL_isStep_210 ?_
      refine J_bipush C 9 (by decide) dL_isStep_211 ?_
      refine J_S0 (as := [.int w, .int 9]) (rest := [.int 1]) C NoX.b NoX.f (ct_up l G w 9 (by omega)) 2 k247 k248 k9 k249 rfl (by decide +kernel) ⟨Nat.le_of_ble_eq_true rfl, Nat.le_of_ble_eq_true rfl⟩ ⟨Nat.le_of_ble_eq_true rfl, Nat.le_of_ble_eq_true rfl⟩ dL_isStep_213 (Nat.le_of_ble_eq_true rfl) (fun u41 hu41 => ?_)
      refine J_st (st' := [.int (nI u41), .int 1]) rfl ?_
      refine J_ws (ws' := OW G P σ x ++ OW G R σ y) rfl ?_
      refine J_iadd C dL_isStep_216 ?_
      refine J_i (nI_add 1 u41 : (1 + (nI u41) : Int32) = (nI (1 + u41))) ?_
      refine J_istore C [(8, .int (nI (1 + u41))), (7, .int (nI (σ 0 13))), (6, .int 1), (5, .int (nI (σ 0 4))), (4, .int w1), (0, .ref P.1), (1, .ref R.1), (2, .int v), (3, .int w)] (by decide) rfl dL_isStep_217 ?_
      by_cases he : σ 0 13 = 1 + u41
      · skip
        refine J_aload_n C rfl dL_isStep_219 ?_
        refine J_iload C rfl dL_isStep_220 ?_
        refine J_iload C rfl dL_isStep_222 ?_
        refine J_V1 (as := [.int 1, .int (nI (1 + u41))]) (rest := []) C NoX.b NoX.f (o_pace1 l G P σ x (1 + u41) (hx).i (hx).d hVx ⟨by omega, by omega⟩) (OW G R σ y) (fun _ => OW_l2 _ _ _ _ _ _) 2 k425 k426 k427 k10 k428 rfl (by decide +kernel) ⟨Nat.le_of_ble_eq_true rfl, Nat.le_of_ble_eq_true rfl⟩ ⟨Nat.le_of_ble_eq_true rfl, Nat.le_of_ble_eq_true rfl⟩ dL_isStep_224 (Nat.le_of_ble_eq_true rfl) (OW_0 _ _ _ _) rfl (fun x42 hx43 => ?_)
        refine J_st (st' := [.int (pacR σ 1 (1 + u41))]) rfl ?_
        refine J_ws (ws' := OW G P (pacS σ 1 (1 + u41)) x42 ++ OW G R σ y) rfl ?_
        have hx42 : GV (r + 1) (pacS σ 1 (1 + u41)) x42.1 := by rw [hx43.2.1]; exact hx.pac (Or.inr rfl) ⟨by omega, by omega⟩
        refine J_i ((if_pos he) : (pacR σ 1 (1 + u41) : Int32) = (-5)) ?_
        refine J_istore C [(9, .int (-5)), (8, .int (nI (1 + u41))), (7, .int (nI (σ 0 13))), (6, .int 1), (5, .int (nI (σ 0 4))), (4, .int w1), (0, .ref P.1), (1, .ref R.1), (2, .int v), (3, .int w)] (by decide) rfl dL_isStep_227 ?_
        refine J_iload C rfl dL_isStep_229 ?_
        refine J_aload_n C rfl dL_isStep_231 ?_
        refine J_iload C rfl dL_isStep_232 ?_
        refine J_iload C rfl dL_isStep_234 ?_
        refine J_V2 (as := [.int 1, .int (nI (1 + u41))]) (rest := [.int (-5)]) C NoX.b NoX.f (o_pace1 l G R σ y (1 + u41) (hy).i (hy).d hVy ⟨by omega, by omega⟩) (OW G P (pacS σ 1 (1 + u41)) x42) (fun _ => OW_l2 _ _ _ _ _ _) 2 k425 k426 k427 k10 k428 rfl (by decide +kernel) ⟨Nat.le_of_ble_eq_true rfl, Nat.le_of_ble_eq_true rfl⟩ ⟨Nat.le_of_ble_eq_true rfl, Nat.le_of_ble_eq_true rfl⟩ dL_isStep_236 (Nat.le_of_ble_eq_true rfl) (OW_0 _ _ _ _) rfl (fun x44 hx45 => ?_)
        refine J_st (st' := [.int (pacR σ 1 (1 + u41)), .int (-5)]) rfl ?_
        refine J_ws (ws' := OW G P (pacS σ 1 (1 + u41)) x42 ++ OW G R (pacS σ 1 (1 + u41)) x44) rfl ?_
        have hx44 : GV (r + 1) (pacS σ 1 (1 + u41)) x44.1 := by rw [hx45.2.1]; exact hy.pac (Or.inr rfl) ⟨by omega, by omega⟩
        refine J_i ((if_pos he) : (pacR σ 1 (1 + u41) : Int32) = (-5)) ?_
        refine J_icmp_ne C 277 (by decide) dL_isStep_239 (fun h => absurd h (by decide)) (fun _ => ?_)
        refine J_iload C rfl dL_isStep_242 ?_
        refine J_iload C rfl dL_isStep_244 ?_
        refine J_iload C rfl dL_isStep_246 ?_
        refine J_icmp_ne C 256 (by decide) dL_isStep_248 (fun h => absurd (cv_ne_t (a := (σ 0 13)) (b := (1 + u41)) (by omega) (by omega) h) (by omega)) (fun c248 => ?_)
        refine J_bipush C (-5) (by decide) dL_isStep_251 ?_
        refine J_goto C 258 (by decide) dL_isStep_253 ?_
        refine J_icmp_ne C 277 (by decide) dL_isStep_258 (fun h => absurd h (by decide)) (fun _ => ?_)
        refine J_aload_n C rfl dL_isStep_261 ?_
        refine J_iload C rfl dL_isStep_262 ?_
        refine J_iconst C 0 (by decide) dL_isStep_264 ?_
        refine J_V1 (as := [.int 1, .int 0]) (rest := []) C NoX.b NoX.f (o_scribe1 l G P (pacS σ 1 (1 + u41)) x42 0 (hx42).i) (OW G R (pacS σ 1 (1 + u41)) x44) (fun _ => OW_l2 _ _ _ _ _ _) 2 k405 k406 k407 k10 k408 rfl (by decide +kernel) ⟨Nat.le_of_ble_eq_true rfl, Nat.le_of_ble_eq_true rfl⟩ ⟨Nat.le_of_ble_eq_true rfl, Nat.le_of_ble_eq_true rfl⟩ dL_isStep_265 (Nat.le_of_ble_eq_true rfl) (OW_0 _ _ _ _) rfl (fun _ _ => ?_)
        refine J_st (st' := [.int (scrF (pacS σ 1 (1 + u41)) 1 (0 : Int32).toInt)]) rfl ?_
        refine J_ws (ws' := OW G P (pacS σ 1 (1 + u41)) x42 ++ OW G R (pacS σ 1 (1 + u41)) x44) rfl ?_
        refine J_i ((by rw [show (0 : Int32).toInt = 0 from by decide] <;> rfl) : (scrF (pacS σ 1 (1 + u41)) 1 (0 : Int32).toInt : Int32) = (nI ((pacS σ 1 (1 + u41)) 0 13))) ?_
        refine J_i ((congrArg nI (pacS_v σ 1 (1 + u41))) : (nI ((pacS σ 1 (1 + u41)) 0 13) : Int32) = (nI (1 + u41))) ?_
        refine J_iload C rfl dL_isStep_268 ?_
        refine J_icmp_ne C 277 (by decide) dL_isStep_270 (fun h => absurd (cv_ne_t (a := (1 + u41)) (b := (1 + u41)) (by omega) (by omega) h) (by omega)) (fun c270 => ?_)
        refine J_iconst C 1 (by decide) dL_isStep_273 ?_
        refine J_goto C 278 (by decide) dL_isStep_274 ?_
        exact J_zret C hr rfl dL_isStep_278 (pacS σ 1 (1 + u41), x42, x44) rfl (hP.act (fun d h => (h.pac (Or.inr rfl) ⟨by omega, by omega⟩).le (Nat.le_succ r)) (pacS_4 _ _ _ (by omega)) hx43 hx45) rfl
      · skip
        refine J_aload_n C rfl dL_isStep_219 ?_
        refine J_iload C rfl dL_isStep_220 ?_
        refine J_iload C rfl dL_isStep_222 ?_
        refine J_V1 (as := [.int 1, .int (nI (1 + u41))]) (rest := []) C NoX.b NoX.f (o_pace1 l G P σ x (1 + u41) (hx).i (hx).d hVx ⟨by omega, by omega⟩) (OW G R σ y) (fun _ => OW_l2 _ _ _ _ _ _) 2 k425 k426 k427 k10 k428 rfl (by decide +kernel) ⟨Nat.le_of_ble_eq_true rfl, Nat.le_of_ble_eq_true rfl⟩ ⟨Nat.le_of_ble_eq_true rfl, Nat.le_of_ble_eq_true rfl⟩ dL_isStep_224 (Nat.le_of_ble_eq_true rfl) (OW_0 _ _ _ _) rfl (fun x46 hx47 => ?_)
        refine J_st (st' := [.int (pacR σ 1 (1 + u41))]) rfl ?_
        refine J_ws (ws' := OW G P (pacS σ 1 (1 + u41)) x46 ++ OW G R σ y) rfl ?_
        have hx46 : GV (r + 1) (pacS σ 1 (1 + u41)) x46.1 := by rw [hx47.2.1]; exact hx.pac (Or.inr rfl) ⟨by omega, by omega⟩
        refine J_i ((if_neg he) : (pacR σ 1 (1 + u41) : Int32) = (nI (σ 0 13))) ?_
        refine J_istore C [(9, .int (nI (σ 0 13))), (8, .int (nI (1 + u41))), (7, .int (nI (σ 0 13))), (6, .int 1), (5, .int (nI (σ 0 4))), (4, .int w1), (0, .ref P.1), (1, .ref R.1), (2, .int v), (3, .int w)] (by decide) rfl dL_isStep_227 ?_
        refine J_iload C rfl dL_isStep_229 ?_
        refine J_aload_n C rfl dL_isStep_231 ?_
        refine J_iload C rfl dL_isStep_232 ?_
        refine J_iload C rfl dL_isStep_234 ?_
        refine J_V2 (as := [.int 1, .int (nI (1 + u41))]) (rest := [.int (nI (σ 0 13))]) C NoX.b NoX.f (o_pace1 l G R σ y (1 + u41) (hy).i (hy).d hVy ⟨by omega, by omega⟩) (OW G P (pacS σ 1 (1 + u41)) x46) (fun _ => OW_l2 _ _ _ _ _ _) 2 k425 k426 k427 k10 k428 rfl (by decide +kernel) ⟨Nat.le_of_ble_eq_true rfl, Nat.le_of_ble_eq_true rfl⟩ ⟨Nat.le_of_ble_eq_true rfl, Nat.le_of_ble_eq_true rfl⟩ dL_isStep_236 (Nat.le_of_ble_eq_true rfl) (OW_0 _ _ _ _) rfl (fun x48 hx49 => ?_)
        refine J_st (st' := [.int (pacR σ 1 (1 + u41)), .int (nI (σ 0 13))]) rfl ?_
        refine J_ws (ws' := OW G P (pacS σ 1 (1 + u41)) x46 ++ OW G R (pacS σ 1 (1 + u41)) x48) rfl ?_
        have hx48 : GV (r + 1) (pacS σ 1 (1 + u41)) x48.1 := by rw [hx49.2.1]; exact hy.pac (Or.inr rfl) ⟨by omega, by omega⟩
        refine J_i ((if_neg he) : (pacR σ 1 (1 + u41) : Int32) = (nI (σ 0 13))) ?_
        refine J_icmp_ne C 277 (by decide) dL_isStep_239 (fun h => absurd (cv_ne_t (a := (σ 0 13)) (b := (σ 0 13)) (by omega) (by omega) h) (by omega)) (fun c239 => ?_)
        refine J_iload C rfl dL_isStep_242 ?_
        refine J_iload C rfl dL_isStep_244 ?_
        refine J_iload C rfl dL_isStep_246 ?_
        refine J_icmp_ne C 256 (by decide) dL_isStep_248 (fun c248 => ?_) (fun h => absurd (cv_ne_f (a := (σ 0 13)) (b := (1 + u41)) (by omega) (by omega) h) (by omega))
        refine J_iload C rfl dL_isStep_256 ?_
        refine J_icmp_ne C 277 (by decide) dL_isStep_258 (fun h => absurd (cv_ne_t (a := (σ 0 13)) (b := (σ 0 13)) (by omega) (by omega) h) (by omega)) (fun c258 => ?_)
        refine J_aload_n C rfl dL_isStep_261 ?_
        refine J_iload C rfl dL_isStep_262 ?_
        refine J_iconst C 0 (by decide) dL_isStep_264 ?_
        refine J_V1 (as := [.int 1, .int 0]) (rest := []) C NoX.b NoX.f (o_scribe1 l G P (pacS σ 1 (1 + u41)) x46 0 (hx46).i) (OW G R (pacS σ 1 (1 + u41)) x48) (fun _ => OW_l2 _ _ _ _ _ _) 2 k405 k406 k407 k10 k408 rfl (by decide +kernel) ⟨Nat.le_of_ble_eq_true rfl, Nat.le_of_ble_eq_true rfl⟩ ⟨Nat.le_of_ble_eq_true rfl, Nat.le_of_ble_eq_true rfl⟩ dL_isStep_265 (Nat.le_of_ble_eq_true rfl) (OW_0 _ _ _ _) rfl (fun _ _ => ?_)
        refine J_st (st' := [.int (scrF (pacS σ 1 (1 + u41)) 1 (0 : Int32).toInt)]) rfl ?_
        refine J_ws (ws' := OW G P (pacS σ 1 (1 + u41)) x46 ++ OW G R (pacS σ 1 (1 + u41)) x48) rfl ?_
        refine J_i ((by rw [show (0 : Int32).toInt = 0 from by decide] <;> rfl) : (scrF (pacS σ 1 (1 + u41)) 1 (0 : Int32).toInt : Int32) = (nI ((pacS σ 1 (1 + u41)) 0 13))) ?_
        refine J_i ((congrArg nI (pacS_v σ 1 (1 + u41))) : (nI ((pacS σ 1 (1 + u41)) 0 13) : Int32) = (nI (1 + u41))) ?_
        refine J_iload C rfl dL_isStep_268 ?_
        refine J_icmp_ne C 277 (by decide) dL_isStep_270 (fun h => absurd (cv_ne_t (a := (1 + u41)) (b := (1 + u41)) (by omega) (by omega) h) (by omega)) (fun c270 => ?_)
        refine J_iconst C 1 (by decide) dL_isStep_273 ?_
        refine J_goto C 278 (by decide) dL_isStep_274 ?_
        exact J_zret C hr rfl dL_isStep_278 (pacS σ 1 (1 + u41), x46, x48) rfl (hP.act (fun d h => (h.pac (Or.inr rfl) ⟨by omega, by omega⟩).le (Nat.le_succ r)) (pacS_4 _ _ _ (by omega)) hx47 hx49) rfl
  · skip
    refine J_i (y := 2) rfl ?_
    refine J_tableIn C 279 (by decide) (by decide) rfl (by decide) dL_isStep_18 ?_
    refine J_iconst C 1 (by decide) dL_isStep_279 ?_
    refine J_iload_n C rfl dL_isStep_280 ?_
    refine J_iload C rfl dL_isStep_281 ?_
    refine J_iconst C 3 (by decide) dL_isStep_283 ?_
    refine J_S0 (as := [.int w1, .int 3]) (rest := [.int w, .int 1]) C NoX.b NoX.f (ct_up l G w1 3 (by omega)) 2 k247 k248 k9 k249 rfl (by decide +kernel) ⟨Nat.le_of_ble_eq_true rfl, Nat.le_of_ble_eq_true rfl⟩ ⟨Nat.le_of_ble_eq_true rfl, Nat.le_of_ble_eq_true rfl⟩ dL_isStep_284 (Nat.le_of_ble_eq_true rfl) (fun u50 hu50 => ?_)
    refine J_st (st' := [.int (nI u50), .int w, .int 1]) rfl ?_
    refine J_ws (ws' := OW G P σ x ++ OW G R σ y) rfl ?_
    refine J_merge 297 [.int (nI (if u50 = 0 then 80 else 6)), .int w, .int 1] [(5, .int (nI (σ 0 4))), (4, .int w1), (0, .ref P.1), (1, .ref R.1), (2, .int v), (3, .int w)] (fun hm => ?_) ?_
    · skip
      refine J_if_ne C 295 (by decide) dL_isStep_287 (fun c287 => ?_) (fun c287 => ?_)
      · skip
        have c287 := cv_ne_t (a := u50) (b := 0) (by omega) (by omega) c287
        refine J_bipush C 6 (by decide) dL_isStep_295 ?_
        refine J_i (show (6 : Int32) = (nI (if u50 = 0 then 80 else 6)) from by rw [if_neg (by omega)] <;> rfl) ?_
        exact hm
      · skip
        have c287 := cv_ne_f (a := u50) (b := 0) (by omega) (by omega) c287
        refine J_bipush C 80 (by decide) dL_isStep_290 ?_
        refine J_goto C 297 (by decide) dL_isStep_292 ?_
        refine J_i (show (80 : Int32) = (nI (if u50 = 0 then 80 else 6)) from by rw [if_pos (by omega)] <;> rfl) ?_
        exact hm
    · skip
      have hn6 : 0 < (if u50 = 0 then 80 else 6) ∧ (if u50 = 0 then 80 else 6) ≤ 80 := by split <;> omega
      refine J_S0 (as := [.int w, .int (nI (if u50 = 0 then 80 else 6))]) (rest := [.int 1]) C NoX.b NoX.f (ct_up l G w (if u50 = 0 then 80 else 6) ⟨hn6.1, by omega⟩) 2 k247 k248 k9 k249 rfl (by decide +kernel) ⟨Nat.le_of_ble_eq_true rfl, Nat.le_of_ble_eq_true rfl⟩ ⟨Nat.le_of_ble_eq_true rfl, Nat.le_of_ble_eq_true rfl⟩ dL_isStep_297 (Nat.le_of_ble_eq_true rfl) (fun u6 hu6 => ?_)
      refine J_st (st' := [.int (nI u6), .int 1]) rfl ?_
      refine J_ws (ws' := OW G P σ x ++ OW G R σ y) rfl ?_
      refine J_iadd C dL_isStep_300 ?_
      refine J_i (nI_add 1 u6 : (1 + (nI u6) : Int32) = (nI (1 + u6))) ?_
      have hT : 1 ≤ 1 + u6 ∧ 1 + u6 ≤ 80 := by omega
      generalize 1 + u6 = T at hT ⊢
      refine J_istore C [(6, .int (nI T)), (5, .int (nI (σ 0 4))), (4, .int w1), (0, .ref P.1), (1, .ref R.1), (2, .int v), (3, .int w)] (by decide) rfl dL_isStep_301 ?_
      refine J_aload_n C rfl dL_isStep_303 ?_
      refine J_bipush C 8 (by decide) dL_isStep_304 ?_
      refine J_V1 (as := [.int 8]) (rest := []) C NoX.b NoX.f (o_count l G P σ x 8 (hx).i (hx).d) (OW G R σ y) (fun _ => OW_l2 _ _ _ _ _ _) 1 k382 k383 k384 k10 k385 rfl (by decide +kernel) ⟨Nat.le_of_ble_eq_true rfl, Nat.le_of_ble_eq_true rfl⟩ ⟨Nat.le_of_ble_eq_true rfl, Nat.le_of_ble_eq_true rfl⟩ dL_isStep_306 (Nat.le_of_ble_eq_true rfl) (OW_0 _ _ _ _) rfl (fun _ _ => ?_)
      refine J_st (st' := [.int (cntF σ x.2.2.2.1.2.2.2 x.2.2.2.2.1.2 (8 : Int32).toInt)]) rfl ?_
      refine J_ws (ws' := OW G P σ x ++ OW G R σ y) rfl ?_
      refine J_i ((by rw [show (8 : Int32).toInt = 8 from by decide] <;> rfl) : (cntF σ x.2.2.2.1.2.2.2 x.2.2.2.2.1.2 (8 : Int32).toInt : Int32) = (nI (σ 0 11))) ?_
      refine J_istore C [(7, .int (nI (σ 0 11))), (6, .int (nI T)), (5, .int (nI (σ 0 4))), (4, .int w1), (0, .ref P.1), (1, .ref R.1), (2, .int v), (3, .int w)] (by decide) rfl dL_isStep_309 ?_
      refine J_aload_n C rfl dL_isStep_311 ?_
      refine J_iload C rfl dL_isStep_312 ?_
      refine J_V1 (as := [.int (nI T)]) (rest := []) C NoX.b NoX.f (o_pour l G P σ x T (hx).i (hx).d hVx hT (by omega)) (OW G R σ y) (fun _ => OW_l2 _ _ _ _ _ _) 1 k429 k430 k431 k10 k432 rfl (by decide +kernel) ⟨Nat.le_of_ble_eq_true rfl, Nat.le_of_ble_eq_true rfl⟩ ⟨Nat.le_of_ble_eq_true rfl, Nat.le_of_ble_eq_true rfl⟩ dL_isStep_314 (Nat.le_of_ble_eq_true rfl) (OW_0 _ _ _ _) rfl (fun x51 hx52 => ?_)
      refine J_st (st' := [.int (nI (σ 0 11 + T))]) rfl ?_
      refine J_ws (ws' := OW G P (pourF σ T) x51 ++ OW G R σ y) rfl ?_
      refine J_iload C rfl dL_isStep_317 ?_
      refine J_iload C rfl dL_isStep_319 ?_
      refine J_iadd C dL_isStep_321 ?_
      refine J_i (nI_add (σ 0 11) T : ((nI (σ 0 11)) + (nI T) : Int32) = (nI (σ 0 11 + T))) ?_
      refine J_icmp_ne C 343 (by decide) dL_isStep_322 (fun h => absurd (cv_ne_t (a := (σ 0 11 + T)) (b := (σ 0 11 + T)) (by omega) (by omega) h) (by omega)) (fun c322 => ?_)
      refine J_aload_n C rfl dL_isStep_325 ?_
      refine J_iload C rfl dL_isStep_326 ?_
      refine J_V2 (as := [.int (nI T)]) (rest := []) C NoX.b NoX.f (o_pour l G R σ y T (hy).i (hy).d hVy hT (by omega)) (OW G P (pourF σ T) x51) (fun _ => OW_l2 _ _ _ _ _ _) 1 k429 k430 k431 k10 k432 rfl (by decide +kernel) ⟨Nat.le_of_ble_eq_true rfl, Nat.le_of_ble_eq_true rfl⟩ ⟨Nat.le_of_ble_eq_true rfl, Nat.le_of_ble_eq_true rfl⟩ dL_isStep_328 (Nat.le_of_ble_eq_true rfl) (OW_0 _ _ _ _) rfl (fun x53 hx54 => ?_)
      refine J_st (st' := [.int (nI (σ 0 11 + T))]) rfl ?_
      refine J_ws (ws' := OW G P (pourF σ T) x51 ++ OW G R (pourF σ T) x53) rfl ?_
      refine J_iload C rfl dL_isStep_331 ?_
      refine J_iload C rfl dL_isStep_333 ?_
      refine J_iadd C dL_isStep_335 ?_
      refine J_i (nI_add (σ 0 11) T : ((nI (σ 0 11)) + (nI T) : Int32) = (nI (σ 0 11 + T))) ?_
      refine J_icmp_ne C 343 (by decide) dL_isStep_336 (fun h => absurd (cv_ne_t (a := (σ 0 11 + T)) (b := (σ 0 11 + T)) (by omega) (by omega) h) (by omega)) (fun c336 => ?_)
      refine J_iconst C 1 (by decide) dL_isStep_339 ?_
      refine J_goto C 344 (by decide) dL_isStep_340 ?_
      exact J_zret C hr rfl dL_isStep_344 (pourF σ T, x51, x53) rfl (hP.act (fun d h => h.pour hT.2) rfl hx52 hx54) rfl
  · skip
    refine J_i (y := 3) rfl ?_
    refine J_tableIn C 279 (by decide) (by decide) rfl (by decide) dL_isStep_18 ?_
    refine J_iconst C 1 (by decide) dL_isStep_279 ?_
    refine J_iload_n C rfl dL_isStep_280 ?_
    refine J_iload C rfl dL_isStep_281 ?_
    refine J_iconst C 3 (by decide) dL_isStep_283 ?_
    refine J_S0 (as := [.int w1, .int 3]) (rest := [.int w, .int 1]) C NoX.b NoX.f (ct_up l G w1 3 (by omega)) 2 k247 k248 k9 k249 rfl (by decide +kernel) ⟨Nat.le_of_ble_eq_true rfl, Nat.le_of_ble_eq_true rfl⟩ ⟨Nat.le_of_ble_eq_true rfl, Nat.le_of_ble_eq_true rfl⟩ dL_isStep_284 (Nat.le_of_ble_eq_true rfl) (fun u55 hu55 => ?_)
    refine J_st (st' := [.int (nI u55), .int w, .int 1]) rfl ?_
    refine J_ws (ws' := OW G P σ x ++ OW G R σ y) rfl ?_
    refine J_merge 297 [.int (nI (if u55 = 0 then 80 else 6)), .int w, .int 1] [(5, .int (nI (σ 0 4))), (4, .int w1), (0, .ref P.1), (1, .ref R.1), (2, .int v), (3, .int w)] (fun hm => ?_) ?_
    · skip
      refine J_if_ne C 295 (by decide) dL_isStep_287 (fun c287 => ?_) (fun c287 => ?_)
      · skip
        have c287 := cv_ne_t (a := u55) (b := 0) (by omega) (by omega) c287
        refine J_bipush C 6 (by decide) dL_isStep_295 ?_
        refine J_i (show (6 : Int32) = (nI (if u55 = 0 then 80 else 6)) from by rw [if_neg (by omega)] <;> rfl) ?_
        exact hm
      · skip
        have c287 := cv_ne_f (a := u55) (b := 0) (by omega) (by omega) c287
        refine J_bipush C 80 (by decide) dL_isStep_290 ?_
        refine J_goto C 297 (by decide) dL_isStep_292 ?_
        refine J_i (show (80 : Int32) = (nI (if u55 = 0 then 80 else 6)) from by rw [if_pos (by omega)] <;> rfl) ?_
        exact hm
    · skip
      have hn6 : 0 < (if u55 = 0 then 80 else 6) ∧ (if u55 = 0 then 80 else 6) ≤ 80 := by split <;> omega
      refine J_S0 (as := [.int w, .int (nI (if u55 = 0 then 80 else 6))]) (rest := [.int 1]) C NoX.b NoX.f (ct_up l G w (if u55 = 0 then 80 else 6) ⟨hn6.1, by omega⟩) 2 k247 k248 k9 k249 rfl (by decide +kernel) ⟨Nat.le_of_ble_eq_true rfl, Nat.le_of_ble_eq_true rfl⟩ ⟨Nat.le_of_ble_eq_true rfl, Nat.le_of_ble_eq_true rfl⟩ dL_isStep_297 (Nat.le_of_ble_eq_true rfl) (fun u6 hu6 => ?_)
      refine J_st (st' := [.int (nI u6), .int 1]) rfl ?_
      refine J_ws (ws' := OW G P σ x ++ OW G R σ y) rfl ?_
      refine J_iadd C dL_isStep_300 ?_
      refine J_i (nI_add 1 u6 : (1 + (nI u6) : Int32) = (nI (1 + u6))) ?_
      have hT : 1 ≤ 1 + u6 ∧ 1 + u6 ≤ 80 := by omega
      generalize 1 + u6 = T at hT ⊢
      refine J_istore C [(6, .int (nI T)), (5, .int (nI (σ 0 4))), (4, .int w1), (0, .ref P.1), (1, .ref R.1), (2, .int v), (3, .int w)] (by decide) rfl dL_isStep_301 ?_
      refine J_aload_n C rfl dL_isStep_303 ?_
      refine J_bipush C 8 (by decide) dL_isStep_304 ?_
      refine J_V1 (as := [.int 8]) (rest := []) C NoX.b NoX.f (o_count l G P σ x 8 (hx).i (hx).d) (OW G R σ y) (fun _ => OW_l2 _ _ _ _ _ _) 1 k382 k383 k384 k10 k385 rfl (by decide +kernel) ⟨Nat.le_of_ble_eq_true rfl, Nat.le_of_ble_eq_true rfl⟩ ⟨Nat.le_of_ble_eq_true rfl, Nat.le_of_ble_eq_true rfl⟩ dL_isStep_306 (Nat.le_of_ble_eq_true rfl) (OW_0 _ _ _ _) rfl (fun _ _ => ?_)
      refine J_st (st' := [.int (cntF σ x.2.2.2.1.2.2.2 x.2.2.2.2.1.2 (8 : Int32).toInt)]) rfl ?_
      refine J_ws (ws' := OW G P σ x ++ OW G R σ y) rfl ?_
      refine J_i ((by rw [show (8 : Int32).toInt = 8 from by decide] <;> rfl) : (cntF σ x.2.2.2.1.2.2.2 x.2.2.2.2.1.2 (8 : Int32).toInt : Int32) = (nI (σ 0 11))) ?_
      refine J_istore C [(7, .int (nI (σ 0 11))), (6, .int (nI T)), (5, .int (nI (σ 0 4))), (4, .int w1), (0, .ref P.1), (1, .ref R.1), (2, .int v), (3, .int w)] (by decide) rfl dL_isStep_309 ?_
      refine J_aload_n C rfl dL_isStep_311 ?_
      refine J_iload C rfl dL_isStep_312 ?_
      refine J_V1 (as := [.int (nI T)]) (rest := []) C NoX.b NoX.f (o_pour l G P σ x T (hx).i (hx).d hVx hT (by omega)) (OW G R σ y) (fun _ => OW_l2 _ _ _ _ _ _) 1 k429 k430 k431 k10 k432 rfl (by decide +kernel) ⟨Nat.le_of_ble_eq_true rfl, Nat.le_of_ble_eq_true rfl⟩ ⟨Nat.le_of_ble_eq_true rfl, Nat.le_of_ble_eq_true rfl⟩ dL_isStep_314 (Nat.le_of_ble_eq_true rfl) (OW_0 _ _ _ _) rfl (fun x56 hx57 => ?_)
      refine J_st (st' := [.int (nI (σ 0 11 + T))]) rfl ?_
      refine J_ws (ws' := OW G P (pourF σ T) x56 ++ OW G R σ y) rfl ?_
      refine J_iload C rfl dL_isStep_317 ?_
      refine J_iload C rfl dL_isStep_319 ?_
      refine J_iadd C dL_isStep_321 ?_
      refine J_i (nI_add (σ 0 11) T : ((nI (σ 0 11)) + (nI T) : Int32) = (nI (σ 0 11 + T))) ?_
      refine J_icmp_ne C 343 (by decide) dL_isStep_322 (fun h => absurd (cv_ne_t (a := (σ 0 11 + T)) (b := (σ 0 11 + T)) (by omega) (by omega) h) (by omega)) (fun c322 => ?_)
      refine J_aload_n C rfl dL_isStep_325 ?_
      refine J_iload C rfl dL_isStep_326 ?_
      refine J_V2 (as := [.int (nI T)]) (rest := []) C NoX.b NoX.f (o_pour l G R σ y T (hy).i (hy).d hVy hT (by omega)) (OW G P (pourF σ T) x56) (fun _ => OW_l2 _ _ _ _ _ _) 1 k429 k430 k431 k10 k432 rfl (by decide +kernel) ⟨Nat.le_of_ble_eq_true rfl, Nat.le_of_ble_eq_true rfl⟩ ⟨Nat.le_of_ble_eq_true rfl, Nat.le_of_ble_eq_true rfl⟩ dL_isStep_328 (Nat.le_of_ble_eq_true rfl) (OW_0 _ _ _ _) rfl (fun x58 hx59 => ?_)
      refine J_st (st' := [.int (nI (σ 0 11 + T))]) rfl ?_
      refine J_ws (ws' := OW G P (pourF σ T) x56 ++ OW G R (pourF σ T) x58) rfl ?_
      refine J_iload C rfl dL_isStep_331 ?_
      refine J_iload C rfl dL_isStep_333 ?_
      refine J_iadd C dL_isStep_335 ?_
      refine J_i (nI_add (σ 0 11) T : ((nI (σ 0 11)) + (nI T) : Int32) = (nI (σ 0 11 + T))) ?_
      refine J_icmp_ne C 343 (by decide) dL_isStep_336 (fun h => absurd (cv_ne_t (a := (σ 0 11 + T)) (b := (σ 0 11 + T)) (by omega) (by omega) h) (by omega)) (fun c336 => ?_)
      refine J_iconst C 1 (by decide) dL_isStep_339 ?_
      refine J_goto C 344 (by decide) dL_isStep_340 ?_
      exact J_zret C hr rfl dL_isStep_344 (pourF σ T, x56, x58) rfl (hP.act (fun d h => h.pour hT.2) rfl hx57 hx59) rfl
  · skip
    refine J_i (y := 4) rfl ?_
    refine J_tableIn C 345 (by decide) (by decide) rfl (by decide) dL_isStep_18 ?_
    refine J_iload C rfl dL_isStep_345 ?_
    refine J_if_ne C 354 (by decide) dL_isStep_347 (fun c347 => ?_) (fun h => absurd (cv_ne_f (a := (σ 0 4)) (b := 0) (by omega) (by omega) h) (by omega))
    refine J_iload C rfl dL_isStep_354 ?_
    refine J_iload C rfl dL_isStep_356 ?_
    refine J_S0 (as := [.int w1, .int (nI (σ 0 4))]) (rest := []) C NoX.b NoX.f (ct_up l G w1 (σ 0 4) (by omega)) 2 k247 k248 k9 k249 rfl (by decide +kernel) ⟨Nat.le_of_ble_eq_true rfl, Nat.le_of_ble_eq_true rfl⟩ ⟨Nat.le_of_ble_eq_true rfl, Nat.le_of_ble_eq_true rfl⟩ dL_isStep_358 (Nat.le_of_ble_eq_true rfl) (fun u60 hu60 => ?_)
    refine J_st (st' := [.int (nI u60)]) rfl ?_
    refine J_ws (ws' := OW G P σ x ++ OW G R σ y) rfl ?_
    refine J_istore C [(6, .int (nI u60)), (5, .int (nI (σ 0 4))), (4, .int w1), (0, .ref P.1), (1, .ref R.1), (2, .int v), (3, .int w)] (by decide) rfl dL_isStep_361 ?_
    refine J_iload_n C rfl dL_isStep_363 ?_
    refine J_bipush C 27 (by decide) dL_isStep_364 ?_
    refine J_S0 (as := [.int w, .int 27]) (rest := []) C NoX.b NoX.f (ct_up l G w 27 (by omega)) 2 k247 k248 k9 k249 rfl (by decide +kernel) ⟨Nat.le_of_ble_eq_true rfl, Nat.le_of_ble_eq_true rfl⟩ ⟨Nat.le_of_ble_eq_true rfl, Nat.le_of_ble_eq_true rfl⟩ dL_isStep_366 (Nat.le_of_ble_eq_true rfl) (fun u61 hu61 => ?_)
    refine J_st (st' := [.int (nI u61)]) rfl ?_
    refine J_ws (ws' := OW G P σ x ++ OW G R σ y) rfl ?_
    refine J_istore C [(7, .int (nI u61)), (6, .int (nI u60)), (5, .int (nI (σ 0 4))), (4, .int w1), (0, .ref P.1), (1, .ref R.1), (2, .int v), (3, .int w)] (by decide) rfl dL_isStep_369 ?_
    by_cases hbg : begunP σ u60
    · skip
      refine J_aload_n C rfl dL_isStep_371 ?_
      refine J_iload C rfl dL_isStep_372 ?_
      by_cases hw : 0 < σ 3 u60
      · skip
        refine J_iconst C 0 (by decide) dL_isStep_374 ?_
        refine J_V1 (as := [.int (nI u60), .int 0]) (rest := []) C NoX.b NoX.f (o_place l G P σ x u60 0 (hx).i (hx).d (by omega)) (OW G R σ y) (fun _ => OW_l2 _ _ _ _ _ _) 2 k434 k435 k436 k10 k437 rfl (by decide +kernel) ⟨Nat.le_of_ble_eq_true rfl, Nat.le_of_ble_eq_true rfl⟩ ⟨Nat.le_of_ble_eq_true rfl, Nat.le_of_ble_eq_true rfl⟩ dL_isStep_375 (Nat.le_of_ble_eq_true rfl) (OW_0 _ _ _ _) rfl (fun _ _ => ?_)
        refine J_st (st' := [.int (plF σ u60 (0 : Int32).toInt)]) rfl ?_
        refine J_ws (ws' := OW G P σ x ++ OW G R σ y) rfl ?_
        refine J_i ((by rw [show (0 : Int32).toInt = 0 from by decide] <;> rfl) : (plF σ u60 (0 : Int32).toInt : Int32) = (nI (dueAt σ u60))) ?_
        refine J_istore C [(8, .int (nI (dueAt σ u60))), (7, .int (nI u61)), (6, .int (nI u60)), (5, .int (nI (σ 0 4))), (4, .int w1), (0, .ref P.1), (1, .ref R.1), (2, .int v), (3, .int w)] (by decide) rfl dL_isStep_378 ?_
        have hdu := hx.i.due (p := u60) (by omega)
        have hlt := hx.i.let (p := u60) (by omega)
        have hqj := hx.i.q (q := u60) (by omega)
        refine J_aload_n C rfl dL_isStep_380 ?_
        refine J_iload C rfl dL_isStep_381 ?_
        refine J_iconst C 4 (by decide) dL_isStep_383 ?_
        refine J_V1 (as := [.int (nI u60), .int 4]) (rest := []) C NoX.b NoX.f (o_place l G P σ x u60 4 (hx).i (hx).d (by omega)) (OW G R σ y) (fun _ => OW_l2 _ _ _ _ _ _) 2 k434 k435 k436 k10 k437 rfl (by decide +kernel) ⟨Nat.le_of_ble_eq_true rfl, Nat.le_of_ble_eq_true rfl⟩ ⟨Nat.le_of_ble_eq_true rfl, Nat.le_of_ble_eq_true rfl⟩ dL_isStep_384 (Nat.le_of_ble_eq_true rfl) (OW_0 _ _ _ _) rfl (fun _ _ => ?_)
        refine J_st (st' := [.int (plF σ u60 (4 : Int32).toInt)]) rfl ?_
        refine J_ws (ws' := OW G P σ x ++ OW G R σ y) rfl ?_
        refine J_i ((by rw [show (4 : Int32).toInt = 4 from by decide] <;> rfl) : (plF σ u60 (4 : Int32).toInt : Int32) = (nI (σ 2 u60))) ?_
        refine J_istore C [(9, .int (nI (σ 2 u60))), (8, .int (nI (dueAt σ u60))), (7, .int (nI u61)), (6, .int (nI u60)), (5, .int (nI (σ 0 4))), (4, .int w1), (0, .ref P.1), (1, .ref R.1), (2, .int v), (3, .int w)] (by decide) rfl dL_isStep_387 ?_
        refine J_aload_n C rfl dL_isStep_389 ?_
        refine J_iload C rfl dL_isStep_390 ?_
        refine J_iconst C 1 (by decide) dL_isStep_392 ?_
        refine J_V1 (as := [.int (nI u60), .int 1]) (rest := []) C NoX.b NoX.f (o_place l G P σ x u60 1 (hx).i (hx).d (by omega)) (OW G R σ y) (fun _ => OW_l2 _ _ _ _ _ _) 2 k434 k435 k436 k10 k437 rfl (by decide +kernel) ⟨Nat.le_of_ble_eq_true rfl, Nat.le_of_ble_eq_true rfl⟩ ⟨Nat.le_of_ble_eq_true rfl, Nat.le_of_ble_eq_true rfl⟩ dL_isStep_393 (Nat.le_of_ble_eq_true rfl) (OW_0 _ _ _ _) rfl (fun _ _ => ?_)
        refine J_st (st' := [.int (plF σ u60 (1 : Int32).toInt)]) rfl ?_
        refine J_ws (ws' := OW G P σ x ++ OW G R σ y) rfl ?_
        refine J_i ((by rw [show (1 : Int32).toInt = 1 from by decide] <;> rfl) : (plF σ u60 (1 : Int32).toInt : Int32) = (nI (σ 3 u60))) ?_
        refine J_if_le C 403 (by decide) dL_isStep_396 (fun h => absurd (cv_le_t (a := (σ 3 u60)) (b := 0) (by omega) (by omega) h) (by omega)) (fun c396 => ?_)
        refine J_iconst C 1 (by decide) dL_isStep_399 ?_
        refine J_goto C 404 (by decide) dL_isStep_400 ?_
        refine J_istore C [(10, .int 1), (9, .int (nI (σ 2 u60))), (8, .int (nI (dueAt σ u60))), (7, .int (nI u61)), (6, .int (nI u60)), (5, .int (nI (σ 0 4))), (4, .int w1), (0, .ref P.1), (1, .ref R.1), (2, .int v), (3, .int w)] (by decide) rfl dL_isStep_404 ?_
        refine J_aload_n C rfl dL_isStep_406 ?_
        refine J_iload C rfl dL_isStep_407 ?_
        refine J_iload C rfl dL_isStep_409 ?_
        refine J_V1 (as := [.int (nI u60), .int (nI u61)]) (rest := []) C NoX.b NoX.f (o_mis l G P σ x u60 u61 (hx).i (hx).d hVx (by omega) (by omega)) (OW G R σ y) (fun _ => OW_l2 _ _ _ _ _ _) 2 k351 k352 k353 k10 k354 rfl (by decide +kernel) ⟨Nat.le_of_ble_eq_true rfl, Nat.le_of_ble_eq_true rfl⟩ ⟨Nat.le_of_ble_eq_true rfl, Nat.le_of_ble_eq_true rfl⟩ dL_isStep_411 (Nat.le_of_ble_eq_true rfl) (OW_0 _ _ _ _) rfl (fun x62 hx63 => ?_)
        refine J_st (st' := [.int (misR σ u60 u61)]) rfl ?_
        refine J_ws (ws' := OW G P (misS σ u60 u61) x62 ++ OW G R σ y) rfl ?_
        have hx62 : GV (r + 1) (misS σ u60 u61) x62.1 := by rw [hx63.2.1]; exact hx.mis (by omega)
        refine J_i ((if_pos hbg) : (misR σ u60 u61 : Int32) = (-4)) ?_
        refine J_istore C [(11, .int (-4)), (10, .int 1), (9, .int (nI (σ 2 u60))), (8, .int (nI (dueAt σ u60))), (7, .int (nI u61)), (6, .int (nI u60)), (5, .int (nI (σ 0 4))), (4, .int w1), (0, .ref P.1), (1, .ref R.1), (2, .int v), (3, .int w)] (by decide) rfl dL_isStep_414 ?_
        refine J_iload C rfl dL_isStep_416 ?_
        refine J_aload_n C rfl dL_isStep_418 ?_
        refine J_iload C rfl dL_isStep_419 ?_
        refine J_iload C rfl dL_isStep_421 ?_
        refine J_V2 (as := [.int (nI u60), .int (nI u61)]) (rest := [.int (-4)]) C NoX.b NoX.f (o_mis l G R σ y u60 u61 (hy).i (hy).d hVy (by omega) (by omega)) (OW G P (misS σ u60 u61) x62) (fun _ => OW_l2 _ _ _ _ _ _) 2 k351 k352 k353 k10 k354 rfl (by decide +kernel) ⟨Nat.le_of_ble_eq_true rfl, Nat.le_of_ble_eq_true rfl⟩ ⟨Nat.le_of_ble_eq_true rfl, Nat.le_of_ble_eq_true rfl⟩ dL_isStep_423 (Nat.le_of_ble_eq_true rfl) (OW_0 _ _ _ _) rfl (fun x64 hx65 => ?_)
        refine J_st (st' := [.int (misR σ u60 u61), .int (-4)]) rfl ?_
        refine J_ws (ws' := OW G P (misS σ u60 u61) x62 ++ OW G R (misS σ u60 u61) x64) rfl ?_
        have hx64 : GV (r + 1) (misS σ u60 u61) x64.1 := by rw [hx65.2.1]; exact hy.mis (by omega)
        refine J_i ((if_pos hbg) : (misR σ u60 u61 : Int32) = (-4)) ?_
        refine J_icmp_ne C 513 (by decide) dL_isStep_426 (fun h => absurd h (by decide)) (fun _ => ?_)
        refine J_iload C rfl dL_isStep_429 ?_
        refine J_if_ne C 443 (by decide) dL_isStep_431 (fun c431 => ?_) (fun h => absurd (cv_ne_f (a := (σ 0 4)) (b := 0) (by omega) (by omega) h) (by omega))
        refine J_iload C rfl dL_isStep_443 ?_
        refine J_if_eq C 458 (by decide) dL_isStep_445 (fun h => absurd h (by decide)) (fun _ => ?_)
        refine J_iload C rfl dL_isStep_448 ?_
        refine J_bipush C (-4) (by decide) dL_isStep_450 ?_
        refine J_icmp_ne C 513 (by decide) dL_isStep_452 (fun h => absurd h (by decide)) (fun _ => ?_)
        refine J_goto C 509 (by decide) dL_isStep_455 ?_
        refine J_iconst C 1 (by decide) dL_isStep_509 ?_
        refine J_goto C 514 (by decide) dL_isStep_510 ?_
        exact J_zret C hr rfl dL_isStep_514 (misS σ u60 u61, x62, x64) rfl (hP.act (fun d h => (h.mis (by omega)).le (Nat.le_succ r)) (misS_4 _ _ _) hx63 hx65) rfl
      · skip
        refine J_iconst C 0 (by decide) dL_isStep_374 ?_
        refine J_V1 (as := [.int (nI u60), .int 0]) (rest := []) C NoX.b NoX.f (o_place l G P σ x u60 0 (hx).i (hx).d (by omega)) (OW G R σ y) (fun _ => OW_l2 _ _ _ _ _ _) 2 k434 k435 k436 k10 k437 rfl (by decide +kernel) ⟨Nat.le_of_ble_eq_true rfl, Nat.le_of_ble_eq_true rfl⟩ ⟨Nat.le_of_ble_eq_true rfl, Nat.le_of_ble_eq_true rfl⟩ dL_isStep_375 (Nat.le_of_ble_eq_true rfl) (OW_0 _ _ _ _) rfl (fun _ _ => ?_)
        refine J_st (st' := [.int (plF σ u60 (0 : Int32).toInt)]) rfl ?_
        refine J_ws (ws' := OW G P σ x ++ OW G R σ y) rfl ?_
        refine J_i ((by rw [show (0 : Int32).toInt = 0 from by decide] <;> rfl) : (plF σ u60 (0 : Int32).toInt : Int32) = (nI (dueAt σ u60))) ?_
        refine J_istore C [(8, .int (nI (dueAt σ u60))), (7, .int (nI u61)), (6, .int (nI u60)), (5, .int (nI (σ 0 4))), (4, .int w1), (0, .ref P.1), (1, .ref R.1), (2, .int v), (3, .int w)] (by decide) rfl dL_isStep_378 ?_
        have hdu := hx.i.due (p := u60) (by omega)
        have hlt := hx.i.let (p := u60) (by omega)
        have hqj := hx.i.q (q := u60) (by omega)
        refine J_aload_n C rfl dL_isStep_380 ?_
        refine J_iload C rfl dL_isStep_381 ?_
        refine J_iconst C 4 (by decide) dL_isStep_383 ?_
        refine J_V1 (as := [.int (nI u60), .int 4]) (rest := []) C NoX.b NoX.f (o_place l G P σ x u60 4 (hx).i (hx).d (by omega)) (OW G R σ y) (fun _ => OW_l2 _ _ _ _ _ _) 2 k434 k435 k436 k10 k437 rfl (by decide +kernel) ⟨Nat.le_of_ble_eq_true rfl, Nat.le_of_ble_eq_true rfl⟩ ⟨Nat.le_of_ble_eq_true rfl, Nat.le_of_ble_eq_true rfl⟩ dL_isStep_384 (Nat.le_of_ble_eq_true rfl) (OW_0 _ _ _ _) rfl (fun _ _ => ?_)
        refine J_st (st' := [.int (plF σ u60 (4 : Int32).toInt)]) rfl ?_
        refine J_ws (ws' := OW G P σ x ++ OW G R σ y) rfl ?_
        refine J_i ((by rw [show (4 : Int32).toInt = 4 from by decide] <;> rfl) : (plF σ u60 (4 : Int32).toInt : Int32) = (nI (σ 2 u60))) ?_
        refine J_istore C [(9, .int (nI (σ 2 u60))), (8, .int (nI (dueAt σ u60))), (7, .int (nI u61)), (6, .int (nI u60)), (5, .int (nI (σ 0 4))), (4, .int w1), (0, .ref P.1), (1, .ref R.1), (2, .int v), (3, .int w)] (by decide) rfl dL_isStep_387 ?_
        refine J_aload_n C rfl dL_isStep_389 ?_
        refine J_iload C rfl dL_isStep_390 ?_
        refine J_iconst C 1 (by decide) dL_isStep_392 ?_
        refine J_V1 (as := [.int (nI u60), .int 1]) (rest := []) C NoX.b NoX.f (o_place l G P σ x u60 1 (hx).i (hx).d (by omega)) (OW G R σ y) (fun _ => OW_l2 _ _ _ _ _ _) 2 k434 k435 k436 k10 k437 rfl (by decide +kernel) ⟨Nat.le_of_ble_eq_true rfl, Nat.le_of_ble_eq_true rfl⟩ ⟨Nat.le_of_ble_eq_true rfl, Nat.le_of_ble_eq_true rfl⟩ dL_isStep_393 (Nat.le_of_ble_eq_true rfl) (OW_0 _ _ _ _) rfl (fun _ _ => ?_)
        refine J_st (st' := [.int (plF σ u60 (1 : Int32).toInt)]) rfl ?_
        refine J_ws (ws' := OW G P σ x ++ OW G R σ y) rfl ?_
        refine J_i ((by rw [show (1 : Int32).toInt = 1 from by decide] <;> rfl) : (plF σ u60 (1 : Int32).toInt : Int32) = (nI (σ 3 u60))) ?_
        refine J_if_le C 403 (by decide) dL_isStep_396 (fun c396 => ?_) (fun h => absurd (cv_le_f (a := (σ 3 u60)) (b := 0) (by omega) (by omega) h) (by omega))
        refine J_iconst C 0 (by decide) dL_isStep_403 ?_
        refine J_istore C [(10, .int 0), (9, .int (nI (σ 2 u60))), (8, .int (nI (dueAt σ u60))), (7, .int (nI u61)), (6, .int (nI u60)), (5, .int (nI (σ 0 4))), (4, .int w1), (0, .ref P.1), (1, .ref R.1), (2, .int v), (3, .int w)] (by decide) rfl dL_isStep_404 ?_
        refine J_aload_n C rfl dL_isStep_406 ?_
        refine J_iload C rfl dL_isStep_407 ?_
        refine J_iload C rfl dL_isStep_409 ?_
        refine J_V1 (as := [.int (nI u60), .int (nI u61)]) (rest := []) C NoX.b NoX.f (o_mis l G P σ x u60 u61 (hx).i (hx).d hVx (by omega) (by omega)) (OW G R σ y) (fun _ => OW_l2 _ _ _ _ _ _) 2 k351 k352 k353 k10 k354 rfl (by decide +kernel) ⟨Nat.le_of_ble_eq_true rfl, Nat.le_of_ble_eq_true rfl⟩ ⟨Nat.le_of_ble_eq_true rfl, Nat.le_of_ble_eq_true rfl⟩ dL_isStep_411 (Nat.le_of_ble_eq_true rfl) (OW_0 _ _ _ _) rfl (fun x66 hx67 => ?_)
        refine J_st (st' := [.int (misR σ u60 u61)]) rfl ?_
        refine J_ws (ws' := OW G P (misS σ u60 u61) x66 ++ OW G R σ y) rfl ?_
        have hx66 : GV (r + 1) (misS σ u60 u61) x66.1 := by rw [hx67.2.1]; exact hx.mis (by omega)
        refine J_i ((if_pos hbg) : (misR σ u60 u61 : Int32) = (-4)) ?_
        refine J_istore C [(11, .int (-4)), (10, .int 0), (9, .int (nI (σ 2 u60))), (8, .int (nI (dueAt σ u60))), (7, .int (nI u61)), (6, .int (nI u60)), (5, .int (nI (σ 0 4))), (4, .int w1), (0, .ref P.1), (1, .ref R.1), (2, .int v), (3, .int w)] (by decide) rfl dL_isStep_414 ?_
        refine J_iload C rfl dL_isStep_416 ?_
        refine J_aload_n C rfl dL_isStep_418 ?_
        refine J_iload C rfl dL_isStep_419 ?_
        refine J_iload C rfl dL_isStep_421 ?_
        refine J_V2 (as := [.int (nI u60), .int (nI u61)]) (rest := [.int (-4)]) C NoX.b NoX.f (o_mis l G R σ y u60 u61 (hy).i (hy).d hVy (by omega) (by omega)) (OW G P (misS σ u60 u61) x66) (fun _ => OW_l2 _ _ _ _ _ _) 2 k351 k352 k353 k10 k354 rfl (by decide +kernel) ⟨Nat.le_of_ble_eq_true rfl, Nat.le_of_ble_eq_true rfl⟩ ⟨Nat.le_of_ble_eq_true rfl, Nat.le_of_ble_eq_true rfl⟩ dL_isStep_423 (Nat.le_of_ble_eq_true rfl) (OW_0 _ _ _ _) rfl (fun x68 hx69 => ?_)
        refine J_st (st' := [.int (misR σ u60 u61), .int (-4)]) rfl ?_
        refine J_ws (ws' := OW G P (misS σ u60 u61) x66 ++ OW G R (misS σ u60 u61) x68) rfl ?_
        have hx68 : GV (r + 1) (misS σ u60 u61) x68.1 := by rw [hx69.2.1]; exact hy.mis (by omega)
        refine J_i ((if_pos hbg) : (misR σ u60 u61 : Int32) = (-4)) ?_
        refine J_icmp_ne C 513 (by decide) dL_isStep_426 (fun h => absurd h (by decide)) (fun _ => ?_)
        refine J_iload C rfl dL_isStep_429 ?_
        refine J_if_ne C 443 (by decide) dL_isStep_431 (fun c431 => ?_) (fun h => absurd (cv_ne_f (a := (σ 0 4)) (b := 0) (by omega) (by omega) h) (by omega))
        refine J_iload C rfl dL_isStep_443 ?_
        refine J_if_eq C 458 (by decide) dL_isStep_445 (fun _ => ?_) (fun h => absurd h (by decide))
        refine J_iload C rfl dL_isStep_458 ?_
        refine J_if_ge C 480 (by decide) dL_isStep_460 (fun h => absurd h (by decide)) (fun _ => ?_)
        refine J_iload C rfl dL_isStep_463 ?_
        refine J_bipush C (-4) (by decide) dL_isStep_465 ?_
        refine J_icmp_eq C 509 (by decide) dL_isStep_467 (fun _ => ?_) (fun h => absurd h (by decide))
        refine J_iconst C 1 (by decide) dL_isStep_509 ?_
        refine J_goto C 514 (by decide) dL_isStep_510 ?_
        exact J_zret C hr rfl dL_isStep_514 (misS σ u60 u61, x66, x68) rfl (hP.act (fun d h => (h.mis (by omega)).le (Nat.le_succ r)) (misS_4 _ _ _) hx67 hx69) rfl
    · skip
      refine J_aload_n C rfl dL_isStep_371 ?_
      refine J_iload C rfl dL_isStep_372 ?_
      have hw : ¬ 0 < σ 3 u60 := fun q => hbg (Or.inl q)
      by_cases he : σ 2 u60 = u61
      · skip
        refine J_iconst C 0 (by decide) dL_isStep_374 ?_
        refine J_V1 (as := [.int (nI u60), .int 0]) (rest := []) C NoX.b NoX.f (o_place l G P σ x u60 0 (hx).i (hx).d (by omega)) (OW G R σ y) (fun _ => OW_l2 _ _ _ _ _ _) 2 k434 k435 k436 k10 k437 rfl (by decide +kernel) ⟨Nat.le_of_ble_eq_true rfl, Nat.le_of_ble_eq_true rfl⟩ ⟨Nat.le_of_ble_eq_true rfl, Nat.le_of_ble_eq_true rfl⟩ dL_isStep_375 (Nat.le_of_ble_eq_true rfl) (OW_0 _ _ _ _) rfl (fun _ _ => ?_)
        refine J_st (st' := [.int (plF σ u60 (0 : Int32).toInt)]) rfl ?_
        refine J_ws (ws' := OW G P σ x ++ OW G R σ y) rfl ?_
        refine J_i ((by rw [show (0 : Int32).toInt = 0 from by decide] <;> rfl) : (plF σ u60 (0 : Int32).toInt : Int32) = (nI (dueAt σ u60))) ?_
        refine J_istore C [(8, .int (nI (dueAt σ u60))), (7, .int (nI u61)), (6, .int (nI u60)), (5, .int (nI (σ 0 4))), (4, .int w1), (0, .ref P.1), (1, .ref R.1), (2, .int v), (3, .int w)] (by decide) rfl dL_isStep_378 ?_
        have hdu := hx.i.due (p := u60) (by omega)
        have hlt := hx.i.let (p := u60) (by omega)
        have hqj := hx.i.q (q := u60) (by omega)
        refine J_aload_n C rfl dL_isStep_380 ?_
        refine J_iload C rfl dL_isStep_381 ?_
        refine J_iconst C 4 (by decide) dL_isStep_383 ?_
        refine J_V1 (as := [.int (nI u60), .int 4]) (rest := []) C NoX.b NoX.f (o_place l G P σ x u60 4 (hx).i (hx).d (by omega)) (OW G R σ y) (fun _ => OW_l2 _ _ _ _ _ _) 2 k434 k435 k436 k10 k437 rfl (by decide +kernel) ⟨Nat.le_of_ble_eq_true rfl, Nat.le_of_ble_eq_true rfl⟩ ⟨Nat.le_of_ble_eq_true rfl, Nat.le_of_ble_eq_true rfl⟩ dL_isStep_384 (Nat.le_of_ble_eq_true rfl) (OW_0 _ _ _ _) rfl (fun _ _ => ?_)
        refine J_st (st' := [.int (plF σ u60 (4 : Int32).toInt)]) rfl ?_
        refine J_ws (ws' := OW G P σ x ++ OW G R σ y) rfl ?_
        refine J_i ((by rw [show (4 : Int32).toInt = 4 from by decide] <;> rfl) : (plF σ u60 (4 : Int32).toInt : Int32) = (nI (σ 2 u60))) ?_
        refine J_istore C [(9, .int (nI (σ 2 u60))), (8, .int (nI (dueAt σ u60))), (7, .int (nI u61)), (6, .int (nI u60)), (5, .int (nI (σ 0 4))), (4, .int w1), (0, .ref P.1), (1, .ref R.1), (2, .int v), (3, .int w)] (by decide) rfl dL_isStep_387 ?_
        refine J_aload_n C rfl dL_isStep_389 ?_
        refine J_iload C rfl dL_isStep_390 ?_
        refine J_iconst C 1 (by decide) dL_isStep_392 ?_
        refine J_V1 (as := [.int (nI u60), .int 1]) (rest := []) C NoX.b NoX.f (o_place l G P σ x u60 1 (hx).i (hx).d (by omega)) (OW G R σ y) (fun _ => OW_l2 _ _ _ _ _ _) 2 k434 k435 k436 k10 k437 rfl (by decide +kernel) ⟨Nat.le_of_ble_eq_true rfl, Nat.le_of_ble_eq_true rfl⟩ ⟨Nat.le_of_ble_eq_true rfl, Nat.le_of_ble_eq_true rfl⟩ dL_isStep_393 (Nat.le_of_ble_eq_true rfl) (OW_0 _ _ _ _) rfl (fun _ _ => ?_)
        refine J_st (st' := [.int (plF σ u60 (1 : Int32).toInt)]) rfl ?_
        refine J_ws (ws' := OW G P σ x ++ OW G R σ y) rfl ?_
        refine J_i ((by rw [show (1 : Int32).toInt = 1 from by decide] <;> rfl) : (plF σ u60 (1 : Int32).toInt : Int32) = (nI (σ 3 u60))) ?_
        refine J_if_le C 403 (by decide) dL_isStep_396 (fun c396 => ?_) (fun h => absurd (cv_le_f (a := (σ 3 u60)) (b := 0) (by omega) (by omega) h) (by omega))
        refine J_iconst C 0 (by decide) dL_isStep_403 ?_
        refine J_istore C [(10, .int 0), (9, .int (nI (σ 2 u60))), (8, .int (nI (dueAt σ u60))), (7, .int (nI u61)), (6, .int (nI u60)), (5, .int (nI (σ 0 4))), (4, .int w1), (0, .ref P.1), (1, .ref R.1), (2, .int v), (3, .int w)] (by decide) rfl dL_isStep_404 ?_
        refine J_aload_n C rfl dL_isStep_406 ?_
        refine J_iload C rfl dL_isStep_407 ?_
        refine J_iload C rfl dL_isStep_409 ?_
        refine J_V1 (as := [.int (nI u60), .int (nI u61)]) (rest := []) C NoX.b NoX.f (o_mis l G P σ x u60 u61 (hx).i (hx).d hVx (by omega) (by omega)) (OW G R σ y) (fun _ => OW_l2 _ _ _ _ _ _) 2 k351 k352 k353 k10 k354 rfl (by decide +kernel) ⟨Nat.le_of_ble_eq_true rfl, Nat.le_of_ble_eq_true rfl⟩ ⟨Nat.le_of_ble_eq_true rfl, Nat.le_of_ble_eq_true rfl⟩ dL_isStep_411 (Nat.le_of_ble_eq_true rfl) (OW_0 _ _ _ _) rfl (fun x70 hx71 => ?_)
        refine J_st (st' := [.int (misR σ u60 u61)]) rfl ?_
        refine J_ws (ws' := OW G P (misS σ u60 u61) x70 ++ OW G R σ y) rfl ?_
        have hx70 : GV (r + 1) (misS σ u60 u61) x70.1 := by rw [hx71.2.1]; exact hx.mis (by omega)
        refine J_i (((if_neg hbg).trans (if_pos he)) : (misR σ u60 u61 : Int32) = (-5)) ?_
        refine J_istore C [(11, .int (-5)), (10, .int 0), (9, .int (nI (σ 2 u60))), (8, .int (nI (dueAt σ u60))), (7, .int (nI u61)), (6, .int (nI u60)), (5, .int (nI (σ 0 4))), (4, .int w1), (0, .ref P.1), (1, .ref R.1), (2, .int v), (3, .int w)] (by decide) rfl dL_isStep_414 ?_
        refine J_iload C rfl dL_isStep_416 ?_
        refine J_aload_n C rfl dL_isStep_418 ?_
        refine J_iload C rfl dL_isStep_419 ?_
        refine J_iload C rfl dL_isStep_421 ?_
        refine J_V2 (as := [.int (nI u60), .int (nI u61)]) (rest := [.int (-5)]) C NoX.b NoX.f (o_mis l G R σ y u60 u61 (hy).i (hy).d hVy (by omega) (by omega)) (OW G P (misS σ u60 u61) x70) (fun _ => OW_l2 _ _ _ _ _ _) 2 k351 k352 k353 k10 k354 rfl (by decide +kernel) ⟨Nat.le_of_ble_eq_true rfl, Nat.le_of_ble_eq_true rfl⟩ ⟨Nat.le_of_ble_eq_true rfl, Nat.le_of_ble_eq_true rfl⟩ dL_isStep_423 (Nat.le_of_ble_eq_true rfl) (OW_0 _ _ _ _) rfl (fun x72 hx73 => ?_)
        refine J_st (st' := [.int (misR σ u60 u61), .int (-5)]) rfl ?_
        refine J_ws (ws' := OW G P (misS σ u60 u61) x70 ++ OW G R (misS σ u60 u61) x72) rfl ?_
        have hx72 : GV (r + 1) (misS σ u60 u61) x72.1 := by rw [hx73.2.1]; exact hy.mis (by omega)
        refine J_i (((if_neg hbg).trans (if_pos he)) : (misR σ u60 u61 : Int32) = (-5)) ?_
        refine J_icmp_ne C 513 (by decide) dL_isStep_426 (fun h => absurd h (by decide)) (fun _ => ?_)
        refine J_iload C rfl dL_isStep_429 ?_
        refine J_if_ne C 443 (by decide) dL_isStep_431 (fun c431 => ?_) (fun h => absurd (cv_ne_f (a := (σ 0 4)) (b := 0) (by omega) (by omega) h) (by omega))
        refine J_iload C rfl dL_isStep_443 ?_
        refine J_if_eq C 458 (by decide) dL_isStep_445 (fun _ => ?_) (fun h => absurd h (by decide))
        refine J_iload C rfl dL_isStep_458 ?_
        refine J_if_ge C 480 (by decide) dL_isStep_460 (fun h => absurd h (by decide)) (fun _ => ?_)
        refine J_iload C rfl dL_isStep_463 ?_
        refine J_bipush C (-4) (by decide) dL_isStep_465 ?_
        refine J_icmp_eq C 509 (by decide) dL_isStep_467 (fun h => absurd h (by decide)) (fun _ => ?_)
        refine J_iload C rfl dL_isStep_470 ?_
        refine J_iload C rfl dL_isStep_472 ?_
        refine J_icmp_ne C 513 (by decide) dL_isStep_474 (fun h => absurd (cv_ne_t (a := (σ 2 u60)) (b := u61) (by omega) (by omega) h) (by omega)) (fun c474 => ?_)
        refine J_goto C 509 (by decide) dL_isStep_477 ?_
        refine J_iconst C 1 (by decide) dL_isStep_509 ?_
        refine J_goto C 514 (by decide) dL_isStep_510 ?_
        exact J_zret C hr rfl dL_isStep_514 (misS σ u60 u61, x70, x72) rfl (hP.act (fun d h => (h.mis (by omega)).le (Nat.le_succ r)) (misS_4 _ _ _) hx71 hx73) rfl
      · skip
        refine J_iconst C 0 (by decide) dL_isStep_374 ?_
        refine J_V1 (as := [.int (nI u60), .int 0]) (rest := []) C NoX.b NoX.f (o_place l G P σ x u60 0 (hx).i (hx).d (by omega)) (OW G R σ y) (fun _ => OW_l2 _ _ _ _ _ _) 2 k434 k435 k436 k10 k437 rfl (by decide +kernel) ⟨Nat.le_of_ble_eq_true rfl, Nat.le_of_ble_eq_true rfl⟩ ⟨Nat.le_of_ble_eq_true rfl, Nat.le_of_ble_eq_true rfl⟩ dL_isStep_375 (Nat.le_of_ble_eq_true rfl) (OW_0 _ _ _ _) rfl (fun _ _ => ?_)
        refine J_st (st' := [.int (plF σ u60 (0 : Int32).toInt)]) rfl ?_
        refine J_ws (ws' := OW G P σ x ++ OW G R σ y) rfl ?_
        refine J_i ((by rw [show (0 : Int32).toInt = 0 from by decide] <;> rfl) : (plF σ u60 (0 : Int32).toInt : Int32) = (nI (dueAt σ u60))) ?_
        refine J_istore C [(8, .int (nI (dueAt σ u60))), (7, .int (nI u61)), (6, .int (nI u60)), (5, .int (nI (σ 0 4))), (4, .int w1), (0, .ref P.1), (1, .ref R.1), (2, .int v), (3, .int w)] (by decide) rfl dL_isStep_378 ?_
        have hdu := hx.i.due (p := u60) (by omega)
        have hlt := hx.i.let (p := u60) (by omega)
        have hqj := hx.i.q (q := u60) (by omega)
        refine J_aload_n C rfl dL_isStep_380 ?_
        refine J_iload C rfl dL_isStep_381 ?_
        refine J_iconst C 4 (by decide) dL_isStep_383 ?_
        refine J_V1 (as := [.int (nI u60), .int 4]) (rest := []) C NoX.b NoX.f (o_place l G P σ x u60 4 (hx).i (hx).d (by omega)) (OW G R σ y) (fun _ => OW_l2 _ _ _ _ _ _) 2 k434 k435 k436 k10 k437 rfl (by decide +kernel) ⟨Nat.le_of_ble_eq_true rfl, Nat.le_of_ble_eq_true rfl⟩ ⟨Nat.le_of_ble_eq_true rfl, Nat.le_of_ble_eq_true rfl⟩ dL_isStep_384 (Nat.le_of_ble_eq_true rfl) (OW_0 _ _ _ _) rfl (fun _ _ => ?_)
        refine J_st (st' := [.int (plF σ u60 (4 : Int32).toInt)]) rfl ?_
        refine J_ws (ws' := OW G P σ x ++ OW G R σ y) rfl ?_
        refine J_i ((by rw [show (4 : Int32).toInt = 4 from by decide] <;> rfl) : (plF σ u60 (4 : Int32).toInt : Int32) = (nI (σ 2 u60))) ?_
        refine J_istore C [(9, .int (nI (σ 2 u60))), (8, .int (nI (dueAt σ u60))), (7, .int (nI u61)), (6, .int (nI u60)), (5, .int (nI (σ 0 4))), (4, .int w1), (0, .ref P.1), (1, .ref R.1), (2, .int v), (3, .int w)] (by decide) rfl dL_isStep_387 ?_
        refine J_aload_n C rfl dL_isStep_389 ?_
        refine J_iload C rfl dL_isStep_390 ?_
        refine J_iconst C 1 (by decide) dL_isStep_392 ?_
        refine J_V1 (as := [.int (nI u60), .int 1]) (rest := []) C NoX.b NoX.f (o_place l G P σ x u60 1 (hx).i (hx).d (by omega)) (OW G R σ y) (fun _ => OW_l2 _ _ _ _ _ _) 2 k434 k435 k436 k10 k437 rfl (by decide +kernel) ⟨Nat.le_of_ble_eq_true rfl, Nat.le_of_ble_eq_true rfl⟩ ⟨Nat.le_of_ble_eq_true rfl, Nat.le_of_ble_eq_true rfl⟩ dL_isStep_393 (Nat.le_of_ble_eq_true rfl) (OW_0 _ _ _ _) rfl (fun _ _ => ?_)
        refine J_st (st' := [.int (plF σ u60 (1 : Int32).toInt)]) rfl ?_
        refine J_ws (ws' := OW G P σ x ++ OW G R σ y) rfl ?_
        refine J_i ((by rw [show (1 : Int32).toInt = 1 from by decide] <;> rfl) : (plF σ u60 (1 : Int32).toInt : Int32) = (nI (σ 3 u60))) ?_
        refine J_if_le C 403 (by decide) dL_isStep_396 (fun c396 => ?_) (fun h => absurd (cv_le_f (a := (σ 3 u60)) (b := 0) (by omega) (by omega) h) (by omega))
        refine J_iconst C 0 (by decide) dL_isStep_403 ?_
        refine J_istore C [(10, .int 0), (9, .int (nI (σ 2 u60))), (8, .int (nI (dueAt σ u60))), (7, .int (nI u61)), (6, .int (nI u60)), (5, .int (nI (σ 0 4))), (4, .int w1), (0, .ref P.1), (1, .ref R.1), (2, .int v), (3, .int w)] (by decide) rfl dL_isStep_404 ?_
        refine J_aload_n C rfl dL_isStep_406 ?_
        refine J_iload C rfl dL_isStep_407 ?_
        refine J_iload C rfl dL_isStep_409 ?_
        refine J_V1 (as := [.int (nI u60), .int (nI u61)]) (rest := []) C NoX.b NoX.f (o_mis l G P σ x u60 u61 (hx).i (hx).d hVx (by omega) (by omega)) (OW G R σ y) (fun _ => OW_l2 _ _ _ _ _ _) 2 k351 k352 k353 k10 k354 rfl (by decide +kernel) ⟨Nat.le_of_ble_eq_true rfl, Nat.le_of_ble_eq_true rfl⟩ ⟨Nat.le_of_ble_eq_true rfl, Nat.le_of_ble_eq_true rfl⟩ dL_isStep_411 (Nat.le_of_ble_eq_true rfl) (OW_0 _ _ _ _) rfl (fun x74 hx75 => ?_)
        refine J_st (st' := [.int (misR σ u60 u61)]) rfl ?_
        refine J_ws (ws' := OW G P (misS σ u60 u61) x74 ++ OW G R σ y) rfl ?_
        have hx74 : GV (r + 1) (misS σ u60 u61) x74.1 := by rw [hx75.2.1]; exact hx.mis (by omega)
        refine J_i (((if_neg hbg).trans (if_neg he)) : (misR σ u60 u61 : Int32) = (nI (letAt σ u60))) ?_
        refine J_istore C [(11, .int (nI (letAt σ u60))), (10, .int 0), (9, .int (nI (σ 2 u60))), (8, .int (nI (dueAt σ u60))), (7, .int (nI u61)), (6, .int (nI u60)), (5, .int (nI (σ 0 4))), (4, .int w1), (0, .ref P.1), (1, .ref R.1), (2, .int v), (3, .int w)] (by decide) rfl dL_isStep_414 ?_
        refine J_iload C rfl dL_isStep_416 ?_
        refine J_aload_n C rfl dL_isStep_418 ?_
        refine J_iload C rfl dL_isStep_419 ?_
        refine J_iload C rfl dL_isStep_421 ?_
        refine J_V2 (as := [.int (nI u60), .int (nI u61)]) (rest := [.int (nI (letAt σ u60))]) C NoX.b NoX.f (o_mis l G R σ y u60 u61 (hy).i (hy).d hVy (by omega) (by omega)) (OW G P (misS σ u60 u61) x74) (fun _ => OW_l2 _ _ _ _ _ _) 2 k351 k352 k353 k10 k354 rfl (by decide +kernel) ⟨Nat.le_of_ble_eq_true rfl, Nat.le_of_ble_eq_true rfl⟩ ⟨Nat.le_of_ble_eq_true rfl, Nat.le_of_ble_eq_true rfl⟩ dL_isStep_423 (Nat.le_of_ble_eq_true rfl) (OW_0 _ _ _ _) rfl (fun x76 hx77 => ?_)
        refine J_st (st' := [.int (misR σ u60 u61), .int (nI (letAt σ u60))]) rfl ?_
        refine J_ws (ws' := OW G P (misS σ u60 u61) x74 ++ OW G R (misS σ u60 u61) x76) rfl ?_
        have hx76 : GV (r + 1) (misS σ u60 u61) x76.1 := by rw [hx77.2.1]; exact hy.mis (by omega)
        refine J_i (((if_neg hbg).trans (if_neg he)) : (misR σ u60 u61 : Int32) = (nI (letAt σ u60))) ?_
        refine J_icmp_ne C 513 (by decide) dL_isStep_426 (fun h => absurd (cv_ne_t (a := (letAt σ u60)) (b := (letAt σ u60)) (by omega) (by omega) h) (by omega)) (fun c426 => ?_)
        refine J_iload C rfl dL_isStep_429 ?_
        refine J_if_ne C 443 (by decide) dL_isStep_431 (fun c431 => ?_) (fun h => absurd (cv_ne_f (a := (σ 0 4)) (b := 0) (by omega) (by omega) h) (by omega))
        refine J_iload C rfl dL_isStep_443 ?_
        refine J_if_eq C 458 (by decide) dL_isStep_445 (fun _ => ?_) (fun h => absurd h (by decide))
        refine J_iload C rfl dL_isStep_458 ?_
        refine J_if_ge C 480 (by decide) dL_isStep_460 (fun _ => ?_) (fun h => absurd h (fun q => q (nI_pos' (by omega))))
        refine J_iload C rfl dL_isStep_480 ?_
        refine J_iload C rfl dL_isStep_482 ?_
        refine J_if_ne C 492 (by decide) dL_isStep_484 (fun c484 => ?_) (fun c484 => ?_)
        · skip
          have c484 := cv_ne_t (a := (σ 2 u60)) (b := 0) (by omega) (by omega) c484
          have hl9 := letAt_y (σ := σ) (j := u60) c484
          refine J_iload C rfl dL_isStep_492 ?_
          refine J_icmp_ne C 513 (by decide) dL_isStep_494 (fun h => absurd (cv_ne_t (a := (letAt σ u60)) (b := (σ 2 u60)) (by omega) (by omega) h) (by omega)) (fun c494 => ?_)
          refine J_aload_n C rfl dL_isStep_497 ?_
          refine J_iload C rfl dL_isStep_498 ?_
          refine J_iconst C 4 (by decide) dL_isStep_500 ?_
          refine J_V1 (as := [.int (nI u60), .int 4]) (rest := []) C NoX.b NoX.f (o_place l G P (misS σ u60 u61) x74 u60 4 (hx74).i (hx74).d (by rw [misS_4]; omega)) (OW G R (misS σ u60 u61) x76) (fun _ => OW_l2 _ _ _ _ _ _) 2 k434 k435 k436 k10 k437 rfl (by decide +kernel) ⟨Nat.le_of_ble_eq_true rfl, Nat.le_of_ble_eq_true rfl⟩ ⟨Nat.le_of_ble_eq_true rfl, Nat.le_of_ble_eq_true rfl⟩ dL_isStep_501 (Nat.le_of_ble_eq_true rfl) (OW_0 _ _ _ _) rfl (fun _ _ => ?_)
          refine J_st (st' := [.int (plF (misS σ u60 u61) u60 (4 : Int32).toInt)]) rfl ?_
          refine J_ws (ws' := OW G P (misS σ u60 u61) x74 ++ OW G R (misS σ u60 u61) x76) rfl ?_
          refine J_i ((by rw [show (4 : Int32).toInt = 4 from by decide] <;> rfl) : (plF (misS σ u60 u61) u60 (4 : Int32).toInt : Int32) = (nI ((misS σ u60 u61) 2 u60))) ?_
          refine J_i ((congrArg nI (misS_2 hbg)) : (nI ((misS σ u60 u61) 2 u60) : Int32) = (nI u61)) ?_
          refine J_iload C rfl dL_isStep_504 ?_
          refine J_icmp_ne C 513 (by decide) dL_isStep_506 (fun h => absurd (cv_ne_t (a := u61) (b := u61) (by omega) (by omega) h) (by omega)) (fun c506 => ?_)
          refine J_iconst C 1 (by decide) dL_isStep_509 ?_
          refine J_goto C 514 (by decide) dL_isStep_510 ?_
          exact J_zret C hr rfl dL_isStep_514 (misS σ u60 u61, x74, x76) rfl (hP.act (fun d h => (h.mis (by omega)).le (Nat.le_succ r)) (misS_4 _ _ _) hx75 hx77) rfl
        · skip
          have c484 := cv_ne_f (a := (σ 2 u60)) (b := 0) (by omega) (by omega) c484
          have hl9 := letAt_n (σ := σ) (j := u60) c484
          refine J_iload C rfl dL_isStep_487 ?_
          refine J_goto C 494 (by decide) dL_isStep_489 ?_
          refine J_icmp_ne C 513 (by decide) dL_isStep_494 (fun h => absurd (cv_ne_t (a := (letAt σ u60)) (b := (dueAt σ u60)) (by omega) (by omega) h) (by omega)) (fun c494 => ?_)
          refine J_aload_n C rfl dL_isStep_497 ?_
          refine J_iload C rfl dL_isStep_498 ?_
          refine J_iconst C 4 (by decide) dL_isStep_500 ?_
          refine J_V1 (as := [.int (nI u60), .int 4]) (rest := []) C NoX.b NoX.f (o_place l G P (misS σ u60 u61) x74 u60 4 (hx74).i (hx74).d (by rw [misS_4]; omega)) (OW G R (misS σ u60 u61) x76) (fun _ => OW_l2 _ _ _ _ _ _) 2 k434 k435 k436 k10 k437 rfl (by decide +kernel) ⟨Nat.le_of_ble_eq_true rfl, Nat.le_of_ble_eq_true rfl⟩ ⟨Nat.le_of_ble_eq_true rfl, Nat.le_of_ble_eq_true rfl⟩ dL_isStep_501 (Nat.le_of_ble_eq_true rfl) (OW_0 _ _ _ _) rfl (fun _ _ => ?_)
          refine J_st (st' := [.int (plF (misS σ u60 u61) u60 (4 : Int32).toInt)]) rfl ?_
          refine J_ws (ws' := OW G P (misS σ u60 u61) x74 ++ OW G R (misS σ u60 u61) x76) rfl ?_
          refine J_i ((by rw [show (4 : Int32).toInt = 4 from by decide] <;> rfl) : (plF (misS σ u60 u61) u60 (4 : Int32).toInt : Int32) = (nI ((misS σ u60 u61) 2 u60))) ?_
          refine J_i ((congrArg nI (misS_2 hbg)) : (nI ((misS σ u60 u61) 2 u60) : Int32) = (nI u61)) ?_
          refine J_iload C rfl dL_isStep_504 ?_
          refine J_icmp_ne C 513 (by decide) dL_isStep_506 (fun h => absurd (cv_ne_t (a := u61) (b := u61) (by omega) (by omega) h) (by omega)) (fun c506 => ?_)
          refine J_iconst C 1 (by decide) dL_isStep_509 ?_
          refine J_goto C 514 (by decide) dL_isStep_510 ?_
          exact J_zret C hr rfl dL_isStep_514 (misS σ u60 u61, x74, x76) rfl (hP.act (fun d h => (h.mis (by omega)).le (Nat.le_succ r)) (misS_4 _ _ _) hx75 hx77) rfl
  · skip
    refine J_i (y := 5) rfl ?_
    refine J_tableIn C 345 (by decide) (by decide) rfl (by decide) dL_isStep_18 ?_
    refine J_iload C rfl dL_isStep_345 ?_
    refine J_if_ne C 354 (by decide) dL_isStep_347 (fun c347 => ?_) (fun h => absurd (cv_ne_f (a := (σ 0 4)) (b := 0) (by omega) (by omega) h) (by omega))
    refine J_iload C rfl dL_isStep_354 ?_
    refine J_iload C rfl dL_isStep_356 ?_
    refine J_S0 (as := [.int w1, .int (nI (σ 0 4))]) (rest := []) C NoX.b NoX.f (ct_up l G w1 (σ 0 4) (by omega)) 2 k247 k248 k9 k249 rfl (by decide +kernel) ⟨Nat.le_of_ble_eq_true rfl, Nat.le_of_ble_eq_true rfl⟩ ⟨Nat.le_of_ble_eq_true rfl, Nat.le_of_ble_eq_true rfl⟩ dL_isStep_358 (Nat.le_of_ble_eq_true rfl) (fun u78 hu78 => ?_)
    refine J_st (st' := [.int (nI u78)]) rfl ?_
    refine J_ws (ws' := OW G P σ x ++ OW G R σ y) rfl ?_
    refine J_istore C [(6, .int (nI u78)), (5, .int (nI (σ 0 4))), (4, .int w1), (0, .ref P.1), (1, .ref R.1), (2, .int v), (3, .int w)] (by decide) rfl dL_isStep_361 ?_
    refine J_iload_n C rfl dL_isStep_363 ?_
    refine J_bipush C 27 (by decide) dL_isStep_364 ?_
    refine J_S0 (as := [.int w, .int 27]) (rest := []) C NoX.b NoX.f (ct_up l G w 27 (by omega)) 2 k247 k248 k9 k249 rfl (by decide +kernel) ⟨Nat.le_of_ble_eq_true rfl, Nat.le_of_ble_eq_true rfl⟩ ⟨Nat.le_of_ble_eq_true rfl, Nat.le_of_ble_eq_true rfl⟩ dL_isStep_366 (Nat.le_of_ble_eq_true rfl) (fun u79 hu79 => ?_)
    refine J_st (st' := [.int (nI u79)]) rfl ?_
    refine J_ws (ws' := OW G P σ x ++ OW G R σ y) rfl ?_
    refine J_istore C [(7, .int (nI u79)), (6, .int (nI u78)), (5, .int (nI (σ 0 4))), (4, .int w1), (0, .ref P.1), (1, .ref R.1), (2, .int v), (3, .int w)] (by decide) rfl dL_isStep_369 ?_
    by_cases hbg : begunP σ u78
    · skip
      refine J_aload_n C rfl dL_isStep_371 ?_
      refine J_iload C rfl dL_isStep_372 ?_
      by_cases hw : 0 < σ 3 u78
      · skip
        refine J_iconst C 0 (by decide) dL_isStep_374 ?_
        refine J_V1 (as := [.int (nI u78), .int 0]) (rest := []) C NoX.b NoX.f (o_place l G P σ x u78 0 (hx).i (hx).d (by omega)) (OW G R σ y) (fun _ => OW_l2 _ _ _ _ _ _) 2 k434 k435 k436 k10 k437 rfl (by decide +kernel) ⟨Nat.le_of_ble_eq_true rfl, Nat.le_of_ble_eq_true rfl⟩ ⟨Nat.le_of_ble_eq_true rfl, Nat.le_of_ble_eq_true rfl⟩ dL_isStep_375 (Nat.le_of_ble_eq_true rfl) (OW_0 _ _ _ _) rfl (fun _ _ => ?_)
        refine J_st (st' := [.int (plF σ u78 (0 : Int32).toInt)]) rfl ?_
        refine J_ws (ws' := OW G P σ x ++ OW G R σ y) rfl ?_
        refine J_i ((by rw [show (0 : Int32).toInt = 0 from by decide] <;> rfl) : (plF σ u78 (0 : Int32).toInt : Int32) = (nI (dueAt σ u78))) ?_
        refine J_istore C [(8, .int (nI (dueAt σ u78))), (7, .int (nI u79)), (6, .int (nI u78)), (5, .int (nI (σ 0 4))), (4, .int w1), (0, .ref P.1), (1, .ref R.1), (2, .int v), (3, .int w)] (by decide) rfl dL_isStep_378 ?_
        have hdu := hx.i.due (p := u78) (by omega)
        have hlt := hx.i.let (p := u78) (by omega)
        have hqj := hx.i.q (q := u78) (by omega)
        refine J_aload_n C rfl dL_isStep_380 ?_
        refine J_iload C rfl dL_isStep_381 ?_
        refine J_iconst C 4 (by decide) dL_isStep_383 ?_
        refine J_V1 (as := [.int (nI u78), .int 4]) (rest := []) C NoX.b NoX.f (o_place l G P σ x u78 4 (hx).i (hx).d (by omega)) (OW G R σ y) (fun _ => OW_l2 _ _ _ _ _ _) 2 k434 k435 k436 k10 k437 rfl (by decide +kernel) ⟨Nat.le_of_ble_eq_true rfl, Nat.le_of_ble_eq_true rfl⟩ ⟨Nat.le_of_ble_eq_true rfl, Nat.le_of_ble_eq_true rfl⟩ dL_isStep_384 (Nat.le_of_ble_eq_true rfl) (OW_0 _ _ _ _) rfl (fun _ _ => ?_)
        refine J_st (st' := [.int (plF σ u78 (4 : Int32).toInt)]) rfl ?_
        refine J_ws (ws' := OW G P σ x ++ OW G R σ y) rfl ?_
        refine J_i ((by rw [show (4 : Int32).toInt = 4 from by decide] <;> rfl) : (plF σ u78 (4 : Int32).toInt : Int32) = (nI (σ 2 u78))) ?_
        refine J_istore C [(9, .int (nI (σ 2 u78))), (8, .int (nI (dueAt σ u78))), (7, .int (nI u79)), (6, .int (nI u78)), (5, .int (nI (σ 0 4))), (4, .int w1), (0, .ref P.1), (1, .ref R.1), (2, .int v), (3, .int w)] (by decide) rfl dL_isStep_387 ?_
        refine J_aload_n C rfl dL_isStep_389 ?_
        refine J_iload C rfl dL_isStep_390 ?_
        refine J_iconst C 1 (by decide) dL_isStep_392 ?_
        refine J_V1 (as := [.int (nI u78), .int 1]) (rest := []) C NoX.b NoX.f (o_place l G P σ x u78 1 (hx).i (hx).d (by omega)) (OW G R σ y) (fun _ => OW_l2 _ _ _ _ _ _) 2 k434 k435 k436 k10 k437 rfl (by decide +kernel) ⟨Nat.le_of_ble_eq_true rfl, Nat.le_of_ble_eq_true rfl⟩ ⟨Nat.le_of_ble_eq_true rfl, Nat.le_of_ble_eq_true rfl⟩ dL_isStep_393 (Nat.le_of_ble_eq_true rfl) (OW_0 _ _ _ _) rfl (fun _ _ => ?_)
        refine J_st (st' := [.int (plF σ u78 (1 : Int32).toInt)]) rfl ?_
        refine J_ws (ws' := OW G P σ x ++ OW G R σ y) rfl ?_
        refine J_i ((by rw [show (1 : Int32).toInt = 1 from by decide] <;> rfl) : (plF σ u78 (1 : Int32).toInt : Int32) = (nI (σ 3 u78))) ?_
        refine J_if_le C 403 (by decide) dL_isStep_396 (fun h => absurd (cv_le_t (a := (σ 3 u78)) (b := 0) (by omega) (by omega) h) (by omega)) (fun c396 => ?_)
        refine J_iconst C 1 (by decide) dL_isStep_399 ?_
        refine J_goto C 404 (by decide) dL_isStep_400 ?_
        refine J_istore C [(10, .int 1), (9, .int (nI (σ 2 u78))), (8, .int (nI (dueAt σ u78))), (7, .int (nI u79)), (6, .int (nI u78)), (5, .int (nI (σ 0 4))), (4, .int w1), (0, .ref P.1), (1, .ref R.1), (2, .int v), (3, .int w)] (by decide) rfl dL_isStep_404 ?_
        refine J_aload_n C rfl dL_isStep_406 ?_
        refine J_iload C rfl dL_isStep_407 ?_
        refine J_iload C rfl dL_isStep_409 ?_
        refine J_V1 (as := [.int (nI u78), .int (nI u79)]) (rest := []) C NoX.b NoX.f (o_mis l G P σ x u78 u79 (hx).i (hx).d hVx (by omega) (by omega)) (OW G R σ y) (fun _ => OW_l2 _ _ _ _ _ _) 2 k351 k352 k353 k10 k354 rfl (by decide +kernel) ⟨Nat.le_of_ble_eq_true rfl, Nat.le_of_ble_eq_true rfl⟩ ⟨Nat.le_of_ble_eq_true rfl, Nat.le_of_ble_eq_true rfl⟩ dL_isStep_411 (Nat.le_of_ble_eq_true rfl) (OW_0 _ _ _ _) rfl (fun x80 hx81 => ?_)
        refine J_st (st' := [.int (misR σ u78 u79)]) rfl ?_
        refine J_ws (ws' := OW G P (misS σ u78 u79) x80 ++ OW G R σ y) rfl ?_
        have hx80 : GV (r + 1) (misS σ u78 u79) x80.1 := by rw [hx81.2.1]; exact hx.mis (by omega)
        refine J_i ((if_pos hbg) : (misR σ u78 u79 : Int32) = (-4)) ?_
        refine J_istore C [(11, .int (-4)), (10, .int 1), (9, .int (nI (σ 2 u78))), (8, .int (nI (dueAt σ u78))), (7, .int (nI u79)), (6, .int (nI u78)), (5, .int (nI (σ 0 4))), (4, .int w1), (0, .ref P.1), (1, .ref R.1), (2, .int v), (3, .int w)] (by decide) rfl dL_isStep_414 ?_
        refine J_iload C rfl dL_isStep_416 ?_
        refine J_aload_n C rfl dL_isStep_418 ?_
        refine J_iload C rfl dL_isStep_419 ?_
        refine J_iload C rfl dL_isStep_421 ?_
        refine J_V2 (as := [.int (nI u78), .int (nI u79)]) (rest := [.int (-4)]) C NoX.b NoX.f (o_mis l G R σ y u78 u79 (hy).i (hy).d hVy (by omega) (by omega)) (OW G P (misS σ u78 u79) x80) (fun _ => OW_l2 _ _ _ _ _ _) 2 k351 k352 k353 k10 k354 rfl (by decide +kernel) ⟨Nat.le_of_ble_eq_true rfl, Nat.le_of_ble_eq_true rfl⟩ ⟨Nat.le_of_ble_eq_true rfl, Nat.le_of_ble_eq_true rfl⟩ dL_isStep_423 (Nat.le_of_ble_eq_true rfl) (OW_0 _ _ _ _) rfl (fun x82 hx83 => ?_)
        refine J_st (st' := [.int (misR σ u78 u79), .int (-4)]) rfl ?_
        refine J_ws (ws' := OW G P (misS σ u78 u79) x80 ++ OW G R (misS σ u78 u79) x82) rfl ?_
        have hx82 : GV (r + 1) (misS σ u78 u79) x82.1 := by rw [hx83.2.1]; exact hy.mis (by omega)
        refine J_i ((if_pos hbg) : (misR σ u78 u79 : Int32) = (-4)) ?_
        refine J_icmp_ne C 513 (by decide) dL_isStep_426 (fun h => absurd h (by decide)) (fun _ => ?_)
        refine J_iload C rfl dL_isStep_429 ?_
        refine J_if_ne C 443 (by decide) dL_isStep_431 (fun c431 => ?_) (fun h => absurd (cv_ne_f (a := (σ 0 4)) (b := 0) (by omega) (by omega) h) (by omega))
        refine J_iload C rfl dL_isStep_443 ?_
        refine J_if_eq C 458 (by decide) dL_isStep_445 (fun h => absurd h (by decide)) (fun _ => ?_)
        refine J_iload C rfl dL_isStep_448 ?_
        refine J_bipush C (-4) (by decide) dL_isStep_450 ?_
        refine J_icmp_ne C 513 (by decide) dL_isStep_452 (fun h => absurd h (by decide)) (fun _ => ?_)
        refine J_goto C 509 (by decide) dL_isStep_455 ?_
        refine J_iconst C 1 (by decide) dL_isStep_509 ?_
        refine J_goto C 514 (by decide) dL_isStep_510 ?_
        exact J_zret C hr rfl dL_isStep_514 (misS σ u78 u79, x80, x82) rfl (hP.act (fun d h => (h.mis (by omega)).le (Nat.le_succ r)) (misS_4 _ _ _) hx81 hx83) rfl
      · skip
        refine J_iconst C 0 (by decide) dL_isStep_374 ?_
        refine J_V1 (as := [.int (nI u78), .int 0]) (rest := []) C NoX.b NoX.f (o_place l G P σ x u78 0 (hx).i (hx).d (by omega)) (OW G R σ y) (fun _ => OW_l2 _ _ _ _ _ _) 2 k434 k435 k436 k10 k437 rfl (by decide +kernel) ⟨Nat.le_of_ble_eq_true rfl, Nat.le_of_ble_eq_true rfl⟩ ⟨Nat.le_of_ble_eq_true rfl, Nat.le_of_ble_eq_true rfl⟩ dL_isStep_375 (Nat.le_of_ble_eq_true rfl) (OW_0 _ _ _ _) rfl (fun _ _ => ?_)
        refine J_st (st' := [.int (plF σ u78 (0 : Int32).toInt)]) rfl ?_
        refine J_ws (ws' := OW G P σ x ++ OW G R σ y) rfl ?_
        refine J_i ((by rw [show (0 : Int32).toInt = 0 from by decide] <;> rfl) : (plF σ u78 (0 : Int32).toInt : Int32) = (nI (dueAt σ u78))) ?_
        refine J_istore C [(8, .int (nI (dueAt σ u78))), (7, .int (nI u79)), (6, .int (nI u78)), (5, .int (nI (σ 0 4))), (4, .int w1), (0, .ref P.1), (1, .ref R.1), (2, .int v), (3, .int w)] (by decide) rfl dL_isStep_378 ?_
        have hdu := hx.i.due (p := u78) (by omega)
        have hlt := hx.i.let (p := u78) (by omega)
        have hqj := hx.i.q (q := u78) (by omega)
        refine J_aload_n C rfl dL_isStep_380 ?_
        refine J_iload C rfl dL_isStep_381 ?_
        refine J_iconst C 4 (by decide) dL_isStep_383 ?_
        refine J_V1 (as := [.int (nI u78), .int 4]) (rest := []) C NoX.b NoX.f (o_place l G P σ x u78 4 (hx).i (hx).d (by omega)) (OW G R σ y) (fun _ => OW_l2 _ _ _ _ _ _) 2 k434 k435 k436 k10 k437 rfl (by decide +kernel) ⟨Nat.le_of_ble_eq_true rfl, Nat.le_of_ble_eq_true rfl⟩ ⟨Nat.le_of_ble_eq_true rfl, Nat.le_of_ble_eq_true rfl⟩ dL_isStep_384 (Nat.le_of_ble_eq_true rfl) (OW_0 _ _ _ _) rfl (fun _ _ => ?_)
        refine J_st (st' := [.int (plF σ u78 (4 : Int32).toInt)]) rfl ?_
        refine J_ws (ws' := OW G P σ x ++ OW G R σ y) rfl ?_
        refine J_i ((by rw [show (4 : Int32).toInt = 4 from by decide] <;> rfl) : (plF σ u78 (4 : Int32).toInt : Int32) = (nI (σ 2 u78))) ?_
        refine J_istore C [(9, .int (nI (σ 2 u78))), (8, .int (nI (dueAt σ u78))), (7, .int (nI u79)), (6, .int (nI u78)), (5, .int (nI (σ 0 4))), (4, .int w1), (0, .ref P.1), (1, .ref R.1), (2, .int v), (3, .int w)] (by decide) rfl dL_isStep_387 ?_
        refine J_aload_n C rfl dL_isStep_389 ?_
        refine J_iload C rfl dL_isStep_390 ?_
        refine J_iconst C 1 (by decide) dL_isStep_392 ?_
        refine J_V1 (as := [.int (nI u78), .int 1]) (rest := []) C NoX.b NoX.f (o_place l G P σ x u78 1 (hx).i (hx).d (by omega)) (OW G R σ y) (fun _ => OW_l2 _ _ _ _ _ _) 2 k434 k435 k436 k10 k437 rfl (by decide +kernel) ⟨Nat.le_of_ble_eq_true rfl, Nat.le_of_ble_eq_true rfl⟩ ⟨Nat.le_of_ble_eq_true rfl, Nat.le_of_ble_eq_true rfl⟩ dL_isStep_393 (Nat.le_of_ble_eq_true rfl) (OW_0 _ _ _ _) rfl (fun _ _ => ?_)
        refine J_st (st' := [.int (plF σ u78 (1 : Int32).toInt)]) rfl ?_
        refine J_ws (ws' := OW G P σ x ++ OW G R σ y) rfl ?_
        refine J_i ((by rw [show (1 : Int32).toInt = 1 from by decide] <;> rfl) : (plF σ u78 (1 : Int32).toInt : Int32) = (nI (σ 3 u78))) ?_
        refine J_if_le C 403 (by decide) dL_isStep_396 (fun c396 => ?_) (fun h => absurd (cv_le_f (a := (σ 3 u78)) (b := 0) (by omega) (by omega) h) (by omega))
        refine J_iconst C 0 (by decide) dL_isStep_403 ?_
        refine J_istore C [(10, .int 0), (9, .int (nI (σ 2 u78))), (8, .int (nI (dueAt σ u78))), (7, .int (nI u79)), (6, .int (nI u78)), (5, .int (nI (σ 0 4))), (4, .int w1), (0, .ref P.1), (1, .ref R.1), (2, .int v), (3, .int w)] (by decide) rfl dL_isStep_404 ?_
        refine J_aload_n C rfl dL_isStep_406 ?_
        refine J_iload C rfl dL_isStep_407 ?_
        refine J_iload C rfl dL_isStep_409 ?_
        refine J_V1 (as := [.int (nI u78), .int (nI u79)]) (rest := []) C NoX.b NoX.f (o_mis l G P σ x u78 u79 (hx).i (hx).d hVx (by omega) (by omega)) (OW G R σ y) (fun _ => OW_l2 _ _ _ _ _ _) 2 k351 k352 k353 k10 k354 rfl (by decide +kernel) ⟨Nat.le_of_ble_eq_true rfl, Nat.le_of_ble_eq_true rfl⟩ ⟨Nat.le_of_ble_eq_true rfl, Nat.le_of_ble_eq_true rfl⟩ dL_isStep_411 (Nat.le_of_ble_eq_true rfl) (OW_0 _ _ _ _) rfl (fun x84 hx85 => ?_)
        refine J_st (st' := [.int (misR σ u78 u79)]) rfl ?_
        refine J_ws (ws' := OW G P (misS σ u78 u79) x84 ++ OW G R σ y) rfl ?_
        have hx84 : GV (r + 1) (misS σ u78 u79) x84.1 := by rw [hx85.2.1]; exact hx.mis (by omega)
        refine J_i ((if_pos hbg) : (misR σ u78 u79 : Int32) = (-4)) ?_
        refine J_istore C [(11, .int (-4)), (10, .int 0), (9, .int (nI (σ 2 u78))), (8, .int (nI (dueAt σ u78))), (7, .int (nI u79)), (6, .int (nI u78)), (5, .int (nI (σ 0 4))), (4, .int w1), (0, .ref P.1), (1, .ref R.1), (2, .int v), (3, .int w)] (by decide) rfl dL_isStep_414 ?_
        refine J_iload C rfl dL_isStep_416 ?_
        refine J_aload_n C rfl dL_isStep_418 ?_
        refine J_iload C rfl dL_isStep_419 ?_
        refine J_iload C rfl dL_isStep_421 ?_
        refine J_V2 (as := [.int (nI u78), .int (nI u79)]) (rest := [.int (-4)]) C NoX.b NoX.f (o_mis l G R σ y u78 u79 (hy).i (hy).d hVy (by omega) (by omega)) (OW G P (misS σ u78 u79) x84) (fun _ => OW_l2 _ _ _ _ _ _) 2 k351 k352 k353 k10 k354 rfl (by decide +kernel) ⟨Nat.le_of_ble_eq_true rfl, Nat.le_of_ble_eq_true rfl⟩ ⟨Nat.le_of_ble_eq_true rfl, Nat.le_of_ble_eq_true rfl⟩ dL_isStep_423 (Nat.le_of_ble_eq_true rfl) (OW_0 _ _ _ _) rfl (fun x86 hx87 => ?_)
        refine J_st (st' := [.int (misR σ u78 u79), .int (-4)]) rfl ?_
        refine J_ws (ws' := OW G P (misS σ u78 u79) x84 ++ OW G R (misS σ u78 u79) x86) rfl ?_
        have hx86 : GV (r + 1) (misS σ u78 u79) x86.1 := by rw [hx87.2.1]; exact hy.mis (by omega)
        refine J_i ((if_pos hbg) : (misR σ u78 u79 : Int32) = (-4)) ?_
        refine J_icmp_ne C 513 (by decide) dL_isStep_426 (fun h => absurd h (by decide)) (fun _ => ?_)
        refine J_iload C rfl dL_isStep_429 ?_
        refine J_if_ne C 443 (by decide) dL_isStep_431 (fun c431 => ?_) (fun h => absurd (cv_ne_f (a := (σ 0 4)) (b := 0) (by omega) (by omega) h) (by omega))
        refine J_iload C rfl dL_isStep_443 ?_
        refine J_if_eq C 458 (by decide) dL_isStep_445 (fun _ => ?_) (fun h => absurd h (by decide))
        refine J_iload C rfl dL_isStep_458 ?_
        refine J_if_ge C 480 (by decide) dL_isStep_460 (fun h => absurd h (by decide)) (fun _ => ?_)
        refine J_iload C rfl dL_isStep_463 ?_
        refine J_bipush C (-4) (by decide) dL_isStep_465 ?_
        refine J_icmp_eq C 509 (by decide) dL_isStep_467 (fun _ => ?_) (fun h => absurd h (by decide))
        refine J_iconst C 1 (by decide) dL_isStep_509 ?_
        refine J_goto C 514 (by decide) dL_isStep_510 ?_
        exact J_zret C hr rfl dL_isStep_514 (misS σ u78 u79, x84, x86) rfl (hP.act (fun d h => (h.mis (by omega)).le (Nat.le_succ r)) (misS_4 _ _ _) hx85 hx87) rfl
    · skip
      refine J_aload_n C rfl dL_isStep_371 ?_
      refine J_iload C rfl dL_isStep_372 ?_
      have hw : ¬ 0 < σ 3 u78 := fun q => hbg (Or.inl q)
      by_cases he : σ 2 u78 = u79
      · skip
        refine J_iconst C 0 (by decide) dL_isStep_374 ?_
        refine J_V1 (as := [.int (nI u78), .int 0]) (rest := []) C NoX.b NoX.f (o_place l G P σ x u78 0 (hx).i (hx).d (by omega)) (OW G R σ y) (fun _ => OW_l2 _ _ _ _ _ _) 2 k434 k435 k436 k10 k437 rfl (by decide +kernel) ⟨Nat.le_of_ble_eq_true rfl, Nat.le_of_ble_eq_true rfl⟩ ⟨Nat.le_of_ble_eq_true rfl, Nat.le_of_ble_eq_true rfl⟩ dL_isStep_375 (Nat.le_of_ble_eq_true rfl) (OW_0 _ _ _ _) rfl (fun _ _ => ?_)
        refine J_st (st' := [.int (plF σ u78 (0 : Int32).toInt)]) rfl ?_
        refine J_ws (ws' := OW G P σ x ++ OW G R σ y) rfl ?_
        refine J_i ((by rw [show (0 : Int32).toInt = 0 from by decide] <;> rfl) : (plF σ u78 (0 : Int32).toInt : Int32) = (nI (dueAt σ u78))) ?_
        refine J_istore C [(8, .int (nI (dueAt σ u78))), (7, .int (nI u79)), (6, .int (nI u78)), (5, .int (nI (σ 0 4))), (4, .int w1), (0, .ref P.1), (1, .ref R.1), (2, .int v), (3, .int w)] (by decide) rfl dL_isStep_378 ?_
        have hdu := hx.i.due (p := u78) (by omega)
        have hlt := hx.i.let (p := u78) (by omega)
        have hqj := hx.i.q (q := u78) (by omega)
        refine J_aload_n C rfl dL_isStep_380 ?_
        refine J_iload C rfl dL_isStep_381 ?_
        refine J_iconst C 4 (by decide) dL_isStep_383 ?_
        refine J_V1 (as := [.int (nI u78), .int 4]) (rest := []) C NoX.b NoX.f (o_place l G P σ x u78 4 (hx).i (hx).d (by omega)) (OW G R σ y) (fun _ => OW_l2 _ _ _ _ _ _) 2 k434 k435 k436 k10 k437 rfl (by decide +kernel) ⟨Nat.le_of_ble_eq_true rfl, Nat.le_of_ble_eq_true rfl⟩ ⟨Nat.le_of_ble_eq_true rfl, Nat.le_of_ble_eq_true rfl⟩ dL_isStep_384 (Nat.le_of_ble_eq_true rfl) (OW_0 _ _ _ _) rfl (fun _ _ => ?_)
        refine J_st (st' := [.int (plF σ u78 (4 : Int32).toInt)]) rfl ?_
        refine J_ws (ws' := OW G P σ x ++ OW G R σ y) rfl ?_
        refine J_i ((by rw [show (4 : Int32).toInt = 4 from by decide] <;> rfl) : (plF σ u78 (4 : Int32).toInt : Int32) = (nI (σ 2 u78))) ?_
        refine J_istore C [(9, .int (nI (σ 2 u78))), (8, .int (nI (dueAt σ u78))), (7, .int (nI u79)), (6, .int (nI u78)), (5, .int (nI (σ 0 4))), (4, .int w1), (0, .ref P.1), (1, .ref R.1), (2, .int v), (3, .int w)] (by decide) rfl dL_isStep_387 ?_
        refine J_aload_n C rfl dL_isStep_389 ?_
        refine J_iload C rfl dL_isStep_390 ?_
        refine J_iconst C 1 (by decide) dL_isStep_392 ?_
        refine J_V1 (as := [.int (nI u78), .int 1]) (rest := []) C NoX.b NoX.f (o_place l G P σ x u78 1 (hx).i (hx).d (by omega)) (OW G R σ y) (fun _ => OW_l2 _ _ _ _ _ _) 2 k434 k435 k436 k10 k437 rfl (by decide +kernel) ⟨Nat.le_of_ble_eq_true rfl, Nat.le_of_ble_eq_true rfl⟩ ⟨Nat.le_of_ble_eq_true rfl, Nat.le_of_ble_eq_true rfl⟩ dL_isStep_393 (Nat.le_of_ble_eq_true rfl) (OW_0 _ _ _ _) rfl (fun _ _ => ?_)
        refine J_st (st' := [.int (plF σ u78 (1 : Int32).toInt)]) rfl ?_
        refine J_ws (ws' := OW G P σ x ++ OW G R σ y) rfl ?_
        refine J_i ((by rw [show (1 : Int32).toInt = 1 from by decide] <;> rfl) : (plF σ u78 (1 : Int32).toInt : Int32) = (nI (σ 3 u78))) ?_
        refine J_if_le C 403 (by decide) dL_isStep_396 (fun c396 => ?_) (fun h => absurd (cv_le_f (a := (σ 3 u78)) (b := 0) (by omega) (by omega) h) (by omega))
        refine J_iconst C 0 (by decide) dL_isStep_403 ?_
        refine J_istore C [(10, .int 0), (9, .int (nI (σ 2 u78))), (8, .int (nI (dueAt σ u78))), (7, .int (nI u79)), (6, .int (nI u78)), (5, .int (nI (σ 0 4))), (4, .int w1), (0, .ref P.1), (1, .ref R.1), (2, .int v), (3, .int w)] (by decide) rfl dL_isStep_404 ?_
        refine J_aload_n C rfl dL_isStep_406 ?_
        refine J_iload C rfl dL_isStep_407 ?_
        refine J_iload C rfl dL_isStep_409 ?_
        refine J_V1 (as := [.int (nI u78), .int (nI u79)]) (rest := []) C NoX.b NoX.f (o_mis l G P σ x u78 u79 (hx).i (hx).d hVx (by omega) (by omega)) (OW G R σ y) (fun _ => OW_l2 _ _ _ _ _ _) 2 k351 k352 k353 k10 k354 rfl (by decide +kernel) ⟨Nat.le_of_ble_eq_true rfl, Nat.le_of_ble_eq_true rfl⟩ ⟨Nat.le_of_ble_eq_true rfl, Nat.le_of_ble_eq_true rfl⟩ dL_isStep_411 (Nat.le_of_ble_eq_true rfl) (OW_0 _ _ _ _) rfl (fun x88 hx89 => ?_)
        refine J_st (st' := [.int (misR σ u78 u79)]) rfl ?_
        refine J_ws (ws' := OW G P (misS σ u78 u79) x88 ++ OW G R σ y) rfl ?_
        have hx88 : GV (r + 1) (misS σ u78 u79) x88.1 := by rw [hx89.2.1]; exact hx.mis (by omega)
        refine J_i (((if_neg hbg).trans (if_pos he)) : (misR σ u78 u79 : Int32) = (-5)) ?_
        refine J_istore C [(11, .int (-5)), (10, .int 0), (9, .int (nI (σ 2 u78))), (8, .int (nI (dueAt σ u78))), (7, .int (nI u79)), (6, .int (nI u78)), (5, .int (nI (σ 0 4))), (4, .int w1), (0, .ref P.1), (1, .ref R.1), (2, .int v), (3, .int w)] (by decide) rfl dL_isStep_414 ?_
        refine J_iload C rfl dL_isStep_416 ?_
        refine J_aload_n C rfl dL_isStep_418 ?_
        refine J_iload C rfl dL_isStep_419 ?_
        refine J_iload C rfl dL_isStep_421 ?_
        refine J_V2 (as := [.int (nI u78), .int (nI u79)]) (rest := [.int (-5)]) C NoX.b NoX.f (o_mis l G R σ y u78 u79 (hy).i (hy).d hVy (by omega) (by omega)) (OW G P (misS σ u78 u79) x88) (fun _ => OW_l2 _ _ _ _ _ _) 2 k351 k352 k353 k10 k354 rfl (by decide +kernel) ⟨Nat.le_of_ble_eq_true rfl, Nat.le_of_ble_eq_true rfl⟩ ⟨Nat.le_of_ble_eq_true rfl, Nat.le_of_ble_eq_true rfl⟩ dL_isStep_423 (Nat.le_of_ble_eq_true rfl) (OW_0 _ _ _ _) rfl (fun x90 hx91 => ?_)
        refine J_st (st' := [.int (misR σ u78 u79), .int (-5)]) rfl ?_
        refine J_ws (ws' := OW G P (misS σ u78 u79) x88 ++ OW G R (misS σ u78 u79) x90) rfl ?_
        have hx90 : GV (r + 1) (misS σ u78 u79) x90.1 := by rw [hx91.2.1]; exact hy.mis (by omega)
        refine J_i (((if_neg hbg).trans (if_pos he)) : (misR σ u78 u79 : Int32) = (-5)) ?_
        refine J_icmp_ne C 513 (by decide) dL_isStep_426 (fun h => absurd h (by decide)) (fun _ => ?_)
        refine J_iload C rfl dL_isStep_429 ?_
        refine J_if_ne C 443 (by decide) dL_isStep_431 (fun c431 => ?_) (fun h => absurd (cv_ne_f (a := (σ 0 4)) (b := 0) (by omega) (by omega) h) (by omega))
        refine J_iload C rfl dL_isStep_443 ?_
        refine J_if_eq C 458 (by decide) dL_isStep_445 (fun _ => ?_) (fun h => absurd h (by decide))
        refine J_iload C rfl dL_isStep_458 ?_
        refine J_if_ge C 480 (by decide) dL_isStep_460 (fun h => absurd h (by decide)) (fun _ => ?_)
        refine J_iload C rfl dL_isStep_463 ?_
        refine J_bipush C (-4) (by decide) dL_isStep_465 ?_
        refine J_icmp_eq C 509 (by decide) dL_isStep_467 (fun h => absurd h (by decide)) (fun _ => ?_)
        refine J_iload C rfl dL_isStep_470 ?_
        refine J_iload C rfl dL_isStep_472 ?_
        refine J_icmp_ne C 513 (by decide) dL_isStep_474 (fun h => absurd (cv_ne_t (a := (σ 2 u78)) (b := u79) (by omega) (by omega) h) (by omega)) (fun c474 => ?_)
        refine J_goto C 509 (by decide) dL_isStep_477 ?_
        refine J_iconst C 1 (by decide) dL_isStep_509 ?_
        refine J_goto C 514 (by decide) dL_isStep_510 ?_
        exact J_zret C hr rfl dL_isStep_514 (misS σ u78 u79, x88, x90) rfl (hP.act (fun d h => (h.mis (by omega)).le (Nat.le_succ r)) (misS_4 _ _ _) hx89 hx91) rfl
      · skip
        refine J_iconst C 0 (by decide) dL_isStep_374 ?_
        refine J_V1 (as := [.int (nI u78), .int 0]) (rest := []) C NoX.b NoX.f (o_place l G P σ x u78 0 (hx).i (hx).d (by omega)) (OW G R σ y) (fun _ => OW_l2 _ _ _ _ _ _) 2 k434 k435 k436 k10 k437 rfl (by decide +kernel) ⟨Nat.le_of_ble_eq_true rfl, Nat.le_of_ble_eq_true rfl⟩ ⟨Nat.le_of_ble_eq_true rfl, Nat.le_of_ble_eq_true rfl⟩ dL_isStep_375 (Nat.le_of_ble_eq_true rfl) (OW_0 _ _ _ _) rfl (fun _ _ => ?_)
        refine J_st (st' := [.int (plF σ u78 (0 : Int32).toInt)]) rfl ?_
        refine J_ws (ws' := OW G P σ x ++ OW G R σ y) rfl ?_
        refine J_i ((by rw [show (0 : Int32).toInt = 0 from by decide] <;> rfl) : (plF σ u78 (0 : Int32).toInt : Int32) = (nI (dueAt σ u78))) ?_
        refine J_istore C [(8, .int (nI (dueAt σ u78))), (7, .int (nI u79)), (6, .int (nI u78)), (5, .int (nI (σ 0 4))), (4, .int w1), (0, .ref P.1), (1, .ref R.1), (2, .int v), (3, .int w)] (by decide) rfl dL_isStep_378 ?_
        have hdu := hx.i.due (p := u78) (by omega)
        have hlt := hx.i.let (p := u78) (by omega)
        have hqj := hx.i.q (q := u78) (by omega)
        refine J_aload_n C rfl dL_isStep_380 ?_
        refine J_iload C rfl dL_isStep_381 ?_
        refine J_iconst C 4 (by decide) dL_isStep_383 ?_
        refine J_V1 (as := [.int (nI u78), .int 4]) (rest := []) C NoX.b NoX.f (o_place l G P σ x u78 4 (hx).i (hx).d (by omega)) (OW G R σ y) (fun _ => OW_l2 _ _ _ _ _ _) 2 k434 k435 k436 k10 k437 rfl (by decide +kernel) ⟨Nat.le_of_ble_eq_true rfl, Nat.le_of_ble_eq_true rfl⟩ ⟨Nat.le_of_ble_eq_true rfl, Nat.le_of_ble_eq_true rfl⟩ dL_isStep_384 (Nat.le_of_ble_eq_true rfl) (OW_0 _ _ _ _) rfl (fun _ _ => ?_)
        refine J_st (st' := [.int (plF σ u78 (4 : Int32).toInt)]) rfl ?_
        refine J_ws (ws' := OW G P σ x ++ OW G R σ y) rfl ?_
        refine J_i ((by rw [show (4 : Int32).toInt = 4 from by decide] <;> rfl) : (plF σ u78 (4 : Int32).toInt : Int32) = (nI (σ 2 u78))) ?_
        refine J_istore C [(9, .int (nI (σ 2 u78))), (8, .int (nI (dueAt σ u78))), (7, .int (nI u79)), (6, .int (nI u78)), (5, .int (nI (σ 0 4))), (4, .int w1), (0, .ref P.1), (1, .ref R.1), (2, .int v), (3, .int w)] (by decide) rfl dL_isStep_387 ?_
        refine J_aload_n C rfl dL_isStep_389 ?_
        refine J_iload C rfl dL_isStep_390 ?_
        refine J_iconst C 1 (by decide) dL_isStep_392 ?_
        refine J_V1 (as := [.int (nI u78), .int 1]) (rest := []) C NoX.b NoX.f (o_place l G P σ x u78 1 (hx).i (hx).d (by omega)) (OW G R σ y) (fun _ => OW_l2 _ _ _ _ _ _) 2 k434 k435 k436 k10 k437 rfl (by decide +kernel) ⟨Nat.le_of_ble_eq_true rfl, Nat.le_of_ble_eq_true rfl⟩ ⟨Nat.le_of_ble_eq_true rfl, Nat.le_of_ble_eq_true rfl⟩ dL_isStep_393 (Nat.le_of_ble_eq_true rfl) (OW_0 _ _ _ _) rfl (fun _ _ => ?_)
        refine J_st (st' := [.int (plF σ u78 (1 : Int32).toInt)]) rfl ?_
        refine J_ws (ws' := OW G P σ x ++ OW G R σ y) rfl ?_
        refine J_i ((by rw [show (1 : Int32).toInt = 1 from by decide] <;> rfl) : (plF σ u78 (1 : Int32).toInt : Int32) = (nI (σ 3 u78))) ?_
        refine J_if_le C 403 (by decide) dL_isStep_396 (fun c396 => ?_) (fun h => absurd (cv_le_f (a := (σ 3 u78)) (b := 0) (by omega) (by omega) h) (by omega))
        refine J_iconst C 0 (by decide) dL_isStep_403 ?_
        refine J_istore C [(10, .int 0), (9, .int (nI (σ 2 u78))), (8, .int (nI (dueAt σ u78))), (7, .int (nI u79)), (6, .int (nI u78)), (5, .int (nI (σ 0 4))), (4, .int w1), (0, .ref P.1), (1, .ref R.1), (2, .int v), (3, .int w)] (by decide) rfl dL_isStep_404 ?_
        refine J_aload_n C rfl dL_isStep_406 ?_
        refine J_iload C rfl dL_isStep_407 ?_
        refine J_iload C rfl dL_isStep_409 ?_
        refine J_V1 (as := [.int (nI u78), .int (nI u79)]) (rest := []) C NoX.b NoX.f (o_mis l G P σ x u78 u79 (hx).i (hx).d hVx (by omega) (by omega)) (OW G R σ y) (fun _ => OW_l2 _ _ _ _ _ _) 2 k351 k352 k353 k10 k354 rfl (by decide +kernel) ⟨Nat.le_of_ble_eq_true rfl, Nat.le_of_ble_eq_true rfl⟩ ⟨Nat.le_of_ble_eq_true rfl, Nat.le_of_ble_eq_true rfl⟩ dL_isStep_411 (Nat.le_of_ble_eq_true rfl) (OW_0 _ _ _ _) rfl (fun x92 hx93 => ?_)
        refine J_st (st' := [.int (misR σ u78 u79)]) rfl ?_
        refine J_ws (ws' := OW G P (misS σ u78 u79) x92 ++ OW G R σ y) rfl ?_
        have hx92 : GV (r + 1) (misS σ u78 u79) x92.1 := by rw [hx93.2.1]; exact hx.mis (by omega)
        refine J_i (((if_neg hbg).trans (if_neg he)) : (misR σ u78 u79 : Int32) = (nI (letAt σ u78))) ?_
        refine J_istore C [(11, .int (nI (letAt σ u78))), (10, .int 0), (9, .int (nI (σ 2 u78))), (8, .int (nI (dueAt σ u78))), (7, .int (nI u79)), (6, .int (nI u78)), (5, .int (nI (σ 0 4))), (4, .int w1), (0, .ref P.1), (1, .ref R.1), (2, .int v), (3, .int w)] (by decide) rfl dL_isStep_414 ?_
        refine J_iload C rfl dL_isStep_416 ?_
        refine J_aload_n C rfl dL_isStep_418 ?_
        refine J_iload C rfl dL_isStep_419 ?_
        refine J_iload C rfl dL_isStep_421 ?_
        refine J_V2 (as := [.int (nI u78), .int (nI u79)]) (rest := [.int (nI (letAt σ u78))]) C NoX.b NoX.f (o_mis l G R σ y u78 u79 (hy).i (hy).d hVy (by omega) (by omega)) (OW G P (misS σ u78 u79) x92) (fun _ => OW_l2 _ _ _ _ _ _) 2 k351 k352 k353 k10 k354 rfl (by decide +kernel) ⟨Nat.le_of_ble_eq_true rfl, Nat.le_of_ble_eq_true rfl⟩ ⟨Nat.le_of_ble_eq_true rfl, Nat.le_of_ble_eq_true rfl⟩ dL_isStep_423 (Nat.le_of_ble_eq_true rfl) (OW_0 _ _ _ _) rfl (fun x94 hx95 => ?_)
        refine J_st (st' := [.int (misR σ u78 u79), .int (nI (letAt σ u78))]) rfl ?_
        refine J_ws (ws' := OW G P (misS σ u78 u79) x92 ++ OW G R (misS σ u78 u79) x94) rfl ?_
        have hx94 : GV (r + 1) (misS σ u78 u79) x94.1 := by rw [hx95.2.1]; exact hy.mis (by omega)
        refine J_i (((if_neg hbg).trans (if_neg he)) : (misR σ u78 u79 : Int32) = (nI (letAt σ u78))) ?_
        refine J_icmp_ne C 513 (by decide) dL_isStep_426 (fun h => absurd (cv_ne_t (a := (letAt σ u78)) (b := (letAt σ u78)) (by omega) (by omega) h) (by omega)) (fun c426 => ?_)
        refine J_iload C rfl dL_isStep_429 ?_
        refine J_if_ne C 443 (by decide) dL_isStep_431 (fun c431 => ?_) (fun h => absurd (cv_ne_f (a := (σ 0 4)) (b := 0) (by omega) (by omega) h) (by omega))
        refine J_iload C rfl dL_isStep_443 ?_
        refine J_if_eq C 458 (by decide) dL_isStep_445 (fun _ => ?_) (fun h => absurd h (by decide))
        refine J_iload C rfl dL_isStep_458 ?_
        refine J_if_ge C 480 (by decide) dL_isStep_460 (fun _ => ?_) (fun h => absurd h (fun q => q (nI_pos' (by omega))))
        refine J_iload C rfl dL_isStep_480 ?_
        refine J_iload C rfl dL_isStep_482 ?_
        refine J_if_ne C 492 (by decide) dL_isStep_484 (fun c484 => ?_) (fun c484 => ?_)
        · skip
          have c484 := cv_ne_t (a := (σ 2 u78)) (b := 0) (by omega) (by omega) c484
          have hl9 := letAt_y (σ := σ) (j := u78) c484
          refine J_iload C rfl dL_isStep_492 ?_
          refine J_icmp_ne C 513 (by decide) dL_isStep_494 (fun h => absurd (cv_ne_t (a := (letAt σ u78)) (b := (σ 2 u78)) (by omega) (by omega) h) (by omega)) (fun c494 => ?_)
          refine J_aload_n C rfl dL_isStep_497 ?_
          refine J_iload C rfl dL_isStep_498 ?_
          refine J_iconst C 4 (by decide) dL_isStep_500 ?_
          refine J_V1 (as := [.int (nI u78), .int 4]) (rest := []) C NoX.b NoX.f (o_place l G P (misS σ u78 u79) x92 u78 4 (hx92).i (hx92).d (by rw [misS_4]; omega)) (OW G R (misS σ u78 u79) x94) (fun _ => OW_l2 _ _ _ _ _ _) 2 k434 k435 k436 k10 k437 rfl (by decide +kernel) ⟨Nat.le_of_ble_eq_true rfl, Nat.le_of_ble_eq_true rfl⟩ ⟨Nat.le_of_ble_eq_true rfl, Nat.le_of_ble_eq_true rfl⟩ dL_isStep_501 (Nat.le_of_ble_eq_true rfl) (OW_0 _ _ _ _) rfl (fun _ _ => ?_)
          refine J_st (st' := [.int (plF (misS σ u78 u79) u78 (4 : Int32).toInt)]) rfl ?_
          refine J_ws (ws' := OW G P (misS σ u78 u79) x92 ++ OW G R (misS σ u78 u79) x94) rfl ?_
          refine J_i ((by rw [show (4 : Int32).toInt = 4 from by decide] <;> rfl) : (plF (misS σ u78 u79) u78 (4 : Int32).toInt : Int32) = (nI ((misS σ u78 u79) 2 u78))) ?_
          refine J_i ((congrArg nI (misS_2 hbg)) : (nI ((misS σ u78 u79) 2 u78) : Int32) = (nI u79)) ?_
          refine J_iload C rfl dL_isStep_504 ?_
          refine J_icmp_ne C 513 (by decide) dL_isStep_506 (fun h => absurd (cv_ne_t (a := u79) (b := u79) (by omega) (by omega) h) (by omega)) (fun c506 => ?_)
          refine J_iconst C 1 (by decide) dL_isStep_509 ?_
          refine J_goto C 514 (by decide) dL_isStep_510 ?_
          exact J_zret C hr rfl dL_isStep_514 (misS σ u78 u79, x92, x94) rfl (hP.act (fun d h => (h.mis (by omega)).le (Nat.le_succ r)) (misS_4 _ _ _) hx93 hx95) rfl
        · skip
          have c484 := cv_ne_f (a := (σ 2 u78)) (b := 0) (by omega) (by omega) c484
          have hl9 := letAt_n (σ := σ) (j := u78) c484
          refine J_iload C rfl dL_isStep_487 ?_
          refine J_goto C 494 (by decide) dL_isStep_489 ?_
          refine J_icmp_ne C 513 (by decide) dL_isStep_494 (fun h => absurd (cv_ne_t (a := (letAt σ u78)) (b := (dueAt σ u78)) (by omega) (by omega) h) (by omega)) (fun c494 => ?_)
          refine J_aload_n C rfl dL_isStep_497 ?_
          refine J_iload C rfl dL_isStep_498 ?_
          refine J_iconst C 4 (by decide) dL_isStep_500 ?_
          refine J_V1 (as := [.int (nI u78), .int 4]) (rest := []) C NoX.b NoX.f (o_place l G P (misS σ u78 u79) x92 u78 4 (hx92).i (hx92).d (by rw [misS_4]; omega)) (OW G R (misS σ u78 u79) x94) (fun _ => OW_l2 _ _ _ _ _ _) 2 k434 k435 k436 k10 k437 rfl (by decide +kernel) ⟨Nat.le_of_ble_eq_true rfl, Nat.le_of_ble_eq_true rfl⟩ ⟨Nat.le_of_ble_eq_true rfl, Nat.le_of_ble_eq_true rfl⟩ dL_isStep_501 (Nat.le_of_ble_eq_true rfl) (OW_0 _ _ _ _) rfl (fun _ _ => ?_)
          refine J_st (st' := [.int (plF (misS σ u78 u79) u78 (4 : Int32).toInt)]) rfl ?_
          refine J_ws (ws' := OW G P (misS σ u78 u79) x92 ++ OW G R (misS σ u78 u79) x94) rfl ?_
          refine J_i ((by rw [show (4 : Int32).toInt = 4 from by decide] <;> rfl) : (plF (misS σ u78 u79) u78 (4 : Int32).toInt : Int32) = (nI ((misS σ u78 u79) 2 u78))) ?_
          refine J_i ((congrArg nI (misS_2 hbg)) : (nI ((misS σ u78 u79) 2 u78) : Int32) = (nI u79)) ?_
          refine J_iload C rfl dL_isStep_504 ?_
          refine J_icmp_ne C 513 (by decide) dL_isStep_506 (fun h => absurd (cv_ne_t (a := u79) (b := u79) (by omega) (by omega) h) (by omega)) (fun c506 => ?_)
          refine J_iconst C 1 (by decide) dL_isStep_509 ?_
          refine J_goto C 514 (by decide) dL_isStep_510 ?_
          exact J_zret C hr rfl dL_isStep_514 (misS σ u78 u79, x92, x94) rfl (hP.act (fun d h => (h.mis (by omega)).le (Nat.le_succ r)) (misS_4 _ _ _) hx93 hx95) rfl
  · skip
    refine J_i (y := 6) rfl ?_
    refine J_tableIn C 515 (by decide) (by decide) rfl (by decide) dL_isStep_18 ?_
    refine J_iload C rfl dL_isStep_515 ?_
    refine J_if_ne C 524 (by decide) dL_isStep_517 (fun c517 => ?_) (fun h => absurd (cv_ne_f (a := (σ 0 4)) (b := 0) (by omega) (by omega) h) (by omega))
    refine J_iload C rfl dL_isStep_524 ?_
    refine J_iload C rfl dL_isStep_526 ?_
    refine J_S0 (as := [.int w1, .int (nI (σ 0 4))]) (rest := []) C NoX.b NoX.f (ct_up l G w1 (σ 0 4) (by omega)) 2 k247 k248 k9 k249 rfl (by decide +kernel) ⟨Nat.le_of_ble_eq_true rfl, Nat.le_of_ble_eq_true rfl⟩ ⟨Nat.le_of_ble_eq_true rfl, Nat.le_of_ble_eq_true rfl⟩ dL_isStep_528 (Nat.le_of_ble_eq_true rfl) (fun u96 hu96 => ?_)
    refine J_st (st' := [.int (nI u96)]) rfl ?_
    refine J_ws (ws' := OW G P σ x ++ OW G R σ y) rfl ?_
    refine J_istore C [(6, .int (nI u96)), (5, .int (nI (σ 0 4))), (4, .int w1), (0, .ref P.1), (1, .ref R.1), (2, .int v), (3, .int w)] (by decide) rfl dL_isStep_531 ?_
    by_cases hcn : canP σ u96
    · skip
      refine J_aload_n C rfl dL_isStep_533 ?_
      by_cases hgd : goodP σ u96
      · skip
        refine J_iconst C 5 (by decide) dL_isStep_534 ?_
        refine J_V1 (as := [.int 5]) (rest := []) C NoX.b NoX.f (o_count l G P σ x 5 (hx).i (hx).d) (OW G R σ y) (fun _ => OW_l2 _ _ _ _ _ _) 1 k382 k383 k384 k10 k385 rfl (by decide +kernel) ⟨Nat.le_of_ble_eq_true rfl, Nat.le_of_ble_eq_true rfl⟩ ⟨Nat.le_of_ble_eq_true rfl, Nat.le_of_ble_eq_true rfl⟩ dL_isStep_535 (Nat.le_of_ble_eq_true rfl) (OW_0 _ _ _ _) rfl (fun _ _ => ?_)
        refine J_st (st' := [.int (cntF σ x.2.2.2.1.2.2.2 x.2.2.2.2.1.2 (5 : Int32).toInt)]) rfl ?_
        refine J_ws (ws' := OW G P σ x ++ OW G R σ y) rfl ?_
        refine J_i ((by rw [show (5 : Int32).toInt = 5 from by decide] <;> rfl) : (cntF σ x.2.2.2.1.2.2.2 x.2.2.2.2.1.2 (5 : Int32).toInt : Int32) = (nI (σ 7 2 - σ 0 5))) ?_
        have hdu := hx.i.due (p := u96) (by omega)
        have hcl := hcn.2.1
        refine J_istore C [(7, .int (nI (σ 7 2 - σ 0 5))), (6, .int (nI u96)), (5, .int (nI (σ 0 4))), (4, .int w1), (0, .ref P.1), (1, .ref R.1), (2, .int v), (3, .int w)] (by decide) rfl dL_isStep_538 ?_
        refine J_aload_n C rfl dL_isStep_540 ?_
        refine J_iload C rfl dL_isStep_541 ?_
        refine J_V1 (as := [.int (nI u96)]) (rest := []) C NoX.b NoX.f (o_cor l G P σ x u96 (hx).i (hx).d hVx (by omega)) (OW G R σ y) (fun _ => OW_l2 _ _ _ _ _ _) 1 k440 k441 k442 k10 k443 rfl (by decide +kernel) ⟨Nat.le_of_ble_eq_true rfl, Nat.le_of_ble_eq_true rfl⟩ ⟨Nat.le_of_ble_eq_true rfl, Nat.le_of_ble_eq_true rfl⟩ dL_isStep_543 (Nat.le_of_ble_eq_true rfl) (OW_0 _ _ _ _) rfl (fun x97 hx98 => ?_)
        refine J_st (st' := [.int (corR σ u96)]) rfl ?_
        refine J_ws (ws' := OW G P (corS σ u96) x97 ++ OW G R σ y) rfl ?_
        have hx97 : GV (r + 1) (corS σ u96) x97.1 := by rw [hx98.2.1]; exact hx.cor (by omega)
        refine J_i (((if_pos hcn).trans (if_pos hgd)) : (corR σ u96 : Int32) = (-5)) ?_
        refine J_istore C [(8, .int (-5)), (7, .int (nI (σ 7 2 - σ 0 5))), (6, .int (nI u96)), (5, .int (nI (σ 0 4))), (4, .int w1), (0, .ref P.1), (1, .ref R.1), (2, .int v), (3, .int w)] (by decide) rfl dL_isStep_546 ?_
        refine J_iload C rfl dL_isStep_548 ?_
        refine J_aload_n C rfl dL_isStep_550 ?_
        refine J_iload C rfl dL_isStep_551 ?_
        refine J_V2 (as := [.int (nI u96)]) (rest := [.int (-5)]) C NoX.b NoX.f (o_cor l G R σ y u96 (hy).i (hy).d hVy (by omega)) (OW G P (corS σ u96) x97) (fun _ => OW_l2 _ _ _ _ _ _) 1 k440 k441 k442 k10 k443 rfl (by decide +kernel) ⟨Nat.le_of_ble_eq_true rfl, Nat.le_of_ble_eq_true rfl⟩ ⟨Nat.le_of_ble_eq_true rfl, Nat.le_of_ble_eq_true rfl⟩ dL_isStep_553 (Nat.le_of_ble_eq_true rfl) (OW_0 _ _ _ _) rfl (fun x99 hx100 => ?_)
        refine J_st (st' := [.int (corR σ u96), .int (-5)]) rfl ?_
        refine J_ws (ws' := OW G P (corS σ u96) x97 ++ OW G R (corS σ u96) x99) rfl ?_
        have hx99 : GV (r + 1) (corS σ u96) x99.1 := by rw [hx100.2.1]; exact hy.cor (by omega)
        refine J_i (((if_pos hcn).trans (if_pos hgd)) : (corR σ u96 : Int32) = (-5)) ?_
        refine J_icmp_ne C 615 (by decide) dL_isStep_556 (fun h => absurd h (by decide)) (fun _ => ?_)
        refine J_iload C rfl dL_isStep_559 ?_
        refine J_if_lt C 611 (by decide) dL_isStep_561 (fun _ => ?_) (fun h => absurd h (by decide))
        refine J_iconst C 1 (by decide) dL_isStep_611 ?_
        refine J_goto C 616 (by decide) dL_isStep_612 ?_
        exact J_zret C hr rfl dL_isStep_616 (corS σ u96, x97, x99) rfl (hP.act (fun d h => (by exact (h.cor (by omega)).le (Nat.le_succ r))) (corS_4 _ _) hx98 hx100) rfl
      · skip
        refine J_iconst C 5 (by decide) dL_isStep_534 ?_
        refine J_V1 (as := [.int 5]) (rest := []) C NoX.b NoX.f (o_count l G P σ x 5 (hx).i (hx).d) (OW G R σ y) (fun _ => OW_l2 _ _ _ _ _ _) 1 k382 k383 k384 k10 k385 rfl (by decide +kernel) ⟨Nat.le_of_ble_eq_true rfl, Nat.le_of_ble_eq_true rfl⟩ ⟨Nat.le_of_ble_eq_true rfl, Nat.le_of_ble_eq_true rfl⟩ dL_isStep_535 (Nat.le_of_ble_eq_true rfl) (OW_0 _ _ _ _) rfl (fun _ _ => ?_)
        refine J_st (st' := [.int (cntF σ x.2.2.2.1.2.2.2 x.2.2.2.2.1.2 (5 : Int32).toInt)]) rfl ?_
        refine J_ws (ws' := OW G P σ x ++ OW G R σ y) rfl ?_
        refine J_i ((by rw [show (5 : Int32).toInt = 5 from by decide] <;> rfl) : (cntF σ x.2.2.2.1.2.2.2 x.2.2.2.2.1.2 (5 : Int32).toInt : Int32) = (nI (σ 7 2 - σ 0 5))) ?_
        have hdu := hx.i.due (p := u96) (by omega)
        have hcl := hcn.2.1
        refine J_istore C [(7, .int (nI (σ 7 2 - σ 0 5))), (6, .int (nI u96)), (5, .int (nI (σ 0 4))), (4, .int w1), (0, .ref P.1), (1, .ref R.1), (2, .int v), (3, .int w)] (by decide) rfl dL_isStep_538 ?_
        refine J_aload_n C rfl dL_isStep_540 ?_
        refine J_iload C rfl dL_isStep_541 ?_
        refine J_V1 (as := [.int (nI u96)]) (rest := []) C NoX.b NoX.f (o_cor l G P σ x u96 (hx).i (hx).d hVx (by omega)) (OW G R σ y) (fun _ => OW_l2 _ _ _ _ _ _) 1 k440 k441 k442 k10 k443 rfl (by decide +kernel) ⟨Nat.le_of_ble_eq_true rfl, Nat.le_of_ble_eq_true rfl⟩ ⟨Nat.le_of_ble_eq_true rfl, Nat.le_of_ble_eq_true rfl⟩ dL_isStep_543 (Nat.le_of_ble_eq_true rfl) (OW_0 _ _ _ _) rfl (fun x101 hx102 => ?_)
        refine J_st (st' := [.int (corR σ u96)]) rfl ?_
        refine J_ws (ws' := OW G P (corS σ u96) x101 ++ OW G R σ y) rfl ?_
        have hx101 : GV (r + 1) (corS σ u96) x101.1 := by rw [hx102.2.1]; exact hx.cor (by omega)
        refine J_i (((if_pos hcn).trans (if_neg hgd)) : (corR σ u96 : Int32) = (nI (σ 7 2 - (σ 0 5 + 1)))) ?_
        refine J_istore C [(8, .int (nI (σ 7 2 - (σ 0 5 + 1)))), (7, .int (nI (σ 7 2 - σ 0 5))), (6, .int (nI u96)), (5, .int (nI (σ 0 4))), (4, .int w1), (0, .ref P.1), (1, .ref R.1), (2, .int v), (3, .int w)] (by decide) rfl dL_isStep_546 ?_
        refine J_iload C rfl dL_isStep_548 ?_
        refine J_aload_n C rfl dL_isStep_550 ?_
        refine J_iload C rfl dL_isStep_551 ?_
        refine J_V2 (as := [.int (nI u96)]) (rest := [.int (nI (σ 7 2 - (σ 0 5 + 1)))]) C NoX.b NoX.f (o_cor l G R σ y u96 (hy).i (hy).d hVy (by omega)) (OW G P (corS σ u96) x101) (fun _ => OW_l2 _ _ _ _ _ _) 1 k440 k441 k442 k10 k443 rfl (by decide +kernel) ⟨Nat.le_of_ble_eq_true rfl, Nat.le_of_ble_eq_true rfl⟩ ⟨Nat.le_of_ble_eq_true rfl, Nat.le_of_ble_eq_true rfl⟩ dL_isStep_553 (Nat.le_of_ble_eq_true rfl) (OW_0 _ _ _ _) rfl (fun x103 hx104 => ?_)
        refine J_st (st' := [.int (corR σ u96), .int (nI (σ 7 2 - (σ 0 5 + 1)))]) rfl ?_
        refine J_ws (ws' := OW G P (corS σ u96) x101 ++ OW G R (corS σ u96) x103) rfl ?_
        have hx103 : GV (r + 1) (corS σ u96) x103.1 := by rw [hx104.2.1]; exact hy.cor (by omega)
        refine J_i (((if_pos hcn).trans (if_neg hgd)) : (corR σ u96 : Int32) = (nI (σ 7 2 - (σ 0 5 + 1)))) ?_
        refine J_icmp_ne C 615 (by decide) dL_isStep_556 (fun h => absurd (cv_ne_t (a := (σ 7 2 - (σ 0 5 + 1))) (b := (σ 7 2 - (σ 0 5 + 1))) (by omega) (by omega) h) (by omega)) (fun c556 => ?_)
        refine J_iload C rfl dL_isStep_559 ?_
        refine J_if_lt C 611 (by decide) dL_isStep_561 (fun h => absurd h (nI_pos (by omega))) (fun _ => ?_)
        refine J_iload C rfl dL_isStep_564 ?_
        refine J_iload C rfl dL_isStep_566 ?_
        refine J_iconst C 1 (by decide) dL_isStep_568 ?_
        refine J_isub C dL_isStep_569 ?_
        refine J_i (pk_sub (a := σ 7 2 - σ 0 5) (b := 1) (by omega) : ((nI (σ 7 2 - σ 0 5)) - 1 : Int32) = (nI ((σ 7 2 - σ 0 5) - 1))) ?_
        refine J_icmp_ne C 615 (by decide) dL_isStep_570 (fun h => absurd (cv_ne_t (a := (σ 7 2 - (σ 0 5 + 1))) (b := ((σ 7 2 - σ 0 5) - 1)) (by omega) (by omega) h) (by omega)) (fun c570 => ?_)
        have hco : corS σ u96 = corF σ u96 := if_pos ⟨hcn, hgd⟩
        have hx101c : GV (r + 1) (corF σ u96) x101.1 := by rw [← hco]; exact hx101
        have hx103c : GV (r + 1) (corF σ u96) x103.1 := by rw [← hco]; exact hx103
        refine J_ws (ws' := OW G P (corF σ u96) x101 ++ OW G R (corF σ u96) x103) (by rw [hco]) ?_
        refine J_aload_n C rfl dL_isStep_573 ?_
        refine J_iload C rfl dL_isStep_574 ?_
        refine J_iconst C 1 (by decide) dL_isStep_576 ?_
        refine J_V1 (as := [.int (nI u96), .int 1]) (rest := []) C NoX.b NoX.f (o_place l G P (corF σ u96) x101 u96 1 (hx101c).i (hx101c).d (show u96 < σ 0 4 from by omega)) (OW G R (corF σ u96) x103) (fun _ => OW_l2 _ _ _ _ _ _) 2 k434 k435 k436 k10 k437 rfl (by decide +kernel) ⟨Nat.le_of_ble_eq_true rfl, Nat.le_of_ble_eq_true rfl⟩ ⟨Nat.le_of_ble_eq_true rfl, Nat.le_of_ble_eq_true rfl⟩ dL_isStep_577 (Nat.le_of_ble_eq_true rfl) (OW_0 _ _ _ _) rfl (fun _ _ => ?_)
        refine J_st (st' := [.int (plF (corF σ u96) u96 (1 : Int32).toInt)]) rfl ?_
        refine J_ws (ws' := OW G P (corF σ u96) x101 ++ OW G R (corF σ u96) x103) rfl ?_
        refine J_i ((by rw [show (1 : Int32).toInt = 1 from by decide] <;> rfl) : (plF (corF σ u96) u96 (1 : Int32).toInt : Int32) = (nI ((corF σ u96) 3 u96))) ?_
        refine J_i ((by rw [corF_3]) : (nI ((corF σ u96) 3 u96) : Int32) = (nI (dueAt σ u96))) ?_
        refine J_aload_n C rfl dL_isStep_580 ?_
        refine J_iload C rfl dL_isStep_581 ?_
        refine J_iconst C 0 (by decide) dL_isStep_583 ?_
        refine J_V1 (as := [.int (nI u96), .int 0]) (rest := [.int (nI (dueAt σ u96))]) C NoX.b NoX.f (o_place l G P (corF σ u96) x101 u96 0 (hx101c).i (hx101c).d (show u96 < σ 0 4 from by omega)) (OW G R (corF σ u96) x103) (fun _ => OW_l2 _ _ _ _ _ _) 2 k434 k435 k436 k10 k437 rfl (by decide +kernel) ⟨Nat.le_of_ble_eq_true rfl, Nat.le_of_ble_eq_true rfl⟩ ⟨Nat.le_of_ble_eq_true rfl, Nat.le_of_ble_eq_true rfl⟩ dL_isStep_584 (Nat.le_of_ble_eq_true rfl) (OW_0 _ _ _ _) rfl (fun _ _ => ?_)
        refine J_st (st' := [.int (plF (corF σ u96) u96 (0 : Int32).toInt), .int (nI (dueAt σ u96))]) rfl ?_
        refine J_ws (ws' := OW G P (corF σ u96) x101 ++ OW G R (corF σ u96) x103) rfl ?_
        refine J_i ((by rw [show (0 : Int32).toInt = 0 from by decide] <;> rfl) : (plF (corF σ u96) u96 (0 : Int32).toInt : Int32) = (nI (dueAt (corF σ u96) u96))) ?_
        refine J_i ((by rw [corF_d]) : (nI (dueAt (corF σ u96) u96) : Int32) = (nI (dueAt σ u96))) ?_
        refine J_icmp_ne C 615 (by decide) dL_isStep_587 (fun h => absurd (cv_ne_t (a := (dueAt σ u96)) (b := (dueAt σ u96)) (by omega) (by omega) h) (by omega)) (fun c587 => ?_)
        refine J_aload_n C rfl dL_isStep_590 ?_
        refine J_iload C rfl dL_isStep_591 ?_
        refine J_iconst C 2 (by decide) dL_isStep_593 ?_
        refine J_V1 (as := [.int (nI u96), .int 2]) (rest := []) C NoX.b NoX.f (o_place l G P (corF σ u96) x101 u96 2 (hx101c).i (hx101c).d (show u96 < σ 0 4 from by omega)) (OW G R (corF σ u96) x103) (fun _ => OW_l2 _ _ _ _ _ _) 2 k434 k435 k436 k10 k437 rfl (by decide +kernel) ⟨Nat.le_of_ble_eq_true rfl, Nat.le_of_ble_eq_true rfl⟩ ⟨Nat.le_of_ble_eq_true rfl, Nat.le_of_ble_eq_true rfl⟩ dL_isStep_594 (Nat.le_of_ble_eq_true rfl) (OW_0 _ _ _ _) rfl (fun _ _ => ?_)
        refine J_st (st' := [.int (plF (corF σ u96) u96 (2 : Int32).toInt)]) rfl ?_
        refine J_ws (ws' := OW G P (corF σ u96) x101 ++ OW G R (corF σ u96) x103) rfl ?_
        refine J_i ((by rw [show (2 : Int32).toInt = 2 from by decide] <;> rfl) : (plF (corF σ u96) u96 (2 : Int32).toInt : Int32) = (nI ((corF σ u96) 4 u96))) ?_
        refine J_i ((by rw [corF_4] <;> rfl) : (nI ((corF σ u96) 4 u96) : Int32) = 0) ?_
        refine J_if_ne C 615 (by decide) dL_isStep_597 (fun h => absurd h (by decide)) (fun _ => ?_)
        refine J_aload_n C rfl dL_isStep_600 ?_
        refine J_iload C rfl dL_isStep_601 ?_
        refine J_iconst C 3 (by decide) dL_isStep_603 ?_
        refine J_V1 (as := [.int (nI u96), .int 3]) (rest := []) C NoX.b NoX.f (o_place l G P (corF σ u96) x101 u96 3 (hx101c).i (hx101c).d (show u96 < σ 0 4 from by omega)) (OW G R (corF σ u96) x103) (fun _ => OW_l2 _ _ _ _ _ _) 2 k434 k435 k436 k10 k437 rfl (by decide +kernel) ⟨Nat.le_of_ble_eq_true rfl, Nat.le_of_ble_eq_true rfl⟩ ⟨Nat.le_of_ble_eq_true rfl, Nat.le_of_ble_eq_true rfl⟩ dL_isStep_604 (Nat.le_of_ble_eq_true rfl) (OW_0 _ _ _ _) rfl (fun _ _ => ?_)
        refine J_st (st' := [.int (plF (corF σ u96) u96 (3 : Int32).toInt)]) rfl ?_
        refine J_ws (ws' := OW G P (corF σ u96) x101 ++ OW G R (corF σ u96) x103) rfl ?_
        refine J_i ((by rw [show (3 : Int32).toInt = 3 from by decide] <;> rfl) : (plF (corF σ u96) u96 (3 : Int32).toInt : Int32) = (nI ((corF σ u96) 5 u96))) ?_
        refine J_i ((by rw [corF_5] <;> rfl) : (nI ((corF σ u96) 5 u96) : Int32) = 1) ?_
        refine J_iconst C 1 (by decide) dL_isStep_607 ?_
        refine J_icmp_ne C 615 (by decide) dL_isStep_608 (fun h => absurd h (by decide)) (fun _ => ?_)
        refine J_iconst C 1 (by decide) dL_isStep_611 ?_
        refine J_goto C 616 (by decide) dL_isStep_612 ?_
        exact J_zret C hr rfl dL_isStep_616 (corF σ u96, x101, x103) rfl (hP.act (fun d h => (by rw [← hco]; exact (h.cor (by omega)).le (Nat.le_succ r))) rfl hx102 hx104) rfl
    · skip
      refine J_aload_n C rfl dL_isStep_533 ?_
      refine J_iconst C 5 (by decide) dL_isStep_534 ?_
      refine J_V1 (as := [.int 5]) (rest := []) C NoX.b NoX.f (o_count l G P σ x 5 (hx).i (hx).d) (OW G R σ y) (fun _ => OW_l2 _ _ _ _ _ _) 1 k382 k383 k384 k10 k385 rfl (by decide +kernel) ⟨Nat.le_of_ble_eq_true rfl, Nat.le_of_ble_eq_true rfl⟩ ⟨Nat.le_of_ble_eq_true rfl, Nat.le_of_ble_eq_true rfl⟩ dL_isStep_535 (Nat.le_of_ble_eq_true rfl) (OW_0 _ _ _ _) rfl (fun _ _ => ?_)
      refine J_st (st' := [.int (cntF σ x.2.2.2.1.2.2.2 x.2.2.2.2.1.2 (5 : Int32).toInt)]) rfl ?_
      refine J_ws (ws' := OW G P σ x ++ OW G R σ y) rfl ?_
      refine J_i ((by rw [show (5 : Int32).toInt = 5 from by decide] <;> rfl) : (cntF σ x.2.2.2.1.2.2.2 x.2.2.2.2.1.2 (5 : Int32).toInt : Int32) = (nI (σ 7 2 - σ 0 5))) ?_
      have hdu := hx.i.due (p := u96) (by omega)
      refine J_istore C [(7, .int (nI (σ 7 2 - σ 0 5))), (6, .int (nI u96)), (5, .int (nI (σ 0 4))), (4, .int w1), (0, .ref P.1), (1, .ref R.1), (2, .int v), (3, .int w)] (by decide) rfl dL_isStep_538 ?_
      refine J_aload_n C rfl dL_isStep_540 ?_
      refine J_iload C rfl dL_isStep_541 ?_
      refine J_V1 (as := [.int (nI u96)]) (rest := []) C NoX.b NoX.f (o_cor l G P σ x u96 (hx).i (hx).d hVx (by omega)) (OW G R σ y) (fun _ => OW_l2 _ _ _ _ _ _) 1 k440 k441 k442 k10 k443 rfl (by decide +kernel) ⟨Nat.le_of_ble_eq_true rfl, Nat.le_of_ble_eq_true rfl⟩ ⟨Nat.le_of_ble_eq_true rfl, Nat.le_of_ble_eq_true rfl⟩ dL_isStep_543 (Nat.le_of_ble_eq_true rfl) (OW_0 _ _ _ _) rfl (fun x105 hx106 => ?_)
      refine J_st (st' := [.int (corR σ u96)]) rfl ?_
      refine J_ws (ws' := OW G P (corS σ u96) x105 ++ OW G R σ y) rfl ?_
      have hx105 : GV (r + 1) (corS σ u96) x105.1 := by rw [hx106.2.1]; exact hx.cor (by omega)
      refine J_i ((if_neg hcn) : (corR σ u96 : Int32) = (-4)) ?_
      refine J_istore C [(8, .int (-4)), (7, .int (nI (σ 7 2 - σ 0 5))), (6, .int (nI u96)), (5, .int (nI (σ 0 4))), (4, .int w1), (0, .ref P.1), (1, .ref R.1), (2, .int v), (3, .int w)] (by decide) rfl dL_isStep_546 ?_
      refine J_iload C rfl dL_isStep_548 ?_
      refine J_aload_n C rfl dL_isStep_550 ?_
      refine J_iload C rfl dL_isStep_551 ?_
      refine J_V2 (as := [.int (nI u96)]) (rest := [.int (-4)]) C NoX.b NoX.f (o_cor l G R σ y u96 (hy).i (hy).d hVy (by omega)) (OW G P (corS σ u96) x105) (fun _ => OW_l2 _ _ _ _ _ _) 1 k440 k441 k442 k10 k443 rfl (by decide +kernel) ⟨Nat.le_of_ble_eq_true rfl, Nat.le_of_ble_eq_true rfl⟩ ⟨Nat.le_of_ble_eq_true rfl, Nat.le_of_ble_eq_true rfl⟩ dL_isStep_553 (Nat.le_of_ble_eq_true rfl) (OW_0 _ _ _ _) rfl (fun x107 hx108 => ?_)
      refine J_st (st' := [.int (corR σ u96), .int (-4)]) rfl ?_
      refine J_ws (ws' := OW G P (corS σ u96) x105 ++ OW G R (corS σ u96) x107) rfl ?_
      have hx107 : GV (r + 1) (corS σ u96) x107.1 := by rw [hx108.2.1]; exact hy.cor (by omega)
      refine J_i ((if_neg hcn) : (corR σ u96 : Int32) = (-4)) ?_
      refine J_icmp_ne C 615 (by decide) dL_isStep_556 (fun h => absurd h (by decide)) (fun _ => ?_)
      refine J_iload C rfl dL_isStep_559 ?_
      refine J_if_lt C 611 (by decide) dL_isStep_561 (fun _ => ?_) (fun h => absurd h (by decide))
      refine J_iconst C 1 (by decide) dL_isStep_611 ?_
      refine J_goto C 616 (by decide) dL_isStep_612 ?_
      exact J_zret C hr rfl dL_isStep_616 (corS σ u96, x105, x107) rfl (hP.act (fun d h => (by exact (h.cor (by omega)).le (Nat.le_succ r))) (corS_4 _ _) hx106 hx108) rfl
  · skip
    refine J_i (y := 7) rfl ?_
    refine J_tableIn C 515 (by decide) (by decide) rfl (by decide) dL_isStep_18 ?_
    refine J_iload C rfl dL_isStep_515 ?_
    refine J_if_ne C 524 (by decide) dL_isStep_517 (fun c517 => ?_) (fun h => absurd (cv_ne_f (a := (σ 0 4)) (b := 0) (by omega) (by omega) h) (by omega))
    refine J_iload C rfl dL_isStep_524 ?_
    refine J_iload C rfl dL_isStep_526 ?_
    refine J_S0 (as := [.int w1, .int (nI (σ 0 4))]) (rest := []) C NoX.b NoX.f (ct_up l G w1 (σ 0 4) (by omega)) 2 k247 k248 k9 k249 rfl (by decide +kernel) ⟨Nat.le_of_ble_eq_true rfl, Nat.le_of_ble_eq_true rfl⟩ ⟨Nat.le_of_ble_eq_true rfl, Nat.le_of_ble_eq_true rfl⟩ dL_isStep_528 (Nat.le_of_ble_eq_true rfl) (fun u109 hu109 => ?_)
    refine J_st (st' := [.int (nI u109)]) rfl ?_
    refine J_ws (ws' := OW G P σ x ++ OW G R σ y) rfl ?_
    refine J_istore C [(6, .int (nI u109)), (5, .int (nI (σ 0 4))), (4, .int w1), (0, .ref P.1), (1, .ref R.1), (2, .int v), (3, .int w)] (by decide) rfl dL_isStep_531 ?_
    by_cases hcn : canP σ u109
    · skip
      refine J_aload_n C rfl dL_isStep_533 ?_
      by_cases hgd : goodP σ u109
      · skip
        refine J_iconst C 5 (by decide) dL_isStep_534 ?_
        refine J_V1 (as := [.int 5]) (rest := []) C NoX.b NoX.f (o_count l G P σ x 5 (hx).i (hx).d) (OW G R σ y) (fun _ => OW_l2 _ _ _ _ _ _) 1 k382 k383 k384 k10 k385 rfl (by decide +kernel) ⟨Nat.le_of_ble_eq_true rfl, Nat.le_of_ble_eq_true rfl⟩ ⟨Nat.le_of_ble_eq_true rfl, Nat.le_of_ble_eq_true rfl⟩ dL_isStep_535 (Nat.le_of_ble_eq_true rfl) (OW_0 _ _ _ _) rfl (fun _ _ => ?_)
        refine J_st (st' := [.int (cntF σ x.2.2.2.1.2.2.2 x.2.2.2.2.1.2 (5 : Int32).toInt)]) rfl ?_
        refine J_ws (ws' := OW G P σ x ++ OW G R σ y) rfl ?_
        refine J_i ((by rw [show (5 : Int32).toInt = 5 from by decide] <;> rfl) : (cntF σ x.2.2.2.1.2.2.2 x.2.2.2.2.1.2 (5 : Int32).toInt : Int32) = (nI (σ 7 2 - σ 0 5))) ?_
        have hdu := hx.i.due (p := u109) (by omega)
        have hcl := hcn.2.1
        refine J_istore C [(7, .int (nI (σ 7 2 - σ 0 5))), (6, .int (nI u109)), (5, .int (nI (σ 0 4))), (4, .int w1), (0, .ref P.1), (1, .ref R.1), (2, .int v), (3, .int w)] (by decide) rfl dL_isStep_538 ?_
        refine J_aload_n C rfl dL_isStep_540 ?_
        refine J_iload C rfl dL_isStep_541 ?_
        refine J_V1 (as := [.int (nI u109)]) (rest := []) C NoX.b NoX.f (o_cor l G P σ x u109 (hx).i (hx).d hVx (by omega)) (OW G R σ y) (fun _ => OW_l2 _ _ _ _ _ _) 1 k440 k441 k442 k10 k443 rfl (by decide +kernel) ⟨Nat.le_of_ble_eq_true rfl, Nat.le_of_ble_eq_true rfl⟩ ⟨Nat.le_of_ble_eq_true rfl, Nat.le_of_ble_eq_true rfl⟩ dL_isStep_543 (Nat.le_of_ble_eq_true rfl) (OW_0 _ _ _ _) rfl (fun x110 hx111 => ?_)
        refine J_st (st' := [.int (corR σ u109)]) rfl ?_
        refine J_ws (ws' := OW G P (corS σ u109) x110 ++ OW G R σ y) rfl ?_
        have hx110 : GV (r + 1) (corS σ u109) x110.1 := by rw [hx111.2.1]; exact hx.cor (by omega)
        refine J_i (((if_pos hcn).trans (if_pos hgd)) : (corR σ u109 : Int32) = (-5)) ?_
        refine J_istore C [(8, .int (-5)), (7, .int (nI (σ 7 2 - σ 0 5))), (6, .int (nI u109)), (5, .int (nI (σ 0 4))), (4, .int w1), (0, .ref P.1), (1, .ref R.1), (2, .int v), (3, .int w)] (by decide) rfl dL_isStep_546 ?_
        refine J_iload C rfl dL_isStep_548 ?_
        refine J_aload_n C rfl dL_isStep_550 ?_
        refine J_iload C rfl dL_isStep_551 ?_
        refine J_V2 (as := [.int (nI u109)]) (rest := [.int (-5)]) C NoX.b NoX.f (o_cor l G R σ y u109 (hy).i (hy).d hVy (by omega)) (OW G P (corS σ u109) x110) (fun _ => OW_l2 _ _ _ _ _ _) 1 k440 k441 k442 k10 k443 rfl (by decide +kernel) ⟨Nat.le_of_ble_eq_true rfl, Nat.le_of_ble_eq_true rfl⟩ ⟨Nat.le_of_ble_eq_true rfl, Nat.le_of_ble_eq_true rfl⟩ dL_isStep_553 (Nat.le_of_ble_eq_true rfl) (OW_0 _ _ _ _) rfl (fun x112 hx113 => ?_)
        refine J_st (st' := [.int (corR σ u109), .int (-5)]) rfl ?_
        refine J_ws (ws' := OW G P (corS σ u109) x110 ++ OW G R (corS σ u109) x112) rfl ?_
        have hx112 : GV (r + 1) (corS σ u109) x112.1 := by rw [hx113.2.1]; exact hy.cor (by omega)
        refine J_i (((if_pos hcn).trans (if_pos hgd)) : (corR σ u109 : Int32) = (-5)) ?_
        refine J_icmp_ne C 615 (by decide) dL_isStep_556 (fun h => absurd h (by decide)) (fun _ => ?_)
        refine J_iload C rfl dL_isStep_559 ?_
        refine J_if_lt C 611 (by decide) dL_isStep_561 (fun _ => ?_) (fun h => absurd h (by decide))
        refine J_iconst C 1 (by decide) dL_isStep_611 ?_
        refine J_goto C 616 (by decide) dL_isStep_612 ?_
        exact J_zret C hr rfl dL_isStep_616 (corS σ u109, x110, x112) rfl (hP.act (fun d h => (by exact (h.cor (by omega)).le (Nat.le_succ r))) (corS_4 _ _) hx111 hx113) rfl
      · skip
        refine J_iconst C 5 (by decide) dL_isStep_534 ?_
        refine J_V1 (as := [.int 5]) (rest := []) C NoX.b NoX.f (o_count l G P σ x 5 (hx).i (hx).d) (OW G R σ y) (fun _ => OW_l2 _ _ _ _ _ _) 1 k382 k383 k384 k10 k385 rfl (by decide +kernel) ⟨Nat.le_of_ble_eq_true rfl, Nat.le_of_ble_eq_true rfl⟩ ⟨Nat.le_of_ble_eq_true rfl, Nat.le_of_ble_eq_true rfl⟩ dL_isStep_535 (Nat.le_of_ble_eq_true rfl) (OW_0 _ _ _ _) rfl (fun _ _ => ?_)
        refine J_st (st' := [.int (cntF σ x.2.2.2.1.2.2.2 x.2.2.2.2.1.2 (5 : Int32).toInt)]) rfl ?_
        refine J_ws (ws' := OW G P σ x ++ OW G R σ y) rfl ?_
        refine J_i ((by rw [show (5 : Int32).toInt = 5 from by decide] <;> rfl) : (cntF σ x.2.2.2.1.2.2.2 x.2.2.2.2.1.2 (5 : Int32).toInt : Int32) = (nI (σ 7 2 - σ 0 5))) ?_
        have hdu := hx.i.due (p := u109) (by omega)
        have hcl := hcn.2.1
        refine J_istore C [(7, .int (nI (σ 7 2 - σ 0 5))), (6, .int (nI u109)), (5, .int (nI (σ 0 4))), (4, .int w1), (0, .ref P.1), (1, .ref R.1), (2, .int v), (3, .int w)] (by decide) rfl dL_isStep_538 ?_
        refine J_aload_n C rfl dL_isStep_540 ?_
        refine J_iload C rfl dL_isStep_541 ?_
        refine J_V1 (as := [.int (nI u109)]) (rest := []) C NoX.b NoX.f (o_cor l G P σ x u109 (hx).i (hx).d hVx (by omega)) (OW G R σ y) (fun _ => OW_l2 _ _ _ _ _ _) 1 k440 k441 k442 k10 k443 rfl (by decide +kernel) ⟨Nat.le_of_ble_eq_true rfl, Nat.le_of_ble_eq_true rfl⟩ ⟨Nat.le_of_ble_eq_true rfl, Nat.le_of_ble_eq_true rfl⟩ dL_isStep_543 (Nat.le_of_ble_eq_true rfl) (OW_0 _ _ _ _) rfl (fun x114 hx115 => ?_)
        refine J_st (st' := [.int (corR σ u109)]) rfl ?_
        refine J_ws (ws' := OW G P (corS σ u109) x114 ++ OW G R σ y) rfl ?_
        have hx114 : GV (r + 1) (corS σ u109) x114.1 := by rw [hx115.2.1]; exact hx.cor (by omega)
        refine J_i (((if_pos hcn).trans (if_neg hgd)) : (corR σ u109 : Int32) = (nI (σ 7 2 - (σ 0 5 + 1)))) ?_
        refine J_istore C [(8, .int (nI (σ 7 2 - (σ 0 5 + 1)))), (7, .int (nI (σ 7 2 - σ 0 5))), (6, .int (nI u109)), (5, .int (nI (σ 0 4))), (4, .int w1), (0, .ref P.1), (1, .ref R.1), (2, .int v), (3, .int w)] (by decide) rfl dL_isStep_546 ?_
        refine J_iload C rfl dL_isStep_548 ?_
        refine J_aload_n C rfl dL_isStep_550 ?_
        refine J_iload C rfl dL_isStep_551 ?_
        refine J_V2 (as := [.int (nI u109)]) (rest := [.int (nI (σ 7 2 - (σ 0 5 + 1)))]) C NoX.b NoX.f (o_cor l G R σ y u109 (hy).i (hy).d hVy (by omega)) (OW G P (corS σ u109) x114) (fun _ => OW_l2 _ _ _ _ _ _) 1 k440 k441 k442 k10 k443 rfl (by decide +kernel) ⟨Nat.le_of_ble_eq_true rfl, Nat.le_of_ble_eq_true rfl⟩ ⟨Nat.le_of_ble_eq_true rfl, Nat.le_of_ble_eq_true rfl⟩ dL_isStep_553 (Nat.le_of_ble_eq_true rfl) (OW_0 _ _ _ _) rfl (fun x116 hx117 => ?_)
        refine J_st (st' := [.int (corR σ u109), .int (nI (σ 7 2 - (σ 0 5 + 1)))]) rfl ?_
        refine J_ws (ws' := OW G P (corS σ u109) x114 ++ OW G R (corS σ u109) x116) rfl ?_
        have hx116 : GV (r + 1) (corS σ u109) x116.1 := by rw [hx117.2.1]; exact hy.cor (by omega)
        refine J_i (((if_pos hcn).trans (if_neg hgd)) : (corR σ u109 : Int32) = (nI (σ 7 2 - (σ 0 5 + 1)))) ?_
        refine J_icmp_ne C 615 (by decide) dL_isStep_556 (fun h => absurd (cv_ne_t (a := (σ 7 2 - (σ 0 5 + 1))) (b := (σ 7 2 - (σ 0 5 + 1))) (by omega) (by omega) h) (by omega)) (fun c556 => ?_)
        refine J_iload C rfl dL_isStep_559 ?_
        refine J_if_lt C 611 (by decide) dL_isStep_561 (fun h => absurd h (nI_pos (by omega))) (fun _ => ?_)
        refine J_iload C rfl dL_isStep_564 ?_
        refine J_iload C rfl dL_isStep_566 ?_
        refine J_iconst C 1 (by decide) dL_isStep_568 ?_
        refine J_isub C dL_isStep_569 ?_
        refine J_i (pk_sub (a := σ 7 2 - σ 0 5) (b := 1) (by omega) : ((nI (σ 7 2 - σ 0 5)) - 1 : Int32) = (nI ((σ 7 2 - σ 0 5) - 1))) ?_
        refine J_icmp_ne C 615 (by decide) dL_isStep_570 (fun h => absurd (cv_ne_t (a := (σ 7 2 - (σ 0 5 + 1))) (b := ((σ 7 2 - σ 0 5) - 1)) (by omega) (by omega) h) (by omega)) (fun c570 => ?_)
        have hco : corS σ u109 = corF σ u109 := if_pos ⟨hcn, hgd⟩
        have hx114c : GV (r + 1) (corF σ u109) x114.1 := by rw [← hco]; exact hx114
        have hx116c : GV (r + 1) (corF σ u109) x116.1 := by rw [← hco]; exact hx116
        refine J_ws (ws' := OW G P (corF σ u109) x114 ++ OW G R (corF σ u109) x116) (by rw [hco]) ?_
        refine J_aload_n C rfl dL_isStep_573 ?_
        refine J_iload C rfl dL_isStep_574 ?_
        refine J_iconst C 1 (by decide) dL_isStep_576 ?_
        refine J_V1 (as := [.int (nI u109), .int 1]) (rest := []) C NoX.b NoX.f (o_place l G P (corF σ u109) x114 u109 1 (hx114c).i (hx114c).d (show u109 < σ 0 4 from by omega)) (OW G R (corF σ u109) x116) (fun _ => OW_l2 _ _ _ _ _ _) 2 k434 k435 k436 k10 k437 rfl (by decide +kernel) ⟨Nat.le_of_ble_eq_true rfl, Nat.le_of_ble_eq_true rfl⟩ ⟨Nat.le_of_ble_eq_true rfl, Nat.le_of_ble_eq_true rfl⟩ dL_isStep_577 (Nat.le_of_ble_eq_true rfl) (OW_0 _ _ _ _) rfl (fun _ _ => ?_)
        refine J_st (st' := [.int (plF (corF σ u109) u109 (1 : Int32).toInt)]) rfl ?_
        refine J_ws (ws' := OW G P (corF σ u109) x114 ++ OW G R (corF σ u109) x116) rfl ?_
        refine J_i ((by rw [show (1 : Int32).toInt = 1 from by decide] <;> rfl) : (plF (corF σ u109) u109 (1 : Int32).toInt : Int32) = (nI ((corF σ u109) 3 u109))) ?_
        refine J_i ((by rw [corF_3]) : (nI ((corF σ u109) 3 u109) : Int32) = (nI (dueAt σ u109))) ?_
        refine J_aload_n C rfl dL_isStep_580 ?_
        refine J_iload C rfl dL_isStep_581 ?_
        refine J_iconst C 0 (by decide) dL_isStep_583 ?_
        refine J_V1 (as := [.int (nI u109), .int 0]) (rest := [.int (nI (dueAt σ u109))]) C NoX.b NoX.f (o_place l G P (corF σ u109) x114 u109 0 (hx114c).i (hx114c).d (show u109 < σ 0 4 from by omega)) (OW G R (corF σ u109) x116) (fun _ => OW_l2 _ _ _ _ _ _) 2 k434 k435 k436 k10 k437 rfl (by decide +kernel) ⟨Nat.le_of_ble_eq_true rfl, Nat.le_of_ble_eq_true rfl⟩ ⟨Nat.le_of_ble_eq_true rfl, Nat.le_of_ble_eq_true rfl⟩ dL_isStep_584 (Nat.le_of_ble_eq_true rfl) (OW_0 _ _ _ _) rfl (fun _ _ => ?_)
        refine J_st (st' := [.int (plF (corF σ u109) u109 (0 : Int32).toInt), .int (nI (dueAt σ u109))]) rfl ?_
        refine J_ws (ws' := OW G P (corF σ u109) x114 ++ OW G R (corF σ u109) x116) rfl ?_
        refine J_i ((by rw [show (0 : Int32).toInt = 0 from by decide] <;> rfl) : (plF (corF σ u109) u109 (0 : Int32).toInt : Int32) = (nI (dueAt (corF σ u109) u109))) ?_
        refine J_i ((by rw [corF_d]) : (nI (dueAt (corF σ u109) u109) : Int32) = (nI (dueAt σ u109))) ?_
        refine J_icmp_ne C 615 (by decide) dL_isStep_587 (fun h => absurd (cv_ne_t (a := (dueAt σ u109)) (b := (dueAt σ u109)) (by omega) (by omega) h) (by omega)) (fun c587 => ?_)
        refine J_aload_n C rfl dL_isStep_590 ?_
        refine J_iload C rfl dL_isStep_591 ?_
        refine J_iconst C 2 (by decide) dL_isStep_593 ?_
        refine J_V1 (as := [.int (nI u109), .int 2]) (rest := []) C NoX.b NoX.f (o_place l G P (corF σ u109) x114 u109 2 (hx114c).i (hx114c).d (show u109 < σ 0 4 from by omega)) (OW G R (corF σ u109) x116) (fun _ => OW_l2 _ _ _ _ _ _) 2 k434 k435 k436 k10 k437 rfl (by decide +kernel) ⟨Nat.le_of_ble_eq_true rfl, Nat.le_of_ble_eq_true rfl⟩ ⟨Nat.le_of_ble_eq_true rfl, Nat.le_of_ble_eq_true rfl⟩ dL_isStep_594 (Nat.le_of_ble_eq_true rfl) (OW_0 _ _ _ _) rfl (fun _ _ => ?_)
        refine J_st (st' := [.int (plF (corF σ u109) u109 (2 : Int32).toInt)]) rfl ?_
        refine J_ws (ws' := OW G P (corF σ u109) x114 ++ OW G R (corF σ u109) x116) rfl ?_
        refine J_i ((by rw [show (2 : Int32).toInt = 2 from by decide] <;> rfl) : (plF (corF σ u109) u109 (2 : Int32).toInt : Int32) = (nI ((corF σ u109) 4 u109))) ?_
        refine J_i ((by rw [corF_4] <;> rfl) : (nI ((corF σ u109) 4 u109) : Int32) = 0) ?_
        refine J_if_ne C 615 (by decide) dL_isStep_597 (fun h => absurd h (by decide)) (fun _ => ?_)
        refine J_aload_n C rfl dL_isStep_600 ?_
        refine J_iload C rfl dL_isStep_601 ?_
        refine J_iconst C 3 (by decide) dL_isStep_603 ?_
        refine J_V1 (as := [.int (nI u109), .int 3]) (rest := []) C NoX.b NoX.f (o_place l G P (corF σ u109) x114 u109 3 (hx114c).i (hx114c).d (show u109 < σ 0 4 from by omega)) (OW G R (corF σ u109) x116) (fun _ => OW_l2 _ _ _ _ _ _) 2 k434 k435 k436 k10 k437 rfl (by decide +kernel) ⟨Nat.le_of_ble_eq_true rfl, Nat.le_of_ble_eq_true rfl⟩ ⟨Nat.le_of_ble_eq_true rfl, Nat.le_of_ble_eq_true rfl⟩ dL_isStep_604 (Nat.le_of_ble_eq_true rfl) (OW_0 _ _ _ _) rfl (fun _ _ => ?_)
        refine J_st (st' := [.int (plF (corF σ u109) u109 (3 : Int32).toInt)]) rfl ?_
        refine J_ws (ws' := OW G P (corF σ u109) x114 ++ OW G R (corF σ u109) x116) rfl ?_
        refine J_i ((by rw [show (3 : Int32).toInt = 3 from by decide] <;> rfl) : (plF (corF σ u109) u109 (3 : Int32).toInt : Int32) = (nI ((corF σ u109) 5 u109))) ?_
        refine J_i ((by rw [corF_5] <;> rfl) : (nI ((corF σ u109) 5 u109) : Int32) = 1) ?_
        refine J_iconst C 1 (by decide) dL_isStep_607 ?_
        refine J_icmp_ne C 615 (by decide) dL_isStep_608 (fun h => absurd h (by decide)) (fun _ => ?_)
        refine J_iconst C 1 (by decide) dL_isStep_611 ?_
        refine J_goto C 616 (by decide) dL_isStep_612 ?_
        exact J_zret C hr rfl dL_isStep_616 (corF σ u109, x114, x116) rfl (hP.act (fun d h => (by rw [← hco]; exact (h.cor (by omega)).le (Nat.le_succ r))) rfl hx115 hx117) rfl
    · skip
      refine J_aload_n C rfl dL_isStep_533 ?_
      refine J_iconst C 5 (by decide) dL_isStep_534 ?_
      refine J_V1 (as := [.int 5]) (rest := []) C NoX.b NoX.f (o_count l G P σ x 5 (hx).i (hx).d) (OW G R σ y) (fun _ => OW_l2 _ _ _ _ _ _) 1 k382 k383 k384 k10 k385 rfl (by decide +kernel) ⟨Nat.le_of_ble_eq_true rfl, Nat.le_of_ble_eq_true rfl⟩ ⟨Nat.le_of_ble_eq_true rfl, Nat.le_of_ble_eq_true rfl⟩ dL_isStep_535 (Nat.le_of_ble_eq_true rfl) (OW_0 _ _ _ _) rfl (fun _ _ => ?_)
      refine J_st (st' := [.int (cntF σ x.2.2.2.1.2.2.2 x.2.2.2.2.1.2 (5 : Int32).toInt)]) rfl ?_
      refine J_ws (ws' := OW G P σ x ++ OW G R σ y) rfl ?_
      refine J_i ((by rw [show (5 : Int32).toInt = 5 from by decide] <;> rfl) : (cntF σ x.2.2.2.1.2.2.2 x.2.2.2.2.1.2 (5 : Int32).toInt : Int32) = (nI (σ 7 2 - σ 0 5))) ?_
      have hdu := hx.i.due (p := u109) (by omega)
      refine J_istore C [(7, .int (nI (σ 7 2 - σ 0 5))), (6, .int (nI u109)), (5, .int (nI (σ 0 4))), (4, .int w1), (0, .ref P.1), (1, .ref R.1), (2, .int v), (3, .int w)] (by decide) rfl dL_isStep_538 ?_
      refine J_aload_n C rfl dL_isStep_540 ?_
      refine J_iload C rfl dL_isStep_541 ?_
      refine J_V1 (as := [.int (nI u109)]) (rest := []) C NoX.b NoX.f (o_cor l G P σ x u109 (hx).i (hx).d hVx (by omega)) (OW G R σ y) (fun _ => OW_l2 _ _ _ _ _ _) 1 k440 k441 k442 k10 k443 rfl (by decide +kernel) ⟨Nat.le_of_ble_eq_true rfl, Nat.le_of_ble_eq_true rfl⟩ ⟨Nat.le_of_ble_eq_true rfl, Nat.le_of_ble_eq_true rfl⟩ dL_isStep_543 (Nat.le_of_ble_eq_true rfl) (OW_0 _ _ _ _) rfl (fun x118 hx119 => ?_)
      refine J_st (st' := [.int (corR σ u109)]) rfl ?_
      refine J_ws (ws' := OW G P (corS σ u109) x118 ++ OW G R σ y) rfl ?_
      have hx118 : GV (r + 1) (corS σ u109) x118.1 := by rw [hx119.2.1]; exact hx.cor (by omega)
      refine J_i ((if_neg hcn) : (corR σ u109 : Int32) = (-4)) ?_
      refine J_istore C [(8, .int (-4)), (7, .int (nI (σ 7 2 - σ 0 5))), (6, .int (nI u109)), (5, .int (nI (σ 0 4))), (4, .int w1), (0, .ref P.1), (1, .ref R.1), (2, .int v), (3, .int w)] (by decide) rfl dL_isStep_546 ?_
      refine J_iload C rfl dL_isStep_548 ?_
      refine J_aload_n C rfl dL_isStep_550 ?_
      refine J_iload C rfl dL_isStep_551 ?_
      refine J_V2 (as := [.int (nI u109)]) (rest := [.int (-4)]) C NoX.b NoX.f (o_cor l G R σ y u109 (hy).i (hy).d hVy (by omega)) (OW G P (corS σ u109) x118) (fun _ => OW_l2 _ _ _ _ _ _) 1 k440 k441 k442 k10 k443 rfl (by decide +kernel) ⟨Nat.le_of_ble_eq_true rfl, Nat.le_of_ble_eq_true rfl⟩ ⟨Nat.le_of_ble_eq_true rfl, Nat.le_of_ble_eq_true rfl⟩ dL_isStep_553 (Nat.le_of_ble_eq_true rfl) (OW_0 _ _ _ _) rfl (fun x120 hx121 => ?_)
      refine J_st (st' := [.int (corR σ u109), .int (-4)]) rfl ?_
      refine J_ws (ws' := OW G P (corS σ u109) x118 ++ OW G R (corS σ u109) x120) rfl ?_
      have hx120 : GV (r + 1) (corS σ u109) x120.1 := by rw [hx121.2.1]; exact hy.cor (by omega)
      refine J_i ((if_neg hcn) : (corR σ u109 : Int32) = (-4)) ?_
      refine J_icmp_ne C 615 (by decide) dL_isStep_556 (fun h => absurd h (by decide)) (fun _ => ?_)
      refine J_iload C rfl dL_isStep_559 ?_
      refine J_if_lt C 611 (by decide) dL_isStep_561 (fun _ => ?_) (fun h => absurd h (by decide))
      refine J_iconst C 1 (by decide) dL_isStep_611 ?_
      refine J_goto C 616 (by decide) dL_isStep_612 ?_
      exact J_zret C hr rfl dL_isStep_616 (corS σ u109, x118, x120) rfl (hP.act (fun d h => (by exact (h.cor (by omega)).le (Nat.le_succ r))) (corS_4 _ _) hx119 hx121) rfl
  · skip
    refine J_i (y := 8) rfl ?_
    refine J_tableIn C 617 (by decide) (by decide) rfl (by decide) dL_isStep_18 ?_
    refine J_aload_n C rfl dL_isStep_617 ?_
    refine J_aload_n C rfl dL_isStep_618 ?_
    refine J_iload_n C rfl dL_isStep_619 ?_
    refine J_iload C rfl dL_isStep_620 ?_
    refine J_S00 (as := [.ref P.1, .ref R.1, .int w, .int w1]) (rest := []) C NoX.b NoX.f (ct_isRead l G P R σ x y w w1 (r + 1) hx hy hVx hVy) (fun _ => OWW_l2 _ _ _ _ _ _ _ _ _ _ _) 4 k240 k241 k9 k242 rfl (by decide +kernel) ⟨Nat.le_of_ble_eq_true rfl, Nat.le_of_ble_eq_true rfl⟩ ⟨Nat.le_of_ble_eq_true rfl, Nat.le_of_ble_eq_true rfl⟩ dL_isStep_622 (Nat.le_of_ble_eq_true rfl) (fun u8 hu8 => ?_)
    refine J_st (st' := [.int 1]) rfl ?_
    refine J_ws (ws' := OW G P u8.1 u8.2.1 ++ OW G R u8.1 u8.2.2) rfl ?_
    exact J_zret C hr rfl dL_isStep_625 u8 rfl (hP.rd hu8) rfl
  · skip
    refine J_i (y := 9) rfl ?_
    refine J_tableIn C 626 (by decide) (by decide) rfl (by decide) dL_isStep_18 ?_
    refine J_iload_n C rfl dL_isStep_626 ?_
    refine J_iconst C 2 (by decide) dL_isStep_627 ?_
    refine J_S0 (as := [.int w, .int 2]) (rest := []) C NoX.b NoX.f (ct_up l G w 2 (by omega)) 2 k247 k248 k9 k249 rfl (by decide +kernel) ⟨Nat.le_of_ble_eq_true rfl, Nat.le_of_ble_eq_true rfl⟩ ⟨Nat.le_of_ble_eq_true rfl, Nat.le_of_ble_eq_true rfl⟩ dL_isStep_628 (Nat.le_of_ble_eq_true rfl) (fun u122 hu122 => ?_)
    refine J_st (st' := [.int (nI u122)]) rfl ?_
    refine J_ws (ws' := OW G P σ x ++ OW G R σ y) rfl ?_
    refine J_if_ne C 653 (by decide) dL_isStep_631 (fun c631 => ?_) (fun c631 => ?_)
    · skip
      have c631 := cv_ne_t (a := u122) (b := 0) (by omega) (by omega) c631
      rcases hVx.1 with hk | hk
      · skip
        have hk2 : y.2.2.1.2 = 0 := hP.2.2.2.2.2 ▸ hk
        refine J_aload_n C rfl dL_isStep_653 ?_
        refine J_V1 (as := []) (rest := []) C NoX.b NoX.f (o_restN l G P σ x hk) (OW G R σ y) (fun _ => OW_l2 _ _ _ _ _ _) 0 k470 k471 k472 k10 k473 rfl (by decide +kernel) ⟨Nat.le_of_ble_eq_true rfl, Nat.le_of_ble_eq_true rfl⟩ ⟨Nat.le_of_ble_eq_true rfl, Nat.le_of_ble_eq_true rfl⟩ dL_isStep_654 (Nat.le_of_ble_eq_true rfl) (OW_0 _ _ _ _) rfl (fun _ _ => ?_)
        refine J_st (st' := [.int (-5)]) rfl ?_
        refine J_ws (ws' := OW G P σ x ++ OW G R σ y) rfl ?_
        refine J_aload_n C rfl dL_isStep_657 ?_
        refine J_V2 (as := []) (rest := [.int (-5)]) C NoX.b NoX.f (o_restN l G R σ y hk2) (OW G P σ x) (fun _ => OW_l2 _ _ _ _ _ _) 0 k470 k471 k472 k10 k473 rfl (by decide +kernel) ⟨Nat.le_of_ble_eq_true rfl, Nat.le_of_ble_eq_true rfl⟩ ⟨Nat.le_of_ble_eq_true rfl, Nat.le_of_ble_eq_true rfl⟩ dL_isStep_658 (Nat.le_of_ble_eq_true rfl) (OW_0 _ _ _ _) rfl (fun _ _ => ?_)
        refine J_st (st' := [.int (-5), .int (-5)]) rfl ?_
        refine J_ws (ws' := OW G P σ x ++ OW G R σ y) rfl ?_
        refine J_icmp_ne C 668 (by decide) dL_isStep_661 (fun h => absurd h (by decide)) (fun _ => ?_)
        refine J_iconst C 1 (by decide) dL_isStep_664 ?_
        refine J_goto C 669 (by decide) dL_isStep_665 ?_
        exact J_zret C hr rfl dL_isStep_669 (σ, x, y) rfl (hP.id) rfl
      · skip
        have hk2 : y.2.2.1.2 = 1 := hP.2.2.2.2.2 ▸ hk
        have h23 := (hP.2.2.2.1.1 hk).1.i.a
        refine J_aload_n C rfl dL_isStep_653 ?_
        refine J_V1 (as := []) (rest := []) C NoX.b NoX.f (o_restY l G P σ x hVx hk) (OW G R σ y) (fun _ => OW_l2 _ _ _ _ _ _) 0 k470 k471 k472 k10 k473 rfl (by decide +kernel) ⟨Nat.le_of_ble_eq_true rfl, Nat.le_of_ble_eq_true rfl⟩ ⟨Nat.le_of_ble_eq_true rfl, Nat.le_of_ble_eq_true rfl⟩ dL_isStep_654 (Nat.le_of_ble_eq_true rfl) (OW_0 _ _ _ _) rfl (fun _ _ => ?_)
        refine J_st (st' := [.int (nI (x.2.2.1.1.1 0 3))]) rfl ?_
        refine J_ws (ws' := OW G P x.2.2.1.1.1 (dueX (recX x σ) x.2.2.1.1.2) ++ OW G R σ y) rfl ?_
        refine J_aload_n C rfl dL_isStep_657 ?_
        refine J_V2 (as := []) (rest := [.int (nI (x.2.2.1.1.1 0 3))]) C NoX.b NoX.f (o_restY l G R σ y hVy hk2) (OW G P x.2.2.1.1.1 (dueX (recX x σ) x.2.2.1.1.2)) (fun _ => OW_l2 _ _ _ _ _ _) 0 k470 k471 k472 k10 k473 rfl (by decide +kernel) ⟨Nat.le_of_ble_eq_true rfl, Nat.le_of_ble_eq_true rfl⟩ ⟨Nat.le_of_ble_eq_true rfl, Nat.le_of_ble_eq_true rfl⟩ dL_isStep_658 (Nat.le_of_ble_eq_true rfl) (OW_0 _ _ _ _) rfl (fun _ _ => ?_)
        refine J_st (st' := [.int (nI (y.2.2.1.1.1 0 3)), .int (nI (x.2.2.1.1.1 0 3))]) rfl ?_
        refine J_ws (ws' := OW G P x.2.2.1.1.1 (dueX (recX x σ) x.2.2.1.1.2) ++ OW G R y.2.2.1.1.1 (dueX (recX y σ) y.2.2.1.1.2)) rfl ?_
        refine J_i ((by rw [hP.2.2.2.2.1]) : (nI (y.2.2.1.1.1 0 3) : Int32) = (nI (x.2.2.1.1.1 0 3))) ?_
        refine J_ws (ws' := OW G P x.2.2.1.1.1 (dueX (recX x σ) x.2.2.1.1.2) ++ OW G R x.2.2.1.1.1 (dueX (recX y σ) y.2.2.1.1.2)) (by rw [hP.2.2.2.2.1]) ?_
        refine J_icmp_ne C 668 (by decide) dL_isStep_661 (fun h => absurd (cv_ne_t (a := (x.2.2.1.1.1 0 3)) (b := (x.2.2.1.1.1 0 3)) (by omega) (by omega) h) (by omega)) (fun c661 => ?_)
        refine J_iconst C 1 (by decide) dL_isStep_664 ?_
        refine J_goto C 669 (by decide) dL_isStep_665 ?_
        exact J_zret C hr rfl dL_isStep_669 (x.2.2.1.1.1, dueX (recX x σ) x.2.2.1.1.2, dueX (recX y σ) y.2.2.1.1.2) rfl (hP.res hk) rfl
    · skip
      have c631 := cv_ne_f (a := u122) (b := 0) (by omega) (by omega) c631
      refine J_aload_n C rfl dL_isStep_634 ?_
      refine J_V1 (as := []) (rest := []) C NoX.b NoX.f (o_keep l G P σ x) (OW G R σ y) (fun _ => OW_l2 _ _ _ _ _ _) 0 k465 k466 k467 k10 k468 rfl (by decide +kernel) ⟨Nat.le_of_ble_eq_true rfl, Nat.le_of_ble_eq_true rfl⟩ ⟨Nat.le_of_ble_eq_true rfl, Nat.le_of_ble_eq_true rfl⟩ dL_isStep_635 (Nat.le_of_ble_eq_true rfl) (OW_0 _ _ _ _) rfl (fun _ _ => ?_)
      refine J_st (st' := [.int (nI (σ 0 3))]) rfl ?_
      refine J_ws (ws' := OW G P σ (keeX x σ) ++ OW G R σ y) rfl ?_
      refine J_aload_n C rfl dL_isStep_638 ?_
      refine J_V2 (as := []) (rest := [.int (nI (σ 0 3))]) C NoX.b NoX.f (o_keep l G R σ y) (OW G P σ (keeX x σ)) (fun _ => OW_l2 _ _ _ _ _ _) 0 k465 k466 k467 k10 k468 rfl (by decide +kernel) ⟨Nat.le_of_ble_eq_true rfl, Nat.le_of_ble_eq_true rfl⟩ ⟨Nat.le_of_ble_eq_true rfl, Nat.le_of_ble_eq_true rfl⟩ dL_isStep_639 (Nat.le_of_ble_eq_true rfl) (OW_0 _ _ _ _) rfl (fun _ _ => ?_)
      refine J_st (st' := [.int (nI (σ 0 3)), .int (nI (σ 0 3))]) rfl ?_
      refine J_ws (ws' := OW G P σ (keeX x σ) ++ OW G R σ (keeX y σ)) rfl ?_
      refine J_icmp_ne C 649 (by decide) dL_isStep_642 (fun h => absurd (cv_ne_t (a := (σ 0 3)) (b := (σ 0 3)) (by omega) (by omega) h) (by omega)) (fun c642 => ?_)
      refine J_iconst C 1 (by decide) dL_isStep_645 ?_
      refine J_goto C 669 (by decide) dL_isStep_646 ?_
      exact J_zret C hr rfl dL_isStep_669 (σ, keeX x σ, keeX y σ) rfl (hP.kee) rfl
  · skip
    refine J_tableOut C 670 (Or.inr (by rw [nI_toInt (by omega)]; omega)) (by decide) dL_isStep_18 ?_
    refine J_iconst C 1 (by decide) dL_isStep_670 ?_
    refine J_iload_n C rfl dL_isStep_671 ?_
    refine J_iload C rfl dL_isStep_672 ?_
    refine J_bipush C 6 (by decide) dL_isStep_674 ?_
    refine J_S0 (as := [.int w1, .int 6]) (rest := [.int w, .int 1]) C NoX.b NoX.f (ct_up l G w1 6 (by omega)) 2 k247 k248 k9 k249 rfl (by decide +kernel) ⟨Nat.le_of_ble_eq_true rfl, Nat.le_of_ble_eq_true rfl⟩ ⟨Nat.le_of_ble_eq_true rfl, Nat.le_of_ble_eq_true rfl⟩ dL_isStep_676 (Nat.le_of_ble_eq_true rfl) (fun u123 hu123 => ?_)
    refine J_st (st' := [.int (nI u123), .int w, .int 1]) rfl ?_
    refine J_ws (ws' := OW G P σ x ++ OW G R σ y) rfl ?_
    refine J_merge 689 [.int (nI (if u123 = 0 then 99 else 9)), .int w, .int 1] [(5, .int (nI (σ 0 4))), (4, .int w1), (0, .ref P.1), (1, .ref R.1), (2, .int v), (3, .int w)] (fun hm => ?_) ?_
    · skip
      refine J_if_ne C 687 (by decide) dL_isStep_679 (fun c679 => ?_) (fun c679 => ?_)
      · skip
        have c679 := cv_ne_t (a := u123) (b := 0) (by omega) (by omega) c679
        refine J_bipush C 9 (by decide) dL_isStep_687 ?_
        refine J_i (show (9 : Int32) = (nI (if u123 = 0 then 99 else 9)) from by rw [if_neg (by omega)] <;> rfl) ?_
        exact hm
      · skip
        have c679 := cv_ne_f (a := u123) (b := 0) (by omega) (by omega) c679
        refine J_bipush C 99 (by decide) dL_isStep_682 ?_
        refine J_goto C 689 (by decide) dL_isStep_684 ?_
        refine J_i (show (99 : Int32) = (nI (if u123 = 0 then 99 else 9)) from by rw [if_pos (by omega)] <;> rfl) ?_
        exact hm
    · skip
      have hn6 : 0 < (if u123 = 0 then 99 else 9) ∧ (if u123 = 0 then 99 else 9) ≤ 99 := by split <;> omega
      refine J_S0 (as := [.int w, .int (nI (if u123 = 0 then 99 else 9))]) (rest := [.int 1]) C NoX.b NoX.f (ct_up l G w (if u123 = 0 then 99 else 9) ⟨hn6.1, by omega⟩) 2 k247 k248 k9 k249 rfl (by decide +kernel) ⟨Nat.le_of_ble_eq_true rfl, Nat.le_of_ble_eq_true rfl⟩ ⟨Nat.le_of_ble_eq_true rfl, Nat.le_of_ble_eq_true rfl⟩ dL_isStep_689 (Nat.le_of_ble_eq_true rfl) (fun u6 hu6 => ?_)
      refine J_st (st' := [.int (nI u6), .int 1]) rfl ?_
      refine J_ws (ws' := OW G P σ x ++ OW G R σ y) rfl ?_
      refine J_iadd C dL_isStep_692 ?_
      refine J_i (nI_add 1 u6 : (1 + (nI u6) : Int32) = (nI (1 + u6))) ?_
      have hT : 1 ≤ 1 + u6 ∧ 1 + u6 ≤ 99 := by omega
      generalize 1 + u6 = T at hT ⊢
      refine J_istore C [(6, .int (nI T)), (5, .int (nI (σ 0 4))), (4, .int w1), (0, .ref P.1), (1, .ref R.1), (2, .int v), (3, .int w)] (by decide) rfl dL_isStep_693 ?_
      refine J_aload_n C rfl dL_isStep_695 ?_
      refine J_iconst C 0 (by decide) dL_isStep_696 ?_
      refine J_V1 (as := [.int 0]) (rest := []) C NoX.b NoX.f (o_count l G P σ x 0 (hx).i (hx).d) (OW G R σ y) (fun _ => OW_l2 _ _ _ _ _ _) 1 k382 k383 k384 k10 k385 rfl (by decide +kernel) ⟨Nat.le_of_ble_eq_true rfl, Nat.le_of_ble_eq_true rfl⟩ ⟨Nat.le_of_ble_eq_true rfl, Nat.le_of_ble_eq_true rfl⟩ dL_isStep_697 (Nat.le_of_ble_eq_true rfl) (OW_0 _ _ _ _) rfl (fun _ _ => ?_)
      refine J_st (st' := [.int (cntF σ x.2.2.2.1.2.2.2 x.2.2.2.2.1.2 (0 : Int32).toInt)]) rfl ?_
      refine J_ws (ws' := OW G P σ x ++ OW G R σ y) rfl ?_
      refine J_i ((by rw [show (0 : Int32).toInt = 0 from by decide] <;> rfl) : (cntF σ x.2.2.2.1.2.2.2 x.2.2.2.2.1.2 (0 : Int32).toInt : Int32) = (nI (σ 0 3))) ?_
      refine J_istore C [(7, .int (nI (σ 0 3))), (6, .int (nI T)), (5, .int (nI (σ 0 4))), (4, .int w1), (0, .ref P.1), (1, .ref R.1), (2, .int v), (3, .int w)] (by decide) rfl dL_isStep_700 ?_
      refine J_aload_n C rfl dL_isStep_702 ?_
      refine J_bipush C 7 (by decide) dL_isStep_703 ?_
      refine J_V1 (as := [.int 7]) (rest := []) C NoX.b NoX.f (o_count l G P σ x 7 (hx).i (hx).d) (OW G R σ y) (fun _ => OW_l2 _ _ _ _ _ _) 1 k382 k383 k384 k10 k385 rfl (by decide +kernel) ⟨Nat.le_of_ble_eq_true rfl, Nat.le_of_ble_eq_true rfl⟩ ⟨Nat.le_of_ble_eq_true rfl, Nat.le_of_ble_eq_true rfl⟩ dL_isStep_705 (Nat.le_of_ble_eq_true rfl) (OW_0 _ _ _ _) rfl (fun _ _ => ?_)
      refine J_st (st' := [.int (cntF σ x.2.2.2.1.2.2.2 x.2.2.2.2.1.2 (7 : Int32).toInt)]) rfl ?_
      refine J_ws (ws' := OW G P σ x ++ OW G R σ y) rfl ?_
      refine J_i ((by rw [show (7 : Int32).toInt = 7 from by decide] <;> rfl) : (cntF σ x.2.2.2.1.2.2.2 x.2.2.2.2.1.2 (7 : Int32).toInt : Int32) = (nI (σ 0 10))) ?_
      refine J_istore C [(8, .int (nI (σ 0 10))), (7, .int (nI (σ 0 3))), (6, .int (nI T)), (5, .int (nI (σ 0 4))), (4, .int w1), (0, .ref P.1), (1, .ref R.1), (2, .int v), (3, .int w)] (by decide) rfl dL_isStep_708 ?_
      refine J_iconst C 0 (by decide) dL_isStep_710 ?_
      refine J_istore C [(9, .int 0), (8, .int (nI (σ 0 10))), (7, .int (nI (σ 0 3))), (6, .int (nI T)), (5, .int (nI (σ 0 4))), (4, .int w1), (0, .ref P.1), (1, .ref R.1), (2, .int v), (3, .int w)] (by decide) rfl dL_isStep_711 ?_
      refine J_iconst C 0 (by decide) dL_isStep_713 ?_
      refine J_istore C [(10, .int 0), (9, .int 0), (8, .int (nI (σ 0 10))), (7, .int (nI (σ 0 3))), (6, .int (nI T)), (5, .int (nI (σ 0 4))), (4, .int w1), (0, .ref P.1), (1, .ref R.1), (2, .int v), (3, .int w)] (by decide) rfl dL_isStep_714 ?_
      refine J_lvp [7, 8, 9, 10, 6, 5, 4, 3, 2, 1, 0] [(0, .ref P.1), (1, .ref R.1), (2, .int v), (3, .int w), (4, .int w1), (5, .int (nI (σ 0 4))), (6, .int (nI T)), (7, .int (nI (σ 0 3))), (8, .int (nI (σ 0 10))), (9, .int 0), (10, .int 0)] rfl ?_
      refine J_lvp [0, 1, 2, 3, 4, 5, 6, 7, 8, 9, 10] [(0, .ref P.1), (1, .ref R.1), (2, .int v), (3, .int w), (4, .int w1), (5, .int (nI (σ 0 4))), (6, .int (nI T)), (7, .int (nI (σ 0 3))), (8, .int (nI (σ 0 10))), (9, .int (nI (itF 0 σ 0 10 - σ 0 10))), (10, .int (nI (0)))] (by rw [show itF 0 σ 0 10 - σ 0 10 = 0 from Nat.sub_self _] <;> rfl) ?_
      refine J_loop (σ := Nat × OS) (fun z => OW G P σ x ++ OW G R (itF z.1 σ) z.2) (fun z => [(0, .ref P.1), (1, .ref R.1), (2, .int v), (3, .int w), (4, .int w1), (5, .int (nI (σ 0 4))), (6, .int (nI T)), (7, .int (nI (σ 0 3))), (8, .int (nI (σ 0 10))), (9, .int (nI (itF z.1 σ 0 10 - σ 0 10))), (10, .int (nI (z.1)))]) (fun z => z.1 ≤ T ∧ VO z.2 ∧ KO y z.2) (fun z => T - z.1) (fun z hz ih => ?_) (0, y) ⟨Nat.zero_le _, hVy, KO.rf y⟩ rfl rfl
      obtain ⟨i, y1⟩ := z
      obtain ⟨h2, h3, h4⟩ := hz
      have h2 : i ≤ T := h2
      have h3 : VO y1 := h3
      have h4 : KO y y1 := h4
      have hy1 : GV r (itF i σ) y1.1 := by rw [h4.1]; exact hy.it (by omega)
      have hk0 := it_keep σ i
      have hk1 := it_keep σ (i + 1)
      have hk2 := ticks_keep (itF i σ)
      refine J_ws (ws' := OW G P σ x ++ OW G R (itF i σ) y1) rfl ?_
      refine J_lvp [0, 1, 2, 3, 4, 5, 6, 7, 8, 9, 10] [(0, .ref P.1), (1, .ref R.1), (2, .int v), (3, .int w), (4, .int w1), (5, .int (nI (σ 0 4))), (6, .int (nI T)), (7, .int (nI (σ 0 3))), (8, .int (nI (σ 0 10))), (9, .int (nI (itF i σ 0 10 - σ 0 10))), (10, .int (nI i))] rfl ?_
      refine J_iload C rfl dL_isStep_716 ?_
      refine J_iload C rfl dL_isStep_718 ?_
      refine J_icmp_ge C 739 (by decide) dL_isStep_720 (fun c720 => ?_) (fun c720 => ?_)
      · skip
        have c720 := cv_ge_t (a := i) (b := T) (by omega) (by omega) c720
        have hie : i = T := by omega
        rw [hie]
        rw [hie] at hk0 hy1
        refine J_aload_n C rfl dL_isStep_739 ?_
        refine J_iload C rfl dL_isStep_740 ?_
        refine J_V1 (as := [.int (nI T)]) (rest := []) C NoX.b NoX.f (o_pass l G P σ x T hx.i hx.d hVx hT (by omega)) (OW G R (itF T σ) y1) (fun _ => OW_l2 _ _ _ _ _ _) 1 k474 k475 k476 k10 k477 rfl (by decide +kernel) ⟨Nat.le_of_ble_eq_true rfl, Nat.le_of_ble_eq_true rfl⟩ ⟨Nat.le_of_ble_eq_true rfl, Nat.le_of_ble_eq_true rfl⟩ dL_isStep_742 (Nat.le_of_ble_eq_true rfl) (OW_0 _ _ _ _) rfl (fun x2 hx2 => ?_)
        refine J_st (st' := [.int (nI (itF T σ 0 10) - nI (σ 0 10))]) rfl ?_
        refine J_ws (ws' := OW G P (itF T σ) x2 ++ OW G R (itF T σ) y1) rfl ?_
        have hx2g : GV r (itF T σ) x2.1 := by rw [hx2.2.1]; exact hx.it (by omega)
        refine J_i ((pk_sub (a := itF T σ 0 10) (b := σ 0 10) hk0.2.2.1) : (nI (itF T σ 0 10) - nI (σ 0 10) : Int32) = (nI (itF T σ 0 10 - σ 0 10))) ?_
        refine J_iload C rfl dL_isStep_745 ?_
        refine J_icmp_ne C 790 (by decide) dL_isStep_747 (fun h => absurd (cv_ne_t (a := (itF T σ 0 10 - σ 0 10)) (b := (itF T σ 0 10 - σ 0 10)) (by omega) (by omega) h) (by omega)) (fun c747 => ?_)
        refine J_aload_n C rfl dL_isStep_750 ?_
        refine J_iconst C 0 (by decide) dL_isStep_751 ?_
        refine J_V1 (as := [.int 0]) (rest := []) C NoX.b NoX.f (o_count l G P (itF T σ) x2 0 (hx2g).i (hx2g).d) (OW G R (itF T σ) y1) (fun _ => OW_l2 _ _ _ _ _ _) 1 k382 k383 k384 k10 k385 rfl (by decide +kernel) ⟨Nat.le_of_ble_eq_true rfl, Nat.le_of_ble_eq_true rfl⟩ ⟨Nat.le_of_ble_eq_true rfl, Nat.le_of_ble_eq_true rfl⟩ dL_isStep_752 (Nat.le_of_ble_eq_true rfl) (OW_0 _ _ _ _) rfl (fun _ _ => ?_)
        refine J_st (st' := [.int (cntF (itF T σ) x2.2.2.2.1.2.2.2 x2.2.2.2.2.1.2 (0 : Int32).toInt)]) rfl ?_
        refine J_ws (ws' := OW G P (itF T σ) x2 ++ OW G R (itF T σ) y1) rfl ?_
        refine J_i ((by rw [show (0 : Int32).toInt = 0 from by decide] <;> rfl) : (cntF (itF T σ) x2.2.2.2.1.2.2.2 x2.2.2.2.2.1.2 (0 : Int32).toInt : Int32) = (nI ((itF T σ) 0 3))) ?_
        refine J_i ((by rw [itF_tick]) : (nI ((itF T σ) 0 3) : Int32) = (nI (σ 0 3 + T))) ?_
        refine J_iload C rfl dL_isStep_755 ?_
        refine J_iload C rfl dL_isStep_757 ?_
        refine J_iadd C dL_isStep_759 ?_
        refine J_i (nI_add (σ 0 3) T : ((nI (σ 0 3)) + (nI T) : Int32) = (nI (σ 0 3 + T))) ?_
        refine J_icmp_ne C 790 (by decide) dL_isStep_760 (fun h => absurd (cv_ne_t (a := (σ 0 3 + T)) (b := (σ 0 3 + T)) (by omega) (by omega) h) (by omega)) (fun c760 => ?_)
        refine J_aload_n C rfl dL_isStep_763 ?_
        refine J_bipush C 7 (by decide) dL_isStep_764 ?_
        refine J_V1 (as := [.int 7]) (rest := []) C NoX.b NoX.f (o_count l G P (itF T σ) x2 7 (hx2g).i (hx2g).d) (OW G R (itF T σ) y1) (fun _ => OW_l2 _ _ _ _ _ _) 1 k382 k383 k384 k10 k385 rfl (by decide +kernel) ⟨Nat.le_of_ble_eq_true rfl, Nat.le_of_ble_eq_true rfl⟩ ⟨Nat.le_of_ble_eq_true rfl, Nat.le_of_ble_eq_true rfl⟩ dL_isStep_766 (Nat.le_of_ble_eq_true rfl) (OW_0 _ _ _ _) rfl (fun _ _ => ?_)
        refine J_st (st' := [.int (cntF (itF T σ) x2.2.2.2.1.2.2.2 x2.2.2.2.2.1.2 (7 : Int32).toInt)]) rfl ?_
        refine J_ws (ws' := OW G P (itF T σ) x2 ++ OW G R (itF T σ) y1) rfl ?_
        refine J_i ((by rw [show (7 : Int32).toInt = 7 from by decide] <;> rfl) : (cntF (itF T σ) x2.2.2.2.1.2.2.2 x2.2.2.2.2.1.2 (7 : Int32).toInt : Int32) = (nI ((itF T σ) 0 10))) ?_
        refine J_iload C rfl dL_isStep_769 ?_
        refine J_iload C rfl dL_isStep_771 ?_
        refine J_iadd C dL_isStep_773 ?_
        refine J_i (nI_add (σ 0 10) (itF T σ 0 10 - σ 0 10) : ((nI (σ 0 10)) + (nI (itF T σ 0 10 - σ 0 10)) : Int32) = (nI (σ 0 10 + (itF T σ 0 10 - σ 0 10)))) ?_
        refine J_icmp_ne C 790 (by decide) dL_isStep_774 (fun h => absurd h (fun q => q (congrArg nI (by omega)))) (fun _ => ?_)
        refine J_iload C rfl dL_isStep_777 ?_
        refine J_iconst C 2 (by decide) dL_isStep_779 ?_
        refine J_iload C rfl dL_isStep_780 ?_
        refine J_imul C dL_isStep_782 ?_
        refine J_i (pk_mul 2 T : (2 * (nI T) : Int32) = (nI (2 * T))) ?_
        refine J_icmp_gt C 790 (by decide) dL_isStep_783 (fun h => absurd (cv_gt_t (a := (itF T σ 0 10 - σ 0 10)) (b := (2 * T)) (by omega) (by omega) h) (by omega)) (fun c783 => ?_)
        refine J_iconst C 1 (by decide) dL_isStep_786 ?_
        refine J_goto C 791 (by decide) dL_isStep_787 ?_
        exact J_zret C hr rfl dL_isStep_791 (itF T σ, x2, y1) rfl (hP.act (fun d h => h.it hT.2) (it_keep σ T).1 hx2 ⟨h3, h4⟩) rfl
      · skip
        have c720 := cv_ge_f (a := i) (b := T) (by omega) (by omega) c720
        refine J_iload C rfl dL_isStep_723 ?_
        refine J_aload_n C rfl dL_isStep_725 ?_
        refine J_iconst C 1 (by decide) dL_isStep_726 ?_
        refine J_V2 (as := [.int 1]) (rest := [.int (nI (itF i σ 0 10 - σ 0 10))]) C NoX.b NoX.f (o_pass l G R (itF i σ) y1 1 hy1.i hy1.d h3 ⟨by omega, by omega⟩ (by rw [itF_tick]; omega)) (OW G P σ x) (fun _ => OW_l2 _ _ _ _ _ _) 1 k474 k475 k476 k10 k477 rfl (by decide +kernel) ⟨Nat.le_of_ble_eq_true rfl, Nat.le_of_ble_eq_true rfl⟩ ⟨Nat.le_of_ble_eq_true rfl, Nat.le_of_ble_eq_true rfl⟩ dL_isStep_727 (Nat.le_of_ble_eq_true rfl) (OW_0 _ _ _ _) rfl (fun y2 hy2 => ?_)
        refine J_st (st' := [.int (nI (itF 1 (itF i σ) 0 10) - nI (itF i σ 0 10)), .int (nI (itF i σ 0 10 - σ 0 10))]) rfl ?_
        refine J_ws (ws' := OW G P σ x ++ OW G R (itF 1 (itF i σ)) y2) rfl ?_
        refine J_ws (ws' := OW G P σ x ++ OW G R (itF (i + 1) σ) y2) rfl ?_
        refine J_i ((pk_sub (a := itF (i + 1) σ 0 10) (b := itF i σ 0 10) hk2.2.2.1) : (nI (itF 1 (itF i σ) 0 10) - nI (itF i σ 0 10) : Int32) = (nI (itF (i + 1) σ 0 10 - itF i σ 0 10))) ?_
        refine J_iadd C dL_isStep_730 ?_
        refine J_i (((nI_add _ _).trans (congrArg nI (by have hk3 : itF i σ 0 10 ≤ itF (i + 1) σ 0 10 := hk2.2.2.1; omega))) : ((nI (itF i σ 0 10 - σ 0 10)) + (nI (itF (i + 1) σ 0 10 - itF i σ 0 10)) : Int32) = (nI (itF (i + 1) σ 0 10 - σ 0 10))) ?_
        refine J_istore C [(9, .int (nI (itF (i + 1) σ 0 10 - σ 0 10))), (0, .ref P.1), (1, .ref R.1), (2, .int v), (3, .int w), (4, .int w1), (5, .int (nI (σ 0 4))), (6, .int (nI T)), (7, .int (nI (σ 0 3))), (8, .int (nI (σ 0 10))), (10, .int (nI i))] (by decide) rfl dL_isStep_731 ?_
        refine J_iinc C (nI (i + 1)) [(10, .int (nI (i + 1))), (9, .int (nI (itF (i + 1) σ 0 10 - σ 0 10))), (0, .ref P.1), (1, .ref R.1), (2, .int v), (3, .int w), (4, .int w1), (5, .int (nI (σ 0 4))), (6, .int (nI T)), (7, .int (nI (σ 0 3))), (8, .int (nI (σ 0 10)))] 10 rfl (by first | exact nI_add _ 1 | rfl) (by decide) rfl dL_isStep_733 ?_
        refine J_goto C 716 (by decide) dL_isStep_736 ?_
        refine J_lvp [2, 3, 4, 5, 6, 7, 8, 9, 10, 1, 0] [(0, .ref P.1), (1, .ref R.1), (2, .int v), (3, .int w), (4, .int w1), (5, .int (nI (σ 0 4))), (6, .int (nI T)), (7, .int (nI (σ 0 3))), (8, .int (nI (σ 0 10))), (9, .int (nI (itF (i + 1) σ 0 10 - σ 0 10))), (10, .int (nI (i + 1)))] rfl ?_
        exact ih (i + 1, y2) ⟨by show i + 1 ≤ T; omega, hy2.1, h4.tr hy2.2⟩ (by show T - (i + 1) < T - i; omega)
