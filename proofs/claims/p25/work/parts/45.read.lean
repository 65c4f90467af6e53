set_option maxHeartbeats 4000000 in
set_option maxRecDepth 100000 in
theorem ct_isRead (l : Launch) (G : GT) (P R : AD) (σ : AS) (x y : OS) (v w : Int32) (r : Nat) (hx : GV r σ x.1) (hy : GV r σ y.1) (hVx : VO x) (hVy : VO y) : Ct (S := AS × OS × OS) l G NoX yL_isRead (Wy yL_isRead cL_isRead 11 ((Option.some Jvm.ClassFile.FieldType.boolean))) { frames := 6, cells := 0, slots := 0, locals := 250 } [.ref P.1, .ref R.1, .int v, .int w] (OW G P σ x ++ OW G R σ y) (fun u => 0 < u.1 0 4 ∧ GV r u.1 u.2.1.1 ∧ GV r u.1 u.2.2.1 ∧ VO u.2.1 ∧ VO u.2.2 ∧ u.2.1.2.2.1 = x.2.2.1 ∧ u.2.2.2.2.1 = y.2.2.1) (fun u => some (.int 1)) (fun u => OW G P u.1 u.2.1 ++ OW G R u.1 u.2.2) := by
  refine Ct.of (by decide) (Nat.le_of_ble_eq_true rfl) (fun p e s m args below meth c C hr hnm hX => ?_)
  have hLx := hVx.2.2.2.1
  have hLy := hVy.2.2.2.1
  refine J_aload_n C rfl dL_isRead_0 ?_
  refine J_V1 (as := []) (rest := []) C NoX.b NoX.f (o_clear l G P σ x ) (OW G R σ y) (fun _ => OW_l2 _ _ _ _ _ _) 0 k243 k244 k245 k10 k246 rfl (by decide +kernel) ⟨Nat.le_of_ble_eq_true rfl, Nat.le_of_ble_eq_true rfl⟩ ⟨Nat.le_of_ble_eq_true rfl, Nat.le_of_ble_eq_true rfl⟩ dL_isRead_1 (Nat.le_of_ble_eq_true rfl) (OW_0 _ _ _ _) rfl (fun _ _ => ?_)
  refine J_st (st' := [.int (nI x.2.2.2.2.1.2)]) rfl ?_
  refine J_ws (ws' := OW G P σ (clrX x) ++ OW G R σ y) rfl ?_
  refine J_if_lt C 18 (by decide) dL_isRead_4 (fun h => absurd h (nI_pos (by omega))) (fun _ => ?_)
  refine J_aload_n C rfl dL_isRead_7 ?_
  refine J_V2 (as := []) (rest := []) C NoX.b NoX.f (o_clear l G R σ y ) (OW G P σ (clrX x)) (fun _ => OW_l2 _ _ _ _ _ _) 0 k243 k244 k245 k10 k246 rfl (by decide +kernel) ⟨Nat.le_of_ble_eq_true rfl, Nat.le_of_ble_eq_true rfl⟩ ⟨Nat.le_of_ble_eq_true rfl, Nat.le_of_ble_eq_true rfl⟩ dL_isRead_8 (Nat.le_of_ble_eq_true rfl) (OW_0 _ _ _ _) rfl (fun _ _ => ?_)
  refine J_st (st' := [.int (nI y.2.2.2.2.1.2)]) rfl ?_
  refine J_ws (ws' := OW G P σ (clrX x) ++ OW G R σ (clrX y)) rfl ?_
  refine J_if_lt C 18 (by decide) dL_isRead_11 (fun h => absurd h (nI_pos (by omega))) (fun _ => ?_)
  refine J_iconst C 1 (by decide) dL_isRead_14 ?_
  refine J_goto C 19 (by decide) dL_isRead_15 ?_
  refine J_istore C [(4, .int 1), (0, .ref P.1), (1, .ref R.1), (2, .int v), (3, .int w)] (by decide) rfl dL_isRead_19 ?_
  refine J_iconst C 1 (by decide) dL_isRead_21 ?_
  refine J_iload_n C rfl dL_isRead_22 ?_
  refine J_iload_n C rfl dL_isRead_23 ?_
  refine J_iconst C 2 (by decide) dL_isRead_24 ?_
  refine J_S0 (as := [.int w, .int 2]) (rest := [.int v, .int 1]) C NoX.b NoX.f (ct_up l G w 2 (by omega)) 2 k247 k248 k9 k249 rfl (by decide +kernel) ⟨Nat.le_of_ble_eq_true rfl, Nat.le_of_ble_eq_true rfl⟩ ⟨Nat.le_of_ble_eq_true rfl, Nat.le_of_ble_eq_true rfl⟩ dL_isRead_25 (Nat.le_of_ble_eq_true rfl) (fun u1 hu1 => ?_)
  refine J_st (st' := [.int (nI u1), .int v, .int 1]) rfl ?_
  refine J_ws (ws' := OW G P σ (clrX x) ++ OW G R σ (clrX y)) rfl ?_
  refine J_merge 38 [.int (nI (if u1 = 0 then 20 else 6)), .int v, .int 1] [(4, .int 1), (0, .ref P.1), (1, .ref R.1), (2, .int v), (3, .int w)] (fun hm => ?_) ?_
  · skip
    refine J_if_ne C 36 (by decide) dL_isRead_28 (fun c28 => ?_) (fun c28 => ?_)
    · skip
      have c28 := cv_ne_t (a := u1) (b := 0) (by omega) (by omega) c28
      refine J_bipush C 6 (by decide) dL_isRead_36 ?_
      refine J_i (show (6 : Int32) = (nI (if u1 = 0 then 20 else 6)) from by rw [if_neg (by omega)] <;> rfl) ?_
      exact hm
    · skip
      have c28 := cv_ne_f (a := u1) (b := 0) (by omega) (by omega) c28
      refine J_bipush C 20 (by decide) dL_isRead_31 ?_
      refine J_goto C 38 (by decide) dL_isRead_33 ?_
      refine J_i (show (20 : Int32) = (nI (if u1 = 0 then 20 else 6)) from by rw [if_pos (by omega)] <;> rfl) ?_
      exact hm
  · skip
    have h206 : 0 < (if u1 = 0 then 20 else 6) ∧ (if u1 = 0 then 20 else 6) ≤ 1000 := by split <;> omega
    refine J_S0 (as := [.int v, .int (nI (if u1 = 0 then 20 else 6))]) (rest := [.int 1]) C NoX.b NoX.f (ct_up l G v (if u1 = 0 then 20 else 6) h206) 2 k247 k248 k9 k249 rfl (by decide +kernel) ⟨Nat.le_of_ble_eq_true rfl, Nat.le_of_ble_eq_true rfl⟩ ⟨Nat.le_of_ble_eq_true rfl, Nat.le_of_ble_eq_true rfl⟩ dL_isRead_38 (Nat.le_of_ble_eq_true rfl) (fun u2 hu2 => ?_)
    refine J_st (st' := [.int (nI u2), .int 1]) rfl ?_
    refine J_ws (ws' := OW G P σ (clrX x) ++ OW G R σ (clrX y)) rfl ?_
    refine J_iadd C dL_isRead_41 ?_
    refine J_i (nI_add 1 u2 : (1 + (nI u2) : Int32) = (nI (1 + u2))) ?_
    have h20 : (if u1 = 0 then 20 else 6) ≤ 20 := by split <;> omega
    have hH : 1 ≤ 1 + u2 ∧ 1 + u2 ≤ 20 := by omega
    generalize 1 + u2 = H at hH ⊢
    refine J_istore C [(5, .int (nI H)), (4, .int 1), (0, .ref P.1), (1, .ref R.1), (2, .int v), (3, .int w)] (by decide) rfl dL_isRead_42 ?_
    refine J_iload_n C rfl dL_isRead_44 ?_
    refine J_iconst C 4 (by decide) dL_isRead_45 ?_
    refine J_ishr C dL_isRead_46 ?_
    generalize v >>> (4 &&& 31) = w2
    refine J_iconst C 4 (by decide) dL_isRead_47 ?_
    refine J_S0 (as := [.int w2, .int 4]) (rest := []) C NoX.b NoX.f (ct_up l G w2 4 (by omega)) 2 k247 k248 k9 k249 rfl (by decide +kernel) ⟨Nat.le_of_ble_eq_true rfl, Nat.le_of_ble_eq_true rfl⟩ ⟨Nat.le_of_ble_eq_true rfl, Nat.le_of_ble_eq_true rfl⟩ dL_isRead_48 (Nat.le_of_ble_eq_true rfl) (fun u3 hu3 => ?_)
    refine J_st (st' := [.int (nI u3)]) rfl ?_
    refine J_ws (ws' := OW G P σ (clrX x) ++ OW G R σ (clrX y)) rfl ?_
    refine J_istore C [(6, .int (nI u3)), (5, .int (nI H)), (4, .int 1), (0, .ref P.1), (1, .ref R.1), (2, .int v), (3, .int w)] (by decide) rfl dL_isRead_51 ?_
    refine J_iconst C 0 (by decide) dL_isRead_53 ?_
    refine J_istore C [(7, .int 0), (6, .int (nI u3)), (5, .int (nI H)), (4, .int 1), (0, .ref P.1), (1, .ref R.1), (2, .int v), (3, .int w)] (by decide) rfl dL_isRead_54 ?_
    refine J_lvp [4, 5, 6, 7, 3, 2, 1, 0] [(0, .ref P.1), (1, .ref R.1), (2, .int v), (3, .int w), (4, .int 1), (5, .int (nI H)), (6, .int (nI u3)), (7, .int 0)] rfl ?_
    refine J_loop (σ := Nat × OS × OS) (fun z => OW G P σ z.2.1 ++ OW G R σ z.2.2) (fun z => [(0, .ref P.1), (1, .ref R.1), (2, .int v), (3, .int w), (4, .int 1), (5, .int (nI H)), (6, .int (nI u3)), (7, .int (nI z.1))]) (fun z => z.1 ≤ H ∧ R1 x y z.1 z.2.1 z.2.2) (fun z => H - z.1) (fun z hz ih => ?_) (0, clrX x, clrX y) ⟨Nat.zero_le _, R1.z hVx hVy⟩ rfl rfl
    obtain ⟨i, x1, y1⟩ := z
    obtain ⟨h2, h3⟩ := hz
    have h2 : i ≤ H := h2
    have h3 : R1 x y i x1 y1 := h3
    have h4 := h3.2.2.2.2.2.2.1
    have h5 := h3.2.2.2.2.2.2.2.1
    refine J_ws (ws' := OW G P σ x1 ++ OW G R σ y1) rfl ?_
    refine J_lvp [0, 1, 2, 3, 4, 5, 6, 7] [(0, .ref P.1), (1, .ref R.1), (2, .int v), (3, .int w), (4, .int 1), (5, .int (nI H)), (6, .int (nI u3)), (7, .int (nI i))] rfl ?_
    refine J_iload C rfl dL_isRead_56 ?_
    refine J_iload C rfl dL_isRead_58 ?_
    refine J_icmp_ge C 121 (by decide) dL_isRead_60 (fun c60 => ?_) (fun c60 => ?_)
    · skip
      have c60 := cv_ge_t (a := i) (b := H) (by omega) (by omega) c60
      have hiH : i = H := by omega
      have h3 : R1 x y H x1 y1 := by rw [← hiH]; exact h3
      have hr1 := h3.rd hH.1 hH.2 σ
      refine J_iload C rfl dL_isRead_121 ?_
      refine J_if_eq C 141 (by decide) dL_isRead_123 (fun h => absurd h (by decide)) (fun _ => ?_)
      refine J_aload_n C rfl dL_isRead_126 ?_
      refine J_V2 (as := []) (rest := []) C NoX.b NoX.f (o_read l G R σ y1 h3.2.1 (by rw [hr1.1]) (by rw [hr1.1]; exact Nat.zero_le _)) (OW G P σ x1) (fun _ => OW_l2 _ _ _ _ _ _) 0 k259 k260 k261 k10 k262 rfl (by decide +kernel) ⟨Nat.le_of_ble_eq_true rfl, Nat.le_of_ble_eq_true rfl⟩ ⟨Nat.le_of_ble_eq_true rfl, Nat.le_of_ble_eq_true rfl⟩ dL_isRead_127 (Nat.le_of_ble_eq_true rfl) (OW_0 _ _ _ _) rfl (fun _ _ => ?_)
      refine J_st (st' := [.int (nI (2 * halfN y1.2.2.2.2.1.1 y1.2.2.2.2.1.2))]) rfl ?_
      refine J_ws (ws' := OW G P σ x1 ++ OW G R (newF σ y1.2.2.2.2.1.1 y1.2.2.2.2.1.2) (redX y1 σ)) rfl ?_
      refine J_i ((by rw [hr1.2.1]) : (nI (2 * halfN y1.2.2.2.2.1.1 y1.2.2.2.2.1.2) : Int32) = (nI (2 * H))) ?_
      refine J_iconst C 2 (by decide) dL_isRead_130 ?_
      refine J_iload C rfl dL_isRead_131 ?_
      refine J_imul C dL_isRead_133 ?_
      refine J_i (pk_mul 2 H : (2 * (nI H) : Int32) = (nI (2 * H))) ?_
      refine J_icmp_ne C 141 (by decide) dL_isRead_134 (fun h => absurd (cv_ne_t (a := (2 * H)) (b := (2 * H)) (by omega) (by omega) h) (by omega)) (fun c134 => ?_)
      refine J_iconst C 1 (by decide) dL_isRead_137 ?_
      refine J_goto C 142 (by decide) dL_isRead_138 ?_
      refine J_istore C [(4, .int 1), (0, .ref P.1), (1, .ref R.1), (2, .int v), (3, .int w), (5, .int (nI H)), (6, .int (nI u3)), (7, .int (nI i))] (by decide) rfl dL_isRead_142 ?_
      refine J_iconst C 0 (by decide) dL_isRead_144 ?_
      refine J_istore C [(7, .int 0), (4, .int 1), (0, .ref P.1), (1, .ref R.1), (2, .int v), (3, .int w), (5, .int (nI H)), (6, .int (nI u3))] (by decide) rfl dL_isRead_145 ?_
      refine J_lvp [2, 3, 4, 5, 1, 6, 7, 0] [(0, .ref P.1), (1, .ref R.1), (2, .int v), (3, .int w), (4, .int 1), (5, .int (nI H)), (6, .int (nI u3)), (7, .int 0)] rfl ?_
      refine J_ws (ws' := OW G P σ x1 ++ OW G R (rdF σ H (fun _ => 0) (fun q => x1.2.2.2.2.1.1 q - 96)) (redX y1 σ)) (by rw [hr1.2.2]) ?_
      have hlt : ∀ q, q < H → 1 ≤ x1.2.2.2.2.1.1 q - 96 ∧ x1.2.2.2.2.1.1 q - 96 ≤ 26 := fun q hq => by have h6 := h3.2.2.2.2.2.2.2.2 q hq; omega
      have hl0 : ∀ q, q < H → x1.2.2.2.2.1.1 q = 96 + (x1.2.2.2.2.1.1 q - 96) := fun q hq => by have h6 := h3.2.2.2.2.2.2.2.2 q hq; omega
      have hld : ∀ q, q < H → letC y1.2.2.2.2.1.1 y1.2.2.2.2.1.2 q = x1.2.2.2.2.1.1 q - 96 := fun q hq => by have h6 := h3.2.2.2.2.2.2.2.2 q hq; rw [letC_of (by omega) (by omega), h6.2.2]
      have hg0 : GV r (rdF σ H (fun _ => 0) (fun q => x1.2.2.2.2.1.1 q - 96)) (redX y1 σ).1 := by
        rw [redX_d, hr1.2.1]
        exact hy.rd (m := fun _ => 0) hH.2 (fun _ => Nat.zero_le _) hlt (dlp_ok (fun q hq => by rw [if_pos hq]; exact hld q hq))
      have hr2 : R2 r σ H (fun q => x1.2.2.2.2.1.1 q - 96) x y 0 x1 (redX y1 σ) (fun _ => 0) 0 := ⟨h3.m hH.1 hH.2, hl0, ⟨by omega, by omega⟩, fun _ => Nat.zero_le _, Nat.zero_le _, h3.1, h3.2.1.red σ, h3.2.2.1, h3.2.2.2.2.1, (redX_s y1 σ).trans h3.2.2.2.2.2.1, hg0⟩
      generalize redX y1 σ = y1 at hr2 ⊢
      obtain ⟨lt, hlt2⟩ : ∃ lt : Nat → Nat, lt = fun q => x1.2.2.2.2.1.1 q - 96 := ⟨_, rfl⟩
      rw [← hlt2] at hr2 ⊢
      have hlt : ∀ q, q < H → 1 ≤ lt q ∧ lt q ≤ 26 := by rw [hlt2]; exact hlt
      clear hlt2 hg0 hl0 hld hr1
      refine J_loop (σ := Nat × OS × OS × (Nat → Nat) × Nat) (fun z => OW G P σ z.2.1 ++ OW G R (rdF σ H z.2.2.2.1 lt) z.2.2.1) (fun z => [(0, .ref P.1), (1, .ref R.1), (2, .int v), (3, .int w), (4, .int 1), (5, .int (nI H)), (6, .int (nI u3)), (7, .int (nI z.1))]) (fun z => z.1 ≤ u3 ∧ R2 r σ H lt x y z.1 z.2.1 z.2.2.1 z.2.2.2.1 z.2.2.2.2) (fun z => u3 - z.1) (fun z hz ih => ?_) (0, x1, y1, (fun _ => 0), 0) ⟨Nat.zero_le _, hr2⟩ rfl rfl
      clear h2 h3 h4 h5 hr2 hiH
      obtain ⟨i2, x2, y2, m, g⟩ := z
      obtain ⟨h2, h3⟩ := hz
      have h2 : i2 ≤ u3 := h2
      have h3 : R2 r σ H lt x y i2 x2 y2 m g := h3
      have hx2 : GV r σ x2.1 := by rw [h3.2.2.2.2.2.2.2.1]; exact hx
      have h4 := h3.2.2.1
      have hgp := h3.2.2.2.2.2.2.2.2.2.2
      refine J_ws (ws' := OW G P σ x2 ++ OW G R (rdF σ H m lt) y2) rfl ?_
      refine J_lvp [0, 1, 2, 3, 4, 5, 6, 7] [(0, .ref P.1), (1, .ref R.1), (2, .int v), (3, .int w), (4, .int 1), (5, .int (nI H)), (6, .int (nI u3)), (7, .int (nI i2))] rfl ?_
      refine J_iload C rfl dL_isRead_147 ?_
      refine J_iload C rfl dL_isRead_149 ?_
      refine J_icmp_ge C 307 (by decide) dL_isRead_151 (fun c151 => ?_) (fun c151 => ?_)
      · skip
        have c151 := cv_ge_t (a := i2) (b := u3) (by omega) (by omega) c151
        have hrd := h3.rd hlt
        refine J_aload_n C rfl dL_isRead_307 ?_
        refine J_bipush C 6 (by decide) dL_isRead_308 ?_
        refine J_V1 (as := [.int 6]) (rest := []) C NoX.b NoX.f (o_count l G P σ x2 6 (hx2).i (hx2).d) (OW G R (rdF σ H m lt) y2) (fun _ => OW_l2 _ _ _ _ _ _) 1 k382 k383 k384 k10 k385 rfl (by decide +kernel) ⟨Nat.le_of_ble_eq_true rfl, Nat.le_of_ble_eq_true rfl⟩ ⟨Nat.le_of_ble_eq_true rfl, Nat.le_of_ble_eq_true rfl⟩ dL_isRead_310 (Nat.le_of_ble_eq_true rfl) (OW_0 _ _ _ _) rfl (fun _ _ => ?_)
        refine J_st (st' := [.int (cntF σ x2.2.2.2.1.2.2.2 x2.2.2.2.2.1.2 (6 : Int32).toInt)]) rfl ?_
        refine J_ws (ws' := OW G P σ x2 ++ OW G R (rdF σ H m lt) y2) rfl ?_
        refine J_i ((by rw [show (6 : Int32).toInt = 6 from by decide] <;> rfl) : (cntF σ x2.2.2.2.1.2.2.2 x2.2.2.2.2.1.2 (6 : Int32).toInt : Int32) = (nI (σ 0 9))) ?_
        refine J_istore C [(7, .int (nI (σ 0 9))), (0, .ref P.1), (1, .ref R.1), (2, .int v), (3, .int w), (4, .int 1), (5, .int (nI H)), (6, .int (nI u3))] (by decide) rfl dL_isRead_313 ?_
        refine J_iload C rfl dL_isRead_315 ?_
        refine J_if_eq C 400 (by decide) dL_isRead_317 (fun h => absurd h (by decide)) (fun _ => ?_)
        refine J_aload_n C rfl dL_isRead_320 ?_
        refine J_V1 (as := []) (rest := []) C NoX.b NoX.f (o_read l G P σ x2 h3.2.2.2.2.2.1 hrd.1 hrd.2.1) (OW G R (rdF σ H m lt) y2) (fun _ => OW_l2 _ _ _ _ _ _) 0 k259 k260 k261 k10 k262 rfl (by decide +kernel) ⟨Nat.le_of_ble_eq_true rfl, Nat.le_of_ble_eq_true rfl⟩ ⟨Nat.le_of_ble_eq_true rfl, Nat.le_of_ble_eq_true rfl⟩ dL_isRead_321 (Nat.le_of_ble_eq_true rfl) (OW_0 _ _ _ _) rfl (fun _ _ => ?_)
        refine J_st (st' := [.int (nI (2 * halfN x2.2.2.2.2.1.1 x2.2.2.2.2.1.2))]) rfl ?_
        refine J_ws (ws' := OW G P (newF σ x2.2.2.2.2.1.1 x2.2.2.2.2.1.2) (redX x2 σ) ++ OW G R (rdF σ H m lt) y2) rfl ?_
        refine J_i ((by rw [hrd.2.2.1]) : (nI (2 * halfN x2.2.2.2.2.1.1 x2.2.2.2.2.1.2) : Int32) = (nI (2 * H))) ?_
        refine J_ws (ws' := OW G P (rdF σ H m lt) (redX x2 σ) ++ OW G R (rdF σ H m lt) y2) (by rw [hrd.2.2.2.1]) ?_
        have hgo : GV r (rdF σ H m lt) (redX x2 σ).1 := by
          rw [redX_d, hrd.2.2.1]
          exact hx2.rd hH.2 h3.2.2.2.1 hlt (dlp_ok (fun q hq => by rw [if_pos hq]; exact hrd.2.2.2.2 q hq))
        refine J_iconst C 2 (by decide) dL_isRead_324 ?_
        refine J_iload C rfl dL_isRead_325 ?_
        refine J_imul C dL_isRead_327 ?_
        refine J_i (pk_mul 2 H : (2 * (nI H) : Int32) = (nI (2 * H))) ?_
        refine J_icmp_ne C 400 (by decide) dL_isRead_328 (fun h => absurd (cv_ne_t (a := (2 * H)) (b := (2 * H)) (by omega) (by omega) h) (by omega)) (fun c328 => ?_)
        refine J_aload_n C rfl dL_isRead_331 ?_
        refine J_iconst C 1 (by decide) dL_isRead_332 ?_
        refine J_V1 (as := [.int 1]) (rest := []) C NoX.b NoX.f (o_count l G P (rdF σ H m lt) (redX x2 σ) 1 (hgo).i (hgo).d) (OW G R (rdF σ H m lt) y2) (fun _ => OW_l2 _ _ _ _ _ _) 1 k382 k383 k384 k10 k385 rfl (by decide +kernel) ⟨Nat.le_of_ble_eq_true rfl, Nat.le_of_ble_eq_true rfl⟩ ⟨Nat.le_of_ble_eq_true rfl, Nat.le_of_ble_eq_true rfl⟩ dL_isRead_333 (Nat.le_of_ble_eq_true rfl) (OW_0 _ _ _ _) rfl (fun _ _ => ?_)
        refine J_st (st' := [.int (cntF (rdF σ H m lt) (redX x2 σ).2.2.2.1.2.2.2 (redX x2 σ).2.2.2.2.1.2 (1 : Int32).toInt)]) rfl ?_
        refine J_ws (ws' := OW G P (rdF σ H m lt) (redX x2 σ) ++ OW G R (rdF σ H m lt) y2) rfl ?_
        refine J_i ((by rw [show (1 : Int32).toInt = 1 from by decide] <;> rfl) : (cntF (rdF σ H m lt) (redX x2 σ).2.2.2.1.2.2.2 (redX x2 σ).2.2.2.2.1.2 (1 : Int32).toInt : Int32) = (nI ((rdF σ H m lt) 0 4))) ?_
        refine J_i (y := nI (2 * H)) rfl ?_
        refine J_iconst C 2 (by decide) dL_isRead_336 ?_
        refine J_iload C rfl dL_isRead_337 ?_
        refine J_imul C dL_isRead_339 ?_
        refine J_i (pk_mul 2 H : (2 * (nI H) : Int32) = (nI (2 * H))) ?_
        refine J_icmp_ne C 400 (by decide) dL_isRead_340 (fun h => absurd (cv_ne_t (a := (2 * H)) (b := (2 * H)) (by omega) (by omega) h) (by omega)) (fun c340 => ?_)
        refine J_aload_n C rfl dL_isRead_343 ?_
        refine J_iconst C 2 (by decide) dL_isRead_344 ?_
        refine J_V1 (as := [.int 2]) (rest := []) C NoX.b NoX.f (o_count l G P (rdF σ H m lt) (redX x2 σ) 2 (hgo).i (hgo).d) (OW G R (rdF σ H m lt) y2) (fun _ => OW_l2 _ _ _ _ _ _) 1 k382 k383 k384 k10 k385 rfl (by decide +kernel) ⟨Nat.le_of_ble_eq_true rfl, Nat.le_of_ble_eq_true rfl⟩ ⟨Nat.le_of_ble_eq_true rfl, Nat.le_of_ble_eq_true rfl⟩ dL_isRead_345 (Nat.le_of_ble_eq_true rfl) (OW_0 _ _ _ _) rfl (fun _ _ => ?_)
        refine J_st (st' := [.int (cntF (rdF σ H m lt) (redX x2 σ).2.2.2.1.2.2.2 (redX x2 σ).2.2.2.2.1.2 (2 : Int32).toInt)]) rfl ?_
        refine J_ws (ws' := OW G P (rdF σ H m lt) (redX x2 σ) ++ OW G R (rdF σ H m lt) y2) rfl ?_
        refine J_i ((by rw [show (2 : Int32).toInt = 2 from by decide] <;> rfl) : (cntF (rdF σ H m lt) (redX x2 σ).2.2.2.1.2.2.2 (redX x2 σ).2.2.2.2.1.2 (2 : Int32).toInt : Int32) = (nI ((rdF σ H m lt) 0 14 + (rdF σ H m lt) 0 15))) ?_
        refine J_i (y := 0) rfl ?_
        refine J_if_ne C 400 (by decide) dL_isRead_348 (fun h => absurd h (by decide)) (fun _ => ?_)
        refine J_aload_n C rfl dL_isRead_351 ?_
        refine J_bipush C 6 (by decide) dL_isRead_352 ?_
        refine J_V1 (as := [.int 6]) (rest := []) C NoX.b NoX.f (o_count l G P (rdF σ H m lt) (redX x2 σ) 6 (hgo).i (hgo).d) (OW G R (rdF σ H m lt) y2) (fun _ => OW_l2 _ _ _ _ _ _) 1 k382 k383 k384 k10 k385 rfl (by decide +kernel) ⟨Nat.le_of_ble_eq_true rfl, Nat.le_of_ble_eq_true rfl⟩ ⟨Nat.le_of_ble_eq_true rfl, Nat.le_of_ble_eq_true rfl⟩ dL_isRead_354 (Nat.le_of_ble_eq_true rfl) (OW_0 _ _ _ _) rfl (fun _ _ => ?_)
        refine J_st (st' := [.int (cntF (rdF σ H m lt) (redX x2 σ).2.2.2.1.2.2.2 (redX x2 σ).2.2.2.2.1.2 (6 : Int32).toInt)]) rfl ?_
        refine J_ws (ws' := OW G P (rdF σ H m lt) (redX x2 σ) ++ OW G R (rdF σ H m lt) y2) rfl ?_
        refine J_i ((by rw [show (6 : Int32).toInt = 6 from by decide] <;> rfl) : (cntF (rdF σ H m lt) (redX x2 σ).2.2.2.1.2.2.2 (redX x2 σ).2.2.2.2.1.2 (6 : Int32).toInt : Int32) = (nI ((rdF σ H m lt) 0 9))) ?_
        refine J_i (y := nI (σ 0 9 + 1)) rfl ?_
        refine J_iload C rfl dL_isRead_357 ?_
        refine J_iconst C 1 (by decide) dL_isRead_359 ?_
        refine J_iadd C dL_isRead_360 ?_
        refine J_i (nI_add (σ 0 9) 1 : ((nI (σ 0 9)) + 1 : Int32) = (nI (σ 0 9 + 1))) ?_
        refine J_icmp_ne C 400 (by decide) dL_isRead_361 (fun h => absurd h (fun q => q rfl)) (fun _ => ?_)
        refine J_aload_n C rfl dL_isRead_364 ?_
        refine J_iconst C 5 (by decide) dL_isRead_365 ?_
        refine J_V1 (as := [.int 5]) (rest := []) C NoX.b NoX.f (o_count l G P (rdF σ H m lt) (redX x2 σ) 5 (hgo).i (hgo).d) (OW G R (rdF σ H m lt) y2) (fun _ => OW_l2 _ _ _ _ _ _) 1 k382 k383 k384 k10 k385 rfl (by decide +kernel) ⟨Nat.le_of_ble_eq_true rfl, Nat.le_of_ble_eq_true rfl⟩ ⟨Nat.le_of_ble_eq_true rfl, Nat.le_of_ble_eq_true rfl⟩ dL_isRead_366 (Nat.le_of_ble_eq_true rfl) (OW_0 _ _ _ _) rfl (fun _ _ => ?_)
        refine J_st (st' := [.int (cntF (rdF σ H m lt) (redX x2 σ).2.2.2.1.2.2.2 (redX x2 σ).2.2.2.2.1.2 (5 : Int32).toInt)]) rfl ?_
        refine J_ws (ws' := OW G P (rdF σ H m lt) (redX x2 σ) ++ OW G R (rdF σ H m lt) y2) rfl ?_
        refine J_i ((by rw [show (5 : Int32).toInt = 5 from by decide] <;> rfl) : (cntF (rdF σ H m lt) (redX x2 σ).2.2.2.1.2.2.2 (redX x2 σ).2.2.2.2.1.2 (5 : Int32).toInt : Int32) = (nI ((rdF σ H m lt) 7 2 - (rdF σ H m lt) 0 5))) ?_
        refine J_i (y := nI (σ 7 2)) rfl ?_
        refine J_aload_n C rfl dL_isRead_369 ?_
        refine J_bipush C 11 (by decide) dL_isRead_370 ?_
        refine J_V1 (as := [.int 11]) (rest := [.int (nI (σ 7 2))]) C NoX.b NoX.f (o_count l G P (rdF σ H m lt) (redX x2 σ) 11 (hgo).i (hgo).d) (OW G R (rdF σ H m lt) y2) (fun _ => OW_l2 _ _ _ _ _ _) 1 k382 k383 k384 k10 k385 rfl (by decide +kernel) ⟨Nat.le_of_ble_eq_true rfl, Nat.le_of_ble_eq_true rfl⟩ ⟨Nat.le_of_ble_eq_true rfl, Nat.le_of_ble_eq_true rfl⟩ dL_isRead_372 (Nat.le_of_ble_eq_true rfl) (OW_0 _ _ _ _) rfl (fun _ _ => ?_)
        refine J_st (st' := [.int (cntF (rdF σ H m lt) (redX x2 σ).2.2.2.1.2.2.2 (redX x2 σ).2.2.2.2.1.2 (11 : Int32).toInt), .int (nI (σ 7 2))]) rfl ?_
        refine J_ws (ws' := OW G P (rdF σ H m lt) (redX x2 σ) ++ OW G R (rdF σ H m lt) y2) rfl ?_
        refine J_i ((by rw [show (11 : Int32).toInt = 11 from by decide] <;> rfl) : (cntF (rdF σ H m lt) (redX x2 σ).2.2.2.1.2.2.2 (redX x2 σ).2.2.2.2.1.2 (11 : Int32).toInt : Int32) = (nI ((rdF σ H m lt) 7 2))) ?_
        refine J_i (y := nI (σ 7 2)) rfl ?_
        refine J_icmp_ne C 400 (by decide) dL_isRead_375 (fun h => absurd h (fun q => q rfl)) (fun _ => ?_)
        refine J_aload_n C rfl dL_isRead_378 ?_
        refine J_iconst C 0 (by decide) dL_isRead_379 ?_
        refine J_iconst C 3 (by decide) dL_isRead_380 ?_
        refine J_V1 (as := [.int 0, .int 3]) (rest := []) C NoX.b NoX.f (o_scribe0 l G P (rdF σ H m lt) (redX x2 σ) 3 (hgo).i) (OW G R (rdF σ H m lt) y2) (fun _ => OW_l2 _ _ _ _ _ _) 2 k405 k406 k407 k10 k408 rfl (by decide +kernel) ⟨Nat.le_of_ble_eq_true rfl, Nat.le_of_ble_eq_true rfl⟩ ⟨Nat.le_of_ble_eq_true rfl, Nat.le_of_ble_eq_true rfl⟩ dL_isRead_381 (Nat.le_of_ble_eq_true rfl) (OW_0 _ _ _ _) rfl (fun _ _ => ?_)
        refine J_st (st' := [.int (scrF (rdF σ H m lt) 0 (3 : Int32).toInt)]) rfl ?_
        refine J_ws (ws' := OW G P (rdF σ H m lt) (redX x2 σ) ++ OW G R (rdF σ H m lt) y2) rfl ?_
        refine J_i ((by rw [show (3 : Int32).toInt = 3 from by decide] <;> rfl) : (scrF (rdF σ H m lt) 0 (3 : Int32).toInt : Int32) = (nI ((rdF σ H m lt) 0 16))) ?_
        refine J_i (y := 0) rfl ?_
        refine J_if_ne C 400 (by decide) dL_isRead_384 (fun h => absurd h (by decide)) (fun _ => ?_)
        refine J_aload_n C rfl dL_isRead_387 ?_
        refine J_iconst C 1 (by decide) dL_isRead_388 ?_
        refine J_iconst C 1 (by decide) dL_isRead_389 ?_
        refine J_V1 (as := [.int 1, .int 1]) (rest := []) C NoX.b NoX.f (o_scribe1 l G P (rdF σ H m lt) (redX x2 σ) 1 (hgo).i) (OW G R (rdF σ H m lt) y2) (fun _ => OW_l2 _ _ _ _ _ _) 2 k405 k406 k407 k10 k408 rfl (by decide +kernel) ⟨Nat.le_of_ble_eq_true rfl, Nat.le_of_ble_eq_true rfl⟩ ⟨Nat.le_of_ble_eq_true rfl, Nat.le_of_ble_eq_true rfl⟩ dL_isRead_390 (Nat.le_of_ble_eq_true rfl) (OW_0 _ _ _ _) rfl (fun _ _ => ?_)
        refine J_st (st' := [.int (scrF (rdF σ H m lt) 1 (1 : Int32).toInt)]) rfl ?_
        refine J_ws (ws' := OW G P (rdF σ H m lt) (redX x2 σ) ++ OW G R (rdF σ H m lt) y2) rfl ?_
        refine J_i ((by rw [show (1 : Int32).toInt = 1 from by decide] <;> rfl) : (scrF (rdF σ H m lt) 1 (1 : Int32).toInt : Int32) = (nI ((rdF σ H m lt) 0 15))) ?_
        refine J_i (y := 0) rfl ?_
        refine J_if_ne C 400 (by decide) dL_isRead_393 (fun h => absurd h (by decide)) (fun _ => ?_)
        refine J_iconst C 1 (by decide) dL_isRead_396 ?_
        refine J_goto C 401 (by decide) dL_isRead_397 ?_
        exact J_zret C hr rfl dL_isRead_401 (rdF σ H m lt, redX x2 σ, y2) rfl ⟨show 0 < 2 * H from by omega, hgo, hgp, h3.2.2.2.2.2.1.red σ, h3.2.2.2.2.2.2.1, (redX_s x2 σ).trans h3.2.2.2.2.2.2.2.2.1, h3.2.2.2.2.2.2.2.2.2.1⟩ rfl
      · skip
        have c151 := cv_ge_f (a := i2) (b := u3) (by omega) (by omega) c151
        refine J_iload_n C rfl dL_isRead_154 ?_
        refine J_iconst C 3 (by decide) dL_isRead_155 ?_
        refine J_iload C rfl dL_isRead_156 ?_
        refine J_imul C dL_isRead_158 ?_
        refine J_i (pk_mul 3 i2 : (3 * (nI i2) : Int32) = (nI (3 * i2))) ?_
        refine J_ishr C dL_isRead_159 ?_
        generalize w >>> ((nI (3 * i2)) &&& 31) = w4
        refine J_iconst C 2 (by decide) dL_isRead_160 ?_
        refine J_iload C rfl dL_isRead_161 ?_
        refine J_imul C dL_isRead_163 ?_
        refine J_i (pk_mul 2 H : (2 * (nI H) : Int32) = (nI (2 * H))) ?_
        refine J_S0 (as := [.int w4, .int (nI (2 * H))]) (rest := []) C NoX.b NoX.f (ct_up l G w4 (2 * H) (by omega)) 2 k247 k248 k9 k249 rfl (by decide +kernel) ⟨Nat.le_of_ble_eq_true rfl, Nat.le_of_ble_eq_true rfl⟩ ⟨Nat.le_of_ble_eq_true rfl, Nat.le_of_ble_eq_true rfl⟩ dL_isRead_164 (Nat.le_of_ble_eq_true rfl) (fun u5 hu5 => ?_)
        refine J_st (st' := [.int (nI u5)]) rfl ?_
        refine J_ws (ws' := OW G P σ x2 ++ OW G R (rdF σ H m lt) y2) rfl ?_
        refine J_istore C [(8, .int (nI u5)), (0, .ref P.1), (1, .ref R.1), (2, .int v), (3, .int w), (4, .int 1), (5, .int (nI H)), (6, .int (nI u3)), (7, .int (nI i2))] (by decide) rfl dL_isRead_167 ?_
        refine J_iconst C 1 (by decide) dL_isRead_169 ?_
        refine J_iload_n C rfl dL_isRead_170 ?_
        refine J_iconst C 2 (by decide) dL_isRead_171 ?_
        refine J_iload C rfl dL_isRead_172 ?_
        refine J_imul C dL_isRead_174 ?_
        refine J_i (pk_mul 2 i2 : (2 * (nI i2) : Int32) = (nI (2 * i2))) ?_
        refine J_ishr C dL_isRead_175 ?_
        generalize v >>> ((nI (2 * i2)) &&& 31) = w6
        refine J_bipush C 26 (by decide) dL_isRead_176 ?_
        refine J_S0 (as := [.int w6, .int 26]) (rest := [.int 1]) C NoX.b NoX.f (ct_up l G w6 26 (by omega)) 2 k247 k248 k9 k249 rfl (by decide +kernel) ⟨Nat.le_of_ble_eq_true rfl, Nat.le_of_ble_eq_true rfl⟩ ⟨Nat.le_of_ble_eq_true rfl, Nat.le_of_ble_eq_true rfl⟩ dL_isRead_178 (Nat.le_of_ble_eq_true rfl) (fun u7 hu7 => ?_)
        refine J_st (st' := [.int (nI u7), .int 1]) rfl ?_
        refine J_ws (ws' := OW G P σ x2 ++ OW G R (rdF σ H m lt) y2) rfl ?_
        refine J_iadd C dL_isRead_181 ?_
        refine J_i (nI_add 1 u7 : (1 + (nI u7) : Int32) = (nI (1 + u7))) ?_
        refine J_istore C [(9, .int (nI (1 + u7))), (8, .int (nI u5)), (0, .ref P.1), (1, .ref R.1), (2, .int v), (3, .int w), (4, .int 1), (5, .int (nI H)), (6, .int (nI u3)), (7, .int (nI i2))] (by decide) rfl dL_isRead_182 ?_
        refine J_iload C rfl dL_isRead_184 ?_
        refine J_if_eq C 264 (by decide) dL_isRead_186 (fun h => absurd h (by decide)) (fun _ => ?_)
        refine J_aload_n C rfl dL_isRead_189 ?_
        refine J_iload C rfl dL_isRead_190 ?_
        refine J_merge 202 [.int (nI (sepC i2)), .ref P.1] [(9, .int (nI (1 + u7))), (8, .int (nI u5)), (0, .ref P.1), (1, .ref R.1), (2, .int v), (3, .int w), (4, .int 1), (5, .int (nI H)), (6, .int (nI u3)), (7, .int (nI i2))] (fun hm => ?_) ?_
        · skip
          refine J_if_ne C 200 (by decide) dL_isRead_192 (fun c192 => ?_) (fun c192 => ?_)
          · skip
            have c192 := cv_ne_t (a := i2) (b := 0) (by omega) (by omega) c192
            refine J_bipush C 44 (by decide) dL_isRead_200 ?_
            refine J_i (show (44 : Int32) = (nI (sepC i2)) from by unfold sepC; rw [if_neg (by omega)] <;> rfl) ?_
            exact hm
          · skip
            have c192 := cv_ne_f (a := i2) (b := 0) (by omega) (by omega) c192
            refine J_bipush C 33 (by decide) dL_isRead_195 ?_
            refine J_goto C 202 (by decide) dL_isRead_197 ?_
            refine J_i (show (33 : Int32) = (nI (sepC i2)) from by unfold sepC; rw [if_pos (by omega)] <;> rfl) ?_
            exact hm
        · skip
          have hsp := sepC_lt i2
          refine J_V1 (as := [.int (nI (sepC i2))]) (rest := []) C NoX.b NoX.f (o_type l G P σ x2 (sepC i2) (by show x2.2.2.2.2.1.2 < 60; omega) (by omega)) (OW G R (rdF σ H m lt) y2) (fun _ => OW_l2 _ _ _ _ _ _) 1 k251 k252 k253 k10 k254 rfl (by decide +kernel) ⟨Nat.le_of_ble_eq_true rfl, Nat.le_of_ble_eq_true rfl⟩ ⟨Nat.le_of_ble_eq_true rfl, Nat.le_of_ble_eq_true rfl⟩ dL_isRead_202 (Nat.le_of_ble_eq_true rfl) (OW_0 _ _ _ _) rfl (fun _ _ => ?_)
          refine J_st (st' := [.int (nI (x2.2.2.2.2.1.2 + 1))]) rfl ?_
          refine J_ws (ws' := OW G P σ (typX x2 (sepC i2)) ++ OW G R (rdF σ H m lt) y2) rfl ?_
          refine J_i (y := nI (x2.2.2.2.2.1.2 + 1)) rfl ?_
          refine J_if_le C 264 (by decide) dL_isRead_205 (fun h => absurd (cv_le_t (a := (x2.2.2.2.2.1.2 + 1)) (b := 0) (by omega) (by omega) h) (by omega)) (fun c205 => ?_)
          refine J_iload C rfl dL_isRead_208 ?_
          refine J_bipush C 10 (by decide) dL_isRead_210 ?_
          refine J_icmp_lt C 231 (by decide) dL_isRead_212 (fun c212 => ?_) (fun c212 => ?_)
          · skip
            have c212 := cv_lt_t (a := u5) (b := 10) (by omega) (by omega) c212
            refine J_aload_n C rfl dL_isRead_231 ?_
            refine J_bipush C 48 (by decide) dL_isRead_232 ?_
            refine J_iload C rfl dL_isRead_234 ?_
            refine J_bipush C 10 (by decide) dL_isRead_236 ?_
            refine J_irem C (by decide) dL_isRead_238 ?_
            refine J_i (pk_rem (a := u5) (d := 10) (by omega) (by omega) (by omega) : ((nI u5) - (nI u5) / 10 * 10 : Int32) = (nI (u5 % 10))) ?_
            refine J_iadd C dL_isRead_239 ?_
            refine J_i (nI_add 48 (u5 % 10) : (48 + (nI (u5 % 10)) : Int32) = (nI (48 + (u5 % 10)))) ?_
            refine J_i2c C dL_isRead_240 ?_
            refine J_i (chr_nI (n := 48 + (u5 % 10)) (by omega) : (((nI (48 + (u5 % 10))).toUInt32 % 65536).toInt32 : Int32) = (nI (48 + (u5 % 10)))) ?_
            refine J_V1 (as := [.int (nI (48 + (u5 % 10)))]) (rest := []) C NoX.b NoX.f (o_type l G P σ (typX x2 (sepC i2)) (48 + (u5 % 10)) (by show x2.2.2.2.2.1.2 + 1 < 60; omega) (by omega)) (OW G R (rdF σ H m lt) y2) (fun _ => OW_l2 _ _ _ _ _ _) 1 k251 k252 k253 k10 k254 rfl (by decide +kernel) ⟨Nat.le_of_ble_eq_true rfl, Nat.le_of_ble_eq_true rfl⟩ ⟨Nat.le_of_ble_eq_true rfl, Nat.le_of_ble_eq_true rfl⟩ dL_isRead_241 (Nat.le_of_ble_eq_true rfl) (OW_0 _ _ _ _) rfl (fun _ _ => ?_)
            refine J_st (st' := [.int (nI ((typX x2 (sepC i2)).2.2.2.2.1.2 + 1))]) rfl ?_
            refine J_ws (ws' := OW G P σ (typX (typX x2 (sepC i2)) (48 + (u5 % 10))) ++ OW G R (rdF σ H m lt) y2) rfl ?_
            refine J_i (y := nI (x2.2.2.2.2.1.2 + 1 + 1)) rfl ?_
            refine J_if_le C 264 (by decide) dL_isRead_244 (fun h => absurd (cv_le_t (a := (x2.2.2.2.2.1.2 + 1 + 1)) (b := 0) (by omega) (by omega) h) (by omega)) (fun c244 => ?_)
            refine J_aload_n C rfl dL_isRead_247 ?_
            refine J_bipush C 96 (by decide) dL_isRead_248 ?_
            refine J_iload C rfl dL_isRead_250 ?_
            refine J_iadd C dL_isRead_252 ?_
            refine J_i (nI_add 96 (1 + u7) : (96 + (nI (1 + u7)) : Int32) = (nI (96 + (1 + u7)))) ?_
            refine J_i2c C dL_isRead_253 ?_
            refine J_i (chr_nI (n := 96 + (1 + u7)) (by omega) : (((nI (96 + (1 + u7))).toUInt32 % 65536).toInt32 : Int32) = (nI (96 + (1 + u7)))) ?_
            refine J_V1 (as := [.int (nI (96 + (1 + u7)))]) (rest := []) C NoX.b NoX.f (o_type l G P σ (typX (typX x2 (sepC i2)) (48 + (u5 % 10))) (96 + (1 + u7)) (by show x2.2.2.2.2.1.2 + 1 + 1 < 60; omega) (by omega)) (OW G R (rdF σ H m lt) y2) (fun _ => OW_l2 _ _ _ _ _ _) 1 k251 k252 k253 k10 k254 rfl (by decide +kernel) ⟨Nat.le_of_ble_eq_true rfl, Nat.le_of_ble_eq_true rfl⟩ ⟨Nat.le_of_ble_eq_true rfl, Nat.le_of_ble_eq_true rfl⟩ dL_isRead_254 (Nat.le_of_ble_eq_true rfl) (OW_0 _ _ _ _) rfl (fun _ _ => ?_)
            refine J_st (st' := [.int (nI ((typX (typX x2 (sepC i2)) (48 + (u5 % 10))).2.2.2.2.1.2 + 1))]) rfl ?_
            refine J_ws (ws' := OW G P σ (typX (typX (typX x2 (sepC i2)) (48 + (u5 % 10))) (96 + (1 + u7))) ++ OW G R (rdF σ H m lt) y2) rfl ?_
            refine J_i (y := nI (x2.2.2.2.2.1.2 + 1 + 1 + 1)) rfl ?_
            refine J_if_le C 264 (by decide) dL_isRead_257 (fun h => absurd (cv_le_t (a := (x2.2.2.2.2.1.2 + 1 + 1 + 1)) (b := 0) (by omega) (by omega) h) (by omega)) (fun c257 => ?_)
            refine J_iconst C 1 (by decide) dL_isRead_260 ?_
            refine J_goto C 265 (by decide) dL_isRead_261 ?_
            refine J_istore C [(4, .int 1), (9, .int (nI (1 + u7))), (8, .int (nI u5)), (0, .ref P.1), (1, .ref R.1), (2, .int v), (3, .int w), (5, .int (nI H)), (6, .int (nI u3)), (7, .int (nI i2))] (by decide) rfl dL_isRead_265 ?_
            refine J_aload_n C rfl dL_isRead_267 ?_
            refine J_iload C rfl dL_isRead_268 ?_
            refine J_iload C rfl dL_isRead_270 ?_
            refine J_V2 (as := [.int (nI u5), .int (nI (1 + u7))]) (rest := []) C NoX.b NoX.f (o_mis l G R (rdF σ H m lt) y2 u5 (1 + u7) hgp.i hgp.d h3.2.2.2.2.2.2.1 (show u5 < 2 * H from by omega) (by omega)) (OW G P σ (typX (typX (typX x2 (sepC i2)) (48 + (u5 % 10))) (96 + (1 + u7)))) (fun _ => OW_l2 _ _ _ _ _ _) 2 k351 k352 k353 k10 k354 rfl (by decide +kernel) ⟨Nat.le_of_ble_eq_true rfl, Nat.le_of_ble_eq_true rfl⟩ ⟨Nat.le_of_ble_eq_true rfl, Nat.le_of_ble_eq_true rfl⟩ dL_isRead_272 (Nat.le_of_ble_eq_true rfl) (OW_0 _ _ _ _) rfl (fun y3 hy3 => ?_)
            refine J_st (st' := [.int (misR (rdF σ H m lt) u5 (1 + u7))]) rfl ?_
            refine J_ws (ws' := OW G P σ (typX (typX (typX x2 (sepC i2)) (48 + (u5 % 10))) (96 + (1 + u7))) ++ OW G R (misS (rdF σ H m lt) u5 (1 + u7)) y3) rfl ?_
            refine J_ws (ws' := OW G P σ (typX (typX (typX x2 (sepC i2)) (48 + (u5 % 10))) (96 + (1 + u7))) ++ OW G R (rdF σ H (upN m u5 (1 + u7)) lt) y3) (by rw [misS_rd]) ?_
            by_cases he : (rdF σ H m lt) 2 u5 = 1 + u7
            · skip
              refine J_i ((if_neg (rdF_begun σ H m lt u5)).trans (if_pos he) : (misR (rdF σ H m lt) u5 (1 + u7) : Int32) = (-5)) ?_
              refine J_istore C [(10, .int (-5)), (4, .int 1), (9, .int (nI (1 + u7))), (8, .int (nI u5)), (0, .ref P.1), (1, .ref R.1), (2, .int v), (3, .int w), (5, .int (nI H)), (6, .int (nI u3)), (7, .int (nI i2))] (by decide) rfl dL_isRead_275 ?_
              refine J_iload C rfl dL_isRead_277 ?_
              refine J_if_eq C 298 (by decide) dL_isRead_279 (fun h => absurd h (by decide)) (fun _ => ?_)
              refine J_iload C rfl dL_isRead_282 ?_
              refine J_if_gt C 294 (by decide) dL_isRead_284 (fun h => absurd h (by decide)) (fun _ => ?_)
              refine J_iload C rfl dL_isRead_287 ?_
              refine J_bipush C (-5) (by decide) dL_isRead_289 ?_
              refine J_icmp_ne C 298 (by decide) dL_isRead_291 (fun h => absurd h (by decide)) (fun _ => ?_)
              refine J_iconst C 1 (by decide) dL_isRead_294 ?_
              refine J_goto C 299 (by decide) dL_isRead_295 ?_
              refine J_istore C [(4, .int 1), (10, .int (-5)), (9, .int (nI (1 + u7))), (8, .int (nI u5)), (0, .ref P.1), (1, .ref R.1), (2, .int v), (3, .int w), (5, .int (nI H)), (6, .int (nI u3)), (7, .int (nI i2))] (by decide) rfl dL_isRead_299 ?_
              refine J_iinc C (nI (i2 + 1)) [(7, .int (nI (i2 + 1))), (4, .int 1), (10, .int (-5)), (9, .int (nI (1 + u7))), (8, .int (nI u5)), (0, .ref P.1), (1, .ref R.1), (2, .int v), (3, .int w), (5, .int (nI H)), (6, .int (nI u3))] 10 rfl (by first | exact nI_add _ 1 | rfl) (by decide) rfl dL_isRead_301 ?_
              refine J_goto C 147 (by decide) dL_isRead_304 ?_
              refine J_lvp [5, 6, 7, 8, 1, 9, 10, 0] [(0, .ref P.1), (1, .ref R.1), (2, .int v), (3, .int w), (4, .int 1), (5, .int (nI H)), (6, .int (nI u3)), (7, .int (nI (i2 + 1)))] rfl ?_
              exact ih (i2 + 1, typX (typX (typX x2 (sepC i2)) (48 + (u5 % 10))) (96 + (1 + u7)), y3, upN m u5 (1 + u7), max g (u5 + 1)) ⟨by show i2 + 1 ≤ u3; omega, h3.a hH.2 (by omega) (by omega) (by omega) (by omega) hy3⟩ (by show u3 - (i2 + 1) < u3 - i2; omega)
            · skip
              have hla := hgp.i.let (p := u5) (show u5 < 2 * H from by omega)
              refine J_i ((if_neg (rdF_begun σ H m lt u5)).trans (if_neg he) : (misR (rdF σ H m lt) u5 (1 + u7) : Int32) = (nI (letAt (rdF σ H m lt) u5))) ?_
              refine J_istore C [(10, .int (nI (letAt (rdF σ H m lt) u5))), (4, .int 1), (9, .int (nI (1 + u7))), (8, .int (nI u5)), (0, .ref P.1), (1, .ref R.1), (2, .int v), (3, .int w), (5, .int (nI H)), (6, .int (nI u3)), (7, .int (nI i2))] (by decide) rfl dL_isRead_275 ?_
              refine J_iload C rfl dL_isRead_277 ?_
              refine J_if_eq C 298 (by decide) dL_isRead_279 (fun h => absurd h (by decide)) (fun _ => ?_)
              refine J_iload C rfl dL_isRead_282 ?_
              refine J_if_gt C 294 (by decide) dL_isRead_284 (fun c284 => ?_) (fun h => absurd (cv_gt_f (a := (letAt (rdF σ H m lt) u5)) (b := 0) (by omega) (by omega) h) (by omega))
              refine J_iconst C 1 (by decide) dL_isRead_294 ?_
              refine J_goto C 299 (by decide) dL_isRead_295 ?_
              refine J_istore C [(4, .int 1), (10, .int (nI (letAt (rdF σ H m lt) u5))), (9, .int (nI (1 + u7))), (8, .int (nI u5)), (0, .ref P.1), (1, .ref R.1), (2, .int v), (3, .int w), (5, .int (nI H)), (6, .int (nI u3)), (7, .int (nI i2))] (by decide) rfl dL_isRead_299 ?_
              refine J_iinc C (nI (i2 + 1)) [(7, .int (nI (i2 + 1))), (4, .int 1), (10, .int (nI (letAt (rdF σ H m lt) u5))), (9, .int (nI (1 + u7))), (8, .int (nI u5)), (0, .ref P.1), (1, .ref R.1), (2, .int v), (3, .int w), (5, .int (nI H)), (6, .int (nI u3))] 10 rfl (by first | exact nI_add _ 1 | rfl) (by decide) rfl dL_isRead_301 ?_
              refine J_goto C 147 (by decide) dL_isRead_304 ?_
              refine J_lvp [5, 6, 7, 8, 1, 9, 10, 0] [(0, .ref P.1), (1, .ref R.1), (2, .int v), (3, .int w), (4, .int 1), (5, .int (nI H)), (6, .int (nI u3)), (7, .int (nI (i2 + 1)))] rfl ?_
              exact ih (i2 + 1, typX (typX (typX x2 (sepC i2)) (48 + (u5 % 10))) (96 + (1 + u7)), y3, upN m u5 (1 + u7), max g (u5 + 1)) ⟨by show i2 + 1 ≤ u3; omega, h3.a hH.2 (by omega) (by omega) (by omega) (by omega) hy3⟩ (by show u3 - (i2 + 1) < u3 - i2; omega)
          · skip
            have c212 := cv_lt_f (a := u5) (b := 10) (by omega) (by omega) c212
            refine J_aload_n C rfl dL_isRead_215 ?_
            refine J_bipush C 48 (by decide) dL_isRead_216 ?_
            refine J_iload C rfl dL_isRead_218 ?_
            refine J_bipush C 10 (by decide) dL_isRead_220 ?_
            refine J_idiv C (by decide) dL_isRead_222 ?_
            refine J_i (pk_div (a := u5) (d := 10) (by omega) (by omega) (by omega) : ((nI u5) / 10 : Int32) = (nI (u5 / 10))) ?_
            refine J_iadd C dL_isRead_223 ?_
            refine J_i (nI_add 48 (u5 / 10) : (48 + (nI (u5 / 10)) : Int32) = (nI (48 + (u5 / 10)))) ?_
            refine J_i2c C dL_isRead_224 ?_
            refine J_i (chr_nI (n := 48 + (u5 / 10)) (by omega) : (((nI (48 + (u5 / 10))).toUInt32 % 65536).toInt32 : Int32) = (nI (48 + (u5 / 10)))) ?_
            refine J_V1 (as := [.int (nI (48 + (u5 / 10)))]) (rest := []) C NoX.b NoX.f (o_type l G P σ (typX x2 (sepC i2)) (48 + (u5 / 10)) (by show x2.2.2.2.2.1.2 + 1 < 60; omega) (by omega)) (OW G R (rdF σ H m lt) y2) (fun _ => OW_l2 _ _ _ _ _ _) 1 k251 k252 k253 k10 k254 rfl (by decide +kernel) ⟨Nat.le_of_ble_eq_true rfl, Nat.le_of_ble_eq_true rfl⟩ ⟨Nat.le_of_ble_eq_true rfl, Nat.le_of_ble_eq_true rfl⟩ dL_isRead_225 (Nat.le_of_ble_eq_true rfl) (OW_0 _ _ _ _) rfl (fun _ _ => ?_)
            refine J_st (st' := [.int (nI ((typX x2 (sepC i2)).2.2.2.2.1.2 + 1))]) rfl ?_
            refine J_ws (ws' := OW G P σ (typX (typX x2 (sepC i2)) (48 + (u5 / 10))) ++ OW G R (rdF σ H m lt) y2) rfl ?_
            refine J_i (y := nI (x2.2.2.2.2.1.2 + 1 + 1)) rfl ?_
            refine J_if_le C 264 (by decide) dL_isRead_228 (fun h => absurd (cv_le_t (a := (x2.2.2.2.2.1.2 + 1 + 1)) (b := 0) (by omega) (by omega) h) (by omega)) (fun c228 => ?_)
            refine J_aload_n C rfl dL_isRead_231 ?_
            refine J_bipush C 48 (by decide) dL_isRead_232 ?_
            refine J_iload C rfl dL_isRead_234 ?_
            refine J_bipush C 10 (by decide) dL_isRead_236 ?_
            refine J_irem C (by decide) dL_isRead_238 ?_
            refine J_i (pk_rem (a := u5) (d := 10) (by omega) (by omega) (by omega) : ((nI u5) - (nI u5) / 10 * 10 : Int32) = (nI (u5 % 10))) ?_
            refine J_iadd C dL_isRead_239 ?_
            refine J_i (nI_add 48 (u5 % 10) : (48 + (nI (u5 % 10)) : Int32) = (nI (48 + (u5 % 10)))) ?_
            refine J_i2c C dL_isRead_240 ?_
            refine J_i (chr_nI (n := 48 + (u5 % 10)) (by omega) : (((nI (48 + (u5 % 10))).toUInt32 % 65536).toInt32 : Int32) = (nI (48 + (u5 % 10)))) ?_
            refine J_V1 (as := [.int (nI (48 + (u5 % 10)))]) (rest := []) C NoX.b NoX.f (o_type l G P σ (typX (typX x2 (sepC i2)) (48 + (u5 / 10))) (48 + (u5 % 10)) (by show x2.2.2.2.2.1.2 + 1 + 1 < 60; omega) (by omega)) (OW G R (rdF σ H m lt) y2) (fun _ => OW_l2 _ _ _ _ _ _) 1 k251 k252 k253 k10 k254 rfl (by decide +kernel) ⟨Nat.le_of_ble_eq_true rfl, Nat.le_of_ble_eq_true rfl⟩ ⟨Nat.le_of_ble_eq_true rfl, Nat.le_of_ble_eq_true rfl⟩ dL_isRead_241 (Nat.le_of_ble_eq_true rfl) (OW_0 _ _ _ _) rfl (fun _ _ => ?_)
            refine J_st (st' := [.int (nI ((typX (typX x2 (sepC i2)) (48 + (u5 / 10))).2.2.2.2.1.2 + 1))]) rfl ?_
            refine J_ws (ws' := OW G P σ (typX (typX (typX x2 (sepC i2)) (48 + (u5 / 10))) (48 + (u5 % 10))) ++ OW G R (rdF σ H m lt) y2) rfl ?_
            refine J_i (y := nI (x2.2.2.2.2.1.2 + 1 + 1 + 1)) rfl ?_
            refine J_if_le C 264 (by decide) dL_isRead_244 (fun h => absurd (cv_le_t (a := (x2.2.2.2.2.1.2 + 1 + 1 + 1)) (b := 0) (by omega) (by omega) h) (by omega)) (fun c244 => ?_)
            refine J_aload_n C rfl dL_isRead_247 ?_
            refine J_bipush C 96 (by decide) dL_isRead_248 ?_
            refine J_iload C rfl dL_isRead_250 ?_
            refine J_iadd C dL_isRead_252 ?_
            refine J_i (nI_add 96 (1 + u7) : (96 + (nI (1 + u7)) : Int32) = (nI (96 + (1 + u7)))) ?_
            refine J_i2c C dL_isRead_253 ?_
            refine J_i (chr_nI (n := 96 + (1 + u7)) (by omega) : (((nI (96 + (1 + u7))).toUInt32 % 65536).toInt32 : Int32) = (nI (96 + (1 + u7)))) ?_
            refine J_V1 (as := [.int (nI (96 + (1 + u7)))]) (rest := []) C NoX.b NoX.f (o_type l G P σ (typX (typX (typX x2 (sepC i2)) (48 + (u5 / 10))) (48 + (u5 % 10))) (96 + (1 + u7)) (by show x2.2.2.2.2.1.2 + 1 + 1 + 1 < 60; omega) (by omega)) (OW G R (rdF σ H m lt) y2) (fun _ => OW_l2 _ _ _ _ _ _) 1 k251 k252 k253 k10 k254 rfl (by decide +kernel) ⟨Nat.le_of_ble_eq_true rfl, Nat.le_of_ble_eq_true rfl⟩ ⟨Nat.le_of_ble_eq_true rfl, Nat.le_of_ble_eq_true rfl⟩ dL_isRead_254 (Nat.le_of_ble_eq_true rfl) (OW_0 _ _ _ _) rfl (fun _ _ => ?_)
            refine J_st (st' := [.int (nI ((typX (typX (typX x2 (sepC i2)) (48 + (u5 / 10))) (48 + (u5 % 10))).2.2.2.2.1.2 + 1))]) rfl ?_
            refine J_ws (ws' := OW G P σ (typX (typX (typX (typX x2 (sepC i2)) (48 + (u5 / 10))) (48 + (u5 % 10))) (96 + (1 + u7))) ++ OW G R (rdF σ H m lt) y2) rfl ?_
            refine J_i (y := nI (x2.2.2.2.2.1.2 + 1 + 1 + 1 + 1)) rfl ?_
            refine J_if_le C 264 (by decide) dL_isRead_257 (fun h => absurd (cv_le_t (a := (x2.2.2.2.2.1.2 + 1 + 1 + 1 + 1)) (b := 0) (by omega) (by omega) h) (by omega)) (fun c257 => ?_)
            refine J_iconst C 1 (by decide) dL_isRead_260 ?_
            refine J_goto C 265 (by decide) dL_isRead_261 ?_
            refine J_istore C [(4, .int 1), (9, .int (nI (1 + u7))), (8, .int (nI u5)), (0, .ref P.1), (1, .ref R.1), (2, .int v), (3, .int w), (5, .int (nI H)), (6, .int (nI u3)), (7, .int (nI i2))] (by decide) rfl dL_isRead_265 ?_
            refine J_aload_n C rfl dL_isRead_267 ?_
            refine J_iload C rfl dL_isRead_268 ?_
            refine J_iload C rfl dL_isRead_270 ?_
            refine J_V2 (as := [.int (nI u5), .int (nI (1 + u7))]) (rest := []) C NoX.b NoX.f (o_mis l G R (rdF σ H m lt) y2 u5 (1 + u7) hgp.i hgp.d h3.2.2.2.2.2.2.1 (show u5 < 2 * H from by omega) (by omega)) (OW G P σ (typX (typX (typX (typX x2 (sepC i2)) (48 + (u5 / 10))) (48 + (u5 % 10))) (96 + (1 + u7)))) (fun _ => OW_l2 _ _ _ _ _ _) 2 k351 k352 k353 k10 k354 rfl (by decide +kernel) ⟨Nat.le_of_ble_eq_true rfl, Nat.le_of_ble_eq_true rfl⟩ ⟨Nat.le_of_ble_eq_true rfl, Nat.le_of_ble_eq_true rfl⟩ dL_isRead_272 (Nat.le_of_ble_eq_true rfl) (OW_0 _ _ _ _) rfl (fun y3 hy3 => ?_)
            refine J_st (st' := [.int (misR (rdF σ H m lt) u5 (1 + u7))]) rfl ?_
            refine J_ws (ws' := OW G P σ (typX (typX (typX (typX x2 (sepC i2)) (48 + (u5 / 10))) (48 + (u5 % 10))) (96 + (1 + u7))) ++ OW G R (misS (rdF σ H m lt) u5 (1 + u7)) y3) rfl ?_
            refine J_ws (ws' := OW G P σ (typX (typX (typX (typX x2 (sepC i2)) (48 + (u5 / 10))) (48 + (u5 % 10))) (96 + (1 + u7))) ++ OW G R (rdF σ H (upN m u5 (1 + u7)) lt) y3) (by rw [misS_rd]) ?_
            by_cases he : (rdF σ H m lt) 2 u5 = 1 + u7
            · skip
              refine J_i ((if_neg (rdF_begun σ H m lt u5)).trans (if_pos he) : (misR (rdF σ H m lt) u5 (1 + u7) : Int32) = (-5)) ?_
              refine J_istore C [(10, .int (-5)), (4, .int 1), (9, .int (nI (1 + u7))), (8, .int (nI u5)), (0, .ref P.1), (1, .ref R.1), (2, .int v), (3, .int w), (5, .int (nI H)), (6, .int (nI u3)), (7, .int (nI i2))] (by decide) rfl dL_isRead_275 ?_
              refine J_iload C rfl dL_isRead_277 ?_
              refine J_if_eq C 298 (by decide) dL_isRead_279 (fun h => absurd h (by decide)) (fun _ => ?_)
              refine J_iload C rfl dL_isRead_282 ?_
              refine J_if_gt C 294 (by decide) dL_isRead_284 (fun h => absurd h (by decide)) (fun _ => ?_)
              refine J_iload C rfl dL_isRead_287 ?_
              refine J_bipush C (-5) (by decide) dL_isRead_289 ?_
              refine J_icmp_ne C 298 (by decide) dL_isRead_291 (fun h => absurd h (by decide)) (fun _ => ?_)
              refine J_iconst C 1 (by decide) dL_isRead_294 ?_
              refine J_goto C 299 (by decide) dL_isRead_295 ?_
              refine J_istore C [(4, .int 1), (10, .int (-5)), (9, .int (nI (1 + u7))), (8, .int (nI u5)), (0, .ref P.1), (1, .ref R.1), (2, .int v), (3, .int w), (5, .int (nI H)), (6, .int (nI u3)), (7, .int (nI i2))] (by decide) rfl dL_isRead_299 ?_
              refine J_iinc C (nI (i2 + 1)) [(7, .int (nI (i2 + 1))), (4, .int 1), (10, .int (-5)), (9, .int (nI (1 + u7))), (8, .int (nI u5)), (0, .ref P.1), (1, .ref R.1), (2, .int v), (3, .int w), (5, .int (nI H)), (6, .int (nI u3))] 10 rfl (by first | exact nI_add _ 1 | rfl) (by decide) rfl dL_isRead_301 ?_
              refine J_goto C 147 (by decide) dL_isRead_304 ?_
              refine J_lvp [5, 6, 7, 8, 1, 9, 10, 0] [(0, .ref P.1), (1, .ref R.1), (2, .int v), (3, .int w), (4, .int 1), (5, .int (nI H)), (6, .int (nI u3)), (7, .int (nI (i2 + 1)))] rfl ?_
              exact ih (i2 + 1, typX (typX (typX (typX x2 (sepC i2)) (48 + (u5 / 10))) (48 + (u5 % 10))) (96 + (1 + u7)), y3, upN m u5 (1 + u7), max g (u5 + 1)) ⟨by show i2 + 1 ≤ u3; omega, h3.b hH.2 (by omega) (by omega) (by omega) (by omega) hy3⟩ (by show u3 - (i2 + 1) < u3 - i2; omega)
            · skip
              have hla := hgp.i.let (p := u5) (show u5 < 2 * H from by omega)
              refine J_i ((if_neg (rdF_begun σ H m lt u5)).trans (if_neg he) : (misR (rdF σ H m lt) u5 (1 + u7) : Int32) = (nI (letAt (rdF σ H m lt) u5))) ?_
              refine J_istore C [(10, .int (nI (letAt (rdF σ H m lt) u5))), (4, .int 1), (9, .int (nI (1 + u7))), (8, .int (nI u5)), (0, .ref P.1), (1, .ref R.1), (2, .int v), (3, .int w), (5, .int (nI H)), (6, .int (nI u3)), (7, .int (nI i2))] (by decide) rfl dL_isRead_275 ?_
              refine J_iload C rfl dL_isRead_277 ?_
              refine J_if_eq C 298 (by decide) dL_isRead_279 (fun h => absurd h (by decide)) (fun _ => ?_)
              refine J_iload C rfl dL_isRead_282 ?_
              refine J_if_gt C 294 (by decide) dL_isRead_284 (fun c284 => ?_) (fun h => absurd (cv_gt_f (a := (letAt (rdF σ H m lt) u5)) (b := 0) (by omega) (by omega) h) (by omega))
              refine J_iconst C 1 (by decide) dL_isRead_294 ?_
              refine J_goto C 299 (by decide) dL_isRead_295 ?_
              refine J_istore C [(4, .int 1), (10, .int (nI (letAt (rdF σ H m lt) u5))), (9, .int (nI (1 + u7))), (8, .int (nI u5)), (0, .ref P.1), (1, .ref R.1), (2, .int v), (3, .int w), (5, .int (nI H)), (6, .int (nI u3)), (7, .int (nI i2))] (by decide) rfl dL_isRead_299 ?_
              refine J_iinc C (nI (i2 + 1)) [(7, .int (nI (i2 + 1))), (4, .int 1), (10, .int (nI (letAt (rdF σ H m lt) u5))), (9, .int (nI (1 + u7))), (8, .int (nI u5)), (0, .ref P.1), (1, .ref R.1), (2, .int v), (3, .int w), (5, .int (nI H)), (6, .int (nI u3))] 10 rfl (by first | exact nI_add _ 1 | rfl) (by decide) rfl dL_isRead_301 ?_
              refine J_goto C 147 (by decide) dL_isRead_304 ?_
              refine J_lvp [5, 6, 7, 8, 1, 9, 10, 0] [(0, .ref P.1), (1, .ref R.1), (2, .int v), (3, .int w), (4, .int 1), (5, .int (nI H)), (6, .int (nI u3)), (7, .int (nI (i2 + 1)))] rfl ?_
              exact ih (i2 + 1, typX (typX (typX (typX x2 (sepC i2)) (48 + (u5 / 10))) (48 + (u5 % 10))) (96 + (1 + u7)), y3, upN m u5 (1 + u7), max g (u5 + 1)) ⟨by show i2 + 1 ≤ u3; omega, h3.b hH.2 (by omega) (by omega) (by omega) (by omega) hy3⟩ (by show u3 - (i2 + 1) < u3 - i2; omega)
    · skip
      have c60 := cv_ge_f (a := i) (b := H) (by omega) (by omega) c60
      refine J_bipush C 97 (by decide) dL_isRead_63 ?_
      refine J_iload_n C rfl dL_isRead_65 ?_
      refine J_iload C rfl dL_isRead_66 ?_
      refine J_ishr C dL_isRead_68 ?_
      generalize v >>> ((nI i) &&& 31) = w8
      refine J_iload_n C rfl dL_isRead_69 ?_
      refine J_iconst C 2 (by decide) dL_isRead_70 ?_
      refine J_iload C rfl dL_isRead_71 ?_
      refine J_imul C dL_isRead_73 ?_
      refine J_i (pk_mul 2 i : (2 * (nI i) : Int32) = (nI (2 * i))) ?_
      refine J_ishr C dL_isRead_74 ?_
      generalize w >>> ((nI (2 * i)) &&& 31) = w9
      refine J_ixor C dL_isRead_75 ?_
      generalize w8 ^^^ w9 = w10
      refine J_bipush C 26 (by decide) dL_isRead_76 ?_
      refine J_S0 (as := [.int w10, .int 26]) (rest := [.int 97]) C NoX.b NoX.f (ct_up l G w10 26 (by omega)) 2 k247 k248 k9 k249 rfl (by decide +kernel) ⟨Nat.le_of_ble_eq_true rfl, Nat.le_of_ble_eq_true rfl⟩ ⟨Nat.le_of_ble_eq_true rfl, Nat.le_of_ble_eq_true rfl⟩ dL_isRead_78 (Nat.le_of_ble_eq_true rfl) (fun u11 hu11 => ?_)
      refine J_st (st' := [.int (nI u11), .int 97]) rfl ?_
      refine J_ws (ws' := OW G P σ x1 ++ OW G R σ y1) rfl ?_
      refine J_iadd C dL_isRead_81 ?_
      refine J_i (nI_add 97 u11 : (97 + (nI u11) : Int32) = (nI (97 + u11))) ?_
      refine J_i2c C dL_isRead_82 ?_
      refine J_i (chr_nI (n := 97 + u11) (by omega) : (((nI (97 + u11)).toUInt32 % 65536).toInt32 : Int32) = (nI (97 + u11))) ?_
      refine J_istore C [(8, .int (nI (97 + u11))), (0, .ref P.1), (1, .ref R.1), (2, .int v), (3, .int w), (4, .int 1), (5, .int (nI H)), (6, .int (nI u3)), (7, .int (nI i))] (by decide) rfl dL_isRead_83 ?_
      refine J_iload C rfl dL_isRead_85 ?_
      refine J_if_eq C 112 (by decide) dL_isRead_87 (fun h => absurd h (by decide)) (fun _ => ?_)
      refine J_aload_n C rfl dL_isRead_90 ?_
      refine J_iload C rfl dL_isRead_91 ?_
      refine J_V1 (as := [.int (nI (97 + u11))]) (rest := []) C NoX.b NoX.f (o_type l G P σ x1 (97 + u11) (by omega) (by omega)) (OW G R σ y1) (fun _ => OW_l2 _ _ _ _ _ _) 1 k251 k252 k253 k10 k254 rfl (by decide +kernel) ⟨Nat.le_of_ble_eq_true rfl, Nat.le_of_ble_eq_true rfl⟩ ⟨Nat.le_of_ble_eq_true rfl, Nat.le_of_ble_eq_true rfl⟩ dL_isRead_93 (Nat.le_of_ble_eq_true rfl) (OW_0 _ _ _ _) rfl (fun _ _ => ?_)
      refine J_st (st' := [.int (nI (x1.2.2.2.2.1.2 + 1))]) rfl ?_
      refine J_ws (ws' := OW G P σ (typX x1 (97 + u11)) ++ OW G R σ y1) rfl ?_
      refine J_if_le C 112 (by decide) dL_isRead_96 (fun h => absurd (cv_le_t (a := (x1.2.2.2.2.1.2 + 1)) (b := 0) (by omega) (by omega) h) (by omega)) (fun c96 => ?_)
      refine J_aload_n C rfl dL_isRead_99 ?_
      refine J_iload C rfl dL_isRead_100 ?_
      refine J_V2 (as := [.int (nI (97 + u11))]) (rest := []) C NoX.b NoX.f (o_type l G R σ y1 (97 + u11) (by omega) (by omega)) (OW G P σ (typX x1 (97 + u11))) (fun _ => OW_l2 _ _ _ _ _ _) 1 k251 k252 k253 k10 k254 rfl (by decide +kernel) ⟨Nat.le_of_ble_eq_true rfl, Nat.le_of_ble_eq_true rfl⟩ ⟨Nat.le_of_ble_eq_true rfl, Nat.le_of_ble_eq_true rfl⟩ dL_isRead_102 (Nat.le_of_ble_eq_true rfl) (OW_0 _ _ _ _) rfl (fun _ _ => ?_)
      refine J_st (st' := [.int (nI (y1.2.2.2.2.1.2 + 1))]) rfl ?_
      refine J_ws (ws' := OW G P σ (typX x1 (97 + u11)) ++ OW G R σ (typX y1 (97 + u11))) rfl ?_
      refine J_if_le C 112 (by decide) dL_isRead_105 (fun h => absurd (cv_le_t (a := (y1.2.2.2.2.1.2 + 1)) (b := 0) (by omega) (by omega) h) (by omega)) (fun c105 => ?_)
      refine J_iconst C 1 (by decide) dL_isRead_108 ?_
      refine J_goto C 113 (by decide) dL_isRead_109 ?_
      refine J_istore C [(4, .int 1), (8, .int (nI (97 + u11))), (0, .ref P.1), (1, .ref R.1), (2, .int v), (3, .int w), (5, .int (nI H)), (6, .int (nI u3)), (7, .int (nI i))] (by decide) rfl dL_isRead_113 ?_
      refine J_iinc C (nI (i + 1)) [(7, .int (nI (i + 1))), (4, .int 1), (8, .int (nI (97 + u11))), (0, .ref P.1), (1, .ref R.1), (2, .int v), (3, .int w), (5, .int (nI H)), (6, .int (nI u3))] 8 rfl (by first | exact nI_add _ 1 | rfl) (by decide) rfl dL_isRead_115 ?_
      refine J_goto C 56 (by decide) dL_isRead_118 ?_
      refine J_lvp [3, 4, 5, 6, 1, 7, 8, 0] [(0, .ref P.1), (1, .ref R.1), (2, .int v), (3, .int w), (4, .int 1), (5, .int (nI H)), (6, .int (nI u3)), (7, .int (nI (i + 1)))] rfl ?_
      exact ih (i + 1, typX x1 (97 + u11), typX y1 (97 + u11)) ⟨by show i + 1 ≤ H; omega, h3.s (by omega) (by omega)⟩ (by show H - (i + 1) < H - i; omega)
