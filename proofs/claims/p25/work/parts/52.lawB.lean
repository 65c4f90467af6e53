set_option maxHeartbeats 4000000 in
set_option maxRecDepth 100000 in
theorem law_main {p : Program} {l : Launch} {e : Env} {s : State} {m : MethodId} {below : List Frame} {meth : Method} {c : Code} {Q : State → Prop} {G : GT} {A : Nat → Prop} {bb sL : Nat} {xs : Nat → Int32} (C : Cx p s m #[Value.ref bb] meth c G A 5 cL_law "TwoScribesLaw") (hSC : XSC bb sL xs A s) (hsL : sL ≤ 260) (al ag : Nat) (hXS : XS al ag A s) (P R : AD) (hex : ∀ (ws : va_W) (lv : List (Nat × Value)), J p l e room_1 s m #[Value.ref bb] below meth c Q G A 5 600000 7302250 ws lv 127 [.int 1]) : J p l e room_1 s m #[Value.ref bb] below meth c Q G A 5 600000 7302250 (OW G P sg0 zX ++ OW G R sg0 zX) [(0, .ref bb), (1, .ref P.1), (2, .ref R.1)] 16 [] := by
  refine J_aload_n C rfl dL_law_16 ?_
  refine J_aload_n C rfl dL_law_17 ?_
  refine J_aload_n C rfl dL_law_18 ?_
  refine J_iconst C 0 (by decide) dL_law_19 ?_
  refine J_S0 (as := [.ref bb, .int 0]) (rest := [.ref R.1, .ref P.1]) C XSC.b (XSC.f hSC) (ct_cell l G bb sL xs 0 hsL (by omega)) 2 k236 k237 k9 k238 rfl (by decide +kernel) ⟨Nat.le_of_ble_eq_true rfl, Nat.le_of_ble_eq_true rfl⟩ ⟨Nat.le_of_ble_eq_true rfl, Nat.le_of_ble_eq_true rfl⟩ dL_law_20 (Nat.le_of_ble_eq_true rfl) (fun v1 _ => ?_)
  refine J_st (st' := [.int v1, .ref R.1, .ref P.1]) rfl ?_
  refine J_ws (ws' := OW G P sg0 zX ++ OW G R sg0 zX) rfl ?_
  refine J_aload_n C rfl dL_law_23 ?_
  refine J_iconst C 1 (by decide) dL_law_24 ?_
  refine J_S0 (as := [.ref bb, .int 1]) (rest := [.int v1, .ref R.1, .ref P.1]) C XSC.b (XSC.f hSC) (ct_cell l G bb sL xs 1 hsL (by omega)) 2 k236 k237 k9 k238 rfl (by decide +kernel) ⟨Nat.le_of_ble_eq_true rfl, Nat.le_of_ble_eq_true rfl⟩ ⟨Nat.le_of_ble_eq_true rfl, Nat.le_of_ble_eq_true rfl⟩ dL_law_25 (Nat.le_of_ble_eq_true rfl) (fun v2 _ => ?_)
  refine J_st (st' := [.int v2, .int v1, .ref R.1, .ref P.1]) rfl ?_
  refine J_ws (ws' := OW G P sg0 zX ++ OW G R sg0 zX) rfl ?_
  refine J_S00 (as := [.ref P.1, .ref R.1, .int v1, .int v2]) (rest := []) C NoX.b NoX.f (ct_isRead l G P R sg0 zX zX v1 v2 60 GV.z50 GV.z50 VO.z VO.z) (fun _ => OWW_l2 _ _ _ _ _ _ _ _ _ _ _) 4 k240 k241 k9 k242 rfl (by decide +kernel) ⟨Nat.le_of_ble_eq_true rfl, Nat.le_of_ble_eq_true rfl⟩ ⟨Nat.le_of_ble_eq_true rfl, Nat.le_of_ble_eq_true rfl⟩ dL_law_28 (Nat.le_of_ble_eq_true rfl) (fun u hu => ?_)
  refine J_st (st' := [.int 1]) rfl ?_
  refine J_ws (ws' := OW G P u.1 u.2.1 ++ OW G R u.1 u.2.2) rfl ?_
  refine J_istore_n C [(3, .int 1), (0, .ref bb), (1, .ref P.1), (2, .ref R.1)] (by decide) rfl dL_law_31 ?_
  refine J_iconst C 2 (by decide) dL_law_32 ?_
  refine J_istore C [(4, .int 2), (3, .int 1), (0, .ref bb), (1, .ref P.1), (2, .ref R.1)] (by decide) rfl dL_law_33 ?_
  refine J_lvp [2, 3, 4, 1, 0] [(0, .ref bb), (1, .ref P.1), (2, .ref R.1), (3, .int 1), (4, .int 2)] rfl ?_
  refine J_loop (σ := Nat × AS × OS × OS) (fun z => OW G P z.2.1 z.2.2.1 ++ OW G R z.2.1 z.2.2.2) (fun z => [(0, .ref bb), (1, .ref P.1), (2, .ref R.1), (3, .int 1), (4, .int (nI z.1))]) (fun z => (2 ≤ z.1 ∧ z.1 ≤ 50) ∧ PR (60 - z.1) z.2.1 z.2.2.1 z.2.2.2) (fun z => 50 - z.1) (fun z hz ih => ?_) (2, u.1, u.2.1, u.2.2) ⟨⟨by omega, by omega⟩, (PR.z hu).le58⟩ rfl rfl
  obtain ⟨i, σ, x, y⟩ := z
  obtain ⟨h2, h3⟩ := hz
  have h2 : 2 ≤ i ∧ i ≤ 50 := h2
  have h3 : PR (60 - i) σ x y := h3
  refine J_ws (ws' := OW G P σ x ++ OW G R σ y) rfl ?_
  refine J_lvp [0, 1, 2, 3, 4] [(0, .ref bb), (1, .ref P.1), (2, .ref R.1), (3, .int 1), (4, .int (nI i))] rfl ?_
  refine J_iload C rfl dL_law_35 ?_
  refine J_bipush C 50 (by decide) dL_law_37 ?_
  refine J_icmp_ge C 96 (by decide) dL_law_39 (fun c39 => ?_) (fun c39 => ?_)
  · skip
    have c39 := cv_ge_t (a := i) (b := 50) (by omega) (by omega) c39
    refine J_iload_n C rfl dL_law_96 ?_
    refine J_if_eq C 126 (by decide) dL_law_97 (fun h => absurd h (by decide)) (fun _ => ?_)
    refine J_aload_n C rfl dL_law_100 ?_
    refine J_S1 (as := [.ref P.1]) (rest := []) C NoX.b NoX.f (ct_isWell l G P σ x (60 - i) h3.1.1 h3.2.1.1) (OW G R σ y) (fun _ => OW_l2 _ _ _ _ _ _) 1 k551 k552 k9 k553 rfl (by decide +kernel) ⟨Nat.le_of_ble_eq_true rfl, Nat.le_of_ble_eq_true rfl⟩ ⟨Nat.le_of_ble_eq_true rfl, Nat.le_of_ble_eq_true rfl⟩ dL_law_101 (Nat.le_of_ble_eq_true rfl) (fun x3 hx3 => ?_)
    refine J_st (st' := [.int 1]) rfl ?_
    refine J_ws (ws' := OW G P σ x3 ++ OW G R σ y) rfl ?_
    have gx3 : GV (60 - i) σ x3.1 := by rw [hx3.2.1]; exact h3.1.1
    refine J_if_eq C 126 (by decide) dL_law_104 (fun h => absurd h (by decide)) (fun _ => ?_)
    refine J_aload_n C rfl dL_law_107 ?_
    refine J_S2 (as := [.ref R.1]) (rest := []) C NoX.b NoX.f (ct_isWell l G R σ y (60 - i) h3.1.2 h3.2.1.2) (OW G P σ x3) (fun _ => OW_l2 _ _ _ _ _ _) 1 k551 k552 k9 k553 rfl (by decide +kernel) ⟨Nat.le_of_ble_eq_true rfl, Nat.le_of_ble_eq_true rfl⟩ ⟨Nat.le_of_ble_eq_true rfl, Nat.le_of_ble_eq_true rfl⟩ dL_law_108 (Nat.le_of_ble_eq_true rfl) (fun x4 hx4 => ?_)
    refine J_st (st' := [.int 1]) rfl ?_
    refine J_ws (ws' := OW G P σ x3 ++ OW G R σ x4) rfl ?_
    have gx4 : GV (60 - i) σ x4.1 := by rw [hx4.2.1]; exact h3.1.2
    refine J_if_eq C 126 (by decide) dL_law_111 (fun h => absurd h (by decide)) (fun _ => ?_)
    refine J_aload_n C rfl dL_law_114 ?_
    refine J_aload_n C rfl dL_law_115 ?_
    refine J_S00 (as := [.ref P.1, .ref R.1]) (rest := []) C NoX.b NoX.f (ct_areAlike l G P R σ x3 x4 (60 - i) gx3 gx4 hx3.1 hx4.1) (fun _ => OWW_l2 _ _ _ _ _ _ _ _ _ _ _) 2 k505 k506 k9 k507 rfl (by decide +kernel) ⟨Nat.le_of_ble_eq_true rfl, Nat.le_of_ble_eq_true rfl⟩ ⟨Nat.le_of_ble_eq_true rfl, Nat.le_of_ble_eq_true rfl⟩ dL_law_116 (Nat.le_of_ble_eq_true rfl) (fun t _ => ?_)
    refine J_st (st' := [.int 1]) rfl ?_
    refine J_ws (ws' := OW G P σ t.1 ++ OW G R σ t.2) rfl ?_
    refine J_if_eq C 126 (by decide) dL_law_119 (fun h => absurd h (by decide)) (fun _ => ?_)
    refine J_iconst C 1 (by decide) dL_law_122 ?_
    refine J_goto C 127 (by decide) dL_law_123 ?_
    exact hex _ _
  · skip
    have c39 := cv_ge_f (a := i) (b := 50) (by omega) (by omega) c39
    refine J_iload_n C rfl dL_law_42 ?_
    refine J_if_eq C 96 (by decide) dL_law_43 (fun h => absurd h (by decide)) (fun _ => ?_)
    have h4 : PR (60 - (i + 1) + 1) σ x y := by rw [show 60 - (i + 1) + 1 = 60 - i by omega]; exact h3
    refine J_aload_n C rfl dL_law_46 ?_
    refine J_aload_n C rfl dL_law_47 ?_
    refine J_aload_n C rfl dL_law_48 ?_
    refine J_iload C rfl dL_law_49 ?_
    refine J_S0 (as := [.ref bb, .int (nI i)]) (rest := [.ref R.1, .ref P.1]) C XSC.b (XSC.f hSC) (ct_cell l G bb sL xs i hsL (by omega)) 2 k236 k237 k9 k238 rfl (by decide +kernel) ⟨Nat.le_of_ble_eq_true rfl, Nat.le_of_ble_eq_true rfl⟩ ⟨Nat.le_of_ble_eq_true rfl, Nat.le_of_ble_eq_true rfl⟩ dL_law_51 (Nat.le_of_ble_eq_true rfl) (fun v5 _ => ?_)
    refine J_st (st' := [.int v5, .ref R.1, .ref P.1]) rfl ?_
    refine J_ws (ws' := OW G P σ x ++ OW G R σ y) rfl ?_
    refine J_aload_n C rfl dL_law_54 ?_
    refine J_iload C rfl dL_law_55 ?_
    refine J_iconst C 1 (by decide) dL_law_57 ?_
    refine J_iadd C dL_law_58 ?_
    refine J_i (nI_add i 1 : ((nI i) + 1 : Int32) = (nI (i + 1))) ?_
    refine J_S0 (as := [.ref bb, .int (nI (i + 1))]) (rest := [.int v5, .ref R.1, .ref P.1]) C XSC.b (XSC.f hSC) (ct_cell l G bb sL xs (i + 1) hsL (by omega)) 2 k236 k237 k9 k238 rfl (by decide +kernel) ⟨Nat.le_of_ble_eq_true rfl, Nat.le_of_ble_eq_true rfl⟩ ⟨Nat.le_of_ble_eq_true rfl, Nat.le_of_ble_eq_true rfl⟩ dL_law_59 (Nat.le_of_ble_eq_true rfl) (fun v6 _ => ?_)
    refine J_st (st' := [.int v6, .int v5, .ref R.1, .ref P.1]) rfl ?_
    refine J_ws (ws' := OW G P σ x ++ OW G R σ y) rfl ?_
    refine J_iconst C 2 (by decide) dL_law_62 ?_
    refine J_ishr C dL_law_63 ?_
    generalize v6 >>> (2 &&& 31) = w7
    refine J_S00 (as := [.ref P.1, .ref R.1, .int v5, .int w7]) (rest := []) C XS.b (XS.f hXS) (ct_isStep l G al ag P R σ x y v5 w7 (60 - (i + 1)) h4) (fun _ => OWW_l2 _ _ _ _ _ _ _ _ _ _ _) 4 k414 k415 k9 k416 rfl (by decide +kernel) ⟨Nat.le_of_ble_eq_true rfl, Nat.le_of_ble_eq_true rfl⟩ ⟨Nat.le_of_ble_eq_true rfl, Nat.le_of_ble_eq_true rfl⟩ dL_law_64 (Nat.le_of_ble_eq_true rfl) (fun z hz => ?_)
    refine J_st (st' := [.int 1]) rfl ?_
    refine J_ws (ws' := OW G P z.1 z.2.1 ++ OW G R z.1 z.2.2) rfl ?_
    refine J_if_eq C 88 (by decide) dL_law_67 (fun h => absurd h (by decide)) (fun _ => ?_)
    refine J_iload C rfl dL_law_70 ?_
    refine J_iconst C 3 (by decide) dL_law_72 ?_
    refine J_irem C (by decide) dL_law_73 ?_
    refine J_i (pk_rem (a := i) (d := 3) (by omega) (by omega) (by omega) : ((nI i) - (nI i) / 3 * 3 : Int32) = (nI (i % 3))) ?_
    refine J_if_gt C 84 (by decide) dL_law_74 (fun c74 => ?_) (fun c74 => ?_)
    · skip
      have c74 := cv_gt_t (a := (i % 3)) (b := 0) (by omega) (by omega) c74
      refine J_iconst C 1 (by decide) dL_law_84 ?_
      refine J_goto C 89 (by decide) dL_law_85 ?_
      refine J_istore_n C [(3, .int 1), (0, .ref bb), (1, .ref P.1), (2, .ref R.1), (4, .int (nI i))] (by decide) rfl dL_law_89 ?_
      refine J_iinc C (nI (i + 1)) [(4, .int (nI (i + 1))), (3, .int 1), (0, .ref bb), (1, .ref P.1), (2, .ref R.1)] 4 rfl (by first | exact nI_add _ 1 | rfl) (by decide) rfl dL_law_90 ?_
      refine J_goto C 35 (by decide) dL_law_93 ?_
      refine J_lvp [2, 3, 4, 1, 0] [(0, .ref bb), (1, .ref P.1), (2, .ref R.1), (3, .int 1), (4, .int (nI (i + 1)))] rfl ?_
      exact ih (i + 1, z.1, z.2.1, z.2.2) ⟨⟨by show 2 ≤ i + 1; omega, by show i + 1 ≤ 50; omega⟩, hz⟩ (by show 50 - (i + 1) < 50 - i; omega)
    · skip
      have c74 := cv_gt_f (a := (i % 3)) (b := 0) (by omega) (by omega) c74
      refine J_aload_n C rfl dL_law_77 ?_
      refine J_S1 (as := [.ref P.1]) (rest := []) C NoX.b NoX.f (ct_isWell l G P z.1 z.2.1 (60 - (i + 1)) hz.1.1 hz.2.1.1) (OW G R z.1 z.2.2) (fun _ => OW_l2 _ _ _ _ _ _) 1 k551 k552 k9 k553 rfl (by decide +kernel) ⟨Nat.le_of_ble_eq_true rfl, Nat.le_of_ble_eq_true rfl⟩ ⟨Nat.le_of_ble_eq_true rfl, Nat.le_of_ble_eq_true rfl⟩ dL_law_78 (Nat.le_of_ble_eq_true rfl) (fun x8 hx8 => ?_)
      refine J_st (st' := [.int 1]) rfl ?_
      refine J_ws (ws' := OW G P z.1 x8 ++ OW G R z.1 z.2.2) rfl ?_
      have gx8 : GV (60 - (i + 1)) z.1 x8.1 := by rw [hx8.2.1]; exact hz.1.1
      refine J_if_eq C 88 (by decide) dL_law_81 (fun h => absurd h (by decide)) (fun _ => ?_)
      refine J_iconst C 1 (by decide) dL_law_84 ?_
      refine J_goto C 89 (by decide) dL_law_85 ?_
      refine J_istore_n C [(3, .int 1), (0, .ref bb), (1, .ref P.1), (2, .ref R.1), (4, .int (nI i))] (by decide) rfl dL_law_89 ?_
      refine J_iinc C (nI (i + 1)) [(4, .int (nI (i + 1))), (3, .int 1), (0, .ref bb), (1, .ref P.1), (2, .ref R.1)] 4 rfl (by first | exact nI_add _ 1 | rfl) (by decide) rfl dL_law_90 ?_
      refine J_goto C 35 (by decide) dL_law_93 ?_
      refine J_lvp [2, 3, 4, 1, 0] [(0, .ref bb), (1, .ref P.1), (2, .ref R.1), (3, .int 1), (4, .int (nI (i + 1)))] rfl ?_
      exact ih (i + 1, z.1, x8, z.2.2) ⟨⟨by show 2 ≤ i + 1; omega, by show i + 1 ≤ 50; omega⟩, (hz.ko hx8 ⟨hz.2.1.2, KO.rf _⟩)⟩ (by show 50 - (i + 1) < 50 - i; omega)
set_option maxHeartbeats 4000000 in
set_option maxRecDepth 100000 in
theorem law_entry {p : Program} {l : Launch} {e : Env} {s : State} {m : MethodId} {below : List Frame} {meth : Method} {c : Code} {Q : State → Prop} {G : GT} {A : Nat → Prop} {bb sL : Nat} {xs : Nat → Int32} (C : Cx p s m #[Value.ref bb] meth c G A 5 cL_law "TwoScribesLaw") (hSC : XSC bb sL xs A s) (hsL : sL ≤ 260) (al ag : Nat) (hXS : XS al ag A s) (hXA : XA A s) (hex : ∀ (ws : va_W) (lv : List (Nat × Value)), J p l e room_1 s m #[Value.ref bb] below meth c Q G A 5 600000 7302250 ws lv 127 [.int 1]) : J p l e room_1 s m #[Value.ref bb] below meth c Q G A 5 0 0 [] [(0, .ref bb)] 0 [] := by
  have hX := hXA
  refine J_new C (ci := 5) tyX5 [.null, .null, .null, .null, .null, .int 0] in5 tyX5_ok k18 k19 k10 rfl (fun j hj => by rcases (show j = 0 ∨ j = 1 ∨ j = 2 ∨ j = 3 ∨ j = 4 ∨ j = 5 by omega) with rfl | rfl | rfl | rfl | rfl | rfl <;> rfl) (Nat.le_of_ble_eq_true rfl) (Nat.le_of_ble_eq_true rfl) dL_law_0 (fun q1 => ?_)
  refine J_ws (ws' := [(q1, .inr (5, [.null, .null, .null, .null, .null, .int 0]))]) rfl ?_
  refine J_dup C rfl dL_law_3 ?_
  refine J_callIG (as := []) (rest := [.ref q1]) C XA.b (XA.f hX) (ct_newTs l G q1) (fun u => [(q1, .inr (5, [.ref ((u.1 0) 0), .ref ((u.1 1) 0), .ref ((u.1 2) 0), .ref u.2.1, .ref (u.2.2.1 0), .int (nI 0)]))] ++ (stW G (u.1 0) sg0 (fun _ => 0) ++ (stW G (u.1 1) sg0 (fun _ => 0) ++ (stW G (u.1 2) sg0 (fun _ => 0) ++ ([(u.2.1, .inr (0, [.ref u.2.2.2.1, .int (nI 0), .int (nI 0)])), (u.2.2.2.1, .inl (G.2.2.2, 4, .inr (.inr (.inr (.inr (fun j => some (u.2.2.2.2 j 0)))))))] ++ (stW G (u.2.2.2.2 0) sg0 (fun _ => 0) ++ (stW G (u.2.2.2.2 1) sg0 (fun _ => 0) ++ (stW G (u.2.2.2.2 2) sg0 (fun _ => 0) ++ (stW G (u.2.2.2.2 3) sg0 (fun _ => 0) ++ txW G u.2.2.1 (fun _ => 0) 0 (fun _ => 0) (fun _ => 0) 0 0 0))))))))) [0] [0, 1, 2, 3, 4, 5, 6, 7, 8, 9, 10, 11, 12, 13, 14, 15, 16, 17, 18, 19, 20, 21, 22, 23, 24, 25, 26, 27, 28, 29, 30, 31, 32, 33, 34, 35, 36, 37, 38, 39, 40, 41, 42, 43, 44, 45, 46, 47, 48, 49, 50, 51, 52, 53, 54, 55, 56, 57, 58, 59, 60, 61, 62, 63, 64, 65, 66, 67, 68, 69, 70, 71, 72, 73, 74, 75, 76, 77, 78, 79, 80, 81, 82, 83] [] 0 k20 rfl k21 k10 k22 rfl (by decide +kernel) ⟨Nat.le_of_ble_eq_true rfl, Nat.le_of_ble_eq_true rfl⟩ ⟨Nat.le_of_ble_eq_true rfl, Nat.le_of_ble_eq_true rfl⟩ dL_law_4 (Nat.le_of_ble_eq_true rfl) rfl (by decide +kernel) (fun _ => rfl) ([]) rfl (fun _ => rfl) 84 (fun _ => rfl) (by decide +kernel) (by decide +kernel) (fun u _ => ?_)
  refine J_st (st' := [.ref q1]) rfl ?_
  refine J_ws (ws' := OW G (q1, u.1 0, u.1 1, u.1 2, u.2.1, u.2.2.1, u.2.2.2.1, u.2.2.2.2) sg0 zX) rfl ?_
  refine J_astore_n C [(1, .ref q1), (0, .ref bb)] (by decide) rfl dL_law_7 ?_
  refine J_new C (ci := 5) tyX5 [.null, .null, .null, .null, .null, .int 0] in5 tyX5_ok k18 k19 k10 rfl (fun j hj => by rcases (show j = 0 ∨ j = 1 ∨ j = 2 ∨ j = 3 ∨ j = 4 ∨ j = 5 by omega) with rfl | rfl | rfl | rfl | rfl | rfl <;> rfl) (Nat.le_of_ble_eq_true rfl) (Nat.le_of_ble_eq_true rfl) dL_law_8 (fun q2 => ?_)
  refine J_ws (ws' := OW G (q1, u.1 0, u.1 1, u.1 2, u.2.1, u.2.2.1, u.2.2.2.1, u.2.2.2.2) sg0 zX ++ [(q2, .inr (5, [.null, .null, .null, .null, .null, .int 0]))]) rfl ?_
  refine J_dup C rfl dL_law_11 ?_
  refine J_callIG (as := []) (rest := [.ref q2]) C XA.b (XA.f hX) (ct_newTs l G q2) (fun v => OW G (q1, u.1 0, u.1 1, u.1 2, u.2.1, u.2.2.1, u.2.2.2.1, u.2.2.2.2) sg0 zX ++ ([(q2, .inr (5, [.ref ((v.1 0) 0), .ref ((v.1 1) 0), .ref ((v.1 2) 0), .ref v.2.1, .ref (v.2.2.1 0), .int (nI 0)]))] ++ (stW G (v.1 0) sg0 (fun _ => 0) ++ (stW G (v.1 1) sg0 (fun _ => 0) ++ (stW G (v.1 2) sg0 (fun _ => 0) ++ ([(v.2.1, .inr (0, [.ref v.2.2.2.1, .int (nI 0), .int (nI 0)])), (v.2.2.2.1, .inl (G.2.2.2, 4, .inr (.inr (.inr (.inr (fun j => some (v.2.2.2.2 j 0)))))))] ++ (stW G (v.2.2.2.2 0) sg0 (fun _ => 0) ++ (stW G (v.2.2.2.2 1) sg0 (fun _ => 0) ++ (stW G (v.2.2.2.2 2) sg0 (fun _ => 0) ++ (stW G (v.2.2.2.2 3) sg0 (fun _ => 0) ++ txW G v.2.2.1 (fun _ => 0) 0 (fun _ => 0) (fun _ => 0) 0 0 0)))))))))) [84] [84, 85, 86, 87, 88, 89, 90, 91, 92, 93, 94, 95, 96, 97, 98, 99, 100, 101, 102, 103, 104, 105, 106, 107, 108, 109, 110, 111, 112, 113, 114, 115, 116, 117, 118, 119, 120, 121, 122, 123, 124, 125, 126, 127, 128, 129, 130, 131, 132, 133, 134, 135, 136, 137, 138, 139, 140, 141, 142, 143, 144, 145, 146, 147, 148, 149, 150, 151, 152, 153, 154, 155, 156, 157, 158, 159, 160, 161, 162, 163, 164, 165, 166, 167] [0, 1, 2, 3, 4, 5, 6, 7, 8, 9, 10, 11, 12, 13, 14, 15, 16, 17, 18, 19, 20, 21, 22, 23, 24, 25, 26, 27, 28, 29, 30, 31, 32, 33, 34, 35, 36, 37, 38, 39, 40, 41, 42, 43, 44, 45, 46, 47, 48, 49, 50, 51, 52, 53, 54, 55, 56, 57, 58, 59, 60, 61, 62, 63, 64, 65, 66, 67, 68, 69, 70, 71, 72, 73, 74, 75, 76, 77, 78, 79, 80, 81, 82, 83] 0 k20 rfl k21 k10 k22 rfl (by decide +kernel) ⟨Nat.le_of_ble_eq_true rfl, Nat.le_of_ble_eq_true rfl⟩ ⟨Nat.le_of_ble_eq_true rfl, Nat.le_of_ble_eq_true rfl⟩ dL_law_12 (Nat.le_of_ble_eq_true rfl) rfl (by decide +kernel) (fun _ => rfl) (OW G (q1, u.1 0, u.1 1, u.1 2, u.2.1, u.2.2.1, u.2.2.2.1, u.2.2.2.2) sg0 zX) rfl (fun _ => rfl) 168 (fun _ => rfl) (by decide +kernel) (by decide +kernel) (fun v _ => ?_)
  refine J_st (st' := [.ref q2]) rfl ?_
  refine J_ws (ws' := OW G (q1, u.1 0, u.1 1, u.1 2, u.2.1, u.2.2.1, u.2.2.2.1, u.2.2.2.2) sg0 zX ++ OW G (q2, v.1 0, v.1 1, v.1 2, v.2.1, v.2.2.1, v.2.2.2.1, v.2.2.2.2) sg0 zX) rfl ?_
  refine J_astore_n C [(2, .ref q2), (1, .ref q1), (0, .ref bb)] (by decide) rfl dL_law_15 ?_
  refine J_lvp [2, 1, 0] [(0, .ref bb), (1, .ref q1), (2, .ref q2)] rfl ?_
  refine J_widen (k' := 600000) (n' := 7302250) (Nat.le_of_ble_eq_true rfl) (Nat.le_of_ble_eq_true rfl) ?_
  exact law_main C hSC hsL al ag hXS (q1, u.1 0, u.1 1, u.1 2, u.2.1, u.2.2.1, u.2.2.2.1, u.2.2.2.2) (q2, v.1 0, v.1 1, v.1 2, v.2.1, v.2.2.1, v.2.2.2.1, v.2.2.2.2) hex
