set_option maxHeartbeats 4000000 in
set_option maxRecDepth 100000 in
theorem ct_begin (l : Launch) (G : GT) (a : Nat → Nat) (σ : AS) (d : Nat → Nat) (b : Nat → Nat) (t : Nat → Nat) (L : Nat) (lt ms : Nat → Nat) (hf : Nat) (fa : Int32) (cu : Nat) (hh : hf ≤ 20) : Ct (S := Unit) l G NoX yX1_begin (Wy yX1_begin cX1_begin 4 ((Option.none : Option Jvm.ClassFile.FieldType))) { frames := 2, cells := 0, slots := 0, locals := 61 } [.ref (a 1), .ref (b 0)] (pgW G a σ d ++ txW G b t L lt ms hf fa cu) (fun u => True) (fun u => none) (fun u => pgW G a (pgF σ hf ms) (dlp d lt hf hf) ++ txW G b t L lt ms hf fa cu) := by
  refine Ct.of (by decide) (Nat.le_of_ble_eq_true rfl) (fun p e s m args below meth c C hr hnm hX => ?_)
  refine J_aload_n C rfl dX1_begin_0 ?_
  refine J_iconst C 2 (by decide) dX1_begin_1 ?_
  refine J_aload_n C rfl dX1_begin_2 ?_
  refine J_getN C 7 4 in2 rfl rfl (by decide) nfTwoScribes_Page_41 rfl dX1_begin_3 ?_
  refine J_imul C dX1_begin_6 ?_
  refine J_i (pk_mul 2 hf : (2 * (nI hf) : Int32) = (nI (2 * hf))) ?_
  refine J_put C 0 6 in1 tyX1 tyX1_ok nmX1 ([(a 1, .inr (1, [.ref (a 2), .ref (a 3), .ref (a 4), .ref (a 5), .ref (a 6), .ref (a 7), .int (nI (2 * hf)), .int (nI (σ 0 5))])), (a 2, .inl (G.2.1, 40, .inl (fun q => nI (d q)))), (a 3, .inl (G.2.1, 40, .inl (fun q => nI (σ 2 q)))), (a 4, .inl (G.2.1, 40, .inl (fun q => nI (σ 3 q)))), (a 5, .inl (G.2.1, 40, .inl (fun q => nI (σ 6 q)))), (a 6, .inl (G.2.1, 40, .inl (fun q => nI (σ 4 q)))), (a 7, .inl (G.2.1, 40, .inl (fun q => nI (σ 5 q))))] ++ txW G b t L lt ms hf fa cu) rfl rfl (by decide) k51 rfl rfl rfl (Nat.le_of_ble_eq_true rfl) rfl dX1_begin_7 ?_
  refine J_aload_n C rfl dX1_begin_10 ?_
  refine J_iconst C 0 (by decide) dX1_begin_11 ?_
  refine J_put C 0 7 in1 tyX1 tyX1_ok nmX1 ([(a 1, .inr (1, [.ref (a 2), .ref (a 3), .ref (a 4), .ref (a 5), .ref (a 6), .ref (a 7), .int (nI (2 * hf)), .int 0])), (a 2, .inl (G.2.1, 40, .inl (fun q => nI (d q)))), (a 3, .inl (G.2.1, 40, .inl (fun q => nI (σ 2 q)))), (a 4, .inl (G.2.1, 40, .inl (fun q => nI (σ 3 q)))), (a 5, .inl (G.2.1, 40, .inl (fun q => nI (σ 6 q)))), (a 6, .inl (G.2.1, 40, .inl (fun q => nI (σ 4 q)))), (a 7, .inl (G.2.1, 40, .inl (fun q => nI (σ 5 q))))] ++ txW G b t L lt ms hf fa cu) rfl rfl (by decide) k54 rfl rfl rfl (Nat.le_of_ble_eq_true rfl) rfl dX1_begin_12 ?_
  refine J_aload_n C rfl dX1_begin_15 ?_
  refine J_get C 0 2 in1 rfl rfl (by decide) k43 rfl dX1_begin_16 ?_
  refine J_callSN (as := [.ref (a 4)]) (rest := []) C (ct_clearRow l G (a 4) 40 (fun q => nI (σ 3 q)) (by decide)) (fun u => [(a 1, .inr (1, [.ref (a 2), .ref (a 3), .ref (a 4), .ref (a 5), .ref (a 6), .ref (a 7), .int (nI (2 * hf)), .int 0])), (a 2, .inl (G.2.1, 40, .inl (fun q => nI (d q)))), (a 3, .inl (G.2.1, 40, .inl (fun q => nI (σ 2 q)))), (a 4, .inl (G.2.1, 40, .inl (fun _ => nI 0))), (a 5, .inl (G.2.1, 40, .inl (fun q => nI (σ 6 q)))), (a 6, .inl (G.2.1, 40, .inl (fun q => nI (σ 4 q)))), (a 7, .inl (G.2.1, 40, .inl (fun q => nI (σ 5 q))))] ++ txW G b t L lt ms hf fa cu) [3] [0, 1, 2, 4, 5, 6, 7, 8, 9, 10] 1 nmTwoScribes_Page_46 k272 k10 k273 rfl (by decide +kernel) ⟨Nat.le_of_ble_eq_true rfl, Nat.le_of_ble_eq_true rfl⟩ ⟨Nat.le_of_ble_eq_true rfl, Nat.le_of_ble_eq_true rfl⟩ dX1_begin_19 (Nat.le_of_ble_eq_true rfl) rfl (by decide +kernel) (fun _ => rfl) ([(a 1, .inr (1, [.ref (a 2), .ref (a 3), .ref (a 4), .ref (a 5), .ref (a 6), .ref (a 7), .int (nI (2 * hf)), .int 0])), (a 2, .inl (G.2.1, 40, .inl (fun q => nI (d q)))), (a 3, .inl (G.2.1, 40, .inl (fun q => nI (σ 2 q)))), (a 5, .inl (G.2.1, 40, .inl (fun q => nI (σ 6 q)))), (a 6, .inl (G.2.1, 40, .inl (fun q => nI (σ 4 q)))), (a 7, .inl (G.2.1, 40, .inl (fun q => nI (σ 5 q))))] ++ txW G b t L lt ms hf fa cu) rfl (fun _ => rfl) 11 (fun _ => rfl) (by decide +kernel) (by decide +kernel) (fun _ _ => ?_)
  refine J_st (st' := []) rfl ?_
  refine J_aload_n C rfl dX1_begin_22 ?_
  refine J_get C 0 3 in1 rfl rfl (by decide) k45 rfl dX1_begin_23 ?_
  refine J_callSN (as := [.ref (a 5)]) (rest := []) C (ct_clearRow l G (a 5) 40 (fun q => nI (σ 6 q)) (by decide)) (fun u => [(a 1, .inr (1, [.ref (a 2), .ref (a 3), .ref (a 4), .ref (a 5), .ref (a 6), .ref (a 7), .int (nI (2 * hf)), .int 0])), (a 2, .inl (G.2.1, 40, .inl (fun q => nI (d q)))), (a 3, .inl (G.2.1, 40, .inl (fun q => nI (σ 2 q)))), (a 4, .inl (G.2.1, 40, .inl (fun _ => nI 0))), (a 5, .inl (G.2.1, 40, .inl (fun _ => nI 0))), (a 6, .inl (G.2.1, 40, .inl (fun q => nI (σ 4 q)))), (a 7, .inl (G.2.1, 40, .inl (fun q => nI (σ 5 q))))] ++ txW G b t L lt ms hf fa cu) [4] [0, 1, 2, 3, 5, 6, 7, 8, 9, 10] 1 nmTwoScribes_Page_46 k272 k10 k273 rfl (by decide +kernel) ⟨Nat.le_of_ble_eq_true rfl, Nat.le_of_ble_eq_true rfl⟩ ⟨Nat.le_of_ble_eq_true rfl, Nat.le_of_ble_eq_true rfl⟩ dX1_begin_26 (Nat.le_of_ble_eq_true rfl) rfl (by decide +kernel) (fun _ => rfl) ([(a 1, .inr (1, [.ref (a 2), .ref (a 3), .ref (a 4), .ref (a 5), .ref (a 6), .ref (a 7), .int (nI (2 * hf)), .int 0])), (a 2, .inl (G.2.1, 40, .inl (fun q => nI (d q)))), (a 3, .inl (G.2.1, 40, .inl (fun q => nI (σ 2 q)))), (a 4, .inl (G.2.1, 40, .inl (fun _ => nI 0))), (a 6, .inl (G.2.1, 40, .inl (fun q => nI (σ 4 q)))), (a 7, .inl (G.2.1, 40, .inl (fun q => nI (σ 5 q))))] ++ txW G b t L lt ms hf fa cu) rfl (fun _ => rfl) 11 (fun _ => rfl) (by decide +kernel) (by decide +kernel) (fun _ _ => ?_)
  refine J_st (st' := []) rfl ?_
  refine J_aload_n C rfl dX1_begin_29 ?_
  refine J_get C 0 4 in1 rfl rfl (by decide) k47 rfl dX1_begin_30 ?_
  refine J_callSN (as := [.ref (a 6)]) (rest := []) C (ct_clearRow l G (a 6) 40 (fun q => nI (σ 4 q)) (by decide)) (fun u => [(a 1, .inr (1, [.ref (a 2), .ref (a 3), .ref (a 4), .ref (a 5), .ref (a 6), .ref (a 7), .int (nI (2 * hf)), .int 0])), (a 2, .inl (G.2.1, 40, .inl (fun q => nI (d q)))), (a 3, .inl (G.2.1, 40, .inl (fun q => nI (σ 2 q)))), (a 4, .inl (G.2.1, 40, .inl (fun _ => nI 0))), (a 5, .inl (G.2.1, 40, .inl (fun _ => nI 0))), (a 6, .inl (G.2.1, 40, .inl (fun _ => nI 0))), (a 7, .inl (G.2.1, 40, .inl (fun q => nI (σ 5 q))))] ++ txW G b t L lt ms hf fa cu) [5] [0, 1, 2, 3, 4, 6, 7, 8, 9, 10] 1 nmTwoScribes_Page_46 k272 k10 k273 rfl (by decide +kernel) ⟨Nat.le_of_ble_eq_true rfl, Nat.le_of_ble_eq_true rfl⟩ ⟨Nat.le_of_ble_eq_true rfl, Nat.le_of_ble_eq_true rfl⟩ dX1_begin_33 (Nat.le_of_ble_eq_true rfl) rfl (by decide +kernel) (fun _ => rfl) ([(a 1, .inr (1, [.ref (a 2), .ref (a 3), .ref (a 4), .ref (a 5), .ref (a 6), .ref (a 7), .int (nI (2 * hf)), .int 0])), (a 2, .inl (G.2.1, 40, .inl (fun q => nI (d q)))), (a 3, .inl (G.2.1, 40, .inl (fun q => nI (σ 2 q)))), (a 4, .inl (G.2.1, 40, .inl (fun _ => nI 0))), (a 5, .inl (G.2.1, 40, .inl (fun _ => nI 0))), (a 7, .inl (G.2.1, 40, .inl (fun q => nI (σ 5 q))))] ++ txW G b t L lt ms hf fa cu) rfl (fun _ => rfl) 11 (fun _ => rfl) (by decide +kernel) (by decide +kernel) (fun _ _ => ?_)
  refine J_st (st' := []) rfl ?_
  refine J_aload_n C rfl dX1_begin_36 ?_
  refine J_get C 0 5 in1 rfl rfl (by decide) k49 rfl dX1_begin_37 ?_
  refine J_callSN (as := [.ref (a 7)]) (rest := []) C (ct_clearRow l G (a 7) 40 (fun q => nI (σ 5 q)) (by decide)) (fun u => [(a 1, .inr (1, [.ref (a 2), .ref (a 3), .ref (a 4), .ref (a 5), .ref (a 6), .ref (a 7), .int (nI (2 * hf)), .int 0])), (a 2, .inl (G.2.1, 40, .inl (fun q => nI (d q)))), (a 3, .inl (G.2.1, 40, .inl (fun q => nI (σ 2 q)))), (a 4, .inl (G.2.1, 40, .inl (fun _ => nI 0))), (a 5, .inl (G.2.1, 40, .inl (fun _ => nI 0))), (a 6, .inl (G.2.1, 40, .inl (fun _ => nI 0))), (a 7, .inl (G.2.1, 40, .inl (fun _ => nI 0)))] ++ txW G b t L lt ms hf fa cu) [6] [0, 1, 2, 3, 4, 5, 7, 8, 9, 10] 1 nmTwoScribes_Page_46 k272 k10 k273 rfl (by decide +kernel) ⟨Nat.le_of_ble_eq_true rfl, Nat.le_of_ble_eq_true rfl⟩ ⟨Nat.le_of_ble_eq_true rfl, Nat.le_of_ble_eq_true rfl⟩ dX1_begin_40 (Nat.le_of_ble_eq_true rfl) rfl (by decide +kernel) (fun _ => rfl) ([(a 1, .inr (1, [.ref (a 2), .ref (a 3), .ref (a 4), .ref (a 5), .ref (a 6), .ref (a 7), .int (nI (2 * hf)), .int 0])), (a 2, .inl (G.2.1, 40, .inl (fun q => nI (d q)))), (a 3, .inl (G.2.1, 40, .inl (fun q => nI (σ 2 q)))), (a 4, .inl (G.2.1, 40, .inl (fun _ => nI 0))), (a 5, .inl (G.2.1, 40, .inl (fun _ => nI 0))), (a 6, .inl (G.2.1, 40, .inl (fun _ => nI 0)))] ++ txW G b t L lt ms hf fa cu) rfl (fun _ => rfl) 11 (fun _ => rfl) (by decide +kernel) (by decide +kernel) (fun _ _ => ?_)
  refine J_st (st' := []) rfl ?_
  refine J_aload_n C rfl dX1_begin_43 ?_
  refine J_getN C 7 2 in2 rfl rfl (by decide) nfTwoScribes_Page_50 rfl dX1_begin_44 ?_
  refine J_aload_n C rfl dX1_begin_47 ?_
  refine J_get C 0 1 in1 rfl rfl (by decide) k41 rfl dX1_begin_48 ?_
  refine J_callSN (as := [.ref (b 3), .ref (a 3)]) (rest := []) C (ct_copyRow l G (b 3) (a 3) 40 (fun q => nI (ms q)) (fun q => nI (σ 2 q)) (by decide)) (fun u => [(a 1, .inr (1, [.ref (a 2), .ref (a 3), .ref (a 4), .ref (a 5), .ref (a 6), .ref (a 7), .int (nI (2 * hf)), .int 0])), (a 2, .inl (G.2.1, 40, .inl (fun q => nI (d q)))), (a 3, .inl (G.2.1, 40, .inl (fun q => nI (ms q)))), (a 4, .inl (G.2.1, 40, .inl (fun _ => nI 0))), (a 5, .inl (G.2.1, 40, .inl (fun _ => nI 0))), (a 6, .inl (G.2.1, 40, .inl (fun _ => nI 0))), (a 7, .inl (G.2.1, 40, .inl (fun _ => nI 0)))] ++ txW G b t L lt ms hf fa cu) [10, 2] [0, 1, 3, 4, 5, 6, 7, 8, 9] 2 nmTwoScribes_Page_30 k317 k10 k318 rfl (by decide +kernel) ⟨Nat.le_of_ble_eq_true rfl, Nat.le_of_ble_eq_true rfl⟩ ⟨Nat.le_of_ble_eq_true rfl, Nat.le_of_ble_eq_true rfl⟩ dX1_begin_51 (Nat.le_of_ble_eq_true rfl) rfl (by decide +kernel) (fun _ => rfl) ([(a 1, .inr (1, [.ref (a 2), .ref (a 3), .ref (a 4), .ref (a 5), .ref (a 6), .ref (a 7), .int (nI (2 * hf)), .int 0])), (a 2, .inl (G.2.1, 40, .inl (fun q => nI (d q)))), (a 4, .inl (G.2.1, 40, .inl (fun _ => nI 0))), (a 5, .inl (G.2.1, 40, .inl (fun _ => nI 0))), (a 6, .inl (G.2.1, 40, .inl (fun _ => nI 0))), (a 7, .inl (G.2.1, 40, .inl (fun _ => nI 0)))] ++ [(b 0, .inr (2, [.ref (b 1), .ref (b 2), .ref (b 3), .int (nI L), .int (nI hf), .int fa, .int (nI cu)])), (b 1, .inl (G.2.2.1, 60, .inl (fun q => nI (t q)))), (b 2, .inl (G.2.1, 20, .inl (fun q => nI (lt q))))]) rfl (fun _ => rfl) 11 (fun _ => rfl) (by decide +kernel) (by decide +kernel) (fun _ _ => ?_)
  refine J_st (st' := []) rfl ?_
  refine J_iconst C 0 (by decide) dX1_begin_54 ?_
  refine J_istore_n C [(2, .int 0), (0, .ref (a 1)), (1, .ref (b 0))] (by decide) rfl dX1_begin_55 ?_
  refine J_lvp [1, 2, 0] [(0, .ref (a 1)), (1, .ref (b 0)), (2, .int 0)] rfl ?_
  refine J_ws (ws' := pgW G a (pgF σ hf ms) (dlp d lt hf 0) ++ txW G b t L lt ms hf fa cu) (by rw [dlp_0] <;> rfl) ?_
  refine J_loop (fun i => pgW G a (pgF σ hf ms) (dlp d lt hf i) ++ txW G b t L lt ms hf fa cu) (fun i => [(0, .ref (a 1)), (1, .ref (b 0)), (2, .int (nI i))]) (fun i => i ≤ hf) (fun i => hf - i) (fun i hi ih => ?_) 0 (Nat.zero_le _) rfl rfl
  refine J_iload_n C rfl dX1_begin_56 ?_
  refine J_aload_n C rfl dX1_begin_57 ?_
  refine J_getN C 7 4 in2 rfl rfl (by decide) nfTwoScribes_Page_41 rfl dX1_begin_58 ?_
  refine J_icmp_ge C 101 (by decide) dX1_begin_61 (fun c61 => ?_) (fun c61 => ?_)
  · skip
    have c61 := cv_ge_t (a := i) (b := hf) (by omega) (by omega) c61
    exact J_vret C hr dX1_begin_101 () rfl trivial (by rw [show i = hf by omega] <;> rfl)
  · skip
    have c61 := cv_ge_f (a := i) (b := hf) (by omega) (by omega) c61
    refine J_aload_n C rfl dX1_begin_64 ?_
    refine J_getN C 7 1 in2 rfl rfl (by decide) nfTwoScribes_Page_53 rfl dX1_begin_65 ?_
    refine J_iload_n C rfl dX1_begin_68 ?_
    refine J_callSN (as := [.ref (b 2), .int (nI i)]) (rest := []) C (ct_at l G (b 2) 20 (fun q => nI (lt q)) i (by omega) (by decide)) (fun u => pgW G a (pgF σ hf ms) (dlp d lt hf i) ++ txW G b t L lt ms hf fa cu) [9] [0, 1, 2, 3, 4, 5, 6, 7, 8, 10] 2 nmTwoScribes_Page_56 k340 k10 k341 rfl (by decide +kernel) ⟨Nat.le_of_ble_eq_true rfl, Nat.le_of_ble_eq_true rfl⟩ ⟨Nat.le_of_ble_eq_true rfl, Nat.le_of_ble_eq_true rfl⟩ dX1_begin_69 (Nat.le_of_ble_eq_true rfl) rfl (by decide +kernel) (fun _ => rfl) (pgW G a (pgF σ hf ms) (dlp d lt hf i) ++ [(b 0, .inr (2, [.ref (b 1), .ref (b 2), .ref (b 3), .int (nI L), .int (nI hf), .int fa, .int (nI cu)])), (b 1, .inl (G.2.2.1, 60, .inl (fun q => nI (t q)))), (b 3, .inl (G.2.1, 40, .inl (fun q => nI (ms q))))]) rfl (fun _ => rfl) 11 (fun _ => rfl) (by decide +kernel) (by decide +kernel) (fun _ _ => ?_)
    refine J_st (st' := [.int (nI (lt i))]) rfl ?_
    refine J_istore_n C [(3, .int (nI (lt i))), (0, .ref (a 1)), (1, .ref (b 0)), (2, .int (nI i))] (by decide) rfl dX1_begin_72 ?_
    refine J_aload_n C rfl dX1_begin_73 ?_
    refine J_get C 0 0 in1 rfl rfl (by decide) k38 rfl dX1_begin_74 ?_
    refine J_iload_n C rfl dX1_begin_77 ?_
    refine J_iload_n C rfl dX1_begin_78 ?_
    refine J_callSN (as := [.ref (a 2), .int (nI i), .int (nI (lt i))]) (rest := []) C (ct_putN l G (a 2) 40 (dlp d lt hf i) i (lt i) (by omega) (by decide)) (fun u => [(a 1, .inr (1, [.ref (a 2), .ref (a 3), .ref (a 4), .ref (a 5), .ref (a 6), .ref (a 7), .int (nI ((pgF σ hf ms) 0 4)), .int (nI ((pgF σ hf ms) 0 5))])), (a 2, .inl (G.2.1, 40, .inl (fun q => nI (if q = i then lt i else (dlp d lt hf i) q)))), (a 3, .inl (G.2.1, 40, .inl (fun q => nI ((pgF σ hf ms) 2 q)))), (a 4, .inl (G.2.1, 40, .inl (fun q => nI ((pgF σ hf ms) 3 q)))), (a 5, .inl (G.2.1, 40, .inl (fun q => nI ((pgF σ hf ms) 6 q)))), (a 6, .inl (G.2.1, 40, .inl (fun q => nI ((pgF σ hf ms) 4 q)))), (a 7, .inl (G.2.1, 40, .inl (fun q => nI ((pgF σ hf ms) 5 q))))] ++ txW G b t L lt ms hf fa cu) [1] [0, 2, 3, 4, 5, 6, 7, 8, 9, 10] 3 nmTwoScribes_Page_60 k283 k10 k284 rfl (by decide +kernel) ⟨Nat.le_of_ble_eq_true rfl, Nat.le_of_ble_eq_true rfl⟩ ⟨Nat.le_of_ble_eq_true rfl, Nat.le_of_ble_eq_true rfl⟩ dX1_begin_79 (Nat.le_of_ble_eq_true rfl) rfl (by decide +kernel) (fun _ => rfl) ([(a 1, .inr (1, [.ref (a 2), .ref (a 3), .ref (a 4), .ref (a 5), .ref (a 6), .ref (a 7), .int (nI ((pgF σ hf ms) 0 4)), .int (nI ((pgF σ hf ms) 0 5))])), (a 3, .inl (G.2.1, 40, .inl (fun q => nI ((pgF σ hf ms) 2 q)))), (a 4, .inl (G.2.1, 40, .inl (fun q => nI ((pgF σ hf ms) 3 q)))), (a 5, .inl (G.2.1, 40, .inl (fun q => nI ((pgF σ hf ms) 6 q)))), (a 6, .inl (G.2.1, 40, .inl (fun q => nI ((pgF σ hf ms) 4 q)))), (a 7, .inl (G.2.1, 40, .inl (fun q => nI ((pgF σ hf ms) 5 q))))] ++ txW G b t L lt ms hf fa cu) rfl (fun _ => rfl) 11 (fun _ => rfl) (by decide +kernel) (by decide +kernel) (fun _ _ => ?_)
    refine J_st (st' := []) rfl ?_
    refine J_aload_n C rfl dX1_begin_82 ?_
    refine J_get C 0 0 in1 rfl rfl (by decide) k38 rfl dX1_begin_83 ?_
    refine J_aload_n C rfl dX1_begin_86 ?_
    refine J_iload_n C rfl dX1_begin_87 ?_
    refine J_callV (as := [.int (nI i)]) (rest := [.ref (a 2)]) C (ct_mirrorOf l G a (pgF σ hf ms) (fun q => if q = i then lt i else dlp d lt hf i q) i (by show 2 * hf ≤ 40; omega) (by show i < 2 * hf; omega)) (fun u => [(a 1, .inr (1, [.ref (a 2), .ref (a 3), .ref (a 4), .ref (a 5), .ref (a 6), .ref (a 7), .int (nI ((pgF σ hf ms) 0 4)), .int (nI ((pgF σ hf ms) 0 5))])), (a 2, .inl (G.2.1, 40, .inl (fun q => nI (if q = i then lt i else (dlp d lt hf i) q)))), (a 3, .inl (G.2.1, 40, .inl (fun q => nI ((pgF σ hf ms) 2 q)))), (a 4, .inl (G.2.1, 40, .inl (fun q => nI ((pgF σ hf ms) 3 q)))), (a 5, .inl (G.2.1, 40, .inl (fun q => nI ((pgF σ hf ms) 6 q)))), (a 6, .inl (G.2.1, 40, .inl (fun q => nI ((pgF σ hf ms) 4 q)))), (a 7, .inl (G.2.1, 40, .inl (fun q => nI ((pgF σ hf ms) 5 q))))] ++ txW G b t L lt ms hf fa cu) [0, 1, 2, 3, 4, 5, 6] [7, 8, 9, 10] 1 k343 k344 k345 k12 k346 rfl (by decide +kernel) ⟨Nat.le_of_ble_eq_true rfl, Nat.le_of_ble_eq_true rfl⟩ ⟨Nat.le_of_ble_eq_true rfl, Nat.le_of_ble_eq_true rfl⟩ dX1_begin_88 (Nat.le_of_ble_eq_true rfl) 0 rfl rfl rfl (by decide +kernel) (fun _ => rfl) (txW G b t L lt ms hf fa cu) rfl (fun _ => rfl) 11 (fun _ => rfl) (by decide +kernel) (by decide +kernel) (fun _ _ => ?_)
    refine J_st (st' := [.int (nI ((pgF σ hf ms) 0 4 - 1 - i)), .ref (a 2)]) rfl ?_
    refine J_i (rfl : (nI ((pgF σ hf ms) 0 4 - 1 - i) : Int32) = (nI (2 * hf - 1 - i))) ?_
    refine J_iload_n C rfl dX1_begin_91 ?_
    refine J_callSN (as := [.ref (a 2), .int (nI (2 * hf - 1 - i)), .int (nI (lt i))]) (rest := []) C (ct_putN l G (a 2) 40 (fun q => if q = i then lt i else (dlp d lt hf i) q) (2 * hf - 1 - i) (lt i) (by omega) (by decide)) (fun u => [(a 1, .inr (1, [.ref (a 2), .ref (a 3), .ref (a 4), .ref (a 5), .ref (a 6), .ref (a 7), .int (nI ((pgF σ hf ms) 0 4)), .int (nI ((pgF σ hf ms) 0 5))])), (a 2, .inl (G.2.1, 40, .inl (fun q => nI (if q = 2 * hf - 1 - i then lt i else if q = i then lt i else (dlp d lt hf i) q)))), (a 3, .inl (G.2.1, 40, .inl (fun q => nI ((pgF σ hf ms) 2 q)))), (a 4, .inl (G.2.1, 40, .inl (fun q => nI ((pgF σ hf ms) 3 q)))), (a 5, .inl (G.2.1, 40, .inl (fun q => nI ((pgF σ hf ms) 6 q)))), (a 6, .inl (G.2.1, 40, .inl (fun q => nI ((pgF σ hf ms) 4 q)))), (a 7, .inl (G.2.1, 40, .inl (fun q => nI ((pgF σ hf ms) 5 q))))] ++ txW G b t L lt ms hf fa cu) [1] [0, 2, 3, 4, 5, 6, 7, 8, 9, 10] 3 nmTwoScribes_Page_60 k283 k10 k284 rfl (by decide +kernel) ⟨Nat.le_of_ble_eq_true rfl, Nat.le_of_ble_eq_true rfl⟩ ⟨Nat.le_of_ble_eq_true rfl, Nat.le_of_ble_eq_true rfl⟩ dX1_begin_92 (Nat.le_of_ble_eq_true rfl) rfl (by decide +kernel) (fun _ => rfl) ([(a 1, .inr (1, [.ref (a 2), .ref (a 3), .ref (a 4), .ref (a 5), .ref (a 6), .ref (a 7), .int (nI ((pgF σ hf ms) 0 4)), .int (nI ((pgF σ hf ms) 0 5))])), (a 3, .inl (G.2.1, 40, .inl (fun q => nI ((pgF σ hf ms) 2 q)))), (a 4, .inl (G.2.1, 40, .inl (fun q => nI ((pgF σ hf ms) 3 q)))), (a 5, .inl (G.2.1, 40, .inl (fun q => nI ((pgF σ hf ms) 6 q)))), (a 6, .inl (G.2.1, 40, .inl (fun q => nI ((pgF σ hf ms) 4 q)))), (a 7, .inl (G.2.1, 40, .inl (fun q => nI ((pgF σ hf ms) 5 q))))] ++ txW G b t L lt ms hf fa cu) rfl (fun _ => rfl) 11 (fun _ => rfl) (by decide +kernel) (by decide +kernel) (fun _ _ => ?_)
    refine J_st (st' := []) rfl ?_
    refine J_iinc C (nI (i + 1)) [(2, .int (nI (i + 1))), (3, .int (nI (lt i))), (0, .ref (a 1)), (1, .ref (b 0))] 3 rfl (by first | exact nI_add _ 1 | rfl) (by decide) rfl dX1_begin_95 ?_
    refine J_goto C 56 (by decide) dX1_begin_98 ?_
    refine J_lvp [2, 3, 0] [(0, .ref (a 1)), (1, .ref (b 0)), (2, .int (nI (i + 1)))] rfl ?_
    refine J_ws (ws' := pgW G a (pgF σ hf ms) (dlp d lt hf (i + 1)) ++ txW G b t L lt ms hf fa cu) (by rw [dlp_s d lt (by omega)] <;> rfl) ?_
    exact ih (i + 1) (by omega) (by omega)

set_option maxHeartbeats 4000000 in
set_option maxRecDepth 100000 in
theorem ct_beginPage (l : Launch) (G : GT) (a : Nat → Nat) (σ : AS) (d : Nat → Nat) (b : Nat → Nat) (t : Nat → Nat) (L : Nat) (lt ms : Nat → Nat) (hf : Nat) (fa : Int32) (cu : Nat) (hh : hf ≤ 20) : Ct (S := Unit) l G NoX yX4_beginPage (Wy yX4_beginPage cX4_beginPage 2 ((Option.none : Option Jvm.ClassFile.FieldType))) { frames := 3, cells := 0, slots := 0, locals := 84 } [.ref (a 0), .ref (b 0)] (stW G a σ d ++ txW G b t L lt ms hf fa cu) (fun u => True) (fun u => none) (fun u => stW G a (rdF σ hf ms lt) (dlp d lt hf hf) ++ txW G b t L lt ms hf fa cu) := by
  refine Ct.of (by decide) (Nat.le_of_ble_eq_true rfl) (fun p e s m args below meth c C hr hnm hX => ?_)
  refine J_aload_n C rfl dX4_beginPage_0 ?_
  refine J_get C 0 0 in4 rfl rfl (by decide) k117 rfl dX4_beginPage_1 ?_
  refine J_aload_n C rfl dX4_beginPage_4 ?_
  refine J_callV (as := [.ref (b 0)]) (rest := []) C (ct_begin l G a σ d b t L lt ms hf fa cu hh) (fun u => [(a 0, .inr (4, [.ref (a 1), .ref (a 8), .ref (a 9), .ref (a 10), .float (fl (σ 0 6)), .float (fl (σ 0 7)), .float (fl (σ 0 8)), .int (nI (σ 0 3)), .int (nI (σ 0 9)), .int (nI (σ 0 10)), .int (nI (σ 0 11))])), (a 1, .inr (1, [.ref (a 2), .ref (a 3), .ref (a 4), .ref (a 5), .ref (a 6), .ref (a 7), .int (nI ((pgF σ hf ms) 0 4)), .int (nI ((pgF σ hf ms) 0 5))])), (a 2, .inl (G.2.1, 40, .inl (fun q => nI ((dlp d lt hf hf) q)))), (a 3, .inl (G.2.1, 40, .inl (fun q => nI ((pgF σ hf ms) 2 q)))), (a 4, .inl (G.2.1, 40, .inl (fun q => nI ((pgF σ hf ms) 3 q)))), (a 5, .inl (G.2.1, 40, .inl (fun q => nI ((pgF σ hf ms) 6 q)))), (a 6, .inl (G.2.1, 40, .inl (fun q => nI ((pgF σ hf ms) 4 q)))), (a 7, .inl (G.2.1, 40, .inl (fun q => nI ((pgF σ hf ms) 5 q)))), (a 8, .inr (3, [.int (nI (σ 0 12)), .int (nI (σ 0 14)), .int (nI (σ 0 16)), .int (nI (σ 0 18)), .int (nI (σ 0 20)), .int (nI (σ 0 22)), .float (fl (σ 0 24))])), (a 9, .inr (3, [.int (nI (σ 0 13)), .int (nI (σ 0 15)), .int (nI (σ 0 17)), .int (nI (σ 0 19)), .int (nI (σ 0 21)), .int (nI (σ 0 23)), .float (fl (σ 0 25))])), (a 10, .inl (G.2.1, 3, .inl (fun q => nI (σ 7 q))))] ++ txW G b t L lt ms hf fa cu) [1, 2, 3, 4, 5, 6, 7, 11, 12, 13, 14] [0, 8, 9, 10] 1 k334 k335 k336 k12 k337 rfl (by decide +kernel) ⟨Nat.le_of_ble_eq_true rfl, Nat.le_of_ble_eq_true rfl⟩ ⟨Nat.le_of_ble_eq_true rfl, Nat.le_of_ble_eq_true rfl⟩ dX4_beginPage_5 (Nat.le_of_ble_eq_true rfl) 1 rfl rfl rfl (by decide +kernel) (fun _ => rfl) ([(a 0, .inr (4, [.ref (a 1), .ref (a 8), .ref (a 9), .ref (a 10), .float (fl (σ 0 6)), .float (fl (σ 0 7)), .float (fl (σ 0 8)), .int (nI (σ 0 3)), .int (nI (σ 0 9)), .int (nI (σ 0 10)), .int (nI (σ 0 11))])), (a 8, .inr (3, [.int (nI (σ 0 12)), .int (nI (σ 0 14)), .int (nI (σ 0 16)), .int (nI (σ 0 18)), .int (nI (σ 0 20)), .int (nI (σ 0 22)), .float (fl (σ 0 24))])), (a 9, .inr (3, [.int (nI (σ 0 13)), .int (nI (σ 0 15)), .int (nI (σ 0 17)), .int (nI (σ 0 19)), .int (nI (σ 0 21)), .int (nI (σ 0 23)), .float (fl (σ 0 25))])), (a 10, .inl (G.2.1, 3, .inl (fun q => nI (σ 7 q))))]) rfl (fun _ => rfl) 15 (fun _ => rfl) (by decide +kernel) (by decide +kernel) (fun _ _ => ?_)
  refine J_st (st' := []) rfl ?_
  refine J_aload_n C rfl dX4_beginPage_8 ?_
  refine J_get C 0 1 in4 rfl rfl (by decide) k119 rfl dX4_beginPage_9 ?_
  refine J_callV (as := []) (rest := []) C (ct_scrBegin l G (a 8) (nI (σ 0 12)) (nI (σ 0 14)) (nI (σ 0 16)) (nI (σ 0 18)) (nI (σ 0 20)) (nI (σ 0 22)) (fl (σ 0 24))) (fun u => [(a 0, .inr (4, [.ref (a 1), .ref (a 8), .ref (a 9), .ref (a 10), .float (fl (σ 0 6)), .float (fl (σ 0 7)), .float (fl (σ 0 8)), .int (nI (σ 0 3)), .int (nI (σ 0 9)), .int (nI (σ 0 10)), .int (nI (σ 0 11))])), (a 1, .inr (1, [.ref (a 2), .ref (a 3), .ref (a 4), .ref (a 5), .ref (a 6), .ref (a 7), .int (nI ((pgF σ hf ms) 0 4)), .int (nI ((pgF σ hf ms) 0 5))])), (a 2, .inl (G.2.1, 40, .inl (fun q => nI ((dlp d lt hf hf) q)))), (a 3, .inl (G.2.1, 40, .inl (fun q => nI ((pgF σ hf ms) 2 q)))), (a 4, .inl (G.2.1, 40, .inl (fun q => nI ((pgF σ hf ms) 3 q)))), (a 5, .inl (G.2.1, 40, .inl (fun q => nI ((pgF σ hf ms) 6 q)))), (a 6, .inl (G.2.1, 40, .inl (fun q => nI ((pgF σ hf ms) 4 q)))), (a 7, .inl (G.2.1, 40, .inl (fun q => nI ((pgF σ hf ms) 5 q)))), (a 8, .inr (3, [.int (nI (σ 0 12)), .int (nI 0), .int (nI 0), .int (nI (σ 0 18)), .int (nI (σ 0 20)), .int (nI (σ 0 22)), .float (fl (σ 0 24))])), (a 9, .inr (3, [.int (nI (σ 0 13)), .int (nI (σ 0 15)), .int (nI (σ 0 17)), .int (nI (σ 0 19)), .int (nI (σ 0 21)), .int (nI (σ 0 23)), .float (fl (σ 0 25))])), (a 10, .inl (G.2.1, 3, .inl (fun q => nI (σ 7 q))))] ++ txW G b t L lt ms hf fa cu) [8] [0, 1, 2, 3, 4, 5, 6, 7, 9, 10, 11, 12, 13, 14] 0 k347 k348 k349 k13 k350 rfl (by decide +kernel) ⟨Nat.le_of_ble_eq_true rfl, Nat.le_of_ble_eq_true rfl⟩ ⟨Nat.le_of_ble_eq_true rfl, Nat.le_of_ble_eq_true rfl⟩ dX4_beginPage_12 (Nat.le_of_ble_eq_true rfl) 8 rfl rfl rfl (by decide +kernel) (fun _ => rfl) ([(a 0, .inr (4, [.ref (a 1), .ref (a 8), .ref (a 9), .ref (a 10), .float (fl (σ 0 6)), .float (fl (σ 0 7)), .float (fl (σ 0 8)), .int (nI (σ 0 3)), .int (nI (σ 0 9)), .int (nI (σ 0 10)), .int (nI (σ 0 11))])), (a 1, .inr (1, [.ref (a 2), .ref (a 3), .ref (a 4), .ref (a 5), .ref (a 6), .ref (a 7), .int (nI ((pgF σ hf ms) 0 4)), .int (nI ((pgF σ hf ms) 0 5))])), (a 2, .inl (G.2.1, 40, .inl (fun q => nI ((dlp d lt hf hf) q)))), (a 3, .inl (G.2.1, 40, .inl (fun q => nI ((pgF σ hf ms) 2 q)))), (a 4, .inl (G.2.1, 40, .inl (fun q => nI ((pgF σ hf ms) 3 q)))), (a 5, .inl (G.2.1, 40, .inl (fun q => nI ((pgF σ hf ms) 6 q)))), (a 6, .inl (G.2.1, 40, .inl (fun q => nI ((pgF σ hf ms) 4 q)))), (a 7, .inl (G.2.1, 40, .inl (fun q => nI ((pgF σ hf ms) 5 q)))), (a 9, .inr (3, [.int (nI (σ 0 13)), .int (nI (σ 0 15)), .int (nI (σ 0 17)), .int (nI (σ 0 19)), .int (nI (σ 0 21)), .int (nI (σ 0 23)), .float (fl (σ 0 25))])), (a 10, .inl (G.2.1, 3, .inl (fun q => nI (σ 7 q))))] ++ txW G b t L lt ms hf fa cu) rfl (fun _ => rfl) 15 (fun _ => rfl) (by decide +kernel) (by decide +kernel) (fun _ _ => ?_)
  refine J_st (st' := []) rfl ?_
  refine J_aload_n C rfl dX4_beginPage_15 ?_
  refine J_get C 0 2 in4 rfl rfl (by decide) k121 rfl dX4_beginPage_16 ?_
  refine J_callV (as := []) (rest := []) C (ct_scrBegin l G (a 9) (nI (σ 0 13)) (nI (σ 0 15)) (nI (σ 0 17)) (nI (σ 0 19)) (nI (σ 0 21)) (nI (σ 0 23)) (fl (σ 0 25))) (fun u => [(a 0, .inr (4, [.ref (a 1), .ref (a 8), .ref (a 9), .ref (a 10), .float (fl (σ 0 6)), .float (fl (σ 0 7)), .float (fl (σ 0 8)), .int (nI (σ 0 3)), .int (nI (σ 0 9)), .int (nI (σ 0 10)), .int (nI (σ 0 11))])), (a 1, .inr (1, [.ref (a 2), .ref (a 3), .ref (a 4), .ref (a 5), .ref (a 6), .ref (a 7), .int (nI ((pgF σ hf ms) 0 4)), .int (nI ((pgF σ hf ms) 0 5))])), (a 2, .inl (G.2.1, 40, .inl (fun q => nI ((dlp d lt hf hf) q)))), (a 3, .inl (G.2.1, 40, .inl (fun q => nI ((pgF σ hf ms) 2 q)))), (a 4, .inl (G.2.1, 40, .inl (fun q => nI ((pgF σ hf ms) 3 q)))), (a 5, .inl (G.2.1, 40, .inl (fun q => nI ((pgF σ hf ms) 6 q)))), (a 6, .inl (G.2.1, 40, .inl (fun q => nI ((pgF σ hf ms) 4 q)))), (a 7, .inl (G.2.1, 40, .inl (fun q => nI ((pgF σ hf ms) 5 q)))), (a 8, .inr (3, [.int (nI (σ 0 12)), .int (nI 0), .int (nI 0), .int (nI (σ 0 18)), .int (nI (σ 0 20)), .int (nI (σ 0 22)), .float (fl (σ 0 24))])), (a 9, .inr (3, [.int (nI (σ 0 13)), .int (nI 0), .int (nI 0), .int (nI (σ 0 19)), .int (nI (σ 0 21)), .int (nI (σ 0 23)), .float (fl (σ 0 25))])), (a 10, .inl (G.2.1, 3, .inl (fun q => nI (σ 7 q))))] ++ txW G b t L lt ms hf fa cu) [9] [0, 1, 2, 3, 4, 5, 6, 7, 8, 10, 11, 12, 13, 14] 0 k347 k348 k349 k13 k350 rfl (by decide +kernel) ⟨Nat.le_of_ble_eq_true rfl, Nat.le_of_ble_eq_true rfl⟩ ⟨Nat.le_of_ble_eq_true rfl, Nat.le_of_ble_eq_true rfl⟩ dX4_beginPage_19 (Nat.le_of_ble_eq_true rfl) 9 rfl rfl rfl (by decide +kernel) (fun _ => rfl) ([(a 0, .inr (4, [.ref (a 1), .ref (a 8), .ref (a 9), .ref (a 10), .float (fl (σ 0 6)), .float (fl (σ 0 7)), .float (fl (σ 0 8)), .int (nI (σ 0 3)), .int (nI (σ 0 9)), .int (nI (σ 0 10)), .int (nI (σ 0 11))])), (a 1, .inr (1, [.ref (a 2), .ref (a 3), .ref (a 4), .ref (a 5), .ref (a 6), .ref (a 7), .int (nI ((pgF σ hf ms) 0 4)), .int (nI ((pgF σ hf ms) 0 5))])), (a 2, .inl (G.2.1, 40, .inl (fun q => nI ((dlp d lt hf hf) q)))), (a 3, .inl (G.2.1, 40, .inl (fun q => nI ((pgF σ hf ms) 2 q)))), (a 4, .inl (G.2.1, 40, .inl (fun q => nI ((pgF σ hf ms) 3 q)))), (a 5, .inl (G.2.1, 40, .inl (fun q => nI ((pgF σ hf ms) 6 q)))), (a 6, .inl (G.2.1, 40, .inl (fun q => nI ((pgF σ hf ms) 4 q)))), (a 7, .inl (G.2.1, 40, .inl (fun q => nI ((pgF σ hf ms) 5 q)))), (a 8, .inr (3, [.int (nI (σ 0 12)), .int (nI 0), .int (nI 0), .int (nI (σ 0 18)), .int (nI (σ 0 20)), .int (nI (σ 0 22)), .float (fl (σ 0 24))])), (a 10, .inl (G.2.1, 3, .inl (fun q => nI (σ 7 q))))] ++ txW G b t L lt ms hf fa cu) rfl (fun _ => rfl) 15 (fun _ => rfl) (by decide +kernel) (by decide +kernel) (fun _ _ => ?_)
  refine J_st (st' := []) rfl ?_
  refine J_aload_n C rfl dX4_beginPage_22 ?_
  refine J_dup C rfl dX4_beginPage_23 ?_
  refine J_get C 0 8 in4 rfl rfl (by decide) k133 rfl dX4_beginPage_24 ?_
  refine J_iconst C 1 (by decide) dX4_beginPage_27 ?_
  refine J_iadd C dX4_beginPage_28 ?_
  refine J_i (nI_add (σ 0 9) 1 : ((nI (σ 0 9)) + 1 : Int32) = (nI (σ 0 9 + 1))) ?_
  refine J_put C 0 8 in4 tyX4 tyX4_ok nmX4 ([(a 0, .inr (4, [.ref (a 1), .ref (a 8), .ref (a 9), .ref (a 10), .float (fl (σ 0 6)), .float (fl (σ 0 7)), .float (fl (σ 0 8)), .int (nI (σ 0 3)), .int (nI (σ 0 9 + 1)), .int (nI (σ 0 10)), .int (nI (σ 0 11))])), (a 1, .inr (1, [.ref (a 2), .ref (a 3), .ref (a 4), .ref (a 5), .ref (a 6), .ref (a 7), .int (nI ((pgF σ hf ms) 0 4)), .int (nI ((pgF σ hf ms) 0 5))])), (a 2, .inl (G.2.1, 40, .inl (fun q => nI ((dlp d lt hf hf) q)))), (a 3, .inl (G.2.1, 40, .inl (fun q => nI ((pgF σ hf ms) 2 q)))), (a 4, .inl (G.2.1, 40, .inl (fun q => nI ((pgF σ hf ms) 3 q)))), (a 5, .inl (G.2.1, 40, .inl (fun q => nI ((pgF σ hf ms) 6 q)))), (a 6, .inl (G.2.1, 40, .inl (fun q => nI ((pgF σ hf ms) 4 q)))), (a 7, .inl (G.2.1, 40, .inl (fun q => nI ((pgF σ hf ms) 5 q)))), (a 8, .inr (3, [.int (nI (σ 0 12)), .int (nI 0), .int (nI 0), .int (nI (σ 0 18)), .int (nI (σ 0 20)), .int (nI (σ 0 22)), .float (fl (σ 0 24))])), (a 9, .inr (3, [.int (nI (σ 0 13)), .int (nI 0), .int (nI 0), .int (nI (σ 0 19)), .int (nI (σ 0 21)), .int (nI (σ 0 23)), .float (fl (σ 0 25))])), (a 10, .inl (G.2.1, 3, .inl (fun q => nI (σ 7 q))))] ++ txW G b t L lt ms hf fa cu) rfl rfl (by decide) k133 rfl rfl rfl (Nat.le_of_ble_eq_true rfl) rfl dX4_beginPage_29 ?_
  exact J_vret C hr dX4_beginPage_32 () rfl trivial rfl

set_option maxHeartbeats 4000000 in
set_option maxRecDepth 100000 in
theorem ct_stateAt (l : Launch) (G : GT) (hh ha : Nat) (hb : Nat → Nat → Nat) (f n g : Nat) (hf : f < 4) (hg : g ≤ 4) : Ct (S := Unit) l G NoX yX0_stateAt (Wy yX0_stateAt cX0_stateAt 3 ((Option.some (Jvm.ClassFile.FieldType.object "TwoScribes$State")))) { frames := 0, cells := 0, slots := 0, locals := 0 } [.ref hh, .int (nI g)] ([(hh, .inr (0, [.ref ha, .int (nI f), .int (nI n)])), (ha, .inl (G.2.2.2, 4, .inr (.inr (.inr (.inr (fun j => some (hb j 0)))))))]) (fun u => True) (fun u => some (.ref (hb ((f + g) % 4) 0))) (fun u => [(hh, .inr (0, [.ref ha, .int (nI f), .int (nI n)])), (ha, .inl (G.2.2.2, 4, .inr (.inr (.inr (.inr (fun j => some (hb j 0)))))))]) := by
  refine Ct.of (by decide) (Nat.le_of_ble_eq_true rfl) (fun p e s m args below meth c C hr hnm hX => ?_)
  refine J_aload_n C rfl dX0_stateAt_0 ?_
  refine J_get C 0 1 in0 rfl rfl (by decide) k172 rfl dX0_stateAt_1 ?_
  refine J_iload_n C rfl dX0_stateAt_4 ?_
  refine J_iadd C dX0_stateAt_5 ?_
  refine J_i (nI_add f g : ((nI f) + (nI g) : Int32) = (nI (f + g))) ?_
  refine J_iconst C 4 (by decide) dX0_stateAt_6 ?_
  refine J_irem C (by decide) dX0_stateAt_7 ?_
  refine J_i (pk_rem (a := f + g) (d := 4) (by omega) (by omega) (by omega) : ((nI (f + g)) - (nI (f + g)) / 4 * 4 : Int32) = (nI ((f + g) % 4))) ?_
  refine J_istore_n C [(2, .int (nI ((f + g) % 4))), (0, .ref hh), (1, .int (nI g))] (by decide) rfl dX0_stateAt_8 ?_
  refine J_iload_n C rfl dX0_stateAt_9 ?_
  refine J_if_lt C 31 (by decide) dX0_stateAt_10 (fun h => absurd h (nI_pos (by omega))) (fun _ => ?_)
  refine J_iload_n C rfl dX0_stateAt_13 ?_
  refine J_aload_n C rfl dX0_stateAt_14 ?_
  refine J_get C 0 0 in0 rfl rfl (by decide) k171 rfl dX0_stateAt_15 ?_
  refine J_alen C 1 rfl dX0_stateAt_18 ?_
  refine J_icmp_ge C 31 (by decide) dX0_stateAt_19 (fun h => absurd (cv_ge_t (a := ((f + g) % 4)) (b := 4) (by omega) (by omega) h) (by omega)) (fun c19 => ?_)
  refine J_aload_n C rfl dX0_stateAt_22 ?_
  refine J_get C 0 0 in0 rfl rfl (by decide) k171 rfl dX0_stateAt_23 ?_
  refine J_iload_n C rfl dX0_stateAt_26 ?_
  refine J_aald C 1 rfl ((f + g) % 4) rfl (by omega) (Nat.le_of_ble_eq_true rfl) dX0_stateAt_27 ?_
  refine J_st (st' := [.ref (hb ((f + g) % 4) 0)]) rfl ?_
  refine J_goto C 32 (by decide) dX0_stateAt_28 ?_
  exact J_aret C hr (Or.inr ⟨_, rfl⟩) dX0_stateAt_32 () rfl trivial rfl

set_option maxHeartbeats 4000000 in
set_option maxRecDepth 100000 in
theorem ct_record (l : Launch) (G : GT) (hh ha : Nat) (hb : Nat → Nat → Nat) (hσ : Nat → AS) (hd : Nat → Nat → Nat) (f n : Nat) (a : Nat → Nat) (σ : AS) (d : Nat → Nat) (hf : f < 4) (hn : n ≤ 4) : Ct (S := Unit) l G NoX yX0_record (Wy yX0_record cX0_record 3 ((Option.none : Option Jvm.ClassFile.FieldType))) { frames := 4, cells := 0, slots := 0, locals := 103 } [.ref hh, .ref (a 0)] ([(hh, .inr (0, [.ref ha, .int (nI f), .int (nI n)])), (ha, .inl (G.2.2.2, 4, .inr (.inr (.inr (.inr (fun j => some (hb j 0)))))))] ++ (stW G (hb 0) (hσ 0) (hd 0) ++ (stW G (hb 1) (hσ 1) (hd 1) ++ (stW G (hb 2) (hσ 2) (hd 2) ++ (stW G (hb 3) (hσ 3) (hd 3) ++ stW G a σ d))))) (fun u => True) (fun u => none) (fun u => [(hh, .inr (0, [.ref ha, .int (nI (firstF f n)), .int (nI (sizeF n))])), (ha, .inl (G.2.2.2, 4, .inr (.inr (.inr (.inr (fun j => some (hb j 0)))))))] ++ (stW G (hb 0) ((va_up hσ (slotF f n) σ) 0) ((va_up hd (slotF f n) d) 0) ++ (stW G (hb 1) ((va_up hσ (slotF f n) σ) 1) ((va_up hd (slotF f n) d) 1) ++ (stW G (hb 2) ((va_up hσ (slotF f n) σ) 2) ((va_up hd (slotF f n) d) 2) ++ (stW G (hb 3) ((va_up hσ (slotF f n) σ) 3) ((va_up hd (slotF f n) d) 3) ++ stW G a σ d))))) := by
  refine Ct.of (by decide) (Nat.le_of_ble_eq_true rfl) (fun p e s m args below meth c C hr hnm hX => ?_)
  refine J_aload_n C rfl dX0_record_0 ?_
  refine J_get C 0 2 in0 rfl rfl (by decide) k173 rfl dX0_record_1 ?_
  refine J_iconst C 4 (by decide) dX0_record_4 ?_
  refine J_icmp_ne C 30 (by decide) dX0_record_5 (fun c5 => ?_) (fun c5 => ?_)
  · skip
    have c5 := cv_ne_t (a := n) (b := 4) (by omega) (by omega) c5
    refine J_aload_n C rfl dX0_record_30 ?_
    refine J_aload_n C rfl dX0_record_31 ?_
    refine J_get C 0 2 in0 rfl rfl (by decide) k173 rfl dX0_record_32 ?_
    refine J_callV (as := [.int (nI n)]) (rest := []) C (ct_stateAt l G hh ha hb f n n (by omega) (by omega)) (fun u => [(hh, .inr (0, [.ref ha, .int (nI f), .int (nI n)])), (ha, .inl (G.2.2.2, 4, .inr (.inr (.inr (.inr (fun j => some (hb j 0)))))))] ++ (stW G (hb 0) (hσ 0) (hd 0) ++ (stW G (hb 1) (hσ 1) (hd 1) ++ (stW G (hb 2) (hσ 2) (hd 2) ++ (stW G (hb 3) (hσ 3) (hd 3) ++ stW G a σ d))))) [0, 1] [2, 3, 4, 5, 6, 7, 8, 9, 10, 11, 12, 13, 14, 15, 16, 17, 18, 19, 20, 21, 22, 23, 24, 25, 26, 27, 28, 29, 30, 31, 32, 33, 34, 35, 36, 37, 38, 39, 40, 41, 42, 43, 44, 45, 46, 47, 48, 49, 50, 51, 52, 53, 54, 55, 56] 1 k304 k306 k6 k14 k307 rfl (by decide +kernel) ⟨Nat.le_of_ble_eq_true rfl, Nat.le_of_ble_eq_true rfl⟩ ⟨Nat.le_of_ble_eq_true rfl, Nat.le_of_ble_eq_true rfl⟩ dX0_record_35 (Nat.le_of_ble_eq_true rfl) 0 rfl rfl rfl (by decide +kernel) (fun _ => rfl) (stW G (hb 0) (hσ 0) (hd 0) ++ (stW G (hb 1) (hσ 1) (hd 1) ++ (stW G (hb 2) (hσ 2) (hd 2) ++ (stW G (hb 3) (hσ 3) (hd 3) ++ stW G a σ d)))) rfl (fun _ => rfl) 57 (fun _ => rfl) (by decide +kernel) (by decide +kernel) (fun _ _ => ?_)
    refine J_st (st' := [.ref (hb ((f + n) % 4) 0)]) rfl ?_
    refine J_astore_n C [(2, .ref (hb ((f + n) % 4) 0)), (0, .ref hh), (1, .ref (a 0))] (by decide) rfl dX0_record_38 ?_
    rcases (show (f + n) % 4 = 0 ∨ (f + n) % 4 = 1 ∨ (f + n) % 4 = 2 ∨ (f + n) % 4 = 3 by omega) with hk | hk | hk | hk
    · skip
      rw [hk]
      refine J_aload_n C rfl dX0_record_39 ?_
      refine J_ifnull C dX0_record_40 ?_
      refine J_aload_n C rfl dX0_record_43 ?_
      refine J_aload_n C rfl dX0_record_44 ?_
      refine J_callV (as := [.ref (a 0)]) (rest := []) C (ct_stateCopy l G (hb 0) (hσ 0) (hd 0) a σ d) (fun u => [(hh, .inr (0, [.ref ha, .int (nI f), .int (nI n)])), (ha, .inl (G.2.2.2, 4, .inr (.inr (.inr (.inr (fun j => some (hb j 0)))))))] ++ (stW G (hb 0) σ d ++ (stW G (hb 1) (hσ 1) (hd 1) ++ (stW G (hb 2) (hσ 2) (hd 2) ++ (stW G (hb 3) (hσ 3) (hd 3) ++ stW G a σ d))))) [2, 3, 4, 5, 6, 7, 8, 9, 10, 11, 12, 46, 47, 48, 49, 50, 51, 52, 53, 54, 55, 56] [0, 1, 13, 14, 15, 16, 17, 18, 19, 20, 21, 22, 23, 24, 25, 26, 27, 28, 29, 30, 31, 32, 33, 34, 35, 36, 37, 38, 39, 40, 41, 42, 43, 44, 45] 1 k308 k309 k310 k11 k311 rfl (by decide +kernel) ⟨Nat.le_of_ble_eq_true rfl, Nat.le_of_ble_eq_true rfl⟩ ⟨Nat.le_of_ble_eq_true rfl, Nat.le_of_ble_eq_true rfl⟩ dX0_record_45 (Nat.le_of_ble_eq_true rfl) 2 rfl rfl rfl (by decide +kernel) (fun _ => rfl) ([(hh, .inr (0, [.ref ha, .int (nI f), .int (nI n)])), (ha, .inl (G.2.2.2, 4, .inr (.inr (.inr (.inr (fun j => some (hb j 0)))))))] ++ (stW G (hb 1) (hσ 1) (hd 1) ++ (stW G (hb 2) (hσ 2) (hd 2) ++ stW G (hb 3) (hσ 3) (hd 3)))) rfl (fun _ => rfl) 57 (fun _ => rfl) (by decide +kernel) (by decide +kernel) (fun _ _ => ?_)
      refine J_st (st' := []) rfl ?_
      refine J_aload_n C rfl dX0_record_48 ?_
      refine J_dup C rfl dX0_record_49 ?_
      refine J_get C 0 2 in0 rfl rfl (by decide) k173 rfl dX0_record_50 ?_
      refine J_iconst C 1 (by decide) dX0_record_53 ?_
      refine J_iadd C dX0_record_54 ?_
      refine J_i (nI_add n 1 : ((nI n) + 1 : Int32) = (nI (n + 1))) ?_
      refine J_put C 0 2 in0 tyX0 tyX0_ok nmX0 ([(hh, .inr (0, [.ref ha, .int (nI f), .int (nI (n + 1))])), (ha, .inl (G.2.2.2, 4, .inr (.inr (.inr (.inr (fun j => some (hb j 0)))))))] ++ (stW G (hb 0) σ d ++ (stW G (hb 1) (hσ 1) (hd 1) ++ (stW G (hb 2) (hσ 2) (hd 2) ++ (stW G (hb 3) (hσ 3) (hd 3) ++ stW G a σ d))))) rfl rfl (by decide) k173 rfl rfl rfl (Nat.le_of_ble_eq_true rfl) rfl dX0_record_55 ?_
      exact J_vret C hr dX0_record_58 () rfl trivial (by rw [show slotF f n = 0 from by unfold slotF; rw [if_neg c5]; exact hk, show firstF f n = f from if_neg c5, show sizeF n = n + 1 from if_neg c5] <;> rfl)
    · skip
      rw [hk]
      refine J_aload_n C rfl dX0_record_39 ?_
      refine J_ifnull C dX0_record_40 ?_
      refine J_aload_n C rfl dX0_record_43 ?_
      refine J_aload_n C rfl dX0_record_44 ?_
      refine J_callV (as := [.ref (a 0)]) (rest := []) C (ct_stateCopy l G (hb 1) (hσ 1) (hd 1) a σ d) (fun u => [(hh, .inr (0, [.ref ha, .int (nI f), .int (nI n)])), (ha, .inl (G.2.2.2, 4, .inr (.inr (.inr (.inr (fun j => some (hb j 0)))))))] ++ (stW G (hb 0) (hσ 0) (hd 0) ++ (stW G (hb 1) σ d ++ (stW G (hb 2) (hσ 2) (hd 2) ++ (stW G (hb 3) (hσ 3) (hd 3) ++ stW G a σ d))))) [13, 14, 15, 16, 17, 18, 19, 20, 21, 22, 23, 46, 47, 48, 49, 50, 51, 52, 53, 54, 55, 56] [0, 1, 2, 3, 4, 5, 6, 7, 8, 9, 10, 11, 12, 24, 25, 26, 27, 28, 29, 30, 31, 32, 33, 34, 35, 36, 37, 38, 39, 40, 41, 42, 43, 44, 45] 1 k308 k309 k310 k11 k311 rfl (by decide +kernel) ⟨Nat.le_of_ble_eq_true rfl, Nat.le_of_ble_eq_true rfl⟩ ⟨Nat.le_of_ble_eq_true rfl, Nat.le_of_ble_eq_true rfl⟩ dX0_record_45 (Nat.le_of_ble_eq_true rfl) 13 rfl rfl rfl (by decide +kernel) (fun _ => rfl) ([(hh, .inr (0, [.ref ha, .int (nI f), .int (nI n)])), (ha, .inl (G.2.2.2, 4, .inr (.inr (.inr (.inr (fun j => some (hb j 0)))))))] ++ (stW G (hb 0) (hσ 0) (hd 0) ++ (stW G (hb 2) (hσ 2) (hd 2) ++ stW G (hb 3) (hσ 3) (hd 3)))) rfl (fun _ => rfl) 57 (fun _ => rfl) (by decide +kernel) (by decide +kernel) (fun _ _ => ?_)
      refine J_st (st' := []) rfl ?_
      refine J_aload_n C rfl dX0_record_48 ?_
      refine J_dup C rfl dX0_record_49 ?_
      refine J_get C 0 2 in0 rfl rfl (by decide) k173 rfl dX0_record_50 ?_
      refine J_iconst C 1 (by decide) dX0_record_53 ?_
      refine J_iadd C dX0_record_54 ?_
      refine J_i (nI_add n 1 : ((nI n) + 1 : Int32) = (nI (n + 1))) ?_
      refine J_put C 0 2 in0 tyX0 tyX0_ok nmX0 ([(hh, .inr (0, [.ref ha, .int (nI f), .int (nI (n + 1))])), (ha, .inl (G.2.2.2, 4, .inr (.inr (.inr (.inr (fun j => some (hb j 0)))))))] ++ (stW G (hb 0) (hσ 0) (hd 0) ++ (stW G (hb 1) σ d ++ (stW G (hb 2) (hσ 2) (hd 2) ++ (stW G (hb 3) (hσ 3) (hd 3) ++ stW G a σ d))))) rfl rfl (by decide) k173 rfl rfl rfl (Nat.le_of_ble_eq_true rfl) rfl dX0_record_55 ?_
      exact J_vret C hr dX0_record_58 () rfl trivial (by rw [show slotF f n = 1 from by unfold slotF; rw [if_neg c5]; exact hk, show firstF f n = f from if_neg c5, show sizeF n = n + 1 from if_neg c5] <;> rfl)
    · skip
      rw [hk]
      refine J_aload_n C rfl dX0_record_39 ?_
      refine J_ifnull C dX0_record_40 ?_
      refine J_aload_n C rfl dX0_record_43 ?_
      refine J_aload_n C rfl dX0_record_44 ?_
      refine J_callV (as := [.ref (a 0)]) (rest := []) C (ct_stateCopy l G (hb 2) (hσ 2) (hd 2) a σ d) (fun u => [(hh, .inr (0, [.ref ha, .int (nI f), .int (nI n)])), (ha, .inl (G.2.2.2, 4, .inr (.inr (.inr (.inr (fun j => some (hb j 0)))))))] ++ (stW G (hb 0) (hσ 0) (hd 0) ++ (stW G (hb 1) (hσ 1) (hd 1) ++ (stW G (hb 2) σ d ++ (stW G (hb 3) (hσ 3) (hd 3) ++ stW G a σ d))))) [24, 25, 26, 27, 28, 29, 30, 31, 32, 33, 34, 46, 47, 48, 49, 50, 51, 52, 53, 54, 55, 56] [0, 1, 2, 3, 4, 5, 6, 7, 8, 9, 10, 11, 12, 13, 14, 15, 16, 17, 18, 19, 20, 21, 22, 23, 35, 36, 37, 38, 39, 40, 41, 42, 43, 44, 45] 1 k308 k309 k310 k11 k311 rfl (by decide +kernel) ⟨Nat.le_of_ble_eq_true rfl, Nat.le_of_ble_eq_true rfl⟩ ⟨Nat.le_of_ble_eq_true rfl, Nat.le_of_ble_eq_true rfl⟩ dX0_record_45 (Nat.le_of_ble_eq_true rfl) 24 rfl rfl rfl (by decide +kernel) (fun _ => rfl) ([(hh, .inr (0, [.ref ha, .int (nI f), .int (nI n)])), (ha, .inl (G.2.2.2, 4, .inr (.inr (.inr (.inr (fun j => some (hb j 0)))))))] ++ (stW G (hb 0) (hσ 0) (hd 0) ++ (stW G (hb 1) (hσ 1) (hd 1) ++ stW G (hb 3) (hσ 3) (hd 3)))) rfl (fun _ => rfl) 57 (fun _ => rfl) (by decide +kernel) (by decide +kernel) (fun _ _ => ?_)
      refine J_st (st' := []) rfl ?_
      refine J_aload_n C rfl dX0_record_48 ?_
      refine J_dup C rfl dX0_record_49 ?_
      refine J_get C 0 2 in0 rfl rfl (by decide) k173 rfl dX0_record_50 ?_
      refine J_iconst C 1 (by decide) dX0_record_53 ?_
      refine J_iadd C dX0_record_54 ?_
      refine J_i (nI_add n 1 : ((nI n) + 1 : Int32) = (nI (n + 1))) ?_
      refine J_put C 0 2 in0 tyX0 tyX0_ok nmX0 ([(hh, .inr (0, [.ref ha, .int (nI f), .int (nI (n + 1))])), (ha, .inl (G.2.2.2, 4, .inr (.inr (.inr (.inr (fun j => some (hb j 0)))))))] ++ (stW G (hb 0) (hσ 0) (hd 0) ++ (stW G (hb 1) (hσ 1) (hd 1) ++ (stW G (hb 2) σ d ++ (stW G (hb 3) (hσ 3) (hd 3) ++ stW G a σ d))))) rfl rfl (by decide) k173 rfl rfl rfl (Nat.le_of_ble_eq_true rfl) rfl dX0_record_55 ?_
      exact J_vret C hr dX0_record_58 () rfl trivial (by rw [show slotF f n = 2 from by unfold slotF; rw [if_neg c5]; exact hk, show firstF f n = f from if_neg c5, show sizeF n = n + 1 from if_neg c5] <;> rfl)
    · skip
      rw [hk]
      refine J_aload_n C rfl dX0_record_39 ?_
      refine J_ifnull C dX0_record_40 ?_
      refine J_aload_n C rfl dX0_record_43 ?_
      refine J_aload_n C rfl dX0_record_44 ?_
      refine J_callV (as := [.ref (a 0)]) (rest := []) C (ct_stateCopy l G (hb 3) (hσ 3) (hd 3) a σ d) (fun u => [(hh, .inr (0, [.ref ha, .int (nI f), .int (nI n)])), (ha, .inl (G.2.2.2, 4, .inr (.inr (.inr (.inr (fun j => some (hb j 0)))))))] ++ (stW G (hb 0) (hσ 0) (hd 0) ++ (stW G (hb 1) (hσ 1) (hd 1) ++ (stW G (hb 2) (hσ 2) (hd 2) ++ (stW G (hb 3) σ d ++ stW G a σ d))))) [35, 36, 37, 38, 39, 40, 41, 42, 43, 44, 45, 46, 47, 48, 49, 50, 51, 52, 53, 54, 55, 56] [0, 1, 2, 3, 4, 5, 6, 7, 8, 9, 10, 11, 12, 13, 14, 15, 16, 17, 18, 19, 20, 21, 22, 23, 24, 25, 26, 27, 28, 29, 30, 31, 32, 33, 34] 1 k308 k309 k310 k11 k311 rfl (by decide +kernel) ⟨Nat.le_of_ble_eq_true rfl, Nat.le_of_ble_eq_true rfl⟩ ⟨Nat.le_of_ble_eq_true rfl, Nat.le_of_ble_eq_true rfl⟩ dX0_record_45 (Nat.le_of_ble_eq_true rfl) 35 rfl rfl rfl (by decide +kernel) (fun _ => rfl) ([(hh, .inr (0, [.ref ha, .int (nI f), .int (nI n)])), (ha, .inl (G.2.2.2, 4, .inr (.inr (.inr (.inr (fun j => some (hb j 0)))))))] ++ (stW G (hb 0) (hσ 0) (hd 0) ++ (stW G (hb 1) (hσ 1) (hd 1) ++ stW G (hb 2) (hσ 2) (hd 2)))) rfl (fun _ => rfl) 57 (fun _ => rfl) (by decide +kernel) (by decide +kernel) (fun _ _ => ?_)
      refine J_st (st' := []) rfl ?_
      refine J_aload_n C rfl dX0_record_48 ?_
      refine J_dup C rfl dX0_record_49 ?_
      refine J_get C 0 2 in0 rfl rfl (by decide) k173 rfl dX0_record_50 ?_
      refine J_iconst C 1 (by decide) dX0_record_53 ?_
      refine J_iadd C dX0_record_54 ?_
      refine J_i (nI_add n 1 : ((nI n) + 1 : Int32) = (nI (n + 1))) ?_
      refine J_put C 0 2 in0 tyX0 tyX0_ok nmX0 ([(hh, .inr (0, [.ref ha, .int (nI f), .int (nI (n + 1))])), (ha, .inl (G.2.2.2, 4, .inr (.inr (.inr (.inr (fun j => some (hb j 0)))))))] ++ (stW G (hb 0) (hσ 0) (hd 0) ++ (stW G (hb 1) (hσ 1) (hd 1) ++ (stW G (hb 2) (hσ 2) (hd 2) ++ (stW G (hb 3) σ d ++ stW G a σ d))))) rfl rfl (by decide) k173 rfl rfl rfl (Nat.le_of_ble_eq_true rfl) rfl dX0_record_55 ?_
      exact J_vret C hr dX0_record_58 () rfl trivial (by rw [show slotF f n = 3 from by unfold slotF; rw [if_neg c5]; exact hk, show firstF f n = f from if_neg c5, show sizeF n = n + 1 from if_neg c5] <;> rfl)
  · skip
    have c5 := cv_ne_f (a := n) (b := 4) (by omega) (by omega) c5
    refine J_aload_n C rfl dX0_record_8 ?_
    refine J_aload_n C rfl dX0_record_9 ?_
    refine J_get C 0 1 in0 rfl rfl (by decide) k172 rfl dX0_record_10 ?_
    refine J_iconst C 1 (by decide) dX0_record_13 ?_
    refine J_iadd C dX0_record_14 ?_
    refine J_i (nI_add f 1 : ((nI f) + 1 : Int32) = (nI (f + 1))) ?_
    refine J_iconst C 4 (by decide) dX0_record_15 ?_
    refine J_irem C (by decide) dX0_record_16 ?_
    refine J_i (pk_rem (a := f + 1) (d := 4) (by omega) (by omega) (by omega) : ((nI (f + 1)) - (nI (f + 1)) / 4 * 4 : Int32) = (nI ((f + 1) % 4))) ?_
    refine J_put C 0 1 in0 tyX0 tyX0_ok nmX0 ([(hh, .inr (0, [.ref ha, .int (nI ((f + 1) % 4)), .int (nI n)])), (ha, .inl (G.2.2.2, 4, .inr (.inr (.inr (.inr (fun j => some (hb j 0)))))))] ++ (stW G (hb 0) (hσ 0) (hd 0) ++ (stW G (hb 1) (hσ 1) (hd 1) ++ (stW G (hb 2) (hσ 2) (hd 2) ++ (stW G (hb 3) (hσ 3) (hd 3) ++ stW G a σ d))))) rfl rfl (by decide) k172 rfl rfl rfl (Nat.le_of_ble_eq_true rfl) rfl dX0_record_17 ?_
    refine J_aload_n C rfl dX0_record_20 ?_
    refine J_dup C rfl dX0_record_21 ?_
    refine J_get C 0 2 in0 rfl rfl (by decide) k173 rfl dX0_record_22 ?_
    refine J_iconst C 1 (by decide) dX0_record_25 ?_
    refine J_isub C dX0_record_26 ?_
    refine J_i (pk_sub (a := n) (b := 1) (by omega) : ((nI n) - 1 : Int32) = (nI (n - 1))) ?_
    refine J_put C 0 2 in0 tyX0 tyX0_ok nmX0 ([(hh, .inr (0, [.ref ha, .int (nI ((f + 1) % 4)), .int (nI (n - 1))])), (ha, .inl (G.2.2.2, 4, .inr (.inr (.inr (.inr (fun j => some (hb j 0)))))))] ++ (stW G (hb 0) (hσ 0) (hd 0) ++ (stW G (hb 1) (hσ 1) (hd 1) ++ (stW G (hb 2) (hσ 2) (hd 2) ++ (stW G (hb 3) (hσ 3) (hd 3) ++ stW G a σ d))))) rfl rfl (by decide) k173 rfl rfl rfl (Nat.le_of_ble_eq_true rfl) rfl dX0_record_27 ?_
    refine J_aload_n C rfl dX0_record_30 ?_
    refine J_aload_n C rfl dX0_record_31 ?_
    refine J_get C 0 2 in0 rfl rfl (by decide) k173 rfl dX0_record_32 ?_
    refine J_callV (as := [.int (nI (n - 1))]) (rest := []) C (ct_stateAt l G hh ha hb ((f + 1) % 4) (n - 1) (n - 1) (by omega) (by omega)) (fun u => [(hh, .inr (0, [.ref ha, .int (nI ((f + 1) % 4)), .int (nI (n - 1))])), (ha, .inl (G.2.2.2, 4, .inr (.inr (.inr (.inr (fun j => some (hb j 0)))))))] ++ (stW G (hb 0) (hσ 0) (hd 0) ++ (stW G (hb 1) (hσ 1) (hd 1) ++ (stW G (hb 2) (hσ 2) (hd 2) ++ (stW G (hb 3) (hσ 3) (hd 3) ++ stW G a σ d))))) [0, 1] [2, 3, 4, 5, 6, 7, 8, 9, 10, 11, 12, 13, 14, 15, 16, 17, 18, 19, 20, 21, 22, 23, 24, 25, 26, 27, 28, 29, 30, 31, 32, 33, 34, 35, 36, 37, 38, 39, 40, 41, 42, 43, 44, 45, 46, 47, 48, 49, 50, 51, 52, 53, 54, 55, 56] 1 k304 k306 k6 k14 k307 rfl (by decide +kernel) ⟨Nat.le_of_ble_eq_true rfl, Nat.le_of_ble_eq_true rfl⟩ ⟨Nat.le_of_ble_eq_true rfl, Nat.le_of_ble_eq_true rfl⟩ dX0_record_35 (Nat.le_of_ble_eq_true rfl) 0 rfl rfl rfl (by decide +kernel) (fun _ => rfl) (stW G (hb 0) (hσ 0) (hd 0) ++ (stW G (hb 1) (hσ 1) (hd 1) ++ (stW G (hb 2) (hσ 2) (hd 2) ++ (stW G (hb 3) (hσ 3) (hd 3) ++ stW G a σ d)))) rfl (fun _ => rfl) 57 (fun _ => rfl) (by decide +kernel) (by decide +kernel) (fun _ _ => ?_)
    refine J_st (st' := [.ref (hb ((((f + 1) % 4) + (n - 1)) % 4) 0)]) rfl ?_
    refine J_astore_n C [(2, .ref (hb ((((f + 1) % 4) + (n - 1)) % 4) 0)), (0, .ref hh), (1, .ref (a 0))] (by decide) rfl dX0_record_38 ?_
    rcases (show ((f + 1) % 4 + (n - 1)) % 4 = 0 ∨ ((f + 1) % 4 + (n - 1)) % 4 = 1 ∨ ((f + 1) % 4 + (n - 1)) % 4 = 2 ∨ ((f + 1) % 4 + (n - 1)) % 4 = 3 by omega) with hk | hk | hk | hk
    · skip
      rw [hk]
      refine J_aload_n C rfl dX0_record_39 ?_
      refine J_ifnull C dX0_record_40 ?_
      refine J_aload_n C rfl dX0_record_43 ?_
      refine J_aload_n C rfl dX0_record_44 ?_
      refine J_callV (as := [.ref (a 0)]) (rest := []) C (ct_stateCopy l G (hb 0) (hσ 0) (hd 0) a σ d) (fun u => [(hh, .inr (0, [.ref ha, .int (nI ((f + 1) % 4)), .int (nI (n - 1))])), (ha, .inl (G.2.2.2, 4, .inr (.inr (.inr (.inr (fun j => some (hb j 0)))))))] ++ (stW G (hb 0) σ d ++ (stW G (hb 1) (hσ 1) (hd 1) ++ (stW G (hb 2) (hσ 2) (hd 2) ++ (stW G (hb 3) (hσ 3) (hd 3) ++ stW G a σ d))))) [2, 3, 4, 5, 6, 7, 8, 9, 10, 11, 12, 46, 47, 48, 49, 50, 51, 52, 53, 54, 55, 56] [0, 1, 13, 14, 15, 16, 17, 18, 19, 20, 21, 22, 23, 24, 25, 26, 27, 28, 29, 30, 31, 32, 33, 34, 35, 36, 37, 38, 39, 40, 41, 42, 43, 44, 45] 1 k308 k309 k310 k11 k311 rfl (by decide +kernel) ⟨Nat.le_of_ble_eq_true rfl, Nat.le_of_ble_eq_true rfl⟩ ⟨Nat.le_of_ble_eq_true rfl, Nat.le_of_ble_eq_true rfl⟩ dX0_record_45 (Nat.le_of_ble_eq_true rfl) 2 rfl rfl rfl (by decide +kernel) (fun _ => rfl) ([(hh, .inr (0, [.ref ha, .int (nI ((f + 1) % 4)), .int (nI (n - 1))])), (ha, .inl (G.2.2.2, 4, .inr (.inr (.inr (.inr (fun j => some (hb j 0)))))))] ++ (stW G (hb 1) (hσ 1) (hd 1) ++ (stW G (hb 2) (hσ 2) (hd 2) ++ stW G (hb 3) (hσ 3) (hd 3)))) rfl (fun _ => rfl) 57 (fun _ => rfl) (by decide +kernel) (by decide +kernel) (fun _ _ => ?_)
      refine J_st (st' := []) rfl ?_
      refine J_aload_n C rfl dX0_record_48 ?_
      refine J_dup C rfl dX0_record_49 ?_
      refine J_get C 0 2 in0 rfl rfl (by decide) k173 rfl dX0_record_50 ?_
      refine J_iconst C 1 (by decide) dX0_record_53 ?_
      refine J_iadd C dX0_record_54 ?_
      refine J_i (nI_add (n - 1) 1 : ((nI (n - 1)) + 1 : Int32) = (nI ((n - 1) + 1))) ?_
      refine J_put C 0 2 in0 tyX0 tyX0_ok nmX0 ([(hh, .inr (0, [.ref ha, .int (nI ((f + 1) % 4)), .int (nI ((n - 1) + 1))])), (ha, .inl (G.2.2.2, 4, .inr (.inr (.inr (.inr (fun j => some (hb j 0)))))))] ++ (stW G (hb 0) σ d ++ (stW G (hb 1) (hσ 1) (hd 1) ++ (stW G (hb 2) (hσ 2) (hd 2) ++ (stW G (hb 3) (hσ 3) (hd 3) ++ stW G a σ d))))) rfl rfl (by decide) k173 rfl rfl rfl (Nat.le_of_ble_eq_true rfl) rfl dX0_record_55 ?_
      exact J_vret C hr dX0_record_58 () rfl trivial (by rw [show slotF f n = 0 from by unfold slotF; rw [if_pos c5]; omega, show firstF f n = (f + 1) % 4 from if_pos c5, show sizeF n = n - 1 + 1 from by unfold sizeF; rw [if_pos c5]; omega] <;> rfl)
    · skip
      rw [hk]
      refine J_aload_n C rfl dX0_record_39 ?_
      refine J_ifnull C dX0_record_40 ?_
      refine J_aload_n C rfl dX0_record_43 ?_
      refine J_aload_n C rfl dX0_record_44 ?_
      refine J_callV (as := [.ref (a 0)]) (rest := []) C (ct_stateCopy l G (hb 1) (hσ 1) (hd 1) a σ d) (fun u => [(hh, .inr (0, [.ref ha, .int (nI ((f + 1) % 4)), .int (nI (n - 1))])), (ha, .inl (G.2.2.2, 4, .inr (.inr (.inr (.inr (fun j => some (hb j 0)))))))] ++ (stW G (hb 0) (hσ 0) (hd 0) ++ (stW G (hb 1) σ d ++ (stW G (hb 2) (hσ 2) (hd 2) ++ (stW G (hb 3) (hσ 3) (hd 3) ++ stW G a σ d))))) [13, 14, 15, 16, 17, 18, 19, 20, 21, 22, 23, 46, 47, 48, 49, 50, 51, 52, 53, 54, 55, 56] [0, 1, 2, 3, 4, 5, 6, 7, 8, 9, 10, 11, 12, 24, 25, 26, 27, 28, 29, 30, 31, 32, 33, 34, 35, 36, 37, 38, 39, 40, 41, 42, 43, 44, 45] 1 k308 k309 k310 k11 k311 rfl (by decide +kernel) ⟨Nat.le_of_ble_eq_true rfl, Nat.le_of_ble_eq_true rfl⟩ ⟨Nat.le_of_ble_eq_true rfl, Nat.le_of_ble_eq_true rfl⟩ dX0_record_45 (Nat.le_of_ble_eq_true rfl) 13 rfl rfl rfl (by decide +kernel) (fun _ => rfl) ([(hh, .inr (0, [.ref ha, .int (nI ((f + 1) % 4)), .int (nI (n - 1))])), (ha, .inl (G.2.2.2, 4, .inr (.inr (.inr (.inr (fun j => some (hb j 0)))))))] ++ (stW G (hb 0) (hσ 0) (hd 0) ++ (stW G (hb 2) (hσ 2) (hd 2) ++ stW G (hb 3) (hσ 3) (hd 3)))) rfl (fun _ => rfl) 57 (fun _ => rfl) (by decide +kernel) (by decide +kernel) (fun _ _ => ?_)
      refine J_st (st' := []) rfl ?_
      refine J_aload_n C rfl dX0_record_48 ?_
      refine J_dup C rfl dX0_record_49 ?_
      refine J_get C 0 2 in0 rfl rfl (by decide) k173 rfl dX0_record_50 ?_
      refine J_iconst C 1 (by decide) dX0_record_53 ?_
      refine J_iadd C dX0_record_54 ?_
      refine J_i (nI_add (n - 1) 1 : ((nI (n - 1)) + 1 : Int32) = (nI ((n - 1) + 1))) ?_
      refine J_put C 0 2 in0 tyX0 tyX0_ok nmX0 ([(hh, .inr (0, [.ref ha, .int (nI ((f + 1) % 4)), .int (nI ((n - 1) + 1))])), (ha, .inl (G.2.2.2, 4, .inr (.inr (.inr (.inr (fun j => some (hb j 0)))))))] ++ (stW G (hb 0) (hσ 0) (hd 0) ++ (stW G (hb 1) σ d ++ (stW G (hb 2) (hσ 2) (hd 2) ++ (stW G (hb 3) (hσ 3) (hd 3) ++ stW G a σ d))))) rfl rfl (by decide) k173 rfl rfl rfl (Nat.le_of_ble_eq_true rfl) rfl dX0_record_55 ?_
      exact J_vret C hr dX0_record_58 () rfl trivial (by rw [show slotF f n = 1 from by unfold slotF; rw [if_pos c5]; omega, show firstF f n = (f + 1) % 4 from if_pos c5, show sizeF n = n - 1 + 1 from by unfold sizeF; rw [if_pos c5]; omega] <;> rfl)
    · skip
      rw [hk]
      refine J_aload_n C rfl dX0_record_39 ?_
      refine J_ifnull C dX0_record_40 ?_
      refine J_aload_n C rfl dX0_record_43 ?_
      refine J_aload_n C rfl dX0_record_44 ?_
      refine J_callV (as := [.ref (a 0)]) (rest := []) C (ct_stateCopy l G (hb 2) (hσ 2) (hd 2) a σ d) (fun u => [(hh, .inr (0, [.ref ha, .int (nI ((f + 1) % 4)), .int (nI (n - 1))])), (ha, .inl (G.2.2.2, 4, .inr (.inr (.inr (.inr (fun j => some (hb j 0)))))))] ++ (stW G (hb 0) (hσ 0) (hd 0) ++ (stW G (hb 1) (hσ 1) (hd 1) ++ (stW G (hb 2) σ d ++ (stW G (hb 3) (hσ 3) (hd 3) ++ stW G a σ d))))) [24, 25, 26, 27, 28, 29, 30, 31, 32, 33, 34, 46, 47, 48, 49, 50, 51, 52, 53, 54, 55, 56] [0, 1, 2, 3, 4, 5, 6, 7, 8, 9, 10, 11, 12, 13, 14, 15, 16, 17, 18, 19, 20, 21, 22, 23, 35, 36, 37, 38, 39, 40, 41, 42, 43, 44, 45] 1 k308 k309 k310 k11 k311 rfl (by decide +kernel) ⟨Nat.le_of_ble_eq_true rfl, Nat.le_of_ble_eq_true rfl⟩ ⟨Nat.le_of_ble_eq_true rfl, Nat.le_of_ble_eq_true rfl⟩ dX0_record_45 (Nat.le_of_ble_eq_true rfl) 24 rfl rfl rfl (by decide +kernel) (fun _ => rfl) ([(hh, .inr (0, [.ref ha, .int (nI ((f + 1) % 4)), .int (nI (n - 1))])), (ha, .inl (G.2.2.2, 4, .inr (.inr (.inr (.inr (fun j => some (hb j 0)))))))] ++ (stW G (hb 0) (hσ 0) (hd 0) ++ (stW G (hb 1) (hσ 1) (hd 1) ++ stW G (hb 3) (hσ 3) (hd 3)))) rfl (fun _ => rfl) 57 (fun _ => rfl) (by decide +kernel) (by decide +kernel) (fun _ _ => ?_)
      refine J_st (st' := []) rfl ?_
      refine J_aload_n C rfl dX0_record_48 ?_
      refine J_dup C rfl dX0_record_49 ?_
      refine J_get C 0 2 in0 rfl rfl (by decide) k173 rfl dX0_record_50 ?_
      refine J_iconst C 1 (by decide) dX0_record_53 ?_
      refine J_iadd C dX0_record_54 ?_
      refine J_i (nI_add (n - 1) 1 : ((nI (n - 1)) + 1 : Int32) = (nI ((n - 1) + 1))) ?_
      refine J_put C 0 2 in0 tyX0 tyX0_ok nmX0 ([(hh, .inr (0, [.ref ha, .int (nI ((f + 1) % 4)), .int (nI ((n - 1) + 1))])), (ha, .inl (G.2.2.2, 4, .inr (.inr (.inr (.inr (fun j => some (hb j 0)))))))] ++ (stW G (hb 0) (hσ 0) (hd 0) ++ (stW G (hb 1) (hσ 1) (hd 1) ++ (stW G (hb 2) σ d ++ (stW G (hb 3) (hσ 3) (hd 3) ++ stW G a σ d))))) rfl rfl (by decide) k173 rfl rfl rfl (Nat.le_of_ble_eq_true rfl) rfl dX0_record_55 ?_
      exact J_vret C hr dX0_record_58 () rfl trivial (by rw [show slotF f n = 2 from by unfold slotF; rw [if_pos c5]; omega, show firstF f n = (f + 1) % 4 from if_pos c5, show sizeF n = n - 1 + 1 from by unfold sizeF; rw [if_pos c5]; omega] <;> rfl)
    · skip
      rw [hk]
      refine J_aload_n C rfl dX0_record_39 ?_
      refine J_ifnull C dX0_record_40 ?_
      refine J_aload_n C rfl dX0_record_43 ?_
      refine J_aload_n C rfl dX0_record_44 ?_
      refine J_callV (as := [.ref (a 0)]) (rest := []) C (ct_stateCopy l G (hb 3) (hσ 3) (hd 3) a σ d) (fun u => [(hh, .inr (0, [.ref ha, .int (nI ((f + 1) % 4)), .int (nI (n - 1))])), (ha, .inl (G.2.2.2, 4, .inr (.inr (.inr (.inr (fun j => some (hb j 0)))))))] ++ (stW G (hb 0) (hσ 0) (hd 0) ++ (stW G (hb 1) (hσ 1) (hd 1) ++ (stW G (hb 2) (hσ 2) (hd 2) ++ (stW G (hb 3) σ d ++ stW G a σ d))))) [35, 36, 37, 38, 39, 40, 41, 42, 43, 44, 45, 46, 47, 48, 49, 50, 51, 52, 53, 54, 55, 56] [0, 1, 2, 3, 4, 5, 6, 7, 8, 9, 10, 11, 12, 13, 14, 15, 16, 17, 18, 19, 20, 21, 22, 23, 24, 25, 26, 27, 28, 29, 30, 31, 32, 33, 34] 1 k308 k309 k310 k11 k311 rfl (by decide +kernel) ⟨Nat.le_of_ble_eq_true rfl, Nat.le_of_ble_eq_true rfl⟩ ⟨Nat.le_of_ble_eq_true rfl, Nat.le_of_ble_eq_true rfl⟩ dX0_record_45 (Nat.le_of_ble_eq_true rfl) 35 rfl rfl rfl (by decide +kernel) (fun _ => rfl) ([(hh, .inr (0, [.ref ha, .int (nI ((f + 1) % 4)), .int (nI (n - 1))])), (ha, .inl (G.2.2.2, 4, .inr (.inr (.inr (.inr (fun j => some (hb j 0)))))))] ++ (stW G (hb 0) (hσ 0) (hd 0) ++ (stW G (hb 1) (hσ 1) (hd 1) ++ stW G (hb 2) (hσ 2) (hd 2)))) rfl (fun _ => rfl) 57 (fun _ => rfl) (by decide +kernel) (by decide +kernel) (fun _ _ => ?_)
      refine J_st (st' := []) rfl ?_
      refine J_aload_n C rfl dX0_record_48 ?_
      refine J_dup C rfl dX0_record_49 ?_
      refine J_get C 0 2 in0 rfl rfl (by decide) k173 rfl dX0_record_50 ?_
      refine J_iconst C 1 (by decide) dX0_record_53 ?_
      refine J_iadd C dX0_record_54 ?_
      refine J_i (nI_add (n - 1) 1 : ((nI (n - 1)) + 1 : Int32) = (nI ((n - 1) + 1))) ?_
      refine J_put C 0 2 in0 tyX0 tyX0_ok nmX0 ([(hh, .inr (0, [.ref ha, .int (nI ((f + 1) % 4)), .int (nI ((n - 1) + 1))])), (ha, .inl (G.2.2.2, 4, .inr (.inr (.inr (.inr (fun j => some (hb j 0)))))))] ++ (stW G (hb 0) (hσ 0) (hd 0) ++ (stW G (hb 1) (hσ 1) (hd 1) ++ (stW G (hb 2) (hσ 2) (hd 2) ++ (stW G (hb 3) σ d ++ stW G a σ d))))) rfl rfl (by decide) k173 rfl rfl rfl (Nat.le_of_ble_eq_true rfl) rfl dX0_record_55 ?_
      exact J_vret C hr dX0_record_58 () rfl trivial (by rw [show slotF f n = 3 from by unfold slotF; rw [if_pos c5]; omega, show firstF f n = (f + 1) % 4 from if_pos c5, show sizeF n = n - 1 + 1 from by unfold sizeF; rw [if_pos c5]; omega] <;> rfl)
