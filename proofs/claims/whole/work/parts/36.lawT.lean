set_option maxHeartbeats 4000000 in
set_option maxRecDepth 100000 in
theorem law_needed {p : Program} {l : Launch} {e : Env} {s : State} {m : MethodId} {below : List Frame} {meth : Method} {c : Code} {Q : State → Prop} {G : GT} {A : Nat → Prop} {bb sL : Nat} {xs : Nat → Int32} (C : Cx p s m #[Value.ref bb] meth c G A 8 cL_law "TwoScribesLaw") (hX : va_X bb sL xs s s.heap) (hbl : bb < s.heap.size) (hbA : ¬ A bb) (hsL : sL ≤ 1536) (i : Nat) (hi : 3 * i + 3 ≤ sL) (ts : Nat) (a a1 a2 : Nat → Nat) (hh : Nat) (b : Nat → Nat) (ha : Nat) (hb : Nat → Nat → Nat) (mo : Nat → Nat) (σ : AS) (d : Nat → Nat) (σ1 : AS) (d1 : Nat → Nat) (σ2 : AS) (d2 : Nat → Nat) (hσ : Nat → AS) (hd : Nat → Nat → Nat) (f n : Nat) (t : Nat → Nat) (L : Nat) (lt ms : Nat → Nat) (hf : Nat) (fa : Int32) (cu : Nat) (ks : Nat) (kf tf H sf df : Nat → Nat) (sp rd : Nat) (gr : Int32) (hLI : LI σ d σ2 d2 hσ hd f n t L ks H sf) (ih : LG p l e s m below meth c Q G A bb ts a a1 a2 hh b ha hb mo (i + 1)) : J p l e room_1 s m #[Value.ref bb] below meth c Q G A 8 600000 7302250 ([(ts, .inr (5, [.ref (a 0), .ref (a1 0), .ref (a2 0), .ref hh, .ref (b 0), .int (nI ks)]))] ++ (stW G a σ d ++ (stW G a1 σ1 d1 ++ (stW G a2 σ2 d2 ++ ([(hh, .inr (0, [.ref ha, .int (nI f), .int (nI n)])), (ha, .inl (G.2.2.2, 4, .inr (.inr (.inr (.inr (fun j => some (hb j 0)))))))] ++ (stW G (hb 0) (hσ 0) (hd 0) ++ (stW G (hb 1) (hσ 1) (hd 1) ++ (stW G (hb 2) (hσ 2) (hd 2) ++ (stW G (hb 3) (hσ 3) (hd 3) ++ (txW G b t L lt ms hf fa cu ++ mdW G mo σ kf tf H sf df t n ks L sp rd gr)))))))))) [(0, .ref bb), (1, .ref ts), (2, .ref (mo 0)), (3, .int (nI (3 * i)))] 573 [] := by
  obtain ⟨⟨hI, hD, hW, htk⟩, hsn, hf4, hn4, hhis, hL, hchr⟩ := id hLI
  have h40 := hI.a
  have hc := hI.c
  have hnx : 3 * i + 3 < 4096 := by omega
  obtain ⟨x, hxv⟩ : ∃ x, xs (3 * i + 1) = x := ⟨_, rfl⟩
  obtain ⟨y, hyv⟩ : ∃ y, xs (3 * i + 2) = y := ⟨_, rfl⟩
  refine J_aload_n C rfl dL_law_573 ?_
  refine J_callV (as := []) (rest := []) C (ct_needed l G ts a a1 a2 hh b ks σ d hI hD) (fun u => [(ts, .inr (5, [.ref (a 0), .ref (a1 0), .ref (a2 0), .ref hh, .ref (b 0), .int (nI ks)]))] ++ (stW G a σ d ++ (stW G a1 σ1 d1 ++ (stW G a2 σ2 d2 ++ ([(hh, .inr (0, [.ref ha, .int (nI f), .int (nI n)])), (ha, .inl (G.2.2.2, 4, .inr (.inr (.inr (.inr (fun j => some (hb j 0)))))))] ++ (stW G (hb 0) (hσ 0) (hd 0) ++ (stW G (hb 1) (hσ 1) (hd 1) ++ (stW G (hb 2) (hσ 2) (hd 2) ++ (stW G (hb 3) (hσ 3) (hd 3) ++ (txW G b t L lt ms hf fa cu ++ mdW G mo σ kf tf H sf df t n ks L sp rd gr)))))))))) [0, 1, 2, 3, 4, 5, 6, 7, 8, 9, 10, 11] [12, 13, 14, 15, 16, 17, 18, 19, 20, 21, 22, 23, 24, 25, 26, 27, 28, 29, 30, 31, 32, 33, 34, 35, 36, 37, 38, 39, 40, 41, 42, 43, 44, 45, 46, 47, 48, 49, 50, 51, 52, 53, 54, 55, 56, 57, 58, 59, 60, 61, 62, 63, 64, 65, 66, 67, 68, 69, 70, 71, 72, 73, 74, 75, 76, 77, 78, 79, 80, 81, 82, 83, 84, 85, 86, 87, 88, 89, 90, 91] 0 k546 k547 k548 k32 k549 rfl (by decide +kernel) ⟨Nat.le_of_ble_eq_true rfl, Nat.le_of_ble_eq_true rfl⟩ ⟨Nat.le_of_ble_eq_true rfl, Nat.le_of_ble_eq_true rfl⟩ dL_law_574 (Nat.le_of_ble_eq_true rfl) 0 rfl rfl rfl (by decide +kernel) (fun _ => rfl) (stW G a1 σ1 d1 ++ (stW G a2 σ2 d2 ++ ([(hh, .inr (0, [.ref ha, .int (nI f), .int (nI n)])), (ha, .inl (G.2.2.2, 4, .inr (.inr (.inr (.inr (fun j => some (hb j 0)))))))] ++ (stW G (hb 0) (hσ 0) (hd 0) ++ (stW G (hb 1) (hσ 1) (hd 1) ++ (stW G (hb 2) (hσ 2) (hd 2) ++ (stW G (hb 3) (hσ 3) (hd 3) ++ (txW G b t L lt ms hf fa cu ++ mdW G mo σ kf tf H sf df t n ks L sp rd gr)))))))) rfl (fun _ => rfl) 92 (fun _ => rfl) (by decide +kernel) (by decide +kernel) (fun _ _ => ?_)
  refine J_st (st' := [.double (dl (sumN (ndF σ) (σ 0 4)))]) rfl ?_
  refine J_dstore C [(4, .double (dl (sumN (ndF σ) (σ 0 4)))), (0, .ref bb), (1, .ref ts), (2, .ref (mo 0)), (3, .int (nI (3 * i)))] (by decide) rfl dL_law_577 ?_
  refine J_aload_n C rfl dL_law_579 ?_
  refine J_callV (as := []) (rest := []) C (ct_mNeeded l G mo σ kf tf H sf df t n ks L sp rd gr hI) (fun u => [(ts, .inr (5, [.ref (a 0), .ref (a1 0), .ref (a2 0), .ref hh, .ref (b 0), .int (nI ks)]))] ++ (stW G a σ d ++ (stW G a1 σ1 d1 ++ (stW G a2 σ2 d2 ++ ([(hh, .inr (0, [.ref ha, .int (nI f), .int (nI n)])), (ha, .inl (G.2.2.2, 4, .inr (.inr (.inr (.inr (fun j => some (hb j 0)))))))] ++ (stW G (hb 0) (hσ 0) (hd 0) ++ (stW G (hb 1) (hσ 1) (hd 1) ++ (stW G (hb 2) (hσ 2) (hd 2) ++ (stW G (hb 3) (hσ 3) (hd 3) ++ (txW G b t L lt ms hf fa cu ++ mdW G mo σ kf tf H sf df t n ks L sp rd gr)))))))))) [84, 85, 86, 87, 88, 89, 90, 91] [0, 1, 2, 3, 4, 5, 6, 7, 8, 9, 10, 11, 12, 13, 14, 15, 16, 17, 18, 19, 20, 21, 22, 23, 24, 25, 26, 27, 28, 29, 30, 31, 32, 33, 34, 35, 36, 37, 38, 39, 40, 41, 42, 43, 44, 45, 46, 47, 48, 49, 50, 51, 52, 53, 54, 55, 56, 57, 58, 59, 60, 61, 62, 63, 64, 65, 66, 67, 68, 69, 70, 71, 72, 73, 74, 75, 76, 77, 78, 79, 80, 81, 82, 83] 0 k792 k793 k794 k38 k795 rfl (by decide +kernel) ⟨Nat.le_of_ble_eq_true rfl, Nat.le_of_ble_eq_true rfl⟩ ⟨Nat.le_of_ble_eq_true rfl, Nat.le_of_ble_eq_true rfl⟩ dL_law_580 (Nat.le_of_ble_eq_true rfl) 84 rfl rfl rfl (by decide +kernel) (fun _ => rfl) ([(ts, .inr (5, [.ref (a 0), .ref (a1 0), .ref (a2 0), .ref hh, .ref (b 0), .int (nI ks)]))] ++ (stW G a σ d ++ (stW G a1 σ1 d1 ++ (stW G a2 σ2 d2 ++ ([(hh, .inr (0, [.ref ha, .int (nI f), .int (nI n)])), (ha, .inl (G.2.2.2, 4, .inr (.inr (.inr (.inr (fun j => some (hb j 0)))))))] ++ (stW G (hb 0) (hσ 0) (hd 0) ++ (stW G (hb 1) (hσ 1) (hd 1) ++ (stW G (hb 2) (hσ 2) (hd 2) ++ (stW G (hb 3) (hσ 3) (hd 3) ++ txW G b t L lt ms hf fa cu))))))))) rfl (fun _ => rfl) 92 (fun _ => rfl) (by decide +kernel) (by decide +kernel) (fun _ _ => ?_)
  refine J_st (st' := [.double (dl (sumN (ndF σ) (σ 0 4)))]) rfl ?_
  refine J_dstore C [(6, .double (dl (sumN (ndF σ) (σ 0 4)))), (4, .double (dl (sumN (ndF σ) (σ 0 4)))), (0, .ref bb), (1, .ref ts), (2, .ref (mo 0)), (3, .int (nI (3 * i)))] (by decide) rfl dL_law_583 ?_
  refine J_dload C rfl dL_law_585 ?_
  refine J_dload C rfl dL_law_587 ?_
  refine J_dcmp C dL_law_589 ?_
  by_cases hv0 : Op.cmpValue (FP.dcmp (dl (sumN (ndF σ) (σ 0 4))) (dl (sumN (ndF σ) (σ 0 4)))) .l = 0
  · skip
    refine J_if_eq C 611 (by decide) dL_law_590 (fun _ => ?_) (fun h => absurd hv0 h)
    refine J_goto C 660 (by decide) dL_law_611 ?_
    refine J_lvp [2, 3, 4, 5] [(0, .ref bb), (1, .ref ts), (2, .ref (mo 0)), (3, .int (nI (3 * i)))] rfl ?_
    exact law_next C i ts a a1 a2 hh b ha hb mo σ d σ1 d1 σ2 d2 hσ hd f n t L lt ms hf fa cu ks kf tf H sf df sp rd gr ih (hLI) hnx
  · skip
    refine J_if_eq C 611 (by decide) dL_law_590 (fun h => absurd h hv0) (fun _ => ?_)
    refine J_dload C rfl dL_law_593 ?_
    refine J_dload C rfl dL_law_595 ?_
    refine J_dcmp C dL_law_597 ?_
    refine J_if_eq C 609 (by decide) dL_law_598 (fun h => absurd h hv0) (fun _ => ?_)
    refine J_dload C rfl dL_law_601 ?_
    refine J_dload C rfl dL_law_603 ?_
    refine J_dcmp C dL_law_605 ?_
    refine J_if_ne C 611 (by decide) dL_law_606 (fun _ => ?_) (fun h => absurd h hv0)
    refine J_goto C 660 (by decide) dL_law_611 ?_
    refine J_lvp [2, 3, 4, 5] [(0, .ref bb), (1, .ref ts), (2, .ref (mo 0)), (3, .int (nI (3 * i)))] rfl ?_
    exact law_next C i ts a a1 a2 hh b ha hb mo σ d σ1 d1 σ2 d2 hσ hd f n t L lt ms hf fa cu ks kf tf H sf df sp rd gr ih (hLI) hnx
