set_option maxHeartbeats 4000000 in
set_option maxRecDepth 100000 in
theorem law_nextS {p : Program} {l : Launch} {e : Env} {s : State} {m : MethodId} {below : List Frame} {meth : Method} {c : Code} {Q : State → Prop} {G : GT} {A : Nat → Prop} {bb sL : Nat} {xs : Nat → Int32} (C : Cx p s m #[Value.ref bb] meth c G A 8 cL_law "TwoScribesLaw") (hX : va_X bb sL xs s s.heap) (hbl : bb < s.heap.size) (hbA : ¬ A bb) (hsL : sL ≤ 1536) (i : Nat) (hi : 3 * i + 3 ≤ sL) (ts : Nat) (a a1 a2 : Nat → Nat) (hh : Nat) (b : Nat → Nat) (ha : Nat) (hb : Nat → Nat → Nat) (mo : Nat → Nat) (σ : AS) (d : Nat → Nat) (σ1 : AS) (d1 : Nat → Nat) (σ2 : AS) (d2 : Nat → Nat) (hσ : Nat → AS) (hd : Nat → Nat → Nat) (f n : Nat) (t : Nat → Nat) (L : Nat) (lt ms : Nat → Nat) (hf : Nat) (fa : Int32) (cu : Nat) (ks : Nat) (kf tf H sf df : Nat → Nat) (sp rd : Nat) (gr : Int32) (hLI : LI σ d σ2 d2 hσ hd f n t L ks H sf) (ih : LG p l e s m below meth c Q G A bb ts a a1 a2 hh b ha hb mo (i + 1)) : J p l e room_1 s m #[Value.ref bb] below meth c Q G A 8 600000 7302250 ([(ts, .inr (5, [.ref (a 0), .ref (a1 0), .ref (a2 0), .ref hh, .ref (b 0), .int (nI ks)]))] ++ (stW G a σ d ++ (stW G a1 σ1 d1 ++ (stW G a2 σ2 d2 ++ ([(hh, .inr (0, [.ref ha, .int (nI f), .int (nI n)])), (ha, .inl (G.2.2.2, 4, .inr (.inr (.inr (.inr (fun j => some (hb j 0)))))))] ++ (stW G (hb 0) (hσ 0) (hd 0) ++ (stW G (hb 1) (hσ 1) (hd 1) ++ (stW G (hb 2) (hσ 2) (hd 2) ++ (stW G (hb 3) (hσ 3) (hd 3) ++ (txW G b t L lt ms hf fa cu ++ mdW G mo σ kf tf H sf df t n ks L sp rd gr)))))))))) [(0, .ref bb), (1, .ref ts), (2, .ref (mo 0)), (3, .int (nI (3 * i)))] 511 [] := by
  obtain ⟨⟨hI, hD, hW, htk⟩, hsn, hf4, hn4, hhis, hL, hchr⟩ := id hLI
  have h40 := hI.a
  have hc := hI.c
  have hnx : 3 * i + 3 < 4096 := by omega
  obtain ⟨x, hxv⟩ : ∃ x, xs (3 * i + 1) = x := ⟨_, rfl⟩
  obtain ⟨y, hyv⟩ : ∃ y, xs (3 * i + 2) = y := ⟨_, rfl⟩
  by_cases hx : x = 0 ∨ x = 1
  · skip
    rcases hx with rfl | rfl
    · skip
      refine J_aload_n C rfl dL_law_511 ?_
      refine J_aload_n C rfl dL_law_512 ?_
      refine J_iload_n C rfl dL_law_513 ?_
      refine J_iconst C 1 (by decide) dL_law_514 ?_
      refine J_iadd C dL_law_515 ?_
      refine J_i (nI_add (3 * i) 1 : ((nI (3 * i)) + 1 : Int32) = (nI (3 * i + 1))) ?_
      refine J_sld C hX hbl hbA (3 * i + 1) rfl (by omega) (by omega) dL_law_516 ?_
      refine J_i (hxv : (xs (3 * i + 1) : Int32) = 0) ?_
      refine J_callV (as := [.int 0]) (rest := []) C (ct_next0 l G ts a a1 a2 hh b ks σ d σ1 d1 hI hD) (fun u => [(ts, .inr (5, [.ref (a 0), .ref (a1 0), .ref (a2 0), .ref hh, .ref (b 0), .int (nI ks)]))] ++ (stW G a σ d ++ (stW G a1 σ1 d1 ++ (stW G a2 σ2 d2 ++ ([(hh, .inr (0, [.ref ha, .int (nI f), .int (nI n)])), (ha, .inl (G.2.2.2, 4, .inr (.inr (.inr (.inr (fun j => some (hb j 0)))))))] ++ (stW G (hb 0) (hσ 0) (hd 0) ++ (stW G (hb 1) (hσ 1) (hd 1) ++ (stW G (hb 2) (hσ 2) (hd 2) ++ (stW G (hb 3) (hσ 3) (hd 3) ++ (txW G b t L lt ms hf fa cu ++ mdW G mo σ kf tf H sf df t n ks L sp rd gr)))))))))) [0, 1, 2, 3, 4, 5, 6, 7, 8, 9, 10, 11, 12, 13, 14, 15, 16, 17, 18, 19, 20, 21, 22] [23, 24, 25, 26, 27, 28, 29, 30, 31, 32, 33, 34, 35, 36, 37, 38, 39, 40, 41, 42, 43, 44, 45, 46, 47, 48, 49, 50, 51, 52, 53, 54, 55, 56, 57, 58, 59, 60, 61, 62, 63, 64, 65, 66, 67, 68, 69, 70, 71, 72, 73, 74, 75, 76, 77, 78, 79, 80, 81, 82, 83, 84, 85, 86, 87, 88, 89, 90, 91] 1 k510 k511 k512 k32 k513 rfl (by decide +kernel) ⟨Nat.le_of_ble_eq_true rfl, Nat.le_of_ble_eq_true rfl⟩ ⟨Nat.le_of_ble_eq_true rfl, Nat.le_of_ble_eq_true rfl⟩ dL_law_517 (Nat.le_of_ble_eq_true rfl) 0 rfl rfl rfl (by decide +kernel) (fun _ => rfl) (stW G a2 σ2 d2 ++ ([(hh, .inr (0, [.ref ha, .int (nI f), .int (nI n)])), (ha, .inl (G.2.2.2, 4, .inr (.inr (.inr (.inr (fun j => some (hb j 0)))))))] ++ (stW G (hb 0) (hσ 0) (hd 0) ++ (stW G (hb 1) (hσ 1) (hd 1) ++ (stW G (hb 2) (hσ 2) (hd 2) ++ (stW G (hb 3) (hσ 3) (hd 3) ++ (txW G b t L lt ms hf fa cu ++ mdW G mo σ kf tf H sf df t n ks L sp rd gr))))))) rfl (fun _ => rfl) 92 (fun _ => rfl) (by decide +kernel) (by decide +kernel) (fun _ _ => ?_)
      refine J_st (st' := [.int (nI (doesN σ 0))]) rfl ?_
      refine J_aload_n C rfl dL_law_520 ?_
      refine J_aload_n C rfl dL_law_521 ?_
      refine J_iload_n C rfl dL_law_522 ?_
      refine J_iconst C 1 (by decide) dL_law_523 ?_
      refine J_iadd C dL_law_524 ?_
      refine J_i (nI_add (3 * i) 1 : ((nI (3 * i)) + 1 : Int32) = (nI (3 * i + 1))) ?_
      refine J_sld C hX hbl hbA (3 * i + 1) rfl (by omega) (by omega) dL_law_525 ?_
      refine J_i (hxv : (xs (3 * i + 1) : Int32) = 0) ?_
      refine J_callV (as := [.int 0]) (rest := [.int (nI (doesN σ 0))]) C (ct_mNx0 l G mo σ kf tf H sf df t n ks L sp rd gr hI) (fun u => [(ts, .inr (5, [.ref (a 0), .ref (a1 0), .ref (a2 0), .ref hh, .ref (b 0), .int (nI ks)]))] ++ (stW G a σ d ++ (stW G a1 σ1 d1 ++ (stW G a2 σ2 d2 ++ ([(hh, .inr (0, [.ref ha, .int (nI f), .int (nI n)])), (ha, .inl (G.2.2.2, 4, .inr (.inr (.inr (.inr (fun j => some (hb j 0)))))))] ++ (stW G (hb 0) (hσ 0) (hd 0) ++ (stW G (hb 1) (hσ 1) (hd 1) ++ (stW G (hb 2) (hσ 2) (hd 2) ++ (stW G (hb 3) (hσ 3) (hd 3) ++ (txW G b t L lt ms hf fa cu ++ mdW G mo σ kf tf H sf df t n ks L sp rd gr)))))))))) [84, 85, 86, 87, 88, 89, 90, 91] [0, 1, 2, 3, 4, 5, 6, 7, 8, 9, 10, 11, 12, 13, 14, 15, 16, 17, 18, 19, 20, 21, 22, 23, 24, 25, 26, 27, 28, 29, 30, 31, 32, 33, 34, 35, 36, 37, 38, 39, 40, 41, 42, 43, 44, 45, 46, 47, 48, 49, 50, 51, 52, 53, 54, 55, 56, 57, 58, 59, 60, 61, 62, 63, 64, 65, 66, 67, 68, 69, 70, 71, 72, 73, 74, 75, 76, 77, 78, 79, 80, 81, 82, 83] 1 k760 k761 k762 k38 k763 rfl (by decide +kernel) ⟨Nat.le_of_ble_eq_true rfl, Nat.le_of_ble_eq_true rfl⟩ ⟨Nat.le_of_ble_eq_true rfl, Nat.le_of_ble_eq_true rfl⟩ dL_law_526 (Nat.le_of_ble_eq_true rfl) 84 rfl rfl rfl (by decide +kernel) (fun _ => rfl) ([(ts, .inr (5, [.ref (a 0), .ref (a1 0), .ref (a2 0), .ref hh, .ref (b 0), .int (nI ks)]))] ++ (stW G a σ d ++ (stW G a1 σ1 d1 ++ (stW G a2 σ2 d2 ++ ([(hh, .inr (0, [.ref ha, .int (nI f), .int (nI n)])), (ha, .inl (G.2.2.2, 4, .inr (.inr (.inr (.inr (fun j => some (hb j 0)))))))] ++ (stW G (hb 0) (hσ 0) (hd 0) ++ (stW G (hb 1) (hσ 1) (hd 1) ++ (stW G (hb 2) (hσ 2) (hd 2) ++ (stW G (hb 3) (hσ 3) (hd 3) ++ txW G b t L lt ms hf fa cu))))))))) rfl (fun _ => rfl) 92 (fun _ => rfl) (by decide +kernel) (by decide +kernel) (fun _ _ => ?_)
      refine J_st (st' := [.int (nI (doesN σ 0)), .int (nI (doesN σ 0))]) rfl ?_
      refine J_icmp_eq C 660 (by decide) dL_law_529 (fun _ => ?_) (fun h => absurd rfl h)
      exact law_next C i ts a a1 a2 hh b ha hb mo σ d σ1 d1 σ2 d2 hσ hd f n t L lt ms hf fa cu ks kf tf H sf df sp rd gr ih (hLI) hnx
    · skip
      refine J_aload_n C rfl dL_law_511 ?_
      refine J_aload_n C rfl dL_law_512 ?_
      refine J_iload_n C rfl dL_law_513 ?_
      refine J_iconst C 1 (by decide) dL_law_514 ?_
      refine J_iadd C dL_law_515 ?_
      refine J_i (nI_add (3 * i) 1 : ((nI (3 * i)) + 1 : Int32) = (nI (3 * i + 1))) ?_
      refine J_sld C hX hbl hbA (3 * i + 1) rfl (by omega) (by omega) dL_law_516 ?_
      refine J_i (hxv : (xs (3 * i + 1) : Int32) = 1) ?_
      refine J_callV (as := [.int 1]) (rest := []) C (ct_next1 l G ts a a1 a2 hh b ks σ d σ1 d1 hI hD) (fun u => [(ts, .inr (5, [.ref (a 0), .ref (a1 0), .ref (a2 0), .ref hh, .ref (b 0), .int (nI ks)]))] ++ (stW G a σ d ++ (stW G a1 (goesF σ 0 (σ 0 3)) d ++ (stW G a2 σ2 d2 ++ ([(hh, .inr (0, [.ref ha, .int (nI f), .int (nI n)])), (ha, .inl (G.2.2.2, 4, .inr (.inr (.inr (.inr (fun j => some (hb j 0)))))))] ++ (stW G (hb 0) (hσ 0) (hd 0) ++ (stW G (hb 1) (hσ 1) (hd 1) ++ (stW G (hb 2) (hσ 2) (hd 2) ++ (stW G (hb 3) (hσ 3) (hd 3) ++ (txW G b t L lt ms hf fa cu ++ mdW G mo σ kf tf H sf df t n ks L sp rd gr)))))))))) [0, 1, 2, 3, 4, 5, 6, 7, 8, 9, 10, 11, 12, 13, 14, 15, 16, 17, 18, 19, 20, 21, 22] [23, 24, 25, 26, 27, 28, 29, 30, 31, 32, 33, 34, 35, 36, 37, 38, 39, 40, 41, 42, 43, 44, 45, 46, 47, 48, 49, 50, 51, 52, 53, 54, 55, 56, 57, 58, 59, 60, 61, 62, 63, 64, 65, 66, 67, 68, 69, 70, 71, 72, 73, 74, 75, 76, 77, 78, 79, 80, 81, 82, 83, 84, 85, 86, 87, 88, 89, 90, 91] 1 k510 k511 k512 k32 k513 rfl (by decide +kernel) ⟨Nat.le_of_ble_eq_true rfl, Nat.le_of_ble_eq_true rfl⟩ ⟨Nat.le_of_ble_eq_true rfl, Nat.le_of_ble_eq_true rfl⟩ dL_law_517 (Nat.le_of_ble_eq_true rfl) 0 rfl rfl rfl (by decide +kernel) (fun _ => rfl) (stW G a2 σ2 d2 ++ ([(hh, .inr (0, [.ref ha, .int (nI f), .int (nI n)])), (ha, .inl (G.2.2.2, 4, .inr (.inr (.inr (.inr (fun j => some (hb j 0)))))))] ++ (stW G (hb 0) (hσ 0) (hd 0) ++ (stW G (hb 1) (hσ 1) (hd 1) ++ (stW G (hb 2) (hσ 2) (hd 2) ++ (stW G (hb 3) (hσ 3) (hd 3) ++ (txW G b t L lt ms hf fa cu ++ mdW G mo σ kf tf H sf df t n ks L sp rd gr))))))) rfl (fun _ => rfl) 92 (fun _ => rfl) (by decide +kernel) (by decide +kernel) (fun _ _ => ?_)
      refine J_st (st' := [.int (nI (nextN σ))]) rfl ?_
      refine J_aload_n C rfl dL_law_520 ?_
      refine J_aload_n C rfl dL_law_521 ?_
      refine J_iload_n C rfl dL_law_522 ?_
      refine J_iconst C 1 (by decide) dL_law_523 ?_
      refine J_iadd C dL_law_524 ?_
      refine J_i (nI_add (3 * i) 1 : ((nI (3 * i)) + 1 : Int32) = (nI (3 * i + 1))) ?_
      refine J_sld C hX hbl hbA (3 * i + 1) rfl (by omega) (by omega) dL_law_525 ?_
      refine J_i (hxv : (xs (3 * i + 1) : Int32) = 1) ?_
      refine J_callV (as := [.int 1]) (rest := [.int (nI (nextN σ))]) C (ct_mNx1 l G mo σ kf tf H sf df t n ks L sp rd gr hI htk) (fun u => [(ts, .inr (5, [.ref (a 0), .ref (a1 0), .ref (a2 0), .ref hh, .ref (b 0), .int (nI ks)]))] ++ (stW G a σ d ++ (stW G a1 (goesF σ 0 (σ 0 3)) d ++ (stW G a2 σ2 d2 ++ ([(hh, .inr (0, [.ref ha, .int (nI f), .int (nI n)])), (ha, .inl (G.2.2.2, 4, .inr (.inr (.inr (.inr (fun j => some (hb j 0)))))))] ++ (stW G (hb 0) (hσ 0) (hd 0) ++ (stW G (hb 1) (hσ 1) (hd 1) ++ (stW G (hb 2) (hσ 2) (hd 2) ++ (stW G (hb 3) (hσ 3) (hd 3) ++ (txW G b t L lt ms hf fa cu ++ mdW G mo σ kf (rowM σ) H sf df t n ks L sp rd gr)))))))))) [84, 85, 86, 87, 88, 89, 90, 91] [0, 1, 2, 3, 4, 5, 6, 7, 8, 9, 10, 11, 12, 13, 14, 15, 16, 17, 18, 19, 20, 21, 22, 23, 24, 25, 26, 27, 28, 29, 30, 31, 32, 33, 34, 35, 36, 37, 38, 39, 40, 41, 42, 43, 44, 45, 46, 47, 48, 49, 50, 51, 52, 53, 54, 55, 56, 57, 58, 59, 60, 61, 62, 63, 64, 65, 66, 67, 68, 69, 70, 71, 72, 73, 74, 75, 76, 77, 78, 79, 80, 81, 82, 83] 1 k760 k761 k762 k38 k763 rfl (by decide +kernel) ⟨Nat.le_of_ble_eq_true rfl, Nat.le_of_ble_eq_true rfl⟩ ⟨Nat.le_of_ble_eq_true rfl, Nat.le_of_ble_eq_true rfl⟩ dL_law_526 (Nat.le_of_ble_eq_true rfl) 84 rfl rfl rfl (by decide +kernel) (fun _ => rfl) ([(ts, .inr (5, [.ref (a 0), .ref (a1 0), .ref (a2 0), .ref hh, .ref (b 0), .int (nI ks)]))] ++ (stW G a σ d ++ (stW G a1 (goesF σ 0 (σ 0 3)) d ++ (stW G a2 σ2 d2 ++ ([(hh, .inr (0, [.ref ha, .int (nI f), .int (nI n)])), (ha, .inl (G.2.2.2, 4, .inr (.inr (.inr (.inr (fun j => some (hb j 0)))))))] ++ (stW G (hb 0) (hσ 0) (hd 0) ++ (stW G (hb 1) (hσ 1) (hd 1) ++ (stW G (hb 2) (hσ 2) (hd 2) ++ (stW G (hb 3) (hσ 3) (hd 3) ++ txW G b t L lt ms hf fa cu))))))))) rfl (fun _ => rfl) 92 (fun _ => rfl) (by decide +kernel) (by decide +kernel) (fun _ _ => ?_)
      refine J_st (st' := [.int (nI (nextN σ)), .int (nI (nextN σ))]) rfl ?_
      refine J_icmp_eq C 660 (by decide) dL_law_529 (fun _ => ?_) (fun h => absurd rfl h)
      exact law_next C i ts a a1 a2 hh b ha hb mo σ d (goesF σ 0 (σ 0 3)) d σ2 d2 hσ hd f n t L lt ms hf fa cu ks kf (rowM σ) H sf df sp rd gr ih (hLI) hnx
  · skip
    refine J_aload_n C rfl dL_law_511 ?_
    refine J_aload_n C rfl dL_law_512 ?_
    refine J_iload_n C rfl dL_law_513 ?_
    refine J_iconst C 1 (by decide) dL_law_514 ?_
    refine J_iadd C dL_law_515 ?_
    refine J_i (nI_add (3 * i) 1 : ((nI (3 * i)) + 1 : Int32) = (nI (3 * i + 1))) ?_
    refine J_sld C hX hbl hbA (3 * i + 1) rfl (by omega) (by omega) dL_law_516 ?_
    refine J_i (hxv : (xs (3 * i + 1) : Int32) = x) ?_
    refine J_callV (as := [.int x]) (rest := []) C (ct_nextN l G ts a a1 a2 hh b ks σ d σ1 d1 x hx) (fun u => [(ts, .inr (5, [.ref (a 0), .ref (a1 0), .ref (a2 0), .ref hh, .ref (b 0), .int (nI ks)]))] ++ (stW G a σ d ++ (stW G a1 σ1 d1 ++ (stW G a2 σ2 d2 ++ ([(hh, .inr (0, [.ref ha, .int (nI f), .int (nI n)])), (ha, .inl (G.2.2.2, 4, .inr (.inr (.inr (.inr (fun j => some (hb j 0)))))))] ++ (stW G (hb 0) (hσ 0) (hd 0) ++ (stW G (hb 1) (hσ 1) (hd 1) ++ (stW G (hb 2) (hσ 2) (hd 2) ++ (stW G (hb 3) (hσ 3) (hd 3) ++ (txW G b t L lt ms hf fa cu ++ mdW G mo σ kf tf H sf df t n ks L sp rd gr)))))))))) [0, 1, 2, 3, 4, 5, 6, 7, 8, 9, 10, 11, 12, 13, 14, 15, 16, 17, 18, 19, 20, 21, 22] [23, 24, 25, 26, 27, 28, 29, 30, 31, 32, 33, 34, 35, 36, 37, 38, 39, 40, 41, 42, 43, 44, 45, 46, 47, 48, 49, 50, 51, 52, 53, 54, 55, 56, 57, 58, 59, 60, 61, 62, 63, 64, 65, 66, 67, 68, 69, 70, 71, 72, 73, 74, 75, 76, 77, 78, 79, 80, 81, 82, 83, 84, 85, 86, 87, 88, 89, 90, 91] 1 k510 k511 k512 k32 k513 rfl (by decide +kernel) ⟨Nat.le_of_ble_eq_true rfl, Nat.le_of_ble_eq_true rfl⟩ ⟨Nat.le_of_ble_eq_true rfl, Nat.le_of_ble_eq_true rfl⟩ dL_law_517 (Nat.le_of_ble_eq_true rfl) 0 rfl rfl rfl (by decide +kernel) (fun _ => rfl) (stW G a2 σ2 d2 ++ ([(hh, .inr (0, [.ref ha, .int (nI f), .int (nI n)])), (ha, .inl (G.2.2.2, 4, .inr (.inr (.inr (.inr (fun j => some (hb j 0)))))))] ++ (stW G (hb 0) (hσ 0) (hd 0) ++ (stW G (hb 1) (hσ 1) (hd 1) ++ (stW G (hb 2) (hσ 2) (hd 2) ++ (stW G (hb 3) (hσ 3) (hd 3) ++ (txW G b t L lt ms hf fa cu ++ mdW G mo σ kf tf H sf df t n ks L sp rd gr))))))) rfl (fun _ => rfl) 92 (fun _ => rfl) (by decide +kernel) (by decide +kernel) (fun _ _ => ?_)
    refine J_st (st' := [.int (-1)]) rfl ?_
    refine J_aload_n C rfl dL_law_520 ?_
    refine J_aload_n C rfl dL_law_521 ?_
    refine J_iload_n C rfl dL_law_522 ?_
    refine J_iconst C 1 (by decide) dL_law_523 ?_
    refine J_iadd C dL_law_524 ?_
    refine J_i (nI_add (3 * i) 1 : ((nI (3 * i)) + 1 : Int32) = (nI (3 * i + 1))) ?_
    refine J_sld C hX hbl hbA (3 * i + 1) rfl (by omega) (by omega) dL_law_525 ?_
    refine J_i (hxv : (xs (3 * i + 1) : Int32) = x) ?_
    refine J_callV (as := [.int x]) (rest := [.int (-1)]) C (ct_mNxN l G mo σ kf tf H sf df t n ks L sp rd gr x hx) (fun u => [(ts, .inr (5, [.ref (a 0), .ref (a1 0), .ref (a2 0), .ref hh, .ref (b 0), .int (nI ks)]))] ++ (stW G a σ d ++ (stW G a1 σ1 d1 ++ (stW G a2 σ2 d2 ++ ([(hh, .inr (0, [.ref ha, .int (nI f), .int (nI n)])), (ha, .inl (G.2.2.2, 4, .inr (.inr (.inr (.inr (fun j => some (hb j 0)))))))] ++ (stW G (hb 0) (hσ 0) (hd 0) ++ (stW G (hb 1) (hσ 1) (hd 1) ++ (stW G (hb 2) (hσ 2) (hd 2) ++ (stW G (hb 3) (hσ 3) (hd 3) ++ (txW G b t L lt ms hf fa cu ++ mdW G mo σ kf tf H sf df t n ks L sp rd gr)))))))))) [84, 85, 86, 87, 88, 89, 90, 91] [0, 1, 2, 3, 4, 5, 6, 7, 8, 9, 10, 11, 12, 13, 14, 15, 16, 17, 18, 19, 20, 21, 22, 23, 24, 25, 26, 27, 28, 29, 30, 31, 32, 33, 34, 35, 36, 37, 38, 39, 40, 41, 42, 43, 44, 45, 46, 47, 48, 49, 50, 51, 52, 53, 54, 55, 56, 57, 58, 59, 60, 61, 62, 63, 64, 65, 66, 67, 68, 69, 70, 71, 72, 73, 74, 75, 76, 77, 78, 79, 80, 81, 82, 83] 1 k760 k761 k762 k38 k763 rfl (by decide +kernel) ⟨Nat.le_of_ble_eq_true rfl, Nat.le_of_ble_eq_true rfl⟩ ⟨Nat.le_of_ble_eq_true rfl, Nat.le_of_ble_eq_true rfl⟩ dL_law_526 (Nat.le_of_ble_eq_true rfl) 84 rfl rfl rfl (by decide +kernel) (fun _ => rfl) ([(ts, .inr (5, [.ref (a 0), .ref (a1 0), .ref (a2 0), .ref hh, .ref (b 0), .int (nI ks)]))] ++ (stW G a σ d ++ (stW G a1 σ1 d1 ++ (stW G a2 σ2 d2 ++ ([(hh, .inr (0, [.ref ha, .int (nI f), .int (nI n)])), (ha, .inl (G.2.2.2, 4, .inr (.inr (.inr (.inr (fun j => some (hb j 0)))))))] ++ (stW G (hb 0) (hσ 0) (hd 0) ++ (stW G (hb 1) (hσ 1) (hd 1) ++ (stW G (hb 2) (hσ 2) (hd 2) ++ (stW G (hb 3) (hσ 3) (hd 3) ++ txW G b t L lt ms hf fa cu))))))))) rfl (fun _ => rfl) 92 (fun _ => rfl) (by decide +kernel) (by decide +kernel) (fun _ _ => ?_)
    refine J_st (st' := [.int (-1), .int (-1)]) rfl ?_
    refine J_icmp_eq C 660 (by decide) dL_law_529 (fun _ => ?_) (fun h => absurd rfl h)
    exact law_next C i ts a a1 a2 hh b ha hb mo σ d σ1 d1 σ2 d2 hσ hd f n t L lt ms hf fa cu ks kf tf H sf df sp rd gr ih (hLI) hnx
