set_option maxHeartbeats 4000000 in
set_option maxRecDepth 100000 in
theorem law_scribe {p : Program} {l : Launch} {e : Env} {s : State} {m : MethodId} {below : List Frame} {meth : Method} {c : Code} {Q : State → Prop} {G : GT} {A : Nat → Prop} {bb sL : Nat} {xs : Nat → Int32} (C : Cx p s m #[Value.ref bb] meth c G A 8 cL_law "TwoScribesLaw") (hX : va_X bb sL xs s s.heap) (hbl : bb < s.heap.size) (hbA : ¬ A bb) (hsL : sL ≤ 1536) (i : Nat) (hi : 3 * i + 3 ≤ sL) (ts : Nat) (a a1 a2 : Nat → Nat) (hh : Nat) (b : Nat → Nat) (ha : Nat) (hb : Nat → Nat → Nat) (mo : Nat → Nat) (σ : AS) (d : Nat → Nat) (σ1 : AS) (d1 : Nat → Nat) (σ2 : AS) (d2 : Nat → Nat) (hσ : Nat → AS) (hd : Nat → Nat → Nat) (f n : Nat) (t : Nat → Nat) (L : Nat) (lt ms : Nat → Nat) (hf : Nat) (fa : Int32) (cu : Nat) (ks : Nat) (kf tf H sf df : Nat → Nat) (sp rd : Nat) (gr : Int32) (hLI : LI σ d σ2 d2 hσ hd f n t L ks H sf) (ih : LG p l e s m below meth c Q G A bb ts a a1 a2 hh b ha hb mo (i + 1)) : J p l e room_1 s m #[Value.ref bb] below meth c Q G A 8 600000 7302250 ([(ts, .inr (5, [.ref (a 0), .ref (a1 0), .ref (a2 0), .ref hh, .ref (b 0), .int (nI ks)]))] ++ (stW G a σ d ++ (stW G a1 σ1 d1 ++ (stW G a2 σ2 d2 ++ ([(hh, .inr (0, [.ref ha, .int (nI f), .int (nI n)])), (ha, .inl (G.2.2.2, 4, .inr (.inr (.inr (.inr (fun j => some (hb j 0)))))))] ++ (stW G (hb 0) (hσ 0) (hd 0) ++ (stW G (hb 1) (hσ 1) (hd 1) ++ (stW G (hb 2) (hσ 2) (hd 2) ++ (stW G (hb 3) (hσ 3) (hd 3) ++ (txW G b t L lt ms hf fa cu ++ mdW G mo σ kf tf H sf df t n ks L sp rd gr)))))))))) [(0, .ref bb), (1, .ref ts), (2, .ref (mo 0)), (3, .int (nI (3 * i)))] 427 [] := by
  obtain ⟨⟨hI, hD, hW, htk⟩, hsn, hf4, hn4, hhis, hL, hchr⟩ := id hLI
  have h40 := hI.a
  have hc := hI.c
  have hnx : 3 * i + 3 < 4096 := by omega
  obtain ⟨x, hxv⟩ : ∃ x, xs (3 * i + 1) = x := ⟨_, rfl⟩
  obtain ⟨y, hyv⟩ : ∃ y, xs (3 * i + 2) = y := ⟨_, rfl⟩
  by_cases hx : x = 0 ∨ x = 1
  · skip
    rcases hx with rfl | rfl
    · skip
      refine J_aload_n C rfl dL_law_427 ?_
      refine J_aload_n C rfl dL_law_428 ?_
      refine J_iload_n C rfl dL_law_429 ?_
      refine J_iconst C 1 (by decide) dL_law_430 ?_
      refine J_iadd C dL_law_431 ?_
      refine J_i (nI_add (3 * i) 1 : ((nI (3 * i)) + 1 : Int32) = (nI (3 * i + 1))) ?_
      refine J_sld C hX hbl hbA (3 * i + 1) rfl (by omega) (by omega) dL_law_432 ?_
      refine J_i (hxv : (xs (3 * i + 1) : Int32) = 0) ?_
      refine J_aload_n C rfl dL_law_433 ?_
      refine J_iload_n C rfl dL_law_434 ?_
      refine J_iconst C 2 (by decide) dL_law_435 ?_
      refine J_iadd C dL_law_436 ?_
      refine J_i (nI_add (3 * i) 2 : ((nI (3 * i)) + 2 : Int32) = (nI (3 * i + 2))) ?_
      refine J_sld C hX hbl hbA (3 * i + 2) rfl (by omega) (by omega) dL_law_437 ?_
      refine J_i (hyv : (xs (3 * i + 2) : Int32) = y) ?_
      refine J_callV (as := [.int 0, .int y]) (rest := []) C (ct_scribe0 l G ts a a1 a2 hh b ks σ d y hI) (fun u => [(ts, .inr (5, [.ref (a 0), .ref (a1 0), .ref (a2 0), .ref hh, .ref (b 0), .int (nI ks)]))] ++ (stW G a σ d ++ (stW G a1 σ1 d1 ++ (stW G a2 σ2 d2 ++ ([(hh, .inr (0, [.ref ha, .int (nI f), .int (nI n)])), (ha, .inl (G.2.2.2, 4, .inr (.inr (.inr (.inr (fun j => some (hb j 0)))))))] ++ (stW G (hb 0) (hσ 0) (hd 0) ++ (stW G (hb 1) (hσ 1) (hd 1) ++ (stW G (hb 2) (hσ 2) (hd 2) ++ (stW G (hb 3) (hσ 3) (hd 3) ++ (txW G b t L lt ms hf fa cu ++ mdW G mo σ kf tf H sf df t n ks L sp rd gr)))))))))) [0, 1, 2, 3, 4, 5, 6, 7, 8, 9, 10, 11] [12, 13, 14, 15, 16, 17, 18, 19, 20, 21, 22, 23, 24, 25, 26, 27, 28, 29, 30, 31, 32, 33, 34, 35, 36, 37, 38, 39, 40, 41, 42, 43, 44, 45, 46, 47, 48, 49, 50, 51, 52, 53, 54, 55, 56, 57, 58, 59, 60, 61, 62, 63, 64, 65, 66, 67, 68, 69, 70, 71, 72, 73, 74, 75, 76, 77, 78, 79, 80, 81, 82, 83, 84, 85, 86, 87, 88, 89, 90, 91] 2 k500 k501 k502 k32 k503 rfl (by decide +kernel) ⟨Nat.le_of_ble_eq_true rfl, Nat.le_of_ble_eq_true rfl⟩ ⟨Nat.le_of_ble_eq_true rfl, Nat.le_of_ble_eq_true rfl⟩ dL_law_438 (Nat.le_of_ble_eq_true rfl) 0 rfl rfl rfl (by decide +kernel) (fun _ => rfl) (stW G a1 σ1 d1 ++ (stW G a2 σ2 d2 ++ ([(hh, .inr (0, [.ref ha, .int (nI f), .int (nI n)])), (ha, .inl (G.2.2.2, 4, .inr (.inr (.inr (.inr (fun j => some (hb j 0)))))))] ++ (stW G (hb 0) (hσ 0) (hd 0) ++ (stW G (hb 1) (hσ 1) (hd 1) ++ (stW G (hb 2) (hσ 2) (hd 2) ++ (stW G (hb 3) (hσ 3) (hd 3) ++ (txW G b t L lt ms hf fa cu ++ mdW G mo σ kf tf H sf df t n ks L sp rd gr)))))))) rfl (fun _ => rfl) 92 (fun _ => rfl) (by decide +kernel) (by decide +kernel) (fun _ _ => ?_)
      refine J_st (st' := [.int (scrF σ 0 y.toInt)]) rfl ?_
      refine J_aload_n C rfl dL_law_441 ?_
      refine J_aload_n C rfl dL_law_442 ?_
      refine J_iload_n C rfl dL_law_443 ?_
      refine J_iconst C 1 (by decide) dL_law_444 ?_
      refine J_iadd C dL_law_445 ?_
      refine J_i (nI_add (3 * i) 1 : ((nI (3 * i)) + 1 : Int32) = (nI (3 * i + 1))) ?_
      refine J_sld C hX hbl hbA (3 * i + 1) rfl (by omega) (by omega) dL_law_446 ?_
      refine J_i (hxv : (xs (3 * i + 1) : Int32) = 0) ?_
      refine J_aload_n C rfl dL_law_447 ?_
      refine J_iload_n C rfl dL_law_448 ?_
      refine J_iconst C 2 (by decide) dL_law_449 ?_
      refine J_iadd C dL_law_450 ?_
      refine J_i (nI_add (3 * i) 2 : ((nI (3 * i)) + 2 : Int32) = (nI (3 * i + 2))) ?_
      refine J_sld C hX hbl hbA (3 * i + 2) rfl (by omega) (by omega) dL_law_451 ?_
      refine J_i (hyv : (xs (3 * i + 2) : Int32) = y) ?_
      refine J_callV (as := [.int 0, .int y]) (rest := [.int (scrF σ 0 y.toInt)]) C (ct_mScribe0 l G mo σ kf tf H sf df t n ks L sp rd gr y hI) (fun u => [(ts, .inr (5, [.ref (a 0), .ref (a1 0), .ref (a2 0), .ref hh, .ref (b 0), .int (nI ks)]))] ++ (stW G a σ d ++ (stW G a1 σ1 d1 ++ (stW G a2 σ2 d2 ++ ([(hh, .inr (0, [.ref ha, .int (nI f), .int (nI n)])), (ha, .inl (G.2.2.2, 4, .inr (.inr (.inr (.inr (fun j => some (hb j 0)))))))] ++ (stW G (hb 0) (hσ 0) (hd 0) ++ (stW G (hb 1) (hσ 1) (hd 1) ++ (stW G (hb 2) (hσ 2) (hd 2) ++ (stW G (hb 3) (hσ 3) (hd 3) ++ (txW G b t L lt ms hf fa cu ++ mdW G mo σ kf tf H sf df t n ks L sp rd gr)))))))))) [84, 85, 86, 87, 88, 89, 90, 91] [0, 1, 2, 3, 4, 5, 6, 7, 8, 9, 10, 11, 12, 13, 14, 15, 16, 17, 18, 19, 20, 21, 22, 23, 24, 25, 26, 27, 28, 29, 30, 31, 32, 33, 34, 35, 36, 37, 38, 39, 40, 41, 42, 43, 44, 45, 46, 47, 48, 49, 50, 51, 52, 53, 54, 55, 56, 57, 58, 59, 60, 61, 62, 63, 64, 65, 66, 67, 68, 69, 70, 71, 72, 73, 74, 75, 76, 77, 78, 79, 80, 81, 82, 83] 2 k749 k750 k751 k38 k752 rfl (by decide +kernel) ⟨Nat.le_of_ble_eq_true rfl, Nat.le_of_ble_eq_true rfl⟩ ⟨Nat.le_of_ble_eq_true rfl, Nat.le_of_ble_eq_true rfl⟩ dL_law_452 (Nat.le_of_ble_eq_true rfl) 84 rfl rfl rfl (by decide +kernel) (fun _ => rfl) ([(ts, .inr (5, [.ref (a 0), .ref (a1 0), .ref (a2 0), .ref hh, .ref (b 0), .int (nI ks)]))] ++ (stW G a σ d ++ (stW G a1 σ1 d1 ++ (stW G a2 σ2 d2 ++ ([(hh, .inr (0, [.ref ha, .int (nI f), .int (nI n)])), (ha, .inl (G.2.2.2, 4, .inr (.inr (.inr (.inr (fun j => some (hb j 0)))))))] ++ (stW G (hb 0) (hσ 0) (hd 0) ++ (stW G (hb 1) (hσ 1) (hd 1) ++ (stW G (hb 2) (hσ 2) (hd 2) ++ (stW G (hb 3) (hσ 3) (hd 3) ++ txW G b t L lt ms hf fa cu))))))))) rfl (fun _ => rfl) 92 (fun _ => rfl) (by decide +kernel) (by decide +kernel) (fun _ _ => ?_)
      refine J_st (st' := [.int (scrF σ 0 y.toInt), .int (scrF σ 0 y.toInt)]) rfl ?_
      refine J_icmp_eq C 660 (by decide) dL_law_455 (fun _ => ?_) (fun h => absurd rfl h)
      exact law_next C i ts a a1 a2 hh b ha hb mo σ d σ1 d1 σ2 d2 hσ hd f n t L lt ms hf fa cu ks kf tf H sf df sp rd gr ih (hLI) hnx
    · skip
      refine J_aload_n C rfl dL_law_427 ?_
      refine J_aload_n C rfl dL_law_428 ?_
      refine J_iload_n C rfl dL_law_429 ?_
      refine J_iconst C 1 (by decide) dL_law_430 ?_
      refine J_iadd C dL_law_431 ?_
      refine J_i (nI_add (3 * i) 1 : ((nI (3 * i)) + 1 : Int32) = (nI (3 * i + 1))) ?_
      refine J_sld C hX hbl hbA (3 * i + 1) rfl (by omega) (by omega) dL_law_432 ?_
      refine J_i (hxv : (xs (3 * i + 1) : Int32) = 1) ?_
      refine J_aload_n C rfl dL_law_433 ?_
      refine J_iload_n C rfl dL_law_434 ?_
      refine J_iconst C 2 (by decide) dL_law_435 ?_
      refine J_iadd C dL_law_436 ?_
      refine J_i (nI_add (3 * i) 2 : ((nI (3 * i)) + 2 : Int32) = (nI (3 * i + 2))) ?_
      refine J_sld C hX hbl hbA (3 * i + 2) rfl (by omega) (by omega) dL_law_437 ?_
      refine J_i (hyv : (xs (3 * i + 2) : Int32) = y) ?_
      refine J_callV (as := [.int 1, .int y]) (rest := []) C (ct_scribe1 l G ts a a1 a2 hh b ks σ d y hI) (fun u => [(ts, .inr (5, [.ref (a 0), .ref (a1 0), .ref (a2 0), .ref hh, .ref (b 0), .int (nI ks)]))] ++ (stW G a σ d ++ (stW G a1 σ1 d1 ++ (stW G a2 σ2 d2 ++ ([(hh, .inr (0, [.ref ha, .int (nI f), .int (nI n)])), (ha, .inl (G.2.2.2, 4, .inr (.inr (.inr (.inr (fun j => some (hb j 0)))))))] ++ (stW G (hb 0) (hσ 0) (hd 0) ++ (stW G (hb 1) (hσ 1) (hd 1) ++ (stW G (hb 2) (hσ 2) (hd 2) ++ (stW G (hb 3) (hσ 3) (hd 3) ++ (txW G b t L lt ms hf fa cu ++ mdW G mo σ kf tf H sf df t n ks L sp rd gr)))))))))) [0, 1, 2, 3, 4, 5, 6, 7, 8, 9, 10, 11] [12, 13, 14, 15, 16, 17, 18, 19, 20, 21, 22, 23, 24, 25, 26, 27, 28, 29, 30, 31, 32, 33, 34, 35, 36, 37, 38, 39, 40, 41, 42, 43, 44, 45, 46, 47, 48, 49, 50, 51, 52, 53, 54, 55, 56, 57, 58, 59, 60, 61, 62, 63, 64, 65, 66, 67, 68, 69, 70, 71, 72, 73, 74, 75, 76, 77, 78, 79, 80, 81, 82, 83, 84, 85, 86, 87, 88, 89, 90, 91] 2 k500 k501 k502 k32 k503 rfl (by decide +kernel) ⟨Nat.le_of_ble_eq_true rfl, Nat.le_of_ble_eq_true rfl⟩ ⟨Nat.le_of_ble_eq_true rfl, Nat.le_of_ble_eq_true rfl⟩ dL_law_438 (Nat.le_of_ble_eq_true rfl) 0 rfl rfl rfl (by decide +kernel) (fun _ => rfl) (stW G a1 σ1 d1 ++ (stW G a2 σ2 d2 ++ ([(hh, .inr (0, [.ref ha, .int (nI f), .int (nI n)])), (ha, .inl (G.2.2.2, 4, .inr (.inr (.inr (.inr (fun j => some (hb j 0)))))))] ++ (stW G (hb 0) (hσ 0) (hd 0) ++ (stW G (hb 1) (hσ 1) (hd 1) ++ (stW G (hb 2) (hσ 2) (hd 2) ++ (stW G (hb 3) (hσ 3) (hd 3) ++ (txW G b t L lt ms hf fa cu ++ mdW G mo σ kf tf H sf df t n ks L sp rd gr)))))))) rfl (fun _ => rfl) 92 (fun _ => rfl) (by decide +kernel) (by decide +kernel) (fun _ _ => ?_)
      refine J_st (st' := [.int (scrF σ 1 y.toInt)]) rfl ?_
      refine J_aload_n C rfl dL_law_441 ?_
      refine J_aload_n C rfl dL_law_442 ?_
      refine J_iload_n C rfl dL_law_443 ?_
      refine J_iconst C 1 (by decide) dL_law_444 ?_
      refine J_iadd C dL_law_445 ?_
      refine J_i (nI_add (3 * i) 1 : ((nI (3 * i)) + 1 : Int32) = (nI (3 * i + 1))) ?_
      refine J_sld C hX hbl hbA (3 * i + 1) rfl (by omega) (by omega) dL_law_446 ?_
      refine J_i (hxv : (xs (3 * i + 1) : Int32) = 1) ?_
      refine J_aload_n C rfl dL_law_447 ?_
      refine J_iload_n C rfl dL_law_448 ?_
      refine J_iconst C 2 (by decide) dL_law_449 ?_
      refine J_iadd C dL_law_450 ?_
      refine J_i (nI_add (3 * i) 2 : ((nI (3 * i)) + 2 : Int32) = (nI (3 * i + 2))) ?_
      refine J_sld C hX hbl hbA (3 * i + 2) rfl (by omega) (by omega) dL_law_451 ?_
      refine J_i (hyv : (xs (3 * i + 2) : Int32) = y) ?_
      refine J_callV (as := [.int 1, .int y]) (rest := [.int (scrF σ 1 y.toInt)]) C (ct_mScribe1 l G mo σ kf tf H sf df t n ks L sp rd gr y hI) (fun u => [(ts, .inr (5, [.ref (a 0), .ref (a1 0), .ref (a2 0), .ref hh, .ref (b 0), .int (nI ks)]))] ++ (stW G a σ d ++ (stW G a1 σ1 d1 ++ (stW G a2 σ2 d2 ++ ([(hh, .inr (0, [.ref ha, .int (nI f), .int (nI n)])), (ha, .inl (G.2.2.2, 4, .inr (.inr (.inr (.inr (fun j => some (hb j 0)))))))] ++ (stW G (hb 0) (hσ 0) (hd 0) ++ (stW G (hb 1) (hσ 1) (hd 1) ++ (stW G (hb 2) (hσ 2) (hd 2) ++ (stW G (hb 3) (hσ 3) (hd 3) ++ (txW G b t L lt ms hf fa cu ++ mdW G mo σ kf tf H sf df t n ks L sp rd gr)))))))))) [84, 85, 86, 87, 88, 89, 90, 91] [0, 1, 2, 3, 4, 5, 6, 7, 8, 9, 10, 11, 12, 13, 14, 15, 16, 17, 18, 19, 20, 21, 22, 23, 24, 25, 26, 27, 28, 29, 30, 31, 32, 33, 34, 35, 36, 37, 38, 39, 40, 41, 42, 43, 44, 45, 46, 47, 48, 49, 50, 51, 52, 53, 54, 55, 56, 57, 58, 59, 60, 61, 62, 63, 64, 65, 66, 67, 68, 69, 70, 71, 72, 73, 74, 75, 76, 77, 78, 79, 80, 81, 82, 83] 2 k749 k750 k751 k38 k752 rfl (by decide +kernel) ⟨Nat.le_of_ble_eq_true rfl, Nat.le_of_ble_eq_true rfl⟩ ⟨Nat.le_of_ble_eq_true rfl, Nat.le_of_ble_eq_true rfl⟩ dL_law_452 (Nat.le_of_ble_eq_true rfl) 84 rfl rfl rfl (by decide +kernel) (fun _ => rfl) ([(ts, .inr (5, [.ref (a 0), .ref (a1 0), .ref (a2 0), .ref hh, .ref (b 0), .int (nI ks)]))] ++ (stW G a σ d ++ (stW G a1 σ1 d1 ++ (stW G a2 σ2 d2 ++ ([(hh, .inr (0, [.ref ha, .int (nI f), .int (nI n)])), (ha, .inl (G.2.2.2, 4, .inr (.inr (.inr (.inr (fun j => some (hb j 0)))))))] ++ (stW G (hb 0) (hσ 0) (hd 0) ++ (stW G (hb 1) (hσ 1) (hd 1) ++ (stW G (hb 2) (hσ 2) (hd 2) ++ (stW G (hb 3) (hσ 3) (hd 3) ++ txW G b t L lt ms hf fa cu))))))))) rfl (fun _ => rfl) 92 (fun _ => rfl) (by decide +kernel) (by decide +kernel) (fun _ _ => ?_)
      refine J_st (st' := [.int (scrF σ 1 y.toInt), .int (scrF σ 1 y.toInt)]) rfl ?_
      refine J_icmp_eq C 660 (by decide) dL_law_455 (fun _ => ?_) (fun h => absurd rfl h)
      exact law_next C i ts a a1 a2 hh b ha hb mo σ d σ1 d1 σ2 d2 hσ hd f n t L lt ms hf fa cu ks kf tf H sf df sp rd gr ih (hLI) hnx
  · skip
    refine J_aload_n C rfl dL_law_427 ?_
    refine J_aload_n C rfl dL_law_428 ?_
    refine J_iload_n C rfl dL_law_429 ?_
    refine J_iconst C 1 (by decide) dL_law_430 ?_
    refine J_iadd C dL_law_431 ?_
    refine J_i (nI_add (3 * i) 1 : ((nI (3 * i)) + 1 : Int32) = (nI (3 * i + 1))) ?_
    refine J_sld C hX hbl hbA (3 * i + 1) rfl (by omega) (by omega) dL_law_432 ?_
    refine J_i (hxv : (xs (3 * i + 1) : Int32) = x) ?_
    refine J_aload_n C rfl dL_law_433 ?_
    refine J_iload_n C rfl dL_law_434 ?_
    refine J_iconst C 2 (by decide) dL_law_435 ?_
    refine J_iadd C dL_law_436 ?_
    refine J_i (nI_add (3 * i) 2 : ((nI (3 * i)) + 2 : Int32) = (nI (3 * i + 2))) ?_
    refine J_sld C hX hbl hbA (3 * i + 2) rfl (by omega) (by omega) dL_law_437 ?_
    refine J_i (hyv : (xs (3 * i + 2) : Int32) = y) ?_
    refine J_callV (as := [.int x, .int y]) (rest := []) C (ct_scribeN l G ts a a1 a2 hh b ks σ d x y hx) (fun u => [(ts, .inr (5, [.ref (a 0), .ref (a1 0), .ref (a2 0), .ref hh, .ref (b 0), .int (nI ks)]))] ++ (stW G a σ d ++ (stW G a1 σ1 d1 ++ (stW G a2 σ2 d2 ++ ([(hh, .inr (0, [.ref ha, .int (nI f), .int (nI n)])), (ha, .inl (G.2.2.2, 4, .inr (.inr (.inr (.inr (fun j => some (hb j 0)))))))] ++ (stW G (hb 0) (hσ 0) (hd 0) ++ (stW G (hb 1) (hσ 1) (hd 1) ++ (stW G (hb 2) (hσ 2) (hd 2) ++ (stW G (hb 3) (hσ 3) (hd 3) ++ (txW G b t L lt ms hf fa cu ++ mdW G mo σ kf tf H sf df t n ks L sp rd gr)))))))))) [0, 1, 2, 3, 4, 5, 6, 7, 8, 9, 10, 11] [12, 13, 14, 15, 16, 17, 18, 19, 20, 21, 22, 23, 24, 25, 26, 27, 28, 29, 30, 31, 32, 33, 34, 35, 36, 37, 38, 39, 40, 41, 42, 43, 44, 45, 46, 47, 48, 49, 50, 51, 52, 53, 54, 55, 56, 57, 58, 59, 60, 61, 62, 63, 64, 65, 66, 67, 68, 69, 70, 71, 72, 73, 74, 75, 76, 77, 78, 79, 80, 81, 82, 83, 84, 85, 86, 87, 88, 89, 90, 91] 2 k500 k501 k502 k32 k503 rfl (by decide +kernel) ⟨Nat.le_of_ble_eq_true rfl, Nat.le_of_ble_eq_true rfl⟩ ⟨Nat.le_of_ble_eq_true rfl, Nat.le_of_ble_eq_true rfl⟩ dL_law_438 (Nat.le_of_ble_eq_true rfl) 0 rfl rfl rfl (by decide +kernel) (fun _ => rfl) (stW G a1 σ1 d1 ++ (stW G a2 σ2 d2 ++ ([(hh, .inr (0, [.ref ha, .int (nI f), .int (nI n)])), (ha, .inl (G.2.2.2, 4, .inr (.inr (.inr (.inr (fun j => some (hb j 0)))))))] ++ (stW G (hb 0) (hσ 0) (hd 0) ++ (stW G (hb 1) (hσ 1) (hd 1) ++ (stW G (hb 2) (hσ 2) (hd 2) ++ (stW G (hb 3) (hσ 3) (hd 3) ++ (txW G b t L lt ms hf fa cu ++ mdW G mo σ kf tf H sf df t n ks L sp rd gr)))))))) rfl (fun _ => rfl) 92 (fun _ => rfl) (by decide +kernel) (by decide +kernel) (fun _ _ => ?_)
    refine J_st (st' := [.int (-1)]) rfl ?_
    refine J_aload_n C rfl dL_law_441 ?_
    refine J_aload_n C rfl dL_law_442 ?_
    refine J_iload_n C rfl dL_law_443 ?_
    refine J_iconst C 1 (by decide) dL_law_444 ?_
    refine J_iadd C dL_law_445 ?_
    refine J_i (nI_add (3 * i) 1 : ((nI (3 * i)) + 1 : Int32) = (nI (3 * i + 1))) ?_
    refine J_sld C hX hbl hbA (3 * i + 1) rfl (by omega) (by omega) dL_law_446 ?_
    refine J_i (hxv : (xs (3 * i + 1) : Int32) = x) ?_
    refine J_aload_n C rfl dL_law_447 ?_
    refine J_iload_n C rfl dL_law_448 ?_
    refine J_iconst C 2 (by decide) dL_law_449 ?_
    refine J_iadd C dL_law_450 ?_
    refine J_i (nI_add (3 * i) 2 : ((nI (3 * i)) + 2 : Int32) = (nI (3 * i + 2))) ?_
    refine J_sld C hX hbl hbA (3 * i + 2) rfl (by omega) (by omega) dL_law_451 ?_
    refine J_i (hyv : (xs (3 * i + 2) : Int32) = y) ?_
    refine J_callV (as := [.int x, .int y]) (rest := [.int (-1)]) C (ct_mScribeN l G mo σ kf tf H sf df t n ks L sp rd gr x y hx) (fun u => [(ts, .inr (5, [.ref (a 0), .ref (a1 0), .ref (a2 0), .ref hh, .ref (b 0), .int (nI ks)]))] ++ (stW G a σ d ++ (stW G a1 σ1 d1 ++ (stW G a2 σ2 d2 ++ ([(hh, .inr (0, [.ref ha, .int (nI f), .int (nI n)])), (ha, .inl (G.2.2.2, 4, .inr (.inr (.inr (.inr (fun j => some (hb j 0)))))))] ++ (stW G (hb 0) (hσ 0) (hd 0) ++ (stW G (hb 1) (hσ 1) (hd 1) ++ (stW G (hb 2) (hσ 2) (hd 2) ++ (stW G (hb 3) (hσ 3) (hd 3) ++ (txW G b t L lt ms hf fa cu ++ mdW G mo σ kf tf H sf df t n ks L sp rd gr)))))))))) [84, 85, 86, 87, 88, 89, 90, 91] [0, 1, 2, 3, 4, 5, 6, 7, 8, 9, 10, 11, 12, 13, 14, 15, 16, 17, 18, 19, 20, 21, 22, 23, 24, 25, 26, 27, 28, 29, 30, 31, 32, 33, 34, 35, 36, 37, 38, 39, 40, 41, 42, 43, 44, 45, 46, 47, 48, 49, 50, 51, 52, 53, 54, 55, 56, 57, 58, 59, 60, 61, 62, 63, 64, 65, 66, 67, 68, 69, 70, 71, 72, 73, 74, 75, 76, 77, 78, 79, 80, 81, 82, 83] 2 k749 k750 k751 k38 k752 rfl (by decide +kernel) ⟨Nat.le_of_ble_eq_true rfl, Nat.le_of_ble_eq_true rfl⟩ ⟨Nat.le_of_ble_eq_true rfl, Nat.le_of_ble_eq_true rfl⟩ dL_law_452 (Nat.le_of_ble_eq_true rfl) 84 rfl rfl rfl (by decide +kernel) (fun _ => rfl) ([(ts, .inr (5, [.ref (a 0), .ref (a1 0), .ref (a2 0), .ref hh, .ref (b 0), .int (nI ks)]))] ++ (stW G a σ d ++ (stW G a1 σ1 d1 ++ (stW G a2 σ2 d2 ++ ([(hh, .inr (0, [.ref ha, .int (nI f), .int (nI n)])), (ha, .inl (G.2.2.2, 4, .inr (.inr (.inr (.inr (fun j => some (hb j 0)))))))] ++ (stW G (hb 0) (hσ 0) (hd 0) ++ (stW G (hb 1) (hσ 1) (hd 1) ++ (stW G (hb 2) (hσ 2) (hd 2) ++ (stW G (hb 3) (hσ 3) (hd 3) ++ txW G b t L lt ms hf fa cu))))))))) rfl (fun _ => rfl) 92 (fun _ => rfl) (by decide +kernel) (by decide +kernel) (fun _ _ => ?_)
    refine J_st (st' := [.int (-1), .int (-1)]) rfl ?_
    refine J_icmp_eq C 660 (by decide) dL_law_455 (fun _ => ?_) (fun h => absurd rfl h)
    exact law_next C i ts a a1 a2 hh b ha hb mo σ d σ1 d1 σ2 d2 hσ hd f n t L lt ms hf fa cu ks kf tf H sf df sp rd gr ih (hLI) hnx
