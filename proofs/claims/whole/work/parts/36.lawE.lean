set_option maxHeartbeats 4000000 in
set_option maxRecDepth 100000 in
theorem law_set {p : Program} {l : Launch} {e : Env} {s : State} {m : MethodId} {below : List Frame} {meth : Method} {c : Code} {Q : State → Prop} {G : GT} {A : Nat → Prop} {bb sL : Nat} {xs : Nat → Int32} (C : Cx p s m #[Value.ref bb] meth c G A 8 cL_law "TwoScribesLaw") (hX : va_X bb sL xs s s.heap) (hbl : bb < s.heap.size) (hbA : ¬ A bb) (hsL : sL ≤ 1536) (i : Nat) (hi : 3 * i + 3 ≤ sL) (ts : Nat) (a a1 a2 : Nat → Nat) (hh : Nat) (b : Nat → Nat) (ha : Nat) (hb : Nat → Nat → Nat) (mo : Nat → Nat) (σ : AS) (d : Nat → Nat) (σ1 : AS) (d1 : Nat → Nat) (σ2 : AS) (d2 : Nat → Nat) (hσ : Nat → AS) (hd : Nat → Nat → Nat) (f n : Nat) (t : Nat → Nat) (L : Nat) (lt ms : Nat → Nat) (hf : Nat) (fa : Int32) (cu : Nat) (ks : Nat) (kf tf H sf df : Nat → Nat) (sp rd : Nat) (gr : Int32) (al ag : Nat) (hXS : XS al ag A s) (hLI : LI σ d σ2 d2 hσ hd f n t L ks H sf) (ih : LG p l e s m below meth c Q G A bb ts a a1 a2 hh b ha hb mo (i + 1)) : J p l e room_1 s m #[Value.ref bb] below meth c Q G A 8 600000 7302250 ([(ts, .inr (5, [.ref (a 0), .ref (a1 0), .ref (a2 0), .ref hh, .ref (b 0), .int (nI ks)]))] ++ (stW G a σ d ++ (stW G a1 σ1 d1 ++ (stW G a2 σ2 d2 ++ ([(hh, .inr (0, [.ref ha, .int (nI f), .int (nI n)])), (ha, .inl (G.2.2.2, 4, .inr (.inr (.inr (.inr (fun j => some (hb j 0)))))))] ++ (stW G (hb 0) (hσ 0) (hd 0) ++ (stW G (hb 1) (hσ 1) (hd 1) ++ (stW G (hb 2) (hσ 2) (hd 2) ++ (stW G (hb 3) (hσ 3) (hd 3) ++ (txW G b t L lt ms hf fa cu ++ mdW G mo σ kf tf H sf df t n ks L sp rd gr)))))))))) [(0, .ref bb), (1, .ref ts), (2, .ref (mo 0)), (3, .int (nI (3 * i)))] 261 [] := by
  obtain ⟨⟨hI, hD, hW, htk⟩, hsn, hf4, hn4, hhis, hL, hchr⟩ := id hLI
  have h40 := hI.a
  have hc := hI.c
  have hnx : 3 * i + 3 < 4096 := by omega
  obtain ⟨x, hxv⟩ : ∃ x, xs (3 * i + 1) = x := ⟨_, rfl⟩
  obtain ⟨y, hyv⟩ : ∃ y, xs (3 * i + 2) = y := ⟨_, rfl⟩
  by_cases hx : 0 ≤ x.toInt ∧ x.toInt ≤ 2
  · skip
    rcases (show x.toInt = 0 ∨ x.toInt = 1 ∨ x.toInt = 2 by omega) with hz | hz | hz
    · skip
      obtain rfl : x = 0 := Int32.toInt_inj.mp (by rw [hz]; decide)
      by_cases hy : 1 ≤ y.toInt ∧ y.toInt ≤ 9
      · skip
        obtain ⟨k, hk1, hk2, rfl⟩ := nat_of 1 9 hy (by decide)
        by_cases he : σ 7 0 = k
        · skip
          refine J_aload_n C rfl dL_law_261 ?_
          refine J_aload_n C rfl dL_law_262 ?_
          refine J_iload_n C rfl dL_law_263 ?_
          refine J_iconst C 1 (by decide) dL_law_264 ?_
          refine J_iadd C dL_law_265 ?_
          refine J_i (nI_add (3 * i) 1 : ((nI (3 * i)) + 1 : Int32) = (nI (3 * i + 1))) ?_
          refine J_sld C hX hbl hbA (3 * i + 1) rfl (by omega) (by omega) dL_law_266 ?_
          refine J_i (hxv : (xs (3 * i + 1) : Int32) = 0) ?_
          refine J_aload_n C rfl dL_law_267 ?_
          refine J_iload_n C rfl dL_law_268 ?_
          refine J_iconst C 2 (by decide) dL_law_269 ?_
          refine J_iadd C dL_law_270 ?_
          refine J_i (nI_add (3 * i) 2 : ((nI (3 * i)) + 2 : Int32) = (nI (3 * i + 2))) ?_
          refine J_sld C hX hbl hbA (3 * i + 2) rfl (by omega) (by omega) dL_law_271 ?_
          refine J_i (hyv : (xs (3 * i + 2) : Int32) = (nI k)) ?_
          refine J_callVX (as := [.int 0, .int (nI k)]) (rest := []) C XS.b (XS.f hXS) (ct_set3_0 l G ts a a1 a2 hh b ks σ d al ag k hI (⟨hk1, hk2⟩) he) (fun u => [(ts, .inr (5, [.ref (a 0), .ref (a1 0), .ref (a2 0), .ref hh, .ref (b 0), .int (nI ks)]))] ++ (stW G a σ d ++ (stW G a1 σ1 d1 ++ (stW G a2 σ2 d2 ++ ([(hh, .inr (0, [.ref ha, .int (nI f), .int (nI n)])), (ha, .inl (G.2.2.2, 4, .inr (.inr (.inr (.inr (fun j => some (hb j 0)))))))] ++ (stW G (hb 0) (hσ 0) (hd 0) ++ (stW G (hb 1) (hσ 1) (hd 1) ++ (stW G (hb 2) (hσ 2) (hd 2) ++ (stW G (hb 3) (hσ 3) (hd 3) ++ (txW G b t L lt ms hf fa cu ++ mdW G mo σ kf tf H sf df t n ks L sp rd gr)))))))))) [0, 1, 2, 3, 4, 5, 6, 7, 8, 9, 10, 11] [12, 13, 14, 15, 16, 17, 18, 19, 20, 21, 22, 23, 24, 25, 26, 27, 28, 29, 30, 31, 32, 33, 34, 35, 36, 37, 38, 39, 40, 41, 42, 43, 44, 45, 46, 47, 48, 49, 50, 51, 52, 53, 54, 55, 56, 57, 58, 59, 60, 61, 62, 63, 64, 65, 66, 67, 68, 69, 70, 71, 72, 73, 74, 75, 76, 77, 78, 79, 80, 81, 82, 83, 84, 85, 86, 87, 88, 89, 90, 91] 2 k426 k427 k428 k32 k429 rfl (by decide +kernel) ⟨Nat.le_of_ble_eq_true rfl, Nat.le_of_ble_eq_true rfl⟩ ⟨Nat.le_of_ble_eq_true rfl, Nat.le_of_ble_eq_true rfl⟩ dL_law_272 (Nat.le_of_ble_eq_true rfl) 0 rfl rfl rfl (by decide +kernel) (fun _ => rfl) (stW G a1 σ1 d1 ++ (stW G a2 σ2 d2 ++ ([(hh, .inr (0, [.ref ha, .int (nI f), .int (nI n)])), (ha, .inl (G.2.2.2, 4, .inr (.inr (.inr (.inr (fun j => some (hb j 0)))))))] ++ (stW G (hb 0) (hσ 0) (hd 0) ++ (stW G (hb 1) (hσ 1) (hd 1) ++ (stW G (hb 2) (hσ 2) (hd 2) ++ (stW G (hb 3) (hσ 3) (hd 3) ++ (txW G b t L lt ms hf fa cu ++ mdW G mo σ kf tf H sf df t n ks L sp rd gr)))))))) rfl (fun _ => rfl) 92 (fun _ => rfl) (by decide +kernel) (by decide +kernel) (fun _ _ => ?_)
          refine J_st (st' := [.int (-5)]) rfl ?_
          refine J_aload_n C rfl dL_law_275 ?_
          refine J_aload_n C rfl dL_law_276 ?_
          refine J_iload_n C rfl dL_law_277 ?_
          refine J_iconst C 1 (by decide) dL_law_278 ?_
          refine J_iadd C dL_law_279 ?_
          refine J_i (nI_add (3 * i) 1 : ((nI (3 * i)) + 1 : Int32) = (nI (3 * i + 1))) ?_
          refine J_sld C hX hbl hbA (3 * i + 1) rfl (by omega) (by omega) dL_law_280 ?_
          refine J_i (hxv : (xs (3 * i + 1) : Int32) = 0) ?_
          refine J_aload_n C rfl dL_law_281 ?_
          refine J_iload_n C rfl dL_law_282 ?_
          refine J_iconst C 2 (by decide) dL_law_283 ?_
          refine J_iadd C dL_law_284 ?_
          refine J_i (nI_add (3 * i) 2 : ((nI (3 * i)) + 2 : Int32) = (nI (3 * i + 2))) ?_
          refine J_sld C hX hbl hbA (3 * i + 2) rfl (by omega) (by omega) dL_law_285 ?_
          refine J_i (hyv : (xs (3 * i + 2) : Int32) = (nI k)) ?_
          refine J_callV (as := [.int 0, .int (nI k)]) (rest := [.int (-5)]) C (ct_mSet3_0 l G mo σ kf tf H sf df t n ks L sp rd gr k hI (⟨hk1, hk2⟩) he) (fun u => [(ts, .inr (5, [.ref (a 0), .ref (a1 0), .ref (a2 0), .ref hh, .ref (b 0), .int (nI ks)]))] ++ (stW G a σ d ++ (stW G a1 σ1 d1 ++ (stW G a2 σ2 d2 ++ ([(hh, .inr (0, [.ref ha, .int (nI f), .int (nI n)])), (ha, .inl (G.2.2.2, 4, .inr (.inr (.inr (.inr (fun j => some (hb j 0)))))))] ++ (stW G (hb 0) (hσ 0) (hd 0) ++ (stW G (hb 1) (hσ 1) (hd 1) ++ (stW G (hb 2) (hσ 2) (hd 2) ++ (stW G (hb 3) (hσ 3) (hd 3) ++ (txW G b t L lt ms hf fa cu ++ mdW G mo σ kf tf H sf df t n ks L sp rd gr)))))))))) [84, 85, 86, 87, 88, 89, 90, 91] [0, 1, 2, 3, 4, 5, 6, 7, 8, 9, 10, 11, 12, 13, 14, 15, 16, 17, 18, 19, 20, 21, 22, 23, 24, 25, 26, 27, 28, 29, 30, 31, 32, 33, 34, 35, 36, 37, 38, 39, 40, 41, 42, 43, 44, 45, 46, 47, 48, 49, 50, 51, 52, 53, 54, 55, 56, 57, 58, 59, 60, 61, 62, 63, 64, 65, 66, 67, 68, 69, 70, 71, 72, 73, 74, 75, 76, 77, 78, 79, 80, 81, 82, 83] 2 k692 k693 k694 k38 k695 rfl (by decide +kernel) ⟨Nat.le_of_ble_eq_true rfl, Nat.le_of_ble_eq_true rfl⟩ ⟨Nat.le_of_ble_eq_true rfl, Nat.le_of_ble_eq_true rfl⟩ dL_law_286 (Nat.le_of_ble_eq_true rfl) 84 rfl rfl rfl (by decide +kernel) (fun _ => rfl) ([(ts, .inr (5, [.ref (a 0), .ref (a1 0), .ref (a2 0), .ref hh, .ref (b 0), .int (nI ks)]))] ++ (stW G a σ d ++ (stW G a1 σ1 d1 ++ (stW G a2 σ2 d2 ++ ([(hh, .inr (0, [.ref ha, .int (nI f), .int (nI n)])), (ha, .inl (G.2.2.2, 4, .inr (.inr (.inr (.inr (fun j => some (hb j 0)))))))] ++ (stW G (hb 0) (hσ 0) (hd 0) ++ (stW G (hb 1) (hσ 1) (hd 1) ++ (stW G (hb 2) (hσ 2) (hd 2) ++ (stW G (hb 3) (hσ 3) (hd 3) ++ txW G b t L lt ms hf fa cu))))))))) rfl (fun _ => rfl) 92 (fun _ => rfl) (by decide +kernel) (by decide +kernel) (fun _ _ => ?_)
          refine J_st (st' := [.int (-5), .int (-5)]) rfl ?_
          refine J_icmp_eq C 660 (by decide) dL_law_289 (fun _ => ?_) (fun h => absurd rfl h)
          exact law_next C i ts a a1 a2 hh b ha hb mo σ d σ1 d1 σ2 d2 hσ hd f n t L lt ms hf fa cu ks kf tf H sf df sp rd gr ih (hLI) hnx
        · skip
          refine J_aload_n C rfl dL_law_261 ?_
          refine J_aload_n C rfl dL_law_262 ?_
          refine J_iload_n C rfl dL_law_263 ?_
          refine J_iconst C 1 (by decide) dL_law_264 ?_
          refine J_iadd C dL_law_265 ?_
          refine J_i (nI_add (3 * i) 1 : ((nI (3 * i)) + 1 : Int32) = (nI (3 * i + 1))) ?_
          refine J_sld C hX hbl hbA (3 * i + 1) rfl (by omega) (by omega) dL_law_266 ?_
          refine J_i (hxv : (xs (3 * i + 1) : Int32) = 0) ?_
          refine J_aload_n C rfl dL_law_267 ?_
          refine J_iload_n C rfl dL_law_268 ?_
          refine J_iconst C 2 (by decide) dL_law_269 ?_
          refine J_iadd C dL_law_270 ?_
          refine J_i (nI_add (3 * i) 2 : ((nI (3 * i)) + 2 : Int32) = (nI (3 * i + 2))) ?_
          refine J_sld C hX hbl hbA (3 * i + 2) rfl (by omega) (by omega) dL_law_271 ?_
          refine J_i (hyv : (xs (3 * i + 2) : Int32) = (nI k)) ?_
          refine J_callVX (as := [.int 0, .int (nI k)]) (rest := []) C XS.b (XS.f hXS) (ct_setY_0 l G ts a a1 a2 hh b ks σ d ha hb hσ hd f n al ag k hI hf4 hn4 (⟨hk1, hk2⟩) he) (fun u => [(ts, .inr (5, [.ref (a 0), .ref (a1 0), .ref (a2 0), .ref hh, .ref (b 0), .int (nI ks)]))] ++ (stW G a (up2 σ 7 0 k) d ++ (stW G a1 σ1 d1 ++ (stW G a2 σ2 d2 ++ ([(hh, .inr (0, [.ref ha, .int (nI (firstF f n)), .int (nI (sizeF n))])), (ha, .inl (G.2.2.2, 4, .inr (.inr (.inr (.inr (fun j => some (hb j 0)))))))] ++ (stW G (hb 0) ((va_up hσ (slotF f n) σ) 0) ((va_up hd (slotF f n) d) 0) ++ (stW G (hb 1) ((va_up hσ (slotF f n) σ) 1) ((va_up hd (slotF f n) d) 1) ++ (stW G (hb 2) ((va_up hσ (slotF f n) σ) 2) ((va_up hd (slotF f n) d) 2) ++ (stW G (hb 3) ((va_up hσ (slotF f n) σ) 3) ((va_up hd (slotF f n) d) 3) ++ (txW G b t L lt ms hf fa cu ++ mdW G mo σ kf tf H sf df t n ks L sp rd gr)))))))))) [0, 1, 2, 3, 4, 5, 6, 7, 8, 9, 10, 11, 34, 35, 36, 37, 38, 39, 40, 41, 42, 43, 44, 45, 46, 47, 48, 49, 50, 51, 52, 53, 54, 55, 56, 57, 58, 59, 60, 61, 62, 63, 64, 65, 66, 67, 68, 69, 70, 71, 72, 73, 74, 75, 76, 77, 78, 79] [12, 13, 14, 15, 16, 17, 18, 19, 20, 21, 22, 23, 24, 25, 26, 27, 28, 29, 30, 31, 32, 33, 80, 81, 82, 83, 84, 85, 86, 87, 88, 89, 90, 91] 2 k426 k427 k428 k32 k429 rfl (by decide +kernel) ⟨Nat.le_of_ble_eq_true rfl, Nat.le_of_ble_eq_true rfl⟩ ⟨Nat.le_of_ble_eq_true rfl, Nat.le_of_ble_eq_true rfl⟩ dL_law_272 (Nat.le_of_ble_eq_true rfl) 0 rfl rfl rfl (by decide +kernel) (fun _ => rfl) (stW G a1 σ1 d1 ++ (stW G a2 σ2 d2 ++ (txW G b t L lt ms hf fa cu ++ mdW G mo σ kf tf H sf df t n ks L sp rd gr))) rfl (fun _ => rfl) 92 (fun _ => rfl) (by decide +kernel) (by decide +kernel) (fun _ _ => ?_)
          refine J_st (st' := [.int (nI (σ 7 0))]) rfl ?_
          refine J_aload_n C rfl dL_law_275 ?_
          refine J_aload_n C rfl dL_law_276 ?_
          refine J_iload_n C rfl dL_law_277 ?_
          refine J_iconst C 1 (by decide) dL_law_278 ?_
          refine J_iadd C dL_law_279 ?_
          refine J_i (nI_add (3 * i) 1 : ((nI (3 * i)) + 1 : Int32) = (nI (3 * i + 1))) ?_
          refine J_sld C hX hbl hbA (3 * i + 1) rfl (by omega) (by omega) dL_law_280 ?_
          refine J_i (hxv : (xs (3 * i + 1) : Int32) = 0) ?_
          refine J_aload_n C rfl dL_law_281 ?_
          refine J_iload_n C rfl dL_law_282 ?_
          refine J_iconst C 2 (by decide) dL_law_283 ?_
          refine J_iadd C dL_law_284 ?_
          refine J_i (nI_add (3 * i) 2 : ((nI (3 * i)) + 2 : Int32) = (nI (3 * i + 2))) ?_
          refine J_sld C hX hbl hbA (3 * i + 2) rfl (by omega) (by omega) dL_law_285 ?_
          refine J_i (hyv : (xs (3 * i + 2) : Int32) = (nI k)) ?_
          refine J_callV (as := [.int 0, .int (nI k)]) (rest := [.int (nI (σ 7 0))]) C (ct_mSetY_0 l G mo σ kf tf H sf df t n ks L sp rd gr k hI hn4 (⟨hk1, hk2⟩) he) (fun u => [(ts, .inr (5, [.ref (a 0), .ref (a1 0), .ref (a2 0), .ref hh, .ref (b 0), .int (nI ks)]))] ++ (stW G a (up2 σ 7 0 k) d ++ (stW G a1 σ1 d1 ++ (stW G a2 σ2 d2 ++ ([(hh, .inr (0, [.ref ha, .int (nI (firstF f n)), .int (nI (sizeF n))])), (ha, .inl (G.2.2.2, 4, .inr (.inr (.inr (.inr (fun j => some (hb j 0)))))))] ++ (stW G (hb 0) ((va_up hσ (slotF f n) σ) 0) ((va_up hd (slotF f n) d) 0) ++ (stW G (hb 1) ((va_up hσ (slotF f n) σ) 1) ((va_up hd (slotF f n) d) 1) ++ (stW G (hb 2) ((va_up hσ (slotF f n) σ) 2) ((va_up hd (slotF f n) d) 2) ++ (stW G (hb 3) ((va_up hσ (slotF f n) σ) 3) ((va_up hd (slotF f n) d) 3) ++ (txW G b t L lt ms hf fa cu ++ mdW G mo (up2 σ 7 0 k) (rowM σ) tf (endH H (rowM σ) n) sf df t (sizeF n) ks L sp rd gr)))))))))) [84, 85, 86, 87, 88, 89, 90, 91] [0, 1, 2, 3, 4, 5, 6, 7, 8, 9, 10, 11, 12, 13, 14, 15, 16, 17, 18, 19, 20, 21, 22, 23, 24, 25, 26, 27, 28, 29, 30, 31, 32, 33, 34, 35, 36, 37, 38, 39, 40, 41, 42, 43, 44, 45, 46, 47, 48, 49, 50, 51, 52, 53, 54, 55, 56, 57, 58, 59, 60, 61, 62, 63, 64, 65, 66, 67, 68, 69, 70, 71, 72, 73, 74, 75, 76, 77, 78, 79, 80, 81, 82, 83] 2 k692 k693 k694 k38 k695 rfl (by decide +kernel) ⟨Nat.le_of_ble_eq_true rfl, Nat.le_of_ble_eq_true rfl⟩ ⟨Nat.le_of_ble_eq_true rfl, Nat.le_of_ble_eq_true rfl⟩ dL_law_286 (Nat.le_of_ble_eq_true rfl) 84 rfl rfl rfl (by decide +kernel) (fun _ => rfl) ([(ts, .inr (5, [.ref (a 0), .ref (a1 0), .ref (a2 0), .ref hh, .ref (b 0), .int (nI ks)]))] ++ (stW G a (up2 σ 7 0 k) d ++ (stW G a1 σ1 d1 ++ (stW G a2 σ2 d2 ++ ([(hh, .inr (0, [.ref ha, .int (nI (firstF f n)), .int (nI (sizeF n))])), (ha, .inl (G.2.2.2, 4, .inr (.inr (.inr (.inr (fun j => some (hb j 0)))))))] ++ (stW G (hb 0) ((va_up hσ (slotF f n) σ) 0) ((va_up hd (slotF f n) d) 0) ++ (stW G (hb 1) ((va_up hσ (slotF f n) σ) 1) ((va_up hd (slotF f n) d) 1) ++ (stW G (hb 2) ((va_up hσ (slotF f n) σ) 2) ((va_up hd (slotF f n) d) 2) ++ (stW G (hb 3) ((va_up hσ (slotF f n) σ) 3) ((va_up hd (slotF f n) d) 3) ++ txW G b t L lt ms hf fa cu))))))))) rfl (fun _ => rfl) 92 (fun _ => rfl) (by decide +kernel) (by decide +kernel) (fun _ _ => ?_)
          refine J_st (st' := [.int (nI (σ 7 0)), .int (nI (σ 7 0))]) rfl ?_
          refine J_icmp_eq C 660 (by decide) dL_law_289 (fun _ => ?_) (fun h => absurd rfl h)
          exact law_next C i ts a a1 a2 hh b ha hb mo (up2 σ 7 0 k) d σ1 d1 σ2 d2 (va_up hσ (slotF f n) σ) (va_up hd (slotF f n) d) (firstF f n) (sizeF n) t L lt ms hf fa cu ks (rowM σ) tf (endH H (rowM σ) n) sf df sp rd gr ih (hLI.act (hLI.1.set0 ⟨hk1, hk2⟩)) hnx
      · skip
        refine J_aload_n C rfl dL_law_261 ?_
        refine J_aload_n C rfl dL_law_262 ?_
        refine J_iload_n C rfl dL_law_263 ?_
        refine J_iconst C 1 (by decide) dL_law_264 ?_
        refine J_iadd C dL_law_265 ?_
        refine J_i (nI_add (3 * i) 1 : ((nI (3 * i)) + 1 : Int32) = (nI (3 * i + 1))) ?_
        refine J_sld C hX hbl hbA (3 * i + 1) rfl (by omega) (by omega) dL_law_266 ?_
        refine J_i (hxv : (xs (3 * i + 1) : Int32) = 0) ?_
        refine J_aload_n C rfl dL_law_267 ?_
        refine J_iload_n C rfl dL_law_268 ?_
        refine J_iconst C 2 (by decide) dL_law_269 ?_
        refine J_iadd C dL_law_270 ?_
        refine J_i (nI_add (3 * i) 2 : ((nI (3 * i)) + 2 : Int32) = (nI (3 * i + 2))) ?_
        refine J_sld C hX hbl hbA (3 * i + 2) rfl (by omega) (by omega) dL_law_271 ?_
        refine J_i (hyv : (xs (3 * i + 2) : Int32) = y) ?_
        refine J_callVX (as := [.int 0, .int y]) (rest := []) C XS.b (XS.f hXS) (ct_set2_0 l G ts a a1 a2 hh b ks σ d al ag y hy) (fun u => [(ts, .inr (5, [.ref (a 0), .ref (a1 0), .ref (a2 0), .ref hh, .ref (b 0), .int (nI ks)]))] ++ (stW G a σ d ++ (stW G a1 σ1 d1 ++ (stW G a2 σ2 d2 ++ ([(hh, .inr (0, [.ref ha, .int (nI f), .int (nI n)])), (ha, .inl (G.2.2.2, 4, .inr (.inr (.inr (.inr (fun j => some (hb j 0)))))))] ++ (stW G (hb 0) (hσ 0) (hd 0) ++ (stW G (hb 1) (hσ 1) (hd 1) ++ (stW G (hb 2) (hσ 2) (hd 2) ++ (stW G (hb 3) (hσ 3) (hd 3) ++ (txW G b t L lt ms hf fa cu ++ mdW G mo σ kf tf H sf df t n ks L sp rd gr)))))))))) [0, 1, 2, 3, 4, 5, 6, 7, 8, 9, 10, 11] [12, 13, 14, 15, 16, 17, 18, 19, 20, 21, 22, 23, 24, 25, 26, 27, 28, 29, 30, 31, 32, 33, 34, 35, 36, 37, 38, 39, 40, 41, 42, 43, 44, 45, 46, 47, 48, 49, 50, 51, 52, 53, 54, 55, 56, 57, 58, 59, 60, 61, 62, 63, 64, 65, 66, 67, 68, 69, 70, 71, 72, 73, 74, 75, 76, 77, 78, 79, 80, 81, 82, 83, 84, 85, 86, 87, 88, 89, 90, 91] 2 k426 k427 k428 k32 k429 rfl (by decide +kernel) ⟨Nat.le_of_ble_eq_true rfl, Nat.le_of_ble_eq_true rfl⟩ ⟨Nat.le_of_ble_eq_true rfl, Nat.le_of_ble_eq_true rfl⟩ dL_law_272 (Nat.le_of_ble_eq_true rfl) 0 rfl rfl rfl (by decide +kernel) (fun _ => rfl) (stW G a1 σ1 d1 ++ (stW G a2 σ2 d2 ++ ([(hh, .inr (0, [.ref ha, .int (nI f), .int (nI n)])), (ha, .inl (G.2.2.2, 4, .inr (.inr (.inr (.inr (fun j => some (hb j 0)))))))] ++ (stW G (hb 0) (hσ 0) (hd 0) ++ (stW G (hb 1) (hσ 1) (hd 1) ++ (stW G (hb 2) (hσ 2) (hd 2) ++ (stW G (hb 3) (hσ 3) (hd 3) ++ (txW G b t L lt ms hf fa cu ++ mdW G mo σ kf tf H sf df t n ks L sp rd gr)))))))) rfl (fun _ => rfl) 92 (fun _ => rfl) (by decide +kernel) (by decide +kernel) (fun _ _ => ?_)
        refine J_st (st' := [.int (-2)]) rfl ?_
        refine J_aload_n C rfl dL_law_275 ?_
        refine J_aload_n C rfl dL_law_276 ?_
        refine J_iload_n C rfl dL_law_277 ?_
        refine J_iconst C 1 (by decide) dL_law_278 ?_
        refine J_iadd C dL_law_279 ?_
        refine J_i (nI_add (3 * i) 1 : ((nI (3 * i)) + 1 : Int32) = (nI (3 * i + 1))) ?_
        refine J_sld C hX hbl hbA (3 * i + 1) rfl (by omega) (by omega) dL_law_280 ?_
        refine J_i (hxv : (xs (3 * i + 1) : Int32) = 0) ?_
        refine J_aload_n C rfl dL_law_281 ?_
        refine J_iload_n C rfl dL_law_282 ?_
        refine J_iconst C 2 (by decide) dL_law_283 ?_
        refine J_iadd C dL_law_284 ?_
        refine J_i (nI_add (3 * i) 2 : ((nI (3 * i)) + 2 : Int32) = (nI (3 * i + 2))) ?_
        refine J_sld C hX hbl hbA (3 * i + 2) rfl (by omega) (by omega) dL_law_285 ?_
        refine J_i (hyv : (xs (3 * i + 2) : Int32) = y) ?_
        refine J_callV (as := [.int 0, .int y]) (rest := [.int (-2)]) C (ct_mSet2_0 l G mo σ kf tf H sf df t n ks L sp rd gr y hy) (fun u => [(ts, .inr (5, [.ref (a 0), .ref (a1 0), .ref (a2 0), .ref hh, .ref (b 0), .int (nI ks)]))] ++ (stW G a σ d ++ (stW G a1 σ1 d1 ++ (stW G a2 σ2 d2 ++ ([(hh, .inr (0, [.ref ha, .int (nI f), .int (nI n)])), (ha, .inl (G.2.2.2, 4, .inr (.inr (.inr (.inr (fun j => some (hb j 0)))))))] ++ (stW G (hb 0) (hσ 0) (hd 0) ++ (stW G (hb 1) (hσ 1) (hd 1) ++ (stW G (hb 2) (hσ 2) (hd 2) ++ (stW G (hb 3) (hσ 3) (hd 3) ++ (txW G b t L lt ms hf fa cu ++ mdW G mo σ kf tf H sf df t n ks L sp rd gr)))))))))) [84, 85, 86, 87, 88, 89, 90, 91] [0, 1, 2, 3, 4, 5, 6, 7, 8, 9, 10, 11, 12, 13, 14, 15, 16, 17, 18, 19, 20, 21, 22, 23, 24, 25, 26, 27, 28, 29, 30, 31, 32, 33, 34, 35, 36, 37, 38, 39, 40, 41, 42, 43, 44, 45, 46, 47, 48, 49, 50, 51, 52, 53, 54, 55, 56, 57, 58, 59, 60, 61, 62, 63, 64, 65, 66, 67, 68, 69, 70, 71, 72, 73, 74, 75, 76, 77, 78, 79, 80, 81, 82, 83] 2 k692 k693 k694 k38 k695 rfl (by decide +kernel) ⟨Nat.le_of_ble_eq_true rfl, Nat.le_of_ble_eq_true rfl⟩ ⟨Nat.le_of_ble_eq_true rfl, Nat.le_of_ble_eq_true rfl⟩ dL_law_286 (Nat.le_of_ble_eq_true rfl) 84 rfl rfl rfl (by decide +kernel) (fun _ => rfl) ([(ts, .inr (5, [.ref (a 0), .ref (a1 0), .ref (a2 0), .ref hh, .ref (b 0), .int (nI ks)]))] ++ (stW G a σ d ++ (stW G a1 σ1 d1 ++ (stW G a2 σ2 d2 ++ ([(hh, .inr (0, [.ref ha, .int (nI f), .int (nI n)])), (ha, .inl (G.2.2.2, 4, .inr (.inr (.inr (.inr (fun j => some (hb j 0)))))))] ++ (stW G (hb 0) (hσ 0) (hd 0) ++ (stW G (hb 1) (hσ 1) (hd 1) ++ (stW G (hb 2) (hσ 2) (hd 2) ++ (stW G (hb 3) (hσ 3) (hd 3) ++ txW G b t L lt ms hf fa cu))))))))) rfl (fun _ => rfl) 92 (fun _ => rfl) (by decide +kernel) (by decide +kernel) (fun _ _ => ?_)
        refine J_st (st' := [.int (-2), .int (-2)]) rfl ?_
        refine J_icmp_eq C 660 (by decide) dL_law_289 (fun _ => ?_) (fun h => absurd rfl h)
        exact law_next C i ts a a1 a2 hh b ha hb mo σ d σ1 d1 σ2 d2 hσ hd f n t L lt ms hf fa cu ks kf tf H sf df sp rd gr ih (hLI) hnx
    · skip
      obtain rfl : x = 1 := Int32.toInt_inj.mp (by rw [hz]; decide)
      by_cases hy : 0 ≤ y.toInt ∧ y.toInt ≤ 8
      · skip
        obtain ⟨k, hk1, hk2, rfl⟩ := nat_of 0 8 hy (by decide)
        by_cases he : σ 7 1 = k
        · skip
          refine J_aload_n C rfl dL_law_261 ?_
          refine J_aload_n C rfl dL_law_262 ?_
          refine J_iload_n C rfl dL_law_263 ?_
          refine J_iconst C 1 (by decide) dL_law_264 ?_
          refine J_iadd C dL_law_265 ?_
          refine J_i (nI_add (3 * i) 1 : ((nI (3 * i)) + 1 : Int32) = (nI (3 * i + 1))) ?_
          refine J_sld C hX hbl hbA (3 * i + 1) rfl (by omega) (by omega) dL_law_266 ?_
          refine J_i (hxv : (xs (3 * i + 1) : Int32) = 1) ?_
          refine J_aload_n C rfl dL_law_267 ?_
          refine J_iload_n C rfl dL_law_268 ?_
          refine J_iconst C 2 (by decide) dL_law_269 ?_
          refine J_iadd C dL_law_270 ?_
          refine J_i (nI_add (3 * i) 2 : ((nI (3 * i)) + 2 : Int32) = (nI (3 * i + 2))) ?_
          refine J_sld C hX hbl hbA (3 * i + 2) rfl (by omega) (by omega) dL_law_271 ?_
          refine J_i (hyv : (xs (3 * i + 2) : Int32) = (nI k)) ?_
          refine J_callVX (as := [.int 1, .int (nI k)]) (rest := []) C XS.b (XS.f hXS) (ct_set3_1 l G ts a a1 a2 hh b ks σ d al ag k hI (⟨hk1, hk2⟩) he) (fun u => [(ts, .inr (5, [.ref (a 0), .ref (a1 0), .ref (a2 0), .ref hh, .ref (b 0), .int (nI ks)]))] ++ (stW G a σ d ++ (stW G a1 σ1 d1 ++ (stW G a2 σ2 d2 ++ ([(hh, .inr (0, [.ref ha, .int (nI f), .int (nI n)])), (ha, .inl (G.2.2.2, 4, .inr (.inr (.inr (.inr (fun j => some (hb j 0)))))))] ++ (stW G (hb 0) (hσ 0) (hd 0) ++ (stW G (hb 1) (hσ 1) (hd 1) ++ (stW G (hb 2) (hσ 2) (hd 2) ++ (stW G (hb 3) (hσ 3) (hd 3) ++ (txW G b t L lt ms hf fa cu ++ mdW G mo σ kf tf H sf df t n ks L sp rd gr)))))))))) [0, 1, 2, 3, 4, 5, 6, 7, 8, 9, 10, 11] [12, 13, 14, 15, 16, 17, 18, 19, 20, 21, 22, 23, 24, 25, 26, 27, 28, 29, 30, 31, 32, 33, 34, 35, 36, 37, 38, 39, 40, 41, 42, 43, 44, 45, 46, 47, 48, 49, 50, 51, 52, 53, 54, 55, 56, 57, 58, 59, 60, 61, 62, 63, 64, 65, 66, 67, 68, 69, 70, 71, 72, 73, 74, 75, 76, 77, 78, 79, 80, 81, 82, 83, 84, 85, 86, 87, 88, 89, 90, 91] 2 k426 k427 k428 k32 k429 rfl (by decide +kernel) ⟨Nat.le_of_ble_eq_true rfl, Nat.le_of_ble_eq_true rfl⟩ ⟨Nat.le_of_ble_eq_true rfl, Nat.le_of_ble_eq_true rfl⟩ dL_law_272 (Nat.le_of_ble_eq_true rfl) 0 rfl rfl rfl (by decide +kernel) (fun _ => rfl) (stW G a1 σ1 d1 ++ (stW G a2 σ2 d2 ++ ([(hh, .inr (0, [.ref ha, .int (nI f), .int (nI n)])), (ha, .inl (G.2.2.2, 4, .inr (.inr (.inr (.inr (fun j => some (hb j 0)))))))] ++ (stW G (hb 0) (hσ 0) (hd 0) ++ (stW G (hb 1) (hσ 1) (hd 1) ++ (stW G (hb 2) (hσ 2) (hd 2) ++ (stW G (hb 3) (hσ 3) (hd 3) ++ (txW G b t L lt ms hf fa cu ++ mdW G mo σ kf tf H sf df t n ks L sp rd gr)))))))) rfl (fun _ => rfl) 92 (fun _ => rfl) (by decide +kernel) (by decide +kernel) (fun _ _ => ?_)
          refine J_st (st' := [.int (-5)]) rfl ?_
          refine J_aload_n C rfl dL_law_275 ?_
          refine J_aload_n C rfl dL_law_276 ?_
          refine J_iload_n C rfl dL_law_277 ?_
          refine J_iconst C 1 (by decide) dL_law_278 ?_
          refine J_iadd C dL_law_279 ?_
          refine J_i (nI_add (3 * i) 1 : ((nI (3 * i)) + 1 : Int32) = (nI (3 * i + 1))) ?_
          refine J_sld C hX hbl hbA (3 * i + 1) rfl (by omega) (by omega) dL_law_280 ?_
          refine J_i (hxv : (xs (3 * i + 1) : Int32) = 1) ?_
          refine J_aload_n C rfl dL_law_281 ?_
          refine J_iload_n C rfl dL_law_282 ?_
          refine J_iconst C 2 (by decide) dL_law_283 ?_
          refine J_iadd C dL_law_284 ?_
          refine J_i (nI_add (3 * i) 2 : ((nI (3 * i)) + 2 : Int32) = (nI (3 * i + 2))) ?_
          refine J_sld C hX hbl hbA (3 * i + 2) rfl (by omega) (by omega) dL_law_285 ?_
          refine J_i (hyv : (xs (3 * i + 2) : Int32) = (nI k)) ?_
          refine J_callV (as := [.int 1, .int (nI k)]) (rest := [.int (-5)]) C (ct_mSet3_1 l G mo σ kf tf H sf df t n ks L sp rd gr k hI (⟨hk1, hk2⟩) he) (fun u => [(ts, .inr (5, [.ref (a 0), .ref (a1 0), .ref (a2 0), .ref hh, .ref (b 0), .int (nI ks)]))] ++ (stW G a σ d ++ (stW G a1 σ1 d1 ++ (stW G a2 σ2 d2 ++ ([(hh, .inr (0, [.ref ha, .int (nI f), .int (nI n)])), (ha, .inl (G.2.2.2, 4, .inr (.inr (.inr (.inr (fun j => some (hb j 0)))))))] ++ (stW G (hb 0) (hσ 0) (hd 0) ++ (stW G (hb 1) (hσ 1) (hd 1) ++ (stW G (hb 2) (hσ 2) (hd 2) ++ (stW G (hb 3) (hσ 3) (hd 3) ++ (txW G b t L lt ms hf fa cu ++ mdW G mo σ kf tf H sf df t n ks L sp rd gr)))))))))) [84, 85, 86, 87, 88, 89, 90, 91] [0, 1, 2, 3, 4, 5, 6, 7, 8, 9, 10, 11, 12, 13, 14, 15, 16, 17, 18, 19, 20, 21, 22, 23, 24, 25, 26, 27, 28, 29, 30, 31, 32, 33, 34, 35, 36, 37, 38, 39, 40, 41, 42, 43, 44, 45, 46, 47, 48, 49, 50, 51, 52, 53, 54, 55, 56, 57, 58, 59, 60, 61, 62, 63, 64, 65, 66, 67, 68, 69, 70, 71, 72, 73, 74, 75, 76, 77, 78, 79, 80, 81, 82, 83] 2 k692 k693 k694 k38 k695 rfl (by decide +kernel) ⟨Nat.le_of_ble_eq_true rfl, Nat.le_of_ble_eq_true rfl⟩ ⟨Nat.le_of_ble_eq_true rfl, Nat.le_of_ble_eq_true rfl⟩ dL_law_286 (Nat.le_of_ble_eq_true rfl) 84 rfl rfl rfl (by decide +kernel) (fun _ => rfl) ([(ts, .inr (5, [.ref (a 0), .ref (a1 0), .ref (a2 0), .ref hh, .ref (b 0), .int (nI ks)]))] ++ (stW G a σ d ++ (stW G a1 σ1 d1 ++ (stW G a2 σ2 d2 ++ ([(hh, .inr (0, [.ref ha, .int (nI f), .int (nI n)])), (ha, .inl (G.2.2.2, 4, .inr (.inr (.inr (.inr (fun j => some (hb j 0)))))))] ++ (stW G (hb 0) (hσ 0) (hd 0) ++ (stW G (hb 1) (hσ 1) (hd 1) ++ (stW G (hb 2) (hσ 2) (hd 2) ++ (stW G (hb 3) (hσ 3) (hd 3) ++ txW G b t L lt ms hf fa cu))))))))) rfl (fun _ => rfl) 92 (fun _ => rfl) (by decide +kernel) (by decide +kernel) (fun _ _ => ?_)
          refine J_st (st' := [.int (-5), .int (-5)]) rfl ?_
          refine J_icmp_eq C 660 (by decide) dL_law_289 (fun _ => ?_) (fun h => absurd rfl h)
          exact law_next C i ts a a1 a2 hh b ha hb mo σ d σ1 d1 σ2 d2 hσ hd f n t L lt ms hf fa cu ks kf tf H sf df sp rd gr ih (hLI) hnx
        · skip
          refine J_aload_n C rfl dL_law_261 ?_
          refine J_aload_n C rfl dL_law_262 ?_
          refine J_iload_n C rfl dL_law_263 ?_
          refine J_iconst C 1 (by decide) dL_law_264 ?_
          refine J_iadd C dL_law_265 ?_
          refine J_i (nI_add (3 * i) 1 : ((nI (3 * i)) + 1 : Int32) = (nI (3 * i + 1))) ?_
          refine J_sld C hX hbl hbA (3 * i + 1) rfl (by omega) (by omega) dL_law_266 ?_
          refine J_i (hxv : (xs (3 * i + 1) : Int32) = 1) ?_
          refine J_aload_n C rfl dL_law_267 ?_
          refine J_iload_n C rfl dL_law_268 ?_
          refine J_iconst C 2 (by decide) dL_law_269 ?_
          refine J_iadd C dL_law_270 ?_
          refine J_i (nI_add (3 * i) 2 : ((nI (3 * i)) + 2 : Int32) = (nI (3 * i + 2))) ?_
          refine J_sld C hX hbl hbA (3 * i + 2) rfl (by omega) (by omega) dL_law_271 ?_
          refine J_i (hyv : (xs (3 * i + 2) : Int32) = (nI k)) ?_
          refine J_callVX (as := [.int 1, .int (nI k)]) (rest := []) C XS.b (XS.f hXS) (ct_setY_1 l G ts a a1 a2 hh b ks σ d ha hb hσ hd f n al ag k hI hf4 hn4 (⟨hk1, hk2⟩) he) (fun u => [(ts, .inr (5, [.ref (a 0), .ref (a1 0), .ref (a2 0), .ref hh, .ref (b 0), .int (nI ks)]))] ++ (stW G a (up2 σ 7 1 k) d ++ (stW G a1 σ1 d1 ++ (stW G a2 σ2 d2 ++ ([(hh, .inr (0, [.ref ha, .int (nI (firstF f n)), .int (nI (sizeF n))])), (ha, .inl (G.2.2.2, 4, .inr (.inr (.inr (.inr (fun j => some (hb j 0)))))))] ++ (stW G (hb 0) ((va_up hσ (slotF f n) σ) 0) ((va_up hd (slotF f n) d) 0) ++ (stW G (hb 1) ((va_up hσ (slotF f n) σ) 1) ((va_up hd (slotF f n) d) 1) ++ (stW G (hb 2) ((va_up hσ (slotF f n) σ) 2) ((va_up hd (slotF f n) d) 2) ++ (stW G (hb 3) ((va_up hσ (slotF f n) σ) 3) ((va_up hd (slotF f n) d) 3) ++ (txW G b t L lt ms hf fa cu ++ mdW G mo σ kf tf H sf df t n ks L sp rd gr)))))))))) [0, 1, 2, 3, 4, 5, 6, 7, 8, 9, 10, 11, 34, 35, 36, 37, 38, 39, 40, 41, 42, 43, 44, 45, 46, 47, 48, 49, 50, 51, 52, 53, 54, 55, 56, 57, 58, 59, 60, 61, 62, 63, 64, 65, 66, 67, 68, 69, 70, 71, 72, 73, 74, 75, 76, 77, 78, 79] [12, 13, 14, 15, 16, 17, 18, 19, 20, 21, 22, 23, 24, 25, 26, 27, 28, 29, 30, 31, 32, 33, 80, 81, 82, 83, 84, 85, 86, 87, 88, 89, 90, 91] 2 k426 k427 k428 k32 k429 rfl (by decide +kernel) ⟨Nat.le_of_ble_eq_true rfl, Nat.le_of_ble_eq_true rfl⟩ ⟨Nat.le_of_ble_eq_true rfl, Nat.le_of_ble_eq_true rfl⟩ dL_law_272 (Nat.le_of_ble_eq_true rfl) 0 rfl rfl rfl (by decide +kernel) (fun _ => rfl) (stW G a1 σ1 d1 ++ (stW G a2 σ2 d2 ++ (txW G b t L lt ms hf fa cu ++ mdW G mo σ kf tf H sf df t n ks L sp rd gr))) rfl (fun _ => rfl) 92 (fun _ => rfl) (by decide +kernel) (by decide +kernel) (fun _ _ => ?_)
          refine J_st (st' := [.int (nI (σ 7 1))]) rfl ?_
          refine J_aload_n C rfl dL_law_275 ?_
          refine J_aload_n C rfl dL_law_276 ?_
          refine J_iload_n C rfl dL_law_277 ?_
          refine J_iconst C 1 (by decide) dL_law_278 ?_
          refine J_iadd C dL_law_279 ?_
          refine J_i (nI_add (3 * i) 1 : ((nI (3 * i)) + 1 : Int32) = (nI (3 * i + 1))) ?_
          refine J_sld C hX hbl hbA (3 * i + 1) rfl (by omega) (by omega) dL_law_280 ?_
          refine J_i (hxv : (xs (3 * i + 1) : Int32) = 1) ?_
          refine J_aload_n C rfl dL_law_281 ?_
          refine J_iload_n C rfl dL_law_282 ?_
          refine J_iconst C 2 (by decide) dL_law_283 ?_
          refine J_iadd C dL_law_284 ?_
          refine J_i (nI_add (3 * i) 2 : ((nI (3 * i)) + 2 : Int32) = (nI (3 * i + 2))) ?_
          refine J_sld C hX hbl hbA (3 * i + 2) rfl (by omega) (by omega) dL_law_285 ?_
          refine J_i (hyv : (xs (3 * i + 2) : Int32) = (nI k)) ?_
          refine J_callV (as := [.int 1, .int (nI k)]) (rest := [.int (nI (σ 7 1))]) C (ct_mSetY_1 l G mo σ kf tf H sf df t n ks L sp rd gr k hI hn4 (⟨hk1, hk2⟩) he) (fun u => [(ts, .inr (5, [.ref (a 0), .ref (a1 0), .ref (a2 0), .ref hh, .ref (b 0), .int (nI ks)]))] ++ (stW G a (up2 σ 7 1 k) d ++ (stW G a1 σ1 d1 ++ (stW G a2 σ2 d2 ++ ([(hh, .inr (0, [.ref ha, .int (nI (firstF f n)), .int (nI (sizeF n))])), (ha, .inl (G.2.2.2, 4, .inr (.inr (.inr (.inr (fun j => some (hb j 0)))))))] ++ (stW G (hb 0) ((va_up hσ (slotF f n) σ) 0) ((va_up hd (slotF f n) d) 0) ++ (stW G (hb 1) ((va_up hσ (slotF f n) σ) 1) ((va_up hd (slotF f n) d) 1) ++ (stW G (hb 2) ((va_up hσ (slotF f n) σ) 2) ((va_up hd (slotF f n) d) 2) ++ (stW G (hb 3) ((va_up hσ (slotF f n) σ) 3) ((va_up hd (slotF f n) d) 3) ++ (txW G b t L lt ms hf fa cu ++ mdW G mo (up2 σ 7 1 k) (rowM σ) tf (endH H (rowM σ) n) sf df t (sizeF n) ks L sp rd gr)))))))))) [84, 85, 86, 87, 88, 89, 90, 91] [0, 1, 2, 3, 4, 5, 6, 7, 8, 9, 10, 11, 12, 13, 14, 15, 16, 17, 18, 19, 20, 21, 22, 23, 24, 25, 26, 27, 28, 29, 30, 31, 32, 33, 34, 35, 36, 37, 38, 39, 40, 41, 42, 43, 44, 45, 46, 47, 48, 49, 50, 51, 52, 53, 54, 55, 56, 57, 58, 59, 60, 61, 62, 63, 64, 65, 66, 67, 68, 69, 70, 71, 72, 73, 74, 75, 76, 77, 78, 79, 80, 81, 82, 83] 2 k692 k693 k694 k38 k695 rfl (by decide +kernel) ⟨Nat.le_of_ble_eq_true rfl, Nat.le_of_ble_eq_true rfl⟩ ⟨Nat.le_of_ble_eq_true rfl, Nat.le_of_ble_eq_true rfl⟩ dL_law_286 (Nat.le_of_ble_eq_true rfl) 84 rfl rfl rfl (by decide +kernel) (fun _ => rfl) ([(ts, .inr (5, [.ref (a 0), .ref (a1 0), .ref (a2 0), .ref hh, .ref (b 0), .int (nI ks)]))] ++ (stW G a (up2 σ 7 1 k) d ++ (stW G a1 σ1 d1 ++ (stW G a2 σ2 d2 ++ ([(hh, .inr (0, [.ref ha, .int (nI (firstF f n)), .int (nI (sizeF n))])), (ha, .inl (G.2.2.2, 4, .inr (.inr (.inr (.inr (fun j => some (hb j 0)))))))] ++ (stW G (hb 0) ((va_up hσ (slotF f n) σ) 0) ((va_up hd (slotF f n) d) 0) ++ (stW G (hb 1) ((va_up hσ (slotF f n) σ) 1) ((va_up hd (slotF f n) d) 1) ++ (stW G (hb 2) ((va_up hσ (slotF f n) σ) 2) ((va_up hd (slotF f n) d) 2) ++ (stW G (hb 3) ((va_up hσ (slotF f n) σ) 3) ((va_up hd (slotF f n) d) 3) ++ txW G b t L lt ms hf fa cu))))))))) rfl (fun _ => rfl) 92 (fun _ => rfl) (by decide +kernel) (by decide +kernel) (fun _ _ => ?_)
          refine J_st (st' := [.int (nI (σ 7 1)), .int (nI (σ 7 1))]) rfl ?_
          refine J_icmp_eq C 660 (by decide) dL_law_289 (fun _ => ?_) (fun h => absurd rfl h)
          exact law_next C i ts a a1 a2 hh b ha hb mo (up2 σ 7 1 k) d σ1 d1 σ2 d2 (va_up hσ (slotF f n) σ) (va_up hd (slotF f n) d) (firstF f n) (sizeF n) t L lt ms hf fa cu ks (rowM σ) tf (endH H (rowM σ) n) sf df sp rd gr ih (hLI.act (hLI.1.set1 ⟨hk1, hk2⟩)) hnx
      · skip
        refine J_aload_n C rfl dL_law_261 ?_
        refine J_aload_n C rfl dL_law_262 ?_
        refine J_iload_n C rfl dL_law_263 ?_
        refine J_iconst C 1 (by decide) dL_law_264 ?_
        refine J_iadd C dL_law_265 ?_
        refine J_i (nI_add (3 * i) 1 : ((nI (3 * i)) + 1 : Int32) = (nI (3 * i + 1))) ?_
        refine J_sld C hX hbl hbA (3 * i + 1) rfl (by omega) (by omega) dL_law_266 ?_
        refine J_i (hxv : (xs (3 * i + 1) : Int32) = 1) ?_
        refine J_aload_n C rfl dL_law_267 ?_
        refine J_iload_n C rfl dL_law_268 ?_
        refine J_iconst C 2 (by decide) dL_law_269 ?_
        refine J_iadd C dL_law_270 ?_
        refine J_i (nI_add (3 * i) 2 : ((nI (3 * i)) + 2 : Int32) = (nI (3 * i + 2))) ?_
        refine J_sld C hX hbl hbA (3 * i + 2) rfl (by omega) (by omega) dL_law_271 ?_
        refine J_i (hyv : (xs (3 * i + 2) : Int32) = y) ?_
        refine J_callVX (as := [.int 1, .int y]) (rest := []) C XS.b (XS.f hXS) (ct_set2_1 l G ts a a1 a2 hh b ks σ d al ag y hy) (fun u => [(ts, .inr (5, [.ref (a 0), .ref (a1 0), .ref (a2 0), .ref hh, .ref (b 0), .int (nI ks)]))] ++ (stW G a σ d ++ (stW G a1 σ1 d1 ++ (stW G a2 σ2 d2 ++ ([(hh, .inr (0, [.ref ha, .int (nI f), .int (nI n)])), (ha, .inl (G.2.2.2, 4, .inr (.inr (.inr (.inr (fun j => some (hb j 0)))))))] ++ (stW G (hb 0) (hσ 0) (hd 0) ++ (stW G (hb 1) (hσ 1) (hd 1) ++ (stW G (hb 2) (hσ 2) (hd 2) ++ (stW G (hb 3) (hσ 3) (hd 3) ++ (txW G b t L lt ms hf fa cu ++ mdW G mo σ kf tf H sf df t n ks L sp rd gr)))))))))) [0, 1, 2, 3, 4, 5, 6, 7, 8, 9, 10, 11] [12, 13, 14, 15, 16, 17, 18, 19, 20, 21, 22, 23, 24, 25, 26, 27, 28, 29, 30, 31, 32, 33, 34, 35, 36, 37, 38, 39, 40, 41, 42, 43, 44, 45, 46, 47, 48, 49, 50, 51, 52, 53, 54, 55, 56, 57, 58, 59, 60, 61, 62, 63, 64, 65, 66, 67, 68, 69, 70, 71, 72, 73, 74, 75, 76, 77, 78, 79, 80, 81, 82, 83, 84, 85, 86, 87, 88, 89, 90, 91] 2 k426 k427 k428 k32 k429 rfl (by decide +kernel) ⟨Nat.le_of_ble_eq_true rfl, Nat.le_of_ble_eq_true rfl⟩ ⟨Nat.le_of_ble_eq_true rfl, Nat.le_of_ble_eq_true rfl⟩ dL_law_272 (Nat.le_of_ble_eq_true rfl) 0 rfl rfl rfl (by decide +kernel) (fun _ => rfl) (stW G a1 σ1 d1 ++ (stW G a2 σ2 d2 ++ ([(hh, .inr (0, [.ref ha, .int (nI f), .int (nI n)])), (ha, .inl (G.2.2.2, 4, .inr (.inr (.inr (.inr (fun j => some (hb j 0)))))))] ++ (stW G (hb 0) (hσ 0) (hd 0) ++ (stW G (hb 1) (hσ 1) (hd 1) ++ (stW G (hb 2) (hσ 2) (hd 2) ++ (stW G (hb 3) (hσ 3) (hd 3) ++ (txW G b t L lt ms hf fa cu ++ mdW G mo σ kf tf H sf df t n ks L sp rd gr)))))))) rfl (fun _ => rfl) 92 (fun _ => rfl) (by decide +kernel) (by decide +kernel) (fun _ _ => ?_)
        refine J_st (st' := [.int (-2)]) rfl ?_
        refine J_aload_n C rfl dL_law_275 ?_
        refine J_aload_n C rfl dL_law_276 ?_
        refine J_iload_n C rfl dL_law_277 ?_
        refine J_iconst C 1 (by decide) dL_law_278 ?_
        refine J_iadd C dL_law_279 ?_
        refine J_i (nI_add (3 * i) 1 : ((nI (3 * i)) + 1 : Int32) = (nI (3 * i + 1))) ?_
        refine J_sld C hX hbl hbA (3 * i + 1) rfl (by omega) (by omega) dL_law_280 ?_
        refine J_i (hxv : (xs (3 * i + 1) : Int32) = 1) ?_
        refine J_aload_n C rfl dL_law_281 ?_
        refine J_iload_n C rfl dL_law_282 ?_
        refine J_iconst C 2 (by decide) dL_law_283 ?_
        refine J_iadd C dL_law_284 ?_
        refine J_i (nI_add (3 * i) 2 : ((nI (3 * i)) + 2 : Int32) = (nI (3 * i + 2))) ?_
        refine J_sld C hX hbl hbA (3 * i + 2) rfl (by omega) (by omega) dL_law_285 ?_
        refine J_i (hyv : (xs (3 * i + 2) : Int32) = y) ?_
        refine J_callV (as := [.int 1, .int y]) (rest := [.int (-2)]) C (ct_mSet2_1 l G mo σ kf tf H sf df t n ks L sp rd gr y hy) (fun u => [(ts, .inr (5, [.ref (a 0), .ref (a1 0), .ref (a2 0), .ref hh, .ref (b 0), .int (nI ks)]))] ++ (stW G a σ d ++ (stW G a1 σ1 d1 ++ (stW G a2 σ2 d2 ++ ([(hh, .inr (0, [.ref ha, .int (nI f), .int (nI n)])), (ha, .inl (G.2.2.2, 4, .inr (.inr (.inr (.inr (fun j => some (hb j 0)))))))] ++ (stW G (hb 0) (hσ 0) (hd 0) ++ (stW G (hb 1) (hσ 1) (hd 1) ++ (stW G (hb 2) (hσ 2) (hd 2) ++ (stW G (hb 3) (hσ 3) (hd 3) ++ (txW G b t L lt ms hf fa cu ++ mdW G mo σ kf tf H sf df t n ks L sp rd gr)))))))))) [84, 85, 86, 87, 88, 89, 90, 91] [0, 1, 2, 3, 4, 5, 6, 7, 8, 9, 10, 11, 12, 13, 14, 15, 16, 17, 18, 19, 20, 21, 22, 23, 24, 25, 26, 27, 28, 29, 30, 31, 32, 33, 34, 35, 36, 37, 38, 39, 40, 41, 42, 43, 44, 45, 46, 47, 48, 49, 50, 51, 52, 53, 54, 55, 56, 57, 58, 59, 60, 61, 62, 63, 64, 65, 66, 67, 68, 69, 70, 71, 72, 73, 74, 75, 76, 77, 78, 79, 80, 81, 82, 83] 2 k692 k693 k694 k38 k695 rfl (by decide +kernel) ⟨Nat.le_of_ble_eq_true rfl, Nat.le_of_ble_eq_true rfl⟩ ⟨Nat.le_of_ble_eq_true rfl, Nat.le_of_ble_eq_true rfl⟩ dL_law_286 (Nat.le_of_ble_eq_true rfl) 84 rfl rfl rfl (by decide +kernel) (fun _ => rfl) ([(ts, .inr (5, [.ref (a 0), .ref (a1 0), .ref (a2 0), .ref hh, .ref (b 0), .int (nI ks)]))] ++ (stW G a σ d ++ (stW G a1 σ1 d1 ++ (stW G a2 σ2 d2 ++ ([(hh, .inr (0, [.ref ha, .int (nI f), .int (nI n)])), (ha, .inl (G.2.2.2, 4, .inr (.inr (.inr (.inr (fun j => some (hb j 0)))))))] ++ (stW G (hb 0) (hσ 0) (hd 0) ++ (stW G (hb 1) (hσ 1) (hd 1) ++ (stW G (hb 2) (hσ 2) (hd 2) ++ (stW G (hb 3) (hσ 3) (hd 3) ++ txW G b t L lt ms hf fa cu))))))))) rfl (fun _ => rfl) 92 (fun _ => rfl) (by decide +kernel) (by decide +kernel) (fun _ _ => ?_)
        refine J_st (st' := [.int (-2), .int (-2)]) rfl ?_
        refine J_icmp_eq C 660 (by decide) dL_law_289 (fun _ => ?_) (fun h => absurd rfl h)
        exact law_next C i ts a a1 a2 hh b ha hb mo σ d σ1 d1 σ2 d2 hσ hd f n t L lt ms hf fa cu ks kf tf H sf df sp rd gr ih (hLI) hnx
    · skip
      obtain rfl : x = 2 := Int32.toInt_inj.mp (by rw [hz]; decide)
      by_cases hy : 0 ≤ y.toInt ∧ y.toInt ≤ 20
      · skip
        obtain ⟨k, hk1, hk2, rfl⟩ := nat_of 0 20 hy (by decide)
        by_cases he : σ 7 2 = k
        · skip
          refine J_aload_n C rfl dL_law_261 ?_
          refine J_aload_n C rfl dL_law_262 ?_
          refine J_iload_n C rfl dL_law_263 ?_
          refine J_iconst C 1 (by decide) dL_law_264 ?_
          refine J_iadd C dL_law_265 ?_
          refine J_i (nI_add (3 * i) 1 : ((nI (3 * i)) + 1 : Int32) = (nI (3 * i + 1))) ?_
          refine J_sld C hX hbl hbA (3 * i + 1) rfl (by omega) (by omega) dL_law_266 ?_
          refine J_i (hxv : (xs (3 * i + 1) : Int32) = 2) ?_
          refine J_aload_n C rfl dL_law_267 ?_
          refine J_iload_n C rfl dL_law_268 ?_
          refine J_iconst C 2 (by decide) dL_law_269 ?_
          refine J_iadd C dL_law_270 ?_
          refine J_i (nI_add (3 * i) 2 : ((nI (3 * i)) + 2 : Int32) = (nI (3 * i + 2))) ?_
          refine J_sld C hX hbl hbA (3 * i + 2) rfl (by omega) (by omega) dL_law_271 ?_
          refine J_i (hyv : (xs (3 * i + 2) : Int32) = (nI k)) ?_
          refine J_callVX (as := [.int 2, .int (nI k)]) (rest := []) C XS.b (XS.f hXS) (ct_set3_2 l G ts a a1 a2 hh b ks σ d al ag k hI (⟨hk1, hk2⟩) he) (fun u => [(ts, .inr (5, [.ref (a 0), .ref (a1 0), .ref (a2 0), .ref hh, .ref (b 0), .int (nI ks)]))] ++ (stW G a σ d ++ (stW G a1 σ1 d1 ++ (stW G a2 σ2 d2 ++ ([(hh, .inr (0, [.ref ha, .int (nI f), .int (nI n)])), (ha, .inl (G.2.2.2, 4, .inr (.inr (.inr (.inr (fun j => some (hb j 0)))))))] ++ (stW G (hb 0) (hσ 0) (hd 0) ++ (stW G (hb 1) (hσ 1) (hd 1) ++ (stW G (hb 2) (hσ 2) (hd 2) ++ (stW G (hb 3) (hσ 3) (hd 3) ++ (txW G b t L lt ms hf fa cu ++ mdW G mo σ kf tf H sf df t n ks L sp rd gr)))))))))) [0, 1, 2, 3, 4, 5, 6, 7, 8, 9, 10, 11] [12, 13, 14, 15, 16, 17, 18, 19, 20, 21, 22, 23, 24, 25, 26, 27, 28, 29, 30, 31, 32, 33, 34, 35, 36, 37, 38, 39, 40, 41, 42, 43, 44, 45, 46, 47, 48, 49, 50, 51, 52, 53, 54, 55, 56, 57, 58, 59, 60, 61, 62, 63, 64, 65, 66, 67, 68, 69, 70, 71, 72, 73, 74, 75, 76, 77, 78, 79, 80, 81, 82, 83, 84, 85, 86, 87, 88, 89, 90, 91] 2 k426 k427 k428 k32 k429 rfl (by decide +kernel) ⟨Nat.le_of_ble_eq_true rfl, Nat.le_of_ble_eq_true rfl⟩ ⟨Nat.le_of_ble_eq_true rfl, Nat.le_of_ble_eq_true rfl⟩ dL_law_272 (Nat.le_of_ble_eq_true rfl) 0 rfl rfl rfl (by decide +kernel) (fun _ => rfl) (stW G a1 σ1 d1 ++ (stW G a2 σ2 d2 ++ ([(hh, .inr (0, [.ref ha, .int (nI f), .int (nI n)])), (ha, .inl (G.2.2.2, 4, .inr (.inr (.inr (.inr (fun j => some (hb j 0)))))))] ++ (stW G (hb 0) (hσ 0) (hd 0) ++ (stW G (hb 1) (hσ 1) (hd 1) ++ (stW G (hb 2) (hσ 2) (hd 2) ++ (stW G (hb 3) (hσ 3) (hd 3) ++ (txW G b t L lt ms hf fa cu ++ mdW G mo σ kf tf H sf df t n ks L sp rd gr)))))))) rfl (fun _ => rfl) 92 (fun _ => rfl) (by decide +kernel) (by decide +kernel) (fun _ _ => ?_)
          refine J_st (st' := [.int (-5)]) rfl ?_
          refine J_aload_n C rfl dL_law_275 ?_
          refine J_aload_n C rfl dL_law_276 ?_
          refine J_iload_n C rfl dL_law_277 ?_
          refine J_iconst C 1 (by decide) dL_law_278 ?_
          refine J_iadd C dL_law_279 ?_
          refine J_i (nI_add (3 * i) 1 : ((nI (3 * i)) + 1 : Int32) = (nI (3 * i + 1))) ?_
          refine J_sld C hX hbl hbA (3 * i + 1) rfl (by omega) (by omega) dL_law_280 ?_
          refine J_i (hxv : (xs (3 * i + 1) : Int32) = 2) ?_
          refine J_aload_n C rfl dL_law_281 ?_
          refine J_iload_n C rfl dL_law_282 ?_
          refine J_iconst C 2 (by decide) dL_law_283 ?_
          refine J_iadd C dL_law_284 ?_
          refine J_i (nI_add (3 * i) 2 : ((nI (3 * i)) + 2 : Int32) = (nI (3 * i + 2))) ?_
          refine J_sld C hX hbl hbA (3 * i + 2) rfl (by omega) (by omega) dL_law_285 ?_
          refine J_i (hyv : (xs (3 * i + 2) : Int32) = (nI k)) ?_
          refine J_callV (as := [.int 2, .int (nI k)]) (rest := [.int (-5)]) C (ct_mSet3_2 l G mo σ kf tf H sf df t n ks L sp rd gr k hI (⟨hk1, hk2⟩) he) (fun u => [(ts, .inr (5, [.ref (a 0), .ref (a1 0), .ref (a2 0), .ref hh, .ref (b 0), .int (nI ks)]))] ++ (stW G a σ d ++ (stW G a1 σ1 d1 ++ (stW G a2 σ2 d2 ++ ([(hh, .inr (0, [.ref ha, .int (nI f), .int (nI n)])), (ha, .inl (G.2.2.2, 4, .inr (.inr (.inr (.inr (fun j => some (hb j 0)))))))] ++ (stW G (hb 0) (hσ 0) (hd 0) ++ (stW G (hb 1) (hσ 1) (hd 1) ++ (stW G (hb 2) (hσ 2) (hd 2) ++ (stW G (hb 3) (hσ 3) (hd 3) ++ (txW G b t L lt ms hf fa cu ++ mdW G mo σ kf tf H sf df t n ks L sp rd gr)))))))))) [84, 85, 86, 87, 88, 89, 90, 91] [0, 1, 2, 3, 4, 5, 6, 7, 8, 9, 10, 11, 12, 13, 14, 15, 16, 17, 18, 19, 20, 21, 22, 23, 24, 25, 26, 27, 28, 29, 30, 31, 32, 33, 34, 35, 36, 37, 38, 39, 40, 41, 42, 43, 44, 45, 46, 47, 48, 49, 50, 51, 52, 53, 54, 55, 56, 57, 58, 59, 60, 61, 62, 63, 64, 65, 66, 67, 68, 69, 70, 71, 72, 73, 74, 75, 76, 77, 78, 79, 80, 81, 82, 83] 2 k692 k693 k694 k38 k695 rfl (by decide +kernel) ⟨Nat.le_of_ble_eq_true rfl, Nat.le_of_ble_eq_true rfl⟩ ⟨Nat.le_of_ble_eq_true rfl, Nat.le_of_ble_eq_true rfl⟩ dL_law_286 (Nat.le_of_ble_eq_true rfl) 84 rfl rfl rfl (by decide +kernel) (fun _ => rfl) ([(ts, .inr (5, [.ref (a 0), .ref (a1 0), .ref (a2 0), .ref hh, .ref (b 0), .int (nI ks)]))] ++ (stW G a σ d ++ (stW G a1 σ1 d1 ++ (stW G a2 σ2 d2 ++ ([(hh, .inr (0, [.ref ha, .int (nI f), .int (nI n)])), (ha, .inl (G.2.2.2, 4, .inr (.inr (.inr (.inr (fun j => some (hb j 0)))))))] ++ (stW G (hb 0) (hσ 0) (hd 0) ++ (stW G (hb 1) (hσ 1) (hd 1) ++ (stW G (hb 2) (hσ 2) (hd 2) ++ (stW G (hb 3) (hσ 3) (hd 3) ++ txW G b t L lt ms hf fa cu))))))))) rfl (fun _ => rfl) 92 (fun _ => rfl) (by decide +kernel) (by decide +kernel) (fun _ _ => ?_)
          refine J_st (st' := [.int (-5), .int (-5)]) rfl ?_
          refine J_icmp_eq C 660 (by decide) dL_law_289 (fun _ => ?_) (fun h => absurd rfl h)
          exact law_next C i ts a a1 a2 hh b ha hb mo σ d σ1 d1 σ2 d2 hσ hd f n t L lt ms hf fa cu ks kf tf H sf df sp rd gr ih (hLI) hnx
        · skip
          refine J_aload_n C rfl dL_law_261 ?_
          refine J_aload_n C rfl dL_law_262 ?_
          refine J_iload_n C rfl dL_law_263 ?_
          refine J_iconst C 1 (by decide) dL_law_264 ?_
          refine J_iadd C dL_law_265 ?_
          refine J_i (nI_add (3 * i) 1 : ((nI (3 * i)) + 1 : Int32) = (nI (3 * i + 1))) ?_
          refine J_sld C hX hbl hbA (3 * i + 1) rfl (by omega) (by omega) dL_law_266 ?_
          refine J_i (hxv : (xs (3 * i + 1) : Int32) = 2) ?_
          refine J_aload_n C rfl dL_law_267 ?_
          refine J_iload_n C rfl dL_law_268 ?_
          refine J_iconst C 2 (by decide) dL_law_269 ?_
          refine J_iadd C dL_law_270 ?_
          refine J_i (nI_add (3 * i) 2 : ((nI (3 * i)) + 2 : Int32) = (nI (3 * i + 2))) ?_
          refine J_sld C hX hbl hbA (3 * i + 2) rfl (by omega) (by omega) dL_law_271 ?_
          refine J_i (hyv : (xs (3 * i + 2) : Int32) = (nI k)) ?_
          refine J_callVX (as := [.int 2, .int (nI k)]) (rest := []) C XS.b (XS.f hXS) (ct_setY_2 l G ts a a1 a2 hh b ks σ d ha hb hσ hd f n al ag k hI hf4 hn4 (⟨hk1, hk2⟩) he) (fun u => [(ts, .inr (5, [.ref (a 0), .ref (a1 0), .ref (a2 0), .ref hh, .ref (b 0), .int (nI ks)]))] ++ (stW G a (up2 σ 7 2 k) d ++ (stW G a1 σ1 d1 ++ (stW G a2 σ2 d2 ++ ([(hh, .inr (0, [.ref ha, .int (nI (firstF f n)), .int (nI (sizeF n))])), (ha, .inl (G.2.2.2, 4, .inr (.inr (.inr (.inr (fun j => some (hb j 0)))))))] ++ (stW G (hb 0) ((va_up hσ (slotF f n) σ) 0) ((va_up hd (slotF f n) d) 0) ++ (stW G (hb 1) ((va_up hσ (slotF f n) σ) 1) ((va_up hd (slotF f n) d) 1) ++ (stW G (hb 2) ((va_up hσ (slotF f n) σ) 2) ((va_up hd (slotF f n) d) 2) ++ (stW G (hb 3) ((va_up hσ (slotF f n) σ) 3) ((va_up hd (slotF f n) d) 3) ++ (txW G b t L lt ms hf fa cu ++ mdW G mo σ kf tf H sf df t n ks L sp rd gr)))))))))) [0, 1, 2, 3, 4, 5, 6, 7, 8, 9, 10, 11, 34, 35, 36, 37, 38, 39, 40, 41, 42, 43, 44, 45, 46, 47, 48, 49, 50, 51, 52, 53, 54, 55, 56, 57, 58, 59, 60, 61, 62, 63, 64, 65, 66, 67, 68, 69, 70, 71, 72, 73, 74, 75, 76, 77, 78, 79] [12, 13, 14, 15, 16, 17, 18, 19, 20, 21, 22, 23, 24, 25, 26, 27, 28, 29, 30, 31, 32, 33, 80, 81, 82, 83, 84, 85, 86, 87, 88, 89, 90, 91] 2 k426 k427 k428 k32 k429 rfl (by decide +kernel) ⟨Nat.le_of_ble_eq_true rfl, Nat.le_of_ble_eq_true rfl⟩ ⟨Nat.le_of_ble_eq_true rfl, Nat.le_of_ble_eq_true rfl⟩ dL_law_272 (Nat.le_of_ble_eq_true rfl) 0 rfl rfl rfl (by decide +kernel) (fun _ => rfl) (stW G a1 σ1 d1 ++ (stW G a2 σ2 d2 ++ (txW G b t L lt ms hf fa cu ++ mdW G mo σ kf tf H sf df t n ks L sp rd gr))) rfl (fun _ => rfl) 92 (fun _ => rfl) (by decide +kernel) (by decide +kernel) (fun _ _ => ?_)
          refine J_st (st' := [.int (nI (σ 7 2))]) rfl ?_
          refine J_aload_n C rfl dL_law_275 ?_
          refine J_aload_n C rfl dL_law_276 ?_
          refine J_iload_n C rfl dL_law_277 ?_
          refine J_iconst C 1 (by decide) dL_law_278 ?_
          refine J_iadd C dL_law_279 ?_
          refine J_i (nI_add (3 * i) 1 : ((nI (3 * i)) + 1 : Int32) = (nI (3 * i + 1))) ?_
          refine J_sld C hX hbl hbA (3 * i + 1) rfl (by omega) (by omega) dL_law_280 ?_
          refine J_i (hxv : (xs (3 * i + 1) : Int32) = 2) ?_
          refine J_aload_n C rfl dL_law_281 ?_
          refine J_iload_n C rfl dL_law_282 ?_
          refine J_iconst C 2 (by decide) dL_law_283 ?_
          refine J_iadd C dL_law_284 ?_
          refine J_i (nI_add (3 * i) 2 : ((nI (3 * i)) + 2 : Int32) = (nI (3 * i + 2))) ?_
          refine J_sld C hX hbl hbA (3 * i + 2) rfl (by omega) (by omega) dL_law_285 ?_
          refine J_i (hyv : (xs (3 * i + 2) : Int32) = (nI k)) ?_
          refine J_callV (as := [.int 2, .int (nI k)]) (rest := [.int (nI (σ 7 2))]) C (ct_mSetY_2 l G mo σ kf tf H sf df t n ks L sp rd gr k hI hn4 (⟨hk1, hk2⟩) he) (fun u => [(ts, .inr (5, [.ref (a 0), .ref (a1 0), .ref (a2 0), .ref hh, .ref (b 0), .int (nI ks)]))] ++ (stW G a (up2 σ 7 2 k) d ++ (stW G a1 σ1 d1 ++ (stW G a2 σ2 d2 ++ ([(hh, .inr (0, [.ref ha, .int (nI (firstF f n)), .int (nI (sizeF n))])), (ha, .inl (G.2.2.2, 4, .inr (.inr (.inr (.inr (fun j => some (hb j 0)))))))] ++ (stW G (hb 0) ((va_up hσ (slotF f n) σ) 0) ((va_up hd (slotF f n) d) 0) ++ (stW G (hb 1) ((va_up hσ (slotF f n) σ) 1) ((va_up hd (slotF f n) d) 1) ++ (stW G (hb 2) ((va_up hσ (slotF f n) σ) 2) ((va_up hd (slotF f n) d) 2) ++ (stW G (hb 3) ((va_up hσ (slotF f n) σ) 3) ((va_up hd (slotF f n) d) 3) ++ (txW G b t L lt ms hf fa cu ++ mdW G mo (up2 σ 7 2 k) (rowM σ) tf (endH H (rowM σ) n) sf df t (sizeF n) ks L sp rd gr)))))))))) [84, 85, 86, 87, 88, 89, 90, 91] [0, 1, 2, 3, 4, 5, 6, 7, 8, 9, 10, 11, 12, 13, 14, 15, 16, 17, 18, 19, 20, 21, 22, 23, 24, 25, 26, 27, 28, 29, 30, 31, 32, 33, 34, 35, 36, 37, 38, 39, 40, 41, 42, 43, 44, 45, 46, 47, 48, 49, 50, 51, 52, 53, 54, 55, 56, 57, 58, 59, 60, 61, 62, 63, 64, 65, 66, 67, 68, 69, 70, 71, 72, 73, 74, 75, 76, 77, 78, 79, 80, 81, 82, 83] 2 k692 k693 k694 k38 k695 rfl (by decide +kernel) ⟨Nat.le_of_ble_eq_true rfl, Nat.le_of_ble_eq_true rfl⟩ ⟨Nat.le_of_ble_eq_true rfl, Nat.le_of_ble_eq_true rfl⟩ dL_law_286 (Nat.le_of_ble_eq_true rfl) 84 rfl rfl rfl (by decide +kernel) (fun _ => rfl) ([(ts, .inr (5, [.ref (a 0), .ref (a1 0), .ref (a2 0), .ref hh, .ref (b 0), .int (nI ks)]))] ++ (stW G a (up2 σ 7 2 k) d ++ (stW G a1 σ1 d1 ++ (stW G a2 σ2 d2 ++ ([(hh, .inr (0, [.ref ha, .int (nI (firstF f n)), .int (nI (sizeF n))])), (ha, .inl (G.2.2.2, 4, .inr (.inr (.inr (.inr (fun j => some (hb j 0)))))))] ++ (stW G (hb 0) ((va_up hσ (slotF f n) σ) 0) ((va_up hd (slotF f n) d) 0) ++ (stW G (hb 1) ((va_up hσ (slotF f n) σ) 1) ((va_up hd (slotF f n) d) 1) ++ (stW G (hb 2) ((va_up hσ (slotF f n) σ) 2) ((va_up hd (slotF f n) d) 2) ++ (stW G (hb 3) ((va_up hσ (slotF f n) σ) 3) ((va_up hd (slotF f n) d) 3) ++ txW G b t L lt ms hf fa cu))))))))) rfl (fun _ => rfl) 92 (fun _ => rfl) (by decide +kernel) (by decide +kernel) (fun _ _ => ?_)
          refine J_st (st' := [.int (nI (σ 7 2)), .int (nI (σ 7 2))]) rfl ?_
          refine J_icmp_eq C 660 (by decide) dL_law_289 (fun _ => ?_) (fun h => absurd rfl h)
          exact law_next C i ts a a1 a2 hh b ha hb mo (up2 σ 7 2 k) d σ1 d1 σ2 d2 (va_up hσ (slotF f n) σ) (va_up hd (slotF f n) d) (firstF f n) (sizeF n) t L lt ms hf fa cu ks (rowM σ) tf (endH H (rowM σ) n) sf df sp rd gr ih (hLI.act (hLI.1.set2 ⟨hk1, hk2⟩)) hnx
      · skip
        refine J_aload_n C rfl dL_law_261 ?_
        refine J_aload_n C rfl dL_law_262 ?_
        refine J_iload_n C rfl dL_law_263 ?_
        refine J_iconst C 1 (by decide) dL_law_264 ?_
        refine J_iadd C dL_law_265 ?_
        refine J_i (nI_add (3 * i) 1 : ((nI (3 * i)) + 1 : Int32) = (nI (3 * i + 1))) ?_
        refine J_sld C hX hbl hbA (3 * i + 1) rfl (by omega) (by omega) dL_law_266 ?_
        refine J_i (hxv : (xs (3 * i + 1) : Int32) = 2) ?_
        refine J_aload_n C rfl dL_law_267 ?_
        refine J_iload_n C rfl dL_law_268 ?_
        refine J_iconst C 2 (by decide) dL_law_269 ?_
        refine J_iadd C dL_law_270 ?_
        refine J_i (nI_add (3 * i) 2 : ((nI (3 * i)) + 2 : Int32) = (nI (3 * i + 2))) ?_
        refine J_sld C hX hbl hbA (3 * i + 2) rfl (by omega) (by omega) dL_law_271 ?_
        refine J_i (hyv : (xs (3 * i + 2) : Int32) = y) ?_
        refine J_callVX (as := [.int 2, .int y]) (rest := []) C XS.b (XS.f hXS) (ct_set2_2 l G ts a a1 a2 hh b ks σ d al ag y hy) (fun u => [(ts, .inr (5, [.ref (a 0), .ref (a1 0), .ref (a2 0), .ref hh, .ref (b 0), .int (nI ks)]))] ++ (stW G a σ d ++ (stW G a1 σ1 d1 ++ (stW G a2 σ2 d2 ++ ([(hh, .inr (0, [.ref ha, .int (nI f), .int (nI n)])), (ha, .inl (G.2.2.2, 4, .inr (.inr (.inr (.inr (fun j => some (hb j 0)))))))] ++ (stW G (hb 0) (hσ 0) (hd 0) ++ (stW G (hb 1) (hσ 1) (hd 1) ++ (stW G (hb 2) (hσ 2) (hd 2) ++ (stW G (hb 3) (hσ 3) (hd 3) ++ (txW G b t L lt ms hf fa cu ++ mdW G mo σ kf tf H sf df t n ks L sp rd gr)))))))))) [0, 1, 2, 3, 4, 5, 6, 7, 8, 9, 10, 11] [12, 13, 14, 15, 16, 17, 18, 19, 20, 21, 22, 23, 24, 25, 26, 27, 28, 29, 30, 31, 32, 33, 34, 35, 36, 37, 38, 39, 40, 41, 42, 43, 44, 45, 46, 47, 48, 49, 50, 51, 52, 53, 54, 55, 56, 57, 58, 59, 60, 61, 62, 63, 64, 65, 66, 67, 68, 69, 70, 71, 72, 73, 74, 75, 76, 77, 78, 79, 80, 81, 82, 83, 84, 85, 86, 87, 88, 89, 90, 91] 2 k426 k427 k428 k32 k429 rfl (by decide +kernel) ⟨Nat.le_of_ble_eq_true rfl, Nat.le_of_ble_eq_true rfl⟩ ⟨Nat.le_of_ble_eq_true rfl, Nat.le_of_ble_eq_true rfl⟩ dL_law_272 (Nat.le_of_ble_eq_true rfl) 0 rfl rfl rfl (by decide +kernel) (fun _ => rfl) (stW G a1 σ1 d1 ++ (stW G a2 σ2 d2 ++ ([(hh, .inr (0, [.ref ha, .int (nI f), .int (nI n)])), (ha, .inl (G.2.2.2, 4, .inr (.inr (.inr (.inr (fun j => some (hb j 0)))))))] ++ (stW G (hb 0) (hσ 0) (hd 0) ++ (stW G (hb 1) (hσ 1) (hd 1) ++ (stW G (hb 2) (hσ 2) (hd 2) ++ (stW G (hb 3) (hσ 3) (hd 3) ++ (txW G b t L lt ms hf fa cu ++ mdW G mo σ kf tf H sf df t n ks L sp rd gr)))))))) rfl (fun _ => rfl) 92 (fun _ => rfl) (by decide +kernel) (by decide +kernel) (fun _ _ => ?_)
        refine J_st (st' := [.int (-2)]) rfl ?_
        refine J_aload_n C rfl dL_law_275 ?_
        refine J_aload_n C rfl dL_law_276 ?_
        refine J_iload_n C rfl dL_law_277 ?_
        refine J_iconst C 1 (by decide) dL_law_278 ?_
        refine J_iadd C dL_law_279 ?_
        refine J_i (nI_add (3 * i) 1 : ((nI (3 * i)) + 1 : Int32) = (nI (3 * i + 1))) ?_
        refine J_sld C hX hbl hbA (3 * i + 1) rfl (by omega) (by omega) dL_law_280 ?_
        refine J_i (hxv : (xs (3 * i + 1) : Int32) = 2) ?_
        refine J_aload_n C rfl dL_law_281 ?_
        refine J_iload_n C rfl dL_law_282 ?_
        refine J_iconst C 2 (by decide) dL_law_283 ?_
        refine J_iadd C dL_law_284 ?_
        refine J_i (nI_add (3 * i) 2 : ((nI (3 * i)) + 2 : Int32) = (nI (3 * i + 2))) ?_
        refine J_sld C hX hbl hbA (3 * i + 2) rfl (by omega) (by omega) dL_law_285 ?_
        refine J_i (hyv : (xs (3 * i + 2) : Int32) = y) ?_
        refine J_callV (as := [.int 2, .int y]) (rest := [.int (-2)]) C (ct_mSet2_2 l G mo σ kf tf H sf df t n ks L sp rd gr y hy) (fun u => [(ts, .inr (5, [.ref (a 0), .ref (a1 0), .ref (a2 0), .ref hh, .ref (b 0), .int (nI ks)]))] ++ (stW G a σ d ++ (stW G a1 σ1 d1 ++ (stW G a2 σ2 d2 ++ ([(hh, .inr (0, [.ref ha, .int (nI f), .int (nI n)])), (ha, .inl (G.2.2.2, 4, .inr (.inr (.inr (.inr (fun j => some (hb j 0)))))))] ++ (stW G (hb 0) (hσ 0) (hd 0) ++ (stW G (hb 1) (hσ 1) (hd 1) ++ (stW G (hb 2) (hσ 2) (hd 2) ++ (stW G (hb 3) (hσ 3) (hd 3) ++ (txW G b t L lt ms hf fa cu ++ mdW G mo σ kf tf H sf df t n ks L sp rd gr)))))))))) [84, 85, 86, 87, 88, 89, 90, 91] [0, 1, 2, 3, 4, 5, 6, 7, 8, 9, 10, 11, 12, 13, 14, 15, 16, 17, 18, 19, 20, 21, 22, 23, 24, 25, 26, 27, 28, 29, 30, 31, 32, 33, 34, 35, 36, 37, 38, 39, 40, 41, 42, 43, 44, 45, 46, 47, 48, 49, 50, 51, 52, 53, 54, 55, 56, 57, 58, 59, 60, 61, 62, 63, 64, 65, 66, 67, 68, 69, 70, 71, 72, 73, 74, 75, 76, 77, 78, 79, 80, 81, 82, 83] 2 k692 k693 k694 k38 k695 rfl (by decide +kernel) ⟨Nat.le_of_ble_eq_true rfl, Nat.le_of_ble_eq_true rfl⟩ ⟨Nat.le_of_ble_eq_true rfl, Nat.le_of_ble_eq_true rfl⟩ dL_law_286 (Nat.le_of_ble_eq_true rfl) 84 rfl rfl rfl (by decide +kernel) (fun _ => rfl) ([(ts, .inr (5, [.ref (a 0), .ref (a1 0), .ref (a2 0), .ref hh, .ref (b 0), .int (nI ks)]))] ++ (stW G a σ d ++ (stW G a1 σ1 d1 ++ (stW G a2 σ2 d2 ++ ([(hh, .inr (0, [.ref ha, .int (nI f), .int (nI n)])), (ha, .inl (G.2.2.2, 4, .inr (.inr (.inr (.inr (fun j => some (hb j 0)))))))] ++ (stW G (hb 0) (hσ 0) (hd 0) ++ (stW G (hb 1) (hσ 1) (hd 1) ++ (stW G (hb 2) (hσ 2) (hd 2) ++ (stW G (hb 3) (hσ 3) (hd 3) ++ txW G b t L lt ms hf fa cu))))))))) rfl (fun _ => rfl) 92 (fun _ => rfl) (by decide +kernel) (by decide +kernel) (fun _ _ => ?_)
        refine J_st (st' := [.int (-2), .int (-2)]) rfl ?_
        refine J_icmp_eq C 660 (by decide) dL_law_289 (fun _ => ?_) (fun h => absurd rfl h)
        exact law_next C i ts a a1 a2 hh b ha hb mo σ d σ1 d1 σ2 d2 hσ hd f n t L lt ms hf fa cu ks kf tf H sf df sp rd gr ih (hLI) hnx
  · skip
    refine J_aload_n C rfl dL_law_261 ?_
    refine J_aload_n C rfl dL_law_262 ?_
    refine J_iload_n C rfl dL_law_263 ?_
    refine J_iconst C 1 (by decide) dL_law_264 ?_
    refine J_iadd C dL_law_265 ?_
    refine J_i (nI_add (3 * i) 1 : ((nI (3 * i)) + 1 : Int32) = (nI (3 * i + 1))) ?_
    refine J_sld C hX hbl hbA (3 * i + 1) rfl (by omega) (by omega) dL_law_266 ?_
    refine J_i (hxv : (xs (3 * i + 1) : Int32) = x) ?_
    refine J_aload_n C rfl dL_law_267 ?_
    refine J_iload_n C rfl dL_law_268 ?_
    refine J_iconst C 2 (by decide) dL_law_269 ?_
    refine J_iadd C dL_law_270 ?_
    refine J_i (nI_add (3 * i) 2 : ((nI (3 * i)) + 2 : Int32) = (nI (3 * i + 2))) ?_
    refine J_sld C hX hbl hbA (3 * i + 2) rfl (by omega) (by omega) dL_law_271 ?_
    refine J_i (hyv : (xs (3 * i + 2) : Int32) = y) ?_
    refine J_callVX (as := [.int x, .int y]) (rest := []) C XS.b (XS.f hXS) (ct_set1 l G ts a a1 a2 hh b ks σ d al ag x y hx) (fun u => [(ts, .inr (5, [.ref (a 0), .ref (a1 0), .ref (a2 0), .ref hh, .ref (b 0), .int (nI ks)]))] ++ (stW G a σ d ++ (stW G a1 σ1 d1 ++ (stW G a2 σ2 d2 ++ ([(hh, .inr (0, [.ref ha, .int (nI f), .int (nI n)])), (ha, .inl (G.2.2.2, 4, .inr (.inr (.inr (.inr (fun j => some (hb j 0)))))))] ++ (stW G (hb 0) (hσ 0) (hd 0) ++ (stW G (hb 1) (hσ 1) (hd 1) ++ (stW G (hb 2) (hσ 2) (hd 2) ++ (stW G (hb 3) (hσ 3) (hd 3) ++ (txW G b t L lt ms hf fa cu ++ mdW G mo σ kf tf H sf df t n ks L sp rd gr)))))))))) [0, 1, 2, 3, 4, 5, 6, 7, 8, 9, 10, 11] [12, 13, 14, 15, 16, 17, 18, 19, 20, 21, 22, 23, 24, 25, 26, 27, 28, 29, 30, 31, 32, 33, 34, 35, 36, 37, 38, 39, 40, 41, 42, 43, 44, 45, 46, 47, 48, 49, 50, 51, 52, 53, 54, 55, 56, 57, 58, 59, 60, 61, 62, 63, 64, 65, 66, 67, 68, 69, 70, 71, 72, 73, 74, 75, 76, 77, 78, 79, 80, 81, 82, 83, 84, 85, 86, 87, 88, 89, 90, 91] 2 k426 k427 k428 k32 k429 rfl (by decide +kernel) ⟨Nat.le_of_ble_eq_true rfl, Nat.le_of_ble_eq_true rfl⟩ ⟨Nat.le_of_ble_eq_true rfl, Nat.le_of_ble_eq_true rfl⟩ dL_law_272 (Nat.le_of_ble_eq_true rfl) 0 rfl rfl rfl (by decide +kernel) (fun _ => rfl) (stW G a1 σ1 d1 ++ (stW G a2 σ2 d2 ++ ([(hh, .inr (0, [.ref ha, .int (nI f), .int (nI n)])), (ha, .inl (G.2.2.2, 4, .inr (.inr (.inr (.inr (fun j => some (hb j 0)))))))] ++ (stW G (hb 0) (hσ 0) (hd 0) ++ (stW G (hb 1) (hσ 1) (hd 1) ++ (stW G (hb 2) (hσ 2) (hd 2) ++ (stW G (hb 3) (hσ 3) (hd 3) ++ (txW G b t L lt ms hf fa cu ++ mdW G mo σ kf tf H sf df t n ks L sp rd gr)))))))) rfl (fun _ => rfl) 92 (fun _ => rfl) (by decide +kernel) (by decide +kernel) (fun _ _ => ?_)
    refine J_st (st' := [.int (-1)]) rfl ?_
    refine J_aload_n C rfl dL_law_275 ?_
    refine J_aload_n C rfl dL_law_276 ?_
    refine J_iload_n C rfl dL_law_277 ?_
    refine J_iconst C 1 (by decide) dL_law_278 ?_
    refine J_iadd C dL_law_279 ?_
    refine J_i (nI_add (3 * i) 1 : ((nI (3 * i)) + 1 : Int32) = (nI (3 * i + 1))) ?_
    refine J_sld C hX hbl hbA (3 * i + 1) rfl (by omega) (by omega) dL_law_280 ?_
    refine J_i (hxv : (xs (3 * i + 1) : Int32) = x) ?_
    refine J_aload_n C rfl dL_law_281 ?_
    refine J_iload_n C rfl dL_law_282 ?_
    refine J_iconst C 2 (by decide) dL_law_283 ?_
    refine J_iadd C dL_law_284 ?_
    refine J_i (nI_add (3 * i) 2 : ((nI (3 * i)) + 2 : Int32) = (nI (3 * i + 2))) ?_
    refine J_sld C hX hbl hbA (3 * i + 2) rfl (by omega) (by omega) dL_law_285 ?_
    refine J_i (hyv : (xs (3 * i + 2) : Int32) = y) ?_
    refine J_callV (as := [.int x, .int y]) (rest := [.int (-1)]) C (ct_mSet1 l G mo σ kf tf H sf df t n ks L sp rd gr x y hx) (fun u => [(ts, .inr (5, [.ref (a 0), .ref (a1 0), .ref (a2 0), .ref hh, .ref (b 0), .int (nI ks)]))] ++ (stW G a σ d ++ (stW G a1 σ1 d1 ++ (stW G a2 σ2 d2 ++ ([(hh, .inr (0, [.ref ha, .int (nI f), .int (nI n)])), (ha, .inl (G.2.2.2, 4, .inr (.inr (.inr (.inr (fun j => some (hb j 0)))))))] ++ (stW G (hb 0) (hσ 0) (hd 0) ++ (stW G (hb 1) (hσ 1) (hd 1) ++ (stW G (hb 2) (hσ 2) (hd 2) ++ (stW G (hb 3) (hσ 3) (hd 3) ++ (txW G b t L lt ms hf fa cu ++ mdW G mo σ kf tf H sf df t n ks L sp rd gr)))))))))) [84, 85, 86, 87, 88, 89, 90, 91] [0, 1, 2, 3, 4, 5, 6, 7, 8, 9, 10, 11, 12, 13, 14, 15, 16, 17, 18, 19, 20, 21, 22, 23, 24, 25, 26, 27, 28, 29, 30, 31, 32, 33, 34, 35, 36, 37, 38, 39, 40, 41, 42, 43, 44, 45, 46, 47, 48, 49, 50, 51, 52, 53, 54, 55, 56, 57, 58, 59, 60, 61, 62, 63, 64, 65, 66, 67, 68, 69, 70, 71, 72, 73, 74, 75, 76, 77, 78, 79, 80, 81, 82, 83] 2 k692 k693 k694 k38 k695 rfl (by decide +kernel) ⟨Nat.le_of_ble_eq_true rfl, Nat.le_of_ble_eq_true rfl⟩ ⟨Nat.le_of_ble_eq_true rfl, Nat.le_of_ble_eq_true rfl⟩ dL_law_286 (Nat.le_of_ble_eq_true rfl) 84 rfl rfl rfl (by decide +kernel) (fun _ => rfl) ([(ts, .inr (5, [.ref (a 0), .ref (a1 0), .ref (a2 0), .ref hh, .ref (b 0), .int (nI ks)]))] ++ (stW G a σ d ++ (stW G a1 σ1 d1 ++ (stW G a2 σ2 d2 ++ ([(hh, .inr (0, [.ref ha, .int (nI f), .int (nI n)])), (ha, .inl (G.2.2.2, 4, .inr (.inr (.inr (.inr (fun j => some (hb j 0)))))))] ++ (stW G (hb 0) (hσ 0) (hd 0) ++ (stW G (hb 1) (hσ 1) (hd 1) ++ (stW G (hb 2) (hσ 2) (hd 2) ++ (stW G (hb 3) (hσ 3) (hd 3) ++ txW G b t L lt ms hf fa cu))))))))) rfl (fun _ => rfl) 92 (fun _ => rfl) (by decide +kernel) (by decide +kernel) (fun _ _ => ?_)
    refine J_st (st' := [.int (-1), .int (-1)]) rfl ?_
    refine J_icmp_eq C 660 (by decide) dL_law_289 (fun _ => ?_) (fun h => absurd rfl h)
    exact law_next C i ts a a1 a2 hh b ha hb mo σ d σ1 d1 σ2 d2 hσ hd f n t L lt ms hf fa cu ks kf tf H sf df sp rd gr ih (hLI) hnx
