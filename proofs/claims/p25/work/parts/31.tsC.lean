set_option maxHeartbeats 4000000 in
set_option maxRecDepth 100000 in
theorem ct_atT (l : Launch) (G : GT) (t n : Nat) (f : Nat → Nat) (j : Nat) (hj : j < n) (hN : n ≤ 4096) : Ct (S := Unit) l G (XT t n f) yX5_at (Wy yX5_at cX5_at 2 ((Option.some Jvm.ClassFile.FieldType.int))) { frames := 0, cells := 0, slots := 0, locals := 0 } [.ref t, .int (nI j)] ([]) (fun u => True) (fun u => some (.int (nI (f j)))) (fun u => []) := by
  refine Ct.of (by decide) (Nat.le_of_ble_eq_true rfl) (fun p e s m args below meth c C hr hnm hX => ?_)
  refine J_iload_n C rfl dX5_at_0 ?_
  refine J_if_lt C 16 (by decide) dX5_at_1 (fun h => absurd h (nI_pos (by omega))) (fun _ => ?_)
  refine J_iload_n C rfl dX5_at_4 ?_
  refine J_aload_n C rfl dX5_at_5 ?_
  refine J_tlen C hX dX5_at_6 ?_
  refine J_icmp_ge C 16 (by decide) dX5_at_7 (fun h => absurd (cv_ge_t (a := j) (b := n) (by omega) (by omega) h) (by omega)) (fun c7 => ?_)
  refine J_aload_n C rfl dX5_at_10 ?_
  refine J_iload_n C rfl dX5_at_11 ?_
  refine J_tld C hX j rfl (by omega) (by omega) dX5_at_12 ?_
  refine J_goto C 17 (by decide) dX5_at_13 ?_
  exact J_zret C hr rfl dX5_at_17 () rfl trivial rfl

set_option maxHeartbeats 4000000 in
set_option maxRecDepth 100000 in
theorem ct_set1 (l : Launch) (G : GT) (ts : Nat) (a a1 a2 : Nat → Nat) (hh : Nat) (b : Nat → Nat) (ks : Nat) (σ : AS) (d : Nat → Nat) (al ag : Nat) (x y : Int32) (hx : ¬ (0 ≤ x.toInt ∧ x.toInt ≤ 2)) : Ct (S := Unit) l G (XS al ag) yX5_set (Wy yX5_set cX5_set 4 ((Option.some Jvm.ClassFile.FieldType.int))) { frames := 0, cells := 0, slots := 0, locals := 0 } [.ref ts, .int x, .int y] ([(ts, .inr (5, [.ref (a 0), .ref (a1 0), .ref (a2 0), .ref hh, .ref (b 0), .int (nI ks)]))] ++ stW G a σ d) (fun u => True) (fun u => some (.int (-1))) (fun u => [(ts, .inr (5, [.ref (a 0), .ref (a1 0), .ref (a2 0), .ref hh, .ref (b 0), .int (nI ks)]))] ++ stW G a σ d) := by
  refine Ct.of (by decide) (Nat.le_of_ble_eq_true rfl) (fun p e s m args below meth c C hr hnm hX => ?_)
  refine J_iload_n C rfl dX5_set_0 ?_
  refine J_if_lt C 9 (by decide) dX5_set_1 (fun c1 => ?_) (fun c1 => ?_)
  · skip
    have c1 := ti_lt_t (z := 0) (by decide) c1
    refine J_iconst C (-1) (by decide) dX5_set_9 ?_
    exact J_zret C hr rfl dX5_set_10 () rfl trivial rfl
  · skip
    have c1 := ti_lt_f (z := 0) (by decide) c1
    refine J_iload_n C rfl dX5_set_4 ?_
    refine J_iconst C 2 (by decide) dX5_set_5 ?_
    refine J_icmp_le C 11 (by decide) dX5_set_6 (fun h => absurd h (fun q => absurd (ti_le_t (z := 2) (by decide) q) (by omega))) (fun _ => ?_)
    refine J_iconst C (-1) (by decide) dX5_set_9 ?_
    exact J_zret C hr rfl dX5_set_10 () rfl trivial rfl

set_option maxHeartbeats 4000000 in
set_option maxRecDepth 100000 in
theorem ct_set2_0 (l : Launch) (G : GT) (ts : Nat) (a a1 a2 : Nat → Nat) (hh : Nat) (b : Nat → Nat) (ks : Nat) (σ : AS) (d : Nat → Nat) (al ag : Nat) (y : Int32) (hy : ¬ (1 ≤ y.toInt ∧ y.toInt ≤ 9)) : Ct (S := Unit) l G (XS al ag) yX5_set (Wy yX5_set cX5_set 4 ((Option.some Jvm.ClassFile.FieldType.int))) { frames := 1, cells := 0, slots := 0, locals := 21 } [.ref ts, .int 0, .int y] ([(ts, .inr (5, [.ref (a 0), .ref (a1 0), .ref (a2 0), .ref hh, .ref (b 0), .int (nI ks)]))] ++ stW G a σ d) (fun u => True) (fun u => some (.int (-2))) (fun u => [(ts, .inr (5, [.ref (a 0), .ref (a1 0), .ref (a2 0), .ref hh, .ref (b 0), .int (nI ks)]))] ++ stW G a σ d) := by
  refine Ct.of (by decide) (Nat.le_of_ble_eq_true rfl) (fun p e s m args below meth c C hr hnm hX => ?_)
  refine J_iload_n C rfl dX5_set_0 ?_
  refine J_if_lt C 9 (by decide) dX5_set_1 (fun h => absurd h (by decide)) (fun _ => ?_)
  refine J_iload_n C rfl dX5_set_4 ?_
  refine J_iconst C 2 (by decide) dX5_set_5 ?_
  refine J_icmp_le C 11 (by decide) dX5_set_6 (fun _ => ?_) (fun h => absurd h (by decide))
  refine J_iload_n C rfl dX5_set_11 ?_
  refine J_gets C hX.1.1 k421 dX5_set_12 ?_
  refine J_iload_n C rfl dX5_set_15 ?_
  refine J_callSX (as := [.ref al, .int 0]) (rest := [.int y]) C XT.b (XT.f hX.1.2) (ct_atT l G al 3 loS 0 (by decide) (by decide)) (fun u => [(ts, .inr (5, [.ref (a 0), .ref (a1 0), .ref (a2 0), .ref hh, .ref (b 0), .int (nI ks)]))] ++ stW G a σ d) [] [0, 1, 2, 3, 4, 5, 6, 7, 8, 9, 10, 11] 2 k376 k340 k10 k341 rfl (by decide +kernel) ⟨Nat.le_of_ble_eq_true rfl, Nat.le_of_ble_eq_true rfl⟩ ⟨Nat.le_of_ble_eq_true rfl, Nat.le_of_ble_eq_true rfl⟩ dX5_set_16 (Nat.le_of_ble_eq_true rfl) rfl (by decide +kernel) (fun _ => rfl) ([(ts, .inr (5, [.ref (a 0), .ref (a1 0), .ref (a2 0), .ref hh, .ref (b 0), .int (nI ks)]))] ++ stW G a σ d) rfl (fun _ => rfl) 12 (fun _ => rfl) (by decide +kernel) (by decide +kernel) (fun _ _ => ?_)
  refine J_st (st' := [.int (nI (loS 0)), .int y]) rfl ?_
  refine J_i (rfl : (nI (loS 0) : Int32) = 1) ?_
  refine J_icmp_lt C 33 (by decide) dX5_set_19 (fun c19 => ?_) (fun c19 => ?_)
  · skip
    have c19 := ti_lt_t (z := 1) (by decide) c19
    refine J_bipush C (-2) (by decide) dX5_set_33 ?_
    exact J_zret C hr rfl dX5_set_35 () rfl trivial rfl
  · skip
    have c19 := ti_lt_f (z := 1) (by decide) c19
    refine J_iload_n C rfl dX5_set_22 ?_
    refine J_gets C hX.2.1 k423 dX5_set_23 ?_
    refine J_iload_n C rfl dX5_set_26 ?_
    refine J_callSX (as := [.ref ag, .int 0]) (rest := [.int y]) C XT.b (XT.f hX.2.2) (ct_atT l G ag 3 hiS 0 (by decide) (by decide)) (fun u => [(ts, .inr (5, [.ref (a 0), .ref (a1 0), .ref (a2 0), .ref hh, .ref (b 0), .int (nI ks)]))] ++ stW G a σ d) [] [0, 1, 2, 3, 4, 5, 6, 7, 8, 9, 10, 11] 2 k376 k340 k10 k341 rfl (by decide +kernel) ⟨Nat.le_of_ble_eq_true rfl, Nat.le_of_ble_eq_true rfl⟩ ⟨Nat.le_of_ble_eq_true rfl, Nat.le_of_ble_eq_true rfl⟩ dX5_set_27 (Nat.le_of_ble_eq_true rfl) rfl (by decide +kernel) (fun _ => rfl) ([(ts, .inr (5, [.ref (a 0), .ref (a1 0), .ref (a2 0), .ref hh, .ref (b 0), .int (nI ks)]))] ++ stW G a σ d) rfl (fun _ => rfl) 12 (fun _ => rfl) (by decide +kernel) (by decide +kernel) (fun _ _ => ?_)
    refine J_st (st' := [.int (nI (hiS 0)), .int y]) rfl ?_
    refine J_i (rfl : (nI (hiS 0) : Int32) = 9) ?_
    refine J_icmp_le C 36 (by decide) dX5_set_30 (fun h => absurd h (fun q => absurd (ti_le_t (z := 9) (by decide) q) (by omega))) (fun _ => ?_)
    refine J_bipush C (-2) (by decide) dX5_set_33 ?_
    exact J_zret C hr rfl dX5_set_35 () rfl trivial rfl

set_option maxHeartbeats 4000000 in
set_option maxRecDepth 100000 in
theorem ct_set3_0 (l : Launch) (G : GT) (ts : Nat) (a a1 a2 : Nat → Nat) (hh : Nat) (b : Nat → Nat) (ks : Nat) (σ : AS) (d : Nat → Nat) (al ag : Nat) (k : Nat) (hI : Inv σ) (hk : 1 ≤ k ∧ k ≤ 9) (he : σ 7 0 = k) : Ct (S := Unit) l G (XS al ag) yX5_set (Wy yX5_set cX5_set 4 ((Option.some Jvm.ClassFile.FieldType.int))) { frames := 1, cells := 0, slots := 0, locals := 21 } [.ref ts, .int 0, .int (nI k)] ([(ts, .inr (5, [.ref (a 0), .ref (a1 0), .ref (a2 0), .ref hh, .ref (b 0), .int (nI ks)]))] ++ stW G a σ d) (fun u => True) (fun u => some (.int (-5))) (fun u => [(ts, .inr (5, [.ref (a 0), .ref (a1 0), .ref (a2 0), .ref hh, .ref (b 0), .int (nI ks)]))] ++ stW G a σ d) := by
  refine Ct.of (by decide) (Nat.le_of_ble_eq_true rfl) (fun p e s m args below meth c C hr hnm hX => ?_)
  have hs := hI.s
  refine J_iload_n C rfl dX5_set_0 ?_
  refine J_if_lt C 9 (by decide) dX5_set_1 (fun h => absurd h (by decide)) (fun _ => ?_)
  refine J_iload_n C rfl dX5_set_4 ?_
  refine J_iconst C 2 (by decide) dX5_set_5 ?_
  refine J_icmp_le C 11 (by decide) dX5_set_6 (fun _ => ?_) (fun h => absurd h (by decide))
  refine J_iload_n C rfl dX5_set_11 ?_
  refine J_gets C hX.1.1 k421 dX5_set_12 ?_
  refine J_iload_n C rfl dX5_set_15 ?_
  refine J_callSX (as := [.ref al, .int 0]) (rest := [.int (nI k)]) C XT.b (XT.f hX.1.2) (ct_atT l G al 3 loS 0 (by decide) (by decide)) (fun u => [(ts, .inr (5, [.ref (a 0), .ref (a1 0), .ref (a2 0), .ref hh, .ref (b 0), .int (nI ks)]))] ++ stW G a σ d) [] [0, 1, 2, 3, 4, 5, 6, 7, 8, 9, 10, 11] 2 k376 k340 k10 k341 rfl (by decide +kernel) ⟨Nat.le_of_ble_eq_true rfl, Nat.le_of_ble_eq_true rfl⟩ ⟨Nat.le_of_ble_eq_true rfl, Nat.le_of_ble_eq_true rfl⟩ dX5_set_16 (Nat.le_of_ble_eq_true rfl) rfl (by decide +kernel) (fun _ => rfl) ([(ts, .inr (5, [.ref (a 0), .ref (a1 0), .ref (a2 0), .ref hh, .ref (b 0), .int (nI ks)]))] ++ stW G a σ d) rfl (fun _ => rfl) 12 (fun _ => rfl) (by decide +kernel) (by decide +kernel) (fun _ _ => ?_)
  refine J_st (st' := [.int (nI (loS 0)), .int (nI k)]) rfl ?_
  refine J_i (rfl : (nI (loS 0) : Int32) = 1) ?_
  refine J_icmp_lt C 33 (by decide) dX5_set_19 (fun h => absurd (cv_lt_t (a := k) (b := 1) (by omega) (by omega) h) (by omega)) (fun c19 => ?_)
  refine J_iload_n C rfl dX5_set_22 ?_
  refine J_gets C hX.2.1 k423 dX5_set_23 ?_
  refine J_iload_n C rfl dX5_set_26 ?_
  refine J_callSX (as := [.ref ag, .int 0]) (rest := [.int (nI k)]) C XT.b (XT.f hX.2.2) (ct_atT l G ag 3 hiS 0 (by decide) (by decide)) (fun u => [(ts, .inr (5, [.ref (a 0), .ref (a1 0), .ref (a2 0), .ref hh, .ref (b 0), .int (nI ks)]))] ++ stW G a σ d) [] [0, 1, 2, 3, 4, 5, 6, 7, 8, 9, 10, 11] 2 k376 k340 k10 k341 rfl (by decide +kernel) ⟨Nat.le_of_ble_eq_true rfl, Nat.le_of_ble_eq_true rfl⟩ ⟨Nat.le_of_ble_eq_true rfl, Nat.le_of_ble_eq_true rfl⟩ dX5_set_27 (Nat.le_of_ble_eq_true rfl) rfl (by decide +kernel) (fun _ => rfl) ([(ts, .inr (5, [.ref (a 0), .ref (a1 0), .ref (a2 0), .ref hh, .ref (b 0), .int (nI ks)]))] ++ stW G a σ d) rfl (fun _ => rfl) 12 (fun _ => rfl) (by decide +kernel) (by decide +kernel) (fun _ _ => ?_)
  refine J_st (st' := [.int (nI (hiS 0)), .int (nI k)]) rfl ?_
  refine J_i (rfl : (nI (hiS 0) : Int32) = 9) ?_
  refine J_icmp_le C 36 (by decide) dX5_set_30 (fun c30 => ?_) (fun h => absurd (cv_le_f (a := k) (b := 9) (by omega) (by omega) h) (by omega))
  refine J_aload_n C rfl dX5_set_36 ?_
  refine J_get C 0 0 in5 rfl rfl (by decide) k217 rfl dX5_set_37 ?_
  refine J_getN C 1 3 in4 rfl rfl (by decide) nfTwoScribes_126 rfl dX5_set_40 ?_
  refine J_iload_n C rfl dX5_set_43 ?_
  refine J_callS (as := [.ref (a 10), .int 0]) (rest := []) C (ct_at l G (a 10) 3 (fun q => nI (σ 7 q)) 0 (by omega) (by decide)) (fun u => [(ts, .inr (5, [.ref (a 0), .ref (a1 0), .ref (a2 0), .ref hh, .ref (b 0), .int (nI ks)]))] ++ stW G a σ d) [11] [0, 1, 2, 3, 4, 5, 6, 7, 8, 9, 10] 2 k376 k340 k10 k341 rfl (by decide +kernel) ⟨Nat.le_of_ble_eq_true rfl, Nat.le_of_ble_eq_true rfl⟩ ⟨Nat.le_of_ble_eq_true rfl, Nat.le_of_ble_eq_true rfl⟩ dX5_set_44 (Nat.le_of_ble_eq_true rfl) rfl (by decide +kernel) (fun _ => rfl) ([(ts, .inr (5, [.ref (a 0), .ref (a1 0), .ref (a2 0), .ref hh, .ref (b 0), .int (nI ks)]))] ++ [(a 0, .inr (4, [.ref (a 1), .ref (a 8), .ref (a 9), .ref (a 10), .float (fl (σ 0 6)), .float (fl (σ 0 7)), .float (fl (σ 0 8)), .int (nI (σ 0 3)), .int (nI (σ 0 9)), .int (nI (σ 0 10)), .int (nI (σ 0 11))])), (a 1, .inr (1, [.ref (a 2), .ref (a 3), .ref (a 4), .ref (a 5), .ref (a 6), .ref (a 7), .int (nI (σ 0 4)), .int (nI (σ 0 5))])), (a 2, .inl (G.2.1, 40, .inl (fun q => nI (d q)))), (a 3, .inl (G.2.1, 40, .inl (fun q => nI (σ 2 q)))), (a 4, .inl (G.2.1, 40, .inl (fun q => nI (σ 3 q)))), (a 5, .inl (G.2.1, 40, .inl (fun q => nI (σ 6 q)))), (a 6, .inl (G.2.1, 40, .inl (fun q => nI (σ 4 q)))), (a 7, .inl (G.2.1, 40, .inl (fun q => nI (σ 5 q)))), (a 8, .inr (3, [.int (nI (σ 0 12)), .int (nI (σ 0 14)), .int (nI (σ 0 16)), .int (nI (σ 0 18)), .int (nI (σ 0 20)), .int (nI (σ 0 22)), .float (fl (σ 0 24))])), (a 9, .inr (3, [.int (nI (σ 0 13)), .int (nI (σ 0 15)), .int (nI (σ 0 17)), .int (nI (σ 0 19)), .int (nI (σ 0 21)), .int (nI (σ 0 23)), .float (fl (σ 0 25))]))]) rfl (fun _ => rfl) 12 (fun _ => rfl) (by decide +kernel) (by decide +kernel) (fun _ _ => ?_)
  refine J_st (st' := [.int (nI (σ 7 0))]) rfl ?_
  refine J_istore_n C [(3, .int (nI (σ 7 0))), (0, .ref ts), (1, .int 0), (2, .int (nI k))] (by decide) rfl dX5_set_47 ?_
  refine J_iload_n C rfl dX5_set_48 ?_
  refine J_iload_n C rfl dX5_set_49 ?_
  refine J_icmp_ne C 56 (by decide) dX5_set_50 (fun h => absurd (cv_ne_t (a := (σ 7 0)) (b := k) (by omega) (by omega) h) (by omega)) (fun c50 => ?_)
  refine J_bipush C (-5) (by decide) dX5_set_53 ?_
  exact J_zret C hr rfl dX5_set_55 () rfl trivial rfl

set_option maxHeartbeats 4000000 in
set_option maxRecDepth 100000 in
theorem ct_setY_0 (l : Launch) (G : GT) (ts : Nat) (a a1 a2 : Nat → Nat) (hh : Nat) (b : Nat → Nat) (ks : Nat) (σ : AS) (d : Nat → Nat) (ha : Nat) (hb : Nat → Nat → Nat) (hσ : Nat → AS) (hd : Nat → Nat → Nat) (f n : Nat) (al ag : Nat) (k : Nat) (hI : Inv σ) (hf4 : f < 4) (hn4 : n ≤ 4) (hk : 1 ≤ k ∧ k ≤ 9) (he : ¬ σ 7 0 = k) : Ct (S := Unit) l G (XS al ag) yX5_set (Wy yX5_set cX5_set 4 ((Option.some Jvm.ClassFile.FieldType.int))) { frames := 5, cells := 0, slots := 0, locals := 125 } [.ref ts, .int 0, .int (nI k)] ([(ts, .inr (5, [.ref (a 0), .ref (a1 0), .ref (a2 0), .ref hh, .ref (b 0), .int (nI ks)]))] ++ (stW G a σ d ++ ([(hh, .inr (0, [.ref ha, .int (nI f), .int (nI n)])), (ha, .inl (G.2.2.2, 4, .inr (.inr (.inr (.inr (fun j => some (hb j 0)))))))] ++ (stW G (hb 0) (hσ 0) (hd 0) ++ (stW G (hb 1) (hσ 1) (hd 1) ++ (stW G (hb 2) (hσ 2) (hd 2) ++ stW G (hb 3) (hσ 3) (hd 3))))))) (fun u => True) (fun u => some (.int (nI (σ 7 0)))) (fun u => [(ts, .inr (5, [.ref (a 0), .ref (a1 0), .ref (a2 0), .ref hh, .ref (b 0), .int (nI ks)]))] ++ (stW G a (up2 σ 7 0 k) d ++ ([(hh, .inr (0, [.ref ha, .int (nI (firstF f n)), .int (nI (sizeF n))])), (ha, .inl (G.2.2.2, 4, .inr (.inr (.inr (.inr (fun j => some (hb j 0)))))))] ++ (stW G (hb 0) ((va_up hσ (slotF f n) σ) 0) ((va_up hd (slotF f n) d) 0) ++ (stW G (hb 1) ((va_up hσ (slotF f n) σ) 1) ((va_up hd (slotF f n) d) 1) ++ (stW G (hb 2) ((va_up hσ (slotF f n) σ) 2) ((va_up hd (slotF f n) d) 2) ++ stW G (hb 3) ((va_up hσ (slotF f n) σ) 3) ((va_up hd (slotF f n) d) 3))))))) := by
  refine Ct.of (by decide) (Nat.le_of_ble_eq_true rfl) (fun p e s m args below meth c C hr hnm hX => ?_)
  have hs := hI.s
  refine J_iload_n C rfl dX5_set_0 ?_
  refine J_if_lt C 9 (by decide) dX5_set_1 (fun h => absurd h (by decide)) (fun _ => ?_)
  refine J_iload_n C rfl dX5_set_4 ?_
  refine J_iconst C 2 (by decide) dX5_set_5 ?_
  refine J_icmp_le C 11 (by decide) dX5_set_6 (fun _ => ?_) (fun h => absurd h (by decide))
  refine J_iload_n C rfl dX5_set_11 ?_
  refine J_gets C hX.1.1 k421 dX5_set_12 ?_
  refine J_iload_n C rfl dX5_set_15 ?_
  refine J_callSX (as := [.ref al, .int 0]) (rest := [.int (nI k)]) C XT.b (XT.f hX.1.2) (ct_atT l G al 3 loS 0 (by decide) (by decide)) (fun u => [(ts, .inr (5, [.ref (a 0), .ref (a1 0), .ref (a2 0), .ref hh, .ref (b 0), .int (nI ks)]))] ++ (stW G a σ d ++ ([(hh, .inr (0, [.ref ha, .int (nI f), .int (nI n)])), (ha, .inl (G.2.2.2, 4, .inr (.inr (.inr (.inr (fun j => some (hb j 0)))))))] ++ (stW G (hb 0) (hσ 0) (hd 0) ++ (stW G (hb 1) (hσ 1) (hd 1) ++ (stW G (hb 2) (hσ 2) (hd 2) ++ stW G (hb 3) (hσ 3) (hd 3))))))) [] [0, 1, 2, 3, 4, 5, 6, 7, 8, 9, 10, 11, 12, 13, 14, 15, 16, 17, 18, 19, 20, 21, 22, 23, 24, 25, 26, 27, 28, 29, 30, 31, 32, 33, 34, 35, 36, 37, 38, 39, 40, 41, 42, 43, 44, 45, 46, 47, 48, 49, 50, 51, 52, 53, 54, 55, 56, 57] 2 k376 k340 k10 k341 rfl (by decide +kernel) ⟨Nat.le_of_ble_eq_true rfl, Nat.le_of_ble_eq_true rfl⟩ ⟨Nat.le_of_ble_eq_true rfl, Nat.le_of_ble_eq_true rfl⟩ dX5_set_16 (Nat.le_of_ble_eq_true rfl) rfl (by decide +kernel) (fun _ => rfl) ([(ts, .inr (5, [.ref (a 0), .ref (a1 0), .ref (a2 0), .ref hh, .ref (b 0), .int (nI ks)]))] ++ (stW G a σ d ++ ([(hh, .inr (0, [.ref ha, .int (nI f), .int (nI n)])), (ha, .inl (G.2.2.2, 4, .inr (.inr (.inr (.inr (fun j => some (hb j 0)))))))] ++ (stW G (hb 0) (hσ 0) (hd 0) ++ (stW G (hb 1) (hσ 1) (hd 1) ++ (stW G (hb 2) (hσ 2) (hd 2) ++ stW G (hb 3) (hσ 3) (hd 3))))))) rfl (fun _ => rfl) 58 (fun _ => rfl) (by decide +kernel) (by decide +kernel) (fun _ _ => ?_)
  refine J_st (st' := [.int (nI (loS 0)), .int (nI k)]) rfl ?_
  refine J_i (rfl : (nI (loS 0) : Int32) = 1) ?_
  refine J_icmp_lt C 33 (by decide) dX5_set_19 (fun h => absurd (cv_lt_t (a := k) (b := 1) (by omega) (by omega) h) (by omega)) (fun c19 => ?_)
  refine J_iload_n C rfl dX5_set_22 ?_
  refine J_gets C hX.2.1 k423 dX5_set_23 ?_
  refine J_iload_n C rfl dX5_set_26 ?_
  refine J_callSX (as := [.ref ag, .int 0]) (rest := [.int (nI k)]) C XT.b (XT.f hX.2.2) (ct_atT l G ag 3 hiS 0 (by decide) (by decide)) (fun u => [(ts, .inr (5, [.ref (a 0), .ref (a1 0), .ref (a2 0), .ref hh, .ref (b 0), .int (nI ks)]))] ++ (stW G a σ d ++ ([(hh, .inr (0, [.ref ha, .int (nI f), .int (nI n)])), (ha, .inl (G.2.2.2, 4, .inr (.inr (.inr (.inr (fun j => some (hb j 0)))))))] ++ (stW G (hb 0) (hσ 0) (hd 0) ++ (stW G (hb 1) (hσ 1) (hd 1) ++ (stW G (hb 2) (hσ 2) (hd 2) ++ stW G (hb 3) (hσ 3) (hd 3))))))) [] [0, 1, 2, 3, 4, 5, 6, 7, 8, 9, 10, 11, 12, 13, 14, 15, 16, 17, 18, 19, 20, 21, 22, 23, 24, 25, 26, 27, 28, 29, 30, 31, 32, 33, 34, 35, 36, 37, 38, 39, 40, 41, 42, 43, 44, 45, 46, 47, 48, 49, 50, 51, 52, 53, 54, 55, 56, 57] 2 k376 k340 k10 k341 rfl (by decide +kernel) ⟨Nat.le_of_ble_eq_true rfl, Nat.le_of_ble_eq_true rfl⟩ ⟨Nat.le_of_ble_eq_true rfl, Nat.le_of_ble_eq_true rfl⟩ dX5_set_27 (Nat.le_of_ble_eq_true rfl) rfl (by decide +kernel) (fun _ => rfl) ([(ts, .inr (5, [.ref (a 0), .ref (a1 0), .ref (a2 0), .ref hh, .ref (b 0), .int (nI ks)]))] ++ (stW G a σ d ++ ([(hh, .inr (0, [.ref ha, .int (nI f), .int (nI n)])), (ha, .inl (G.2.2.2, 4, .inr (.inr (.inr (.inr (fun j => some (hb j 0)))))))] ++ (stW G (hb 0) (hσ 0) (hd 0) ++ (stW G (hb 1) (hσ 1) (hd 1) ++ (stW G (hb 2) (hσ 2) (hd 2) ++ stW G (hb 3) (hσ 3) (hd 3))))))) rfl (fun _ => rfl) 58 (fun _ => rfl) (by decide +kernel) (by decide +kernel) (fun _ _ => ?_)
  refine J_st (st' := [.int (nI (hiS 0)), .int (nI k)]) rfl ?_
  refine J_i (rfl : (nI (hiS 0) : Int32) = 9) ?_
  refine J_icmp_le C 36 (by decide) dX5_set_30 (fun c30 => ?_) (fun h => absurd (cv_le_f (a := k) (b := 9) (by omega) (by omega) h) (by omega))
  refine J_aload_n C rfl dX5_set_36 ?_
  refine J_get C 0 0 in5 rfl rfl (by decide) k217 rfl dX5_set_37 ?_
  refine J_getN C 1 3 in4 rfl rfl (by decide) nfTwoScribes_126 rfl dX5_set_40 ?_
  refine J_iload_n C rfl dX5_set_43 ?_
  refine J_callS (as := [.ref (a 10), .int 0]) (rest := []) C (ct_at l G (a 10) 3 (fun q => nI (σ 7 q)) 0 (by omega) (by decide)) (fun u => [(ts, .inr (5, [.ref (a 0), .ref (a1 0), .ref (a2 0), .ref hh, .ref (b 0), .int (nI ks)]))] ++ (stW G a σ d ++ ([(hh, .inr (0, [.ref ha, .int (nI f), .int (nI n)])), (ha, .inl (G.2.2.2, 4, .inr (.inr (.inr (.inr (fun j => some (hb j 0)))))))] ++ (stW G (hb 0) (hσ 0) (hd 0) ++ (stW G (hb 1) (hσ 1) (hd 1) ++ (stW G (hb 2) (hσ 2) (hd 2) ++ stW G (hb 3) (hσ 3) (hd 3))))))) [11] [0, 1, 2, 3, 4, 5, 6, 7, 8, 9, 10, 12, 13, 14, 15, 16, 17, 18, 19, 20, 21, 22, 23, 24, 25, 26, 27, 28, 29, 30, 31, 32, 33, 34, 35, 36, 37, 38, 39, 40, 41, 42, 43, 44, 45, 46, 47, 48, 49, 50, 51, 52, 53, 54, 55, 56, 57] 2 k376 k340 k10 k341 rfl (by decide +kernel) ⟨Nat.le_of_ble_eq_true rfl, Nat.le_of_ble_eq_true rfl⟩ ⟨Nat.le_of_ble_eq_true rfl, Nat.le_of_ble_eq_true rfl⟩ dX5_set_44 (Nat.le_of_ble_eq_true rfl) rfl (by decide +kernel) (fun _ => rfl) ([(ts, .inr (5, [.ref (a 0), .ref (a1 0), .ref (a2 0), .ref hh, .ref (b 0), .int (nI ks)]))] ++ ([(a 0, .inr (4, [.ref (a 1), .ref (a 8), .ref (a 9), .ref (a 10), .float (fl (σ 0 6)), .float (fl (σ 0 7)), .float (fl (σ 0 8)), .int (nI (σ 0 3)), .int (nI (σ 0 9)), .int (nI (σ 0 10)), .int (nI (σ 0 11))])), (a 1, .inr (1, [.ref (a 2), .ref (a 3), .ref (a 4), .ref (a 5), .ref (a 6), .ref (a 7), .int (nI (σ 0 4)), .int (nI (σ 0 5))])), (a 2, .inl (G.2.1, 40, .inl (fun q => nI (d q)))), (a 3, .inl (G.2.1, 40, .inl (fun q => nI (σ 2 q)))), (a 4, .inl (G.2.1, 40, .inl (fun q => nI (σ 3 q)))), (a 5, .inl (G.2.1, 40, .inl (fun q => nI (σ 6 q)))), (a 6, .inl (G.2.1, 40, .inl (fun q => nI (σ 4 q)))), (a 7, .inl (G.2.1, 40, .inl (fun q => nI (σ 5 q)))), (a 8, .inr (3, [.int (nI (σ 0 12)), .int (nI (σ 0 14)), .int (nI (σ 0 16)), .int (nI (σ 0 18)), .int (nI (σ 0 20)), .int (nI (σ 0 22)), .float (fl (σ 0 24))])), (a 9, .inr (3, [.int (nI (σ 0 13)), .int (nI (σ 0 15)), .int (nI (σ 0 17)), .int (nI (σ 0 19)), .int (nI (σ 0 21)), .int (nI (σ 0 23)), .float (fl (σ 0 25))]))] ++ ([(hh, .inr (0, [.ref ha, .int (nI f), .int (nI n)])), (ha, .inl (G.2.2.2, 4, .inr (.inr (.inr (.inr (fun j => some (hb j 0)))))))] ++ (stW G (hb 0) (hσ 0) (hd 0) ++ (stW G (hb 1) (hσ 1) (hd 1) ++ (stW G (hb 2) (hσ 2) (hd 2) ++ stW G (hb 3) (hσ 3) (hd 3))))))) rfl (fun _ => rfl) 58 (fun _ => rfl) (by decide +kernel) (by decide +kernel) (fun _ _ => ?_)
  refine J_st (st' := [.int (nI (σ 7 0))]) rfl ?_
  refine J_istore_n C [(3, .int (nI (σ 7 0))), (0, .ref ts), (1, .int 0), (2, .int (nI k))] (by decide) rfl dX5_set_47 ?_
  refine J_iload_n C rfl dX5_set_48 ?_
  refine J_iload_n C rfl dX5_set_49 ?_
  refine J_icmp_ne C 56 (by decide) dX5_set_50 (fun c50 => ?_) (fun h => absurd (cv_ne_f (a := (σ 7 0)) (b := k) (by omega) (by omega) h) (by omega))
  refine J_aload_n C rfl dX5_set_56 ?_
  refine J_get C 0 3 in5 rfl rfl (by decide) k220 rfl dX5_set_57 ?_
  refine J_aload_n C rfl dX5_set_60 ?_
  refine J_get C 0 0 in5 rfl rfl (by decide) k217 rfl dX5_set_61 ?_
  refine J_callV (as := [.ref (a 0)]) (rest := []) C (ct_record l G hh ha hb hσ hd f n a σ d hf4 hn4) (fun u => [(ts, .inr (5, [.ref (a 0), .ref (a1 0), .ref (a2 0), .ref hh, .ref (b 0), .int (nI ks)]))] ++ (stW G a σ d ++ ([(hh, .inr (0, [.ref ha, .int (nI (firstF f n)), .int (nI (sizeF n))])), (ha, .inl (G.2.2.2, 4, .inr (.inr (.inr (.inr (fun j => some (hb j 0)))))))] ++ (stW G (hb 0) ((va_up hσ (slotF f n) σ) 0) ((va_up hd (slotF f n) d) 0) ++ (stW G (hb 1) ((va_up hσ (slotF f n) σ) 1) ((va_up hd (slotF f n) d) 1) ++ (stW G (hb 2) ((va_up hσ (slotF f n) σ) 2) ((va_up hd (slotF f n) d) 2) ++ stW G (hb 3) ((va_up hσ (slotF f n) σ) 3) ((va_up hd (slotF f n) d) 3))))))) [12, 13, 14, 15, 16, 17, 18, 19, 20, 21, 22, 23, 24, 25, 26, 27, 28, 29, 30, 31, 32, 33, 34, 35, 36, 37, 38, 39, 40, 41, 42, 43, 44, 45, 46, 47, 48, 49, 50, 51, 52, 53, 54, 55, 56, 57, 1, 2, 3, 4, 5, 6, 7, 8, 9, 10, 11] [0] 1 k300 k301 k302 k14 k303 rfl (by decide +kernel) ⟨Nat.le_of_ble_eq_true rfl, Nat.le_of_ble_eq_true rfl⟩ ⟨Nat.le_of_ble_eq_true rfl, Nat.le_of_ble_eq_true rfl⟩ dX5_set_64 (Nat.le_of_ble_eq_true rfl) 12 rfl rfl rfl (by decide +kernel) (fun _ => rfl) ([(ts, .inr (5, [.ref (a 0), .ref (a1 0), .ref (a2 0), .ref hh, .ref (b 0), .int (nI ks)]))]) rfl (fun _ => rfl) 58 (fun _ => rfl) (by decide +kernel) (by decide +kernel) (fun _ _ => ?_)
  refine J_st (st' := []) rfl ?_
  refine J_aload_n C rfl dX5_set_67 ?_
  refine J_get C 0 0 in5 rfl rfl (by decide) k217 rfl dX5_set_68 ?_
  refine J_getN C 1 3 in4 rfl rfl (by decide) nfTwoScribes_126 rfl dX5_set_71 ?_
  refine J_iload_n C rfl dX5_set_74 ?_
  refine J_iload_n C rfl dX5_set_75 ?_
  refine J_callS (as := [.ref (a 10), .int 0, .int (nI k)]) (rest := []) C (ct_putN l G (a 10) 3 (σ 7) 0 k (by omega) (by decide)) (fun u => [(ts, .inr (5, [.ref (a 0), .ref (a1 0), .ref (a2 0), .ref hh, .ref (b 0), .int (nI ks)]))] ++ ([(a 0, .inr (4, [.ref (a 1), .ref (a 8), .ref (a 9), .ref (a 10), .float (fl (σ 0 6)), .float (fl (σ 0 7)), .float (fl (σ 0 8)), .int (nI (σ 0 3)), .int (nI (σ 0 9)), .int (nI (σ 0 10)), .int (nI (σ 0 11))])), (a 1, .inr (1, [.ref (a 2), .ref (a 3), .ref (a 4), .ref (a 5), .ref (a 6), .ref (a 7), .int (nI (σ 0 4)), .int (nI (σ 0 5))])), (a 2, .inl (G.2.1, 40, .inl (fun q => nI (d q)))), (a 3, .inl (G.2.1, 40, .inl (fun q => nI (σ 2 q)))), (a 4, .inl (G.2.1, 40, .inl (fun q => nI (σ 3 q)))), (a 5, .inl (G.2.1, 40, .inl (fun q => nI (σ 6 q)))), (a 6, .inl (G.2.1, 40, .inl (fun q => nI (σ 4 q)))), (a 7, .inl (G.2.1, 40, .inl (fun q => nI (σ 5 q)))), (a 8, .inr (3, [.int (nI (σ 0 12)), .int (nI (σ 0 14)), .int (nI (σ 0 16)), .int (nI (σ 0 18)), .int (nI (σ 0 20)), .int (nI (σ 0 22)), .float (fl (σ 0 24))])), (a 9, .inr (3, [.int (nI (σ 0 13)), .int (nI (σ 0 15)), .int (nI (σ 0 17)), .int (nI (σ 0 19)), .int (nI (σ 0 21)), .int (nI (σ 0 23)), .float (fl (σ 0 25))])), (a 10, .inl (G.2.1, 3, .inl (fun q => nI (if q = 0 then k else (σ 7) q))))] ++ ([(hh, .inr (0, [.ref ha, .int (nI (firstF f n)), .int (nI (sizeF n))])), (ha, .inl (G.2.2.2, 4, .inr (.inr (.inr (.inr (fun j => some (hb j 0)))))))] ++ (stW G (hb 0) ((va_up hσ (slotF f n) σ) 0) ((va_up hd (slotF f n) d) 0) ++ (stW G (hb 1) ((va_up hσ (slotF f n) σ) 1) ((va_up hd (slotF f n) d) 1) ++ (stW G (hb 2) ((va_up hσ (slotF f n) σ) 2) ((va_up hd (slotF f n) d) 2) ++ stW G (hb 3) ((va_up hσ (slotF f n) σ) 3) ((va_up hd (slotF f n) d) 3))))))) [11] [0, 1, 2, 3, 4, 5, 6, 7, 8, 9, 10, 12, 13, 14, 15, 16, 17, 18, 19, 20, 21, 22, 23, 24, 25, 26, 27, 28, 29, 30, 31, 32, 33, 34, 35, 36, 37, 38, 39, 40, 41, 42, 43, 44, 45, 46, 47, 48, 49, 50, 51, 52, 53, 54, 55, 56, 57] 3 k381 k283 k10 k284 rfl (by decide +kernel) ⟨Nat.le_of_ble_eq_true rfl, Nat.le_of_ble_eq_true rfl⟩ ⟨Nat.le_of_ble_eq_true rfl, Nat.le_of_ble_eq_true rfl⟩ dX5_set_76 (Nat.le_of_ble_eq_true rfl) rfl (by decide +kernel) (fun _ => rfl) ([(ts, .inr (5, [.ref (a 0), .ref (a1 0), .ref (a2 0), .ref hh, .ref (b 0), .int (nI ks)]))] ++ ([(a 0, .inr (4, [.ref (a 1), .ref (a 8), .ref (a 9), .ref (a 10), .float (fl (σ 0 6)), .float (fl (σ 0 7)), .float (fl (σ 0 8)), .int (nI (σ 0 3)), .int (nI (σ 0 9)), .int (nI (σ 0 10)), .int (nI (σ 0 11))])), (a 1, .inr (1, [.ref (a 2), .ref (a 3), .ref (a 4), .ref (a 5), .ref (a 6), .ref (a 7), .int (nI (σ 0 4)), .int (nI (σ 0 5))])), (a 2, .inl (G.2.1, 40, .inl (fun q => nI (d q)))), (a 3, .inl (G.2.1, 40, .inl (fun q => nI (σ 2 q)))), (a 4, .inl (G.2.1, 40, .inl (fun q => nI (σ 3 q)))), (a 5, .inl (G.2.1, 40, .inl (fun q => nI (σ 6 q)))), (a 6, .inl (G.2.1, 40, .inl (fun q => nI (σ 4 q)))), (a 7, .inl (G.2.1, 40, .inl (fun q => nI (σ 5 q)))), (a 8, .inr (3, [.int (nI (σ 0 12)), .int (nI (σ 0 14)), .int (nI (σ 0 16)), .int (nI (σ 0 18)), .int (nI (σ 0 20)), .int (nI (σ 0 22)), .float (fl (σ 0 24))])), (a 9, .inr (3, [.int (nI (σ 0 13)), .int (nI (σ 0 15)), .int (nI (σ 0 17)), .int (nI (σ 0 19)), .int (nI (σ 0 21)), .int (nI (σ 0 23)), .float (fl (σ 0 25))]))] ++ ([(hh, .inr (0, [.ref ha, .int (nI (firstF f n)), .int (nI (sizeF n))])), (ha, .inl (G.2.2.2, 4, .inr (.inr (.inr (.inr (fun j => some (hb j 0)))))))] ++ (stW G (hb 0) ((va_up hσ (slotF f n) σ) 0) ((va_up hd (slotF f n) d) 0) ++ (stW G (hb 1) ((va_up hσ (slotF f n) σ) 1) ((va_up hd (slotF f n) d) 1) ++ (stW G (hb 2) ((va_up hσ (slotF f n) σ) 2) ((va_up hd (slotF f n) d) 2) ++ stW G (hb 3) ((va_up hσ (slotF f n) σ) 3) ((va_up hd (slotF f n) d) 3))))))) rfl (fun _ => rfl) 58 (fun _ => rfl) (by decide +kernel) (by decide +kernel) (fun _ _ => ?_)
  refine J_st (st' := []) rfl ?_
  refine J_iload_n C rfl dX5_set_79 ?_
  exact J_zret C hr rfl dX5_set_80 () rfl trivial rfl

set_option maxHeartbeats 4000000 in
set_option maxRecDepth 100000 in
theorem ct_set2_1 (l : Launch) (G : GT) (ts : Nat) (a a1 a2 : Nat → Nat) (hh : Nat) (b : Nat → Nat) (ks : Nat) (σ : AS) (d : Nat → Nat) (al ag : Nat) (y : Int32) (hy : ¬ (0 ≤ y.toInt ∧ y.toInt ≤ 8)) : Ct (S := Unit) l G (XS al ag) yX5_set (Wy yX5_set cX5_set 4 ((Option.some Jvm.ClassFile.FieldType.int))) { frames := 1, cells := 0, slots := 0, locals := 21 } [.ref ts, .int 1, .int y] ([(ts, .inr (5, [.ref (a 0), .ref (a1 0), .ref (a2 0), .ref hh, .ref (b 0), .int (nI ks)]))] ++ stW G a σ d) (fun u => True) (fun u => some (.int (-2))) (fun u => [(ts, .inr (5, [.ref (a 0), .ref (a1 0), .ref (a2 0), .ref hh, .ref (b 0), .int (nI ks)]))] ++ stW G a σ d) := by
  refine Ct.of (by decide) (Nat.le_of_ble_eq_true rfl) (fun p e s m args below meth c C hr hnm hX => ?_)
  refine J_iload_n C rfl dX5_set_0 ?_
  refine J_if_lt C 9 (by decide) dX5_set_1 (fun h => absurd h (by decide)) (fun _ => ?_)
  refine J_iload_n C rfl dX5_set_4 ?_
  refine J_iconst C 2 (by decide) dX5_set_5 ?_
  refine J_icmp_le C 11 (by decide) dX5_set_6 (fun _ => ?_) (fun h => absurd h (by decide))
  refine J_iload_n C rfl dX5_set_11 ?_
  refine J_gets C hX.1.1 k421 dX5_set_12 ?_
  refine J_iload_n C rfl dX5_set_15 ?_
  refine J_callSX (as := [.ref al, .int 1]) (rest := [.int y]) C XT.b (XT.f hX.1.2) (ct_atT l G al 3 loS 1 (by decide) (by decide)) (fun u => [(ts, .inr (5, [.ref (a 0), .ref (a1 0), .ref (a2 0), .ref hh, .ref (b 0), .int (nI ks)]))] ++ stW G a σ d) [] [0, 1, 2, 3, 4, 5, 6, 7, 8, 9, 10, 11] 2 k376 k340 k10 k341 rfl (by decide +kernel) ⟨Nat.le_of_ble_eq_true rfl, Nat.le_of_ble_eq_true rfl⟩ ⟨Nat.le_of_ble_eq_true rfl, Nat.le_of_ble_eq_true rfl⟩ dX5_set_16 (Nat.le_of_ble_eq_true rfl) rfl (by decide +kernel) (fun _ => rfl) ([(ts, .inr (5, [.ref (a 0), .ref (a1 0), .ref (a2 0), .ref hh, .ref (b 0), .int (nI ks)]))] ++ stW G a σ d) rfl (fun _ => rfl) 12 (fun _ => rfl) (by decide +kernel) (by decide +kernel) (fun _ _ => ?_)
  refine J_st (st' := [.int (nI (loS 1)), .int y]) rfl ?_
  refine J_i (rfl : (nI (loS 1) : Int32) = 0) ?_
  refine J_icmp_lt C 33 (by decide) dX5_set_19 (fun c19 => ?_) (fun c19 => ?_)
  · skip
    have c19 := ti_lt_t (z := 0) (by decide) c19
    refine J_bipush C (-2) (by decide) dX5_set_33 ?_
    exact J_zret C hr rfl dX5_set_35 () rfl trivial rfl
  · skip
    have c19 := ti_lt_f (z := 0) (by decide) c19
    refine J_iload_n C rfl dX5_set_22 ?_
    refine J_gets C hX.2.1 k423 dX5_set_23 ?_
    refine J_iload_n C rfl dX5_set_26 ?_
    refine J_callSX (as := [.ref ag, .int 1]) (rest := [.int y]) C XT.b (XT.f hX.2.2) (ct_atT l G ag 3 hiS 1 (by decide) (by decide)) (fun u => [(ts, .inr (5, [.ref (a 0), .ref (a1 0), .ref (a2 0), .ref hh, .ref (b 0), .int (nI ks)]))] ++ stW G a σ d) [] [0, 1, 2, 3, 4, 5, 6, 7, 8, 9, 10, 11] 2 k376 k340 k10 k341 rfl (by decide +kernel) ⟨Nat.le_of_ble_eq_true rfl, Nat.le_of_ble_eq_true rfl⟩ ⟨Nat.le_of_ble_eq_true rfl, Nat.le_of_ble_eq_true rfl⟩ dX5_set_27 (Nat.le_of_ble_eq_true rfl) rfl (by decide +kernel) (fun _ => rfl) ([(ts, .inr (5, [.ref (a 0), .ref (a1 0), .ref (a2 0), .ref hh, .ref (b 0), .int (nI ks)]))] ++ stW G a σ d) rfl (fun _ => rfl) 12 (fun _ => rfl) (by decide +kernel) (by decide +kernel) (fun _ _ => ?_)
    refine J_st (st' := [.int (nI (hiS 1)), .int y]) rfl ?_
    refine J_i (rfl : (nI (hiS 1) : Int32) = 8) ?_
    refine J_icmp_le C 36 (by decide) dX5_set_30 (fun h => absurd h (fun q => absurd (ti_le_t (z := 8) (by decide) q) (by omega))) (fun _ => ?_)
    refine J_bipush C (-2) (by decide) dX5_set_33 ?_
    exact J_zret C hr rfl dX5_set_35 () rfl trivial rfl

set_option maxHeartbeats 4000000 in
set_option maxRecDepth 100000 in
theorem ct_set3_1 (l : Launch) (G : GT) (ts : Nat) (a a1 a2 : Nat → Nat) (hh : Nat) (b : Nat → Nat) (ks : Nat) (σ : AS) (d : Nat → Nat) (al ag : Nat) (k : Nat) (hI : Inv σ) (hk : 0 ≤ k ∧ k ≤ 8) (he : σ 7 1 = k) : Ct (S := Unit) l G (XS al ag) yX5_set (Wy yX5_set cX5_set 4 ((Option.some Jvm.ClassFile.FieldType.int))) { frames := 1, cells := 0, slots := 0, locals := 21 } [.ref ts, .int 1, .int (nI k)] ([(ts, .inr (5, [.ref (a 0), .ref (a1 0), .ref (a2 0), .ref hh, .ref (b 0), .int (nI ks)]))] ++ stW G a σ d) (fun u => True) (fun u => some (.int (-5))) (fun u => [(ts, .inr (5, [.ref (a 0), .ref (a1 0), .ref (a2 0), .ref hh, .ref (b 0), .int (nI ks)]))] ++ stW G a σ d) := by
  refine Ct.of (by decide) (Nat.le_of_ble_eq_true rfl) (fun p e s m args below meth c C hr hnm hX => ?_)
  have hs := hI.s
  refine J_iload_n C rfl dX5_set_0 ?_
  refine J_if_lt C 9 (by decide) dX5_set_1 (fun h => absurd h (by decide)) (fun _ => ?_)
  refine J_iload_n C rfl dX5_set_4 ?_
  refine J_iconst C 2 (by decide) dX5_set_5 ?_
  refine J_icmp_le C 11 (by decide) dX5_set_6 (fun _ => ?_) (fun h => absurd h (by decide))
  refine J_iload_n C rfl dX5_set_11 ?_
  refine J_gets C hX.1.1 k421 dX5_set_12 ?_
  refine J_iload_n C rfl dX5_set_15 ?_
  refine J_callSX (as := [.ref al, .int 1]) (rest := [.int (nI k)]) C XT.b (XT.f hX.1.2) (ct_atT l G al 3 loS 1 (by decide) (by decide)) (fun u => [(ts, .inr (5, [.ref (a 0), .ref (a1 0), .ref (a2 0), .ref hh, .ref (b 0), .int (nI ks)]))] ++ stW G a σ d) [] [0, 1, 2, 3, 4, 5, 6, 7, 8, 9, 10, 11] 2 k376 k340 k10 k341 rfl (by decide +kernel) ⟨Nat.le_of_ble_eq_true rfl, Nat.le_of_ble_eq_true rfl⟩ ⟨Nat.le_of_ble_eq_true rfl, Nat.le_of_ble_eq_true rfl⟩ dX5_set_16 (Nat.le_of_ble_eq_true rfl) rfl (by decide +kernel) (fun _ => rfl) ([(ts, .inr (5, [.ref (a 0), .ref (a1 0), .ref (a2 0), .ref hh, .ref (b 0), .int (nI ks)]))] ++ stW G a σ d) rfl (fun _ => rfl) 12 (fun _ => rfl) (by decide +kernel) (by decide +kernel) (fun _ _ => ?_)
  refine J_st (st' := [.int (nI (loS 1)), .int (nI k)]) rfl ?_
  refine J_i (rfl : (nI (loS 1) : Int32) = 0) ?_
  refine J_icmp_lt C 33 (by decide) dX5_set_19 (fun h => absurd (cv_lt_t (a := k) (b := 0) (by omega) (by omega) h) (by omega)) (fun c19 => ?_)
  refine J_iload_n C rfl dX5_set_22 ?_
  refine J_gets C hX.2.1 k423 dX5_set_23 ?_
  refine J_iload_n C rfl dX5_set_26 ?_
  refine J_callSX (as := [.ref ag, .int 1]) (rest := [.int (nI k)]) C XT.b (XT.f hX.2.2) (ct_atT l G ag 3 hiS 1 (by decide) (by decide)) (fun u => [(ts, .inr (5, [.ref (a 0), .ref (a1 0), .ref (a2 0), .ref hh, .ref (b 0), .int (nI ks)]))] ++ stW G a σ d) [] [0, 1, 2, 3, 4, 5, 6, 7, 8, 9, 10, 11] 2 k376 k340 k10 k341 rfl (by decide +kernel) ⟨Nat.le_of_ble_eq_true rfl, Nat.le_of_ble_eq_true rfl⟩ ⟨Nat.le_of_ble_eq_true rfl, Nat.le_of_ble_eq_true rfl⟩ dX5_set_27 (Nat.le_of_ble_eq_true rfl) rfl (by decide +kernel) (fun _ => rfl) ([(ts, .inr (5, [.ref (a 0), .ref (a1 0), .ref (a2 0), .ref hh, .ref (b 0), .int (nI ks)]))] ++ stW G a σ d) rfl (fun _ => rfl) 12 (fun _ => rfl) (by decide +kernel) (by decide +kernel) (fun _ _ => ?_)
  refine J_st (st' := [.int (nI (hiS 1)), .int (nI k)]) rfl ?_
  refine J_i (rfl : (nI (hiS 1) : Int32) = 8) ?_
  refine J_icmp_le C 36 (by decide) dX5_set_30 (fun c30 => ?_) (fun h => absurd (cv_le_f (a := k) (b := 8) (by omega) (by omega) h) (by omega))
  refine J_aload_n C rfl dX5_set_36 ?_
  refine J_get C 0 0 in5 rfl rfl (by decide) k217 rfl dX5_set_37 ?_
  refine J_getN C 1 3 in4 rfl rfl (by decide) nfTwoScribes_126 rfl dX5_set_40 ?_
  refine J_iload_n C rfl dX5_set_43 ?_
  refine J_callS (as := [.ref (a 10), .int 1]) (rest := []) C (ct_at l G (a 10) 3 (fun q => nI (σ 7 q)) 1 (by omega) (by decide)) (fun u => [(ts, .inr (5, [.ref (a 0), .ref (a1 0), .ref (a2 0), .ref hh, .ref (b 0), .int (nI ks)]))] ++ stW G a σ d) [11] [0, 1, 2, 3, 4, 5, 6, 7, 8, 9, 10] 2 k376 k340 k10 k341 rfl (by decide +kernel) ⟨Nat.le_of_ble_eq_true rfl, Nat.le_of_ble_eq_true rfl⟩ ⟨Nat.le_of_ble_eq_true rfl, Nat.le_of_ble_eq_true rfl⟩ dX5_set_44 (Nat.le_of_ble_eq_true rfl) rfl (by decide +kernel) (fun _ => rfl) ([(ts, .inr (5, [.ref (a 0), .ref (a1 0), .ref (a2 0), .ref hh, .ref (b 0), .int (nI ks)]))] ++ [(a 0, .inr (4, [.ref (a 1), .ref (a 8), .ref (a 9), .ref (a 10), .float (fl (σ 0 6)), .float (fl (σ 0 7)), .float (fl (σ 0 8)), .int (nI (σ 0 3)), .int (nI (σ 0 9)), .int (nI (σ 0 10)), .int (nI (σ 0 11))])), (a 1, .inr (1, [.ref (a 2), .ref (a 3), .ref (a 4), .ref (a 5), .ref (a 6), .ref (a 7), .int (nI (σ 0 4)), .int (nI (σ 0 5))])), (a 2, .inl (G.2.1, 40, .inl (fun q => nI (d q)))), (a 3, .inl (G.2.1, 40, .inl (fun q => nI (σ 2 q)))), (a 4, .inl (G.2.1, 40, .inl (fun q => nI (σ 3 q)))), (a 5, .inl (G.2.1, 40, .inl (fun q => nI (σ 6 q)))), (a 6, .inl (G.2.1, 40, .inl (fun q => nI (σ 4 q)))), (a 7, .inl (G.2.1, 40, .inl (fun q => nI (σ 5 q)))), (a 8, .inr (3, [.int (nI (σ 0 12)), .int (nI (σ 0 14)), .int (nI (σ 0 16)), .int (nI (σ 0 18)), .int (nI (σ 0 20)), .int (nI (σ 0 22)), .float (fl (σ 0 24))])), (a 9, .inr (3, [.int (nI (σ 0 13)), .int (nI (σ 0 15)), .int (nI (σ 0 17)), .int (nI (σ 0 19)), .int (nI (σ 0 21)), .int (nI (σ 0 23)), .float (fl (σ 0 25))]))]) rfl (fun _ => rfl) 12 (fun _ => rfl) (by decide +kernel) (by decide +kernel) (fun _ _ => ?_)
  refine J_st (st' := [.int (nI (σ 7 1))]) rfl ?_
  refine J_istore_n C [(3, .int (nI (σ 7 1))), (0, .ref ts), (1, .int 1), (2, .int (nI k))] (by decide) rfl dX5_set_47 ?_
  refine J_iload_n C rfl dX5_set_48 ?_
  refine J_iload_n C rfl dX5_set_49 ?_
  refine J_icmp_ne C 56 (by decide) dX5_set_50 (fun h => absurd (cv_ne_t (a := (σ 7 1)) (b := k) (by omega) (by omega) h) (by omega)) (fun c50 => ?_)
  refine J_bipush C (-5) (by decide) dX5_set_53 ?_
  exact J_zret C hr rfl dX5_set_55 () rfl trivial rfl

set_option maxHeartbeats 4000000 in
set_option maxRecDepth 100000 in
theorem ct_setY_1 (l : Launch) (G : GT) (ts : Nat) (a a1 a2 : Nat → Nat) (hh : Nat) (b : Nat → Nat) (ks : Nat) (σ : AS) (d : Nat → Nat) (ha : Nat) (hb : Nat → Nat → Nat) (hσ : Nat → AS) (hd : Nat → Nat → Nat) (f n : Nat) (al ag : Nat) (k : Nat) (hI : Inv σ) (hf4 : f < 4) (hn4 : n ≤ 4) (hk : 0 ≤ k ∧ k ≤ 8) (he : ¬ σ 7 1 = k) : Ct (S := Unit) l G (XS al ag) yX5_set (Wy yX5_set cX5_set 4 ((Option.some Jvm.ClassFile.FieldType.int))) { frames := 5, cells := 0, slots := 0, locals := 125 } [.ref ts, .int 1, .int (nI k)] ([(ts, .inr (5, [.ref (a 0), .ref (a1 0), .ref (a2 0), .ref hh, .ref (b 0), .int (nI ks)]))] ++ (stW G a σ d ++ ([(hh, .inr (0, [.ref ha, .int (nI f), .int (nI n)])), (ha, .inl (G.2.2.2, 4, .inr (.inr (.inr (.inr (fun j => some (hb j 0)))))))] ++ (stW G (hb 0) (hσ 0) (hd 0) ++ (stW G (hb 1) (hσ 1) (hd 1) ++ (stW G (hb 2) (hσ 2) (hd 2) ++ stW G (hb 3) (hσ 3) (hd 3))))))) (fun u => True) (fun u => some (.int (nI (σ 7 1)))) (fun u => [(ts, .inr (5, [.ref (a 0), .ref (a1 0), .ref (a2 0), .ref hh, .ref (b 0), .int (nI ks)]))] ++ (stW G a (up2 σ 7 1 k) d ++ ([(hh, .inr (0, [.ref ha, .int (nI (firstF f n)), .int (nI (sizeF n))])), (ha, .inl (G.2.2.2, 4, .inr (.inr (.inr (.inr (fun j => some (hb j 0)))))))] ++ (stW G (hb 0) ((va_up hσ (slotF f n) σ) 0) ((va_up hd (slotF f n) d) 0) ++ (stW G (hb 1) ((va_up hσ (slotF f n) σ) 1) ((va_up hd (slotF f n) d) 1) ++ (stW G (hb 2) ((va_up hσ (slotF f n) σ) 2) ((va_up hd (slotF f n) d) 2) ++ stW G (hb 3) ((va_up hσ (slotF f n) σ) 3) ((va_up hd (slotF f n) d) 3))))))) := by
  refine Ct.of (by decide) (Nat.le_of_ble_eq_true rfl) (fun p e s m args below meth c C hr hnm hX => ?_)
  have hs := hI.s
  refine J_iload_n C rfl dX5_set_0 ?_
  refine J_if_lt C 9 (by decide) dX5_set_1 (fun h => absurd h (by decide)) (fun _ => ?_)
  refine J_iload_n C rfl dX5_set_4 ?_
  refine J_iconst C 2 (by decide) dX5_set_5 ?_
  refine J_icmp_le C 11 (by decide) dX5_set_6 (fun _ => ?_) (fun h => absurd h (by decide))
  refine J_iload_n C rfl dX5_set_11 ?_
  refine J_gets C hX.1.1 k421 dX5_set_12 ?_
  refine J_iload_n C rfl dX5_set_15 ?_
  refine J_callSX (as := [.ref al, .int 1]) (rest := [.int (nI k)]) C XT.b (XT.f hX.1.2) (ct_atT l G al 3 loS 1 (by decide) (by decide)) (fun u => [(ts, .inr (5, [.ref (a 0), .ref (a1 0), .ref (a2 0), .ref hh, .ref (b 0), .int (nI ks)]))] ++ (stW G a σ d ++ ([(hh, .inr (0, [.ref ha, .int (nI f), .int (nI n)])), (ha, .inl (G.2.2.2, 4, .inr (.inr (.inr (.inr (fun j => some (hb j 0)))))))] ++ (stW G (hb 0) (hσ 0) (hd 0) ++ (stW G (hb 1) (hσ 1) (hd 1) ++ (stW G (hb 2) (hσ 2) (hd 2) ++ stW G (hb 3) (hσ 3) (hd 3))))))) [] [0, 1, 2, 3, 4, 5, 6, 7, 8, 9, 10, 11, 12, 13, 14, 15, 16, 17, 18, 19, 20, 21, 22, 23, 24, 25, 26, 27, 28, 29, 30, 31, 32, 33, 34, 35, 36, 37, 38, 39, 40, 41, 42, 43, 44, 45, 46, 47, 48, 49, 50, 51, 52, 53, 54, 55, 56, 57] 2 k376 k340 k10 k341 rfl (by decide +kernel) ⟨Nat.le_of_ble_eq_true rfl, Nat.le_of_ble_eq_true rfl⟩ ⟨Nat.le_of_ble_eq_true rfl, Nat.le_of_ble_eq_true rfl⟩ dX5_set_16 (Nat.le_of_ble_eq_true rfl) rfl (by decide +kernel) (fun _ => rfl) ([(ts, .inr (5, [.ref (a 0), .ref (a1 0), .ref (a2 0), .ref hh, .ref (b 0), .int (nI ks)]))] ++ (stW G a σ d ++ ([(hh, .inr (0, [.ref ha, .int (nI f), .int (nI n)])), (ha, .inl (G.2.2.2, 4, .inr (.inr (.inr (.inr (fun j => some (hb j 0)))))))] ++ (stW G (hb 0) (hσ 0) (hd 0) ++ (stW G (hb 1) (hσ 1) (hd 1) ++ (stW G (hb 2) (hσ 2) (hd 2) ++ stW G (hb 3) (hσ 3) (hd 3))))))) rfl (fun _ => rfl) 58 (fun _ => rfl) (by decide +kernel) (by decide +kernel) (fun _ _ => ?_)
  refine J_st (st' := [.int (nI (loS 1)), .int (nI k)]) rfl ?_
  refine J_i (rfl : (nI (loS 1) : Int32) = 0) ?_
  refine J_icmp_lt C 33 (by decide) dX5_set_19 (fun h => absurd (cv_lt_t (a := k) (b := 0) (by omega) (by omega) h) (by omega)) (fun c19 => ?_)
  refine J_iload_n C rfl dX5_set_22 ?_
  refine J_gets C hX.2.1 k423 dX5_set_23 ?_
  refine J_iload_n C rfl dX5_set_26 ?_
  refine J_callSX (as := [.ref ag, .int 1]) (rest := [.int (nI k)]) C XT.b (XT.f hX.2.2) (ct_atT l G ag 3 hiS 1 (by decide) (by decide)) (fun u => [(ts, .inr (5, [.ref (a 0), .ref (a1 0), .ref (a2 0), .ref hh, .ref (b 0), .int (nI ks)]))] ++ (stW G a σ d ++ ([(hh, .inr (0, [.ref ha, .int (nI f), .int (nI n)])), (ha, .inl (G.2.2.2, 4, .inr (.inr (.inr (.inr (fun j => some (hb j 0)))))))] ++ (stW G (hb 0) (hσ 0) (hd 0) ++ (stW G (hb 1) (hσ 1) (hd 1) ++ (stW G (hb 2) (hσ 2) (hd 2) ++ stW G (hb 3) (hσ 3) (hd 3))))))) [] [0, 1, 2, 3, 4, 5, 6, 7, 8, 9, 10, 11, 12, 13, 14, 15, 16, 17, 18, 19, 20, 21, 22, 23, 24, 25, 26, 27, 28, 29, 30, 31, 32, 33, 34, 35, 36, 37, 38, 39, 40, 41, 42, 43, 44, 45, 46, 47, 48, 49, 50, 51, 52, 53, 54, 55, 56, 57] 2 k376 k340 k10 k341 rfl (by decide +kernel) ⟨Nat.le_of_ble_eq_true rfl, Nat.le_of_ble_eq_true rfl⟩ ⟨Nat.le_of_ble_eq_true rfl, Nat.le_of_ble_eq_true rfl⟩ dX5_set_27 (Nat.le_of_ble_eq_true rfl) rfl (by decide +kernel) (fun _ => rfl) ([(ts, .inr (5, [.ref (a 0), .ref (a1 0), .ref (a2 0), .ref hh, .ref (b 0), .int (nI ks)]))] ++ (stW G a σ d ++ ([(hh, .inr (0, [.ref ha, .int (nI f), .int (nI n)])), (ha, .inl (G.2.2.2, 4, .inr (.inr (.inr (.inr (fun j => some (hb j 0)))))))] ++ (stW G (hb 0) (hσ 0) (hd 0) ++ (stW G (hb 1) (hσ 1) (hd 1) ++ (stW G (hb 2) (hσ 2) (hd 2) ++ stW G (hb 3) (hσ 3) (hd 3))))))) rfl (fun _ => rfl) 58 (fun _ => rfl) (by decide +kernel) (by decide +kernel) (fun _ _ => ?_)
  refine J_st (st' := [.int (nI (hiS 1)), .int (nI k)]) rfl ?_
  refine J_i (rfl : (nI (hiS 1) : Int32) = 8) ?_
  refine J_icmp_le C 36 (by decide) dX5_set_30 (fun c30 => ?_) (fun h => absurd (cv_le_f (a := k) (b := 8) (by omega) (by omega) h) (by omega))
  refine J_aload_n C rfl dX5_set_36 ?_
  refine J_get C 0 0 in5 rfl rfl (by decide) k217 rfl dX5_set_37 ?_
  refine J_getN C 1 3 in4 rfl rfl (by decide) nfTwoScribes_126 rfl dX5_set_40 ?_
  refine J_iload_n C rfl dX5_set_43 ?_
  refine J_callS (as := [.ref (a 10), .int 1]) (rest := []) C (ct_at l G (a 10) 3 (fun q => nI (σ 7 q)) 1 (by omega) (by decide)) (fun u => [(ts, .inr (5, [.ref (a 0), .ref (a1 0), .ref (a2 0), .ref hh, .ref (b 0), .int (nI ks)]))] ++ (stW G a σ d ++ ([(hh, .inr (0, [.ref ha, .int (nI f), .int (nI n)])), (ha, .inl (G.2.2.2, 4, .inr (.inr (.inr (.inr (fun j => some (hb j 0)))))))] ++ (stW G (hb 0) (hσ 0) (hd 0) ++ (stW G (hb 1) (hσ 1) (hd 1) ++ (stW G (hb 2) (hσ 2) (hd 2) ++ stW G (hb 3) (hσ 3) (hd 3))))))) [11] [0, 1, 2, 3, 4, 5, 6, 7, 8, 9, 10, 12, 13, 14, 15, 16, 17, 18, 19, 20, 21, 22, 23, 24, 25, 26, 27, 28, 29, 30, 31, 32, 33, 34, 35, 36, 37, 38, 39, 40, 41, 42, 43, 44, 45, 46, 47, 48, 49, 50, 51, 52, 53, 54, 55, 56, 57] 2 k376 k340 k10 k341 rfl (by decide +kernel) ⟨Nat.le_of_ble_eq_true rfl, Nat.le_of_ble_eq_true rfl⟩ ⟨Nat.le_of_ble_eq_true rfl, Nat.le_of_ble_eq_true rfl⟩ dX5_set_44 (Nat.le_of_ble_eq_true rfl) rfl (by decide +kernel) (fun _ => rfl) ([(ts, .inr (5, [.ref (a 0), .ref (a1 0), .ref (a2 0), .ref hh, .ref (b 0), .int (nI ks)]))] ++ ([(a 0, .inr (4, [.ref (a 1), .ref (a 8), .ref (a 9), .ref (a 10), .float (fl (σ 0 6)), .float (fl (σ 0 7)), .float (fl (σ 0 8)), .int (nI (σ 0 3)), .int (nI (σ 0 9)), .int (nI (σ 0 10)), .int (nI (σ 0 11))])), (a 1, .inr (1, [.ref (a 2), .ref (a 3), .ref (a 4), .ref (a 5), .ref (a 6), .ref (a 7), .int (nI (σ 0 4)), .int (nI (σ 0 5))])), (a 2, .inl (G.2.1, 40, .inl (fun q => nI (d q)))), (a 3, .inl (G.2.1, 40, .inl (fun q => nI (σ 2 q)))), (a 4, .inl (G.2.1, 40, .inl (fun q => nI (σ 3 q)))), (a 5, .inl (G.2.1, 40, .inl (fun q => nI (σ 6 q)))), (a 6, .inl (G.2.1, 40, .inl (fun q => nI (σ 4 q)))), (a 7, .inl (G.2.1, 40, .inl (fun q => nI (σ 5 q)))), (a 8, .inr (3, [.int (nI (σ 0 12)), .int (nI (σ 0 14)), .int (nI (σ 0 16)), .int (nI (σ 0 18)), .int (nI (σ 0 20)), .int (nI (σ 0 22)), .float (fl (σ 0 24))])), (a 9, .inr (3, [.int (nI (σ 0 13)), .int (nI (σ 0 15)), .int (nI (σ 0 17)), .int (nI (σ 0 19)), .int (nI (σ 0 21)), .int (nI (σ 0 23)), .float (fl (σ 0 25))]))] ++ ([(hh, .inr (0, [.ref ha, .int (nI f), .int (nI n)])), (ha, .inl (G.2.2.2, 4, .inr (.inr (.inr (.inr (fun j => some (hb j 0)))))))] ++ (stW G (hb 0) (hσ 0) (hd 0) ++ (stW G (hb 1) (hσ 1) (hd 1) ++ (stW G (hb 2) (hσ 2) (hd 2) ++ stW G (hb 3) (hσ 3) (hd 3))))))) rfl (fun _ => rfl) 58 (fun _ => rfl) (by decide +kernel) (by decide +kernel) (fun _ _ => ?_)
  refine J_st (st' := [.int (nI (σ 7 1))]) rfl ?_
  refine J_istore_n C [(3, .int (nI (σ 7 1))), (0, .ref ts), (1, .int 1), (2, .int (nI k))] (by decide) rfl dX5_set_47 ?_
  refine J_iload_n C rfl dX5_set_48 ?_
  refine J_iload_n C rfl dX5_set_49 ?_
  refine J_icmp_ne C 56 (by decide) dX5_set_50 (fun c50 => ?_) (fun h => absurd (cv_ne_f (a := (σ 7 1)) (b := k) (by omega) (by omega) h) (by omega))
  refine J_aload_n C rfl dX5_set_56 ?_
  refine J_get C 0 3 in5 rfl rfl (by decide) k220 rfl dX5_set_57 ?_
  refine J_aload_n C rfl dX5_set_60 ?_
  refine J_get C 0 0 in5 rfl rfl (by decide) k217 rfl dX5_set_61 ?_
  refine J_callV (as := [.ref (a 0)]) (rest := []) C (ct_record l G hh ha hb hσ hd f n a σ d hf4 hn4) (fun u => [(ts, .inr (5, [.ref (a 0), .ref (a1 0), .ref (a2 0), .ref hh, .ref (b 0), .int (nI ks)]))] ++ (stW G a σ d ++ ([(hh, .inr (0, [.ref ha, .int (nI (firstF f n)), .int (nI (sizeF n))])), (ha, .inl (G.2.2.2, 4, .inr (.inr (.inr (.inr (fun j => some (hb j 0)))))))] ++ (stW G (hb 0) ((va_up hσ (slotF f n) σ) 0) ((va_up hd (slotF f n) d) 0) ++ (stW G (hb 1) ((va_up hσ (slotF f n) σ) 1) ((va_up hd (slotF f n) d) 1) ++ (stW G (hb 2) ((va_up hσ (slotF f n) σ) 2) ((va_up hd (slotF f n) d) 2) ++ stW G (hb 3) ((va_up hσ (slotF f n) σ) 3) ((va_up hd (slotF f n) d) 3))))))) [12, 13, 14, 15, 16, 17, 18, 19, 20, 21, 22, 23, 24, 25, 26, 27, 28, 29, 30, 31, 32, 33, 34, 35, 36, 37, 38, 39, 40, 41, 42, 43, 44, 45, 46, 47, 48, 49, 50, 51, 52, 53, 54, 55, 56, 57, 1, 2, 3, 4, 5, 6, 7, 8, 9, 10, 11] [0] 1 k300 k301 k302 k14 k303 rfl (by decide +kernel) ⟨Nat.le_of_ble_eq_true rfl, Nat.le_of_ble_eq_true rfl⟩ ⟨Nat.le_of_ble_eq_true rfl, Nat.le_of_ble_eq_true rfl⟩ dX5_set_64 (Nat.le_of_ble_eq_true rfl) 12 rfl rfl rfl (by decide +kernel) (fun _ => rfl) ([(ts, .inr (5, [.ref (a 0), .ref (a1 0), .ref (a2 0), .ref hh, .ref (b 0), .int (nI ks)]))]) rfl (fun _ => rfl) 58 (fun _ => rfl) (by decide +kernel) (by decide +kernel) (fun _ _ => ?_)
  refine J_st (st' := []) rfl ?_
  refine J_aload_n C rfl dX5_set_67 ?_
  refine J_get C 0 0 in5 rfl rfl (by decide) k217 rfl dX5_set_68 ?_
  refine J_getN C 1 3 in4 rfl rfl (by decide) nfTwoScribes_126 rfl dX5_set_71 ?_
  refine J_iload_n C rfl dX5_set_74 ?_
  refine J_iload_n C rfl dX5_set_75 ?_
  refine J_callS (as := [.ref (a 10), .int 1, .int (nI k)]) (rest := []) C (ct_putN l G (a 10) 3 (σ 7) 1 k (by omega) (by decide)) (fun u => [(ts, .inr (5, [.ref (a 0), .ref (a1 0), .ref (a2 0), .ref hh, .ref (b 0), .int (nI ks)]))] ++ ([(a 0, .inr (4, [.ref (a 1), .ref (a 8), .ref (a 9), .ref (a 10), .float (fl (σ 0 6)), .float (fl (σ 0 7)), .float (fl (σ 0 8)), .int (nI (σ 0 3)), .int (nI (σ 0 9)), .int (nI (σ 0 10)), .int (nI (σ 0 11))])), (a 1, .inr (1, [.ref (a 2), .ref (a 3), .ref (a 4), .ref (a 5), .ref (a 6), .ref (a 7), .int (nI (σ 0 4)), .int (nI (σ 0 5))])), (a 2, .inl (G.2.1, 40, .inl (fun q => nI (d q)))), (a 3, .inl (G.2.1, 40, .inl (fun q => nI (σ 2 q)))), (a 4, .inl (G.2.1, 40, .inl (fun q => nI (σ 3 q)))), (a 5, .inl (G.2.1, 40, .inl (fun q => nI (σ 6 q)))), (a 6, .inl (G.2.1, 40, .inl (fun q => nI (σ 4 q)))), (a 7, .inl (G.2.1, 40, .inl (fun q => nI (σ 5 q)))), (a 8, .inr (3, [.int (nI (σ 0 12)), .int (nI (σ 0 14)), .int (nI (σ 0 16)), .int (nI (σ 0 18)), .int (nI (σ 0 20)), .int (nI (σ 0 22)), .float (fl (σ 0 24))])), (a 9, .inr (3, [.int (nI (σ 0 13)), .int (nI (σ 0 15)), .int (nI (σ 0 17)), .int (nI (σ 0 19)), .int (nI (σ 0 21)), .int (nI (σ 0 23)), .float (fl (σ 0 25))])), (a 10, .inl (G.2.1, 3, .inl (fun q => nI (if q = 1 then k else (σ 7) q))))] ++ ([(hh, .inr (0, [.ref ha, .int (nI (firstF f n)), .int (nI (sizeF n))])), (ha, .inl (G.2.2.2, 4, .inr (.inr (.inr (.inr (fun j => some (hb j 0)))))))] ++ (stW G (hb 0) ((va_up hσ (slotF f n) σ) 0) ((va_up hd (slotF f n) d) 0) ++ (stW G (hb 1) ((va_up hσ (slotF f n) σ) 1) ((va_up hd (slotF f n) d) 1) ++ (stW G (hb 2) ((va_up hσ (slotF f n) σ) 2) ((va_up hd (slotF f n) d) 2) ++ stW G (hb 3) ((va_up hσ (slotF f n) σ) 3) ((va_up hd (slotF f n) d) 3))))))) [11] [0, 1, 2, 3, 4, 5, 6, 7, 8, 9, 10, 12, 13, 14, 15, 16, 17, 18, 19, 20, 21, 22, 23, 24, 25, 26, 27, 28, 29, 30, 31, 32, 33, 34, 35, 36, 37, 38, 39, 40, 41, 42, 43, 44, 45, 46, 47, 48, 49, 50, 51, 52, 53, 54, 55, 56, 57] 3 k381 k283 k10 k284 rfl (by decide +kernel) ⟨Nat.le_of_ble_eq_true rfl, Nat.le_of_ble_eq_true rfl⟩ ⟨Nat.le_of_ble_eq_true rfl, Nat.le_of_ble_eq_true rfl⟩ dX5_set_76 (Nat.le_of_ble_eq_true rfl) rfl (by decide +kernel) (fun _ => rfl) ([(ts, .inr (5, [.ref (a 0), .ref (a1 0), .ref (a2 0), .ref hh, .ref (b 0), .int (nI ks)]))] ++ ([(a 0, .inr (4, [.ref (a 1), .ref (a 8), .ref (a 9), .ref (a 10), .float (fl (σ 0 6)), .float (fl (σ 0 7)), .float (fl (σ 0 8)), .int (nI (σ 0 3)), .int (nI (σ 0 9)), .int (nI (σ 0 10)), .int (nI (σ 0 11))])), (a 1, .inr (1, [.ref (a 2), .ref (a 3), .ref (a 4), .ref (a 5), .ref (a 6), .ref (a 7), .int (nI (σ 0 4)), .int (nI (σ 0 5))])), (a 2, .inl (G.2.1, 40, .inl (fun q => nI (d q)))), (a 3, .inl (G.2.1, 40, .inl (fun q => nI (σ 2 q)))), (a 4, .inl (G.2.1, 40, .inl (fun q => nI (σ 3 q)))), (a 5, .inl (G.2.1, 40, .inl (fun q => nI (σ 6 q)))), (a 6, .inl (G.2.1, 40, .inl (fun q => nI (σ 4 q)))), (a 7, .inl (G.2.1, 40, .inl (fun q => nI (σ 5 q)))), (a 8, .inr (3, [.int (nI (σ 0 12)), .int (nI (σ 0 14)), .int (nI (σ 0 16)), .int (nI (σ 0 18)), .int (nI (σ 0 20)), .int (nI (σ 0 22)), .float (fl (σ 0 24))])), (a 9, .inr (3, [.int (nI (σ 0 13)), .int (nI (σ 0 15)), .int (nI (σ 0 17)), .int (nI (σ 0 19)), .int (nI (σ 0 21)), .int (nI (σ 0 23)), .float (fl (σ 0 25))]))] ++ ([(hh, .inr (0, [.ref ha, .int (nI (firstF f n)), .int (nI (sizeF n))])), (ha, .inl (G.2.2.2, 4, .inr (.inr (.inr (.inr (fun j => some (hb j 0)))))))] ++ (stW G (hb 0) ((va_up hσ (slotF f n) σ) 0) ((va_up hd (slotF f n) d) 0) ++ (stW G (hb 1) ((va_up hσ (slotF f n) σ) 1) ((va_up hd (slotF f n) d) 1) ++ (stW G (hb 2) ((va_up hσ (slotF f n) σ) 2) ((va_up hd (slotF f n) d) 2) ++ stW G (hb 3) ((va_up hσ (slotF f n) σ) 3) ((va_up hd (slotF f n) d) 3))))))) rfl (fun _ => rfl) 58 (fun _ => rfl) (by decide +kernel) (by decide +kernel) (fun _ _ => ?_)
  refine J_st (st' := []) rfl ?_
  refine J_iload_n C rfl dX5_set_79 ?_
  exact J_zret C hr rfl dX5_set_80 () rfl trivial rfl

set_option maxHeartbeats 4000000 in
set_option maxRecDepth 100000 in
theorem ct_set2_2 (l : Launch) (G : GT) (ts : Nat) (a a1 a2 : Nat → Nat) (hh : Nat) (b : Nat → Nat) (ks : Nat) (σ : AS) (d : Nat → Nat) (al ag : Nat) (y : Int32) (hy : ¬ (0 ≤ y.toInt ∧ y.toInt ≤ 20)) : Ct (S := Unit) l G (XS al ag) yX5_set (Wy yX5_set cX5_set 4 ((Option.some Jvm.ClassFile.FieldType.int))) { frames := 1, cells := 0, slots := 0, locals := 21 } [.ref ts, .int 2, .int y] ([(ts, .inr (5, [.ref (a 0), .ref (a1 0), .ref (a2 0), .ref hh, .ref (b 0), .int (nI ks)]))] ++ stW G a σ d) (fun u => True) (fun u => some (.int (-2))) (fun u => [(ts, .inr (5, [.ref (a 0), .ref (a1 0), .ref (a2 0), .ref hh, .ref (b 0), .int (nI ks)]))] ++ stW G a σ d) := by
  refine Ct.of (by decide) (Nat.le_of_ble_eq_true rfl) (fun p e s m args below meth c C hr hnm hX => ?_)
  refine J_iload_n C rfl dX5_set_0 ?_
  refine J_if_lt C 9 (by decide) dX5_set_1 (fun h => absurd h (by decide)) (fun _ => ?_)
  refine J_iload_n C rfl dX5_set_4 ?_
  refine J_iconst C 2 (by decide) dX5_set_5 ?_
  refine J_icmp_le C 11 (by decide) dX5_set_6 (fun _ => ?_) (fun h => absurd h (by decide))
  refine J_iload_n C rfl dX5_set_11 ?_
  refine J_gets C hX.1.1 k421 dX5_set_12 ?_
  refine J_iload_n C rfl dX5_set_15 ?_
  refine J_callSX (as := [.ref al, .int 2]) (rest := [.int y]) C XT.b (XT.f hX.1.2) (ct_atT l G al 3 loS 2 (by decide) (by decide)) (fun u => [(ts, .inr (5, [.ref (a 0), .ref (a1 0), .ref (a2 0), .ref hh, .ref (b 0), .int (nI ks)]))] ++ stW G a σ d) [] [0, 1, 2, 3, 4, 5, 6, 7, 8, 9, 10, 11] 2 k376 k340 k10 k341 rfl (by decide +kernel) ⟨Nat.le_of_ble_eq_true rfl, Nat.le_of_ble_eq_true rfl⟩ ⟨Nat.le_of_ble_eq_true rfl, Nat.le_of_ble_eq_true rfl⟩ dX5_set_16 (Nat.le_of_ble_eq_true rfl) rfl (by decide +kernel) (fun _ => rfl) ([(ts, .inr (5, [.ref (a 0), .ref (a1 0), .ref (a2 0), .ref hh, .ref (b 0), .int (nI ks)]))] ++ stW G a σ d) rfl (fun _ => rfl) 12 (fun _ => rfl) (by decide +kernel) (by decide +kernel) (fun _ _ => ?_)
  refine J_st (st' := [.int (nI (loS 2)), .int y]) rfl ?_
  refine J_i (rfl : (nI (loS 2) : Int32) = 0) ?_
  refine J_icmp_lt C 33 (by decide) dX5_set_19 (fun c19 => ?_) (fun c19 => ?_)
  · skip
    have c19 := ti_lt_t (z := 0) (by decide) c19
    refine J_bipush C (-2) (by decide) dX5_set_33 ?_
    exact J_zret C hr rfl dX5_set_35 () rfl trivial rfl
  · skip
    have c19 := ti_lt_f (z := 0) (by decide) c19
    refine J_iload_n C rfl dX5_set_22 ?_
    refine J_gets C hX.2.1 k423 dX5_set_23 ?_
    refine J_iload_n C rfl dX5_set_26 ?_
    refine J_callSX (as := [.ref ag, .int 2]) (rest := [.int y]) C XT.b (XT.f hX.2.2) (ct_atT l G ag 3 hiS 2 (by decide) (by decide)) (fun u => [(ts, .inr (5, [.ref (a 0), .ref (a1 0), .ref (a2 0), .ref hh, .ref (b 0), .int (nI ks)]))] ++ stW G a σ d) [] [0, 1, 2, 3, 4, 5, 6, 7, 8, 9, 10, 11] 2 k376 k340 k10 k341 rfl (by decide +kernel) ⟨Nat.le_of_ble_eq_true rfl, Nat.le_of_ble_eq_true rfl⟩ ⟨Nat.le_of_ble_eq_true rfl, Nat.le_of_ble_eq_true rfl⟩ dX5_set_27 (Nat.le_of_ble_eq_true rfl) rfl (by decide +kernel) (fun _ => rfl) ([(ts, .inr (5, [.ref (a 0), .ref (a1 0), .ref (a2 0), .ref hh, .ref (b 0), .int (nI ks)]))] ++ stW G a σ d) rfl (fun _ => rfl) 12 (fun _ => rfl) (by decide +kernel) (by decide +kernel) (fun _ _ => ?_)
    refine J_st (st' := [.int (nI (hiS 2)), .int y]) rfl ?_
    refine J_i (rfl : (nI (hiS 2) : Int32) = 20) ?_
    refine J_icmp_le C 36 (by decide) dX5_set_30 (fun h => absurd h (fun q => absurd (ti_le_t (z := 20) (by decide) q) (by omega))) (fun _ => ?_)
    refine J_bipush C (-2) (by decide) dX5_set_33 ?_
    exact J_zret C hr rfl dX5_set_35 () rfl trivial rfl

set_option maxHeartbeats 4000000 in
set_option maxRecDepth 100000 in
theorem ct_set3_2 (l : Launch) (G : GT) (ts : Nat) (a a1 a2 : Nat → Nat) (hh : Nat) (b : Nat → Nat) (ks : Nat) (σ : AS) (d : Nat → Nat) (al ag : Nat) (k : Nat) (hI : Inv σ) (hk : 0 ≤ k ∧ k ≤ 20) (he : σ 7 2 = k) : Ct (S := Unit) l G (XS al ag) yX5_set (Wy yX5_set cX5_set 4 ((Option.some Jvm.ClassFile.FieldType.int))) { frames := 1, cells := 0, slots := 0, locals := 21 } [.ref ts, .int 2, .int (nI k)] ([(ts, .inr (5, [.ref (a 0), .ref (a1 0), .ref (a2 0), .ref hh, .ref (b 0), .int (nI ks)]))] ++ stW G a σ d) (fun u => True) (fun u => some (.int (-5))) (fun u => [(ts, .inr (5, [.ref (a 0), .ref (a1 0), .ref (a2 0), .ref hh, .ref (b 0), .int (nI ks)]))] ++ stW G a σ d) := by
  refine Ct.of (by decide) (Nat.le_of_ble_eq_true rfl) (fun p e s m args below meth c C hr hnm hX => ?_)
  have hs := hI.s
  refine J_iload_n C rfl dX5_set_0 ?_
  refine J_if_lt C 9 (by decide) dX5_set_1 (fun h => absurd h (by decide)) (fun _ => ?_)
  refine J_iload_n C rfl dX5_set_4 ?_
  refine J_iconst C 2 (by decide) dX5_set_5 ?_
  refine J_icmp_le C 11 (by decide) dX5_set_6 (fun _ => ?_) (fun h => absurd h (by decide))
  refine J_iload_n C rfl dX5_set_11 ?_
  refine J_gets C hX.1.1 k421 dX5_set_12 ?_
  refine J_iload_n C rfl dX5_set_15 ?_
  refine J_callSX (as := [.ref al, .int 2]) (rest := [.int (nI k)]) C XT.b (XT.f hX.1.2) (ct_atT l G al 3 loS 2 (by decide) (by decide)) (fun u => [(ts, .inr (5, [.ref (a 0), .ref (a1 0), .ref (a2 0), .ref hh, .ref (b 0), .int (nI ks)]))] ++ stW G a σ d) [] [0, 1, 2, 3, 4, 5, 6, 7, 8, 9, 10, 11] 2 k376 k340 k10 k341 rfl (by decide +kernel) ⟨Nat.le_of_ble_eq_true rfl, Nat.le_of_ble_eq_true rfl⟩ ⟨Nat.le_of_ble_eq_true rfl, Nat.le_of_ble_eq_true rfl⟩ dX5_set_16 (Nat.le_of_ble_eq_true rfl) rfl (by decide +kernel) (fun _ => rfl) ([(ts, .inr (5, [.ref (a 0), .ref (a1 0), .ref (a2 0), .ref hh, .ref (b 0), .int (nI ks)]))] ++ stW G a σ d) rfl (fun _ => rfl) 12 (fun _ => rfl) (by decide +kernel) (by decide +kernel) (fun _ _ => ?_)
  refine J_st (st' := [.int (nI (loS 2)), .int (nI k)]) rfl ?_
  refine J_i (rfl : (nI (loS 2) : Int32) = 0) ?_
  refine J_icmp_lt C 33 (by decide) dX5_set_19 (fun h => absurd (cv_lt_t (a := k) (b := 0) (by omega) (by omega) h) (by omega)) (fun c19 => ?_)
  refine J_iload_n C rfl dX5_set_22 ?_
  refine J_gets C hX.2.1 k423 dX5_set_23 ?_
  refine J_iload_n C rfl dX5_set_26 ?_
  refine J_callSX (as := [.ref ag, .int 2]) (rest := [.int (nI k)]) C XT.b (XT.f hX.2.2) (ct_atT l G ag 3 hiS 2 (by decide) (by decide)) (fun u => [(ts, .inr (5, [.ref (a 0), .ref (a1 0), .ref (a2 0), .ref hh, .ref (b 0), .int (nI ks)]))] ++ stW G a σ d) [] [0, 1, 2, 3, 4, 5, 6, 7, 8, 9, 10, 11] 2 k376 k340 k10 k341 rfl (by decide +kernel) ⟨Nat.le_of_ble_eq_true rfl, Nat.le_of_ble_eq_true rfl⟩ ⟨Nat.le_of_ble_eq_true rfl, Nat.le_of_ble_eq_true rfl⟩ dX5_set_27 (Nat.le_of_ble_eq_true rfl) rfl (by decide +kernel) (fun _ => rfl) ([(ts, .inr (5, [.ref (a 0), .ref (a1 0), .ref (a2 0), .ref hh, .ref (b 0), .int (nI ks)]))] ++ stW G a σ d) rfl (fun _ => rfl) 12 (fun _ => rfl) (by decide +kernel) (by decide +kernel) (fun _ _ => ?_)
  refine J_st (st' := [.int (nI (hiS 2)), .int (nI k)]) rfl ?_
  refine J_i (rfl : (nI (hiS 2) : Int32) = 20) ?_
  refine J_icmp_le C 36 (by decide) dX5_set_30 (fun c30 => ?_) (fun h => absurd (cv_le_f (a := k) (b := 20) (by omega) (by omega) h) (by omega))
  refine J_aload_n C rfl dX5_set_36 ?_
  refine J_get C 0 0 in5 rfl rfl (by decide) k217 rfl dX5_set_37 ?_
  refine J_getN C 1 3 in4 rfl rfl (by decide) nfTwoScribes_126 rfl dX5_set_40 ?_
  refine J_iload_n C rfl dX5_set_43 ?_
  refine J_callS (as := [.ref (a 10), .int 2]) (rest := []) C (ct_at l G (a 10) 3 (fun q => nI (σ 7 q)) 2 (by omega) (by decide)) (fun u => [(ts, .inr (5, [.ref (a 0), .ref (a1 0), .ref (a2 0), .ref hh, .ref (b 0), .int (nI ks)]))] ++ stW G a σ d) [11] [0, 1, 2, 3, 4, 5, 6, 7, 8, 9, 10] 2 k376 k340 k10 k341 rfl (by decide +kernel) ⟨Nat.le_of_ble_eq_true rfl, Nat.le_of_ble_eq_true rfl⟩ ⟨Nat.le_of_ble_eq_true rfl, Nat.le_of_ble_eq_true rfl⟩ dX5_set_44 (Nat.le_of_ble_eq_true rfl) rfl (by decide +kernel) (fun _ => rfl) ([(ts, .inr (5, [.ref (a 0), .ref (a1 0), .ref (a2 0), .ref hh, .ref (b 0), .int (nI ks)]))] ++ [(a 0, .inr (4, [.ref (a 1), .ref (a 8), .ref (a 9), .ref (a 10), .float (fl (σ 0 6)), .float (fl (σ 0 7)), .float (fl (σ 0 8)), .int (nI (σ 0 3)), .int (nI (σ 0 9)), .int (nI (σ 0 10)), .int (nI (σ 0 11))])), (a 1, .inr (1, [.ref (a 2), .ref (a 3), .ref (a 4), .ref (a 5), .ref (a 6), .ref (a 7), .int (nI (σ 0 4)), .int (nI (σ 0 5))])), (a 2, .inl (G.2.1, 40, .inl (fun q => nI (d q)))), (a 3, .inl (G.2.1, 40, .inl (fun q => nI (σ 2 q)))), (a 4, .inl (G.2.1, 40, .inl (fun q => nI (σ 3 q)))), (a 5, .inl (G.2.1, 40, .inl (fun q => nI (σ 6 q)))), (a 6, .inl (G.2.1, 40, .inl (fun q => nI (σ 4 q)))), (a 7, .inl (G.2.1, 40, .inl (fun q => nI (σ 5 q)))), (a 8, .inr (3, [.int (nI (σ 0 12)), .int (nI (σ 0 14)), .int (nI (σ 0 16)), .int (nI (σ 0 18)), .int (nI (σ 0 20)), .int (nI (σ 0 22)), .float (fl (σ 0 24))])), (a 9, .inr (3, [.int (nI (σ 0 13)), .int (nI (σ 0 15)), .int (nI (σ 0 17)), .int (nI (σ 0 19)), .int (nI (σ 0 21)), .int (nI (σ 0 23)), .float (fl (σ 0 25))]))]) rfl (fun _ => rfl) 12 (fun _ => rfl) (by decide +kernel) (by decide +kernel) (fun _ _ => ?_)
  refine J_st (st' := [.int (nI (σ 7 2))]) rfl ?_
  refine J_istore_n C [(3, .int (nI (σ 7 2))), (0, .ref ts), (1, .int 2), (2, .int (nI k))] (by decide) rfl dX5_set_47 ?_
  refine J_iload_n C rfl dX5_set_48 ?_
  refine J_iload_n C rfl dX5_set_49 ?_
  refine J_icmp_ne C 56 (by decide) dX5_set_50 (fun h => absurd (cv_ne_t (a := (σ 7 2)) (b := k) (by omega) (by omega) h) (by omega)) (fun c50 => ?_)
  refine J_bipush C (-5) (by decide) dX5_set_53 ?_
  exact J_zret C hr rfl dX5_set_55 () rfl trivial rfl

set_option maxHeartbeats 4000000 in
set_option maxRecDepth 100000 in
theorem ct_setY_2 (l : Launch) (G : GT) (ts : Nat) (a a1 a2 : Nat → Nat) (hh : Nat) (b : Nat → Nat) (ks : Nat) (σ : AS) (d : Nat → Nat) (ha : Nat) (hb : Nat → Nat → Nat) (hσ : Nat → AS) (hd : Nat → Nat → Nat) (f n : Nat) (al ag : Nat) (k : Nat) (hI : Inv σ) (hf4 : f < 4) (hn4 : n ≤ 4) (hk : 0 ≤ k ∧ k ≤ 20) (he : ¬ σ 7 2 = k) : Ct (S := Unit) l G (XS al ag) yX5_set (Wy yX5_set cX5_set 4 ((Option.some Jvm.ClassFile.FieldType.int))) { frames := 5, cells := 0, slots := 0, locals := 125 } [.ref ts, .int 2, .int (nI k)] ([(ts, .inr (5, [.ref (a 0), .ref (a1 0), .ref (a2 0), .ref hh, .ref (b 0), .int (nI ks)]))] ++ (stW G a σ d ++ ([(hh, .inr (0, [.ref ha, .int (nI f), .int (nI n)])), (ha, .inl (G.2.2.2, 4, .inr (.inr (.inr (.inr (fun j => some (hb j 0)))))))] ++ (stW G (hb 0) (hσ 0) (hd 0) ++ (stW G (hb 1) (hσ 1) (hd 1) ++ (stW G (hb 2) (hσ 2) (hd 2) ++ stW G (hb 3) (hσ 3) (hd 3))))))) (fun u => True) (fun u => some (.int (nI (σ 7 2)))) (fun u => [(ts, .inr (5, [.ref (a 0), .ref (a1 0), .ref (a2 0), .ref hh, .ref (b 0), .int (nI ks)]))] ++ (stW G a (up2 σ 7 2 k) d ++ ([(hh, .inr (0, [.ref ha, .int (nI (firstF f n)), .int (nI (sizeF n))])), (ha, .inl (G.2.2.2, 4, .inr (.inr (.inr (.inr (fun j => some (hb j 0)))))))] ++ (stW G (hb 0) ((va_up hσ (slotF f n) σ) 0) ((va_up hd (slotF f n) d) 0) ++ (stW G (hb 1) ((va_up hσ (slotF f n) σ) 1) ((va_up hd (slotF f n) d) 1) ++ (stW G (hb 2) ((va_up hσ (slotF f n) σ) 2) ((va_up hd (slotF f n) d) 2) ++ stW G (hb 3) ((va_up hσ (slotF f n) σ) 3) ((va_up hd (slotF f n) d) 3))))))) := by
  refine Ct.of (by decide) (Nat.le_of_ble_eq_true rfl) (fun p e s m args below meth c C hr hnm hX => ?_)
  have hs := hI.s
  refine J_iload_n C rfl dX5_set_0 ?_
  refine J_if_lt C 9 (by decide) dX5_set_1 (fun h => absurd h (by decide)) (fun _ => ?_)
  refine J_iload_n C rfl dX5_set_4 ?_
  refine J_iconst C 2 (by decide) dX5_set_5 ?_
  refine J_icmp_le C 11 (by decide) dX5_set_6 (fun _ => ?_) (fun h => absurd h (by decide))
  refine J_iload_n C rfl dX5_set_11 ?_
  refine J_gets C hX.1.1 k421 dX5_set_12 ?_
  refine J_iload_n C rfl dX5_set_15 ?_
  refine J_callSX (as := [.ref al, .int 2]) (rest := [.int (nI k)]) C XT.b (XT.f hX.1.2) (ct_atT l G al 3 loS 2 (by decide) (by decide)) (fun u => [(ts, .inr (5, [.ref (a 0), .ref (a1 0), .ref (a2 0), .ref hh, .ref (b 0), .int (nI ks)]))] ++ (stW G a σ d ++ ([(hh, .inr (0, [.ref ha, .int (nI f), .int (nI n)])), (ha, .inl (G.2.2.2, 4, .inr (.inr (.inr (.inr (fun j => some (hb j 0)))))))] ++ (stW G (hb 0) (hσ 0) (hd 0) ++ (stW G (hb 1) (hσ 1) (hd 1) ++ (stW G (hb 2) (hσ 2) (hd 2) ++ stW G (hb 3) (hσ 3) (hd 3))))))) [] [0, 1, 2, 3, 4, 5, 6, 7, 8, 9, 10, 11, 12, 13, 14, 15, 16, 17, 18, 19, 20, 21, 22, 23, 24, 25, 26, 27, 28, 29, 30, 31, 32, 33, 34, 35, 36, 37, 38, 39, 40, 41, 42, 43, 44, 45, 46, 47, 48, 49, 50, 51, 52, 53, 54, 55, 56, 57] 2 k376 k340 k10 k341 rfl (by decide +kernel) ⟨Nat.le_of_ble_eq_true rfl, Nat.le_of_ble_eq_true rfl⟩ ⟨Nat.le_of_ble_eq_true rfl, Nat.le_of_ble_eq_true rfl⟩ dX5_set_16 (Nat.le_of_ble_eq_true rfl) rfl (by decide +kernel) (fun _ => rfl) ([(ts, .inr (5, [.ref (a 0), .ref (a1 0), .ref (a2 0), .ref hh, .ref (b 0), .int (nI ks)]))] ++ (stW G a σ d ++ ([(hh, .inr (0, [.ref ha, .int (nI f), .int (nI n)])), (ha, .inl (G.2.2.2, 4, .inr (.inr (.inr (.inr (fun j => some (hb j 0)))))))] ++ (stW G (hb 0) (hσ 0) (hd 0) ++ (stW G (hb 1) (hσ 1) (hd 1) ++ (stW G (hb 2) (hσ 2) (hd 2) ++ stW G (hb 3) (hσ 3) (hd 3))))))) rfl (fun _ => rfl) 58 (fun _ => rfl) (by decide +kernel) (by decide +kernel) (fun _ _ => ?_)
  refine J_st (st' := [.int (nI (loS 2)), .int (nI k)]) rfl ?_
  refine J_i (rfl : (nI (loS 2) : Int32) = 0) ?_
  refine J_icmp_lt C 33 (by decide) dX5_set_19 (fun h => absurd (cv_lt_t (a := k) (b := 0) (by omega) (by omega) h) (by omega)) (fun c19 => ?_)
  refine J_iload_n C rfl dX5_set_22 ?_
  refine J_gets C hX.2.1 k423 dX5_set_23 ?_
  refine J_iload_n C rfl dX5_set_26 ?_
  refine J_callSX (as := [.ref ag, .int 2]) (rest := [.int (nI k)]) C XT.b (XT.f hX.2.2) (ct_atT l G ag 3 hiS 2 (by decide) (by decide)) (fun u => [(ts, .inr (5, [.ref (a 0), .ref (a1 0), .ref (a2 0), .ref hh, .ref (b 0), .int (nI ks)]))] ++ (stW G a σ d ++ ([(hh, .inr (0, [.ref ha, .int (nI f), .int (nI n)])), (ha, .inl (G.2.2.2, 4, .inr (.inr (.inr (.inr (fun j => some (hb j 0)))))))] ++ (stW G (hb 0) (hσ 0) (hd 0) ++ (stW G (hb 1) (hσ 1) (hd 1) ++ (stW G (hb 2) (hσ 2) (hd 2) ++ stW G (hb 3) (hσ 3) (hd 3))))))) [] [0, 1, 2, 3, 4, 5, 6, 7, 8, 9, 10, 11, 12, 13, 14, 15, 16, 17, 18, 19, 20, 21, 22, 23, 24, 25, 26, 27, 28, 29, 30, 31, 32, 33, 34, 35, 36, 37, 38, 39, 40, 41, 42, 43, 44, 45, 46, 47, 48, 49, 50, 51, 52, 53, 54, 55, 56, 57] 2 k376 k340 k10 k341 rfl (by decide +kernel) ⟨Nat.le_of_ble_eq_true rfl, Nat.le_of_ble_eq_true rfl⟩ ⟨Nat.le_of_ble_eq_true rfl, Nat.le_of_ble_eq_true rfl⟩ dX5_set_27 (Nat.le_of_ble_eq_true rfl) rfl (by decide +kernel) (fun _ => rfl) ([(ts, .inr (5, [.ref (a 0), .ref (a1 0), .ref (a2 0), .ref hh, .ref (b 0), .int (nI ks)]))] ++ (stW G a σ d ++ ([(hh, .inr (0, [.ref ha, .int (nI f), .int (nI n)])), (ha, .inl (G.2.2.2, 4, .inr (.inr (.inr (.inr (fun j => some (hb j 0)))))))] ++ (stW G (hb 0) (hσ 0) (hd 0) ++ (stW G (hb 1) (hσ 1) (hd 1) ++ (stW G (hb 2) (hσ 2) (hd 2) ++ stW G (hb 3) (hσ 3) (hd 3))))))) rfl (fun _ => rfl) 58 (fun _ => rfl) (by decide +kernel) (by decide +kernel) (fun _ _ => ?_)
  refine J_st (st' := [.int (nI (hiS 2)), .int (nI k)]) rfl ?_
  refine J_i (rfl : (nI (hiS 2) : Int32) = 20) ?_
  refine J_icmp_le C 36 (by decide) dX5_set_30 (fun c30 => ?_) (fun h => absurd (cv_le_f (a := k) (b := 20) (by omega) (by omega) h) (by omega))
  refine J_aload_n C rfl dX5_set_36 ?_
  refine J_get C 0 0 in5 rfl rfl (by decide) k217 rfl dX5_set_37 ?_
  refine J_getN C 1 3 in4 rfl rfl (by decide) nfTwoScribes_126 rfl dX5_set_40 ?_
  refine J_iload_n C rfl dX5_set_43 ?_
  refine J_callS (as := [.ref (a 10), .int 2]) (rest := []) C (ct_at l G (a 10) 3 (fun q => nI (σ 7 q)) 2 (by omega) (by decide)) (fun u => [(ts, .inr (5, [.ref (a 0), .ref (a1 0), .ref (a2 0), .ref hh, .ref (b 0), .int (nI ks)]))] ++ (stW G a σ d ++ ([(hh, .inr (0, [.ref ha, .int (nI f), .int (nI n)])), (ha, .inl (G.2.2.2, 4, .inr (.inr (.inr (.inr (fun j => some (hb j 0)))))))] ++ (stW G (hb 0) (hσ 0) (hd 0) ++ (stW G (hb 1) (hσ 1) (hd 1) ++ (stW G (hb 2) (hσ 2) (hd 2) ++ stW G (hb 3) (hσ 3) (hd 3))))))) [11] [0, 1, 2, 3, 4, 5, 6, 7, 8, 9, 10, 12, 13, 14, 15, 16, 17, 18, 19, 20, 21, 22, 23, 24, 25, 26, 27, 28, 29, 30, 31, 32, 33, 34, 35, 36, 37, 38, 39, 40, 41, 42, 43, 44, 45, 46, 47, 48, 49, 50, 51, 52, 53, 54, 55, 56, 57] 2 k376 k340 k10 k341 rfl (by decide +kernel) ⟨Nat.le_of_ble_eq_true rfl, Nat.le_of_ble_eq_true rfl⟩ ⟨Nat.le_of_ble_eq_true rfl, Nat.le_of_ble_eq_true rfl⟩ dX5_set_44 (Nat.le_of_ble_eq_true rfl) rfl (by decide +kernel) (fun _ => rfl) ([(ts, .inr (5, [.ref (a 0), .ref (a1 0), .ref (a2 0), .ref hh, .ref (b 0), .int (nI ks)]))] ++ ([(a 0, .inr (4, [.ref (a 1), .ref (a 8), .ref (a 9), .ref (a 10), .float (fl (σ 0 6)), .float (fl (σ 0 7)), .float (fl (σ 0 8)), .int (nI (σ 0 3)), .int (nI (σ 0 9)), .int (nI (σ 0 10)), .int (nI (σ 0 11))])), (a 1, .inr (1, [.ref (a 2), .ref (a 3), .ref (a 4), .ref (a 5), .ref (a 6), .ref (a 7), .int (nI (σ 0 4)), .int (nI (σ 0 5))])), (a 2, .inl (G.2.1, 40, .inl (fun q => nI (d q)))), (a 3, .inl (G.2.1, 40, .inl (fun q => nI (σ 2 q)))), (a 4, .inl (G.2.1, 40, .inl (fun q => nI (σ 3 q)))), (a 5, .inl (G.2.1, 40, .inl (fun q => nI (σ 6 q)))), (a 6, .inl (G.2.1, 40, .inl (fun q => nI (σ 4 q)))), (a 7, .inl (G.2.1, 40, .inl (fun q => nI (σ 5 q)))), (a 8, .inr (3, [.int (nI (σ 0 12)), .int (nI (σ 0 14)), .int (nI (σ 0 16)), .int (nI (σ 0 18)), .int (nI (σ 0 20)), .int (nI (σ 0 22)), .float (fl (σ 0 24))])), (a 9, .inr (3, [.int (nI (σ 0 13)), .int (nI (σ 0 15)), .int (nI (σ 0 17)), .int (nI (σ 0 19)), .int (nI (σ 0 21)), .int (nI (σ 0 23)), .float (fl (σ 0 25))]))] ++ ([(hh, .inr (0, [.ref ha, .int (nI f), .int (nI n)])), (ha, .inl (G.2.2.2, 4, .inr (.inr (.inr (.inr (fun j => some (hb j 0)))))))] ++ (stW G (hb 0) (hσ 0) (hd 0) ++ (stW G (hb 1) (hσ 1) (hd 1) ++ (stW G (hb 2) (hσ 2) (hd 2) ++ stW G (hb 3) (hσ 3) (hd 3))))))) rfl (fun _ => rfl) 58 (fun _ => rfl) (by decide +kernel) (by decide +kernel) (fun _ _ => ?_)
  refine J_st (st' := [.int (nI (σ 7 2))]) rfl ?_
  refine J_istore_n C [(3, .int (nI (σ 7 2))), (0, .ref ts), (1, .int 2), (2, .int (nI k))] (by decide) rfl dX5_set_47 ?_
  refine J_iload_n C rfl dX5_set_48 ?_
  refine J_iload_n C rfl dX5_set_49 ?_
  refine J_icmp_ne C 56 (by decide) dX5_set_50 (fun c50 => ?_) (fun h => absurd (cv_ne_f (a := (σ 7 2)) (b := k) (by omega) (by omega) h) (by omega))
  refine J_aload_n C rfl dX5_set_56 ?_
  refine J_get C 0 3 in5 rfl rfl (by decide) k220 rfl dX5_set_57 ?_
  refine J_aload_n C rfl dX5_set_60 ?_
  refine J_get C 0 0 in5 rfl rfl (by decide) k217 rfl dX5_set_61 ?_
  refine J_callV (as := [.ref (a 0)]) (rest := []) C (ct_record l G hh ha hb hσ hd f n a σ d hf4 hn4) (fun u => [(ts, .inr (5, [.ref (a 0), .ref (a1 0), .ref (a2 0), .ref hh, .ref (b 0), .int (nI ks)]))] ++ (stW G a σ d ++ ([(hh, .inr (0, [.ref ha, .int (nI (firstF f n)), .int (nI (sizeF n))])), (ha, .inl (G.2.2.2, 4, .inr (.inr (.inr (.inr (fun j => some (hb j 0)))))))] ++ (stW G (hb 0) ((va_up hσ (slotF f n) σ) 0) ((va_up hd (slotF f n) d) 0) ++ (stW G (hb 1) ((va_up hσ (slotF f n) σ) 1) ((va_up hd (slotF f n) d) 1) ++ (stW G (hb 2) ((va_up hσ (slotF f n) σ) 2) ((va_up hd (slotF f n) d) 2) ++ stW G (hb 3) ((va_up hσ (slotF f n) σ) 3) ((va_up hd (slotF f n) d) 3))))))) [12, 13, 14, 15, 16, 17, 18, 19, 20, 21, 22, 23, 24, 25, 26, 27, 28, 29, 30, 31, 32, 33, 34, 35, 36, 37, 38, 39, 40, 41, 42, 43, 44, 45, 46, 47, 48, 49, 50, 51, 52, 53, 54, 55, 56, 57, 1, 2, 3, 4, 5, 6, 7, 8, 9, 10, 11] [0] 1 k300 k301 k302 k14 k303 rfl (by decide +kernel) ⟨Nat.le_of_ble_eq_true rfl, Nat.le_of_ble_eq_true rfl⟩ ⟨Nat.le_of_ble_eq_true rfl, Nat.le_of_ble_eq_true rfl⟩ dX5_set_64 (Nat.le_of_ble_eq_true rfl) 12 rfl rfl rfl (by decide +kernel) (fun _ => rfl) ([(ts, .inr (5, [.ref (a 0), .ref (a1 0), .ref (a2 0), .ref hh, .ref (b 0), .int (nI ks)]))]) rfl (fun _ => rfl) 58 (fun _ => rfl) (by decide +kernel) (by decide +kernel) (fun _ _ => ?_)
  refine J_st (st' := []) rfl ?_
  refine J_aload_n C rfl dX5_set_67 ?_
  refine J_get C 0 0 in5 rfl rfl (by decide) k217 rfl dX5_set_68 ?_
  refine J_getN C 1 3 in4 rfl rfl (by decide) nfTwoScribes_126 rfl dX5_set_71 ?_
  refine J_iload_n C rfl dX5_set_74 ?_
  refine J_iload_n C rfl dX5_set_75 ?_
  refine J_callS (as := [.ref (a 10), .int 2, .int (nI k)]) (rest := []) C (ct_putN l G (a 10) 3 (σ 7) 2 k (by omega) (by decide)) (fun u => [(ts, .inr (5, [.ref (a 0), .ref (a1 0), .ref (a2 0), .ref hh, .ref (b 0), .int (nI ks)]))] ++ ([(a 0, .inr (4, [.ref (a 1), .ref (a 8), .ref (a 9), .ref (a 10), .float (fl (σ 0 6)), .float (fl (σ 0 7)), .float (fl (σ 0 8)), .int (nI (σ 0 3)), .int (nI (σ 0 9)), .int (nI (σ 0 10)), .int (nI (σ 0 11))])), (a 1, .inr (1, [.ref (a 2), .ref (a 3), .ref (a 4), .ref (a 5), .ref (a 6), .ref (a 7), .int (nI (σ 0 4)), .int (nI (σ 0 5))])), (a 2, .inl (G.2.1, 40, .inl (fun q => nI (d q)))), (a 3, .inl (G.2.1, 40, .inl (fun q => nI (σ 2 q)))), (a 4, .inl (G.2.1, 40, .inl (fun q => nI (σ 3 q)))), (a 5, .inl (G.2.1, 40, .inl (fun q => nI (σ 6 q)))), (a 6, .inl (G.2.1, 40, .inl (fun q => nI (σ 4 q)))), (a 7, .inl (G.2.1, 40, .inl (fun q => nI (σ 5 q)))), (a 8, .inr (3, [.int (nI (σ 0 12)), .int (nI (σ 0 14)), .int (nI (σ 0 16)), .int (nI (σ 0 18)), .int (nI (σ 0 20)), .int (nI (σ 0 22)), .float (fl (σ 0 24))])), (a 9, .inr (3, [.int (nI (σ 0 13)), .int (nI (σ 0 15)), .int (nI (σ 0 17)), .int (nI (σ 0 19)), .int (nI (σ 0 21)), .int (nI (σ 0 23)), .float (fl (σ 0 25))])), (a 10, .inl (G.2.1, 3, .inl (fun q => nI (if q = 2 then k else (σ 7) q))))] ++ ([(hh, .inr (0, [.ref ha, .int (nI (firstF f n)), .int (nI (sizeF n))])), (ha, .inl (G.2.2.2, 4, .inr (.inr (.inr (.inr (fun j => some (hb j 0)))))))] ++ (stW G (hb 0) ((va_up hσ (slotF f n) σ) 0) ((va_up hd (slotF f n) d) 0) ++ (stW G (hb 1) ((va_up hσ (slotF f n) σ) 1) ((va_up hd (slotF f n) d) 1) ++ (stW G (hb 2) ((va_up hσ (slotF f n) σ) 2) ((va_up hd (slotF f n) d) 2) ++ stW G (hb 3) ((va_up hσ (slotF f n) σ) 3) ((va_up hd (slotF f n) d) 3))))))) [11] [0, 1, 2, 3, 4, 5, 6, 7, 8, 9, 10, 12, 13, 14, 15, 16, 17, 18, 19, 20, 21, 22, 23, 24, 25, 26, 27, 28, 29, 30, 31, 32, 33, 34, 35, 36, 37, 38, 39, 40, 41, 42, 43, 44, 45, 46, 47, 48, 49, 50, 51, 52, 53, 54, 55, 56, 57] 3 k381 k283 k10 k284 rfl (by decide +kernel) ⟨Nat.le_of_ble_eq_true rfl, Nat.le_of_ble_eq_true rfl⟩ ⟨Nat.le_of_ble_eq_true rfl, Nat.le_of_ble_eq_true rfl⟩ dX5_set_76 (Nat.le_of_ble_eq_true rfl) rfl (by decide +kernel) (fun _ => rfl) ([(ts, .inr (5, [.ref (a 0), .ref (a1 0), .ref (a2 0), .ref hh, .ref (b 0), .int (nI ks)]))] ++ ([(a 0, .inr (4, [.ref (a 1), .ref (a 8), .ref (a 9), .ref (a 10), .float (fl (σ 0 6)), .float (fl (σ 0 7)), .float (fl (σ 0 8)), .int (nI (σ 0 3)), .int (nI (σ 0 9)), .int (nI (σ 0 10)), .int (nI (σ 0 11))])), (a 1, .inr (1, [.ref (a 2), .ref (a 3), .ref (a 4), .ref (a 5), .ref (a 6), .ref (a 7), .int (nI (σ 0 4)), .int (nI (σ 0 5))])), (a 2, .inl (G.2.1, 40, .inl (fun q => nI (d q)))), (a 3, .inl (G.2.1, 40, .inl (fun q => nI (σ 2 q)))), (a 4, .inl (G.2.1, 40, .inl (fun q => nI (σ 3 q)))), (a 5, .inl (G.2.1, 40, .inl (fun q => nI (σ 6 q)))), (a 6, .inl (G.2.1, 40, .inl (fun q => nI (σ 4 q)))), (a 7, .inl (G.2.1, 40, .inl (fun q => nI (σ 5 q)))), (a 8, .inr (3, [.int (nI (σ 0 12)), .int (nI (σ 0 14)), .int (nI (σ 0 16)), .int (nI (σ 0 18)), .int (nI (σ 0 20)), .int (nI (σ 0 22)), .float (fl (σ 0 24))])), (a 9, .inr (3, [.int (nI (σ 0 13)), .int (nI (σ 0 15)), .int (nI (σ 0 17)), .int (nI (σ 0 19)), .int (nI (σ 0 21)), .int (nI (σ 0 23)), .float (fl (σ 0 25))]))] ++ ([(hh, .inr (0, [.ref ha, .int (nI (firstF f n)), .int (nI (sizeF n))])), (ha, .inl (G.2.2.2, 4, .inr (.inr (.inr (.inr (fun j => some (hb j 0)))))))] ++ (stW G (hb 0) ((va_up hσ (slotF f n) σ) 0) ((va_up hd (slotF f n) d) 0) ++ (stW G (hb 1) ((va_up hσ (slotF f n) σ) 1) ((va_up hd (slotF f n) d) 1) ++ (stW G (hb 2) ((va_up hσ (slotF f n) σ) 2) ((va_up hd (slotF f n) d) 2) ++ stW G (hb 3) ((va_up hσ (slotF f n) σ) 3) ((va_up hd (slotF f n) d) 3))))))) rfl (fun _ => rfl) 58 (fun _ => rfl) (by decide +kernel) (by decide +kernel) (fun _ _ => ?_)
  refine J_st (st' := []) rfl ?_
  refine J_iload_n C rfl dX5_set_79 ?_
  exact J_zret C hr rfl dX5_set_80 () rfl trivial rfl
