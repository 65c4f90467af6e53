set_option maxHeartbeats 4000000 in
set_option maxRecDepth 100000 in
theorem ct_mRead1 (l : Launch) (G : GT) (mo : Nat → Nat) (σ : AS) (kf tf H sf df xf : Nat → Nat) (hn ik tl sp rd : Nat) (gr : Int32) (htl : tl ≤ 60) (hx : ∀ q, xf q < 65536) (hs : ¬ (psF xf tl).1 = 0) (hcu : (psF xf tl).2.1 ≤ 100) : Ct (S := Unit) l G NoX yX6_readPage (Wy yX6_readPage cX6_readPage 3 ((Option.some Jvm.ClassFile.FieldType.int))) { frames := 4, cells := 0, slots := 0, locals := 90 } [.ref (mo 0)] (mdW G mo σ kf tf H sf df xf hn ik tl sp rd gr) (fun u => True) (fun u => some (.int ((-100) - nI (psF xf tl).2.1))) (fun u => mdW G mo σ kf tf H sf ((psF xf tl).2.2.1) xf hn ik tl ((psF xf tl).2.1) (halfN xf tl) (nI (psF xf tl).2.2.2 - 1)) := by
  refine Ct.of (by decide) (Nat.le_of_ble_eq_true rfl) (fun p e s m args below meth c C hr hnm hX => ?_)
  have hhn := halfN_le xf tl
  have hps := psF_ok xf tl
  refine J_aload_n C rfl dX6_readPage_0 ?_
  refine J_callV (as := []) (rest := []) C (ct_fault l G mo σ kf tf H sf df xf hn ik tl sp rd gr htl hx) (fun u => mdW G mo σ kf tf H sf ((psF xf tl).2.2.1) xf hn ik tl ((psF xf tl).2.1) (halfN xf tl) (nI (psF xf tl).2.2.2 - 1)) [0, 1, 2, 3, 4, 5, 6, 7] [] 0 k619 k621 k9 k38 k622 rfl (by decide +kernel) ⟨Nat.le_of_ble_eq_true rfl, Nat.le_of_ble_eq_true rfl⟩ ⟨Nat.le_of_ble_eq_true rfl, Nat.le_of_ble_eq_true rfl⟩ dX6_readPage_1 (Nat.le_of_ble_eq_true rfl) 0 rfl rfl rfl (by decide +kernel) (fun _ => rfl) ([]) rfl (fun _ => rfl) 8 (fun _ => rfl) (by decide +kernel) (by decide +kernel) (fun _ _ => ?_)
  refine J_st (st' := [.int (if (psF xf tl).1 = 0 then -5 else nI (psF xf tl).2.1)]) rfl ?_
  refine J_ws (ws' := mdW G mo σ kf tf H sf ((psF xf tl).2.2.1) xf hn ik tl ((psF xf tl).2.1) (halfN xf tl) (nI (psF xf tl).2.2.2 - 1)) rfl ?_
  refine J_i (if_neg hs : (if (psF xf tl).1 = 0 then -5 else nI (psF xf tl).2.1 : Int32) = (nI ((psF xf tl).2.1))) ?_
  refine J_istore_n C [(1, .int (nI ((psF xf tl).2.1))), (0, .ref (mo 0))] (by decide) rfl dX6_readPage_4 ?_
  refine J_iload_n C rfl dX6_readPage_5 ?_
  refine J_bipush C (-5) (by decide) dX6_readPage_6 ?_
  refine J_icmp_eq C 16 (by decide) dX6_readPage_8 (fun h => absurd h (nI_ne5 (by omega))) (fun _ => ?_)
  refine J_bipush C (-100) (by decide) dX6_readPage_11 ?_
  refine J_iload_n C rfl dX6_readPage_13 ?_
  refine J_isub C dX6_readPage_14 ?_
  exact J_zret C hr rfl dX6_readPage_15 () rfl trivial rfl

set_option maxHeartbeats 4000000 in
set_option maxRecDepth 100000 in
theorem ct_mRead2 (l : Launch) (G : GT) (mo : Nat → Nat) (σ : AS) (kf tf H sf df xf : Nat → Nat) (hn ik tl sp rd : Nat) (gr : Int32) (htl : tl ≤ 60) (hx : ∀ q, xf q < 65536) (hs : (psF xf tl).1 = 0) (hg : ¬ (psF xf tl).2.2.2 ≤ 2 * halfN xf tl) : Ct (S := Unit) l G NoX yX6_readPage (Wy yX6_readPage cX6_readPage 3 ((Option.some Jvm.ClassFile.FieldType.int))) { frames := 4, cells := 0, slots := 0, locals := 90 } [.ref (mo 0)] (mdW G mo σ kf tf H sf df xf hn ik tl sp rd gr) (fun u => True) (fun u => some (.int (-1))) (fun u => mdW G mo σ kf tf H sf ((psF xf tl).2.2.1) xf hn ik tl ((psF xf tl).2.1) (halfN xf tl) (nI (psF xf tl).2.2.2 - 1)) := by
  refine Ct.of (by decide) (Nat.le_of_ble_eq_true rfl) (fun p e s m args below meth c C hr hnm hX => ?_)
  have hhn := halfN_le xf tl
  have hps := psF_ok xf tl
  refine J_aload_n C rfl dX6_readPage_0 ?_
  refine J_callV (as := []) (rest := []) C (ct_fault l G mo σ kf tf H sf df xf hn ik tl sp rd gr htl hx) (fun u => mdW G mo σ kf tf H sf ((psF xf tl).2.2.1) xf hn ik tl ((psF xf tl).2.1) (halfN xf tl) (nI (psF xf tl).2.2.2 - 1)) [0, 1, 2, 3, 4, 5, 6, 7] [] 0 k619 k621 k9 k38 k622 rfl (by decide +kernel) ⟨Nat.le_of_ble_eq_true rfl, Nat.le_of_ble_eq_true rfl⟩ ⟨Nat.le_of_ble_eq_true rfl, Nat.le_of_ble_eq_true rfl⟩ dX6_readPage_1 (Nat.le_of_ble_eq_true rfl) 0 rfl rfl rfl (by decide +kernel) (fun _ => rfl) ([]) rfl (fun _ => rfl) 8 (fun _ => rfl) (by decide +kernel) (by decide +kernel) (fun _ _ => ?_)
  refine J_st (st' := [.int (if (psF xf tl).1 = 0 then -5 else nI (psF xf tl).2.1)]) rfl ?_
  refine J_ws (ws' := mdW G mo σ kf tf H sf ((psF xf tl).2.2.1) xf hn ik tl ((psF xf tl).2.1) (halfN xf tl) (nI (psF xf tl).2.2.2 - 1)) rfl ?_
  refine J_i (if_pos hs : (if (psF xf tl).1 = 0 then -5 else nI (psF xf tl).2.1 : Int32) = (-5)) ?_
  refine J_istore_n C [(1, .int (-5)), (0, .ref (mo 0))] (by decide) rfl dX6_readPage_4 ?_
  refine J_iload_n C rfl dX6_readPage_5 ?_
  refine J_bipush C (-5) (by decide) dX6_readPage_6 ?_
  refine J_icmp_eq C 16 (by decide) dX6_readPage_8 (fun _ => ?_) (fun h => absurd h (by decide))
  refine J_aload_n C rfl dX6_readPage_16 ?_
  refine J_get C 0 12 in6 rfl rfl (by decide) k587 rfl dX6_readPage_17 ?_
  refine J_iconst C 2 (by decide) dX6_readPage_20 ?_
  refine J_aload_n C rfl dX6_readPage_21 ?_
  refine J_get C 0 11 in6 rfl rfl (by decide) k586 rfl dX6_readPage_22 ?_
  refine J_imul C dX6_readPage_25 ?_
  refine J_i (pk_mul 2 (halfN xf tl) : (2 * (nI (halfN xf tl)) : Int32) = (nI (2 * (halfN xf tl)))) ?_
  refine J_icmp_lt C 31 (by decide) dX6_readPage_26 (fun h => absurd h (fun q => absurd ((far_lt (by omega) (by omega)).mp q) (by omega))) (fun _ => ?_)
  refine J_iconst C (-1) (by decide) dX6_readPage_29 ?_
  exact J_zret C hr rfl dX6_readPage_30 () rfl trivial rfl
