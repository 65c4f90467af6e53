def zrF (σ : AS) : AS := setR (setR (setR (setR (setR σ 2 (fun _ => 0)) 3 (fun _ => 0)) 6 (fun _ => 0)) 4 (fun _ => 0)) 5 (fun _ => 0)
theorem pcM_nextZ (b : Nat) (H : Nat → Nat) (n : Nat) : (fun q => nI (if q = b + n then 0 else pcM b n (fun _ => 0) H q)) = fun q => nI (pcM b (n + 1) (fun _ => 0) H q) := by
  rw [← pcM_next]
theorem pcM_nextI (b : Nat) (kf H : Nat → Nat) (n : Nat) : (fun q => nI (if q = b + n then kf n else pcM b n kf H q)) = fun q => nI (pcM b (n + 1) kf H q) := by
  rw [← pcM_next]
theorem row_zr (σ : AS) {q : Nat} (hq : q < 246) : pcM 46 200 (fun _ => 0) (rowM σ) q = rowM (zrF σ) q := by
  unfold pcM
  by_cases h : 46 ≤ q
  · rw [if_pos ⟨h, by omega⟩]
    unfold rowM
    rw [if_neg (by omega), if_neg (by omega), if_neg (by omega)]
    repeat' split
    all_goals rfl
  · rw [if_neg (by omega)]
    unfold rowM
    repeat' split
    all_goals first | rfl | omega
theorem row_s1 (σ : AS) (g : Nat → Nat) (q : Nat) : pcM 26 20 g (rowM σ) q = rowM (setR σ 1 g) q := by
  unfold pcM
  by_cases h : 26 ≤ q ∧ q < 46
  · rw [if_pos h]
    unfold rowM
    rw [if_neg (by omega), if_neg (by omega), if_pos h.2]
    rfl
  · rw [if_neg h]
    unfold rowM
    repeat' split
    all_goals first | rfl | omega
theorem row_s2 (σ : AS) (g : Nat → Nat) (q : Nat) : pcM 46 40 g (rowM σ) q = rowM (setR σ 2 g) q := by
  unfold pcM
  by_cases h : 46 ≤ q ∧ q < 86
  · rw [if_pos h]
    unfold rowM
    rw [if_neg (by omega), if_neg (by omega), if_neg (by omega), if_pos h.2]
    rfl
  · rw [if_neg h]
    unfold rowM
    repeat' split
    all_goals first | rfl | omega
theorem newF_m (σ : AS) (t : Nat → Nat) (L : Nat) : newF σ t L = up2 (up2 (up2 (up2 (up2 (up2 (up2 (setR (setR (zrF σ) 1 (fun k => if k < halfN t L then letC t L k else 0)) 2 ((psF t L).2.2.1)) 0 14 0) 0 16 0) 0 15 0) 0 17 0) 0 4 (2 * (halfN t L))) 0 5 0) 0 9 (((setR (setR (zrF σ) 1 (fun k => if k < halfN t L then letC t L k else 0)) 2 ((psF t L).2.2.1)) 0 9) + 1) := by
  funext j q
  by_cases hj : j = 0
  · subst hj
    by_cases h9 : q = 9
    · subst h9; rfl
    by_cases h5 : q = 5
    · subst h5; rfl
    by_cases h4 : q = 4
    · subst h4; rfl
    by_cases h14 : q = 14
    · subst h14; rfl
    by_cases h15 : q = 15
    · subst h15; rfl
    by_cases h16 : q = 16
    · subst h16; rfl
    by_cases h17 : q = 17
    · subst h17; rfl
    simp [newF, rdF, pgF, zrF, up2, setR, h9, h5, h4, h14, h15, h16, h17]
  · simp only [newF, rdF, pgF, zrF, up2, setR, hj, if_false]
    repeat' split
    all_goals first | rfl | omega

set_option maxHeartbeats 4000000 in
set_option maxRecDepth 100000 in
theorem ct_mReadY (l : Launch) (G : GT) (mo : Nat → Nat) (σ : AS) (kf tf H sf df xf : Nat → Nat) (hn ik tl sp rd : Nat) (gr : Int32) (h4 : hn ≤ 4) (htl : tl ≤ 60) (hx : ∀ q, xf q < 65536) (hs : (psF xf tl).1 = 0) (hg : (psF xf tl).2.2.2 ≤ 2 * halfN xf tl) : Ct (S := Unit) l G NoX yX6_readPage (Wy yX6_readPage cX6_readPage 3 ((Option.some Jvm.ClassFile.FieldType.int))) { frames := 4, cells := 0, slots := 0, locals := 90 } [.ref (mo 0)] (mdW G mo σ kf tf H sf df xf hn ik tl sp rd gr) (fun u => True) (fun u => some (.int (nI (2 * halfN xf tl)))) (fun u => mdW G mo (newF σ xf tl) (rowM σ) tf (endH H (rowM σ) hn) sf ((psF xf tl).2.2.1) xf (sizeF hn) ik tl ((psF xf tl).2.1) (halfN xf tl) (nI (psF xf tl).2.2.2 - 1)) := by
  refine Ct.of (by decide) (Nat.le_of_ble_eq_true rfl) (fun p e s m args below meth c C hr hnm hX => ?_)
  have hhn := halfN_le xf tl
  have hps := psF_ok xf tl
  refine J_aload_n C rfl dX6_readPage_0 ?_
  refine J_callV (as := []) (rest := []) C (ct_fault l G mo σ kf tf H sf df xf hn ik tl sp rd gr htl hx) (fun u => mdW G mo σ kf tf H sf ((psF xf tl).2.2.1) xf hn ik tl ((psF xf tl).2.1) (halfN xf tl) (nI (psF xf tl).2.2.2 - 1)) [0, 1, 2, 3, 4, 5, 6, 7] [] 0 k619 k621 k9 k38 k622 rfl (by decide +kernel) ⟨Nat.le_of_ble_eq_true rfl, Nat.le_of_ble_eq_true rfl⟩ ⟨Nat.le_of_ble_eq_true rfl, Nat.le_of_ble_eq_true rfl⟩ dX6_readPage_1 (Nat.le_of_ble_eq_true rfl) 0 rfl rfl rfl (by decide +kernel) (fun _ => rfl) ([]) rfl (fun _ => rfl) 8 (fun _ => rfl) (by decide +kernel) (by decide +kernel) (fun _ _ => ?_)
  refine J_st (st' := [.int (if (psF xf tl).1 = 0 then -5 else nI (psF xf tl).2.1)]) rfl ?_
  refine J_ws (ws' := mdW G mo σ kf tf H sf ((psF xf tl).2.2.1) xf hn ik tl ((psF xf tl).2.1) (halfN xf tl) (nI (psF xf tl).2.2.2 - 1)) rfl ?_
  refine J_i (if_pos hs : (if (psF xf tl).1 = 0 then -5 else nI (psF xf tl).2.1 : Int32) = (-5)) ?_
  refine J_istore_n C [(1, .int (-5)), (0, .ref (mo 0))] (by decide) rfl dX6_readPage_4 ?_
  refine J_iload_n C rfl dX6_readPage_5 ?_
  refine J_bipush C (-5) (by decide) dX6_readPage_6 ?_
  refine J_icmp_eq C 16 (by decide) dX6_readPage_8 (fun _ => ?_) (fun h => absurd h (by decide))
  refine J_aload_n C rfl dX6_readPage_16 ?_
  refine J_get C 0 12 in6 rfl rfl (by decide) k587 rfl dX6_readPage_17 ?_
  refine J_iconst C 2 (by decide) dX6_readPage_20 ?_
  refine J_aload_n C rfl dX6_readPage_21 ?_
  refine J_get C 0 11 in6 rfl rfl (by decide) k586 rfl dX6_readPage_22 ?_
  refine J_imul C dX6_readPage_25 ?_
  refine J_i (pk_mul 2 (halfN xf tl) : (2 * (nI (halfN xf tl)) : Int32) = (nI (2 * (halfN xf tl)))) ?_
  refine J_icmp_lt C 31 (by decide) dX6_readPage_26 (fun _ => ?_) (fun h => absurd h (fun q => q ((far_lt (by omega) (by omega)).mpr (by omega))))
  refine J_aload_n C rfl dX6_readPage_31 ?_
  refine J_callV (as := []) (rest := []) C (ct_keeps l G mo σ kf tf H sf ((psF xf tl).2.2.1) xf hn ik tl ((psF xf tl).2.1) (halfN xf tl) (nI (psF xf tl).2.2.2 - 1)) (fun u => mdW G mo σ (rowM σ) tf H sf ((psF xf tl).2.2.1) xf hn ik tl ((psF xf tl).2.1) (halfN xf tl) (nI (psF xf tl).2.2.2 - 1)) [0, 1, 2, 3, 4, 5, 6, 7] [] 0 k638 k640 k13 k38 k641 rfl (by decide +kernel) ⟨Nat.le_of_ble_eq_true rfl, Nat.le_of_ble_eq_true rfl⟩ ⟨Nat.le_of_ble_eq_true rfl, Nat.le_of_ble_eq_true rfl⟩ dX6_readPage_32 (Nat.le_of_ble_eq_true rfl) 0 rfl rfl rfl (by decide +kernel) (fun _ => rfl) ([]) rfl (fun _ => rfl) 8 (fun _ => rfl) (by decide +kernel) (by decide +kernel) (fun _ _ => ?_)
  refine J_st (st' := []) rfl ?_
  refine J_ws (ws' := mdW G mo σ (rowM σ) tf H sf ((psF xf tl).2.2.1) xf hn ik tl ((psF xf tl).2.1) (halfN xf tl) (nI (psF xf tl).2.2.2 - 1)) rfl ?_
  refine J_bipush C 46 (by decide) dX6_readPage_35 ?_
  refine J_istore_n C [(2, .int 46), (1, .int (-5)), (0, .ref (mo 0))] (by decide) rfl dX6_readPage_37 ?_
  refine J_lvp [2, 1, 0] [(0, .ref (mo 0)), (1, .int (-5)), (2, .int 46)] rfl ?_
  refine J_loop (fun m1 => [(mo 0, .inr (6, [.ref (mo 1), .ref (mo 2), .ref (mo 3), .ref (mo 4), .int (nI hn), .ref (mo 5), .int (nI ik), .ref (mo 6), .ref (mo 7), .int (nI tl), .int (nI ((psF xf tl).2.1)), .int (nI (halfN xf tl)), .int (nI (psF xf tl).2.2.2 - 1)])), (mo 1, .inl (G.2.1, 246, .inl (fun q => nI ((pcM 46 m1 (fun _ => 0) (rowM σ)) q)))), (mo 2, .inl (G.2.1, 246, .inl (fun q => nI ((rowM σ) q)))), (mo 3, .inl (G.2.1, 246, .inl (fun q => nI (tf q)))), (mo 4, .inl (G.2.1, 984, .inl (fun q => nI (H q)))), (mo 5, .inl (G.2.1, 246, .inl (fun q => nI (sf q)))), (mo 6, .inl (G.2.1, 40, .inl (fun q => nI (((psF xf tl).2.2.1) q)))), (mo 7, .inl (G.2.1, 60, .inl (fun q => nI (xf q))))]) (fun m1 => [(0, .ref (mo 0)), (1, .int (-5)), (2, .int (nI (46 + m1)))]) (fun m1 => m1 ≤ 200) (fun m1 => 200 - m1) (fun m1 hiz ihz => ?_) 0 (Nat.zero_le _) (by rw [pcM_0]) rfl
  refine J_iload_n C rfl dX6_readPage_38 ?_
  refine J_sipush C 246 (by decide) dX6_readPage_39 ?_
  refine J_icmp_ge C 58 (by decide) dX6_readPage_42 (fun c42 => ?_) (fun c42 => ?_)
  · skip
    have c42 := cv_ge_t (a := (46 + m1)) (b := 246) (by omega) (by omega) c42
    have hem1 : m1 = 200 := by omega
    refine J_arr 1 (fun q => nI (rowM (zrF σ) q)) rfl (fun q hq => congrArg nI (by rw [hem1]; exact row_zr _ hq)) ?_
    refine J_ws (ws' := mdW G mo (zrF σ) (rowM σ) tf H sf ((psF xf tl).2.2.1) xf hn ik tl ((psF xf tl).2.1) (halfN xf tl) (nI (psF xf tl).2.2.2 - 1)) rfl ?_
    refine J_iconst C 0 (by decide) dX6_readPage_58 ?_
    refine J_istore_n C [(2, .int 0), (0, .ref (mo 0)), (1, .int (-5))] (by decide) rfl dX6_readPage_59 ?_
    refine J_lvp [1, 2, 0] [(0, .ref (mo 0)), (1, .int (-5)), (2, .int 0)] rfl ?_
    refine J_loop (fun m2 => [(mo 0, .inr (6, [.ref (mo 1), .ref (mo 2), .ref (mo 3), .ref (mo 4), .int (nI hn), .ref (mo 5), .int (nI ik), .ref (mo 6), .ref (mo 7), .int (nI tl), .int (nI ((psF xf tl).2.1)), .int (nI (halfN xf tl)), .int (nI (psF xf tl).2.2.2 - 1)])), (mo 1, .inl (G.2.1, 246, .inl (fun q => nI ((pcM 26 m2 ((fun k => if k < halfN xf tl then letC xf tl k else 0)) (rowM (zrF σ))) q)))), (mo 2, .inl (G.2.1, 246, .inl (fun q => nI ((rowM σ) q)))), (mo 3, .inl (G.2.1, 246, .inl (fun q => nI (tf q)))), (mo 4, .inl (G.2.1, 984, .inl (fun q => nI (H q)))), (mo 5, .inl (G.2.1, 246, .inl (fun q => nI (sf q)))), (mo 6, .inl (G.2.1, 40, .inl (fun q => nI (((psF xf tl).2.2.1) q)))), (mo 7, .inl (G.2.1, 60, .inl (fun q => nI (xf q))))]) (fun m2 => [(0, .ref (mo 0)), (1, .int (-5)), (2, .int (nI (m2)))]) (fun m2 => m2 ≤ 20) (fun m2 => 20 - m2) (fun m2 hid ihd => ?_) 0 (Nat.zero_le _) (by rw [pcM_0]) rfl
    refine J_iload_n C rfl dX6_readPage_60 ?_
    refine J_bipush C 20 (by decide) dX6_readPage_61 ?_
    refine J_icmp_ge C 104 (by decide) dX6_readPage_63 (fun c63 => ?_) (fun c63 => ?_)
    · skip
      have c63 := cv_ge_t (a := m2) (b := 20) (by omega) (by omega) c63
      have hem2 : m2 = 20 := by omega
      refine J_arr 1 (fun q => nI (rowM (setR (zrF σ) 1 (fun k => if k < halfN xf tl then letC xf tl k else 0)) q)) rfl (fun q hq => congrArg nI (by rw [hem2]; exact row_s1 _ _ _)) ?_
      refine J_ws (ws' := mdW G mo (setR (zrF σ) 1 (fun k => if k < halfN xf tl then letC xf tl k else 0)) (rowM σ) tf H sf ((psF xf tl).2.2.1) xf hn ik tl ((psF xf tl).2.1) (halfN xf tl) (nI (psF xf tl).2.2.2 - 1)) rfl ?_
      refine J_iconst C 0 (by decide) dX6_readPage_104 ?_
      refine J_istore_n C [(2, .int 0), (0, .ref (mo 0)), (1, .int (-5))] (by decide) rfl dX6_readPage_105 ?_
      refine J_lvp [1, 2, 0] [(0, .ref (mo 0)), (1, .int (-5)), (2, .int 0)] rfl ?_
      refine J_loop (fun m3 => [(mo 0, .inr (6, [.ref (mo 1), .ref (mo 2), .ref (mo 3), .ref (mo 4), .int (nI hn), .ref (mo 5), .int (nI ik), .ref (mo 6), .ref (mo 7), .int (nI tl), .int (nI ((psF xf tl).2.1)), .int (nI (halfN xf tl)), .int (nI (psF xf tl).2.2.2 - 1)])), (mo 1, .inl (G.2.1, 246, .inl (fun q => nI ((pcM 46 m3 ((psF xf tl).2.2.1) (rowM (setR (zrF σ) 1 (fun k => if k < halfN xf tl then letC xf tl k else 0)))) q)))), (mo 2, .inl (G.2.1, 246, .inl (fun q => nI ((rowM σ) q)))), (mo 3, .inl (G.2.1, 246, .inl (fun q => nI (tf q)))), (mo 4, .inl (G.2.1, 984, .inl (fun q => nI (H q)))), (mo 5, .inl (G.2.1, 246, .inl (fun q => nI (sf q)))), (mo 6, .inl (G.2.1, 40, .inl (fun q => nI (((psF xf tl).2.2.1) q)))), (mo 7, .inl (G.2.1, 60, .inl (fun q => nI (xf q))))]) (fun m3 => [(0, .ref (mo 0)), (1, .int (-5)), (2, .int (nI (m3)))]) (fun m3 => m3 ≤ 40) (fun m3 => 40 - m3) (fun m3 hie ihe => ?_) 0 (Nat.zero_le _) (by rw [pcM_0]) rfl
      refine J_iload_n C rfl dX6_readPage_106 ?_
      refine J_bipush C 40 (by decide) dX6_readPage_107 ?_
      refine J_icmp_ge C 133 (by decide) dX6_readPage_109 (fun c109 => ?_) (fun c109 => ?_)
      · skip
        have c109 := cv_ge_t (a := m3) (b := 40) (by omega) (by omega) c109
        have hem3 : m3 = 40 := by omega
        refine J_arr 1 (fun q => nI (rowM (setR (setR (zrF σ) 1 (fun k => if k < halfN xf tl then letC xf tl k else 0)) 2 ((psF xf tl).2.2.1)) q)) rfl (fun q hq => congrArg nI (by rw [hem3]; exact row_s2 _ _ _)) ?_
        refine J_ws (ws' := mdW G mo (setR (setR (zrF σ) 1 (fun k => if k < halfN xf tl then letC xf tl k else 0)) 2 ((psF xf tl).2.2.1)) (rowM σ) tf H sf ((psF xf tl).2.2.1) xf hn ik tl ((psF xf tl).2.1) (halfN xf tl) (nI (psF xf tl).2.2.2 - 1)) rfl ?_
        refine J_iconst C 0 (by decide) dX6_readPage_133 ?_
        refine J_istore_n C [(2, .int 0), (0, .ref (mo 0)), (1, .int (-5))] (by decide) rfl dX6_readPage_134 ?_
        refine J_iload_n C rfl dX6_readPage_135 ?_
        refine J_iconst C 2 (by decide) dX6_readPage_136 ?_
        refine J_icmp_ge C 166 (by decide) dX6_readPage_137 (fun h => absurd h (by decide)) (fun _ => ?_)
        refine J_aload_n C rfl dX6_readPage_140 ?_
        refine J_get C 0 0 in6 rfl rfl (by decide) k575 rfl dX6_readPage_141 ?_
        refine J_bipush C 14 (by decide) dX6_readPage_144 ?_
        refine J_iload_n C rfl dX6_readPage_146 ?_
        refine J_iadd C dX6_readPage_147 ?_
        refine J_i ((by decide) : (14 + 0 : Int32) = 14) ?_
        refine J_iconst C 0 (by decide) dX6_readPage_148 ?_
        refine J_iast C 1 ([(mo 0, .inr (6, [.ref (mo 1), .ref (mo 2), .ref (mo 3), .ref (mo 4), .int (nI hn), .ref (mo 5), .int (nI ik), .ref (mo 6), .ref (mo 7), .int (nI tl), .int (nI ((psF xf tl).2.1)), .int (nI (halfN xf tl)), .int (nI (psF xf tl).2.2.2 - 1)])), (mo 1, .inl (G.2.1, 246, .inl (upd (fun q => nI ((rowM (setR (setR (zrF σ) 1 (fun k => if k < halfN xf tl then letC xf tl k else 0)) 2 ((psF xf tl).2.2.1))) q)) 14 0))), (mo 2, .inl (G.2.1, 246, .inl (fun q => nI ((rowM σ) q)))), (mo 3, .inl (G.2.1, 246, .inl (fun q => nI (tf q)))), (mo 4, .inl (G.2.1, 984, .inl (fun q => nI (H q)))), (mo 5, .inl (G.2.1, 246, .inl (fun q => nI (sf q)))), (mo 6, .inl (G.2.1, 40, .inl (fun q => nI (((psF xf tl).2.2.1) q)))), (mo 7, .inl (G.2.1, 60, .inl (fun q => nI (xf q))))]) rfl 14 rfl (by decide) (Nat.le_of_ble_eq_true rfl) rfl dX6_readPage_149 ?_
        refine J_arr 1 (fun q => nI (rowM (up2 (setR (setR (zrF σ) 1 (fun k => if k < halfN xf tl then letC xf tl k else 0)) 2 ((psF xf tl).2.2.1)) 0 14 0) q)) rfl (fun q _ => congrFun (rowM_u0 (setR (setR (zrF σ) 1 (fun k => if k < halfN xf tl then letC xf tl k else 0)) 2 ((psF xf tl).2.2.1)) 0 (by decide) (by decide)) q) ?_
        refine J_ws (ws' := mdW G mo (up2 (setR (setR (zrF σ) 1 (fun k => if k < halfN xf tl then letC xf tl k else 0)) 2 ((psF xf tl).2.2.1)) 0 14 0) (rowM σ) tf H sf ((psF xf tl).2.2.1) xf hn ik tl ((psF xf tl).2.1) (halfN xf tl) (nI (psF xf tl).2.2.2 - 1)) rfl ?_
        refine J_aload_n C rfl dX6_readPage_150 ?_
        refine J_get C 0 0 in6 rfl rfl (by decide) k575 rfl dX6_readPage_151 ?_
        refine J_bipush C 16 (by decide) dX6_readPage_154 ?_
        refine J_iload_n C rfl dX6_readPage_156 ?_
        refine J_iadd C dX6_readPage_157 ?_
        refine J_i ((by decide) : (16 + 0 : Int32) = 16) ?_
        refine J_iconst C 0 (by decide) dX6_readPage_158 ?_
        refine J_iast C 1 ([(mo 0, .inr (6, [.ref (mo 1), .ref (mo 2), .ref (mo 3), .ref (mo 4), .int (nI hn), .ref (mo 5), .int (nI ik), .ref (mo 6), .ref (mo 7), .int (nI tl), .int (nI ((psF xf tl).2.1)), .int (nI (halfN xf tl)), .int (nI (psF xf tl).2.2.2 - 1)])), (mo 1, .inl (G.2.1, 246, .inl (upd (fun q => nI ((rowM (up2 (setR (setR (zrF σ) 1 (fun k => if k < halfN xf tl then letC xf tl k else 0)) 2 ((psF xf tl).2.2.1)) 0 14 0)) q)) 16 0))), (mo 2, .inl (G.2.1, 246, .inl (fun q => nI ((rowM σ) q)))), (mo 3, .inl (G.2.1, 246, .inl (fun q => nI (tf q)))), (mo 4, .inl (G.2.1, 984, .inl (fun q => nI (H q)))), (mo 5, .inl (G.2.1, 246, .inl (fun q => nI (sf q)))), (mo 6, .inl (G.2.1, 40, .inl (fun q => nI (((psF xf tl).2.2.1) q)))), (mo 7, .inl (G.2.1, 60, .inl (fun q => nI (xf q))))]) rfl 16 rfl (by decide) (Nat.le_of_ble_eq_true rfl) rfl dX6_readPage_159 ?_
        refine J_arr 1 (fun q => nI (rowM (up2 (up2 (setR (setR (zrF σ) 1 (fun k => if k < halfN xf tl then letC xf tl k else 0)) 2 ((psF xf tl).2.2.1)) 0 14 0) 0 16 0) q)) rfl (fun q _ => congrFun (rowM_u0 (up2 (setR (setR (zrF σ) 1 (fun k => if k < halfN xf tl then letC xf tl k else 0)) 2 ((psF xf tl).2.2.1)) 0 14 0) 0 (by decide) (by decide)) q) ?_
        refine J_ws (ws' := mdW G mo (up2 (up2 (setR (setR (zrF σ) 1 (fun k => if k < halfN xf tl then letC xf tl k else 0)) 2 ((psF xf tl).2.2.1)) 0 14 0) 0 16 0) (rowM σ) tf H sf ((psF xf tl).2.2.1) xf hn ik tl ((psF xf tl).2.1) (halfN xf tl) (nI (psF xf tl).2.2.2 - 1)) rfl ?_
        refine J_iinc C 1 [(2, .int 1), (0, .ref (mo 0)), (1, .int (-5))] 0 rfl (by decide) (by decide) rfl dX6_readPage_160 ?_
        refine J_goto C 135 (by decide) dX6_readPage_163 ?_
        refine J_iload_n C rfl dX6_readPage_135 ?_
        refine J_iconst C 2 (by decide) dX6_readPage_136 ?_
        refine J_icmp_ge C 166 (by decide) dX6_readPage_137 (fun h => absurd h (by decide)) (fun _ => ?_)
        refine J_aload_n C rfl dX6_readPage_140 ?_
        refine J_get C 0 0 in6 rfl rfl (by decide) k575 rfl dX6_readPage_141 ?_
        refine J_bipush C 14 (by decide) dX6_readPage_144 ?_
        refine J_iload_n C rfl dX6_readPage_146 ?_
        refine J_iadd C dX6_readPage_147 ?_
        refine J_i ((by decide) : (14 + 1 : Int32) = 15) ?_
        refine J_iconst C 0 (by decide) dX6_readPage_148 ?_
        refine J_iast C 1 ([(mo 0, .inr (6, [.ref (mo 1), .ref (mo 2), .ref (mo 3), .ref (mo 4), .int (nI hn), .ref (mo 5), .int (nI ik), .ref (mo 6), .ref (mo 7), .int (nI tl), .int (nI ((psF xf tl).2.1)), .int (nI (halfN xf tl)), .int (nI (psF xf tl).2.2.2 - 1)])), (mo 1, .inl (G.2.1, 246, .inl (upd (fun q => nI ((rowM (up2 (up2 (setR (setR (zrF σ) 1 (fun k => if k < halfN xf tl then letC xf tl k else 0)) 2 ((psF xf tl).2.2.1)) 0 14 0) 0 16 0)) q)) 15 0))), (mo 2, .inl (G.2.1, 246, .inl (fun q => nI ((rowM σ) q)))), (mo 3, .inl (G.2.1, 246, .inl (fun q => nI (tf q)))), (mo 4, .inl (G.2.1, 984, .inl (fun q => nI (H q)))), (mo 5, .inl (G.2.1, 246, .inl (fun q => nI (sf q)))), (mo 6, .inl (G.2.1, 40, .inl (fun q => nI (((psF xf tl).2.2.1) q)))), (mo 7, .inl (G.2.1, 60, .inl (fun q => nI (xf q))))]) rfl 15 rfl (by decide) (Nat.le_of_ble_eq_true rfl) rfl dX6_readPage_149 ?_
        refine J_arr 1 (fun q => nI (rowM (up2 (up2 (up2 (setR (setR (zrF σ) 1 (fun k => if k < halfN xf tl then letC xf tl k else 0)) 2 ((psF xf tl).2.2.1)) 0 14 0) 0 16 0) 0 15 0) q)) rfl (fun q _ => congrFun (rowM_u0 (up2 (up2 (setR (setR (zrF σ) 1 (fun k => if k < halfN xf tl then letC xf tl k else 0)) 2 ((psF xf tl).2.2.1)) 0 14 0) 0 16 0) 0 (by decide) (by decide)) q) ?_
        refine J_ws (ws' := mdW G mo (up2 (up2 (up2 (setR (setR (zrF σ) 1 (fun k => if k < halfN xf tl then letC xf tl k else 0)) 2 ((psF xf tl).2.2.1)) 0 14 0) 0 16 0) 0 15 0) (rowM σ) tf H sf ((psF xf tl).2.2.1) xf hn ik tl ((psF xf tl).2.1) (halfN xf tl) (nI (psF xf tl).2.2.2 - 1)) rfl ?_
        refine J_aload_n C rfl dX6_readPage_150 ?_
        refine J_get C 0 0 in6 rfl rfl (by decide) k575 rfl dX6_readPage_151 ?_
        refine J_bipush C 16 (by decide) dX6_readPage_154 ?_
        refine J_iload_n C rfl dX6_readPage_156 ?_
        refine J_iadd C dX6_readPage_157 ?_
        refine J_i ((by decide) : (16 + 1 : Int32) = 17) ?_
        refine J_iconst C 0 (by decide) dX6_readPage_158 ?_
        refine J_iast C 1 ([(mo 0, .inr (6, [.ref (mo 1), .ref (mo 2), .ref (mo 3), .ref (mo 4), .int (nI hn), .ref (mo 5), .int (nI ik), .ref (mo 6), .ref (mo 7), .int (nI tl), .int (nI ((psF xf tl).2.1)), .int (nI (halfN xf tl)), .int (nI (psF xf tl).2.2.2 - 1)])), (mo 1, .inl (G.2.1, 246, .inl (upd (fun q => nI ((rowM (up2 (up2 (up2 (setR (setR (zrF σ) 1 (fun k => if k < halfN xf tl then letC xf tl k else 0)) 2 ((psF xf tl).2.2.1)) 0 14 0) 0 16 0) 0 15 0)) q)) 17 0))), (mo 2, .inl (G.2.1, 246, .inl (fun q => nI ((rowM σ) q)))), (mo 3, .inl (G.2.1, 246, .inl (fun q => nI (tf q)))), (mo 4, .inl (G.2.1, 984, .inl (fun q => nI (H q)))), (mo 5, .inl (G.2.1, 246, .inl (fun q => nI (sf q)))), (mo 6, .inl (G.2.1, 40, .inl (fun q => nI (((psF xf tl).2.2.1) q)))), (mo 7, .inl (G.2.1, 60, .inl (fun q => nI (xf q))))]) rfl 17 rfl (by decide) (Nat.le_of_ble_eq_true rfl) rfl dX6_readPage_159 ?_
        refine J_arr 1 (fun q => nI (rowM (up2 (up2 (up2 (up2 (setR (setR (zrF σ) 1 (fun k => if k < halfN xf tl then letC xf tl k else 0)) 2 ((psF xf tl).2.2.1)) 0 14 0) 0 16 0) 0 15 0) 0 17 0) q)) rfl (fun q _ => congrFun (rowM_u0 (up2 (up2 (up2 (setR (setR (zrF σ) 1 (fun k => if k < halfN xf tl then letC xf tl k else 0)) 2 ((psF xf tl).2.2.1)) 0 14 0) 0 16 0) 0 15 0) 0 (by decide) (by decide)) q) ?_
        refine J_ws (ws' := mdW G mo (up2 (up2 (up2 (up2 (setR (setR (zrF σ) 1 (fun k => if k < halfN xf tl then letC xf tl k else 0)) 2 ((psF xf tl).2.2.1)) 0 14 0) 0 16 0) 0 15 0) 0 17 0) (rowM σ) tf H sf ((psF xf tl).2.2.1) xf hn ik tl ((psF xf tl).2.1) (halfN xf tl) (nI (psF xf tl).2.2.2 - 1)) rfl ?_
        refine J_iinc C 2 [(2, .int 2), (0, .ref (mo 0)), (1, .int (-5))] 0 rfl (by decide) (by decide) rfl dX6_readPage_160 ?_
        refine J_goto C 135 (by decide) dX6_readPage_163 ?_
        refine J_iload_n C rfl dX6_readPage_135 ?_
        refine J_iconst C 2 (by decide) dX6_readPage_136 ?_
        refine J_icmp_ge C 166 (by decide) dX6_readPage_137 (fun _ => ?_) (fun h => absurd h (by decide))
        refine J_aload_n C rfl dX6_readPage_166 ?_
        refine J_get C 0 0 in6 rfl rfl (by decide) k575 rfl dX6_readPage_167 ?_
        refine J_iconst C 4 (by decide) dX6_readPage_170 ?_
        refine J_iconst C 2 (by decide) dX6_readPage_171 ?_
        refine J_aload_n C rfl dX6_readPage_172 ?_
        refine J_get C 0 11 in6 rfl rfl (by decide) k586 rfl dX6_readPage_173 ?_
        refine J_imul C dX6_readPage_176 ?_
        refine J_i (pk_mul 2 (halfN xf tl) : (2 * (nI (halfN xf tl)) : Int32) = (nI (2 * (halfN xf tl)))) ?_
        refine J_iast C 1 ([(mo 0, .inr (6, [.ref (mo 1), .ref (mo 2), .ref (mo 3), .ref (mo 4), .int (nI hn), .ref (mo 5), .int (nI ik), .ref (mo 6), .ref (mo 7), .int (nI tl), .int (nI ((psF xf tl).2.1)), .int (nI (halfN xf tl)), .int (nI (psF xf tl).2.2.2 - 1)])), (mo 1, .inl (G.2.1, 246, .inl (upd (fun q => nI ((rowM (up2 (up2 (up2 (up2 (setR (setR (zrF σ) 1 (fun k => if k < halfN xf tl then letC xf tl k else 0)) 2 ((psF xf tl).2.2.1)) 0 14 0) 0 16 0) 0 15 0) 0 17 0)) q)) 4 (nI (2 * (halfN xf tl)))))), (mo 2, .inl (G.2.1, 246, .inl (fun q => nI ((rowM σ) q)))), (mo 3, .inl (G.2.1, 246, .inl (fun q => nI (tf q)))), (mo 4, .inl (G.2.1, 984, .inl (fun q => nI (H q)))), (mo 5, .inl (G.2.1, 246, .inl (fun q => nI (sf q)))), (mo 6, .inl (G.2.1, 40, .inl (fun q => nI (((psF xf tl).2.2.1) q)))), (mo 7, .inl (G.2.1, 60, .inl (fun q => nI (xf q))))]) rfl 4 rfl (by decide) (Nat.le_of_ble_eq_true rfl) rfl dX6_readPage_177 ?_
        refine J_arr 1 (fun q => nI (rowM (up2 (up2 (up2 (up2 (up2 (setR (setR (zrF σ) 1 (fun k => if k < halfN xf tl then letC xf tl k else 0)) 2 ((psF xf tl).2.2.1)) 0 14 0) 0 16 0) 0 15 0) 0 17 0) 0 4 (2 * (halfN xf tl))) q)) rfl (fun q _ => congrFun (rowM_u0 (up2 (up2 (up2 (up2 (setR (setR (zrF σ) 1 (fun k => if k < halfN xf tl then letC xf tl k else 0)) 2 ((psF xf tl).2.2.1)) 0 14 0) 0 16 0) 0 15 0) 0 17 0) (2 * (halfN xf tl)) (by decide) (by decide)) q) ?_
        refine J_ws (ws' := mdW G mo (up2 (up2 (up2 (up2 (up2 (setR (setR (zrF σ) 1 (fun k => if k < halfN xf tl then letC xf tl k else 0)) 2 ((psF xf tl).2.2.1)) 0 14 0) 0 16 0) 0 15 0) 0 17 0) 0 4 (2 * (halfN xf tl))) (rowM σ) tf H sf ((psF xf tl).2.2.1) xf hn ik tl ((psF xf tl).2.1) (halfN xf tl) (nI (psF xf tl).2.2.2 - 1)) rfl ?_
        refine J_aload_n C rfl dX6_readPage_178 ?_
        refine J_get C 0 0 in6 rfl rfl (by decide) k575 rfl dX6_readPage_179 ?_
        refine J_iconst C 5 (by decide) dX6_readPage_182 ?_
        refine J_iconst C 0 (by decide) dX6_readPage_183 ?_
        refine J_iast C 1 ([(mo 0, .inr (6, [.ref (mo 1), .ref (mo 2), .ref (mo 3), .ref (mo 4), .int (nI hn), .ref (mo 5), .int (nI ik), .ref (mo 6), .ref (mo 7), .int (nI tl), .int (nI ((psF xf tl).2.1)), .int (nI (halfN xf tl)), .int (nI (psF xf tl).2.2.2 - 1)])), (mo 1, .inl (G.2.1, 246, .inl (upd (fun q => nI ((rowM (up2 (up2 (up2 (up2 (up2 (setR (setR (zrF σ) 1 (fun k => if k < halfN xf tl then letC xf tl k else 0)) 2 ((psF xf tl).2.2.1)) 0 14 0) 0 16 0) 0 15 0) 0 17 0) 0 4 (2 * (halfN xf tl)))) q)) 5 0))), (mo 2, .inl (G.2.1, 246, .inl (fun q => nI ((rowM σ) q)))), (mo 3, .inl (G.2.1, 246, .inl (fun q => nI (tf q)))), (mo 4, .inl (G.2.1, 984, .inl (fun q => nI (H q)))), (mo 5, .inl (G.2.1, 246, .inl (fun q => nI (sf q)))), (mo 6, .inl (G.2.1, 40, .inl (fun q => nI (((psF xf tl).2.2.1) q)))), (mo 7, .inl (G.2.1, 60, .inl (fun q => nI (xf q))))]) rfl 5 rfl (by decide) (Nat.le_of_ble_eq_true rfl) rfl dX6_readPage_184 ?_
        refine J_arr 1 (fun q => nI (rowM (up2 (up2 (up2 (up2 (up2 (up2 (setR (setR (zrF σ) 1 (fun k => if k < halfN xf tl then letC xf tl k else 0)) 2 ((psF xf tl).2.2.1)) 0 14 0) 0 16 0) 0 15 0) 0 17 0) 0 4 (2 * (halfN xf tl))) 0 5 0) q)) rfl (fun q _ => congrFun (rowM_u0 (up2 (up2 (up2 (up2 (up2 (setR (setR (zrF σ) 1 (fun k => if k < halfN xf tl then letC xf tl k else 0)) 2 ((psF xf tl).2.2.1)) 0 14 0) 0 16 0) 0 15 0) 0 17 0) 0 4 (2 * (halfN xf tl))) 0 (by decide) (by decide)) q) ?_
        refine J_ws (ws' := mdW G mo (up2 (up2 (up2 (up2 (up2 (up2 (setR (setR (zrF σ) 1 (fun k => if k < halfN xf tl then letC xf tl k else 0)) 2 ((psF xf tl).2.2.1)) 0 14 0) 0 16 0) 0 15 0) 0 17 0) 0 4 (2 * (halfN xf tl))) 0 5 0) (rowM σ) tf H sf ((psF xf tl).2.2.1) xf hn ik tl ((psF xf tl).2.1) (halfN xf tl) (nI (psF xf tl).2.2.2 - 1)) rfl ?_
        refine J_aload_n C rfl dX6_readPage_185 ?_
        refine J_get C 0 0 in6 rfl rfl (by decide) k575 rfl dX6_readPage_186 ?_
        refine J_bipush C 9 (by decide) dX6_readPage_189 ?_
        refine J_dup2 C rfl rfl dX6_readPage_191 ?_
        refine J_iald C 1 rfl 9 rfl (by decide) (Nat.le_of_ble_eq_true rfl) dX6_readPage_192 ?_
        refine J_i (y := nI ((setR (setR (zrF σ) 1 (fun k => if k < halfN xf tl then letC xf tl k else 0)) 2 ((psF xf tl).2.2.1)) 0 9)) (rfl) ?_
        refine J_iconst C 1 (by decide) dX6_readPage_193 ?_
        refine J_iadd C dX6_readPage_194 ?_
        refine J_i (nI_add ((setR (setR (zrF σ) 1 (fun k => if k < halfN xf tl then letC xf tl k else 0)) 2 ((psF xf tl).2.2.1)) 0 9) 1 : ((nI ((setR (setR (zrF σ) 1 (fun k => if k < halfN xf tl then letC xf tl k else 0)) 2 ((psF xf tl).2.2.1)) 0 9)) + 1 : Int32) = (nI (((setR (setR (zrF σ) 1 (fun k => if k < halfN xf tl then letC xf tl k else 0)) 2 ((psF xf tl).2.2.1)) 0 9) + 1))) ?_
        refine J_iast C 1 ([(mo 0, .inr (6, [.ref (mo 1), .ref (mo 2), .ref (mo 3), .ref (mo 4), .int (nI hn), .ref (mo 5), .int (nI ik), .ref (mo 6), .ref (mo 7), .int (nI tl), .int (nI ((psF xf tl).2.1)), .int (nI (halfN xf tl)), .int (nI (psF xf tl).2.2.2 - 1)])), (mo 1, .inl (G.2.1, 246, .inl (upd (fun q => nI ((rowM (up2 (up2 (up2 (up2 (up2 (up2 (setR (setR (zrF σ) 1 (fun k => if k < halfN xf tl then letC xf tl k else 0)) 2 ((psF xf tl).2.2.1)) 0 14 0) 0 16 0) 0 15 0) 0 17 0) 0 4 (2 * (halfN xf tl))) 0 5 0)) q)) 9 (nI (((setR (setR (zrF σ) 1 (fun k => if k < halfN xf tl then letC xf tl k else 0)) 2 ((psF xf tl).2.2.1)) 0 9) + 1))))), (mo 2, .inl (G.2.1, 246, .inl (fun q => nI ((rowM σ) q)))), (mo 3, .inl (G.2.1, 246, .inl (fun q => nI (tf q)))), (mo 4, .inl (G.2.1, 984, .inl (fun q => nI (H q)))), (mo 5, .inl (G.2.1, 246, .inl (fun q => nI (sf q)))), (mo 6, .inl (G.2.1, 40, .inl (fun q => nI (((psF xf tl).2.2.1) q)))), (mo 7, .inl (G.2.1, 60, .inl (fun q => nI (xf q))))]) rfl 9 rfl (by decide) (Nat.le_of_ble_eq_true rfl) rfl dX6_readPage_195 ?_
        refine J_arr 1 (fun q => nI (rowM (up2 (up2 (up2 (up2 (up2 (up2 (up2 (setR (setR (zrF σ) 1 (fun k => if k < halfN xf tl then letC xf tl k else 0)) 2 ((psF xf tl).2.2.1)) 0 14 0) 0 16 0) 0 15 0) 0 17 0) 0 4 (2 * (halfN xf tl))) 0 5 0) 0 9 (((setR (setR (zrF σ) 1 (fun k => if k < halfN xf tl then letC xf tl k else 0)) 2 ((psF xf tl).2.2.1)) 0 9) + 1)) q)) rfl (fun q _ => congrFun (rowM_u0 (up2 (up2 (up2 (up2 (up2 (up2 (setR (setR (zrF σ) 1 (fun k => if k < halfN xf tl then letC xf tl k else 0)) 2 ((psF xf tl).2.2.1)) 0 14 0) 0 16 0) 0 15 0) 0 17 0) 0 4 (2 * (halfN xf tl))) 0 5 0) (((setR (setR (zrF σ) 1 (fun k => if k < halfN xf tl then letC xf tl k else 0)) 2 ((psF xf tl).2.2.1)) 0 9) + 1) (by decide) (by decide)) q) ?_
        refine J_ws (ws' := mdW G mo (up2 (up2 (up2 (up2 (up2 (up2 (up2 (setR (setR (zrF σ) 1 (fun k => if k < halfN xf tl then letC xf tl k else 0)) 2 ((psF xf tl).2.2.1)) 0 14 0) 0 16 0) 0 15 0) 0 17 0) 0 4 (2 * (halfN xf tl))) 0 5 0) 0 9 (((setR (setR (zrF σ) 1 (fun k => if k < halfN xf tl then letC xf tl k else 0)) 2 ((psF xf tl).2.2.1)) 0 9) + 1)) (rowM σ) tf H sf ((psF xf tl).2.2.1) xf hn ik tl ((psF xf tl).2.1) (halfN xf tl) (nI (psF xf tl).2.2.2 - 1)) rfl ?_
        refine J_ws (ws' := mdW G mo (newF σ xf tl) (rowM σ) tf H sf ((psF xf tl).2.2.1) xf hn ik tl ((psF xf tl).2.1) (halfN xf tl) (nI (psF xf tl).2.2.2 - 1)) (by rw [newF_m]) ?_
        refine J_aload_n C rfl dX6_readPage_196 ?_
        refine J_aload_n C rfl dX6_readPage_197 ?_
        refine J_get C 0 0 in6 rfl rfl (by decide) k575 rfl dX6_readPage_198 ?_
        refine J_iconst C 4 (by decide) dX6_readPage_201 ?_
        refine J_iald C 1 rfl 4 rfl (by decide) (Nat.le_of_ble_eq_true rfl) dX6_readPage_202 ?_
        refine J_i (y := nI ((newF σ xf tl) 0 4)) (rfl) ?_
        refine J_callV (as := [.int (nI ((newF σ xf tl) 0 4))]) (rest := []) C (ct_ends l G mo (newF σ xf tl) (rowM σ) tf H sf ((psF xf tl).2.2.1) xf hn ik tl ((psF xf tl).2.1) (halfN xf tl) (nI (psF xf tl).2.2.2 - 1) (nI ((newF σ xf tl) 0 4)) h4) (fun u => mdW G mo (newF σ xf tl) (rowM σ) tf (endH H (rowM σ) hn) sf ((psF xf tl).2.2.1) xf (sizeF hn) ik tl ((psF xf tl).2.1) (halfN xf tl) (nI (psF xf tl).2.2.2 - 1)) [0, 1, 2, 3, 4, 5, 6, 7] [] 1 k642 k644 k14 k38 k645 rfl (by decide +kernel) ⟨Nat.le_of_ble_eq_true rfl, Nat.le_of_ble_eq_true rfl⟩ ⟨Nat.le_of_ble_eq_true rfl, Nat.le_of_ble_eq_true rfl⟩ dX6_readPage_203 (Nat.le_of_ble_eq_true rfl) 0 rfl rfl rfl (by decide +kernel) (fun _ => rfl) ([]) rfl (fun _ => rfl) 8 (fun _ => rfl) (by decide +kernel) (by decide +kernel) (fun _ _ => ?_)
        refine J_st (st' := [.int (nI ((newF σ xf tl) 0 4))]) rfl ?_
        exact J_zret C hr rfl dX6_readPage_206 () rfl trivial rfl
      · skip
        have c109 := cv_ge_f (a := m3) (b := 40) (by omega) (by omega) c109
        refine J_aload_n C rfl dX6_readPage_112 ?_
        refine J_get C 0 0 in6 rfl rfl (by decide) k575 rfl dX6_readPage_113 ?_
        refine J_bipush C 46 (by decide) dX6_readPage_116 ?_
        refine J_iload_n C rfl dX6_readPage_118 ?_
        refine J_iadd C dX6_readPage_119 ?_
        refine J_i (nI_add 46 m3 : (46 + (nI m3) : Int32) = (nI (46 + m3))) ?_
        refine J_aload_n C rfl dX6_readPage_120 ?_
        refine J_get C 0 7 in6 rfl rfl (by decide) k582 rfl dX6_readPage_121 ?_
        refine J_iload_n C rfl dX6_readPage_124 ?_
        refine J_iald C 6 rfl m3 rfl (by omega) (Nat.le_of_ble_eq_true rfl) dX6_readPage_125 ?_
        refine J_iast C 1 ([(mo 0, .inr (6, [.ref (mo 1), .ref (mo 2), .ref (mo 3), .ref (mo 4), .int (nI hn), .ref (mo 5), .int (nI ik), .ref (mo 6), .ref (mo 7), .int (nI tl), .int (nI ((psF xf tl).2.1)), .int (nI (halfN xf tl)), .int (nI (psF xf tl).2.2.2 - 1)])), (mo 1, .inl (G.2.1, 246, .inl (upd (fun q => nI ((pcM 46 m3 ((psF xf tl).2.2.1) (rowM (setR (zrF σ) 1 (fun k => if k < halfN xf tl then letC xf tl k else 0)))) q)) (46 + m3) (nI (((psF xf tl).2.2.1) m3))))), (mo 2, .inl (G.2.1, 246, .inl (fun q => nI ((rowM σ) q)))), (mo 3, .inl (G.2.1, 246, .inl (fun q => nI (tf q)))), (mo 4, .inl (G.2.1, 984, .inl (fun q => nI (H q)))), (mo 5, .inl (G.2.1, 246, .inl (fun q => nI (sf q)))), (mo 6, .inl (G.2.1, 40, .inl (fun q => nI (((psF xf tl).2.2.1) q)))), (mo 7, .inl (G.2.1, 60, .inl (fun q => nI (xf q))))]) rfl (46 + m3) rfl (by omega) (Nat.le_of_ble_eq_true rfl) rfl dX6_readPage_126 ?_
        refine J_arr 1 (fun q => nI (if q = 46 + m3 then ((psF xf tl).2.2.1) m3 else pcM 46 m3 ((psF xf tl).2.2.1) (rowM (setR (zrF σ) 1 (fun k => if k < halfN xf tl then letC xf tl k else 0))) q)) rfl (fun q _ => congrFun (upd_nI _ _ _) q) ?_
        refine J_ws (ws' := [(mo 0, .inr (6, [.ref (mo 1), .ref (mo 2), .ref (mo 3), .ref (mo 4), .int (nI hn), .ref (mo 5), .int (nI ik), .ref (mo 6), .ref (mo 7), .int (nI tl), .int (nI ((psF xf tl).2.1)), .int (nI (halfN xf tl)), .int (nI (psF xf tl).2.2.2 - 1)])), (mo 1, .inl (G.2.1, 246, .inl (fun q => nI (if q = 46 + m3 then ((psF xf tl).2.2.1) m3 else pcM 46 m3 ((psF xf tl).2.2.1) (rowM (setR (zrF σ) 1 (fun k => if k < halfN xf tl then letC xf tl k else 0))) q)))), (mo 2, .inl (G.2.1, 246, .inl (fun q => nI ((rowM σ) q)))), (mo 3, .inl (G.2.1, 246, .inl (fun q => nI (tf q)))), (mo 4, .inl (G.2.1, 984, .inl (fun q => nI (H q)))), (mo 5, .inl (G.2.1, 246, .inl (fun q => nI (sf q)))), (mo 6, .inl (G.2.1, 40, .inl (fun q => nI (((psF xf tl).2.2.1) q)))), (mo 7, .inl (G.2.1, 60, .inl (fun q => nI (xf q))))]) rfl ?_
        refine J_iinc C (nI (m3 + 1)) [(2, .int (nI (m3 + 1))), (0, .ref (mo 0)), (1, .int (-5))] 2 rfl (by first | exact nI_add _ 1 | rfl) (by decide) rfl dX6_readPage_127 ?_
        refine J_goto C 106 (by decide) dX6_readPage_130 ?_
        rw [pcM_nextI 46 ((psF xf tl).2.2.1)]
        refine J_lvp [1, 2, 0] [(0, .ref (mo 0)), (1, .int (-5)), (2, .int (nI (m3 + 1)))] rfl ?_
        exact ihe (m3 + 1) (by omega) (by omega)
    · skip
      have c63 := cv_ge_f (a := m2) (b := 20) (by omega) (by omega) c63
      refine J_aload_n C rfl dX6_readPage_66 ?_
      refine J_get C 0 0 in6 rfl rfl (by decide) k575 rfl dX6_readPage_67 ?_
      refine J_bipush C 26 (by decide) dX6_readPage_70 ?_
      refine J_iload_n C rfl dX6_readPage_72 ?_
      refine J_iadd C dX6_readPage_73 ?_
      refine J_i (nI_add 26 m2 : (26 + (nI m2) : Int32) = (nI (26 + m2))) ?_
      refine J_iload_n C rfl dX6_readPage_74 ?_
      refine J_aload_n C rfl dX6_readPage_75 ?_
      refine J_get C 0 11 in6 rfl rfl (by decide) k586 rfl dX6_readPage_76 ?_
      refine J_icmp_ge C 96 (by decide) dX6_readPage_79 (fun c79 => ?_) (fun c79 => ?_)
      · skip
        have c79 := cv_ge_t (a := m2) (b := (halfN xf tl)) (by omega) (by omega) c79
        refine J_iconst C 0 (by decide) dX6_readPage_96 ?_
        refine J_i (congrArg nI (by show 0 = if m2 < halfN xf tl then letC xf tl m2 else 0; rw [if_neg (by omega)]) : (0 : Int32) = (nI ((fun k => if k < halfN xf tl then letC xf tl k else 0) m2))) ?_
        refine J_iast C 1 ([(mo 0, .inr (6, [.ref (mo 1), .ref (mo 2), .ref (mo 3), .ref (mo 4), .int (nI hn), .ref (mo 5), .int (nI ik), .ref (mo 6), .ref (mo 7), .int (nI tl), .int (nI ((psF xf tl).2.1)), .int (nI (halfN xf tl)), .int (nI (psF xf tl).2.2.2 - 1)])), (mo 1, .inl (G.2.1, 246, .inl (upd (fun q => nI ((pcM 26 m2 ((fun k => if k < halfN xf tl then letC xf tl k else 0)) (rowM (zrF σ))) q)) (26 + m2) (nI ((fun k => if k < halfN xf tl then letC xf tl k else 0) m2))))), (mo 2, .inl (G.2.1, 246, .inl (fun q => nI ((rowM σ) q)))), (mo 3, .inl (G.2.1, 246, .inl (fun q => nI (tf q)))), (mo 4, .inl (G.2.1, 984, .inl (fun q => nI (H q)))), (mo 5, .inl (G.2.1, 246, .inl (fun q => nI (sf q)))), (mo 6, .inl (G.2.1, 40, .inl (fun q => nI (((psF xf tl).2.2.1) q)))), (mo 7, .inl (G.2.1, 60, .inl (fun q => nI (xf q))))]) rfl (26 + m2) rfl (by omega) (Nat.le_of_ble_eq_true rfl) rfl dX6_readPage_97 ?_
        refine J_arr 1 (fun q => nI (if q = 26 + m2 then (fun k => if k < halfN xf tl then letC xf tl k else 0) m2 else pcM 26 m2 ((fun k => if k < halfN xf tl then letC xf tl k else 0)) (rowM (zrF σ)) q)) rfl (fun q _ => congrFun (upd_nI _ _ _) q) ?_
        refine J_ws (ws' := [(mo 0, .inr (6, [.ref (mo 1), .ref (mo 2), .ref (mo 3), .ref (mo 4), .int (nI hn), .ref (mo 5), .int (nI ik), .ref (mo 6), .ref (mo 7), .int (nI tl), .int (nI ((psF xf tl).2.1)), .int (nI (halfN xf tl)), .int (nI (psF xf tl).2.2.2 - 1)])), (mo 1, .inl (G.2.1, 246, .inl (fun q => nI (if q = 26 + m2 then (fun k => if k < halfN xf tl then letC xf tl k else 0) m2 else pcM 26 m2 ((fun k => if k < halfN xf tl then letC xf tl k else 0)) (rowM (zrF σ)) q)))), (mo 2, .inl (G.2.1, 246, .inl (fun q => nI ((rowM σ) q)))), (mo 3, .inl (G.2.1, 246, .inl (fun q => nI (tf q)))), (mo 4, .inl (G.2.1, 984, .inl (fun q => nI (H q)))), (mo 5, .inl (G.2.1, 246, .inl (fun q => nI (sf q)))), (mo 6, .inl (G.2.1, 40, .inl (fun q => nI (((psF xf tl).2.2.1) q)))), (mo 7, .inl (G.2.1, 60, .inl (fun q => nI (xf q))))]) rfl ?_
        refine J_iinc C (nI (m2 + 1)) [(2, .int (nI (m2 + 1))), (0, .ref (mo 0)), (1, .int (-5))] 2 rfl (by first | exact nI_add _ 1 | rfl) (by decide) rfl dX6_readPage_98 ?_
        refine J_goto C 60 (by decide) dX6_readPage_101 ?_
        rw [pcM_nextI 26 ((fun k => if k < halfN xf tl then letC xf tl k else 0))]
        refine J_lvp [1, 2, 0] [(0, .ref (mo 0)), (1, .int (-5)), (2, .int (nI (m2 + 1)))] rfl ?_
        exact ihd (m2 + 1) (by omega) (by omega)
      · skip
        have c79 := cv_ge_f (a := m2) (b := (halfN xf tl)) (by omega) (by omega) c79
        have hz4 := letC_pos (hhn.2.2 m2 c79)
        refine J_aload_n C rfl dX6_readPage_82 ?_
        refine J_get C 0 8 in6 rfl rfl (by decide) k583 rfl dX6_readPage_83 ?_
        refine J_iload_n C rfl dX6_readPage_86 ?_
        refine J_iald C 7 rfl m2 rfl (by omega) (Nat.le_of_ble_eq_true rfl) dX6_readPage_87 ?_
        refine J_bipush C 97 (by decide) dX6_readPage_88 ?_
        refine J_isub C dX6_readPage_90 ?_
        refine J_i (pk_sub (a := xf m2) (b := 97) (by omega) : ((nI (xf m2)) - 97 : Int32) = (nI (xf m2 - 97))) ?_
        refine J_iconst C 1 (by decide) dX6_readPage_91 ?_
        refine J_iadd C dX6_readPage_92 ?_
        refine J_i (nI_add (xf m2 - 97) 1 : ((nI (xf m2 - 97)) + 1 : Int32) = (nI ((xf m2 - 97) + 1))) ?_
        refine J_goto C 97 (by decide) dX6_readPage_93 ?_
        refine J_i (congrArg nI (by show (xf m2 - 97) + 1 = if m2 < halfN xf tl then letC xf tl m2 else 0; rw [if_pos c79]; have hz3 := letC_pos (hhn.2.2 m2 c79); unfold letC; rw [if_pos hz3]; omega) : (nI ((xf m2 - 97) + 1) : Int32) = (nI ((fun k => if k < halfN xf tl then letC xf tl k else 0) m2))) ?_
        refine J_iast C 1 ([(mo 0, .inr (6, [.ref (mo 1), .ref (mo 2), .ref (mo 3), .ref (mo 4), .int (nI hn), .ref (mo 5), .int (nI ik), .ref (mo 6), .ref (mo 7), .int (nI tl), .int (nI ((psF xf tl).2.1)), .int (nI (halfN xf tl)), .int (nI (psF xf tl).2.2.2 - 1)])), (mo 1, .inl (G.2.1, 246, .inl (upd (fun q => nI ((pcM 26 m2 ((fun k => if k < halfN xf tl then letC xf tl k else 0)) (rowM (zrF σ))) q)) (26 + m2) (nI ((fun k => if k < halfN xf tl then letC xf tl k else 0) m2))))), (mo 2, .inl (G.2.1, 246, .inl (fun q => nI ((rowM σ) q)))), (mo 3, .inl (G.2.1, 246, .inl (fun q => nI (tf q)))), (mo 4, .inl (G.2.1, 984, .inl (fun q => nI (H q)))), (mo 5, .inl (G.2.1, 246, .inl (fun q => nI (sf q)))), (mo 6, .inl (G.2.1, 40, .inl (fun q => nI (((psF xf tl).2.2.1) q)))), (mo 7, .inl (G.2.1, 60, .inl (fun q => nI (xf q))))]) rfl (26 + m2) rfl (by omega) (Nat.le_of_ble_eq_true rfl) rfl dX6_readPage_97 ?_
        refine J_arr 1 (fun q => nI (if q = 26 + m2 then (fun k => if k < halfN xf tl then letC xf tl k else 0) m2 else pcM 26 m2 ((fun k => if k < halfN xf tl then letC xf tl k else 0)) (rowM (zrF σ)) q)) rfl (fun q _ => congrFun (upd_nI _ _ _) q) ?_
        refine J_ws (ws' := [(mo 0, .inr (6, [.ref (mo 1), .ref (mo 2), .ref (mo 3), .ref (mo 4), .int (nI hn), .ref (mo 5), .int (nI ik), .ref (mo 6), .ref (mo 7), .int (nI tl), .int (nI ((psF xf tl).2.1)), .int (nI (halfN xf tl)), .int (nI (psF xf tl).2.2.2 - 1)])), (mo 1, .inl (G.2.1, 246, .inl (fun q => nI (if q = 26 + m2 then (fun k => if k < halfN xf tl then letC xf tl k else 0) m2 else pcM 26 m2 ((fun k => if k < halfN xf tl then letC xf tl k else 0)) (rowM (zrF σ)) q)))), (mo 2, .inl (G.2.1, 246, .inl (fun q => nI ((rowM σ) q)))), (mo 3, .inl (G.2.1, 246, .inl (fun q => nI (tf q)))), (mo 4, .inl (G.2.1, 984, .inl (fun q => nI (H q)))), (mo 5, .inl (G.2.1, 246, .inl (fun q => nI (sf q)))), (mo 6, .inl (G.2.1, 40, .inl (fun q => nI (((psF xf tl).2.2.1) q)))), (mo 7, .inl (G.2.1, 60, .inl (fun q => nI (xf q))))]) rfl ?_
        refine J_iinc C (nI (m2 + 1)) [(2, .int (nI (m2 + 1))), (0, .ref (mo 0)), (1, .int (-5))] 2 rfl (by first | exact nI_add _ 1 | rfl) (by decide) rfl dX6_readPage_98 ?_
        refine J_goto C 60 (by decide) dX6_readPage_101 ?_
        rw [pcM_nextI 26 ((fun k => if k < halfN xf tl then letC xf tl k else 0))]
        refine J_lvp [1, 2, 0] [(0, .ref (mo 0)), (1, .int (-5)), (2, .int (nI (m2 + 1)))] rfl ?_
        exact ihd (m2 + 1) (by omega) (by omega)
  · skip
    have c42 := cv_ge_f (a := (46 + m1)) (b := 246) (by omega) (by omega) c42
    refine J_aload_n C rfl dX6_readPage_45 ?_
    refine J_get C 0 0 in6 rfl rfl (by decide) k575 rfl dX6_readPage_46 ?_
    refine J_iload_n C rfl dX6_readPage_49 ?_
    refine J_iconst C 0 (by decide) dX6_readPage_50 ?_
    refine J_iast C 1 ([(mo 0, .inr (6, [.ref (mo 1), .ref (mo 2), .ref (mo 3), .ref (mo 4), .int (nI hn), .ref (mo 5), .int (nI ik), .ref (mo 6), .ref (mo 7), .int (nI tl), .int (nI ((psF xf tl).2.1)), .int (nI (halfN xf tl)), .int (nI (psF xf tl).2.2.2 - 1)])), (mo 1, .inl (G.2.1, 246, .inl (upd (fun q => nI ((pcM 46 m1 (fun _ => 0) (rowM σ)) q)) (46 + m1) 0))), (mo 2, .inl (G.2.1, 246, .inl (fun q => nI ((rowM σ) q)))), (mo 3, .inl (G.2.1, 246, .inl (fun q => nI (tf q)))), (mo 4, .inl (G.2.1, 984, .inl (fun q => nI (H q)))), (mo 5, .inl (G.2.1, 246, .inl (fun q => nI (sf q)))), (mo 6, .inl (G.2.1, 40, .inl (fun q => nI (((psF xf tl).2.2.1) q)))), (mo 7, .inl (G.2.1, 60, .inl (fun q => nI (xf q))))]) rfl (46 + m1) rfl (by omega) (Nat.le_of_ble_eq_true rfl) rfl dX6_readPage_51 ?_
    refine J_arr 1 (fun q => nI (if q = 46 + m1 then 0 else pcM 46 m1 (fun _ => 0) (rowM σ) q)) rfl (fun q _ => congrFun (upd_nI _ _ _) q) ?_
    refine J_ws (ws' := [(mo 0, .inr (6, [.ref (mo 1), .ref (mo 2), .ref (mo 3), .ref (mo 4), .int (nI hn), .ref (mo 5), .int (nI ik), .ref (mo 6), .ref (mo 7), .int (nI tl), .int (nI ((psF xf tl).2.1)), .int (nI (halfN xf tl)), .int (nI (psF xf tl).2.2.2 - 1)])), (mo 1, .inl (G.2.1, 246, .inl (fun q => nI (if q = 46 + m1 then 0 else pcM 46 m1 (fun _ => 0) (rowM σ) q)))), (mo 2, .inl (G.2.1, 246, .inl (fun q => nI ((rowM σ) q)))), (mo 3, .inl (G.2.1, 246, .inl (fun q => nI (tf q)))), (mo 4, .inl (G.2.1, 984, .inl (fun q => nI (H q)))), (mo 5, .inl (G.2.1, 246, .inl (fun q => nI (sf q)))), (mo 6, .inl (G.2.1, 40, .inl (fun q => nI (((psF xf tl).2.2.1) q)))), (mo 7, .inl (G.2.1, 60, .inl (fun q => nI (xf q))))]) rfl ?_
    refine J_iinc C (nI (46 + m1 + 1)) [(2, .int (nI (46 + m1 + 1))), (0, .ref (mo 0)), (1, .int (-5))] 2 rfl (by first | exact nI_add _ 1 | rfl) (by decide) rfl dX6_readPage_52 ?_
    refine J_goto C 38 (by decide) dX6_readPage_55 ?_
    rw [pcM_nextZ]
    refine J_lvp [1, 2, 0] [(0, .ref (mo 0)), (1, .int (-5)), (2, .int (nI (46 + m1 + 1)))] rfl ?_
    exact ihz (m1 + 1) (by omega) (by omega)
