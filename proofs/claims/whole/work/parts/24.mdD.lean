theorem in32 {x : Int32} {lo hi : Int64} {zl zh : Int} (hl : lo.toInt = zl) (hh : hi.toInt = zh) : (lo ≤ x.toInt64 ∧ x.toInt64 ≤ hi) ↔ (zl ≤ x.toInt ∧ x.toInt ≤ zh) := by
  rw [fa_le64, fa_le64, Int32.toInt_toInt64, hl, hh]
theorem sum_wr_at {σ : AS} (hI : Inv σ) : ∀ m, m ≤ σ 0 4 → sumN (wrN σ) m = (if m ≤ σ 0 14 then m else σ 0 14) + (m - (σ 0 4 - σ 0 15))
  | 0, _ => by
    have hc := hI.c
    show 0 = _
    rw [if_pos (by omega)]
    omega
  | m + 1, hm => by
    have hc := hI.c
    have h4 := hI.a
    have hq := (hI.q (q := m) (by omega)).2.2.2.2.2
    have ih := sum_wr_at hI m (by omega)
    show sumN (wrN σ) m + wrN σ m = _
    rw [ih]
    unfold wrN
    by_cases h : 0 < σ 3 m
    · rw [if_pos h]
      rcases hq.mp h with h1 | h1
      · rw [if_pos (by omega), if_pos (by omega)]; omega
      · split <;> split <;> omega
    · rw [if_neg h]
      have h1 : ¬ (m < σ 0 14 ∨ (σ 0 4 ≤ m + σ 0 15 ∧ m < σ 0 4)) := fun q => h (hq.mpr q)
      split <;> split <;> omega
theorem sum_wr {σ : AS} (hI : Inv σ) : sumN (wrN σ) (σ 0 4) = σ 0 14 + σ 0 15 := by
  have hc := hI.c
  rw [sum_wr_at hI (σ 0 4) (Nat.le_refl _)]
  split <;> omega

set_option maxHeartbeats 4000000 in
set_option maxRecDepth 100000 in
theorem ct_mScr0 (l : Launch) (G : GT)   : Ct (S := Unit) l G NoX yX6_isScribe (Wy yX6_isScribe cX6_isScribe 1 ((Option.some Jvm.ClassFile.FieldType.boolean))) { frames := 0, cells := 0, slots := 0, locals := 0 } [.int 0] ([]) (fun u => True) (fun u => some (.int 1)) (fun u => []) := by
  refine Ct.of (by decide) (Nat.le_of_ble_eq_true rfl) (fun p e s m args below meth c C hr hnm hX => ?_)
  refine J_iload_n C rfl dX6_isScribe_0 ?_
  refine J_if_eq C 9 (by decide) dX6_isScribe_1 (fun _ => ?_) (fun h => absurd h (by decide))
  refine J_iconst C 1 (by decide) dX6_isScribe_9 ?_
  refine J_goto C 14 (by decide) dX6_isScribe_10 ?_
  exact J_zret C hr rfl dX6_isScribe_14 () rfl trivial rfl

set_option maxHeartbeats 4000000 in
set_option maxRecDepth 100000 in
theorem ct_mScr1 (l : Launch) (G : GT)   : Ct (S := Unit) l G NoX yX6_isScribe (Wy yX6_isScribe cX6_isScribe 1 ((Option.some Jvm.ClassFile.FieldType.boolean))) { frames := 0, cells := 0, slots := 0, locals := 0 } [.int 1] ([]) (fun u => True) (fun u => some (.int 1)) (fun u => []) := by
  refine Ct.of (by decide) (Nat.le_of_ble_eq_true rfl) (fun p e s m args below meth c C hr hnm hX => ?_)
  refine J_iload_n C rfl dX6_isScribe_0 ?_
  refine J_if_eq C 9 (by decide) dX6_isScribe_1 (fun h => absurd h (by decide)) (fun _ => ?_)
  refine J_iload_n C rfl dX6_isScribe_4 ?_
  refine J_iconst C 1 (by decide) dX6_isScribe_5 ?_
  refine J_icmp_ne C 13 (by decide) dX6_isScribe_6 (fun h => absurd h (by decide)) (fun _ => ?_)
  refine J_iconst C 1 (by decide) dX6_isScribe_9 ?_
  refine J_goto C 14 (by decide) dX6_isScribe_10 ?_
  exact J_zret C hr rfl dX6_isScribe_14 () rfl trivial rfl

set_option maxHeartbeats 4000000 in
set_option maxRecDepth 100000 in
theorem ct_mScrN (l : Launch) (G : GT) (x : Int32) (hx : ¬ (x = 0 ∨ x = 1)) : Ct (S := Unit) l G NoX yX6_isScribe (Wy yX6_isScribe cX6_isScribe 1 ((Option.some Jvm.ClassFile.FieldType.boolean))) { frames := 0, cells := 0, slots := 0, locals := 0 } [.int x] ([]) (fun u => True) (fun u => some (.int 0)) (fun u => []) := by
  refine Ct.of (by decide) (Nat.le_of_ble_eq_true rfl) (fun p e s m args below meth c C hr hnm hX => ?_)
  refine J_iload_n C rfl dX6_isScribe_0 ?_
  refine J_if_eq C 9 (by decide) dX6_isScribe_1 (fun h => absurd h (fun q => hx (Or.inl q))) (fun _ => ?_)
  refine J_iload_n C rfl dX6_isScribe_4 ?_
  refine J_iconst C 1 (by decide) dX6_isScribe_5 ?_
  refine J_icmp_ne C 13 (by decide) dX6_isScribe_6 (fun _ => ?_) (fun h => absurd h (fun q => hx (Or.inr q)))
  refine J_iconst C 0 (by decide) dX6_isScribe_13 ?_
  exact J_zret C hr rfl dX6_isScribe_14 () rfl trivial rfl

set_option maxHeartbeats 4000000 in
set_option maxRecDepth 100000 in
theorem ct_mPlaceN (l : Launch) (G : GT) (mo : Nat → Nat) (σ : AS) (kf tf H sf df xf : Nat → Nat) (hn ik tl sp rd : Nat) (gr : Int32) (x y : Int32) (hI : Inv σ) (hx : ¬ isPl σ x) : Ct (S := Unit) l G NoX yX6_place (Wy yX6_place cX6_place 3 ((Option.some Jvm.ClassFile.FieldType.int))) { frames := 2, cells := 0, slots := 0, locals := 46 } [.ref (mo 0), .int x, .int y] (mdW G mo σ kf tf H sf df xf hn ik tl sp rd gr) (fun u => True) (fun u => some (.int (-1))) (fun u => mdW G mo σ kf tf H sf df xf hn ik tl sp rd gr) := by
  refine Ct.of (by decide) (Nat.le_of_ble_eq_true rfl) (fun p e s m args below meth c C hr hnm hX => ?_)
  have h40 := hI.a
  have hc := hI.c
  have hi := hI.i
  have hs := hI.s
  refine J_aload_n C rfl dX6_place_0 ?_
  refine J_iload_n C rfl dX6_place_1 ?_
  refine J_callV (as := [.int x]) (rest := []) C (ct_isPlN l G mo σ kf tf H sf df xf hn ik tl sp rd gr x (by omega) hx) (fun u => mdW G mo σ kf tf H sf df xf hn ik tl sp rd gr) [0, 1, 2, 3, 4, 5, 6, 7] [] 1 k650 k652 k15 k38 k653 rfl (by decide +kernel) ⟨Nat.le_of_ble_eq_true rfl, Nat.le_of_ble_eq_true rfl⟩ ⟨Nat.le_of_ble_eq_true rfl, Nat.le_of_ble_eq_true rfl⟩ dX6_place_2 (Nat.le_of_ble_eq_true rfl) 0 rfl rfl rfl (by decide +kernel) (fun _ => rfl) ([]) rfl (fun _ => rfl) 8 (fun _ => rfl) (by decide +kernel) (by decide +kernel) (fun _ _ => ?_)
  refine J_st (st' := [.int 0]) rfl ?_
  refine J_if_ne C 10 (by decide) dX6_place_5 (fun h => absurd h (by decide)) (fun _ => ?_)
  refine J_iconst C (-1) (by decide) dX6_place_8 ?_
  exact J_zret C hr rfl dX6_place_9 () rfl trivial rfl

set_option maxHeartbeats 4000000 in
set_option maxRecDepth 100000 in
theorem ct_mPlaceY (l : Launch) (G : GT) (mo : Nat → Nat) (σ : AS) (kf tf H sf df xf : Nat → Nat) (hn ik tl sp rd : Nat) (gr : Int32) (j : Nat) (y : Int32) (hI : Inv σ) (hW : WOK σ) (hj : j < σ 0 4) : Ct (S := Unit) l G NoX yX6_place (Wy yX6_place cX6_place 3 ((Option.some Jvm.ClassFile.FieldType.int))) { frames := 2, cells := 0, slots := 0, locals := 46 } [.ref (mo 0), .int (nI j), .int y] (mdW G mo σ kf tf H sf df xf hn ik tl sp rd gr) (fun u => True) (fun u => some (.int (plF σ j y.toInt))) (fun u => mdW G mo σ kf tf H sf df xf hn ik tl sp rd gr) := by
  refine Ct.of (by decide) (Nat.le_of_ble_eq_true rfl) (fun p e s m args below meth c C hr hnm hX => ?_)
  have h40 := hI.a
  have hc := hI.c
  have hi := hI.i
  have hs := hI.s
  have hq := hI.q (q := j) (by omega)
  have hwj := hW j (by omega)
  have hpl := isPl_nI h40.1 hj
  refine J_aload_n C rfl dX6_place_0 ?_
  refine J_iload_n C rfl dX6_place_1 ?_
  refine J_callV (as := [.int (nI j)]) (rest := []) C (ct_isPlY l G mo σ kf tf H sf df xf hn ik tl sp rd gr (nI j) (by omega) hpl) (fun u => mdW G mo σ kf tf H sf df xf hn ik tl sp rd gr) [0, 1, 2, 3, 4, 5, 6, 7] [] 1 k650 k652 k15 k38 k653 rfl (by decide +kernel) ⟨Nat.le_of_ble_eq_true rfl, Nat.le_of_ble_eq_true rfl⟩ ⟨Nat.le_of_ble_eq_true rfl, Nat.le_of_ble_eq_true rfl⟩ dX6_place_2 (Nat.le_of_ble_eq_true rfl) 0 rfl rfl rfl (by decide +kernel) (fun _ => rfl) ([]) rfl (fun _ => rfl) 8 (fun _ => rfl) (by decide +kernel) (by decide +kernel) (fun _ _ => ?_)
  refine J_st (st' := [.int 1]) rfl ?_
  refine J_if_ne C 10 (by decide) dX6_place_5 (fun _ => ?_) (fun h => absurd h (by decide))
  refine J_iload_n C rfl dX6_place_10 ?_
  by_cases hsw : y.toInt < 0 ∨ 6 < y.toInt
  · skip
    refine J_tableOut C 139 hsw (by decide) dX6_place_11 ?_
    refine J_bipush C (-2) (by decide) dX6_place_139 ?_
    exact J_zret C hr rfl dX6_place_141 () (by rw [show plF σ j y.toInt = -2 from by unfold plF; (repeat' split) <;> first | rfl | omega]) trivial rfl
  · skip
    rcases (show y.toInt = 0 ∨ y.toInt = 1 ∨ y.toInt = 2 ∨ y.toInt = 3 ∨ y.toInt = 4 ∨ y.toInt = 5 ∨ y.toInt = 6 by omega) with hwi | hwi | hwi | hwi | hwi | hwi | hwi
    · skip
      have hw : y = 0 := Int32.toInt_inj.mp (by rw [hwi]; decide)
      refine J_tableIn C 52 (by rw [hw]; decide) (by rw [hw]; decide) (by rw [hw]; rfl) (by decide) dX6_place_11 ?_
      refine J_aload_n C rfl dX6_place_52 ?_
      refine J_iload_n C rfl dX6_place_53 ?_
      refine J_callV (as := [.int (nI j)]) (rest := []) C (ct_due l G mo σ kf tf H sf df xf hn ik tl sp rd gr j (by omega) hj) (fun u => mdW G mo σ kf tf H sf df xf hn ik tl sp rd gr) [0, 1, 2, 3, 4, 5, 6, 7] [] 1 k667 k669 k19 k38 k670 rfl (by decide +kernel) ⟨Nat.le_of_ble_eq_true rfl, Nat.le_of_ble_eq_true rfl⟩ ⟨Nat.le_of_ble_eq_true rfl, Nat.le_of_ble_eq_true rfl⟩ dX6_place_54 (Nat.le_of_ble_eq_true rfl) 0 rfl rfl rfl (by decide +kernel) (fun _ => rfl) ([]) rfl (fun _ => rfl) 8 (fun _ => rfl) (by decide +kernel) (by decide +kernel) (fun _ _ => ?_)
      refine J_st (st' := [.int (nI (dueAt σ j))]) rfl ?_
      exact J_zret C hr rfl dX6_place_57 () (by rw [hwi] <;> rfl) trivial rfl
    · skip
      have hw : y = 1 := Int32.toInt_inj.mp (by rw [hwi]; decide)
      refine J_tableIn C 58 (by rw [hw]; decide) (by rw [hw]; decide) (by rw [hw]; rfl) (by decide) dX6_place_11 ?_
      refine J_aload_n C rfl dX6_place_58 ?_
      refine J_get C 0 0 in6 rfl rfl (by decide) k575 rfl dX6_place_59 ?_
      refine J_bipush C 86 (by decide) dX6_place_62 ?_
      refine J_iload_n C rfl dX6_place_64 ?_
      refine J_iadd C dX6_place_65 ?_
      refine J_i (nI_add 86 j : (86 + (nI j) : Int32) = (nI (86 + j))) ?_
      refine J_iald C 1 rfl (86 + j) rfl (by omega) (Nat.le_of_ble_eq_true rfl) dX6_place_66 ?_
      refine J_i (y := nI (σ 3 j)) (congrArg nI (rowM_3 σ (by omega))) ?_
      exact J_zret C hr rfl dX6_place_67 () (by rw [hwi] <;> rfl) trivial rfl
    · skip
      have hw : y = 2 := Int32.toInt_inj.mp (by rw [hwi]; decide)
      refine J_tableIn C 68 (by rw [hw]; decide) (by rw [hw]; decide) (by rw [hw]; rfl) (by decide) dX6_place_11 ?_
      refine J_aload_n C rfl dX6_place_68 ?_
      refine J_get C 0 0 in6 rfl rfl (by decide) k575 rfl dX6_place_69 ?_
      refine J_bipush C 126 (by decide) dX6_place_72 ?_
      refine J_iload_n C rfl dX6_place_74 ?_
      refine J_iadd C dX6_place_75 ?_
      refine J_i (nI_add 126 j : (126 + (nI j) : Int32) = (nI (126 + j))) ?_
      refine J_iald C 1 rfl (126 + j) rfl (by omega) (Nat.le_of_ble_eq_true rfl) dX6_place_76 ?_
      refine J_i (y := nI (σ 4 j)) (congrArg nI (rowM_4 σ (by omega))) ?_
      exact J_zret C hr rfl dX6_place_77 () (by rw [hwi] <;> rfl) trivial rfl
    · skip
      have hw : y = 3 := Int32.toInt_inj.mp (by rw [hwi]; decide)
      refine J_tableIn C 78 (by rw [hw]; decide) (by rw [hw]; decide) (by rw [hw]; rfl) (by decide) dX6_place_11 ?_
      refine J_aload_n C rfl dX6_place_78 ?_
      refine J_get C 0 0 in6 rfl rfl (by decide) k575 rfl dX6_place_79 ?_
      refine J_sipush C 166 (by decide) dX6_place_82 ?_
      refine J_iload_n C rfl dX6_place_85 ?_
      refine J_iadd C dX6_place_86 ?_
      refine J_i (nI_add 166 j : (166 + (nI j) : Int32) = (nI (166 + j))) ?_
      refine J_iald C 1 rfl (166 + j) rfl (by omega) (Nat.le_of_ble_eq_true rfl) dX6_place_87 ?_
      refine J_i (y := nI (σ 5 j)) (congrArg nI (rowM_5 σ (by omega))) ?_
      exact J_zret C hr rfl dX6_place_88 () (by rw [hwi] <;> rfl) trivial rfl
    · skip
      have hw : y = 4 := Int32.toInt_inj.mp (by rw [hwi]; decide)
      refine J_tableIn C 89 (by rw [hw]; decide) (by rw [hw]; decide) (by rw [hw]; rfl) (by decide) dX6_place_11 ?_
      refine J_aload_n C rfl dX6_place_89 ?_
      refine J_get C 0 0 in6 rfl rfl (by decide) k575 rfl dX6_place_90 ?_
      refine J_bipush C 46 (by decide) dX6_place_93 ?_
      refine J_iload_n C rfl dX6_place_95 ?_
      refine J_iadd C dX6_place_96 ?_
      refine J_i (nI_add 46 j : (46 + (nI j) : Int32) = (nI (46 + j))) ?_
      refine J_iald C 1 rfl (46 + j) rfl (by omega) (Nat.le_of_ble_eq_true rfl) dX6_place_97 ?_
      refine J_i (y := nI (σ 2 j)) (congrArg nI (rowM_2 σ (by omega))) ?_
      exact J_zret C hr rfl dX6_place_98 () (by rw [hwi] <;> rfl) trivial rfl
    · skip
      have hw : y = 5 := Int32.toInt_inj.mp (by rw [hwi]; decide)
      refine J_tableIn C 99 (by rw [hw]; decide) (by rw [hw]; decide) (by rw [hw]; rfl) (by decide) dX6_place_11 ?_
      refine J_aload_n C rfl dX6_place_99 ?_
      refine J_get C 0 0 in6 rfl rfl (by decide) k575 rfl dX6_place_100 ?_
      refine J_iconst C 4 (by decide) dX6_place_103 ?_
      refine J_iald C 1 rfl 4 rfl (by decide) (Nat.le_of_ble_eq_true rfl) dX6_place_104 ?_
      refine J_i (y := nI (σ 0 4)) (rfl) ?_
      refine J_iconst C 1 (by decide) dX6_place_105 ?_
      refine J_isub C dX6_place_106 ?_
      refine J_i (pk_sub (a := σ 0 4) (b := 1) (by omega) : ((nI (σ 0 4)) - 1 : Int32) = (nI (σ 0 4 - 1))) ?_
      refine J_iload_n C rfl dX6_place_107 ?_
      refine J_isub C dX6_place_108 ?_
      refine J_i (pk_sub (a := σ 0 4 - 1) (b := j) (by omega) : ((nI (σ 0 4 - 1)) - (nI j) : Int32) = (nI ((σ 0 4 - 1) - j))) ?_
      exact J_zret C hr rfl dX6_place_109 () (by rw [hwi] <;> rfl) trivial rfl
    · skip
      have hw : y = 6 := Int32.toInt_inj.mp (by rw [hwi]; decide)
      refine J_tableIn C 110 (by rw [hw]; decide) (by rw [hw]; decide) (by rw [hw]; rfl) (by decide) dX6_place_11 ?_
      refine J_aload_n C rfl dX6_place_110 ?_
      refine J_get C 0 0 in6 rfl rfl (by decide) k575 rfl dX6_place_111 ?_
      refine J_sipush C 206 (by decide) dX6_place_114 ?_
      refine J_iload_n C rfl dX6_place_117 ?_
      refine J_iadd C dX6_place_118 ?_
      refine J_i (nI_add 206 j : (206 + (nI j) : Int32) = (nI (206 + j))) ?_
      refine J_iald C 1 rfl (206 + j) rfl (by omega) (Nat.le_of_ble_eq_true rfl) dX6_place_119 ?_
      refine J_i (y := nI (σ 6 j)) (congrArg nI (rowM_6 σ j)) ?_
      refine J_if_ne C 128 (by decide) dX6_place_120 (fun c120 => ?_) (fun c120 => ?_)
      · skip
        have c120 := cv_ne_t (a := (σ 6 j)) (b := 0) (by omega) (by omega) c120
        refine J_aload_n C rfl dX6_place_128 ?_
        refine J_get C 0 0 in6 rfl rfl (by decide) k575 rfl dX6_place_129 ?_
        refine J_sipush C 206 (by decide) dX6_place_132 ?_
        refine J_iload_n C rfl dX6_place_135 ?_
        refine J_iadd C dX6_place_136 ?_
        refine J_i (nI_add 206 j : (206 + (nI j) : Int32) = (nI (206 + j))) ?_
        refine J_iald C 1 rfl (206 + j) rfl (by omega) (Nat.le_of_ble_eq_true rfl) dX6_place_137 ?_
        refine J_i (y := nI (σ 6 j)) (congrArg nI (rowM_6 σ j)) ?_
        exact J_zret C hr rfl dX6_place_138 () (by rw [hwi, show plF σ j 6 = (if 0 < σ 3 j then nI (σ 6 j) else -5) from rfl, if_pos (by omega)]) trivial rfl
      · skip
        have c120 := cv_ne_f (a := (σ 6 j)) (b := 0) (by omega) (by omega) c120
        refine J_bipush C (-5) (by decide) dX6_place_123 ?_
        refine J_goto C 138 (by decide) dX6_place_125 ?_
        exact J_zret C hr rfl dX6_place_138 () (by rw [hwi, show plF σ j 6 = (if 0 < σ 3 j then nI (σ 6 j) else -5) from rfl, if_neg (by omega)]) trivial rfl

set_option maxHeartbeats 4000000 in
set_option maxRecDepth 100000 in
theorem ct_mScribeN (l : Launch) (G : GT) (mo : Nat → Nat) (σ : AS) (kf tf H sf df xf : Nat → Nat) (hn ik tl sp rd : Nat) (gr : Int32) (x y : Int32) (hx : ¬ (x = 0 ∨ x = 1)) : Ct (S := Unit) l G NoX yX6_scribe (Wy yX6_scribe cX6_scribe 3 ((Option.some Jvm.ClassFile.FieldType.int))) { frames := 1, cells := 0, slots := 0, locals := 20 } [.ref (mo 0), .int x, .int y] (mdW G mo σ kf tf H sf df xf hn ik tl sp rd gr) (fun u => True) (fun u => some (.int (-1))) (fun u => mdW G mo σ kf tf H sf df xf hn ik tl sp rd gr) := by
  refine Ct.of (by decide) (Nat.le_of_ble_eq_true rfl) (fun p e s m args below meth c C hr hnm hX => ?_)
  refine J_iload_n C rfl dX6_scribe_0 ?_
  refine J_callS (as := [.int x]) (rest := []) C (ct_mScrN l G x hx) (fun u => mdW G mo σ kf tf H sf df xf hn ik tl sp rd gr) [] [0, 1, 2, 3, 4, 5, 6, 7] 1 k683 k684 k38 k685 rfl (by decide +kernel) ⟨Nat.le_of_ble_eq_true rfl, Nat.le_of_ble_eq_true rfl⟩ ⟨Nat.le_of_ble_eq_true rfl, Nat.le_of_ble_eq_true rfl⟩ dX6_scribe_1 (Nat.le_of_ble_eq_true rfl) rfl (by decide +kernel) (fun _ => rfl) (mdW G mo σ kf tf H sf df xf hn ik tl sp rd gr) rfl (fun _ => rfl) 8 (fun _ => rfl) (by decide +kernel) (by decide +kernel) (fun _ _ => ?_)
  refine J_st (st' := [.int 0]) rfl ?_
  refine J_if_ne C 9 (by decide) dX6_scribe_4 (fun h => absurd h (by decide)) (fun _ => ?_)
  refine J_iconst C (-1) (by decide) dX6_scribe_7 ?_
  exact J_zret C hr rfl dX6_scribe_8 () rfl trivial rfl

set_option maxHeartbeats 4000000 in
set_option maxRecDepth 100000 in
theorem ct_mScribe0 (l : Launch) (G : GT) (mo : Nat → Nat) (σ : AS) (kf tf H sf df xf : Nat → Nat) (hn ik tl sp rd : Nat) (gr : Int32) (y : Int32) (hI : Inv σ) : Ct (S := Unit) l G NoX yX6_scribe (Wy yX6_scribe cX6_scribe 3 ((Option.some Jvm.ClassFile.FieldType.int))) { frames := 1, cells := 0, slots := 0, locals := 25 } [.ref (mo 0), .int 0, .int y] (mdW G mo σ kf tf H sf df xf hn ik tl sp rd gr) (fun u => True) (fun u => some (.int (scrF σ 0 y.toInt))) (fun u => mdW G mo σ kf tf H sf df xf hn ik tl sp rd gr) := by
  refine Ct.of (by decide) (Nat.le_of_ble_eq_true rfl) (fun p e s m args below meth c C hr hnm hX => ?_)
  have h40 := hI.a
  have hc := hI.c
  have hi := hI.i
  have hs := hI.s
  refine J_iload_n C rfl dX6_scribe_0 ?_
  refine J_callS (as := [.int 0]) (rest := []) C (ct_mScr0 l G ) (fun u => mdW G mo σ kf tf H sf df xf hn ik tl sp rd gr) [] [0, 1, 2, 3, 4, 5, 6, 7] 1 k683 k684 k38 k685 rfl (by decide +kernel) ⟨Nat.le_of_ble_eq_true rfl, Nat.le_of_ble_eq_true rfl⟩ ⟨Nat.le_of_ble_eq_true rfl, Nat.le_of_ble_eq_true rfl⟩ dX6_scribe_1 (Nat.le_of_ble_eq_true rfl) rfl (by decide +kernel) (fun _ => rfl) (mdW G mo σ kf tf H sf df xf hn ik tl sp rd gr) rfl (fun _ => rfl) 8 (fun _ => rfl) (by decide +kernel) (by decide +kernel) (fun _ _ => ?_)
  refine J_st (st' := [.int 1]) rfl ?_
  refine J_if_ne C 9 (by decide) dX6_scribe_4 (fun _ => ?_) (fun h => absurd h (by decide))
  rcases (show (y.toInt < 0 ∨ 6 < y.toInt) ∨ y.toInt = 0 ∨ y.toInt = 1 ∨ y.toInt = 2 ∨ y.toInt = 3 ∨ y.toInt = 4 ∨ y.toInt = 5 ∨ y.toInt = 6 by omega) with hsw | hwi | hwi | hwi | hwi | hwi | hwi | hwi
  · skip
    refine J_iload_n C rfl dX6_scribe_9 ?_
    refine J_iconst C 2 (by decide) dX6_scribe_10 ?_
    refine J_icmp_ne C 20 (by decide) dX6_scribe_11 (fun _ => ?_) (fun h => absurd h (fun q => by rw [q] at hsw; exact absurd hsw (by decide)))
    refine J_iload_n C rfl dX6_scribe_20 ?_
    refine J_i2l C dX6_scribe_21 ?_
    refine J_lconst C 0 (by decide) dX6_scribe_22 ?_
    refine J_ldc2 C k753 dX6_scribe_23 ?_
    refine J_callS (as := [.long y.toInt64, .long 0, .long 6]) (rest := []) C (ct_inN l G y.toInt64 0 6 (fun q => absurd ((in32 (zl := 0) (zh := 6) rfl rfl).mp q) (by omega))) (fun u => mdW G mo σ kf tf H sf df xf hn ik tl sp rd gr) [] [0, 1, 2, 3, 4, 5, 6, 7] 3 k627 k628 k38 k629 rfl (by decide +kernel) ⟨Nat.le_of_ble_eq_true rfl, Nat.le_of_ble_eq_true rfl⟩ ⟨Nat.le_of_ble_eq_true rfl, Nat.le_of_ble_eq_true rfl⟩ dX6_scribe_26 (Nat.le_of_ble_eq_true rfl) rfl (by decide +kernel) (fun _ => rfl) (mdW G mo σ kf tf H sf df xf hn ik tl sp rd gr) rfl (fun _ => rfl) 8 (fun _ => rfl) (by decide +kernel) (by decide +kernel) (fun _ _ => ?_)
    refine J_st (st' := [.int 0]) rfl ?_
    refine J_if_ne C 35 (by decide) dX6_scribe_29 (fun h => absurd h (by decide)) (fun _ => ?_)
    refine J_bipush C (-2) (by decide) dX6_scribe_32 ?_
    exact J_zret C hr rfl dX6_scribe_34 () (by rw [show scrF σ 0 y.toInt = -2 from by unfold scrF; (repeat' split) <;> first | rfl | omega]) trivial rfl
  · skip
    have hw : y = 0 := Int32.toInt_inj.mp (by rw [hwi]; decide)
    subst hw
    refine J_iload_n C rfl dX6_scribe_9 ?_
    refine J_iconst C 2 (by decide) dX6_scribe_10 ?_
    refine J_icmp_ne C 20 (by decide) dX6_scribe_11 (fun _ => ?_) (fun h => absurd h (by decide))
    refine J_iload_n C rfl dX6_scribe_20 ?_
    refine J_i2l C dX6_scribe_21 ?_
    refine J_lconst C 0 (by decide) dX6_scribe_22 ?_
    refine J_ldc2 C k753 dX6_scribe_23 ?_
    refine J_callS (as := [.long ((0 : Int32).toInt64), .long 0, .long 6]) (rest := []) C (ct_inY l G ((0 : Int32).toInt64) 0 6 ((in32 (zl := 0) (zh := 6) rfl rfl).mpr (by decide))) (fun u => mdW G mo σ kf tf H sf df xf hn ik tl sp rd gr) [] [0, 1, 2, 3, 4, 5, 6, 7] 3 k627 k628 k38 k629 rfl (by decide +kernel) ⟨Nat.le_of_ble_eq_true rfl, Nat.le_of_ble_eq_true rfl⟩ ⟨Nat.le_of_ble_eq_true rfl, Nat.le_of_ble_eq_true rfl⟩ dX6_scribe_26 (Nat.le_of_ble_eq_true rfl) rfl (by decide +kernel) (fun _ => rfl) (mdW G mo σ kf tf H sf df xf hn ik tl sp rd gr) rfl (fun _ => rfl) 8 (fun _ => rfl) (by decide +kernel) (by decide +kernel) (fun _ _ => ?_)
    refine J_st (st' := [.int 1]) rfl ?_
    refine J_if_ne C 35 (by decide) dX6_scribe_29 (fun _ => ?_) (fun h => absurd h (by decide))
    refine J_aload_n C rfl dX6_scribe_35 ?_
    refine J_get C 0 0 in6 rfl rfl (by decide) k575 rfl dX6_scribe_36 ?_
    refine J_bipush C 12 (by decide) dX6_scribe_39 ?_
    refine J_iconst C 2 (by decide) dX6_scribe_41 ?_
    refine J_iload_n C rfl dX6_scribe_42 ?_
    refine J_iconst C 2 (by decide) dX6_scribe_43 ?_
    refine J_icmp_ge C 51 (by decide) dX6_scribe_44 (fun h => absurd h (by decide)) (fun _ => ?_)
    refine J_iload_n C rfl dX6_scribe_47 ?_
    refine J_goto C 54 (by decide) dX6_scribe_48 ?_
    refine J_imul C dX6_scribe_54 ?_
    refine J_i ((by decide) : (2 * 0 : Int32) = 0) ?_
    refine J_iadd C dX6_scribe_55 ?_
    refine J_i ((by decide) : (12 + 0 : Int32) = 12) ?_
    refine J_iload_n C rfl dX6_scribe_56 ?_
    refine J_iadd C dX6_scribe_57 ?_
    refine J_i ((by decide) : (12 + 0 : Int32) = 12) ?_
    refine J_iald C 1 rfl 12 rfl (by decide) (Nat.le_of_ble_eq_true rfl) dX6_scribe_58 ?_
    refine J_i (y := nI (σ 0 12)) (rfl) ?_
    exact J_zret C hr rfl dX6_scribe_59 () (by rw [hwi] <;> rfl) trivial rfl
  · skip
    have hw : y = 1 := Int32.toInt_inj.mp (by rw [hwi]; decide)
    subst hw
    refine J_iload_n C rfl dX6_scribe_9 ?_
    refine J_iconst C 2 (by decide) dX6_scribe_10 ?_
    refine J_icmp_ne C 20 (by decide) dX6_scribe_11 (fun _ => ?_) (fun h => absurd h (by decide))
    refine J_iload_n C rfl dX6_scribe_20 ?_
    refine J_i2l C dX6_scribe_21 ?_
    refine J_lconst C 0 (by decide) dX6_scribe_22 ?_
    refine J_ldc2 C k753 dX6_scribe_23 ?_
    refine J_callS (as := [.long ((1 : Int32).toInt64), .long 0, .long 6]) (rest := []) C (ct_inY l G ((1 : Int32).toInt64) 0 6 ((in32 (zl := 0) (zh := 6) rfl rfl).mpr (by decide))) (fun u => mdW G mo σ kf tf H sf df xf hn ik tl sp rd gr) [] [0, 1, 2, 3, 4, 5, 6, 7] 3 k627 k628 k38 k629 rfl (by decide +kernel) ⟨Nat.le_of_ble_eq_true rfl, Nat.le_of_ble_eq_true rfl⟩ ⟨Nat.le_of_ble_eq_true rfl, Nat.le_of_ble_eq_true rfl⟩ dX6_scribe_26 (Nat.le_of_ble_eq_true rfl) rfl (by decide +kernel) (fun _ => rfl) (mdW G mo σ kf tf H sf df xf hn ik tl sp rd gr) rfl (fun _ => rfl) 8 (fun _ => rfl) (by decide +kernel) (by decide +kernel) (fun _ _ => ?_)
    refine J_st (st' := [.int 1]) rfl ?_
    refine J_if_ne C 35 (by decide) dX6_scribe_29 (fun _ => ?_) (fun h => absurd h (by decide))
    refine J_aload_n C rfl dX6_scribe_35 ?_
    refine J_get C 0 0 in6 rfl rfl (by decide) k575 rfl dX6_scribe_36 ?_
    refine J_bipush C 12 (by decide) dX6_scribe_39 ?_
    refine J_iconst C 2 (by decide) dX6_scribe_41 ?_
    refine J_iload_n C rfl dX6_scribe_42 ?_
    refine J_iconst C 2 (by decide) dX6_scribe_43 ?_
    refine J_icmp_ge C 51 (by decide) dX6_scribe_44 (fun h => absurd h (by decide)) (fun _ => ?_)
    refine J_iload_n C rfl dX6_scribe_47 ?_
    refine J_goto C 54 (by decide) dX6_scribe_48 ?_
    refine J_imul C dX6_scribe_54 ?_
    refine J_i ((by decide) : (2 * 1 : Int32) = 2) ?_
    refine J_iadd C dX6_scribe_55 ?_
    refine J_i ((by decide) : (12 + 2 : Int32) = 14) ?_
    refine J_iload_n C rfl dX6_scribe_56 ?_
    refine J_iadd C dX6_scribe_57 ?_
    refine J_i ((by decide) : (14 + 0 : Int32) = 14) ?_
    refine J_iald C 1 rfl 14 rfl (by decide) (Nat.le_of_ble_eq_true rfl) dX6_scribe_58 ?_
    refine J_i (y := nI (σ 0 14)) (rfl) ?_
    exact J_zret C hr rfl dX6_scribe_59 () (by rw [hwi] <;> rfl) trivial rfl
  · skip
    have hw : y = 2 := Int32.toInt_inj.mp (by rw [hwi]; decide)
    subst hw
    refine J_iload_n C rfl dX6_scribe_9 ?_
    refine J_iconst C 2 (by decide) dX6_scribe_10 ?_
    refine J_icmp_ne C 20 (by decide) dX6_scribe_11 (fun h => absurd h (by decide)) (fun _ => ?_)
    refine J_aload_n C rfl dX6_scribe_14 ?_
    refine J_iload_n C rfl dX6_scribe_15 ?_
    rcases Nat.lt_or_ge (2 * σ 0 14) (σ 0 4) with hf | hf
    · skip
      refine J_callV (as := [.int 0]) (rest := []) C (ct_mNext0P l G mo σ kf tf H sf df xf hn ik tl sp rd gr (by omega) h40.2.1 hf) (fun u => mdW G mo σ kf tf H sf df xf hn ik tl sp rd gr) [0, 1, 2, 3, 4, 5, 6, 7] [] 1 k659 k661 k17 k38 k662 rfl (by decide +kernel) ⟨Nat.le_of_ble_eq_true rfl, Nat.le_of_ble_eq_true rfl⟩ ⟨Nat.le_of_ble_eq_true rfl, Nat.le_of_ble_eq_true rfl⟩ dX6_scribe_16 (Nat.le_of_ble_eq_true rfl) 0 rfl rfl rfl (by decide +kernel) (fun _ => rfl) ([]) rfl (fun _ => rfl) 8 (fun _ => rfl) (by decide +kernel) (by decide +kernel) (fun _ _ => ?_)
      refine J_st (st' := [.int (nI (σ 0 14))]) rfl ?_
      exact J_zret C hr rfl dX6_scribe_19 () (by rw [hwi, show scrF σ 0 2 = nxP σ 0 from rfl, show nxP σ 0 = nI (σ 0 14) from if_neg (by show ¬ σ 0 4 ≤ 2 * σ 0 14; omega)] <;> rfl) trivial rfl
    · skip
      refine J_callV (as := [.int 0]) (rest := []) C (ct_mNext0N l G mo σ kf tf H sf df xf hn ik tl sp rd gr (by omega) h40.2.1 hf (by omega)) (fun u => mdW G mo σ kf tf H sf df xf hn ik tl sp rd gr) [0, 1, 2, 3, 4, 5, 6, 7] [] 1 k659 k661 k17 k38 k662 rfl (by decide +kernel) ⟨Nat.le_of_ble_eq_true rfl, Nat.le_of_ble_eq_true rfl⟩ ⟨Nat.le_of_ble_eq_true rfl, Nat.le_of_ble_eq_true rfl⟩ dX6_scribe_16 (Nat.le_of_ble_eq_true rfl) 0 rfl rfl rfl (by decide +kernel) (fun _ => rfl) ([]) rfl (fun _ => rfl) 8 (fun _ => rfl) (by decide +kernel) (by decide +kernel) (fun _ _ => ?_)
      refine J_st (st' := [.int (-5)]) rfl ?_
      exact J_zret C hr rfl dX6_scribe_19 () (by rw [hwi, show scrF σ 0 2 = nxP σ 0 from rfl, show nxP σ 0 = (-5) from if_pos (by show σ 0 4 ≤ 2 * σ 0 14; omega)] <;> rfl) trivial rfl
  · skip
    have hw : y = 3 := Int32.toInt_inj.mp (by rw [hwi]; decide)
    subst hw
    refine J_iload_n C rfl dX6_scribe_9 ?_
    refine J_iconst C 2 (by decide) dX6_scribe_10 ?_
    refine J_icmp_ne C 20 (by decide) dX6_scribe_11 (fun _ => ?_) (fun h => absurd h (by decide))
    refine J_iload_n C rfl dX6_scribe_20 ?_
    refine J_i2l C dX6_scribe_21 ?_
    refine J_lconst C 0 (by decide) dX6_scribe_22 ?_
    refine J_ldc2 C k753 dX6_scribe_23 ?_
    refine J_callS (as := [.long ((3 : Int32).toInt64), .long 0, .long 6]) (rest := []) C (ct_inY l G ((3 : Int32).toInt64) 0 6 ((in32 (zl := 0) (zh := 6) rfl rfl).mpr (by decide))) (fun u => mdW G mo σ kf tf H sf df xf hn ik tl sp rd gr) [] [0, 1, 2, 3, 4, 5, 6, 7] 3 k627 k628 k38 k629 rfl (by decide +kernel) ⟨Nat.le_of_ble_eq_true rfl, Nat.le_of_ble_eq_true rfl⟩ ⟨Nat.le_of_ble_eq_true rfl, Nat.le_of_ble_eq_true rfl⟩ dX6_scribe_26 (Nat.le_of_ble_eq_true rfl) rfl (by decide +kernel) (fun _ => rfl) (mdW G mo σ kf tf H sf df xf hn ik tl sp rd gr) rfl (fun _ => rfl) 8 (fun _ => rfl) (by decide +kernel) (by decide +kernel) (fun _ _ => ?_)
    refine J_st (st' := [.int 1]) rfl ?_
    refine J_if_ne C 35 (by decide) dX6_scribe_29 (fun _ => ?_) (fun h => absurd h (by decide))
    refine J_aload_n C rfl dX6_scribe_35 ?_
    refine J_get C 0 0 in6 rfl rfl (by decide) k575 rfl dX6_scribe_36 ?_
    refine J_bipush C 12 (by decide) dX6_scribe_39 ?_
    refine J_iconst C 2 (by decide) dX6_scribe_41 ?_
    refine J_iload_n C rfl dX6_scribe_42 ?_
    refine J_iconst C 2 (by decide) dX6_scribe_43 ?_
    refine J_icmp_ge C 51 (by decide) dX6_scribe_44 (fun _ => ?_) (fun h => absurd h (by decide))
    refine J_iload_n C rfl dX6_scribe_51 ?_
    refine J_iconst C 1 (by decide) dX6_scribe_52 ?_
    refine J_isub C dX6_scribe_53 ?_
    refine J_i ((by decide) : (3 - 1 : Int32) = 2) ?_
    refine J_imul C dX6_scribe_54 ?_
    refine J_i ((by decide) : (2 * 2 : Int32) = 4) ?_
    refine J_iadd C dX6_scribe_55 ?_
    refine J_i ((by decide) : (12 + 4 : Int32) = 16) ?_
    refine J_iload_n C rfl dX6_scribe_56 ?_
    refine J_iadd C dX6_scribe_57 ?_
    refine J_i ((by decide) : (16 + 0 : Int32) = 16) ?_
    refine J_iald C 1 rfl 16 rfl (by decide) (Nat.le_of_ble_eq_true rfl) dX6_scribe_58 ?_
    refine J_i (y := nI (σ 0 16)) (rfl) ?_
    exact J_zret C hr rfl dX6_scribe_59 () (by rw [hwi] <;> rfl) trivial rfl
  · skip
    have hw : y = 4 := Int32.toInt_inj.mp (by rw [hwi]; decide)
    subst hw
    refine J_iload_n C rfl dX6_scribe_9 ?_
    refine J_iconst C 2 (by decide) dX6_scribe_10 ?_
    refine J_icmp_ne C 20 (by decide) dX6_scribe_11 (fun _ => ?_) (fun h => absurd h (by decide))
    refine J_iload_n C rfl dX6_scribe_20 ?_
    refine J_i2l C dX6_scribe_21 ?_
    refine J_lconst C 0 (by decide) dX6_scribe_22 ?_
    refine J_ldc2 C k753 dX6_scribe_23 ?_
    refine J_callS (as := [.long ((4 : Int32).toInt64), .long 0, .long 6]) (rest := []) C (ct_inY l G ((4 : Int32).toInt64) 0 6 ((in32 (zl := 0) (zh := 6) rfl rfl).mpr (by decide))) (fun u => mdW G mo σ kf tf H sf df xf hn ik tl sp rd gr) [] [0, 1, 2, 3, 4, 5, 6, 7] 3 k627 k628 k38 k629 rfl (by decide +kernel) ⟨Nat.le_of_ble_eq_true rfl, Nat.le_of_ble_eq_true rfl⟩ ⟨Nat.le_of_ble_eq_true rfl, Nat.le_of_ble_eq_true rfl⟩ dX6_scribe_26 (Nat.le_of_ble_eq_true rfl) rfl (by decide +kernel) (fun _ => rfl) (mdW G mo σ kf tf H sf df xf hn ik tl sp rd gr) rfl (fun _ => rfl) 8 (fun _ => rfl) (by decide +kernel) (by decide +kernel) (fun _ _ => ?_)
    refine J_st (st' := [.int 1]) rfl ?_
    refine J_if_ne C 35 (by decide) dX6_scribe_29 (fun _ => ?_) (fun h => absurd h (by decide))
    refine J_aload_n C rfl dX6_scribe_35 ?_
    refine J_get C 0 0 in6 rfl rfl (by decide) k575 rfl dX6_scribe_36 ?_
    refine J_bipush C 12 (by decide) dX6_scribe_39 ?_
    refine J_iconst C 2 (by decide) dX6_scribe_41 ?_
    refine J_iload_n C rfl dX6_scribe_42 ?_
    refine J_iconst C 2 (by decide) dX6_scribe_43 ?_
    refine J_icmp_ge C 51 (by decide) dX6_scribe_44 (fun _ => ?_) (fun h => absurd h (by decide))
    refine J_iload_n C rfl dX6_scribe_51 ?_
    refine J_iconst C 1 (by decide) dX6_scribe_52 ?_
    refine J_isub C dX6_scribe_53 ?_
    refine J_i ((by decide) : (4 - 1 : Int32) = 3) ?_
    refine J_imul C dX6_scribe_54 ?_
    refine J_i ((by decide) : (2 * 3 : Int32) = 6) ?_
    refine J_iadd C dX6_scribe_55 ?_
    refine J_i ((by decide) : (12 + 6 : Int32) = 18) ?_
    refine J_iload_n C rfl dX6_scribe_56 ?_
    refine J_iadd C dX6_scribe_57 ?_
    refine J_i ((by decide) : (18 + 0 : Int32) = 18) ?_
    refine J_iald C 1 rfl 18 rfl (by decide) (Nat.le_of_ble_eq_true rfl) dX6_scribe_58 ?_
    refine J_i (y := nI (σ 0 18)) (rfl) ?_
    exact J_zret C hr rfl dX6_scribe_59 () (by rw [hwi] <;> rfl) trivial rfl
  · skip
    have hw : y = 5 := Int32.toInt_inj.mp (by rw [hwi]; decide)
    subst hw
    refine J_iload_n C rfl dX6_scribe_9 ?_
    refine J_iconst C 2 (by decide) dX6_scribe_10 ?_
    refine J_icmp_ne C 20 (by decide) dX6_scribe_11 (fun _ => ?_) (fun h => absurd h (by decide))
    refine J_iload_n C rfl dX6_scribe_20 ?_
    refine J_i2l C dX6_scribe_21 ?_
    refine J_lconst C 0 (by decide) dX6_scribe_22 ?_
    refine J_ldc2 C k753 dX6_scribe_23 ?_
    refine J_callS (as := [.long ((5 : Int32).toInt64), .long 0, .long 6]) (rest := []) C (ct_inY l G ((5 : Int32).toInt64) 0 6 ((in32 (zl := 0) (zh := 6) rfl rfl).mpr (by decide))) (fun u => mdW G mo σ kf tf H sf df xf hn ik tl sp rd gr) [] [0, 1, 2, 3, 4, 5, 6, 7] 3 k627 k628 k38 k629 rfl (by decide +kernel) ⟨Nat.le_of_ble_eq_true rfl, Nat.le_of_ble_eq_true rfl⟩ ⟨Nat.le_of_ble_eq_true rfl, Nat.le_of_ble_eq_true rfl⟩ dX6_scribe_26 (Nat.le_of_ble_eq_true rfl) rfl (by decide +kernel) (fun _ => rfl) (mdW G mo σ kf tf H sf df xf hn ik tl sp rd gr) rfl (fun _ => rfl) 8 (fun _ => rfl) (by decide +kernel) (by decide +kernel) (fun _ _ => ?_)
    refine J_st (st' := [.int 1]) rfl ?_
    refine J_if_ne C 35 (by decide) dX6_scribe_29 (fun _ => ?_) (fun h => absurd h (by decide))
    refine J_aload_n C rfl dX6_scribe_35 ?_
    refine J_get C 0 0 in6 rfl rfl (by decide) k575 rfl dX6_scribe_36 ?_
    refine J_bipush C 12 (by decide) dX6_scribe_39 ?_
    refine J_iconst C 2 (by decide) dX6_scribe_41 ?_
    refine J_iload_n C rfl dX6_scribe_42 ?_
    refine J_iconst C 2 (by decide) dX6_scribe_43 ?_
    refine J_icmp_ge C 51 (by decide) dX6_scribe_44 (fun _ => ?_) (fun h => absurd h (by decide))
    refine J_iload_n C rfl dX6_scribe_51 ?_
    refine J_iconst C 1 (by decide) dX6_scribe_52 ?_
    refine J_isub C dX6_scribe_53 ?_
    refine J_i ((by decide) : (5 - 1 : Int32) = 4) ?_
    refine J_imul C dX6_scribe_54 ?_
    refine J_i ((by decide) : (2 * 4 : Int32) = 8) ?_
    refine J_iadd C dX6_scribe_55 ?_
    refine J_i ((by decide) : (12 + 8 : Int32) = 20) ?_
    refine J_iload_n C rfl dX6_scribe_56 ?_
    refine J_iadd C dX6_scribe_57 ?_
    refine J_i ((by decide) : (20 + 0 : Int32) = 20) ?_
    refine J_iald C 1 rfl 20 rfl (by decide) (Nat.le_of_ble_eq_true rfl) dX6_scribe_58 ?_
    refine J_i (y := nI (σ 0 20)) (rfl) ?_
    exact J_zret C hr rfl dX6_scribe_59 () (by rw [hwi] <;> rfl) trivial rfl
  · skip
    have hw : y = 6 := Int32.toInt_inj.mp (by rw [hwi]; decide)
    subst hw
    refine J_iload_n C rfl dX6_scribe_9 ?_
    refine J_iconst C 2 (by decide) dX6_scribe_10 ?_
    refine J_icmp_ne C 20 (by decide) dX6_scribe_11 (fun _ => ?_) (fun h => absurd h (by decide))
    refine J_iload_n C rfl dX6_scribe_20 ?_
    refine J_i2l C dX6_scribe_21 ?_
    refine J_lconst C 0 (by decide) dX6_scribe_22 ?_
    refine J_ldc2 C k753 dX6_scribe_23 ?_
    refine J_callS (as := [.long ((6 : Int32).toInt64), .long 0, .long 6]) (rest := []) C (ct_inY l G ((6 : Int32).toInt64) 0 6 ((in32 (zl := 0) (zh := 6) rfl rfl).mpr (by decide))) (fun u => mdW G mo σ kf tf H sf df xf hn ik tl sp rd gr) [] [0, 1, 2, 3, 4, 5, 6, 7] 3 k627 k628 k38 k629 rfl (by decide +kernel) ⟨Nat.le_of_ble_eq_true rfl, Nat.le_of_ble_eq_true rfl⟩ ⟨Nat.le_of_ble_eq_true rfl, Nat.le_of_ble_eq_true rfl⟩ dX6_scribe_26 (Nat.le_of_ble_eq_true rfl) rfl (by decide +kernel) (fun _ => rfl) (mdW G mo σ kf tf H sf df xf hn ik tl sp rd gr) rfl (fun _ => rfl) 8 (fun _ => rfl) (by decide +kernel) (by decide +kernel) (fun _ _ => ?_)
    refine J_st (st' := [.int 1]) rfl ?_
    refine J_if_ne C 35 (by decide) dX6_scribe_29 (fun _ => ?_) (fun h => absurd h (by decide))
    refine J_aload_n C rfl dX6_scribe_35 ?_
    refine J_get C 0 0 in6 rfl rfl (by decide) k575 rfl dX6_scribe_36 ?_
    refine J_bipush C 12 (by decide) dX6_scribe_39 ?_
    refine J_iconst C 2 (by decide) dX6_scribe_41 ?_
    refine J_iload_n C rfl dX6_scribe_42 ?_
    refine J_iconst C 2 (by decide) dX6_scribe_43 ?_
    refine J_icmp_ge C 51 (by decide) dX6_scribe_44 (fun _ => ?_) (fun h => absurd h (by decide))
    refine J_iload_n C rfl dX6_scribe_51 ?_
    refine J_iconst C 1 (by decide) dX6_scribe_52 ?_
    refine J_isub C dX6_scribe_53 ?_
    refine J_i ((by decide) : (6 - 1 : Int32) = 5) ?_
    refine J_imul C dX6_scribe_54 ?_
    refine J_i ((by decide) : (2 * 5 : Int32) = 10) ?_
    refine J_iadd C dX6_scribe_55 ?_
    refine J_i ((by decide) : (12 + 10 : Int32) = 22) ?_
    refine J_iload_n C rfl dX6_scribe_56 ?_
    refine J_iadd C dX6_scribe_57 ?_
    refine J_i ((by decide) : (22 + 0 : Int32) = 22) ?_
    refine J_iald C 1 rfl 22 rfl (by decide) (Nat.le_of_ble_eq_true rfl) dX6_scribe_58 ?_
    refine J_i (y := nI (σ 0 22)) (rfl) ?_
    exact J_zret C hr rfl dX6_scribe_59 () (by rw [hwi] <;> rfl) trivial rfl

set_option maxHeartbeats 4000000 in
set_option maxRecDepth 100000 in
theorem ct_mScribe1 (l : Launch) (G : GT) (mo : Nat → Nat) (σ : AS) (kf tf H sf df xf : Nat → Nat) (hn ik tl sp rd : Nat) (gr : Int32) (y : Int32) (hI : Inv σ) : Ct (S := Unit) l G NoX yX6_scribe (Wy yX6_scribe cX6_scribe 3 ((Option.some Jvm.ClassFile.FieldType.int))) { frames := 1, cells := 0, slots := 0, locals := 25 } [.ref (mo 0), .int 1, .int y] (mdW G mo σ kf tf H sf df xf hn ik tl sp rd gr) (fun u => True) (fun u => some (.int (scrF σ 1 y.toInt))) (fun u => mdW G mo σ kf tf H sf df xf hn ik tl sp rd gr) := by
  refine Ct.of (by decide) (Nat.le_of_ble_eq_true rfl) (fun p e s m args below meth c C hr hnm hX => ?_)
  have h40 := hI.a
  have hc := hI.c
  have hi := hI.i
  have hs := hI.s
  refine J_iload_n C rfl dX6_scribe_0 ?_
  refine J_callS (as := [.int 1]) (rest := []) C (ct_mScr1 l G ) (fun u => mdW G mo σ kf tf H sf df xf hn ik tl sp rd gr) [] [0, 1, 2, 3, 4, 5, 6, 7] 1 k683 k684 k38 k685 rfl (by decide +kernel) ⟨Nat.le_of_ble_eq_true rfl, Nat.le_of_ble_eq_true rfl⟩ ⟨Nat.le_of_ble_eq_true rfl, Nat.le_of_ble_eq_true rfl⟩ dX6_scribe_1 (Nat.le_of_ble_eq_true rfl) rfl (by decide +kernel) (fun _ => rfl) (mdW G mo σ kf tf H sf df xf hn ik tl sp rd gr) rfl (fun _ => rfl) 8 (fun _ => rfl) (by decide +kernel) (by decide +kernel) (fun _ _ => ?_)
  refine J_st (st' := [.int 1]) rfl ?_
  refine J_if_ne C 9 (by decide) dX6_scribe_4 (fun _ => ?_) (fun h => absurd h (by decide))
  rcases (show (y.toInt < 0 ∨ 6 < y.toInt) ∨ y.toInt = 0 ∨ y.toInt = 1 ∨ y.toInt = 2 ∨ y.toInt = 3 ∨ y.toInt = 4 ∨ y.toInt = 5 ∨ y.toInt = 6 by omega) with hsw | hwi | hwi | hwi | hwi | hwi | hwi | hwi
  · skip
    refine J_iload_n C rfl dX6_scribe_9 ?_
    refine J_iconst C 2 (by decide) dX6_scribe_10 ?_
    refine J_icmp_ne C 20 (by decide) dX6_scribe_11 (fun _ => ?_) (fun h => absurd h (fun q => by rw [q] at hsw; exact absurd hsw (by decide)))
    refine J_iload_n C rfl dX6_scribe_20 ?_
    refine J_i2l C dX6_scribe_21 ?_
    refine J_lconst C 0 (by decide) dX6_scribe_22 ?_
    refine J_ldc2 C k753 dX6_scribe_23 ?_
    refine J_callS (as := [.long y.toInt64, .long 0, .long 6]) (rest := []) C (ct_inN l G y.toInt64 0 6 (fun q => absurd ((in32 (zl := 0) (zh := 6) rfl rfl).mp q) (by omega))) (fun u => mdW G mo σ kf tf H sf df xf hn ik tl sp rd gr) [] [0, 1, 2, 3, 4, 5, 6, 7] 3 k627 k628 k38 k629 rfl (by decide +kernel) ⟨Nat.le_of_ble_eq_true rfl, Nat.le_of_ble_eq_true rfl⟩ ⟨Nat.le_of_ble_eq_true rfl, Nat.le_of_ble_eq_true rfl⟩ dX6_scribe_26 (Nat.le_of_ble_eq_true rfl) rfl (by decide +kernel) (fun _ => rfl) (mdW G mo σ kf tf H sf df xf hn ik tl sp rd gr) rfl (fun _ => rfl) 8 (fun _ => rfl) (by decide +kernel) (by decide +kernel) (fun _ _ => ?_)
    refine J_st (st' := [.int 0]) rfl ?_
    refine J_if_ne C 35 (by decide) dX6_scribe_29 (fun h => absurd h (by decide)) (fun _ => ?_)
    refine J_bipush C (-2) (by decide) dX6_scribe_32 ?_
    exact J_zret C hr rfl dX6_scribe_34 () (by rw [show scrF σ 1 y.toInt = -2 from by unfold scrF; (repeat' split) <;> first | rfl | omega]) trivial rfl
  · skip
    have hw : y = 0 := Int32.toInt_inj.mp (by rw [hwi]; decide)
    subst hw
    refine J_iload_n C rfl dX6_scribe_9 ?_
    refine J_iconst C 2 (by decide) dX6_scribe_10 ?_
    refine J_icmp_ne C 20 (by decide) dX6_scribe_11 (fun _ => ?_) (fun h => absurd h (by decide))
    refine J_iload_n C rfl dX6_scribe_20 ?_
    refine J_i2l C dX6_scribe_21 ?_
    refine J_lconst C 0 (by decide) dX6_scribe_22 ?_
    refine J_ldc2 C k753 dX6_scribe_23 ?_
    refine J_callS (as := [.long ((0 : Int32).toInt64), .long 0, .long 6]) (rest := []) C (ct_inY l G ((0 : Int32).toInt64) 0 6 ((in32 (zl := 0) (zh := 6) rfl rfl).mpr (by decide))) (fun u => mdW G mo σ kf tf H sf df xf hn ik tl sp rd gr) [] [0, 1, 2, 3, 4, 5, 6, 7] 3 k627 k628 k38 k629 rfl (by decide +kernel) ⟨Nat.le_of_ble_eq_true rfl, Nat.le_of_ble_eq_true rfl⟩ ⟨Nat.le_of_ble_eq_true rfl, Nat.le_of_ble_eq_true rfl⟩ dX6_scribe_26 (Nat.le_of_ble_eq_true rfl) rfl (by decide +kernel) (fun _ => rfl) (mdW G mo σ kf tf H sf df xf hn ik tl sp rd gr) rfl (fun _ => rfl) 8 (fun _ => rfl) (by decide +kernel) (by decide +kernel) (fun _ _ => ?_)
    refine J_st (st' := [.int 1]) rfl ?_
    refine J_if_ne C 35 (by decide) dX6_scribe_29 (fun _ => ?_) (fun h => absurd h (by decide))
    refine J_aload_n C rfl dX6_scribe_35 ?_
    refine J_get C 0 0 in6 rfl rfl (by decide) k575 rfl dX6_scribe_36 ?_
    refine J_bipush C 12 (by decide) dX6_scribe_39 ?_
    refine J_iconst C 2 (by decide) dX6_scribe_41 ?_
    refine J_iload_n C rfl dX6_scribe_42 ?_
    refine J_iconst C 2 (by decide) dX6_scribe_43 ?_
    refine J_icmp_ge C 51 (by decide) dX6_scribe_44 (fun h => absurd h (by decide)) (fun _ => ?_)
    refine J_iload_n C rfl dX6_scribe_47 ?_
    refine J_goto C 54 (by decide) dX6_scribe_48 ?_
    refine J_imul C dX6_scribe_54 ?_
    refine J_i ((by decide) : (2 * 0 : Int32) = 0) ?_
    refine J_iadd C dX6_scribe_55 ?_
    refine J_i ((by decide) : (12 + 0 : Int32) = 12) ?_
    refine J_iload_n C rfl dX6_scribe_56 ?_
    refine J_iadd C dX6_scribe_57 ?_
    refine J_i ((by decide) : (12 + 1 : Int32) = 13) ?_
    refine J_iald C 1 rfl 13 rfl (by decide) (Nat.le_of_ble_eq_true rfl) dX6_scribe_58 ?_
    refine J_i (y := nI (σ 0 13)) (rfl) ?_
    exact J_zret C hr rfl dX6_scribe_59 () (by rw [hwi] <;> rfl) trivial rfl
  · skip
    have hw : y = 1 := Int32.toInt_inj.mp (by rw [hwi]; decide)
    subst hw
    refine J_iload_n C rfl dX6_scribe_9 ?_
    refine J_iconst C 2 (by decide) dX6_scribe_10 ?_
    refine J_icmp_ne C 20 (by decide) dX6_scribe_11 (fun _ => ?_) (fun h => absurd h (by decide))
    refine J_iload_n C rfl dX6_scribe_20 ?_
    refine J_i2l C dX6_scribe_21 ?_
    refine J_lconst C 0 (by decide) dX6_scribe_22 ?_
    refine J_ldc2 C k753 dX6_scribe_23 ?_
    refine J_callS (as := [.long ((1 : Int32).toInt64), .long 0, .long 6]) (rest := []) C (ct_inY l G ((1 : Int32).toInt64) 0 6 ((in32 (zl := 0) (zh := 6) rfl rfl).mpr (by decide))) (fun u => mdW G mo σ kf tf H sf df xf hn ik tl sp rd gr) [] [0, 1, 2, 3, 4, 5, 6, 7] 3 k627 k628 k38 k629 rfl (by decide +kernel) ⟨Nat.le_of_ble_eq_true rfl, Nat.le_of_ble_eq_true rfl⟩ ⟨Nat.le_of_ble_eq_true rfl, Nat.le_of_ble_eq_true rfl⟩ dX6_scribe_26 (Nat.le_of_ble_eq_true rfl) rfl (by decide +kernel) (fun _ => rfl) (mdW G mo σ kf tf H sf df xf hn ik tl sp rd gr) rfl (fun _ => rfl) 8 (fun _ => rfl) (by decide +kernel) (by decide +kernel) (fun _ _ => ?_)
    refine J_st (st' := [.int 1]) rfl ?_
    refine J_if_ne C 35 (by decide) dX6_scribe_29 (fun _ => ?_) (fun h => absurd h (by decide))
    refine J_aload_n C rfl dX6_scribe_35 ?_
    refine J_get C 0 0 in6 rfl rfl (by decide) k575 rfl dX6_scribe_36 ?_
    refine J_bipush C 12 (by decide) dX6_scribe_39 ?_
    refine J_iconst C 2 (by decide) dX6_scribe_41 ?_
    refine J_iload_n C rfl dX6_scribe_42 ?_
    refine J_iconst C 2 (by decide) dX6_scribe_43 ?_
    refine J_icmp_ge C 51 (by decide) dX6_scribe_44 (fun h => absurd h (by decide)) (fun _ => ?_)
    refine J_iload_n C rfl dX6_scribe_47 ?_
    refine J_goto C 54 (by decide) dX6_scribe_48 ?_
    refine J_imul C dX6_scribe_54 ?_
    refine J_i ((by decide) : (2 * 1 : Int32) = 2) ?_
    refine J_iadd C dX6_scribe_55 ?_
    refine J_i ((by decide) : (12 + 2 : Int32) = 14) ?_
    refine J_iload_n C rfl dX6_scribe_56 ?_
    refine J_iadd C dX6_scribe_57 ?_
    refine J_i ((by decide) : (14 + 1 : Int32) = 15) ?_
    refine J_iald C 1 rfl 15 rfl (by decide) (Nat.le_of_ble_eq_true rfl) dX6_scribe_58 ?_
    refine J_i (y := nI (σ 0 15)) (rfl) ?_
    exact J_zret C hr rfl dX6_scribe_59 () (by rw [hwi] <;> rfl) trivial rfl
  · skip
    have hw : y = 2 := Int32.toInt_inj.mp (by rw [hwi]; decide)
    subst hw
    refine J_iload_n C rfl dX6_scribe_9 ?_
    refine J_iconst C 2 (by decide) dX6_scribe_10 ?_
    refine J_icmp_ne C 20 (by decide) dX6_scribe_11 (fun h => absurd h (by decide)) (fun _ => ?_)
    refine J_aload_n C rfl dX6_scribe_14 ?_
    refine J_iload_n C rfl dX6_scribe_15 ?_
    rcases Nat.lt_or_ge (2 * σ 0 15) (σ 0 4) with hf | hf
    · skip
      refine J_callV (as := [.int 1]) (rest := []) C (ct_mNext1P l G mo σ kf tf H sf df xf hn ik tl sp rd gr (by omega) h40.2.1 hf) (fun u => mdW G mo σ kf tf H sf df xf hn ik tl sp rd gr) [0, 1, 2, 3, 4, 5, 6, 7] [] 1 k659 k661 k17 k38 k662 rfl (by decide +kernel) ⟨Nat.le_of_ble_eq_true rfl, Nat.le_of_ble_eq_true rfl⟩ ⟨Nat.le_of_ble_eq_true rfl, Nat.le_of_ble_eq_true rfl⟩ dX6_scribe_16 (Nat.le_of_ble_eq_true rfl) 0 rfl rfl rfl (by decide +kernel) (fun _ => rfl) ([]) rfl (fun _ => rfl) 8 (fun _ => rfl) (by decide +kernel) (by decide +kernel) (fun _ _ => ?_)
      refine J_st (st' := [.int (nI (σ 0 4 - 1 - σ 0 15))]) rfl ?_
      exact J_zret C hr rfl dX6_scribe_19 () (by rw [hwi, show scrF σ 1 2 = nxP σ 1 from rfl, show nxP σ 1 = nI (σ 0 4 - 1 - σ 0 15) from if_neg (by show ¬ σ 0 4 ≤ 2 * σ 0 15; omega)] <;> rfl) trivial rfl
    · skip
      refine J_callV (as := [.int 1]) (rest := []) C (ct_mNext1N l G mo σ kf tf H sf df xf hn ik tl sp rd gr (by omega) h40.2.1 hf (by omega)) (fun u => mdW G mo σ kf tf H sf df xf hn ik tl sp rd gr) [0, 1, 2, 3, 4, 5, 6, 7] [] 1 k659 k661 k17 k38 k662 rfl (by decide +kernel) ⟨Nat.le_of_ble_eq_true rfl, Nat.le_of_ble_eq_true rfl⟩ ⟨Nat.le_of_ble_eq_true rfl, Nat.le_of_ble_eq_true rfl⟩ dX6_scribe_16 (Nat.le_of_ble_eq_true rfl) 0 rfl rfl rfl (by decide +kernel) (fun _ => rfl) ([]) rfl (fun _ => rfl) 8 (fun _ => rfl) (by decide +kernel) (by decide +kernel) (fun _ _ => ?_)
      refine J_st (st' := [.int (-5)]) rfl ?_
      exact J_zret C hr rfl dX6_scribe_19 () (by rw [hwi, show scrF σ 1 2 = nxP σ 1 from rfl, show nxP σ 1 = (-5) from if_pos (by show σ 0 4 ≤ 2 * σ 0 15; omega)] <;> rfl) trivial rfl
  · skip
    have hw : y = 3 := Int32.toInt_inj.mp (by rw [hwi]; decide)
    subst hw
    refine J_iload_n C rfl dX6_scribe_9 ?_
    refine J_iconst C 2 (by decide) dX6_scribe_10 ?_
    refine J_icmp_ne C 20 (by decide) dX6_scribe_11 (fun _ => ?_) (fun h => absurd h (by decide))
    refine J_iload_n C rfl dX6_scribe_20 ?_
    refine J_i2l C dX6_scribe_21 ?_
    refine J_lconst C 0 (by decide) dX6_scribe_22 ?_
    refine J_ldc2 C k753 dX6_scribe_23 ?_
    refine J_callS (as := [.long ((3 : Int32).toInt64), .long 0, .long 6]) (rest := []) C (ct_inY l G ((3 : Int32).toInt64) 0 6 ((in32 (zl := 0) (zh := 6) rfl rfl).mpr (by decide))) (fun u => mdW G mo σ kf tf H sf df xf hn ik tl sp rd gr) [] [0, 1, 2, 3, 4, 5, 6, 7] 3 k627 k628 k38 k629 rfl (by decide +kernel) ⟨Nat.le_of_ble_eq_true rfl, Nat.le_of_ble_eq_true rfl⟩ ⟨Nat.le_of_ble_eq_true rfl, Nat.le_of_ble_eq_true rfl⟩ dX6_scribe_26 (Nat.le_of_ble_eq_true rfl) rfl (by decide +kernel) (fun _ => rfl) (mdW G mo σ kf tf H sf df xf hn ik tl sp rd gr) rfl (fun _ => rfl) 8 (fun _ => rfl) (by decide +kernel) (by decide +kernel) (fun _ _ => ?_)
    refine J_st (st' := [.int 1]) rfl ?_
    refine J_if_ne C 35 (by decide) dX6_scribe_29 (fun _ => ?_) (fun h => absurd h (by decide))
    refine J_aload_n C rfl dX6_scribe_35 ?_
    refine J_get C 0 0 in6 rfl rfl (by decide) k575 rfl dX6_scribe_36 ?_
    refine J_bipush C 12 (by decide) dX6_scribe_39 ?_
    refine J_iconst C 2 (by decide) dX6_scribe_41 ?_
    refine J_iload_n C rfl dX6_scribe_42 ?_
    refine J_iconst C 2 (by decide) dX6_scribe_43 ?_
    refine J_icmp_ge C 51 (by decide) dX6_scribe_44 (fun _ => ?_) (fun h => absurd h (by decide))
    refine J_iload_n C rfl dX6_scribe_51 ?_
    refine J_iconst C 1 (by decide) dX6_scribe_52 ?_
    refine J_isub C dX6_scribe_53 ?_
    refine J_i ((by decide) : (3 - 1 : Int32) = 2) ?_
    refine J_imul C dX6_scribe_54 ?_
    refine J_i ((by decide) : (2 * 2 : Int32) = 4) ?_
    refine J_iadd C dX6_scribe_55 ?_
    refine J_i ((by decide) : (12 + 4 : Int32) = 16) ?_
    refine J_iload_n C rfl dX6_scribe_56 ?_
    refine J_iadd C dX6_scribe_57 ?_
    refine J_i ((by decide) : (16 + 1 : Int32) = 17) ?_
    refine J_iald C 1 rfl 17 rfl (by decide) (Nat.le_of_ble_eq_true rfl) dX6_scribe_58 ?_
    refine J_i (y := nI (σ 0 17)) (rfl) ?_
    exact J_zret C hr rfl dX6_scribe_59 () (by rw [hwi] <;> rfl) trivial rfl
  · skip
    have hw : y = 4 := Int32.toInt_inj.mp (by rw [hwi]; decide)
    subst hw
    refine J_iload_n C rfl dX6_scribe_9 ?_
    refine J_iconst C 2 (by decide) dX6_scribe_10 ?_
    refine J_icmp_ne C 20 (by decide) dX6_scribe_11 (fun _ => ?_) (fun h => absurd h (by decide))
    refine J_iload_n C rfl dX6_scribe_20 ?_
    refine J_i2l C dX6_scribe_21 ?_
    refine J_lconst C 0 (by decide) dX6_scribe_22 ?_
    refine J_ldc2 C k753 dX6_scribe_23 ?_
    refine J_callS (as := [.long ((4 : Int32).toInt64), .long 0, .long 6]) (rest := []) C (ct_inY l G ((4 : Int32).toInt64) 0 6 ((in32 (zl := 0) (zh := 6) rfl rfl).mpr (by decide))) (fun u => mdW G mo σ kf tf H sf df xf hn ik tl sp rd gr) [] [0, 1, 2, 3, 4, 5, 6, 7] 3 k627 k628 k38 k629 rfl (by decide +kernel) ⟨Nat.le_of_ble_eq_true rfl, Nat.le_of_ble_eq_true rfl⟩ ⟨Nat.le_of_ble_eq_true rfl, Nat.le_of_ble_eq_true rfl⟩ dX6_scribe_26 (Nat.le_of_ble_eq_true rfl) rfl (by decide +kernel) (fun _ => rfl) (mdW G mo σ kf tf H sf df xf hn ik tl sp rd gr) rfl (fun _ => rfl) 8 (fun _ => rfl) (by decide +kernel) (by decide +kernel) (fun _ _ => ?_)
    refine J_st (st' := [.int 1]) rfl ?_
    refine J_if_ne C 35 (by decide) dX6_scribe_29 (fun _ => ?_) (fun h => absurd h (by decide))
    refine J_aload_n C rfl dX6_scribe_35 ?_
    refine J_get C 0 0 in6 rfl rfl (by decide) k575 rfl dX6_scribe_36 ?_
    refine J_bipush C 12 (by decide) dX6_scribe_39 ?_
    refine J_iconst C 2 (by decide) dX6_scribe_41 ?_
    refine J_iload_n C rfl dX6_scribe_42 ?_
    refine J_iconst C 2 (by decide) dX6_scribe_43 ?_
    refine J_icmp_ge C 51 (by decide) dX6_scribe_44 (fun _ => ?_) (fun h => absurd h (by decide))
    refine J_iload_n C rfl dX6_scribe_51 ?_
    refine J_iconst C 1 (by decide) dX6_scribe_52 ?_
    refine J_isub C dX6_scribe_53 ?_
    refine J_i ((by decide) : (4 - 1 : Int32) = 3) ?_
    refine J_imul C dX6_scribe_54 ?_
    refine J_i ((by decide) : (2 * 3 : Int32) = 6) ?_
    refine J_iadd C dX6_scribe_55 ?_
    refine J_i ((by decide) : (12 + 6 : Int32) = 18) ?_
    refine J_iload_n C rfl dX6_scribe_56 ?_
    refine J_iadd C dX6_scribe_57 ?_
    refine J_i ((by decide) : (18 + 1 : Int32) = 19) ?_
    refine J_iald C 1 rfl 19 rfl (by decide) (Nat.le_of_ble_eq_true rfl) dX6_scribe_58 ?_
    refine J_i (y := nI (σ 0 19)) (rfl) ?_
    exact J_zret C hr rfl dX6_scribe_59 () (by rw [hwi] <;> rfl) trivial rfl
  · skip
    have hw : y = 5 := Int32.toInt_inj.mp (by rw [hwi]; decide)
    subst hw
    refine J_iload_n C rfl dX6_scribe_9 ?_
    refine J_iconst C 2 (by decide) dX6_scribe_10 ?_
    refine J_icmp_ne C 20 (by decide) dX6_scribe_11 (fun _ => ?_) (fun h => absurd h (by decide))
    refine J_iload_n C rfl dX6_scribe_20 ?_
    refine J_i2l C dX6_scribe_21 ?_
    refine J_lconst C 0 (by decide) dX6_scribe_22 ?_
    refine J_ldc2 C k753 dX6_scribe_23 ?_
    refine J_callS (as := [.long ((5 : Int32).toInt64), .long 0, .long 6]) (rest := []) C (ct_inY l G ((5 : Int32).toInt64) 0 6 ((in32 (zl := 0) (zh := 6) rfl rfl).mpr (by decide))) (fun u => mdW G mo σ kf tf H sf df xf hn ik tl sp rd gr) [] [0, 1, 2, 3, 4, 5, 6, 7] 3 k627 k628 k38 k629 rfl (by decide +kernel) ⟨Nat.le_of_ble_eq_true rfl, Nat.le_of_ble_eq_true rfl⟩ ⟨Nat.le_of_ble_eq_true rfl, Nat.le_of_ble_eq_true rfl⟩ dX6_scribe_26 (Nat.le_of_ble_eq_true rfl) rfl (by decide +kernel) (fun _ => rfl) (mdW G mo σ kf tf H sf df xf hn ik tl sp rd gr) rfl (fun _ => rfl) 8 (fun _ => rfl) (by decide +kernel) (by decide +kernel) (fun _ _ => ?_)
    refine J_st (st' := [.int 1]) rfl ?_
    refine J_if_ne C 35 (by decide) dX6_scribe_29 (fun _ => ?_) (fun h => absurd h (by decide))
    refine J_aload_n C rfl dX6_scribe_35 ?_
    refine J_get C 0 0 in6 rfl rfl (by decide) k575 rfl dX6_scribe_36 ?_
    refine J_bipush C 12 (by decide) dX6_scribe_39 ?_
    refine J_iconst C 2 (by decide) dX6_scribe_41 ?_
    refine J_iload_n C rfl dX6_scribe_42 ?_
    refine J_iconst C 2 (by decide) dX6_scribe_43 ?_
    refine J_icmp_ge C 51 (by decide) dX6_scribe_44 (fun _ => ?_) (fun h => absurd h (by decide))
    refine J_iload_n C rfl dX6_scribe_51 ?_
    refine J_iconst C 1 (by decide) dX6_scribe_52 ?_
    refine J_isub C dX6_scribe_53 ?_
    refine J_i ((by decide) : (5 - 1 : Int32) = 4) ?_
    refine J_imul C dX6_scribe_54 ?_
    refine J_i ((by decide) : (2 * 4 : Int32) = 8) ?_
    refine J_iadd C dX6_scribe_55 ?_
    refine J_i ((by decide) : (12 + 8 : Int32) = 20) ?_
    refine J_iload_n C rfl dX6_scribe_56 ?_
    refine J_iadd C dX6_scribe_57 ?_
    refine J_i ((by decide) : (20 + 1 : Int32) = 21) ?_
    refine J_iald C 1 rfl 21 rfl (by decide) (Nat.le_of_ble_eq_true rfl) dX6_scribe_58 ?_
    refine J_i (y := nI (σ 0 21)) (rfl) ?_
    exact J_zret C hr rfl dX6_scribe_59 () (by rw [hwi] <;> rfl) trivial rfl
  · skip
    have hw : y = 6 := Int32.toInt_inj.mp (by rw [hwi]; decide)
    subst hw
    refine J_iload_n C rfl dX6_scribe_9 ?_
    refine J_iconst C 2 (by decide) dX6_scribe_10 ?_
    refine J_icmp_ne C 20 (by decide) dX6_scribe_11 (fun _ => ?_) (fun h => absurd h (by decide))
    refine J_iload_n C rfl dX6_scribe_20 ?_
    refine J_i2l C dX6_scribe_21 ?_
    refine J_lconst C 0 (by decide) dX6_scribe_22 ?_
    refine J_ldc2 C k753 dX6_scribe_23 ?_
    refine J_callS (as := [.long ((6 : Int32).toInt64), .long 0, .long 6]) (rest := []) C (ct_inY l G ((6 : Int32).toInt64) 0 6 ((in32 (zl := 0) (zh := 6) rfl rfl).mpr (by decide))) (fun u => mdW G mo σ kf tf H sf df xf hn ik tl sp rd gr) [] [0, 1, 2, 3, 4, 5, 6, 7] 3 k627 k628 k38 k629 rfl (by decide +kernel) ⟨Nat.le_of_ble_eq_true rfl, Nat.le_of_ble_eq_true rfl⟩ ⟨Nat.le_of_ble_eq_true rfl, Nat.le_of_ble_eq_true rfl⟩ dX6_scribe_26 (Nat.le_of_ble_eq_true rfl) rfl (by decide +kernel) (fun _ => rfl) (mdW G mo σ kf tf H sf df xf hn ik tl sp rd gr) rfl (fun _ => rfl) 8 (fun _ => rfl) (by decide +kernel) (by decide +kernel) (fun _ _ => ?_)
    refine J_st (st' := [.int 1]) rfl ?_
    refine J_if_ne C 35 (by decide) dX6_scribe_29 (fun _ => ?_) (fun h => absurd h (by decide))
    refine J_aload_n C rfl dX6_scribe_35 ?_
    refine J_get C 0 0 in6 rfl rfl (by decide) k575 rfl dX6_scribe_36 ?_
    refine J_bipush C 12 (by decide) dX6_scribe_39 ?_
    refine J_iconst C 2 (by decide) dX6_scribe_41 ?_
    refine J_iload_n C rfl dX6_scribe_42 ?_
    refine J_iconst C 2 (by decide) dX6_scribe_43 ?_
    refine J_icmp_ge C 51 (by decide) dX6_scribe_44 (fun _ => ?_) (fun h => absurd h (by decide))
    refine J_iload_n C rfl dX6_scribe_51 ?_
    refine J_iconst C 1 (by decide) dX6_scribe_52 ?_
    refine J_isub C dX6_scribe_53 ?_
    refine J_i ((by decide) : (6 - 1 : Int32) = 5) ?_
    refine J_imul C dX6_scribe_54 ?_
    refine J_i ((by decide) : (2 * 5 : Int32) = 10) ?_
    refine J_iadd C dX6_scribe_55 ?_
    refine J_i ((by decide) : (12 + 10 : Int32) = 22) ?_
    refine J_iload_n C rfl dX6_scribe_56 ?_
    refine J_iadd C dX6_scribe_57 ?_
    refine J_i ((by decide) : (22 + 1 : Int32) = 23) ?_
    refine J_iald C 1 rfl 23 rfl (by decide) (Nat.le_of_ble_eq_true rfl) dX6_scribe_58 ?_
    refine J_i (y := nI (σ 0 23)) (rfl) ?_
    exact J_zret C hr rfl dX6_scribe_59 () (by rw [hwi] <;> rfl) trivial rfl

set_option maxHeartbeats 4000000 in
set_option maxRecDepth 100000 in
theorem ct_mInk (l : Launch) (G : GT) (mo : Nat → Nat) (σ : AS) (kf tf H sf df xf : Nat → Nat) (hn ik tl sp rd : Nat) (gr : Int32) (x : Int32) (hI : Inv σ) : Ct (S := Unit) l G NoX yX6_ink (Wy yX6_ink cX6_ink 2 ((Option.some Jvm.ClassFile.FieldType.double))) { frames := 0, cells := 0, slots := 0, locals := 0 } [.ref (mo 0), .int x] (mdW G mo σ kf tf H sf df xf hn ik tl sp rd gr) (fun u => True) (fun u => some (.double (inkF σ x.toInt))) (fun u => mdW G mo σ kf tf H sf df xf hn ik tl sp rd gr) := by
  refine Ct.of (by decide) (Nat.le_of_ble_eq_true rfl) (fun p e s m args below meth c C hr hnm hX => ?_)
  have h40 := hI.a
  have hc := hI.c
  have hi := hI.i
  have hs := hI.s
  refine J_iload_n C rfl dX6_ink_0 ?_
  rcases (show (x.toInt < 0 ∨ 4 < x.toInt) ∨ x.toInt = 0 ∨ x.toInt = 1 ∨ x.toInt = 2 ∨ x.toInt = 3 ∨ x.toInt = 4 by omega) with hsw | hwi | hwi | hwi | hwi | hwi
  · skip
    refine J_tableOut C 68 hsw (by decide) dX6_ink_1 ?_
    refine J_ldc2d C k759 dX6_ink_68 ?_
    exact J_dret C hr dX6_ink_71 () (by rw [show inkF σ x.toInt = 13830554455654793216 from by unfold inkF; (repeat' split) <;> first | rfl | omega]) trivial rfl
  · skip
    have hw : x = 0 := Int32.toInt_inj.mp (by rw [hwi]; decide)
    subst hw
    refine J_tableIn C 36 (by decide) (by decide) rfl (by decide) dX6_ink_1 ?_
    refine J_aload_n C rfl dX6_ink_36 ?_
    refine J_get C 0 0 in6 rfl rfl (by decide) k575 rfl dX6_ink_37 ?_
    refine J_bipush C 24 (by decide) dX6_ink_40 ?_
    refine J_iload_n C rfl dX6_ink_42 ?_
    refine J_iadd C dX6_ink_43 ?_
    refine J_i ((by decide) : (24 + 0 : Int32) = 24) ?_
    refine J_iald C 1 rfl 24 rfl (by decide) (Nat.le_of_ble_eq_true rfl) dX6_ink_44 ?_
    refine J_i (y := nI (σ 0 24)) (rfl) ?_
    refine J_i2d C dX6_ink_45 ?_
    refine J_ldc2d C k758 dX6_ink_46 ?_
    refine J_ddiv C (by rw [dl_div (n := σ 0 24) (by omega)]; exact dl_num (by omega)) dX6_ink_49 ?_
    refine J_d (dl_div (n := σ 0 24) (by omega) : (FP.ddiv (FP.i2d (nI (σ 0 24))) 4634204016564240384 : UInt64) = (dl (σ 0 24))) ?_
    exact J_dret C hr dX6_ink_50 () (by rw [hwi] <;> rfl) trivial rfl
  · skip
    have hw : x = 1 := Int32.toInt_inj.mp (by rw [hwi]; decide)
    subst hw
    refine J_tableIn C 36 (by decide) (by decide) rfl (by decide) dX6_ink_1 ?_
    refine J_aload_n C rfl dX6_ink_36 ?_
    refine J_get C 0 0 in6 rfl rfl (by decide) k575 rfl dX6_ink_37 ?_
    refine J_bipush C 24 (by decide) dX6_ink_40 ?_
    refine J_iload_n C rfl dX6_ink_42 ?_
    refine J_iadd C dX6_ink_43 ?_
    refine J_i ((by decide) : (24 + 1 : Int32) = 25) ?_
    refine J_iald C 1 rfl 25 rfl (by decide) (Nat.le_of_ble_eq_true rfl) dX6_ink_44 ?_
    refine J_i (y := nI (σ 0 25)) (rfl) ?_
    refine J_i2d C dX6_ink_45 ?_
    refine J_ldc2d C k758 dX6_ink_46 ?_
    refine J_ddiv C (by rw [dl_div (n := σ 0 25) (by omega)]; exact dl_num (by omega)) dX6_ink_49 ?_
    refine J_d (dl_div (n := σ 0 25) (by omega) : (FP.ddiv (FP.i2d (nI (σ 0 25))) 4634204016564240384 : UInt64) = (dl (σ 0 25))) ?_
    exact J_dret C hr dX6_ink_50 () (by rw [hwi] <;> rfl) trivial rfl
  · skip
    have hw : x = 2 := Int32.toInt_inj.mp (by rw [hwi]; decide)
    subst hw
    refine J_tableIn C 51 (by decide) (by decide) rfl (by decide) dX6_ink_1 ?_
    refine J_aload_n C rfl dX6_ink_51 ?_
    refine J_get C 0 0 in6 rfl rfl (by decide) k575 rfl dX6_ink_52 ?_
    refine J_bipush C 6 (by decide) dX6_ink_55 ?_
    refine J_iload_n C rfl dX6_ink_57 ?_
    refine J_iadd C dX6_ink_58 ?_
    refine J_i ((by decide) : (6 + 2 : Int32) = 8) ?_
    refine J_iconst C 2 (by decide) dX6_ink_59 ?_
    refine J_isub C dX6_ink_60 ?_
    refine J_i ((by decide) : (8 - 2 : Int32) = 6) ?_
    refine J_iald C 1 rfl 6 rfl (by decide) (Nat.le_of_ble_eq_true rfl) dX6_ink_61 ?_
    refine J_i (y := nI (σ 0 6)) (rfl) ?_
    refine J_i2d C dX6_ink_62 ?_
    refine J_ldc2d C k758 dX6_ink_63 ?_
    refine J_ddiv C (by rw [dl_div (n := σ 0 6) (by omega)]; exact dl_num (by omega)) dX6_ink_66 ?_
    refine J_d (dl_div (n := σ 0 6) (by omega) : (FP.ddiv (FP.i2d (nI (σ 0 6))) 4634204016564240384 : UInt64) = (dl (σ 0 6))) ?_
    exact J_dret C hr dX6_ink_67 () (by rw [hwi] <;> rfl) trivial rfl
  · skip
    have hw : x = 3 := Int32.toInt_inj.mp (by rw [hwi]; decide)
    subst hw
    refine J_tableIn C 51 (by decide) (by decide) rfl (by decide) dX6_ink_1 ?_
    refine J_aload_n C rfl dX6_ink_51 ?_
    refine J_get C 0 0 in6 rfl rfl (by decide) k575 rfl dX6_ink_52 ?_
    refine J_bipush C 6 (by decide) dX6_ink_55 ?_
    refine J_iload_n C rfl dX6_ink_57 ?_
    refine J_iadd C dX6_ink_58 ?_
    refine J_i ((by decide) : (6 + 3 : Int32) = 9) ?_
    refine J_iconst C 2 (by decide) dX6_ink_59 ?_
    refine J_isub C dX6_ink_60 ?_
    refine J_i ((by decide) : (9 - 2 : Int32) = 7) ?_
    refine J_iald C 1 rfl 7 rfl (by decide) (Nat.le_of_ble_eq_true rfl) dX6_ink_61 ?_
    refine J_i (y := nI (σ 0 7)) (rfl) ?_
    refine J_i2d C dX6_ink_62 ?_
    refine J_ldc2d C k758 dX6_ink_63 ?_
    refine J_ddiv C (by rw [dl_div (n := σ 0 7) (by omega)]; exact dl_num (by omega)) dX6_ink_66 ?_
    refine J_d (dl_div (n := σ 0 7) (by omega) : (FP.ddiv (FP.i2d (nI (σ 0 7))) 4634204016564240384 : UInt64) = (dl (σ 0 7))) ?_
    exact J_dret C hr dX6_ink_67 () (by rw [hwi] <;> rfl) trivial rfl
  · skip
    have hw : x = 4 := Int32.toInt_inj.mp (by rw [hwi]; decide)
    subst hw
    refine J_tableIn C 51 (by decide) (by decide) rfl (by decide) dX6_ink_1 ?_
    refine J_aload_n C rfl dX6_ink_51 ?_
    refine J_get C 0 0 in6 rfl rfl (by decide) k575 rfl dX6_ink_52 ?_
    refine J_bipush C 6 (by decide) dX6_ink_55 ?_
    refine J_iload_n C rfl dX6_ink_57 ?_
    refine J_iadd C dX6_ink_58 ?_
    refine J_i ((by decide) : (6 + 4 : Int32) = 10) ?_
    refine J_iconst C 2 (by decide) dX6_ink_59 ?_
    refine J_isub C dX6_ink_60 ?_
    refine J_i ((by decide) : (10 - 2 : Int32) = 8) ?_
    refine J_iald C 1 rfl 8 rfl (by decide) (Nat.le_of_ble_eq_true rfl) dX6_ink_61 ?_
    refine J_i (y := nI (σ 0 8)) (rfl) ?_
    refine J_i2d C dX6_ink_62 ?_
    refine J_ldc2d C k758 dX6_ink_63 ?_
    refine J_ddiv C (by rw [dl_div (n := σ 0 8) (by omega)]; exact dl_num (by omega)) dX6_ink_66 ?_
    refine J_d (dl_div (n := σ 0 8) (by omega) : (FP.ddiv (FP.i2d (nI (σ 0 8))) 4634204016564240384 : UInt64) = (dl (σ 0 8))) ?_
    exact J_dret C hr dX6_ink_67 () (by rw [hwi] <;> rfl) trivial rfl

set_option maxHeartbeats 4000000 in
set_option maxRecDepth 100000 in
theorem ct_mNxN (l : Launch) (G : GT) (mo : Nat → Nat) (σ : AS) (kf tf H sf df xf : Nat → Nat) (hn ik tl sp rd : Nat) (gr : Int32) (x : Int32) (hx : ¬ (x = 0 ∨ x = 1)) : Ct (S := Unit) l G NoX yX6_next (Wy yX6_next cX6_next 3 ((Option.some Jvm.ClassFile.FieldType.int))) { frames := 1, cells := 0, slots := 0, locals := 20 } [.ref (mo 0), .int x] (mdW G mo σ kf tf H sf df xf hn ik tl sp rd gr) (fun u => True) (fun u => some (.int (-1))) (fun u => mdW G mo σ kf tf H sf df xf hn ik tl sp rd gr) := by
  refine Ct.of (by decide) (Nat.le_of_ble_eq_true rfl) (fun p e s m args below meth c C hr hnm hX => ?_)
  refine J_iload_n C rfl dX6_next_0 ?_
  refine J_callS (as := [.int x]) (rest := []) C (ct_mScrN l G x hx) (fun u => mdW G mo σ kf tf H sf df xf hn ik tl sp rd gr) [] [0, 1, 2, 3, 4, 5, 6, 7] 1 k683 k684 k38 k685 rfl (by decide +kernel) ⟨Nat.le_of_ble_eq_true rfl, Nat.le_of_ble_eq_true rfl⟩ ⟨Nat.le_of_ble_eq_true rfl, Nat.le_of_ble_eq_true rfl⟩ dX6_next_1 (Nat.le_of_ble_eq_true rfl) rfl (by decide +kernel) (fun _ => rfl) (mdW G mo σ kf tf H sf df xf hn ik tl sp rd gr) rfl (fun _ => rfl) 8 (fun _ => rfl) (by decide +kernel) (by decide +kernel) (fun _ _ => ?_)
  refine J_st (st' := [.int 0]) rfl ?_
  refine J_if_ne C 9 (by decide) dX6_next_4 (fun h => absurd h (by decide)) (fun _ => ?_)
  refine J_iconst C (-1) (by decide) dX6_next_7 ?_
  exact J_zret C hr rfl dX6_next_8 () rfl trivial rfl

set_option maxHeartbeats 4000000 in
set_option maxRecDepth 100000 in
theorem ct_mNx0 (l : Launch) (G : GT) (mo : Nat → Nat) (σ : AS) (kf tf H sf df xf : Nat → Nat) (hn ik tl sp rd : Nat) (gr : Int32) (hI : Inv σ) : Ct (S := Unit) l G NoX yX6_next (Wy yX6_next cX6_next 3 ((Option.some Jvm.ClassFile.FieldType.int))) { frames := 3, cells := 0, slots := 0, locals := 64 } [.ref (mo 0), .int 0] (mdW G mo σ kf tf H sf df xf hn ik tl sp rd gr) (fun u => True) (fun u => some (.int (nI (doesN σ 0)))) (fun u => mdW G mo σ kf tf H sf df xf hn ik tl sp rd gr) := by
  refine Ct.of (by decide) (Nat.le_of_ble_eq_true rfl) (fun p e s m args below meth c C hr hnm hX => ?_)
  refine J_iload_n C rfl dX6_next_0 ?_
  refine J_callS (as := [.int 0]) (rest := []) C (ct_mScr0 l G ) (fun u => mdW G mo σ kf tf H sf df xf hn ik tl sp rd gr) [] [0, 1, 2, 3, 4, 5, 6, 7] 1 k683 k684 k38 k685 rfl (by decide +kernel) ⟨Nat.le_of_ble_eq_true rfl, Nat.le_of_ble_eq_true rfl⟩ ⟨Nat.le_of_ble_eq_true rfl, Nat.le_of_ble_eq_true rfl⟩ dX6_next_1 (Nat.le_of_ble_eq_true rfl) rfl (by decide +kernel) (fun _ => rfl) (mdW G mo σ kf tf H sf df xf hn ik tl sp rd gr) rfl (fun _ => rfl) 8 (fun _ => rfl) (by decide +kernel) (by decide +kernel) (fun _ _ => ?_)
  refine J_st (st' := [.int 1]) rfl ?_
  refine J_if_ne C 9 (by decide) dX6_next_4 (fun _ => ?_) (fun h => absurd h (by decide))
  refine J_iload_n C rfl dX6_next_9 ?_
  refine J_if_ne C 19 (by decide) dX6_next_10 (fun h => absurd h (by decide)) (fun _ => ?_)
  refine J_aload_n C rfl dX6_next_13 ?_
  refine J_iconst C 0 (by decide) dX6_next_14 ?_
  refine J_callV (as := [.int 0]) (rest := []) C (ct_does0 l G mo σ kf tf H sf df xf hn ik tl sp rd gr hI) (fun u => mdW G mo σ kf tf H sf df xf hn ik tl sp rd gr) [0, 1, 2, 3, 4, 5, 6, 7] [] 1 k713 k715 k23 k38 k716 rfl (by decide +kernel) ⟨Nat.le_of_ble_eq_true rfl, Nat.le_of_ble_eq_true rfl⟩ ⟨Nat.le_of_ble_eq_true rfl, Nat.le_of_ble_eq_true rfl⟩ dX6_next_15 (Nat.le_of_ble_eq_true rfl) 0 rfl rfl rfl (by decide +kernel) (fun _ => rfl) ([]) rfl (fun _ => rfl) 8 (fun _ => rfl) (by decide +kernel) (by decide +kernel) (fun _ _ => ?_)
  refine J_st (st' := [.int (nI (doesN σ 0))]) rfl ?_
  exact J_zret C hr rfl dX6_next_18 () rfl trivial rfl

set_option maxHeartbeats 4000000 in
set_option maxRecDepth 100000 in
theorem ct_mNx1 (l : Launch) (G : GT) (mo : Nat → Nat) (σ : AS) (kf tf H sf df xf : Nat → Nat) (hn ik tl sp rd : Nat) (gr : Int32) (hI : Inv σ) (ht : σ 0 3 ≤ 99999) : Ct (S := Unit) l G NoX yX6_next (Wy yX6_next cX6_next 3 ((Option.some Jvm.ClassFile.FieldType.int))) { frames := 4, cells := 0, slots := 0, locals := 86 } [.ref (mo 0), .int 1] (mdW G mo σ kf tf H sf df xf hn ik tl sp rd gr) (fun u => True) (fun u => some (.int (nI (nextN σ)))) (fun u => mdW G mo σ kf (rowM σ) H sf df xf hn ik tl sp rd gr) := by
  refine Ct.of (by decide) (Nat.le_of_ble_eq_true rfl) (fun p e s m args below meth c C hr hnm hX => ?_)
  have h40 := hI.a
  have hc := hI.c
  have hi := hI.i
  have hs := hI.s
  refine J_iload_n C rfl dX6_next_0 ?_
  refine J_callS (as := [.int 1]) (rest := []) C (ct_mScr1 l G ) (fun u => mdW G mo σ kf tf H sf df xf hn ik tl sp rd gr) [] [0, 1, 2, 3, 4, 5, 6, 7] 1 k683 k684 k38 k685 rfl (by decide +kernel) ⟨Nat.le_of_ble_eq_true rfl, Nat.le_of_ble_eq_true rfl⟩ ⟨Nat.le_of_ble_eq_true rfl, Nat.le_of_ble_eq_true rfl⟩ dX6_next_1 (Nat.le_of_ble_eq_true rfl) rfl (by decide +kernel) (fun _ => rfl) (mdW G mo σ kf tf H sf df xf hn ik tl sp rd gr) rfl (fun _ => rfl) 8 (fun _ => rfl) (by decide +kernel) (by decide +kernel) (fun _ _ => ?_)
  refine J_st (st' := [.int 1]) rfl ?_
  refine J_if_ne C 9 (by decide) dX6_next_4 (fun _ => ?_) (fun h => absurd h (by decide))
  refine J_iload_n C rfl dX6_next_9 ?_
  refine J_if_ne C 19 (by decide) dX6_next_10 (fun _ => ?_) (fun h => absurd h (by decide))
  refine J_aload_n C rfl dX6_next_19 ?_
  refine J_callV (as := []) (rest := []) C (ct_tries l G mo σ kf tf H sf df xf hn ik tl sp rd gr) (fun u => mdW G mo σ kf (rowM σ) H sf df xf hn ik tl sp rd gr) [0, 1, 2, 3, 4, 5, 6, 7] [] 0 k764 k766 k26 k38 k767 rfl (by decide +kernel) ⟨Nat.le_of_ble_eq_true rfl, Nat.le_of_ble_eq_true rfl⟩ ⟨Nat.le_of_ble_eq_true rfl, Nat.le_of_ble_eq_true rfl⟩ dX6_next_20 (Nat.le_of_ble_eq_true rfl) 0 rfl rfl rfl (by decide +kernel) (fun _ => rfl) ([]) rfl (fun _ => rfl) 8 (fun _ => rfl) (by decide +kernel) (by decide +kernel) (fun _ _ => ?_)
  refine J_st (st' := []) rfl ?_
  refine J_ws (ws' := mdW G mo σ kf (rowM σ) H sf df xf hn ik tl sp rd gr) rfl ?_
  refine J_aload_n C rfl dX6_next_23 ?_
  refine J_iconst C 0 (by decide) dX6_next_24 ?_
  refine J_callV (as := [.int 0]) (rest := []) C (ct_goes0 l G mo σ kf (rowM σ) H sf df xf hn ik tl sp rd gr hI) (fun u => mdW G mo (goesF σ 0 (σ 0 3 + 1)) kf (rowM σ) H sf df xf hn ik tl sp rd gr) [0, 1, 2, 3, 4, 5, 6, 7] [] 1 k709 k711 k22 k38 k712 rfl (by decide +kernel) ⟨Nat.le_of_ble_eq_true rfl, Nat.le_of_ble_eq_true rfl⟩ ⟨Nat.le_of_ble_eq_true rfl, Nat.le_of_ble_eq_true rfl⟩ dX6_next_25 (Nat.le_of_ble_eq_true rfl) 0 rfl rfl rfl (by decide +kernel) (fun _ => rfl) ([]) rfl (fun _ => rfl) 8 (fun _ => rfl) (by decide +kernel) (by decide +kernel) (fun _ _ => ?_)
  refine J_st (st' := []) rfl ?_
  refine J_ws (ws' := mdW G mo (goesF σ 0 (σ 0 3 + 1)) kf (rowM σ) H sf df xf hn ik tl sp rd gr) rfl ?_
  refine J_aload_n C rfl dX6_next_28 ?_
  refine J_iconst C 1 (by decide) dX6_next_29 ?_
  refine J_callV (as := [.int 1]) (rest := []) C (ct_does1 l G mo (goesF σ 0 (σ 0 3 + 1)) kf (rowM σ) H sf df xf hn ik tl sp rd gr (hI.goes0 (by omega))) (fun u => mdW G mo (goesF σ 0 (σ 0 3 + 1)) kf (rowM σ) H sf df xf hn ik tl sp rd gr) [0, 1, 2, 3, 4, 5, 6, 7] [] 1 k713 k715 k23 k38 k716 rfl (by decide +kernel) ⟨Nat.le_of_ble_eq_true rfl, Nat.le_of_ble_eq_true rfl⟩ ⟨Nat.le_of_ble_eq_true rfl, Nat.le_of_ble_eq_true rfl⟩ dX6_next_30 (Nat.le_of_ble_eq_true rfl) 0 rfl rfl rfl (by decide +kernel) (fun _ => rfl) ([]) rfl (fun _ => rfl) 8 (fun _ => rfl) (by decide +kernel) (by decide +kernel) (fun _ _ => ?_)
  refine J_st (st' := [.int (nI (doesN (goesF σ 0 (σ 0 3 + 1)) 1))]) rfl ?_
  refine J_istore_n C [(2, .int (nI (doesN (goesF σ 0 (σ 0 3 + 1)) 1))), (0, .ref (mo 0)), (1, .int 1)] (by decide) rfl dX6_next_33 ?_
  refine J_aload_n C rfl dX6_next_34 ?_
  refine J_callV (as := []) (rest := []) C (ct_back l G mo (goesF σ 0 (σ 0 3 + 1)) kf H sf df xf hn ik tl sp rd gr σ) (fun u => mdW G mo σ kf (rowM σ) H sf df xf hn ik tl sp rd gr) [0, 1, 2, 3, 4, 5, 6, 7] [] 0 k768 k770 k27 k38 k771 rfl (by decide +kernel) ⟨Nat.le_of_ble_eq_true rfl, Nat.le_of_ble_eq_true rfl⟩ ⟨Nat.le_of_ble_eq_true rfl, Nat.le_of_ble_eq_true rfl⟩ dX6_next_35 (Nat.le_of_ble_eq_true rfl) 0 rfl rfl rfl (by decide +kernel) (fun _ => rfl) ([]) rfl (fun _ => rfl) 8 (fun _ => rfl) (by decide +kernel) (by decide +kernel) (fun _ _ => ?_)
  refine J_st (st' := []) rfl ?_
  refine J_ws (ws' := mdW G mo σ kf (rowM σ) H sf df xf hn ik tl sp rd gr) rfl ?_
  refine J_iload_n C rfl dX6_next_38 ?_
  exact J_zret C hr rfl dX6_next_39 () (congrArg (fun z => some (Value.int (nI z))) (next_m σ (σ 0 3 + 1)).symm) trivial rfl

set_option maxHeartbeats 4000000 in
set_option maxRecDepth 100000 in
theorem ct_mDoneIn (l : Launch) (G : GT) (mo : Nat → Nat) (σ : AS) (kf tf H sf df xf : Nat → Nat) (hn ik tl sp rd : Nat) (gr : Int32) (hI : Inv σ) (ht : σ 0 3 ≤ 99999) : Ct (S := Unit) l G NoX yX6_doneIn (Wy yX6_doneIn cX6_doneIn 1 ((Option.some Jvm.ClassFile.FieldType.int))) { frames := 6, cells := 0, slots := 0, locals := 127 } [.ref (mo 0)] (mdW G mo σ kf tf H sf df xf hn ik tl sp rd gr) (fun u => True) (fun u => some (.int (dnF 2001 0 σ))) (fun u => mdW G mo σ kf (rowM σ) H sf df xf hn ik tl sp rd gr) := by
  refine Ct.of (by decide) (Nat.le_of_ble_eq_true rfl) (fun p e s m args below meth c C hr hnm hX => ?_)
  refine J_aload_n C rfl dX6_doneIn_0 ?_
  refine J_callV (as := []) (rest := []) C (ct_behind l G mo σ kf tf H sf df xf hn ik tl sp rd gr hI ht) (fun u => mdW G mo σ kf (rowM σ) H sf df xf hn ik tl sp rd gr) [0, 1, 2, 3, 4, 5, 6, 7] [] 0 k776 k778 k28 k38 k779 rfl (by decide +kernel) ⟨Nat.le_of_ble_eq_true rfl, Nat.le_of_ble_eq_true rfl⟩ ⟨Nat.le_of_ble_eq_true rfl, Nat.le_of_ble_eq_true rfl⟩ dX6_doneIn_1 (Nat.le_of_ble_eq_true rfl) 0 rfl rfl rfl (by decide +kernel) (fun _ => rfl) ([]) rfl (fun _ => rfl) 8 (fun _ => rfl) (by decide +kernel) (by decide +kernel) (fun _ _ => ?_)
  refine J_st (st' := [.int (dnF 2001 0 σ)]) rfl ?_
  exact J_zret C hr rfl dX6_doneIn_4 () rfl trivial rfl

set_option maxHeartbeats 4000000 in
set_option maxRecDepth 100000 in
theorem ct_mUnlike (l : Launch) (G : GT) (mo : Nat → Nat) (σ : AS) (kf tf H sf df xf : Nat → Nat) (hn ik tl sp rd : Nat) (gr : Int32) (hI : Inv σ) : Ct (S := Unit) l G NoX yX6_unlikePairs (Wy yX6_unlikePairs cX6_unlikePairs 4 ((Option.some Jvm.ClassFile.FieldType.int))) { frames := 0, cells := 0, slots := 0, locals := 0 } [.ref (mo 0)] (mdW G mo σ kf tf H sf df xf hn ik tl sp rd gr) (fun u => True) (fun u => some (.int (nI (sumN (unl σ) (σ 0 4 / 2))))) (fun u => mdW G mo σ kf tf H sf df xf hn ik tl sp rd gr) := by
  refine Ct.of (by decide) (Nat.le_of_ble_eq_true rfl) (fun p e s m args below meth c C hr hnm hX => ?_)
  have h40 := hI.a
  refine J_iconst C 0 (by decide) dX6_unlikePairs_0 ?_
  refine J_istore_n C [(1, .int 0), (0, .ref (mo 0))] (by decide) rfl dX6_unlikePairs_1 ?_
  refine J_iconst C 0 (by decide) dX6_unlikePairs_2 ?_
  refine J_istore_n C [(2, .int 0), (1, .int 0), (0, .ref (mo 0))] (by decide) rfl dX6_unlikePairs_3 ?_
  refine J_lvp [2, 1, 0] [(0, .ref (mo 0)), (1, .int 0), (2, .int 0)] rfl ?_
  refine J_loop (fun i => mdW G mo σ kf tf H sf df xf hn ik tl sp rd gr) (fun i => [(0, .ref (mo 0)), (1, .int (nI (sumN (unl σ) i))), (2, .int (nI i))]) (fun i => i ≤ σ 0 4 / 2) (fun i => σ 0 4 / 2 - i) (fun i hi2 ih => ?_) 0 (Nat.zero_le _) rfl rfl
  refine J_iload_n C rfl dX6_unlikePairs_4 ?_
  refine J_aload_n C rfl dX6_unlikePairs_5 ?_
  refine J_get C 0 0 in6 rfl rfl (by decide) k575 rfl dX6_unlikePairs_6 ?_
  refine J_iconst C 4 (by decide) dX6_unlikePairs_9 ?_
  refine J_iald C 1 rfl 4 rfl (by decide) (Nat.le_of_ble_eq_true rfl) dX6_unlikePairs_10 ?_
  refine J_i (y := nI (σ 0 4)) (rfl) ?_
  refine J_iconst C 2 (by decide) dX6_unlikePairs_11 ?_
  refine J_idiv C (by decide) dX6_unlikePairs_12 ?_
  refine J_i (pk_div (a := σ 0 4) (d := 2) (by omega) (by omega) (by omega) : ((nI (σ 0 4)) / 2 : Int32) = (nI ((σ 0 4) / 2))) ?_
  refine J_icmp_ge C 86 (by decide) dX6_unlikePairs_13 (fun c13 => ?_) (fun c13 => ?_)
  · skip
    have c13 := cv_ge_t (a := i) (b := ((σ 0 4) / 2)) (by omega) (by omega) c13
    have hie : i = σ 0 4 / 2 := by omega
    rw [hie]
    refine J_lvp [0, 1] [(0, .ref (mo 0)), (1, .int (nI (sumN (unl σ) (σ 0 4 / 2))))] rfl ?_
    refine J_iload_n C rfl dX6_unlikePairs_86 ?_
    exact J_zret C hr rfl dX6_unlikePairs_87 () rfl trivial rfl
  · skip
    have c13 := cv_ge_f (a := i) (b := ((σ 0 4) / 2)) (by omega) (by omega) c13
    have hqa := hI.q (q := i) (by omega)
    have hqb := hI.q (q := σ 0 4 - 1 - i) (by omega)
    refine J_aload_n C rfl dX6_unlikePairs_16 ?_
    refine J_get C 0 0 in6 rfl rfl (by decide) k575 rfl dX6_unlikePairs_17 ?_
    refine J_iconst C 4 (by decide) dX6_unlikePairs_20 ?_
    refine J_iald C 1 rfl 4 rfl (by decide) (Nat.le_of_ble_eq_true rfl) dX6_unlikePairs_21 ?_
    refine J_i (y := nI (σ 0 4)) (rfl) ?_
    refine J_iconst C 1 (by decide) dX6_unlikePairs_22 ?_
    refine J_isub C dX6_unlikePairs_23 ?_
    refine J_i (pk_sub (a := σ 0 4) (b := 1) (by omega) : ((nI (σ 0 4)) - 1 : Int32) = (nI (σ 0 4 - 1))) ?_
    refine J_iload_n C rfl dX6_unlikePairs_24 ?_
    refine J_isub C dX6_unlikePairs_25 ?_
    refine J_i (pk_sub (a := σ 0 4 - 1) (b := i) (by omega) : ((nI (σ 0 4 - 1)) - (nI i) : Int32) = (nI ((σ 0 4 - 1) - i))) ?_
    refine J_istore_n C [(3, .int (nI ((σ 0 4 - 1) - i))), (0, .ref (mo 0)), (1, .int (nI (sumN (unl σ) i))), (2, .int (nI i))] (by decide) rfl dX6_unlikePairs_26 ?_
    refine J_iload_n C rfl dX6_unlikePairs_27 ?_
    refine J_aload_n C rfl dX6_unlikePairs_28 ?_
    refine J_get C 0 0 in6 rfl rfl (by decide) k575 rfl dX6_unlikePairs_29 ?_
    refine J_bipush C 86 (by decide) dX6_unlikePairs_32 ?_
    refine J_iload_n C rfl dX6_unlikePairs_34 ?_
    refine J_iadd C dX6_unlikePairs_35 ?_
    refine J_i (nI_add 86 i : (86 + (nI i) : Int32) = (nI (86 + i))) ?_
    refine J_iald C 1 rfl (86 + i) rfl (by omega) (Nat.le_of_ble_eq_true rfl) dX6_unlikePairs_36 ?_
    refine J_i (y := nI (σ 3 i)) (congrArg nI (rowM_3 σ (by omega))) ?_
    refine J_if_le C 77 (by decide) dX6_unlikePairs_37 (fun c37 => ?_) (fun c37 => ?_)
    · skip
      have c37 := cv_le_t (a := (σ 3 i)) (b := 0) (by omega) (by omega) c37
      refine J_iconst C 0 (by decide) dX6_unlikePairs_77 ?_
      refine J_iadd C dX6_unlikePairs_78 ?_
      refine J_i (nI_add (sumN (unl σ) i) 0 : ((nI (sumN (unl σ) i)) + 0 : Int32) = (nI (sumN (unl σ) i + 0))) ?_
      refine J_istore_n C [(1, .int (nI (sumN (unl σ) i + 0))), (3, .int (nI ((σ 0 4 - 1) - i))), (0, .ref (mo 0)), (2, .int (nI i))] (by decide) rfl dX6_unlikePairs_79 ?_
      have hsum : nI (sumN (unl σ) i + 0) = nI (sumN (unl σ) (i + 1)) := by show _ = nI (sumN (unl σ) i + (unl σ) i); rw [show (unl σ) i = 0 from if_neg (by omega)]
      rw [hsum]
      refine J_iinc C (nI (i + 1)) [(2, .int (nI (i + 1))), (1, .int (nI (sumN (unl σ) (i + 1)))), (3, .int (nI ((σ 0 4 - 1) - i))), (0, .ref (mo 0))] 3 rfl (by first | exact nI_add _ 1 | rfl) (by decide) rfl dX6_unlikePairs_80 ?_
      refine J_goto C 4 (by decide) dX6_unlikePairs_83 ?_
      refine J_lvp [3, 1, 0] [(0, .ref (mo 0)), (1, .int (nI (sumN (unl σ) (i + 1)))), (2, .int (nI (i + 1)))] rfl ?_
      exact ih (i + 1) (by omega) (by omega)
    · skip
      have c37 := cv_le_f (a := (σ 3 i)) (b := 0) (by omega) (by omega) c37
      refine J_aload_n C rfl dX6_unlikePairs_40 ?_
      refine J_get C 0 0 in6 rfl rfl (by decide) k575 rfl dX6_unlikePairs_41 ?_
      refine J_bipush C 86 (by decide) dX6_unlikePairs_44 ?_
      refine J_iload_n C rfl dX6_unlikePairs_46 ?_
      refine J_iadd C dX6_unlikePairs_47 ?_
      refine J_i (nI_add 86 ((σ 0 4 - 1) - i) : (86 + (nI ((σ 0 4 - 1) - i)) : Int32) = (nI (86 + ((σ 0 4 - 1) - i)))) ?_
      refine J_iald C 1 rfl (86 + ((σ 0 4 - 1) - i)) rfl (by omega) (Nat.le_of_ble_eq_true rfl) dX6_unlikePairs_48 ?_
      refine J_i (y := nI (σ 3 ((σ 0 4 - 1) - i))) (congrArg nI (rowM_3 σ (by omega))) ?_
      refine J_if_le C 77 (by decide) dX6_unlikePairs_49 (fun c49 => ?_) (fun c49 => ?_)
      · skip
        have c49 := cv_le_t (a := (σ 3 ((σ 0 4 - 1) - i))) (b := 0) (by omega) (by omega) c49
        refine J_iconst C 0 (by decide) dX6_unlikePairs_77 ?_
        refine J_iadd C dX6_unlikePairs_78 ?_
        refine J_i (nI_add (sumN (unl σ) i) 0 : ((nI (sumN (unl σ) i)) + 0 : Int32) = (nI (sumN (unl σ) i + 0))) ?_
        refine J_istore_n C [(1, .int (nI (sumN (unl σ) i + 0))), (3, .int (nI ((σ 0 4 - 1) - i))), (0, .ref (mo 0)), (2, .int (nI i))] (by decide) rfl dX6_unlikePairs_79 ?_
        have hsum : nI (sumN (unl σ) i + 0) = nI (sumN (unl σ) (i + 1)) := by show _ = nI (sumN (unl σ) i + (unl σ) i); rw [show (unl σ) i = 0 from if_neg (by omega)]
        rw [hsum]
        refine J_iinc C (nI (i + 1)) [(2, .int (nI (i + 1))), (1, .int (nI (sumN (unl σ) (i + 1)))), (3, .int (nI ((σ 0 4 - 1) - i))), (0, .ref (mo 0))] 3 rfl (by first | exact nI_add _ 1 | rfl) (by decide) rfl dX6_unlikePairs_80 ?_
        refine J_goto C 4 (by decide) dX6_unlikePairs_83 ?_
        refine J_lvp [3, 1, 0] [(0, .ref (mo 0)), (1, .int (nI (sumN (unl σ) (i + 1)))), (2, .int (nI (i + 1)))] rfl ?_
        exact ih (i + 1) (by omega) (by omega)
      · skip
        have c49 := cv_le_f (a := (σ 3 ((σ 0 4 - 1) - i))) (b := 0) (by omega) (by omega) c49
        refine J_aload_n C rfl dX6_unlikePairs_52 ?_
        refine J_get C 0 0 in6 rfl rfl (by decide) k575 rfl dX6_unlikePairs_53 ?_
        refine J_bipush C 86 (by decide) dX6_unlikePairs_56 ?_
        refine J_iload_n C rfl dX6_unlikePairs_58 ?_
        refine J_iadd C dX6_unlikePairs_59 ?_
        refine J_i (nI_add 86 i : (86 + (nI i) : Int32) = (nI (86 + i))) ?_
        refine J_iald C 1 rfl (86 + i) rfl (by omega) (Nat.le_of_ble_eq_true rfl) dX6_unlikePairs_60 ?_
        refine J_i (y := nI (σ 3 i)) (congrArg nI (rowM_3 σ (by omega))) ?_
        refine J_aload_n C rfl dX6_unlikePairs_61 ?_
        refine J_get C 0 0 in6 rfl rfl (by decide) k575 rfl dX6_unlikePairs_62 ?_
        refine J_bipush C 86 (by decide) dX6_unlikePairs_65 ?_
        refine J_iload_n C rfl dX6_unlikePairs_67 ?_
        refine J_iadd C dX6_unlikePairs_68 ?_
        refine J_i (nI_add 86 ((σ 0 4 - 1) - i) : (86 + (nI ((σ 0 4 - 1) - i)) : Int32) = (nI (86 + ((σ 0 4 - 1) - i)))) ?_
        refine J_iald C 1 rfl (86 + ((σ 0 4 - 1) - i)) rfl (by omega) (Nat.le_of_ble_eq_true rfl) dX6_unlikePairs_69 ?_
        refine J_i (y := nI (σ 3 ((σ 0 4 - 1) - i))) (congrArg nI (rowM_3 σ (by omega))) ?_
        refine J_icmp_eq C 77 (by decide) dX6_unlikePairs_70 (fun c70 => ?_) (fun c70 => ?_)
        · skip
          have c70 := cv_eq_t (a := (σ 3 i)) (b := (σ 3 ((σ 0 4 - 1) - i))) (by omega) (by omega) c70
          refine J_iconst C 0 (by decide) dX6_unlikePairs_77 ?_
          refine J_iadd C dX6_unlikePairs_78 ?_
          refine J_i (nI_add (sumN (unl σ) i) 0 : ((nI (sumN (unl σ) i)) + 0 : Int32) = (nI (sumN (unl σ) i + 0))) ?_
          refine J_istore_n C [(1, .int (nI (sumN (unl σ) i + 0))), (3, .int (nI ((σ 0 4 - 1) - i))), (0, .ref (mo 0)), (2, .int (nI i))] (by decide) rfl dX6_unlikePairs_79 ?_
          have hsum : nI (sumN (unl σ) i + 0) = nI (sumN (unl σ) (i + 1)) := by show _ = nI (sumN (unl σ) i + (unl σ) i); rw [show (unl σ) i = 0 from if_neg (by omega)]
          rw [hsum]
          refine J_iinc C (nI (i + 1)) [(2, .int (nI (i + 1))), (1, .int (nI (sumN (unl σ) (i + 1)))), (3, .int (nI ((σ 0 4 - 1) - i))), (0, .ref (mo 0))] 3 rfl (by first | exact nI_add _ 1 | rfl) (by decide) rfl dX6_unlikePairs_80 ?_
          refine J_goto C 4 (by decide) dX6_unlikePairs_83 ?_
          refine J_lvp [3, 1, 0] [(0, .ref (mo 0)), (1, .int (nI (sumN (unl σ) (i + 1)))), (2, .int (nI (i + 1)))] rfl ?_
          exact ih (i + 1) (by omega) (by omega)
        · skip
          have c70 := cv_eq_f (a := (σ 3 i)) (b := (σ 3 ((σ 0 4 - 1) - i))) (by omega) (by omega) c70
          refine J_iconst C 1 (by decide) dX6_unlikePairs_73 ?_
          refine J_goto C 78 (by decide) dX6_unlikePairs_74 ?_
          refine J_iadd C dX6_unlikePairs_78 ?_
          refine J_i (nI_add (sumN (unl σ) i) 1 : ((nI (sumN (unl σ) i)) + 1 : Int32) = (nI (sumN (unl σ) i + 1))) ?_
          refine J_istore_n C [(1, .int (nI (sumN (unl σ) i + 1))), (3, .int (nI ((σ 0 4 - 1) - i))), (0, .ref (mo 0)), (2, .int (nI i))] (by decide) rfl dX6_unlikePairs_79 ?_
          have hsum : nI (sumN (unl σ) i + 1) = nI (sumN (unl σ) (i + 1)) := by show _ = nI (sumN (unl σ) i + (unl σ) i); rw [show (unl σ) i = 1 from if_pos (by omega)]
          rw [hsum]
          refine J_iinc C (nI (i + 1)) [(2, .int (nI (i + 1))), (1, .int (nI (sumN (unl σ) (i + 1)))), (3, .int (nI ((σ 0 4 - 1) - i))), (0, .ref (mo 0))] 3 rfl (by first | exact nI_add _ 1 | rfl) (by decide) rfl dX6_unlikePairs_80 ?_
          refine J_goto C 4 (by decide) dX6_unlikePairs_83 ?_
          refine J_lvp [3, 1, 0] [(0, .ref (mo 0)), (1, .int (nI (sumN (unl σ) (i + 1)))), (2, .int (nI (i + 1)))] rfl ?_
          exact ih (i + 1) (by omega) (by omega)

set_option maxHeartbeats 4000000 in
set_option maxRecDepth 100000 in
theorem ct_mUnread (l : Launch) (G : GT) (mo : Nat → Nat) (σ : AS) (kf tf H sf df xf : Nat → Nat) (hn ik tl sp rd : Nat) (gr : Int32) (hI : Inv σ) : Ct (S := Unit) l G NoX yX6_unlikeReadings (Wy yX6_unlikeReadings cX6_unlikeReadings 4 ((Option.some Jvm.ClassFile.FieldType.int))) { frames := 0, cells := 0, slots := 0, locals := 0 } [.ref (mo 0)] (mdW G mo σ kf tf H sf df xf hn ik tl sp rd gr) (fun u => True) (fun u => some (.int (nI (sumN (unl σ) (σ 0 4) / 2)))) (fun u => mdW G mo σ kf tf H sf df xf hn ik tl sp rd gr) := by
  refine Ct.of (by decide) (Nat.le_of_ble_eq_true rfl) (fun p e s m args below meth c C hr hnm hX => ?_)
  have h40 := hI.a
  have hsl : sumN (unl σ) (σ 0 4) ≤ σ 0 4 * 1 := sumN_le _ (fun q _ => by unfold unl; split <;> omega)
  refine J_iconst C 0 (by decide) dX6_unlikeReadings_0 ?_
  refine J_istore_n C [(1, .int 0), (0, .ref (mo 0))] (by decide) rfl dX6_unlikeReadings_1 ?_
  refine J_iconst C 0 (by decide) dX6_unlikeReadings_2 ?_
  refine J_istore_n C [(2, .int 0), (1, .int 0), (0, .ref (mo 0))] (by decide) rfl dX6_unlikeReadings_3 ?_
  refine J_lvp [2, 1, 0] [(0, .ref (mo 0)), (1, .int 0), (2, .int 0)] rfl ?_
  refine J_loop (fun i => mdW G mo σ kf tf H sf df xf hn ik tl sp rd gr) (fun i => [(0, .ref (mo 0)), (1, .int (nI (sumN (unl σ) i))), (2, .int (nI i))]) (fun i => i ≤ σ 0 4) (fun i => σ 0 4 - i) (fun i hi2 ih => ?_) 0 (Nat.zero_le _) rfl rfl
  refine J_iload_n C rfl dX6_unlikeReadings_4 ?_
  refine J_aload_n C rfl dX6_unlikeReadings_5 ?_
  refine J_get C 0 0 in6 rfl rfl (by decide) k575 rfl dX6_unlikeReadings_6 ?_
  refine J_iconst C 4 (by decide) dX6_unlikeReadings_9 ?_
  refine J_iald C 1 rfl 4 rfl (by decide) (Nat.le_of_ble_eq_true rfl) dX6_unlikeReadings_10 ?_
  refine J_i (y := nI (σ 0 4)) (rfl) ?_
  refine J_icmp_ge C 76 (by decide) dX6_unlikeReadings_11 (fun c11 => ?_) (fun c11 => ?_)
  · skip
    have c11 := cv_ge_t (a := i) (b := (σ 0 4)) (by omega) (by omega) c11
    have hie : i = σ 0 4 := by omega
    rw [hie]
    refine J_lvp [0, 1] [(0, .ref (mo 0)), (1, .int (nI (sumN (unl σ) (σ 0 4))))] rfl ?_
    refine J_iload_n C rfl dX6_unlikeReadings_76 ?_
    refine J_iconst C 2 (by decide) dX6_unlikeReadings_77 ?_
    refine J_idiv C (by decide) dX6_unlikeReadings_78 ?_
    refine J_i (pk_div (a := sumN (unl σ) (σ 0 4)) (d := 2) (by omega) (by omega) (by omega) : ((nI (sumN (unl σ) (σ 0 4))) / 2 : Int32) = (nI ((sumN (unl σ) (σ 0 4)) / 2))) ?_
    exact J_zret C hr rfl dX6_unlikeReadings_79 () rfl trivial rfl
  · skip
    have c11 := cv_ge_f (a := i) (b := (σ 0 4)) (by omega) (by omega) c11
    have hqa := hI.q (q := i) (by omega)
    have hqb := hI.q (q := σ 0 4 - 1 - i) (by omega)
    refine J_aload_n C rfl dX6_unlikeReadings_14 ?_
    refine J_get C 0 0 in6 rfl rfl (by decide) k575 rfl dX6_unlikeReadings_15 ?_
    refine J_bipush C 86 (by decide) dX6_unlikeReadings_18 ?_
    refine J_aload_n C rfl dX6_unlikeReadings_20 ?_
    refine J_get C 0 0 in6 rfl rfl (by decide) k575 rfl dX6_unlikeReadings_21 ?_
    refine J_iconst C 4 (by decide) dX6_unlikeReadings_24 ?_
    refine J_iald C 1 rfl 4 rfl (by decide) (Nat.le_of_ble_eq_true rfl) dX6_unlikeReadings_25 ?_
    refine J_i (y := nI (σ 0 4)) (rfl) ?_
    refine J_iadd C dX6_unlikeReadings_26 ?_
    refine J_i (nI_add 86 (σ 0 4) : (86 + (nI (σ 0 4)) : Int32) = (nI (86 + σ 0 4))) ?_
    refine J_iconst C 1 (by decide) dX6_unlikeReadings_27 ?_
    refine J_isub C dX6_unlikeReadings_28 ?_
    refine J_i (pk_sub (a := 86 + σ 0 4) (b := 1) (by omega) : ((nI (86 + σ 0 4)) - 1 : Int32) = (nI ((86 + σ 0 4) - 1))) ?_
    refine J_iload_n C rfl dX6_unlikeReadings_29 ?_
    refine J_isub C dX6_unlikeReadings_30 ?_
    refine J_i ((by rw [pk_sub (by omega)]; exact congrArg nI (by omega)) : ((nI ((86 + σ 0 4) - 1)) - (nI i) : Int32) = (nI (86 + (σ 0 4 - 1 - i)))) ?_
    refine J_iald C 1 rfl (86 + (σ 0 4 - 1 - i)) rfl (by omega) (Nat.le_of_ble_eq_true rfl) dX6_unlikeReadings_31 ?_
    refine J_i (y := nI (σ 3 (σ 0 4 - 1 - i))) (congrArg nI (rowM_3 σ (by omega))) ?_
    refine J_istore_n C [(3, .int (nI (σ 3 (σ 0 4 - 1 - i)))), (0, .ref (mo 0)), (1, .int (nI (sumN (unl σ) i))), (2, .int (nI i))] (by decide) rfl dX6_unlikeReadings_32 ?_
    refine J_iload_n C rfl dX6_unlikeReadings_33 ?_
    refine J_aload_n C rfl dX6_unlikeReadings_34 ?_
    refine J_get C 0 0 in6 rfl rfl (by decide) k575 rfl dX6_unlikeReadings_35 ?_
    refine J_bipush C 86 (by decide) dX6_unlikeReadings_38 ?_
    refine J_iload_n C rfl dX6_unlikeReadings_40 ?_
    refine J_iadd C dX6_unlikeReadings_41 ?_
    refine J_i (nI_add 86 i : (86 + (nI i) : Int32) = (nI (86 + i))) ?_
    refine J_iald C 1 rfl (86 + i) rfl (by omega) (Nat.le_of_ble_eq_true rfl) dX6_unlikeReadings_42 ?_
    refine J_i (y := nI (σ 3 i)) (congrArg nI (rowM_3 σ (by omega))) ?_
    refine J_iload_n C rfl dX6_unlikeReadings_43 ?_
    refine J_icmp_eq C 67 (by decide) dX6_unlikeReadings_44 (fun c44 => ?_) (fun c44 => ?_)
    · skip
      have c44 := cv_eq_t (a := (σ 3 i)) (b := (σ 3 (σ 0 4 - 1 - i))) (by omega) (by omega) c44
      refine J_iconst C 0 (by decide) dX6_unlikeReadings_67 ?_
      refine J_iadd C dX6_unlikeReadings_68 ?_
      refine J_i (nI_add (sumN (unl σ) i) 0 : ((nI (sumN (unl σ) i)) + 0 : Int32) = (nI (sumN (unl σ) i + 0))) ?_
      refine J_istore_n C [(1, .int (nI (sumN (unl σ) i + 0))), (3, .int (nI (σ 3 (σ 0 4 - 1 - i)))), (0, .ref (mo 0)), (2, .int (nI i))] (by decide) rfl dX6_unlikeReadings_69 ?_
      have hsum : nI (sumN (unl σ) i + 0) = nI (sumN (unl σ) (i + 1)) := by show _ = nI (sumN (unl σ) i + (unl σ) i); rw [show (unl σ) i = 0 from if_neg (by omega)]
      rw [hsum]
      refine J_iinc C (nI (i + 1)) [(2, .int (nI (i + 1))), (1, .int (nI (sumN (unl σ) (i + 1)))), (3, .int (nI (σ 3 (σ 0 4 - 1 - i)))), (0, .ref (mo 0))] 3 rfl (by first | exact nI_add _ 1 | rfl) (by decide) rfl dX6_unlikeReadings_70 ?_
      refine J_goto C 4 (by decide) dX6_unlikeReadings_73 ?_
      refine J_lvp [3, 1, 0] [(0, .ref (mo 0)), (1, .int (nI (sumN (unl σ) (i + 1)))), (2, .int (nI (i + 1)))] rfl ?_
      exact ih (i + 1) (by omega) (by omega)
    · skip
      have c44 := cv_eq_f (a := (σ 3 i)) (b := (σ 3 (σ 0 4 - 1 - i))) (by omega) (by omega) c44
      refine J_iload_n C rfl dX6_unlikeReadings_47 ?_
      refine J_if_le C 67 (by decide) dX6_unlikeReadings_48 (fun c48 => ?_) (fun c48 => ?_)
      · skip
        have c48 := cv_le_t (a := (σ 3 (σ 0 4 - 1 - i))) (b := 0) (by omega) (by omega) c48
        refine J_iconst C 0 (by decide) dX6_unlikeReadings_67 ?_
        refine J_iadd C dX6_unlikeReadings_68 ?_
        refine J_i (nI_add (sumN (unl σ) i) 0 : ((nI (sumN (unl σ) i)) + 0 : Int32) = (nI (sumN (unl σ) i + 0))) ?_
        refine J_istore_n C [(1, .int (nI (sumN (unl σ) i + 0))), (3, .int (nI (σ 3 (σ 0 4 - 1 - i)))), (0, .ref (mo 0)), (2, .int (nI i))] (by decide) rfl dX6_unlikeReadings_69 ?_
        have hsum : nI (sumN (unl σ) i + 0) = nI (sumN (unl σ) (i + 1)) := by show _ = nI (sumN (unl σ) i + (unl σ) i); rw [show (unl σ) i = 0 from if_neg (by omega)]
        rw [hsum]
        refine J_iinc C (nI (i + 1)) [(2, .int (nI (i + 1))), (1, .int (nI (sumN (unl σ) (i + 1)))), (3, .int (nI (σ 3 (σ 0 4 - 1 - i)))), (0, .ref (mo 0))] 3 rfl (by first | exact nI_add _ 1 | rfl) (by decide) rfl dX6_unlikeReadings_70 ?_
        refine J_goto C 4 (by decide) dX6_unlikeReadings_73 ?_
        refine J_lvp [3, 1, 0] [(0, .ref (mo 0)), (1, .int (nI (sumN (unl σ) (i + 1)))), (2, .int (nI (i + 1)))] rfl ?_
        exact ih (i + 1) (by omega) (by omega)
      · skip
        have c48 := cv_le_f (a := (σ 3 (σ 0 4 - 1 - i))) (b := 0) (by omega) (by omega) c48
        refine J_aload_n C rfl dX6_unlikeReadings_51 ?_
        refine J_get C 0 0 in6 rfl rfl (by decide) k575 rfl dX6_unlikeReadings_52 ?_
        refine J_bipush C 86 (by decide) dX6_unlikeReadings_55 ?_
        refine J_iload_n C rfl dX6_unlikeReadings_57 ?_
        refine J_iadd C dX6_unlikeReadings_58 ?_
        refine J_i (nI_add 86 i : (86 + (nI i) : Int32) = (nI (86 + i))) ?_
        refine J_iald C 1 rfl (86 + i) rfl (by omega) (Nat.le_of_ble_eq_true rfl) dX6_unlikeReadings_59 ?_
        refine J_i (y := nI (σ 3 i)) (congrArg nI (rowM_3 σ (by omega))) ?_
        refine J_if_le C 67 (by decide) dX6_unlikeReadings_60 (fun c60 => ?_) (fun c60 => ?_)
        · skip
          have c60 := cv_le_t (a := (σ 3 i)) (b := 0) (by omega) (by omega) c60
          refine J_iconst C 0 (by decide) dX6_unlikeReadings_67 ?_
          refine J_iadd C dX6_unlikeReadings_68 ?_
          refine J_i (nI_add (sumN (unl σ) i) 0 : ((nI (sumN (unl σ) i)) + 0 : Int32) = (nI (sumN (unl σ) i + 0))) ?_
          refine J_istore_n C [(1, .int (nI (sumN (unl σ) i + 0))), (3, .int (nI (σ 3 (σ 0 4 - 1 - i)))), (0, .ref (mo 0)), (2, .int (nI i))] (by decide) rfl dX6_unlikeReadings_69 ?_
          have hsum : nI (sumN (unl σ) i + 0) = nI (sumN (unl σ) (i + 1)) := by show _ = nI (sumN (unl σ) i + (unl σ) i); rw [show (unl σ) i = 0 from if_neg (by omega)]
          rw [hsum]
          refine J_iinc C (nI (i + 1)) [(2, .int (nI (i + 1))), (1, .int (nI (sumN (unl σ) (i + 1)))), (3, .int (nI (σ 3 (σ 0 4 - 1 - i)))), (0, .ref (mo 0))] 3 rfl (by first | exact nI_add _ 1 | rfl) (by decide) rfl dX6_unlikeReadings_70 ?_
          refine J_goto C 4 (by decide) dX6_unlikeReadings_73 ?_
          refine J_lvp [3, 1, 0] [(0, .ref (mo 0)), (1, .int (nI (sumN (unl σ) (i + 1)))), (2, .int (nI (i + 1)))] rfl ?_
          exact ih (i + 1) (by omega) (by omega)
        · skip
          have c60 := cv_le_f (a := (σ 3 i)) (b := 0) (by omega) (by omega) c60
          refine J_iconst C 1 (by decide) dX6_unlikeReadings_63 ?_
          refine J_goto C 68 (by decide) dX6_unlikeReadings_64 ?_
          refine J_iadd C dX6_unlikeReadings_68 ?_
          refine J_i (nI_add (sumN (unl σ) i) 1 : ((nI (sumN (unl σ) i)) + 1 : Int32) = (nI (sumN (unl σ) i + 1))) ?_
          refine J_istore_n C [(1, .int (nI (sumN (unl σ) i + 1))), (3, .int (nI (σ 3 (σ 0 4 - 1 - i)))), (0, .ref (mo 0)), (2, .int (nI i))] (by decide) rfl dX6_unlikeReadings_69 ?_
          have hsum : nI (sumN (unl σ) i + 1) = nI (sumN (unl σ) (i + 1)) := by show _ = nI (sumN (unl σ) i + (unl σ) i); rw [show (unl σ) i = 1 from if_pos (by omega)]
          rw [hsum]
          refine J_iinc C (nI (i + 1)) [(2, .int (nI (i + 1))), (1, .int (nI (sumN (unl σ) (i + 1)))), (3, .int (nI (σ 3 (σ 0 4 - 1 - i)))), (0, .ref (mo 0))] 3 rfl (by first | exact nI_add _ 1 | rfl) (by decide) rfl dX6_unlikeReadings_70 ?_
          refine J_goto C 4 (by decide) dX6_unlikeReadings_73 ?_
          refine J_lvp [3, 1, 0] [(0, .ref (mo 0)), (1, .int (nI (sumN (unl σ) (i + 1)))), (2, .int (nI (i + 1)))] rfl ?_
          exact ih (i + 1) (by omega) (by omega)

set_option maxHeartbeats 4000000 in
set_option maxRecDepth 100000 in
theorem ct_mNeeded (l : Launch) (G : GT) (mo : Nat → Nat) (σ : AS) (kf tf H sf df xf : Nat → Nat) (hn ik tl sp rd : Nat) (gr : Int32) (hI : Inv σ) : Ct (S := Unit) l G NoX yX6_needed (Wy yX6_needed cX6_needed 3 ((Option.some Jvm.ClassFile.FieldType.double))) { frames := 2, cells := 0, slots := 0, locals := 42 } [.ref (mo 0)] (mdW G mo σ kf tf H sf df xf hn ik tl sp rd gr) (fun u => True) (fun u => some (.double (dl (sumN (ndF σ) (σ 0 4))))) (fun u => mdW G mo σ kf tf H sf df xf hn ik tl sp rd gr) := by
  refine Ct.of (by decide) (Nat.le_of_ble_eq_true rfl) (fun p e s m args below meth c C hr hnm hX => ?_)
  have h40 := hI.a
  have hnl : ∀ k, k ≤ σ 0 4 → sumN (ndF σ) k ≤ k * 26 := fun k hk => sumN_le _ (fun q hq => by have h1 := hI.let (p := q) (by omega); unfold ndF; split <;> omega)
  refine J_iconst C 0 (by decide) dX6_needed_0 ?_
  refine J_istore_n C [(1, .int 0), (0, .ref (mo 0))] (by decide) rfl dX6_needed_1 ?_
  refine J_iconst C 0 (by decide) dX6_needed_2 ?_
  refine J_istore_n C [(2, .int 0), (1, .int 0), (0, .ref (mo 0))] (by decide) rfl dX6_needed_3 ?_
  refine J_lvp [2, 1, 0] [(0, .ref (mo 0)), (1, .int 0), (2, .int 0)] rfl ?_
  refine J_loop (fun i => mdW G mo σ kf tf H sf df xf hn ik tl sp rd gr) (fun i => [(0, .ref (mo 0)), (1, .int (nI (sumN (ndF σ) i))), (2, .int (nI i))]) (fun i => i ≤ σ 0 4) (fun i => σ 0 4 - i) (fun i hi2 ih => ?_) 0 (Nat.zero_le _) rfl rfl
  refine J_iload_n C rfl dX6_needed_4 ?_
  refine J_aload_n C rfl dX6_needed_5 ?_
  refine J_get C 0 0 in6 rfl rfl (by decide) k575 rfl dX6_needed_6 ?_
  refine J_iconst C 4 (by decide) dX6_needed_9 ?_
  refine J_iald C 1 rfl 4 rfl (by decide) (Nat.le_of_ble_eq_true rfl) dX6_needed_10 ?_
  refine J_i (y := nI (σ 0 4)) (rfl) ?_
  refine J_icmp_ge C 44 (by decide) dX6_needed_11 (fun c11 => ?_) (fun c11 => ?_)
  · skip
    have c11 := cv_ge_t (a := i) (b := (σ 0 4)) (by omega) (by omega) c11
    have hie : i = σ 0 4 := by omega
    rw [hie]
    refine J_lvp [0, 1] [(0, .ref (mo 0)), (1, .int (nI (sumN (ndF σ) (σ 0 4))))] rfl ?_
    have hb9 := hnl (σ 0 4) (Nat.le_refl _)
    refine J_iload_n C rfl dX6_needed_44 ?_
    refine J_i2d C dX6_needed_45 ?_
    refine J_ldc2d C k758 dX6_needed_46 ?_
    refine J_ddiv C (by rw [dl_div (n := sumN (ndF σ) (σ 0 4)) (by omega)]; exact dl_num (by omega)) dX6_needed_49 ?_
    refine J_d (dl_div (n := sumN (ndF σ) (σ 0 4)) (by omega) : (FP.ddiv (FP.i2d (nI (sumN (ndF σ) (σ 0 4)))) 4634204016564240384 : UInt64) = (dl (sumN (ndF σ) (σ 0 4)))) ?_
    exact J_dret C hr dX6_needed_50 () rfl trivial rfl
  · skip
    have c11 := cv_ge_f (a := i) (b := (σ 0 4)) (by omega) (by omega) c11
    have hqa := hI.q (q := i) (by omega)
    refine J_iload_n C rfl dX6_needed_14 ?_
    refine J_aload_n C rfl dX6_needed_15 ?_
    refine J_get C 0 0 in6 rfl rfl (by decide) k575 rfl dX6_needed_16 ?_
    refine J_bipush C 86 (by decide) dX6_needed_19 ?_
    refine J_iload_n C rfl dX6_needed_21 ?_
    refine J_iadd C dX6_needed_22 ?_
    refine J_i (nI_add 86 i : (86 + (nI i) : Int32) = (nI (86 + i))) ?_
    refine J_iald C 1 rfl (86 + i) rfl (by omega) (Nat.le_of_ble_eq_true rfl) dX6_needed_23 ?_
    refine J_i (y := nI (σ 3 i)) (congrArg nI (rowM_3 σ (by omega))) ?_
    refine J_if_ne C 35 (by decide) dX6_needed_24 (fun c24 => ?_) (fun c24 => ?_)
    · skip
      have c24 := cv_ne_t (a := (σ 3 i)) (b := 0) (by omega) (by omega) c24
      refine J_iconst C 0 (by decide) dX6_needed_35 ?_
      refine J_iadd C dX6_needed_36 ?_
      refine J_i (nI_add (sumN (ndF σ) i) 0 : ((nI (sumN (ndF σ) i)) + 0 : Int32) = (nI (sumN (ndF σ) i + 0))) ?_
      refine J_istore_n C [(1, .int (nI (sumN (ndF σ) i + 0))), (0, .ref (mo 0)), (2, .int (nI i))] (by decide) rfl dX6_needed_37 ?_
      have hsum : nI (sumN (ndF σ) i + 0) = nI (sumN (ndF σ) (i + 1)) := by show _ = nI (sumN (ndF σ) i + (ndF σ) i); rw [show (ndF σ) i = 0 from if_pos (by omega)]
      rw [hsum]
      refine J_iinc C (nI (i + 1)) [(2, .int (nI (i + 1))), (1, .int (nI (sumN (ndF σ) (i + 1)))), (0, .ref (mo 0))] 2 rfl (by first | exact nI_add _ 1 | rfl) (by decide) rfl dX6_needed_38 ?_
      refine J_goto C 4 (by decide) dX6_needed_41 ?_
      refine J_lvp [2, 1, 0] [(0, .ref (mo 0)), (1, .int (nI (sumN (ndF σ) (i + 1)))), (2, .int (nI (i + 1)))] rfl ?_
      exact ih (i + 1) (by omega) (by omega)
    · skip
      have c24 := cv_ne_f (a := (σ 3 i)) (b := 0) (by omega) (by omega) c24
      refine J_aload_n C rfl dX6_needed_27 ?_
      refine J_iload_n C rfl dX6_needed_28 ?_
      refine J_callV (as := [.int (nI i)]) (rest := [.int (nI (sumN (ndF σ) i))]) C (ct_letAt l G mo σ kf tf H sf df xf hn ik tl sp rd gr i (by omega) (by omega) hqa.1) (fun u => mdW G mo σ kf tf H sf df xf hn ik tl sp rd gr) [0, 1, 2, 3, 4, 5, 6, 7] [] 1 k663 k665 k18 k38 k666 rfl (by decide +kernel) ⟨Nat.le_of_ble_eq_true rfl, Nat.le_of_ble_eq_true rfl⟩ ⟨Nat.le_of_ble_eq_true rfl, Nat.le_of_ble_eq_true rfl⟩ dX6_needed_29 (Nat.le_of_ble_eq_true rfl) 0 rfl rfl rfl (by decide +kernel) (fun _ => rfl) ([]) rfl (fun _ => rfl) 8 (fun _ => rfl) (by decide +kernel) (by decide +kernel) (fun _ _ => ?_)
      refine J_st (st' := [.int (nI (letAt σ i)), .int (nI (sumN (ndF σ) i))]) rfl ?_
      refine J_goto C 36 (by decide) dX6_needed_32 ?_
      refine J_iadd C dX6_needed_36 ?_
      refine J_i (nI_add (sumN (ndF σ) i) (letAt σ i) : ((nI (sumN (ndF σ) i)) + (nI (letAt σ i)) : Int32) = (nI (sumN (ndF σ) i + letAt σ i))) ?_
      refine J_istore_n C [(1, .int (nI (sumN (ndF σ) i + letAt σ i))), (0, .ref (mo 0)), (2, .int (nI i))] (by decide) rfl dX6_needed_37 ?_
      have hsum : nI (sumN (ndF σ) i + letAt σ i) = nI (sumN (ndF σ) (i + 1)) := by show _ = nI (sumN (ndF σ) i + (ndF σ) i); rw [show (ndF σ) i = letAt σ i from if_neg (by omega)]
      rw [hsum]
      refine J_iinc C (nI (i + 1)) [(2, .int (nI (i + 1))), (1, .int (nI (sumN (ndF σ) (i + 1)))), (0, .ref (mo 0))] 2 rfl (by first | exact nI_add _ 1 | rfl) (by decide) rfl dX6_needed_38 ?_
      refine J_goto C 4 (by decide) dX6_needed_41 ?_
      refine J_lvp [2, 1, 0] [(0, .ref (mo 0)), (1, .int (nI (sumN (ndF σ) (i + 1)))), (2, .int (nI (i + 1)))] rfl ?_
      exact ih (i + 1) (by omega) (by omega)

set_option maxHeartbeats 4000000 in
set_option maxRecDepth 100000 in
theorem ct_mCount (l : Launch) (G : GT) (mo : Nat → Nat) (σ : AS) (kf tf H sf df xf : Nat → Nat) (hn ik tl sp rd : Nat) (gr : Int32) (x : Int32) (hI : Inv σ) : Ct (S := Unit) l G NoX yX6_count (Wy yX6_count cX6_count 2 ((Option.some Jvm.ClassFile.FieldType.int))) { frames := 2, cells := 0, slots := 0, locals := 45 } [.ref (mo 0), .int x] (mdW G mo σ kf tf H sf df xf hn ik tl sp rd gr) (fun u => True) (fun u => some (.int (cntF σ hn tl x.toInt))) (fun u => mdW G mo σ kf tf H sf df xf hn ik tl sp rd gr) := by
  refine Ct.of (by decide) (Nat.le_of_ble_eq_true rfl) (fun p e s m args below meth c C hr hnm hX => ?_)
  have h40 := hI.a
  have hc := hI.c
  have hi := hI.i
  have hs := hI.s
  refine J_iload_n C rfl dX6_count_0 ?_
  rcases (show (x.toInt < 0 ∨ 13 < x.toInt) ∨ x.toInt = 0 ∨ x.toInt = 1 ∨ x.toInt = 2 ∨ x.toInt = 3 ∨ x.toInt = 4 ∨ x.toInt = 5 ∨ x.toInt = 6 ∨ x.toInt = 7 ∨ x.toInt = 8 ∨ x.toInt = 9 ∨ x.toInt = 10 ∨ x.toInt = 11 ∨ x.toInt = 12 ∨ x.toInt = 13 by omega) with hsw | hwi | hwi | hwi | hwi | hwi | hwi | hwi | hwi | hwi | hwi | hwi | hwi | hwi | hwi
  · skip
    refine J_tableOut C 127 hsw (by decide) dX6_count_1 ?_
    refine J_bipush C (-2) (by decide) dX6_count_127 ?_
    exact J_zret C hr rfl dX6_count_129 () (by rw [show cntF σ hn tl x.toInt = -2 from by unfold cntF; rw [if_neg (by omega), if_neg (by omega), if_neg (by omega), if_neg (by omega), if_neg (by omega), if_neg (by omega), if_neg (by omega), if_neg (by omega), if_neg (by omega), if_neg (by omega), if_neg (by omega), if_neg (by omega), if_neg (by omega), if_neg (by omega)]]) trivial rfl
  · skip
    have hw : x = 0 := Int32.toInt_inj.mp (by rw [hwi]; decide)
    subst hw
    refine J_tableIn C 72 (by decide) (by decide) rfl (by decide) dX6_count_1 ?_
    refine J_aload_n C rfl dX6_count_72 ?_
    refine J_get C 0 0 in6 rfl rfl (by decide) k575 rfl dX6_count_73 ?_
    refine J_iconst C 3 (by decide) dX6_count_76 ?_
    refine J_iload_n C rfl dX6_count_77 ?_
    refine J_iadd C dX6_count_78 ?_
    refine J_i ((by decide) : (3 + 0 : Int32) = 3) ?_
    refine J_iald C 1 rfl 3 rfl (by decide) (Nat.le_of_ble_eq_true rfl) dX6_count_79 ?_
    refine J_i (y := nI (σ 0 3)) (rfl) ?_
    exact J_zret C hr rfl dX6_count_80 () (by rw [hwi] <;> rfl) trivial rfl
  · skip
    have hw : x = 1 := Int32.toInt_inj.mp (by rw [hwi]; decide)
    subst hw
    refine J_tableIn C 72 (by decide) (by decide) rfl (by decide) dX6_count_1 ?_
    refine J_aload_n C rfl dX6_count_72 ?_
    refine J_get C 0 0 in6 rfl rfl (by decide) k575 rfl dX6_count_73 ?_
    refine J_iconst C 3 (by decide) dX6_count_76 ?_
    refine J_iload_n C rfl dX6_count_77 ?_
    refine J_iadd C dX6_count_78 ?_
    refine J_i ((by decide) : (3 + 1 : Int32) = 4) ?_
    refine J_iald C 1 rfl 4 rfl (by decide) (Nat.le_of_ble_eq_true rfl) dX6_count_79 ?_
    refine J_i (y := nI (σ 0 4)) (rfl) ?_
    exact J_zret C hr rfl dX6_count_80 () (by rw [hwi] <;> rfl) trivial rfl
  · skip
    have hw : x = 2 := Int32.toInt_inj.mp (by rw [hwi]; decide)
    subst hw
    refine J_tableIn C 81 (by decide) (by decide) rfl (by decide) dX6_count_1 ?_
    refine J_aload_n C rfl dX6_count_81 ?_
    refine J_iload_n C rfl dX6_count_82 ?_
    refine J_iconst C 2 (by decide) dX6_count_83 ?_
    refine J_isub C dX6_count_84 ?_
    refine J_i ((by decide) : (2 - 2 : Int32) = 0) ?_
    refine J_callV (as := [.int 0]) (rest := []) C (ct_places0 l G mo σ kf tf H sf df xf hn ik tl sp rd gr hI) (fun u => mdW G mo σ kf tf H sf df xf hn ik tl sp rd gr) [0, 1, 2, 3, 4, 5, 6, 7] [] 1 k804 k806 k30 k38 k807 rfl (by decide +kernel) ⟨Nat.le_of_ble_eq_true rfl, Nat.le_of_ble_eq_true rfl⟩ ⟨Nat.le_of_ble_eq_true rfl, Nat.le_of_ble_eq_true rfl⟩ dX6_count_85 (Nat.le_of_ble_eq_true rfl) 0 rfl rfl rfl (by decide +kernel) (fun _ => rfl) ([]) rfl (fun _ => rfl) 8 (fun _ => rfl) (by decide +kernel) (by decide +kernel) (fun _ _ => ?_)
    refine J_st (st' := [.int (nI (sumN (wrN σ) (σ 0 4)))]) rfl ?_
    exact J_zret C hr rfl dX6_count_88 () (by rw [hwi, show cntF σ hn tl 2 = nI (σ 0 14 + σ 0 15) from rfl, sum_wr hI]) trivial rfl
  · skip
    have hw : x = 3 := Int32.toInt_inj.mp (by rw [hwi]; decide)
    subst hw
    refine J_tableIn C 81 (by decide) (by decide) rfl (by decide) dX6_count_1 ?_
    refine J_aload_n C rfl dX6_count_81 ?_
    refine J_iload_n C rfl dX6_count_82 ?_
    refine J_iconst C 2 (by decide) dX6_count_83 ?_
    refine J_isub C dX6_count_84 ?_
    refine J_i ((by decide) : (3 - 2 : Int32) = 1) ?_
    refine J_callV (as := [.int 1]) (rest := []) C (ct_places1 l G mo σ kf tf H sf df xf hn ik tl sp rd gr hI) (fun u => mdW G mo σ kf tf H sf df xf hn ik tl sp rd gr) [0, 1, 2, 3, 4, 5, 6, 7] [] 1 k804 k806 k30 k38 k807 rfl (by decide +kernel) ⟨Nat.le_of_ble_eq_true rfl, Nat.le_of_ble_eq_true rfl⟩ ⟨Nat.le_of_ble_eq_true rfl, Nat.le_of_ble_eq_true rfl⟩ dX6_count_85 (Nat.le_of_ble_eq_true rfl) 0 rfl rfl rfl (by decide +kernel) (fun _ => rfl) ([]) rfl (fun _ => rfl) 8 (fun _ => rfl) (by decide +kernel) (by decide +kernel) (fun _ _ => ?_)
    refine J_st (st' := [.int (nI (sumN (blN σ) (σ 0 4)))]) rfl ?_
    exact J_zret C hr rfl dX6_count_88 () (by rw [hwi] <;> rfl) trivial rfl
  · skip
    have hw : x = 4 := Int32.toInt_inj.mp (by rw [hwi]; decide)
    subst hw
    refine J_tableIn C 81 (by decide) (by decide) rfl (by decide) dX6_count_1 ?_
    refine J_aload_n C rfl dX6_count_81 ?_
    refine J_iload_n C rfl dX6_count_82 ?_
    refine J_iconst C 2 (by decide) dX6_count_83 ?_
    refine J_isub C dX6_count_84 ?_
    refine J_i ((by decide) : (4 - 2 : Int32) = 2) ?_
    refine J_callV (as := [.int 2]) (rest := []) C (ct_places2 l G mo σ kf tf H sf df xf hn ik tl sp rd gr hI) (fun u => mdW G mo σ kf tf H sf df xf hn ik tl sp rd gr) [0, 1, 2, 3, 4, 5, 6, 7] [] 1 k804 k806 k30 k38 k807 rfl (by decide +kernel) ⟨Nat.le_of_ble_eq_true rfl, Nat.le_of_ble_eq_true rfl⟩ ⟨Nat.le_of_ble_eq_true rfl, Nat.le_of_ble_eq_true rfl⟩ dX6_count_85 (Nat.le_of_ble_eq_true rfl) 0 rfl rfl rfl (by decide +kernel) (fun _ => rfl) ([]) rfl (fun _ => rfl) 8 (fun _ => rfl) (by decide +kernel) (by decide +kernel) (fun _ _ => ?_)
    refine J_st (st' := [.int (nI (sumN (notDue σ) (σ 0 4)))]) rfl ?_
    exact J_zret C hr rfl dX6_count_88 () (by rw [hwi] <;> rfl) trivial rfl
  · skip
    have hw : x = 5 := Int32.toInt_inj.mp (by rw [hwi]; decide)
    subst hw
    refine J_tableIn C 89 (by decide) (by decide) rfl (by decide) dX6_count_1 ?_
    refine J_aload_n C rfl dX6_count_89 ?_
    refine J_callV (as := []) (rest := []) C (ct_margin l G mo σ kf tf H sf df xf hn ik tl sp rd gr hI) (fun u => mdW G mo σ kf tf H sf df xf hn ik tl sp rd gr) [0, 1, 2, 3, 4, 5, 6, 7] [] 0 k675 k677 k20 k38 k678 rfl (by decide +kernel) ⟨Nat.le_of_ble_eq_true rfl, Nat.le_of_ble_eq_true rfl⟩ ⟨Nat.le_of_ble_eq_true rfl, Nat.le_of_ble_eq_true rfl⟩ dX6_count_90 (Nat.le_of_ble_eq_true rfl) 0 rfl rfl rfl (by decide +kernel) (fun _ => rfl) ([]) rfl (fun _ => rfl) 8 (fun _ => rfl) (by decide +kernel) (by decide +kernel) (fun _ _ => ?_)
    refine J_st (st' := [.int (nI (σ 7 2 - σ 0 5))]) rfl ?_
    exact J_zret C hr rfl dX6_count_93 () (by rw [hwi] <;> rfl) trivial rfl
  · skip
    have hw : x = 6 := Int32.toInt_inj.mp (by rw [hwi]; decide)
    subst hw
    refine J_tableIn C 94 (by decide) (by decide) rfl (by decide) dX6_count_1 ?_
    refine J_aload_n C rfl dX6_count_94 ?_
    refine J_get C 0 0 in6 rfl rfl (by decide) k575 rfl dX6_count_95 ?_
    refine J_bipush C 9 (by decide) dX6_count_98 ?_
    refine J_iload_n C rfl dX6_count_100 ?_
    refine J_iadd C dX6_count_101 ?_
    refine J_i ((by decide) : (9 + 6 : Int32) = 15) ?_
    refine J_bipush C 6 (by decide) dX6_count_102 ?_
    refine J_isub C dX6_count_104 ?_
    refine J_i ((by decide) : (15 - 6 : Int32) = 9) ?_
    refine J_iald C 1 rfl 9 rfl (by decide) (Nat.le_of_ble_eq_true rfl) dX6_count_105 ?_
    refine J_i (y := nI (σ 0 9)) (rfl) ?_
    exact J_zret C hr rfl dX6_count_106 () (by rw [hwi] <;> rfl) trivial rfl
  · skip
    have hw : x = 7 := Int32.toInt_inj.mp (by rw [hwi]; decide)
    subst hw
    refine J_tableIn C 94 (by decide) (by decide) rfl (by decide) dX6_count_1 ?_
    refine J_aload_n C rfl dX6_count_94 ?_
    refine J_get C 0 0 in6 rfl rfl (by decide) k575 rfl dX6_count_95 ?_
    refine J_bipush C 9 (by decide) dX6_count_98 ?_
    refine J_iload_n C rfl dX6_count_100 ?_
    refine J_iadd C dX6_count_101 ?_
    refine J_i ((by decide) : (9 + 7 : Int32) = 16) ?_
    refine J_bipush C 6 (by decide) dX6_count_102 ?_
    refine J_isub C dX6_count_104 ?_
    refine J_i ((by decide) : (16 - 6 : Int32) = 10) ?_
    refine J_iald C 1 rfl 10 rfl (by decide) (Nat.le_of_ble_eq_true rfl) dX6_count_105 ?_
    refine J_i (y := nI (σ 0 10)) (rfl) ?_
    exact J_zret C hr rfl dX6_count_106 () (by rw [hwi] <;> rfl) trivial rfl
  · skip
    have hw : x = 8 := Int32.toInt_inj.mp (by rw [hwi]; decide)
    subst hw
    refine J_tableIn C 94 (by decide) (by decide) rfl (by decide) dX6_count_1 ?_
    refine J_aload_n C rfl dX6_count_94 ?_
    refine J_get C 0 0 in6 rfl rfl (by decide) k575 rfl dX6_count_95 ?_
    refine J_bipush C 9 (by decide) dX6_count_98 ?_
    refine J_iload_n C rfl dX6_count_100 ?_
    refine J_iadd C dX6_count_101 ?_
    refine J_i ((by decide) : (9 + 8 : Int32) = 17) ?_
    refine J_bipush C 6 (by decide) dX6_count_102 ?_
    refine J_isub C dX6_count_104 ?_
    refine J_i ((by decide) : (17 - 6 : Int32) = 11) ?_
    refine J_iald C 1 rfl 11 rfl (by decide) (Nat.le_of_ble_eq_true rfl) dX6_count_105 ?_
    refine J_i (y := nI (σ 0 11)) (rfl) ?_
    exact J_zret C hr rfl dX6_count_106 () (by rw [hwi] <;> rfl) trivial rfl
  · skip
    have hw : x = 9 := Int32.toInt_inj.mp (by rw [hwi]; decide)
    subst hw
    refine J_tableIn C 107 (by decide) (by decide) rfl (by decide) dX6_count_1 ?_
    refine J_aload_n C rfl dX6_count_107 ?_
    refine J_get C 0 0 in6 rfl rfl (by decide) k575 rfl dX6_count_108 ?_
    refine J_iload_n C rfl dX6_count_111 ?_
    refine J_bipush C 9 (by decide) dX6_count_112 ?_
    refine J_isub C dX6_count_114 ?_
    refine J_i ((by decide) : (9 - 9 : Int32) = 0) ?_
    refine J_iald C 1 rfl 0 rfl (by decide) (Nat.le_of_ble_eq_true rfl) dX6_count_115 ?_
    refine J_i (y := nI (σ 7 0)) (rfl) ?_
    exact J_zret C hr rfl dX6_count_116 () (by rw [hwi] <;> rfl) trivial rfl
  · skip
    have hw : x = 10 := Int32.toInt_inj.mp (by rw [hwi]; decide)
    subst hw
    refine J_tableIn C 107 (by decide) (by decide) rfl (by decide) dX6_count_1 ?_
    refine J_aload_n C rfl dX6_count_107 ?_
    refine J_get C 0 0 in6 rfl rfl (by decide) k575 rfl dX6_count_108 ?_
    refine J_iload_n C rfl dX6_count_111 ?_
    refine J_bipush C 9 (by decide) dX6_count_112 ?_
    refine J_isub C dX6_count_114 ?_
    refine J_i ((by decide) : (10 - 9 : Int32) = 1) ?_
    refine J_iald C 1 rfl 1 rfl (by decide) (Nat.le_of_ble_eq_true rfl) dX6_count_115 ?_
    refine J_i (y := nI (σ 7 1)) (rfl) ?_
    exact J_zret C hr rfl dX6_count_116 () (by rw [hwi] <;> rfl) trivial rfl
  · skip
    have hw : x = 11 := Int32.toInt_inj.mp (by rw [hwi]; decide)
    subst hw
    refine J_tableIn C 107 (by decide) (by decide) rfl (by decide) dX6_count_1 ?_
    refine J_aload_n C rfl dX6_count_107 ?_
    refine J_get C 0 0 in6 rfl rfl (by decide) k575 rfl dX6_count_108 ?_
    refine J_iload_n C rfl dX6_count_111 ?_
    refine J_bipush C 9 (by decide) dX6_count_112 ?_
    refine J_isub C dX6_count_114 ?_
    refine J_i ((by decide) : (11 - 9 : Int32) = 2) ?_
    refine J_iald C 1 rfl 2 rfl (by decide) (Nat.le_of_ble_eq_true rfl) dX6_count_115 ?_
    refine J_i (y := nI (σ 7 2)) (rfl) ?_
    exact J_zret C hr rfl dX6_count_116 () (by rw [hwi] <;> rfl) trivial rfl
  · skip
    have hw : x = 12 := Int32.toInt_inj.mp (by rw [hwi]; decide)
    subst hw
    refine J_tableIn C 117 (by decide) (by decide) rfl (by decide) dX6_count_1 ?_
    refine J_aload_n C rfl dX6_count_117 ?_
    refine J_get C 0 4 in6 rfl rfl (by decide) k579 rfl dX6_count_118 ?_
    exact J_zret C hr rfl dX6_count_121 () (by rw [hwi] <;> rfl) trivial rfl
  · skip
    have hw : x = 13 := Int32.toInt_inj.mp (by rw [hwi]; decide)
    subst hw
    refine J_tableIn C 122 (by decide) (by decide) rfl (by decide) dX6_count_1 ?_
    refine J_aload_n C rfl dX6_count_122 ?_
    refine J_get C 0 9 in6 rfl rfl (by decide) k584 rfl dX6_count_123 ?_
    exact J_zret C hr rfl dX6_count_126 () (by rw [hwi] <;> rfl) trivial rfl
