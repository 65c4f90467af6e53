theorem in64 {lo v hi : Nat} (h1 : lo < 2147483648) (h2 : v < 2147483648) (h3 : hi < 2147483648) : ((nI lo).toInt64 ≤ (nI v).toInt64 ∧ (nI v).toInt64 ≤ (nI hi).toInt64) ↔ (lo ≤ v ∧ v ≤ hi) := by
  rw [fa_le64, fa_le64, Int32.toInt_toInt64, Int32.toInt_toInt64, Int32.toInt_toInt64, nI_toInt h1, nI_toInt h2, nI_toInt h3]
  omega
theorem letC_z {t : Nat → Nat} {L c : Nat} (h : letC t L c = 0) : ¬ (c < L ∧ 97 ≤ t c ∧ t c ≤ 122) := fun q => by
  unfold letC at h
  rw [if_pos q] at h
  omega
theorem gr_T {g n : Nat} (hg : g ≤ 100) (hn : n ≤ 100) (h : nI n ≤ nI g - 1) : nI g - 1 = nI (max g (n + 1)) - 1 := by
  have h1 : ¬ g ≤ n := fun q => by
    have h2 := (fa_lt _ _).mp ((far_lt hg hn).mpr q)
    have h3 := (fa_le _ _).mp h
    omega
  rw [show max g (n + 1) = g from by omega]
theorem gr_F {g n : Nat} (hg : g ≤ 100) (hn : n ≤ 100) (h : ¬ nI n ≤ nI g - 1) : nI n = nI (max g (n + 1)) - 1 := by
  have h1 : g ≤ n := Classical.byContradiction fun q => by
    have h4 : ¬ (nI g - 1 < nI n) := fun z => q ((far_lt hg hn).mp z)
    rw [fa_lt] at h4
    rw [fa_le] at h
    omega
  rw [show max g (n + 1) = n + 1 from by omega]
  exact (pk_sub (a := n + 1) (b := 1) (by omega)).symm

set_option maxHeartbeats 4000000 in
set_option maxRecDepth 100000 in
theorem ct_mBegun (l : Launch) (G : GT) (mo : Nat → Nat) (σ : AS) (kf tf H sf df xf : Nat → Nat) (hn ik tl sp rd : Nat) (gr : Int32) (j : Nat) (hI : Inv σ) (hj : j < σ 0 4) : Ct (S := Unit) l G NoX yX6_isBegun (Wy yX6_isBegun cX6_isBegun 4 ((Option.some Jvm.ClassFile.FieldType.boolean))) { frames := 1, cells := 0, slots := 0, locals := 22 } [.ref (mo 0), .int (nI j)] (mdW G mo σ kf tf H sf df xf hn ik tl sp rd gr) (fun u => True) (fun u => some (.int (if 0 < σ 3 j ∨ (0 < σ 0 16 ∧ σ 0 14 = j) ∨ (0 < σ 0 17 ∧ σ 0 4 - 1 - σ 0 15 = j) then 1 else 0))) (fun u => mdW G mo σ kf tf H sf df xf hn ik tl sp rd gr) := by
  refine Ct.of (by decide) (Nat.le_of_ble_eq_true rfl) (fun p e s m args below meth c C hr hnm hX => ?_)
  have h40 := hI.a
  have hc := hI.c
  have hl := hI.l
  have hr2 := hI.r
  have hq := hI.q (q := j) (by omega)
  refine J_aload_n C rfl dX6_isBegun_0 ?_
  refine J_get C 0 0 in6 rfl rfl (by decide) k575 rfl dX6_isBegun_1 ?_
  refine J_bipush C 86 (by decide) dX6_isBegun_4 ?_
  refine J_iload_n C rfl dX6_isBegun_6 ?_
  refine J_iadd C dX6_isBegun_7 ?_
  refine J_i (nI_add 86 j : (86 + (nI j) : Int32) = (nI (86 + j))) ?_
  refine J_iald C 1 rfl (86 + j) rfl (by omega) (Nat.le_of_ble_eq_true rfl) dX6_isBegun_8 ?_
  refine J_i (congrArg nI (rowM_3 σ (by omega)) : (nI ((rowM σ) (86 + j)) : Int32) = (nI (σ 3 j))) ?_
  refine J_if_le C 16 (by decide) dX6_isBegun_9 (fun c9 => ?_) (fun c9 => ?_)
  · skip
    have c9 := cv_le_t (a := (σ 3 j)) (b := 0) (by omega) (by omega) c9
    refine J_iconst C 0 (by decide) dX6_isBegun_16 ?_
    refine J_istore_n C [(2, .int 0), (0, .ref (mo 0)), (1, .int (nI j))] (by decide) rfl dX6_isBegun_17 ?_
    refine J_iconst C 0 (by decide) dX6_isBegun_18 ?_
    refine J_istore_n C [(3, .int 0), (2, .int 0), (0, .ref (mo 0)), (1, .int (nI j))] (by decide) rfl dX6_isBegun_19 ?_
    refine J_iload_n C rfl dX6_isBegun_20 ?_
    refine J_iconst C 2 (by decide) dX6_isBegun_21 ?_
    refine J_icmp_ge C 62 (by decide) dX6_isBegun_22 (fun h => absurd h (by decide)) (fun _ => ?_)
    refine J_iload_n C rfl dX6_isBegun_25 ?_
    refine J_if_ne C 50 (by decide) dX6_isBegun_26 (fun h => absurd h (by decide)) (fun _ => ?_)
    refine J_aload_n C rfl dX6_isBegun_29 ?_
    refine J_iload_n C rfl dX6_isBegun_30 ?_
    rcases Nat.lt_or_ge (2 * σ 0 14) (σ 0 4) with hf0 | hf0
    · skip
      refine J_callV (as := [.int 0]) (rest := []) C (ct_mNext0P l G mo σ kf tf H sf df xf hn ik tl sp rd gr (by omega) h40.2.1 hf0) (fun u => mdW G mo σ kf tf H sf df xf hn ik tl sp rd gr) [0, 1, 2, 3, 4, 5, 6, 7] [] 1 k659 k661 k17 k38 k662 rfl (by decide +kernel) ⟨Nat.le_of_ble_eq_true rfl, Nat.le_of_ble_eq_true rfl⟩ ⟨Nat.le_of_ble_eq_true rfl, Nat.le_of_ble_eq_true rfl⟩ dX6_isBegun_31 (Nat.le_of_ble_eq_true rfl) 0 rfl rfl rfl (by decide +kernel) (fun _ => rfl) ([]) rfl (fun _ => rfl) 8 (fun _ => rfl) (by decide +kernel) (by decide +kernel) (fun _ _ => ?_)
      refine J_st (st' := [.int (nI (σ 0 14))]) rfl ?_
      refine J_iload_n C rfl dX6_isBegun_34 ?_
      refine J_icmp_ne C 54 (by decide) dX6_isBegun_35 (fun c35 => ?_) (fun c35 => ?_)
      · skip
        have c35 := cv_ne_t (a := (σ 0 14)) (b := j) (by omega) (by omega) c35
        refine J_iconst C 0 (by decide) dX6_isBegun_54 ?_
        refine J_istore_n C [(2, .int 0), (3, .int 0), (0, .ref (mo 0)), (1, .int (nI j))] (by decide) rfl dX6_isBegun_55 ?_
        refine J_iinc C 1 [(3, .int 1), (2, .int 0), (0, .ref (mo 0)), (1, .int (nI j))] 1 rfl (by decide) (by decide) rfl dX6_isBegun_56 ?_
        refine J_goto C 20 (by decide) dX6_isBegun_59 ?_
        refine J_iload_n C rfl dX6_isBegun_20 ?_
        refine J_iconst C 2 (by decide) dX6_isBegun_21 ?_
        refine J_icmp_ge C 62 (by decide) dX6_isBegun_22 (fun h => absurd h (by decide)) (fun _ => ?_)
        refine J_iload_n C rfl dX6_isBegun_25 ?_
        refine J_if_ne C 50 (by decide) dX6_isBegun_26 (fun h => absurd h (by decide)) (fun _ => ?_)
        refine J_aload_n C rfl dX6_isBegun_29 ?_
        refine J_iload_n C rfl dX6_isBegun_30 ?_
        rcases Nat.lt_or_ge (2 * σ 0 15) (σ 0 4) with hf1 | hf1
        · skip
          refine J_callV (as := [.int 1]) (rest := []) C (ct_mNext1P l G mo σ kf tf H sf df xf hn ik tl sp rd gr (by omega) h40.2.1 hf1) (fun u => mdW G mo σ kf tf H sf df xf hn ik tl sp rd gr) [0, 1, 2, 3, 4, 5, 6, 7] [] 1 k659 k661 k17 k38 k662 rfl (by decide +kernel) ⟨Nat.le_of_ble_eq_true rfl, Nat.le_of_ble_eq_true rfl⟩ ⟨Nat.le_of_ble_eq_true rfl, Nat.le_of_ble_eq_true rfl⟩ dX6_isBegun_31 (Nat.le_of_ble_eq_true rfl) 0 rfl rfl rfl (by decide +kernel) (fun _ => rfl) ([]) rfl (fun _ => rfl) 8 (fun _ => rfl) (by decide +kernel) (by decide +kernel) (fun _ _ => ?_)
          refine J_st (st' := [.int (nI (σ 0 4 - 1 - σ 0 15))]) rfl ?_
          refine J_iload_n C rfl dX6_isBegun_34 ?_
          refine J_icmp_ne C 54 (by decide) dX6_isBegun_35 (fun c35 => ?_) (fun c35 => ?_)
          · skip
            have c35 := cv_ne_t (a := (σ 0 4 - 1 - σ 0 15)) (b := j) (by omega) (by omega) c35
            refine J_iconst C 0 (by decide) dX6_isBegun_54 ?_
            refine J_istore_n C [(2, .int 0), (3, .int 1), (0, .ref (mo 0)), (1, .int (nI j))] (by decide) rfl dX6_isBegun_55 ?_
            refine J_iinc C 2 [(3, .int 2), (2, .int 0), (0, .ref (mo 0)), (1, .int (nI j))] 1 rfl (by decide) (by decide) rfl dX6_isBegun_56 ?_
            refine J_goto C 20 (by decide) dX6_isBegun_59 ?_
            refine J_iload_n C rfl dX6_isBegun_20 ?_
            refine J_iconst C 2 (by decide) dX6_isBegun_21 ?_
            refine J_icmp_ge C 62 (by decide) dX6_isBegun_22 (fun _ => ?_) (fun h => absurd h (by decide))
            refine J_iload_n C rfl dX6_isBegun_62 ?_
            exact J_zret C hr rfl dX6_isBegun_63 () (by rw [if_neg (by omega)]) trivial rfl
          · skip
            have c35 := cv_ne_f (a := (σ 0 4 - 1 - σ 0 15)) (b := j) (by omega) (by omega) c35
            refine J_aload_n C rfl dX6_isBegun_38 ?_
            refine J_get C 0 0 in6 rfl rfl (by decide) k575 rfl dX6_isBegun_39 ?_
            refine J_bipush C 16 (by decide) dX6_isBegun_42 ?_
            refine J_iload_n C rfl dX6_isBegun_44 ?_
            refine J_iadd C dX6_isBegun_45 ?_
            refine J_i ((by decide) : (16 + 1 : Int32) = 17) ?_
            refine J_iald C 1 rfl 17 rfl (by decide) (Nat.le_of_ble_eq_true rfl) dX6_isBegun_46 ?_
            refine J_i (rfl : (nI ((rowM σ) 17) : Int32) = (nI (σ 0 17))) ?_
            refine J_if_le C 54 (by decide) dX6_isBegun_47 (fun c47 => ?_) (fun c47 => ?_)
            · skip
              have c47 := cv_le_t (a := (σ 0 17)) (b := 0) (by omega) (by omega) c47
              refine J_iconst C 0 (by decide) dX6_isBegun_54 ?_
              refine J_istore_n C [(2, .int 0), (3, .int 1), (0, .ref (mo 0)), (1, .int (nI j))] (by decide) rfl dX6_isBegun_55 ?_
              refine J_iinc C 2 [(3, .int 2), (2, .int 0), (0, .ref (mo 0)), (1, .int (nI j))] 1 rfl (by decide) (by decide) rfl dX6_isBegun_56 ?_
              refine J_goto C 20 (by decide) dX6_isBegun_59 ?_
              refine J_iload_n C rfl dX6_isBegun_20 ?_
              refine J_iconst C 2 (by decide) dX6_isBegun_21 ?_
              refine J_icmp_ge C 62 (by decide) dX6_isBegun_22 (fun _ => ?_) (fun h => absurd h (by decide))
              refine J_iload_n C rfl dX6_isBegun_62 ?_
              exact J_zret C hr rfl dX6_isBegun_63 () (by rw [if_neg (by omega)]) trivial rfl
            · skip
              have c47 := cv_le_f (a := (σ 0 17)) (b := 0) (by omega) (by omega) c47
              refine J_iconst C 1 (by decide) dX6_isBegun_50 ?_
              refine J_goto C 55 (by decide) dX6_isBegun_51 ?_
              refine J_istore_n C [(2, .int 1), (3, .int 1), (0, .ref (mo 0)), (1, .int (nI j))] (by decide) rfl dX6_isBegun_55 ?_
              refine J_iinc C 2 [(3, .int 2), (2, .int 1), (0, .ref (mo 0)), (1, .int (nI j))] 1 rfl (by decide) (by decide) rfl dX6_isBegun_56 ?_
              refine J_goto C 20 (by decide) dX6_isBegun_59 ?_
              refine J_iload_n C rfl dX6_isBegun_20 ?_
              refine J_iconst C 2 (by decide) dX6_isBegun_21 ?_
              refine J_icmp_ge C 62 (by decide) dX6_isBegun_22 (fun _ => ?_) (fun h => absurd h (by decide))
              refine J_iload_n C rfl dX6_isBegun_62 ?_
              exact J_zret C hr rfl dX6_isBegun_63 () (by rw [if_pos (by omega)]) trivial rfl
        · skip
          refine J_callV (as := [.int 1]) (rest := []) C (ct_mNext1N l G mo σ kf tf H sf df xf hn ik tl sp rd gr (by omega) h40.2.1 hf1 (by omega)) (fun u => mdW G mo σ kf tf H sf df xf hn ik tl sp rd gr) [0, 1, 2, 3, 4, 5, 6, 7] [] 1 k659 k661 k17 k38 k662 rfl (by decide +kernel) ⟨Nat.le_of_ble_eq_true rfl, Nat.le_of_ble_eq_true rfl⟩ ⟨Nat.le_of_ble_eq_true rfl, Nat.le_of_ble_eq_true rfl⟩ dX6_isBegun_31 (Nat.le_of_ble_eq_true rfl) 0 rfl rfl rfl (by decide +kernel) (fun _ => rfl) ([]) rfl (fun _ => rfl) 8 (fun _ => rfl) (by decide +kernel) (by decide +kernel) (fun _ _ => ?_)
          refine J_st (st' := [.int (-5)]) rfl ?_
          refine J_iload_n C rfl dX6_isBegun_34 ?_
          refine J_icmp_ne C 54 (by decide) dX6_isBegun_35 (fun _ => ?_) (fun h => absurd h (fun q => nI_ne5 (n := j) (by omega) q.symm))
          refine J_iconst C 0 (by decide) dX6_isBegun_54 ?_
          refine J_istore_n C [(2, .int 0), (3, .int 1), (0, .ref (mo 0)), (1, .int (nI j))] (by decide) rfl dX6_isBegun_55 ?_
          refine J_iinc C 2 [(3, .int 2), (2, .int 0), (0, .ref (mo 0)), (1, .int (nI j))] 1 rfl (by decide) (by decide) rfl dX6_isBegun_56 ?_
          refine J_goto C 20 (by decide) dX6_isBegun_59 ?_
          refine J_iload_n C rfl dX6_isBegun_20 ?_
          refine J_iconst C 2 (by decide) dX6_isBegun_21 ?_
          refine J_icmp_ge C 62 (by decide) dX6_isBegun_22 (fun _ => ?_) (fun h => absurd h (by decide))
          refine J_iload_n C rfl dX6_isBegun_62 ?_
          exact J_zret C hr rfl dX6_isBegun_63 () (by rw [if_neg (by omega)]) trivial rfl
      · skip
        have c35 := cv_ne_f (a := (σ 0 14)) (b := j) (by omega) (by omega) c35
        refine J_aload_n C rfl dX6_isBegun_38 ?_
        refine J_get C 0 0 in6 rfl rfl (by decide) k575 rfl dX6_isBegun_39 ?_
        refine J_bipush C 16 (by decide) dX6_isBegun_42 ?_
        refine J_iload_n C rfl dX6_isBegun_44 ?_
        refine J_iadd C dX6_isBegun_45 ?_
        refine J_i ((by decide) : (16 + 0 : Int32) = 16) ?_
        refine J_iald C 1 rfl 16 rfl (by decide) (Nat.le_of_ble_eq_true rfl) dX6_isBegun_46 ?_
        refine J_i (rfl : (nI ((rowM σ) 16) : Int32) = (nI (σ 0 16))) ?_
        refine J_if_le C 54 (by decide) dX6_isBegun_47 (fun c47 => ?_) (fun c47 => ?_)
        · skip
          have c47 := cv_le_t (a := (σ 0 16)) (b := 0) (by omega) (by omega) c47
          refine J_iconst C 0 (by decide) dX6_isBegun_54 ?_
          refine J_istore_n C [(2, .int 0), (3, .int 0), (0, .ref (mo 0)), (1, .int (nI j))] (by decide) rfl dX6_isBegun_55 ?_
          refine J_iinc C 1 [(3, .int 1), (2, .int 0), (0, .ref (mo 0)), (1, .int (nI j))] 1 rfl (by decide) (by decide) rfl dX6_isBegun_56 ?_
          refine J_goto C 20 (by decide) dX6_isBegun_59 ?_
          refine J_iload_n C rfl dX6_isBegun_20 ?_
          refine J_iconst C 2 (by decide) dX6_isBegun_21 ?_
          refine J_icmp_ge C 62 (by decide) dX6_isBegun_22 (fun h => absurd h (by decide)) (fun _ => ?_)
          refine J_iload_n C rfl dX6_isBegun_25 ?_
          refine J_if_ne C 50 (by decide) dX6_isBegun_26 (fun h => absurd h (by decide)) (fun _ => ?_)
          refine J_aload_n C rfl dX6_isBegun_29 ?_
          refine J_iload_n C rfl dX6_isBegun_30 ?_
          rcases Nat.lt_or_ge (2 * σ 0 15) (σ 0 4) with hf1 | hf1
          · skip
            refine J_callV (as := [.int 1]) (rest := []) C (ct_mNext1P l G mo σ kf tf H sf df xf hn ik tl sp rd gr (by omega) h40.2.1 hf1) (fun u => mdW G mo σ kf tf H sf df xf hn ik tl sp rd gr) [0, 1, 2, 3, 4, 5, 6, 7] [] 1 k659 k661 k17 k38 k662 rfl (by decide +kernel) ⟨Nat.le_of_ble_eq_true rfl, Nat.le_of_ble_eq_true rfl⟩ ⟨Nat.le_of_ble_eq_true rfl, Nat.le_of_ble_eq_true rfl⟩ dX6_isBegun_31 (Nat.le_of_ble_eq_true rfl) 0 rfl rfl rfl (by decide +kernel) (fun _ => rfl) ([]) rfl (fun _ => rfl) 8 (fun _ => rfl) (by decide +kernel) (by decide +kernel) (fun _ _ => ?_)
            refine J_st (st' := [.int (nI (σ 0 4 - 1 - σ 0 15))]) rfl ?_
            refine J_iload_n C rfl dX6_isBegun_34 ?_
            refine J_icmp_ne C 54 (by decide) dX6_isBegun_35 (fun c35 => ?_) (fun c35 => ?_)
            · skip
              have c35 := cv_ne_t (a := (σ 0 4 - 1 - σ 0 15)) (b := j) (by omega) (by omega) c35
              refine J_iconst C 0 (by decide) dX6_isBegun_54 ?_
              refine J_istore_n C [(2, .int 0), (3, .int 1), (0, .ref (mo 0)), (1, .int (nI j))] (by decide) rfl dX6_isBegun_55 ?_
              refine J_iinc C 2 [(3, .int 2), (2, .int 0), (0, .ref (mo 0)), (1, .int (nI j))] 1 rfl (by decide) (by decide) rfl dX6_isBegun_56 ?_
              refine J_goto C 20 (by decide) dX6_isBegun_59 ?_
              refine J_iload_n C rfl dX6_isBegun_20 ?_
              refine J_iconst C 2 (by decide) dX6_isBegun_21 ?_
              refine J_icmp_ge C 62 (by decide) dX6_isBegun_22 (fun _ => ?_) (fun h => absurd h (by decide))
              refine J_iload_n C rfl dX6_isBegun_62 ?_
              exact J_zret C hr rfl dX6_isBegun_63 () (by rw [if_neg (by omega)]) trivial rfl
            · skip
              have c35 := cv_ne_f (a := (σ 0 4 - 1 - σ 0 15)) (b := j) (by omega) (by omega) c35
              refine J_aload_n C rfl dX6_isBegun_38 ?_
              refine J_get C 0 0 in6 rfl rfl (by decide) k575 rfl dX6_isBegun_39 ?_
              refine J_bipush C 16 (by decide) dX6_isBegun_42 ?_
              refine J_iload_n C rfl dX6_isBegun_44 ?_
              refine J_iadd C dX6_isBegun_45 ?_
              refine J_i ((by decide) : (16 + 1 : Int32) = 17) ?_
              refine J_iald C 1 rfl 17 rfl (by decide) (Nat.le_of_ble_eq_true rfl) dX6_isBegun_46 ?_
              refine J_i (rfl : (nI ((rowM σ) 17) : Int32) = (nI (σ 0 17))) ?_
              refine J_if_le C 54 (by decide) dX6_isBegun_47 (fun c47 => ?_) (fun c47 => ?_)
              · skip
                have c47 := cv_le_t (a := (σ 0 17)) (b := 0) (by omega) (by omega) c47
                refine J_iconst C 0 (by decide) dX6_isBegun_54 ?_
                refine J_istore_n C [(2, .int 0), (3, .int 1), (0, .ref (mo 0)), (1, .int (nI j))] (by decide) rfl dX6_isBegun_55 ?_
                refine J_iinc C 2 [(3, .int 2), (2, .int 0), (0, .ref (mo 0)), (1, .int (nI j))] 1 rfl (by decide) (by decide) rfl dX6_isBegun_56 ?_
                refine J_goto C 20 (by decide) dX6_isBegun_59 ?_
                refine J_iload_n C rfl dX6_isBegun_20 ?_
                refine J_iconst C 2 (by decide) dX6_isBegun_21 ?_
                refine J_icmp_ge C 62 (by decide) dX6_isBegun_22 (fun _ => ?_) (fun h => absurd h (by decide))
                refine J_iload_n C rfl dX6_isBegun_62 ?_
                exact J_zret C hr rfl dX6_isBegun_63 () (by rw [if_neg (by omega)]) trivial rfl
              · skip
                have c47 := cv_le_f (a := (σ 0 17)) (b := 0) (by omega) (by omega) c47
                refine J_iconst C 1 (by decide) dX6_isBegun_50 ?_
                refine J_goto C 55 (by decide) dX6_isBegun_51 ?_
                refine J_istore_n C [(2, .int 1), (3, .int 1), (0, .ref (mo 0)), (1, .int (nI j))] (by decide) rfl dX6_isBegun_55 ?_
                refine J_iinc C 2 [(3, .int 2), (2, .int 1), (0, .ref (mo 0)), (1, .int (nI j))] 1 rfl (by decide) (by decide) rfl dX6_isBegun_56 ?_
                refine J_goto C 20 (by decide) dX6_isBegun_59 ?_
                refine J_iload_n C rfl dX6_isBegun_20 ?_
                refine J_iconst C 2 (by decide) dX6_isBegun_21 ?_
                refine J_icmp_ge C 62 (by decide) dX6_isBegun_22 (fun _ => ?_) (fun h => absurd h (by decide))
                refine J_iload_n C rfl dX6_isBegun_62 ?_
                exact J_zret C hr rfl dX6_isBegun_63 () (by rw [if_pos (by omega)]) trivial rfl
          · skip
            refine J_callV (as := [.int 1]) (rest := []) C (ct_mNext1N l G mo σ kf tf H sf df xf hn ik tl sp rd gr (by omega) h40.2.1 hf1 (by omega)) (fun u => mdW G mo σ kf tf H sf df xf hn ik tl sp rd gr) [0, 1, 2, 3, 4, 5, 6, 7] [] 1 k659 k661 k17 k38 k662 rfl (by decide +kernel) ⟨Nat.le_of_ble_eq_true rfl, Nat.le_of_ble_eq_true rfl⟩ ⟨Nat.le_of_ble_eq_true rfl, Nat.le_of_ble_eq_true rfl⟩ dX6_isBegun_31 (Nat.le_of_ble_eq_true rfl) 0 rfl rfl rfl (by decide +kernel) (fun _ => rfl) ([]) rfl (fun _ => rfl) 8 (fun _ => rfl) (by decide +kernel) (by decide +kernel) (fun _ _ => ?_)
            refine J_st (st' := [.int (-5)]) rfl ?_
            refine J_iload_n C rfl dX6_isBegun_34 ?_
            refine J_icmp_ne C 54 (by decide) dX6_isBegun_35 (fun _ => ?_) (fun h => absurd h (fun q => nI_ne5 (n := j) (by omega) q.symm))
            refine J_iconst C 0 (by decide) dX6_isBegun_54 ?_
            refine J_istore_n C [(2, .int 0), (3, .int 1), (0, .ref (mo 0)), (1, .int (nI j))] (by decide) rfl dX6_isBegun_55 ?_
            refine J_iinc C 2 [(3, .int 2), (2, .int 0), (0, .ref (mo 0)), (1, .int (nI j))] 1 rfl (by decide) (by decide) rfl dX6_isBegun_56 ?_
            refine J_goto C 20 (by decide) dX6_isBegun_59 ?_
            refine J_iload_n C rfl dX6_isBegun_20 ?_
            refine J_iconst C 2 (by decide) dX6_isBegun_21 ?_
            refine J_icmp_ge C 62 (by decide) dX6_isBegun_22 (fun _ => ?_) (fun h => absurd h (by decide))
            refine J_iload_n C rfl dX6_isBegun_62 ?_
            exact J_zret C hr rfl dX6_isBegun_63 () (by rw [if_neg (by omega)]) trivial rfl
        · skip
          have c47 := cv_le_f (a := (σ 0 16)) (b := 0) (by omega) (by omega) c47
          refine J_iconst C 1 (by decide) dX6_isBegun_50 ?_
          refine J_goto C 55 (by decide) dX6_isBegun_51 ?_
          refine J_istore_n C [(2, .int 1), (3, .int 0), (0, .ref (mo 0)), (1, .int (nI j))] (by decide) rfl dX6_isBegun_55 ?_
          refine J_iinc C 1 [(3, .int 1), (2, .int 1), (0, .ref (mo 0)), (1, .int (nI j))] 1 rfl (by decide) (by decide) rfl dX6_isBegun_56 ?_
          refine J_goto C 20 (by decide) dX6_isBegun_59 ?_
          refine J_iload_n C rfl dX6_isBegun_20 ?_
          refine J_iconst C 2 (by decide) dX6_isBegun_21 ?_
          refine J_icmp_ge C 62 (by decide) dX6_isBegun_22 (fun h => absurd h (by decide)) (fun _ => ?_)
          refine J_iload_n C rfl dX6_isBegun_25 ?_
          refine J_if_ne C 50 (by decide) dX6_isBegun_26 (fun _ => ?_) (fun h => absurd h (by decide))
          refine J_iconst C 1 (by decide) dX6_isBegun_50 ?_
          refine J_goto C 55 (by decide) dX6_isBegun_51 ?_
          refine J_istore_n C [(2, .int 1), (3, .int 1), (0, .ref (mo 0)), (1, .int (nI j))] (by decide) rfl dX6_isBegun_55 ?_
          refine J_iinc C 2 [(3, .int 2), (2, .int 1), (0, .ref (mo 0)), (1, .int (nI j))] 1 rfl (by decide) (by decide) rfl dX6_isBegun_56 ?_
          refine J_goto C 20 (by decide) dX6_isBegun_59 ?_
          refine J_iload_n C rfl dX6_isBegun_20 ?_
          refine J_iconst C 2 (by decide) dX6_isBegun_21 ?_
          refine J_icmp_ge C 62 (by decide) dX6_isBegun_22 (fun _ => ?_) (fun h => absurd h (by decide))
          refine J_iload_n C rfl dX6_isBegun_62 ?_
          exact J_zret C hr rfl dX6_isBegun_63 () (by rw [if_pos (by omega)]) trivial rfl
    · skip
      refine J_callV (as := [.int 0]) (rest := []) C (ct_mNext0N l G mo σ kf tf H sf df xf hn ik tl sp rd gr (by omega) h40.2.1 hf0 (by omega)) (fun u => mdW G mo σ kf tf H sf df xf hn ik tl sp rd gr) [0, 1, 2, 3, 4, 5, 6, 7] [] 1 k659 k661 k17 k38 k662 rfl (by decide +kernel) ⟨Nat.le_of_ble_eq_true rfl, Nat.le_of_ble_eq_true rfl⟩ ⟨Nat.le_of_ble_eq_true rfl, Nat.le_of_ble_eq_true rfl⟩ dX6_isBegun_31 (Nat.le_of_ble_eq_true rfl) 0 rfl rfl rfl (by decide +kernel) (fun _ => rfl) ([]) rfl (fun _ => rfl) 8 (fun _ => rfl) (by decide +kernel) (by decide +kernel) (fun _ _ => ?_)
      refine J_st (st' := [.int (-5)]) rfl ?_
      refine J_iload_n C rfl dX6_isBegun_34 ?_
      refine J_icmp_ne C 54 (by decide) dX6_isBegun_35 (fun _ => ?_) (fun h => absurd h (fun q => nI_ne5 (n := j) (by omega) q.symm))
      refine J_iconst C 0 (by decide) dX6_isBegun_54 ?_
      refine J_istore_n C [(2, .int 0), (3, .int 0), (0, .ref (mo 0)), (1, .int (nI j))] (by decide) rfl dX6_isBegun_55 ?_
      refine J_iinc C 1 [(3, .int 1), (2, .int 0), (0, .ref (mo 0)), (1, .int (nI j))] 1 rfl (by decide) (by decide) rfl dX6_isBegun_56 ?_
      refine J_goto C 20 (by decide) dX6_isBegun_59 ?_
      refine J_iload_n C rfl dX6_isBegun_20 ?_
      refine J_iconst C 2 (by decide) dX6_isBegun_21 ?_
      refine J_icmp_ge C 62 (by decide) dX6_isBegun_22 (fun h => absurd h (by decide)) (fun _ => ?_)
      refine J_iload_n C rfl dX6_isBegun_25 ?_
      refine J_if_ne C 50 (by decide) dX6_isBegun_26 (fun h => absurd h (by decide)) (fun _ => ?_)
      refine J_aload_n C rfl dX6_isBegun_29 ?_
      refine J_iload_n C rfl dX6_isBegun_30 ?_
      rcases Nat.lt_or_ge (2 * σ 0 15) (σ 0 4) with hf1 | hf1
      · skip
        refine J_callV (as := [.int 1]) (rest := []) C (ct_mNext1P l G mo σ kf tf H sf df xf hn ik tl sp rd gr (by omega) h40.2.1 hf1) (fun u => mdW G mo σ kf tf H sf df xf hn ik tl sp rd gr) [0, 1, 2, 3, 4, 5, 6, 7] [] 1 k659 k661 k17 k38 k662 rfl (by decide +kernel) ⟨Nat.le_of_ble_eq_true rfl, Nat.le_of_ble_eq_true rfl⟩ ⟨Nat.le_of_ble_eq_true rfl, Nat.le_of_ble_eq_true rfl⟩ dX6_isBegun_31 (Nat.le_of_ble_eq_true rfl) 0 rfl rfl rfl (by decide +kernel) (fun _ => rfl) ([]) rfl (fun _ => rfl) 8 (fun _ => rfl) (by decide +kernel) (by decide +kernel) (fun _ _ => ?_)
        refine J_st (st' := [.int (nI (σ 0 4 - 1 - σ 0 15))]) rfl ?_
        refine J_iload_n C rfl dX6_isBegun_34 ?_
        refine J_icmp_ne C 54 (by decide) dX6_isBegun_35 (fun c35 => ?_) (fun c35 => ?_)
        · skip
          have c35 := cv_ne_t (a := (σ 0 4 - 1 - σ 0 15)) (b := j) (by omega) (by omega) c35
          refine J_iconst C 0 (by decide) dX6_isBegun_54 ?_
          refine J_istore_n C [(2, .int 0), (3, .int 1), (0, .ref (mo 0)), (1, .int (nI j))] (by decide) rfl dX6_isBegun_55 ?_
          refine J_iinc C 2 [(3, .int 2), (2, .int 0), (0, .ref (mo 0)), (1, .int (nI j))] 1 rfl (by decide) (by decide) rfl dX6_isBegun_56 ?_
          refine J_goto C 20 (by decide) dX6_isBegun_59 ?_
          refine J_iload_n C rfl dX6_isBegun_20 ?_
          refine J_iconst C 2 (by decide) dX6_isBegun_21 ?_
          refine J_icmp_ge C 62 (by decide) dX6_isBegun_22 (fun _ => ?_) (fun h => absurd h (by decide))
          refine J_iload_n C rfl dX6_isBegun_62 ?_
          exact J_zret C hr rfl dX6_isBegun_63 () (by rw [if_neg (by omega)]) trivial rfl
        · skip
          have c35 := cv_ne_f (a := (σ 0 4 - 1 - σ 0 15)) (b := j) (by omega) (by omega) c35
          refine J_aload_n C rfl dX6_isBegun_38 ?_
          refine J_get C 0 0 in6 rfl rfl (by decide) k575 rfl dX6_isBegun_39 ?_
          refine J_bipush C 16 (by decide) dX6_isBegun_42 ?_
          refine J_iload_n C rfl dX6_isBegun_44 ?_
          refine J_iadd C dX6_isBegun_45 ?_
          refine J_i ((by decide) : (16 + 1 : Int32) = 17) ?_
          refine J_iald C 1 rfl 17 rfl (by decide) (Nat.le_of_ble_eq_true rfl) dX6_isBegun_46 ?_
          refine J_i (rfl : (nI ((rowM σ) 17) : Int32) = (nI (σ 0 17))) ?_
          refine J_if_le C 54 (by decide) dX6_isBegun_47 (fun c47 => ?_) (fun c47 => ?_)
          · skip
            have c47 := cv_le_t (a := (σ 0 17)) (b := 0) (by omega) (by omega) c47
            refine J_iconst C 0 (by decide) dX6_isBegun_54 ?_
            refine J_istore_n C [(2, .int 0), (3, .int 1), (0, .ref (mo 0)), (1, .int (nI j))] (by decide) rfl dX6_isBegun_55 ?_
            refine J_iinc C 2 [(3, .int 2), (2, .int 0), (0, .ref (mo 0)), (1, .int (nI j))] 1 rfl (by decide) (by decide) rfl dX6_isBegun_56 ?_
            refine J_goto C 20 (by decide) dX6_isBegun_59 ?_
            refine J_iload_n C rfl dX6_isBegun_20 ?_
            refine J_iconst C 2 (by decide) dX6_isBegun_21 ?_
            refine J_icmp_ge C 62 (by decide) dX6_isBegun_22 (fun _ => ?_) (fun h => absurd h (by decide))
            refine J_iload_n C rfl dX6_isBegun_62 ?_
            exact J_zret C hr rfl dX6_isBegun_63 () (by rw [if_neg (by omega)]) trivial rfl
          · skip
            have c47 := cv_le_f (a := (σ 0 17)) (b := 0) (by omega) (by omega) c47
            refine J_iconst C 1 (by decide) dX6_isBegun_50 ?_
            refine J_goto C 55 (by decide) dX6_isBegun_51 ?_
            refine J_istore_n C [(2, .int 1), (3, .int 1), (0, .ref (mo 0)), (1, .int (nI j))] (by decide) rfl dX6_isBegun_55 ?_
            refine J_iinc C 2 [(3, .int 2), (2, .int 1), (0, .ref (mo 0)), (1, .int (nI j))] 1 rfl (by decide) (by decide) rfl dX6_isBegun_56 ?_
            refine J_goto C 20 (by decide) dX6_isBegun_59 ?_
            refine J_iload_n C rfl dX6_isBegun_20 ?_
            refine J_iconst C 2 (by decide) dX6_isBegun_21 ?_
            refine J_icmp_ge C 62 (by decide) dX6_isBegun_22 (fun _ => ?_) (fun h => absurd h (by decide))
            refine J_iload_n C rfl dX6_isBegun_62 ?_
            exact J_zret C hr rfl dX6_isBegun_63 () (by rw [if_pos (by omega)]) trivial rfl
      · skip
        refine J_callV (as := [.int 1]) (rest := []) C (ct_mNext1N l G mo σ kf tf H sf df xf hn ik tl sp rd gr (by omega) h40.2.1 hf1 (by omega)) (fun u => mdW G mo σ kf tf H sf df xf hn ik tl sp rd gr) [0, 1, 2, 3, 4, 5, 6, 7] [] 1 k659 k661 k17 k38 k662 rfl (by decide +kernel) ⟨Nat.le_of_ble_eq_true rfl, Nat.le_of_ble_eq_true rfl⟩ ⟨Nat.le_of_ble_eq_true rfl, Nat.le_of_ble_eq_true rfl⟩ dX6_isBegun_31 (Nat.le_of_ble_eq_true rfl) 0 rfl rfl rfl (by decide +kernel) (fun _ => rfl) ([]) rfl (fun _ => rfl) 8 (fun _ => rfl) (by decide +kernel) (by decide +kernel) (fun _ _ => ?_)
        refine J_st (st' := [.int (-5)]) rfl ?_
        refine J_iload_n C rfl dX6_isBegun_34 ?_
        refine J_icmp_ne C 54 (by decide) dX6_isBegun_35 (fun _ => ?_) (fun h => absurd h (fun q => nI_ne5 (n := j) (by omega) q.symm))
        refine J_iconst C 0 (by decide) dX6_isBegun_54 ?_
        refine J_istore_n C [(2, .int 0), (3, .int 1), (0, .ref (mo 0)), (1, .int (nI j))] (by decide) rfl dX6_isBegun_55 ?_
        refine J_iinc C 2 [(3, .int 2), (2, .int 0), (0, .ref (mo 0)), (1, .int (nI j))] 1 rfl (by decide) (by decide) rfl dX6_isBegun_56 ?_
        refine J_goto C 20 (by decide) dX6_isBegun_59 ?_
        refine J_iload_n C rfl dX6_isBegun_20 ?_
        refine J_iconst C 2 (by decide) dX6_isBegun_21 ?_
        refine J_icmp_ge C 62 (by decide) dX6_isBegun_22 (fun _ => ?_) (fun h => absurd h (by decide))
        refine J_iload_n C rfl dX6_isBegun_62 ?_
        exact J_zret C hr rfl dX6_isBegun_63 () (by rw [if_neg (by omega)]) trivial rfl
  · skip
    have c9 := cv_le_f (a := (σ 3 j)) (b := 0) (by omega) (by omega) c9
    refine J_iconst C 1 (by decide) dX6_isBegun_12 ?_
    refine J_goto C 17 (by decide) dX6_isBegun_13 ?_
    refine J_istore_n C [(2, .int 1), (0, .ref (mo 0)), (1, .int (nI j))] (by decide) rfl dX6_isBegun_17 ?_
    refine J_iconst C 0 (by decide) dX6_isBegun_18 ?_
    refine J_istore_n C [(3, .int 0), (2, .int 1), (0, .ref (mo 0)), (1, .int (nI j))] (by decide) rfl dX6_isBegun_19 ?_
    refine J_iload_n C rfl dX6_isBegun_20 ?_
    refine J_iconst C 2 (by decide) dX6_isBegun_21 ?_
    refine J_icmp_ge C 62 (by decide) dX6_isBegun_22 (fun h => absurd h (by decide)) (fun _ => ?_)
    refine J_iload_n C rfl dX6_isBegun_25 ?_
    refine J_if_ne C 50 (by decide) dX6_isBegun_26 (fun _ => ?_) (fun h => absurd h (by decide))
    refine J_iconst C 1 (by decide) dX6_isBegun_50 ?_
    refine J_goto C 55 (by decide) dX6_isBegun_51 ?_
    refine J_istore_n C [(2, .int 1), (3, .int 0), (0, .ref (mo 0)), (1, .int (nI j))] (by decide) rfl dX6_isBegun_55 ?_
    refine J_iinc C 1 [(3, .int 1), (2, .int 1), (0, .ref (mo 0)), (1, .int (nI j))] 1 rfl (by decide) (by decide) rfl dX6_isBegun_56 ?_
    refine J_goto C 20 (by decide) dX6_isBegun_59 ?_
    refine J_iload_n C rfl dX6_isBegun_20 ?_
    refine J_iconst C 2 (by decide) dX6_isBegun_21 ?_
    refine J_icmp_ge C 62 (by decide) dX6_isBegun_22 (fun h => absurd h (by decide)) (fun _ => ?_)
    refine J_iload_n C rfl dX6_isBegun_25 ?_
    refine J_if_ne C 50 (by decide) dX6_isBegun_26 (fun _ => ?_) (fun h => absurd h (by decide))
    refine J_iconst C 1 (by decide) dX6_isBegun_50 ?_
    refine J_goto C 55 (by decide) dX6_isBegun_51 ?_
    refine J_istore_n C [(2, .int 1), (3, .int 1), (0, .ref (mo 0)), (1, .int (nI j))] (by decide) rfl dX6_isBegun_55 ?_
    refine J_iinc C 2 [(3, .int 2), (2, .int 1), (0, .ref (mo 0)), (1, .int (nI j))] 1 rfl (by decide) (by decide) rfl dX6_isBegun_56 ?_
    refine J_goto C 20 (by decide) dX6_isBegun_59 ?_
    refine J_iload_n C rfl dX6_isBegun_20 ?_
    refine J_iconst C 2 (by decide) dX6_isBegun_21 ?_
    refine J_icmp_ge C 62 (by decide) dX6_isBegun_22 (fun _ => ?_) (fun h => absurd h (by decide))
    refine J_iload_n C rfl dX6_isBegun_62 ?_
    exact J_zret C hr rfl dX6_isBegun_63 () (by rw [if_pos (by omega)]) trivial rfl

set_option maxHeartbeats 4000000 in
set_option maxRecDepth 100000 in
theorem ct_hereY (l : Launch) (G : GT) (mo : Nat → Nat) (σ : AS) (kf tf H sf df xf : Nat → Nat) (hn ik tl sp rd : Nat) (gr : Int32) (lo hi : Nat) (htl : tl ≤ 60) (hsp : sp ≤ 100) (hx : ∀ q, xf q < 65536) (hlo : lo ≤ 200) (hhi : hi ≤ 200) (hh : sp < tl ∧ lo ≤ xf sp ∧ xf sp ≤ hi) : Ct (S := Unit) l G NoX yX6_isHere (Wy yX6_isHere cX6_isHere 3 ((Option.some Jvm.ClassFile.FieldType.boolean))) { frames := 1, cells := 0, slots := 0, locals := 25 } [.ref (mo 0), .int (nI lo), .int (nI hi)] (mdW G mo σ kf tf H sf df xf hn ik tl sp rd gr) (fun u => True) (fun u => some (.int 1)) (fun u => mdW G mo σ kf tf H sf df xf hn ik tl sp rd gr) := by
  refine Ct.of (by decide) (Nat.le_of_ble_eq_true rfl) (fun p e s m args below meth c C hr hnm hX => ?_)
  have hxs := hx sp
  refine J_aload_n C rfl dX6_isHere_0 ?_
  refine J_get C 0 10 in6 rfl rfl (by decide) k585 rfl dX6_isHere_1 ?_
  refine J_aload_n C rfl dX6_isHere_4 ?_
  refine J_get C 0 9 in6 rfl rfl (by decide) k584 rfl dX6_isHere_5 ?_
  refine J_icmp_ge C 35 (by decide) dX6_isHere_8 (fun h => absurd (cv_ge_t (a := sp) (b := tl) (by omega) (by omega) h) (by omega)) (fun c8 => ?_)
  refine J_aload_n C rfl dX6_isHere_11 ?_
  refine J_get C 0 8 in6 rfl rfl (by decide) k583 rfl dX6_isHere_12 ?_
  refine J_aload_n C rfl dX6_isHere_15 ?_
  refine J_get C 0 10 in6 rfl rfl (by decide) k585 rfl dX6_isHere_16 ?_
  refine J_iald C 7 rfl sp rfl (by omega) (Nat.le_of_ble_eq_true rfl) dX6_isHere_19 ?_
  refine J_i2l C dX6_isHere_20 ?_
  refine J_iload_n C rfl dX6_isHere_21 ?_
  refine J_i2l C dX6_isHere_22 ?_
  refine J_iload_n C rfl dX6_isHere_23 ?_
  refine J_i2l C dX6_isHere_24 ?_
  refine J_callS (as := [.long ((nI (xf sp)).toInt64), .long ((nI lo).toInt64), .long ((nI hi).toInt64)]) (rest := []) C (ct_inY l G ((nI (xf sp)).toInt64) ((nI lo).toInt64) ((nI hi).toInt64) ((in64 (by omega) (by omega) (by omega)).mpr hh.2)) (fun u => mdW G mo σ kf tf H sf df xf hn ik tl sp rd gr) [] [0, 1, 2, 3, 4, 5, 6, 7] 3 k627 k628 k38 k629 rfl (by decide +kernel) ⟨Nat.le_of_ble_eq_true rfl, Nat.le_of_ble_eq_true rfl⟩ ⟨Nat.le_of_ble_eq_true rfl, Nat.le_of_ble_eq_true rfl⟩ dX6_isHere_25 (Nat.le_of_ble_eq_true rfl) rfl (by decide +kernel) (fun _ => rfl) (mdW G mo σ kf tf H sf df xf hn ik tl sp rd gr) rfl (fun _ => rfl) 8 (fun _ => rfl) (by decide +kernel) (by decide +kernel) (fun _ _ => ?_)
  refine J_st (st' := [.int 1]) rfl ?_
  refine J_if_eq C 35 (by decide) dX6_isHere_28 (fun h => absurd h (by decide)) (fun _ => ?_)
  refine J_iconst C 1 (by decide) dX6_isHere_31 ?_
  refine J_goto C 36 (by decide) dX6_isHere_32 ?_
  exact J_zret C hr rfl dX6_isHere_36 () rfl trivial rfl

set_option maxHeartbeats 4000000 in
set_option maxRecDepth 100000 in
theorem ct_takesY (l : Launch) (G : GT) (mo : Nat → Nat) (σ : AS) (kf tf H sf df xf : Nat → Nat) (hn ik tl sp rd : Nat) (gr : Int32) (k : Nat) (htl : tl ≤ 60) (hsp : sp ≤ 100) (hx : ∀ q, xf q < 65536) (hk : k ≤ 200) (hh : sp < tl ∧ xf sp = k) : Ct (S := Unit) l G NoX yX6_takesOne (Wy yX6_takesOne cX6_takesOne 3 ((Option.some Jvm.ClassFile.FieldType.boolean))) { frames := 2, cells := 0, slots := 0, locals := 47 } [.ref (mo 0), .int (nI k)] (mdW G mo σ kf tf H sf df xf hn ik tl sp rd gr) (fun u => True) (fun u => some (.int 1)) (fun u => mdW G mo σ kf tf H sf df xf hn ik tl (sp + 1) rd gr) := by
  refine Ct.of (by decide) (Nat.le_of_ble_eq_true rfl) (fun p e s m args below meth c C hr hnm hX => ?_)
  refine J_aload_n C rfl dX6_takesOne_0 ?_
  refine J_iload_n C rfl dX6_takesOne_1 ?_
  refine J_iload_n C rfl dX6_takesOne_2 ?_
  refine J_callV (as := [.int (nI k), .int (nI k)]) (rest := []) C (ct_hereY l G mo σ kf tf H sf df xf hn ik tl sp rd gr k k htl hsp hx hk hk (by omega)) (fun u => mdW G mo σ kf tf H sf df xf hn ik tl sp rd gr) [0, 1, 2, 3, 4, 5, 6, 7] [] 2 k623 k625 k10 k38 k626 rfl (by decide +kernel) ⟨Nat.le_of_ble_eq_true rfl, Nat.le_of_ble_eq_true rfl⟩ ⟨Nat.le_of_ble_eq_true rfl, Nat.le_of_ble_eq_true rfl⟩ dX6_takesOne_3 (Nat.le_of_ble_eq_true rfl) 0 rfl rfl rfl (by decide +kernel) (fun _ => rfl) ([]) rfl (fun _ => rfl) 8 (fun _ => rfl) (by decide +kernel) (by decide +kernel) (fun _ _ => ?_)
  refine J_st (st' := [.int 1]) rfl ?_
  refine J_istore_n C [(2, .int 1), (0, .ref (mo 0)), (1, .int (nI k))] (by decide) rfl dX6_takesOne_6 ?_
  refine J_aload_n C rfl dX6_takesOne_7 ?_
  refine J_dup C rfl dX6_takesOne_8 ?_
  refine J_get C 0 10 in6 rfl rfl (by decide) k585 rfl dX6_takesOne_9 ?_
  refine J_iload_n C rfl dX6_takesOne_12 ?_
  refine J_if_eq C 20 (by decide) dX6_takesOne_13 (fun h => absurd h (by decide)) (fun _ => ?_)
  refine J_iconst C 1 (by decide) dX6_takesOne_16 ?_
  refine J_goto C 21 (by decide) dX6_takesOne_17 ?_
  refine J_iadd C dX6_takesOne_21 ?_
  refine J_i (nI_add sp 1 : ((nI sp) + 1 : Int32) = (nI (sp + 1))) ?_
  refine J_put C 0 10 in6 tyX6 tyX6_ok nmX6 ([(mo 0, .inr (6, [.ref (mo 1), .ref (mo 2), .ref (mo 3), .ref (mo 4), .int (nI hn), .ref (mo 5), .int (nI ik), .ref (mo 6), .ref (mo 7), .int (nI tl), .int (nI (sp + 1)), .int (nI rd), .int gr])), (mo 1, .inl (G.2.1, 246, .inl (fun q => nI ((rowM σ) q)))), (mo 2, .inl (G.2.1, 246, .inl (fun q => nI (kf q)))), (mo 3, .inl (G.2.1, 246, .inl (fun q => nI (tf q)))), (mo 4, .inl (G.2.1, 984, .inl (fun q => nI (H q)))), (mo 5, .inl (G.2.1, 246, .inl (fun q => nI (sf q)))), (mo 6, .inl (G.2.1, 40, .inl (fun q => nI (df q)))), (mo 7, .inl (G.2.1, 60, .inl (fun q => nI (xf q))))]) rfl rfl (by decide) k585 rfl rfl rfl (Nat.le_of_ble_eq_true rfl) rfl dX6_takesOne_22 ?_
  refine J_ws (ws' := mdW G mo σ kf tf H sf df xf hn ik tl (sp + 1) rd gr) rfl ?_
  refine J_iload_n C rfl dX6_takesOne_25 ?_
  exact J_zret C hr rfl dX6_takesOne_26 () rfl trivial rfl

set_option maxHeartbeats 4000000 in
set_option maxRecDepth 100000 in
theorem ct_hereN (l : Launch) (G : GT) (mo : Nat → Nat) (σ : AS) (kf tf H sf df xf : Nat → Nat) (hn ik tl sp rd : Nat) (gr : Int32) (lo hi : Nat) (htl : tl ≤ 60) (hsp : sp ≤ 100) (hx : ∀ q, xf q < 65536) (hlo : lo ≤ 200) (hhi : hi ≤ 200) (hh : ¬ (sp < tl ∧ lo ≤ xf sp ∧ xf sp ≤ hi)) : Ct (S := Unit) l G NoX yX6_isHere (Wy yX6_isHere cX6_isHere 3 ((Option.some Jvm.ClassFile.FieldType.boolean))) { frames := 1, cells := 0, slots := 0, locals := 25 } [.ref (mo 0), .int (nI lo), .int (nI hi)] (mdW G mo σ kf tf H sf df xf hn ik tl sp rd gr) (fun u => True) (fun u => some (.int 0)) (fun u => mdW G mo σ kf tf H sf df xf hn ik tl sp rd gr) := by
  refine Ct.of (by decide) (Nat.le_of_ble_eq_true rfl) (fun p e s m args below meth c C hr hnm hX => ?_)
  have hxs := hx sp
  refine J_aload_n C rfl dX6_isHere_0 ?_
  refine J_get C 0 10 in6 rfl rfl (by decide) k585 rfl dX6_isHere_1 ?_
  refine J_aload_n C rfl dX6_isHere_4 ?_
  refine J_get C 0 9 in6 rfl rfl (by decide) k584 rfl dX6_isHere_5 ?_
  refine J_icmp_ge C 35 (by decide) dX6_isHere_8 (fun c8 => ?_) (fun c8 => ?_)
  · skip
    have c8 := cv_ge_t (a := sp) (b := tl) (by omega) (by omega) c8
    refine J_iconst C 0 (by decide) dX6_isHere_35 ?_
    exact J_zret C hr rfl dX6_isHere_36 () rfl trivial rfl
  · skip
    have c8 := cv_ge_f (a := sp) (b := tl) (by omega) (by omega) c8
    refine J_aload_n C rfl dX6_isHere_11 ?_
    refine J_get C 0 8 in6 rfl rfl (by decide) k583 rfl dX6_isHere_12 ?_
    refine J_aload_n C rfl dX6_isHere_15 ?_
    refine J_get C 0 10 in6 rfl rfl (by decide) k585 rfl dX6_isHere_16 ?_
    refine J_iald C 7 rfl sp rfl (by omega) (Nat.le_of_ble_eq_true rfl) dX6_isHere_19 ?_
    refine J_i2l C dX6_isHere_20 ?_
    refine J_iload_n C rfl dX6_isHere_21 ?_
    refine J_i2l C dX6_isHere_22 ?_
    refine J_iload_n C rfl dX6_isHere_23 ?_
    refine J_i2l C dX6_isHere_24 ?_
    refine J_callS (as := [.long ((nI (xf sp)).toInt64), .long ((nI lo).toInt64), .long ((nI hi).toInt64)]) (rest := []) C (ct_inN l G ((nI (xf sp)).toInt64) ((nI lo).toInt64) ((nI hi).toInt64) (fun q => hh ⟨c8, (in64 (by omega) (by omega) (by omega)).mp q⟩)) (fun u => mdW G mo σ kf tf H sf df xf hn ik tl sp rd gr) [] [0, 1, 2, 3, 4, 5, 6, 7] 3 k627 k628 k38 k629 rfl (by decide +kernel) ⟨Nat.le_of_ble_eq_true rfl, Nat.le_of_ble_eq_true rfl⟩ ⟨Nat.le_of_ble_eq_true rfl, Nat.le_of_ble_eq_true rfl⟩ dX6_isHere_25 (Nat.le_of_ble_eq_true rfl) rfl (by decide +kernel) (fun _ => rfl) (mdW G mo σ kf tf H sf df xf hn ik tl sp rd gr) rfl (fun _ => rfl) 8 (fun _ => rfl) (by decide +kernel) (by decide +kernel) (fun _ _ => ?_)
    refine J_st (st' := [.int 0]) rfl ?_
    refine J_if_eq C 35 (by decide) dX6_isHere_28 (fun _ => ?_) (fun h => absurd h (by decide))
    refine J_iconst C 0 (by decide) dX6_isHere_35 ?_
    exact J_zret C hr rfl dX6_isHere_36 () rfl trivial rfl

set_option maxHeartbeats 4000000 in
set_option maxRecDepth 100000 in
theorem ct_takesN (l : Launch) (G : GT) (mo : Nat → Nat) (σ : AS) (kf tf H sf df xf : Nat → Nat) (hn ik tl sp rd : Nat) (gr : Int32) (k : Nat) (htl : tl ≤ 60) (hsp : sp ≤ 100) (hx : ∀ q, xf q < 65536) (hk : k ≤ 200) (hh : ¬ (sp < tl ∧ xf sp = k)) : Ct (S := Unit) l G NoX yX6_takesOne (Wy yX6_takesOne cX6_takesOne 3 ((Option.some Jvm.ClassFile.FieldType.boolean))) { frames := 2, cells := 0, slots := 0, locals := 47 } [.ref (mo 0), .int (nI k)] (mdW G mo σ kf tf H sf df xf hn ik tl sp rd gr) (fun u => True) (fun u => some (.int 0)) (fun u => mdW G mo σ kf tf H sf df xf hn ik tl (sp + 0) rd gr) := by
  refine Ct.of (by decide) (Nat.le_of_ble_eq_true rfl) (fun p e s m args below meth c C hr hnm hX => ?_)
  refine J_aload_n C rfl dX6_takesOne_0 ?_
  refine J_iload_n C rfl dX6_takesOne_1 ?_
  refine J_iload_n C rfl dX6_takesOne_2 ?_
  refine J_callV (as := [.int (nI k), .int (nI k)]) (rest := []) C (ct_hereN l G mo σ kf tf H sf df xf hn ik tl sp rd gr k k htl hsp hx hk hk (fun q => hh (by omega))) (fun u => mdW G mo σ kf tf H sf df xf hn ik tl sp rd gr) [0, 1, 2, 3, 4, 5, 6, 7] [] 2 k623 k625 k10 k38 k626 rfl (by decide +kernel) ⟨Nat.le_of_ble_eq_true rfl, Nat.le_of_ble_eq_true rfl⟩ ⟨Nat.le_of_ble_eq_true rfl, Nat.le_of_ble_eq_true rfl⟩ dX6_takesOne_3 (Nat.le_of_ble_eq_true rfl) 0 rfl rfl rfl (by decide +kernel) (fun _ => rfl) ([]) rfl (fun _ => rfl) 8 (fun _ => rfl) (by decide +kernel) (by decide +kernel) (fun _ _ => ?_)
  refine J_st (st' := [.int 0]) rfl ?_
  refine J_istore_n C [(2, .int 0), (0, .ref (mo 0)), (1, .int (nI k))] (by decide) rfl dX6_takesOne_6 ?_
  refine J_aload_n C rfl dX6_takesOne_7 ?_
  refine J_dup C rfl dX6_takesOne_8 ?_
  refine J_get C 0 10 in6 rfl rfl (by decide) k585 rfl dX6_takesOne_9 ?_
  refine J_iload_n C rfl dX6_takesOne_12 ?_
  refine J_if_eq C 20 (by decide) dX6_takesOne_13 (fun _ => ?_) (fun h => absurd h (by decide))
  refine J_iconst C 0 (by decide) dX6_takesOne_20 ?_
  refine J_iadd C dX6_takesOne_21 ?_
  refine J_i (nI_add sp 0 : ((nI sp) + 0 : Int32) = (nI (sp + 0))) ?_
  refine J_put C 0 10 in6 tyX6 tyX6_ok nmX6 ([(mo 0, .inr (6, [.ref (mo 1), .ref (mo 2), .ref (mo 3), .ref (mo 4), .int (nI hn), .ref (mo 5), .int (nI ik), .ref (mo 6), .ref (mo 7), .int (nI tl), .int (nI (sp + 0)), .int (nI rd), .int gr])), (mo 1, .inl (G.2.1, 246, .inl (fun q => nI ((rowM σ) q)))), (mo 2, .inl (G.2.1, 246, .inl (fun q => nI (kf q)))), (mo 3, .inl (G.2.1, 246, .inl (fun q => nI (tf q)))), (mo 4, .inl (G.2.1, 984, .inl (fun q => nI (H q)))), (mo 5, .inl (G.2.1, 246, .inl (fun q => nI (sf q)))), (mo 6, .inl (G.2.1, 40, .inl (fun q => nI (df q)))), (mo 7, .inl (G.2.1, 60, .inl (fun q => nI (xf q))))]) rfl rfl (by decide) k585 rfl rfl rfl (Nat.le_of_ble_eq_true rfl) rfl dX6_takesOne_22 ?_
  refine J_ws (ws' := mdW G mo σ kf tf H sf df xf hn ik tl (sp + 0) rd gr) rfl ?_
  refine J_iload_n C rfl dX6_takesOne_25 ?_
  exact J_zret C hr rfl dX6_takesOne_26 () rfl trivial rfl

set_option maxHeartbeats 4000000 in
set_option maxRecDepth 100000 in
theorem ct_mMisY (l : Launch) (G : GT) (mo : Nat → Nat) (σ : AS) (kf tf H sf df xf : Nat → Nat) (hn ik tl sp rd : Nat) (gr : Int32) (g : Nat) (htl : tl ≤ 60) (hsp : sp ≤ 60) (hx : ∀ q, xf q < 65536) (hg : g ≤ 40) (hgr : gr = nI g - 1) (hok : mrOk xf tl sp) : Ct (S := Unit) l G NoX yX6_readsMisreading (Wy yX6_readsMisreading cX6_readsMisreading 2 ((Option.some Jvm.ClassFile.FieldType.boolean))) { frames := 2, cells := 0, slots := 0, locals := 47 } [.ref (mo 0)] (mdW G mo σ kf tf H sf df xf hn ik tl sp rd gr) (fun u => True) (fun u => some (.int 1)) (fun u => mdW G mo σ kf tf H sf (upN df (mrNum xf tl sp) (letC xf tl (mrPos xf tl sp))) xf hn ik tl (mrPos xf tl sp + 1) rd (nI (max g (mrNum xf tl sp + 1)) - 1)) := by
  refine Ct.of (by decide) (Nat.le_of_ble_eq_true rfl) (fun p e s m args below meth c C hr hnm hX => ?_)
  have hxa := hx sp
  have hxb := hx (sp + 1)
  have hd1 := hok.1
  refine J_aload_n C rfl dX6_readsMisreading_0 ?_
  refine J_bipush C 48 (by decide) dX6_readsMisreading_1 ?_
  refine J_bipush C 57 (by decide) dX6_readsMisreading_3 ?_
  refine J_callV (as := [.int 48, .int 57]) (rest := []) C (ct_hereY l G mo σ kf tf H sf df xf hn ik tl sp rd gr 48 57 htl (by omega) hx (by decide) (by decide) hd1) (fun u => mdW G mo σ kf tf H sf df xf hn ik tl sp rd gr) [0, 1, 2, 3, 4, 5, 6, 7] [] 2 k623 k625 k10 k38 k626 rfl (by decide +kernel) ⟨Nat.le_of_ble_eq_true rfl, Nat.le_of_ble_eq_true rfl⟩ ⟨Nat.le_of_ble_eq_true rfl, Nat.le_of_ble_eq_true rfl⟩ dX6_readsMisreading_5 (Nat.le_of_ble_eq_true rfl) 0 rfl rfl rfl (by decide +kernel) (fun _ => rfl) ([]) rfl (fun _ => rfl) 8 (fun _ => rfl) (by decide +kernel) (by decide +kernel) (fun _ _ => ?_)
  refine J_st (st' := [.int 1]) rfl ?_
  refine J_if_ne C 13 (by decide) dX6_readsMisreading_8 (fun _ => ?_) (fun h => absurd h (by decide))
  refine J_aload_n C rfl dX6_readsMisreading_13 ?_
  refine J_get C 0 8 in6 rfl rfl (by decide) k583 rfl dX6_readsMisreading_14 ?_
  refine J_aload_n C rfl dX6_readsMisreading_17 ?_
  refine J_get C 0 10 in6 rfl rfl (by decide) k585 rfl dX6_readsMisreading_18 ?_
  refine J_iald C 7 rfl sp rfl (by omega) (Nat.le_of_ble_eq_true rfl) dX6_readsMisreading_21 ?_
  refine J_bipush C 48 (by decide) dX6_readsMisreading_22 ?_
  refine J_isub C dX6_readsMisreading_24 ?_
  refine J_i (pk_sub (a := xf sp) (b := 48) (by omega) : ((nI (xf sp)) - 48 : Int32) = (nI (xf sp - 48))) ?_
  refine J_istore_n C [(1, .int (nI (xf sp - 48))), (0, .ref (mo 0))] (by decide) rfl dX6_readsMisreading_25 ?_
  refine J_aload_n C rfl dX6_readsMisreading_26 ?_
  refine J_dup C rfl dX6_readsMisreading_27 ?_
  refine J_get C 0 10 in6 rfl rfl (by decide) k585 rfl dX6_readsMisreading_28 ?_
  refine J_iconst C 1 (by decide) dX6_readsMisreading_31 ?_
  refine J_iadd C dX6_readsMisreading_32 ?_
  refine J_i (nI_add sp 1 : ((nI sp) + 1 : Int32) = (nI (sp + 1))) ?_
  refine J_put C 0 10 in6 tyX6 tyX6_ok nmX6 ([(mo 0, .inr (6, [.ref (mo 1), .ref (mo 2), .ref (mo 3), .ref (mo 4), .int (nI hn), .ref (mo 5), .int (nI ik), .ref (mo 6), .ref (mo 7), .int (nI tl), .int (nI (sp + 1)), .int (nI rd), .int gr])), (mo 1, .inl (G.2.1, 246, .inl (fun q => nI ((rowM σ) q)))), (mo 2, .inl (G.2.1, 246, .inl (fun q => nI (kf q)))), (mo 3, .inl (G.2.1, 246, .inl (fun q => nI (tf q)))), (mo 4, .inl (G.2.1, 984, .inl (fun q => nI (H q)))), (mo 5, .inl (G.2.1, 246, .inl (fun q => nI (sf q)))), (mo 6, .inl (G.2.1, 40, .inl (fun q => nI (df q)))), (mo 7, .inl (G.2.1, 60, .inl (fun q => nI (xf q))))]) rfl rfl (by decide) k585 rfl rfl rfl (Nat.le_of_ble_eq_true rfl) rfl dX6_readsMisreading_33 ?_
  refine J_ws (ws' := mdW G mo σ kf tf H sf df xf hn ik tl (sp + 1) rd gr) rfl ?_
  refine J_iload_n C rfl dX6_readsMisreading_36 ?_
  refine J_if_le C 101 (by decide) dX6_readsMisreading_37 (fun c37 => ?_) (fun c37 => ?_)
  · skip
    have c37 := cv_le_t (a := (xf sp - 48)) (b := 0) (by omega) (by omega) c37
    have hnum : mrNum xf tl sp = xf sp - 48 := by unfold mrNum; rw [if_neg (by omega)]
    have hpos : mrPos xf tl sp = sp + 1 := by unfold mrPos; rw [if_neg (by omega)]
    have hnle := mrNum_le hd1
    have hz2 : sp + 1 < tl ∧ 97 ≤ xf (sp + 1) ∧ xf (sp + 1) ≤ 122 := by have h9 := letC_pos hok.2; rw [hpos] at h9; exact h9
    have hlc : letC xf tl (sp + 1) = xf (sp + 1) - 97 + 1 := by unfold letC; rw [if_pos hz2]; omega
    refine J_ws (ws' := mdW G mo σ kf tf H sf df xf hn ik tl (sp + 1) rd gr) rfl ?_
    refine J_aload_n C rfl dX6_readsMisreading_101 ?_
    refine J_bipush C 97 (by decide) dX6_readsMisreading_102 ?_
    refine J_bipush C 122 (by decide) dX6_readsMisreading_104 ?_
    refine J_callV (as := [.int 97, .int 122]) (rest := []) C (ct_hereY l G mo σ kf tf H sf df xf hn ik tl (sp + 1) rd gr 97 122 htl (by omega) hx (by decide) (by decide) hz2) (fun u => mdW G mo σ kf tf H sf df xf hn ik tl (sp + 1) rd gr) [0, 1, 2, 3, 4, 5, 6, 7] [] 2 k623 k625 k10 k38 k626 rfl (by decide +kernel) ⟨Nat.le_of_ble_eq_true rfl, Nat.le_of_ble_eq_true rfl⟩ ⟨Nat.le_of_ble_eq_true rfl, Nat.le_of_ble_eq_true rfl⟩ dX6_readsMisreading_106 (Nat.le_of_ble_eq_true rfl) 0 rfl rfl rfl (by decide +kernel) (fun _ => rfl) ([]) rfl (fun _ => rfl) 8 (fun _ => rfl) (by decide +kernel) (by decide +kernel) (fun _ _ => ?_)
    refine J_st (st' := [.int 1]) rfl ?_
    refine J_if_ne C 114 (by decide) dX6_readsMisreading_109 (fun _ => ?_) (fun h => absurd h (by decide))
    refine J_aload_n C rfl dX6_readsMisreading_114 ?_
    refine J_get C 0 7 in6 rfl rfl (by decide) k582 rfl dX6_readsMisreading_115 ?_
    refine J_iload_n C rfl dX6_readsMisreading_118 ?_
    refine J_aload_n C rfl dX6_readsMisreading_119 ?_
    refine J_get C 0 8 in6 rfl rfl (by decide) k583 rfl dX6_readsMisreading_120 ?_
    refine J_aload_n C rfl dX6_readsMisreading_123 ?_
    refine J_get C 0 10 in6 rfl rfl (by decide) k585 rfl dX6_readsMisreading_124 ?_
    refine J_iald C 7 rfl (sp + 1) rfl (by omega) (Nat.le_of_ble_eq_true rfl) dX6_readsMisreading_127 ?_
    refine J_bipush C 97 (by decide) dX6_readsMisreading_128 ?_
    refine J_isub C dX6_readsMisreading_130 ?_
    refine J_i (pk_sub (a := xf (sp + 1)) (b := 97) (by omega) : ((nI (xf (sp + 1))) - 97 : Int32) = (nI ((xf (sp + 1)) - 97))) ?_
    refine J_iconst C 1 (by decide) dX6_readsMisreading_131 ?_
    refine J_iadd C dX6_readsMisreading_132 ?_
    refine J_i (nI_add ((xf (sp + 1)) - 97) 1 : ((nI ((xf (sp + 1)) - 97)) + 1 : Int32) = (nI (((xf (sp + 1)) - 97) + 1))) ?_
    refine J_iast C 6 ([(mo 0, .inr (6, [.ref (mo 1), .ref (mo 2), .ref (mo 3), .ref (mo 4), .int (nI hn), .ref (mo 5), .int (nI ik), .ref (mo 6), .ref (mo 7), .int (nI tl), .int (nI (sp + 1)), .int (nI rd), .int gr])), (mo 1, .inl (G.2.1, 246, .inl (fun q => nI ((rowM σ) q)))), (mo 2, .inl (G.2.1, 246, .inl (fun q => nI (kf q)))), (mo 3, .inl (G.2.1, 246, .inl (fun q => nI (tf q)))), (mo 4, .inl (G.2.1, 984, .inl (fun q => nI (H q)))), (mo 5, .inl (G.2.1, 246, .inl (fun q => nI (sf q)))), (mo 6, .inl (G.2.1, 40, .inl (upd (fun q => nI (df q)) (xf sp - 48) (nI (((xf (sp + 1)) - 97) + 1))))), (mo 7, .inl (G.2.1, 60, .inl (fun q => nI (xf q))))]) rfl (xf sp - 48) rfl (by omega) (Nat.le_of_ble_eq_true rfl) rfl dX6_readsMisreading_133 ?_
    refine J_arr 6 (fun q => nI (if q = (xf sp - 48) then ((xf (sp + 1)) - 97) + 1 else df q)) rfl (fun q _ => congrFun (upd_nI _ _ _) q) ?_
    refine J_ws (ws' := mdW G mo σ kf tf H sf (fun q => if q = (xf sp - 48) then ((xf (sp + 1)) - 97) + 1 else df q) xf hn ik tl (sp + 1) rd gr) rfl ?_
    refine J_aload_n C rfl dX6_readsMisreading_134 ?_
    refine J_dup C rfl dX6_readsMisreading_135 ?_
    refine J_get C 0 10 in6 rfl rfl (by decide) k585 rfl dX6_readsMisreading_136 ?_
    refine J_iconst C 1 (by decide) dX6_readsMisreading_139 ?_
    refine J_iadd C dX6_readsMisreading_140 ?_
    refine J_i (nI_add (sp + 1) 1 : ((nI (sp + 1)) + 1 : Int32) = (nI (sp + 1 + 1))) ?_
    refine J_put C 0 10 in6 tyX6 tyX6_ok nmX6 ([(mo 0, .inr (6, [.ref (mo 1), .ref (mo 2), .ref (mo 3), .ref (mo 4), .int (nI hn), .ref (mo 5), .int (nI ik), .ref (mo 6), .ref (mo 7), .int (nI tl), .int (nI (sp + 1 + 1)), .int (nI rd), .int gr])), (mo 1, .inl (G.2.1, 246, .inl (fun q => nI ((rowM σ) q)))), (mo 2, .inl (G.2.1, 246, .inl (fun q => nI (kf q)))), (mo 3, .inl (G.2.1, 246, .inl (fun q => nI (tf q)))), (mo 4, .inl (G.2.1, 984, .inl (fun q => nI (H q)))), (mo 5, .inl (G.2.1, 246, .inl (fun q => nI (sf q)))), (mo 6, .inl (G.2.1, 40, .inl (fun q => nI (if q = (xf sp - 48) then ((xf (sp + 1)) - 97) + 1 else df q)))), (mo 7, .inl (G.2.1, 60, .inl (fun q => nI (xf q))))]) rfl rfl (by decide) k585 rfl rfl rfl (Nat.le_of_ble_eq_true rfl) rfl dX6_readsMisreading_141 ?_
    refine J_ws (ws' := mdW G mo σ kf tf H sf (fun q => if q = (xf sp - 48) then ((xf (sp + 1)) - 97) + 1 else df q) xf hn ik tl (sp + 1 + 1) rd gr) rfl ?_
    refine J_aload_n C rfl dX6_readsMisreading_144 ?_
    refine J_iload_n C rfl dX6_readsMisreading_145 ?_
    refine J_aload_n C rfl dX6_readsMisreading_146 ?_
    refine J_get C 0 12 in6 rfl rfl (by decide) k587 rfl dX6_readsMisreading_147 ?_
    refine J_icmp_le C 157 (by decide) dX6_readsMisreading_150 (fun c150 => ?_) (fun c150 => ?_)
    · skip
      refine J_aload_n C rfl dX6_readsMisreading_157 ?_
      refine J_get C 0 12 in6 rfl rfl (by decide) k587 rfl dX6_readsMisreading_158 ?_
      refine J_i ((by rw [hnum, hgr]; exact gr_T (by omega) (by omega) (by rw [hgr] at c150; exact c150)) : (gr : Int32) = (nI (max g (mrNum xf tl sp + 1)) - 1)) ?_
      refine J_put C 0 12 in6 tyX6 tyX6_ok nmX6 ([(mo 0, .inr (6, [.ref (mo 1), .ref (mo 2), .ref (mo 3), .ref (mo 4), .int (nI hn), .ref (mo 5), .int (nI ik), .ref (mo 6), .ref (mo 7), .int (nI tl), .int (nI (sp + 1 + 1)), .int (nI rd), .int (nI (max g (mrNum xf tl sp + 1)) - 1)])), (mo 1, .inl (G.2.1, 246, .inl (fun q => nI ((rowM σ) q)))), (mo 2, .inl (G.2.1, 246, .inl (fun q => nI (kf q)))), (mo 3, .inl (G.2.1, 246, .inl (fun q => nI (tf q)))), (mo 4, .inl (G.2.1, 984, .inl (fun q => nI (H q)))), (mo 5, .inl (G.2.1, 246, .inl (fun q => nI (sf q)))), (mo 6, .inl (G.2.1, 40, .inl (fun q => nI (if q = (xf sp - 48) then ((xf (sp + 1)) - 97) + 1 else df q)))), (mo 7, .inl (G.2.1, 60, .inl (fun q => nI (xf q))))]) rfl rfl (by decide) k587 rfl rfl rfl (Nat.le_of_ble_eq_true rfl) rfl dX6_readsMisreading_161 ?_
      refine J_ws (ws' := mdW G mo σ kf tf H sf (fun q => if q = (xf sp - 48) then ((xf (sp + 1)) - 97) + 1 else df q) xf hn ik tl (sp + 1 + 1) rd (nI (max g (mrNum xf tl sp + 1)) - 1)) rfl ?_
      refine J_iconst C 1 (by decide) dX6_readsMisreading_164 ?_
      exact J_zret C hr rfl dX6_readsMisreading_165 () rfl trivial (by rw [hpos, hlc, ← hnum] <;> rfl)
    · skip
      refine J_iload_n C rfl dX6_readsMisreading_153 ?_
      refine J_goto C 161 (by decide) dX6_readsMisreading_154 ?_
      refine J_i ((by rw [hnum]; exact gr_F (by omega) (by omega) (by rw [hgr] at c150; exact c150)) : (nI (xf sp - 48) : Int32) = (nI (max g (mrNum xf tl sp + 1)) - 1)) ?_
      refine J_put C 0 12 in6 tyX6 tyX6_ok nmX6 ([(mo 0, .inr (6, [.ref (mo 1), .ref (mo 2), .ref (mo 3), .ref (mo 4), .int (nI hn), .ref (mo 5), .int (nI ik), .ref (mo 6), .ref (mo 7), .int (nI tl), .int (nI (sp + 1 + 1)), .int (nI rd), .int (nI (max g (mrNum xf tl sp + 1)) - 1)])), (mo 1, .inl (G.2.1, 246, .inl (fun q => nI ((rowM σ) q)))), (mo 2, .inl (G.2.1, 246, .inl (fun q => nI (kf q)))), (mo 3, .inl (G.2.1, 246, .inl (fun q => nI (tf q)))), (mo 4, .inl (G.2.1, 984, .inl (fun q => nI (H q)))), (mo 5, .inl (G.2.1, 246, .inl (fun q => nI (sf q)))), (mo 6, .inl (G.2.1, 40, .inl (fun q => nI (if q = (xf sp - 48) then ((xf (sp + 1)) - 97) + 1 else df q)))), (mo 7, .inl (G.2.1, 60, .inl (fun q => nI (xf q))))]) rfl rfl (by decide) k587 rfl rfl rfl (Nat.le_of_ble_eq_true rfl) rfl dX6_readsMisreading_161 ?_
      refine J_ws (ws' := mdW G mo σ kf tf H sf (fun q => if q = (xf sp - 48) then ((xf (sp + 1)) - 97) + 1 else df q) xf hn ik tl (sp + 1 + 1) rd (nI (max g (mrNum xf tl sp + 1)) - 1)) rfl ?_
      refine J_iconst C 1 (by decide) dX6_readsMisreading_164 ?_
      exact J_zret C hr rfl dX6_readsMisreading_165 () rfl trivial (by rw [hpos, hlc, ← hnum] <;> rfl)
  · skip
    have c37 := cv_le_f (a := (xf sp - 48)) (b := 0) (by omega) (by omega) c37
    refine J_aload_n C rfl dX6_readsMisreading_40 ?_
    refine J_bipush C 48 (by decide) dX6_readsMisreading_41 ?_
    refine J_bipush C 57 (by decide) dX6_readsMisreading_43 ?_
    by_cases hd2 : sp + 1 < tl ∧ 48 ≤ xf (sp + 1) ∧ xf (sp + 1) ≤ 57
    · skip
      refine J_callV (as := [.int 48, .int 57]) (rest := []) C (ct_hereY l G mo σ kf tf H sf df xf hn ik tl (sp + 1) rd gr 48 57 htl (by omega) hx (by decide) (by decide) hd2) (fun u => mdW G mo σ kf tf H sf df xf hn ik tl (sp + 1) rd gr) [0, 1, 2, 3, 4, 5, 6, 7] [] 2 k623 k625 k10 k38 k626 rfl (by decide +kernel) ⟨Nat.le_of_ble_eq_true rfl, Nat.le_of_ble_eq_true rfl⟩ ⟨Nat.le_of_ble_eq_true rfl, Nat.le_of_ble_eq_true rfl⟩ dX6_readsMisreading_45 (Nat.le_of_ble_eq_true rfl) 0 rfl rfl rfl (by decide +kernel) (fun _ => rfl) ([]) rfl (fun _ => rfl) 8 (fun _ => rfl) (by decide +kernel) (by decide +kernel) (fun _ _ => ?_)
      refine J_st (st' := [.int 1]) rfl ?_
      refine J_if_eq C 101 (by decide) dX6_readsMisreading_48 (fun h => absurd h (by decide)) (fun _ => ?_)
      refine J_bipush C 10 (by decide) dX6_readsMisreading_51 ?_
      refine J_iload_n C rfl dX6_readsMisreading_53 ?_
      refine J_imul C dX6_readsMisreading_54 ?_
      refine J_i (pk_mul 10 (xf sp - 48) : (10 * (nI (xf sp - 48)) : Int32) = (nI (10 * (xf sp - 48)))) ?_
      refine J_aload_n C rfl dX6_readsMisreading_55 ?_
      refine J_get C 0 8 in6 rfl rfl (by decide) k583 rfl dX6_readsMisreading_56 ?_
      refine J_aload_n C rfl dX6_readsMisreading_59 ?_
      refine J_get C 0 10 in6 rfl rfl (by decide) k585 rfl dX6_readsMisreading_60 ?_
      refine J_iald C 7 rfl (sp + 1) rfl (by omega) (Nat.le_of_ble_eq_true rfl) dX6_readsMisreading_63 ?_
      refine J_iadd C dX6_readsMisreading_64 ?_
      refine J_i (nI_add (10 * (xf sp - 48)) (xf (sp + 1)) : ((nI (10 * (xf sp - 48))) + (nI (xf (sp + 1))) : Int32) = (nI ((10 * (xf sp - 48)) + (xf (sp + 1))))) ?_
      refine J_bipush C 48 (by decide) dX6_readsMisreading_65 ?_
      refine J_isub C dX6_readsMisreading_67 ?_
      refine J_i (pk_sub (a := (10 * (xf sp - 48)) + (xf (sp + 1))) (b := 48) (by omega) : ((nI ((10 * (xf sp - 48)) + (xf (sp + 1)))) - 48 : Int32) = (nI (((10 * (xf sp - 48)) + (xf (sp + 1))) - 48))) ?_
      refine J_bipush C 40 (by decide) dX6_readsMisreading_68 ?_
      refine J_icmp_ge C 101 (by decide) dX6_readsMisreading_70 (fun c70 => ?_) (fun c70 => ?_)
      · skip
        have c70 := cv_ge_t (a := (((10 * (xf sp - 48)) + (xf (sp + 1))) - 48)) (b := 40) (by omega) (by omega) c70
        have hnum : mrNum xf tl sp = xf sp - 48 := by unfold mrNum; rw [if_neg (by omega)]
        have hpos : mrPos xf tl sp = sp + 1 := by unfold mrPos; rw [if_neg (by omega)]
        have hnle := mrNum_le hd1
        have hz2 : sp + 1 < tl ∧ 97 ≤ xf (sp + 1) ∧ xf (sp + 1) ≤ 122 := by have h9 := letC_pos hok.2; rw [hpos] at h9; exact h9
        have hlc : letC xf tl (sp + 1) = xf (sp + 1) - 97 + 1 := by unfold letC; rw [if_pos hz2]; omega
        refine J_ws (ws' := mdW G mo σ kf tf H sf df xf hn ik tl (sp + 1) rd gr) rfl ?_
        refine J_aload_n C rfl dX6_readsMisreading_101 ?_
        refine J_bipush C 97 (by decide) dX6_readsMisreading_102 ?_
        refine J_bipush C 122 (by decide) dX6_readsMisreading_104 ?_
        refine J_callV (as := [.int 97, .int 122]) (rest := []) C (ct_hereY l G mo σ kf tf H sf df xf hn ik tl (sp + 1) rd gr 97 122 htl (by omega) hx (by decide) (by decide) hz2) (fun u => mdW G mo σ kf tf H sf df xf hn ik tl (sp + 1) rd gr) [0, 1, 2, 3, 4, 5, 6, 7] [] 2 k623 k625 k10 k38 k626 rfl (by decide +kernel) ⟨Nat.le_of_ble_eq_true rfl, Nat.le_of_ble_eq_true rfl⟩ ⟨Nat.le_of_ble_eq_true rfl, Nat.le_of_ble_eq_true rfl⟩ dX6_readsMisreading_106 (Nat.le_of_ble_eq_true rfl) 0 rfl rfl rfl (by decide +kernel) (fun _ => rfl) ([]) rfl (fun _ => rfl) 8 (fun _ => rfl) (by decide +kernel) (by decide +kernel) (fun _ _ => ?_)
        refine J_st (st' := [.int 1]) rfl ?_
        refine J_if_ne C 114 (by decide) dX6_readsMisreading_109 (fun _ => ?_) (fun h => absurd h (by decide))
        refine J_aload_n C rfl dX6_readsMisreading_114 ?_
        refine J_get C 0 7 in6 rfl rfl (by decide) k582 rfl dX6_readsMisreading_115 ?_
        refine J_iload_n C rfl dX6_readsMisreading_118 ?_
        refine J_aload_n C rfl dX6_readsMisreading_119 ?_
        refine J_get C 0 8 in6 rfl rfl (by decide) k583 rfl dX6_readsMisreading_120 ?_
        refine J_aload_n C rfl dX6_readsMisreading_123 ?_
        refine J_get C 0 10 in6 rfl rfl (by decide) k585 rfl dX6_readsMisreading_124 ?_
        refine J_iald C 7 rfl (sp + 1) rfl (by omega) (Nat.le_of_ble_eq_true rfl) dX6_readsMisreading_127 ?_
        refine J_bipush C 97 (by decide) dX6_readsMisreading_128 ?_
        refine J_isub C dX6_readsMisreading_130 ?_
        refine J_i (pk_sub (a := xf (sp + 1)) (b := 97) (by omega) : ((nI (xf (sp + 1))) - 97 : Int32) = (nI ((xf (sp + 1)) - 97))) ?_
        refine J_iconst C 1 (by decide) dX6_readsMisreading_131 ?_
        refine J_iadd C dX6_readsMisreading_132 ?_
        refine J_i (nI_add ((xf (sp + 1)) - 97) 1 : ((nI ((xf (sp + 1)) - 97)) + 1 : Int32) = (nI (((xf (sp + 1)) - 97) + 1))) ?_
        refine J_iast C 6 ([(mo 0, .inr (6, [.ref (mo 1), .ref (mo 2), .ref (mo 3), .ref (mo 4), .int (nI hn), .ref (mo 5), .int (nI ik), .ref (mo 6), .ref (mo 7), .int (nI tl), .int (nI (sp + 1)), .int (nI rd), .int gr])), (mo 1, .inl (G.2.1, 246, .inl (fun q => nI ((rowM σ) q)))), (mo 2, .inl (G.2.1, 246, .inl (fun q => nI (kf q)))), (mo 3, .inl (G.2.1, 246, .inl (fun q => nI (tf q)))), (mo 4, .inl (G.2.1, 984, .inl (fun q => nI (H q)))), (mo 5, .inl (G.2.1, 246, .inl (fun q => nI (sf q)))), (mo 6, .inl (G.2.1, 40, .inl (upd (fun q => nI (df q)) (xf sp - 48) (nI (((xf (sp + 1)) - 97) + 1))))), (mo 7, .inl (G.2.1, 60, .inl (fun q => nI (xf q))))]) rfl (xf sp - 48) rfl (by omega) (Nat.le_of_ble_eq_true rfl) rfl dX6_readsMisreading_133 ?_
        refine J_arr 6 (fun q => nI (if q = (xf sp - 48) then ((xf (sp + 1)) - 97) + 1 else df q)) rfl (fun q _ => congrFun (upd_nI _ _ _) q) ?_
        refine J_ws (ws' := mdW G mo σ kf tf H sf (fun q => if q = (xf sp - 48) then ((xf (sp + 1)) - 97) + 1 else df q) xf hn ik tl (sp + 1) rd gr) rfl ?_
        refine J_aload_n C rfl dX6_readsMisreading_134 ?_
        refine J_dup C rfl dX6_readsMisreading_135 ?_
        refine J_get C 0 10 in6 rfl rfl (by decide) k585 rfl dX6_readsMisreading_136 ?_
        refine J_iconst C 1 (by decide) dX6_readsMisreading_139 ?_
        refine J_iadd C dX6_readsMisreading_140 ?_
        refine J_i (nI_add (sp + 1) 1 : ((nI (sp + 1)) + 1 : Int32) = (nI (sp + 1 + 1))) ?_
        refine J_put C 0 10 in6 tyX6 tyX6_ok nmX6 ([(mo 0, .inr (6, [.ref (mo 1), .ref (mo 2), .ref (mo 3), .ref (mo 4), .int (nI hn), .ref (mo 5), .int (nI ik), .ref (mo 6), .ref (mo 7), .int (nI tl), .int (nI (sp + 1 + 1)), .int (nI rd), .int gr])), (mo 1, .inl (G.2.1, 246, .inl (fun q => nI ((rowM σ) q)))), (mo 2, .inl (G.2.1, 246, .inl (fun q => nI (kf q)))), (mo 3, .inl (G.2.1, 246, .inl (fun q => nI (tf q)))), (mo 4, .inl (G.2.1, 984, .inl (fun q => nI (H q)))), (mo 5, .inl (G.2.1, 246, .inl (fun q => nI (sf q)))), (mo 6, .inl (G.2.1, 40, .inl (fun q => nI (if q = (xf sp - 48) then ((xf (sp + 1)) - 97) + 1 else df q)))), (mo 7, .inl (G.2.1, 60, .inl (fun q => nI (xf q))))]) rfl rfl (by decide) k585 rfl rfl rfl (Nat.le_of_ble_eq_true rfl) rfl dX6_readsMisreading_141 ?_
        refine J_ws (ws' := mdW G mo σ kf tf H sf (fun q => if q = (xf sp - 48) then ((xf (sp + 1)) - 97) + 1 else df q) xf hn ik tl (sp + 1 + 1) rd gr) rfl ?_
        refine J_aload_n C rfl dX6_readsMisreading_144 ?_
        refine J_iload_n C rfl dX6_readsMisreading_145 ?_
        refine J_aload_n C rfl dX6_readsMisreading_146 ?_
        refine J_get C 0 12 in6 rfl rfl (by decide) k587 rfl dX6_readsMisreading_147 ?_
        refine J_icmp_le C 157 (by decide) dX6_readsMisreading_150 (fun c150 => ?_) (fun c150 => ?_)
        · skip
          refine J_aload_n C rfl dX6_readsMisreading_157 ?_
          refine J_get C 0 12 in6 rfl rfl (by decide) k587 rfl dX6_readsMisreading_158 ?_
          refine J_i ((by rw [hnum, hgr]; exact gr_T (by omega) (by omega) (by rw [hgr] at c150; exact c150)) : (gr : Int32) = (nI (max g (mrNum xf tl sp + 1)) - 1)) ?_
          refine J_put C 0 12 in6 tyX6 tyX6_ok nmX6 ([(mo 0, .inr (6, [.ref (mo 1), .ref (mo 2), .ref (mo 3), .ref (mo 4), .int (nI hn), .ref (mo 5), .int (nI ik), .ref (mo 6), .ref (mo 7), .int (nI tl), .int (nI (sp + 1 + 1)), .int (nI rd), .int (nI (max g (mrNum xf tl sp + 1)) - 1)])), (mo 1, .inl (G.2.1, 246, .inl (fun q => nI ((rowM σ) q)))), (mo 2, .inl (G.2.1, 246, .inl (fun q => nI (kf q)))), (mo 3, .inl (G.2.1, 246, .inl (fun q => nI (tf q)))), (mo 4, .inl (G.2.1, 984, .inl (fun q => nI (H q)))), (mo 5, .inl (G.2.1, 246, .inl (fun q => nI (sf q)))), (mo 6, .inl (G.2.1, 40, .inl (fun q => nI (if q = (xf sp - 48) then ((xf (sp + 1)) - 97) + 1 else df q)))), (mo 7, .inl (G.2.1, 60, .inl (fun q => nI (xf q))))]) rfl rfl (by decide) k587 rfl rfl rfl (Nat.le_of_ble_eq_true rfl) rfl dX6_readsMisreading_161 ?_
          refine J_ws (ws' := mdW G mo σ kf tf H sf (fun q => if q = (xf sp - 48) then ((xf (sp + 1)) - 97) + 1 else df q) xf hn ik tl (sp + 1 + 1) rd (nI (max g (mrNum xf tl sp + 1)) - 1)) rfl ?_
          refine J_iconst C 1 (by decide) dX6_readsMisreading_164 ?_
          exact J_zret C hr rfl dX6_readsMisreading_165 () rfl trivial (by rw [hpos, hlc, ← hnum] <;> rfl)
        · skip
          refine J_iload_n C rfl dX6_readsMisreading_153 ?_
          refine J_goto C 161 (by decide) dX6_readsMisreading_154 ?_
          refine J_i ((by rw [hnum]; exact gr_F (by omega) (by omega) (by rw [hgr] at c150; exact c150)) : (nI (xf sp - 48) : Int32) = (nI (max g (mrNum xf tl sp + 1)) - 1)) ?_
          refine J_put C 0 12 in6 tyX6 tyX6_ok nmX6 ([(mo 0, .inr (6, [.ref (mo 1), .ref (mo 2), .ref (mo 3), .ref (mo 4), .int (nI hn), .ref (mo 5), .int (nI ik), .ref (mo 6), .ref (mo 7), .int (nI tl), .int (nI (sp + 1 + 1)), .int (nI rd), .int (nI (max g (mrNum xf tl sp + 1)) - 1)])), (mo 1, .inl (G.2.1, 246, .inl (fun q => nI ((rowM σ) q)))), (mo 2, .inl (G.2.1, 246, .inl (fun q => nI (kf q)))), (mo 3, .inl (G.2.1, 246, .inl (fun q => nI (tf q)))), (mo 4, .inl (G.2.1, 984, .inl (fun q => nI (H q)))), (mo 5, .inl (G.2.1, 246, .inl (fun q => nI (sf q)))), (mo 6, .inl (G.2.1, 40, .inl (fun q => nI (if q = (xf sp - 48) then ((xf (sp + 1)) - 97) + 1 else df q)))), (mo 7, .inl (G.2.1, 60, .inl (fun q => nI (xf q))))]) rfl rfl (by decide) k587 rfl rfl rfl (Nat.le_of_ble_eq_true rfl) rfl dX6_readsMisreading_161 ?_
          refine J_ws (ws' := mdW G mo σ kf tf H sf (fun q => if q = (xf sp - 48) then ((xf (sp + 1)) - 97) + 1 else df q) xf hn ik tl (sp + 1 + 1) rd (nI (max g (mrNum xf tl sp + 1)) - 1)) rfl ?_
          refine J_iconst C 1 (by decide) dX6_readsMisreading_164 ?_
          exact J_zret C hr rfl dX6_readsMisreading_165 () rfl trivial (by rw [hpos, hlc, ← hnum] <;> rfl)
      · skip
        have c70 := cv_ge_f (a := (((10 * (xf sp - 48)) + (xf (sp + 1))) - 48)) (b := 40) (by omega) (by omega) c70
        refine J_bipush C 10 (by decide) dX6_readsMisreading_73 ?_
        refine J_iload_n C rfl dX6_readsMisreading_75 ?_
        refine J_imul C dX6_readsMisreading_76 ?_
        refine J_i (pk_mul 10 (xf sp - 48) : (10 * (nI (xf sp - 48)) : Int32) = (nI (10 * (xf sp - 48)))) ?_
        refine J_aload_n C rfl dX6_readsMisreading_77 ?_
        refine J_get C 0 8 in6 rfl rfl (by decide) k583 rfl dX6_readsMisreading_78 ?_
        refine J_aload_n C rfl dX6_readsMisreading_81 ?_
        refine J_get C 0 10 in6 rfl rfl (by decide) k585 rfl dX6_readsMisreading_82 ?_
        refine J_iald C 7 rfl (sp + 1) rfl (by omega) (Nat.le_of_ble_eq_true rfl) dX6_readsMisreading_85 ?_
        refine J_iadd C dX6_readsMisreading_86 ?_
        refine J_i (nI_add (10 * (xf sp - 48)) (xf (sp + 1)) : ((nI (10 * (xf sp - 48))) + (nI (xf (sp + 1))) : Int32) = (nI ((10 * (xf sp - 48)) + (xf (sp + 1))))) ?_
        refine J_bipush C 48 (by decide) dX6_readsMisreading_87 ?_
        refine J_isub C dX6_readsMisreading_89 ?_
        refine J_i (pk_sub (a := (10 * (xf sp - 48)) + (xf (sp + 1))) (b := 48) (by omega) : ((nI ((10 * (xf sp - 48)) + (xf (sp + 1)))) - 48 : Int32) = (nI (((10 * (xf sp - 48)) + (xf (sp + 1))) - 48))) ?_
        refine J_istore_n C [(1, .int (nI (((10 * (xf sp - 48)) + (xf (sp + 1))) - 48))), (0, .ref (mo 0))] (by decide) rfl dX6_readsMisreading_90 ?_
        refine J_aload_n C rfl dX6_readsMisreading_91 ?_
        refine J_dup C rfl dX6_readsMisreading_92 ?_
        refine J_get C 0 10 in6 rfl rfl (by decide) k585 rfl dX6_readsMisreading_93 ?_
        refine J_iconst C 1 (by decide) dX6_readsMisreading_96 ?_
        refine J_iadd C dX6_readsMisreading_97 ?_
        refine J_i (nI_add (sp + 1) 1 : ((nI (sp + 1)) + 1 : Int32) = (nI (sp + 1 + 1))) ?_
        refine J_put C 0 10 in6 tyX6 tyX6_ok nmX6 ([(mo 0, .inr (6, [.ref (mo 1), .ref (mo 2), .ref (mo 3), .ref (mo 4), .int (nI hn), .ref (mo 5), .int (nI ik), .ref (mo 6), .ref (mo 7), .int (nI tl), .int (nI (sp + 1 + 1)), .int (nI rd), .int gr])), (mo 1, .inl (G.2.1, 246, .inl (fun q => nI ((rowM σ) q)))), (mo 2, .inl (G.2.1, 246, .inl (fun q => nI (kf q)))), (mo 3, .inl (G.2.1, 246, .inl (fun q => nI (tf q)))), (mo 4, .inl (G.2.1, 984, .inl (fun q => nI (H q)))), (mo 5, .inl (G.2.1, 246, .inl (fun q => nI (sf q)))), (mo 6, .inl (G.2.1, 40, .inl (fun q => nI (df q)))), (mo 7, .inl (G.2.1, 60, .inl (fun q => nI (xf q))))]) rfl rfl (by decide) k585 rfl rfl rfl (Nat.le_of_ble_eq_true rfl) rfl dX6_readsMisreading_98 ?_
        refine J_ws (ws' := mdW G mo σ kf tf H sf df xf hn ik tl (sp + 1 + 1) rd gr) rfl ?_
        have hnum : mrNum xf tl sp = ((10 * (xf sp - 48)) + (xf (sp + 1))) - 48 := by unfold mrNum; rw [if_pos (by omega)]; omega
        have hpos : mrPos xf tl sp = sp + 2 := by unfold mrPos; rw [if_pos (by omega)]
        have hnle := mrNum_le hd1
        have hz2 : sp + 2 < tl ∧ 97 ≤ xf (sp + 2) ∧ xf (sp + 2) ≤ 122 := by have h9 := letC_pos hok.2; rw [hpos] at h9; exact h9
        have hlc : letC xf tl (sp + 2) = xf (sp + 2) - 97 + 1 := by unfold letC; rw [if_pos hz2]; omega
        refine J_ws (ws' := mdW G mo σ kf tf H sf df xf hn ik tl (sp + 2) rd gr) rfl ?_
        refine J_aload_n C rfl dX6_readsMisreading_101 ?_
        refine J_bipush C 97 (by decide) dX6_readsMisreading_102 ?_
        refine J_bipush C 122 (by decide) dX6_readsMisreading_104 ?_
        refine J_callV (as := [.int 97, .int 122]) (rest := []) C (ct_hereY l G mo σ kf tf H sf df xf hn ik tl (sp + 2) rd gr 97 122 htl (by omega) hx (by decide) (by decide) hz2) (fun u => mdW G mo σ kf tf H sf df xf hn ik tl (sp + 2) rd gr) [0, 1, 2, 3, 4, 5, 6, 7] [] 2 k623 k625 k10 k38 k626 rfl (by decide +kernel) ⟨Nat.le_of_ble_eq_true rfl, Nat.le_of_ble_eq_true rfl⟩ ⟨Nat.le_of_ble_eq_true rfl, Nat.le_of_ble_eq_true rfl⟩ dX6_readsMisreading_106 (Nat.le_of_ble_eq_true rfl) 0 rfl rfl rfl (by decide +kernel) (fun _ => rfl) ([]) rfl (fun _ => rfl) 8 (fun _ => rfl) (by decide +kernel) (by decide +kernel) (fun _ _ => ?_)
        refine J_st (st' := [.int 1]) rfl ?_
        refine J_if_ne C 114 (by decide) dX6_readsMisreading_109 (fun _ => ?_) (fun h => absurd h (by decide))
        refine J_aload_n C rfl dX6_readsMisreading_114 ?_
        refine J_get C 0 7 in6 rfl rfl (by decide) k582 rfl dX6_readsMisreading_115 ?_
        refine J_iload_n C rfl dX6_readsMisreading_118 ?_
        refine J_aload_n C rfl dX6_readsMisreading_119 ?_
        refine J_get C 0 8 in6 rfl rfl (by decide) k583 rfl dX6_readsMisreading_120 ?_
        refine J_aload_n C rfl dX6_readsMisreading_123 ?_
        refine J_get C 0 10 in6 rfl rfl (by decide) k585 rfl dX6_readsMisreading_124 ?_
        refine J_iald C 7 rfl (sp + 2) rfl (by omega) (Nat.le_of_ble_eq_true rfl) dX6_readsMisreading_127 ?_
        refine J_bipush C 97 (by decide) dX6_readsMisreading_128 ?_
        refine J_isub C dX6_readsMisreading_130 ?_
        refine J_i (pk_sub (a := xf (sp + 2)) (b := 97) (by omega) : ((nI (xf (sp + 2))) - 97 : Int32) = (nI ((xf (sp + 2)) - 97))) ?_
        refine J_iconst C 1 (by decide) dX6_readsMisreading_131 ?_
        refine J_iadd C dX6_readsMisreading_132 ?_
        refine J_i (nI_add ((xf (sp + 2)) - 97) 1 : ((nI ((xf (sp + 2)) - 97)) + 1 : Int32) = (nI (((xf (sp + 2)) - 97) + 1))) ?_
        refine J_iast C 6 ([(mo 0, .inr (6, [.ref (mo 1), .ref (mo 2), .ref (mo 3), .ref (mo 4), .int (nI hn), .ref (mo 5), .int (nI ik), .ref (mo 6), .ref (mo 7), .int (nI tl), .int (nI (sp + 2)), .int (nI rd), .int gr])), (mo 1, .inl (G.2.1, 246, .inl (fun q => nI ((rowM σ) q)))), (mo 2, .inl (G.2.1, 246, .inl (fun q => nI (kf q)))), (mo 3, .inl (G.2.1, 246, .inl (fun q => nI (tf q)))), (mo 4, .inl (G.2.1, 984, .inl (fun q => nI (H q)))), (mo 5, .inl (G.2.1, 246, .inl (fun q => nI (sf q)))), (mo 6, .inl (G.2.1, 40, .inl (upd (fun q => nI (df q)) (((10 * (xf sp - 48)) + (xf (sp + 1))) - 48) (nI (((xf (sp + 2)) - 97) + 1))))), (mo 7, .inl (G.2.1, 60, .inl (fun q => nI (xf q))))]) rfl (((10 * (xf sp - 48)) + (xf (sp + 1))) - 48) rfl (by omega) (Nat.le_of_ble_eq_true rfl) rfl dX6_readsMisreading_133 ?_
        refine J_arr 6 (fun q => nI (if q = (((10 * (xf sp - 48)) + (xf (sp + 1))) - 48) then ((xf (sp + 2)) - 97) + 1 else df q)) rfl (fun q _ => congrFun (upd_nI _ _ _) q) ?_
        refine J_ws (ws' := mdW G mo σ kf tf H sf (fun q => if q = (((10 * (xf sp - 48)) + (xf (sp + 1))) - 48) then ((xf (sp + 2)) - 97) + 1 else df q) xf hn ik tl (sp + 2) rd gr) rfl ?_
        refine J_aload_n C rfl dX6_readsMisreading_134 ?_
        refine J_dup C rfl dX6_readsMisreading_135 ?_
        refine J_get C 0 10 in6 rfl rfl (by decide) k585 rfl dX6_readsMisreading_136 ?_
        refine J_iconst C 1 (by decide) dX6_readsMisreading_139 ?_
        refine J_iadd C dX6_readsMisreading_140 ?_
        refine J_i (nI_add (sp + 2) 1 : ((nI (sp + 2)) + 1 : Int32) = (nI (sp + 2 + 1))) ?_
        refine J_put C 0 10 in6 tyX6 tyX6_ok nmX6 ([(mo 0, .inr (6, [.ref (mo 1), .ref (mo 2), .ref (mo 3), .ref (mo 4), .int (nI hn), .ref (mo 5), .int (nI ik), .ref (mo 6), .ref (mo 7), .int (nI tl), .int (nI (sp + 2 + 1)), .int (nI rd), .int gr])), (mo 1, .inl (G.2.1, 246, .inl (fun q => nI ((rowM σ) q)))), (mo 2, .inl (G.2.1, 246, .inl (fun q => nI (kf q)))), (mo 3, .inl (G.2.1, 246, .inl (fun q => nI (tf q)))), (mo 4, .inl (G.2.1, 984, .inl (fun q => nI (H q)))), (mo 5, .inl (G.2.1, 246, .inl (fun q => nI (sf q)))), (mo 6, .inl (G.2.1, 40, .inl (fun q => nI (if q = (((10 * (xf sp - 48)) + (xf (sp + 1))) - 48) then ((xf (sp + 2)) - 97) + 1 else df q)))), (mo 7, .inl (G.2.1, 60, .inl (fun q => nI (xf q))))]) rfl rfl (by decide) k585 rfl rfl rfl (Nat.le_of_ble_eq_true rfl) rfl dX6_readsMisreading_141 ?_
        refine J_ws (ws' := mdW G mo σ kf tf H sf (fun q => if q = (((10 * (xf sp - 48)) + (xf (sp + 1))) - 48) then ((xf (sp + 2)) - 97) + 1 else df q) xf hn ik tl (sp + 2 + 1) rd gr) rfl ?_
        refine J_aload_n C rfl dX6_readsMisreading_144 ?_
        refine J_iload_n C rfl dX6_readsMisreading_145 ?_
        refine J_aload_n C rfl dX6_readsMisreading_146 ?_
        refine J_get C 0 12 in6 rfl rfl (by decide) k587 rfl dX6_readsMisreading_147 ?_
        refine J_icmp_le C 157 (by decide) dX6_readsMisreading_150 (fun c150 => ?_) (fun c150 => ?_)
        · skip
          refine J_aload_n C rfl dX6_readsMisreading_157 ?_
          refine J_get C 0 12 in6 rfl rfl (by decide) k587 rfl dX6_readsMisreading_158 ?_
          refine J_i ((by rw [hnum, hgr]; exact gr_T (by omega) (by omega) (by rw [hgr] at c150; exact c150)) : (gr : Int32) = (nI (max g (mrNum xf tl sp + 1)) - 1)) ?_
          refine J_put C 0 12 in6 tyX6 tyX6_ok nmX6 ([(mo 0, .inr (6, [.ref (mo 1), .ref (mo 2), .ref (mo 3), .ref (mo 4), .int (nI hn), .ref (mo 5), .int (nI ik), .ref (mo 6), .ref (mo 7), .int (nI tl), .int (nI (sp + 2 + 1)), .int (nI rd), .int (nI (max g (mrNum xf tl sp + 1)) - 1)])), (mo 1, .inl (G.2.1, 246, .inl (fun q => nI ((rowM σ) q)))), (mo 2, .inl (G.2.1, 246, .inl (fun q => nI (kf q)))), (mo 3, .inl (G.2.1, 246, .inl (fun q => nI (tf q)))), (mo 4, .inl (G.2.1, 984, .inl (fun q => nI (H q)))), (mo 5, .inl (G.2.1, 246, .inl (fun q => nI (sf q)))), (mo 6, .inl (G.2.1, 40, .inl (fun q => nI (if q = (((10 * (xf sp - 48)) + (xf (sp + 1))) - 48) then ((xf (sp + 2)) - 97) + 1 else df q)))), (mo 7, .inl (G.2.1, 60, .inl (fun q => nI (xf q))))]) rfl rfl (by decide) k587 rfl rfl rfl (Nat.le_of_ble_eq_true rfl) rfl dX6_readsMisreading_161 ?_
          refine J_ws (ws' := mdW G mo σ kf tf H sf (fun q => if q = (((10 * (xf sp - 48)) + (xf (sp + 1))) - 48) then ((xf (sp + 2)) - 97) + 1 else df q) xf hn ik tl (sp + 2 + 1) rd (nI (max g (mrNum xf tl sp + 1)) - 1)) rfl ?_
          refine J_iconst C 1 (by decide) dX6_readsMisreading_164 ?_
          exact J_zret C hr rfl dX6_readsMisreading_165 () rfl trivial (by rw [hpos, hlc, ← hnum] <;> rfl)
        · skip
          refine J_iload_n C rfl dX6_readsMisreading_153 ?_
          refine J_goto C 161 (by decide) dX6_readsMisreading_154 ?_
          refine J_i ((by rw [hnum]; exact gr_F (by omega) (by omega) (by rw [hgr] at c150; exact c150)) : (nI (((10 * (xf sp - 48)) + (xf (sp + 1))) - 48) : Int32) = (nI (max g (mrNum xf tl sp + 1)) - 1)) ?_
          refine J_put C 0 12 in6 tyX6 tyX6_ok nmX6 ([(mo 0, .inr (6, [.ref (mo 1), .ref (mo 2), .ref (mo 3), .ref (mo 4), .int (nI hn), .ref (mo 5), .int (nI ik), .ref (mo 6), .ref (mo 7), .int (nI tl), .int (nI (sp + 2 + 1)), .int (nI rd), .int (nI (max g (mrNum xf tl sp + 1)) - 1)])), (mo 1, .inl (G.2.1, 246, .inl (fun q => nI ((rowM σ) q)))), (mo 2, .inl (G.2.1, 246, .inl (fun q => nI (kf q)))), (mo 3, .inl (G.2.1, 246, .inl (fun q => nI (tf q)))), (mo 4, .inl (G.2.1, 984, .inl (fun q => nI (H q)))), (mo 5, .inl (G.2.1, 246, .inl (fun q => nI (sf q)))), (mo 6, .inl (G.2.1, 40, .inl (fun q => nI (if q = (((10 * (xf sp - 48)) + (xf (sp + 1))) - 48) then ((xf (sp + 2)) - 97) + 1 else df q)))), (mo 7, .inl (G.2.1, 60, .inl (fun q => nI (xf q))))]) rfl rfl (by decide) k587 rfl rfl rfl (Nat.le_of_ble_eq_true rfl) rfl dX6_readsMisreading_161 ?_
          refine J_ws (ws' := mdW G mo σ kf tf H sf (fun q => if q = (((10 * (xf sp - 48)) + (xf (sp + 1))) - 48) then ((xf (sp + 2)) - 97) + 1 else df q) xf hn ik tl (sp + 2 + 1) rd (nI (max g (mrNum xf tl sp + 1)) - 1)) rfl ?_
          refine J_iconst C 1 (by decide) dX6_readsMisreading_164 ?_
          exact J_zret C hr rfl dX6_readsMisreading_165 () rfl trivial (by rw [hpos, hlc, ← hnum] <;> rfl)
    · skip
      refine J_callV (as := [.int 48, .int 57]) (rest := []) C (ct_hereN l G mo σ kf tf H sf df xf hn ik tl (sp + 1) rd gr 48 57 htl (by omega) hx (by decide) (by decide) hd2) (fun u => mdW G mo σ kf tf H sf df xf hn ik tl (sp + 1) rd gr) [0, 1, 2, 3, 4, 5, 6, 7] [] 2 k623 k625 k10 k38 k626 rfl (by decide +kernel) ⟨Nat.le_of_ble_eq_true rfl, Nat.le_of_ble_eq_true rfl⟩ ⟨Nat.le_of_ble_eq_true rfl, Nat.le_of_ble_eq_true rfl⟩ dX6_readsMisreading_45 (Nat.le_of_ble_eq_true rfl) 0 rfl rfl rfl (by decide +kernel) (fun _ => rfl) ([]) rfl (fun _ => rfl) 8 (fun _ => rfl) (by decide +kernel) (by decide +kernel) (fun _ _ => ?_)
      refine J_st (st' := [.int 0]) rfl ?_
      refine J_if_eq C 101 (by decide) dX6_readsMisreading_48 (fun _ => ?_) (fun h => absurd h (by decide))
      have hnum : mrNum xf tl sp = xf sp - 48 := by unfold mrNum; rw [if_neg (by omega)]
      have hpos : mrPos xf tl sp = sp + 1 := by unfold mrPos; rw [if_neg (by omega)]
      have hnle := mrNum_le hd1
      have hz2 : sp + 1 < tl ∧ 97 ≤ xf (sp + 1) ∧ xf (sp + 1) ≤ 122 := by have h9 := letC_pos hok.2; rw [hpos] at h9; exact h9
      have hlc : letC xf tl (sp + 1) = xf (sp + 1) - 97 + 1 := by unfold letC; rw [if_pos hz2]; omega
      refine J_ws (ws' := mdW G mo σ kf tf H sf df xf hn ik tl (sp + 1) rd gr) rfl ?_
      refine J_aload_n C rfl dX6_readsMisreading_101 ?_
      refine J_bipush C 97 (by decide) dX6_readsMisreading_102 ?_
      refine J_bipush C 122 (by decide) dX6_readsMisreading_104 ?_
      refine J_callV (as := [.int 97, .int 122]) (rest := []) C (ct_hereY l G mo σ kf tf H sf df xf hn ik tl (sp + 1) rd gr 97 122 htl (by omega) hx (by decide) (by decide) hz2) (fun u => mdW G mo σ kf tf H sf df xf hn ik tl (sp + 1) rd gr) [0, 1, 2, 3, 4, 5, 6, 7] [] 2 k623 k625 k10 k38 k626 rfl (by decide +kernel) ⟨Nat.le_of_ble_eq_true rfl, Nat.le_of_ble_eq_true rfl⟩ ⟨Nat.le_of_ble_eq_true rfl, Nat.le_of_ble_eq_true rfl⟩ dX6_readsMisreading_106 (Nat.le_of_ble_eq_true rfl) 0 rfl rfl rfl (by decide +kernel) (fun _ => rfl) ([]) rfl (fun _ => rfl) 8 (fun _ => rfl) (by decide +kernel) (by decide +kernel) (fun _ _ => ?_)
      refine J_st (st' := [.int 1]) rfl ?_
      refine J_if_ne C 114 (by decide) dX6_readsMisreading_109 (fun _ => ?_) (fun h => absurd h (by decide))
      refine J_aload_n C rfl dX6_readsMisreading_114 ?_
      refine J_get C 0 7 in6 rfl rfl (by decide) k582 rfl dX6_readsMisreading_115 ?_
      refine J_iload_n C rfl dX6_readsMisreading_118 ?_
      refine J_aload_n C rfl dX6_readsMisreading_119 ?_
      refine J_get C 0 8 in6 rfl rfl (by decide) k583 rfl dX6_readsMisreading_120 ?_
      refine J_aload_n C rfl dX6_readsMisreading_123 ?_
      refine J_get C 0 10 in6 rfl rfl (by decide) k585 rfl dX6_readsMisreading_124 ?_
      refine J_iald C 7 rfl (sp + 1) rfl (by omega) (Nat.le_of_ble_eq_true rfl) dX6_readsMisreading_127 ?_
      refine J_bipush C 97 (by decide) dX6_readsMisreading_128 ?_
      refine J_isub C dX6_readsMisreading_130 ?_
      refine J_i (pk_sub (a := xf (sp + 1)) (b := 97) (by omega) : ((nI (xf (sp + 1))) - 97 : Int32) = (nI ((xf (sp + 1)) - 97))) ?_
      refine J_iconst C 1 (by decide) dX6_readsMisreading_131 ?_
      refine J_iadd C dX6_readsMisreading_132 ?_
      refine J_i (nI_add ((xf (sp + 1)) - 97) 1 : ((nI ((xf (sp + 1)) - 97)) + 1 : Int32) = (nI (((xf (sp + 1)) - 97) + 1))) ?_
      refine J_iast C 6 ([(mo 0, .inr (6, [.ref (mo 1), .ref (mo 2), .ref (mo 3), .ref (mo 4), .int (nI hn), .ref (mo 5), .int (nI ik), .ref (mo 6), .ref (mo 7), .int (nI tl), .int (nI (sp + 1)), .int (nI rd), .int gr])), (mo 1, .inl (G.2.1, 246, .inl (fun q => nI ((rowM σ) q)))), (mo 2, .inl (G.2.1, 246, .inl (fun q => nI (kf q)))), (mo 3, .inl (G.2.1, 246, .inl (fun q => nI (tf q)))), (mo 4, .inl (G.2.1, 984, .inl (fun q => nI (H q)))), (mo 5, .inl (G.2.1, 246, .inl (fun q => nI (sf q)))), (mo 6, .inl (G.2.1, 40, .inl (upd (fun q => nI (df q)) (xf sp - 48) (nI (((xf (sp + 1)) - 97) + 1))))), (mo 7, .inl (G.2.1, 60, .inl (fun q => nI (xf q))))]) rfl (xf sp - 48) rfl (by omega) (Nat.le_of_ble_eq_true rfl) rfl dX6_readsMisreading_133 ?_
      refine J_arr 6 (fun q => nI (if q = (xf sp - 48) then ((xf (sp + 1)) - 97) + 1 else df q)) rfl (fun q _ => congrFun (upd_nI _ _ _) q) ?_
      refine J_ws (ws' := mdW G mo σ kf tf H sf (fun q => if q = (xf sp - 48) then ((xf (sp + 1)) - 97) + 1 else df q) xf hn ik tl (sp + 1) rd gr) rfl ?_
      refine J_aload_n C rfl dX6_readsMisreading_134 ?_
      refine J_dup C rfl dX6_readsMisreading_135 ?_
      refine J_get C 0 10 in6 rfl rfl (by decide) k585 rfl dX6_readsMisreading_136 ?_
      refine J_iconst C 1 (by decide) dX6_readsMisreading_139 ?_
      refine J_iadd C dX6_readsMisreading_140 ?_
      refine J_i (nI_add (sp + 1) 1 : ((nI (sp + 1)) + 1 : Int32) = (nI (sp + 1 + 1))) ?_
      refine J_put C 0 10 in6 tyX6 tyX6_ok nmX6 ([(mo 0, .inr (6, [.ref (mo 1), .ref (mo 2), .ref (mo 3), .ref (mo 4), .int (nI hn), .ref (mo 5), .int (nI ik), .ref (mo 6), .ref (mo 7), .int (nI tl), .int (nI (sp + 1 + 1)), .int (nI rd), .int gr])), (mo 1, .inl (G.2.1, 246, .inl (fun q => nI ((rowM σ) q)))), (mo 2, .inl (G.2.1, 246, .inl (fun q => nI (kf q)))), (mo 3, .inl (G.2.1, 246, .inl (fun q => nI (tf q)))), (mo 4, .inl (G.2.1, 984, .inl (fun q => nI (H q)))), (mo 5, .inl (G.2.1, 246, .inl (fun q => nI (sf q)))), (mo 6, .inl (G.2.1, 40, .inl (fun q => nI (if q = (xf sp - 48) then ((xf (sp + 1)) - 97) + 1 else df q)))), (mo 7, .inl (G.2.1, 60, .inl (fun q => nI (xf q))))]) rfl rfl (by decide) k585 rfl rfl rfl (Nat.le_of_ble_eq_true rfl) rfl dX6_readsMisreading_141 ?_
      refine J_ws (ws' := mdW G mo σ kf tf H sf (fun q => if q = (xf sp - 48) then ((xf (sp + 1)) - 97) + 1 else df q) xf hn ik tl (sp + 1 + 1) rd gr) rfl ?_
      refine J_aload_n C rfl dX6_readsMisreading_144 ?_
      refine J_iload_n C rfl dX6_readsMisreading_145 ?_
      refine J_aload_n C rfl dX6_readsMisreading_146 ?_
      refine J_get C 0 12 in6 rfl rfl (by decide) k587 rfl dX6_readsMisreading_147 ?_
      refine J_icmp_le C 157 (by decide) dX6_readsMisreading_150 (fun c150 => ?_) (fun c150 => ?_)
      · skip
        refine J_aload_n C rfl dX6_readsMisreading_157 ?_
        refine J_get C 0 12 in6 rfl rfl (by decide) k587 rfl dX6_readsMisreading_158 ?_
        refine J_i ((by rw [hnum, hgr]; exact gr_T (by omega) (by omega) (by rw [hgr] at c150; exact c150)) : (gr : Int32) = (nI (max g (mrNum xf tl sp + 1)) - 1)) ?_
        refine J_put C 0 12 in6 tyX6 tyX6_ok nmX6 ([(mo 0, .inr (6, [.ref (mo 1), .ref (mo 2), .ref (mo 3), .ref (mo 4), .int (nI hn), .ref (mo 5), .int (nI ik), .ref (mo 6), .ref (mo 7), .int (nI tl), .int (nI (sp + 1 + 1)), .int (nI rd), .int (nI (max g (mrNum xf tl sp + 1)) - 1)])), (mo 1, .inl (G.2.1, 246, .inl (fun q => nI ((rowM σ) q)))), (mo 2, .inl (G.2.1, 246, .inl (fun q => nI (kf q)))), (mo 3, .inl (G.2.1, 246, .inl (fun q => nI (tf q)))), (mo 4, .inl (G.2.1, 984, .inl (fun q => nI (H q)))), (mo 5, .inl (G.2.1, 246, .inl (fun q => nI (sf q)))), (mo 6, .inl (G.2.1, 40, .inl (fun q => nI (if q = (xf sp - 48) then ((xf (sp + 1)) - 97) + 1 else df q)))), (mo 7, .inl (G.2.1, 60, .inl (fun q => nI (xf q))))]) rfl rfl (by decide) k587 rfl rfl rfl (Nat.le_of_ble_eq_true rfl) rfl dX6_readsMisreading_161 ?_
        refine J_ws (ws' := mdW G mo σ kf tf H sf (fun q => if q = (xf sp - 48) then ((xf (sp + 1)) - 97) + 1 else df q) xf hn ik tl (sp + 1 + 1) rd (nI (max g (mrNum xf tl sp + 1)) - 1)) rfl ?_
        refine J_iconst C 1 (by decide) dX6_readsMisreading_164 ?_
        exact J_zret C hr rfl dX6_readsMisreading_165 () rfl trivial (by rw [hpos, hlc, ← hnum] <;> rfl)
      · skip
        refine J_iload_n C rfl dX6_readsMisreading_153 ?_
        refine J_goto C 161 (by decide) dX6_readsMisreading_154 ?_
        refine J_i ((by rw [hnum]; exact gr_F (by omega) (by omega) (by rw [hgr] at c150; exact c150)) : (nI (xf sp - 48) : Int32) = (nI (max g (mrNum xf tl sp + 1)) - 1)) ?_
        refine J_put C 0 12 in6 tyX6 tyX6_ok nmX6 ([(mo 0, .inr (6, [.ref (mo 1), .ref (mo 2), .ref (mo 3), .ref (mo 4), .int (nI hn), .ref (mo 5), .int (nI ik), .ref (mo 6), .ref (mo 7), .int (nI tl), .int (nI (sp + 1 + 1)), .int (nI rd), .int (nI (max g (mrNum xf tl sp + 1)) - 1)])), (mo 1, .inl (G.2.1, 246, .inl (fun q => nI ((rowM σ) q)))), (mo 2, .inl (G.2.1, 246, .inl (fun q => nI (kf q)))), (mo 3, .inl (G.2.1, 246, .inl (fun q => nI (tf q)))), (mo 4, .inl (G.2.1, 984, .inl (fun q => nI (H q)))), (mo 5, .inl (G.2.1, 246, .inl (fun q => nI (sf q)))), (mo 6, .inl (G.2.1, 40, .inl (fun q => nI (if q = (xf sp - 48) then ((xf (sp + 1)) - 97) + 1 else df q)))), (mo 7, .inl (G.2.1, 60, .inl (fun q => nI (xf q))))]) rfl rfl (by decide) k587 rfl rfl rfl (Nat.le_of_ble_eq_true rfl) rfl dX6_readsMisreading_161 ?_
        refine J_ws (ws' := mdW G mo σ kf tf H sf (fun q => if q = (xf sp - 48) then ((xf (sp + 1)) - 97) + 1 else df q) xf hn ik tl (sp + 1 + 1) rd (nI (max g (mrNum xf tl sp + 1)) - 1)) rfl ?_
        refine J_iconst C 1 (by decide) dX6_readsMisreading_164 ?_
        exact J_zret C hr rfl dX6_readsMisreading_165 () rfl trivial (by rw [hpos, hlc, ← hnum] <;> rfl)

set_option maxHeartbeats 4000000 in
set_option maxRecDepth 100000 in
theorem ct_mMisN (l : Launch) (G : GT) (mo : Nat → Nat) (σ : AS) (kf tf H sf df xf : Nat → Nat) (hn ik tl sp rd : Nat) (gr : Int32) (g : Nat) (htl : tl ≤ 60) (hsp : sp ≤ 60) (hx : ∀ q, xf q < 65536) (hg : g ≤ 40) (hgr : gr = nI g - 1) (hok : ¬ mrOk xf tl sp) : Ct (S := Unit) l G NoX yX6_readsMisreading (Wy yX6_readsMisreading cX6_readsMisreading 2 ((Option.some Jvm.ClassFile.FieldType.boolean))) { frames := 2, cells := 0, slots := 0, locals := 47 } [.ref (mo 0)] (mdW G mo σ kf tf H sf df xf hn ik tl sp rd gr) (fun u => True) (fun u => some (.int 0)) (fun u => mdW G mo σ kf tf H sf df xf hn ik tl (mrBad xf tl sp) rd gr) := by
  refine Ct.of (by decide) (Nat.le_of_ble_eq_true rfl) (fun p e s m args below meth c C hr hnm hX => ?_)
  have hxa := hx sp
  have hxb := hx (sp + 1)
  refine J_aload_n C rfl dX6_readsMisreading_0 ?_
  refine J_bipush C 48 (by decide) dX6_readsMisreading_1 ?_
  refine J_bipush C 57 (by decide) dX6_readsMisreading_3 ?_
  by_cases hd1 : sp < tl ∧ 48 ≤ xf sp ∧ xf sp ≤ 57
  · skip
    refine J_callV (as := [.int 48, .int 57]) (rest := []) C (ct_hereY l G mo σ kf tf H sf df xf hn ik tl sp rd gr 48 57 htl (by omega) hx (by decide) (by decide) hd1) (fun u => mdW G mo σ kf tf H sf df xf hn ik tl sp rd gr) [0, 1, 2, 3, 4, 5, 6, 7] [] 2 k623 k625 k10 k38 k626 rfl (by decide +kernel) ⟨Nat.le_of_ble_eq_true rfl, Nat.le_of_ble_eq_true rfl⟩ ⟨Nat.le_of_ble_eq_true rfl, Nat.le_of_ble_eq_true rfl⟩ dX6_readsMisreading_5 (Nat.le_of_ble_eq_true rfl) 0 rfl rfl rfl (by decide +kernel) (fun _ => rfl) ([]) rfl (fun _ => rfl) 8 (fun _ => rfl) (by decide +kernel) (by decide +kernel) (fun _ _ => ?_)
    refine J_st (st' := [.int 1]) rfl ?_
    refine J_if_ne C 13 (by decide) dX6_readsMisreading_8 (fun _ => ?_) (fun h => absurd h (by decide))
    refine J_aload_n C rfl dX6_readsMisreading_13 ?_
    refine J_get C 0 8 in6 rfl rfl (by decide) k583 rfl dX6_readsMisreading_14 ?_
    refine J_aload_n C rfl dX6_readsMisreading_17 ?_
    refine J_get C 0 10 in6 rfl rfl (by decide) k585 rfl dX6_readsMisreading_18 ?_
    refine J_iald C 7 rfl sp rfl (by omega) (Nat.le_of_ble_eq_true rfl) dX6_readsMisreading_21 ?_
    refine J_bipush C 48 (by decide) dX6_readsMisreading_22 ?_
    refine J_isub C dX6_readsMisreading_24 ?_
    refine J_i (pk_sub (a := xf sp) (b := 48) (by omega) : ((nI (xf sp)) - 48 : Int32) = (nI (xf sp - 48))) ?_
    refine J_istore_n C [(1, .int (nI (xf sp - 48))), (0, .ref (mo 0))] (by decide) rfl dX6_readsMisreading_25 ?_
    refine J_aload_n C rfl dX6_readsMisreading_26 ?_
    refine J_dup C rfl dX6_readsMisreading_27 ?_
    refine J_get C 0 10 in6 rfl rfl (by decide) k585 rfl dX6_readsMisreading_28 ?_
    refine J_iconst C 1 (by decide) dX6_readsMisreading_31 ?_
    refine J_iadd C dX6_readsMisreading_32 ?_
    refine J_i (nI_add sp 1 : ((nI sp) + 1 : Int32) = (nI (sp + 1))) ?_
    refine J_put C 0 10 in6 tyX6 tyX6_ok nmX6 ([(mo 0, .inr (6, [.ref (mo 1), .ref (mo 2), .ref (mo 3), .ref (mo 4), .int (nI hn), .ref (mo 5), .int (nI ik), .ref (mo 6), .ref (mo 7), .int (nI tl), .int (nI (sp + 1)), .int (nI rd), .int gr])), (mo 1, .inl (G.2.1, 246, .inl (fun q => nI ((rowM σ) q)))), (mo 2, .inl (G.2.1, 246, .inl (fun q => nI (kf q)))), (mo 3, .inl (G.2.1, 246, .inl (fun q => nI (tf q)))), (mo 4, .inl (G.2.1, 984, .inl (fun q => nI (H q)))), (mo 5, .inl (G.2.1, 246, .inl (fun q => nI (sf q)))), (mo 6, .inl (G.2.1, 40, .inl (fun q => nI (df q)))), (mo 7, .inl (G.2.1, 60, .inl (fun q => nI (xf q))))]) rfl rfl (by decide) k585 rfl rfl rfl (Nat.le_of_ble_eq_true rfl) rfl dX6_readsMisreading_33 ?_
    refine J_ws (ws' := mdW G mo σ kf tf H sf df xf hn ik tl (sp + 1) rd gr) rfl ?_
    refine J_iload_n C rfl dX6_readsMisreading_36 ?_
    refine J_if_le C 101 (by decide) dX6_readsMisreading_37 (fun c37 => ?_) (fun c37 => ?_)
    · skip
      have c37 := cv_le_t (a := (xf sp - 48)) (b := 0) (by omega) (by omega) c37
      have hnum : mrNum xf tl sp = xf sp - 48 := by unfold mrNum; rw [if_neg (by omega)]
      have hpos : mrPos xf tl sp = sp + 1 := by unfold mrPos; rw [if_neg (by omega)]
      have hnle := mrNum_le hd1
      have hz : letC xf tl (sp + 1) = 0 := Classical.byContradiction fun q => hok ⟨hd1, by rw [hpos]; exact q⟩
      have hz2 : ¬ (sp + 1 < tl ∧ 97 ≤ xf (sp + 1) ∧ xf (sp + 1) ≤ 122) := letC_z hz
      refine J_ws (ws' := mdW G mo σ kf tf H sf df xf hn ik tl (sp + 1) rd gr) rfl ?_
      refine J_aload_n C rfl dX6_readsMisreading_101 ?_
      refine J_bipush C 97 (by decide) dX6_readsMisreading_102 ?_
      refine J_bipush C 122 (by decide) dX6_readsMisreading_104 ?_
      refine J_callV (as := [.int 97, .int 122]) (rest := []) C (ct_hereN l G mo σ kf tf H sf df xf hn ik tl (sp + 1) rd gr 97 122 htl (by omega) hx (by decide) (by decide) hz2) (fun u => mdW G mo σ kf tf H sf df xf hn ik tl (sp + 1) rd gr) [0, 1, 2, 3, 4, 5, 6, 7] [] 2 k623 k625 k10 k38 k626 rfl (by decide +kernel) ⟨Nat.le_of_ble_eq_true rfl, Nat.le_of_ble_eq_true rfl⟩ ⟨Nat.le_of_ble_eq_true rfl, Nat.le_of_ble_eq_true rfl⟩ dX6_readsMisreading_106 (Nat.le_of_ble_eq_true rfl) 0 rfl rfl rfl (by decide +kernel) (fun _ => rfl) ([]) rfl (fun _ => rfl) 8 (fun _ => rfl) (by decide +kernel) (by decide +kernel) (fun _ _ => ?_)
      refine J_st (st' := [.int 0]) rfl ?_
      refine J_if_ne C 114 (by decide) dX6_readsMisreading_109 (fun h => absurd h (by decide)) (fun _ => ?_)
      refine J_iconst C 0 (by decide) dX6_readsMisreading_112 ?_
      exact J_zret C hr rfl dX6_readsMisreading_113 () rfl trivial (by rw [show mrBad xf tl sp = mrPos xf tl sp from if_pos hd1, hpos])
    · skip
      have c37 := cv_le_f (a := (xf sp - 48)) (b := 0) (by omega) (by omega) c37
      refine J_aload_n C rfl dX6_readsMisreading_40 ?_
      refine J_bipush C 48 (by decide) dX6_readsMisreading_41 ?_
      refine J_bipush C 57 (by decide) dX6_readsMisreading_43 ?_
      by_cases hd2 : sp + 1 < tl ∧ 48 ≤ xf (sp + 1) ∧ xf (sp + 1) ≤ 57
      · skip
        refine J_callV (as := [.int 48, .int 57]) (rest := []) C (ct_hereY l G mo σ kf tf H sf df xf hn ik tl (sp + 1) rd gr 48 57 htl (by omega) hx (by decide) (by decide) hd2) (fun u => mdW G mo σ kf tf H sf df xf hn ik tl (sp + 1) rd gr) [0, 1, 2, 3, 4, 5, 6, 7] [] 2 k623 k625 k10 k38 k626 rfl (by decide +kernel) ⟨Nat.le_of_ble_eq_true rfl, Nat.le_of_ble_eq_true rfl⟩ ⟨Nat.le_of_ble_eq_true rfl, Nat.le_of_ble_eq_true rfl⟩ dX6_readsMisreading_45 (Nat.le_of_ble_eq_true rfl) 0 rfl rfl rfl (by decide +kernel) (fun _ => rfl) ([]) rfl (fun _ => rfl) 8 (fun _ => rfl) (by decide +kernel) (by decide +kernel) (fun _ _ => ?_)
        refine J_st (st' := [.int 1]) rfl ?_
        refine J_if_eq C 101 (by decide) dX6_readsMisreading_48 (fun h => absurd h (by decide)) (fun _ => ?_)
        refine J_bipush C 10 (by decide) dX6_readsMisreading_51 ?_
        refine J_iload_n C rfl dX6_readsMisreading_53 ?_
        refine J_imul C dX6_readsMisreading_54 ?_
        refine J_i (pk_mul 10 (xf sp - 48) : (10 * (nI (xf sp - 48)) : Int32) = (nI (10 * (xf sp - 48)))) ?_
        refine J_aload_n C rfl dX6_readsMisreading_55 ?_
        refine J_get C 0 8 in6 rfl rfl (by decide) k583 rfl dX6_readsMisreading_56 ?_
        refine J_aload_n C rfl dX6_readsMisreading_59 ?_
        refine J_get C 0 10 in6 rfl rfl (by decide) k585 rfl dX6_readsMisreading_60 ?_
        refine J_iald C 7 rfl (sp + 1) rfl (by omega) (Nat.le_of_ble_eq_true rfl) dX6_readsMisreading_63 ?_
        refine J_iadd C dX6_readsMisreading_64 ?_
        refine J_i (nI_add (10 * (xf sp - 48)) (xf (sp + 1)) : ((nI (10 * (xf sp - 48))) + (nI (xf (sp + 1))) : Int32) = (nI ((10 * (xf sp - 48)) + (xf (sp + 1))))) ?_
        refine J_bipush C 48 (by decide) dX6_readsMisreading_65 ?_
        refine J_isub C dX6_readsMisreading_67 ?_
        refine J_i (pk_sub (a := (10 * (xf sp - 48)) + (xf (sp + 1))) (b := 48) (by omega) : ((nI ((10 * (xf sp - 48)) + (xf (sp + 1)))) - 48 : Int32) = (nI (((10 * (xf sp - 48)) + (xf (sp + 1))) - 48))) ?_
        refine J_bipush C 40 (by decide) dX6_readsMisreading_68 ?_
        refine J_icmp_ge C 101 (by decide) dX6_readsMisreading_70 (fun c70 => ?_) (fun c70 => ?_)
        · skip
          have c70 := cv_ge_t (a := (((10 * (xf sp - 48)) + (xf (sp + 1))) - 48)) (b := 40) (by omega) (by omega) c70
          have hnum : mrNum xf tl sp = xf sp - 48 := by unfold mrNum; rw [if_neg (by omega)]
          have hpos : mrPos xf tl sp = sp + 1 := by unfold mrPos; rw [if_neg (by omega)]
          have hnle := mrNum_le hd1
          have hz : letC xf tl (sp + 1) = 0 := Classical.byContradiction fun q => hok ⟨hd1, by rw [hpos]; exact q⟩
          have hz2 : ¬ (sp + 1 < tl ∧ 97 ≤ xf (sp + 1) ∧ xf (sp + 1) ≤ 122) := letC_z hz
          refine J_ws (ws' := mdW G mo σ kf tf H sf df xf hn ik tl (sp + 1) rd gr) rfl ?_
          refine J_aload_n C rfl dX6_readsMisreading_101 ?_
          refine J_bipush C 97 (by decide) dX6_readsMisreading_102 ?_
          refine J_bipush C 122 (by decide) dX6_readsMisreading_104 ?_
          refine J_callV (as := [.int 97, .int 122]) (rest := []) C (ct_hereN l G mo σ kf tf H sf df xf hn ik tl (sp + 1) rd gr 97 122 htl (by omega) hx (by decide) (by decide) hz2) (fun u => mdW G mo σ kf tf H sf df xf hn ik tl (sp + 1) rd gr) [0, 1, 2, 3, 4, 5, 6, 7] [] 2 k623 k625 k10 k38 k626 rfl (by decide +kernel) ⟨Nat.le_of_ble_eq_true rfl, Nat.le_of_ble_eq_true rfl⟩ ⟨Nat.le_of_ble_eq_true rfl, Nat.le_of_ble_eq_true rfl⟩ dX6_readsMisreading_106 (Nat.le_of_ble_eq_true rfl) 0 rfl rfl rfl (by decide +kernel) (fun _ => rfl) ([]) rfl (fun _ => rfl) 8 (fun _ => rfl) (by decide +kernel) (by decide +kernel) (fun _ _ => ?_)
          refine J_st (st' := [.int 0]) rfl ?_
          refine J_if_ne C 114 (by decide) dX6_readsMisreading_109 (fun h => absurd h (by decide)) (fun _ => ?_)
          refine J_iconst C 0 (by decide) dX6_readsMisreading_112 ?_
          exact J_zret C hr rfl dX6_readsMisreading_113 () rfl trivial (by rw [show mrBad xf tl sp = mrPos xf tl sp from if_pos hd1, hpos])
        · skip
          have c70 := cv_ge_f (a := (((10 * (xf sp - 48)) + (xf (sp + 1))) - 48)) (b := 40) (by omega) (by omega) c70
          refine J_bipush C 10 (by decide) dX6_readsMisreading_73 ?_
          refine J_iload_n C rfl dX6_readsMisreading_75 ?_
          refine J_imul C dX6_readsMisreading_76 ?_
          refine J_i (pk_mul 10 (xf sp - 48) : (10 * (nI (xf sp - 48)) : Int32) = (nI (10 * (xf sp - 48)))) ?_
          refine J_aload_n C rfl dX6_readsMisreading_77 ?_
          refine J_get C 0 8 in6 rfl rfl (by decide) k583 rfl dX6_readsMisreading_78 ?_
          refine J_aload_n C rfl dX6_readsMisreading_81 ?_
          refine J_get C 0 10 in6 rfl rfl (by decide) k585 rfl dX6_readsMisreading_82 ?_
          refine J_iald C 7 rfl (sp + 1) rfl (by omega) (Nat.le_of_ble_eq_true rfl) dX6_readsMisreading_85 ?_
          refine J_iadd C dX6_readsMisreading_86 ?_
          refine J_i (nI_add (10 * (xf sp - 48)) (xf (sp + 1)) : ((nI (10 * (xf sp - 48))) + (nI (xf (sp + 1))) : Int32) = (nI ((10 * (xf sp - 48)) + (xf (sp + 1))))) ?_
          refine J_bipush C 48 (by decide) dX6_readsMisreading_87 ?_
          refine J_isub C dX6_readsMisreading_89 ?_
          refine J_i (pk_sub (a := (10 * (xf sp - 48)) + (xf (sp + 1))) (b := 48) (by omega) : ((nI ((10 * (xf sp - 48)) + (xf (sp + 1)))) - 48 : Int32) = (nI (((10 * (xf sp - 48)) + (xf (sp + 1))) - 48))) ?_
          refine J_istore_n C [(1, .int (nI (((10 * (xf sp - 48)) + (xf (sp + 1))) - 48))), (0, .ref (mo 0))] (by decide) rfl dX6_readsMisreading_90 ?_
          refine J_aload_n C rfl dX6_readsMisreading_91 ?_
          refine J_dup C rfl dX6_readsMisreading_92 ?_
          refine J_get C 0 10 in6 rfl rfl (by decide) k585 rfl dX6_readsMisreading_93 ?_
          refine J_iconst C 1 (by decide) dX6_readsMisreading_96 ?_
          refine J_iadd C dX6_readsMisreading_97 ?_
          refine J_i (nI_add (sp + 1) 1 : ((nI (sp + 1)) + 1 : Int32) = (nI (sp + 1 + 1))) ?_
          refine J_put C 0 10 in6 tyX6 tyX6_ok nmX6 ([(mo 0, .inr (6, [.ref (mo 1), .ref (mo 2), .ref (mo 3), .ref (mo 4), .int (nI hn), .ref (mo 5), .int (nI ik), .ref (mo 6), .ref (mo 7), .int (nI tl), .int (nI (sp + 1 + 1)), .int (nI rd), .int gr])), (mo 1, .inl (G.2.1, 246, .inl (fun q => nI ((rowM σ) q)))), (mo 2, .inl (G.2.1, 246, .inl (fun q => nI (kf q)))), (mo 3, .inl (G.2.1, 246, .inl (fun q => nI (tf q)))), (mo 4, .inl (G.2.1, 984, .inl (fun q => nI (H q)))), (mo 5, .inl (G.2.1, 246, .inl (fun q => nI (sf q)))), (mo 6, .inl (G.2.1, 40, .inl (fun q => nI (df q)))), (mo 7, .inl (G.2.1, 60, .inl (fun q => nI (xf q))))]) rfl rfl (by decide) k585 rfl rfl rfl (Nat.le_of_ble_eq_true rfl) rfl dX6_readsMisreading_98 ?_
          refine J_ws (ws' := mdW G mo σ kf tf H sf df xf hn ik tl (sp + 1 + 1) rd gr) rfl ?_
          have hnum : mrNum xf tl sp = ((10 * (xf sp - 48)) + (xf (sp + 1))) - 48 := by unfold mrNum; rw [if_pos (by omega)]; omega
          have hpos : mrPos xf tl sp = sp + 2 := by unfold mrPos; rw [if_pos (by omega)]
          have hnle := mrNum_le hd1
          have hz : letC xf tl (sp + 2) = 0 := Classical.byContradiction fun q => hok ⟨hd1, by rw [hpos]; exact q⟩
          have hz2 : ¬ (sp + 2 < tl ∧ 97 ≤ xf (sp + 2) ∧ xf (sp + 2) ≤ 122) := letC_z hz
          refine J_ws (ws' := mdW G mo σ kf tf H sf df xf hn ik tl (sp + 2) rd gr) rfl ?_
          refine J_aload_n C rfl dX6_readsMisreading_101 ?_
          refine J_bipush C 97 (by decide) dX6_readsMisreading_102 ?_
          refine J_bipush C 122 (by decide) dX6_readsMisreading_104 ?_
          refine J_callV (as := [.int 97, .int 122]) (rest := []) C (ct_hereN l G mo σ kf tf H sf df xf hn ik tl (sp + 2) rd gr 97 122 htl (by omega) hx (by decide) (by decide) hz2) (fun u => mdW G mo σ kf tf H sf df xf hn ik tl (sp + 2) rd gr) [0, 1, 2, 3, 4, 5, 6, 7] [] 2 k623 k625 k10 k38 k626 rfl (by decide +kernel) ⟨Nat.le_of_ble_eq_true rfl, Nat.le_of_ble_eq_true rfl⟩ ⟨Nat.le_of_ble_eq_true rfl, Nat.le_of_ble_eq_true rfl⟩ dX6_readsMisreading_106 (Nat.le_of_ble_eq_true rfl) 0 rfl rfl rfl (by decide +kernel) (fun _ => rfl) ([]) rfl (fun _ => rfl) 8 (fun _ => rfl) (by decide +kernel) (by decide +kernel) (fun _ _ => ?_)
          refine J_st (st' := [.int 0]) rfl ?_
          refine J_if_ne C 114 (by decide) dX6_readsMisreading_109 (fun h => absurd h (by decide)) (fun _ => ?_)
          refine J_iconst C 0 (by decide) dX6_readsMisreading_112 ?_
          exact J_zret C hr rfl dX6_readsMisreading_113 () rfl trivial (by rw [show mrBad xf tl sp = mrPos xf tl sp from if_pos hd1, hpos])
      · skip
        refine J_callV (as := [.int 48, .int 57]) (rest := []) C (ct_hereN l G mo σ kf tf H sf df xf hn ik tl (sp + 1) rd gr 48 57 htl (by omega) hx (by decide) (by decide) hd2) (fun u => mdW G mo σ kf tf H sf df xf hn ik tl (sp + 1) rd gr) [0, 1, 2, 3, 4, 5, 6, 7] [] 2 k623 k625 k10 k38 k626 rfl (by decide +kernel) ⟨Nat.le_of_ble_eq_true rfl, Nat.le_of_ble_eq_true rfl⟩ ⟨Nat.le_of_ble_eq_true rfl, Nat.le_of_ble_eq_true rfl⟩ dX6_readsMisreading_45 (Nat.le_of_ble_eq_true rfl) 0 rfl rfl rfl (by decide +kernel) (fun _ => rfl) ([]) rfl (fun _ => rfl) 8 (fun _ => rfl) (by decide +kernel) (by decide +kernel) (fun _ _ => ?_)
        refine J_st (st' := [.int 0]) rfl ?_
        refine J_if_eq C 101 (by decide) dX6_readsMisreading_48 (fun _ => ?_) (fun h => absurd h (by decide))
        have hnum : mrNum xf tl sp = xf sp - 48 := by unfold mrNum; rw [if_neg (by omega)]
        have hpos : mrPos xf tl sp = sp + 1 := by unfold mrPos; rw [if_neg (by omega)]
        have hnle := mrNum_le hd1
        have hz : letC xf tl (sp + 1) = 0 := Classical.byContradiction fun q => hok ⟨hd1, by rw [hpos]; exact q⟩
        have hz2 : ¬ (sp + 1 < tl ∧ 97 ≤ xf (sp + 1) ∧ xf (sp + 1) ≤ 122) := letC_z hz
        refine J_ws (ws' := mdW G mo σ kf tf H sf df xf hn ik tl (sp + 1) rd gr) rfl ?_
        refine J_aload_n C rfl dX6_readsMisreading_101 ?_
        refine J_bipush C 97 (by decide) dX6_readsMisreading_102 ?_
        refine J_bipush C 122 (by decide) dX6_readsMisreading_104 ?_
        refine J_callV (as := [.int 97, .int 122]) (rest := []) C (ct_hereN l G mo σ kf tf H sf df xf hn ik tl (sp + 1) rd gr 97 122 htl (by omega) hx (by decide) (by decide) hz2) (fun u => mdW G mo σ kf tf H sf df xf hn ik tl (sp + 1) rd gr) [0, 1, 2, 3, 4, 5, 6, 7] [] 2 k623 k625 k10 k38 k626 rfl (by decide +kernel) ⟨Nat.le_of_ble_eq_true rfl, Nat.le_of_ble_eq_true rfl⟩ ⟨Nat.le_of_ble_eq_true rfl, Nat.le_of_ble_eq_true rfl⟩ dX6_readsMisreading_106 (Nat.le_of_ble_eq_true rfl) 0 rfl rfl rfl (by decide +kernel) (fun _ => rfl) ([]) rfl (fun _ => rfl) 8 (fun _ => rfl) (by decide +kernel) (by decide +kernel) (fun _ _ => ?_)
        refine J_st (st' := [.int 0]) rfl ?_
        refine J_if_ne C 114 (by decide) dX6_readsMisreading_109 (fun h => absurd h (by decide)) (fun _ => ?_)
        refine J_iconst C 0 (by decide) dX6_readsMisreading_112 ?_
        exact J_zret C hr rfl dX6_readsMisreading_113 () rfl trivial (by rw [show mrBad xf tl sp = mrPos xf tl sp from if_pos hd1, hpos])
  · skip
    refine J_callV (as := [.int 48, .int 57]) (rest := []) C (ct_hereN l G mo σ kf tf H sf df xf hn ik tl sp rd gr 48 57 htl (by omega) hx (by decide) (by decide) hd1) (fun u => mdW G mo σ kf tf H sf df xf hn ik tl sp rd gr) [0, 1, 2, 3, 4, 5, 6, 7] [] 2 k623 k625 k10 k38 k626 rfl (by decide +kernel) ⟨Nat.le_of_ble_eq_true rfl, Nat.le_of_ble_eq_true rfl⟩ ⟨Nat.le_of_ble_eq_true rfl, Nat.le_of_ble_eq_true rfl⟩ dX6_readsMisreading_5 (Nat.le_of_ble_eq_true rfl) 0 rfl rfl rfl (by decide +kernel) (fun _ => rfl) ([]) rfl (fun _ => rfl) 8 (fun _ => rfl) (by decide +kernel) (by decide +kernel) (fun _ _ => ?_)
    refine J_st (st' := [.int 0]) rfl ?_
    refine J_if_ne C 13 (by decide) dX6_readsMisreading_8 (fun h => absurd h (by decide)) (fun _ => ?_)
    refine J_iconst C 0 (by decide) dX6_readsMisreading_11 ?_
    exact J_zret C hr rfl dX6_readsMisreading_12 () rfl trivial (by rw [show mrBad xf tl sp = sp from if_neg hd1])

set_option maxHeartbeats 4000000 in
set_option maxRecDepth 100000 in
theorem ct_behind (l : Launch) (G : GT) (mo : Nat → Nat) (σ : AS) (kf tf H sf df xf : Nat → Nat) (hn ik tl sp rd : Nat) (gr : Int32) (hI : Inv σ) (ht : σ 0 3 ≤ 99999) : Ct (S := Unit) l G NoX yX6_doneBehind (Wy yX6_doneBehind cX6_doneBehind 2 ((Option.some Jvm.ClassFile.FieldType.int))) { frames := 5, cells := 0, slots := 0, locals := 106 } [.ref (mo 0)] (mdW G mo σ kf tf H sf df xf hn ik tl sp rd gr) (fun u => True) (fun u => some (.int (dnF 2001 0 σ))) (fun u => mdW G mo σ kf (rowM σ) H sf df xf hn ik tl sp rd gr) := by
  refine Ct.of (by decide) (Nat.le_of_ble_eq_true rfl) (fun p e s m args below meth c C hr hnm hX => ?_)
  have h40 := hI.a
  refine J_aload_n C rfl dX6_doneBehind_0 ?_
  refine J_callV (as := []) (rest := []) C (ct_tries l G mo σ kf tf H sf df xf hn ik tl sp rd gr) (fun u => mdW G mo σ kf (rowM σ) H sf df xf hn ik tl sp rd gr) [0, 1, 2, 3, 4, 5, 6, 7] [] 0 k764 k766 k26 k38 k767 rfl (by decide +kernel) ⟨Nat.le_of_ble_eq_true rfl, Nat.le_of_ble_eq_true rfl⟩ ⟨Nat.le_of_ble_eq_true rfl, Nat.le_of_ble_eq_true rfl⟩ dX6_doneBehind_1 (Nat.le_of_ble_eq_true rfl) 0 rfl rfl rfl (by decide +kernel) (fun _ => rfl) ([]) rfl (fun _ => rfl) 8 (fun _ => rfl) (by decide +kernel) (by decide +kernel) (fun _ _ => ?_)
  refine J_st (st' := []) rfl ?_
  refine J_iconst C 0 (by decide) dX6_doneBehind_4 ?_
  refine J_istore_n C [(1, .int 0), (0, .ref (mo 0))] (by decide) rfl dX6_doneBehind_5 ?_
  refine J_lvp [1, 0] [(0, .ref (mo 0)), (1, .int 0)] rfl ?_
  refine J_ws (ws' := mdW G mo σ kf (rowM σ) H sf df xf hn ik tl sp rd gr) rfl ?_
  refine J_loop (σ := Nat × AS) (fun x => mdW G mo x.2 kf (rowM σ) H sf df xf hn ik tl sp rd gr) (fun x => [(0, .ref (mo 0)), (1, .int (nI x.1))]) (fun x => x.1 ≤ 2001 ∧ Inv x.2 ∧ x.2 0 3 ≤ 99999 + x.1 ∧ dnF (2001 - x.1) x.1 x.2 = dnF 2001 0 σ) (fun x => 2001 - x.1) (fun x hx ih => ?_) (0, σ) ⟨Nat.zero_le _, hI, by show σ 0 3 ≤ 99999 + 0; omega, rfl⟩ rfl rfl
  obtain ⟨hx1, hIx, htx, hR⟩ := hx
  refine J_iload_n C rfl dX6_doneBehind_6 ?_
  refine J_sipush C 2000 (by decide) dX6_doneBehind_7 ?_
  refine J_icmp_gt C 30 (by decide) dX6_doneBehind_10 (fun c10 => ?_) (fun c10 => ?_)
  · skip
    have c10 := cv_gt_t (a := x.1) (b := 2000) (by omega) (by omega) c10
    refine J_aload_n C rfl dX6_doneBehind_30 ?_
    refine J_callV (as := []) (rest := []) C (ct_back l G mo x.2 kf H sf df xf hn ik tl sp rd gr σ) (fun u => mdW G mo σ kf (rowM σ) H sf df xf hn ik tl sp rd gr) [0, 1, 2, 3, 4, 5, 6, 7] [] 0 k768 k770 k27 k38 k771 rfl (by decide +kernel) ⟨Nat.le_of_ble_eq_true rfl, Nat.le_of_ble_eq_true rfl⟩ ⟨Nat.le_of_ble_eq_true rfl, Nat.le_of_ble_eq_true rfl⟩ dX6_doneBehind_31 (Nat.le_of_ble_eq_true rfl) 0 rfl rfl rfl (by decide +kernel) (fun _ => rfl) ([]) rfl (fun _ => rfl) 8 (fun _ => rfl) (by decide +kernel) (by decide +kernel) (fun _ _ => ?_)
    refine J_st (st' := []) rfl ?_
    refine J_iload_n C rfl dX6_doneBehind_34 ?_
    refine J_sipush C 2000 (by decide) dX6_doneBehind_35 ?_
    refine J_icmp_le C 46 (by decide) dX6_doneBehind_38 (fun h => absurd (cv_le_t (a := x.1) (b := 2000) (by omega) (by omega) h) (by omega)) (fun c38 => ?_)
    refine J_bipush C (-5) (by decide) dX6_doneBehind_41 ?_
    refine J_goto C 47 (by decide) dX6_doneBehind_43 ?_
    exact J_zret C hr rfl dX6_doneBehind_47 () (by rw [← hR, show 2001 - x.1 = 0 by omega] <;> rfl) trivial rfl
  · skip
    have c10 := cv_gt_f (a := x.1) (b := 2000) (by omega) (by omega) c10
    refine J_aload_n C rfl dX6_doneBehind_13 ?_
    refine J_callV (as := []) (rest := []) C (ct_mDone l G mo x.2 kf (rowM σ) H sf df xf hn ik tl sp rd gr hIx) (fun u => mdW G mo x.2 kf (rowM σ) H sf df xf hn ik tl sp rd gr) [0, 1, 2, 3, 4, 5, 6, 7] [] 0 k780 k782 k29 k38 k783 rfl (by decide +kernel) ⟨Nat.le_of_ble_eq_true rfl, Nat.le_of_ble_eq_true rfl⟩ ⟨Nat.le_of_ble_eq_true rfl, Nat.le_of_ble_eq_true rfl⟩ dX6_doneBehind_14 (Nat.le_of_ble_eq_true rfl) 0 rfl rfl rfl (by decide +kernel) (fun _ => rfl) ([]) rfl (fun _ => rfl) 8 (fun _ => rfl) (by decide +kernel) (by decide +kernel) (fun _ _ => ?_)
    refine J_st (st' := [.int (if x.2 0 4 ≤ x.2 0 14 + x.2 0 15 then 1 else 0)]) rfl ?_
    refine J_if_ne C 30 (by decide) dX6_doneBehind_17 (fun c17 => ?_) (fun c17 => ?_)
    · skip
      have hnd : x.2 0 4 ≤ x.2 0 14 + x.2 0 15 := Classical.byContradiction fun q => c17 (by rw [if_neg q])
      refine J_aload_n C rfl dX6_doneBehind_30 ?_
      refine J_callV (as := []) (rest := []) C (ct_back l G mo x.2 kf H sf df xf hn ik tl sp rd gr σ) (fun u => mdW G mo σ kf (rowM σ) H sf df xf hn ik tl sp rd gr) [0, 1, 2, 3, 4, 5, 6, 7] [] 0 k768 k770 k27 k38 k771 rfl (by decide +kernel) ⟨Nat.le_of_ble_eq_true rfl, Nat.le_of_ble_eq_true rfl⟩ ⟨Nat.le_of_ble_eq_true rfl, Nat.le_of_ble_eq_true rfl⟩ dX6_doneBehind_31 (Nat.le_of_ble_eq_true rfl) 0 rfl rfl rfl (by decide +kernel) (fun _ => rfl) ([]) rfl (fun _ => rfl) 8 (fun _ => rfl) (by decide +kernel) (by decide +kernel) (fun _ _ => ?_)
      refine J_st (st' := []) rfl ?_
      refine J_iload_n C rfl dX6_doneBehind_34 ?_
      refine J_sipush C 2000 (by decide) dX6_doneBehind_35 ?_
      refine J_icmp_le C 46 (by decide) dX6_doneBehind_38 (fun c38 => ?_) (fun h => absurd (cv_le_f (a := x.1) (b := 2000) (by omega) (by omega) h) (by omega))
      refine J_iload_n C rfl dX6_doneBehind_46 ?_
      exact J_zret C hr rfl dX6_doneBehind_47 () (by rw [← hR, show 2001 - x.1 = (2000 - x.1) + 1 by omega, dnF_s, if_pos hnd]) trivial rfl
    · skip
      have hnd : ¬ (x.2 0 4 ≤ x.2 0 14 + x.2 0 15) := fun q => by rw [if_pos q] at c17; exact absurd c17 (by decide)
      refine J_aload_n C rfl dX6_doneBehind_20 ?_
      refine J_callV (as := []) (rest := []) C (ct_ticks l G mo x.2 kf (rowM σ) H sf df xf hn ik tl sp rd gr hIx (by omega)) (fun u => mdW G mo (ticksF x.2) kf (rowM σ) H sf df xf hn ik tl sp rd gr) [0, 1, 2, 3, 4, 5, 6, 7] [] 0 k705 k707 k21 k38 k708 rfl (by decide +kernel) ⟨Nat.le_of_ble_eq_true rfl, Nat.le_of_ble_eq_true rfl⟩ ⟨Nat.le_of_ble_eq_true rfl, Nat.le_of_ble_eq_true rfl⟩ dX6_doneBehind_21 (Nat.le_of_ble_eq_true rfl) 0 rfl rfl rfl (by decide +kernel) (fun _ => rfl) ([]) rfl (fun _ => rfl) 8 (fun _ => rfl) (by decide +kernel) (by decide +kernel) (fun _ _ => ?_)
      refine J_st (st' := []) rfl ?_
      refine J_iinc C (nI (x.1 + 1)) [(1, .int (nI (x.1 + 1))), (0, .ref (mo 0))] 1 rfl (by first | exact nI_add _ 1 | rfl) (by decide) rfl dX6_doneBehind_24 ?_
      refine J_goto C 6 (by decide) dX6_doneBehind_27 ?_
      refine J_lvp [1, 0] [(0, .ref (mo 0)), (1, .int (nI (x.1 + 1)))] rfl ?_
      exact ih (x.1 + 1, ticksF x.2) ⟨by show x.1 + 1 ≤ 2001; omega, hIx.ticks (by omega), by show ticksF x.2 0 3 ≤ 99999 + (x.1 + 1); rw [ticks_tick]; omega, by show dnF (2001 - (x.1 + 1)) (x.1 + 1) (ticksF x.2) = _; rw [← hR, show 2001 - x.1 = (2001 - (x.1 + 1)) + 1 by omega, dnF_s, if_neg hnd]⟩ (by show 2001 - (x.1 + 1) < 2001 - x.1; omega)
