set_option maxHeartbeats 4000000 in
set_option maxRecDepth 100000 in
theorem ct_up (l : Launch) (G : GT) (v : Int32) (n : Nat) (hn : 0 < n ∧ n ≤ 1000) : Ct (S := Nat) l G NoX yL_up (Wy yL_up cL_up 2 ((Option.some Jvm.ClassFile.FieldType.int))) { frames := 0, cells := 0, slots := 0, locals := 0 } [.int v, .int (nI n)] ([]) (fun u => u < n) (fun u => some (.int (nI u))) (fun u => []) := by
  refine Ct.of (by decide) (Nat.le_of_ble_eq_true rfl) (fun p e s m args below meth c C hr hnm hX => ?_)
  refine J_iload_n C rfl dL_up_0 ?_
  refine J_ldc C k250 dL_up_1 ?_
  refine J_iand C dL_up_3 ?_
  obtain ⟨k, hk, hkv⟩ := and_nat v
  refine J_i (y := nI k) hkv ?_
  refine J_iload_n C rfl dL_up_4 ?_
  refine J_irem C (fun q => absurd (cv_eq_t (a := n) (b := 0) (by omega) (by omega) q) (by omega)) dL_up_5 ?_
  refine J_i (pk_rem (a := k) (d := n) (by omega) (by omega) (by omega) : (nI k - nI k / nI n * nI n : Int32) = (nI (k % n))) ?_
  exact J_zret C hr rfl dL_up_6 (k % n) rfl (Nat.mod_lt _ hn.1) rfl

set_option maxHeartbeats 4000000 in
set_option maxRecDepth 100000 in
theorem ct_cell (l : Launch) (G : GT) (b L : Nat) (xs : Nat → Int32) (k : Nat) (hL : L ≤ 260) (hk : k ≤ 260) : Ct (S := Int32) l G (XSC b L xs) yL_cell (Wy yL_cell cL_cell 2 ((Option.some Jvm.ClassFile.FieldType.int))) { frames := 0, cells := 0, slots := 0, locals := 0 } [.ref b, .int (nI k)] ([]) (fun u => True) (fun u => some (.int u)) (fun u => []) := by
  refine Ct.of (by decide) (Nat.le_of_ble_eq_true rfl) (fun p e s m args below meth c C hr hnm hX => ?_)
  refine J_iload_n C rfl dL_cell_0 ?_
  refine J_aload_n C rfl dL_cell_1 ?_
  refine J_slen C hX.1 hX.lt hX.2 dL_cell_2 ?_
  refine J_icmp_ge C 12 (by decide) dL_cell_3 (fun c3 => ?_) (fun c3 => ?_)
  · skip
    have c3 := cv_ge_t (a := k) (b := L) (by omega) (by omega) c3
    refine J_ldc C k239 dL_cell_12 ?_
    refine J_iload_n C rfl dL_cell_14 ?_
    refine J_sipush C 1439 (by decide) dL_cell_15 ?_
    refine J_iadd C dL_cell_18 ?_
    refine J_imul C dL_cell_19 ?_
    exact J_zret C hr rfl dL_cell_20 (2143676377 * ((nI k) + 1439)) rfl trivial rfl
  · skip
    have c3 := cv_ge_f (a := k) (b := L) (by omega) (by omega) c3
    refine J_aload_n C rfl dL_cell_6 ?_
    refine J_iload_n C rfl dL_cell_7 ?_
    refine J_sld C hX.1 hX.lt hX.2 k rfl (by omega) (by omega) dL_cell_8 ?_
    refine J_goto C 20 (by decide) dL_cell_9 ?_
    exact J_zret C hr rfl dL_cell_20 (xs k) rfl trivial rfl
