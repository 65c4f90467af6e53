theorem clr_upd (f : Nat → Int32) (i : Nat) : upd (fun q => if q < i then nI 0 else f q) i 0 = fun q => if q < i + 1 then nI 0 else f q := by
  funext q
  unfold upd
  by_cases h : q = i
  · rw [if_pos h, if_pos (by omega)]; rfl
  · rw [if_neg h]
    show (if q < i then nI 0 else f q) = _
    by_cases h2 : q < i
    · rw [if_pos h2, if_pos (by omega)]
    · rw [if_neg h2, if_neg (by omega)]

set_option maxHeartbeats 4000000 in
set_option maxRecDepth 100000 in
theorem ct_at (l : Launch) (G : GT) (ra n : Nat) (f : Nat → Int32) (j : Nat) (hj : j < n) (hN : n ≤ 4096) : Ct (S := Unit) l G NoX yX5_at (Wy yX5_at cX5_at 2 ((Option.some Jvm.ClassFile.FieldType.int))) { frames := 0, cells := 0, slots := 0, locals := 0 } [.ref ra, .int (nI j)] ([(ra, .inl (G.2.1, n, .inl f))]) (fun u => True) (fun u => some (.int (f j))) (fun u => [(ra, .inl (G.2.1, n, .inl f))]) := by
  refine Ct.of (by decide) (Nat.le_of_ble_eq_true rfl) (fun p e s m args below meth c C hr hnm hX => ?_)
  refine J_iload_n C rfl dX5_at_0 ?_
  refine J_if_lt C 16 (by decide) dX5_at_1 (fun h => absurd h (nI_pos (by omega))) (fun _ => ?_)
  refine J_iload_n C rfl dX5_at_4 ?_
  refine J_aload_n C rfl dX5_at_5 ?_
  refine J_ilen C 0 rfl dX5_at_6 ?_
  refine J_icmp_ge C 16 (by decide) dX5_at_7 (fun h => absurd (cv_ge_t (a := j) (b := n) (by omega) (by omega) h) (by omega)) (fun c7 => ?_)
  refine J_aload_n C rfl dX5_at_10 ?_
  refine J_iload_n C rfl dX5_at_11 ?_
  refine J_iald C 0 rfl j rfl (by omega) (by omega) dX5_at_12 ?_
  refine J_goto C 17 (by decide) dX5_at_13 ?_
  exact J_zret C hr rfl dX5_at_17 () rfl trivial rfl

set_option maxHeartbeats 4000000 in
set_option maxRecDepth 100000 in
theorem ct_put (l : Launch) (G : GT) (ra n : Nat) (f : Nat → Int32) (j : Nat) (x : Int32) (hj : j < n) (hN : n ≤ 4096) : Ct (S := Unit) l G NoX yX5_put (Wy yX5_put cX5_put 3 ((Option.none : Option Jvm.ClassFile.FieldType))) { frames := 0, cells := 0, slots := 0, locals := 0 } [.ref ra, .int (nI j), .int x] ([(ra, .inl (G.2.1, n, .inl f))]) (fun u => True) (fun u => none) (fun u => [(ra, .inl (G.2.1, n, .inl (upd f j x)))]) := by
  refine Ct.of (by decide) (Nat.le_of_ble_eq_true rfl) (fun p e s m args below meth c C hr hnm hX => ?_)
  refine J_iload_n C rfl dX5_put_0 ?_
  refine J_if_lt C 14 (by decide) dX5_put_1 (fun h => absurd h (nI_pos (by omega))) (fun _ => ?_)
  refine J_iload_n C rfl dX5_put_4 ?_
  refine J_aload_n C rfl dX5_put_5 ?_
  refine J_ilen C 0 rfl dX5_put_6 ?_
  refine J_icmp_ge C 14 (by decide) dX5_put_7 (fun h => absurd (cv_ge_t (a := j) (b := n) (by omega) (by omega) h) (by omega)) (fun c7 => ?_)
  refine J_aload_n C rfl dX5_put_10 ?_
  refine J_iload_n C rfl dX5_put_11 ?_
  refine J_iload_n C rfl dX5_put_12 ?_
  refine J_iast C 0 ([(ra, .inl (G.2.1, n, .inl (upd f j x)))]) rfl j rfl (by omega) (by omega) rfl dX5_put_13 ?_
  exact J_vret C hr dX5_put_14 () rfl trivial rfl

set_option maxHeartbeats 4000000 in
set_option maxRecDepth 100000 in
theorem ct_clearRow (l : Launch) (G : GT) (ra n : Nat) (f : Nat → Int32) (hN : n ≤ 4096) : Ct (S := Unit) l G NoX yX5_clearRow (Wy yX5_clearRow cX5_clearRow 2 ((Option.none : Option Jvm.ClassFile.FieldType))) { frames := 0, cells := 0, slots := 0, locals := 0 } [.ref ra] ([(ra, .inl (G.2.1, n, .inl f))]) (fun u => True) (fun u => none) (fun u => [(ra, .inl (G.2.1, n, .inl (fun _ => nI 0)))]) := by
  refine Ct.of (by decide) (Nat.le_of_ble_eq_true rfl) (fun p e s m args below meth c C hr hnm hX => ?_)
  refine J_iconst C 0 (by decide) dX5_clearRow_0 ?_
  refine J_istore_n C [(1, .int 0), (0, .ref ra)] (by decide) rfl dX5_clearRow_1 ?_
  refine J_lvp [1, 0] [(0, .ref ra), (1, .int (nI 0))] rfl ?_
  refine J_loop (fun i => [(ra, .inl (G.2.1, n, .inl (fun q => if q < i then nI 0 else f q)))]) (fun i => [(0, .ref ra), (1, .int (nI i))]) (fun i => i ≤ n) (fun i => n - i) (fun i hi ih => ?_) 0 (Nat.zero_le _) rfl rfl
  refine J_iload_n C rfl dX5_clearRow_2 ?_
  refine J_aload_n C rfl dX5_clearRow_3 ?_
  refine J_ilen C 0 rfl dX5_clearRow_4 ?_
  refine J_icmp_ge C 18 (by decide) dX5_clearRow_5 (fun c5 => ?_) (fun c5 => ?_)
  · skip
    have c5 := cv_ge_t (a := i) (b := n) (by omega) (by omega) c5
    refine J_arr 0 (fun _ => nI 0) rfl (fun j hj => if_pos (by omega)) ?_
    exact J_vret C hr dX5_clearRow_18 () rfl trivial rfl
  · skip
    have c5 := cv_ge_f (a := i) (b := n) (by omega) (by omega) c5
    refine J_aload_n C rfl dX5_clearRow_8 ?_
    refine J_iload_n C rfl dX5_clearRow_9 ?_
    refine J_iconst C 0 (by decide) dX5_clearRow_10 ?_
    refine J_iast C 0 ([(ra, .inl (G.2.1, n, .inl (upd (fun q => if q < i then nI 0 else f q) i 0)))]) rfl i rfl (by omega) (by omega) rfl dX5_clearRow_11 ?_
    refine J_arr 0 (fun q => if q < i + 1 then nI 0 else f q) rfl (fun q _ => congrFun (clr_upd f i) q) ?_
    refine J_ws (ws' := [(ra, .inl (G.2.1, n, .inl (fun q => if q < i + 1 then nI 0 else f q)))]) rfl ?_
    refine J_iinc C (nI (i + 1)) [(1, .int (nI (i + 1))), (0, .ref ra)] 1 rfl (by first | exact nI_add _ 1 | rfl) (by decide) rfl dX5_clearRow_12 ?_
    refine J_goto C 2 (by decide) dX5_clearRow_15 ?_
    refine J_lvp [1, 0] [(0, .ref ra), (1, .int (nI (i + 1)))] rfl ?_
    exact ih (i + 1) (by omega) (by omega)

set_option maxHeartbeats 4000000 in
set_option maxRecDepth 100000 in
theorem ct_copyRow (l : Launch) (G : GT) (ra rb n : Nat) (f g : Nat → Int32) (hN : n ≤ 4096) : Ct (S := Unit) l G NoX yX5_copyRow (Wy yX5_copyRow cX5_copyRow 2 ((Option.none : Option Jvm.ClassFile.FieldType))) { frames := 1, cells := 0, slots := 0, locals := 40 } [.ref ra, .ref rb] ([(ra, .inl (G.2.1, n, .inl f)), (rb, .inl (G.2.1, n, .inl g))]) (fun u => True) (fun u => none) (fun u => [(ra, .inl (G.2.1, n, .inl f)), (rb, .inl (G.2.1, n, .inl f))]) := by
  refine Ct.of (by decide) (Nat.le_of_ble_eq_true rfl) (fun p e s m args below meth c C hr hnm hX => ?_)
  refine J_aload_n C rfl dX5_copyRow_0 ?_
  refine J_iconst C 0 (by decide) dX5_copyRow_1 ?_
  refine J_aload_n C rfl dX5_copyRow_2 ?_
  refine J_iconst C 0 (by decide) dX5_copyRow_3 ?_
  refine J_aload_n C rfl dX5_copyRow_4 ?_
  refine J_ilen C 0 rfl dX5_copyRow_5 ?_
  refine J_aload_n C rfl dX5_copyRow_6 ?_
  refine J_ilen C 1 rfl dX5_copyRow_7 ?_
  refine J_mmin C k319 k320 k16 k321 (Nat.le_of_ble_eq_true rfl) (Nat.le_of_ble_eq_true rfl) ⟨Nat.le_of_ble_eq_true rfl, Nat.le_of_ble_eq_true rfl⟩ dX5_copyRow_8 ?_
  refine J_i (ite_self _ : (if (nI n) < (nI n) then (nI n) else (nI n) : Int32) = (nI n)) ?_
  refine J_copyi C 0 1 ([(ra, .inl (G.2.1, n, .inl f)), (rb, .inl (G.2.1, n, .inl f))]) k322 k324 k323 k17 rfl rfl rfl rfl rfl (by omega) (Nat.le_of_ble_eq_true rfl) (Nat.le_of_ble_eq_true rfl) rfl dX5_copyRow_11 ?_
  exact J_vret C hr dX5_copyRow_14 () rfl trivial rfl

set_option maxHeartbeats 4000000 in
set_option maxRecDepth 100000 in
theorem ct_isScribe (l : Launch) (G : GT) (x : Int32)  : Ct (S := Unit) l G NoX yX5_isScribe (Wy yX5_isScribe cX5_isScribe 1 ((Option.some Jvm.ClassFile.FieldType.boolean))) { frames := 0, cells := 0, slots := 0, locals := 0 } [.int x] ([]) (fun u => True) (fun u => some (.int (if x = 0 ∨ x = 1 then 1 else 0))) (fun u => []) := by
  refine Ct.of (by decide) (Nat.le_of_ble_eq_true rfl) (fun p e s m args below meth c C hr hnm hX => ?_)
  refine J_iload_n C rfl dX5_isScribe_0 ?_
  refine J_if_eq C 9 (by decide) dX5_isScribe_1 (fun c1 => ?_) (fun c1 => ?_)
  · skip
    refine J_iconst C 1 (by decide) dX5_isScribe_9 ?_
    refine J_goto C 14 (by decide) dX5_isScribe_10 ?_
    exact J_zret C hr rfl dX5_isScribe_14 () (by simp [c1]) trivial rfl
  · skip
    refine J_iload_n C rfl dX5_isScribe_4 ?_
    refine J_iconst C 1 (by decide) dX5_isScribe_5 ?_
    refine J_icmp_ne C 13 (by decide) dX5_isScribe_6 (fun c6 => ?_) (fun c6 => ?_)
    · skip
      refine J_iconst C 0 (by decide) dX5_isScribe_13 ?_
      exact J_zret C hr rfl dX5_isScribe_14 () (by simp [c1, c6]) trivial rfl
    · skip
      refine J_iconst C 1 (by decide) dX5_isScribe_9 ?_
      refine J_goto C 14 (by decide) dX5_isScribe_10 ?_
      exact J_zret C hr rfl dX5_isScribe_14 () (by simp [c1, c6]) trivial rfl

set_option maxHeartbeats 4000000 in
set_option maxRecDepth 100000 in
theorem ct_inkFor (l : Launch) (G : GT) (n : Nat) (hn : n < 16777216) : Ct (S := Unit) l G NoX yX5_inkFor (Wy yX5_inkFor cX5_inkFor 1 ((Option.some Jvm.ClassFile.FieldType.float))) { frames := 0, cells := 0, slots := 0, locals := 0 } [.int (nI n)] ([]) (fun u => True) (fun u => some (.float (fl n))) (fun u => []) := by
  refine Ct.of (by decide) (Nat.le_of_ble_eq_true rfl) (fun p e s m args below meth c C hr hnm hX => ?_)
  refine J_iload_n C rfl dX5_inkFor_0 ?_
  refine J_i2f C dX5_inkFor_1 ?_
  refine J_ldcf C k452 dX5_inkFor_2 ?_
  refine J_fdiv C (by rw [fl_ink (n := n) (by omega)]; exact fl_num (by omega)) dX5_inkFor_4 ?_
  refine J_f (fl_ink (n := n) (by omega) : (FP.fdiv (FP.i2f (nI n)) 1115684864 : UInt32) = (fl n)) ?_
  exact J_fret C hr dX5_inkFor_5 () rfl trivial rfl

theorem ct_putN (l : Launch) (G : GT) (ra n : Nat) (g : Nat → Nat) (j x : Nat) (hj : j < n) (hN : n ≤ 4096) : Ct (S := Unit) l G NoX yX5_put (Wy yX5_put cX5_put 3 none) { frames := 0, cells := 0, slots := 0, locals := 0 } [.ref ra, .int (nI j), .int (nI x)] ([(ra, .inl (G.2.1, n, .inl (fun q => nI (g q))))]) (fun u => True) (fun u => none) (fun u => [(ra, .inl (G.2.1, n, .inl (fun q => nI (if q = j then x else g q))))]) := by
  have h := ct_put l G ra n (fun q => nI (g q)) j (nI x) hj hN
  rw [upd_nI] at h
  exact h
