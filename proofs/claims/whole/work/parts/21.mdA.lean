theorem in_3 {x y : Int64} (h : y ≤ x) : ¬ lg_cmp x y < 0 := fun q => by
  have h1 := (fa_lt64 _ _).mp ((lg_cmp_lt x y).mp q)
  have h2 := (fa_le64 _ _).mp h
  omega
theorem in_10 {x z : Int64} (h : x ≤ z) : ¬ 0 < lg_cmp x z := fun q => by
  have h1 := (fa_lt64 _ _).mp ((lg_cmp_gt x z).mp q)
  have h2 := (fa_le64 _ _).mp h
  omega
theorem in_n {x y z : Int64} (h : ¬ (y ≤ x ∧ x ≤ z)) (h3 : ¬ lg_cmp x y < 0) : 0 < lg_cmp x z := (lg_cmp_gt x z).mpr ((fa_lt64 _ _).mpr (by
  rw [lg_cmp_lt, fa_lt64] at h3
  rw [fa_le64, fa_le64] at h
  omega))
/-- a row's first n places from another -/
def cpM (n : Nat) (f g : Nat → Nat) : Nat → Nat := fun q => if q < n then f q else g q
theorem cpM_0 (f g : Nat → Nat) : cpM 0 f g = g := rfl
theorem cpM_next (f g : Nat → Nat) (n : Nat) : (fun q => if q = n then f n else cpM n f g q) = cpM (n + 1) f g := by
  funext q
  unfold cpM
  by_cases h : q = n
  · rw [if_pos h, if_pos (by omega), h]
  · by_cases h1 : q < n
    · rw [if_neg h, if_pos h1, if_pos (by omega)]
    · rw [if_neg h, if_neg h1, if_neg (by omega)]
/-- the history shifted by one at the first n places -/
def shM (n : Nat) (H : Nat → Nat) : Nat → Nat := fun q => if q < n then H (q + 246) else H q
theorem shM_0 (H : Nat → Nat) : shM 0 H = H := rfl
theorem shM_next (H : Nat → Nat) (n : Nat) : (fun q => if q = n then shM n H (n + 246) else shM n H q) = shM (n + 1) H := by
  funext q
  unfold shM
  rw [if_neg (by omega : ¬ n + 246 < n)]
  by_cases h : q = n
  · rw [if_pos h, if_pos (by omega), h]
  · by_cases h1 : q < n
    · rw [if_neg h, if_pos h1, if_pos (by omega)]
    · rw [if_neg h, if_neg h1, if_neg (by omega)]
/-- n places from b on, from another row's start -/
def pcM (b n : Nat) (kf H : Nat → Nat) : Nat → Nat := fun q => if b ≤ q ∧ q < b + n then kf (q - b) else H q
theorem pcM_0 (b : Nat) (kf H : Nat → Nat) : pcM b 0 kf H = H := by
  funext q
  exact if_neg (by omega)
theorem pcM_next (b : Nat) (kf H : Nat → Nat) (n : Nat) : (fun q => if q = b + n then kf n else pcM b n kf H q) = pcM b (n + 1) kf H := by
  funext q
  unfold pcM
  by_cases h : q = b + n
  · rw [if_pos h, if_pos (by omega), h, Nat.add_sub_cancel_left]
  · by_cases h1 : b ≤ q ∧ q < b + n
    · rw [if_neg h, if_pos h1, if_pos (by omega)]
    · rw [if_neg h, if_neg h1, if_neg (by omega)]
theorem end_n (H kf : Nat → Nat) {n : Nat} (h : ¬ n = 4) : endH H kf n = pcM (246 * n) 246 kf H := by
  funext q
  unfold endH pcM
  rw [if_neg h, if_neg h]
theorem end_4 (H kf : Nat → Nat) {n : Nat} (h : n = 4) : endH H kf n = pcM (246 * (n - 1)) 246 kf (shM 738 H) := by
  subst h
  rfl
theorem isPl64 {σ : AS} {x : Int32} (h : σ 0 4 ≤ 40) : isPl σ x ↔ ((0 : Int64) ≤ x.toInt64 ∧ x.toInt64 ≤ (nI (σ 0 4)).toInt64 - 1) := by
  have h1 : ∀ n : Fin 41, ((nI n.1).toInt64 - 1).toInt = (n.1 : Int) - 1 := by decide +kernel
  have h2 := h1 ⟨σ 0 4, by omega⟩
  have h3 : ((nI (σ 0 4)).toInt64 - 1).toInt = (σ 0 4 : Int) - 1 := h2
  rw [fa_le64, fa_le64, h3, Int32.toInt_toInt64]
  show 0 ≤ x.toInt ∧ x.toInt < (σ 0 4 : Int) ↔ (0 : Int) ≤ x.toInt ∧ _
  omega
theorem up2_cc {σ : AS} {i k x i' k' y : Nat} (h : ¬ (i = i' ∧ k = k')) : up2 (up2 σ i k x) i' k' y = up2 (up2 σ i' k' y) i k x := by
  funext j q
  by_cases h1 : j = i' ∧ q = k'
  · rw [h1.1, h1.2, up2_at, up2_row (by omega), up2_at]
  · rw [up2_row h1]
    by_cases h2 : j = i ∧ q = k
    · rw [h2.1, h2.2, up2_at, up2_at]
    · rw [up2_row h2, up2_row h2, up2_row h1]
theorem up2_ss (σ : AS) (i k x y : Nat) : up2 (up2 σ i k x) i k y = up2 σ i k y := by
  funext j q
  by_cases h1 : j = i ∧ q = k
  · rw [h1.1, h1.2, up2_at, up2_at]
  · rw [up2_row h1, up2_row h1, up2_row h1]
theorem wr_x (σ : AS) (k p m b v a e f g z y w : Nat) (h1 : ¬ k = m) (h7 : ¬ k = 7) (h10 : ¬ k = 10) (hb : ¬ k = b) (hb10 : ¬ b = 10) : up2 (up2 (up2 (up2 (up2 (up2 (up2 (up2 σ 3 p a) 4 p e) 6 p f) 0 m g) 0 7 z) 0 k 0) 0 b y) 0 10 w = up2 (up2 (up2 (up2 (up2 (up2 (up2 (up2 (up2 σ 0 k v) 3 p a) 4 p e) 6 p f) 0 m g) 0 7 z) 0 10 w) 0 b y) 0 k 0 := by
  rw [up2_cc (σ := up2 (up2 (up2 (up2 (up2 (up2 (up2 σ 0 k v) 3 p a) 4 p e) 6 p f) 0 m g) 0 7 z) 0 10 w) (i := 0) (k := b) (i' := 0) (k' := k) (by omega)]
  rw [up2_cc (σ := up2 (up2 (up2 (up2 (up2 (up2 σ 0 k v) 3 p a) 4 p e) 6 p f) 0 m g) 0 7 z) (i := 0) (k := 10) (i' := 0) (k' := k) (by omega)]
  rw [up2_cc (i := 0) (k := k) (i' := 3) (by omega), up2_cc (i := 0) (k := k) (i' := 4) (by omega), up2_cc (i := 0) (k := k) (i' := 6) (by omega), up2_cc (i := 0) (k := k) (x := v) (i' := 0) (k' := m) (by omega), up2_cc (i := 0) (k := k) (x := v) (i' := 0) (k' := 7) (by omega), up2_ss]
  rw [up2_cc (i := 0) (k := 10) (i' := 0) (k' := b) (by omega)]
theorem wr_0 (σ : AS) (p v a e f g z y w : Nat) : up2 (up2 (up2 (up2 (up2 (up2 (up2 (up2 σ 3 p a) 4 p e) 6 p f) 0 24 g) 0 7 z) 0 16 0) 0 14 y) 0 10 w = up2 (up2 (up2 (up2 (up2 (up2 (up2 (up2 (up2 σ 0 16 v) 3 p a) 4 p e) 6 p f) 0 24 g) 0 7 z) 0 10 w) 0 14 y) 0 16 0 := wr_x σ 16 p 24 14 v a e f g z y w (by omega) (by omega) (by omega) (by omega) (by omega)
theorem wr_1 (σ : AS) (p v a e f g z y w : Nat) : up2 (up2 (up2 (up2 (up2 (up2 (up2 (up2 σ 3 p a) 4 p e) 6 p f) 0 25 g) 0 7 z) 0 17 0) 0 15 y) 0 10 w = up2 (up2 (up2 (up2 (up2 (up2 (up2 (up2 (up2 σ 0 17 v) 3 p a) 4 p e) 6 p f) 0 25 g) 0 7 z) 0 10 w) 0 15 y) 0 17 0 := wr_x σ 17 p 25 15 v a e f g z y w (by omega) (by omega) (by omega) (by omega) (by omega)
theorem cpM_nextI (f g : Nat → Nat) (n : Nat) : (fun q => nI (if q = n then f n else cpM n f g q)) = fun q => nI (cpM (n + 1) f g q) := by
  rw [← cpM_next]

set_option maxHeartbeats 4000000 in
set_option maxRecDepth 100000 in
theorem ct_inY (l : Launch) (G : GT) (x y z : Int64) (hin : y ≤ x ∧ x ≤ z) : Ct (S := Unit) l G NoX yX6_in (Wy yX6_in cX6_in 6 ((Option.some Jvm.ClassFile.FieldType.boolean))) { frames := 0, cells := 0, slots := 0, locals := 0 } [.long x, .long y, .long z] ([]) (fun u => True) (fun u => some (.int 1)) (fun u => []) := by
  refine Ct.of (by decide) (Nat.le_of_ble_eq_true rfl) (fun p e s m args below meth c C hr hnm hX => ?_)
  refine J_lload_n C rfl dX6_in_0 ?_
  refine J_lload_n C rfl dX6_in_1 ?_
  refine J_lcmp C dX6_in_2 ?_
  refine J_if_lt C 17 (by decide) dX6_in_3 (fun h => absurd h (in_3 hin.1)) (fun _ => ?_)
  refine J_lload_n C rfl dX6_in_6 ?_
  refine J_lload C rfl dX6_in_7 ?_
  refine J_lcmp C dX6_in_9 ?_
  refine J_if_gt C 17 (by decide) dX6_in_10 (fun h => absurd h (in_10 hin.2)) (fun _ => ?_)
  refine J_iconst C 1 (by decide) dX6_in_13 ?_
  refine J_goto C 18 (by decide) dX6_in_14 ?_
  exact J_zret C hr rfl dX6_in_18 () rfl trivial rfl

set_option maxHeartbeats 4000000 in
set_option maxRecDepth 100000 in
theorem ct_inN (l : Launch) (G : GT) (x y z : Int64) (hin : ¬ (y ≤ x ∧ x ≤ z)) : Ct (S := Unit) l G NoX yX6_in (Wy yX6_in cX6_in 6 ((Option.some Jvm.ClassFile.FieldType.boolean))) { frames := 0, cells := 0, slots := 0, locals := 0 } [.long x, .long y, .long z] ([]) (fun u => True) (fun u => some (.int 0)) (fun u => []) := by
  refine Ct.of (by decide) (Nat.le_of_ble_eq_true rfl) (fun p e s m args below meth c C hr hnm hX => ?_)
  refine J_lload_n C rfl dX6_in_0 ?_
  refine J_lload_n C rfl dX6_in_1 ?_
  refine J_lcmp C dX6_in_2 ?_
  refine J_if_lt C 17 (by decide) dX6_in_3 (fun c3 => ?_) (fun c3 => ?_)
  · skip
    refine J_iconst C 0 (by decide) dX6_in_17 ?_
    exact J_zret C hr rfl dX6_in_18 () rfl trivial rfl
  · skip
    refine J_lload_n C rfl dX6_in_6 ?_
    refine J_lload C rfl dX6_in_7 ?_
    refine J_lcmp C dX6_in_9 ?_
    refine J_if_gt C 17 (by decide) dX6_in_10 (fun _ => ?_) (fun h => absurd h (fun q => q (in_n hin c3)))
    refine J_iconst C 0 (by decide) dX6_in_17 ?_
    exact J_zret C hr rfl dX6_in_18 () rfl trivial rfl

set_option maxHeartbeats 4000000 in
set_option maxRecDepth 100000 in
theorem ct_keeps (l : Launch) (G : GT) (mo : Nat → Nat) (σ : AS) (kf tf H sf df xf : Nat → Nat) (hn ik tl sp rd : Nat) (gr : Int32)  : Ct (S := Unit) l G NoX yX6_keeps (Wy yX6_keeps cX6_keeps 2 ((Option.none : Option Jvm.ClassFile.FieldType))) { frames := 0, cells := 0, slots := 0, locals := 0 } [.ref (mo 0)] (mdW G mo σ kf tf H sf df xf hn ik tl sp rd gr) (fun u => True) (fun u => none) (fun u => mdW G mo σ (rowM σ) tf H sf df xf hn ik tl sp rd gr) := by
  refine Ct.of (by decide) (Nat.le_of_ble_eq_true rfl) (fun p e s m args below meth c C hr hnm hX => ?_)
  refine J_iconst C 0 (by decide) dX6_keeps_0 ?_
  refine J_istore_n C [(1, .int 0), (0, .ref (mo 0))] (by decide) rfl dX6_keeps_1 ?_
  refine J_lvp [1, 0] [(0, .ref (mo 0)), (1, .int 0)] rfl ?_
  refine J_loop (fun i => mdW G mo σ (cpM i (rowM σ) kf) tf H sf df xf hn ik tl sp rd gr) (fun i => [(0, .ref (mo 0)), (1, .int (nI i))]) (fun i => i ≤ 246) (fun i => 246 - i) (fun i hi ih => ?_) 0 (Nat.zero_le _) (by rw [cpM_0]) rfl
  refine J_iload_n C rfl dX6_keeps_2 ?_
  refine J_sipush C 246 (by decide) dX6_keeps_3 ?_
  refine J_icmp_ge C 27 (by decide) dX6_keeps_6 (fun c6 => ?_) (fun c6 => ?_)
  · skip
    have c6 := cv_ge_t (a := i) (b := 246) (by omega) (by omega) c6
    refine J_arr 2 (fun q => nI (rowM σ q)) rfl (fun q hq => congrArg nI (if_pos (show q < i by omega))) ?_
    refine J_ws (ws' := mdW G mo σ (rowM σ) tf H sf df xf hn ik tl sp rd gr) rfl ?_
    exact J_vret C hr dX6_keeps_27 () rfl trivial rfl
  · skip
    have c6 := cv_ge_f (a := i) (b := 246) (by omega) (by omega) c6
    refine J_aload_n C rfl dX6_keeps_9 ?_
    refine J_get C 0 1 in6 rfl rfl (by decide) k576 rfl dX6_keeps_10 ?_
    refine J_iload_n C rfl dX6_keeps_13 ?_
    refine J_aload_n C rfl dX6_keeps_14 ?_
    refine J_get C 0 0 in6 rfl rfl (by decide) k575 rfl dX6_keeps_15 ?_
    refine J_iload_n C rfl dX6_keeps_18 ?_
    refine J_iald C 1 rfl i rfl (by omega) (Nat.le_of_ble_eq_true rfl) dX6_keeps_19 ?_
    refine J_iast C 2 ([(mo 0, .inr (6, [.ref (mo 1), .ref (mo 2), .ref (mo 3), .ref (mo 4), .int (nI hn), .ref (mo 5), .int (nI ik), .ref (mo 6), .ref (mo 7), .int (nI tl), .int (nI sp), .int (nI rd), .int gr])), (mo 1, .inl (G.2.1, 246, .inl (fun q => nI ((rowM σ) q)))), (mo 2, .inl (G.2.1, 246, .inl (upd (fun q => nI ((cpM i (rowM σ) kf) q)) i (nI ((rowM σ) i))))), (mo 3, .inl (G.2.1, 246, .inl (fun q => nI (tf q)))), (mo 4, .inl (G.2.1, 984, .inl (fun q => nI (H q)))), (mo 5, .inl (G.2.1, 246, .inl (fun q => nI (sf q)))), (mo 6, .inl (G.2.1, 40, .inl (fun q => nI (df q)))), (mo 7, .inl (G.2.1, 60, .inl (fun q => nI (xf q))))]) rfl i rfl (by omega) (Nat.le_of_ble_eq_true rfl) rfl dX6_keeps_20 ?_
    refine J_arr 2 (fun q => nI (if q = i then (rowM σ) i else (cpM i (rowM σ) kf) q)) rfl (fun q _ => congrFun (upd_nI _ _ _) q) ?_
    refine J_ws (ws' := mdW G mo σ (fun q => if q = i then (rowM σ) i else (cpM i (rowM σ) kf) q) tf H sf df xf hn ik tl sp rd gr) rfl ?_
    refine J_iinc C (nI (i + 1)) [(1, .int (nI (i + 1))), (0, .ref (mo 0))] 1 rfl (by first | exact nI_add _ 1 | rfl) (by decide) rfl dX6_keeps_21 ?_
    refine J_goto C 2 (by decide) dX6_keeps_24 ?_
    rw [cpM_next]
    refine J_lvp [1, 0] [(0, .ref (mo 0)), (1, .int (nI (i + 1)))] rfl ?_
    exact ih (i + 1) (by omega) (by omega)

set_option maxHeartbeats 4000000 in
set_option maxRecDepth 100000 in
theorem ct_tries (l : Launch) (G : GT) (mo : Nat → Nat) (σ : AS) (kf tf H sf df xf : Nat → Nat) (hn ik tl sp rd : Nat) (gr : Int32)  : Ct (S := Unit) l G NoX yX6_tries (Wy yX6_tries cX6_tries 2 ((Option.none : Option Jvm.ClassFile.FieldType))) { frames := 0, cells := 0, slots := 0, locals := 0 } [.ref (mo 0)] (mdW G mo σ kf tf H sf df xf hn ik tl sp rd gr) (fun u => True) (fun u => none) (fun u => mdW G mo σ kf (rowM σ) H sf df xf hn ik tl sp rd gr) := by
  refine Ct.of (by decide) (Nat.le_of_ble_eq_true rfl) (fun p e s m args below meth c C hr hnm hX => ?_)
  refine J_iconst C 0 (by decide) dX6_tries_0 ?_
  refine J_istore_n C [(1, .int 0), (0, .ref (mo 0))] (by decide) rfl dX6_tries_1 ?_
  refine J_lvp [1, 0] [(0, .ref (mo 0)), (1, .int 0)] rfl ?_
  refine J_loop (fun i => mdW G mo σ kf (cpM i (rowM σ) tf) H sf df xf hn ik tl sp rd gr) (fun i => [(0, .ref (mo 0)), (1, .int (nI i))]) (fun i => i ≤ 246) (fun i => 246 - i) (fun i hi ih => ?_) 0 (Nat.zero_le _) (by rw [cpM_0]) rfl
  refine J_iload_n C rfl dX6_tries_2 ?_
  refine J_sipush C 246 (by decide) dX6_tries_3 ?_
  refine J_icmp_ge C 27 (by decide) dX6_tries_6 (fun c6 => ?_) (fun c6 => ?_)
  · skip
    have c6 := cv_ge_t (a := i) (b := 246) (by omega) (by omega) c6
    refine J_arr 3 (fun q => nI (rowM σ q)) rfl (fun q hq => congrArg nI (if_pos (show q < i by omega))) ?_
    refine J_ws (ws' := mdW G mo σ kf (rowM σ) H sf df xf hn ik tl sp rd gr) rfl ?_
    exact J_vret C hr dX6_tries_27 () rfl trivial rfl
  · skip
    have c6 := cv_ge_f (a := i) (b := 246) (by omega) (by omega) c6
    refine J_aload_n C rfl dX6_tries_9 ?_
    refine J_get C 0 2 in6 rfl rfl (by decide) k577 rfl dX6_tries_10 ?_
    refine J_iload_n C rfl dX6_tries_13 ?_
    refine J_aload_n C rfl dX6_tries_14 ?_
    refine J_get C 0 0 in6 rfl rfl (by decide) k575 rfl dX6_tries_15 ?_
    refine J_iload_n C rfl dX6_tries_18 ?_
    refine J_iald C 1 rfl i rfl (by omega) (Nat.le_of_ble_eq_true rfl) dX6_tries_19 ?_
    refine J_iast C 3 ([(mo 0, .inr (6, [.ref (mo 1), .ref (mo 2), .ref (mo 3), .ref (mo 4), .int (nI hn), .ref (mo 5), .int (nI ik), .ref (mo 6), .ref (mo 7), .int (nI tl), .int (nI sp), .int (nI rd), .int gr])), (mo 1, .inl (G.2.1, 246, .inl (fun q => nI ((rowM σ) q)))), (mo 2, .inl (G.2.1, 246, .inl (fun q => nI (kf q)))), (mo 3, .inl (G.2.1, 246, .inl (upd (fun q => nI ((cpM i (rowM σ) tf) q)) i (nI ((rowM σ) i))))), (mo 4, .inl (G.2.1, 984, .inl (fun q => nI (H q)))), (mo 5, .inl (G.2.1, 246, .inl (fun q => nI (sf q)))), (mo 6, .inl (G.2.1, 40, .inl (fun q => nI (df q)))), (mo 7, .inl (G.2.1, 60, .inl (fun q => nI (xf q))))]) rfl i rfl (by omega) (Nat.le_of_ble_eq_true rfl) rfl dX6_tries_20 ?_
    refine J_arr 3 (fun q => nI (if q = i then (rowM σ) i else (cpM i (rowM σ) tf) q)) rfl (fun q _ => congrFun (upd_nI _ _ _) q) ?_
    refine J_ws (ws' := mdW G mo σ kf (fun q => if q = i then (rowM σ) i else (cpM i (rowM σ) tf) q) H sf df xf hn ik tl sp rd gr) rfl ?_
    refine J_iinc C (nI (i + 1)) [(1, .int (nI (i + 1))), (0, .ref (mo 0))] 1 rfl (by first | exact nI_add _ 1 | rfl) (by decide) rfl dX6_tries_21 ?_
    refine J_goto C 2 (by decide) dX6_tries_24 ?_
    rw [cpM_next]
    refine J_lvp [1, 0] [(0, .ref (mo 0)), (1, .int (nI (i + 1)))] rfl ?_
    exact ih (i + 1) (by omega) (by omega)

set_option maxHeartbeats 4000000 in
set_option maxRecDepth 100000 in
theorem ct_back (l : Launch) (G : GT) (mo : Nat → Nat) (σ : AS) (kf H sf df xf : Nat → Nat) (hn ik tl sp rd : Nat) (gr : Int32) (τ : AS)  : Ct (S := Unit) l G NoX yX6_comesBack (Wy yX6_comesBack cX6_comesBack 2 ((Option.none : Option Jvm.ClassFile.FieldType))) { frames := 0, cells := 0, slots := 0, locals := 0 } [.ref (mo 0)] (mdW G mo σ kf (rowM τ) H sf df xf hn ik tl sp rd gr) (fun u => True) (fun u => none) (fun u => mdW G mo τ kf (rowM τ) H sf df xf hn ik tl sp rd gr) := by
  refine Ct.of (by decide) (Nat.le_of_ble_eq_true rfl) (fun p e s m args below meth c C hr hnm hX => ?_)
  refine J_iconst C 0 (by decide) dX6_comesBack_0 ?_
  refine J_istore_n C [(1, .int 0), (0, .ref (mo 0))] (by decide) rfl dX6_comesBack_1 ?_
  refine J_lvp [1, 0] [(0, .ref (mo 0)), (1, .int 0)] rfl ?_
  refine J_loop (fun i => [(mo 0, .inr (6, [.ref (mo 1), .ref (mo 2), .ref (mo 3), .ref (mo 4), .int (nI hn), .ref (mo 5), .int (nI ik), .ref (mo 6), .ref (mo 7), .int (nI tl), .int (nI sp), .int (nI rd), .int gr])), (mo 1, .inl (G.2.1, 246, .inl (fun q => nI ((cpM i (rowM τ) (rowM σ)) q)))), (mo 2, .inl (G.2.1, 246, .inl (fun q => nI (kf q)))), (mo 3, .inl (G.2.1, 246, .inl (fun q => nI ((rowM τ) q)))), (mo 4, .inl (G.2.1, 984, .inl (fun q => nI (H q)))), (mo 5, .inl (G.2.1, 246, .inl (fun q => nI (sf q)))), (mo 6, .inl (G.2.1, 40, .inl (fun q => nI (df q)))), (mo 7, .inl (G.2.1, 60, .inl (fun q => nI (xf q))))]) (fun i => [(0, .ref (mo 0)), (1, .int (nI i))]) (fun i => i ≤ 246) (fun i => 246 - i) (fun i hi ih => ?_) 0 (Nat.zero_le _) (by rw [cpM_0]) rfl
  refine J_iload_n C rfl dX6_comesBack_2 ?_
  refine J_sipush C 246 (by decide) dX6_comesBack_3 ?_
  refine J_icmp_ge C 27 (by decide) dX6_comesBack_6 (fun c6 => ?_) (fun c6 => ?_)
  · skip
    have c6 := cv_ge_t (a := i) (b := 246) (by omega) (by omega) c6
    refine J_arr 1 (fun q => nI (rowM τ q)) rfl (fun q hq => congrArg nI (if_pos (show q < i by omega))) ?_
    refine J_ws (ws' := mdW G mo τ kf (rowM τ) H sf df xf hn ik tl sp rd gr) rfl ?_
    exact J_vret C hr dX6_comesBack_27 () rfl trivial rfl
  · skip
    have c6 := cv_ge_f (a := i) (b := 246) (by omega) (by omega) c6
    refine J_aload_n C rfl dX6_comesBack_9 ?_
    refine J_get C 0 0 in6 rfl rfl (by decide) k575 rfl dX6_comesBack_10 ?_
    refine J_iload_n C rfl dX6_comesBack_13 ?_
    refine J_aload_n C rfl dX6_comesBack_14 ?_
    refine J_get C 0 2 in6 rfl rfl (by decide) k577 rfl dX6_comesBack_15 ?_
    refine J_iload_n C rfl dX6_comesBack_18 ?_
    refine J_iald C 3 rfl i rfl (by omega) (Nat.le_of_ble_eq_true rfl) dX6_comesBack_19 ?_
    refine J_iast C 1 ([(mo 0, .inr (6, [.ref (mo 1), .ref (mo 2), .ref (mo 3), .ref (mo 4), .int (nI hn), .ref (mo 5), .int (nI ik), .ref (mo 6), .ref (mo 7), .int (nI tl), .int (nI sp), .int (nI rd), .int gr])), (mo 1, .inl (G.2.1, 246, .inl (upd (fun q => nI ((cpM i (rowM τ) (rowM σ)) q)) i (nI ((rowM τ) i))))), (mo 2, .inl (G.2.1, 246, .inl (fun q => nI (kf q)))), (mo 3, .inl (G.2.1, 246, .inl (fun q => nI ((rowM τ) q)))), (mo 4, .inl (G.2.1, 984, .inl (fun q => nI (H q)))), (mo 5, .inl (G.2.1, 246, .inl (fun q => nI (sf q)))), (mo 6, .inl (G.2.1, 40, .inl (fun q => nI (df q)))), (mo 7, .inl (G.2.1, 60, .inl (fun q => nI (xf q))))]) rfl i rfl (by omega) (Nat.le_of_ble_eq_true rfl) rfl dX6_comesBack_20 ?_
    refine J_arr 1 (fun q => nI (if q = i then rowM τ i else cpM i (rowM τ) (rowM σ) q)) rfl (fun q _ => congrFun (upd_nI _ _ _) q) ?_
    refine J_ws (ws' := [(mo 0, .inr (6, [.ref (mo 1), .ref (mo 2), .ref (mo 3), .ref (mo 4), .int (nI hn), .ref (mo 5), .int (nI ik), .ref (mo 6), .ref (mo 7), .int (nI tl), .int (nI sp), .int (nI rd), .int gr])), (mo 1, .inl (G.2.1, 246, .inl (fun q => nI (if q = i then rowM τ i else cpM i (rowM τ) (rowM σ) q)))), (mo 2, .inl (G.2.1, 246, .inl (fun q => nI (kf q)))), (mo 3, .inl (G.2.1, 246, .inl (fun q => nI ((rowM τ) q)))), (mo 4, .inl (G.2.1, 984, .inl (fun q => nI (H q)))), (mo 5, .inl (G.2.1, 246, .inl (fun q => nI (sf q)))), (mo 6, .inl (G.2.1, 40, .inl (fun q => nI (df q)))), (mo 7, .inl (G.2.1, 60, .inl (fun q => nI (xf q))))]) rfl ?_
    refine J_iinc C (nI (i + 1)) [(1, .int (nI (i + 1))), (0, .ref (mo 0))] 1 rfl (by first | exact nI_add _ 1 | rfl) (by decide) rfl dX6_comesBack_21 ?_
    refine J_goto C 2 (by decide) dX6_comesBack_24 ?_
    rw [cpM_nextI]
    refine J_lvp [1, 0] [(0, .ref (mo 0)), (1, .int (nI (i + 1)))] rfl ?_
    exact ih (i + 1) (by omega) (by omega)

set_option maxHeartbeats 4000000 in
set_option maxRecDepth 100000 in
theorem ct_ends (l : Launch) (G : GT) (mo : Nat → Nat) (σ : AS) (kf tf H sf df xf : Nat → Nat) (hn ik tl sp rd : Nat) (gr : Int32) (r : Int32) (h4 : hn ≤ 4) : Ct (S := Unit) l G NoX yX6_ends (Wy yX6_ends cX6_ends 3 ((Option.some Jvm.ClassFile.FieldType.int))) { frames := 0, cells := 0, slots := 0, locals := 0 } [.ref (mo 0), .int r] (mdW G mo σ kf tf H sf df xf hn ik tl sp rd gr) (fun u => True) (fun u => some (.int r)) (fun u => mdW G mo σ kf tf (endH H kf hn) sf df xf (sizeF hn) ik tl sp rd gr) := by
  refine Ct.of (by decide) (Nat.le_of_ble_eq_true rfl) (fun p e s m args below meth c C hr hnm hX => ?_)
  refine J_aload_n C rfl dX6_ends_0 ?_
  refine J_get C 0 4 in6 rfl rfl (by decide) k579 rfl dX6_ends_1 ?_
  refine J_iconst C 4 (by decide) dX6_ends_4 ?_
  refine J_icmp_ne C 49 (by decide) dX6_ends_5 (fun c5 => ?_) (fun c5 => ?_)
  · skip
    have c5 := cv_ne_t (a := hn) (b := 4) (by omega) (by omega) c5
    refine J_iconst C 0 (by decide) dX6_ends_49 ?_
    refine J_istore_n C [(2, .int 0), (0, .ref (mo 0)), (1, .int r)] (by decide) rfl dX6_ends_50 ?_
    refine J_lvp [1, 2, 0] [(0, .ref (mo 0)), (1, .int r), (2, .int 0)] rfl ?_
    refine J_loop (fun m => mdW G mo σ kf tf (pcM (246 * hn) m kf H) sf df xf hn ik tl sp rd gr) (fun m => [(0, .ref (mo 0)), (1, .int r), (2, .int (nI m))]) (fun m => m ≤ 246) (fun m => 246 - m) (fun m hi2 ih2 => ?_) 0 (Nat.zero_le _) (by rw [pcM_0]) rfl
    refine J_iload_n C rfl dX6_ends_51 ?_
    refine J_sipush C 246 (by decide) dX6_ends_52 ?_
    refine J_icmp_ge C 85 (by decide) dX6_ends_55 (fun c55 => ?_) (fun c55 => ?_)
    · skip
      have c55 := cv_ge_t (a := m) (b := 246) (by omega) (by omega) c55
      refine J_aload_n C rfl dX6_ends_85 ?_
      refine J_dup C rfl dX6_ends_86 ?_
      refine J_get C 0 4 in6 rfl rfl (by decide) k579 rfl dX6_ends_87 ?_
      refine J_iconst C 1 (by decide) dX6_ends_90 ?_
      refine J_iadd C dX6_ends_91 ?_
      refine J_i (nI_add hn 1 : ((nI hn) + 1 : Int32) = (nI (hn + 1))) ?_
      refine J_put C 0 4 in6 tyX6 tyX6_ok nmX6 ([(mo 0, .inr (6, [.ref (mo 1), .ref (mo 2), .ref (mo 3), .ref (mo 4), .int (nI (hn + 1)), .ref (mo 5), .int (nI ik), .ref (mo 6), .ref (mo 7), .int (nI tl), .int (nI sp), .int (nI rd), .int gr])), (mo 1, .inl (G.2.1, 246, .inl (fun q => nI ((rowM σ) q)))), (mo 2, .inl (G.2.1, 246, .inl (fun q => nI (kf q)))), (mo 3, .inl (G.2.1, 246, .inl (fun q => nI (tf q)))), (mo 4, .inl (G.2.1, 984, .inl (fun q => nI ((pcM (246 * hn) m kf H) q)))), (mo 5, .inl (G.2.1, 246, .inl (fun q => nI (sf q)))), (mo 6, .inl (G.2.1, 40, .inl (fun q => nI (df q)))), (mo 7, .inl (G.2.1, 60, .inl (fun q => nI (xf q))))]) rfl rfl (by decide) k579 rfl rfl rfl (Nat.le_of_ble_eq_true rfl) rfl dX6_ends_92 ?_
      refine J_ws (ws' := mdW G mo σ kf tf (pcM (246 * hn) m kf H) sf df xf (hn + 1) ik tl sp rd gr) rfl ?_
      refine J_iload_n C rfl dX6_ends_95 ?_
      exact J_zret C hr rfl dX6_ends_96 () rfl trivial (by rw [end_n H kf (show ¬ hn = 4 by omega), show m = 246 by omega, show sizeF hn = hn + 1 from by unfold sizeF; rw [if_neg (show ¬ hn = 4 by omega)]])
    · skip
      have c55 := cv_ge_f (a := m) (b := 246) (by omega) (by omega) c55
      refine J_aload_n C rfl dX6_ends_58 ?_
      refine J_get C 0 3 in6 rfl rfl (by decide) k578 rfl dX6_ends_59 ?_
      refine J_sipush C 246 (by decide) dX6_ends_62 ?_
      refine J_aload_n C rfl dX6_ends_65 ?_
      refine J_get C 0 4 in6 rfl rfl (by decide) k579 rfl dX6_ends_66 ?_
      refine J_imul C dX6_ends_69 ?_
      refine J_i (pk_mul 246 hn : (246 * (nI hn) : Int32) = (nI (246 * hn))) ?_
      refine J_iload_n C rfl dX6_ends_70 ?_
      refine J_iadd C dX6_ends_71 ?_
      refine J_i (nI_add (246 * hn) m : ((nI (246 * hn)) + (nI m) : Int32) = (nI (246 * hn + m))) ?_
      refine J_aload_n C rfl dX6_ends_72 ?_
      refine J_get C 0 1 in6 rfl rfl (by decide) k576 rfl dX6_ends_73 ?_
      refine J_iload_n C rfl dX6_ends_76 ?_
      refine J_iald C 2 rfl m rfl (by omega) (Nat.le_of_ble_eq_true rfl) dX6_ends_77 ?_
      refine J_iast C 4 ([(mo 0, .inr (6, [.ref (mo 1), .ref (mo 2), .ref (mo 3), .ref (mo 4), .int (nI hn), .ref (mo 5), .int (nI ik), .ref (mo 6), .ref (mo 7), .int (nI tl), .int (nI sp), .int (nI rd), .int gr])), (mo 1, .inl (G.2.1, 246, .inl (fun q => nI ((rowM σ) q)))), (mo 2, .inl (G.2.1, 246, .inl (fun q => nI (kf q)))), (mo 3, .inl (G.2.1, 246, .inl (fun q => nI (tf q)))), (mo 4, .inl (G.2.1, 984, .inl (upd (fun q => nI ((pcM (246 * hn) m kf H) q)) (246 * hn + m) (nI (kf m))))), (mo 5, .inl (G.2.1, 246, .inl (fun q => nI (sf q)))), (mo 6, .inl (G.2.1, 40, .inl (fun q => nI (df q)))), (mo 7, .inl (G.2.1, 60, .inl (fun q => nI (xf q))))]) rfl (246 * hn + m) rfl (by omega) (Nat.le_of_ble_eq_true rfl) rfl dX6_ends_78 ?_
      refine J_arr 4 (fun q => nI (if q = (246 * hn + m) then kf m else (pcM (246 * hn) m kf H) q)) rfl (fun q _ => congrFun (upd_nI _ _ _) q) ?_
      refine J_ws (ws' := mdW G mo σ kf tf (fun q => if q = (246 * hn + m) then kf m else (pcM (246 * hn) m kf H) q) sf df xf hn ik tl sp rd gr) rfl ?_
      refine J_iinc C (nI (m + 1)) [(2, .int (nI (m + 1))), (0, .ref (mo 0)), (1, .int r)] 2 rfl (by first | exact nI_add _ 1 | rfl) (by decide) rfl dX6_ends_79 ?_
      refine J_goto C 51 (by decide) dX6_ends_82 ?_
      rw [pcM_next]
      refine J_lvp [1, 2, 0] [(0, .ref (mo 0)), (1, .int r), (2, .int (nI (m + 1)))] rfl ?_
      exact ih2 (m + 1) (by omega) (by omega)
  · skip
    have c5 := cv_ne_f (a := hn) (b := 4) (by omega) (by omega) c5
    refine J_iconst C 0 (by decide) dX6_ends_8 ?_
    refine J_istore_n C [(2, .int 0), (0, .ref (mo 0)), (1, .int r)] (by decide) rfl dX6_ends_9 ?_
    refine J_lvp [1, 2, 0] [(0, .ref (mo 0)), (1, .int r), (2, .int 0)] rfl ?_
    refine J_loop (fun i => mdW G mo σ kf tf (shM i H) sf df xf hn ik tl sp rd gr) (fun i => [(0, .ref (mo 0)), (1, .int r), (2, .int (nI i))]) (fun i => i ≤ 738) (fun i => 738 - i) (fun i hi ih => ?_) 0 (Nat.zero_le _) (by rw [shM_0]) rfl
    refine J_iload_n C rfl dX6_ends_10 ?_
    refine J_sipush C 738 (by decide) dX6_ends_11 ?_
    refine J_icmp_ge C 39 (by decide) dX6_ends_14 (fun c14 => ?_) (fun c14 => ?_)
    · skip
      have c14 := cv_ge_t (a := i) (b := 738) (by omega) (by omega) c14
      have hi7 : i = 738 := by omega
      rw [hi7]
      refine J_lvp [0, 1] [(0, .ref (mo 0)), (1, .int r)] rfl ?_
      refine J_aload_n C rfl dX6_ends_39 ?_
      refine J_dup C rfl dX6_ends_40 ?_
      refine J_get C 0 4 in6 rfl rfl (by decide) k579 rfl dX6_ends_41 ?_
      refine J_iconst C 1 (by decide) dX6_ends_44 ?_
      refine J_isub C dX6_ends_45 ?_
      refine J_i (pk_sub (a := hn) (b := 1) (by omega) : ((nI hn) - 1 : Int32) = (nI (hn - 1))) ?_
      refine J_put C 0 4 in6 tyX6 tyX6_ok nmX6 ([(mo 0, .inr (6, [.ref (mo 1), .ref (mo 2), .ref (mo 3), .ref (mo 4), .int (nI (hn - 1)), .ref (mo 5), .int (nI ik), .ref (mo 6), .ref (mo 7), .int (nI tl), .int (nI sp), .int (nI rd), .int gr])), (mo 1, .inl (G.2.1, 246, .inl (fun q => nI ((rowM σ) q)))), (mo 2, .inl (G.2.1, 246, .inl (fun q => nI (kf q)))), (mo 3, .inl (G.2.1, 246, .inl (fun q => nI (tf q)))), (mo 4, .inl (G.2.1, 984, .inl (fun q => nI ((shM 738 H) q)))), (mo 5, .inl (G.2.1, 246, .inl (fun q => nI (sf q)))), (mo 6, .inl (G.2.1, 40, .inl (fun q => nI (df q)))), (mo 7, .inl (G.2.1, 60, .inl (fun q => nI (xf q))))]) rfl rfl (by decide) k579 rfl rfl rfl (Nat.le_of_ble_eq_true rfl) rfl dX6_ends_46 ?_
      refine J_ws (ws' := mdW G mo σ kf tf (shM 738 H) sf df xf (hn - 1) ik tl sp rd gr) rfl ?_
      refine J_iconst C 0 (by decide) dX6_ends_49 ?_
      refine J_istore_n C [(2, .int 0), (0, .ref (mo 0)), (1, .int r)] (by decide) rfl dX6_ends_50 ?_
      refine J_lvp [1, 2, 0] [(0, .ref (mo 0)), (1, .int r), (2, .int 0)] rfl ?_
      refine J_loop (fun m => mdW G mo σ kf tf (pcM (246 * (hn - 1)) m kf (shM 738 H)) sf df xf (hn - 1) ik tl sp rd gr) (fun m => [(0, .ref (mo 0)), (1, .int r), (2, .int (nI m))]) (fun m => m ≤ 246) (fun m => 246 - m) (fun m hi2 ih2 => ?_) 0 (Nat.zero_le _) (by rw [pcM_0]) rfl
      refine J_iload_n C rfl dX6_ends_51 ?_
      refine J_sipush C 246 (by decide) dX6_ends_52 ?_
      refine J_icmp_ge C 85 (by decide) dX6_ends_55 (fun c55 => ?_) (fun c55 => ?_)
      · skip
        have c55 := cv_ge_t (a := m) (b := 246) (by omega) (by omega) c55
        refine J_aload_n C rfl dX6_ends_85 ?_
        refine J_dup C rfl dX6_ends_86 ?_
        refine J_get C 0 4 in6 rfl rfl (by decide) k579 rfl dX6_ends_87 ?_
        refine J_iconst C 1 (by decide) dX6_ends_90 ?_
        refine J_iadd C dX6_ends_91 ?_
        refine J_i (nI_add (hn - 1) 1 : ((nI (hn - 1)) + 1 : Int32) = (nI ((hn - 1) + 1))) ?_
        refine J_put C 0 4 in6 tyX6 tyX6_ok nmX6 ([(mo 0, .inr (6, [.ref (mo 1), .ref (mo 2), .ref (mo 3), .ref (mo 4), .int (nI ((hn - 1) + 1)), .ref (mo 5), .int (nI ik), .ref (mo 6), .ref (mo 7), .int (nI tl), .int (nI sp), .int (nI rd), .int gr])), (mo 1, .inl (G.2.1, 246, .inl (fun q => nI ((rowM σ) q)))), (mo 2, .inl (G.2.1, 246, .inl (fun q => nI (kf q)))), (mo 3, .inl (G.2.1, 246, .inl (fun q => nI (tf q)))), (mo 4, .inl (G.2.1, 984, .inl (fun q => nI ((pcM (246 * (hn - 1)) m kf (shM 738 H)) q)))), (mo 5, .inl (G.2.1, 246, .inl (fun q => nI (sf q)))), (mo 6, .inl (G.2.1, 40, .inl (fun q => nI (df q)))), (mo 7, .inl (G.2.1, 60, .inl (fun q => nI (xf q))))]) rfl rfl (by decide) k579 rfl rfl rfl (Nat.le_of_ble_eq_true rfl) rfl dX6_ends_92 ?_
        refine J_ws (ws' := mdW G mo σ kf tf (pcM (246 * (hn - 1)) m kf (shM 738 H)) sf df xf ((hn - 1) + 1) ik tl sp rd gr) rfl ?_
        refine J_iload_n C rfl dX6_ends_95 ?_
        exact J_zret C hr rfl dX6_ends_96 () rfl trivial (by rw [end_4 H kf (show hn = 4 by omega), show m = 246 by omega, show sizeF hn = hn - 1 + 1 from by unfold sizeF; rw [if_pos (show hn = 4 by omega)]; omega])
      · skip
        have c55 := cv_ge_f (a := m) (b := 246) (by omega) (by omega) c55
        refine J_aload_n C rfl dX6_ends_58 ?_
        refine J_get C 0 3 in6 rfl rfl (by decide) k578 rfl dX6_ends_59 ?_
        refine J_sipush C 246 (by decide) dX6_ends_62 ?_
        refine J_aload_n C rfl dX6_ends_65 ?_
        refine J_get C 0 4 in6 rfl rfl (by decide) k579 rfl dX6_ends_66 ?_
        refine J_imul C dX6_ends_69 ?_
        refine J_i (pk_mul 246 (hn - 1) : (246 * (nI (hn - 1)) : Int32) = (nI (246 * (hn - 1)))) ?_
        refine J_iload_n C rfl dX6_ends_70 ?_
        refine J_iadd C dX6_ends_71 ?_
        refine J_i (nI_add (246 * (hn - 1)) m : ((nI (246 * (hn - 1))) + (nI m) : Int32) = (nI ((246 * (hn - 1)) + m))) ?_
        refine J_aload_n C rfl dX6_ends_72 ?_
        refine J_get C 0 1 in6 rfl rfl (by decide) k576 rfl dX6_ends_73 ?_
        refine J_iload_n C rfl dX6_ends_76 ?_
        refine J_iald C 2 rfl m rfl (by omega) (Nat.le_of_ble_eq_true rfl) dX6_ends_77 ?_
        refine J_iast C 4 ([(mo 0, .inr (6, [.ref (mo 1), .ref (mo 2), .ref (mo 3), .ref (mo 4), .int (nI (hn - 1)), .ref (mo 5), .int (nI ik), .ref (mo 6), .ref (mo 7), .int (nI tl), .int (nI sp), .int (nI rd), .int gr])), (mo 1, .inl (G.2.1, 246, .inl (fun q => nI ((rowM σ) q)))), (mo 2, .inl (G.2.1, 246, .inl (fun q => nI (kf q)))), (mo 3, .inl (G.2.1, 246, .inl (fun q => nI (tf q)))), (mo 4, .inl (G.2.1, 984, .inl (upd (fun q => nI ((pcM (246 * (hn - 1)) m kf (shM 738 H)) q)) ((246 * (hn - 1)) + m) (nI (kf m))))), (mo 5, .inl (G.2.1, 246, .inl (fun q => nI (sf q)))), (mo 6, .inl (G.2.1, 40, .inl (fun q => nI (df q)))), (mo 7, .inl (G.2.1, 60, .inl (fun q => nI (xf q))))]) rfl ((246 * (hn - 1)) + m) rfl (by omega) (Nat.le_of_ble_eq_true rfl) rfl dX6_ends_78 ?_
        refine J_arr 4 (fun q => nI (if q = ((246 * (hn - 1)) + m) then kf m else (pcM (246 * (hn - 1)) m kf (shM 738 H)) q)) rfl (fun q _ => congrFun (upd_nI _ _ _) q) ?_
        refine J_ws (ws' := mdW G mo σ kf tf (fun q => if q = ((246 * (hn - 1)) + m) then kf m else (pcM (246 * (hn - 1)) m kf (shM 738 H)) q) sf df xf (hn - 1) ik tl sp rd gr) rfl ?_
        refine J_iinc C (nI (m + 1)) [(2, .int (nI (m + 1))), (0, .ref (mo 0)), (1, .int r)] 2 rfl (by first | exact nI_add _ 1 | rfl) (by decide) rfl dX6_ends_79 ?_
        refine J_goto C 51 (by decide) dX6_ends_82 ?_
        rw [pcM_next]
        refine J_lvp [1, 2, 0] [(0, .ref (mo 0)), (1, .int r), (2, .int (nI (m + 1)))] rfl ?_
        exact ih2 (m + 1) (by omega) (by omega)
    · skip
      have c14 := cv_ge_f (a := i) (b := 738) (by omega) (by omega) c14
      refine J_aload_n C rfl dX6_ends_17 ?_
      refine J_get C 0 3 in6 rfl rfl (by decide) k578 rfl dX6_ends_18 ?_
      refine J_iload_n C rfl dX6_ends_21 ?_
      refine J_aload_n C rfl dX6_ends_22 ?_
      refine J_get C 0 3 in6 rfl rfl (by decide) k578 rfl dX6_ends_23 ?_
      refine J_iload_n C rfl dX6_ends_26 ?_
      refine J_sipush C 246 (by decide) dX6_ends_27 ?_
      refine J_iadd C dX6_ends_30 ?_
      refine J_i (nI_add i 246 : ((nI i) + 246 : Int32) = (nI (i + 246))) ?_
      refine J_iald C 4 rfl (i + 246) rfl (by omega) (Nat.le_of_ble_eq_true rfl) dX6_ends_31 ?_
      refine J_iast C 4 ([(mo 0, .inr (6, [.ref (mo 1), .ref (mo 2), .ref (mo 3), .ref (mo 4), .int (nI hn), .ref (mo 5), .int (nI ik), .ref (mo 6), .ref (mo 7), .int (nI tl), .int (nI sp), .int (nI rd), .int gr])), (mo 1, .inl (G.2.1, 246, .inl (fun q => nI ((rowM σ) q)))), (mo 2, .inl (G.2.1, 246, .inl (fun q => nI (kf q)))), (mo 3, .inl (G.2.1, 246, .inl (fun q => nI (tf q)))), (mo 4, .inl (G.2.1, 984, .inl (upd (fun q => nI ((shM i H) q)) i (nI ((shM i H) (i + 246)))))), (mo 5, .inl (G.2.1, 246, .inl (fun q => nI (sf q)))), (mo 6, .inl (G.2.1, 40, .inl (fun q => nI (df q)))), (mo 7, .inl (G.2.1, 60, .inl (fun q => nI (xf q))))]) rfl i rfl (by omega) (Nat.le_of_ble_eq_true rfl) rfl dX6_ends_32 ?_
      refine J_arr 4 (fun q => nI (if q = i then (shM i H) (i + 246) else (shM i H) q)) rfl (fun q _ => congrFun (upd_nI _ _ _) q) ?_
      refine J_ws (ws' := mdW G mo σ kf tf (fun q => if q = i then (shM i H) (i + 246) else (shM i H) q) sf df xf hn ik tl sp rd gr) rfl ?_
      refine J_iinc C (nI (i + 1)) [(2, .int (nI (i + 1))), (0, .ref (mo 0)), (1, .int r)] 2 rfl (by first | exact nI_add _ 1 | rfl) (by decide) rfl dX6_ends_33 ?_
      refine J_goto C 10 (by decide) dX6_ends_36 ?_
      rw [shM_next]
      refine J_lvp [1, 2, 0] [(0, .ref (mo 0)), (1, .int r), (2, .int (nI (i + 1)))] rfl ?_
      exact ih (i + 1) (by omega) (by omega)

set_option maxHeartbeats 4000000 in
set_option maxRecDepth 100000 in
theorem ct_isPlY (l : Launch) (G : GT) (mo : Nat → Nat) (σ : AS) (kf tf H sf df xf : Nat → Nat) (hn ik tl sp rd : Nat) (gr : Int32) (x : Int32) (hn4 : σ 0 4 ≤ 40) (hx : isPl σ x) : Ct (S := Unit) l G NoX yX6_isPlace (Wy yX6_isPlace cX6_isPlace 2 ((Option.some Jvm.ClassFile.FieldType.boolean))) { frames := 1, cells := 0, slots := 0, locals := 25 } [.ref (mo 0), .int x] (mdW G mo σ kf tf H sf df xf hn ik tl sp rd gr) (fun u => True) (fun u => some (.int 1)) (fun u => mdW G mo σ kf tf H sf df xf hn ik tl sp rd gr) := by
  refine Ct.of (by decide) (Nat.le_of_ble_eq_true rfl) (fun p e s m args below meth c C hr hnm hX => ?_)
  refine J_iload_n C rfl dX6_isPlace_0 ?_
  refine J_i2l C dX6_isPlace_1 ?_
  refine J_lconst C 0 (by decide) dX6_isPlace_2 ?_
  refine J_aload_n C rfl dX6_isPlace_3 ?_
  refine J_get C 0 0 in6 rfl rfl (by decide) k575 rfl dX6_isPlace_4 ?_
  refine J_iconst C 4 (by decide) dX6_isPlace_7 ?_
  refine J_iald C 1 rfl 4 rfl (by decide) (Nat.le_of_ble_eq_true rfl) dX6_isPlace_8 ?_
  refine J_i (rfl : (nI ((rowM σ) 4) : Int32) = (nI (σ 0 4))) ?_
  refine J_i2l C dX6_isPlace_9 ?_
  refine J_lconst C 1 (by decide) dX6_isPlace_10 ?_
  refine J_lsub C dX6_isPlace_11 ?_
  refine J_callS (as := [.long x.toInt64, .long 0, .long (((nI (σ 0 4)).toInt64) - 1)]) (rest := []) C (ct_inY l G x.toInt64 0 (((nI (σ 0 4)).toInt64) - 1) ((isPl64 hn4).mp hx)) (fun u => mdW G mo σ kf tf H sf df xf hn ik tl sp rd gr) [] [0, 1, 2, 3, 4, 5, 6, 7] 3 k627 k628 k38 k629 rfl (by decide +kernel) ⟨Nat.le_of_ble_eq_true rfl, Nat.le_of_ble_eq_true rfl⟩ ⟨Nat.le_of_ble_eq_true rfl, Nat.le_of_ble_eq_true rfl⟩ dX6_isPlace_12 (Nat.le_of_ble_eq_true rfl) rfl (by decide +kernel) (fun _ => rfl) (mdW G mo σ kf tf H sf df xf hn ik tl sp rd gr) rfl (fun _ => rfl) 8 (fun _ => rfl) (by decide +kernel) (by decide +kernel) (fun _ _ => ?_)
  refine J_st (st' := [.int 1]) rfl ?_
  exact J_zret C hr rfl dX6_isPlace_15 () rfl trivial rfl

set_option maxHeartbeats 4000000 in
set_option maxRecDepth 100000 in
theorem ct_isPlN (l : Launch) (G : GT) (mo : Nat → Nat) (σ : AS) (kf tf H sf df xf : Nat → Nat) (hn ik tl sp rd : Nat) (gr : Int32) (x : Int32) (hn4 : σ 0 4 ≤ 40) (hx : ¬ isPl σ x) : Ct (S := Unit) l G NoX yX6_isPlace (Wy yX6_isPlace cX6_isPlace 2 ((Option.some Jvm.ClassFile.FieldType.boolean))) { frames := 1, cells := 0, slots := 0, locals := 25 } [.ref (mo 0), .int x] (mdW G mo σ kf tf H sf df xf hn ik tl sp rd gr) (fun u => True) (fun u => some (.int 0)) (fun u => mdW G mo σ kf tf H sf df xf hn ik tl sp rd gr) := by
  refine Ct.of (by decide) (Nat.le_of_ble_eq_true rfl) (fun p e s m args below meth c C hr hnm hX => ?_)
  refine J_iload_n C rfl dX6_isPlace_0 ?_
  refine J_i2l C dX6_isPlace_1 ?_
  refine J_lconst C 0 (by decide) dX6_isPlace_2 ?_
  refine J_aload_n C rfl dX6_isPlace_3 ?_
  refine J_get C 0 0 in6 rfl rfl (by decide) k575 rfl dX6_isPlace_4 ?_
  refine J_iconst C 4 (by decide) dX6_isPlace_7 ?_
  refine J_iald C 1 rfl 4 rfl (by decide) (Nat.le_of_ble_eq_true rfl) dX6_isPlace_8 ?_
  refine J_i (rfl : (nI ((rowM σ) 4) : Int32) = (nI (σ 0 4))) ?_
  refine J_i2l C dX6_isPlace_9 ?_
  refine J_lconst C 1 (by decide) dX6_isPlace_10 ?_
  refine J_lsub C dX6_isPlace_11 ?_
  refine J_callS (as := [.long x.toInt64, .long 0, .long (((nI (σ 0 4)).toInt64) - 1)]) (rest := []) C (ct_inN l G x.toInt64 0 (((nI (σ 0 4)).toInt64) - 1) (fun q => hx ((isPl64 hn4).mpr q))) (fun u => mdW G mo σ kf tf H sf df xf hn ik tl sp rd gr) [] [0, 1, 2, 3, 4, 5, 6, 7] 3 k627 k628 k38 k629 rfl (by decide +kernel) ⟨Nat.le_of_ble_eq_true rfl, Nat.le_of_ble_eq_true rfl⟩ ⟨Nat.le_of_ble_eq_true rfl, Nat.le_of_ble_eq_true rfl⟩ dX6_isPlace_12 (Nat.le_of_ble_eq_true rfl) rfl (by decide +kernel) (fun _ => rfl) (mdW G mo σ kf tf H sf df xf hn ik tl sp rd gr) rfl (fun _ => rfl) 8 (fun _ => rfl) (by decide +kernel) (by decide +kernel) (fun _ _ => ?_)
  refine J_st (st' := [.int 0]) rfl ?_
  exact J_zret C hr rfl dX6_isPlace_15 () rfl trivial rfl

set_option maxHeartbeats 4000000 in
set_option maxRecDepth 100000 in
theorem ct_due (l : Launch) (G : GT) (mo : Nat → Nat) (σ : AS) (kf tf H sf df xf : Nat → Nat) (hn ik tl sp rd : Nat) (gr : Int32) (j : Nat) (hn4 : σ 0 4 ≤ 40) (hj : j < σ 0 4) : Ct (S := Unit) l G NoX yX6_due (Wy yX6_due cX6_due 2 ((Option.some Jvm.ClassFile.FieldType.int))) { frames := 0, cells := 0, slots := 0, locals := 0 } [.ref (mo 0), .int (nI j)] (mdW G mo σ kf tf H sf df xf hn ik tl sp rd gr) (fun u => True) (fun u => some (.int (nI (dueAt σ j)))) (fun u => mdW G mo σ kf tf H sf df xf hn ik tl sp rd gr) := by
  refine Ct.of (by decide) (Nat.le_of_ble_eq_true rfl) (fun p e s m args below meth c C hr hnm hX => ?_)
  refine J_aload_n C rfl dX6_due_0 ?_
  refine J_get C 0 0 in6 rfl rfl (by decide) k575 rfl dX6_due_1 ?_
  refine J_bipush C 26 (by decide) dX6_due_4 ?_
  refine J_iload_n C rfl dX6_due_6 ?_
  refine J_aload_n C rfl dX6_due_7 ?_
  refine J_get C 0 0 in6 rfl rfl (by decide) k575 rfl dX6_due_8 ?_
  refine J_iconst C 4 (by decide) dX6_due_11 ?_
  refine J_iald C 1 rfl 4 rfl (by decide) (Nat.le_of_ble_eq_true rfl) dX6_due_12 ?_
  refine J_i (rfl : (nI ((rowM σ) 4) : Int32) = (nI (σ 0 4))) ?_
  refine J_iconst C 2 (by decide) dX6_due_13 ?_
  refine J_idiv C (by decide) dX6_due_14 ?_
  refine J_i (pk_div (a := σ 0 4) (d := 2) (by omega) (by omega) (by omega) : ((nI (σ 0 4)) / 2 : Int32) = (nI ((σ 0 4) / 2))) ?_
  refine J_icmp_ge C 22 (by decide) dX6_due_15 (fun c15 => ?_) (fun c15 => ?_)
  · skip
    have c15 := cv_ge_t (a := j) (b := ((σ 0 4) / 2)) (by omega) (by omega) c15
    refine J_aload_n C rfl dX6_due_22 ?_
    refine J_get C 0 0 in6 rfl rfl (by decide) k575 rfl dX6_due_23 ?_
    refine J_iconst C 4 (by decide) dX6_due_26 ?_
    refine J_iald C 1 rfl 4 rfl (by decide) (Nat.le_of_ble_eq_true rfl) dX6_due_27 ?_
    refine J_i (rfl : (nI ((rowM σ) 4) : Int32) = (nI (σ 0 4))) ?_
    refine J_iconst C 1 (by decide) dX6_due_28 ?_
    refine J_isub C dX6_due_29 ?_
    refine J_i (pk_sub (a := σ 0 4) (b := 1) (by omega) : ((nI (σ 0 4)) - 1 : Int32) = (nI (σ 0 4 - 1))) ?_
    refine J_iload_n C rfl dX6_due_30 ?_
    refine J_isub C dX6_due_31 ?_
    refine J_i (pk_sub (a := σ 0 4 - 1) (b := j) (by omega) : ((nI (σ 0 4 - 1)) - (nI j) : Int32) = (nI ((σ 0 4 - 1) - j))) ?_
    refine J_iadd C dX6_due_32 ?_
    refine J_i (nI_add 26 ((σ 0 4 - 1) - j) : (26 + (nI ((σ 0 4 - 1) - j)) : Int32) = (nI (26 + ((σ 0 4 - 1) - j)))) ?_
    refine J_iald C 1 rfl (26 + ((σ 0 4 - 1) - j)) rfl (by omega) (Nat.le_of_ble_eq_true rfl) dX6_due_33 ?_
    refine J_i (congrArg nI (rowM_1 σ (by omega)) : (nI ((rowM σ) (26 + ((σ 0 4 - 1) - j))) : Int32) = (nI (σ 1 ((σ 0 4 - 1) - j)))) ?_
    exact J_zret C hr rfl dX6_due_34 () (by rw [show dueAt σ j = σ 1 ((σ 0 4 - 1) - j) from by unfold dueAt; rw [if_neg (by omega)]]) trivial rfl
  · skip
    have c15 := cv_ge_f (a := j) (b := ((σ 0 4) / 2)) (by omega) (by omega) c15
    refine J_iload_n C rfl dX6_due_18 ?_
    refine J_goto C 32 (by decide) dX6_due_19 ?_
    refine J_iadd C dX6_due_32 ?_
    refine J_i (nI_add 26 j : (26 + (nI j) : Int32) = (nI (26 + j))) ?_
    refine J_iald C 1 rfl (26 + j) rfl (by omega) (Nat.le_of_ble_eq_true rfl) dX6_due_33 ?_
    refine J_i (congrArg nI (rowM_1 σ (by omega)) : (nI ((rowM σ) (26 + j)) : Int32) = (nI (σ 1 j))) ?_
    exact J_zret C hr rfl dX6_due_34 () (by rw [show dueAt σ j = σ 1 j from by unfold dueAt; rw [if_pos (by omega)]]) trivial rfl

set_option maxHeartbeats 4000000 in
set_option maxRecDepth 100000 in
theorem ct_letAt (l : Launch) (G : GT) (mo : Nat → Nat) (σ : AS) (kf tf H sf df xf : Nat → Nat) (hn ik tl sp rd : Nat) (gr : Int32) (j : Nat) (hn4 : σ 0 4 ≤ 40) (hj : j < σ 0 4) (hb2 : σ 2 j ≤ 26) : Ct (S := Unit) l G NoX yX6_letterAt (Wy yX6_letterAt cX6_letterAt 2 ((Option.some Jvm.ClassFile.FieldType.int))) { frames := 1, cells := 0, slots := 0, locals := 21 } [.ref (mo 0), .int (nI j)] (mdW G mo σ kf tf H sf df xf hn ik tl sp rd gr) (fun u => True) (fun u => some (.int (nI (letAt σ j)))) (fun u => mdW G mo σ kf tf H sf df xf hn ik tl sp rd gr) := by
  refine Ct.of (by decide) (Nat.le_of_ble_eq_true rfl) (fun p e s m args below meth c C hr hnm hX => ?_)
  refine J_aload_n C rfl dX6_letterAt_0 ?_
  refine J_get C 0 0 in6 rfl rfl (by decide) k575 rfl dX6_letterAt_1 ?_
  refine J_bipush C 46 (by decide) dX6_letterAt_4 ?_
  refine J_iload_n C rfl dX6_letterAt_6 ?_
  refine J_iadd C dX6_letterAt_7 ?_
  refine J_i (nI_add 46 j : (46 + (nI j) : Int32) = (nI (46 + j))) ?_
  refine J_iald C 1 rfl (46 + j) rfl (by omega) (Nat.le_of_ble_eq_true rfl) dX6_letterAt_8 ?_
  refine J_i (congrArg nI (rowM_2 σ (by omega)) : (nI ((rowM σ) (46 + j)) : Int32) = (nI (σ 2 j))) ?_
  refine J_if_le C 24 (by decide) dX6_letterAt_9 (fun c9 => ?_) (fun c9 => ?_)
  · skip
    have c9 := cv_le_t (a := (σ 2 j)) (b := 0) (by omega) (by omega) c9
    refine J_aload_n C rfl dX6_letterAt_24 ?_
    refine J_iload_n C rfl dX6_letterAt_25 ?_
    refine J_callV (as := [.int (nI j)]) (rest := []) C (ct_due l G mo σ kf tf H sf df xf hn ik tl sp rd gr j hn4 hj) (fun u => mdW G mo σ kf tf H sf df xf hn ik tl sp rd gr) [0, 1, 2, 3, 4, 5, 6, 7] [] 1 k667 k669 k19 k38 k670 rfl (by decide +kernel) ⟨Nat.le_of_ble_eq_true rfl, Nat.le_of_ble_eq_true rfl⟩ ⟨Nat.le_of_ble_eq_true rfl, Nat.le_of_ble_eq_true rfl⟩ dX6_letterAt_26 (Nat.le_of_ble_eq_true rfl) 0 rfl rfl rfl (by decide +kernel) (fun _ => rfl) ([]) rfl (fun _ => rfl) 8 (fun _ => rfl) (by decide +kernel) (by decide +kernel) (fun _ _ => ?_)
    refine J_st (st' := [.int (nI (dueAt σ j))]) rfl ?_
    exact J_zret C hr rfl dX6_letterAt_29 () (by rw [show letAt σ j = dueAt σ j from by unfold letAt; rw [if_neg (by omega)]]) trivial rfl
  · skip
    have c9 := cv_le_f (a := (σ 2 j)) (b := 0) (by omega) (by omega) c9
    refine J_aload_n C rfl dX6_letterAt_12 ?_
    refine J_get C 0 0 in6 rfl rfl (by decide) k575 rfl dX6_letterAt_13 ?_
    refine J_bipush C 46 (by decide) dX6_letterAt_16 ?_
    refine J_iload_n C rfl dX6_letterAt_18 ?_
    refine J_iadd C dX6_letterAt_19 ?_
    refine J_i (nI_add 46 j : (46 + (nI j) : Int32) = (nI (46 + j))) ?_
    refine J_iald C 1 rfl (46 + j) rfl (by omega) (Nat.le_of_ble_eq_true rfl) dX6_letterAt_20 ?_
    refine J_i (congrArg nI (rowM_2 σ (by omega)) : (nI ((rowM σ) (46 + j)) : Int32) = (nI (σ 2 j))) ?_
    refine J_goto C 29 (by decide) dX6_letterAt_21 ?_
    exact J_zret C hr rfl dX6_letterAt_29 () (by rw [show letAt σ j = σ 2 j from by unfold letAt; rw [if_pos (by omega)]]) trivial rfl

set_option maxHeartbeats 4000000 in
set_option maxRecDepth 100000 in
theorem ct_mNext0N (l : Launch) (G : GT) (mo : Nat → Nat) (σ : AS) (kf tf H sf df xf : Nat → Nat) (hn ik tl sp rd : Nat) (gr : Int32) (hn4 : σ 0 4 ≤ 40) (he : σ 0 4 % 2 = 0) (hf : σ 0 4 ≤ 2 * σ 0 14) (hb : 2 * σ 0 14 ≤ σ 0 4) : Ct (S := Unit) l G NoX yX6_nextPlace (Wy yX6_nextPlace cX6_nextPlace 3 ((Option.some Jvm.ClassFile.FieldType.int))) { frames := 0, cells := 0, slots := 0, locals := 0 } [.ref (mo 0), .int 0] (mdW G mo σ kf tf H sf df xf hn ik tl sp rd gr) (fun u => True) (fun u => some (.int (-5))) (fun u => mdW G mo σ kf tf H sf df xf hn ik tl sp rd gr) := by
  refine Ct.of (by decide) (Nat.le_of_ble_eq_true rfl) (fun p e s m args below meth c C hr hnm hX => ?_)
  refine J_aload_n C rfl dX6_nextPlace_0 ?_
  refine J_get C 0 0 in6 rfl rfl (by decide) k575 rfl dX6_nextPlace_1 ?_
  refine J_bipush C 14 (by decide) dX6_nextPlace_4 ?_
  refine J_iload_n C rfl dX6_nextPlace_6 ?_
  refine J_iadd C dX6_nextPlace_7 ?_
  refine J_i ((by decide) : (14 + 0 : Int32) = 14) ?_
  refine J_iald C 1 rfl 14 rfl (by decide) (Nat.le_of_ble_eq_true rfl) dX6_nextPlace_8 ?_
  refine J_i (rfl : (nI ((rowM σ) 14) : Int32) = (nI (σ 0 14))) ?_
  refine J_istore_n C [(2, .int (nI (σ 0 14))), (0, .ref (mo 0)), (1, .int 0)] (by decide) rfl dX6_nextPlace_9 ?_
  refine J_iload_n C rfl dX6_nextPlace_10 ?_
  refine J_aload_n C rfl dX6_nextPlace_11 ?_
  refine J_get C 0 0 in6 rfl rfl (by decide) k575 rfl dX6_nextPlace_12 ?_
  refine J_iconst C 4 (by decide) dX6_nextPlace_15 ?_
  refine J_iald C 1 rfl 4 rfl (by decide) (Nat.le_of_ble_eq_true rfl) dX6_nextPlace_16 ?_
  refine J_i (rfl : (nI ((rowM σ) 4) : Int32) = (nI (σ 0 4))) ?_
  refine J_iconst C 2 (by decide) dX6_nextPlace_17 ?_
  refine J_idiv C (by decide) dX6_nextPlace_18 ?_
  refine J_i (pk_div (a := σ 0 4) (d := 2) (by omega) (by omega) (by omega) : ((nI (σ 0 4)) / 2 : Int32) = (nI ((σ 0 4) / 2))) ?_
  refine J_icmp_ne C 27 (by decide) dX6_nextPlace_19 (fun h => absurd (cv_ne_t (a := (σ 0 14)) (b := ((σ 0 4) / 2)) (by omega) (by omega) h) (by omega)) (fun c19 => ?_)
  refine J_bipush C (-5) (by decide) dX6_nextPlace_22 ?_
  refine J_goto C 45 (by decide) dX6_nextPlace_24 ?_
  exact J_zret C hr rfl dX6_nextPlace_45 () rfl trivial rfl

set_option maxHeartbeats 4000000 in
set_option maxRecDepth 100000 in
theorem ct_mNext0P (l : Launch) (G : GT) (mo : Nat → Nat) (σ : AS) (kf tf H sf df xf : Nat → Nat) (hn ik tl sp rd : Nat) (gr : Int32) (hn4 : σ 0 4 ≤ 40) (he : σ 0 4 % 2 = 0) (hf : 2 * σ 0 14 < σ 0 4) : Ct (S := Unit) l G NoX yX6_nextPlace (Wy yX6_nextPlace cX6_nextPlace 3 ((Option.some Jvm.ClassFile.FieldType.int))) { frames := 0, cells := 0, slots := 0, locals := 0 } [.ref (mo 0), .int 0] (mdW G mo σ kf tf H sf df xf hn ik tl sp rd gr) (fun u => True) (fun u => some (.int (nI (σ 0 14)))) (fun u => mdW G mo σ kf tf H sf df xf hn ik tl sp rd gr) := by
  refine Ct.of (by decide) (Nat.le_of_ble_eq_true rfl) (fun p e s m args below meth c C hr hnm hX => ?_)
  refine J_aload_n C rfl dX6_nextPlace_0 ?_
  refine J_get C 0 0 in6 rfl rfl (by decide) k575 rfl dX6_nextPlace_1 ?_
  refine J_bipush C 14 (by decide) dX6_nextPlace_4 ?_
  refine J_iload_n C rfl dX6_nextPlace_6 ?_
  refine J_iadd C dX6_nextPlace_7 ?_
  refine J_i ((by decide) : (14 + 0 : Int32) = 14) ?_
  refine J_iald C 1 rfl 14 rfl (by decide) (Nat.le_of_ble_eq_true rfl) dX6_nextPlace_8 ?_
  refine J_i (rfl : (nI ((rowM σ) 14) : Int32) = (nI (σ 0 14))) ?_
  refine J_istore_n C [(2, .int (nI (σ 0 14))), (0, .ref (mo 0)), (1, .int 0)] (by decide) rfl dX6_nextPlace_9 ?_
  refine J_iload_n C rfl dX6_nextPlace_10 ?_
  refine J_aload_n C rfl dX6_nextPlace_11 ?_
  refine J_get C 0 0 in6 rfl rfl (by decide) k575 rfl dX6_nextPlace_12 ?_
  refine J_iconst C 4 (by decide) dX6_nextPlace_15 ?_
  refine J_iald C 1 rfl 4 rfl (by decide) (Nat.le_of_ble_eq_true rfl) dX6_nextPlace_16 ?_
  refine J_i (rfl : (nI ((rowM σ) 4) : Int32) = (nI (σ 0 4))) ?_
  refine J_iconst C 2 (by decide) dX6_nextPlace_17 ?_
  refine J_idiv C (by decide) dX6_nextPlace_18 ?_
  refine J_i (pk_div (a := σ 0 4) (d := 2) (by omega) (by omega) (by omega) : ((nI (σ 0 4)) / 2 : Int32) = (nI ((σ 0 4) / 2))) ?_
  refine J_icmp_ne C 27 (by decide) dX6_nextPlace_19 (fun c19 => ?_) (fun h => absurd (cv_ne_f (a := (σ 0 14)) (b := ((σ 0 4) / 2)) (by omega) (by omega) h) (by omega))
  refine J_iload_n C rfl dX6_nextPlace_27 ?_
  refine J_if_ne C 35 (by decide) dX6_nextPlace_28 (fun h => absurd h (by decide)) (fun _ => ?_)
  refine J_iload_n C rfl dX6_nextPlace_31 ?_
  refine J_goto C 45 (by decide) dX6_nextPlace_32 ?_
  exact J_zret C hr rfl dX6_nextPlace_45 () rfl trivial rfl

set_option maxHeartbeats 4000000 in
set_option maxRecDepth 100000 in
theorem ct_mNext1N (l : Launch) (G : GT) (mo : Nat → Nat) (σ : AS) (kf tf H sf df xf : Nat → Nat) (hn ik tl sp rd : Nat) (gr : Int32) (hn4 : σ 0 4 ≤ 40) (he : σ 0 4 % 2 = 0) (hf : σ 0 4 ≤ 2 * σ 0 15) (hb : 2 * σ 0 15 ≤ σ 0 4) : Ct (S := Unit) l G NoX yX6_nextPlace (Wy yX6_nextPlace cX6_nextPlace 3 ((Option.some Jvm.ClassFile.FieldType.int))) { frames := 0, cells := 0, slots := 0, locals := 0 } [.ref (mo 0), .int 1] (mdW G mo σ kf tf H sf df xf hn ik tl sp rd gr) (fun u => True) (fun u => some (.int (-5))) (fun u => mdW G mo σ kf tf H sf df xf hn ik tl sp rd gr) := by
  refine Ct.of (by decide) (Nat.le_of_ble_eq_true rfl) (fun p e s m args below meth c C hr hnm hX => ?_)
  refine J_aload_n C rfl dX6_nextPlace_0 ?_
  refine J_get C 0 0 in6 rfl rfl (by decide) k575 rfl dX6_nextPlace_1 ?_
  refine J_bipush C 14 (by decide) dX6_nextPlace_4 ?_
  refine J_iload_n C rfl dX6_nextPlace_6 ?_
  refine J_iadd C dX6_nextPlace_7 ?_
  refine J_i ((by decide) : (14 + 1 : Int32) = 15) ?_
  refine J_iald C 1 rfl 15 rfl (by decide) (Nat.le_of_ble_eq_true rfl) dX6_nextPlace_8 ?_
  refine J_i (rfl : (nI ((rowM σ) 15) : Int32) = (nI (σ 0 15))) ?_
  refine J_istore_n C [(2, .int (nI (σ 0 15))), (0, .ref (mo 0)), (1, .int 1)] (by decide) rfl dX6_nextPlace_9 ?_
  refine J_iload_n C rfl dX6_nextPlace_10 ?_
  refine J_aload_n C rfl dX6_nextPlace_11 ?_
  refine J_get C 0 0 in6 rfl rfl (by decide) k575 rfl dX6_nextPlace_12 ?_
  refine J_iconst C 4 (by decide) dX6_nextPlace_15 ?_
  refine J_iald C 1 rfl 4 rfl (by decide) (Nat.le_of_ble_eq_true rfl) dX6_nextPlace_16 ?_
  refine J_i (rfl : (nI ((rowM σ) 4) : Int32) = (nI (σ 0 4))) ?_
  refine J_iconst C 2 (by decide) dX6_nextPlace_17 ?_
  refine J_idiv C (by decide) dX6_nextPlace_18 ?_
  refine J_i (pk_div (a := σ 0 4) (d := 2) (by omega) (by omega) (by omega) : ((nI (σ 0 4)) / 2 : Int32) = (nI ((σ 0 4) / 2))) ?_
  refine J_icmp_ne C 27 (by decide) dX6_nextPlace_19 (fun h => absurd (cv_ne_t (a := (σ 0 15)) (b := ((σ 0 4) / 2)) (by omega) (by omega) h) (by omega)) (fun c19 => ?_)
  refine J_bipush C (-5) (by decide) dX6_nextPlace_22 ?_
  refine J_goto C 45 (by decide) dX6_nextPlace_24 ?_
  exact J_zret C hr rfl dX6_nextPlace_45 () rfl trivial rfl

set_option maxHeartbeats 4000000 in
set_option maxRecDepth 100000 in
theorem ct_mNext1P (l : Launch) (G : GT) (mo : Nat → Nat) (σ : AS) (kf tf H sf df xf : Nat → Nat) (hn ik tl sp rd : Nat) (gr : Int32) (hn4 : σ 0 4 ≤ 40) (he : σ 0 4 % 2 = 0) (hf : 2 * σ 0 15 < σ 0 4) : Ct (S := Unit) l G NoX yX6_nextPlace (Wy yX6_nextPlace cX6_nextPlace 3 ((Option.some Jvm.ClassFile.FieldType.int))) { frames := 0, cells := 0, slots := 0, locals := 0 } [.ref (mo 0), .int 1] (mdW G mo σ kf tf H sf df xf hn ik tl sp rd gr) (fun u => True) (fun u => some (.int (nI (σ 0 4 - 1 - σ 0 15)))) (fun u => mdW G mo σ kf tf H sf df xf hn ik tl sp rd gr) := by
  refine Ct.of (by decide) (Nat.le_of_ble_eq_true rfl) (fun p e s m args below meth c C hr hnm hX => ?_)
  refine J_aload_n C rfl dX6_nextPlace_0 ?_
  refine J_get C 0 0 in6 rfl rfl (by decide) k575 rfl dX6_nextPlace_1 ?_
  refine J_bipush C 14 (by decide) dX6_nextPlace_4 ?_
  refine J_iload_n C rfl dX6_nextPlace_6 ?_
  refine J_iadd C dX6_nextPlace_7 ?_
  refine J_i ((by decide) : (14 + 1 : Int32) = 15) ?_
  refine J_iald C 1 rfl 15 rfl (by decide) (Nat.le_of_ble_eq_true rfl) dX6_nextPlace_8 ?_
  refine J_i (rfl : (nI ((rowM σ) 15) : Int32) = (nI (σ 0 15))) ?_
  refine J_istore_n C [(2, .int (nI (σ 0 15))), (0, .ref (mo 0)), (1, .int 1)] (by decide) rfl dX6_nextPlace_9 ?_
  refine J_iload_n C rfl dX6_nextPlace_10 ?_
  refine J_aload_n C rfl dX6_nextPlace_11 ?_
  refine J_get C 0 0 in6 rfl rfl (by decide) k575 rfl dX6_nextPlace_12 ?_
  refine J_iconst C 4 (by decide) dX6_nextPlace_15 ?_
  refine J_iald C 1 rfl 4 rfl (by decide) (Nat.le_of_ble_eq_true rfl) dX6_nextPlace_16 ?_
  refine J_i (rfl : (nI ((rowM σ) 4) : Int32) = (nI (σ 0 4))) ?_
  refine J_iconst C 2 (by decide) dX6_nextPlace_17 ?_
  refine J_idiv C (by decide) dX6_nextPlace_18 ?_
  refine J_i (pk_div (a := σ 0 4) (d := 2) (by omega) (by omega) (by omega) : ((nI (σ 0 4)) / 2 : Int32) = (nI ((σ 0 4) / 2))) ?_
  refine J_icmp_ne C 27 (by decide) dX6_nextPlace_19 (fun c19 => ?_) (fun h => absurd (cv_ne_f (a := (σ 0 15)) (b := ((σ 0 4) / 2)) (by omega) (by omega) h) (by omega))
  refine J_iload_n C rfl dX6_nextPlace_27 ?_
  refine J_if_ne C 35 (by decide) dX6_nextPlace_28 (fun _ => ?_) (fun h => absurd h (by decide))
  refine J_aload_n C rfl dX6_nextPlace_35 ?_
  refine J_get C 0 0 in6 rfl rfl (by decide) k575 rfl dX6_nextPlace_36 ?_
  refine J_iconst C 4 (by decide) dX6_nextPlace_39 ?_
  refine J_iald C 1 rfl 4 rfl (by decide) (Nat.le_of_ble_eq_true rfl) dX6_nextPlace_40 ?_
  refine J_i (rfl : (nI ((rowM σ) 4) : Int32) = (nI (σ 0 4))) ?_
  refine J_iconst C 1 (by decide) dX6_nextPlace_41 ?_
  refine J_isub C dX6_nextPlace_42 ?_
  refine J_i (pk_sub (a := σ 0 4) (b := 1) (by omega) : ((nI (σ 0 4)) - 1 : Int32) = (nI (σ 0 4 - 1))) ?_
  refine J_iload_n C rfl dX6_nextPlace_43 ?_
  refine J_isub C dX6_nextPlace_44 ?_
  refine J_i (pk_sub (a := σ 0 4 - 1) (b := σ 0 15) (by omega) : ((nI (σ 0 4 - 1)) - (nI (σ 0 15)) : Int32) = (nI ((σ 0 4 - 1) - (σ 0 15)))) ?_
  exact J_zret C hr rfl dX6_nextPlace_45 () rfl trivial rfl

set_option maxHeartbeats 4000000 in
set_option maxRecDepth 100000 in
theorem ct_mDone (l : Launch) (G : GT) (mo : Nat → Nat) (σ : AS) (kf tf H sf df xf : Nat → Nat) (hn ik tl sp rd : Nat) (gr : Int32) (hI : Inv σ) : Ct (S := Unit) l G NoX yX6_isDone (Wy yX6_isDone cX6_isDone 1 ((Option.some Jvm.ClassFile.FieldType.boolean))) { frames := 0, cells := 0, slots := 0, locals := 0 } [.ref (mo 0)] (mdW G mo σ kf tf H sf df xf hn ik tl sp rd gr) (fun u => True) (fun u => some (.int (if σ 0 4 ≤ σ 0 14 + σ 0 15 then 1 else 0))) (fun u => mdW G mo σ kf tf H sf df xf hn ik tl sp rd gr) := by
  refine Ct.of (by decide) (Nat.le_of_ble_eq_true rfl) (fun p e s m args below meth c C hr hnm hX => ?_)
  have h40 := hI.a
  have hc := hI.c
  refine J_aload_n C rfl dX6_isDone_0 ?_
  refine J_get C 0 0 in6 rfl rfl (by decide) k575 rfl dX6_isDone_1 ?_
  refine J_bipush C 14 (by decide) dX6_isDone_4 ?_
  refine J_iald C 1 rfl 14 rfl (by decide) (Nat.le_of_ble_eq_true rfl) dX6_isDone_6 ?_
  refine J_i (rfl : (nI ((rowM σ) 14) : Int32) = (nI (σ 0 14))) ?_
  refine J_aload_n C rfl dX6_isDone_7 ?_
  refine J_get C 0 0 in6 rfl rfl (by decide) k575 rfl dX6_isDone_8 ?_
  refine J_bipush C 15 (by decide) dX6_isDone_11 ?_
  refine J_iald C 1 rfl 15 rfl (by decide) (Nat.le_of_ble_eq_true rfl) dX6_isDone_13 ?_
  refine J_i (rfl : (nI ((rowM σ) 15) : Int32) = (nI (σ 0 15))) ?_
  refine J_iadd C dX6_isDone_14 ?_
  refine J_i (nI_add (σ 0 14) (σ 0 15) : ((nI (σ 0 14)) + (nI (σ 0 15)) : Int32) = (nI (σ 0 14 + σ 0 15))) ?_
  refine J_aload_n C rfl dX6_isDone_15 ?_
  refine J_get C 0 0 in6 rfl rfl (by decide) k575 rfl dX6_isDone_16 ?_
  refine J_iconst C 4 (by decide) dX6_isDone_19 ?_
  refine J_iald C 1 rfl 4 rfl (by decide) (Nat.le_of_ble_eq_true rfl) dX6_isDone_20 ?_
  refine J_i (rfl : (nI ((rowM σ) 4) : Int32) = (nI (σ 0 4))) ?_
  refine J_icmp_ne C 28 (by decide) dX6_isDone_21 (fun c21 => ?_) (fun c21 => ?_)
  · skip
    have c21 := cv_ne_t (a := (σ 0 14 + σ 0 15)) (b := (σ 0 4)) (by omega) (by omega) c21
    refine J_iconst C 0 (by decide) dX6_isDone_28 ?_
    exact J_zret C hr rfl dX6_isDone_29 () (by rw [if_neg (by omega)]) trivial rfl
  · skip
    have c21 := cv_ne_f (a := (σ 0 14 + σ 0 15)) (b := (σ 0 4)) (by omega) (by omega) c21
    refine J_iconst C 1 (by decide) dX6_isDone_24 ?_
    refine J_goto C 29 (by decide) dX6_isDone_25 ?_
    exact J_zret C hr rfl dX6_isDone_29 () (by rw [if_pos (by omega)]) trivial rfl

set_option maxHeartbeats 4000000 in
set_option maxRecDepth 100000 in
theorem ct_margin (l : Launch) (G : GT) (mo : Nat → Nat) (σ : AS) (kf tf H sf df xf : Nat → Nat) (hn ik tl sp rd : Nat) (gr : Int32) (hI : Inv σ) : Ct (S := Unit) l G NoX yX6_marginLeft (Wy yX6_marginLeft cX6_marginLeft 1 ((Option.some Jvm.ClassFile.FieldType.int))) { frames := 0, cells := 0, slots := 0, locals := 0 } [.ref (mo 0)] (mdW G mo σ kf tf H sf df xf hn ik tl sp rd gr) (fun u => True) (fun u => some (.int (nI (σ 7 2 - σ 0 5)))) (fun u => mdW G mo σ kf tf H sf df xf hn ik tl sp rd gr) := by
  refine Ct.of (by decide) (Nat.le_of_ble_eq_true rfl) (fun p e s m args below meth c C hr hnm hX => ?_)
  have h40 := hI.a
  have hs := hI.s
  refine J_aload_n C rfl dX6_marginLeft_0 ?_
  refine J_get C 0 0 in6 rfl rfl (by decide) k575 rfl dX6_marginLeft_1 ?_
  refine J_iconst C 5 (by decide) dX6_marginLeft_4 ?_
  refine J_iald C 1 rfl 5 rfl (by decide) (Nat.le_of_ble_eq_true rfl) dX6_marginLeft_5 ?_
  refine J_i (rfl : (nI ((rowM σ) 5) : Int32) = (nI (σ 0 5))) ?_
  refine J_aload_n C rfl dX6_marginLeft_6 ?_
  refine J_get C 0 0 in6 rfl rfl (by decide) k575 rfl dX6_marginLeft_7 ?_
  refine J_iconst C 2 (by decide) dX6_marginLeft_10 ?_
  refine J_iald C 1 rfl 2 rfl (by decide) (Nat.le_of_ble_eq_true rfl) dX6_marginLeft_11 ?_
  refine J_i (rfl : (nI ((rowM σ) 2) : Int32) = (nI (σ 7 2))) ?_
  refine J_icmp_le C 19 (by decide) dX6_marginLeft_12 (fun c12 => ?_) (fun c12 => ?_)
  · skip
    have c12 := cv_le_t (a := (σ 0 5)) (b := (σ 7 2)) (by omega) (by omega) c12
    refine J_aload_n C rfl dX6_marginLeft_19 ?_
    refine J_get C 0 0 in6 rfl rfl (by decide) k575 rfl dX6_marginLeft_20 ?_
    refine J_iconst C 2 (by decide) dX6_marginLeft_23 ?_
    refine J_iald C 1 rfl 2 rfl (by decide) (Nat.le_of_ble_eq_true rfl) dX6_marginLeft_24 ?_
    refine J_i (rfl : (nI ((rowM σ) 2) : Int32) = (nI (σ 7 2))) ?_
    refine J_aload_n C rfl dX6_marginLeft_25 ?_
    refine J_get C 0 0 in6 rfl rfl (by decide) k575 rfl dX6_marginLeft_26 ?_
    refine J_iconst C 5 (by decide) dX6_marginLeft_29 ?_
    refine J_iald C 1 rfl 5 rfl (by decide) (Nat.le_of_ble_eq_true rfl) dX6_marginLeft_30 ?_
    refine J_i (rfl : (nI ((rowM σ) 5) : Int32) = (nI (σ 0 5))) ?_
    refine J_isub C dX6_marginLeft_31 ?_
    refine J_i (pk_sub (a := σ 7 2) (b := σ 0 5) (by omega) : ((nI (σ 7 2)) - (nI (σ 0 5)) : Int32) = (nI (σ 7 2 - (σ 0 5)))) ?_
    exact J_zret C hr rfl dX6_marginLeft_32 () rfl trivial rfl
  · skip
    have c12 := cv_le_f (a := (σ 0 5)) (b := (σ 7 2)) (by omega) (by omega) c12
    refine J_iconst C 0 (by decide) dX6_marginLeft_15 ?_
    refine J_goto C 32 (by decide) dX6_marginLeft_16 ?_
    exact J_zret C hr rfl dX6_marginLeft_32 () (by rw [show σ 7 2 - σ 0 5 = 0 from by omega] <;> rfl) trivial rfl

set_option maxHeartbeats 4000000 in
set_option maxRecDepth 100000 in
theorem ct_does0 (l : Launch) (G : GT) (mo : Nat → Nat) (σ : AS) (kf tf H sf df xf : Nat → Nat) (hn ik tl sp rd : Nat) (gr : Int32) (hI : Inv σ) : Ct (S := Unit) l G NoX yX6_does (Wy yX6_does cX6_does 3 ((Option.some Jvm.ClassFile.FieldType.int))) { frames := 2, cells := 0, slots := 0, locals := 42 } [.ref (mo 0), .int 0] (mdW G mo σ kf tf H sf df xf hn ik tl sp rd gr) (fun u => True) (fun u => some (.int (nI (doesN σ 0)))) (fun u => mdW G mo σ kf tf H sf df xf hn ik tl sp rd gr) := by
  refine Ct.of (by decide) (Nat.le_of_ble_eq_true rfl) (fun p e s m args below meth c C hr hnm hX => ?_)
  have h40 := hI.a
  have hc := hI.c
  have hi := hI.i
  have hl := hI.l
  have hr2 := hI.r
  have hs := hI.s
  refine J_aload_n C rfl dX6_does_0 ?_
  refine J_get C 0 0 in6 rfl rfl (by decide) k575 rfl dX6_does_1 ?_
  refine J_bipush C 18 (by decide) dX6_does_4 ?_
  refine J_iload_n C rfl dX6_does_6 ?_
  refine J_iadd C dX6_does_7 ?_
  refine J_i ((by decide) : (18 + 0 : Int32) = 18) ?_
  refine J_iald C 1 rfl 18 rfl (by decide) (Nat.le_of_ble_eq_true rfl) dX6_does_8 ?_
  refine J_i (rfl : (nI ((rowM σ) 18) : Int32) = (nI (σ 0 18))) ?_
  refine J_if_le C 14 (by decide) dX6_does_9 (fun c9 => ?_) (fun c9 => ?_)
  · skip
    have c9 := cv_le_t (a := (σ 0 18)) (b := 0) (by omega) (by omega) c9
    refine J_aload_n C rfl dX6_does_14 ?_
    refine J_iload_n C rfl dX6_does_15 ?_
    rcases Nat.lt_or_ge (2 * σ 0 14) (σ 0 4) with hf | hf
    · skip
      have hlt := hI.let (p := σ 0 14) (by omega)
      have hq := hI.q (q := σ 0 14) (by omega)
      refine J_callV (as := [.int 0]) (rest := []) C (ct_mNext0P l G mo σ kf tf H sf df xf hn ik tl sp rd gr (by omega) h40.2.1 hf) (fun u => mdW G mo σ kf tf H sf df xf hn ik tl sp rd gr) [0, 1, 2, 3, 4, 5, 6, 7] [] 1 k659 k661 k17 k38 k662 rfl (by decide +kernel) ⟨Nat.le_of_ble_eq_true rfl, Nat.le_of_ble_eq_true rfl⟩ ⟨Nat.le_of_ble_eq_true rfl, Nat.le_of_ble_eq_true rfl⟩ dX6_does_16 (Nat.le_of_ble_eq_true rfl) 0 rfl rfl rfl (by decide +kernel) (fun _ => rfl) ([]) rfl (fun _ => rfl) 8 (fun _ => rfl) (by decide +kernel) (by decide +kernel) (fun _ _ => ?_)
      refine J_st (st' := [.int (nI (σ 0 14))]) rfl ?_
      refine J_istore_n C [(2, .int (nI (σ 0 14))), (0, .ref (mo 0)), (1, .int 0)] (by decide) rfl dX6_does_19 ?_
      refine J_iload_n C rfl dX6_does_20 ?_
      refine J_bipush C (-5) (by decide) dX6_does_21 ?_
      refine J_icmp_ne C 28 (by decide) dX6_does_23 (fun _ => ?_) (fun h => absurd h (nI_ne5 (by omega)))
      refine J_aload_n C rfl dX6_does_28 ?_
      refine J_get C 0 0 in6 rfl rfl (by decide) k575 rfl dX6_does_29 ?_
      refine J_bipush C 24 (by decide) dX6_does_32 ?_
      refine J_iload_n C rfl dX6_does_34 ?_
      refine J_iadd C dX6_does_35 ?_
      refine J_i ((by decide) : (24 + 0 : Int32) = 24) ?_
      refine J_iald C 1 rfl 24 rfl (by decide) (Nat.le_of_ble_eq_true rfl) dX6_does_36 ?_
      refine J_i (rfl : (nI ((rowM σ) 24) : Int32) = (nI (σ 0 24))) ?_
      refine J_aload_n C rfl dX6_does_37 ?_
      refine J_iload_n C rfl dX6_does_38 ?_
      refine J_callV (as := [.int (nI (σ 0 14))]) (rest := [.int (nI (σ 0 24))]) C (ct_letAt l G mo σ kf tf H sf df xf hn ik tl sp rd gr (σ 0 14) (by omega) (by omega) hq.1) (fun u => mdW G mo σ kf tf H sf df xf hn ik tl sp rd gr) [0, 1, 2, 3, 4, 5, 6, 7] [] 1 k663 k665 k18 k38 k666 rfl (by decide +kernel) ⟨Nat.le_of_ble_eq_true rfl, Nat.le_of_ble_eq_true rfl⟩ ⟨Nat.le_of_ble_eq_true rfl, Nat.le_of_ble_eq_true rfl⟩ dX6_does_39 (Nat.le_of_ble_eq_true rfl) 0 rfl rfl rfl (by decide +kernel) (fun _ => rfl) ([]) rfl (fun _ => rfl) 8 (fun _ => rfl) (by decide +kernel) (by decide +kernel) (fun _ _ => ?_)
      refine J_st (st' := [.int (nI (letAt σ (σ 0 14))), .int (nI (σ 0 24))]) rfl ?_
      refine J_icmp_ge C 57 (by decide) dX6_does_42 (fun c42 => ?_) (fun c42 => ?_)
      · skip
        have c42 := cv_ge_t (a := (σ 0 24)) (b := (letAt σ (σ 0 14))) (by omega) (by omega) c42
        refine J_iconst C 0 (by decide) dX6_does_57 ?_
        exact J_zret C hr rfl dX6_does_58 () (by rw [show doesN σ 0 = 0 from by rw [doesN_0]; (repeat' split) <;> first | rfl | omega] <;> rfl) trivial rfl
      · skip
        have c42 := cv_ge_f (a := (σ 0 24)) (b := (letAt σ (σ 0 14))) (by omega) (by omega) c42
        refine J_aload_n C rfl dX6_does_45 ?_
        refine J_get C 0 0 in6 rfl rfl (by decide) k575 rfl dX6_does_46 ?_
        refine J_bipush C 16 (by decide) dX6_does_49 ?_
        refine J_iload_n C rfl dX6_does_51 ?_
        refine J_iadd C dX6_does_52 ?_
        refine J_i ((by decide) : (16 + 0 : Int32) = 16) ?_
        refine J_iald C 1 rfl 16 rfl (by decide) (Nat.le_of_ble_eq_true rfl) dX6_does_53 ?_
        refine J_i (rfl : (nI ((rowM σ) 16) : Int32) = (nI (σ 0 16))) ?_
        refine J_if_le C 59 (by decide) dX6_does_54 (fun c54 => ?_) (fun c54 => ?_)
        · skip
          have c54 := cv_le_t (a := (σ 0 16)) (b := 0) (by omega) (by omega) c54
          refine J_aload_n C rfl dX6_does_59 ?_
          refine J_get C 0 0 in6 rfl rfl (by decide) k575 rfl dX6_does_60 ?_
          refine J_bipush C 19 (by decide) dX6_does_63 ?_
          refine J_iload_n C rfl dX6_does_65 ?_
          refine J_isub C dX6_does_66 ?_
          refine J_i ((by decide) : (19 - 0 : Int32) = 19) ?_
          refine J_iald C 1 rfl 19 rfl (by decide) (Nat.le_of_ble_eq_true rfl) dX6_does_67 ?_
          refine J_i (rfl : (nI ((rowM σ) 19) : Int32) = (nI (σ 0 19))) ?_
          refine J_if_le C 75 (by decide) dX6_does_68 (fun c68 => ?_) (fun c68 => ?_)
          · skip
            have c68 := cv_le_t (a := (σ 0 19)) (b := 0) (by omega) (by omega) c68
            refine J_aload_n C rfl dX6_does_75 ?_
            refine J_get C 0 0 in6 rfl rfl (by decide) k575 rfl dX6_does_76 ?_
            refine J_bipush C 6 (by decide) dX6_does_79 ?_
            refine J_iald C 1 rfl 6 rfl (by decide) (Nat.le_of_ble_eq_true rfl) dX6_does_81 ?_
            refine J_i (rfl : (nI ((rowM σ) 6) : Int32) = (nI (σ 0 6))) ?_
            refine J_if_ne C 89 (by decide) dX6_does_82 (fun c82 => ?_) (fun c82 => ?_)
            · skip
              have c82 := cv_ne_t (a := (σ 0 6)) (b := 0) (by omega) (by omega) c82
              refine J_iconst C 2 (by decide) dX6_does_89 ?_
              exact J_zret C hr rfl dX6_does_90 () (by rw [show doesN σ 0 = 2 from by rw [doesN_0]; (repeat' split) <;> first | rfl | omega] <;> rfl) trivial rfl
            · skip
              have c82 := cv_ne_f (a := (σ 0 6)) (b := 0) (by omega) (by omega) c82
              refine J_iconst C 4 (by decide) dX6_does_85 ?_
              refine J_goto C 90 (by decide) dX6_does_86 ?_
              exact J_zret C hr rfl dX6_does_90 () (by rw [show doesN σ 0 = 4 from by rw [doesN_0]; (repeat' split) <;> first | rfl | omega] <;> rfl) trivial rfl
          · skip
            have c68 := cv_le_f (a := (σ 0 19)) (b := 0) (by omega) (by omega) c68
            refine J_iconst C 3 (by decide) dX6_does_71 ?_
            refine J_goto C 90 (by decide) dX6_does_72 ?_
            exact J_zret C hr rfl dX6_does_90 () (by rw [show doesN σ 0 = 3 from by rw [doesN_0]; (repeat' split) <;> first | rfl | omega] <;> rfl) trivial rfl
        · skip
          have c54 := cv_le_f (a := (σ 0 16)) (b := 0) (by omega) (by omega) c54
          refine J_iconst C 0 (by decide) dX6_does_57 ?_
          exact J_zret C hr rfl dX6_does_58 () (by rw [show doesN σ 0 = 0 from by rw [doesN_0]; (repeat' split) <;> first | rfl | omega] <;> rfl) trivial rfl
    · skip
      refine J_callV (as := [.int 0]) (rest := []) C (ct_mNext0N l G mo σ kf tf H sf df xf hn ik tl sp rd gr (by omega) h40.2.1 hf (by omega)) (fun u => mdW G mo σ kf tf H sf df xf hn ik tl sp rd gr) [0, 1, 2, 3, 4, 5, 6, 7] [] 1 k659 k661 k17 k38 k662 rfl (by decide +kernel) ⟨Nat.le_of_ble_eq_true rfl, Nat.le_of_ble_eq_true rfl⟩ ⟨Nat.le_of_ble_eq_true rfl, Nat.le_of_ble_eq_true rfl⟩ dX6_does_16 (Nat.le_of_ble_eq_true rfl) 0 rfl rfl rfl (by decide +kernel) (fun _ => rfl) ([]) rfl (fun _ => rfl) 8 (fun _ => rfl) (by decide +kernel) (by decide +kernel) (fun _ _ => ?_)
      refine J_st (st' := [.int (-5)]) rfl ?_
      refine J_istore_n C [(2, .int (-5)), (0, .ref (mo 0)), (1, .int 0)] (by decide) rfl dX6_does_19 ?_
      refine J_iload_n C rfl dX6_does_20 ?_
      refine J_bipush C (-5) (by decide) dX6_does_21 ?_
      refine J_icmp_ne C 28 (by decide) dX6_does_23 (fun h => absurd h (by decide)) (fun _ => ?_)
      refine J_iconst C 5 (by decide) dX6_does_26 ?_
      exact J_zret C hr rfl dX6_does_27 () (by rw [show doesN σ 0 = 5 from by rw [doesN_0]; (repeat' split) <;> first | rfl | omega] <;> rfl) trivial rfl
  · skip
    have c9 := cv_le_f (a := (σ 0 18)) (b := 0) (by omega) (by omega) c9
    refine J_iconst C 1 (by decide) dX6_does_12 ?_
    exact J_zret C hr rfl dX6_does_13 () (by rw [show doesN σ 0 = 1 from by rw [doesN_0]; (repeat' split) <;> first | rfl | omega] <;> rfl) trivial rfl

set_option maxHeartbeats 4000000 in
set_option maxRecDepth 100000 in
theorem ct_dips0 (l : Launch) (G : GT) (mo : Nat → Nat) (σ : AS) (kf tf H sf df xf : Nat → Nat) (hn ik tl sp rd : Nat) (gr : Int32) (hI : Inv σ) (hp : 0 < σ 0 18) : Ct (S := Unit) l G NoX yX6_dips (Wy yX6_dips cX6_dips 4 ((Option.none : Option Jvm.ClassFile.FieldType))) { frames := 0, cells := 0, slots := 0, locals := 0 } [.ref (mo 0), .int 0] (mdW G mo σ kf tf H sf df xf hn ik tl sp rd gr) (fun u => True) (fun u => none) (fun u => mdW G mo (dipsF σ 0) kf tf H sf df xf hn ik tl sp rd gr) := by
  refine Ct.of (by decide) (Nat.le_of_ble_eq_true rfl) (fun p e s m args below meth c C hr hnm hX => ?_)
  have h40 := hI.a
  have hc := hI.c
  have hi := hI.i
  have hl := hI.l
  have hr2 := hI.r
  have hs := hI.s
  refine J_aload_n C rfl dX6_dips_0 ?_
  refine J_get C 0 0 in6 rfl rfl (by decide) k575 rfl dX6_dips_1 ?_
  refine J_bipush C 18 (by decide) dX6_dips_4 ?_
  refine J_iload_n C rfl dX6_dips_6 ?_
  refine J_iadd C dX6_dips_7 ?_
  refine J_i ((by decide) : (18 + 0 : Int32) = 18) ?_
  refine J_dup2 C rfl rfl dX6_dips_8 ?_
  refine J_iald C 1 rfl 18 rfl (by decide) (Nat.le_of_ble_eq_true rfl) dX6_dips_9 ?_
  refine J_i (rfl : (nI ((rowM σ) 18) : Int32) = (nI (σ 0 18))) ?_
  refine J_iconst C 1 (by decide) dX6_dips_10 ?_
  refine J_isub C dX6_dips_11 ?_
  refine J_i (pk_sub (a := σ 0 18) (b := 1) (by omega) : ((nI (σ 0 18)) - 1 : Int32) = (nI (σ 0 18 - 1))) ?_
  refine J_iast C 1 ([(mo 0, .inr (6, [.ref (mo 1), .ref (mo 2), .ref (mo 3), .ref (mo 4), .int (nI hn), .ref (mo 5), .int (nI ik), .ref (mo 6), .ref (mo 7), .int (nI tl), .int (nI sp), .int (nI rd), .int gr])), (mo 1, .inl (G.2.1, 246, .inl (upd (fun q => nI ((rowM σ) q)) 18 (nI (σ 0 18 - 1))))), (mo 2, .inl (G.2.1, 246, .inl (fun q => nI (kf q)))), (mo 3, .inl (G.2.1, 246, .inl (fun q => nI (tf q)))), (mo 4, .inl (G.2.1, 984, .inl (fun q => nI (H q)))), (mo 5, .inl (G.2.1, 246, .inl (fun q => nI (sf q)))), (mo 6, .inl (G.2.1, 40, .inl (fun q => nI (df q)))), (mo 7, .inl (G.2.1, 60, .inl (fun q => nI (xf q))))]) rfl 18 rfl (by decide) (Nat.le_of_ble_eq_true rfl) rfl dX6_dips_12 ?_
  refine J_arr 1 (fun q => nI (rowM (up2 σ 0 18 (σ 0 18 - 1)) q)) rfl (fun q _ => congrFun (rowM_u0 σ (σ 0 18 - 1) (by decide) (by decide)) q) ?_
  refine J_ws (ws' := mdW G mo (up2 σ 0 18 (σ 0 18 - 1)) kf tf H sf df xf hn ik tl sp rd gr) rfl ?_
  refine J_aload_n C rfl dX6_dips_13 ?_
  refine J_get C 0 0 in6 rfl rfl (by decide) k575 rfl dX6_dips_14 ?_
  refine J_bipush C 18 (by decide) dX6_dips_17 ?_
  refine J_iload_n C rfl dX6_dips_19 ?_
  refine J_iadd C dX6_dips_20 ?_
  refine J_i ((by decide) : (18 + 0 : Int32) = 18) ?_
  refine J_iald C 1 rfl 18 rfl (by decide) (Nat.le_of_ble_eq_true rfl) dX6_dips_21 ?_
  refine J_i (rfl : (nI ((rowM (up2 σ 0 18 (σ 0 18 - 1))) 18) : Int32) = (nI (σ 0 18 - 1))) ?_
  refine J_if_ne C 98 (by decide) dX6_dips_22 (fun c22 => ?_) (fun c22 => ?_)
  · skip
    have c22 := cv_ne_t (a := (σ 0 18 - 1)) (b := 0) (by omega) (by omega) c22
    exact J_vret C hr dX6_dips_98 () rfl trivial (by rw [dipsF_0, if_neg (by omega)] <;> rfl)
  · skip
    have c22 := cv_ne_f (a := (σ 0 18 - 1)) (b := 0) (by omega) (by omega) c22
    refine J_bipush C 64 (by decide) dX6_dips_25 ?_
    refine J_aload_n C rfl dX6_dips_27 ?_
    refine J_get C 0 0 in6 rfl rfl (by decide) k575 rfl dX6_dips_28 ?_
    refine J_bipush C 24 (by decide) dX6_dips_31 ?_
    refine J_iload_n C rfl dX6_dips_33 ?_
    refine J_iadd C dX6_dips_34 ?_
    refine J_i ((by decide) : (24 + 0 : Int32) = 24) ?_
    refine J_iald C 1 rfl 24 rfl (by decide) (Nat.le_of_ble_eq_true rfl) dX6_dips_35 ?_
    refine J_i (rfl : (nI ((rowM (up2 σ 0 18 (σ 0 18 - 1))) 24) : Int32) = (nI (σ 0 24))) ?_
    refine J_isub C dX6_dips_36 ?_
    refine J_i (pk_sub (a := 64) (b := σ 0 24) (by omega) : (64 - (nI (σ 0 24)) : Int32) = (nI (64 - (σ 0 24)))) ?_
    refine J_istore_n C [(2, .int (nI (64 - (σ 0 24)))), (0, .ref (mo 0)), (1, .int 0)] (by decide) rfl dX6_dips_37 ?_
    refine J_iload_n C rfl dX6_dips_38 ?_
    refine J_aload_n C rfl dX6_dips_39 ?_
    refine J_get C 0 0 in6 rfl rfl (by decide) k575 rfl dX6_dips_40 ?_
    refine J_bipush C 6 (by decide) dX6_dips_43 ?_
    refine J_iald C 1 rfl 6 rfl (by decide) (Nat.le_of_ble_eq_true rfl) dX6_dips_45 ?_
    refine J_i (rfl : (nI ((rowM (up2 σ 0 18 (σ 0 18 - 1))) 6) : Int32) = (nI (σ 0 6))) ?_
    refine J_icmp_ge C 53 (by decide) dX6_dips_46 (fun c46 => ?_) (fun c46 => ?_)
    · skip
      have c46 := cv_ge_t (a := (64 - (σ 0 24))) (b := (σ 0 6)) (by omega) (by omega) c46
      refine J_aload_n C rfl dX6_dips_53 ?_
      refine J_get C 0 0 in6 rfl rfl (by decide) k575 rfl dX6_dips_54 ?_
      refine J_bipush C 6 (by decide) dX6_dips_57 ?_
      refine J_iald C 1 rfl 6 rfl (by decide) (Nat.le_of_ble_eq_true rfl) dX6_dips_59 ?_
      refine J_i (rfl : (nI ((rowM (up2 σ 0 18 (σ 0 18 - 1))) 6) : Int32) = (nI (σ 0 6))) ?_
      refine J_istore_n C [(3, .int (nI (σ 0 6))), (2, .int (nI (64 - (σ 0 24)))), (0, .ref (mo 0)), (1, .int 0)] (by decide) rfl dX6_dips_60 ?_
      refine J_aload_n C rfl dX6_dips_61 ?_
      refine J_get C 0 0 in6 rfl rfl (by decide) k575 rfl dX6_dips_62 ?_
      refine J_bipush C 24 (by decide) dX6_dips_65 ?_
      refine J_iload_n C rfl dX6_dips_67 ?_
      refine J_iadd C dX6_dips_68 ?_
      refine J_i ((by decide) : (24 + 0 : Int32) = 24) ?_
      refine J_dup2 C rfl rfl dX6_dips_69 ?_
      refine J_iald C 1 rfl 24 rfl (by decide) (Nat.le_of_ble_eq_true rfl) dX6_dips_70 ?_
      refine J_i (rfl : (nI ((rowM (up2 σ 0 18 (σ 0 18 - 1))) 24) : Int32) = (nI (σ 0 24))) ?_
      refine J_iload_n C rfl dX6_dips_71 ?_
      refine J_iadd C dX6_dips_72 ?_
      refine J_i (nI_add (σ 0 24) (σ 0 6) : ((nI (σ 0 24)) + (nI (σ 0 6)) : Int32) = (nI (σ 0 24 + σ 0 6))) ?_
      refine J_iast C 1 ([(mo 0, .inr (6, [.ref (mo 1), .ref (mo 2), .ref (mo 3), .ref (mo 4), .int (nI hn), .ref (mo 5), .int (nI ik), .ref (mo 6), .ref (mo 7), .int (nI tl), .int (nI sp), .int (nI rd), .int gr])), (mo 1, .inl (G.2.1, 246, .inl (upd (fun q => nI ((rowM (up2 σ 0 18 (σ 0 18 - 1))) q)) 24 (nI (σ 0 24 + σ 0 6))))), (mo 2, .inl (G.2.1, 246, .inl (fun q => nI (kf q)))), (mo 3, .inl (G.2.1, 246, .inl (fun q => nI (tf q)))), (mo 4, .inl (G.2.1, 984, .inl (fun q => nI (H q)))), (mo 5, .inl (G.2.1, 246, .inl (fun q => nI (sf q)))), (mo 6, .inl (G.2.1, 40, .inl (fun q => nI (df q)))), (mo 7, .inl (G.2.1, 60, .inl (fun q => nI (xf q))))]) rfl 24 rfl (by decide) (Nat.le_of_ble_eq_true rfl) rfl dX6_dips_73 ?_
      refine J_arr 1 (fun q => nI (rowM (up2 (up2 σ 0 18 (σ 0 18 - 1)) 0 24 (σ 0 24 + σ 0 6)) q)) rfl (fun q _ => congrFun (rowM_u0 (up2 σ 0 18 (σ 0 18 - 1)) (σ 0 24 + σ 0 6) (by decide) (by decide)) q) ?_
      refine J_ws (ws' := mdW G mo (up2 (up2 σ 0 18 (σ 0 18 - 1)) 0 24 (σ 0 24 + σ 0 6)) kf tf H sf df xf hn ik tl sp rd gr) rfl ?_
      refine J_aload_n C rfl dX6_dips_74 ?_
      refine J_get C 0 0 in6 rfl rfl (by decide) k575 rfl dX6_dips_75 ?_
      refine J_bipush C 6 (by decide) dX6_dips_78 ?_
      refine J_dup2 C rfl rfl dX6_dips_80 ?_
      refine J_iald C 1 rfl 6 rfl (by decide) (Nat.le_of_ble_eq_true rfl) dX6_dips_81 ?_
      refine J_i (rfl : (nI ((rowM (up2 (up2 σ 0 18 (σ 0 18 - 1)) 0 24 (σ 0 24 + σ 0 6))) 6) : Int32) = (nI (σ 0 6))) ?_
      refine J_iload_n C rfl dX6_dips_82 ?_
      refine J_isub C dX6_dips_83 ?_
      refine J_i (pk_sub (a := σ 0 6) (b := σ 0 6) (by omega) : ((nI (σ 0 6)) - (nI (σ 0 6)) : Int32) = (nI (σ 0 6 - (σ 0 6)))) ?_
      refine J_iast C 1 ([(mo 0, .inr (6, [.ref (mo 1), .ref (mo 2), .ref (mo 3), .ref (mo 4), .int (nI hn), .ref (mo 5), .int (nI ik), .ref (mo 6), .ref (mo 7), .int (nI tl), .int (nI sp), .int (nI rd), .int gr])), (mo 1, .inl (G.2.1, 246, .inl (upd (fun q => nI ((rowM (up2 (up2 σ 0 18 (σ 0 18 - 1)) 0 24 (σ 0 24 + σ 0 6))) q)) 6 (nI (σ 0 6 - (σ 0 6)))))), (mo 2, .inl (G.2.1, 246, .inl (fun q => nI (kf q)))), (mo 3, .inl (G.2.1, 246, .inl (fun q => nI (tf q)))), (mo 4, .inl (G.2.1, 984, .inl (fun q => nI (H q)))), (mo 5, .inl (G.2.1, 246, .inl (fun q => nI (sf q)))), (mo 6, .inl (G.2.1, 40, .inl (fun q => nI (df q)))), (mo 7, .inl (G.2.1, 60, .inl (fun q => nI (xf q))))]) rfl 6 rfl (by decide) (Nat.le_of_ble_eq_true rfl) rfl dX6_dips_84 ?_
      refine J_arr 1 (fun q => nI (rowM (up2 (up2 (up2 σ 0 18 (σ 0 18 - 1)) 0 24 (σ 0 24 + σ 0 6)) 0 6 (σ 0 6 - (σ 0 6))) q)) rfl (fun q _ => congrFun (rowM_u0 (up2 (up2 σ 0 18 (σ 0 18 - 1)) 0 24 (σ 0 24 + σ 0 6)) (σ 0 6 - (σ 0 6)) (by decide) (by decide)) q) ?_
      refine J_ws (ws' := mdW G mo (up2 (up2 (up2 σ 0 18 (σ 0 18 - 1)) 0 24 (σ 0 24 + σ 0 6)) 0 6 (σ 0 6 - (σ 0 6))) kf tf H sf df xf hn ik tl sp rd gr) rfl ?_
      refine J_aload_n C rfl dX6_dips_85 ?_
      refine J_get C 0 0 in6 rfl rfl (by decide) k575 rfl dX6_dips_86 ?_
      refine J_bipush C 20 (by decide) dX6_dips_89 ?_
      refine J_iload_n C rfl dX6_dips_91 ?_
      refine J_iadd C dX6_dips_92 ?_
      refine J_i ((by decide) : (20 + 0 : Int32) = 20) ?_
      refine J_dup2 C rfl rfl dX6_dips_93 ?_
      refine J_iald C 1 rfl 20 rfl (by decide) (Nat.le_of_ble_eq_true rfl) dX6_dips_94 ?_
      refine J_i (rfl : (nI ((rowM (up2 (up2 (up2 σ 0 18 (σ 0 18 - 1)) 0 24 (σ 0 24 + σ 0 6)) 0 6 (σ 0 6 - (σ 0 6)))) 20) : Int32) = (nI (σ 0 20))) ?_
      refine J_iconst C 1 (by decide) dX6_dips_95 ?_
      refine J_iadd C dX6_dips_96 ?_
      refine J_i (nI_add (σ 0 20) 1 : ((nI (σ 0 20)) + 1 : Int32) = (nI (σ 0 20 + 1))) ?_
      refine J_iast C 1 ([(mo 0, .inr (6, [.ref (mo 1), .ref (mo 2), .ref (mo 3), .ref (mo 4), .int (nI hn), .ref (mo 5), .int (nI ik), .ref (mo 6), .ref (mo 7), .int (nI tl), .int (nI sp), .int (nI rd), .int gr])), (mo 1, .inl (G.2.1, 246, .inl (upd (fun q => nI ((rowM (up2 (up2 (up2 σ 0 18 (σ 0 18 - 1)) 0 24 (σ 0 24 + σ 0 6)) 0 6 (σ 0 6 - (σ 0 6)))) q)) 20 (nI (σ 0 20 + 1))))), (mo 2, .inl (G.2.1, 246, .inl (fun q => nI (kf q)))), (mo 3, .inl (G.2.1, 246, .inl (fun q => nI (tf q)))), (mo 4, .inl (G.2.1, 984, .inl (fun q => nI (H q)))), (mo 5, .inl (G.2.1, 246, .inl (fun q => nI (sf q)))), (mo 6, .inl (G.2.1, 40, .inl (fun q => nI (df q)))), (mo 7, .inl (G.2.1, 60, .inl (fun q => nI (xf q))))]) rfl 20 rfl (by decide) (Nat.le_of_ble_eq_true rfl) rfl dX6_dips_97 ?_
      refine J_arr 1 (fun q => nI (rowM (up2 (up2 (up2 (up2 σ 0 18 (σ 0 18 - 1)) 0 24 (σ 0 24 + σ 0 6)) 0 6 (σ 0 6 - (σ 0 6))) 0 20 (σ 0 20 + 1)) q)) rfl (fun q _ => congrFun (rowM_u0 (up2 (up2 (up2 σ 0 18 (σ 0 18 - 1)) 0 24 (σ 0 24 + σ 0 6)) 0 6 (σ 0 6 - (σ 0 6))) (σ 0 20 + 1) (by decide) (by decide)) q) ?_
      refine J_ws (ws' := mdW G mo (up2 (up2 (up2 (up2 σ 0 18 (σ 0 18 - 1)) 0 24 (σ 0 24 + σ 0 6)) 0 6 (σ 0 6 - (σ 0 6))) 0 20 (σ 0 20 + 1)) kf tf H sf df xf hn ik tl sp rd gr) rfl ?_
      exact J_vret C hr dX6_dips_98 () rfl trivial (by rw [dipsF_0, if_pos (by omega), show gotF σ 0 = σ 0 6 from by rw [gotF_0]; split <;> omega] <;> rfl)
    · skip
      have c46 := cv_ge_f (a := (64 - (σ 0 24))) (b := (σ 0 6)) (by omega) (by omega) c46
      refine J_iload_n C rfl dX6_dips_49 ?_
      refine J_goto C 60 (by decide) dX6_dips_50 ?_
      refine J_istore_n C [(3, .int (nI (64 - (σ 0 24)))), (2, .int (nI (64 - (σ 0 24)))), (0, .ref (mo 0)), (1, .int 0)] (by decide) rfl dX6_dips_60 ?_
      refine J_aload_n C rfl dX6_dips_61 ?_
      refine J_get C 0 0 in6 rfl rfl (by decide) k575 rfl dX6_dips_62 ?_
      refine J_bipush C 24 (by decide) dX6_dips_65 ?_
      refine J_iload_n C rfl dX6_dips_67 ?_
      refine J_iadd C dX6_dips_68 ?_
      refine J_i ((by decide) : (24 + 0 : Int32) = 24) ?_
      refine J_dup2 C rfl rfl dX6_dips_69 ?_
      refine J_iald C 1 rfl 24 rfl (by decide) (Nat.le_of_ble_eq_true rfl) dX6_dips_70 ?_
      refine J_i (rfl : (nI ((rowM (up2 σ 0 18 (σ 0 18 - 1))) 24) : Int32) = (nI (σ 0 24))) ?_
      refine J_iload_n C rfl dX6_dips_71 ?_
      refine J_iadd C dX6_dips_72 ?_
      refine J_i (nI_add (σ 0 24) (64 - (σ 0 24)) : ((nI (σ 0 24)) + (nI (64 - (σ 0 24))) : Int32) = (nI (σ 0 24 + (64 - (σ 0 24))))) ?_
      refine J_iast C 1 ([(mo 0, .inr (6, [.ref (mo 1), .ref (mo 2), .ref (mo 3), .ref (mo 4), .int (nI hn), .ref (mo 5), .int (nI ik), .ref (mo 6), .ref (mo 7), .int (nI tl), .int (nI sp), .int (nI rd), .int gr])), (mo 1, .inl (G.2.1, 246, .inl (upd (fun q => nI ((rowM (up2 σ 0 18 (σ 0 18 - 1))) q)) 24 (nI (σ 0 24 + (64 - (σ 0 24))))))), (mo 2, .inl (G.2.1, 246, .inl (fun q => nI (kf q)))), (mo 3, .inl (G.2.1, 246, .inl (fun q => nI (tf q)))), (mo 4, .inl (G.2.1, 984, .inl (fun q => nI (H q)))), (mo 5, .inl (G.2.1, 246, .inl (fun q => nI (sf q)))), (mo 6, .inl (G.2.1, 40, .inl (fun q => nI (df q)))), (mo 7, .inl (G.2.1, 60, .inl (fun q => nI (xf q))))]) rfl 24 rfl (by decide) (Nat.le_of_ble_eq_true rfl) rfl dX6_dips_73 ?_
      refine J_arr 1 (fun q => nI (rowM (up2 (up2 σ 0 18 (σ 0 18 - 1)) 0 24 (σ 0 24 + (64 - (σ 0 24)))) q)) rfl (fun q _ => congrFun (rowM_u0 (up2 σ 0 18 (σ 0 18 - 1)) (σ 0 24 + (64 - (σ 0 24))) (by decide) (by decide)) q) ?_
      refine J_ws (ws' := mdW G mo (up2 (up2 σ 0 18 (σ 0 18 - 1)) 0 24 (σ 0 24 + (64 - (σ 0 24)))) kf tf H sf df xf hn ik tl sp rd gr) rfl ?_
      refine J_aload_n C rfl dX6_dips_74 ?_
      refine J_get C 0 0 in6 rfl rfl (by decide) k575 rfl dX6_dips_75 ?_
      refine J_bipush C 6 (by decide) dX6_dips_78 ?_
      refine J_dup2 C rfl rfl dX6_dips_80 ?_
      refine J_iald C 1 rfl 6 rfl (by decide) (Nat.le_of_ble_eq_true rfl) dX6_dips_81 ?_
      refine J_i (rfl : (nI ((rowM (up2 (up2 σ 0 18 (σ 0 18 - 1)) 0 24 (σ 0 24 + (64 - (σ 0 24))))) 6) : Int32) = (nI (σ 0 6))) ?_
      refine J_iload_n C rfl dX6_dips_82 ?_
      refine J_isub C dX6_dips_83 ?_
      refine J_i (pk_sub (a := σ 0 6) (b := 64 - (σ 0 24)) (by omega) : ((nI (σ 0 6)) - (nI (64 - (σ 0 24))) : Int32) = (nI (σ 0 6 - (64 - (σ 0 24))))) ?_
      refine J_iast C 1 ([(mo 0, .inr (6, [.ref (mo 1), .ref (mo 2), .ref (mo 3), .ref (mo 4), .int (nI hn), .ref (mo 5), .int (nI ik), .ref (mo 6), .ref (mo 7), .int (nI tl), .int (nI sp), .int (nI rd), .int gr])), (mo 1, .inl (G.2.1, 246, .inl (upd (fun q => nI ((rowM (up2 (up2 σ 0 18 (σ 0 18 - 1)) 0 24 (σ 0 24 + (64 - (σ 0 24))))) q)) 6 (nI (σ 0 6 - (64 - (σ 0 24))))))), (mo 2, .inl (G.2.1, 246, .inl (fun q => nI (kf q)))), (mo 3, .inl (G.2.1, 246, .inl (fun q => nI (tf q)))), (mo 4, .inl (G.2.1, 984, .inl (fun q => nI (H q)))), (mo 5, .inl (G.2.1, 246, .inl (fun q => nI (sf q)))), (mo 6, .inl (G.2.1, 40, .inl (fun q => nI (df q)))), (mo 7, .inl (G.2.1, 60, .inl (fun q => nI (xf q))))]) rfl 6 rfl (by decide) (Nat.le_of_ble_eq_true rfl) rfl dX6_dips_84 ?_
      refine J_arr 1 (fun q => nI (rowM (up2 (up2 (up2 σ 0 18 (σ 0 18 - 1)) 0 24 (σ 0 24 + (64 - (σ 0 24)))) 0 6 (σ 0 6 - (64 - (σ 0 24)))) q)) rfl (fun q _ => congrFun (rowM_u0 (up2 (up2 σ 0 18 (σ 0 18 - 1)) 0 24 (σ 0 24 + (64 - (σ 0 24)))) (σ 0 6 - (64 - (σ 0 24))) (by decide) (by decide)) q) ?_
      refine J_ws (ws' := mdW G mo (up2 (up2 (up2 σ 0 18 (σ 0 18 - 1)) 0 24 (σ 0 24 + (64 - (σ 0 24)))) 0 6 (σ 0 6 - (64 - (σ 0 24)))) kf tf H sf df xf hn ik tl sp rd gr) rfl ?_
      refine J_aload_n C rfl dX6_dips_85 ?_
      refine J_get C 0 0 in6 rfl rfl (by decide) k575 rfl dX6_dips_86 ?_
      refine J_bipush C 20 (by decide) dX6_dips_89 ?_
      refine J_iload_n C rfl dX6_dips_91 ?_
      refine J_iadd C dX6_dips_92 ?_
      refine J_i ((by decide) : (20 + 0 : Int32) = 20) ?_
      refine J_dup2 C rfl rfl dX6_dips_93 ?_
      refine J_iald C 1 rfl 20 rfl (by decide) (Nat.le_of_ble_eq_true rfl) dX6_dips_94 ?_
      refine J_i (rfl : (nI ((rowM (up2 (up2 (up2 σ 0 18 (σ 0 18 - 1)) 0 24 (σ 0 24 + (64 - (σ 0 24)))) 0 6 (σ 0 6 - (64 - (σ 0 24))))) 20) : Int32) = (nI (σ 0 20))) ?_
      refine J_iconst C 1 (by decide) dX6_dips_95 ?_
      refine J_iadd C dX6_dips_96 ?_
      refine J_i (nI_add (σ 0 20) 1 : ((nI (σ 0 20)) + 1 : Int32) = (nI (σ 0 20 + 1))) ?_
      refine J_iast C 1 ([(mo 0, .inr (6, [.ref (mo 1), .ref (mo 2), .ref (mo 3), .ref (mo 4), .int (nI hn), .ref (mo 5), .int (nI ik), .ref (mo 6), .ref (mo 7), .int (nI tl), .int (nI sp), .int (nI rd), .int gr])), (mo 1, .inl (G.2.1, 246, .inl (upd (fun q => nI ((rowM (up2 (up2 (up2 σ 0 18 (σ 0 18 - 1)) 0 24 (σ 0 24 + (64 - (σ 0 24)))) 0 6 (σ 0 6 - (64 - (σ 0 24))))) q)) 20 (nI (σ 0 20 + 1))))), (mo 2, .inl (G.2.1, 246, .inl (fun q => nI (kf q)))), (mo 3, .inl (G.2.1, 246, .inl (fun q => nI (tf q)))), (mo 4, .inl (G.2.1, 984, .inl (fun q => nI (H q)))), (mo 5, .inl (G.2.1, 246, .inl (fun q => nI (sf q)))), (mo 6, .inl (G.2.1, 40, .inl (fun q => nI (df q)))), (mo 7, .inl (G.2.1, 60, .inl (fun q => nI (xf q))))]) rfl 20 rfl (by decide) (Nat.le_of_ble_eq_true rfl) rfl dX6_dips_97 ?_
      refine J_arr 1 (fun q => nI (rowM (up2 (up2 (up2 (up2 σ 0 18 (σ 0 18 - 1)) 0 24 (σ 0 24 + (64 - (σ 0 24)))) 0 6 (σ 0 6 - (64 - (σ 0 24)))) 0 20 (σ 0 20 + 1)) q)) rfl (fun q _ => congrFun (rowM_u0 (up2 (up2 (up2 σ 0 18 (σ 0 18 - 1)) 0 24 (σ 0 24 + (64 - (σ 0 24)))) 0 6 (σ 0 6 - (64 - (σ 0 24)))) (σ 0 20 + 1) (by decide) (by decide)) q) ?_
      refine J_ws (ws' := mdW G mo (up2 (up2 (up2 (up2 σ 0 18 (σ 0 18 - 1)) 0 24 (σ 0 24 + (64 - (σ 0 24)))) 0 6 (σ 0 6 - (64 - (σ 0 24)))) 0 20 (σ 0 20 + 1)) kf tf H sf df xf hn ik tl sp rd gr) rfl ?_
      exact J_vret C hr dX6_dips_98 () rfl trivial (by rw [dipsF_0, if_pos (by omega), show gotF σ 0 = 64 - σ 0 24 from by rw [gotF_0]; split <;> omega] <;> rfl)

set_option maxHeartbeats 4000000 in
set_option maxRecDepth 100000 in
theorem ct_writes0 (l : Launch) (G : GT) (mo : Nat → Nat) (σ : AS) (kf tf H sf df xf : Nat → Nat) (hn ik tl sp rd : Nat) (gr : Int32) (hI : Inv σ) (hf : 2 * σ 0 14 < σ 0 4) (hp : letAt σ (σ 0 14) ≤ σ 0 24) : Ct (S := Unit) l G NoX yX6_writes (Wy yX6_writes cX6_writes 4 ((Option.none : Option Jvm.ClassFile.FieldType))) { frames := 2, cells := 0, slots := 0, locals := 42 } [.ref (mo 0), .int 0] (mdW G mo σ kf tf H sf df xf hn ik tl sp rd gr) (fun u => True) (fun u => none) (fun u => mdW G mo (writesF σ 0 (σ 0 3 + 1)) kf tf H sf df xf hn ik tl sp rd gr) := by
  refine Ct.of (by decide) (Nat.le_of_ble_eq_true rfl) (fun p e s m args below meth c C hr hnm hX => ?_)
  have h40 := hI.a
  have hc := hI.c
  have hi := hI.i
  have hl := hI.l
  have hr2 := hI.r
  have hs := hI.s
  have hlt := hI.let (p := σ 0 14) (by omega)
  have hq := hI.q (q := σ 0 14) (by omega)
  refine J_aload_n C rfl dX6_writes_0 ?_
  refine J_get C 0 0 in6 rfl rfl (by decide) k575 rfl dX6_writes_1 ?_
  refine J_bipush C 16 (by decide) dX6_writes_4 ?_
  refine J_iload_n C rfl dX6_writes_6 ?_
  refine J_iadd C dX6_writes_7 ?_
  refine J_i ((by decide) : (16 + 0 : Int32) = 16) ?_
  refine J_dup2 C rfl rfl dX6_writes_8 ?_
  refine J_iald C 1 rfl 16 rfl (by decide) (Nat.le_of_ble_eq_true rfl) dX6_writes_9 ?_
  refine J_i (rfl : (nI ((rowM σ) 16) : Int32) = (nI (σ 0 16))) ?_
  refine J_iconst C 1 (by decide) dX6_writes_10 ?_
  refine J_iadd C dX6_writes_11 ?_
  refine J_i (nI_add (σ 0 16) 1 : ((nI (σ 0 16)) + 1 : Int32) = (nI (σ 0 16 + 1))) ?_
  refine J_iast C 1 ([(mo 0, .inr (6, [.ref (mo 1), .ref (mo 2), .ref (mo 3), .ref (mo 4), .int (nI hn), .ref (mo 5), .int (nI ik), .ref (mo 6), .ref (mo 7), .int (nI tl), .int (nI sp), .int (nI rd), .int gr])), (mo 1, .inl (G.2.1, 246, .inl (upd (fun q => nI ((rowM σ) q)) 16 (nI (σ 0 16 + 1))))), (mo 2, .inl (G.2.1, 246, .inl (fun q => nI (kf q)))), (mo 3, .inl (G.2.1, 246, .inl (fun q => nI (tf q)))), (mo 4, .inl (G.2.1, 984, .inl (fun q => nI (H q)))), (mo 5, .inl (G.2.1, 246, .inl (fun q => nI (sf q)))), (mo 6, .inl (G.2.1, 40, .inl (fun q => nI (df q)))), (mo 7, .inl (G.2.1, 60, .inl (fun q => nI (xf q))))]) rfl 16 rfl (by decide) (Nat.le_of_ble_eq_true rfl) rfl dX6_writes_12 ?_
  refine J_arr 1 (fun q => nI (rowM (up2 σ 0 16 (σ 0 16 + 1)) q)) rfl (fun q _ => congrFun (rowM_u0 σ (σ 0 16 + 1) (by decide) (by decide)) q) ?_
  refine J_ws (ws' := mdW G mo (up2 σ 0 16 (σ 0 16 + 1)) kf tf H sf df xf hn ik tl sp rd gr) rfl ?_
  refine J_aload_n C rfl dX6_writes_13 ?_
  refine J_get C 0 0 in6 rfl rfl (by decide) k575 rfl dX6_writes_14 ?_
  refine J_bipush C 16 (by decide) dX6_writes_17 ?_
  refine J_iload_n C rfl dX6_writes_19 ?_
  refine J_iadd C dX6_writes_20 ?_
  refine J_i ((by decide) : (16 + 0 : Int32) = 16) ?_
  refine J_iald C 1 rfl 16 rfl (by decide) (Nat.le_of_ble_eq_true rfl) dX6_writes_21 ?_
  refine J_i (rfl : (nI ((rowM (up2 σ 0 16 (σ 0 16 + 1))) 16) : Int32) = (nI (σ 0 16 + 1))) ?_
  refine J_aload_n C rfl dX6_writes_22 ?_
  refine J_get C 0 0 in6 rfl rfl (by decide) k575 rfl dX6_writes_23 ?_
  refine J_bipush C 12 (by decide) dX6_writes_26 ?_
  refine J_iload_n C rfl dX6_writes_28 ?_
  refine J_iadd C dX6_writes_29 ?_
  refine J_i ((by decide) : (12 + 0 : Int32) = 12) ?_
  refine J_iald C 1 rfl 12 rfl (by decide) (Nat.le_of_ble_eq_true rfl) dX6_writes_30 ?_
  refine J_i (rfl : (nI ((rowM (up2 σ 0 16 (σ 0 16 + 1))) 12) : Int32) = (nI (σ 0 12))) ?_
  refine J_icmp_ge C 35 (by decide) dX6_writes_31 (fun c31 => ?_) (fun c31 => ?_)
  · skip
    have c31 := cv_ge_t (a := (σ 0 16 + 1)) (b := (σ 0 12)) (by omega) (by omega) c31
    refine J_aload_n C rfl dX6_writes_35 ?_
    refine J_iload_n C rfl dX6_writes_36 ?_
    refine J_callV (as := [.int 0]) (rest := []) C (ct_mNext0P l G mo (up2 σ 0 16 (σ 0 16 + 1)) kf tf H sf df xf hn ik tl sp rd gr h40.1 h40.2.1 hf) (fun u => mdW G mo (up2 σ 0 16 (σ 0 16 + 1)) kf tf H sf df xf hn ik tl sp rd gr) [0, 1, 2, 3, 4, 5, 6, 7] [] 1 k659 k661 k17 k38 k662 rfl (by decide +kernel) ⟨Nat.le_of_ble_eq_true rfl, Nat.le_of_ble_eq_true rfl⟩ ⟨Nat.le_of_ble_eq_true rfl, Nat.le_of_ble_eq_true rfl⟩ dX6_writes_37 (Nat.le_of_ble_eq_true rfl) 0 rfl rfl rfl (by decide +kernel) (fun _ => rfl) ([]) rfl (fun _ => rfl) 8 (fun _ => rfl) (by decide +kernel) (by decide +kernel) (fun _ _ => ?_)
    refine J_st (st' := [.int (nI ((up2 σ 0 16 (σ 0 16 + 1)) 0 14))]) rfl ?_
    refine J_i (rfl : (nI ((up2 σ 0 16 (σ 0 16 + 1)) 0 14) : Int32) = (nI (σ 0 14))) ?_
    refine J_istore_n C [(2, .int (nI (σ 0 14))), (0, .ref (mo 0)), (1, .int 0)] (by decide) rfl dX6_writes_40 ?_
    refine J_aload_n C rfl dX6_writes_41 ?_
    refine J_iload_n C rfl dX6_writes_42 ?_
    refine J_callV (as := [.int (nI (σ 0 14))]) (rest := []) C (ct_letAt l G mo (up2 σ 0 16 (σ 0 16 + 1)) kf tf H sf df xf hn ik tl sp rd gr (σ 0 14) h40.1 (show σ 0 14 < σ 0 4 by omega) hq.1) (fun u => mdW G mo (up2 σ 0 16 (σ 0 16 + 1)) kf tf H sf df xf hn ik tl sp rd gr) [0, 1, 2, 3, 4, 5, 6, 7] [] 1 k663 k665 k18 k38 k666 rfl (by decide +kernel) ⟨Nat.le_of_ble_eq_true rfl, Nat.le_of_ble_eq_true rfl⟩ ⟨Nat.le_of_ble_eq_true rfl, Nat.le_of_ble_eq_true rfl⟩ dX6_writes_43 (Nat.le_of_ble_eq_true rfl) 0 rfl rfl rfl (by decide +kernel) (fun _ => rfl) ([]) rfl (fun _ => rfl) 8 (fun _ => rfl) (by decide +kernel) (by decide +kernel) (fun _ _ => ?_)
    refine J_st (st' := [.int (nI (letAt (up2 σ 0 16 (σ 0 16 + 1)) (σ 0 14)))]) rfl ?_
    refine J_i (rfl : (nI (letAt (up2 σ 0 16 (σ 0 16 + 1)) (σ 0 14)) : Int32) = (nI (letAt σ (σ 0 14)))) ?_
    refine J_istore_n C [(3, .int (nI (letAt σ (σ 0 14)))), (2, .int (nI (σ 0 14))), (0, .ref (mo 0)), (1, .int 0)] (by decide) rfl dX6_writes_46 ?_
    refine J_aload_n C rfl dX6_writes_47 ?_
    refine J_get C 0 0 in6 rfl rfl (by decide) k575 rfl dX6_writes_48 ?_
    refine J_bipush C 86 (by decide) dX6_writes_51 ?_
    refine J_iload_n C rfl dX6_writes_53 ?_
    refine J_iadd C dX6_writes_54 ?_
    refine J_i (nI_add 86 (σ 0 14) : (86 + (nI (σ 0 14)) : Int32) = (nI (86 + σ 0 14))) ?_
    refine J_iload_n C rfl dX6_writes_55 ?_
    refine J_iast C 1 ([(mo 0, .inr (6, [.ref (mo 1), .ref (mo 2), .ref (mo 3), .ref (mo 4), .int (nI hn), .ref (mo 5), .int (nI ik), .ref (mo 6), .ref (mo 7), .int (nI tl), .int (nI sp), .int (nI rd), .int gr])), (mo 1, .inl (G.2.1, 246, .inl (upd (fun q => nI ((rowM (up2 σ 0 16 (σ 0 16 + 1))) q)) (86 + σ 0 14) (nI (letAt σ (σ 0 14)))))), (mo 2, .inl (G.2.1, 246, .inl (fun q => nI (kf q)))), (mo 3, .inl (G.2.1, 246, .inl (fun q => nI (tf q)))), (mo 4, .inl (G.2.1, 984, .inl (fun q => nI (H q)))), (mo 5, .inl (G.2.1, 246, .inl (fun q => nI (sf q)))), (mo 6, .inl (G.2.1, 40, .inl (fun q => nI (df q)))), (mo 7, .inl (G.2.1, 60, .inl (fun q => nI (xf q))))]) rfl (86 + σ 0 14) rfl (by omega) (Nat.le_of_ble_eq_true rfl) rfl dX6_writes_56 ?_
    refine J_arr 1 (fun q => nI (rowM (up2 (up2 σ 0 16 (σ 0 16 + 1)) 3 (σ 0 14) (letAt σ (σ 0 14))) q)) rfl (fun q _ => congrFun (rowM_u3 (up2 σ 0 16 (σ 0 16 + 1)) (letAt σ (σ 0 14)) (by omega)) q) ?_
    refine J_ws (ws' := mdW G mo (up2 (up2 σ 0 16 (σ 0 16 + 1)) 3 (σ 0 14) (letAt σ (σ 0 14))) kf tf H sf df xf hn ik tl sp rd gr) rfl ?_
    refine J_aload_n C rfl dX6_writes_57 ?_
    refine J_get C 0 0 in6 rfl rfl (by decide) k575 rfl dX6_writes_58 ?_
    refine J_bipush C 126 (by decide) dX6_writes_61 ?_
    refine J_iload_n C rfl dX6_writes_63 ?_
    refine J_iadd C dX6_writes_64 ?_
    refine J_i (nI_add 126 (σ 0 14) : (126 + (nI (σ 0 14)) : Int32) = (nI (126 + σ 0 14))) ?_
    refine J_aload_n C rfl dX6_writes_65 ?_
    refine J_get C 0 0 in6 rfl rfl (by decide) k575 rfl dX6_writes_66 ?_
    refine J_bipush C 24 (by decide) dX6_writes_69 ?_
    refine J_iload_n C rfl dX6_writes_71 ?_
    refine J_iadd C dX6_writes_72 ?_
    refine J_i ((by decide) : (24 + 0 : Int32) = 24) ?_
    refine J_iald C 1 rfl 24 rfl (by decide) (Nat.le_of_ble_eq_true rfl) dX6_writes_73 ?_
    refine J_i (rfl : (nI ((rowM (up2 (up2 σ 0 16 (σ 0 16 + 1)) 3 (σ 0 14) (letAt σ (σ 0 14)))) 24) : Int32) = (nI (σ 0 24))) ?_
    refine J_bipush C 8 (by decide) dX6_writes_74 ?_
    refine J_aload_n C rfl dX6_writes_76 ?_
    refine J_get C 0 0 in6 rfl rfl (by decide) k575 rfl dX6_writes_77 ?_
    refine J_iconst C 1 (by decide) dX6_writes_80 ?_
    refine J_iald C 1 rfl 1 rfl (by decide) (Nat.le_of_ble_eq_true rfl) dX6_writes_81 ?_
    refine J_i (rfl : (nI ((rowM (up2 (up2 σ 0 16 (σ 0 16 + 1)) 3 (σ 0 14) (letAt σ (σ 0 14)))) 1) : Int32) = (nI (σ 7 1))) ?_
    refine J_imul C dX6_writes_82 ?_
    refine J_i (pk_mul 8 (σ 7 1) : (8 * (nI (σ 7 1)) : Int32) = (nI (8 * (σ 7 1)))) ?_
    refine J_icmp_le C 90 (by decide) dX6_writes_83 (fun c83 => ?_) (fun c83 => ?_)
    · skip
      have c83 := cv_le_t (a := (σ 0 24)) (b := (8 * (σ 7 1))) (by omega) (by omega) c83
      refine J_iconst C 0 (by decide) dX6_writes_90 ?_
      refine J_iast C 1 ([(mo 0, .inr (6, [.ref (mo 1), .ref (mo 2), .ref (mo 3), .ref (mo 4), .int (nI hn), .ref (mo 5), .int (nI ik), .ref (mo 6), .ref (mo 7), .int (nI tl), .int (nI sp), .int (nI rd), .int gr])), (mo 1, .inl (G.2.1, 246, .inl (upd (fun q => nI ((rowM (up2 (up2 σ 0 16 (σ 0 16 + 1)) 3 (σ 0 14) (letAt σ (σ 0 14)))) q)) (126 + σ 0 14) 0))), (mo 2, .inl (G.2.1, 246, .inl (fun q => nI (kf q)))), (mo 3, .inl (G.2.1, 246, .inl (fun q => nI (tf q)))), (mo 4, .inl (G.2.1, 984, .inl (fun q => nI (H q)))), (mo 5, .inl (G.2.1, 246, .inl (fun q => nI (sf q)))), (mo 6, .inl (G.2.1, 40, .inl (fun q => nI (df q)))), (mo 7, .inl (G.2.1, 60, .inl (fun q => nI (xf q))))]) rfl (126 + σ 0 14) rfl (by omega) (Nat.le_of_ble_eq_true rfl) rfl dX6_writes_91 ?_
      refine J_arr 1 (fun q => nI (rowM (up2 (up2 (up2 σ 0 16 (σ 0 16 + 1)) 3 (σ 0 14) (letAt σ (σ 0 14))) 4 (σ 0 14) 0) q)) rfl (fun q _ => congrFun (rowM_u4 (up2 (up2 σ 0 16 (σ 0 16 + 1)) 3 (σ 0 14) (letAt σ (σ 0 14))) 0 (by omega)) q) ?_
      refine J_ws (ws' := mdW G mo (up2 (up2 (up2 σ 0 16 (σ 0 16 + 1)) 3 (σ 0 14) (letAt σ (σ 0 14))) 4 (σ 0 14) 0) kf tf H sf df xf hn ik tl sp rd gr) rfl ?_
      refine J_aload_n C rfl dX6_writes_92 ?_
      refine J_get C 0 0 in6 rfl rfl (by decide) k575 rfl dX6_writes_93 ?_
      refine J_sipush C 206 (by decide) dX6_writes_96 ?_
      refine J_iload_n C rfl dX6_writes_99 ?_
      refine J_iadd C dX6_writes_100 ?_
      refine J_i (nI_add 206 (σ 0 14) : (206 + (nI (σ 0 14)) : Int32) = (nI (206 + σ 0 14))) ?_
      refine J_aload_n C rfl dX6_writes_101 ?_
      refine J_get C 0 0 in6 rfl rfl (by decide) k575 rfl dX6_writes_102 ?_
      refine J_iconst C 3 (by decide) dX6_writes_105 ?_
      refine J_iald C 1 rfl 3 rfl (by decide) (Nat.le_of_ble_eq_true rfl) dX6_writes_106 ?_
      refine J_i (rfl : (nI ((rowM (up2 (up2 (up2 σ 0 16 (σ 0 16 + 1)) 3 (σ 0 14) (letAt σ (σ 0 14))) 4 (σ 0 14) 0)) 3) : Int32) = (nI (σ 0 3))) ?_
      refine J_iconst C 1 (by decide) dX6_writes_107 ?_
      refine J_iadd C dX6_writes_108 ?_
      refine J_i (nI_add (σ 0 3) 1 : ((nI (σ 0 3)) + 1 : Int32) = (nI (σ 0 3 + 1))) ?_
      refine J_iast C 1 ([(mo 0, .inr (6, [.ref (mo 1), .ref (mo 2), .ref (mo 3), .ref (mo 4), .int (nI hn), .ref (mo 5), .int (nI ik), .ref (mo 6), .ref (mo 7), .int (nI tl), .int (nI sp), .int (nI rd), .int gr])), (mo 1, .inl (G.2.1, 246, .inl (upd (fun q => nI ((rowM (up2 (up2 (up2 σ 0 16 (σ 0 16 + 1)) 3 (σ 0 14) (letAt σ (σ 0 14))) 4 (σ 0 14) 0)) q)) (206 + σ 0 14) (nI (σ 0 3 + 1))))), (mo 2, .inl (G.2.1, 246, .inl (fun q => nI (kf q)))), (mo 3, .inl (G.2.1, 246, .inl (fun q => nI (tf q)))), (mo 4, .inl (G.2.1, 984, .inl (fun q => nI (H q)))), (mo 5, .inl (G.2.1, 246, .inl (fun q => nI (sf q)))), (mo 6, .inl (G.2.1, 40, .inl (fun q => nI (df q)))), (mo 7, .inl (G.2.1, 60, .inl (fun q => nI (xf q))))]) rfl (206 + σ 0 14) rfl (by omega) (Nat.le_of_ble_eq_true rfl) rfl dX6_writes_109 ?_
      refine J_arr 1 (fun q => nI (rowM (up2 (up2 (up2 (up2 σ 0 16 (σ 0 16 + 1)) 3 (σ 0 14) (letAt σ (σ 0 14))) 4 (σ 0 14) 0) 6 (σ 0 14) (σ 0 3 + 1)) q)) rfl (fun q _ => congrFun (rowM_u6 (up2 (up2 (up2 σ 0 16 (σ 0 16 + 1)) 3 (σ 0 14) (letAt σ (σ 0 14))) 4 (σ 0 14) 0) (σ 0 14) (σ 0 3 + 1)) q) ?_
      refine J_ws (ws' := mdW G mo (up2 (up2 (up2 (up2 σ 0 16 (σ 0 16 + 1)) 3 (σ 0 14) (letAt σ (σ 0 14))) 4 (σ 0 14) 0) 6 (σ 0 14) (σ 0 3 + 1)) kf tf H sf df xf hn ik tl sp rd gr) rfl ?_
      refine J_aload_n C rfl dX6_writes_110 ?_
      refine J_get C 0 0 in6 rfl rfl (by decide) k575 rfl dX6_writes_111 ?_
      refine J_bipush C 24 (by decide) dX6_writes_114 ?_
      refine J_iload_n C rfl dX6_writes_116 ?_
      refine J_iadd C dX6_writes_117 ?_
      refine J_i ((by decide) : (24 + 0 : Int32) = 24) ?_
      refine J_dup2 C rfl rfl dX6_writes_118 ?_
      refine J_iald C 1 rfl 24 rfl (by decide) (Nat.le_of_ble_eq_true rfl) dX6_writes_119 ?_
      refine J_i (rfl : (nI ((rowM (up2 (up2 (up2 (up2 σ 0 16 (σ 0 16 + 1)) 3 (σ 0 14) (letAt σ (σ 0 14))) 4 (σ 0 14) 0) 6 (σ 0 14) (σ 0 3 + 1))) 24) : Int32) = (nI (σ 0 24))) ?_
      refine J_iload_n C rfl dX6_writes_120 ?_
      refine J_isub C dX6_writes_121 ?_
      refine J_i (pk_sub (a := σ 0 24) (b := letAt σ (σ 0 14)) (by omega) : ((nI (σ 0 24)) - (nI (letAt σ (σ 0 14))) : Int32) = (nI (σ 0 24 - (letAt σ (σ 0 14))))) ?_
      refine J_iast C 1 ([(mo 0, .inr (6, [.ref (mo 1), .ref (mo 2), .ref (mo 3), .ref (mo 4), .int (nI hn), .ref (mo 5), .int (nI ik), .ref (mo 6), .ref (mo 7), .int (nI tl), .int (nI sp), .int (nI rd), .int gr])), (mo 1, .inl (G.2.1, 246, .inl (upd (fun q => nI ((rowM (up2 (up2 (up2 (up2 σ 0 16 (σ 0 16 + 1)) 3 (σ 0 14) (letAt σ (σ 0 14))) 4 (σ 0 14) 0) 6 (σ 0 14) (σ 0 3 + 1))) q)) 24 (nI (σ 0 24 - (letAt σ (σ 0 14))))))), (mo 2, .inl (G.2.1, 246, .inl (fun q => nI (kf q)))), (mo 3, .inl (G.2.1, 246, .inl (fun q => nI (tf q)))), (mo 4, .inl (G.2.1, 984, .inl (fun q => nI (H q)))), (mo 5, .inl (G.2.1, 246, .inl (fun q => nI (sf q)))), (mo 6, .inl (G.2.1, 40, .inl (fun q => nI (df q)))), (mo 7, .inl (G.2.1, 60, .inl (fun q => nI (xf q))))]) rfl 24 rfl (by decide) (Nat.le_of_ble_eq_true rfl) rfl dX6_writes_122 ?_
      refine J_arr 1 (fun q => nI (rowM (up2 (up2 (up2 (up2 (up2 σ 0 16 (σ 0 16 + 1)) 3 (σ 0 14) (letAt σ (σ 0 14))) 4 (σ 0 14) 0) 6 (σ 0 14) (σ 0 3 + 1)) 0 24 (σ 0 24 - (letAt σ (σ 0 14)))) q)) rfl (fun q _ => congrFun (rowM_u0 (up2 (up2 (up2 (up2 σ 0 16 (σ 0 16 + 1)) 3 (σ 0 14) (letAt σ (σ 0 14))) 4 (σ 0 14) 0) 6 (σ 0 14) (σ 0 3 + 1)) (σ 0 24 - (letAt σ (σ 0 14))) (by decide) (by decide)) q) ?_
      refine J_ws (ws' := mdW G mo (up2 (up2 (up2 (up2 (up2 σ 0 16 (σ 0 16 + 1)) 3 (σ 0 14) (letAt σ (σ 0 14))) 4 (σ 0 14) 0) 6 (σ 0 14) (σ 0 3 + 1)) 0 24 (σ 0 24 - (letAt σ (σ 0 14)))) kf tf H sf df xf hn ik tl sp rd gr) rfl ?_
      refine J_aload_n C rfl dX6_writes_123 ?_
      refine J_get C 0 0 in6 rfl rfl (by decide) k575 rfl dX6_writes_124 ?_
      refine J_bipush C 7 (by decide) dX6_writes_127 ?_
      refine J_dup2 C rfl rfl dX6_writes_129 ?_
      refine J_iald C 1 rfl 7 rfl (by decide) (Nat.le_of_ble_eq_true rfl) dX6_writes_130 ?_
      refine J_i (rfl : (nI ((rowM (up2 (up2 (up2 (up2 (up2 σ 0 16 (σ 0 16 + 1)) 3 (σ 0 14) (letAt σ (σ 0 14))) 4 (σ 0 14) 0) 6 (σ 0 14) (σ 0 3 + 1)) 0 24 (σ 0 24 - (letAt σ (σ 0 14))))) 7) : Int32) = (nI (σ 0 7))) ?_
      refine J_iload_n C rfl dX6_writes_131 ?_
      refine J_iadd C dX6_writes_132 ?_
      refine J_i (nI_add (σ 0 7) (letAt σ (σ 0 14)) : ((nI (σ 0 7)) + (nI (letAt σ (σ 0 14))) : Int32) = (nI (σ 0 7 + (letAt σ (σ 0 14))))) ?_
      refine J_iast C 1 ([(mo 0, .inr (6, [.ref (mo 1), .ref (mo 2), .ref (mo 3), .ref (mo 4), .int (nI hn), .ref (mo 5), .int (nI ik), .ref (mo 6), .ref (mo 7), .int (nI tl), .int (nI sp), .int (nI rd), .int gr])), (mo 1, .inl (G.2.1, 246, .inl (upd (fun q => nI ((rowM (up2 (up2 (up2 (up2 (up2 σ 0 16 (σ 0 16 + 1)) 3 (σ 0 14) (letAt σ (σ 0 14))) 4 (σ 0 14) 0) 6 (σ 0 14) (σ 0 3 + 1)) 0 24 (σ 0 24 - (letAt σ (σ 0 14))))) q)) 7 (nI (σ 0 7 + (letAt σ (σ 0 14))))))), (mo 2, .inl (G.2.1, 246, .inl (fun q => nI (kf q)))), (mo 3, .inl (G.2.1, 246, .inl (fun q => nI (tf q)))), (mo 4, .inl (G.2.1, 984, .inl (fun q => nI (H q)))), (mo 5, .inl (G.2.1, 246, .inl (fun q => nI (sf q)))), (mo 6, .inl (G.2.1, 40, .inl (fun q => nI (df q)))), (mo 7, .inl (G.2.1, 60, .inl (fun q => nI (xf q))))]) rfl 7 rfl (by decide) (Nat.le_of_ble_eq_true rfl) rfl dX6_writes_133 ?_
      refine J_arr 1 (fun q => nI (rowM (up2 (up2 (up2 (up2 (up2 (up2 σ 0 16 (σ 0 16 + 1)) 3 (σ 0 14) (letAt σ (σ 0 14))) 4 (σ 0 14) 0) 6 (σ 0 14) (σ 0 3 + 1)) 0 24 (σ 0 24 - (letAt σ (σ 0 14)))) 0 7 (σ 0 7 + (letAt σ (σ 0 14)))) q)) rfl (fun q _ => congrFun (rowM_u0 (up2 (up2 (up2 (up2 (up2 σ 0 16 (σ 0 16 + 1)) 3 (σ 0 14) (letAt σ (σ 0 14))) 4 (σ 0 14) 0) 6 (σ 0 14) (σ 0 3 + 1)) 0 24 (σ 0 24 - (letAt σ (σ 0 14)))) (σ 0 7 + (letAt σ (σ 0 14))) (by decide) (by decide)) q) ?_
      refine J_ws (ws' := mdW G mo (up2 (up2 (up2 (up2 (up2 (up2 σ 0 16 (σ 0 16 + 1)) 3 (σ 0 14) (letAt σ (σ 0 14))) 4 (σ 0 14) 0) 6 (σ 0 14) (σ 0 3 + 1)) 0 24 (σ 0 24 - (letAt σ (σ 0 14)))) 0 7 (σ 0 7 + (letAt σ (σ 0 14)))) kf tf H sf df xf hn ik tl sp rd gr) rfl ?_
      refine J_aload_n C rfl dX6_writes_134 ?_
      refine J_get C 0 0 in6 rfl rfl (by decide) k575 rfl dX6_writes_135 ?_
      refine J_bipush C 10 (by decide) dX6_writes_138 ?_
      refine J_dup2 C rfl rfl dX6_writes_140 ?_
      refine J_iald C 1 rfl 10 rfl (by decide) (Nat.le_of_ble_eq_true rfl) dX6_writes_141 ?_
      refine J_i (rfl : (nI ((rowM (up2 (up2 (up2 (up2 (up2 (up2 σ 0 16 (σ 0 16 + 1)) 3 (σ 0 14) (letAt σ (σ 0 14))) 4 (σ 0 14) 0) 6 (σ 0 14) (σ 0 3 + 1)) 0 24 (σ 0 24 - (letAt σ (σ 0 14)))) 0 7 (σ 0 7 + (letAt σ (σ 0 14))))) 10) : Int32) = (nI (σ 0 10))) ?_
      refine J_iconst C 1 (by decide) dX6_writes_142 ?_
      refine J_iadd C dX6_writes_143 ?_
      refine J_i (nI_add (σ 0 10) 1 : ((nI (σ 0 10)) + 1 : Int32) = (nI (σ 0 10 + 1))) ?_
      refine J_iast C 1 ([(mo 0, .inr (6, [.ref (mo 1), .ref (mo 2), .ref (mo 3), .ref (mo 4), .int (nI hn), .ref (mo 5), .int (nI ik), .ref (mo 6), .ref (mo 7), .int (nI tl), .int (nI sp), .int (nI rd), .int gr])), (mo 1, .inl (G.2.1, 246, .inl (upd (fun q => nI ((rowM (up2 (up2 (up2 (up2 (up2 (up2 σ 0 16 (σ 0 16 + 1)) 3 (σ 0 14) (letAt σ (σ 0 14))) 4 (σ 0 14) 0) 6 (σ 0 14) (σ 0 3 + 1)) 0 24 (σ 0 24 - (letAt σ (σ 0 14)))) 0 7 (σ 0 7 + (letAt σ (σ 0 14))))) q)) 10 (nI (σ 0 10 + 1))))), (mo 2, .inl (G.2.1, 246, .inl (fun q => nI (kf q)))), (mo 3, .inl (G.2.1, 246, .inl (fun q => nI (tf q)))), (mo 4, .inl (G.2.1, 984, .inl (fun q => nI (H q)))), (mo 5, .inl (G.2.1, 246, .inl (fun q => nI (sf q)))), (mo 6, .inl (G.2.1, 40, .inl (fun q => nI (df q)))), (mo 7, .inl (G.2.1, 60, .inl (fun q => nI (xf q))))]) rfl 10 rfl (by decide) (Nat.le_of_ble_eq_true rfl) rfl dX6_writes_144 ?_
      refine J_arr 1 (fun q => nI (rowM (up2 (up2 (up2 (up2 (up2 (up2 (up2 σ 0 16 (σ 0 16 + 1)) 3 (σ 0 14) (letAt σ (σ 0 14))) 4 (σ 0 14) 0) 6 (σ 0 14) (σ 0 3 + 1)) 0 24 (σ 0 24 - (letAt σ (σ 0 14)))) 0 7 (σ 0 7 + (letAt σ (σ 0 14)))) 0 10 (σ 0 10 + 1)) q)) rfl (fun q _ => congrFun (rowM_u0 (up2 (up2 (up2 (up2 (up2 (up2 σ 0 16 (σ 0 16 + 1)) 3 (σ 0 14) (letAt σ (σ 0 14))) 4 (σ 0 14) 0) 6 (σ 0 14) (σ 0 3 + 1)) 0 24 (σ 0 24 - (letAt σ (σ 0 14)))) 0 7 (σ 0 7 + (letAt σ (σ 0 14)))) (σ 0 10 + 1) (by decide) (by decide)) q) ?_
      refine J_ws (ws' := mdW G mo (up2 (up2 (up2 (up2 (up2 (up2 (up2 σ 0 16 (σ 0 16 + 1)) 3 (σ 0 14) (letAt σ (σ 0 14))) 4 (σ 0 14) 0) 6 (σ 0 14) (σ 0 3 + 1)) 0 24 (σ 0 24 - (letAt σ (σ 0 14)))) 0 7 (σ 0 7 + (letAt σ (σ 0 14)))) 0 10 (σ 0 10 + 1)) kf tf H sf df xf hn ik tl sp rd gr) rfl ?_
      refine J_aload_n C rfl dX6_writes_145 ?_
      refine J_get C 0 0 in6 rfl rfl (by decide) k575 rfl dX6_writes_146 ?_
      refine J_bipush C 14 (by decide) dX6_writes_149 ?_
      refine J_iload_n C rfl dX6_writes_151 ?_
      refine J_iadd C dX6_writes_152 ?_
      refine J_i ((by decide) : (14 + 0 : Int32) = 14) ?_
      refine J_dup2 C rfl rfl dX6_writes_153 ?_
      refine J_iald C 1 rfl 14 rfl (by decide) (Nat.le_of_ble_eq_true rfl) dX6_writes_154 ?_
      refine J_i (rfl : (nI ((rowM (up2 (up2 (up2 (up2 (up2 (up2 (up2 σ 0 16 (σ 0 16 + 1)) 3 (σ 0 14) (letAt σ (σ 0 14))) 4 (σ 0 14) 0) 6 (σ 0 14) (σ 0 3 + 1)) 0 24 (σ 0 24 - (letAt σ (σ 0 14)))) 0 7 (σ 0 7 + (letAt σ (σ 0 14)))) 0 10 (σ 0 10 + 1))) 14) : Int32) = (nI (σ 0 14))) ?_
      refine J_iconst C 1 (by decide) dX6_writes_155 ?_
      refine J_iadd C dX6_writes_156 ?_
      refine J_i (nI_add (σ 0 14) 1 : ((nI (σ 0 14)) + 1 : Int32) = (nI (σ 0 14 + 1))) ?_
      refine J_iast C 1 ([(mo 0, .inr (6, [.ref (mo 1), .ref (mo 2), .ref (mo 3), .ref (mo 4), .int (nI hn), .ref (mo 5), .int (nI ik), .ref (mo 6), .ref (mo 7), .int (nI tl), .int (nI sp), .int (nI rd), .int gr])), (mo 1, .inl (G.2.1, 246, .inl (upd (fun q => nI ((rowM (up2 (up2 (up2 (up2 (up2 (up2 (up2 σ 0 16 (σ 0 16 + 1)) 3 (σ 0 14) (letAt σ (σ 0 14))) 4 (σ 0 14) 0) 6 (σ 0 14) (σ 0 3 + 1)) 0 24 (σ 0 24 - (letAt σ (σ 0 14)))) 0 7 (σ 0 7 + (letAt σ (σ 0 14)))) 0 10 (σ 0 10 + 1))) q)) 14 (nI (σ 0 14 + 1))))), (mo 2, .inl (G.2.1, 246, .inl (fun q => nI (kf q)))), (mo 3, .inl (G.2.1, 246, .inl (fun q => nI (tf q)))), (mo 4, .inl (G.2.1, 984, .inl (fun q => nI (H q)))), (mo 5, .inl (G.2.1, 246, .inl (fun q => nI (sf q)))), (mo 6, .inl (G.2.1, 40, .inl (fun q => nI (df q)))), (mo 7, .inl (G.2.1, 60, .inl (fun q => nI (xf q))))]) rfl 14 rfl (by decide) (Nat.le_of_ble_eq_true rfl) rfl dX6_writes_157 ?_
      refine J_arr 1 (fun q => nI (rowM (up2 (up2 (up2 (up2 (up2 (up2 (up2 (up2 σ 0 16 (σ 0 16 + 1)) 3 (σ 0 14) (letAt σ (σ 0 14))) 4 (σ 0 14) 0) 6 (σ 0 14) (σ 0 3 + 1)) 0 24 (σ 0 24 - (letAt σ (σ 0 14)))) 0 7 (σ 0 7 + (letAt σ (σ 0 14)))) 0 10 (σ 0 10 + 1)) 0 14 (σ 0 14 + 1)) q)) rfl (fun q _ => congrFun (rowM_u0 (up2 (up2 (up2 (up2 (up2 (up2 (up2 σ 0 16 (σ 0 16 + 1)) 3 (σ 0 14) (letAt σ (σ 0 14))) 4 (σ 0 14) 0) 6 (σ 0 14) (σ 0 3 + 1)) 0 24 (σ 0 24 - (letAt σ (σ 0 14)))) 0 7 (σ 0 7 + (letAt σ (σ 0 14)))) 0 10 (σ 0 10 + 1)) (σ 0 14 + 1) (by decide) (by decide)) q) ?_
      refine J_ws (ws' := mdW G mo (up2 (up2 (up2 (up2 (up2 (up2 (up2 (up2 σ 0 16 (σ 0 16 + 1)) 3 (σ 0 14) (letAt σ (σ 0 14))) 4 (σ 0 14) 0) 6 (σ 0 14) (σ 0 3 + 1)) 0 24 (σ 0 24 - (letAt σ (σ 0 14)))) 0 7 (σ 0 7 + (letAt σ (σ 0 14)))) 0 10 (σ 0 10 + 1)) 0 14 (σ 0 14 + 1)) kf tf H sf df xf hn ik tl sp rd gr) rfl ?_
      refine J_aload_n C rfl dX6_writes_158 ?_
      refine J_get C 0 0 in6 rfl rfl (by decide) k575 rfl dX6_writes_159 ?_
      refine J_bipush C 16 (by decide) dX6_writes_162 ?_
      refine J_iload_n C rfl dX6_writes_164 ?_
      refine J_iadd C dX6_writes_165 ?_
      refine J_i ((by decide) : (16 + 0 : Int32) = 16) ?_
      refine J_iconst C 0 (by decide) dX6_writes_166 ?_
      refine J_iast C 1 ([(mo 0, .inr (6, [.ref (mo 1), .ref (mo 2), .ref (mo 3), .ref (mo 4), .int (nI hn), .ref (mo 5), .int (nI ik), .ref (mo 6), .ref (mo 7), .int (nI tl), .int (nI sp), .int (nI rd), .int gr])), (mo 1, .inl (G.2.1, 246, .inl (upd (fun q => nI ((rowM (up2 (up2 (up2 (up2 (up2 (up2 (up2 (up2 σ 0 16 (σ 0 16 + 1)) 3 (σ 0 14) (letAt σ (σ 0 14))) 4 (σ 0 14) 0) 6 (σ 0 14) (σ 0 3 + 1)) 0 24 (σ 0 24 - (letAt σ (σ 0 14)))) 0 7 (σ 0 7 + (letAt σ (σ 0 14)))) 0 10 (σ 0 10 + 1)) 0 14 (σ 0 14 + 1))) q)) 16 0))), (mo 2, .inl (G.2.1, 246, .inl (fun q => nI (kf q)))), (mo 3, .inl (G.2.1, 246, .inl (fun q => nI (tf q)))), (mo 4, .inl (G.2.1, 984, .inl (fun q => nI (H q)))), (mo 5, .inl (G.2.1, 246, .inl (fun q => nI (sf q)))), (mo 6, .inl (G.2.1, 40, .inl (fun q => nI (df q)))), (mo 7, .inl (G.2.1, 60, .inl (fun q => nI (xf q))))]) rfl 16 rfl (by decide) (Nat.le_of_ble_eq_true rfl) rfl dX6_writes_167 ?_
      refine J_arr 1 (fun q => nI (rowM (up2 (up2 (up2 (up2 (up2 (up2 (up2 (up2 (up2 σ 0 16 (σ 0 16 + 1)) 3 (σ 0 14) (letAt σ (σ 0 14))) 4 (σ 0 14) 0) 6 (σ 0 14) (σ 0 3 + 1)) 0 24 (σ 0 24 - (letAt σ (σ 0 14)))) 0 7 (σ 0 7 + (letAt σ (σ 0 14)))) 0 10 (σ 0 10 + 1)) 0 14 (σ 0 14 + 1)) 0 16 0) q)) rfl (fun q _ => congrFun (rowM_u0 (up2 (up2 (up2 (up2 (up2 (up2 (up2 (up2 σ 0 16 (σ 0 16 + 1)) 3 (σ 0 14) (letAt σ (σ 0 14))) 4 (σ 0 14) 0) 6 (σ 0 14) (σ 0 3 + 1)) 0 24 (σ 0 24 - (letAt σ (σ 0 14)))) 0 7 (σ 0 7 + (letAt σ (σ 0 14)))) 0 10 (σ 0 10 + 1)) 0 14 (σ 0 14 + 1)) 0 (by decide) (by decide)) q) ?_
      refine J_ws (ws' := mdW G mo (up2 (up2 (up2 (up2 (up2 (up2 (up2 (up2 (up2 σ 0 16 (σ 0 16 + 1)) 3 (σ 0 14) (letAt σ (σ 0 14))) 4 (σ 0 14) 0) 6 (σ 0 14) (σ 0 3 + 1)) 0 24 (σ 0 24 - (letAt σ (σ 0 14)))) 0 7 (σ 0 7 + (letAt σ (σ 0 14)))) 0 10 (σ 0 10 + 1)) 0 14 (σ 0 14 + 1)) 0 16 0) kf tf H sf df xf hn ik tl sp rd gr) rfl ?_
      exact J_vret C hr dX6_writes_168 () rfl trivial (by rw [writesF_0, if_neg (by omega), wroteF_0, blotN_0, if_neg (by omega), wr_0])
    · skip
      have c83 := cv_le_f (a := (σ 0 24)) (b := (8 * (σ 7 1))) (by omega) (by omega) c83
      refine J_iconst C 1 (by decide) dX6_writes_86 ?_
      refine J_goto C 91 (by decide) dX6_writes_87 ?_
      refine J_iast C 1 ([(mo 0, .inr (6, [.ref (mo 1), .ref (mo 2), .ref (mo 3), .ref (mo 4), .int (nI hn), .ref (mo 5), .int (nI ik), .ref (mo 6), .ref (mo 7), .int (nI tl), .int (nI sp), .int (nI rd), .int gr])), (mo 1, .inl (G.2.1, 246, .inl (upd (fun q => nI ((rowM (up2 (up2 σ 0 16 (σ 0 16 + 1)) 3 (σ 0 14) (letAt σ (σ 0 14)))) q)) (126 + σ 0 14) 1))), (mo 2, .inl (G.2.1, 246, .inl (fun q => nI (kf q)))), (mo 3, .inl (G.2.1, 246, .inl (fun q => nI (tf q)))), (mo 4, .inl (G.2.1, 984, .inl (fun q => nI (H q)))), (mo 5, .inl (G.2.1, 246, .inl (fun q => nI (sf q)))), (mo 6, .inl (G.2.1, 40, .inl (fun q => nI (df q)))), (mo 7, .inl (G.2.1, 60, .inl (fun q => nI (xf q))))]) rfl (126 + σ 0 14) rfl (by omega) (Nat.le_of_ble_eq_true rfl) rfl dX6_writes_91 ?_
      refine J_arr 1 (fun q => nI (rowM (up2 (up2 (up2 σ 0 16 (σ 0 16 + 1)) 3 (σ 0 14) (letAt σ (σ 0 14))) 4 (σ 0 14) 1) q)) rfl (fun q _ => congrFun (rowM_u4 (up2 (up2 σ 0 16 (σ 0 16 + 1)) 3 (σ 0 14) (letAt σ (σ 0 14))) 1 (by omega)) q) ?_
      refine J_ws (ws' := mdW G mo (up2 (up2 (up2 σ 0 16 (σ 0 16 + 1)) 3 (σ 0 14) (letAt σ (σ 0 14))) 4 (σ 0 14) 1) kf tf H sf df xf hn ik tl sp rd gr) rfl ?_
      refine J_aload_n C rfl dX6_writes_92 ?_
      refine J_get C 0 0 in6 rfl rfl (by decide) k575 rfl dX6_writes_93 ?_
      refine J_sipush C 206 (by decide) dX6_writes_96 ?_
      refine J_iload_n C rfl dX6_writes_99 ?_
      refine J_iadd C dX6_writes_100 ?_
      refine J_i (nI_add 206 (σ 0 14) : (206 + (nI (σ 0 14)) : Int32) = (nI (206 + σ 0 14))) ?_
      refine J_aload_n C rfl dX6_writes_101 ?_
      refine J_get C 0 0 in6 rfl rfl (by decide) k575 rfl dX6_writes_102 ?_
      refine J_iconst C 3 (by decide) dX6_writes_105 ?_
      refine J_iald C 1 rfl 3 rfl (by decide) (Nat.le_of_ble_eq_true rfl) dX6_writes_106 ?_
      refine J_i (rfl : (nI ((rowM (up2 (up2 (up2 σ 0 16 (σ 0 16 + 1)) 3 (σ 0 14) (letAt σ (σ 0 14))) 4 (σ 0 14) 1)) 3) : Int32) = (nI (σ 0 3))) ?_
      refine J_iconst C 1 (by decide) dX6_writes_107 ?_
      refine J_iadd C dX6_writes_108 ?_
      refine J_i (nI_add (σ 0 3) 1 : ((nI (σ 0 3)) + 1 : Int32) = (nI (σ 0 3 + 1))) ?_
      refine J_iast C 1 ([(mo 0, .inr (6, [.ref (mo 1), .ref (mo 2), .ref (mo 3), .ref (mo 4), .int (nI hn), .ref (mo 5), .int (nI ik), .ref (mo 6), .ref (mo 7), .int (nI tl), .int (nI sp), .int (nI rd), .int gr])), (mo 1, .inl (G.2.1, 246, .inl (upd (fun q => nI ((rowM (up2 (up2 (up2 σ 0 16 (σ 0 16 + 1)) 3 (σ 0 14) (letAt σ (σ 0 14))) 4 (σ 0 14) 1)) q)) (206 + σ 0 14) (nI (σ 0 3 + 1))))), (mo 2, .inl (G.2.1, 246, .inl (fun q => nI (kf q)))), (mo 3, .inl (G.2.1, 246, .inl (fun q => nI (tf q)))), (mo 4, .inl (G.2.1, 984, .inl (fun q => nI (H q)))), (mo 5, .inl (G.2.1, 246, .inl (fun q => nI (sf q)))), (mo 6, .inl (G.2.1, 40, .inl (fun q => nI (df q)))), (mo 7, .inl (G.2.1, 60, .inl (fun q => nI (xf q))))]) rfl (206 + σ 0 14) rfl (by omega) (Nat.le_of_ble_eq_true rfl) rfl dX6_writes_109 ?_
      refine J_arr 1 (fun q => nI (rowM (up2 (up2 (up2 (up2 σ 0 16 (σ 0 16 + 1)) 3 (σ 0 14) (letAt σ (σ 0 14))) 4 (σ 0 14) 1) 6 (σ 0 14) (σ 0 3 + 1)) q)) rfl (fun q _ => congrFun (rowM_u6 (up2 (up2 (up2 σ 0 16 (σ 0 16 + 1)) 3 (σ 0 14) (letAt σ (σ 0 14))) 4 (σ 0 14) 1) (σ 0 14) (σ 0 3 + 1)) q) ?_
      refine J_ws (ws' := mdW G mo (up2 (up2 (up2 (up2 σ 0 16 (σ 0 16 + 1)) 3 (σ 0 14) (letAt σ (σ 0 14))) 4 (σ 0 14) 1) 6 (σ 0 14) (σ 0 3 + 1)) kf tf H sf df xf hn ik tl sp rd gr) rfl ?_
      refine J_aload_n C rfl dX6_writes_110 ?_
      refine J_get C 0 0 in6 rfl rfl (by decide) k575 rfl dX6_writes_111 ?_
      refine J_bipush C 24 (by decide) dX6_writes_114 ?_
      refine J_iload_n C rfl dX6_writes_116 ?_
      refine J_iadd C dX6_writes_117 ?_
      refine J_i ((by decide) : (24 + 0 : Int32) = 24) ?_
      refine J_dup2 C rfl rfl dX6_writes_118 ?_
      refine J_iald C 1 rfl 24 rfl (by decide) (Nat.le_of_ble_eq_true rfl) dX6_writes_119 ?_
      refine J_i (rfl : (nI ((rowM (up2 (up2 (up2 (up2 σ 0 16 (σ 0 16 + 1)) 3 (σ 0 14) (letAt σ (σ 0 14))) 4 (σ 0 14) 1) 6 (σ 0 14) (σ 0 3 + 1))) 24) : Int32) = (nI (σ 0 24))) ?_
      refine J_iload_n C rfl dX6_writes_120 ?_
      refine J_isub C dX6_writes_121 ?_
      refine J_i (pk_sub (a := σ 0 24) (b := letAt σ (σ 0 14)) (by omega) : ((nI (σ 0 24)) - (nI (letAt σ (σ 0 14))) : Int32) = (nI (σ 0 24 - (letAt σ (σ 0 14))))) ?_
      refine J_iast C 1 ([(mo 0, .inr (6, [.ref (mo 1), .ref (mo 2), .ref (mo 3), .ref (mo 4), .int (nI hn), .ref (mo 5), .int (nI ik), .ref (mo 6), .ref (mo 7), .int (nI tl), .int (nI sp), .int (nI rd), .int gr])), (mo 1, .inl (G.2.1, 246, .inl (upd (fun q => nI ((rowM (up2 (up2 (up2 (up2 σ 0 16 (σ 0 16 + 1)) 3 (σ 0 14) (letAt σ (σ 0 14))) 4 (σ 0 14) 1) 6 (σ 0 14) (σ 0 3 + 1))) q)) 24 (nI (σ 0 24 - (letAt σ (σ 0 14))))))), (mo 2, .inl (G.2.1, 246, .inl (fun q => nI (kf q)))), (mo 3, .inl (G.2.1, 246, .inl (fun q => nI (tf q)))), (mo 4, .inl (G.2.1, 984, .inl (fun q => nI (H q)))), (mo 5, .inl (G.2.1, 246, .inl (fun q => nI (sf q)))), (mo 6, .inl (G.2.1, 40, .inl (fun q => nI (df q)))), (mo 7, .inl (G.2.1, 60, .inl (fun q => nI (xf q))))]) rfl 24 rfl (by decide) (Nat.le_of_ble_eq_true rfl) rfl dX6_writes_122 ?_
      refine J_arr 1 (fun q => nI (rowM (up2 (up2 (up2 (up2 (up2 σ 0 16 (σ 0 16 + 1)) 3 (σ 0 14) (letAt σ (σ 0 14))) 4 (σ 0 14) 1) 6 (σ 0 14) (σ 0 3 + 1)) 0 24 (σ 0 24 - (letAt σ (σ 0 14)))) q)) rfl (fun q _ => congrFun (rowM_u0 (up2 (up2 (up2 (up2 σ 0 16 (σ 0 16 + 1)) 3 (σ 0 14) (letAt σ (σ 0 14))) 4 (σ 0 14) 1) 6 (σ 0 14) (σ 0 3 + 1)) (σ 0 24 - (letAt σ (σ 0 14))) (by decide) (by decide)) q) ?_
      refine J_ws (ws' := mdW G mo (up2 (up2 (up2 (up2 (up2 σ 0 16 (σ 0 16 + 1)) 3 (σ 0 14) (letAt σ (σ 0 14))) 4 (σ 0 14) 1) 6 (σ 0 14) (σ 0 3 + 1)) 0 24 (σ 0 24 - (letAt σ (σ 0 14)))) kf tf H sf df xf hn ik tl sp rd gr) rfl ?_
      refine J_aload_n C rfl dX6_writes_123 ?_
      refine J_get C 0 0 in6 rfl rfl (by decide) k575 rfl dX6_writes_124 ?_
      refine J_bipush C 7 (by decide) dX6_writes_127 ?_
      refine J_dup2 C rfl rfl dX6_writes_129 ?_
      refine J_iald C 1 rfl 7 rfl (by decide) (Nat.le_of_ble_eq_true rfl) dX6_writes_130 ?_
      refine J_i (rfl : (nI ((rowM (up2 (up2 (up2 (up2 (up2 σ 0 16 (σ 0 16 + 1)) 3 (σ 0 14) (letAt σ (σ 0 14))) 4 (σ 0 14) 1) 6 (σ 0 14) (σ 0 3 + 1)) 0 24 (σ 0 24 - (letAt σ (σ 0 14))))) 7) : Int32) = (nI (σ 0 7))) ?_
      refine J_iload_n C rfl dX6_writes_131 ?_
      refine J_iadd C dX6_writes_132 ?_
      refine J_i (nI_add (σ 0 7) (letAt σ (σ 0 14)) : ((nI (σ 0 7)) + (nI (letAt σ (σ 0 14))) : Int32) = (nI (σ 0 7 + (letAt σ (σ 0 14))))) ?_
      refine J_iast C 1 ([(mo 0, .inr (6, [.ref (mo 1), .ref (mo 2), .ref (mo 3), .ref (mo 4), .int (nI hn), .ref (mo 5), .int (nI ik), .ref (mo 6), .ref (mo 7), .int (nI tl), .int (nI sp), .int (nI rd), .int gr])), (mo 1, .inl (G.2.1, 246, .inl (upd (fun q => nI ((rowM (up2 (up2 (up2 (up2 (up2 σ 0 16 (σ 0 16 + 1)) 3 (σ 0 14) (letAt σ (σ 0 14))) 4 (σ 0 14) 1) 6 (σ 0 14) (σ 0 3 + 1)) 0 24 (σ 0 24 - (letAt σ (σ 0 14))))) q)) 7 (nI (σ 0 7 + (letAt σ (σ 0 14))))))), (mo 2, .inl (G.2.1, 246, .inl (fun q => nI (kf q)))), (mo 3, .inl (G.2.1, 246, .inl (fun q => nI (tf q)))), (mo 4, .inl (G.2.1, 984, .inl (fun q => nI (H q)))), (mo 5, .inl (G.2.1, 246, .inl (fun q => nI (sf q)))), (mo 6, .inl (G.2.1, 40, .inl (fun q => nI (df q)))), (mo 7, .inl (G.2.1, 60, .inl (fun q => nI (xf q))))]) rfl 7 rfl (by decide) (Nat.le_of_ble_eq_true rfl) rfl dX6_writes_133 ?_
      refine J_arr 1 (fun q => nI (rowM (up2 (up2 (up2 (up2 (up2 (up2 σ 0 16 (σ 0 16 + 1)) 3 (σ 0 14) (letAt σ (σ 0 14))) 4 (σ 0 14) 1) 6 (σ 0 14) (σ 0 3 + 1)) 0 24 (σ 0 24 - (letAt σ (σ 0 14)))) 0 7 (σ 0 7 + (letAt σ (σ 0 14)))) q)) rfl (fun q _ => congrFun (rowM_u0 (up2 (up2 (up2 (up2 (up2 σ 0 16 (σ 0 16 + 1)) 3 (σ 0 14) (letAt σ (σ 0 14))) 4 (σ 0 14) 1) 6 (σ 0 14) (σ 0 3 + 1)) 0 24 (σ 0 24 - (letAt σ (σ 0 14)))) (σ 0 7 + (letAt σ (σ 0 14))) (by decide) (by decide)) q) ?_
      refine J_ws (ws' := mdW G mo (up2 (up2 (up2 (up2 (up2 (up2 σ 0 16 (σ 0 16 + 1)) 3 (σ 0 14) (letAt σ (σ 0 14))) 4 (σ 0 14) 1) 6 (σ 0 14) (σ 0 3 + 1)) 0 24 (σ 0 24 - (letAt σ (σ 0 14)))) 0 7 (σ 0 7 + (letAt σ (σ 0 14)))) kf tf H sf df xf hn ik tl sp rd gr) rfl ?_
      refine J_aload_n C rfl dX6_writes_134 ?_
      refine J_get C 0 0 in6 rfl rfl (by decide) k575 rfl dX6_writes_135 ?_
      refine J_bipush C 10 (by decide) dX6_writes_138 ?_
      refine J_dup2 C rfl rfl dX6_writes_140 ?_
      refine J_iald C 1 rfl 10 rfl (by decide) (Nat.le_of_ble_eq_true rfl) dX6_writes_141 ?_
      refine J_i (rfl : (nI ((rowM (up2 (up2 (up2 (up2 (up2 (up2 σ 0 16 (σ 0 16 + 1)) 3 (σ 0 14) (letAt σ (σ 0 14))) 4 (σ 0 14) 1) 6 (σ 0 14) (σ 0 3 + 1)) 0 24 (σ 0 24 - (letAt σ (σ 0 14)))) 0 7 (σ 0 7 + (letAt σ (σ 0 14))))) 10) : Int32) = (nI (σ 0 10))) ?_
      refine J_iconst C 1 (by decide) dX6_writes_142 ?_
      refine J_iadd C dX6_writes_143 ?_
      refine J_i (nI_add (σ 0 10) 1 : ((nI (σ 0 10)) + 1 : Int32) = (nI (σ 0 10 + 1))) ?_
      refine J_iast C 1 ([(mo 0, .inr (6, [.ref (mo 1), .ref (mo 2), .ref (mo 3), .ref (mo 4), .int (nI hn), .ref (mo 5), .int (nI ik), .ref (mo 6), .ref (mo 7), .int (nI tl), .int (nI sp), .int (nI rd), .int gr])), (mo 1, .inl (G.2.1, 246, .inl (upd (fun q => nI ((rowM (up2 (up2 (up2 (up2 (up2 (up2 σ 0 16 (σ 0 16 + 1)) 3 (σ 0 14) (letAt σ (σ 0 14))) 4 (σ 0 14) 1) 6 (σ 0 14) (σ 0 3 + 1)) 0 24 (σ 0 24 - (letAt σ (σ 0 14)))) 0 7 (σ 0 7 + (letAt σ (σ 0 14))))) q)) 10 (nI (σ 0 10 + 1))))), (mo 2, .inl (G.2.1, 246, .inl (fun q => nI (kf q)))), (mo 3, .inl (G.2.1, 246, .inl (fun q => nI (tf q)))), (mo 4, .inl (G.2.1, 984, .inl (fun q => nI (H q)))), (mo 5, .inl (G.2.1, 246, .inl (fun q => nI (sf q)))), (mo 6, .inl (G.2.1, 40, .inl (fun q => nI (df q)))), (mo 7, .inl (G.2.1, 60, .inl (fun q => nI (xf q))))]) rfl 10 rfl (by decide) (Nat.le_of_ble_eq_true rfl) rfl dX6_writes_144 ?_
      refine J_arr 1 (fun q => nI (rowM (up2 (up2 (up2 (up2 (up2 (up2 (up2 σ 0 16 (σ 0 16 + 1)) 3 (σ 0 14) (letAt σ (σ 0 14))) 4 (σ 0 14) 1) 6 (σ 0 14) (σ 0 3 + 1)) 0 24 (σ 0 24 - (letAt σ (σ 0 14)))) 0 7 (σ 0 7 + (letAt σ (σ 0 14)))) 0 10 (σ 0 10 + 1)) q)) rfl (fun q _ => congrFun (rowM_u0 (up2 (up2 (up2 (up2 (up2 (up2 σ 0 16 (σ 0 16 + 1)) 3 (σ 0 14) (letAt σ (σ 0 14))) 4 (σ 0 14) 1) 6 (σ 0 14) (σ 0 3 + 1)) 0 24 (σ 0 24 - (letAt σ (σ 0 14)))) 0 7 (σ 0 7 + (letAt σ (σ 0 14)))) (σ 0 10 + 1) (by decide) (by decide)) q) ?_
      refine J_ws (ws' := mdW G mo (up2 (up2 (up2 (up2 (up2 (up2 (up2 σ 0 16 (σ 0 16 + 1)) 3 (σ 0 14) (letAt σ (σ 0 14))) 4 (σ 0 14) 1) 6 (σ 0 14) (σ 0 3 + 1)) 0 24 (σ 0 24 - (letAt σ (σ 0 14)))) 0 7 (σ 0 7 + (letAt σ (σ 0 14)))) 0 10 (σ 0 10 + 1)) kf tf H sf df xf hn ik tl sp rd gr) rfl ?_
      refine J_aload_n C rfl dX6_writes_145 ?_
      refine J_get C 0 0 in6 rfl rfl (by decide) k575 rfl dX6_writes_146 ?_
      refine J_bipush C 14 (by decide) dX6_writes_149 ?_
      refine J_iload_n C rfl dX6_writes_151 ?_
      refine J_iadd C dX6_writes_152 ?_
      refine J_i ((by decide) : (14 + 0 : Int32) = 14) ?_
      refine J_dup2 C rfl rfl dX6_writes_153 ?_
      refine J_iald C 1 rfl 14 rfl (by decide) (Nat.le_of_ble_eq_true rfl) dX6_writes_154 ?_
      refine J_i (rfl : (nI ((rowM (up2 (up2 (up2 (up2 (up2 (up2 (up2 σ 0 16 (σ 0 16 + 1)) 3 (σ 0 14) (letAt σ (σ 0 14))) 4 (σ 0 14) 1) 6 (σ 0 14) (σ 0 3 + 1)) 0 24 (σ 0 24 - (letAt σ (σ 0 14)))) 0 7 (σ 0 7 + (letAt σ (σ 0 14)))) 0 10 (σ 0 10 + 1))) 14) : Int32) = (nI (σ 0 14))) ?_
      refine J_iconst C 1 (by decide) dX6_writes_155 ?_
      refine J_iadd C dX6_writes_156 ?_
      refine J_i (nI_add (σ 0 14) 1 : ((nI (σ 0 14)) + 1 : Int32) = (nI (σ 0 14 + 1))) ?_
      refine J_iast C 1 ([(mo 0, .inr (6, [.ref (mo 1), .ref (mo 2), .ref (mo 3), .ref (mo 4), .int (nI hn), .ref (mo 5), .int (nI ik), .ref (mo 6), .ref (mo 7), .int (nI tl), .int (nI sp), .int (nI rd), .int gr])), (mo 1, .inl (G.2.1, 246, .inl (upd (fun q => nI ((rowM (up2 (up2 (up2 (up2 (up2 (up2 (up2 σ 0 16 (σ 0 16 + 1)) 3 (σ 0 14) (letAt σ (σ 0 14))) 4 (σ 0 14) 1) 6 (σ 0 14) (σ 0 3 + 1)) 0 24 (σ 0 24 - (letAt σ (σ 0 14)))) 0 7 (σ 0 7 + (letAt σ (σ 0 14)))) 0 10 (σ 0 10 + 1))) q)) 14 (nI (σ 0 14 + 1))))), (mo 2, .inl (G.2.1, 246, .inl (fun q => nI (kf q)))), (mo 3, .inl (G.2.1, 246, .inl (fun q => nI (tf q)))), (mo 4, .inl (G.2.1, 984, .inl (fun q => nI (H q)))), (mo 5, .inl (G.2.1, 246, .inl (fun q => nI (sf q)))), (mo 6, .inl (G.2.1, 40, .inl (fun q => nI (df q)))), (mo 7, .inl (G.2.1, 60, .inl (fun q => nI (xf q))))]) rfl 14 rfl (by decide) (Nat.le_of_ble_eq_true rfl) rfl dX6_writes_157 ?_
      refine J_arr 1 (fun q => nI (rowM (up2 (up2 (up2 (up2 (up2 (up2 (up2 (up2 σ 0 16 (σ 0 16 + 1)) 3 (σ 0 14) (letAt σ (σ 0 14))) 4 (σ 0 14) 1) 6 (σ 0 14) (σ 0 3 + 1)) 0 24 (σ 0 24 - (letAt σ (σ 0 14)))) 0 7 (σ 0 7 + (letAt σ (σ 0 14)))) 0 10 (σ 0 10 + 1)) 0 14 (σ 0 14 + 1)) q)) rfl (fun q _ => congrFun (rowM_u0 (up2 (up2 (up2 (up2 (up2 (up2 (up2 σ 0 16 (σ 0 16 + 1)) 3 (σ 0 14) (letAt σ (σ 0 14))) 4 (σ 0 14) 1) 6 (σ 0 14) (σ 0 3 + 1)) 0 24 (σ 0 24 - (letAt σ (σ 0 14)))) 0 7 (σ 0 7 + (letAt σ (σ 0 14)))) 0 10 (σ 0 10 + 1)) (σ 0 14 + 1) (by decide) (by decide)) q) ?_
      refine J_ws (ws' := mdW G mo (up2 (up2 (up2 (up2 (up2 (up2 (up2 (up2 σ 0 16 (σ 0 16 + 1)) 3 (σ 0 14) (letAt σ (σ 0 14))) 4 (σ 0 14) 1) 6 (σ 0 14) (σ 0 3 + 1)) 0 24 (σ 0 24 - (letAt σ (σ 0 14)))) 0 7 (σ 0 7 + (letAt σ (σ 0 14)))) 0 10 (σ 0 10 + 1)) 0 14 (σ 0 14 + 1)) kf tf H sf df xf hn ik tl sp rd gr) rfl ?_
      refine J_aload_n C rfl dX6_writes_158 ?_
      refine J_get C 0 0 in6 rfl rfl (by decide) k575 rfl dX6_writes_159 ?_
      refine J_bipush C 16 (by decide) dX6_writes_162 ?_
      refine J_iload_n C rfl dX6_writes_164 ?_
      refine J_iadd C dX6_writes_165 ?_
      refine J_i ((by decide) : (16 + 0 : Int32) = 16) ?_
      refine J_iconst C 0 (by decide) dX6_writes_166 ?_
      refine J_iast C 1 ([(mo 0, .inr (6, [.ref (mo 1), .ref (mo 2), .ref (mo 3), .ref (mo 4), .int (nI hn), .ref (mo 5), .int (nI ik), .ref (mo 6), .ref (mo 7), .int (nI tl), .int (nI sp), .int (nI rd), .int gr])), (mo 1, .inl (G.2.1, 246, .inl (upd (fun q => nI ((rowM (up2 (up2 (up2 (up2 (up2 (up2 (up2 (up2 σ 0 16 (σ 0 16 + 1)) 3 (σ 0 14) (letAt σ (σ 0 14))) 4 (σ 0 14) 1) 6 (σ 0 14) (σ 0 3 + 1)) 0 24 (σ 0 24 - (letAt σ (σ 0 14)))) 0 7 (σ 0 7 + (letAt σ (σ 0 14)))) 0 10 (σ 0 10 + 1)) 0 14 (σ 0 14 + 1))) q)) 16 0))), (mo 2, .inl (G.2.1, 246, .inl (fun q => nI (kf q)))), (mo 3, .inl (G.2.1, 246, .inl (fun q => nI (tf q)))), (mo 4, .inl (G.2.1, 984, .inl (fun q => nI (H q)))), (mo 5, .inl (G.2.1, 246, .inl (fun q => nI (sf q)))), (mo 6, .inl (G.2.1, 40, .inl (fun q => nI (df q)))), (mo 7, .inl (G.2.1, 60, .inl (fun q => nI (xf q))))]) rfl 16 rfl (by decide) (Nat.le_of_ble_eq_true rfl) rfl dX6_writes_167 ?_
      refine J_arr 1 (fun q => nI (rowM (up2 (up2 (up2 (up2 (up2 (up2 (up2 (up2 (up2 σ 0 16 (σ 0 16 + 1)) 3 (σ 0 14) (letAt σ (σ 0 14))) 4 (σ 0 14) 1) 6 (σ 0 14) (σ 0 3 + 1)) 0 24 (σ 0 24 - (letAt σ (σ 0 14)))) 0 7 (σ 0 7 + (letAt σ (σ 0 14)))) 0 10 (σ 0 10 + 1)) 0 14 (σ 0 14 + 1)) 0 16 0) q)) rfl (fun q _ => congrFun (rowM_u0 (up2 (up2 (up2 (up2 (up2 (up2 (up2 (up2 σ 0 16 (σ 0 16 + 1)) 3 (σ 0 14) (letAt σ (σ 0 14))) 4 (σ 0 14) 1) 6 (σ 0 14) (σ 0 3 + 1)) 0 24 (σ 0 24 - (letAt σ (σ 0 14)))) 0 7 (σ 0 7 + (letAt σ (σ 0 14)))) 0 10 (σ 0 10 + 1)) 0 14 (σ 0 14 + 1)) 0 (by decide) (by decide)) q) ?_
      refine J_ws (ws' := mdW G mo (up2 (up2 (up2 (up2 (up2 (up2 (up2 (up2 (up2 σ 0 16 (σ 0 16 + 1)) 3 (σ 0 14) (letAt σ (σ 0 14))) 4 (σ 0 14) 1) 6 (σ 0 14) (σ 0 3 + 1)) 0 24 (σ 0 24 - (letAt σ (σ 0 14)))) 0 7 (σ 0 7 + (letAt σ (σ 0 14)))) 0 10 (σ 0 10 + 1)) 0 14 (σ 0 14 + 1)) 0 16 0) kf tf H sf df xf hn ik tl sp rd gr) rfl ?_
      exact J_vret C hr dX6_writes_168 () rfl trivial (by rw [writesF_0, if_neg (by omega), wroteF_0, blotN_0, if_pos (by omega), wr_0])
  · skip
    have c31 := cv_ge_f (a := (σ 0 16 + 1)) (b := (σ 0 12)) (by omega) (by omega) c31
    exact J_vret C hr dX6_writes_34 () rfl trivial (by rw [writesF_0, if_pos (by omega)] <;> rfl)

set_option maxHeartbeats 4000000 in
set_option maxRecDepth 100000 in
theorem ct_goes0 (l : Launch) (G : GT) (mo : Nat → Nat) (σ : AS) (kf tf H sf df xf : Nat → Nat) (hn ik tl sp rd : Nat) (gr : Int32) (hI : Inv σ) : Ct (S := Unit) l G NoX yX6_goes (Wy yX6_goes cX6_goes 2 ((Option.none : Option Jvm.ClassFile.FieldType))) { frames := 3, cells := 0, slots := 0, locals := 65 } [.ref (mo 0), .int 0] (mdW G mo σ kf tf H sf df xf hn ik tl sp rd gr) (fun u => True) (fun u => none) (fun u => mdW G mo (goesF σ 0 (σ 0 3 + 1)) kf tf H sf df xf hn ik tl sp rd gr) := by
  refine Ct.of (by decide) (Nat.le_of_ble_eq_true rfl) (fun p e s m args below meth c C hr hnm hX => ?_)
  have h40 := hI.a
  have hle := doesN_le σ 0
  refine J_aload_n C rfl dX6_goes_0 ?_
  refine J_iload_n C rfl dX6_goes_1 ?_
  refine J_callV (as := [.int 0]) (rest := []) C (ct_does0 l G mo σ kf tf H sf df xf hn ik tl sp rd gr hI) (fun u => mdW G mo σ kf tf H sf df xf hn ik tl sp rd gr) [0, 1, 2, 3, 4, 5, 6, 7] [] 1 k713 k715 k23 k38 k716 rfl (by decide +kernel) ⟨Nat.le_of_ble_eq_true rfl, Nat.le_of_ble_eq_true rfl⟩ ⟨Nat.le_of_ble_eq_true rfl, Nat.le_of_ble_eq_true rfl⟩ dX6_goes_2 (Nat.le_of_ble_eq_true rfl) 0 rfl rfl rfl (by decide +kernel) (fun _ => rfl) ([]) rfl (fun _ => rfl) 8 (fun _ => rfl) (by decide +kernel) (by decide +kernel) (fun _ _ => ?_)
  refine J_st (st' := [.int (nI (doesN σ 0))]) rfl ?_
  rcases (show doesN σ 0 = 0 ∨ doesN σ 0 = 1 ∨ doesN σ 0 = 2 ∨ doesN σ 0 = 3 ∨ doesN σ 0 = 4 ∨ doesN σ 0 = 5 by omega) with hdo | hdo | hdo | hdo | hdo | hdo
  · skip
    rw [hdo]
    refine J_tableIn C 40 (by decide) (by decide) rfl (by decide) dX6_goes_5 ?_
    refine J_aload_n C rfl dX6_goes_40 ?_
    refine J_iload_n C rfl dX6_goes_41 ?_
    refine J_callV (as := [.int 0]) (rest := []) C (ct_writes0 l G mo σ kf tf H sf df xf hn ik tl sp rd gr hI ((does0_0 hI hdo).1) ((does0_0 hI hdo).2.1)) (fun u => mdW G mo (writesF σ 0 (σ 0 3 + 1)) kf tf H sf df xf hn ik tl sp rd gr) [0, 1, 2, 3, 4, 5, 6, 7] [] 1 k717 k719 k24 k38 k720 rfl (by decide +kernel) ⟨Nat.le_of_ble_eq_true rfl, Nat.le_of_ble_eq_true rfl⟩ ⟨Nat.le_of_ble_eq_true rfl, Nat.le_of_ble_eq_true rfl⟩ dX6_goes_42 (Nat.le_of_ble_eq_true rfl) 0 rfl rfl rfl (by decide +kernel) (fun _ => rfl) ([]) rfl (fun _ => rfl) 8 (fun _ => rfl) (by decide +kernel) (by decide +kernel) (fun _ _ => ?_)
    refine J_st (st' := []) rfl ?_
    refine J_goto C 90 (by decide) dX6_goes_45 ?_
    exact J_vret C hr dX6_goes_90 () rfl trivial (by rw [goesF_0, hdo] <;> rfl)
  · skip
    rw [hdo]
    refine J_tableIn C 48 (by decide) (by decide) rfl (by decide) dX6_goes_5 ?_
    refine J_aload_n C rfl dX6_goes_48 ?_
    refine J_iload_n C rfl dX6_goes_49 ?_
    refine J_callV (as := [.int 0]) (rest := []) C (ct_dips0 l G mo σ kf tf H sf df xf hn ik tl sp rd gr hI (does1_0 hdo)) (fun u => mdW G mo (dipsF σ 0) kf tf H sf df xf hn ik tl sp rd gr) [0, 1, 2, 3, 4, 5, 6, 7] [] 1 k721 k723 k25 k38 k724 rfl (by decide +kernel) ⟨Nat.le_of_ble_eq_true rfl, Nat.le_of_ble_eq_true rfl⟩ ⟨Nat.le_of_ble_eq_true rfl, Nat.le_of_ble_eq_true rfl⟩ dX6_goes_50 (Nat.le_of_ble_eq_true rfl) 0 rfl rfl rfl (by decide +kernel) (fun _ => rfl) ([]) rfl (fun _ => rfl) 8 (fun _ => rfl) (by decide +kernel) (by decide +kernel) (fun _ _ => ?_)
    refine J_st (st' := []) rfl ?_
    refine J_goto C 90 (by decide) dX6_goes_53 ?_
    exact J_vret C hr dX6_goes_90 () rfl trivial (by rw [goesF_0, hdo] <;> rfl)
  · skip
    rw [hdo]
    refine J_tableIn C 56 (by decide) (by decide) rfl (by decide) dX6_goes_5 ?_
    refine J_aload_n C rfl dX6_goes_56 ?_
    refine J_get C 0 0 in6 rfl rfl (by decide) k575 rfl dX6_goes_57 ?_
    refine J_bipush C 18 (by decide) dX6_goes_60 ?_
    refine J_iload_n C rfl dX6_goes_62 ?_
    refine J_iadd C dX6_goes_63 ?_
    refine J_i ((by decide) : (18 + 0 : Int32) = 18) ?_
    refine J_aload_n C rfl dX6_goes_64 ?_
    refine J_get C 0 0 in6 rfl rfl (by decide) k575 rfl dX6_goes_65 ?_
    refine J_iconst C 0 (by decide) dX6_goes_68 ?_
    refine J_iald C 1 rfl 0 rfl (by decide) (Nat.le_of_ble_eq_true rfl) dX6_goes_69 ?_
    refine J_i (rfl : (nI ((rowM σ) 0) : Int32) = (nI (σ 7 0))) ?_
    refine J_iast C 1 ([(mo 0, .inr (6, [.ref (mo 1), .ref (mo 2), .ref (mo 3), .ref (mo 4), .int (nI hn), .ref (mo 5), .int (nI ik), .ref (mo 6), .ref (mo 7), .int (nI tl), .int (nI sp), .int (nI rd), .int gr])), (mo 1, .inl (G.2.1, 246, .inl (upd (fun q => nI ((rowM σ) q)) 18 (nI (σ 7 0))))), (mo 2, .inl (G.2.1, 246, .inl (fun q => nI (kf q)))), (mo 3, .inl (G.2.1, 246, .inl (fun q => nI (tf q)))), (mo 4, .inl (G.2.1, 984, .inl (fun q => nI (H q)))), (mo 5, .inl (G.2.1, 246, .inl (fun q => nI (sf q)))), (mo 6, .inl (G.2.1, 40, .inl (fun q => nI (df q)))), (mo 7, .inl (G.2.1, 60, .inl (fun q => nI (xf q))))]) rfl 18 rfl (by decide) (Nat.le_of_ble_eq_true rfl) rfl dX6_goes_70 ?_
    refine J_arr 1 (fun q => nI (rowM (up2 σ 0 18 (σ 7 0)) q)) rfl (fun q _ => congrFun (rowM_u0 σ (σ 7 0) (by decide) (by decide)) q) ?_
    refine J_ws (ws' := mdW G mo (up2 σ 0 18 (σ 7 0)) kf tf H sf df xf hn ik tl sp rd gr) rfl ?_
    refine J_goto C 90 (by decide) dX6_goes_71 ?_
    exact J_vret C hr dX6_goes_90 () rfl trivial (by rw [goesF_0, hdo] <;> rfl)
  · skip
    rw [hdo]
    refine J_tableIn C 74 (by decide) (by decide) rfl (by decide) dX6_goes_5 ?_
    refine J_aload_n C rfl dX6_goes_74 ?_
    refine J_get C 0 0 in6 rfl rfl (by decide) k575 rfl dX6_goes_75 ?_
    refine J_bipush C 22 (by decide) dX6_goes_78 ?_
    refine J_iload_n C rfl dX6_goes_80 ?_
    refine J_iadd C dX6_goes_81 ?_
    refine J_i ((by decide) : (22 + 0 : Int32) = 22) ?_
    refine J_dup2 C rfl rfl dX6_goes_82 ?_
    refine J_iald C 1 rfl 22 rfl (by decide) (Nat.le_of_ble_eq_true rfl) dX6_goes_83 ?_
    refine J_i (rfl : (nI ((rowM σ) 22) : Int32) = (nI (σ 0 22))) ?_
    refine J_iconst C 1 (by decide) dX6_goes_84 ?_
    refine J_iadd C dX6_goes_85 ?_
    refine J_i (nI_add (σ 0 22) 1 : ((nI (σ 0 22)) + 1 : Int32) = (nI (σ 0 22 + 1))) ?_
    refine J_iast C 1 ([(mo 0, .inr (6, [.ref (mo 1), .ref (mo 2), .ref (mo 3), .ref (mo 4), .int (nI hn), .ref (mo 5), .int (nI ik), .ref (mo 6), .ref (mo 7), .int (nI tl), .int (nI sp), .int (nI rd), .int gr])), (mo 1, .inl (G.2.1, 246, .inl (upd (fun q => nI ((rowM σ) q)) 22 (nI (σ 0 22 + 1))))), (mo 2, .inl (G.2.1, 246, .inl (fun q => nI (kf q)))), (mo 3, .inl (G.2.1, 246, .inl (fun q => nI (tf q)))), (mo 4, .inl (G.2.1, 984, .inl (fun q => nI (H q)))), (mo 5, .inl (G.2.1, 246, .inl (fun q => nI (sf q)))), (mo 6, .inl (G.2.1, 40, .inl (fun q => nI (df q)))), (mo 7, .inl (G.2.1, 60, .inl (fun q => nI (xf q))))]) rfl 22 rfl (by decide) (Nat.le_of_ble_eq_true rfl) rfl dX6_goes_86 ?_
    refine J_arr 1 (fun q => nI (rowM (up2 σ 0 22 (σ 0 22 + 1)) q)) rfl (fun q _ => congrFun (rowM_u0 σ (σ 0 22 + 1) (by decide) (by decide)) q) ?_
    refine J_ws (ws' := mdW G mo (up2 σ 0 22 (σ 0 22 + 1)) kf tf H sf df xf hn ik tl sp rd gr) rfl ?_
    refine J_goto C 90 (by decide) dX6_goes_87 ?_
    exact J_vret C hr dX6_goes_90 () rfl trivial (by rw [goesF_0, hdo] <;> rfl)
  · skip
    rw [hdo]
    refine J_tableIn C 74 (by decide) (by decide) rfl (by decide) dX6_goes_5 ?_
    refine J_aload_n C rfl dX6_goes_74 ?_
    refine J_get C 0 0 in6 rfl rfl (by decide) k575 rfl dX6_goes_75 ?_
    refine J_bipush C 22 (by decide) dX6_goes_78 ?_
    refine J_iload_n C rfl dX6_goes_80 ?_
    refine J_iadd C dX6_goes_81 ?_
    refine J_i ((by decide) : (22 + 0 : Int32) = 22) ?_
    refine J_dup2 C rfl rfl dX6_goes_82 ?_
    refine J_iald C 1 rfl 22 rfl (by decide) (Nat.le_of_ble_eq_true rfl) dX6_goes_83 ?_
    refine J_i (rfl : (nI ((rowM σ) 22) : Int32) = (nI (σ 0 22))) ?_
    refine J_iconst C 1 (by decide) dX6_goes_84 ?_
    refine J_iadd C dX6_goes_85 ?_
    refine J_i (nI_add (σ 0 22) 1 : ((nI (σ 0 22)) + 1 : Int32) = (nI (σ 0 22 + 1))) ?_
    refine J_iast C 1 ([(mo 0, .inr (6, [.ref (mo 1), .ref (mo 2), .ref (mo 3), .ref (mo 4), .int (nI hn), .ref (mo 5), .int (nI ik), .ref (mo 6), .ref (mo 7), .int (nI tl), .int (nI sp), .int (nI rd), .int gr])), (mo 1, .inl (G.2.1, 246, .inl (upd (fun q => nI ((rowM σ) q)) 22 (nI (σ 0 22 + 1))))), (mo 2, .inl (G.2.1, 246, .inl (fun q => nI (kf q)))), (mo 3, .inl (G.2.1, 246, .inl (fun q => nI (tf q)))), (mo 4, .inl (G.2.1, 984, .inl (fun q => nI (H q)))), (mo 5, .inl (G.2.1, 246, .inl (fun q => nI (sf q)))), (mo 6, .inl (G.2.1, 40, .inl (fun q => nI (df q)))), (mo 7, .inl (G.2.1, 60, .inl (fun q => nI (xf q))))]) rfl 22 rfl (by decide) (Nat.le_of_ble_eq_true rfl) rfl dX6_goes_86 ?_
    refine J_arr 1 (fun q => nI (rowM (up2 σ 0 22 (σ 0 22 + 1)) q)) rfl (fun q _ => congrFun (rowM_u0 σ (σ 0 22 + 1) (by decide) (by decide)) q) ?_
    refine J_ws (ws' := mdW G mo (up2 σ 0 22 (σ 0 22 + 1)) kf tf H sf df xf hn ik tl sp rd gr) rfl ?_
    refine J_goto C 90 (by decide) dX6_goes_87 ?_
    exact J_vret C hr dX6_goes_90 () rfl trivial (by rw [goesF_0, hdo] <;> rfl)
  · skip
    rw [hdo]
    refine J_tableOut C 90 (by decide) (by decide) dX6_goes_5 ?_
    exact J_vret C hr dX6_goes_90 () rfl trivial (by rw [goesF_0, hdo] <;> rfl)

set_option maxHeartbeats 4000000 in
set_option maxRecDepth 100000 in
theorem ct_does1 (l : Launch) (G : GT) (mo : Nat → Nat) (σ : AS) (kf tf H sf df xf : Nat → Nat) (hn ik tl sp rd : Nat) (gr : Int32) (hI : Inv σ) : Ct (S := Unit) l G NoX yX6_does (Wy yX6_does cX6_does 3 ((Option.some Jvm.ClassFile.FieldType.int))) { frames := 2, cells := 0, slots := 0, locals := 42 } [.ref (mo 0), .int 1] (mdW G mo σ kf tf H sf df xf hn ik tl sp rd gr) (fun u => True) (fun u => some (.int (nI (doesN σ 1)))) (fun u => mdW G mo σ kf tf H sf df xf hn ik tl sp rd gr) := by
  refine Ct.of (by decide) (Nat.le_of_ble_eq_true rfl) (fun p e s m args below meth c C hr hnm hX => ?_)
  have h40 := hI.a
  have hc := hI.c
  have hi := hI.i
  have hl := hI.l
  have hr2 := hI.r
  have hs := hI.s
  refine J_aload_n C rfl dX6_does_0 ?_
  refine J_get C 0 0 in6 rfl rfl (by decide) k575 rfl dX6_does_1 ?_
  refine J_bipush C 18 (by decide) dX6_does_4 ?_
  refine J_iload_n C rfl dX6_does_6 ?_
  refine J_iadd C dX6_does_7 ?_
  refine J_i ((by decide) : (18 + 1 : Int32) = 19) ?_
  refine J_iald C 1 rfl 19 rfl (by decide) (Nat.le_of_ble_eq_true rfl) dX6_does_8 ?_
  refine J_i (rfl : (nI ((rowM σ) 19) : Int32) = (nI (σ 0 19))) ?_
  refine J_if_le C 14 (by decide) dX6_does_9 (fun c9 => ?_) (fun c9 => ?_)
  · skip
    have c9 := cv_le_t (a := (σ 0 19)) (b := 0) (by omega) (by omega) c9
    refine J_aload_n C rfl dX6_does_14 ?_
    refine J_iload_n C rfl dX6_does_15 ?_
    rcases Nat.lt_or_ge (2 * σ 0 15) (σ 0 4) with hf | hf
    · skip
      have hlt := hI.let (p := σ 0 4 - 1 - σ 0 15) (by omega)
      have hq := hI.q (q := σ 0 4 - 1 - σ 0 15) (by omega)
      refine J_callV (as := [.int 1]) (rest := []) C (ct_mNext1P l G mo σ kf tf H sf df xf hn ik tl sp rd gr (by omega) h40.2.1 hf) (fun u => mdW G mo σ kf tf H sf df xf hn ik tl sp rd gr) [0, 1, 2, 3, 4, 5, 6, 7] [] 1 k659 k661 k17 k38 k662 rfl (by decide +kernel) ⟨Nat.le_of_ble_eq_true rfl, Nat.le_of_ble_eq_true rfl⟩ ⟨Nat.le_of_ble_eq_true rfl, Nat.le_of_ble_eq_true rfl⟩ dX6_does_16 (Nat.le_of_ble_eq_true rfl) 0 rfl rfl rfl (by decide +kernel) (fun _ => rfl) ([]) rfl (fun _ => rfl) 8 (fun _ => rfl) (by decide +kernel) (by decide +kernel) (fun _ _ => ?_)
      refine J_st (st' := [.int (nI (σ 0 4 - 1 - σ 0 15))]) rfl ?_
      refine J_istore_n C [(2, .int (nI (σ 0 4 - 1 - σ 0 15))), (0, .ref (mo 0)), (1, .int 1)] (by decide) rfl dX6_does_19 ?_
      refine J_iload_n C rfl dX6_does_20 ?_
      refine J_bipush C (-5) (by decide) dX6_does_21 ?_
      refine J_icmp_ne C 28 (by decide) dX6_does_23 (fun _ => ?_) (fun h => absurd h (nI_ne5 (by omega)))
      refine J_aload_n C rfl dX6_does_28 ?_
      refine J_get C 0 0 in6 rfl rfl (by decide) k575 rfl dX6_does_29 ?_
      refine J_bipush C 24 (by decide) dX6_does_32 ?_
      refine J_iload_n C rfl dX6_does_34 ?_
      refine J_iadd C dX6_does_35 ?_
      refine J_i ((by decide) : (24 + 1 : Int32) = 25) ?_
      refine J_iald C 1 rfl 25 rfl (by decide) (Nat.le_of_ble_eq_true rfl) dX6_does_36 ?_
      refine J_i (rfl : (nI ((rowM σ) 25) : Int32) = (nI (σ 0 25))) ?_
      refine J_aload_n C rfl dX6_does_37 ?_
      refine J_iload_n C rfl dX6_does_38 ?_
      refine J_callV (as := [.int (nI (σ 0 4 - 1 - σ 0 15))]) (rest := [.int (nI (σ 0 25))]) C (ct_letAt l G mo σ kf tf H sf df xf hn ik tl sp rd gr (σ 0 4 - 1 - σ 0 15) (by omega) (by omega) hq.1) (fun u => mdW G mo σ kf tf H sf df xf hn ik tl sp rd gr) [0, 1, 2, 3, 4, 5, 6, 7] [] 1 k663 k665 k18 k38 k666 rfl (by decide +kernel) ⟨Nat.le_of_ble_eq_true rfl, Nat.le_of_ble_eq_true rfl⟩ ⟨Nat.le_of_ble_eq_true rfl, Nat.le_of_ble_eq_true rfl⟩ dX6_does_39 (Nat.le_of_ble_eq_true rfl) 0 rfl rfl rfl (by decide +kernel) (fun _ => rfl) ([]) rfl (fun _ => rfl) 8 (fun _ => rfl) (by decide +kernel) (by decide +kernel) (fun _ _ => ?_)
      refine J_st (st' := [.int (nI (letAt σ (σ 0 4 - 1 - σ 0 15))), .int (nI (σ 0 25))]) rfl ?_
      refine J_icmp_ge C 57 (by decide) dX6_does_42 (fun c42 => ?_) (fun c42 => ?_)
      · skip
        have c42 := cv_ge_t (a := (σ 0 25)) (b := (letAt σ (σ 0 4 - 1 - σ 0 15))) (by omega) (by omega) c42
        refine J_iconst C 0 (by decide) dX6_does_57 ?_
        exact J_zret C hr rfl dX6_does_58 () (by rw [show doesN σ 1 = 0 from by rw [doesN_1]; (repeat' split) <;> first | rfl | omega] <;> rfl) trivial rfl
      · skip
        have c42 := cv_ge_f (a := (σ 0 25)) (b := (letAt σ (σ 0 4 - 1 - σ 0 15))) (by omega) (by omega) c42
        refine J_aload_n C rfl dX6_does_45 ?_
        refine J_get C 0 0 in6 rfl rfl (by decide) k575 rfl dX6_does_46 ?_
        refine J_bipush C 16 (by decide) dX6_does_49 ?_
        refine J_iload_n C rfl dX6_does_51 ?_
        refine J_iadd C dX6_does_52 ?_
        refine J_i ((by decide) : (16 + 1 : Int32) = 17) ?_
        refine J_iald C 1 rfl 17 rfl (by decide) (Nat.le_of_ble_eq_true rfl) dX6_does_53 ?_
        refine J_i (rfl : (nI ((rowM σ) 17) : Int32) = (nI (σ 0 17))) ?_
        refine J_if_le C 59 (by decide) dX6_does_54 (fun c54 => ?_) (fun c54 => ?_)
        · skip
          have c54 := cv_le_t (a := (σ 0 17)) (b := 0) (by omega) (by omega) c54
          refine J_aload_n C rfl dX6_does_59 ?_
          refine J_get C 0 0 in6 rfl rfl (by decide) k575 rfl dX6_does_60 ?_
          refine J_bipush C 19 (by decide) dX6_does_63 ?_
          refine J_iload_n C rfl dX6_does_65 ?_
          refine J_isub C dX6_does_66 ?_
          refine J_i ((by decide) : (19 - 1 : Int32) = 18) ?_
          refine J_iald C 1 rfl 18 rfl (by decide) (Nat.le_of_ble_eq_true rfl) dX6_does_67 ?_
          refine J_i (rfl : (nI ((rowM σ) 18) : Int32) = (nI (σ 0 18))) ?_
          refine J_if_le C 75 (by decide) dX6_does_68 (fun c68 => ?_) (fun c68 => ?_)
          · skip
            have c68 := cv_le_t (a := (σ 0 18)) (b := 0) (by omega) (by omega) c68
            refine J_aload_n C rfl dX6_does_75 ?_
            refine J_get C 0 0 in6 rfl rfl (by decide) k575 rfl dX6_does_76 ?_
            refine J_bipush C 6 (by decide) dX6_does_79 ?_
            refine J_iald C 1 rfl 6 rfl (by decide) (Nat.le_of_ble_eq_true rfl) dX6_does_81 ?_
            refine J_i (rfl : (nI ((rowM σ) 6) : Int32) = (nI (σ 0 6))) ?_
            refine J_if_ne C 89 (by decide) dX6_does_82 (fun c82 => ?_) (fun c82 => ?_)
            · skip
              have c82 := cv_ne_t (a := (σ 0 6)) (b := 0) (by omega) (by omega) c82
              refine J_iconst C 2 (by decide) dX6_does_89 ?_
              exact J_zret C hr rfl dX6_does_90 () (by rw [show doesN σ 1 = 2 from by rw [doesN_1]; (repeat' split) <;> first | rfl | omega] <;> rfl) trivial rfl
            · skip
              have c82 := cv_ne_f (a := (σ 0 6)) (b := 0) (by omega) (by omega) c82
              refine J_iconst C 4 (by decide) dX6_does_85 ?_
              refine J_goto C 90 (by decide) dX6_does_86 ?_
              exact J_zret C hr rfl dX6_does_90 () (by rw [show doesN σ 1 = 4 from by rw [doesN_1]; (repeat' split) <;> first | rfl | omega] <;> rfl) trivial rfl
          · skip
            have c68 := cv_le_f (a := (σ 0 18)) (b := 0) (by omega) (by omega) c68
            refine J_iconst C 3 (by decide) dX6_does_71 ?_
            refine J_goto C 90 (by decide) dX6_does_72 ?_
            exact J_zret C hr rfl dX6_does_90 () (by rw [show doesN σ 1 = 3 from by rw [doesN_1]; (repeat' split) <;> first | rfl | omega] <;> rfl) trivial rfl
        · skip
          have c54 := cv_le_f (a := (σ 0 17)) (b := 0) (by omega) (by omega) c54
          refine J_iconst C 0 (by decide) dX6_does_57 ?_
          exact J_zret C hr rfl dX6_does_58 () (by rw [show doesN σ 1 = 0 from by rw [doesN_1]; (repeat' split) <;> first | rfl | omega] <;> rfl) trivial rfl
    · skip
      refine J_callV (as := [.int 1]) (rest := []) C (ct_mNext1N l G mo σ kf tf H sf df xf hn ik tl sp rd gr (by omega) h40.2.1 hf (by omega)) (fun u => mdW G mo σ kf tf H sf df xf hn ik tl sp rd gr) [0, 1, 2, 3, 4, 5, 6, 7] [] 1 k659 k661 k17 k38 k662 rfl (by decide +kernel) ⟨Nat.le_of_ble_eq_true rfl, Nat.le_of_ble_eq_true rfl⟩ ⟨Nat.le_of_ble_eq_true rfl, Nat.le_of_ble_eq_true rfl⟩ dX6_does_16 (Nat.le_of_ble_eq_true rfl) 0 rfl rfl rfl (by decide +kernel) (fun _ => rfl) ([]) rfl (fun _ => rfl) 8 (fun _ => rfl) (by decide +kernel) (by decide +kernel) (fun _ _ => ?_)
      refine J_st (st' := [.int (-5)]) rfl ?_
      refine J_istore_n C [(2, .int (-5)), (0, .ref (mo 0)), (1, .int 1)] (by decide) rfl dX6_does_19 ?_
      refine J_iload_n C rfl dX6_does_20 ?_
      refine J_bipush C (-5) (by decide) dX6_does_21 ?_
      refine J_icmp_ne C 28 (by decide) dX6_does_23 (fun h => absurd h (by decide)) (fun _ => ?_)
      refine J_iconst C 5 (by decide) dX6_does_26 ?_
      exact J_zret C hr rfl dX6_does_27 () (by rw [show doesN σ 1 = 5 from by rw [doesN_1]; (repeat' split) <;> first | rfl | omega] <;> rfl) trivial rfl
  · skip
    have c9 := cv_le_f (a := (σ 0 19)) (b := 0) (by omega) (by omega) c9
    refine J_iconst C 1 (by decide) dX6_does_12 ?_
    exact J_zret C hr rfl dX6_does_13 () (by rw [show doesN σ 1 = 1 from by rw [doesN_1]; (repeat' split) <;> first | rfl | omega] <;> rfl) trivial rfl

set_option maxHeartbeats 4000000 in
set_option maxRecDepth 100000 in
theorem ct_dips1 (l : Launch) (G : GT) (mo : Nat → Nat) (σ : AS) (kf tf H sf df xf : Nat → Nat) (hn ik tl sp rd : Nat) (gr : Int32) (hI : Inv σ) (hp : 0 < σ 0 19) : Ct (S := Unit) l G NoX yX6_dips (Wy yX6_dips cX6_dips 4 ((Option.none : Option Jvm.ClassFile.FieldType))) { frames := 0, cells := 0, slots := 0, locals := 0 } [.ref (mo 0), .int 1] (mdW G mo σ kf tf H sf df xf hn ik tl sp rd gr) (fun u => True) (fun u => none) (fun u => mdW G mo (dipsF σ 1) kf tf H sf df xf hn ik tl sp rd gr) := by
  refine Ct.of (by decide) (Nat.le_of_ble_eq_true rfl) (fun p e s m args below meth c C hr hnm hX => ?_)
  have h40 := hI.a
  have hc := hI.c
  have hi := hI.i
  have hl := hI.l
  have hr2 := hI.r
  have hs := hI.s
  refine J_aload_n C rfl dX6_dips_0 ?_
  refine J_get C 0 0 in6 rfl rfl (by decide) k575 rfl dX6_dips_1 ?_
  refine J_bipush C 18 (by decide) dX6_dips_4 ?_
  refine J_iload_n C rfl dX6_dips_6 ?_
  refine J_iadd C dX6_dips_7 ?_
  refine J_i ((by decide) : (18 + 1 : Int32) = 19) ?_
  refine J_dup2 C rfl rfl dX6_dips_8 ?_
  refine J_iald C 1 rfl 19 rfl (by decide) (Nat.le_of_ble_eq_true rfl) dX6_dips_9 ?_
  refine J_i (rfl : (nI ((rowM σ) 19) : Int32) = (nI (σ 0 19))) ?_
  refine J_iconst C 1 (by decide) dX6_dips_10 ?_
  refine J_isub C dX6_dips_11 ?_
  refine J_i (pk_sub (a := σ 0 19) (b := 1) (by omega) : ((nI (σ 0 19)) - 1 : Int32) = (nI (σ 0 19 - 1))) ?_
  refine J_iast C 1 ([(mo 0, .inr (6, [.ref (mo 1), .ref (mo 2), .ref (mo 3), .ref (mo 4), .int (nI hn), .ref (mo 5), .int (nI ik), .ref (mo 6), .ref (mo 7), .int (nI tl), .int (nI sp), .int (nI rd), .int gr])), (mo 1, .inl (G.2.1, 246, .inl (upd (fun q => nI ((rowM σ) q)) 19 (nI (σ 0 19 - 1))))), (mo 2, .inl (G.2.1, 246, .inl (fun q => nI (kf q)))), (mo 3, .inl (G.2.1, 246, .inl (fun q => nI (tf q)))), (mo 4, .inl (G.2.1, 984, .inl (fun q => nI (H q)))), (mo 5, .inl (G.2.1, 246, .inl (fun q => nI (sf q)))), (mo 6, .inl (G.2.1, 40, .inl (fun q => nI (df q)))), (mo 7, .inl (G.2.1, 60, .inl (fun q => nI (xf q))))]) rfl 19 rfl (by decide) (Nat.le_of_ble_eq_true rfl) rfl dX6_dips_12 ?_
  refine J_arr 1 (fun q => nI (rowM (up2 σ 0 19 (σ 0 19 - 1)) q)) rfl (fun q _ => congrFun (rowM_u0 σ (σ 0 19 - 1) (by decide) (by decide)) q) ?_
  refine J_ws (ws' := mdW G mo (up2 σ 0 19 (σ 0 19 - 1)) kf tf H sf df xf hn ik tl sp rd gr) rfl ?_
  refine J_aload_n C rfl dX6_dips_13 ?_
  refine J_get C 0 0 in6 rfl rfl (by decide) k575 rfl dX6_dips_14 ?_
  refine J_bipush C 18 (by decide) dX6_dips_17 ?_
  refine J_iload_n C rfl dX6_dips_19 ?_
  refine J_iadd C dX6_dips_20 ?_
  refine J_i ((by decide) : (18 + 1 : Int32) = 19) ?_
  refine J_iald C 1 rfl 19 rfl (by decide) (Nat.le_of_ble_eq_true rfl) dX6_dips_21 ?_
  refine J_i (rfl : (nI ((rowM (up2 σ 0 19 (σ 0 19 - 1))) 19) : Int32) = (nI (σ 0 19 - 1))) ?_
  refine J_if_ne C 98 (by decide) dX6_dips_22 (fun c22 => ?_) (fun c22 => ?_)
  · skip
    have c22 := cv_ne_t (a := (σ 0 19 - 1)) (b := 0) (by omega) (by omega) c22
    exact J_vret C hr dX6_dips_98 () rfl trivial (by rw [dipsF_1, if_neg (by omega)] <;> rfl)
  · skip
    have c22 := cv_ne_f (a := (σ 0 19 - 1)) (b := 0) (by omega) (by omega) c22
    refine J_bipush C 64 (by decide) dX6_dips_25 ?_
    refine J_aload_n C rfl dX6_dips_27 ?_
    refine J_get C 0 0 in6 rfl rfl (by decide) k575 rfl dX6_dips_28 ?_
    refine J_bipush C 24 (by decide) dX6_dips_31 ?_
    refine J_iload_n C rfl dX6_dips_33 ?_
    refine J_iadd C dX6_dips_34 ?_
    refine J_i ((by decide) : (24 + 1 : Int32) = 25) ?_
    refine J_iald C 1 rfl 25 rfl (by decide) (Nat.le_of_ble_eq_true rfl) dX6_dips_35 ?_
    refine J_i (rfl : (nI ((rowM (up2 σ 0 19 (σ 0 19 - 1))) 25) : Int32) = (nI (σ 0 25))) ?_
    refine J_isub C dX6_dips_36 ?_
    refine J_i (pk_sub (a := 64) (b := σ 0 25) (by omega) : (64 - (nI (σ 0 25)) : Int32) = (nI (64 - (σ 0 25)))) ?_
    refine J_istore_n C [(2, .int (nI (64 - (σ 0 25)))), (0, .ref (mo 0)), (1, .int 1)] (by decide) rfl dX6_dips_37 ?_
    refine J_iload_n C rfl dX6_dips_38 ?_
    refine J_aload_n C rfl dX6_dips_39 ?_
    refine J_get C 0 0 in6 rfl rfl (by decide) k575 rfl dX6_dips_40 ?_
    refine J_bipush C 6 (by decide) dX6_dips_43 ?_
    refine J_iald C 1 rfl 6 rfl (by decide) (Nat.le_of_ble_eq_true rfl) dX6_dips_45 ?_
    refine J_i (rfl : (nI ((rowM (up2 σ 0 19 (σ 0 19 - 1))) 6) : Int32) = (nI (σ 0 6))) ?_
    refine J_icmp_ge C 53 (by decide) dX6_dips_46 (fun c46 => ?_) (fun c46 => ?_)
    · skip
      have c46 := cv_ge_t (a := (64 - (σ 0 25))) (b := (σ 0 6)) (by omega) (by omega) c46
      refine J_aload_n C rfl dX6_dips_53 ?_
      refine J_get C 0 0 in6 rfl rfl (by decide) k575 rfl dX6_dips_54 ?_
      refine J_bipush C 6 (by decide) dX6_dips_57 ?_
      refine J_iald C 1 rfl 6 rfl (by decide) (Nat.le_of_ble_eq_true rfl) dX6_dips_59 ?_
      refine J_i (rfl : (nI ((rowM (up2 σ 0 19 (σ 0 19 - 1))) 6) : Int32) = (nI (σ 0 6))) ?_
      refine J_istore_n C [(3, .int (nI (σ 0 6))), (2, .int (nI (64 - (σ 0 25)))), (0, .ref (mo 0)), (1, .int 1)] (by decide) rfl dX6_dips_60 ?_
      refine J_aload_n C rfl dX6_dips_61 ?_
      refine J_get C 0 0 in6 rfl rfl (by decide) k575 rfl dX6_dips_62 ?_
      refine J_bipush C 24 (by decide) dX6_dips_65 ?_
      refine J_iload_n C rfl dX6_dips_67 ?_
      refine J_iadd C dX6_dips_68 ?_
      refine J_i ((by decide) : (24 + 1 : Int32) = 25) ?_
      refine J_dup2 C rfl rfl dX6_dips_69 ?_
      refine J_iald C 1 rfl 25 rfl (by decide) (Nat.le_of_ble_eq_true rfl) dX6_dips_70 ?_
      refine J_i (rfl : (nI ((rowM (up2 σ 0 19 (σ 0 19 - 1))) 25) : Int32) = (nI (σ 0 25))) ?_
      refine J_iload_n C rfl dX6_dips_71 ?_
      refine J_iadd C dX6_dips_72 ?_
      refine J_i (nI_add (σ 0 25) (σ 0 6) : ((nI (σ 0 25)) + (nI (σ 0 6)) : Int32) = (nI (σ 0 25 + σ 0 6))) ?_
      refine J_iast C 1 ([(mo 0, .inr (6, [.ref (mo 1), .ref (mo 2), .ref (mo 3), .ref (mo 4), .int (nI hn), .ref (mo 5), .int (nI ik), .ref (mo 6), .ref (mo 7), .int (nI tl), .int (nI sp), .int (nI rd), .int gr])), (mo 1, .inl (G.2.1, 246, .inl (upd (fun q => nI ((rowM (up2 σ 0 19 (σ 0 19 - 1))) q)) 25 (nI (σ 0 25 + σ 0 6))))), (mo 2, .inl (G.2.1, 246, .inl (fun q => nI (kf q)))), (mo 3, .inl (G.2.1, 246, .inl (fun q => nI (tf q)))), (mo 4, .inl (G.2.1, 984, .inl (fun q => nI (H q)))), (mo 5, .inl (G.2.1, 246, .inl (fun q => nI (sf q)))), (mo 6, .inl (G.2.1, 40, .inl (fun q => nI (df q)))), (mo 7, .inl (G.2.1, 60, .inl (fun q => nI (xf q))))]) rfl 25 rfl (by decide) (Nat.le_of_ble_eq_true rfl) rfl dX6_dips_73 ?_
      refine J_arr 1 (fun q => nI (rowM (up2 (up2 σ 0 19 (σ 0 19 - 1)) 0 25 (σ 0 25 + σ 0 6)) q)) rfl (fun q _ => congrFun (rowM_u0 (up2 σ 0 19 (σ 0 19 - 1)) (σ 0 25 + σ 0 6) (by decide) (by decide)) q) ?_
      refine J_ws (ws' := mdW G mo (up2 (up2 σ 0 19 (σ 0 19 - 1)) 0 25 (σ 0 25 + σ 0 6)) kf tf H sf df xf hn ik tl sp rd gr) rfl ?_
      refine J_aload_n C rfl dX6_dips_74 ?_
      refine J_get C 0 0 in6 rfl rfl (by decide) k575 rfl dX6_dips_75 ?_
      refine J_bipush C 6 (by decide) dX6_dips_78 ?_
      refine J_dup2 C rfl rfl dX6_dips_80 ?_
      refine J_iald C 1 rfl 6 rfl (by decide) (Nat.le_of_ble_eq_true rfl) dX6_dips_81 ?_
      refine J_i (rfl : (nI ((rowM (up2 (up2 σ 0 19 (σ 0 19 - 1)) 0 25 (σ 0 25 + σ 0 6))) 6) : Int32) = (nI (σ 0 6))) ?_
      refine J_iload_n C rfl dX6_dips_82 ?_
      refine J_isub C dX6_dips_83 ?_
      refine J_i (pk_sub (a := σ 0 6) (b := σ 0 6) (by omega) : ((nI (σ 0 6)) - (nI (σ 0 6)) : Int32) = (nI (σ 0 6 - (σ 0 6)))) ?_
      refine J_iast C 1 ([(mo 0, .inr (6, [.ref (mo 1), .ref (mo 2), .ref (mo 3), .ref (mo 4), .int (nI hn), .ref (mo 5), .int (nI ik), .ref (mo 6), .ref (mo 7), .int (nI tl), .int (nI sp), .int (nI rd), .int gr])), (mo 1, .inl (G.2.1, 246, .inl (upd (fun q => nI ((rowM (up2 (up2 σ 0 19 (σ 0 19 - 1)) 0 25 (σ 0 25 + σ 0 6))) q)) 6 (nI (σ 0 6 - (σ 0 6)))))), (mo 2, .inl (G.2.1, 246, .inl (fun q => nI (kf q)))), (mo 3, .inl (G.2.1, 246, .inl (fun q => nI (tf q)))), (mo 4, .inl (G.2.1, 984, .inl (fun q => nI (H q)))), (mo 5, .inl (G.2.1, 246, .inl (fun q => nI (sf q)))), (mo 6, .inl (G.2.1, 40, .inl (fun q => nI (df q)))), (mo 7, .inl (G.2.1, 60, .inl (fun q => nI (xf q))))]) rfl 6 rfl (by decide) (Nat.le_of_ble_eq_true rfl) rfl dX6_dips_84 ?_
      refine J_arr 1 (fun q => nI (rowM (up2 (up2 (up2 σ 0 19 (σ 0 19 - 1)) 0 25 (σ 0 25 + σ 0 6)) 0 6 (σ 0 6 - (σ 0 6))) q)) rfl (fun q _ => congrFun (rowM_u0 (up2 (up2 σ 0 19 (σ 0 19 - 1)) 0 25 (σ 0 25 + σ 0 6)) (σ 0 6 - (σ 0 6)) (by decide) (by decide)) q) ?_
      refine J_ws (ws' := mdW G mo (up2 (up2 (up2 σ 0 19 (σ 0 19 - 1)) 0 25 (σ 0 25 + σ 0 6)) 0 6 (σ 0 6 - (σ 0 6))) kf tf H sf df xf hn ik tl sp rd gr) rfl ?_
      refine J_aload_n C rfl dX6_dips_85 ?_
      refine J_get C 0 0 in6 rfl rfl (by decide) k575 rfl dX6_dips_86 ?_
      refine J_bipush C 20 (by decide) dX6_dips_89 ?_
      refine J_iload_n C rfl dX6_dips_91 ?_
      refine J_iadd C dX6_dips_92 ?_
      refine J_i ((by decide) : (20 + 1 : Int32) = 21) ?_
      refine J_dup2 C rfl rfl dX6_dips_93 ?_
      refine J_iald C 1 rfl 21 rfl (by decide) (Nat.le_of_ble_eq_true rfl) dX6_dips_94 ?_
      refine J_i (rfl : (nI ((rowM (up2 (up2 (up2 σ 0 19 (σ 0 19 - 1)) 0 25 (σ 0 25 + σ 0 6)) 0 6 (σ 0 6 - (σ 0 6)))) 21) : Int32) = (nI (σ 0 21))) ?_
      refine J_iconst C 1 (by decide) dX6_dips_95 ?_
      refine J_iadd C dX6_dips_96 ?_
      refine J_i (nI_add (σ 0 21) 1 : ((nI (σ 0 21)) + 1 : Int32) = (nI (σ 0 21 + 1))) ?_
      refine J_iast C 1 ([(mo 0, .inr (6, [.ref (mo 1), .ref (mo 2), .ref (mo 3), .ref (mo 4), .int (nI hn), .ref (mo 5), .int (nI ik), .ref (mo 6), .ref (mo 7), .int (nI tl), .int (nI sp), .int (nI rd), .int gr])), (mo 1, .inl (G.2.1, 246, .inl (upd (fun q => nI ((rowM (up2 (up2 (up2 σ 0 19 (σ 0 19 - 1)) 0 25 (σ 0 25 + σ 0 6)) 0 6 (σ 0 6 - (σ 0 6)))) q)) 21 (nI (σ 0 21 + 1))))), (mo 2, .inl (G.2.1, 246, .inl (fun q => nI (kf q)))), (mo 3, .inl (G.2.1, 246, .inl (fun q => nI (tf q)))), (mo 4, .inl (G.2.1, 984, .inl (fun q => nI (H q)))), (mo 5, .inl (G.2.1, 246, .inl (fun q => nI (sf q)))), (mo 6, .inl (G.2.1, 40, .inl (fun q => nI (df q)))), (mo 7, .inl (G.2.1, 60, .inl (fun q => nI (xf q))))]) rfl 21 rfl (by decide) (Nat.le_of_ble_eq_true rfl) rfl dX6_dips_97 ?_
      refine J_arr 1 (fun q => nI (rowM (up2 (up2 (up2 (up2 σ 0 19 (σ 0 19 - 1)) 0 25 (σ 0 25 + σ 0 6)) 0 6 (σ 0 6 - (σ 0 6))) 0 21 (σ 0 21 + 1)) q)) rfl (fun q _ => congrFun (rowM_u0 (up2 (up2 (up2 σ 0 19 (σ 0 19 - 1)) 0 25 (σ 0 25 + σ 0 6)) 0 6 (σ 0 6 - (σ 0 6))) (σ 0 21 + 1) (by decide) (by decide)) q) ?_
      refine J_ws (ws' := mdW G mo (up2 (up2 (up2 (up2 σ 0 19 (σ 0 19 - 1)) 0 25 (σ 0 25 + σ 0 6)) 0 6 (σ 0 6 - (σ 0 6))) 0 21 (σ 0 21 + 1)) kf tf H sf df xf hn ik tl sp rd gr) rfl ?_
      exact J_vret C hr dX6_dips_98 () rfl trivial (by rw [dipsF_1, if_pos (by omega), show gotF σ 1 = σ 0 6 from by rw [gotF_1]; split <;> omega] <;> rfl)
    · skip
      have c46 := cv_ge_f (a := (64 - (σ 0 25))) (b := (σ 0 6)) (by omega) (by omega) c46
      refine J_iload_n C rfl dX6_dips_49 ?_
      refine J_goto C 60 (by decide) dX6_dips_50 ?_
      refine J_istore_n C [(3, .int (nI (64 - (σ 0 25)))), (2, .int (nI (64 - (σ 0 25)))), (0, .ref (mo 0)), (1, .int 1)] (by decide) rfl dX6_dips_60 ?_
      refine J_aload_n C rfl dX6_dips_61 ?_
      refine J_get C 0 0 in6 rfl rfl (by decide) k575 rfl dX6_dips_62 ?_
      refine J_bipush C 24 (by decide) dX6_dips_65 ?_
      refine J_iload_n C rfl dX6_dips_67 ?_
      refine J_iadd C dX6_dips_68 ?_
      refine J_i ((by decide) : (24 + 1 : Int32) = 25) ?_
      refine J_dup2 C rfl rfl dX6_dips_69 ?_
      refine J_iald C 1 rfl 25 rfl (by decide) (Nat.le_of_ble_eq_true rfl) dX6_dips_70 ?_
      refine J_i (rfl : (nI ((rowM (up2 σ 0 19 (σ 0 19 - 1))) 25) : Int32) = (nI (σ 0 25))) ?_
      refine J_iload_n C rfl dX6_dips_71 ?_
      refine J_iadd C dX6_dips_72 ?_
      refine J_i (nI_add (σ 0 25) (64 - (σ 0 25)) : ((nI (σ 0 25)) + (nI (64 - (σ 0 25))) : Int32) = (nI (σ 0 25 + (64 - (σ 0 25))))) ?_
      refine J_iast C 1 ([(mo 0, .inr (6, [.ref (mo 1), .ref (mo 2), .ref (mo 3), .ref (mo 4), .int (nI hn), .ref (mo 5), .int (nI ik), .ref (mo 6), .ref (mo 7), .int (nI tl), .int (nI sp), .int (nI rd), .int gr])), (mo 1, .inl (G.2.1, 246, .inl (upd (fun q => nI ((rowM (up2 σ 0 19 (σ 0 19 - 1))) q)) 25 (nI (σ 0 25 + (64 - (σ 0 25))))))), (mo 2, .inl (G.2.1, 246, .inl (fun q => nI (kf q)))), (mo 3, .inl (G.2.1, 246, .inl (fun q => nI (tf q)))), (mo 4, .inl (G.2.1, 984, .inl (fun q => nI (H q)))), (mo 5, .inl (G.2.1, 246, .inl (fun q => nI (sf q)))), (mo 6, .inl (G.2.1, 40, .inl (fun q => nI (df q)))), (mo 7, .inl (G.2.1, 60, .inl (fun q => nI (xf q))))]) rfl 25 rfl (by decide) (Nat.le_of_ble_eq_true rfl) rfl dX6_dips_73 ?_
      refine J_arr 1 (fun q => nI (rowM (up2 (up2 σ 0 19 (σ 0 19 - 1)) 0 25 (σ 0 25 + (64 - (σ 0 25)))) q)) rfl (fun q _ => congrFun (rowM_u0 (up2 σ 0 19 (σ 0 19 - 1)) (σ 0 25 + (64 - (σ 0 25))) (by decide) (by decide)) q) ?_
      refine J_ws (ws' := mdW G mo (up2 (up2 σ 0 19 (σ 0 19 - 1)) 0 25 (σ 0 25 + (64 - (σ 0 25)))) kf tf H sf df xf hn ik tl sp rd gr) rfl ?_
      refine J_aload_n C rfl dX6_dips_74 ?_
      refine J_get C 0 0 in6 rfl rfl (by decide) k575 rfl dX6_dips_75 ?_
      refine J_bipush C 6 (by decide) dX6_dips_78 ?_
      refine J_dup2 C rfl rfl dX6_dips_80 ?_
      refine J_iald C 1 rfl 6 rfl (by decide) (Nat.le_of_ble_eq_true rfl) dX6_dips_81 ?_
      refine J_i (rfl : (nI ((rowM (up2 (up2 σ 0 19 (σ 0 19 - 1)) 0 25 (σ 0 25 + (64 - (σ 0 25))))) 6) : Int32) = (nI (σ 0 6))) ?_
      refine J_iload_n C rfl dX6_dips_82 ?_
      refine J_isub C dX6_dips_83 ?_
      refine J_i (pk_sub (a := σ 0 6) (b := 64 - (σ 0 25)) (by omega) : ((nI (σ 0 6)) - (nI (64 - (σ 0 25))) : Int32) = (nI (σ 0 6 - (64 - (σ 0 25))))) ?_
      refine J_iast C 1 ([(mo 0, .inr (6, [.ref (mo 1), .ref (mo 2), .ref (mo 3), .ref (mo 4), .int (nI hn), .ref (mo 5), .int (nI ik), .ref (mo 6), .ref (mo 7), .int (nI tl), .int (nI sp), .int (nI rd), .int gr])), (mo 1, .inl (G.2.1, 246, .inl (upd (fun q => nI ((rowM (up2 (up2 σ 0 19 (σ 0 19 - 1)) 0 25 (σ 0 25 + (64 - (σ 0 25))))) q)) 6 (nI (σ 0 6 - (64 - (σ 0 25))))))), (mo 2, .inl (G.2.1, 246, .inl (fun q => nI (kf q)))), (mo 3, .inl (G.2.1, 246, .inl (fun q => nI (tf q)))), (mo 4, .inl (G.2.1, 984, .inl (fun q => nI (H q)))), (mo 5, .inl (G.2.1, 246, .inl (fun q => nI (sf q)))), (mo 6, .inl (G.2.1, 40, .inl (fun q => nI (df q)))), (mo 7, .inl (G.2.1, 60, .inl (fun q => nI (xf q))))]) rfl 6 rfl (by decide) (Nat.le_of_ble_eq_true rfl) rfl dX6_dips_84 ?_
      refine J_arr 1 (fun q => nI (rowM (up2 (up2 (up2 σ 0 19 (σ 0 19 - 1)) 0 25 (σ 0 25 + (64 - (σ 0 25)))) 0 6 (σ 0 6 - (64 - (σ 0 25)))) q)) rfl (fun q _ => congrFun (rowM_u0 (up2 (up2 σ 0 19 (σ 0 19 - 1)) 0 25 (σ 0 25 + (64 - (σ 0 25)))) (σ 0 6 - (64 - (σ 0 25))) (by decide) (by decide)) q) ?_
      refine J_ws (ws' := mdW G mo (up2 (up2 (up2 σ 0 19 (σ 0 19 - 1)) 0 25 (σ 0 25 + (64 - (σ 0 25)))) 0 6 (σ 0 6 - (64 - (σ 0 25)))) kf tf H sf df xf hn ik tl sp rd gr) rfl ?_
      refine J_aload_n C rfl dX6_dips_85 ?_
      refine J_get C 0 0 in6 rfl rfl (by decide) k575 rfl dX6_dips_86 ?_
      refine J_bipush C 20 (by decide) dX6_dips_89 ?_
      refine J_iload_n C rfl dX6_dips_91 ?_
      refine J_iadd C dX6_dips_92 ?_
      refine J_i ((by decide) : (20 + 1 : Int32) = 21) ?_
      refine J_dup2 C rfl rfl dX6_dips_93 ?_
      refine J_iald C 1 rfl 21 rfl (by decide) (Nat.le_of_ble_eq_true rfl) dX6_dips_94 ?_
      refine J_i (rfl : (nI ((rowM (up2 (up2 (up2 σ 0 19 (σ 0 19 - 1)) 0 25 (σ 0 25 + (64 - (σ 0 25)))) 0 6 (σ 0 6 - (64 - (σ 0 25))))) 21) : Int32) = (nI (σ 0 21))) ?_
      refine J_iconst C 1 (by decide) dX6_dips_95 ?_
      refine J_iadd C dX6_dips_96 ?_
      refine J_i (nI_add (σ 0 21) 1 : ((nI (σ 0 21)) + 1 : Int32) = (nI (σ 0 21 + 1))) ?_
      refine J_iast C 1 ([(mo 0, .inr (6, [.ref (mo 1), .ref (mo 2), .ref (mo 3), .ref (mo 4), .int (nI hn), .ref (mo 5), .int (nI ik), .ref (mo 6), .ref (mo 7), .int (nI tl), .int (nI sp), .int (nI rd), .int gr])), (mo 1, .inl (G.2.1, 246, .inl (upd (fun q => nI ((rowM (up2 (up2 (up2 σ 0 19 (σ 0 19 - 1)) 0 25 (σ 0 25 + (64 - (σ 0 25)))) 0 6 (σ 0 6 - (64 - (σ 0 25))))) q)) 21 (nI (σ 0 21 + 1))))), (mo 2, .inl (G.2.1, 246, .inl (fun q => nI (kf q)))), (mo 3, .inl (G.2.1, 246, .inl (fun q => nI (tf q)))), (mo 4, .inl (G.2.1, 984, .inl (fun q => nI (H q)))), (mo 5, .inl (G.2.1, 246, .inl (fun q => nI (sf q)))), (mo 6, .inl (G.2.1, 40, .inl (fun q => nI (df q)))), (mo 7, .inl (G.2.1, 60, .inl (fun q => nI (xf q))))]) rfl 21 rfl (by decide) (Nat.le_of_ble_eq_true rfl) rfl dX6_dips_97 ?_
      refine J_arr 1 (fun q => nI (rowM (up2 (up2 (up2 (up2 σ 0 19 (σ 0 19 - 1)) 0 25 (σ 0 25 + (64 - (σ 0 25)))) 0 6 (σ 0 6 - (64 - (σ 0 25)))) 0 21 (σ 0 21 + 1)) q)) rfl (fun q _ => congrFun (rowM_u0 (up2 (up2 (up2 σ 0 19 (σ 0 19 - 1)) 0 25 (σ 0 25 + (64 - (σ 0 25)))) 0 6 (σ 0 6 - (64 - (σ 0 25)))) (σ 0 21 + 1) (by decide) (by decide)) q) ?_
      refine J_ws (ws' := mdW G mo (up2 (up2 (up2 (up2 σ 0 19 (σ 0 19 - 1)) 0 25 (σ 0 25 + (64 - (σ 0 25)))) 0 6 (σ 0 6 - (64 - (σ 0 25)))) 0 21 (σ 0 21 + 1)) kf tf H sf df xf hn ik tl sp rd gr) rfl ?_
      exact J_vret C hr dX6_dips_98 () rfl trivial (by rw [dipsF_1, if_pos (by omega), show gotF σ 1 = 64 - σ 0 25 from by rw [gotF_1]; split <;> omega] <;> rfl)

set_option maxHeartbeats 4000000 in
set_option maxRecDepth 100000 in
theorem ct_writes1 (l : Launch) (G : GT) (mo : Nat → Nat) (σ : AS) (kf tf H sf df xf : Nat → Nat) (hn ik tl sp rd : Nat) (gr : Int32) (hI : Inv σ) (hf : 2 * σ 0 15 < σ 0 4) (hp : letAt σ (σ 0 4 - 1 - σ 0 15) ≤ σ 0 25) : Ct (S := Unit) l G NoX yX6_writes (Wy yX6_writes cX6_writes 4 ((Option.none : Option Jvm.ClassFile.FieldType))) { frames := 2, cells := 0, slots := 0, locals := 42 } [.ref (mo 0), .int 1] (mdW G mo σ kf tf H sf df xf hn ik tl sp rd gr) (fun u => True) (fun u => none) (fun u => mdW G mo (writesF σ 1 (σ 0 3 + 1)) kf tf H sf df xf hn ik tl sp rd gr) := by
  refine Ct.of (by decide) (Nat.le_of_ble_eq_true rfl) (fun p e s m args below meth c C hr hnm hX => ?_)
  have h40 := hI.a
  have hc := hI.c
  have hi := hI.i
  have hl := hI.l
  have hr2 := hI.r
  have hs := hI.s
  have hlt := hI.let (p := σ 0 4 - 1 - σ 0 15) (by omega)
  have hq := hI.q (q := σ 0 4 - 1 - σ 0 15) (by omega)
  refine J_aload_n C rfl dX6_writes_0 ?_
  refine J_get C 0 0 in6 rfl rfl (by decide) k575 rfl dX6_writes_1 ?_
  refine J_bipush C 16 (by decide) dX6_writes_4 ?_
  refine J_iload_n C rfl dX6_writes_6 ?_
  refine J_iadd C dX6_writes_7 ?_
  refine J_i ((by decide) : (16 + 1 : Int32) = 17) ?_
  refine J_dup2 C rfl rfl dX6_writes_8 ?_
  refine J_iald C 1 rfl 17 rfl (by decide) (Nat.le_of_ble_eq_true rfl) dX6_writes_9 ?_
  refine J_i (rfl : (nI ((rowM σ) 17) : Int32) = (nI (σ 0 17))) ?_
  refine J_iconst C 1 (by decide) dX6_writes_10 ?_
  refine J_iadd C dX6_writes_11 ?_
  refine J_i (nI_add (σ 0 17) 1 : ((nI (σ 0 17)) + 1 : Int32) = (nI (σ 0 17 + 1))) ?_
  refine J_iast C 1 ([(mo 0, .inr (6, [.ref (mo 1), .ref (mo 2), .ref (mo 3), .ref (mo 4), .int (nI hn), .ref (mo 5), .int (nI ik), .ref (mo 6), .ref (mo 7), .int (nI tl), .int (nI sp), .int (nI rd), .int gr])), (mo 1, .inl (G.2.1, 246, .inl (upd (fun q => nI ((rowM σ) q)) 17 (nI (σ 0 17 + 1))))), (mo 2, .inl (G.2.1, 246, .inl (fun q => nI (kf q)))), (mo 3, .inl (G.2.1, 246, .inl (fun q => nI (tf q)))), (mo 4, .inl (G.2.1, 984, .inl (fun q => nI (H q)))), (mo 5, .inl (G.2.1, 246, .inl (fun q => nI (sf q)))), (mo 6, .inl (G.2.1, 40, .inl (fun q => nI (df q)))), (mo 7, .inl (G.2.1, 60, .inl (fun q => nI (xf q))))]) rfl 17 rfl (by decide) (Nat.le_of_ble_eq_true rfl) rfl dX6_writes_12 ?_
  refine J_arr 1 (fun q => nI (rowM (up2 σ 0 17 (σ 0 17 + 1)) q)) rfl (fun q _ => congrFun (rowM_u0 σ (σ 0 17 + 1) (by decide) (by decide)) q) ?_
  refine J_ws (ws' := mdW G mo (up2 σ 0 17 (σ 0 17 + 1)) kf tf H sf df xf hn ik tl sp rd gr) rfl ?_
  refine J_aload_n C rfl dX6_writes_13 ?_
  refine J_get C 0 0 in6 rfl rfl (by decide) k575 rfl dX6_writes_14 ?_
  refine J_bipush C 16 (by decide) dX6_writes_17 ?_
  refine J_iload_n C rfl dX6_writes_19 ?_
  refine J_iadd C dX6_writes_20 ?_
  refine J_i ((by decide) : (16 + 1 : Int32) = 17) ?_
  refine J_iald C 1 rfl 17 rfl (by decide) (Nat.le_of_ble_eq_true rfl) dX6_writes_21 ?_
  refine J_i (rfl : (nI ((rowM (up2 σ 0 17 (σ 0 17 + 1))) 17) : Int32) = (nI (σ 0 17 + 1))) ?_
  refine J_aload_n C rfl dX6_writes_22 ?_
  refine J_get C 0 0 in6 rfl rfl (by decide) k575 rfl dX6_writes_23 ?_
  refine J_bipush C 12 (by decide) dX6_writes_26 ?_
  refine J_iload_n C rfl dX6_writes_28 ?_
  refine J_iadd C dX6_writes_29 ?_
  refine J_i ((by decide) : (12 + 1 : Int32) = 13) ?_
  refine J_iald C 1 rfl 13 rfl (by decide) (Nat.le_of_ble_eq_true rfl) dX6_writes_30 ?_
  refine J_i (rfl : (nI ((rowM (up2 σ 0 17 (σ 0 17 + 1))) 13) : Int32) = (nI (σ 0 13))) ?_
  refine J_icmp_ge C 35 (by decide) dX6_writes_31 (fun c31 => ?_) (fun c31 => ?_)
  · skip
    have c31 := cv_ge_t (a := (σ 0 17 + 1)) (b := (σ 0 13)) (by omega) (by omega) c31
    refine J_aload_n C rfl dX6_writes_35 ?_
    refine J_iload_n C rfl dX6_writes_36 ?_
    refine J_callV (as := [.int 1]) (rest := []) C (ct_mNext1P l G mo (up2 σ 0 17 (σ 0 17 + 1)) kf tf H sf df xf hn ik tl sp rd gr h40.1 h40.2.1 hf) (fun u => mdW G mo (up2 σ 0 17 (σ 0 17 + 1)) kf tf H sf df xf hn ik tl sp rd gr) [0, 1, 2, 3, 4, 5, 6, 7] [] 1 k659 k661 k17 k38 k662 rfl (by decide +kernel) ⟨Nat.le_of_ble_eq_true rfl, Nat.le_of_ble_eq_true rfl⟩ ⟨Nat.le_of_ble_eq_true rfl, Nat.le_of_ble_eq_true rfl⟩ dX6_writes_37 (Nat.le_of_ble_eq_true rfl) 0 rfl rfl rfl (by decide +kernel) (fun _ => rfl) ([]) rfl (fun _ => rfl) 8 (fun _ => rfl) (by decide +kernel) (by decide +kernel) (fun _ _ => ?_)
    refine J_st (st' := [.int (nI ((up2 σ 0 17 (σ 0 17 + 1)) 0 4 - 1 - (up2 σ 0 17 (σ 0 17 + 1)) 0 15))]) rfl ?_
    refine J_i (rfl : (nI ((up2 σ 0 17 (σ 0 17 + 1)) 0 4 - 1 - (up2 σ 0 17 (σ 0 17 + 1)) 0 15) : Int32) = (nI (σ 0 4 - 1 - σ 0 15))) ?_
    refine J_istore_n C [(2, .int (nI (σ 0 4 - 1 - σ 0 15))), (0, .ref (mo 0)), (1, .int 1)] (by decide) rfl dX6_writes_40 ?_
    refine J_aload_n C rfl dX6_writes_41 ?_
    refine J_iload_n C rfl dX6_writes_42 ?_
    refine J_callV (as := [.int (nI (σ 0 4 - 1 - σ 0 15))]) (rest := []) C (ct_letAt l G mo (up2 σ 0 17 (σ 0 17 + 1)) kf tf H sf df xf hn ik tl sp rd gr (σ 0 4 - 1 - σ 0 15) h40.1 (show σ 0 4 - 1 - σ 0 15 < σ 0 4 by omega) hq.1) (fun u => mdW G mo (up2 σ 0 17 (σ 0 17 + 1)) kf tf H sf df xf hn ik tl sp rd gr) [0, 1, 2, 3, 4, 5, 6, 7] [] 1 k663 k665 k18 k38 k666 rfl (by decide +kernel) ⟨Nat.le_of_ble_eq_true rfl, Nat.le_of_ble_eq_true rfl⟩ ⟨Nat.le_of_ble_eq_true rfl, Nat.le_of_ble_eq_true rfl⟩ dX6_writes_43 (Nat.le_of_ble_eq_true rfl) 0 rfl rfl rfl (by decide +kernel) (fun _ => rfl) ([]) rfl (fun _ => rfl) 8 (fun _ => rfl) (by decide +kernel) (by decide +kernel) (fun _ _ => ?_)
    refine J_st (st' := [.int (nI (letAt (up2 σ 0 17 (σ 0 17 + 1)) (σ 0 4 - 1 - σ 0 15)))]) rfl ?_
    refine J_i (rfl : (nI (letAt (up2 σ 0 17 (σ 0 17 + 1)) (σ 0 4 - 1 - σ 0 15)) : Int32) = (nI (letAt σ (σ 0 4 - 1 - σ 0 15)))) ?_
    refine J_istore_n C [(3, .int (nI (letAt σ (σ 0 4 - 1 - σ 0 15)))), (2, .int (nI (σ 0 4 - 1 - σ 0 15))), (0, .ref (mo 0)), (1, .int 1)] (by decide) rfl dX6_writes_46 ?_
    refine J_aload_n C rfl dX6_writes_47 ?_
    refine J_get C 0 0 in6 rfl rfl (by decide) k575 rfl dX6_writes_48 ?_
    refine J_bipush C 86 (by decide) dX6_writes_51 ?_
    refine J_iload_n C rfl dX6_writes_53 ?_
    refine J_iadd C dX6_writes_54 ?_
    refine J_i (nI_add 86 (σ 0 4 - 1 - σ 0 15) : (86 + (nI (σ 0 4 - 1 - σ 0 15)) : Int32) = (nI (86 + (σ 0 4 - 1 - σ 0 15)))) ?_
    refine J_iload_n C rfl dX6_writes_55 ?_
    refine J_iast C 1 ([(mo 0, .inr (6, [.ref (mo 1), .ref (mo 2), .ref (mo 3), .ref (mo 4), .int (nI hn), .ref (mo 5), .int (nI ik), .ref (mo 6), .ref (mo 7), .int (nI tl), .int (nI sp), .int (nI rd), .int gr])), (mo 1, .inl (G.2.1, 246, .inl (upd (fun q => nI ((rowM (up2 σ 0 17 (σ 0 17 + 1))) q)) (86 + (σ 0 4 - 1 - σ 0 15)) (nI (letAt σ (σ 0 4 - 1 - σ 0 15)))))), (mo 2, .inl (G.2.1, 246, .inl (fun q => nI (kf q)))), (mo 3, .inl (G.2.1, 246, .inl (fun q => nI (tf q)))), (mo 4, .inl (G.2.1, 984, .inl (fun q => nI (H q)))), (mo 5, .inl (G.2.1, 246, .inl (fun q => nI (sf q)))), (mo 6, .inl (G.2.1, 40, .inl (fun q => nI (df q)))), (mo 7, .inl (G.2.1, 60, .inl (fun q => nI (xf q))))]) rfl (86 + (σ 0 4 - 1 - σ 0 15)) rfl (by omega) (Nat.le_of_ble_eq_true rfl) rfl dX6_writes_56 ?_
    refine J_arr 1 (fun q => nI (rowM (up2 (up2 σ 0 17 (σ 0 17 + 1)) 3 (σ 0 4 - 1 - σ 0 15) (letAt σ (σ 0 4 - 1 - σ 0 15))) q)) rfl (fun q _ => congrFun (rowM_u3 (up2 σ 0 17 (σ 0 17 + 1)) (letAt σ (σ 0 4 - 1 - σ 0 15)) (by omega)) q) ?_
    refine J_ws (ws' := mdW G mo (up2 (up2 σ 0 17 (σ 0 17 + 1)) 3 (σ 0 4 - 1 - σ 0 15) (letAt σ (σ 0 4 - 1 - σ 0 15))) kf tf H sf df xf hn ik tl sp rd gr) rfl ?_
    refine J_aload_n C rfl dX6_writes_57 ?_
    refine J_get C 0 0 in6 rfl rfl (by decide) k575 rfl dX6_writes_58 ?_
    refine J_bipush C 126 (by decide) dX6_writes_61 ?_
    refine J_iload_n C rfl dX6_writes_63 ?_
    refine J_iadd C dX6_writes_64 ?_
    refine J_i (nI_add 126 (σ 0 4 - 1 - σ 0 15) : (126 + (nI (σ 0 4 - 1 - σ 0 15)) : Int32) = (nI (126 + (σ 0 4 - 1 - σ 0 15)))) ?_
    refine J_aload_n C rfl dX6_writes_65 ?_
    refine J_get C 0 0 in6 rfl rfl (by decide) k575 rfl dX6_writes_66 ?_
    refine J_bipush C 24 (by decide) dX6_writes_69 ?_
    refine J_iload_n C rfl dX6_writes_71 ?_
    refine J_iadd C dX6_writes_72 ?_
    refine J_i ((by decide) : (24 + 1 : Int32) = 25) ?_
    refine J_iald C 1 rfl 25 rfl (by decide) (Nat.le_of_ble_eq_true rfl) dX6_writes_73 ?_
    refine J_i (rfl : (nI ((rowM (up2 (up2 σ 0 17 (σ 0 17 + 1)) 3 (σ 0 4 - 1 - σ 0 15) (letAt σ (σ 0 4 - 1 - σ 0 15)))) 25) : Int32) = (nI (σ 0 25))) ?_
    refine J_bipush C 8 (by decide) dX6_writes_74 ?_
    refine J_aload_n C rfl dX6_writes_76 ?_
    refine J_get C 0 0 in6 rfl rfl (by decide) k575 rfl dX6_writes_77 ?_
    refine J_iconst C 1 (by decide) dX6_writes_80 ?_
    refine J_iald C 1 rfl 1 rfl (by decide) (Nat.le_of_ble_eq_true rfl) dX6_writes_81 ?_
    refine J_i (rfl : (nI ((rowM (up2 (up2 σ 0 17 (σ 0 17 + 1)) 3 (σ 0 4 - 1 - σ 0 15) (letAt σ (σ 0 4 - 1 - σ 0 15)))) 1) : Int32) = (nI (σ 7 1))) ?_
    refine J_imul C dX6_writes_82 ?_
    refine J_i (pk_mul 8 (σ 7 1) : (8 * (nI (σ 7 1)) : Int32) = (nI (8 * (σ 7 1)))) ?_
    refine J_icmp_le C 90 (by decide) dX6_writes_83 (fun c83 => ?_) (fun c83 => ?_)
    · skip
      have c83 := cv_le_t (a := (σ 0 25)) (b := (8 * (σ 7 1))) (by omega) (by omega) c83
      refine J_iconst C 0 (by decide) dX6_writes_90 ?_
      refine J_iast C 1 ([(mo 0, .inr (6, [.ref (mo 1), .ref (mo 2), .ref (mo 3), .ref (mo 4), .int (nI hn), .ref (mo 5), .int (nI ik), .ref (mo 6), .ref (mo 7), .int (nI tl), .int (nI sp), .int (nI rd), .int gr])), (mo 1, .inl (G.2.1, 246, .inl (upd (fun q => nI ((rowM (up2 (up2 σ 0 17 (σ 0 17 + 1)) 3 (σ 0 4 - 1 - σ 0 15) (letAt σ (σ 0 4 - 1 - σ 0 15)))) q)) (126 + (σ 0 4 - 1 - σ 0 15)) 0))), (mo 2, .inl (G.2.1, 246, .inl (fun q => nI (kf q)))), (mo 3, .inl (G.2.1, 246, .inl (fun q => nI (tf q)))), (mo 4, .inl (G.2.1, 984, .inl (fun q => nI (H q)))), (mo 5, .inl (G.2.1, 246, .inl (fun q => nI (sf q)))), (mo 6, .inl (G.2.1, 40, .inl (fun q => nI (df q)))), (mo 7, .inl (G.2.1, 60, .inl (fun q => nI (xf q))))]) rfl (126 + (σ 0 4 - 1 - σ 0 15)) rfl (by omega) (Nat.le_of_ble_eq_true rfl) rfl dX6_writes_91 ?_
      refine J_arr 1 (fun q => nI (rowM (up2 (up2 (up2 σ 0 17 (σ 0 17 + 1)) 3 (σ 0 4 - 1 - σ 0 15) (letAt σ (σ 0 4 - 1 - σ 0 15))) 4 (σ 0 4 - 1 - σ 0 15) 0) q)) rfl (fun q _ => congrFun (rowM_u4 (up2 (up2 σ 0 17 (σ 0 17 + 1)) 3 (σ 0 4 - 1 - σ 0 15) (letAt σ (σ 0 4 - 1 - σ 0 15))) 0 (by omega)) q) ?_
      refine J_ws (ws' := mdW G mo (up2 (up2 (up2 σ 0 17 (σ 0 17 + 1)) 3 (σ 0 4 - 1 - σ 0 15) (letAt σ (σ 0 4 - 1 - σ 0 15))) 4 (σ 0 4 - 1 - σ 0 15) 0) kf tf H sf df xf hn ik tl sp rd gr) rfl ?_
      refine J_aload_n C rfl dX6_writes_92 ?_
      refine J_get C 0 0 in6 rfl rfl (by decide) k575 rfl dX6_writes_93 ?_
      refine J_sipush C 206 (by decide) dX6_writes_96 ?_
      refine J_iload_n C rfl dX6_writes_99 ?_
      refine J_iadd C dX6_writes_100 ?_
      refine J_i (nI_add 206 (σ 0 4 - 1 - σ 0 15) : (206 + (nI (σ 0 4 - 1 - σ 0 15)) : Int32) = (nI (206 + (σ 0 4 - 1 - σ 0 15)))) ?_
      refine J_aload_n C rfl dX6_writes_101 ?_
      refine J_get C 0 0 in6 rfl rfl (by decide) k575 rfl dX6_writes_102 ?_
      refine J_iconst C 3 (by decide) dX6_writes_105 ?_
      refine J_iald C 1 rfl 3 rfl (by decide) (Nat.le_of_ble_eq_true rfl) dX6_writes_106 ?_
      refine J_i (rfl : (nI ((rowM (up2 (up2 (up2 σ 0 17 (σ 0 17 + 1)) 3 (σ 0 4 - 1 - σ 0 15) (letAt σ (σ 0 4 - 1 - σ 0 15))) 4 (σ 0 4 - 1 - σ 0 15) 0)) 3) : Int32) = (nI (σ 0 3))) ?_
      refine J_iconst C 1 (by decide) dX6_writes_107 ?_
      refine J_iadd C dX6_writes_108 ?_
      refine J_i (nI_add (σ 0 3) 1 : ((nI (σ 0 3)) + 1 : Int32) = (nI (σ 0 3 + 1))) ?_
      refine J_iast C 1 ([(mo 0, .inr (6, [.ref (mo 1), .ref (mo 2), .ref (mo 3), .ref (mo 4), .int (nI hn), .ref (mo 5), .int (nI ik), .ref (mo 6), .ref (mo 7), .int (nI tl), .int (nI sp), .int (nI rd), .int gr])), (mo 1, .inl (G.2.1, 246, .inl (upd (fun q => nI ((rowM (up2 (up2 (up2 σ 0 17 (σ 0 17 + 1)) 3 (σ 0 4 - 1 - σ 0 15) (letAt σ (σ 0 4 - 1 - σ 0 15))) 4 (σ 0 4 - 1 - σ 0 15) 0)) q)) (206 + (σ 0 4 - 1 - σ 0 15)) (nI (σ 0 3 + 1))))), (mo 2, .inl (G.2.1, 246, .inl (fun q => nI (kf q)))), (mo 3, .inl (G.2.1, 246, .inl (fun q => nI (tf q)))), (mo 4, .inl (G.2.1, 984, .inl (fun q => nI (H q)))), (mo 5, .inl (G.2.1, 246, .inl (fun q => nI (sf q)))), (mo 6, .inl (G.2.1, 40, .inl (fun q => nI (df q)))), (mo 7, .inl (G.2.1, 60, .inl (fun q => nI (xf q))))]) rfl (206 + (σ 0 4 - 1 - σ 0 15)) rfl (by omega) (Nat.le_of_ble_eq_true rfl) rfl dX6_writes_109 ?_
      refine J_arr 1 (fun q => nI (rowM (up2 (up2 (up2 (up2 σ 0 17 (σ 0 17 + 1)) 3 (σ 0 4 - 1 - σ 0 15) (letAt σ (σ 0 4 - 1 - σ 0 15))) 4 (σ 0 4 - 1 - σ 0 15) 0) 6 (σ 0 4 - 1 - σ 0 15) (σ 0 3 + 1)) q)) rfl (fun q _ => congrFun (rowM_u6 (up2 (up2 (up2 σ 0 17 (σ 0 17 + 1)) 3 (σ 0 4 - 1 - σ 0 15) (letAt σ (σ 0 4 - 1 - σ 0 15))) 4 (σ 0 4 - 1 - σ 0 15) 0) (σ 0 4 - 1 - σ 0 15) (σ 0 3 + 1)) q) ?_
      refine J_ws (ws' := mdW G mo (up2 (up2 (up2 (up2 σ 0 17 (σ 0 17 + 1)) 3 (σ 0 4 - 1 - σ 0 15) (letAt σ (σ 0 4 - 1 - σ 0 15))) 4 (σ 0 4 - 1 - σ 0 15) 0) 6 (σ 0 4 - 1 - σ 0 15) (σ 0 3 + 1)) kf tf H sf df xf hn ik tl sp rd gr) rfl ?_
      refine J_aload_n C rfl dX6_writes_110 ?_
      refine J_get C 0 0 in6 rfl rfl (by decide) k575 rfl dX6_writes_111 ?_
      refine J_bipush C 24 (by decide) dX6_writes_114 ?_
      refine J_iload_n C rfl dX6_writes_116 ?_
      refine J_iadd C dX6_writes_117 ?_
      refine J_i ((by decide) : (24 + 1 : Int32) = 25) ?_
      refine J_dup2 C rfl rfl dX6_writes_118 ?_
      refine J_iald C 1 rfl 25 rfl (by decide) (Nat.le_of_ble_eq_true rfl) dX6_writes_119 ?_
      refine J_i (rfl : (nI ((rowM (up2 (up2 (up2 (up2 σ 0 17 (σ 0 17 + 1)) 3 (σ 0 4 - 1 - σ 0 15) (letAt σ (σ 0 4 - 1 - σ 0 15))) 4 (σ 0 4 - 1 - σ 0 15) 0) 6 (σ 0 4 - 1 - σ 0 15) (σ 0 3 + 1))) 25) : Int32) = (nI (σ 0 25))) ?_
      refine J_iload_n C rfl dX6_writes_120 ?_
      refine J_isub C dX6_writes_121 ?_
      refine J_i (pk_sub (a := σ 0 25) (b := letAt σ (σ 0 4 - 1 - σ 0 15)) (by omega) : ((nI (σ 0 25)) - (nI (letAt σ (σ 0 4 - 1 - σ 0 15))) : Int32) = (nI (σ 0 25 - (letAt σ (σ 0 4 - 1 - σ 0 15))))) ?_
      refine J_iast C 1 ([(mo 0, .inr (6, [.ref (mo 1), .ref (mo 2), .ref (mo 3), .ref (mo 4), .int (nI hn), .ref (mo 5), .int (nI ik), .ref (mo 6), .ref (mo 7), .int (nI tl), .int (nI sp), .int (nI rd), .int gr])), (mo 1, .inl (G.2.1, 246, .inl (upd (fun q => nI ((rowM (up2 (up2 (up2 (up2 σ 0 17 (σ 0 17 + 1)) 3 (σ 0 4 - 1 - σ 0 15) (letAt σ (σ 0 4 - 1 - σ 0 15))) 4 (σ 0 4 - 1 - σ 0 15) 0) 6 (σ 0 4 - 1 - σ 0 15) (σ 0 3 + 1))) q)) 25 (nI (σ 0 25 - (letAt σ (σ 0 4 - 1 - σ 0 15))))))), (mo 2, .inl (G.2.1, 246, .inl (fun q => nI (kf q)))), (mo 3, .inl (G.2.1, 246, .inl (fun q => nI (tf q)))), (mo 4, .inl (G.2.1, 984, .inl (fun q => nI (H q)))), (mo 5, .inl (G.2.1, 246, .inl (fun q => nI (sf q)))), (mo 6, .inl (G.2.1, 40, .inl (fun q => nI (df q)))), (mo 7, .inl (G.2.1, 60, .inl (fun q => nI (xf q))))]) rfl 25 rfl (by decide) (Nat.le_of_ble_eq_true rfl) rfl dX6_writes_122 ?_
      refine J_arr 1 (fun q => nI (rowM (up2 (up2 (up2 (up2 (up2 σ 0 17 (σ 0 17 + 1)) 3 (σ 0 4 - 1 - σ 0 15) (letAt σ (σ 0 4 - 1 - σ 0 15))) 4 (σ 0 4 - 1 - σ 0 15) 0) 6 (σ 0 4 - 1 - σ 0 15) (σ 0 3 + 1)) 0 25 (σ 0 25 - (letAt σ (σ 0 4 - 1 - σ 0 15)))) q)) rfl (fun q _ => congrFun (rowM_u0 (up2 (up2 (up2 (up2 σ 0 17 (σ 0 17 + 1)) 3 (σ 0 4 - 1 - σ 0 15) (letAt σ (σ 0 4 - 1 - σ 0 15))) 4 (σ 0 4 - 1 - σ 0 15) 0) 6 (σ 0 4 - 1 - σ 0 15) (σ 0 3 + 1)) (σ 0 25 - (letAt σ (σ 0 4 - 1 - σ 0 15))) (by decide) (by decide)) q) ?_
      refine J_ws (ws' := mdW G mo (up2 (up2 (up2 (up2 (up2 σ 0 17 (σ 0 17 + 1)) 3 (σ 0 4 - 1 - σ 0 15) (letAt σ (σ 0 4 - 1 - σ 0 15))) 4 (σ 0 4 - 1 - σ 0 15) 0) 6 (σ 0 4 - 1 - σ 0 15) (σ 0 3 + 1)) 0 25 (σ 0 25 - (letAt σ (σ 0 4 - 1 - σ 0 15)))) kf tf H sf df xf hn ik tl sp rd gr) rfl ?_
      refine J_aload_n C rfl dX6_writes_123 ?_
      refine J_get C 0 0 in6 rfl rfl (by decide) k575 rfl dX6_writes_124 ?_
      refine J_bipush C 7 (by decide) dX6_writes_127 ?_
      refine J_dup2 C rfl rfl dX6_writes_129 ?_
      refine J_iald C 1 rfl 7 rfl (by decide) (Nat.le_of_ble_eq_true rfl) dX6_writes_130 ?_
      refine J_i (rfl : (nI ((rowM (up2 (up2 (up2 (up2 (up2 σ 0 17 (σ 0 17 + 1)) 3 (σ 0 4 - 1 - σ 0 15) (letAt σ (σ 0 4 - 1 - σ 0 15))) 4 (σ 0 4 - 1 - σ 0 15) 0) 6 (σ 0 4 - 1 - σ 0 15) (σ 0 3 + 1)) 0 25 (σ 0 25 - (letAt σ (σ 0 4 - 1 - σ 0 15))))) 7) : Int32) = (nI (σ 0 7))) ?_
      refine J_iload_n C rfl dX6_writes_131 ?_
      refine J_iadd C dX6_writes_132 ?_
      refine J_i (nI_add (σ 0 7) (letAt σ (σ 0 4 - 1 - σ 0 15)) : ((nI (σ 0 7)) + (nI (letAt σ (σ 0 4 - 1 - σ 0 15))) : Int32) = (nI (σ 0 7 + (letAt σ (σ 0 4 - 1 - σ 0 15))))) ?_
      refine J_iast C 1 ([(mo 0, .inr (6, [.ref (mo 1), .ref (mo 2), .ref (mo 3), .ref (mo 4), .int (nI hn), .ref (mo 5), .int (nI ik), .ref (mo 6), .ref (mo 7), .int (nI tl), .int (nI sp), .int (nI rd), .int gr])), (mo 1, .inl (G.2.1, 246, .inl (upd (fun q => nI ((rowM (up2 (up2 (up2 (up2 (up2 σ 0 17 (σ 0 17 + 1)) 3 (σ 0 4 - 1 - σ 0 15) (letAt σ (σ 0 4 - 1 - σ 0 15))) 4 (σ 0 4 - 1 - σ 0 15) 0) 6 (σ 0 4 - 1 - σ 0 15) (σ 0 3 + 1)) 0 25 (σ 0 25 - (letAt σ (σ 0 4 - 1 - σ 0 15))))) q)) 7 (nI (σ 0 7 + (letAt σ (σ 0 4 - 1 - σ 0 15))))))), (mo 2, .inl (G.2.1, 246, .inl (fun q => nI (kf q)))), (mo 3, .inl (G.2.1, 246, .inl (fun q => nI (tf q)))), (mo 4, .inl (G.2.1, 984, .inl (fun q => nI (H q)))), (mo 5, .inl (G.2.1, 246, .inl (fun q => nI (sf q)))), (mo 6, .inl (G.2.1, 40, .inl (fun q => nI (df q)))), (mo 7, .inl (G.2.1, 60, .inl (fun q => nI (xf q))))]) rfl 7 rfl (by decide) (Nat.le_of_ble_eq_true rfl) rfl dX6_writes_133 ?_
      refine J_arr 1 (fun q => nI (rowM (up2 (up2 (up2 (up2 (up2 (up2 σ 0 17 (σ 0 17 + 1)) 3 (σ 0 4 - 1 - σ 0 15) (letAt σ (σ 0 4 - 1 - σ 0 15))) 4 (σ 0 4 - 1 - σ 0 15) 0) 6 (σ 0 4 - 1 - σ 0 15) (σ 0 3 + 1)) 0 25 (σ 0 25 - (letAt σ (σ 0 4 - 1 - σ 0 15)))) 0 7 (σ 0 7 + (letAt σ (σ 0 4 - 1 - σ 0 15)))) q)) rfl (fun q _ => congrFun (rowM_u0 (up2 (up2 (up2 (up2 (up2 σ 0 17 (σ 0 17 + 1)) 3 (σ 0 4 - 1 - σ 0 15) (letAt σ (σ 0 4 - 1 - σ 0 15))) 4 (σ 0 4 - 1 - σ 0 15) 0) 6 (σ 0 4 - 1 - σ 0 15) (σ 0 3 + 1)) 0 25 (σ 0 25 - (letAt σ (σ 0 4 - 1 - σ 0 15)))) (σ 0 7 + (letAt σ (σ 0 4 - 1 - σ 0 15))) (by decide) (by decide)) q) ?_
      refine J_ws (ws' := mdW G mo (up2 (up2 (up2 (up2 (up2 (up2 σ 0 17 (σ 0 17 + 1)) 3 (σ 0 4 - 1 - σ 0 15) (letAt σ (σ 0 4 - 1 - σ 0 15))) 4 (σ 0 4 - 1 - σ 0 15) 0) 6 (σ 0 4 - 1 - σ 0 15) (σ 0 3 + 1)) 0 25 (σ 0 25 - (letAt σ (σ 0 4 - 1 - σ 0 15)))) 0 7 (σ 0 7 + (letAt σ (σ 0 4 - 1 - σ 0 15)))) kf tf H sf df xf hn ik tl sp rd gr) rfl ?_
      refine J_aload_n C rfl dX6_writes_134 ?_
      refine J_get C 0 0 in6 rfl rfl (by decide) k575 rfl dX6_writes_135 ?_
      refine J_bipush C 10 (by decide) dX6_writes_138 ?_
      refine J_dup2 C rfl rfl dX6_writes_140 ?_
      refine J_iald C 1 rfl 10 rfl (by decide) (Nat.le_of_ble_eq_true rfl) dX6_writes_141 ?_
      refine J_i (rfl : (nI ((rowM (up2 (up2 (up2 (up2 (up2 (up2 σ 0 17 (σ 0 17 + 1)) 3 (σ 0 4 - 1 - σ 0 15) (letAt σ (σ 0 4 - 1 - σ 0 15))) 4 (σ 0 4 - 1 - σ 0 15) 0) 6 (σ 0 4 - 1 - σ 0 15) (σ 0 3 + 1)) 0 25 (σ 0 25 - (letAt σ (σ 0 4 - 1 - σ 0 15)))) 0 7 (σ 0 7 + (letAt σ (σ 0 4 - 1 - σ 0 15))))) 10) : Int32) = (nI (σ 0 10))) ?_
      refine J_iconst C 1 (by decide) dX6_writes_142 ?_
      refine J_iadd C dX6_writes_143 ?_
      refine J_i (nI_add (σ 0 10) 1 : ((nI (σ 0 10)) + 1 : Int32) = (nI (σ 0 10 + 1))) ?_
      refine J_iast C 1 ([(mo 0, .inr (6, [.ref (mo 1), .ref (mo 2), .ref (mo 3), .ref (mo 4), .int (nI hn), .ref (mo 5), .int (nI ik), .ref (mo 6), .ref (mo 7), .int (nI tl), .int (nI sp), .int (nI rd), .int gr])), (mo 1, .inl (G.2.1, 246, .inl (upd (fun q => nI ((rowM (up2 (up2 (up2 (up2 (up2 (up2 σ 0 17 (σ 0 17 + 1)) 3 (σ 0 4 - 1 - σ 0 15) (letAt σ (σ 0 4 - 1 - σ 0 15))) 4 (σ 0 4 - 1 - σ 0 15) 0) 6 (σ 0 4 - 1 - σ 0 15) (σ 0 3 + 1)) 0 25 (σ 0 25 - (letAt σ (σ 0 4 - 1 - σ 0 15)))) 0 7 (σ 0 7 + (letAt σ (σ 0 4 - 1 - σ 0 15))))) q)) 10 (nI (σ 0 10 + 1))))), (mo 2, .inl (G.2.1, 246, .inl (fun q => nI (kf q)))), (mo 3, .inl (G.2.1, 246, .inl (fun q => nI (tf q)))), (mo 4, .inl (G.2.1, 984, .inl (fun q => nI (H q)))), (mo 5, .inl (G.2.1, 246, .inl (fun q => nI (sf q)))), (mo 6, .inl (G.2.1, 40, .inl (fun q => nI (df q)))), (mo 7, .inl (G.2.1, 60, .inl (fun q => nI (xf q))))]) rfl 10 rfl (by decide) (Nat.le_of_ble_eq_true rfl) rfl dX6_writes_144 ?_
      refine J_arr 1 (fun q => nI (rowM (up2 (up2 (up2 (up2 (up2 (up2 (up2 σ 0 17 (σ 0 17 + 1)) 3 (σ 0 4 - 1 - σ 0 15) (letAt σ (σ 0 4 - 1 - σ 0 15))) 4 (σ 0 4 - 1 - σ 0 15) 0) 6 (σ 0 4 - 1 - σ 0 15) (σ 0 3 + 1)) 0 25 (σ 0 25 - (letAt σ (σ 0 4 - 1 - σ 0 15)))) 0 7 (σ 0 7 + (letAt σ (σ 0 4 - 1 - σ 0 15)))) 0 10 (σ 0 10 + 1)) q)) rfl (fun q _ => congrFun (rowM_u0 (up2 (up2 (up2 (up2 (up2 (up2 σ 0 17 (σ 0 17 + 1)) 3 (σ 0 4 - 1 - σ 0 15) (letAt σ (σ 0 4 - 1 - σ 0 15))) 4 (σ 0 4 - 1 - σ 0 15) 0) 6 (σ 0 4 - 1 - σ 0 15) (σ 0 3 + 1)) 0 25 (σ 0 25 - (letAt σ (σ 0 4 - 1 - σ 0 15)))) 0 7 (σ 0 7 + (letAt σ (σ 0 4 - 1 - σ 0 15)))) (σ 0 10 + 1) (by decide) (by decide)) q) ?_
      refine J_ws (ws' := mdW G mo (up2 (up2 (up2 (up2 (up2 (up2 (up2 σ 0 17 (σ 0 17 + 1)) 3 (σ 0 4 - 1 - σ 0 15) (letAt σ (σ 0 4 - 1 - σ 0 15))) 4 (σ 0 4 - 1 - σ 0 15) 0) 6 (σ 0 4 - 1 - σ 0 15) (σ 0 3 + 1)) 0 25 (σ 0 25 - (letAt σ (σ 0 4 - 1 - σ 0 15)))) 0 7 (σ 0 7 + (letAt σ (σ 0 4 - 1 - σ 0 15)))) 0 10 (σ 0 10 + 1)) kf tf H sf df xf hn ik tl sp rd gr) rfl ?_
      refine J_aload_n C rfl dX6_writes_145 ?_
      refine J_get C 0 0 in6 rfl rfl (by decide) k575 rfl dX6_writes_146 ?_
      refine J_bipush C 14 (by decide) dX6_writes_149 ?_
      refine J_iload_n C rfl dX6_writes_151 ?_
      refine J_iadd C dX6_writes_152 ?_
      refine J_i ((by decide) : (14 + 1 : Int32) = 15) ?_
      refine J_dup2 C rfl rfl dX6_writes_153 ?_
      refine J_iald C 1 rfl 15 rfl (by decide) (Nat.le_of_ble_eq_true rfl) dX6_writes_154 ?_
      refine J_i (rfl : (nI ((rowM (up2 (up2 (up2 (up2 (up2 (up2 (up2 σ 0 17 (σ 0 17 + 1)) 3 (σ 0 4 - 1 - σ 0 15) (letAt σ (σ 0 4 - 1 - σ 0 15))) 4 (σ 0 4 - 1 - σ 0 15) 0) 6 (σ 0 4 - 1 - σ 0 15) (σ 0 3 + 1)) 0 25 (σ 0 25 - (letAt σ (σ 0 4 - 1 - σ 0 15)))) 0 7 (σ 0 7 + (letAt σ (σ 0 4 - 1 - σ 0 15)))) 0 10 (σ 0 10 + 1))) 15) : Int32) = (nI (σ 0 15))) ?_
      refine J_iconst C 1 (by decide) dX6_writes_155 ?_
      refine J_iadd C dX6_writes_156 ?_
      refine J_i (nI_add (σ 0 15) 1 : ((nI (σ 0 15)) + 1 : Int32) = (nI (σ 0 15 + 1))) ?_
      refine J_iast C 1 ([(mo 0, .inr (6, [.ref (mo 1), .ref (mo 2), .ref (mo 3), .ref (mo 4), .int (nI hn), .ref (mo 5), .int (nI ik), .ref (mo 6), .ref (mo 7), .int (nI tl), .int (nI sp), .int (nI rd), .int gr])), (mo 1, .inl (G.2.1, 246, .inl (upd (fun q => nI ((rowM (up2 (up2 (up2 (up2 (up2 (up2 (up2 σ 0 17 (σ 0 17 + 1)) 3 (σ 0 4 - 1 - σ 0 15) (letAt σ (σ 0 4 - 1 - σ 0 15))) 4 (σ 0 4 - 1 - σ 0 15) 0) 6 (σ 0 4 - 1 - σ 0 15) (σ 0 3 + 1)) 0 25 (σ 0 25 - (letAt σ (σ 0 4 - 1 - σ 0 15)))) 0 7 (σ 0 7 + (letAt σ (σ 0 4 - 1 - σ 0 15)))) 0 10 (σ 0 10 + 1))) q)) 15 (nI (σ 0 15 + 1))))), (mo 2, .inl (G.2.1, 246, .inl (fun q => nI (kf q)))), (mo 3, .inl (G.2.1, 246, .inl (fun q => nI (tf q)))), (mo 4, .inl (G.2.1, 984, .inl (fun q => nI (H q)))), (mo 5, .inl (G.2.1, 246, .inl (fun q => nI (sf q)))), (mo 6, .inl (G.2.1, 40, .inl (fun q => nI (df q)))), (mo 7, .inl (G.2.1, 60, .inl (fun q => nI (xf q))))]) rfl 15 rfl (by decide) (Nat.le_of_ble_eq_true rfl) rfl dX6_writes_157 ?_
      refine J_arr 1 (fun q => nI (rowM (up2 (up2 (up2 (up2 (up2 (up2 (up2 (up2 σ 0 17 (σ 0 17 + 1)) 3 (σ 0 4 - 1 - σ 0 15) (letAt σ (σ 0 4 - 1 - σ 0 15))) 4 (σ 0 4 - 1 - σ 0 15) 0) 6 (σ 0 4 - 1 - σ 0 15) (σ 0 3 + 1)) 0 25 (σ 0 25 - (letAt σ (σ 0 4 - 1 - σ 0 15)))) 0 7 (σ 0 7 + (letAt σ (σ 0 4 - 1 - σ 0 15)))) 0 10 (σ 0 10 + 1)) 0 15 (σ 0 15 + 1)) q)) rfl (fun q _ => congrFun (rowM_u0 (up2 (up2 (up2 (up2 (up2 (up2 (up2 σ 0 17 (σ 0 17 + 1)) 3 (σ 0 4 - 1 - σ 0 15) (letAt σ (σ 0 4 - 1 - σ 0 15))) 4 (σ 0 4 - 1 - σ 0 15) 0) 6 (σ 0 4 - 1 - σ 0 15) (σ 0 3 + 1)) 0 25 (σ 0 25 - (letAt σ (σ 0 4 - 1 - σ 0 15)))) 0 7 (σ 0 7 + (letAt σ (σ 0 4 - 1 - σ 0 15)))) 0 10 (σ 0 10 + 1)) (σ 0 15 + 1) (by decide) (by decide)) q) ?_
      refine J_ws (ws' := mdW G mo (up2 (up2 (up2 (up2 (up2 (up2 (up2 (up2 σ 0 17 (σ 0 17 + 1)) 3 (σ 0 4 - 1 - σ 0 15) (letAt σ (σ 0 4 - 1 - σ 0 15))) 4 (σ 0 4 - 1 - σ 0 15) 0) 6 (σ 0 4 - 1 - σ 0 15) (σ 0 3 + 1)) 0 25 (σ 0 25 - (letAt σ (σ 0 4 - 1 - σ 0 15)))) 0 7 (σ 0 7 + (letAt σ (σ 0 4 - 1 - σ 0 15)))) 0 10 (σ 0 10 + 1)) 0 15 (σ 0 15 + 1)) kf tf H sf df xf hn ik tl sp rd gr) rfl ?_
      refine J_aload_n C rfl dX6_writes_158 ?_
      refine J_get C 0 0 in6 rfl rfl (by decide) k575 rfl dX6_writes_159 ?_
      refine J_bipush C 16 (by decide) dX6_writes_162 ?_
      refine J_iload_n C rfl dX6_writes_164 ?_
      refine J_iadd C dX6_writes_165 ?_
      refine J_i ((by decide) : (16 + 1 : Int32) = 17) ?_
      refine J_iconst C 0 (by decide) dX6_writes_166 ?_
      refine J_iast C 1 ([(mo 0, .inr (6, [.ref (mo 1), .ref (mo 2), .ref (mo 3), .ref (mo 4), .int (nI hn), .ref (mo 5), .int (nI ik), .ref (mo 6), .ref (mo 7), .int (nI tl), .int (nI sp), .int (nI rd), .int gr])), (mo 1, .inl (G.2.1, 246, .inl (upd (fun q => nI ((rowM (up2 (up2 (up2 (up2 (up2 (up2 (up2 (up2 σ 0 17 (σ 0 17 + 1)) 3 (σ 0 4 - 1 - σ 0 15) (letAt σ (σ 0 4 - 1 - σ 0 15))) 4 (σ 0 4 - 1 - σ 0 15) 0) 6 (σ 0 4 - 1 - σ 0 15) (σ 0 3 + 1)) 0 25 (σ 0 25 - (letAt σ (σ 0 4 - 1 - σ 0 15)))) 0 7 (σ 0 7 + (letAt σ (σ 0 4 - 1 - σ 0 15)))) 0 10 (σ 0 10 + 1)) 0 15 (σ 0 15 + 1))) q)) 17 0))), (mo 2, .inl (G.2.1, 246, .inl (fun q => nI (kf q)))), (mo 3, .inl (G.2.1, 246, .inl (fun q => nI (tf q)))), (mo 4, .inl (G.2.1, 984, .inl (fun q => nI (H q)))), (mo 5, .inl (G.2.1, 246, .inl (fun q => nI (sf q)))), (mo 6, .inl (G.2.1, 40, .inl (fun q => nI (df q)))), (mo 7, .inl (G.2.1, 60, .inl (fun q => nI (xf q))))]) rfl 17 rfl (by decide) (Nat.le_of_ble_eq_true rfl) rfl dX6_writes_167 ?_
      refine J_arr 1 (fun q => nI (rowM (up2 (up2 (up2 (up2 (up2 (up2 (up2 (up2 (up2 σ 0 17 (σ 0 17 + 1)) 3 (σ 0 4 - 1 - σ 0 15) (letAt σ (σ 0 4 - 1 - σ 0 15))) 4 (σ 0 4 - 1 - σ 0 15) 0) 6 (σ 0 4 - 1 - σ 0 15) (σ 0 3 + 1)) 0 25 (σ 0 25 - (letAt σ (σ 0 4 - 1 - σ 0 15)))) 0 7 (σ 0 7 + (letAt σ (σ 0 4 - 1 - σ 0 15)))) 0 10 (σ 0 10 + 1)) 0 15 (σ 0 15 + 1)) 0 17 0) q)) rfl (fun q _ => congrFun (rowM_u0 (up2 (up2 (up2 (up2 (up2 (up2 (up2 (up2 σ 0 17 (σ 0 17 + 1)) 3 (σ 0 4 - 1 - σ 0 15) (letAt σ (σ 0 4 - 1 - σ 0 15))) 4 (σ 0 4 - 1 - σ 0 15) 0) 6 (σ 0 4 - 1 - σ 0 15) (σ 0 3 + 1)) 0 25 (σ 0 25 - (letAt σ (σ 0 4 - 1 - σ 0 15)))) 0 7 (σ 0 7 + (letAt σ (σ 0 4 - 1 - σ 0 15)))) 0 10 (σ 0 10 + 1)) 0 15 (σ 0 15 + 1)) 0 (by decide) (by decide)) q) ?_
      refine J_ws (ws' := mdW G mo (up2 (up2 (up2 (up2 (up2 (up2 (up2 (up2 (up2 σ 0 17 (σ 0 17 + 1)) 3 (σ 0 4 - 1 - σ 0 15) (letAt σ (σ 0 4 - 1 - σ 0 15))) 4 (σ 0 4 - 1 - σ 0 15) 0) 6 (σ 0 4 - 1 - σ 0 15) (σ 0 3 + 1)) 0 25 (σ 0 25 - (letAt σ (σ 0 4 - 1 - σ 0 15)))) 0 7 (σ 0 7 + (letAt σ (σ 0 4 - 1 - σ 0 15)))) 0 10 (σ 0 10 + 1)) 0 15 (σ 0 15 + 1)) 0 17 0) kf tf H sf df xf hn ik tl sp rd gr) rfl ?_
      exact J_vret C hr dX6_writes_168 () rfl trivial (by rw [writesF_1, if_neg (by omega), wroteF_1, blotN_1, if_neg (by omega), wr_1])
    · skip
      have c83 := cv_le_f (a := (σ 0 25)) (b := (8 * (σ 7 1))) (by omega) (by omega) c83
      refine J_iconst C 1 (by decide) dX6_writes_86 ?_
      refine J_goto C 91 (by decide) dX6_writes_87 ?_
      refine J_iast C 1 ([(mo 0, .inr (6, [.ref (mo 1), .ref (mo 2), .ref (mo 3), .ref (mo 4), .int (nI hn), .ref (mo 5), .int (nI ik), .ref (mo 6), .ref (mo 7), .int (nI tl), .int (nI sp), .int (nI rd), .int gr])), (mo 1, .inl (G.2.1, 246, .inl (upd (fun q => nI ((rowM (up2 (up2 σ 0 17 (σ 0 17 + 1)) 3 (σ 0 4 - 1 - σ 0 15) (letAt σ (σ 0 4 - 1 - σ 0 15)))) q)) (126 + (σ 0 4 - 1 - σ 0 15)) 1))), (mo 2, .inl (G.2.1, 246, .inl (fun q => nI (kf q)))), (mo 3, .inl (G.2.1, 246, .inl (fun q => nI (tf q)))), (mo 4, .inl (G.2.1, 984, .inl (fun q => nI (H q)))), (mo 5, .inl (G.2.1, 246, .inl (fun q => nI (sf q)))), (mo 6, .inl (G.2.1, 40, .inl (fun q => nI (df q)))), (mo 7, .inl (G.2.1, 60, .inl (fun q => nI (xf q))))]) rfl (126 + (σ 0 4 - 1 - σ 0 15)) rfl (by omega) (Nat.le_of_ble_eq_true rfl) rfl dX6_writes_91 ?_
      refine J_arr 1 (fun q => nI (rowM (up2 (up2 (up2 σ 0 17 (σ 0 17 + 1)) 3 (σ 0 4 - 1 - σ 0 15) (letAt σ (σ 0 4 - 1 - σ 0 15))) 4 (σ 0 4 - 1 - σ 0 15) 1) q)) rfl (fun q _ => congrFun (rowM_u4 (up2 (up2 σ 0 17 (σ 0 17 + 1)) 3 (σ 0 4 - 1 - σ 0 15) (letAt σ (σ 0 4 - 1 - σ 0 15))) 1 (by omega)) q) ?_
      refine J_ws (ws' := mdW G mo (up2 (up2 (up2 σ 0 17 (σ 0 17 + 1)) 3 (σ 0 4 - 1 - σ 0 15) (letAt σ (σ 0 4 - 1 - σ 0 15))) 4 (σ 0 4 - 1 - σ 0 15) 1) kf tf H sf df xf hn ik tl sp rd gr) rfl ?_
      refine J_aload_n C rfl dX6_writes_92 ?_
      refine J_get C 0 0 in6 rfl rfl (by decide) k575 rfl dX6_writes_93 ?_
      refine J_sipush C 206 (by decide) dX6_writes_96 ?_
      refine J_iload_n C rfl dX6_writes_99 ?_
      refine J_iadd C dX6_writes_100 ?_
      refine J_i (nI_add 206 (σ 0 4 - 1 - σ 0 15) : (206 + (nI (σ 0 4 - 1 - σ 0 15)) : Int32) = (nI (206 + (σ 0 4 - 1 - σ 0 15)))) ?_
      refine J_aload_n C rfl dX6_writes_101 ?_
      refine J_get C 0 0 in6 rfl rfl (by decide) k575 rfl dX6_writes_102 ?_
      refine J_iconst C 3 (by decide) dX6_writes_105 ?_
      refine J_iald C 1 rfl 3 rfl (by decide) (Nat.le_of_ble_eq_true rfl) dX6_writes_106 ?_
      refine J_i (rfl : (nI ((rowM (up2 (up2 (up2 σ 0 17 (σ 0 17 + 1)) 3 (σ 0 4 - 1 - σ 0 15) (letAt σ (σ 0 4 - 1 - σ 0 15))) 4 (σ 0 4 - 1 - σ 0 15) 1)) 3) : Int32) = (nI (σ 0 3))) ?_
      refine J_iconst C 1 (by decide) dX6_writes_107 ?_
      refine J_iadd C dX6_writes_108 ?_
      refine J_i (nI_add (σ 0 3) 1 : ((nI (σ 0 3)) + 1 : Int32) = (nI (σ 0 3 + 1))) ?_
      refine J_iast C 1 ([(mo 0, .inr (6, [.ref (mo 1), .ref (mo 2), .ref (mo 3), .ref (mo 4), .int (nI hn), .ref (mo 5), .int (nI ik), .ref (mo 6), .ref (mo 7), .int (nI tl), .int (nI sp), .int (nI rd), .int gr])), (mo 1, .inl (G.2.1, 246, .inl (upd (fun q => nI ((rowM (up2 (up2 (up2 σ 0 17 (σ 0 17 + 1)) 3 (σ 0 4 - 1 - σ 0 15) (letAt σ (σ 0 4 - 1 - σ 0 15))) 4 (σ 0 4 - 1 - σ 0 15) 1)) q)) (206 + (σ 0 4 - 1 - σ 0 15)) (nI (σ 0 3 + 1))))), (mo 2, .inl (G.2.1, 246, .inl (fun q => nI (kf q)))), (mo 3, .inl (G.2.1, 246, .inl (fun q => nI (tf q)))), (mo 4, .inl (G.2.1, 984, .inl (fun q => nI (H q)))), (mo 5, .inl (G.2.1, 246, .inl (fun q => nI (sf q)))), (mo 6, .inl (G.2.1, 40, .inl (fun q => nI (df q)))), (mo 7, .inl (G.2.1, 60, .inl (fun q => nI (xf q))))]) rfl (206 + (σ 0 4 - 1 - σ 0 15)) rfl (by omega) (Nat.le_of_ble_eq_true rfl) rfl dX6_writes_109 ?_
      refine J_arr 1 (fun q => nI (rowM (up2 (up2 (up2 (up2 σ 0 17 (σ 0 17 + 1)) 3 (σ 0 4 - 1 - σ 0 15) (letAt σ (σ 0 4 - 1 - σ 0 15))) 4 (σ 0 4 - 1 - σ 0 15) 1) 6 (σ 0 4 - 1 - σ 0 15) (σ 0 3 + 1)) q)) rfl (fun q _ => congrFun (rowM_u6 (up2 (up2 (up2 σ 0 17 (σ 0 17 + 1)) 3 (σ 0 4 - 1 - σ 0 15) (letAt σ (σ 0 4 - 1 - σ 0 15))) 4 (σ 0 4 - 1 - σ 0 15) 1) (σ 0 4 - 1 - σ 0 15) (σ 0 3 + 1)) q) ?_
      refine J_ws (ws' := mdW G mo (up2 (up2 (up2 (up2 σ 0 17 (σ 0 17 + 1)) 3 (σ 0 4 - 1 - σ 0 15) (letAt σ (σ 0 4 - 1 - σ 0 15))) 4 (σ 0 4 - 1 - σ 0 15) 1) 6 (σ 0 4 - 1 - σ 0 15) (σ 0 3 + 1)) kf tf H sf df xf hn ik tl sp rd gr) rfl ?_
      refine J_aload_n C rfl dX6_writes_110 ?_
      refine J_get C 0 0 in6 rfl rfl (by decide) k575 rfl dX6_writes_111 ?_
      refine J_bipush C 24 (by decide) dX6_writes_114 ?_
      refine J_iload_n C rfl dX6_writes_116 ?_
      refine J_iadd C dX6_writes_117 ?_
      refine J_i ((by decide) : (24 + 1 : Int32) = 25) ?_
      refine J_dup2 C rfl rfl dX6_writes_118 ?_
      refine J_iald C 1 rfl 25 rfl (by decide) (Nat.le_of_ble_eq_true rfl) dX6_writes_119 ?_
      refine J_i (rfl : (nI ((rowM (up2 (up2 (up2 (up2 σ 0 17 (σ 0 17 + 1)) 3 (σ 0 4 - 1 - σ 0 15) (letAt σ (σ 0 4 - 1 - σ 0 15))) 4 (σ 0 4 - 1 - σ 0 15) 1) 6 (σ 0 4 - 1 - σ 0 15) (σ 0 3 + 1))) 25) : Int32) = (nI (σ 0 25))) ?_
      refine J_iload_n C rfl dX6_writes_120 ?_
      refine J_isub C dX6_writes_121 ?_
      refine J_i (pk_sub (a := σ 0 25) (b := letAt σ (σ 0 4 - 1 - σ 0 15)) (by omega) : ((nI (σ 0 25)) - (nI (letAt σ (σ 0 4 - 1 - σ 0 15))) : Int32) = (nI (σ 0 25 - (letAt σ (σ 0 4 - 1 - σ 0 15))))) ?_
      refine J_iast C 1 ([(mo 0, .inr (6, [.ref (mo 1), .ref (mo 2), .ref (mo 3), .ref (mo 4), .int (nI hn), .ref (mo 5), .int (nI ik), .ref (mo 6), .ref (mo 7), .int (nI tl), .int (nI sp), .int (nI rd), .int gr])), (mo 1, .inl (G.2.1, 246, .inl (upd (fun q => nI ((rowM (up2 (up2 (up2 (up2 σ 0 17 (σ 0 17 + 1)) 3 (σ 0 4 - 1 - σ 0 15) (letAt σ (σ 0 4 - 1 - σ 0 15))) 4 (σ 0 4 - 1 - σ 0 15) 1) 6 (σ 0 4 - 1 - σ 0 15) (σ 0 3 + 1))) q)) 25 (nI (σ 0 25 - (letAt σ (σ 0 4 - 1 - σ 0 15))))))), (mo 2, .inl (G.2.1, 246, .inl (fun q => nI (kf q)))), (mo 3, .inl (G.2.1, 246, .inl (fun q => nI (tf q)))), (mo 4, .inl (G.2.1, 984, .inl (fun q => nI (H q)))), (mo 5, .inl (G.2.1, 246, .inl (fun q => nI (sf q)))), (mo 6, .inl (G.2.1, 40, .inl (fun q => nI (df q)))), (mo 7, .inl (G.2.1, 60, .inl (fun q => nI (xf q))))]) rfl 25 rfl (by decide) (Nat.le_of_ble_eq_true rfl) rfl dX6_writes_122 ?_
      refine J_arr 1 (fun q => nI (rowM (up2 (up2 (up2 (up2 (up2 σ 0 17 (σ 0 17 + 1)) 3 (σ 0 4 - 1 - σ 0 15) (letAt σ (σ 0 4 - 1 - σ 0 15))) 4 (σ 0 4 - 1 - σ 0 15) 1) 6 (σ 0 4 - 1 - σ 0 15) (σ 0 3 + 1)) 0 25 (σ 0 25 - (letAt σ (σ 0 4 - 1 - σ 0 15)))) q)) rfl (fun q _ => congrFun (rowM_u0 (up2 (up2 (up2 (up2 σ 0 17 (σ 0 17 + 1)) 3 (σ 0 4 - 1 - σ 0 15) (letAt σ (σ 0 4 - 1 - σ 0 15))) 4 (σ 0 4 - 1 - σ 0 15) 1) 6 (σ 0 4 - 1 - σ 0 15) (σ 0 3 + 1)) (σ 0 25 - (letAt σ (σ 0 4 - 1 - σ 0 15))) (by decide) (by decide)) q) ?_
      refine J_ws (ws' := mdW G mo (up2 (up2 (up2 (up2 (up2 σ 0 17 (σ 0 17 + 1)) 3 (σ 0 4 - 1 - σ 0 15) (letAt σ (σ 0 4 - 1 - σ 0 15))) 4 (σ 0 4 - 1 - σ 0 15) 1) 6 (σ 0 4 - 1 - σ 0 15) (σ 0 3 + 1)) 0 25 (σ 0 25 - (letAt σ (σ 0 4 - 1 - σ 0 15)))) kf tf H sf df xf hn ik tl sp rd gr) rfl ?_
      refine J_aload_n C rfl dX6_writes_123 ?_
      refine J_get C 0 0 in6 rfl rfl (by decide) k575 rfl dX6_writes_124 ?_
      refine J_bipush C 7 (by decide) dX6_writes_127 ?_
      refine J_dup2 C rfl rfl dX6_writes_129 ?_
      refine J_iald C 1 rfl 7 rfl (by decide) (Nat.le_of_ble_eq_true rfl) dX6_writes_130 ?_
      refine J_i (rfl : (nI ((rowM (up2 (up2 (up2 (up2 (up2 σ 0 17 (σ 0 17 + 1)) 3 (σ 0 4 - 1 - σ 0 15) (letAt σ (σ 0 4 - 1 - σ 0 15))) 4 (σ 0 4 - 1 - σ 0 15) 1) 6 (σ 0 4 - 1 - σ 0 15) (σ 0 3 + 1)) 0 25 (σ 0 25 - (letAt σ (σ 0 4 - 1 - σ 0 15))))) 7) : Int32) = (nI (σ 0 7))) ?_
      refine J_iload_n C rfl dX6_writes_131 ?_
      refine J_iadd C dX6_writes_132 ?_
      refine J_i (nI_add (σ 0 7) (letAt σ (σ 0 4 - 1 - σ 0 15)) : ((nI (σ 0 7)) + (nI (letAt σ (σ 0 4 - 1 - σ 0 15))) : Int32) = (nI (σ 0 7 + (letAt σ (σ 0 4 - 1 - σ 0 15))))) ?_
      refine J_iast C 1 ([(mo 0, .inr (6, [.ref (mo 1), .ref (mo 2), .ref (mo 3), .ref (mo 4), .int (nI hn), .ref (mo 5), .int (nI ik), .ref (mo 6), .ref (mo 7), .int (nI tl), .int (nI sp), .int (nI rd), .int gr])), (mo 1, .inl (G.2.1, 246, .inl (upd (fun q => nI ((rowM (up2 (up2 (up2 (up2 (up2 σ 0 17 (σ 0 17 + 1)) 3 (σ 0 4 - 1 - σ 0 15) (letAt σ (σ 0 4 - 1 - σ 0 15))) 4 (σ 0 4 - 1 - σ 0 15) 1) 6 (σ 0 4 - 1 - σ 0 15) (σ 0 3 + 1)) 0 25 (σ 0 25 - (letAt σ (σ 0 4 - 1 - σ 0 15))))) q)) 7 (nI (σ 0 7 + (letAt σ (σ 0 4 - 1 - σ 0 15))))))), (mo 2, .inl (G.2.1, 246, .inl (fun q => nI (kf q)))), (mo 3, .inl (G.2.1, 246, .inl (fun q => nI (tf q)))), (mo 4, .inl (G.2.1, 984, .inl (fun q => nI (H q)))), (mo 5, .inl (G.2.1, 246, .inl (fun q => nI (sf q)))), (mo 6, .inl (G.2.1, 40, .inl (fun q => nI (df q)))), (mo 7, .inl (G.2.1, 60, .inl (fun q => nI (xf q))))]) rfl 7 rfl (by decide) (Nat.le_of_ble_eq_true rfl) rfl dX6_writes_133 ?_
      refine J_arr 1 (fun q => nI (rowM (up2 (up2 (up2 (up2 (up2 (up2 σ 0 17 (σ 0 17 + 1)) 3 (σ 0 4 - 1 - σ 0 15) (letAt σ (σ 0 4 - 1 - σ 0 15))) 4 (σ 0 4 - 1 - σ 0 15) 1) 6 (σ 0 4 - 1 - σ 0 15) (σ 0 3 + 1)) 0 25 (σ 0 25 - (letAt σ (σ 0 4 - 1 - σ 0 15)))) 0 7 (σ 0 7 + (letAt σ (σ 0 4 - 1 - σ 0 15)))) q)) rfl (fun q _ => congrFun (rowM_u0 (up2 (up2 (up2 (up2 (up2 σ 0 17 (σ 0 17 + 1)) 3 (σ 0 4 - 1 - σ 0 15) (letAt σ (σ 0 4 - 1 - σ 0 15))) 4 (σ 0 4 - 1 - σ 0 15) 1) 6 (σ 0 4 - 1 - σ 0 15) (σ 0 3 + 1)) 0 25 (σ 0 25 - (letAt σ (σ 0 4 - 1 - σ 0 15)))) (σ 0 7 + (letAt σ (σ 0 4 - 1 - σ 0 15))) (by decide) (by decide)) q) ?_
      refine J_ws (ws' := mdW G mo (up2 (up2 (up2 (up2 (up2 (up2 σ 0 17 (σ 0 17 + 1)) 3 (σ 0 4 - 1 - σ 0 15) (letAt σ (σ 0 4 - 1 - σ 0 15))) 4 (σ 0 4 - 1 - σ 0 15) 1) 6 (σ 0 4 - 1 - σ 0 15) (σ 0 3 + 1)) 0 25 (σ 0 25 - (letAt σ (σ 0 4 - 1 - σ 0 15)))) 0 7 (σ 0 7 + (letAt σ (σ 0 4 - 1 - σ 0 15)))) kf tf H sf df xf hn ik tl sp rd gr) rfl ?_
      refine J_aload_n C rfl dX6_writes_134 ?_
      refine J_get C 0 0 in6 rfl rfl (by decide) k575 rfl dX6_writes_135 ?_
      refine J_bipush C 10 (by decide) dX6_writes_138 ?_
      refine J_dup2 C rfl rfl dX6_writes_140 ?_
      refine J_iald C 1 rfl 10 rfl (by decide) (Nat.le_of_ble_eq_true rfl) dX6_writes_141 ?_
      refine J_i (rfl : (nI ((rowM (up2 (up2 (up2 (up2 (up2 (up2 σ 0 17 (σ 0 17 + 1)) 3 (σ 0 4 - 1 - σ 0 15) (letAt σ (σ 0 4 - 1 - σ 0 15))) 4 (σ 0 4 - 1 - σ 0 15) 1) 6 (σ 0 4 - 1 - σ 0 15) (σ 0 3 + 1)) 0 25 (σ 0 25 - (letAt σ (σ 0 4 - 1 - σ 0 15)))) 0 7 (σ 0 7 + (letAt σ (σ 0 4 - 1 - σ 0 15))))) 10) : Int32) = (nI (σ 0 10))) ?_
      refine J_iconst C 1 (by decide) dX6_writes_142 ?_
      refine J_iadd C dX6_writes_143 ?_
      refine J_i (nI_add (σ 0 10) 1 : ((nI (σ 0 10)) + 1 : Int32) = (nI (σ 0 10 + 1))) ?_
      refine J_iast C 1 ([(mo 0, .inr (6, [.ref (mo 1), .ref (mo 2), .ref (mo 3), .ref (mo 4), .int (nI hn), .ref (mo 5), .int (nI ik), .ref (mo 6), .ref (mo 7), .int (nI tl), .int (nI sp), .int (nI rd), .int gr])), (mo 1, .inl (G.2.1, 246, .inl (upd (fun q => nI ((rowM (up2 (up2 (up2 (up2 (up2 (up2 σ 0 17 (σ 0 17 + 1)) 3 (σ 0 4 - 1 - σ 0 15) (letAt σ (σ 0 4 - 1 - σ 0 15))) 4 (σ 0 4 - 1 - σ 0 15) 1) 6 (σ 0 4 - 1 - σ 0 15) (σ 0 3 + 1)) 0 25 (σ 0 25 - (letAt σ (σ 0 4 - 1 - σ 0 15)))) 0 7 (σ 0 7 + (letAt σ (σ 0 4 - 1 - σ 0 15))))) q)) 10 (nI (σ 0 10 + 1))))), (mo 2, .inl (G.2.1, 246, .inl (fun q => nI (kf q)))), (mo 3, .inl (G.2.1, 246, .inl (fun q => nI (tf q)))), (mo 4, .inl (G.2.1, 984, .inl (fun q => nI (H q)))), (mo 5, .inl (G.2.1, 246, .inl (fun q => nI (sf q)))), (mo 6, .inl (G.2.1, 40, .inl (fun q => nI (df q)))), (mo 7, .inl (G.2.1, 60, .inl (fun q => nI (xf q))))]) rfl 10 rfl (by decide) (Nat.le_of_ble_eq_true rfl) rfl dX6_writes_144 ?_
      refine J_arr 1 (fun q => nI (rowM (up2 (up2 (up2 (up2 (up2 (up2 (up2 σ 0 17 (σ 0 17 + 1)) 3 (σ 0 4 - 1 - σ 0 15) (letAt σ (σ 0 4 - 1 - σ 0 15))) 4 (σ 0 4 - 1 - σ 0 15) 1) 6 (σ 0 4 - 1 - σ 0 15) (σ 0 3 + 1)) 0 25 (σ 0 25 - (letAt σ (σ 0 4 - 1 - σ 0 15)))) 0 7 (σ 0 7 + (letAt σ (σ 0 4 - 1 - σ 0 15)))) 0 10 (σ 0 10 + 1)) q)) rfl (fun q _ => congrFun (rowM_u0 (up2 (up2 (up2 (up2 (up2 (up2 σ 0 17 (σ 0 17 + 1)) 3 (σ 0 4 - 1 - σ 0 15) (letAt σ (σ 0 4 - 1 - σ 0 15))) 4 (σ 0 4 - 1 - σ 0 15) 1) 6 (σ 0 4 - 1 - σ 0 15) (σ 0 3 + 1)) 0 25 (σ 0 25 - (letAt σ (σ 0 4 - 1 - σ 0 15)))) 0 7 (σ 0 7 + (letAt σ (σ 0 4 - 1 - σ 0 15)))) (σ 0 10 + 1) (by decide) (by decide)) q) ?_
      refine J_ws (ws' := mdW G mo (up2 (up2 (up2 (up2 (up2 (up2 (up2 σ 0 17 (σ 0 17 + 1)) 3 (σ 0 4 - 1 - σ 0 15) (letAt σ (σ 0 4 - 1 - σ 0 15))) 4 (σ 0 4 - 1 - σ 0 15) 1) 6 (σ 0 4 - 1 - σ 0 15) (σ 0 3 + 1)) 0 25 (σ 0 25 - (letAt σ (σ 0 4 - 1 - σ 0 15)))) 0 7 (σ 0 7 + (letAt σ (σ 0 4 - 1 - σ 0 15)))) 0 10 (σ 0 10 + 1)) kf tf H sf df xf hn ik tl sp rd gr) rfl ?_
      refine J_aload_n C rfl dX6_writes_145 ?_
      refine J_get C 0 0 in6 rfl rfl (by decide) k575 rfl dX6_writes_146 ?_
      refine J_bipush C 14 (by decide) dX6_writes_149 ?_
      refine J_iload_n C rfl dX6_writes_151 ?_
      refine J_iadd C dX6_writes_152 ?_
      refine J_i ((by decide) : (14 + 1 : Int32) = 15) ?_
      refine J_dup2 C rfl rfl dX6_writes_153 ?_
      refine J_iald C 1 rfl 15 rfl (by decide) (Nat.le_of_ble_eq_true rfl) dX6_writes_154 ?_
      refine J_i (rfl : (nI ((rowM (up2 (up2 (up2 (up2 (up2 (up2 (up2 σ 0 17 (σ 0 17 + 1)) 3 (σ 0 4 - 1 - σ 0 15) (letAt σ (σ 0 4 - 1 - σ 0 15))) 4 (σ 0 4 - 1 - σ 0 15) 1) 6 (σ 0 4 - 1 - σ 0 15) (σ 0 3 + 1)) 0 25 (σ 0 25 - (letAt σ (σ 0 4 - 1 - σ 0 15)))) 0 7 (σ 0 7 + (letAt σ (σ 0 4 - 1 - σ 0 15)))) 0 10 (σ 0 10 + 1))) 15) : Int32) = (nI (σ 0 15))) ?_
      refine J_iconst C 1 (by decide) dX6_writes_155 ?_
      refine J_iadd C dX6_writes_156 ?_
      refine J_i (nI_add (σ 0 15) 1 : ((nI (σ 0 15)) + 1 : Int32) = (nI (σ 0 15 + 1))) ?_
      refine J_iast C 1 ([(mo 0, .inr (6, [.ref (mo 1), .ref (mo 2), .ref (mo 3), .ref (mo 4), .int (nI hn), .ref (mo 5), .int (nI ik), .ref (mo 6), .ref (mo 7), .int (nI tl), .int (nI sp), .int (nI rd), .int gr])), (mo 1, .inl (G.2.1, 246, .inl (upd (fun q => nI ((rowM (up2 (up2 (up2 (up2 (up2 (up2 (up2 σ 0 17 (σ 0 17 + 1)) 3 (σ 0 4 - 1 - σ 0 15) (letAt σ (σ 0 4 - 1 - σ 0 15))) 4 (σ 0 4 - 1 - σ 0 15) 1) 6 (σ 0 4 - 1 - σ 0 15) (σ 0 3 + 1)) 0 25 (σ 0 25 - (letAt σ (σ 0 4 - 1 - σ 0 15)))) 0 7 (σ 0 7 + (letAt σ (σ 0 4 - 1 - σ 0 15)))) 0 10 (σ 0 10 + 1))) q)) 15 (nI (σ 0 15 + 1))))), (mo 2, .inl (G.2.1, 246, .inl (fun q => nI (kf q)))), (mo 3, .inl (G.2.1, 246, .inl (fun q => nI (tf q)))), (mo 4, .inl (G.2.1, 984, .inl (fun q => nI (H q)))), (mo 5, .inl (G.2.1, 246, .inl (fun q => nI (sf q)))), (mo 6, .inl (G.2.1, 40, .inl (fun q => nI (df q)))), (mo 7, .inl (G.2.1, 60, .inl (fun q => nI (xf q))))]) rfl 15 rfl (by decide) (Nat.le_of_ble_eq_true rfl) rfl dX6_writes_157 ?_
      refine J_arr 1 (fun q => nI (rowM (up2 (up2 (up2 (up2 (up2 (up2 (up2 (up2 σ 0 17 (σ 0 17 + 1)) 3 (σ 0 4 - 1 - σ 0 15) (letAt σ (σ 0 4 - 1 - σ 0 15))) 4 (σ 0 4 - 1 - σ 0 15) 1) 6 (σ 0 4 - 1 - σ 0 15) (σ 0 3 + 1)) 0 25 (σ 0 25 - (letAt σ (σ 0 4 - 1 - σ 0 15)))) 0 7 (σ 0 7 + (letAt σ (σ 0 4 - 1 - σ 0 15)))) 0 10 (σ 0 10 + 1)) 0 15 (σ 0 15 + 1)) q)) rfl (fun q _ => congrFun (rowM_u0 (up2 (up2 (up2 (up2 (up2 (up2 (up2 σ 0 17 (σ 0 17 + 1)) 3 (σ 0 4 - 1 - σ 0 15) (letAt σ (σ 0 4 - 1 - σ 0 15))) 4 (σ 0 4 - 1 - σ 0 15) 1) 6 (σ 0 4 - 1 - σ 0 15) (σ 0 3 + 1)) 0 25 (σ 0 25 - (letAt σ (σ 0 4 - 1 - σ 0 15)))) 0 7 (σ 0 7 + (letAt σ (σ 0 4 - 1 - σ 0 15)))) 0 10 (σ 0 10 + 1)) (σ 0 15 + 1) (by decide) (by decide)) q) ?_
      refine J_ws (ws' := mdW G mo (up2 (up2 (up2 (up2 (up2 (up2 (up2 (up2 σ 0 17 (σ 0 17 + 1)) 3 (σ 0 4 - 1 - σ 0 15) (letAt σ (σ 0 4 - 1 - σ 0 15))) 4 (σ 0 4 - 1 - σ 0 15) 1) 6 (σ 0 4 - 1 - σ 0 15) (σ 0 3 + 1)) 0 25 (σ 0 25 - (letAt σ (σ 0 4 - 1 - σ 0 15)))) 0 7 (σ 0 7 + (letAt σ (σ 0 4 - 1 - σ 0 15)))) 0 10 (σ 0 10 + 1)) 0 15 (σ 0 15 + 1)) kf tf H sf df xf hn ik tl sp rd gr) rfl ?_
      refine J_aload_n C rfl dX6_writes_158 ?_
      refine J_get C 0 0 in6 rfl rfl (by decide) k575 rfl dX6_writes_159 ?_
      refine J_bipush C 16 (by decide) dX6_writes_162 ?_
      refine J_iload_n C rfl dX6_writes_164 ?_
      refine J_iadd C dX6_writes_165 ?_
      refine J_i ((by decide) : (16 + 1 : Int32) = 17) ?_
      refine J_iconst C 0 (by decide) dX6_writes_166 ?_
      refine J_iast C 1 ([(mo 0, .inr (6, [.ref (mo 1), .ref (mo 2), .ref (mo 3), .ref (mo 4), .int (nI hn), .ref (mo 5), .int (nI ik), .ref (mo 6), .ref (mo 7), .int (nI tl), .int (nI sp), .int (nI rd), .int gr])), (mo 1, .inl (G.2.1, 246, .inl (upd (fun q => nI ((rowM (up2 (up2 (up2 (up2 (up2 (up2 (up2 (up2 σ 0 17 (σ 0 17 + 1)) 3 (σ 0 4 - 1 - σ 0 15) (letAt σ (σ 0 4 - 1 - σ 0 15))) 4 (σ 0 4 - 1 - σ 0 15) 1) 6 (σ 0 4 - 1 - σ 0 15) (σ 0 3 + 1)) 0 25 (σ 0 25 - (letAt σ (σ 0 4 - 1 - σ 0 15)))) 0 7 (σ 0 7 + (letAt σ (σ 0 4 - 1 - σ 0 15)))) 0 10 (σ 0 10 + 1)) 0 15 (σ 0 15 + 1))) q)) 17 0))), (mo 2, .inl (G.2.1, 246, .inl (fun q => nI (kf q)))), (mo 3, .inl (G.2.1, 246, .inl (fun q => nI (tf q)))), (mo 4, .inl (G.2.1, 984, .inl (fun q => nI (H q)))), (mo 5, .inl (G.2.1, 246, .inl (fun q => nI (sf q)))), (mo 6, .inl (G.2.1, 40, .inl (fun q => nI (df q)))), (mo 7, .inl (G.2.1, 60, .inl (fun q => nI (xf q))))]) rfl 17 rfl (by decide) (Nat.le_of_ble_eq_true rfl) rfl dX6_writes_167 ?_
      refine J_arr 1 (fun q => nI (rowM (up2 (up2 (up2 (up2 (up2 (up2 (up2 (up2 (up2 σ 0 17 (σ 0 17 + 1)) 3 (σ 0 4 - 1 - σ 0 15) (letAt σ (σ 0 4 - 1 - σ 0 15))) 4 (σ 0 4 - 1 - σ 0 15) 1) 6 (σ 0 4 - 1 - σ 0 15) (σ 0 3 + 1)) 0 25 (σ 0 25 - (letAt σ (σ 0 4 - 1 - σ 0 15)))) 0 7 (σ 0 7 + (letAt σ (σ 0 4 - 1 - σ 0 15)))) 0 10 (σ 0 10 + 1)) 0 15 (σ 0 15 + 1)) 0 17 0) q)) rfl (fun q _ => congrFun (rowM_u0 (up2 (up2 (up2 (up2 (up2 (up2 (up2 (up2 σ 0 17 (σ 0 17 + 1)) 3 (σ 0 4 - 1 - σ 0 15) (letAt σ (σ 0 4 - 1 - σ 0 15))) 4 (σ 0 4 - 1 - σ 0 15) 1) 6 (σ 0 4 - 1 - σ 0 15) (σ 0 3 + 1)) 0 25 (σ 0 25 - (letAt σ (σ 0 4 - 1 - σ 0 15)))) 0 7 (σ 0 7 + (letAt σ (σ 0 4 - 1 - σ 0 15)))) 0 10 (σ 0 10 + 1)) 0 15 (σ 0 15 + 1)) 0 (by decide) (by decide)) q) ?_
      refine J_ws (ws' := mdW G mo (up2 (up2 (up2 (up2 (up2 (up2 (up2 (up2 (up2 σ 0 17 (σ 0 17 + 1)) 3 (σ 0 4 - 1 - σ 0 15) (letAt σ (σ 0 4 - 1 - σ 0 15))) 4 (σ 0 4 - 1 - σ 0 15) 1) 6 (σ 0 4 - 1 - σ 0 15) (σ 0 3 + 1)) 0 25 (σ 0 25 - (letAt σ (σ 0 4 - 1 - σ 0 15)))) 0 7 (σ 0 7 + (letAt σ (σ 0 4 - 1 - σ 0 15)))) 0 10 (σ 0 10 + 1)) 0 15 (σ 0 15 + 1)) 0 17 0) kf tf H sf df xf hn ik tl sp rd gr) rfl ?_
      exact J_vret C hr dX6_writes_168 () rfl trivial (by rw [writesF_1, if_neg (by omega), wroteF_1, blotN_1, if_pos (by omega), wr_1])
  · skip
    have c31 := cv_ge_f (a := (σ 0 17 + 1)) (b := (σ 0 13)) (by omega) (by omega) c31
    exact J_vret C hr dX6_writes_34 () rfl trivial (by rw [writesF_1, if_pos (by omega)] <;> rfl)

set_option maxHeartbeats 4000000 in
set_option maxRecDepth 100000 in
theorem ct_goes1 (l : Launch) (G : GT) (mo : Nat → Nat) (σ : AS) (kf tf H sf df xf : Nat → Nat) (hn ik tl sp rd : Nat) (gr : Int32) (hI : Inv σ) : Ct (S := Unit) l G NoX yX6_goes (Wy yX6_goes cX6_goes 2 ((Option.none : Option Jvm.ClassFile.FieldType))) { frames := 3, cells := 0, slots := 0, locals := 65 } [.ref (mo 0), .int 1] (mdW G mo σ kf tf H sf df xf hn ik tl sp rd gr) (fun u => True) (fun u => none) (fun u => mdW G mo (goesF σ 1 (σ 0 3 + 1)) kf tf H sf df xf hn ik tl sp rd gr) := by
  refine Ct.of (by decide) (Nat.le_of_ble_eq_true rfl) (fun p e s m args below meth c C hr hnm hX => ?_)
  have h40 := hI.a
  have hle := doesN_le σ 1
  refine J_aload_n C rfl dX6_goes_0 ?_
  refine J_iload_n C rfl dX6_goes_1 ?_
  refine J_callV (as := [.int 1]) (rest := []) C (ct_does1 l G mo σ kf tf H sf df xf hn ik tl sp rd gr hI) (fun u => mdW G mo σ kf tf H sf df xf hn ik tl sp rd gr) [0, 1, 2, 3, 4, 5, 6, 7] [] 1 k713 k715 k23 k38 k716 rfl (by decide +kernel) ⟨Nat.le_of_ble_eq_true rfl, Nat.le_of_ble_eq_true rfl⟩ ⟨Nat.le_of_ble_eq_true rfl, Nat.le_of_ble_eq_true rfl⟩ dX6_goes_2 (Nat.le_of_ble_eq_true rfl) 0 rfl rfl rfl (by decide +kernel) (fun _ => rfl) ([]) rfl (fun _ => rfl) 8 (fun _ => rfl) (by decide +kernel) (by decide +kernel) (fun _ _ => ?_)
  refine J_st (st' := [.int (nI (doesN σ 1))]) rfl ?_
  rcases (show doesN σ 1 = 0 ∨ doesN σ 1 = 1 ∨ doesN σ 1 = 2 ∨ doesN σ 1 = 3 ∨ doesN σ 1 = 4 ∨ doesN σ 1 = 5 by omega) with hdo | hdo | hdo | hdo | hdo | hdo
  · skip
    rw [hdo]
    refine J_tableIn C 40 (by decide) (by decide) rfl (by decide) dX6_goes_5 ?_
    refine J_aload_n C rfl dX6_goes_40 ?_
    refine J_iload_n C rfl dX6_goes_41 ?_
    refine J_callV (as := [.int 1]) (rest := []) C (ct_writes1 l G mo σ kf tf H sf df xf hn ik tl sp rd gr hI ((does0_1 hI hdo).1) ((does0_1 hI hdo).2.1)) (fun u => mdW G mo (writesF σ 1 (σ 0 3 + 1)) kf tf H sf df xf hn ik tl sp rd gr) [0, 1, 2, 3, 4, 5, 6, 7] [] 1 k717 k719 k24 k38 k720 rfl (by decide +kernel) ⟨Nat.le_of_ble_eq_true rfl, Nat.le_of_ble_eq_true rfl⟩ ⟨Nat.le_of_ble_eq_true rfl, Nat.le_of_ble_eq_true rfl⟩ dX6_goes_42 (Nat.le_of_ble_eq_true rfl) 0 rfl rfl rfl (by decide +kernel) (fun _ => rfl) ([]) rfl (fun _ => rfl) 8 (fun _ => rfl) (by decide +kernel) (by decide +kernel) (fun _ _ => ?_)
    refine J_st (st' := []) rfl ?_
    refine J_goto C 90 (by decide) dX6_goes_45 ?_
    exact J_vret C hr dX6_goes_90 () rfl trivial (by rw [goesF_1, hdo] <;> rfl)
  · skip
    rw [hdo]
    refine J_tableIn C 48 (by decide) (by decide) rfl (by decide) dX6_goes_5 ?_
    refine J_aload_n C rfl dX6_goes_48 ?_
    refine J_iload_n C rfl dX6_goes_49 ?_
    refine J_callV (as := [.int 1]) (rest := []) C (ct_dips1 l G mo σ kf tf H sf df xf hn ik tl sp rd gr hI (does1_1 hdo)) (fun u => mdW G mo (dipsF σ 1) kf tf H sf df xf hn ik tl sp rd gr) [0, 1, 2, 3, 4, 5, 6, 7] [] 1 k721 k723 k25 k38 k724 rfl (by decide +kernel) ⟨Nat.le_of_ble_eq_true rfl, Nat.le_of_ble_eq_true rfl⟩ ⟨Nat.le_of_ble_eq_true rfl, Nat.le_of_ble_eq_true rfl⟩ dX6_goes_50 (Nat.le_of_ble_eq_true rfl) 0 rfl rfl rfl (by decide +kernel) (fun _ => rfl) ([]) rfl (fun _ => rfl) 8 (fun _ => rfl) (by decide +kernel) (by decide +kernel) (fun _ _ => ?_)
    refine J_st (st' := []) rfl ?_
    refine J_goto C 90 (by decide) dX6_goes_53 ?_
    exact J_vret C hr dX6_goes_90 () rfl trivial (by rw [goesF_1, hdo] <;> rfl)
  · skip
    rw [hdo]
    refine J_tableIn C 56 (by decide) (by decide) rfl (by decide) dX6_goes_5 ?_
    refine J_aload_n C rfl dX6_goes_56 ?_
    refine J_get C 0 0 in6 rfl rfl (by decide) k575 rfl dX6_goes_57 ?_
    refine J_bipush C 18 (by decide) dX6_goes_60 ?_
    refine J_iload_n C rfl dX6_goes_62 ?_
    refine J_iadd C dX6_goes_63 ?_
    refine J_i ((by decide) : (18 + 1 : Int32) = 19) ?_
    refine J_aload_n C rfl dX6_goes_64 ?_
    refine J_get C 0 0 in6 rfl rfl (by decide) k575 rfl dX6_goes_65 ?_
    refine J_iconst C 0 (by decide) dX6_goes_68 ?_
    refine J_iald C 1 rfl 0 rfl (by decide) (Nat.le_of_ble_eq_true rfl) dX6_goes_69 ?_
    refine J_i (rfl : (nI ((rowM σ) 0) : Int32) = (nI (σ 7 0))) ?_
    refine J_iast C 1 ([(mo 0, .inr (6, [.ref (mo 1), .ref (mo 2), .ref (mo 3), .ref (mo 4), .int (nI hn), .ref (mo 5), .int (nI ik), .ref (mo 6), .ref (mo 7), .int (nI tl), .int (nI sp), .int (nI rd), .int gr])), (mo 1, .inl (G.2.1, 246, .inl (upd (fun q => nI ((rowM σ) q)) 19 (nI (σ 7 0))))), (mo 2, .inl (G.2.1, 246, .inl (fun q => nI (kf q)))), (mo 3, .inl (G.2.1, 246, .inl (fun q => nI (tf q)))), (mo 4, .inl (G.2.1, 984, .inl (fun q => nI (H q)))), (mo 5, .inl (G.2.1, 246, .inl (fun q => nI (sf q)))), (mo 6, .inl (G.2.1, 40, .inl (fun q => nI (df q)))), (mo 7, .inl (G.2.1, 60, .inl (fun q => nI (xf q))))]) rfl 19 rfl (by decide) (Nat.le_of_ble_eq_true rfl) rfl dX6_goes_70 ?_
    refine J_arr 1 (fun q => nI (rowM (up2 σ 0 19 (σ 7 0)) q)) rfl (fun q _ => congrFun (rowM_u0 σ (σ 7 0) (by decide) (by decide)) q) ?_
    refine J_ws (ws' := mdW G mo (up2 σ 0 19 (σ 7 0)) kf tf H sf df xf hn ik tl sp rd gr) rfl ?_
    refine J_goto C 90 (by decide) dX6_goes_71 ?_
    exact J_vret C hr dX6_goes_90 () rfl trivial (by rw [goesF_1, hdo] <;> rfl)
  · skip
    rw [hdo]
    refine J_tableIn C 74 (by decide) (by decide) rfl (by decide) dX6_goes_5 ?_
    refine J_aload_n C rfl dX6_goes_74 ?_
    refine J_get C 0 0 in6 rfl rfl (by decide) k575 rfl dX6_goes_75 ?_
    refine J_bipush C 22 (by decide) dX6_goes_78 ?_
    refine J_iload_n C rfl dX6_goes_80 ?_
    refine J_iadd C dX6_goes_81 ?_
    refine J_i ((by decide) : (22 + 1 : Int32) = 23) ?_
    refine J_dup2 C rfl rfl dX6_goes_82 ?_
    refine J_iald C 1 rfl 23 rfl (by decide) (Nat.le_of_ble_eq_true rfl) dX6_goes_83 ?_
    refine J_i (rfl : (nI ((rowM σ) 23) : Int32) = (nI (σ 0 23))) ?_
    refine J_iconst C 1 (by decide) dX6_goes_84 ?_
    refine J_iadd C dX6_goes_85 ?_
    refine J_i (nI_add (σ 0 23) 1 : ((nI (σ 0 23)) + 1 : Int32) = (nI (σ 0 23 + 1))) ?_
    refine J_iast C 1 ([(mo 0, .inr (6, [.ref (mo 1), .ref (mo 2), .ref (mo 3), .ref (mo 4), .int (nI hn), .ref (mo 5), .int (nI ik), .ref (mo 6), .ref (mo 7), .int (nI tl), .int (nI sp), .int (nI rd), .int gr])), (mo 1, .inl (G.2.1, 246, .inl (upd (fun q => nI ((rowM σ) q)) 23 (nI (σ 0 23 + 1))))), (mo 2, .inl (G.2.1, 246, .inl (fun q => nI (kf q)))), (mo 3, .inl (G.2.1, 246, .inl (fun q => nI (tf q)))), (mo 4, .inl (G.2.1, 984, .inl (fun q => nI (H q)))), (mo 5, .inl (G.2.1, 246, .inl (fun q => nI (sf q)))), (mo 6, .inl (G.2.1, 40, .inl (fun q => nI (df q)))), (mo 7, .inl (G.2.1, 60, .inl (fun q => nI (xf q))))]) rfl 23 rfl (by decide) (Nat.le_of_ble_eq_true rfl) rfl dX6_goes_86 ?_
    refine J_arr 1 (fun q => nI (rowM (up2 σ 0 23 (σ 0 23 + 1)) q)) rfl (fun q _ => congrFun (rowM_u0 σ (σ 0 23 + 1) (by decide) (by decide)) q) ?_
    refine J_ws (ws' := mdW G mo (up2 σ 0 23 (σ 0 23 + 1)) kf tf H sf df xf hn ik tl sp rd gr) rfl ?_
    refine J_goto C 90 (by decide) dX6_goes_87 ?_
    exact J_vret C hr dX6_goes_90 () rfl trivial (by rw [goesF_1, hdo] <;> rfl)
  · skip
    rw [hdo]
    refine J_tableIn C 74 (by decide) (by decide) rfl (by decide) dX6_goes_5 ?_
    refine J_aload_n C rfl dX6_goes_74 ?_
    refine J_get C 0 0 in6 rfl rfl (by decide) k575 rfl dX6_goes_75 ?_
    refine J_bipush C 22 (by decide) dX6_goes_78 ?_
    refine J_iload_n C rfl dX6_goes_80 ?_
    refine J_iadd C dX6_goes_81 ?_
    refine J_i ((by decide) : (22 + 1 : Int32) = 23) ?_
    refine J_dup2 C rfl rfl dX6_goes_82 ?_
    refine J_iald C 1 rfl 23 rfl (by decide) (Nat.le_of_ble_eq_true rfl) dX6_goes_83 ?_
    refine J_i (rfl : (nI ((rowM σ) 23) : Int32) = (nI (σ 0 23))) ?_
    refine J_iconst C 1 (by decide) dX6_goes_84 ?_
    refine J_iadd C dX6_goes_85 ?_
    refine J_i (nI_add (σ 0 23) 1 : ((nI (σ 0 23)) + 1 : Int32) = (nI (σ 0 23 + 1))) ?_
    refine J_iast C 1 ([(mo 0, .inr (6, [.ref (mo 1), .ref (mo 2), .ref (mo 3), .ref (mo 4), .int (nI hn), .ref (mo 5), .int (nI ik), .ref (mo 6), .ref (mo 7), .int (nI tl), .int (nI sp), .int (nI rd), .int gr])), (mo 1, .inl (G.2.1, 246, .inl (upd (fun q => nI ((rowM σ) q)) 23 (nI (σ 0 23 + 1))))), (mo 2, .inl (G.2.1, 246, .inl (fun q => nI (kf q)))), (mo 3, .inl (G.2.1, 246, .inl (fun q => nI (tf q)))), (mo 4, .inl (G.2.1, 984, .inl (fun q => nI (H q)))), (mo 5, .inl (G.2.1, 246, .inl (fun q => nI (sf q)))), (mo 6, .inl (G.2.1, 40, .inl (fun q => nI (df q)))), (mo 7, .inl (G.2.1, 60, .inl (fun q => nI (xf q))))]) rfl 23 rfl (by decide) (Nat.le_of_ble_eq_true rfl) rfl dX6_goes_86 ?_
    refine J_arr 1 (fun q => nI (rowM (up2 σ 0 23 (σ 0 23 + 1)) q)) rfl (fun q _ => congrFun (rowM_u0 σ (σ 0 23 + 1) (by decide) (by decide)) q) ?_
    refine J_ws (ws' := mdW G mo (up2 σ 0 23 (σ 0 23 + 1)) kf tf H sf df xf hn ik tl sp rd gr) rfl ?_
    refine J_goto C 90 (by decide) dX6_goes_87 ?_
    exact J_vret C hr dX6_goes_90 () rfl trivial (by rw [goesF_1, hdo] <;> rfl)
  · skip
    rw [hdo]
    refine J_tableOut C 90 (by decide) (by decide) dX6_goes_5 ?_
    exact J_vret C hr dX6_goes_90 () rfl trivial (by rw [goesF_1, hdo] <;> rfl)

set_option maxHeartbeats 4000000 in
set_option maxRecDepth 100000 in
theorem ct_ticks (l : Launch) (G : GT) (mo : Nat → Nat) (σ : AS) (kf tf H sf df xf : Nat → Nat) (hn ik tl sp rd : Nat) (gr : Int32) (hI : Inv σ) (ht : σ 0 3 < 102100) : Ct (S := Unit) l G NoX yX6_ticks (Wy yX6_ticks cX6_ticks 1 ((Option.none : Option Jvm.ClassFile.FieldType))) { frames := 4, cells := 0, slots := 0, locals := 86 } [.ref (mo 0)] (mdW G mo σ kf tf H sf df xf hn ik tl sp rd gr) (fun u => True) (fun u => none) (fun u => mdW G mo (ticksF σ) kf tf H sf df xf hn ik tl sp rd gr) := by
  refine Ct.of (by decide) (Nat.le_of_ble_eq_true rfl) (fun p e s m args below meth c C hr hnm hX => ?_)
  have h40 := hI.a
  have hg0 := (goes_keep σ 0 (σ 0 3 + 1) (Or.inl rfl)).1
  have hg1 := (goes_keep (goesF σ 0 (σ 0 3 + 1)) 1 (σ 0 3 + 1) (Or.inr rfl)).1
  refine J_aload_n C rfl dX6_ticks_0 ?_
  refine J_iconst C 0 (by decide) dX6_ticks_1 ?_
  refine J_callV (as := [.int 0]) (rest := []) C (ct_goes0 l G mo σ kf tf H sf df xf hn ik tl sp rd gr hI) (fun u => mdW G mo (goesF σ 0 (σ 0 3 + 1)) kf tf H sf df xf hn ik tl sp rd gr) [0, 1, 2, 3, 4, 5, 6, 7] [] 1 k709 k711 k22 k38 k712 rfl (by decide +kernel) ⟨Nat.le_of_ble_eq_true rfl, Nat.le_of_ble_eq_true rfl⟩ ⟨Nat.le_of_ble_eq_true rfl, Nat.le_of_ble_eq_true rfl⟩ dX6_ticks_2 (Nat.le_of_ble_eq_true rfl) 0 rfl rfl rfl (by decide +kernel) (fun _ => rfl) ([]) rfl (fun _ => rfl) 8 (fun _ => rfl) (by decide +kernel) (by decide +kernel) (fun _ _ => ?_)
  refine J_st (st' := []) rfl ?_
  refine J_ws (ws' := mdW G mo (goesF σ 0 (σ 0 3 + 1)) kf tf H sf df xf hn ik tl sp rd gr) rfl ?_
  refine J_aload_n C rfl dX6_ticks_5 ?_
  refine J_iconst C 1 (by decide) dX6_ticks_6 ?_
  refine J_callV (as := [.int 1]) (rest := []) C (ct_goes1 l G mo (goesF σ 0 (σ 0 3 + 1)) kf tf H sf df xf hn ik tl sp rd gr (hI.goes0 (by omega))) (fun u => mdW G mo (goesF (goesF σ 0 (σ 0 3 + 1)) 1 ((goesF σ 0 (σ 0 3 + 1)) 0 3 + 1)) kf tf H sf df xf hn ik tl sp rd gr) [0, 1, 2, 3, 4, 5, 6, 7] [] 1 k709 k711 k22 k38 k712 rfl (by decide +kernel) ⟨Nat.le_of_ble_eq_true rfl, Nat.le_of_ble_eq_true rfl⟩ ⟨Nat.le_of_ble_eq_true rfl, Nat.le_of_ble_eq_true rfl⟩ dX6_ticks_7 (Nat.le_of_ble_eq_true rfl) 0 rfl rfl rfl (by decide +kernel) (fun _ => rfl) ([]) rfl (fun _ => rfl) 8 (fun _ => rfl) (by decide +kernel) (by decide +kernel) (fun _ _ => ?_)
  refine J_st (st' := []) rfl ?_
  rw [hg0]
  refine J_ws (ws' := mdW G mo (goesF (goesF σ 0 (σ 0 3 + 1)) 1 (σ 0 3 + 1)) kf tf H sf df xf hn ik tl sp rd gr) rfl ?_
  refine J_aload_n C rfl dX6_ticks_10 ?_
  refine J_get C 0 0 in6 rfl rfl (by decide) k575 rfl dX6_ticks_11 ?_
  refine J_iconst C 3 (by decide) dX6_ticks_14 ?_
  refine J_dup2 C rfl rfl dX6_ticks_15 ?_
  refine J_iald C 1 rfl 3 rfl (by decide) (Nat.le_of_ble_eq_true rfl) dX6_ticks_16 ?_
  refine J_i (rfl : (nI ((rowM (goesF (goesF σ 0 (σ 0 3 + 1)) 1 (σ 0 3 + 1))) 3) : Int32) = (nI ((goesF (goesF σ 0 (σ 0 3 + 1)) 1 (σ 0 3 + 1)) 0 3))) ?_
  refine J_iconst C 1 (by decide) dX6_ticks_17 ?_
  refine J_iadd C dX6_ticks_18 ?_
  refine J_i (nI_add ((goesF (goesF σ 0 (σ 0 3 + 1)) 1 (σ 0 3 + 1)) 0 3) 1 : ((nI ((goesF (goesF σ 0 (σ 0 3 + 1)) 1 (σ 0 3 + 1)) 0 3)) + 1 : Int32) = (nI ((goesF (goesF σ 0 (σ 0 3 + 1)) 1 (σ 0 3 + 1)) 0 3 + 1))) ?_
  refine J_iast C 1 ([(mo 0, .inr (6, [.ref (mo 1), .ref (mo 2), .ref (mo 3), .ref (mo 4), .int (nI hn), .ref (mo 5), .int (nI ik), .ref (mo 6), .ref (mo 7), .int (nI tl), .int (nI sp), .int (nI rd), .int gr])), (mo 1, .inl (G.2.1, 246, .inl (upd (fun q => nI ((rowM (goesF (goesF σ 0 (σ 0 3 + 1)) 1 (σ 0 3 + 1))) q)) 3 (nI ((goesF (goesF σ 0 (σ 0 3 + 1)) 1 (σ 0 3 + 1)) 0 3 + 1))))), (mo 2, .inl (G.2.1, 246, .inl (fun q => nI (kf q)))), (mo 3, .inl (G.2.1, 246, .inl (fun q => nI (tf q)))), (mo 4, .inl (G.2.1, 984, .inl (fun q => nI (H q)))), (mo 5, .inl (G.2.1, 246, .inl (fun q => nI (sf q)))), (mo 6, .inl (G.2.1, 40, .inl (fun q => nI (df q)))), (mo 7, .inl (G.2.1, 60, .inl (fun q => nI (xf q))))]) rfl 3 rfl (by decide) (Nat.le_of_ble_eq_true rfl) rfl dX6_ticks_19 ?_
  refine J_arr 1 (fun q => nI (rowM (up2 (goesF (goesF σ 0 (σ 0 3 + 1)) 1 (σ 0 3 + 1)) 0 3 ((goesF (goesF σ 0 (σ 0 3 + 1)) 1 (σ 0 3 + 1)) 0 3 + 1)) q)) rfl (fun q _ => congrFun (rowM_u0 (goesF (goesF σ 0 (σ 0 3 + 1)) 1 (σ 0 3 + 1)) ((goesF (goesF σ 0 (σ 0 3 + 1)) 1 (σ 0 3 + 1)) 0 3 + 1) (by decide) (by decide)) q) ?_
  refine J_ws (ws' := mdW G mo (up2 (goesF (goesF σ 0 (σ 0 3 + 1)) 1 (σ 0 3 + 1)) 0 3 ((goesF (goesF σ 0 (σ 0 3 + 1)) 1 (σ 0 3 + 1)) 0 3 + 1)) kf tf H sf df xf hn ik tl sp rd gr) rfl ?_
  exact J_vret C hr dX6_ticks_20 () rfl trivial (by rw [← ticks_m, hg1, hg0])
