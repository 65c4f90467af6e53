/-! contracts over more cells: the frame rule at a contract -/
def XN (X : (Nat → Prop) → State → Prop) : Prop := ∀ (A B : Nat → Prop) (U : State), (∀ q, B q → A q) → X A U → X B U
theorem XN.no : XN NoX := fun _ _ _ _ _ => trivial
theorem XN.xs {al ag : Nat} : XN (XS al ag) := fun A B U h hX => (XS.f hX) B U (State.WarmedH.refl U) h (fun _ _ _ => rfl)
/-- the script that the law reads -/
def XSC (b L : Nat) (xs : Nat → Int32) : (Nat → Prop) → State → Prop := fun A U => va_X b L xs U U.heap ∧ ¬ A b
theorem XSC.lt {b L : Nat} {xs : Nat → Int32} {A : Nat → Prop} {U : State} (h : XSC b L xs A U) : b < U.heap.size := by
  obtain ⟨scr, h1, -⟩ := h.1
  exact (Array.getElem?_eq_some_iff.mp h1).1
theorem XSC.b {b L : Nat} {xs : Nat → Int32} : XB (XSC b L xs) := fun A u U h1 h2 h => by
  refine ⟨?_, h.2⟩
  rw [h1]
  exact va_X.moved (by rw [h2]; exact Vm.Alike.refl _) h.1
theorem XSC.f {b L : Nat} {xs : Nat → Int32} {A : Nat → Prop} {s : State} (h : XSC b L xs A s) : XF (XSC b L xs) A s := fun B U hW hAB hk => ⟨va_X.moved hW.alike (va_X.kept h.1 (hk b h.lt h.2)), fun z => h.2 (hAB b z)⟩
theorem Ct.frame {l : Launch} {G : GT} {X : (Nat → Prop) → State → Prop} {y : MethodName} {wl : List Cond} {rm : Room} {as : List Value} {S S' : Type} {W0 : va_W} {post : S → Prop} {ret1 : S → Option Value} {W1 : S → va_W} (h : Ct l G X y wl rm as W0 post ret1 W1) (hXn : XN X) {W : va_W} {post' : S' → Prop} {ret' : S' → Option Value} {W' : S' → va_W} (isC isR : List Nat) (wr : va_W) (g : S → S')
    (hC1 : isC.map (fun i => W[i]?) = W0.map some) (hnC : va_nd isC = true) (hR1 : isR.map (fun i => W[i]?) = wr.map some) (NW : Nat) (hall : (List.range NW).all (fun i => isC.contains i || isR.contains i) = true) (hdis : isR.all (fun i => !isC.contains i) = true)
    (hp : ∀ u, post u → post' (g u)) (hr : ∀ u, ret' (g u) = ret1 u) (hC2 : ∀ u, isC.map (fun i => (W' (g u))[i]?) = (W1 u).map some) (hR2 : ∀ u, isR.map (fun i => (W' (g u))[i]?) = wr.map some) (hNW : ∀ u, (W' (g u)).length = NW) : Ct l G X y wl rm as W post' ret' W' := by
  intro sz
  have hlt : ∀ q, va_A W0 sz q → va_A W sz q := by
    intro q hq
    rcases hq with ⟨k, e, hk⟩ | hk
    · have h1 : (isC.map (fun i => W[i]?))[k]? = some (some (q, e)) := by rw [hC1, List.getElem?_map, hk]; rfl
      rw [List.getElem?_map] at h1
      cases hi : isC[k]? with
      | none => rw [hi] at h1; cases h1
      | some i =>
        rw [hi] at h1
        exact Or.inl ⟨i, e, Option.some.inj h1⟩
    · exact Or.inr hk
  refine Jvm.Free.MetFree.mono (h sz) (fun a U hP => ?_) (fun _ _ _ _ _ _ => trivial) (fun a U oc t hP hQ => ?_)
  · obtain ⟨ha, hs, hPW, hE, hD, hX⟩ := hP
    exact ⟨ha, hs, hPW.sub isC (wb_fm hC1), hE, hD.sub isC hnC hC1, hXn _ _ _ hlt hX⟩
  · obtain ⟨ha, hs, hPW, hE, hD, hX⟩ := hP
    obtain ⟨⟨⟨u, ho, hpu, hP1, hD1⟩, hz, hk⟩, L, hF, hL⟩ := hQ
    subst hs
    obtain ⟨hP2, hD2⟩ := wb (A0 := va_A W U.heap.size) hPW hD.self hC1 (hC2 u) ((hR2 u).trans hR1.symm) (by rw [hNW u]; exact hall) hdis hk hlt hP1 hD1
    exact ⟨⟨⟨g u, by rw [ho, hr u], hp u hpu, hP2, hD2⟩, hz, fun q h1 h2 => hk q h1 (fun z => h2 (hlt q z))⟩, L, hF, fun q hq => hlt _ (hL q hq)⟩
theorem Ct.room {l : Launch} {G : GT} {X : (Nat → Prop) → State → Prop} {y : MethodName} {wl : List Cond} {rm rm' : Room} {as : List Value} {S : Type} {W0 : va_W} {post : S → Prop} {ret1 : S → Option Value} {W1 : S → va_W} (h : Ct l G X y wl rm as W0 post ret1 W1) (hr : rm.frames ≤ rm'.frames ∧ rm.locals ≤ rm'.locals ∧ rm.cells = rm'.cells ∧ rm.slots = rm'.slots) : Ct l G X y wl rm' as W0 post ret1 W1 := by
  intro sz p e ha hcs hk s m args below hfr happ hP hK
  obtain ⟨a1, a2, a3, a4, a5, a6, a7, a8⟩ := (Spec.appliesLoose_iff hfr).mp happ
  obtain ⟨h1, h2, h3, h4⟩ := hr
  have a9 : s.hasRoom e.platform rm = true := by
    have a10 : s.hasRoom e.platform rm' = true := a7
    simp only [State.hasRoom, Bool.and_eq_true, decide_eq_true_eq] at a10 ⊢
    obtain ⟨⟨⟨⟨y1, y2, y3, y4, y5, y6⟩, y7⟩, y8⟩, y9⟩ := a10
    exact ⟨⟨⟨⟨by omega, by omega, by omega, by omega, by omega, y6⟩, by omega⟩, by omega⟩, y9⟩
  obtain ⟨n, o, b1, b2, b3, b4⟩ := h sz p e ha hcs hk s m args below hfr ((Spec.appliesLoose_iff hfr).mpr ⟨a1, a2, a3, a4, a5, a6, a9, a8⟩) hP hK
  rw [h3, h4] at b4
  exact ⟨n, o, b1, b2, b3, b4⟩
/-! a world of two blocks -/
theorem ap_0 (W0 : va_W) : (List.range W0.length).map (fun i => W0[i]?) = W0.map some := by
  apply List.ext_getElem?
  intro i
  rw [List.getElem?_map, List.getElem?_map]
  by_cases h : i < W0.length
  · rw [List.getElem?_range h]
    show some (W0[i]?) = _
    rw [List.getElem?_eq_getElem h]
    rfl
  · rw [List.getElem?_eq_none (by simpa using h), List.getElem?_eq_none (by simpa using h)]
    rfl
theorem ap_l (W0 R0 : va_W) : (List.range W0.length).map (fun i => (W0 ++ R0)[i]?) = W0.map some := by
  apply List.ext_getElem?
  intro i
  rw [List.getElem?_map, List.getElem?_map]
  by_cases h : i < W0.length
  · rw [List.getElem?_range h, List.getElem?_eq_getElem h]
    show some ((W0 ++ R0)[i]?) = _
    rw [List.getElem?_append_left h, List.getElem?_eq_getElem h]
    rfl
  · rw [List.getElem?_eq_none (by simpa using h), List.getElem?_eq_none (by simpa using h)]
    rfl
theorem ap_r (W0 R0 : va_W) : ((List.range R0.length).map (fun i => W0.length + i)).map (fun i => (W0 ++ R0)[i]?) = R0.map some := by
  rw [List.map_map]
  apply List.ext_getElem?
  intro i
  rw [List.getElem?_map, List.getElem?_map]
  by_cases h : i < R0.length
  · rw [List.getElem?_range h, List.getElem?_eq_getElem h]
    show some ((W0 ++ R0)[W0.length + i]?) = _
    rw [List.getElem?_append_right (Nat.le_add_right _ _), Nat.add_sub_cancel_left, List.getElem?_eq_getElem h]
    rfl
  · rw [List.getElem?_eq_none (by simpa using h), List.getElem?_eq_none (by simpa using h)]
    rfl
theorem nd_of {l : List Nat} (h : l.Nodup) : va_nd l = true := by
  induction l with
  | nil => rfl
  | cons a l ih =>
    have h1 := List.nodup_cons.mp h
    show (decide (a ∉ l) && va_nd l) = true
    rw [ih h1.2, decide_eq_true h1.1]
    rfl
theorem nd_l (n : Nat) : va_nd (List.range n) = true := nd_of List.nodup_range
theorem nd_r (m n : Nat) : va_nd ((List.range n).map (fun i => m + i)) = true := nd_of (by
  rw [List.nodup_iff_pairwise_ne, List.pairwise_map]
  exact (List.nodup_iff_pairwise_ne.mp List.nodup_range).imp (fun {a b} h e => h (Nat.add_left_cancel e)))
theorem all_lr (m n : Nat) : (List.range (m + n)).all (fun i => (List.range m).contains i || ((List.range n).map (fun i => m + i)).contains i) = true := by
  rw [List.all_eq_true]
  intro i hi
  have hi2 := List.mem_range.mp hi
  rw [Bool.or_eq_true]
  by_cases h : i < m
  · exact Or.inl (List.contains_iff_mem.mpr (List.mem_range.mpr h))
  · exact Or.inr (List.contains_iff_mem.mpr (List.mem_map.mpr ⟨i - m, List.mem_range.mpr (by omega), by omega⟩))
theorem all_rl (m n : Nat) : (List.range (m + n)).all (fun i => ((List.range n).map (fun i => m + i)).contains i || (List.range m).contains i) = true := by
  have h := all_lr m n
  rw [List.all_eq_true] at h ⊢
  intro i hi
  have h2 := h i hi
  rw [Bool.or_eq_true] at h2 ⊢
  exact h2.symm
theorem all_0 (m : Nat) : (List.range m).all (fun i => (List.range m).contains i || ([] : List Nat).contains i) = true := by
  rw [List.all_eq_true]
  intro i hi
  rw [Bool.or_eq_true]
  exact Or.inl (List.contains_iff_mem.mpr hi)
theorem all_n (m : Nat) : (List.range m).all (fun i => ([] : List Nat).contains i || (List.range m).contains i) = true := by
  rw [List.all_eq_true]
  intro i hi
  rw [Bool.or_eq_true]
  exact Or.inr (List.contains_iff_mem.mpr hi)
theorem dis_n (m : Nat) : (List.range m).all (fun i => !([] : List Nat).contains i) = true := by
  rw [List.all_eq_true]
  intro i hi
  rfl
theorem dis_lr (m n : Nat) : ((List.range n).map (fun i => m + i)).all (fun i => !(List.range m).contains i) = true := by
  rw [List.all_eq_true]
  intro i hi
  obtain ⟨j, hj, rfl⟩ := List.mem_map.mp hi
  rw [Bool.not_eq_true', Bool.eq_false_iff]
  intro h
  have h2 := List.mem_range.mp (List.contains_iff_mem.mp h)
  omega
theorem dis_rl (m n : Nat) : (List.range m).all (fun i => !((List.range n).map (fun i => m + i)).contains i) = true := by
  rw [List.all_eq_true]
  intro i hi
  rw [Bool.not_eq_true', Bool.eq_false_iff]
  intro h
  obtain ⟨j, hj, e⟩ := List.mem_map.mp (List.contains_iff_mem.mp h)
  have h2 := List.mem_range.mp hi
  omega
section TWO
variable {p : Program} {l : Launch} {e : Env} {R : Room} {s : State} {m : MethodId} {args : Array Value} {below : List Frame} {meth : Method} {c : Code} {Q : State → Prop} {G : GT} {A : Nat → Prop} {nL k n : Nat} {cc : ByteArray} {own : String} {ws : va_W} {lv : List (Nat × Value)} {pc : Nat} {st : List Value}
theorem J_merge (pc' : Nat) (st' : List Value) (lv' : List (Nat × Value)) (kk : J p l e R s m args below meth c Q G A nL k n ws lv' pc' st' → J p l e R s m args below meth c Q G A nL k n ws lv pc st) (hm : J p l e R s m args below meth c Q G A nL k n ws lv' pc' st') : J p l e R s m args below meth c Q G A nL k n ws lv pc st := kk hm
theorem J_mergeG {Z : Type} (WF : Z → va_W) (LF : Z → List (Nat × Value)) (SF : Z → List Value) (I : Z → Prop) (pc' : Nat) (kk : (∀ z, I z → J p l e R s m args below meth c Q G A nL k n (WF z) (LF z) pc' (SF z)) → J p l e R s m args below meth c Q G A nL k n ws lv pc st) (hm : ∀ z, I z → J p l e R s m args below meth c Q G A nL k n (WF z) (LF z) pc' (SF z)) : J p l e R s m args below meth c Q G A nL k n ws lv pc st := kk hm
theorem J_ishr (C : Cx p s m args meth c G A nL cc own) {x y : Int32}  (hdg : decode cc pc = .ok (.ishr, 1)) (kk : J p l e R s m args below meth c Q G A nL k n ws lv (pc + 1) (.int (x >>> (y &&& 31)) :: st)) : J p l e R s m args below meth c Q G A nL k n ws lv pc (.int y :: .int x :: st) := fun H locs ls hP hD hS hl => lv_ishr C.1 C.2.1 hdg (kk H locs ls hP hD hS hl)
theorem J_ixor (C : Cx p s m args meth c G A nL cc own) {x y : Int32}  (hdg : decode cc pc = .ok (.ixor, 1)) (kk : J p l e R s m args below meth c Q G A nL k n ws lv (pc + 1) (.int (x ^^^ y) :: st)) : J p l e R s m args below meth c Q G A nL k n ws lv pc (.int y :: .int x :: st) := fun H locs ls hP hD hS hl => lv_ixor C.1 C.2.1 hdg (kk H locs ls hP hD hS hl)
theorem J_dadd (C : Cx p s m args meth c G A nL cc own) {x y : UInt64} (hne : vf_n64 (FP.dadd x y)) (hdg : decode cc pc = .ok (.dadd, 1)) (kk : J p l e R s m args below meth c Q G A nL k n ws lv (pc + 1) (.double (FP.dadd x y) :: st)) : J p l e R s m args below meth c Q G A nL k n ws lv pc (.double y :: .double x :: st) := fun H locs ls hP hD hS hl => lv_dadd C.1 C.2.1 hdg hne (kk H locs ls hP hD hS hl)
theorem J_dmul (C : Cx p s m args meth c G A nL cc own) {x y : UInt64} (hne : vf_n64 (FP.dmul x y)) (hdg : decode cc pc = .ok (.dmul, 1)) (kk : J p l e R s m args below meth c Q G A nL k n ws lv (pc + 1) (.double (FP.dmul x y) :: st)) : J p l e R s m args below meth c Q G A nL k n ws lv pc (.double y :: .double x :: st) := fun H locs ls hP hD hS hl => lv_dmul C.1 C.2.1 hdg hne (kk H locs ls hP hD hS hl)
theorem J_dconst1 (C : Cx p s m args meth c G A nL cc own)   (hdg : decode cc pc = .ok (.dconst 1, 1)) (kk : J p l e R s m args below meth c Q G A nL k n ws lv (pc + 1) (.double FP.dconst1 :: st)) : J p l e R s m args below meth c Q G A nL k n ws lv pc (st) := fun H locs ls hP hD hS hl => lv_dconst1 C.1 C.2.1 hdg (kk H locs ls hP hD hS hl)
variable {X : (Nat → Prop) → State → Prop} {S : Type} {post : S → Prop} {ret1 : S → Option Value} {W0 : va_W} {W1 : S → va_W} {y : MethodName} {bytes : ByteArray} {maxL : Nat} {ret : Option FieldType} {rmc : Room} {as rest : List Value} {b index : Nat}
theorem J_V0 (C : Cx p s m args meth c G A nL cc own) (hXb : XB X) (hXf : XF X A s) (hC : Ct l G X y (Wy y bytes maxL ret) rmc (.ref b :: as) W0 post ret1 W1) (hN : ∀ u, (W1 u).length = W0.length) (nn : Nat) (hlk : Cond.methodLink own index y ∈ GW) (him : Cond.instanceMethod y ∈ GW) (hse : Cond.selects y.cls y y ∈ GW) (hini : Cond.initialized y.cls ∈ GW) (hcode : Cond.code y bytes maxL ret ∈ GW) (hn : as.length = nn) (hd : y.cls ≠ "java/lang/invoke/MethodHandle" ∧ y.cls ≠ "java/lang/invoke/VarHandle" ∧ (parseMethodDescriptor y.desc).map (fun d => d.parameters.length) = some nn) (hR0 : rmc.frames + 1 ≤ R.frames ∧ 8 + (maxL + 11) + rmc.locals ≤ R.locals) (hcell : k + rmc.cells ≤ R.cells ∧ n + rmc.slots ≤ R.slots) (hdg : decode cc pc = .ok (.invokevirtual index, 3)) (hst : (rest.map fun v => v.category).sum ≤ 8)
    {ci : Nat} {fs : List Value} {T : u_T} {N : Nat} (hrecv : W0[0]? = some (b, .inr (ci, fs))) (hcl : vwCl[ci]? = some (y.cls, T, N))
    (kk : ∀ u, post u → J p l e R s m args below meth c Q G A nL (k + rmc.cells) (n + rmc.slots) (W1 u) lv (pc + 3) ((ret1 u).toList ++ rest)) : J p l e R s m args below meth c Q G A nL k n W0 lv pc (as.reverse ++ .ref b :: rest) :=
  J_callVX C hXb hXf hC W1 (List.range W0.length) [] nn hlk him hse hini hcode hn hd hR0 hcell hdg hst 0 hrecv hcl (ap_0 W0) (nd_l _) (fun u => by rw [← hN u]; exact ap_0 (W1 u)) [] rfl (fun _ => rfl) W0.length hN (all_0 _) rfl kk
theorem J_S00 (C : Cx p s m args meth c G A nL cc own) (hXb : XB X) (hXf : XF X A s) (hC : Ct l G X y (Wy y bytes maxL ret) rmc as W0 post ret1 W1) (hN : ∀ u, (W1 u).length = W0.length) (nn : Nat) (hlk : Cond.methodLink own index y ∈ GW) (hsm : Cond.static y ∈ GW) (hini : Cond.initialized y.cls ∈ GW) (hcode : Cond.code y bytes maxL ret ∈ GW) (hn : as.length = nn) (hd : y.cls ≠ "java/lang/invoke/MethodHandle" ∧ y.cls ≠ "java/lang/invoke/VarHandle" ∧ (parseMethodDescriptor y.desc).map (fun d => d.parameters.length) = some nn) (hR0 : rmc.frames + 1 ≤ R.frames ∧ 8 + (maxL + 11) + rmc.locals ≤ R.locals) (hcell : k + rmc.cells ≤ R.cells ∧ n + rmc.slots ≤ R.slots) (hdg : decode cc pc = .ok (.invokestatic index, 3)) (hst : (rest.map fun v => v.category).sum ≤ 8)
    (kk : ∀ u, post u → J p l e R s m args below meth c Q G A nL (k + rmc.cells) (n + rmc.slots) (W1 u) lv (pc + 3) ((ret1 u).toList ++ rest)) : J p l e R s m args below meth c Q G A nL k n W0 lv pc (as.reverse ++ rest) :=
  J_callSX C hXb hXf hC W1 (List.range W0.length) [] nn hlk hsm hini hcode hn hd hR0 hcell hdg hst (ap_0 W0) (nd_l _) (fun u => by rw [← hN u]; exact ap_0 (W1 u)) [] rfl (fun _ => rfl) W0.length hN (all_0 _) rfl kk
theorem J_S0 (C : Cx p s m args meth c G A nL cc own) (hXb : XB X) (hXf : XF X A s) (hC : Ct l G X y (Wy y bytes maxL ret) rmc as [] post ret1 (fun _ => [])) (nn : Nat) (hlk : Cond.methodLink own index y ∈ GW) (hsm : Cond.static y ∈ GW) (hini : Cond.initialized y.cls ∈ GW) (hcode : Cond.code y bytes maxL ret ∈ GW) (hn : as.length = nn) (hd : y.cls ≠ "java/lang/invoke/MethodHandle" ∧ y.cls ≠ "java/lang/invoke/VarHandle" ∧ (parseMethodDescriptor y.desc).map (fun d => d.parameters.length) = some nn) (hR0 : rmc.frames + 1 ≤ R.frames ∧ 8 + (maxL + 11) + rmc.locals ≤ R.locals) (hcell : k + rmc.cells ≤ R.cells ∧ n + rmc.slots ≤ R.slots) (hdg : decode cc pc = .ok (.invokestatic index, 3)) (hst : (rest.map fun v => v.category).sum ≤ 8)
    (kk : ∀ u, post u → J p l e R s m args below meth c Q G A nL (k + rmc.cells) (n + rmc.slots) ws lv (pc + 3) ((ret1 u).toList ++ rest)) : J p l e R s m args below meth c Q G A nL k n ws lv pc (as.reverse ++ rest) :=
  J_callSX C hXb hXf hC (fun _ => ws) [] (List.range ws.length) nn hlk hsm hini hcode hn hd hR0 hcell hdg hst rfl rfl (fun _ => rfl) ws (ap_0 ws) (fun _ => ap_0 ws) ws.length (fun _ => rfl) (all_n _) (dis_n _) kk
theorem J_V1 (C : Cx p s m args meth c G A nL cc own) (hXb : XB X) (hXf : XF X A s) (hC : Ct l G X y (Wy y bytes maxL ret) rmc (.ref b :: as) W0 post ret1 W1) (R0 : va_W) (hN : ∀ u, (W1 u).length = W0.length) (nn : Nat) (hlk : Cond.methodLink own index y ∈ GW) (him : Cond.instanceMethod y ∈ GW) (hse : Cond.selects y.cls y y ∈ GW) (hini : Cond.initialized y.cls ∈ GW) (hcode : Cond.code y bytes maxL ret ∈ GW) (hn : as.length = nn) (hd : y.cls ≠ "java/lang/invoke/MethodHandle" ∧ y.cls ≠ "java/lang/invoke/VarHandle" ∧ (parseMethodDescriptor y.desc).map (fun d => d.parameters.length) = some nn) (hR0 : rmc.frames + 1 ≤ R.frames ∧ 8 + (maxL + 11) + rmc.locals ≤ R.locals) (hcell : k + rmc.cells ≤ R.cells ∧ n + rmc.slots ≤ R.slots) (hdg : decode cc pc = .ok (.invokevirtual index, 3)) (hst : (rest.map fun v => v.category).sum ≤ 8)
    {ci : Nat} {fs : List Value} {T : u_T} {N : Nat} (hrecv : W0[0]? = some (b, .inr (ci, fs))) (hcl : vwCl[ci]? = some (y.cls, T, N))
    (kk : ∀ u, post u → J p l e R s m args below meth c Q G A nL (k + rmc.cells) (n + rmc.slots) (W1 u ++ R0) lv (pc + 3) ((ret1 u).toList ++ rest)) : J p l e R s m args below meth c Q G A nL k n (W0 ++ R0) lv pc (as.reverse ++ .ref b :: rest) :=
  J_callVX C hXb hXf hC (fun u => W1 u ++ R0) (List.range W0.length) ((List.range R0.length).map (fun i => W0.length + i)) nn hlk him hse hini hcode hn hd hR0 hcell hdg hst 0 (by cases hW : W0 with | nil => rw [hW] at hrecv; cases hrecv | cons a t => rw [hW] at hrecv; exact hrecv) hcl (ap_l W0 R0) (nd_l _) (fun u => by rw [← hN u]; exact ap_l (W1 u) R0) R0 (ap_r W0 R0) (fun u => by rw [← hN u]; exact ap_r (W1 u) R0) (W0.length + R0.length) (fun u => by rw [List.length_append, hN u]) (all_lr _ _) (dis_lr _ _) kk
theorem J_V2 (C : Cx p s m args meth c G A nL cc own) (hXb : XB X) (hXf : XF X A s) (hC : Ct l G X y (Wy y bytes maxL ret) rmc (.ref b :: as) W0 post ret1 W1) (R0 : va_W) (hN : ∀ u, (W1 u).length = W0.length) (nn : Nat) (hlk : Cond.methodLink own index y ∈ GW) (him : Cond.instanceMethod y ∈ GW) (hse : Cond.selects y.cls y y ∈ GW) (hini : Cond.initialized y.cls ∈ GW) (hcode : Cond.code y bytes maxL ret ∈ GW) (hn : as.length = nn) (hd : y.cls ≠ "java/lang/invoke/MethodHandle" ∧ y.cls ≠ "java/lang/invoke/VarHandle" ∧ (parseMethodDescriptor y.desc).map (fun d => d.parameters.length) = some nn) (hR0 : rmc.frames + 1 ≤ R.frames ∧ 8 + (maxL + 11) + rmc.locals ≤ R.locals) (hcell : k + rmc.cells ≤ R.cells ∧ n + rmc.slots ≤ R.slots) (hdg : decode cc pc = .ok (.invokevirtual index, 3)) (hst : (rest.map fun v => v.category).sum ≤ 8)
    {ci : Nat} {fs : List Value} {T : u_T} {N : Nat} (hrecv : W0[0]? = some (b, .inr (ci, fs))) (hcl : vwCl[ci]? = some (y.cls, T, N))
    (kk : ∀ u, post u → J p l e R s m args below meth c Q G A nL (k + rmc.cells) (n + rmc.slots) (R0 ++ W1 u) lv (pc + 3) ((ret1 u).toList ++ rest)) : J p l e R s m args below meth c Q G A nL k n (R0 ++ W0) lv pc (as.reverse ++ .ref b :: rest) :=
  J_callVX C hXb hXf hC (fun u => R0 ++ W1 u) ((List.range W0.length).map (fun i => R0.length + i)) (List.range R0.length) nn hlk him hse hini hcode hn hd hR0 hcell hdg hst R0.length (by rw [List.getElem?_append_right (Nat.le_refl _), Nat.sub_self]; exact hrecv) hcl (ap_r R0 W0) (nd_r _ _) (fun u => by rw [← hN u]; exact ap_r R0 (W1 u)) R0 (ap_l R0 W0) (fun u => ap_l R0 (W1 u)) (R0.length + W0.length) (fun u => by rw [List.length_append, hN u]) (all_rl _ _) (dis_rl _ _) kk
theorem J_S1 (C : Cx p s m args meth c G A nL cc own) (hXb : XB X) (hXf : XF X A s) (hC : Ct l G X y (Wy y bytes maxL ret) rmc as W0 post ret1 W1) (R0 : va_W) (hN : ∀ u, (W1 u).length = W0.length) (nn : Nat) (hlk : Cond.methodLink own index y ∈ GW) (hsm : Cond.static y ∈ GW) (hini : Cond.initialized y.cls ∈ GW) (hcode : Cond.code y bytes maxL ret ∈ GW) (hn : as.length = nn) (hd : y.cls ≠ "java/lang/invoke/MethodHandle" ∧ y.cls ≠ "java/lang/invoke/VarHandle" ∧ (parseMethodDescriptor y.desc).map (fun d => d.parameters.length) = some nn) (hR0 : rmc.frames + 1 ≤ R.frames ∧ 8 + (maxL + 11) + rmc.locals ≤ R.locals) (hcell : k + rmc.cells ≤ R.cells ∧ n + rmc.slots ≤ R.slots) (hdg : decode cc pc = .ok (.invokestatic index, 3)) (hst : (rest.map fun v => v.category).sum ≤ 8)
    (kk : ∀ u, post u → J p l e R s m args below meth c Q G A nL (k + rmc.cells) (n + rmc.slots) (W1 u ++ R0) lv (pc + 3) ((ret1 u).toList ++ rest)) : J p l e R s m args below meth c Q G A nL k n (W0 ++ R0) lv pc (as.reverse ++ rest) :=
  J_callSX C hXb hXf hC (fun u => W1 u ++ R0) (List.range W0.length) ((List.range R0.length).map (fun i => W0.length + i)) nn hlk hsm hini hcode hn hd hR0 hcell hdg hst (ap_l W0 R0) (nd_l _) (fun u => by rw [← hN u]; exact ap_l (W1 u) R0) R0 (ap_r W0 R0) (fun u => by rw [← hN u]; exact ap_r (W1 u) R0) (W0.length + R0.length) (fun u => by rw [List.length_append, hN u]) (all_lr _ _) (dis_lr _ _) kk
theorem J_S2 (C : Cx p s m args meth c G A nL cc own) (hXb : XB X) (hXf : XF X A s) (hC : Ct l G X y (Wy y bytes maxL ret) rmc as W0 post ret1 W1) (R0 : va_W) (hN : ∀ u, (W1 u).length = W0.length) (nn : Nat) (hlk : Cond.methodLink own index y ∈ GW) (hsm : Cond.static y ∈ GW) (hini : Cond.initialized y.cls ∈ GW) (hcode : Cond.code y bytes maxL ret ∈ GW) (hn : as.length = nn) (hd : y.cls ≠ "java/lang/invoke/MethodHandle" ∧ y.cls ≠ "java/lang/invoke/VarHandle" ∧ (parseMethodDescriptor y.desc).map (fun d => d.parameters.length) = some nn) (hR0 : rmc.frames + 1 ≤ R.frames ∧ 8 + (maxL + 11) + rmc.locals ≤ R.locals) (hcell : k + rmc.cells ≤ R.cells ∧ n + rmc.slots ≤ R.slots) (hdg : decode cc pc = .ok (.invokestatic index, 3)) (hst : (rest.map fun v => v.category).sum ≤ 8)
    (kk : ∀ u, post u → J p l e R s m args below meth c Q G A nL (k + rmc.cells) (n + rmc.slots) (R0 ++ W1 u) lv (pc + 3) ((ret1 u).toList ++ rest)) : J p l e R s m args below meth c Q G A nL k n (R0 ++ W0) lv pc (as.reverse ++ rest) :=
  J_callSX C hXb hXf hC (fun u => R0 ++ W1 u) ((List.range W0.length).map (fun i => R0.length + i)) (List.range R0.length) nn hlk hsm hini hcode hn hd hR0 hcell hdg hst (ap_r R0 W0) (nd_r _ _) (fun u => by rw [← hN u]; exact ap_r R0 (W1 u)) R0 (ap_l R0 W0) (fun u => ap_l R0 (W1 u)) (R0.length + W0.length) (fun u => by rw [List.length_append, hN u]) (all_rl _ _) (dis_rl _ _) kk
end TWO
