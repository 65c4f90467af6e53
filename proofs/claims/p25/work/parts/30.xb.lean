/-! rows with a premise on what is old: static arrays, the class of arrays of states -/
def XT (t N : Nat) (f : Nat → Nat) : (Nat → Prop) → State → Prop := fun A U => va_T .int t N (fun j => .int (nI (f j))) A U U.heap
def XS (al ag : Nat) : (Nat → Prop) → State → Prop := fun A U => (va_Z "TwoScribes" "LEAST_SETTINGS" "[I" (.ref al) A U U.heap ∧ XT al 3 loS A U) ∧ va_Z "TwoScribes" "GREATEST_SETTINGS" "[I" (.ref ag) A U U.heap ∧ XT ag 3 hiS A U
def XA : (Nat → Prop) → State → Prop := fun _ U => va_AO "TwoScribes$State" U
def XB (X : (Nat → Prop) → State → Prop) : Prop := ∀ (A : Nat → Prop) (u U : State), U.heap = u.heap → U.vm = u.vm → X A u → X A U
def XF (X : (Nat → Prop) → State → Prop) (A : Nat → Prop) (s : State) : Prop := ∀ (B : Nat → Prop) (U : State), s.WarmedH U.vm → (∀ q, B q → A q) → (∀ a : Nat, a < s.heap.size → ¬ A a → U.heap[a]? = s.heap[a]?) → X B U
theorem XT.b {t N : Nat} {f : Nat → Nat} : XB (XT t N f) := fun A u U h1 h2 h => by
  unfold XT
  rw [h1]
  exact va_T.moved (by rw [h2]; exact Vm.Alike.refl _) h
theorem XZ.b {Cn n d : String} {v : Value} : XB (fun A U => va_Z Cn n d v A U U.heap) := fun A u U h1 h2 h => by
  show va_Z Cn n d v A U U.heap
  rw [h1]
  exact va_Z.moved (by rw [h2]; exact Vm.Alike.refl _) h
theorem XS.b {al ag : Nat} : XB (XS al ag) := fun A u U h1 h2 h => ⟨⟨XZ.b A u U h1 h2 h.1.1, XT.b A u U h1 h2 h.1.2⟩, XZ.b A u U h1 h2 h.2.1, XT.b A u U h1 h2 h.2.2⟩
theorem XA.b : XB XA := fun A u U h1 h2 h => va_AO.moved (u := u) (U := U) (by rw [h2]; exact Vm.Alike.refl _) h
theorem XT.f {t N : Nat} {f : Nat → Nat} {A : Nat → Prop} {s : State} (h : XT t N f A s) : XF (XT t N f) A s := fun B U hW hAB hk => (va_T.moved hW.alike (va_T.kept h hk)).narrow hAB
theorem XZ.f {Cn n d : String} {v : Value} {A : Nat → Prop} {s : State} (h : va_Z Cn n d v A s s.heap) : XF (fun A U => va_Z Cn n d v A U U.heap) A s := fun B U hW hAB hk => (va_Z.moved hW.alike (va_Z.kept h hk)).narrow hAB
theorem XS.f {al ag : Nat} {A : Nat → Prop} {s : State} (h : XS al ag A s) : XF (XS al ag) A s := fun B U hW hAB hk => ⟨⟨XZ.f h.1.1 B U hW hAB hk, XT.f h.1.2 B U hW hAB hk⟩, XZ.f h.2.1 B U hW hAB hk, XT.f h.2.2 B U hW hAB hk⟩
theorem XA.f {A : Nat → Prop} {s : State} (h : XA A s) : XF XA A s := fun B U hW hAB hk => va_AO.moved hW.alike h
theorem PcG_blindX {G : GT} {X : (Nat → Prop) → State → Prop} (hXb : XB X) {as : List Value} {W0 : va_W} {sz : Nat} : FrameBlind (PcG G X as W0 sz) := fun a U g mk q => ⟨q.1, q.2.1, q.2.2.1, Ev.same (U := U.calling g mk a) rfl q.2.2.2.1, q.2.2.2.2.1, hXb _ U (U.calling g mk a) rfl rfl q.2.2.2.2.2⟩
section XBASE
variable {p : Program} {l : Launch} {e : Env} {R : Room} {s : State} {m : MethodId} {args : Array Value} {below : List Frame} {meth : Method} {c : Code} {Q : State → Prop} {G : GT} {A : Nat → Prop} {nL k n : Nat} {cc : ByteArray} {own : String} {ws : va_W} {lv : List (Nat × Value)} {pc : Nat} {st : List Value}
theorem J_gets (C : Cx p s m args meth c G A nL cc own) {fn d : String} {v : Value} {index : Nat} (hZ : va_Z own fn d v A s s.heap) (hlink : Cond.fieldLink own index own fn d ∈ GW) (hdg : decode cc pc = .ok (.getstatic index, 3)) (kk : J p l e R s m args below meth c Q G A nL k n ws lv (pc + 3) (v :: st)) : J p l e R s m args below meth c Q G A nL k n ws lv pc st := fun H locs ls hP hD hS hl => va_gets C.1 C.2.1 hZ hS C.2.2.2.1 (C.2.2.2.2.1 _ hlink) (fun _ h => h) hdg (kk H locs ls hP hD hS hl)
theorem J_tld (C : Cx p s m args meth c G A nL cc own) {t N : Nat} {f : Nat → Nat} (hT : XT t N f A s) {i : Int32} (j : Nat) (hi : i = nI j) (hj : j < N) (hN : N ≤ 4096) (hdg : decode cc pc = .ok (.iaload, 1)) (kk : J p l e R s m args below meth c Q G A nL k n ws lv (pc + 1) (.int (nI (f j)) :: st)) : J p l e R s m args below meth c Q G A nL k n ws lv pc (.int i :: .ref t :: st) := by
  obtain ⟨h1, h2⟩ := ix_in hi hj hN
  exact fun H locs ls hP hD hS hl => va_ti C.1 C.2.1 hT hS h1 (by rw [h2]) hdg (kk H locs ls hP hD hS hl)
theorem J_tlen (C : Cx p s m args meth c G A nL cc own) {t N : Nat} {f : Nat → Nat} (hT : XT t N f A s) (hdg : decode cc pc = .ok (.arraylength, 1)) (kk : J p l e R s m args below meth c Q G A nL k n ws lv (pc + 1) (.int (nI N) :: st)) : J p l e R s m args below meth c Q G A nL k n ws lv pc (.ref t :: st) := fun H locs ls hP hD hS hl => va_tlen C.1 C.2.1 hT hS rfl hdg (kk H locs ls hP hD hS hl)
/-- the script -/
theorem J_sld (C : Cx p s m args meth c G A nL cc own) {b L : Nat} {xs : Nat → Int32} (hX : va_X b L xs s s.heap) (hbl : b < s.heap.size) (hbA : ¬ A b) {i : Int32} (j : Nat) (hi : i = nI j) (hj : j < L) (hN : L ≤ 4096) (hdg : decode cc pc = .ok (.iaload, 1)) (kk : J p l e R s m args below meth c Q G A nL k n ws lv (pc + 1) (.int (xs j) :: st)) : J p l e R s m args below meth c Q G A nL k n ws lv pc (.int i :: .ref b :: st) := by
  obtain ⟨h1, h2⟩ := ix_in hi hj hN
  subst h2
  exact fun H locs ls hP hD hS hl => va_sld C.1 C.2.1 hX hbl hbA hS h1 hdg (kk H locs ls hP hD hS hl)
theorem J_slen (C : Cx p s m args meth c G A nL cc own) {b L : Nat} {xs : Nat → Int32} (hX : va_X b L xs s s.heap) (hbl : b < s.heap.size) (hbA : ¬ A b) (hdg : decode cc pc = .ok (.arraylength, 1)) (kk : J p l e R s m args below meth c Q G A nL k n ws lv (pc + 1) (.int (nI L) :: st)) : J p l e R s m args below meth c Q G A nL k n ws lv pc (.ref b :: st) := fun H locs ls hP hD hS hl => va_slen C.1 C.2.1 hX hbl hbA hS hdg (kk H locs ls hP hD hS hl)
theorem J_newq (C : Cx p s m args meth c G A nL cc own) {i : Int32} {index : Nat} (N : Nat) (hcl : Cond.classLink own index "TwoScribes$State" ∈ GW) (hX : va_AO "TwoScribes$State" s) (hi : i = nI N) (hN : N ≤ 4096) (hcells : k + 1 ≤ R.cells) (hslots : n + N ≤ R.slots) (hdg : decode cc pc = .ok (.anewarray index, 3)) (kk : ∀ q : Nat, J p l e R s m args below meth c Q G A nL (k + 1) (n + N) (ws ++ [(q, .inl (G.2.2.2, N, .inr (.inr (.inr (.inr (fun _ => none))))))]) lv (pc + 3) (.ref q :: st)) : J p l e R s m args below meth c Q G A nL k n ws lv pc (.int i :: st) := by
  intro H locs ls hP hD hS hl
  subst hi
  refine va_newq C.1 C.2.1 C.2.2.2.1 (C.2.2.2.2.1 _ hcl) hX C.2.2.2.2.2.1.1 hP hD hS C.2.2.2.2.2.2.1 (nI_pos (by omega)) (nI_clamp (by omega)) (by show N * 4 ≤ 536870912; omega) hcells hslots hdg (fun q cA H1 hK1 hP1 hD1 hS1 => ?_)
  obtain ⟨_, _, _, _, _, h1⟩ : va_RA s cA (.object "TwoScribes$State") := (hK1.2 (tyG G).length (cA, .object "TwoScribes$State") (by rw [List.getElem?_append_right (Nat.le_refl _), Nat.sub_self]; rfl)).2
  obtain ⟨_, _, _, _, _, h2⟩ : va_RA s G.2.2.2 (.object "TwoScribes$State") := (C.2.2.2.2.2.1.1.2 2 (G.2.2.2, .object "TwoScribes$State") rfl).2
  have h3 : cA = G.2.2.2 := Option.some.inj (h1.symm.trans h2)
  subst h3
  exact kk q H1 locs ls hP1 hD1 hS1 hl
/-- an array of references: its function may be another one that agrees below its length -/
theorem J_arrq (q0 : Nat) {a N : Nat} {cA : ClassId} {f : Nat → Option Nat} (g : Nat → Option Nat) (he : ws[q0]? = some (a, .inl (cA, N, .inr (.inr (.inr (.inr f)))))) (hfg : ∀ j, j < N → f j = g j) (kk : J p l e R s m args below meth c Q G A nL k n (ws.set q0 (a, .inl (cA, N, .inr (.inr (.inr (.inr g)))))) lv pc st) : J p l e R s m args below meth c Q G A nL k n ws lv pc st := by
  intro H locs ls hP hD hS hl
  refine kk H locs ls (hP.set hD he ?_ (fun _ _ => rfl)) (hD.set he) hS hl
  have h1 : H[a]? = some (vp_cell cA (N, .inr (.inr (.inr (.inr f))))) := hP q0 _ he
  show H[a]? = some (vp_cell cA (N, .inr (.inr (.inr (.inr g)))))
  rw [h1, vp_cell_q, vp_cell_q, arrV_ext (fun j hj => by rw [hfg j hj])]
theorem J_runX {X : (Nat → Prop) → State → Prop} (hXf : XF X A s) {S : Type} {post : S → Prop} {ret1 : S → Option Value} {W0 : va_W} {W1 : S → va_W} {mc ms : Nat} {rest st0 : List Value} {a : Array Value} (C : Cx p s m args meth c G A nL cc own) (ws2 : S → va_W) (isC isR : List Nat) (hC1 : isC.map (fun i => ws[i]?) = W0.map some) (hnC : va_nd isC = true) (hC2 : ∀ u, isC.map (fun i => (ws2 u)[i]?) = (W1 u).map some) (wr : va_W) (hR1 : isR.map (fun i => ws[i]?) = wr.map some) (hR2 : ∀ u, isR.map (fun i => (ws2 u)[i]?) = wr.map some) (NW : Nat) (hNW : ∀ u, (ws2 u).length = NW) (hall : (List.range NW).all (fun i => isC.contains i || isR.contains i) = true) (hdis : isR.all (fun i => !isC.contains i) = true)
    (hrun : ∀ (H : Heap) (locs : List Loc) (ls : Array Slot), va_P G.1 vwCl ws H → va_P G.1 vwCl W0 H → va_D (fun _ => True) W0 → lv_has ls nL lv → (∀ U : State, U.heap = H → s.WarmedH U.vm → X (va_A W0 H.size) U) → va_Run p l e R s m args below meth c H locs k n mc ms (F0 m pc ls st0) rest (QcG post ret1 W1 G (va_A W0 H.size) a) (va_A W0 H.size))
    (kk : ∀ u, post u → J p l e R s m args below meth c Q G A nL (k + mc) (n + ms) (ws2 u) lv (pc + 3) ((ret1 u).toList ++ rest)) : J p l e R s m args below meth c Q G A nL k n ws lv pc st0 := by
  intro H locs ls hP hD hS hl
  have hPc : va_P G.1 vwCl W0 H := hP.sub isC (wb_fm hC1)
  have hDc : va_D A W0 := hD.sub isC hnC hC1
  have hFc := va_free hD hS C.2.2.2.2.2.2.1 isC hC1
  intro T hT X0
  obtain ⟨v, st₀, t, T', L, h0, X', hL, e1, e2, ⟨⟨u, hv, hp, hP1, hD1⟩, hz, hk⟩, go⟩ := hrun H locs ls hP hPc (hDc.weaken (fun _ _ _ _ => trivial)) hl (fun U hU hW => hXf _ U hW hFc (fun q h1 h2 => by rw [hU]; exact hS.2.1 q h1 h2)) T hT X0
  cases hv
  rw [h0] at hz hk
  obtain ⟨hP2, hD2⟩ := wb hP hD hC1 (hC2 u) ((hR2 u).trans hR1.symm) (by rw [hNW u]; exact hall) hdis hk hFc hP1 hD1
  obtain ⟨t2, a1, b1⟩ := kk u hp T'.heap (locs ++ L) ls (by rw [e1]; exact hP2) hD2
    ⟨Nat.le_trans hS.1 (by rw [e1]; exact hz), fun q h1 h2 => by rw [e1, hk q (Nat.lt_of_lt_of_le h1 hS.1) (fun z => h2 (hFc q z))]; exact hS.2.1 q h1 h2, fun q hq => by
      rcases List.mem_append.mp hq with h | h
      · exact hS.2.2 q h
      · exact hFc _ (hL q h)⟩ hl T' rfl X'
  exact ⟨t2, go t2 a1, b1⟩
variable {X : (Nat → Prop) → State → Prop} {S : Type} {post : S → Prop} {ret1 : S → Option Value} {W0 : va_W} {W1 : S → va_W} {y : MethodName} {bytes : ByteArray} {maxL : Nat} {ret : Option FieldType} {rmc : Room} {as rest : List Value} {b index : Nat}
theorem J_callVX (C : Cx p s m args meth c G A nL cc own) (hXb : XB X) (hXf : XF X A s) (hC : Ct l G X y (Wy y bytes maxL ret) rmc (.ref b :: as) W0 post ret1 W1) (ws2 : S → va_W) (isC isR : List Nat) (nn : Nat) (hlk : Cond.methodLink own index y ∈ GW) (him : Cond.instanceMethod y ∈ GW) (hse : Cond.selects y.cls y y ∈ GW) (hini : Cond.initialized y.cls ∈ GW) (hcode : Cond.code y bytes maxL ret ∈ GW) (hn : as.length = nn) (hd : y.cls ≠ "java/lang/invoke/MethodHandle" ∧ y.cls ≠ "java/lang/invoke/VarHandle" ∧ (parseMethodDescriptor y.desc).map (fun d => d.parameters.length) = some nn) (hR0 : rmc.frames + 1 ≤ R.frames ∧ 8 + (maxL + 11) + rmc.locals ≤ R.locals) (hcell : k + rmc.cells ≤ R.cells ∧ n + rmc.slots ≤ R.slots) (hdg : decode cc pc = .ok (.invokevirtual index, 3)) (hst : (rest.map fun v => v.category).sum ≤ 8)
    (q0 : Nat) {ci : Nat} {fs : List Value} {T : u_T} {N : Nat} (hrecv : ws[q0]? = some (b, .inr (ci, fs))) (hcl : vwCl[ci]? = some (y.cls, T, N))
    (hC1 : isC.map (fun i => ws[i]?) = W0.map some) (hnC : va_nd isC = true) (hC2 : ∀ u, isC.map (fun i => (ws2 u)[i]?) = (W1 u).map some) (wr : va_W) (hR1 : isR.map (fun i => ws[i]?) = wr.map some) (hR2 : ∀ u, isR.map (fun i => (ws2 u)[i]?) = wr.map some) (NW : Nat) (hNW : ∀ u, (ws2 u).length = NW) (hall : (List.range NW).all (fun i => isC.contains i || isR.contains i) = true) (hdis : isR.all (fun i => !isC.contains i) = true)
    (kk : ∀ u, post u → J p l e R s m args below meth c Q G A nL (k + rmc.cells) (n + rmc.slots) (ws2 u) lv (pc + 3) ((ret1 u).toList ++ rest)) : J p l e R s m args below meth c Q G A nL k n ws lv pc (as.reverse ++ .ref b :: rest) :=
  J_runX hXf (a := (Value.ref b :: as).toArray) C ws2 isC isR hC1 hnC hC2 wr hR1 hR2 NW hNW hall hdis (fun H locs ls hP hPc hDc hl hXX => va_runV ⟨C.1, C.2.1, C.2.2.1, C.2.2.2.1, C.2.2.2.2.1⟩ (hC H.size) ⟨callB_of nn C.2.2.2.2.1 (Wy_good hcode) rfl rfl rfl (C.2.2.2.2.1 _ hini) (C.2.2.2.2.1 _ hlk) hd hR0, C.2.2.2.2.1 _ him, C.2.2.2.2.1 _ hse⟩ ⟨PcG_blindX hXb, va_recv C.2.2.2.2.2.1.1 hP hcl hrecv, fun U hU hW => ⟨rfl, by rw [hU], by rw [hU]; exact hPc, Ev.warm hW C.2.2.2.2.2.1, hDc, hXX U hU hW⟩⟩ rfl hn hl.1 rfl (lv_room hst) hdg hcell) kk
theorem J_callSX (C : Cx p s m args meth c G A nL cc own) (hXb : XB X) (hXf : XF X A s) (hC : Ct l G X y (Wy y bytes maxL ret) rmc as W0 post ret1 W1) (ws2 : S → va_W) (isC isR : List Nat) (nn : Nat) (hlk : Cond.methodLink own index y ∈ GW) (hsm : Cond.static y ∈ GW) (hini : Cond.initialized y.cls ∈ GW) (hcode : Cond.code y bytes maxL ret ∈ GW) (hn : as.length = nn) (hd : y.cls ≠ "java/lang/invoke/MethodHandle" ∧ y.cls ≠ "java/lang/invoke/VarHandle" ∧ (parseMethodDescriptor y.desc).map (fun d => d.parameters.length) = some nn) (hR0 : rmc.frames + 1 ≤ R.frames ∧ 8 + (maxL + 11) + rmc.locals ≤ R.locals) (hcell : k + rmc.cells ≤ R.cells ∧ n + rmc.slots ≤ R.slots) (hdg : decode cc pc = .ok (.invokestatic index, 3)) (hst : (rest.map fun v => v.category).sum ≤ 8)
    (hC1 : isC.map (fun i => ws[i]?) = W0.map some) (hnC : va_nd isC = true) (hC2 : ∀ u, isC.map (fun i => (ws2 u)[i]?) = (W1 u).map some) (wr : va_W) (hR1 : isR.map (fun i => ws[i]?) = wr.map some) (hR2 : ∀ u, isR.map (fun i => (ws2 u)[i]?) = wr.map some) (NW : Nat) (hNW : ∀ u, (ws2 u).length = NW) (hall : (List.range NW).all (fun i => isC.contains i || isR.contains i) = true) (hdis : isR.all (fun i => !isC.contains i) = true)
    (kk : ∀ u, post u → J p l e R s m args below meth c Q G A nL (k + rmc.cells) (n + rmc.slots) (ws2 u) lv (pc + 3) ((ret1 u).toList ++ rest)) : J p l e R s m args below meth c Q G A nL k n ws lv pc (as.reverse ++ rest) :=
  J_runX hXf (a := as.toArray) C ws2 isC isR hC1 hnC hC2 wr hR1 hR2 NW hNW hall hdis (fun H locs ls hP hPc hDc hl hXX => va_runS ⟨C.1, C.2.1, C.2.2.1, C.2.2.2.1, C.2.2.2.2.1⟩ (hC H.size) ⟨callB_of nn C.2.2.2.2.1 (Wy_good hcode) rfl rfl rfl (C.2.2.2.2.1 _ hini) (C.2.2.2.2.1 _ hlk) hd hR0, C.2.2.2.2.1 _ hsm⟩ ⟨PcG_blindX hXb, fun U hU hW => ⟨rfl, by rw [hU], by rw [hU]; exact hPc, Ev.warm hW C.2.2.2.2.2.1, hDc, hXX U hU hW⟩⟩ rfl hn hl.1 rfl (lv_room hst) hdg hcell) kk
theorem J_callIX (C : Cx p s m args meth c G A nL cc own) (hXb : XB X) (hXf : XF X A s) (hC : Ct l G X y (Wy y bytes maxL none) rmc (.ref b :: as) W0 post ret1 W1) (ws2 : S → va_W) (isC isR : List Nat) (nn : Nat) (hlk : Cond.methodLink own index y ∈ GW) (hy1 : y.name = "<init>") (him : Cond.instanceMethod y ∈ GW) (hini : Cond.initialized y.cls ∈ GW) (hcode : Cond.code y bytes maxL none ∈ GW) (hn : as.length = nn) (hd : y.cls ≠ "java/lang/invoke/MethodHandle" ∧ y.cls ≠ "java/lang/invoke/VarHandle" ∧ (parseMethodDescriptor y.desc).map (fun d => d.parameters.length) = some nn) (hR0 : rmc.frames + 1 ≤ R.frames ∧ 8 + (maxL + 11) + rmc.locals ≤ R.locals) (hcell : k + rmc.cells ≤ R.cells ∧ n + rmc.slots ≤ R.slots) (hdg : decode cc pc = .ok (.invokespecial index, 3)) (hst : (rest.map fun v => v.category).sum ≤ 8)
    (hC1 : isC.map (fun i => ws[i]?) = W0.map some) (hnC : va_nd isC = true) (hC2 : ∀ u, (isC.map (fun i => (ws2 u)[i]?)) = (W1 u).map some) (wr : va_W) (hR1 : isR.map (fun i => ws[i]?) = wr.map some) (hR2 : ∀ u, isR.map (fun i => (ws2 u)[i]?) = wr.map some) (NW : Nat) (hNW : ∀ u, (ws2 u).length = NW) (hall : (List.range NW).all (fun i => isC.contains i || isR.contains i) = true) (hdis : isR.all (fun i => !isC.contains i) = true)
    (kk : ∀ u, post u → J p l e R s m args below meth c Q G A nL (k + rmc.cells) (n + rmc.slots) (ws2 u) lv (pc + 3) ((ret1 u).toList ++ rest)) : J p l e R s m args below meth c Q G A nL k n ws lv pc (as.reverse ++ .ref b :: rest) :=
  J_runX hXf (a := (Value.ref b :: as).toArray) C ws2 isC isR hC1 hnC hC2 wr hR1 hR2 NW hNW hall hdis (fun H locs ls hP hPc hDc hl hXX => va_runI ⟨C.1, C.2.1, C.2.2.1, C.2.2.2.1, C.2.2.2.2.1⟩ (hC H.size) ⟨callB_of nn C.2.2.2.2.1 (Wy_good hcode) rfl rfl rfl (C.2.2.2.2.1 _ hini) (C.2.2.2.2.1 _ hlk) hd hR0, hy1, C.2.2.2.2.1 _ him⟩ ⟨PcG_blindX hXb, fun U hU hW => ⟨rfl, by rw [hU], by rw [hU]; exact hPc, Ev.warm hW C.2.2.2.2.2.1, hDc, hXX U hU hW⟩⟩ rfl hn hl.1 rfl (lv_room hst) hdg hcell) kk
end XBASE
