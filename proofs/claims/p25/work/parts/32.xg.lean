theorem wb2 {D : va_G} {cl : List vw_C} {A0 : Nat → Prop} {ws W0 W1 ws2 : va_W} {H H1 : Heap} {isC isD isR : List Nat} (hP : va_P D cl ws H) (hD : va_D A0 ws) (hC1 : isC.map (fun i => ws[i]?) = W0.map some) (hC2 : isD.map (fun i => ws2[i]?) = W1.map some) (hR : isR.map (fun i => ws2[i]?) = isR.map (fun i => ws[i]?)) (hall : (List.range ws2.length).all (fun i => isD.contains i || isR.contains i) = true) (hdis : isR.all (fun i => !isC.contains i) = true)
    (hk : ∀ q : Nat, q < H.size → ¬ va_A W0 H.size q → H1[q]? = H[q]?) (hF : ∀ q, va_A W0 H.size q → A0 q) (hP1 : va_P D cl W1 H1) (hD1 : va_D (va_A W0 H.size) W1) : va_P D cl ws2 H1 ∧ va_D A0 ws2 := by
  have pos : ∀ (k : Nat) (q : Nat × va_E), ws2[k]? = some q → (∃ j : Nat, isD[j]? = some k ∧ W1[j]? = some q) ∨ (k ∉ isC ∧ ws[k]? = some q) := by
    intro k q hq
    have hlt : k < ws2.length := (List.getElem?_eq_some_iff.mp hq).1
    have h1 := List.all_eq_true.mp hall k (List.mem_range.mpr hlt)
    by_cases hc : k ∈ isD
    · obtain ⟨j, hj⟩ := List.getElem?_of_mem hc
      exact Or.inl ⟨j, hj, wb_pos hC2 hj hq⟩
    · have h2 : k ∈ isR := by
        rcases Bool.or_eq_true_iff.mp h1 with h | h
        · exact absurd (List.contains_iff_mem.mp h) hc
        · exact List.contains_iff_mem.mp h
      obtain ⟨j, hj⟩ := List.getElem?_of_mem h2
      have h3 : (isR.map (fun i => ws2[i]?))[j]? = (isR.map (fun i => ws[i]?))[j]? := by rw [hR]
      rw [List.getElem?_map, hj, List.getElem?_map, hj] at h3
      have h4 : ws2[k]? = ws[k]? := Option.some.inj h3
      exact Or.inr ⟨fun q => by have h5 : (!isC.contains k) = true := List.all_eq_true.mp hdis k h2; rw [List.contains_iff_mem.mpr q] at h5; exact absurd h5 (by decide), by rw [← h4]; exact hq⟩
  have apart : ∀ (k : Nat) (q : Nat × va_E), k ∉ isC → ws[k]? = some q → q.1 < H.size ∧ ¬ va_A W0 H.size q.1 := by
    intro k q hc hq
    have hl := (hP k q hq).lt
    refine ⟨hl, fun h => ?_⟩
    rcases h with ⟨k2, e2, h⟩ | h
    · have h5 : (isC.map (fun i => ws[i]?))[k2]? = some (some (q.1, e2)) := by rw [hC1, List.getElem?_map, h]; rfl
      rw [List.getElem?_map] at h5
      cases hi : isC[k2]? with
      | none => rw [hi] at h5; cases h5
      | some i =>
        rw [hi] at h5
        have h6 : ws[i]? = some (q.1, e2) := Option.some.inj h5
        have hij := hD.1 k i q (q.1, e2) hq h6 rfl
        subst hij
        exact hc (List.mem_of_getElem? hi)
    · omega
  refine ⟨fun k q hq => ?_, fun i j x y hx hy hxy => ?_, fun k q hq => ?_⟩
  · rcases pos k q hq with ⟨j, -, h2⟩ | ⟨h1, h2⟩
    · exact hP1 j q h2
    · obtain ⟨g1, g2⟩ := apart k q h1 h2
      exact (hP k q h2).kept (hk q.1 g1 g2)
  · rcases pos i x hx with ⟨a, h1, h2⟩ | ⟨h1, h2⟩ <;> rcases pos j y hy with ⟨b, h3, h4⟩ | ⟨h3, h4⟩
    · have hab := hD1.1 a b x y h2 h4 hxy
      subst hab
      rw [h1] at h3
      exact Option.some.inj h3
    · exact absurd (by rw [← hxy]; exact hD1.2 a x h2) (apart j y h3 h4).2
    · exact absurd (by rw [hxy]; exact hD1.2 b y h4) (apart i x h1 h2).2
    · exact hD.1 i j x y h2 h4 hxy
  · rcases pos k q hq with ⟨j, -, h2⟩ | ⟨-, h2⟩
    · exact hF _ (hD1.2 j q h2)
    · exact hD.2 k q h2
theorem NoX.b : XB NoX := fun _ _ _ _ _ _ => trivial
theorem NoX.f {A : Nat → Prop} {s : State} : XF NoX A s := fun _ _ _ _ _ => trivial
section XG
variable {p : Program} {l : Launch} {e : Env} {R : Room} {s : State} {m : MethodId} {args : Array Value} {below : List Frame} {meth : Method} {c : Code} {Q : State → Prop} {G : GT} {A : Nat → Prop} {nL k n : Nat} {cc : ByteArray} {own : String} {ws : va_W} {lv : List (Nat × Value)} {pc : Nat} {st : List Value}
theorem J_runG {X : (Nat → Prop) → State → Prop} (hXf : XF X A s) {S : Type} {post : S → Prop} {ret1 : S → Option Value} {W0 : va_W} {W1 : S → va_W} {mc ms : Nat} {rest st0 : List Value} {a : Array Value} (C : Cx p s m args meth c G A nL cc own) (ws2 : S → va_W) (isC isD isR : List Nat) (hC1 : isC.map (fun i => ws[i]?) = W0.map some) (hnC : va_nd isC = true) (hC2 : ∀ u, isD.map (fun i => (ws2 u)[i]?) = (W1 u).map some) (wr : va_W) (hR1 : isR.map (fun i => ws[i]?) = wr.map some) (hR2 : ∀ u, isR.map (fun i => (ws2 u)[i]?) = wr.map some) (NW : Nat) (hNW : ∀ u, (ws2 u).length = NW) (hall : (List.range NW).all (fun i => isD.contains i || isR.contains i) = true) (hdis : isR.all (fun i => !isC.contains i) = true)
    (hrun : ∀ (H : Heap) (locs : List Loc) (ls : Array Slot), va_P G.1 vwCl ws H → va_P G.1 vwCl W0 H → va_D (fun _ => True) W0 → lv_has ls nL lv → (∀ U : State, U.heap = H → s.WarmedH U.vm → X (va_A W0 H.size) U) → va_Run p l e R s m args below meth c H locs k n mc ms (F0 m pc ls st0) rest (QcG post ret1 W1 G (va_A W0 H.size) a) (va_A W0 H.size))
    (kk : ∀ u, post u → J p l e R s m args below meth c Q G A nL (k + mc) (n + ms) (ws2 u) lv (pc + 3) ((ret1 u).toList ++ rest)) : J p l e R s m args below meth c Q G A nL k n ws lv pc st0 := by
  intro H locs ls hP hD hS hl
  have hPc : va_P G.1 vwCl W0 H := hP.sub isC (wb_fm hC1)
  have hDc : va_D A W0 := hD.sub isC hnC hC1
  have hFc := va_free hD hS C.2.2.2.2.2.2.1 isC hC1
  intro T hT X0
  obtain ⟨v, st₀, t, T', L, h0, X', hL, e1, e2, ⟨⟨u, hv, hp, hP1, hD1⟩, hz, hk⟩, go⟩ := hrun H locs ls hP hPc (hDc.weaken (fun _ _ _ _ => trivial)) hl (fun U hU hW => hXf _ U hW hFc (fun q h1 h2 => by rw [hU]; exact hS.2.1 q h1 h2)) T hT X0
  cases hv
  rw [h0] at hz hk
  obtain ⟨hP2, hD2⟩ := wb2 hP hD hC1 (hC2 u) ((hR2 u).trans hR1.symm) (by rw [hNW u]; exact hall) hdis hk hFc hP1 hD1
  obtain ⟨t2, a1, b1⟩ := kk u hp T'.heap (locs ++ L) ls (by rw [e1]; exact hP2) hD2
    ⟨Nat.le_trans hS.1 (by rw [e1]; exact hz), fun q h1 h2 => by rw [e1, hk q (Nat.lt_of_lt_of_le h1 hS.1) (fun z => h2 (hFc q z))]; exact hS.2.1 q h1 h2, fun q hq => by
      rcases List.mem_append.mp hq with h | h
      · exact hS.2.2 q h
      · exact hFc _ (hL q h)⟩ hl T' rfl X'
  exact ⟨t2, go t2 a1, b1⟩
variable {X : (Nat → Prop) → State → Prop} {S : Type} {post : S → Prop} {ret1 : S → Option Value} {W0 : va_W} {W1 : S → va_W} {y : MethodName} {bytes : ByteArray} {maxL : Nat} {ret : Option FieldType} {rmc : Room} {as rest : List Value} {b index : Nat}
theorem J_callIG (C : Cx p s m args meth c G A nL cc own) (hXb : XB X) (hXf : XF X A s) (hC : Ct l G X y (Wy y bytes maxL none) rmc (.ref b :: as) W0 post ret1 W1) (ws2 : S → va_W) (isC isD isR : List Nat) (nn : Nat) (hlk : Cond.methodLink own index y ∈ GW) (hy1 : y.name = "<init>") (him : Cond.instanceMethod y ∈ GW) (hini : Cond.initialized y.cls ∈ GW) (hcode : Cond.code y bytes maxL none ∈ GW) (hn : as.length = nn) (hd : y.cls ≠ "java/lang/invoke/MethodHandle" ∧ y.cls ≠ "java/lang/invoke/VarHandle" ∧ (parseMethodDescriptor y.desc).map (fun d => d.parameters.length) = some nn) (hR0 : rmc.frames + 1 ≤ R.frames ∧ 8 + (maxL + 11) + rmc.locals ≤ R.locals) (hcell : k + rmc.cells ≤ R.cells ∧ n + rmc.slots ≤ R.slots) (hdg : decode cc pc = .ok (.invokespecial index, 3)) (hst : (rest.map fun v => v.category).sum ≤ 8)
    (hC1 : isC.map (fun i => ws[i]?) = W0.map some) (hnC : va_nd isC = true) (hC2 : ∀ u, (isD.map (fun i => (ws2 u)[i]?)) = (W1 u).map some) (wr : va_W) (hR1 : isR.map (fun i => ws[i]?) = wr.map some) (hR2 : ∀ u, isR.map (fun i => (ws2 u)[i]?) = wr.map some) (NW : Nat) (hNW : ∀ u, (ws2 u).length = NW) (hall : (List.range NW).all (fun i => isD.contains i || isR.contains i) = true) (hdis : isR.all (fun i => !isC.contains i) = true)
    (kk : ∀ u, post u → J p l e R s m args below meth c Q G A nL (k + rmc.cells) (n + rmc.slots) (ws2 u) lv (pc + 3) ((ret1 u).toList ++ rest)) : J p l e R s m args below meth c Q G A nL k n ws lv pc (as.reverse ++ .ref b :: rest) :=
  J_runG hXf (a := (Value.ref b :: as).toArray) C ws2 isC isD isR hC1 hnC hC2 wr hR1 hR2 NW hNW hall hdis (fun H locs ls hP hPc hDc hl hXX => va_runI ⟨C.1, C.2.1, C.2.2.1, C.2.2.2.1, C.2.2.2.2.1⟩ (hC H.size) ⟨callB_of nn C.2.2.2.2.1 (Wy_good hcode) rfl rfl rfl (C.2.2.2.2.1 _ hini) (C.2.2.2.2.1 _ hlk) hd hR0, hy1, C.2.2.2.2.1 _ him⟩ ⟨PcG_blindX hXb, fun U hU hW => ⟨rfl, by rw [hU], by rw [hU]; exact hPc, Ev.warm hW C.2.2.2.2.2.1, hDc, hXX U hU hW⟩⟩ rfl hn hl.1 rfl (lv_room hst) hdg hcell) kk
theorem J_callING (C : Cx p s m args meth c G A nL cc own) (hXb : XB X) (hXf : XF X A s) (hC : Ct l G X y (Wy y bytes maxL none) rmc (.ref b :: as) W0 post ret1 W1) (ws2 : S → va_W) (isC isD isR : List Nat) (nn : Nat) {host : String} (hlk : ∀ {U : State}, NOK U → va_Nw (.methodLinkNest own index y host) U) (hy1 : y.name = "<init>") (him : Cond.instanceMethod y ∈ GW) (hini : Cond.initialized y.cls ∈ GW) (hcode : Cond.code y bytes maxL none ∈ GW) (hn : as.length = nn) (hd : y.cls ≠ "java/lang/invoke/MethodHandle" ∧ y.cls ≠ "java/lang/invoke/VarHandle" ∧ (parseMethodDescriptor y.desc).map (fun d => d.parameters.length) = some nn) (hR0 : rmc.frames + 1 ≤ R.frames ∧ 8 + (maxL + 11) + rmc.locals ≤ R.locals) (hcell : k + rmc.cells ≤ R.cells ∧ n + rmc.slots ≤ R.slots) (hdg : decode cc pc = .ok (.invokespecial index, 3)) (hst : (rest.map fun v => v.category).sum ≤ 8)
    (hC1 : isC.map (fun i => ws[i]?) = W0.map some) (hnC : va_nd isC = true) (hC2 : ∀ u, (isD.map (fun i => (ws2 u)[i]?)) = (W1 u).map some) (wr : va_W) (hR1 : isR.map (fun i => ws[i]?) = wr.map some) (hR2 : ∀ u, isR.map (fun i => (ws2 u)[i]?) = wr.map some) (NW : Nat) (hNW : ∀ u, (ws2 u).length = NW) (hall : (List.range NW).all (fun i => isD.contains i || isR.contains i) = true) (hdis : isR.all (fun i => !isC.contains i) = true)
    (kk : ∀ u, post u → J p l e R s m args below meth c Q G A nL (k + rmc.cells) (n + rmc.slots) (ws2 u) lv (pc + 3) ((ret1 u).toList ++ rest)) : J p l e R s m args below meth c Q G A nL k n ws lv pc (as.reverse ++ .ref b :: rest) :=
  J_runG hXf (a := (Value.ref b :: as).toArray) C ws2 isC isD isR hC1 hnC hC2 wr hR1 hR2 NW hNW hall hdis (fun H locs ls hP hPc hDc hl hXX => va_runIN ⟨C.1, C.2.1, C.2.2.1, C.2.2.2.1, C.2.2.2.2.1⟩ (hC H.size) ⟨va_cnB nn C.2.2.2.2.1 (Wy_good hcode) rfl rfl rfl (hlk C.2.2.2.2.2.1.2) (C.2.2.2.2.1 _ hini) hd hR0, hy1, C.2.2.2.2.1 _ him⟩ ⟨PcG_blindX hXb, fun U hU hW => ⟨rfl, by rw [hU], by rw [hU]; exact hPc, Ev.warm hW C.2.2.2.2.2.1, hDc, hXX U hU hW⟩⟩ rfl hn hl.1 rfl (lv_room hst) hdg hcell) kk
end XG
/-! the state that a new object has -/
def sg0 : AS := up2 (up2 (up2 (up2 (up2 (up2 (fun _ _ => 0) 7 0 2) 7 1 7) 7 2 4) 0 6 256) 0 12 2) 0 13 2
theorem fl_z : (0 : UInt32) = fl 0 := by decide +kernel
theorem fl_w : (1082130432 : UInt32) = fl 256 := by decide +kernel
def hA (h : Nat) (u : Nat → Nat) : Nat → Nat := fun k => match k with
  | 0 => h
  | k + 1 => u (k + 1)
theorem Inv.z : Inv sg0 := ⟨⟨by show 0 ≤ 40; omega, rfl, by show 0 ≤ 102100; omega, by show 0 ≤ 20; omega, by show 0 ≤ 9999; omega⟩, ⟨by show 1 ≤ 2; omega, by show 2 ≤ 9; omega, by show 7 ≤ 8; omega, by show 4 ≤ 20; omega⟩, ⟨by show 0 ≤ 64; omega, by show 0 ≤ 64; omega, by show 0 + 0 + 256 + 0 + 0 = 256 + 8 * 0; omega⟩, ⟨by show 1 ≤ 2; omega, by show 2 ≤ 9; omega, by show 1 ≤ 2; omega, by show 2 ≤ 9; omega, by show 2 * 0 ≤ 0; omega, by show 2 * 0 ≤ 0; omega, by show 0 ≤ 8; omega, by show 0 ≤ 8; omega, by show 0 ≤ 9; omega, by show 0 ≤ 9; omega⟩, fun h => absurd (show 0 < 0 from h) (by omega), fun h => absurd (show 0 < 0 from h) (by omega), fun q _ => by show 0 ≤ 26 ∧ 0 ≤ 26 ∧ 0 ≤ 1 ∧ 0 ≤ 1 ∧ 0 ≤ 102100 ∧ (0 < 0 ↔ q < 0 ∨ (0 ≤ q + 0 ∧ q < 0)); omega, fun q hq => absurd (show q < 0 / 2 from hq) (by omega)⟩
theorem DOK.z (d : Nat → Nat) : DOK sg0 d := fun q hq => absurd (show q < 0 from hq) (by omega)
theorem WOK.z : WOK sg0 := fun _ _ => Iff.rfl

