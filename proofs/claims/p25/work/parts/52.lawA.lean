/-! the start: the classes, the links, what is old -/
theorem gw_t {w : Cond} (h : w ∈ GW) : w ∈ lw_tbl := (List.mem_filter.mp h).1
theorem nst_f : ∀ q ∈ NSTF, Cond.fieldLinkNest q.1 q.2.1 q.2.2.1 q.2.2.2.1 q.2.2.2.2.1 q.2.2.2.2.2 ∈ lw_tbl := by decide +kernel
theorem nst_m : ∀ q ∈ NSTM, Cond.methodLinkNest q.1 q.2.1 q.2.2.1 q.2.2.2 ∈ lw_tbl := by decide +kernel
theorem ao_t : Cond.arrayOver (.object "TwoScribes$State") ∈ lw_tbl := by decide +kernel
theorem ls_l : Cond.laysStatic "TwoScribes" "LEAST_SETTINGS" "[I" ∈ lw_tbl := by decide +kernel
theorem ls_g : Cond.laysStatic "TwoScribes" "GREATEST_SETTINGS" "[I" ∈ lw_tbl := by decide +kernel
theorem ev_start {args : Array Value} {s : State} (hts : ∀ w ∈ lw_tbl, w.before args s = true) : ∃ G : GT, Ev G s := by
  obtain ⟨c0, i0, h0⟩ := u_known (C := RX0) (T := TX0) (N := 3) hts (fun w h => gw_t (in0 w h)) (hts _ (gw_t k163))
  obtain ⟨c1, i1, h1⟩ := u_known (C := RX1) (T := TX1) (N := 8) hts (fun w h => gw_t (in1 w h)) (hts _ (gw_t k33))
  obtain ⟨c2, i2, h2⟩ := u_known (C := RX2) (T := TX2) (N := 7) hts (fun w h => gw_t (in2 w h)) (hts _ (gw_t k183))
  obtain ⟨c3, i3, h3⟩ := u_known (C := RX3) (T := TX3) (N := 7) hts (fun w h => gw_t (in3 w h)) (hts _ (gw_t k75))
  obtain ⟨c4, i4, h4⟩ := u_known (C := RX4) (T := TX4) (N := 11) hts (fun w h => gw_t (in4 w h)) (hts _ (gw_t k27))
  obtain ⟨c5, i5, h5⟩ := u_known (C := RX5) (T := TX5) (N := 6) hts (fun w h => gw_t (in5 w h)) (hts _ (gw_t k19))
  obtain ⟨aI, kI, pI, fI, gI, eI⟩ := Cond.arrayClass_spec (hts _ (gw_t k73))
  obtain ⟨aC, kC, pC, fC, gC, eC⟩ := Cond.arrayClass_spec (hts _ (gw_t k216))
  obtain ⟨pS, aS, kS, f1, f2, f3, f4, f5⟩ := Cond.arrayOver_spec (hts _ ao_t)
  refine ⟨((fun k => if k = 0 then c0 else if k = 1 then c1 else if k = 2 then c2 else if k = 3 then c3 else if k = 4 then c4 else c5, fun k => if k = 0 then i0 else if k = 1 then i1 else if k = 2 then i2 else if k = 3 then i3 else if k = 4 then i4 else i5), aI, aC, aS), ⟨fun k q hq => ?_, fun k q hq => ?_⟩, ⟨fun q hq => va_Nw.of rfl (hts _ (nst_f q hq)), fun q hq => va_Nw.of rfl (hts _ (nst_m q hq))⟩⟩
  · match k, hq with
    | 0, hq => cases hq; exact h0
    | 1, hq => cases hq; exact h1
    | 2, hq => cases hq; exact h2
    | 3, hq => cases hq; exact h3
    | 4, hq => cases hq; exact h4
    | 5, hq => cases hq; exact h5
    | k + 6, hq => exact absurd hq (by simp [vwCl])
  · match k, hq with
    | 0, hq => cases hq; exact ⟨fun n z => ⟨fun k h => (by cases h), kI, gI, pI, eI⟩, fI⟩
    | 1, hq => cases hq; exact ⟨fun n z => ⟨fun k h => (by cases h), kC, gC, pC, eC⟩, fC⟩
    | 2, hq => cases hq; exact ⟨fun n z => ⟨fun k h => (by cases h), kS, f3, pS, f4⟩, kS, pS, f3, f4, f1, f5⟩
    | k + 3, hq => exact absurd hq (by simp [tyG])
theorem xs_start {args : Array Value} {s : State} (hts : ∀ w ∈ lw_tbl, w.before args s = true) (hgv : (Jvm.Cond.and given_1 narrow_1).before args s = true) : ∃ al ag : Nat, XS al ag (fun q => s.heap.size ≤ q) s := by
  have hs := flat_of_before _ hgv
  have hA : ∀ a : Nat, a < s.heap.size → ¬ (fun q => s.heap.size ≤ q) a := fun a h q => absurd h (Nat.not_lt.mpr q)
  have key : ∀ (nm : String) (g : Nat → Nat), Cond.arrayOf (.static "TwoScribes" nm "[I") .int ∈ flatC (Jvm.Cond.and given_1 narrow_1) → Cond.eq (.length (.static "TwoScribes" nm "[I")) (.int 3) ∈ flatC (Jvm.Cond.and given_1 narrow_1) → (∀ j, j < 3 → Cond.eq (.elem (.static "TwoScribes" nm "[I") (.int (Int32.ofNat j))) (.int (nI (g j))) ∈ flatC (Jvm.Cond.and given_1 narrow_1)) → Cond.laysStatic "TwoScribes" nm "[I" ∈ lw_tbl → ∃ t : Nat, va_Z "TwoScribes" nm "[I" (.ref t) (fun q => s.heap.size ≤ q) s s.heap ∧ XT t 3 g (fun q => s.heap.size ≤ q) s := by
    intro nm g h1 h2 h3 h4
    obtain ⟨t, e1, e2⟩ := va_Tof (N := 3) (f := fun j => .int (nI (g j))) (by decide) (hs _ h1) (va_eqt (hs _ h2)) (fun j hj => va_eqt (hs _ (h3 j hj))) hA
    exact ⟨t, va_Zof (hts _ h4) (hts _ (gw_t k10)) e1 hA, e2⟩
  obtain ⟨al, a1, a2⟩ := key "LEAST_SETTINGS" loS (by decide +kernel) (by decide +kernel) (by decide +kernel) ls_l
  obtain ⟨ag, g1, g2⟩ := key "GREATEST_SETTINGS" hiS (by decide +kernel) (by decide +kernel) (by decide +kernel) ls_g
  exact ⟨al, ag, ⟨a1, a2⟩, g1, g2⟩
theorem PR.ko {r : Nat} {σ : AS} {x y x' y' : OS} (h : PR r σ x y) (hx : VO x' ∧ KO x x') (hy : VO y' ∧ KO y y') : PR r σ x' y' := by
  obtain ⟨⟨h1, h2⟩, ⟨h3, h5⟩, h6, ⟨h7, h8⟩, h9, h10⟩ := h
  refine ⟨⟨by rw [hx.2.1]; exact h1, by rw [hy.2.1]; exact h2⟩, ⟨hx.1, hy.1⟩, h6, ⟨?_, ?_⟩, ?_, ?_⟩
  · unfold SN at *; rw [hx.2.2.1]; exact h7
  · unfold SN at *; rw [hy.2.2.1]; exact h8
  · rw [hx.2.2.1, hy.2.2.1]; exact h9
  · rw [hx.2.2.1, hy.2.2.1]; exact h10
/-- a new object's -/
def zX : OS := ((fun _ => 0), (sg0, (fun _ => 0)), ((sg0, (fun _ => 0)), 0), ((fun _ => sg0), (fun _ _ => 0), 0, 0), ((fun _ => 0), 0), ((fun _ => 0), (fun _ => 0), 0, 0, 0))
theorem VO.z : VO zX := ⟨Or.inl rfl, by show 0 < 4; omega, by show 0 ≤ 4; omega, by show 0 ≤ 60; omega, fun _ => by show 0 < 65536; omega⟩
theorem PR.z {r : Nat} {u : AS × OS × OS} (hu : 0 < u.1 0 4 ∧ GV r u.1 u.2.1.1 ∧ GV r u.1 u.2.2.1 ∧ VO u.2.1 ∧ VO u.2.2 ∧ u.2.1.2.2.1 = zX.2.2.1 ∧ u.2.2.2.2.1 = zX.2.2.1) : PR r u.1 u.2.1 u.2.2 := by
  obtain ⟨u1, u2, u3, u4, u5, u6, u7⟩ := hu
  refine ⟨⟨u2, u3⟩, ⟨u4, u5⟩, u1, ⟨fun q => ?_, fun q => ?_⟩, by rw [u6, u7], by rw [u6, u7]⟩
  · rw [u6] at q; exact absurd (show 0 = 1 from q) (by omega)
  · rw [u7] at q; exact absurd (show 0 = 1 from q) (by omega)
theorem PR.le58 {r : Nat} {σ : AS} {x y : OS} (h : PR (r + 2) σ x y) : PR r σ x y := (h.id).id
