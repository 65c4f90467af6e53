set_option maxHeartbeats 4000000 in
set_option maxRecDepth 100000 in
theorem law_all {p : Program} {l : Launch} {e : Env} {s : State} {m : MethodId} {below : List Frame} {meth : Method} {c : Code} {Q : State → Prop} {G : GT} {A : Nat → Prop} {bb sL : Nat} {xs : Nat → Int32} (C : Cx p s m #[Value.ref bb] meth c G A 8 cL_law "TwoScribesLaw") (hX : va_X bb sL xs s s.heap) (hbl : bb < s.heap.size) (hbA : ¬ A bb) (hsL : sL ≤ 1536) (ts : Nat) (a a1 a2 : Nat → Nat) (hh : Nat) (b : Nat → Nat) (ha : Nat) (hb : Nat → Nat → Nat) (mo : Nat → Nat) (al ag : Nat) (hXS : XS al ag A s) (hex : ∀ (i : Nat) (σ : AS) (d : Nat → Nat) (σ1 : AS) (d1 : Nat → Nat) (σ2 : AS) (d2 : Nat → Nat) (hσ : Nat → AS) (hd : Nat → Nat → Nat) (f n : Nat) (t : Nat → Nat) (L : Nat) (lt ms : Nat → Nat) (hf : Nat) (fa : Int32) (cu : Nat) (ks : Nat) (kf tf H sf df : Nat → Nat) (sp rd : Nat) (gr : Int32), J p l e room_1 s m #[Value.ref bb] below meth c Q G A 8 600000 7302250 (LW G ts a a1 a2 hh b ha hb mo σ d σ1 d1 σ2 d2 hσ hd f n t L lt ms hf fa cu ks kf tf H sf df sp rd gr) [(0, .ref bb), (1, .ref ts), (2, .ref (mo 0)), (3, .int (nI (3 * i)))] 666 []) : ∀ k i, 3 * i ≤ sL → sL < 3 * i + k → LG p l e s m below meth c Q G A bb ts a a1 a2 hh b ha hb mo i := by
  intro k
  induction k with
  | zero => intro i h1 h2; omega
  | succ k ih =>
    intro i h1 h2
    unfold LG
    intro σ d σ1 d1 σ2 d2 hσ hd f n t L lt ms hf fa cu ks kf tf H sf df sp rd gr hLI
    refine J_iload_n C rfl dL_law_18 ?_
    refine J_aload_n C rfl dL_law_19 ?_
    refine J_slen C hX hbl hbA dL_law_20 ?_
    refine J_iconst C 3 (by decide) dL_law_21 ?_
    refine J_isub C dL_law_22 ?_
    refine J_icmp_gt C 666 (by decide) dL_law_23 (fun _ => hex i σ d σ1 d1 σ2 d2 hσ hd f n t L lt ms hf fa cu ks kf tf H sf df sp rd gr) (fun hg => ?_)
    have hi : 3 * i + 3 ≤ sL := by rw [law_gt hsL (by omega)] at hg; omega
    have hih := ih (i + 1) (by omega) (by omega)
    refine J_aload_n C rfl dL_law_26 ?_
    refine J_iload_n C rfl dL_law_27 ?_
    refine J_sld C hX hbl hbA (3 * i) rfl (by omega) (by omega) dL_law_28 ?_
    refine J_bipush C 31 (by decide) dL_law_29 ?_
    refine J_iand C dL_law_31 ?_
    generalize xs (3 * i) &&& 31 = v
    by_cases hsw : v.toInt < 0 ∨ 21 < v.toInt
    · refine J_tableOut C 660 hsw (by decide) dL_law_32 ?_
      exact law_next C i ts a a1 a2 hh b ha hb mo σ d σ1 d1 σ2 d2 hσ hd f n t L lt ms hf fa cu ks kf tf H sf df sp rd gr hih hLI (by omega)
    · rcases (show v.toInt = 0 ∨ v.toInt = 1 ∨ v.toInt = 2 ∨ v.toInt = 3 ∨ v.toInt = 4 ∨ v.toInt = 5 ∨ v.toInt = 6 ∨ v.toInt = 7 ∨ v.toInt = 8 ∨ v.toInt = 9 ∨ v.toInt = 10 ∨ v.toInt = 11 ∨ v.toInt = 12 ∨ v.toInt = 13 ∨ v.toInt = 14 ∨ v.toInt = 15 ∨ v.toInt = 16 ∨ v.toInt = 17 ∨ v.toInt = 18 ∨ v.toInt = 19 ∨ v.toInt = 20 ∨ v.toInt = 21 by omega) with hz | hz | hz | hz | hz | hz | hz | hz | hz | hz | hz | hz | hz | hz | hz | hz | hz | hz | hz | hz | hz | hz
      · have hw : v = 0 := Int32.toInt_inj.mp (by rw [hz]; decide)
        refine J_tableIn C 136 (by rw [hw]; decide) (by rw [hw]; decide) (by rw [hw]; rfl) (by decide) dL_law_32 ?_
        exact law_readPage C hX hbl hbA hsL i hi ts a a1 a2 hh b ha hb mo σ d σ1 d1 σ2 d2 hσ hd f n t L lt ms hf fa cu ks kf tf H sf df sp rd gr hLI hih
      · have hw : v = 1 := Int32.toInt_inj.mp (by rw [hz]; decide)
        refine J_tableIn C 149 (by rw [hw]; decide) (by rw [hw]; decide) (by rw [hw]; rfl) (by decide) dL_law_32 ?_
        exact law_misread C hX hbl hbA hsL i hi ts a a1 a2 hh b ha hb mo σ d σ1 d1 σ2 d2 hσ hd f n t L lt ms hf fa cu ks kf tf H sf df sp rd gr hLI hih
      · have hw : v = 2 := Int32.toInt_inj.mp (by rw [hz]; decide)
        refine J_tableIn C 182 (by rw [hw]; decide) (by rw [hw]; decide) (by rw [hw]; rfl) (by decide) dL_law_32 ?_
        exact law_correct C hX hbl hbA hsL i hi ts a a1 a2 hh b ha hb mo σ d σ1 d1 σ2 d2 hσ hd f n t L lt ms hf fa cu ks kf tf H sf df sp rd gr hLI hih
      · have hw : v = 3 := Int32.toInt_inj.mp (by rw [hz]; decide)
        refine J_tableIn C 205 (by rw [hw]; decide) (by rw [hw]; decide) (by rw [hw]; rfl) (by decide) dL_law_32 ?_
        exact law_setPace C hX hbl hbA hsL i hi ts a a1 a2 hh b ha hb mo σ d σ1 d1 σ2 d2 hσ hd f n t L lt ms hf fa cu ks kf tf H sf df sp rd gr hLI hih
      · have hw : v = 4 := Int32.toInt_inj.mp (by rw [hz]; decide)
        refine J_tableIn C 238 (by rw [hw]; decide) (by rw [hw]; decide) (by rw [hw]; rfl) (by decide) dL_law_32 ?_
        exact law_pour C hX hbl hbA hsL i hi ts a a1 a2 hh b ha hb mo σ d σ1 d1 σ2 d2 hσ hd f n t L lt ms hf fa cu ks kf tf H sf df sp rd gr hLI hih
      · have hw : v = 5 := Int32.toInt_inj.mp (by rw [hz]; decide)
        refine J_tableIn C 261 (by rw [hw]; decide) (by rw [hw]; decide) (by rw [hw]; rfl) (by decide) dL_law_32 ?_
        exact law_set C hX hbl hbA hsL i hi ts a a1 a2 hh b ha hb mo σ d σ1 d1 σ2 d2 hσ hd f n t L lt ms hf fa cu ks kf tf H sf df sp rd gr al ag hXS hLI hih
      · have hw : v = 6 := Int32.toInt_inj.mp (by rw [hz]; decide)
        refine J_tableIn C 294 (by rw [hw]; decide) (by rw [hw]; decide) (by rw [hw]; rfl) (by decide) dL_law_32 ?_
        exact law_pass C hX hbl hbA hsL i hi ts a a1 a2 hh b ha hb mo σ d σ1 d1 σ2 d2 hσ hd f n t L lt ms hf fa cu ks kf tf H sf df sp rd gr hLI hih
      · have hw : v = 7 := Int32.toInt_inj.mp (by rw [hz]; decide)
        refine J_tableIn C 317 (by rw [hw]; decide) (by rw [hw]; decide) (by rw [hw]; rfl) (by decide) dL_law_32 ?_
        exact law_type C hX hbl hbA hsL i hi ts a a1 a2 hh b ha hb mo σ d σ1 d1 σ2 d2 hσ hd f n t L lt ms hf fa cu ks kf tf H sf df sp rd gr hLI hih
      · have hw : v = 8 := Int32.toInt_inj.mp (by rw [hz]; decide)
        refine J_tableIn C 342 (by rw [hw]; decide) (by rw [hw]; decide) (by rw [hw]; rfl) (by decide) dL_law_32 ?_
        exact law_clear C hX hbl hbA hsL i hi ts a a1 a2 hh b ha hb mo σ d σ1 d1 σ2 d2 hσ hd f n t L lt ms hf fa cu ks kf tf H sf df sp rd gr hLI hih
      · have hw : v = 9 := Int32.toInt_inj.mp (by rw [hz]; decide)
        refine J_tableIn C 355 (by rw [hw]; decide) (by rw [hw]; decide) (by rw [hw]; rfl) (by decide) dL_law_32 ?_
        exact law_undo C hX hbl hbA hsL i hi ts a a1 a2 hh b ha hb mo σ d σ1 d1 σ2 d2 hσ hd f n t L lt ms hf fa cu ks kf tf H sf df sp rd gr hLI hih
      · have hw : v = 10 := Int32.toInt_inj.mp (by rw [hz]; decide)
        refine J_tableIn C 368 (by rw [hw]; decide) (by rw [hw]; decide) (by rw [hw]; rfl) (by decide) dL_law_32 ?_
        exact law_keep C hX hbl hbA hsL i hi ts a a1 a2 hh b ha hb mo σ d σ1 d1 σ2 d2 hσ hd f n t L lt ms hf fa cu ks kf tf H sf df sp rd gr hLI hih
      · have hw : v = 11 := Int32.toInt_inj.mp (by rw [hz]; decide)
        refine J_tableIn C 381 (by rw [hw]; decide) (by rw [hw]; decide) (by rw [hw]; rfl) (by decide) dL_law_32 ?_
        exact law_restore C hX hbl hbA hsL i hi ts a a1 a2 hh b ha hb mo σ d σ1 d1 σ2 d2 hσ hd f n t L lt ms hf fa cu ks kf tf H sf df sp rd gr hLI hih
      · have hw : v = 12 := Int32.toInt_inj.mp (by rw [hz]; decide)
        refine J_tableIn C 394 (by rw [hw]; decide) (by rw [hw]; decide) (by rw [hw]; rfl) (by decide) dL_law_32 ?_
        exact law_place C hX hbl hbA hsL i hi ts a a1 a2 hh b ha hb mo σ d σ1 d1 σ2 d2 hσ hd f n t L lt ms hf fa cu ks kf tf H sf df sp rd gr hLI hih
      · have hw : v = 13 := Int32.toInt_inj.mp (by rw [hz]; decide)
        refine J_tableIn C 427 (by rw [hw]; decide) (by rw [hw]; decide) (by rw [hw]; rfl) (by decide) dL_law_32 ?_
        exact law_scribe C hX hbl hbA hsL i hi ts a a1 a2 hh b ha hb mo σ d σ1 d1 σ2 d2 hσ hd f n t L lt ms hf fa cu ks kf tf H sf df sp rd gr hLI hih
      · have hw : v = 14 := Int32.toInt_inj.mp (by rw [hz]; decide)
        refine J_tableIn C 460 (by rw [hw]; decide) (by rw [hw]; decide) (by rw [hw]; rfl) (by decide) dL_law_32 ?_
        exact law_ink C hX hbl hbA hsL i hi ts a a1 a2 hh b ha hb mo σ d σ1 d1 σ2 d2 hσ hd f n t L lt ms hf fa cu ks kf tf H sf df sp rd gr hLI hih
      · have hw : v = 15 := Int32.toInt_inj.mp (by rw [hz]; decide)
        refine J_tableIn C 511 (by rw [hw]; decide) (by rw [hw]; decide) (by rw [hw]; rfl) (by decide) dL_law_32 ?_
        exact law_nextS C hX hbl hbA hsL i hi ts a a1 a2 hh b ha hb mo σ d σ1 d1 σ2 d2 hσ hd f n t L lt ms hf fa cu ks kf tf H sf df sp rd gr hLI hih
      · have hw : v = 16 := Int32.toInt_inj.mp (by rw [hz]; decide)
        refine J_tableIn C 534 (by rw [hw]; decide) (by rw [hw]; decide) (by rw [hw]; rfl) (by decide) dL_law_32 ?_
        exact law_doneIn C hX hbl hbA hsL i hi ts a a1 a2 hh b ha hb mo σ d σ1 d1 σ2 d2 hσ hd f n t L lt ms hf fa cu ks kf tf H sf df sp rd gr hLI hih
      · have hw : v = 17 := Int32.toInt_inj.mp (by rw [hz]; decide)
        refine J_tableIn C 547 (by rw [hw]; decide) (by rw [hw]; decide) (by rw [hw]; rfl) (by decide) dL_law_32 ?_
        exact law_unlike C hX hbl hbA hsL i hi ts a a1 a2 hh b ha hb mo σ d σ1 d1 σ2 d2 hσ hd f n t L lt ms hf fa cu ks kf tf H sf df sp rd gr hLI hih
      · have hw : v = 18 := Int32.toInt_inj.mp (by rw [hz]; decide)
        refine J_tableIn C 560 (by rw [hw]; decide) (by rw [hw]; decide) (by rw [hw]; rfl) (by decide) dL_law_32 ?_
        exact law_unread C hX hbl hbA hsL i hi ts a a1 a2 hh b ha hb mo σ d σ1 d1 σ2 d2 hσ hd f n t L lt ms hf fa cu ks kf tf H sf df sp rd gr hLI hih
      · have hw : v = 19 := Int32.toInt_inj.mp (by rw [hz]; decide)
        refine J_tableIn C 573 (by rw [hw]; decide) (by rw [hw]; decide) (by rw [hw]; rfl) (by decide) dL_law_32 ?_
        exact law_needed C hX hbl hbA hsL i hi ts a a1 a2 hh b ha hb mo σ d σ1 d1 σ2 d2 hσ hd f n t L lt ms hf fa cu ks kf tf H sf df sp rd gr hLI hih
      · have hw : v = 20 := Int32.toInt_inj.mp (by rw [hz]; decide)
        refine J_tableIn C 614 (by rw [hw]; decide) (by rw [hw]; decide) (by rw [hw]; rfl) (by decide) dL_law_32 ?_
        exact law_best C hX hbl hbA hsL i hi ts a a1 a2 hh b ha hb mo σ d σ1 d1 σ2 d2 hσ hd f n t L lt ms hf fa cu ks kf tf H sf df sp rd gr hLI hih
      · have hw : v = 21 := Int32.toInt_inj.mp (by rw [hz]; decide)
        refine J_tableIn C 637 (by rw [hw]; decide) (by rw [hw]; decide) (by rw [hw]; rfl) (by decide) dL_law_32 ?_
        exact law_count C hX hbl hbA hsL i hi ts a a1 a2 hh b ha hb mo σ d σ1 d1 σ2 d2 hσ hd f n t L lt ms hf fa cu ks kf tf H sf df sp rd gr hLI hih
