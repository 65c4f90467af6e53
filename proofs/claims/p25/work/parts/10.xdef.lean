/-! the definitions of a tick at each of the two scribes -/
theorem plc_0 (σ : AS) : plc σ 0 = σ 0 14 := rfl
theorem plc_1 (σ : AS) : plc σ 1 = σ 0 4 - 1 - σ 0 15 := rfl
theorem doesN_0 (σ : AS) : doesN σ 0 = if 0 < σ 0 18 then 1 else if σ 0 4 ≤ 2 * σ 0 14 then 5 else if letAt σ (σ 0 14) ≤ σ 0 24 ∨ 0 < σ 0 16 then 0 else if 0 < σ 0 19 then 3 else if σ 0 6 = 0 then 4 else 2 := rfl
theorem doesN_1 (σ : AS) : doesN σ 1 = if 0 < σ 0 19 then 1 else if σ 0 4 ≤ 2 * σ 0 15 then 5 else if letAt σ (σ 0 4 - 1 - σ 0 15) ≤ σ 0 25 ∨ 0 < σ 0 17 then 0 else if 0 < σ 0 18 then 3 else if σ 0 6 = 0 then 4 else 2 := rfl
theorem dipsF_0 (σ : AS) : dipsF σ 0 = if σ 0 18 - 1 = 0 then up2 (up2 (up2 (up2 σ 0 18 (σ 0 18 - 1)) 0 24 (σ 0 24 + gotF σ 0)) 0 6 (σ 0 6 - gotF σ 0)) 0 20 (σ 0 20 + 1) else up2 σ 0 18 (σ 0 18 - 1) := rfl
theorem dipsF_1 (σ : AS) : dipsF σ 1 = if σ 0 19 - 1 = 0 then up2 (up2 (up2 (up2 σ 0 19 (σ 0 19 - 1)) 0 25 (σ 0 25 + gotF σ 1)) 0 6 (σ 0 6 - gotF σ 1)) 0 21 (σ 0 21 + 1) else up2 σ 0 19 (σ 0 19 - 1) := rfl
theorem gotF_0 (σ : AS) : gotF σ 0 = if σ 0 6 < 64 - σ 0 24 then σ 0 6 else 64 - σ 0 24 := rfl
theorem gotF_1 (σ : AS) : gotF σ 1 = if σ 0 6 < 64 - σ 0 25 then σ 0 6 else 64 - σ 0 25 := rfl
theorem blotN_0 (σ : AS) : blotN σ 0 = if 8 * σ 7 1 < σ 0 24 then 1 else 0 := rfl
theorem blotN_1 (σ : AS) : blotN σ 1 = if 8 * σ 7 1 < σ 0 25 then 1 else 0 := rfl
theorem wroteF_0 (σ : AS) (w : Nat) : wroteF σ 0 w = up2 (up2 (up2 (up2 (up2 (up2 (up2 (up2 σ 3 (σ 0 14) (letAt σ (σ 0 14))) 4 (σ 0 14) (blotN σ 0)) 6 (σ 0 14) w) 0 24 (σ 0 24 - letAt σ (σ 0 14))) 0 7 (σ 0 7 + letAt σ (σ 0 14))) 0 16 0) 0 14 (σ 0 14 + 1)) 0 10 (σ 0 10 + 1) := rfl
theorem wroteF_1 (σ : AS) (w : Nat) : wroteF σ 1 w = up2 (up2 (up2 (up2 (up2 (up2 (up2 (up2 σ 3 (σ 0 4 - 1 - σ 0 15) (letAt σ (σ 0 4 - 1 - σ 0 15))) 4 (σ 0 4 - 1 - σ 0 15) (blotN σ 1)) 6 (σ 0 4 - 1 - σ 0 15) w) 0 25 (σ 0 25 - letAt σ (σ 0 4 - 1 - σ 0 15))) 0 7 (σ 0 7 + letAt σ (σ 0 4 - 1 - σ 0 15))) 0 17 0) 0 15 (σ 0 15 + 1)) 0 10 (σ 0 10 + 1) := rfl
theorem writesF_0 (σ : AS) (w : Nat) : writesF σ 0 w = if σ 0 16 + 1 < σ 0 12 then up2 σ 0 16 (σ 0 16 + 1) else wroteF σ 0 w := rfl
theorem writesF_1 (σ : AS) (w : Nat) : writesF σ 1 w = if σ 0 17 + 1 < σ 0 13 then up2 σ 0 17 (σ 0 17 + 1) else wroteF σ 1 w := rfl
theorem goesF_0 (σ : AS) (w : Nat) : goesF σ 0 w = if doesN σ 0 = 0 then writesF σ 0 w else if doesN σ 0 = 1 then dipsF σ 0 else if doesN σ 0 = 2 then up2 σ 0 18 (σ 7 0) else if doesN σ 0 = 5 then σ else up2 σ 0 22 (σ 0 22 + 1) := rfl
theorem goesF_1 (σ : AS) (w : Nat) : goesF σ 1 w = if doesN σ 1 = 0 then writesF σ 1 w else if doesN σ 1 = 1 then dipsF σ 1 else if doesN σ 1 = 2 then up2 σ 0 19 (σ 7 0) else if doesN σ 1 = 5 then σ else up2 σ 0 23 (σ 0 23 + 1) := rfl
theorem dnF_s (f c : Nat) (σ : AS) : dnF (f + 1) c σ = if σ 0 4 ≤ σ 0 14 + σ 0 15 then nI c else dnF f (c + 1) (ticksF σ) := rfl
