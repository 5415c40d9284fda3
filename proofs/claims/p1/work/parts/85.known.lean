theorem arr_p {args : Array Value} {s : State} {ty : FieldType} (h : (Cond.arrayClass ty).before args s = true) : ∃ cA : ClassId, ArrOfT s cA ty ∧ s.vm.findClass ("[" ++ ty.toString) = some cA := by
  obtain ⟨cA, kA, comp, hfind, hk, hkind⟩ := Cond.arrayClass_spec h
  exact ⟨cA, fun n z => ⟨fun k h => (by cases h), kA, hk, comp, hkind⟩, hfind⟩
theorem arr_q {s : State} (h : va_AO "SleepingCars$Book" s) : ∃ cA : ClassId, ArrOfT s cA (.object "SleepingCars$Book") ∧ va_RA s cA (.object "SleepingCars$Book") := by
  obtain ⟨comp, c, k, h1, h2, h3, h4, h5⟩ := Cond.arrayOver_spec h
  exact ⟨c, fun n z => ⟨fun j h => (by cases h), k, h3, comp, h4⟩, k, comp, h3, h4, h1, h5⟩
set_option maxHeartbeats 4000000 in
set_option maxRecDepth 100000 in
theorem law_known {args : Array Value} {s : State} (hts : ∀ w ∈ lw_tbl, w.before args s = true) : ∃ (D : va_G) (cy : Nat → ClassId), va_K D vwCl (tyL cy) s ∧ NW s := by
  obtain ⟨c0, i0, k0⟩ := u_known (C := RX0) (T := TX0) (N := 10) (n := 10) hts inX0 (hts (.instantiable RX0 10) (List.mem_of_getElem? (i := 75) (by decide +kernel)))
  obtain ⟨c1, i1, k1⟩ := u_known (C := RX1) (T := TX1) (N := 8) (n := 8) hts inX1 (hts (.instantiable RX1 8) (List.mem_of_getElem? (i := 172) (by decide +kernel)))
  obtain ⟨c2, i2, k2⟩ := u_known (C := RX2) (T := TX2) (N := 8) (n := 8) hts inX2 (hts (.instantiable RX2 8) (List.mem_of_getElem? (i := 214) (by decide +kernel)))
  obtain ⟨c3, i3, k3⟩ := u_known (C := RX3) (T := TX3) (N := 6) (n := 6) hts inX3 (hts (.instantiable RX3 6) (List.mem_of_getElem? (i := 302) (by decide +kernel)))
  obtain ⟨c4, i4, k4⟩ := u_known (C := RX4) (T := TX4) (N := 3) (n := 3) hts inX4 (hts (.instantiable RX4 3) (List.mem_of_getElem? (i := 81) (by decide +kernel)))
  obtain ⟨c5, i5, k5⟩ := u_known (C := RX5) (T := TX5) (N := 4) (n := 4) hts inX5 (hts (.instantiable RX5 4) (List.mem_of_getElem? (i := 110) (by decide +kernel)))
  obtain ⟨c6, i6, k6⟩ := u_known (C := RX6) (T := TX6) (N := 2) (n := 2) hts inX6 (hts (.instantiable RX6 2) (List.mem_of_getElem? (i := 286) (by decide +kernel)))
  obtain ⟨c7, i7, k7⟩ := u_known (C := RX7) (T := TX7) (N := 7) (n := 7) hts inX7 (hts (.instantiable RX7 7) (List.mem_of_getElem? (i := 132) (by decide +kernel)))
  obtain ⟨c8, i8, k8⟩ := u_known (C := RX8) (T := TX8) (N := 4) (n := 4) hts inX8 (hts (.instantiable RX8 4) (List.mem_of_getElem? (i := 310) (by decide +kernel)))
  obtain ⟨c9, i9, k9⟩ := u_known (C := RX9) (T := TX9) (N := 4) (n := 4) hts inX9 (hts (.instantiable RX9 4) (List.mem_of_getElem? (i := 67) (by decide +kernel)))
  obtain ⟨c10, i10, k10⟩ := u_known (C := RX10) (T := TX10) (N := 53) (n := 53) hts inX10 (hts (.instantiable RX10 53) (List.mem_of_getElem? (i := 872) (by decide +kernel)))
  have hao : va_AO "SleepingCars$Book" s := va_AO.of (hts (.arrayOver (.object "SleepingCars$Book")) (List.mem_of_getElem? (i := 284) (by decide +kernel)))
  have hao : va_AO "SleepingCars$Book" s := hao
  obtain ⟨yI, aI, bI⟩ := arr_p (hts (.arrayClass .int) (List.mem_of_getElem? (i := 108) (by decide +kernel)))
  obtain ⟨yB, aB, bB⟩ := arr_p (hts (.arrayClass .byte) (List.mem_of_getElem? (i := 776) (by decide +kernel)))
  obtain ⟨yZ, aZ, bZ⟩ := arr_p (hts (.arrayClass .boolean) (List.mem_of_getElem? (i := 1037) (by decide +kernel)))
  obtain ⟨yQ, aQ, bQ⟩ := arr_q hao
  refine ⟨(fun k => match k with | 0 => c0 | 1 => c1 | 2 => c2 | 3 => c3 | 4 => c4 | 5 => c5 | 6 => c6 | 7 => c7 | 8 => c8 | 9 => c9 | _ => c10, fun k => match k with | 0 => i0 | 1 => i1 | 2 => i2 | 3 => i3 | 4 => i4 | 5 => i5 | 6 => i6 | 7 => i7 | 8 => i8 | 9 => i9 | _ => i10), (fun k => match k with | 0 => yI | 1 => yB | 2 => yZ | _ => yQ), ⟨?_, ?_⟩, ?_⟩
  · intro k q hq
    match k, hq with
    | 0, hq => cases hq; exact k0
    | 1, hq => cases hq; exact k1
    | 2, hq => cases hq; exact k2
    | 3, hq => cases hq; exact k3
    | 4, hq => cases hq; exact k4
    | 5, hq => cases hq; exact k5
    | 6, hq => cases hq; exact k6
    | 7, hq => cases hq; exact k7
    | 8, hq => cases hq; exact k8
    | 9, hq => cases hq; exact k9
    | 10, hq => cases hq; exact k10
    | k + 11, hq => simp [vwCl] at hq
  · intro k q hq
    match k, hq with
    | 0, hq => cases hq; exact ⟨aI, bI⟩
    | 1, hq => cases hq; exact ⟨aB, bB⟩
    | 2, hq => cases hq; exact ⟨aZ, bZ⟩
    | 3, hq => cases hq; exact ⟨aQ, bQ⟩
    | k + 4, hq => simp [tyL] at hq
  · exact ⟨⟨va_Nw.of rfl (hts (.methodLinkNest RX9 9 yX0_init RX9) (List.mem_of_getElem? (i := 76) (by decide +kernel))), va_Nw.of rfl (hts (.methodLinkNest RX0 20 yX5_init RX9) (List.mem_of_getElem? (i := 111) (by decide +kernel))), va_Nw.of rfl (hts (.methodLinkNest RX0 27 yX7_init RX9) (List.mem_of_getElem? (i := 133) (by decide +kernel))), va_Nw.of rfl (hts (.methodLinkNest RX0 34 yX1_init RX9) (List.mem_of_getElem? (i := 173) (by decide +kernel))), va_Nw.of rfl (hts (.methodLinkNest RX0 41 yX2_init RX9) (List.mem_of_getElem? (i := 215) (by decide +kernel))), va_Nw.of rfl (hts (.methodLinkNest RX9 22 yX6_init RX9) (List.mem_of_getElem? (i := 287) (by decide +kernel))), va_Nw.of rfl (hts (.methodLinkNest RX9 29 yX3_init RX9) (List.mem_of_getElem? (i := 303) (by decide +kernel))), va_Nw.of rfl (hts (.methodLinkNest RX3 20 yX2_init RX9) (List.mem_of_getElem? (i := 308) (by decide +kernel))), va_Nw.of rfl (hts (.methodLinkNest RX3 27 yX8_init RX9) (List.mem_of_getElem? (i := 311) (by decide +kernel))), va_Nw.of rfl (hts (.methodLinkNest RX0 93 yX9_legsBetween RX9) (List.mem_of_getElem? (i := 445) (by decide +kernel))), va_Nw.of rfl (hts (.methodLinkNest RX7 38 yX9_legsBetween RX9) (List.mem_of_getElem? (i := 490) (by decide +kernel)))⟩, hao⟩