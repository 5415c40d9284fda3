theorem arr_p {args : Array Value} {s : State} {ty : FieldType} (h : (Cond.arrayClass ty).before args s = true) : ∃ cA : ClassId, ArrOfT s cA ty ∧ s.vm.findClass ("[" ++ ty.toString) = some cA := by
  obtain ⟨cA, kA, comp, hfind, hk, hkind⟩ := Cond.arrayClass_spec h
  exact ⟨cA, fun n z => ⟨fun k h => (by cases h), kA, hk, comp, hkind⟩, hfind⟩
theorem arr_q {s : State} (h : va_AO "SleepingCars$Book" s) : ∃ cA : ClassId, ArrOfT s cA (.object "SleepingCars$Book") ∧ va_RA s cA (.object "SleepingCars$Book") := by
  obtain ⟨comp, c, k, h1, h2, h3, h4, h5⟩ := Cond.arrayOver_spec h
  exact ⟨c, fun n z => ⟨fun j h => (by cases h), k, h3, comp, h4⟩, k, comp, h3, h4, h1, h5⟩
def tmK (i : Nat) : Term := .string RX8 (72 + 2 * i)
abbrev gvL : List Cond := flatC (Jvm.Cond.and given_1 narrow_1)
theorem gv_ex : ∀ i : Fin 12, Cond.exactly (tmK i.val) "java/lang/String" ∈ gvL := by decide +kernel
theorem gv_co : ∀ i : Fin 12, Cond.eq (.field (tmK i.val) "java/lang/String" "coder" "B") (.int 0) ∈ gvL := by decide +kernel
theorem gv_ar : ∀ i : Fin 12, Cond.arrayOf (.field (tmK i.val) "java/lang/String" "value" "[B") .byte ∈ gvL := by decide +kernel
theorem gv_le : ∀ i : Fin 12, Cond.eq (.length (.field (tmK i.val) "java/lang/String" "value" "[B")) (.int (Int32.ofNat (strLen.getD i.val 0))) ∈ gvL := by decide +kernel
theorem gv_el : ∀ (i : Fin 12) (j : Fin 5), j.val < strLen.getD i.val 0 → Cond.eq (.elem (.field (tmK i.val) "java/lang/String" "value" "[B") (.int (Int32.ofNat j.val))) (.int ((strByt.getD i.val []).getD j.val 0)) ∈ gvL := by decide +kernel
theorem gv_ne : ∀ i j : Fin 12, i.val < j.val → Cond.not (Cond.eq (tmK i.val) (tmK j.val)) ∈ gvL := by decide +kernel
theorem strLen_lt : ∀ i : Fin 12, strLen.getD i.val 0 ≤ 5 := by decide
theorem gv_str {args : Array Value} {s : State} {A : Nat → Prop} (hs : ∀ w ∈ gvL, w.before args s = true) (hA : ∀ a : Nat, a < s.heap.size → ¬ A a) : ∃ adK adV : Nat → Nat, vk_S 12 strLen strByt adK adV A s s.heap ∧ ∀ i : Nat, i < 12 → (tmK i).eval args s none [] s = some (.ref (adK i)) := by
  refine vk_Sof (tm := tmK) (fun i hi => ?_) (fun i hi => hs _ (gv_ex ⟨i, hi⟩)) (fun i hi => hs _ (gv_co ⟨i, hi⟩)) (fun i hi => hs _ (gv_ar ⟨i, hi⟩)) (fun i hi => hs _ (gv_le ⟨i, hi⟩)) (fun i hi j hj => ?_) (fun i j hi hj hij => ?_) hA
  · have := strLen_lt ⟨i, hi⟩
    exact Nat.lt_of_le_of_lt this (by decide)
  · have h5 := strLen_lt ⟨i, hi⟩
    exact hs _ (gv_el ⟨i, hi⟩ ⟨j, Nat.lt_of_lt_of_le hj h5⟩ hj)
  · rcases Nat.lt_or_gt_of_ne hij with h | h
    · exact Or.inl (hs _ (gv_ne ⟨i, hi⟩ ⟨j, hj⟩ h))
    · exact Or.inr (hs _ (gv_ne ⟨j, hj⟩ ⟨i, hi⟩ h))
set_option maxHeartbeats 4000000 in
set_option maxRecDepth 100000 in
theorem law_known {args : Array Value} {s : State} (hts : ∀ w ∈ lw_tbl, w.before args s = true) (hgv : (Jvm.Cond.and given_1 narrow_1).before args s = true) : ∃ (D : va_G) (cy : Nat → ClassId) (E : EN), va_K D vwCl (tyL cy) s ∧ NW E s ∧ E.1 = s.heap.size := by
  have hs := flat_of_before _ hgv
  have hA0 : ∀ a : Nat, a < s.heap.size → ¬ (s.heap.size ≤ a) := fun a h => Nat.not_le.mpr h
  obtain ⟨adK, adV, hSS, hEv⟩ := gv_str (A := fun q => s.heap.size ≤ q) hs hA0
  obtain ⟨c0, i0, k0⟩ := u_known (C := RX0) (T := TX0) (N := 10) (n := 10) hts inX0 (hts (.instantiable RX0 10) (List.mem_of_getElem? (i := 75) (by decide +kernel)))
  obtain ⟨c1, i1, k1⟩ := u_known (C := RX1) (T := TX1) (N := 8) (n := 8) hts inX1 (hts (.instantiable RX1 8) (List.mem_of_getElem? (i := 172) (by decide +kernel)))
  obtain ⟨c2, i2, k2⟩ := u_known (C := RX2) (T := TX2) (N := 8) (n := 8) hts inX2 (hts (.instantiable RX2 8) (List.mem_of_getElem? (i := 214) (by decide +kernel)))
  obtain ⟨c3, i3, k3⟩ := u_known (C := RX3) (T := TX3) (N := 6) (n := 6) hts inX3 (hts (.instantiable RX3 6) (List.mem_of_getElem? (i := 302) (by decide +kernel)))
  obtain ⟨c4, i4, k4⟩ := u_known (C := RX4) (T := TX4) (N := 3) (n := 3) hts inX4 (hts (.instantiable RX4 3) (List.mem_of_getElem? (i := 81) (by decide +kernel)))
  obtain ⟨c5, i5, k5⟩ := u_known (C := RX5) (T := TX5) (N := 4) (n := 4) hts inX5 (hts (.instantiable RX5 4) (List.mem_of_getElem? (i := 110) (by decide +kernel)))
  obtain ⟨c6, i6, k6⟩ := u_known (C := RX6) (T := TX6) (N := 2) (n := 2) hts inX6 (hts (.instantiable RX6 2) (List.mem_of_getElem? (i := 286) (by decide +kernel)))
  obtain ⟨c7, i7, k7⟩ := u_known (C := RX7) (T := TX7) (N := 7) (n := 7) hts inX7 (hts (.instantiable RX7 7) (List.mem_of_getElem? (i := 132) (by decide +kernel)))
  obtain ⟨c8, i8, k8⟩ := u_known (C := RX8) (T := TX8) (N := 4) (n := 4) hts inX8 (hts (.instantiable RX8 4) (List.mem_of_getElem? (i := 310) (by decide +kernel)))
  obtain ⟨c9, i9, k9⟩ := u_known (C := RX9) (T := TX9) (N := 4) (n := 4) hts inX9 (hts (.instantiable RX9 4) (List.mem_of_getElem? (i := 67) (by decide +kernel)))
  obtain ⟨c10, i10, k10⟩ := u_known (C := RX10) (T := TX10) (N := 53) (n := 53) hts inX10 (hts (.instantiable RX10 53) (List.mem_of_getElem? (i := 872) (by decide +kernel)))
  have hao : va_AO "SleepingCars$Book" s := va_AO.of (hts (.arrayOver (.object "SleepingCars$Book")) (List.mem_of_getElem? (i := 284) (by decide +kernel)))
  obtain ⟨yI, aI, bI⟩ := arr_p (hts (.arrayClass .int) (List.mem_of_getElem? (i := 108) (by decide +kernel)))
  obtain ⟨yB, aB, bB⟩ := arr_p (hts (.arrayClass .byte) (List.mem_of_getElem? (i := 776) (by decide +kernel)))
  obtain ⟨yZ, aZ, bZ⟩ := arr_p (hts (.arrayClass .boolean) (List.mem_of_getElem? (i := 1037) (by decide +kernel)))
  obtain ⟨yQ, aQ, bQ⟩ := arr_q hao
  have hz1 := va_Zof (A := fun q => s.heap.size ≤ q) (hts (.laysStatic "java/lang/String" "COMPACT_STRINGS" "Z") (List.mem_of_getElem? (i := 673) (by decide +kernel))) (hts (.initialized "java/lang/String") (List.mem_of_getElem? (i := 62) (by decide +kernel))) (va_eqi (z := 1) (hs _ (by decide +kernel))) hA0
  have hz2 := va_Zqof (A := fun q => s.heap.size ≤ q) (hts (.laysStatic "jdk/internal/util/Preconditions" "SIOOBE_FORMATTER" "Ljava/util/function/BiFunction;") (List.mem_of_getElem? (i := 689) (by decide +kernel))) (hts (.initialized "jdk/internal/util/Preconditions") (List.mem_of_getElem? (i := 64) (by decide +kernel))) (hs _ (by decide +kernel)) hA0
  refine ⟨(fun k => match k with | 0 => c0 | 1 => c1 | 2 => c2 | 3 => c3 | 4 => c4 | 5 => c5 | 6 => c6 | 7 => c7 | 8 => c8 | 9 => c9 | _ => c10, fun k => match k with | 0 => i0 | 1 => i1 | 2 => i2 | 3 => i3 | 4 => i4 | 5 => i5 | 6 => i6 | 7 => i7 | 8 => i8 | 9 => i9 | _ => i10), (fun k => match k with | 0 => yI | 1 => yB | 2 => yZ | _ => yQ), (s.heap.size, adK, adV), ⟨?_, ?_⟩, ?_, rfl⟩
  · intro k q hq
    match k, hq with
    | 0, hq => cases hq; exact k0
    | 1, hq => cases hq; exact k1
    | 2, hq => cases hq; exact k2
    | 3, hq => cases hq; exact k3
    | 4, hq => cases hq; exact k4
    | 5, hq => cases hq; exact k5
    | 6, hq => cases hq; exact k6
    | 7, hq => cases hq; exact k7
    | 8, hq => cases hq; exact k8
    | 9, hq => cases hq; exact k9
    | 10, hq => cases hq; exact k10
    | k + 11, hq => simp [vwCl] at hq
  · intro k q hq
    match k, hq with
    | 0, hq => cases hq; exact ⟨aI, bI⟩
    | 1, hq => cases hq; exact ⟨aB, bB⟩
    | 2, hq => cases hq; exact ⟨aZ, bZ⟩
    | 3, hq => cases hq; exact ⟨aQ, bQ⟩
    | k + 4, hq => simp [tyL] at hq
  · refine ⟨⟨va_Nw.of rfl (hts (.methodLinkNest RX9 9 yX0_init RX9) (List.mem_of_getElem? (i := 76) (by decide +kernel))), va_Nw.of rfl (hts (.methodLinkNest RX0 20 yX5_init RX9) (List.mem_of_getElem? (i := 111) (by decide +kernel))), va_Nw.of rfl (hts (.methodLinkNest RX0 27 yX7_init RX9) (List.mem_of_getElem? (i := 133) (by decide +kernel))), va_Nw.of rfl (hts (.methodLinkNest RX0 34 yX1_init RX9) (List.mem_of_getElem? (i := 173) (by decide +kernel))), va_Nw.of rfl (hts (.methodLinkNest RX0 41 yX2_init RX9) (List.mem_of_getElem? (i := 215) (by decide +kernel))), va_Nw.of rfl (hts (.methodLinkNest RX9 22 yX6_init RX9) (List.mem_of_getElem? (i := 287) (by decide +kernel))), va_Nw.of rfl (hts (.methodLinkNest RX9 29 yX3_init RX9) (List.mem_of_getElem? (i := 303) (by decide +kernel))), va_Nw.of rfl (hts (.methodLinkNest RX3 20 yX2_init RX9) (List.mem_of_getElem? (i := 308) (by decide +kernel))), va_Nw.of rfl (hts (.methodLinkNest RX3 27 yX8_init RX9) (List.mem_of_getElem? (i := 311) (by decide +kernel))), va_Nw.of rfl (hts (.methodLinkNest RX0 93 yX9_legsBetween RX9) (List.mem_of_getElem? (i := 445) (by decide +kernel))), va_Nw.of rfl (hts (.methodLinkNest RX7 38 yX9_legsBetween RX9) (List.mem_of_getElem? (i := 490) (by decide +kernel)))⟩, hao, hSS, ⟨vk_R.of (hts (.stringRef RX8 72 "stop") (List.mem_of_getElem? (i := 649) (by decide +kernel))) (hEv 0 (by decide)), vk_R.of (hts (.stringRef RX8 74 "km") (List.mem_of_getElem? (i := 650) (by decide +kernel))) (hEv 1 (by decide)), vk_R.of (hts (.stringRef RX8 76 "hour") (List.mem_of_getElem? (i := 651) (by decide +kernel))) (hEv 2 (by decide)), vk_R.of (hts (.stringRef RX8 78 "sold") (List.mem_of_getElem? (i := 652) (by decide +kernel))) (hEv 3 (by decide)), vk_R.of (hts (.stringRef RX8 80 "night") (List.mem_of_getElem? (i := 653) (by decide +kernel))) (hEv 4 (by decide)), vk_R.of (hts (.stringRef RX8 82 "when") (List.mem_of_getElem? (i := 654) (by decide +kernel))) (hEv 5 (by decide)), vk_R.of (hts (.stringRef RX8 84 "and") (List.mem_of_getElem? (i := 655) (by decide +kernel))) (hEv 6 (by decide)), vk_R.of (hts (.stringRef RX8 86 "not") (List.mem_of_getElem? (i := 656) (by decide +kernel))) (hEv 7 (by decide)), vk_R.of (hts (.stringRef RX8 88 "axle") (List.mem_of_getElem? (i := 657) (by decide +kernel))) (hEv 8 (by decide)), vk_R.of (hts (.stringRef RX8 90 "berth") (List.mem_of_getElem? (i := 658) (by decide +kernel))) (hEv 9 (by decide)), vk_R.of (hts (.stringRef RX8 92 "flat") (List.mem_of_getElem? (i := 659) (by decide +kernel))) (hEv 10 (by decide)), vk_R.of (hts (.stringRef RX8 94 "free") (List.mem_of_getElem? (i := 660) (by decide +kernel))) (hEv 11 (by decide))⟩, hz1, Nat.le_refl _, ?_⟩
    rcases hz2 with h | ⟨t, h⟩
    · exact ⟨.null, Or.inl rfl, h⟩
    · exact ⟨.ref t, Or.inr ⟨t, rfl⟩, h⟩