abbrev Q_c_X0_isRunStretch (D : va_G) (cy : Nat → ClassId) (E : EN) (b0 : Nat) (r0 : Nat) (u0 : Nat) (t0 : Nat) (l0 : Nat) (q0 : Nat) (of : Nat) (sh : Nat) (nl : Nat) (fc : Nat) (u1 : Nat) (u2 : Nat) (u3 : Nat) (r1 : Nat) (r2 : Nat) (now : Int32) (zr : Int32) (zs : Int32) (fbe : Nat → Int32) (day : Int32) (a : Int32) (b : Int32) : (Nat → Prop) → Array Value → State → Outcome → State → Prop := QI D cy (fun (r : Int32) (_ : Unit) => (r.toInt = 1 ∧ (0 ≤ day.toInt ∧ day.toInt < 60 ∧ 0 < (fbe day.toNatClampNeg).toInt ∧ 0 ≤ a.toInt ∧ a.toInt < b.toInt ∧ b.toInt < zs.toInt)) ∨ (r.toInt = 0 ∧ ¬ (0 ≤ day.toInt ∧ day.toInt < 60 ∧ 0 < (fbe day.toNatClampNeg).toInt ∧ 0 ≤ a.toInt ∧ a.toInt < b.toInt ∧ b.toInt < zs.toInt))) (fun _ : Unit => [(b0, .inr (0, [.int now, .ref r0, .ref u0, .ref t0, .ref l0, .ref q0, .ref of, .ref sh, .ref nl, .ref fc])), (u0, .inr (5, [.int zr, .ref u1, .ref u2, .ref u3])), (u1, .inl (cy 0, 60, .inl fbe)), (r0, .inr (4, [.int zs, .ref r1, .ref r2]))])
set_option maxHeartbeats 4000000 in
set_option maxRecDepth 100000 in
theorem c_X0_isRunStretch (l : Launch) (D : va_G) (cy : Nat → ClassId) (E : EN) (b0 : Nat) (r0 : Nat) (u0 : Nat) (t0 : Nat) (l0 : Nat) (q0 : Nat) (of : Nat) (sh : Nat) (nl : Nat) (fc : Nat) (u1 : Nat) (u2 : Nat) (u3 : Nat) (r1 : Nat) (r2 : Nat) (now : Int32) (zr : Int32) (zs : Int32) (fbe : Nat → Int32) (day : Int32) (a : Int32) (b : Int32) (sz : Nat) (hv_fbe : AllI fbe 60 0 10) : Met l yX0_isRunStretch wsX0_isRunStretch ({ frames := 1, cells := 0, slots := 0, locals := 22 } : Room) (CP D cy E [.ref b0, .int day, .int a, .int b] [(b0, .inr (0, [.int now, .ref r0, .ref u0, .ref t0, .ref l0, .ref q0, .ref of, .ref sh, .ref nl, .ref fc])), (u0, .inr (5, [.int zr, .ref u1, .ref u2, .ref u3])), (u1, .inl (cy 0, 60, .inl fbe)), (r0, .inr (4, [.int zs, .ref r1, .ref r2]))] sz) (Q_c_X0_isRunStretch D cy E b0 r0 u0 t0 l0 q0 of sh nl fc u1 u2 u3 r1 r2 now zr zs fbe day a b (va_A [(b0, .inr (0, [.int now, .ref r0, .ref u0, .ref t0, .ref l0, .ref q0, .ref of, .ref sh, .ref nl, .ref fc])), (u0, .inr (5, [.int zr, .ref u1, .ref u2, .ref u3])), (u1, .inl (cy 0, 60, .inl fbe)), (r0, .inr (4, [.int zs, .ref r1, .ref r2]))] sz)) 0 0 (va_A [(b0, .inr (0, [.int now, .ref r0, .ref u0, .ref t0, .ref l0, .ref q0, .ref of, .ref sh, .ref nl, .ref fc])), (u0, .inr (5, [.int zr, .ref u1, .ref u2, .ref u3])), (u1, .inl (cy 0, 60, .inl fbe)), (r0, .inr (4, [.int zs, .ref r1, .ref r2]))] sz) := by
  refine Met.go (Qc := Q_c_X0_isRunStretch D cy E b0 r0 u0 t0 l0 q0 of sh nl fc u1 u2 u3 r1 r2 now zr zs fbe day a b) (cc := cX0_isRunStretch) (maxL := 4) (ret := (some .boolean)) (by decide) rfl (Nat.le_of_ble_eq_true rfl) ?_
  intro p e s m below meth c hx hb hr hts hown hlocks hin hml hK hN A hA hAB hD hP hS ls hl hsz
  have hl : lv_has ls 4 [(0, .ref b0), (1, .int day), (2, .int a), (3, .int b)] := hl
  have in_X0 : ∀ w ∈ wsX00, w ∈ wsX0_isRunStretch := fun _ h => List.mem_cons_of_mem _ (List.mem_append_left _ (List.mem_append_left _ ((List.mem_append_right _ h))))
  have w_1 := hts (.fieldLink RX0 21 "SleepingCars$Book" "runs" "LSleepingCars$Runs;") (by decide +kernel)
  have w_2 := hts (.instanceMethod yX5_isTold) (by decide +kernel)
  have w_3 := hts (.fieldLink RX0 12 "SleepingCars$Book" "route" "LSleepingCars$Route;") (by decide +kernel)
  have w_4 := hts (.instanceMethod yX4_isStretch) (by decide +kernel)
  obtain ⟨H, eH⟩ : ∃ H : Heap, H = s.heap := ⟨_, rfl⟩
  obtain ⟨locs, eL⟩ : ∃ L : List Loc, L = [] := ⟨_, rfl⟩
  rw [← eL]
  rw [← eL] at hS
  have hP : va_P D vwCl [(b0, .inr (0, [.int now, .ref r0, .ref u0, .ref t0, .ref l0, .ref q0, .ref of, .ref sh, .ref nl, .ref fc])), (u0, .inr (5, [.int zr, .ref u1, .ref u2, .ref u3])), (u1, .inl (cy 0, 60, .inl fbe)), (r0, .inr (4, [.int zs, .ref r1, .ref r2]))] H := by rw [eH]; exact hP
  have hS : va_S A s.heap H locs := by rw [eH]; exact hS
  refine W.heapEq eH ?_
  clear eH eL
  refine lv_aload_n hx hb dX0_isRunStretch_0 rfl (lv_at hl 0 rfl) ?_
  refine va_get (D := D) (ci := 0) (v := .ref u0) (C := RX0) (T := TX0) (N := 10) hx hb hts in_X0 hown hK hP 0 rfl rfl 2 (by decide) w_1 (fun _ h9 => h9) rfl dX0_isRunStretch_1 ?_
  refine lv_iload_n hx hb dX0_isRunStretch_4 rfl (lv_at hl 1 rfl) ?_
  refine k_i (va_runV (As := [.int day]) (rest := []) ⟨hx, hb, hml, hown, hts⟩ (c_X5_isTold l D cy E u0 u1 u2 u3 zr fbe day H.size hv_fbe) (cwV 1 hts gX0_isRunStretch_X5_isTold rfl rfl rfl (by decide +kernel) ⟨Nat.le_of_ble_eq_true rfl, Nat.le_of_ble_eq_true rfl⟩) (cp_v hK hN hS hAB hP hD [1, 2] rfl (by decide) (ci := 5) rfl rfl rfl) rfl rfl hl.1 rfl (lv_room (Nat.le_of_ble_eq_true rfl)) dX0_isRunStretch_5 ⟨Nat.le_of_ble_eq_true rfl, Nat.le_of_ble_eq_true rfl⟩) hP hD hS hA [1, 2] [0, 3] (wr := [(b0, .inr (0, [.int now, .ref r0, .ref u0, .ref t0, .ref l0, .ref q0, .ref of, .ref sh, .ref nl, .ref fc])), (r0, .inr (4, [.int zs, .ref r1, .ref r2]))]) rfl rfl (by decide) (by decide) (fun rr5 u_rr5 H locs hw5 hP hD hS => ?_)
  try dsimp only at hw5
  have hP : va_P D vwCl [(b0, .inr (0, [.int now, .ref r0, .ref u0, .ref t0, .ref l0, .ref q0, .ref of, .ref sh, .ref nl, .ref fc])), (r0, .inr (4, [.int zs, .ref r1, .ref r2])), (u0, .inr (5, [.int zr, .ref u1, .ref u2, .ref u3])), (u1, .inl (cy 0, 60, .inl fbe))] H := hP
  have hD : va_D A [(b0, .inr (0, [.int now, .ref r0, .ref u0, .ref t0, .ref l0, .ref q0, .ref of, .ref sh, .ref nl, .ref fc])), (r0, .inr (4, [.int zs, .ref r1, .ref r2])), (u0, .inr (5, [.int zr, .ref u1, .ref u2, .ref u3])), (u1, .inl (cy 0, 60, .inl fbe))] := hD
  refine lv_if_eq (tgt := 27) hx hb dX0_isRunStretch_8 (by decide) (fun c8 => ?_) (fun c8 => ?_)
  · skip
    have fc8 := q_eq (a := rr5.toInt) (b := 0) c8 rfl (by decide)
    refine lv_iconst (v := 0) hx hb dX0_isRunStretch_27 (by decide) ?_
    exact r_z hx hb hr hlocks hK hS dX0_isRunStretch_28 (by decide) (u := ()) (hP.sub (ws' := [(b0, .inr (0, [.int now, .ref r0, .ref u0, .ref t0, .ref l0, .ref q0, .ref of, .ref sh, .ref nl, .ref fc])), (u0, .inr (5, [.int zr, .ref u1, .ref u2, .ref u3])), (u1, .inl (cy 0, 60, .inl fbe)), (r0, .inr (4, [.int zs, .ref r1, .ref r2]))]) [0, 2, 3, 1] rfl) (hD.sub (ws' := [(b0, .inr (0, [.int now, .ref r0, .ref u0, .ref t0, .ref l0, .ref q0, .ref of, .ref sh, .ref nl, .ref fc])), (u0, .inr (5, [.int zr, .ref u1, .ref u2, .ref u3])), (u1, .inl (cy 0, 60, .inl fbe)), (r0, .inr (4, [.int zs, .ref r1, .ref r2]))]) [0, 2, 3, 1] (by decide) rfl) (by first | exact Or.inl ⟨by decide, by omega⟩ | exact Or.inr ⟨by decide, by omega⟩)
  · skip
    have fc8 := q_ne (a := rr5.toInt) (b := 0) c8 rfl (by decide)
    refine lv_aload_n hx hb dX0_isRunStretch_11 rfl (lv_at hl 0 rfl) ?_
    refine va_get (D := D) (ci := 0) (v := .ref r0) (C := RX0) (T := TX0) (N := 10) hx hb hts in_X0 hown hK hP 0 rfl rfl 1 (by decide) w_3 (fun _ h9 => h9) rfl dX0_isRunStretch_12 ?_
    refine lv_iload_n hx hb dX0_isRunStretch_15 rfl (lv_at hl 2 rfl) ?_
    refine lv_iload_n hx hb dX0_isRunStretch_16 rfl (lv_at hl 3 rfl) ?_
    refine k_i (va_runV (As := [.int a, .int b]) (rest := []) ⟨hx, hb, hml, hown, hts⟩ (c_X4_isStretch l D cy E r0 r1 r2 zs a b H.size ) (cwV 2 hts gX0_isRunStretch_X4_isStretch rfl rfl rfl (by decide +kernel) ⟨Nat.le_of_ble_eq_true rfl, Nat.le_of_ble_eq_true rfl⟩) (cp_v hK hN hS hAB hP hD [1] rfl (by decide) (ci := 4) rfl rfl rfl) rfl rfl hl.1 rfl (lv_room (Nat.le_of_ble_eq_true rfl)) dX0_isRunStretch_17 ⟨Nat.le_of_ble_eq_true rfl, Nat.le_of_ble_eq_true rfl⟩) hP hD hS hA [1] [0, 2, 3] (wr := [(b0, .inr (0, [.int now, .ref r0, .ref u0, .ref t0, .ref l0, .ref q0, .ref of, .ref sh, .ref nl, .ref fc])), (u0, .inr (5, [.int zr, .ref u1, .ref u2, .ref u3])), (u1, .inl (cy 0, 60, .inl fbe))]) rfl rfl (by decide) (by decide) (fun rr17 u_rr17 H locs hw17 hP hD hS => ?_)
    try dsimp only at hw17
    have hP : va_P D vwCl [(b0, .inr (0, [.int now, .ref r0, .ref u0, .ref t0, .ref l0, .ref q0, .ref of, .ref sh, .ref nl, .ref fc])), (u0, .inr (5, [.int zr, .ref u1, .ref u2, .ref u3])), (u1, .inl (cy 0, 60, .inl fbe)), (r0, .inr (4, [.int zs, .ref r1, .ref r2]))] H := hP
    have hD : va_D A [(b0, .inr (0, [.int now, .ref r0, .ref u0, .ref t0, .ref l0, .ref q0, .ref of, .ref sh, .ref nl, .ref fc])), (u0, .inr (5, [.int zr, .ref u1, .ref u2, .ref u3])), (u1, .inl (cy 0, 60, .inl fbe)), (r0, .inr (4, [.int zs, .ref r1, .ref r2]))] := hD
    refine lv_if_eq (tgt := 27) hx hb dX0_isRunStretch_20 (by decide) (fun c20 => ?_) (fun c20 => ?_)
    · skip
      have fc20 := q_eq (a := rr17.toInt) (b := 0) c20 rfl (by decide)
      refine lv_iconst (v := 0) hx hb dX0_isRunStretch_27 (by decide) ?_
      exact r_z hx hb hr hlocks hK hS dX0_isRunStretch_28 (by decide) (u := ()) hP hD (by first | exact Or.inl ⟨by decide, by omega⟩ | exact Or.inr ⟨by decide, by omega⟩)
    · skip
      have fc20 := q_ne (a := rr17.toInt) (b := 0) c20 rfl (by decide)
      refine lv_iconst (v := 1) hx hb dX0_isRunStretch_23 (by decide) ?_
      refine lv_goto (tgt := 28) hx hb dX0_isRunStretch_24 (by decide) ?_
      exact r_z hx hb hr hlocks hK hS dX0_isRunStretch_28 (by decide) (u := ()) hP hD (by first | exact Or.inl ⟨by decide, by omega⟩ | exact Or.inr ⟨by decide, by omega⟩)

abbrev Q_c_X0_hasLeft (D : va_G) (cy : Nat → ClassId) (E : EN) (b0 : Nat) (r0 : Nat) (u0 : Nat) (t0 : Nat) (l0 : Nat) (q0 : Nat) (of : Nat) (sh : Nat) (nl : Nat) (fc : Nat) (r1 : Nat) (r2 : Nat) (now : Int32) (zs : Int32) (fhr : Nat → Int32) (day : Int32) (stop : Int32) : (Nat → Prop) → Array Value → State → Outcome → State → Prop := QI D cy (fun (r : Int32) (_ : Unit) => r.toInt = 0 ∨ r.toInt = 1) (fun _ : Unit => [(b0, .inr (0, [.int now, .ref r0, .ref u0, .ref t0, .ref l0, .ref q0, .ref of, .ref sh, .ref nl, .ref fc])), (r0, .inr (4, [.int zs, .ref r1, .ref r2])), (r2, .inl (cy 0, 9, .inl fhr))])
set_option maxHeartbeats 4000000 in
set_option maxRecDepth 100000 in
theorem c_X0_hasLeft (l : Launch) (D : va_G) (cy : Nat → ClassId) (E : EN) (b0 : Nat) (r0 : Nat) (u0 : Nat) (t0 : Nat) (l0 : Nat) (q0 : Nat) (of : Nat) (sh : Nat) (nl : Nat) (fc : Nat) (r1 : Nat) (r2 : Nat) (now : Int32) (zs : Int32) (fhr : Nat → Int32) (day : Int32) (stop : Int32) (sz : Nat) (hv_fhr : AllI fhr 9 0 24) : Met l yX0_hasLeft wsX0_hasLeft ({ frames := 1, cells := 0, slots := 0, locals := 23 } : Room) (CP D cy E [.ref b0, .int day, .int stop] [(b0, .inr (0, [.int now, .ref r0, .ref u0, .ref t0, .ref l0, .ref q0, .ref of, .ref sh, .ref nl, .ref fc])), (r0, .inr (4, [.int zs, .ref r1, .ref r2])), (r2, .inl (cy 0, 9, .inl fhr))] sz) (Q_c_X0_hasLeft D cy E b0 r0 u0 t0 l0 q0 of sh nl fc r1 r2 now zs fhr day stop (va_A [(b0, .inr (0, [.int now, .ref r0, .ref u0, .ref t0, .ref l0, .ref q0, .ref of, .ref sh, .ref nl, .ref fc])), (r0, .inr (4, [.int zs, .ref r1, .ref r2])), (r2, .inl (cy 0, 9, .inl fhr))] sz)) 0 0 (va_A [(b0, .inr (0, [.int now, .ref r0, .ref u0, .ref t0, .ref l0, .ref q0, .ref of, .ref sh, .ref nl, .ref fc])), (r0, .inr (4, [.int zs, .ref r1, .ref r2])), (r2, .inl (cy 0, 9, .inl fhr))] sz) := by
  refine Met.go (Qc := Q_c_X0_hasLeft D cy E b0 r0 u0 t0 l0 q0 of sh nl fc r1 r2 now zs fhr day stop) (cc := cX0_hasLeft) (maxL := 3) (ret := (some .boolean)) (by decide) rfl (Nat.le_of_ble_eq_true rfl) ?_
  intro p e s m below meth c hx hb hr hts hown hlocks hin hml hK hN A hA hAB hD hP hS ls hl hsz
  have hl : lv_has ls 3 [(0, .ref b0), (1, .int day), (2, .int stop)] := hl
  have in_X0 : ∀ w ∈ wsX00, w ∈ wsX0_hasLeft := fun _ h => List.mem_cons_of_mem _ (List.mem_append_left _ ((List.mem_append_right _ h)))
  have w_1 := hts (.fieldLink RX0 67 "SleepingCars$Book" "now" "I") (by decide +kernel)
  have w_2 := hts (.fieldLink RX0 12 "SleepingCars$Book" "route" "LSleepingCars$Route;") (by decide +kernel)
  have w_3 := hts (.instanceMethod yX4_hoursTo) (by decide +kernel)
  obtain ⟨H, eH⟩ : ∃ H : Heap, H = s.heap := ⟨_, rfl⟩
  obtain ⟨locs, eL⟩ : ∃ L : List Loc, L = [] := ⟨_, rfl⟩
  rw [← eL]
  rw [← eL] at hS
  have hP : va_P D vwCl [(b0, .inr (0, [.int now, .ref r0, .ref u0, .ref t0, .ref l0, .ref q0, .ref of, .ref sh, .ref nl, .ref fc])), (r0, .inr (4, [.int zs, .ref r1, .ref r2])), (r2, .inl (cy 0, 9, .inl fhr))] H := by rw [eH]; exact hP
  have hS : va_S A s.heap H locs := by rw [eH]; exact hS
  refine W.heapEq eH ?_
  clear eH eL
  refine lv_aload_n hx hb dX0_hasLeft_0 rfl (lv_at hl 0 rfl) ?_
  refine va_get (D := D) (ci := 0) (v := .int now) (C := RX0) (T := TX0) (N := 10) hx hb hts in_X0 hown hK hP 0 rfl rfl 0 (by decide) w_1 (fun _ h9 => h9) rfl dX0_hasLeft_1 ?_
  refine lv_bipush (v := 24) hx hb dX0_hasLeft_4 (by decide) ?_
  refine lv_iload_n hx hb dX0_hasLeft_6 rfl (lv_at hl 1 rfl) ?_
  refine lv_imul hx hb dX0_hasLeft_7 ?_
  refine lv_topi (fun x7 ex7 => ?_)
  refine lv_aload_n hx hb dX0_hasLeft_8 rfl (lv_at hl 0 rfl) ?_
  refine va_get (D := D) (ci := 0) (v := .ref r0) (C := RX0) (T := TX0) (N := 10) hx hb hts in_X0 hown hK hP 0 rfl rfl 1 (by decide) w_2 (fun _ h9 => h9) rfl dX0_hasLeft_9 ?_
  refine lv_iload_n hx hb dX0_hasLeft_12 rfl (lv_at hl 2 rfl) ?_
  refine k_i (va_runV (As := [.int stop]) (rest := [.int x7, .int now]) ⟨hx, hb, hml, hown, hts⟩ (c_X4_hoursTo l D cy E r0 r1 r2 zs fhr stop H.size hv_fhr) (cwV 1 hts gX0_hasLeft_X4_hoursTo rfl rfl rfl (by decide +kernel) ⟨Nat.le_of_ble_eq_true rfl, Nat.le_of_ble_eq_true rfl⟩) (cp_v hK hN hS hAB hP hD [1, 2] rfl (by decide) (ci := 4) rfl rfl rfl) rfl rfl hl.1 rfl (lv_room (Nat.le_of_ble_eq_true rfl)) dX0_hasLeft_13 ⟨Nat.le_of_ble_eq_true rfl, Nat.le_of_ble_eq_true rfl⟩) hP hD hS hA [1, 2] [0] (wr := [(b0, .inr (0, [.int now, .ref r0, .ref u0, .ref t0, .ref l0, .ref q0, .ref of, .ref sh, .ref nl, .ref fc]))]) rfl rfl (by decide) (by decide) (fun rr13 u_rr13 H locs hw13 hP hD hS => ?_)
  try dsimp only at hw13
  have hP : va_P D vwCl [(b0, .inr (0, [.int now, .ref r0, .ref u0, .ref t0, .ref l0, .ref q0, .ref of, .ref sh, .ref nl, .ref fc])), (r0, .inr (4, [.int zs, .ref r1, .ref r2])), (r2, .inl (cy 0, 9, .inl fhr))] H := hP
  have hD : va_D A [(b0, .inr (0, [.int now, .ref r0, .ref u0, .ref t0, .ref l0, .ref q0, .ref of, .ref sh, .ref nl, .ref fc])), (r0, .inr (4, [.int zs, .ref r1, .ref r2])), (r2, .inl (cy 0, 9, .inl fhr))] := hD
  refine lv_iadd hx hb dX0_hasLeft_16 ?_
  refine lv_topi (fun x16 ex16 => ?_)
  refine lv_icmp_lt (tgt := 24) hx hb dX0_hasLeft_17 (by decide) (fun c17 => ?_) (fun c17 => ?_)
  · skip
    have fc17 := q_lt (a := now.toInt) (b := x16.toInt) c17 rfl rfl
    refine lv_iconst (v := 0) hx hb dX0_hasLeft_24 (by decide) ?_
    exact r_z hx hb hr hlocks hK hS dX0_hasLeft_25 (by decide) (u := ()) hP hD (by first | exact Or.inl (by decide) | exact Or.inr (by decide) | omega)
  · skip
    have fc17 := q_nlt (a := now.toInt) (b := x16.toInt) c17 rfl rfl
    refine lv_iconst (v := 1) hx hb dX0_hasLeft_20 (by decide) ?_
    refine lv_goto (tgt := 25) hx hb dX0_hasLeft_21 (by decide) ?_
    exact r_z hx hb hr hlocks hK hS dX0_hasLeft_25 (by decide) (u := ()) hP hD (by first | exact Or.inl (by decide) | exact Or.inr (by decide) | omega)

abbrev Q_c_hasLeftZ (D : va_G) (cy : Nat → ClassId) (E : EN) (b0 : Nat) (r0 : Nat) (u0 : Nat) (t0 : Nat) (l0 : Nat) (q0 : Nat) (of : Nat) (sh : Nat) (nl : Nat) (fc : Nat) (r1 : Nat) (r2 : Nat) (now : Int32) (zs : Int32) (fhr : Nat → Int32) (day : Int32) : (Nat → Prop) → Array Value → State → Outcome → State → Prop := QI D cy (fun (r : Int32) (_ : Unit) => (r.toInt = 1 ∧ (24 * day.toInt ≤ now.toInt)) ∨ (r.toInt = 0 ∧ ¬ (24 * day.toInt ≤ now.toInt))) (fun _ : Unit => [(b0, .inr (0, [.int now, .ref r0, .ref u0, .ref t0, .ref l0, .ref q0, .ref of, .ref sh, .ref nl, .ref fc])), (r0, .inr (4, [.int zs, .ref r1, .ref r2])), (r2, .inl (cy 0, 9, .inl fhr))])
set_option maxHeartbeats 4000000 in
set_option maxRecDepth 100000 in
theorem c_hasLeftZ (l : Launch) (D : va_G) (cy : Nat → ClassId) (E : EN) (b0 : Nat) (r0 : Nat) (u0 : Nat) (t0 : Nat) (l0 : Nat) (q0 : Nat) (of : Nat) (sh : Nat) (nl : Nat) (fc : Nat) (r1 : Nat) (r2 : Nat) (now : Int32) (zs : Int32) (fhr : Nat → Int32) (day : Int32) (sz : Nat) (hday : 0 ≤ day.toInt ∧ day.toInt < 60) (hv_fhr : AllI fhr 9 0 24) : Met l yX0_hasLeft wsX0_hasLeft ({ frames := 1, cells := 0, slots := 0, locals := 23 } : Room) (CP D cy E [.ref b0, .int day, .int 0] [(b0, .inr (0, [.int now, .ref r0, .ref u0, .ref t0, .ref l0, .ref q0, .ref of, .ref sh, .ref nl, .ref fc])), (r0, .inr (4, [.int zs, .ref r1, .ref r2])), (r2, .inl (cy 0, 9, .inl fhr))] sz) (Q_c_hasLeftZ D cy E b0 r0 u0 t0 l0 q0 of sh nl fc r1 r2 now zs fhr day (va_A [(b0, .inr (0, [.int now, .ref r0, .ref u0, .ref t0, .ref l0, .ref q0, .ref of, .ref sh, .ref nl, .ref fc])), (r0, .inr (4, [.int zs, .ref r1, .ref r2])), (r2, .inl (cy 0, 9, .inl fhr))] sz)) 0 0 (va_A [(b0, .inr (0, [.int now, .ref r0, .ref u0, .ref t0, .ref l0, .ref q0, .ref of, .ref sh, .ref nl, .ref fc])), (r0, .inr (4, [.int zs, .ref r1, .ref r2])), (r2, .inl (cy 0, 9, .inl fhr))] sz) := by
  refine Met.go (Qc := Q_c_hasLeftZ D cy E b0 r0 u0 t0 l0 q0 of sh nl fc r1 r2 now zs fhr day) (cc := cX0_hasLeft) (maxL := 3) (ret := (some .boolean)) (by decide) rfl (Nat.le_of_ble_eq_true rfl) ?_
  intro p e s m below meth c hx hb hr hts hown hlocks hin hml hK hN A hA hAB hD hP hS ls hl hsz
  have hl : lv_has ls 3 [(0, .ref b0), (1, .int day), (2, .int 0)] := hl
  have in_X0 : ∀ w ∈ wsX00, w ∈ wsX0_hasLeft := fun _ h => List.mem_cons_of_mem _ (List.mem_append_left _ ((List.mem_append_right _ h)))
  have w_1 := hts (.fieldLink RX0 67 "SleepingCars$Book" "now" "I") (by decide +kernel)
  have w_2 := hts (.fieldLink RX0 12 "SleepingCars$Book" "route" "LSleepingCars$Route;") (by decide +kernel)
  have w_3 := hts (.instanceMethod yX4_hoursTo) (by decide +kernel)
  obtain ⟨H, eH⟩ : ∃ H : Heap, H = s.heap := ⟨_, rfl⟩
  obtain ⟨locs, eL⟩ : ∃ L : List Loc, L = [] := ⟨_, rfl⟩
  rw [← eL]
  rw [← eL] at hS
  have hP : va_P D vwCl [(b0, .inr (0, [.int now, .ref r0, .ref u0, .ref t0, .ref l0, .ref q0, .ref of, .ref sh, .ref nl, .ref fc])), (r0, .inr (4, [.int zs, .ref r1, .ref r2])), (r2, .inl (cy 0, 9, .inl fhr))] H := by rw [eH]; exact hP
  have hS : va_S A s.heap H locs := by rw [eH]; exact hS
  refine W.heapEq eH ?_
  clear eH eL
  refine lv_aload_n hx hb dX0_hasLeft_0 rfl (lv_at hl 0 rfl) ?_
  refine va_get (D := D) (ci := 0) (v := .int now) (C := RX0) (T := TX0) (N := 10) hx hb hts in_X0 hown hK hP 0 rfl rfl 0 (by decide) w_1 (fun _ h9 => h9) rfl dX0_hasLeft_1 ?_
  refine lv_bipush (v := 24) hx hb dX0_hasLeft_4 (by decide) ?_
  refine lv_iload_n hx hb dX0_hasLeft_6 rfl (lv_at hl 1 rfl) ?_
  refine lv_imul hx hb dX0_hasLeft_7 ?_
  refine lv_topi (fun x7 ex7 => ?_)
  have tx7 := q_mul (p := 24) (q := day.toInt) ex7 (by decide) rfl (by omega) (by omega)
  refine lv_aload_n hx hb dX0_hasLeft_8 rfl (lv_at hl 0 rfl) ?_
  refine va_get (D := D) (ci := 0) (v := .ref r0) (C := RX0) (T := TX0) (N := 10) hx hb hts in_X0 hown hK hP 0 rfl rfl 1 (by decide) w_2 (fun _ h9 => h9) rfl dX0_hasLeft_9 ?_
  refine lv_iload_n hx hb dX0_hasLeft_12 rfl (lv_at hl 2 rfl) ?_
  refine k_i (va_runV (As := [.int 0]) (rest := [.int x7, .int now]) ⟨hx, hb, hml, hown, hts⟩ (c_X4_hoursTo l D cy E r0 r1 r2 zs fhr 0 H.size hv_fhr) (cwV 1 hts gX0_hasLeft_X4_hoursTo rfl rfl rfl (by decide +kernel) ⟨Nat.le_of_ble_eq_true rfl, Nat.le_of_ble_eq_true rfl⟩) (cp_v hK hN hS hAB hP hD [1, 2] rfl (by decide) (ci := 4) rfl rfl rfl) rfl rfl hl.1 rfl (lv_room (Nat.le_of_ble_eq_true rfl)) dX0_hasLeft_13 ⟨Nat.le_of_ble_eq_true rfl, Nat.le_of_ble_eq_true rfl⟩) hP hD hS hA [1, 2] [0] (wr := [(b0, .inr (0, [.int now, .ref r0, .ref u0, .ref t0, .ref l0, .ref q0, .ref of, .ref sh, .ref nl, .ref fc]))]) rfl rfl (by decide) (by decide) (fun rr13 u_rr13 H locs hw13 hP hD hS => ?_)
  try dsimp only at hw13
  have hP : va_P D vwCl [(b0, .inr (0, [.int now, .ref r0, .ref u0, .ref t0, .ref l0, .ref q0, .ref of, .ref sh, .ref nl, .ref fc])), (r0, .inr (4, [.int zs, .ref r1, .ref r2])), (r2, .inl (cy 0, 9, .inl fhr))] H := hP
  have hD : va_D A [(b0, .inr (0, [.int now, .ref r0, .ref u0, .ref t0, .ref l0, .ref q0, .ref of, .ref sh, .ref nl, .ref fc])), (r0, .inr (4, [.int zs, .ref r1, .ref r2])), (r2, .inl (cy 0, 9, .inl fhr))] := hD
  have hrr13 : rr13.toInt = 0 := by rw [hw13]; rfl
  refine lv_iadd hx hb dX0_hasLeft_16 ?_
  refine lv_topi (fun x16 ex16 => ?_)
  have tx16 := q_add (p := x7.toInt) (q := rr13.toInt) ex16 rfl rfl (by omega) (by omega)
  refine lv_icmp_lt (tgt := 24) hx hb dX0_hasLeft_17 (by decide) (fun c17 => ?_) (fun c17 => ?_)
  · skip
    have fc17 := q_lt (a := now.toInt) (b := x16.toInt) c17 rfl rfl
    refine lv_iconst (v := 0) hx hb dX0_hasLeft_24 (by decide) ?_
    exact r_z hx hb hr hlocks hK hS dX0_hasLeft_25 (by decide) (u := ()) hP hD (by first | exact Or.inl ⟨by decide, by omega⟩ | exact Or.inr ⟨by decide, by omega⟩)
  · skip
    have fc17 := q_nlt (a := now.toInt) (b := x16.toInt) c17 rfl rfl
    refine lv_iconst (v := 1) hx hb dX0_hasLeft_20 (by decide) ?_
    refine lv_goto (tgt := 25) hx hb dX0_hasLeft_21 (by decide) ?_
    exact r_z hx hb hr hlocks hK hS dX0_hasLeft_25 (by decide) (u := ()) hP hD (by first | exact Or.inl ⟨by decide, by omega⟩ | exact Or.inr ⟨by decide, by omega⟩)

abbrev Q_c_X0_isOnChart (D : va_G) (cy : Nat → ClassId) (E : EN) (b0 : Nat) (r0 : Nat) (u0 : Nat) (t0 : Nat) (l0 : Nat) (q0 : Nat) (of : Nat) (sh : Nat) (nl : Nat) (fc : Nat) (u1 : Nat) (u2 : Nat) (u3 : Nat) (now : Int32) (zr : Int32) (fow : Nat → Int32) (o : Int32) (day : Int32) (berth : Int32) : (Nat → Prop) → Array Value → State → Outcome → State → Prop := QI D cy (fun (r : Int32) (_ : Unit) => r.toInt = 0 ∨ r.toInt = 1) (fun _ : Unit => [(b0, .inr (0, [.int now, .ref r0, .ref u0, .ref t0, .ref l0, .ref q0, .ref of, .ref sh, .ref nl, .ref fc])), (u0, .inr (5, [.int zr, .ref u1, .ref u2, .ref u3])), (u2, .inl (cy 0, 600, .inl fow))])
set_option maxHeartbeats 4000000 in
set_option maxRecDepth 100000 in
theorem c_X0_isOnChart (l : Launch) (D : va_G) (cy : Nat → ClassId) (E : EN) (b0 : Nat) (r0 : Nat) (u0 : Nat) (t0 : Nat) (l0 : Nat) (q0 : Nat) (of : Nat) (sh : Nat) (nl : Nat) (fc : Nat) (u1 : Nat) (u2 : Nat) (u3 : Nat) (now : Int32) (zr : Int32) (fow : Nat → Int32) (o : Int32) (day : Int32) (berth : Int32) (sz : Nat) (hday : 0 ≤ day.toInt ∧ day.toInt < 60) (hber : 0 ≤ berth.toInt ∧ berth.toInt < 10) : Met l yX0_isOnChart wsX0_isOnChart ({ frames := 1, cells := 0, slots := 0, locals := 22 } : Room) (CP D cy E [.ref b0, .int o, .int day, .int berth] [(b0, .inr (0, [.int now, .ref r0, .ref u0, .ref t0, .ref l0, .ref q0, .ref of, .ref sh, .ref nl, .ref fc])), (u0, .inr (5, [.int zr, .ref u1, .ref u2, .ref u3])), (u2, .inl (cy 0, 600, .inl fow))] sz) (Q_c_X0_isOnChart D cy E b0 r0 u0 t0 l0 q0 of sh nl fc u1 u2 u3 now zr fow o day berth (va_A [(b0, .inr (0, [.int now, .ref r0, .ref u0, .ref t0, .ref l0, .ref q0, .ref of, .ref sh, .ref nl, .ref fc])), (u0, .inr (5, [.int zr, .ref u1, .ref u2, .ref u3])), (u2, .inl (cy 0, 600, .inl fow))] sz)) 0 0 (va_A [(b0, .inr (0, [.int now, .ref r0, .ref u0, .ref t0, .ref l0, .ref q0, .ref of, .ref sh, .ref nl, .ref fc])), (u0, .inr (5, [.int zr, .ref u1, .ref u2, .ref u3])), (u2, .inl (cy 0, 600, .inl fow))] sz) := by
  refine Met.go (Qc := Q_c_X0_isOnChart D cy E b0 r0 u0 t0 l0 q0 of sh nl fc u1 u2 u3 now zr fow o day berth) (cc := cX0_isOnChart) (maxL := 4) (ret := (some .boolean)) (by decide) rfl (Nat.le_of_ble_eq_true rfl) ?_
  intro p e s m below meth c hx hb hr hts hown hlocks hin hml hK hN A hA hAB hD hP hS ls hl hsz
  have hl : lv_has ls 4 [(0, .ref b0), (1, .int o), (2, .int day), (3, .int berth)] := hl
  have in_X0 : ∀ w ∈ wsX00, w ∈ wsX0_isOnChart := fun _ h => List.mem_cons_of_mem _ (List.mem_append_left _ ((List.mem_append_right _ h)))
  have w_1 := hts (.fieldLink RX0 67 "SleepingCars$Book" "now" "I") (by decide +kernel)
  have w_2 := hts (.fieldLink RX0 21 "SleepingCars$Book" "runs" "LSleepingCars$Runs;") (by decide +kernel)
  have w_3 := hts (.instanceMethod yX5_owner) (by decide +kernel)
  obtain ⟨H, eH⟩ : ∃ H : Heap, H = s.heap := ⟨_, rfl⟩
  obtain ⟨locs, eL⟩ : ∃ L : List Loc, L = [] := ⟨_, rfl⟩
  rw [← eL]
  rw [← eL] at hS
  have hP : va_P D vwCl [(b0, .inr (0, [.int now, .ref r0, .ref u0, .ref t0, .ref l0, .ref q0, .ref of, .ref sh, .ref nl, .ref fc])), (u0, .inr (5, [.int zr, .ref u1, .ref u2, .ref u3])), (u2, .inl (cy 0, 600, .inl fow))] H := by rw [eH]; exact hP
  have hS : va_S A s.heap H locs := by rw [eH]; exact hS
  refine W.heapEq eH ?_
  clear eH eL
  refine lv_aload_n hx hb dX0_isOnChart_0 rfl (lv_at hl 0 rfl) ?_
  refine va_get (D := D) (ci := 0) (v := .int now) (C := RX0) (T := TX0) (N := 10) hx hb hts in_X0 hown hK hP 0 rfl rfl 0 (by decide) w_1 (fun _ h9 => h9) rfl dX0_isOnChart_1 ?_
  refine lv_bipush (v := 24) hx hb dX0_isOnChart_4 (by decide) ?_
  refine lv_iload_n hx hb dX0_isOnChart_6 rfl (lv_at hl 2 rfl) ?_
  refine lv_imul hx hb dX0_isOnChart_7 ?_
  refine lv_topi (fun x7 ex7 => ?_)
  have tx7 := q_mul (p := 24) (q := day.toInt) ex7 (by decide) rfl (by omega) (by omega)
  refine lv_bipush (v := 12) hx hb dX0_isOnChart_8 (by decide) ?_
  refine lv_isub hx hb dX0_isOnChart_10 ?_
  refine lv_topi (fun x10 ex10 => ?_)
  have tx10 := q_sub (p := x7.toInt) (q := 12) ex10 rfl (by decide) (by omega) (by omega)
  refine lv_icmp_ge (tgt := 27) hx hb dX0_isOnChart_11 (by decide) (fun c11 => ?_) (fun c11 => ?_)
  · skip
    have fc11 := q_le (a := x10.toInt) (b := now.toInt) c11 rfl rfl
    refine lv_iconst (v := 1) hx hb dX0_isOnChart_27 (by decide) ?_
    refine lv_goto (tgt := 32) hx hb dX0_isOnChart_28 (by decide) ?_
    exact r_z hx hb hr hlocks hK hS dX0_isOnChart_32 (by decide) (u := ()) hP hD (by first | exact Or.inl (by decide) | exact Or.inr (by decide) | omega)
  · skip
    have fc11 := q_nle (a := x10.toInt) (b := now.toInt) c11 rfl rfl
    refine lv_aload_n hx hb dX0_isOnChart_14 rfl (lv_at hl 0 rfl) ?_
    refine va_get (D := D) (ci := 0) (v := .ref u0) (C := RX0) (T := TX0) (N := 10) hx hb hts in_X0 hown hK hP 0 rfl rfl 2 (by decide) w_2 (fun _ h9 => h9) rfl dX0_isOnChart_15 ?_
    refine lv_iload_n hx hb dX0_isOnChart_18 rfl (lv_at hl 2 rfl) ?_
    refine lv_iload_n hx hb dX0_isOnChart_19 rfl (lv_at hl 3 rfl) ?_
    refine k_i (va_runV (As := [.int day, .int berth]) (rest := []) ⟨hx, hb, hml, hown, hts⟩ (c_X5_owner l D cy E u0 u1 u2 u3 zr fow day berth H.size (by first | omega | decide | (constructor <;> first | omega | decide)) (by first | omega | decide | (constructor <;> first | omega | decide))) (cwV 2 hts gX0_isOnChart_X5_owner rfl rfl rfl (by decide +kernel) ⟨Nat.le_of_ble_eq_true rfl, Nat.le_of_ble_eq_true rfl⟩) (cp_v hK hN hS hAB hP hD [1, 2] rfl (by decide) (ci := 5) rfl rfl rfl) rfl rfl hl.1 rfl (lv_room (Nat.le_of_ble_eq_true rfl)) dX0_isOnChart_20 ⟨Nat.le_of_ble_eq_true rfl, Nat.le_of_ble_eq_true rfl⟩) hP hD hS hA [1, 2] [0] (wr := [(b0, .inr (0, [.int now, .ref r0, .ref u0, .ref t0, .ref l0, .ref q0, .ref of, .ref sh, .ref nl, .ref fc]))]) rfl rfl (by decide) (by decide) (fun rr20 u_rr20 H locs hw20 hP hD hS => ?_)
    try dsimp only at hw20
    have hP : va_P D vwCl [(b0, .inr (0, [.int now, .ref r0, .ref u0, .ref t0, .ref l0, .ref q0, .ref of, .ref sh, .ref nl, .ref fc])), (u0, .inr (5, [.int zr, .ref u1, .ref u2, .ref u3])), (u2, .inl (cy 0, 600, .inl fow))] H := hP
    have hD : va_D A [(b0, .inr (0, [.int now, .ref r0, .ref u0, .ref t0, .ref l0, .ref q0, .ref of, .ref sh, .ref nl, .ref fc])), (u0, .inr (5, [.int zr, .ref u1, .ref u2, .ref u3])), (u2, .inl (cy 0, 600, .inl fow))] := hD
    refine lv_iload_n hx hb dX0_isOnChart_23 rfl (lv_at hl 1 rfl) ?_
    refine lv_icmp_ne (tgt := 31) hx hb dX0_isOnChart_24 (by decide) (fun c24 => ?_) (fun c24 => ?_)
    · skip
      have fc24 := q_ne (a := rr20.toInt) (b := o.toInt) c24 rfl rfl
      refine lv_iconst (v := 0) hx hb dX0_isOnChart_31 (by decide) ?_
      exact r_z hx hb hr hlocks hK hS dX0_isOnChart_32 (by decide) (u := ()) hP hD (by first | exact Or.inl (by decide) | exact Or.inr (by decide) | omega)
    · skip
      have fc24 := q_eq (a := rr20.toInt) (b := o.toInt) c24 rfl rfl
      refine lv_iconst (v := 1) hx hb dX0_isOnChart_27 (by decide) ?_
      refine lv_goto (tgt := 32) hx hb dX0_isOnChart_28 (by decide) ?_
      exact r_z hx hb hr hlocks hK hS dX0_isOnChart_32 (by decide) (u := ()) hP hD (by first | exact Or.inl (by decide) | exact Or.inr (by decide) | omega)

abbrev Q_c_X0_tightestBerth (D : va_G) (cy : Nat → ClassId) (E : EN) (b0 : Nat) (r0 : Nat) (u0 : Nat) (t0 : Nat) (l0 : Nat) (q0 : Nat) (of : Nat) (sh : Nat) (nl : Nat) (fc : Nat) (u1 : Nat) (u2 : Nat) (u3 : Nat) (r1 : Nat) (r2 : Nat) (now : Int32) (zr : Int32) (zs : Int32) (fbe : Nat → Int32) (fow : Nat → Int32) (fso : Nat → Int32) (o : Int32) (day : Int32) (a : Int32) (b : Int32) : (Nat → Prop) → Array Value → State → Outcome → State → Prop := QI D cy (fun (r : Int32) (_ : Unit) => r.toInt = -1 ∨ (0 ≤ r.toInt ∧ r.toInt < 10)) (fun _ : Unit => [(b0, .inr (0, [.int now, .ref r0, .ref u0, .ref t0, .ref l0, .ref q0, .ref of, .ref sh, .ref nl, .ref fc])), (u0, .inr (5, [.int zr, .ref u1, .ref u2, .ref u3])), (u1, .inl (cy 0, 60, .inl fbe)), (u2, .inl (cy 0, 600, .inl fow)), (u3, .inl (cy 0, 600, .inl fso)), (r0, .inr (4, [.int zs, .ref r1, .ref r2]))])
set_option maxHeartbeats 4000000 in
set_option maxRecDepth 100000 in
theorem c_X0_tightestBerth (l : Launch) (D : va_G) (cy : Nat → ClassId) (E : EN) (b0 : Nat) (r0 : Nat) (u0 : Nat) (t0 : Nat) (l0 : Nat) (q0 : Nat) (of : Nat) (sh : Nat) (nl : Nat) (fc : Nat) (u1 : Nat) (u2 : Nat) (u3 : Nat) (r1 : Nat) (r2 : Nat) (now : Int32) (zr : Int32) (zs : Int32) (fbe : Nat → Int32) (fow : Nat → Int32) (fso : Nat → Int32) (o : Int32) (day : Int32) (a : Int32) (b : Int32) (sz : Nat) (hday : 0 ≤ day.toInt ∧ day.toInt < 60) (hzs : 2 ≤ zs.toInt ∧ zs.toInt ≤ 10) (hv_fbe : AllI fbe 60 0 10) : Met l yX0_tightestBerth wsX0_tightestBerth ({ frames := 3, cells := 0, slots := 0, locals := 72 } : Room) (CP D cy E [.ref b0, .int o, .int day, .int a, .int b] [(b0, .inr (0, [.int now, .ref r0, .ref u0, .ref t0, .ref l0, .ref q0, .ref of, .ref sh, .ref nl, .ref fc])), (u0, .inr (5, [.int zr, .ref u1, .ref u2, .ref u3])), (u1, .inl (cy 0, 60, .inl fbe)), (u2, .inl (cy 0, 600, .inl fow)), (u3, .inl (cy 0, 600, .inl fso)), (r0, .inr (4, [.int zs, .ref r1, .ref r2]))] sz) (Q_c_X0_tightestBerth D cy E b0 r0 u0 t0 l0 q0 of sh nl fc u1 u2 u3 r1 r2 now zr zs fbe fow fso o day a b (va_A [(b0, .inr (0, [.int now, .ref r0, .ref u0, .ref t0, .ref l0, .ref q0, .ref of, .ref sh, .ref nl, .ref fc])), (u0, .inr (5, [.int zr, .ref u1, .ref u2, .ref u3])), (u1, .inl (cy 0, 60, .inl fbe)), (u2, .inl (cy 0, 600, .inl fow)), (u3, .inl (cy 0, 600, .inl fso)), (r0, .inr (4, [.int zs, .ref r1, .ref r2]))] sz)) 0 0 (va_A [(b0, .inr (0, [.int now, .ref r0, .ref u0, .ref t0, .ref l0, .ref q0, .ref of, .ref sh, .ref nl, .ref fc])), (u0, .inr (5, [.int zr, .ref u1, .ref u2, .ref u3])), (u1, .inl (cy 0, 60, .inl fbe)), (u2, .inl (cy 0, 600, .inl fow)), (u3, .inl (cy 0, 600, .inl fso)), (r0, .inr (4, [.int zs, .ref r1, .ref r2]))] sz) := by
  refine Met.go (Qc := Q_c_X0_tightestBerth D cy E b0 r0 u0 t0 l0 q0 of sh nl fc u1 u2 u3 r1 r2 now zr zs fbe fow fso o day a b) (cc := cX0_tightestBerth) (maxL := 10) (ret := (some .int)) (by decide) rfl (Nat.le_of_ble_eq_true rfl) ?_
  intro p e s m below meth c hx hb hr hts hown hlocks hin hml hK hN A hA hAB hD hP hS ls hl hsz
  have hl : lv_has ls 10 [(0, .ref b0), (1, .int o), (2, .int day), (3, .int a), (4, .int b)] := hl
  have in_X0 : ∀ w ∈ wsX00, w ∈ wsX0_tightestBerth := fun _ h => List.mem_cons_of_mem _ (List.mem_append_left _ (List.mem_append_left _ ((List.mem_append_right _ h))))
  have w_1 := hts (.fieldLink RX0 21 "SleepingCars$Book" "runs" "LSleepingCars$Runs;") (by decide +kernel)
  have in_X5 : ∀ w ∈ wsX50, w ∈ wsX0_tightestBerth := fun _ h => List.mem_cons_of_mem _ (List.mem_append_left _ ((List.mem_append_right _ h)))
  have w_3 := hts (.fieldLink RX0 104 "SleepingCars$Runs" "berths" "[I") (by decide +kernel)
  have w_4 := hts (.instanceMethod yX5_legsOf) (by decide +kernel)
  have w_5 := hts (.initialized RX9) (by decide +kernel)
  have w_6 := hts (.static yX9_legsBetween) (by decide +kernel)
  have w_7 := hts (.instanceMethod yX0_isOnChart) (by decide +kernel)
  have w_8 := hts (.fieldLink RX0 12 "SleepingCars$Book" "route" "LSleepingCars$Route;") (by decide +kernel)
  have in_X4 : ∀ w ∈ wsX40, w ∈ wsX0_tightestBerth := fun _ h => List.mem_cons_of_mem _ ((List.mem_append_right _ h))
  have w_10 := hts (.fieldLink RX0 111 "SleepingCars$Route" "stops" "I") (by decide +kernel)
  have w_11 := hts (.instanceMethod yX5_gap) (by decide +kernel)
  obtain ⟨H, eH⟩ : ∃ H : Heap, H = s.heap := ⟨_, rfl⟩
  obtain ⟨locs, eL⟩ : ∃ L : List Loc, L = [] := ⟨_, rfl⟩
  rw [← eL]
  rw [← eL] at hS
  have hP : va_P D vwCl [(b0, .inr (0, [.int now, .ref r0, .ref u0, .ref t0, .ref l0, .ref q0, .ref of, .ref sh, .ref nl, .ref fc])), (u0, .inr (5, [.int zr, .ref u1, .ref u2, .ref u3])), (u1, .inl (cy 0, 60, .inl fbe)), (u2, .inl (cy 0, 600, .inl fow)), (u3, .inl (cy 0, 600, .inl fso)), (r0, .inr (4, [.int zs, .ref r1, .ref r2]))] H := by rw [eH]; exact hP
  have hS : va_S A s.heap H locs := by rw [eH]; exact hS
  refine W.heapEq eH ?_
  clear eH eL
  refine lv_iconst (v := (-1)) hx hb dX0_tightestBerth_0 (by decide) ?_
  refine lv_istore (lv' := [(5, .int (-1)), (0, .ref b0), (1, .int o), (2, .int day), (3, .int a), (4, .int b)]) hx hb dX0_tightestBerth_1 hl (by decide) rfl (fun ls hl => ?_)
  refine lv_bipush (v := 10) hx hb dX0_tightestBerth_3 (by decide) ?_
  refine lv_istore (lv' := [(6, .int 10), (5, .int (-1)), (0, .ref b0), (1, .int o), (2, .int day), (3, .int a), (4, .int b)]) hx hb dX0_tightestBerth_5 hl (by decide) rfl (fun ls hl => ?_)
  refine lv_iconst (v := 0) hx hb dX0_tightestBerth_7 (by decide) ?_
  refine lv_istore (lv' := [(7, .int 0), (6, .int 10), (5, .int (-1)), (0, .ref b0), (1, .int o), (2, .int day), (3, .int a), (4, .int b)]) hx hb dX0_tightestBerth_8 hl (by decide) rfl (fun ls hl => ?_)
  have lp_10 : ∀ (n_10 : Nat) (i : Int32) (best : Int32) (bg : Int32), (0 ≤ i.toInt) → (i.toInt ≤ 10) → (best.toInt = -1 ∨ (0 ≤ best.toInt ∧ best.toInt < 10)) → (10 - i.toInt).toNat < n_10 → ∀ (H : Heap) (locs : List Loc), va_P D vwCl [(b0, .inr (0, [.int now, .ref r0, .ref u0, .ref t0, .ref l0, .ref q0, .ref of, .ref sh, .ref nl, .ref fc])), (u0, .inr (5, [.int zr, .ref u1, .ref u2, .ref u3])), (u1, .inl (cy 0, 60, .inl fbe)), (u2, .inl (cy 0, 600, .inl fow)), (u3, .inl (cy 0, 600, .inl fso)), (r0, .inr (4, [.int zs, .ref r1, .ref r2]))] H → va_D A [(b0, .inr (0, [.int now, .ref r0, .ref u0, .ref t0, .ref l0, .ref q0, .ref of, .ref sh, .ref nl, .ref fc])), (u0, .inr (5, [.int zr, .ref u1, .ref u2, .ref u3])), (u1, .inl (cy 0, 60, .inl fbe)), (u2, .inl (cy 0, 600, .inl fow)), (u3, .inl (cy 0, 600, .inl fso)), (r0, .inr (4, [.int zs, .ref r1, .ref r2]))] → va_S A s.heap H locs → ∀ ls : Array Slot, lv_has ls 10 [(7, .int i), (6, .int bg), (5, .int best), (0, .ref b0), (1, .int o), (2, .int day), (3, .int a), (4, .int b)] → W p l e (headSpec wsX0_tightestBerth ({ frames := 3, cells := 0, slots := 0, locals := 72 } : Room)).room s m ([.ref b0, .int o, .int day, .int a, .int b] : List Value).toArray below meth c H locs 0 0 (MQ below (Q_c_X0_tightestBerth D cy E b0 r0 u0 t0 l0 q0 of sh nl fc u1 u2 u3 r1 r2 now zr zs fbe fow fso o day a b A) ([.ref b0, .int o, .int day, .int a, .int b] : List Value).toArray s 0 0 A) (F0 m 10 ls []) := by
    intro n_10
    induction n_10 with
    | zero => intro i best bg hi0 hi1 hb9 hmu; exact absurd hmu (Nat.not_lt_zero _)
    | succ n_10 ih_10 =>
      intro i best bg hi0 hi1 hb9 hmu_10 H locs hP hD hS ls hl
      refine lv_iload hx hb dX0_tightestBerth_10 (lv_at hl 0 rfl) ?_
      refine lv_aload_n hx hb dX0_tightestBerth_12 rfl (lv_at hl 3 rfl) ?_
      refine va_get (D := D) (ci := 0) (v := .ref u0) (C := RX0) (T := TX0) (N := 10) hx hb hts in_X0 hown hK hP 0 rfl rfl 2 (by decide) w_1 (fun _ h9 => h9) rfl dX0_tightestBerth_13 ?_
      refine va_get (D := D) (ci := 5) (v := .ref u1) (C := RX5) (T := TX5) (N := 4) hx hb hts in_X5 hown hK hP 1 rfl rfl 1 (by decide) w_3 (fun _ h9 => h9) rfl dX0_tightestBerth_16 ?_
      refine lv_iload_n hx hb dX0_tightestBerth_19 rfl (lv_at hl 5 rfl) ?_
      refine va_iald hx hb hK hP 2 0 rfl rfl (q_in (a := day.toInt) rfl (by omega) (by omega)) dX0_tightestBerth_20 ?_
      refine lv_topi (fun x20 ex20 => ?_)
      have tx20 := congrArg Int32.toInt ex20
      have ix20 := hv_fbe day.toNatClampNeg (cn (by omega) (by decide))
      refine lv_icmp_ge (tgt := 112) hx hb dX0_tightestBerth_21 (by decide) (fun c21 => ?_) (fun c21 => ?_)
      · skip
        have fc21 := q_le (a := x20.toInt) (b := i.toInt) c21 rfl rfl
        refine lv_iload hx hb dX0_tightestBerth_112 (lv_at hl 2 rfl) ?_
        exact r_i hx hb hr hlocks hK hS dX0_tightestBerth_114 (u := ()) hP hD (by omega)
      · skip
        have fc21 := q_nle (a := x20.toInt) (b := i.toInt) c21 rfl rfl
        refine lv_aload_n hx hb dX0_tightestBerth_24 rfl (lv_at hl 3 rfl) ?_
        refine va_get (D := D) (ci := 0) (v := .ref u0) (C := RX0) (T := TX0) (N := 10) hx hb hts in_X0 hown hK hP 0 rfl rfl 2 (by decide) w_1 (fun _ h9 => h9) rfl dX0_tightestBerth_25 ?_
        refine lv_iload_n hx hb dX0_tightestBerth_28 rfl (lv_at hl 5 rfl) ?_
        refine lv_iload hx hb dX0_tightestBerth_29 (lv_at hl 0 rfl) ?_
        refine k_i (va_runV (As := [.int day, .int i]) (rest := []) ⟨hx, hb, hml, hown, hts⟩ (c_X5_legsOf l D cy E u0 u1 u2 u3 zr fso day i H.size (by first | omega | decide | (constructor <;> first | omega | decide)) (by first | omega | decide | (constructor <;> first | omega | decide))) (cwV 2 hts gX0_tightestBerth_X5_legsOf rfl rfl rfl (by decide +kernel) ⟨Nat.le_of_ble_eq_true rfl, Nat.le_of_ble_eq_true rfl⟩) (cp_v hK hN hS hAB hP hD [1, 4] rfl (by decide) (ci := 5) rfl rfl rfl) rfl rfl hl.1 rfl (lv_room (Nat.le_of_ble_eq_true rfl)) dX0_tightestBerth_31 ⟨Nat.le_of_ble_eq_true rfl, Nat.le_of_ble_eq_true rfl⟩) hP hD hS hA [1, 4] [0, 2, 3, 5] (wr := [(b0, .inr (0, [.int now, .ref r0, .ref u0, .ref t0, .ref l0, .ref q0, .ref of, .ref sh, .ref nl, .ref fc])), (u1, .inl (cy 0, 60, .inl fbe)), (u2, .inl (cy 0, 600, .inl fow)), (r0, .inr (4, [.int zs, .ref r1, .ref r2]))]) rfl rfl (by decide) (by decide) (fun rr31 u_rr31 H locs hw31 hP hD hS => ?_)
        try dsimp only at hw31
        have hP : va_P D vwCl [(b0, .inr (0, [.int now, .ref r0, .ref u0, .ref t0, .ref l0, .ref q0, .ref of, .ref sh, .ref nl, .ref fc])), (u1, .inl (cy 0, 60, .inl fbe)), (u2, .inl (cy 0, 600, .inl fow)), (r0, .inr (4, [.int zs, .ref r1, .ref r2])), (u0, .inr (5, [.int zr, .ref u1, .ref u2, .ref u3])), (u3, .inl (cy 0, 600, .inl fso))] H := hP
        have hD : va_D A [(b0, .inr (0, [.int now, .ref r0, .ref u0, .ref t0, .ref l0, .ref q0, .ref of, .ref sh, .ref nl, .ref fc])), (u1, .inl (cy 0, 60, .inl fbe)), (u2, .inl (cy 0, 600, .inl fow)), (r0, .inr (4, [.int zs, .ref r1, .ref r2])), (u0, .inr (5, [.int zr, .ref u1, .ref u2, .ref u3])), (u3, .inl (cy 0, 600, .inl fso))] := hD
        refine lv_iload_n hx hb dX0_tightestBerth_34 rfl (lv_at hl 6 rfl) ?_
        refine lv_iload hx hb dX0_tightestBerth_35 (lv_at hl 7 rfl) ?_
        refine k_i (va_runSN (As := [.int a, .int b]) (rest := [.int rr31]) ⟨hx, hb, hml, hown, hts⟩ (c_X9_legsBetween l D cy E a b H.size ) ⟨va_cnB 2 hts gX0_tightestBerth_X9_legsBetween_n93 rfl rfl rfl (hN.1.2.2.2.2.2.2.2.2.2.1) w_5 (by decide +kernel) ⟨Nat.le_of_ble_eq_true rfl, Nat.le_of_ble_eq_true rfl⟩, w_6, trivial⟩ (cp_s hK hN hS hAB hP hD [] rfl (by decide)) rfl rfl hl.1 rfl (lv_room (Nat.le_of_ble_eq_true rfl)) dX0_tightestBerth_37 ⟨Nat.le_of_ble_eq_true rfl, Nat.le_of_ble_eq_true rfl⟩) hP hD hS hA [] [0, 1, 2, 3, 4, 5] (wr := [(b0, .inr (0, [.int now, .ref r0, .ref u0, .ref t0, .ref l0, .ref q0, .ref of, .ref sh, .ref nl, .ref fc])), (u1, .inl (cy 0, 60, .inl fbe)), (u2, .inl (cy 0, 600, .inl fow)), (r0, .inr (4, [.int zs, .ref r1, .ref r2])), (u0, .inr (5, [.int zr, .ref u1, .ref u2, .ref u3])), (u3, .inl (cy 0, 600, .inl fso))]) rfl rfl (by decide) (by decide) (fun rr37 u_rr37 H locs hw37 hP hD hS => ?_)
        try dsimp only at hw37
        have hP : va_P D vwCl [(b0, .inr (0, [.int now, .ref r0, .ref u0, .ref t0, .ref l0, .ref q0, .ref of, .ref sh, .ref nl, .ref fc])), (u1, .inl (cy 0, 60, .inl fbe)), (u2, .inl (cy 0, 600, .inl fow)), (r0, .inr (4, [.int zs, .ref r1, .ref r2])), (u0, .inr (5, [.int zr, .ref u1, .ref u2, .ref u3])), (u3, .inl (cy 0, 600, .inl fso))] H := hP
        have hD : va_D A [(b0, .inr (0, [.int now, .ref r0, .ref u0, .ref t0, .ref l0, .ref q0, .ref of, .ref sh, .ref nl, .ref fc])), (u1, .inl (cy 0, 60, .inl fbe)), (u2, .inl (cy 0, 600, .inl fow)), (r0, .inr (4, [.int zs, .ref r1, .ref r2])), (u0, .inr (5, [.int zr, .ref u1, .ref u2, .ref u3])), (u3, .inl (cy 0, 600, .inl fso))] := hD
        refine lv_iand hx hb dX0_tightestBerth_40 ?_
        refine lv_topi (fun x40 ex40 => ?_)
        refine lv_if_ne (tgt := 48) hx hb dX0_tightestBerth_41 (by decide) (fun c41 => ?_) (fun c41 => ?_)
        · skip
          have fc41 := q_ne (a := x40.toInt) (b := 0) c41 rfl (by decide)
          refine lv_iconst (v := 0) hx hb dX0_tightestBerth_48 (by decide) ?_
          refine lv_istore (lv' := [(8, .int 0), (7, .int i), (6, .int bg), (5, .int best), (0, .ref b0), (1, .int o), (2, .int day), (3, .int a), (4, .int b)]) hx hb dX0_tightestBerth_49 hl (by decide) rfl (fun ls hl => ?_)
          refine lv_iload hx hb dX0_tightestBerth_51 (lv_at hl 0 rfl) ?_
          refine lv_if_eq (tgt := 106) hx hb dX0_tightestBerth_53 (by decide) (fun c53 => ?_) (fun c53 => ?_)
          · skip
            obtain ⟨x106, ex106⟩ : ∃ y : Int32, y = i + 1 := ⟨_, rfl⟩
            refine lv_iinc (v := x106) (lv' := [(7, .int x106), (8, .int 0), (6, .int bg), (5, .int best), (0, .ref b0), (1, .int o), (2, .int day), (3, .int a), (4, .int b)]) hx hb dX0_tightestBerth_106 hl (k := 1) rfl (by rw [ex106]; rfl) (by decide) rfl (fun ls hl => ?_)
            have tx106 := q_add (p := i.toInt) (q := 1) ex106 rfl (by decide) (by omega) (by omega)
            refine lv_goto (tgt := 10) hx hb dX0_tightestBerth_109 (by decide) ?_
            exact ih_10 x106 best bg (by first | omega | decide | (rw [i32_0]; omega)) (by first | omega | decide | (rw [i32_0]; omega)) (by first | omega | decide | (rw [i32_0]; omega)) (by omega) H locs (hP.sub [0, 4, 1, 2, 5, 3] rfl) (hD.sub [0, 4, 1, 2, 5, 3] (by decide) rfl) hS ls (lv_sub hl [0, 2, 3, 4, 5, 6, 7, 8] rfl)
          · skip
            exact absurd c53 (by decide)
        · skip
          have fc41 := q_eq (a := x40.toInt) (b := 0) c41 rfl (by decide)
          refine lv_iconst (v := 1) hx hb dX0_tightestBerth_44 (by decide) ?_
          refine lv_goto (tgt := 49) hx hb dX0_tightestBerth_45 (by decide) ?_
          refine lv_istore (lv' := [(8, .int 1), (7, .int i), (6, .int bg), (5, .int best), (0, .ref b0), (1, .int o), (2, .int day), (3, .int a), (4, .int b)]) hx hb dX0_tightestBerth_49 hl (by decide) rfl (fun ls hl => ?_)
          refine lv_iload hx hb dX0_tightestBerth_51 (lv_at hl 0 rfl) ?_
          refine lv_if_eq (tgt := 106) hx hb dX0_tightestBerth_53 (by decide) (fun c53 => ?_) (fun c53 => ?_)
          · skip
            exact absurd c53 (by decide)
          · skip
            refine lv_aload_n hx hb dX0_tightestBerth_56 rfl (lv_at hl 4 rfl) ?_
            refine lv_iload_n hx hb dX0_tightestBerth_57 rfl (lv_at hl 5 rfl) ?_
            refine lv_iload_n hx hb dX0_tightestBerth_58 rfl (lv_at hl 6 rfl) ?_
            refine lv_iload hx hb dX0_tightestBerth_59 (lv_at hl 1 rfl) ?_
            refine k_i (va_runV (As := [.int o, .int day, .int i]) (rest := []) ⟨hx, hb, hml, hown, hts⟩ (c_X0_isOnChart l D cy E b0 r0 u0 t0 l0 q0 of sh nl fc u1 u2 u3 now zr fow o day i H.size (by first | omega | decide | (constructor <;> first | omega | decide)) (by first | omega | decide | (constructor <;> first | omega | decide))) (cwV 3 hts gX0_tightestBerth_X0_isOnChart rfl rfl rfl (by decide +kernel) ⟨Nat.le_of_ble_eq_true rfl, Nat.le_of_ble_eq_true rfl⟩) (cp_v hK hN hS hAB hP hD [0, 4, 2] rfl (by decide) (ci := 0) rfl rfl rfl) rfl rfl hl.1 rfl (lv_room (Nat.le_of_ble_eq_true rfl)) dX0_tightestBerth_61 ⟨Nat.le_of_ble_eq_true rfl, Nat.le_of_ble_eq_true rfl⟩) hP hD hS hA [0, 4, 2] [1, 3, 5] (wr := [(u1, .inl (cy 0, 60, .inl fbe)), (r0, .inr (4, [.int zs, .ref r1, .ref r2])), (u3, .inl (cy 0, 600, .inl fso))]) rfl rfl (by decide) (by decide) (fun rr61 u_rr61 H locs hw61 hP hD hS => ?_)
            try dsimp only at hw61
            have hP : va_P D vwCl [(u1, .inl (cy 0, 60, .inl fbe)), (r0, .inr (4, [.int zs, .ref r1, .ref r2])), (u3, .inl (cy 0, 600, .inl fso)), (b0, .inr (0, [.int now, .ref r0, .ref u0, .ref t0, .ref l0, .ref q0, .ref of, .ref sh, .ref nl, .ref fc])), (u0, .inr (5, [.int zr, .ref u1, .ref u2, .ref u3])), (u2, .inl (cy 0, 600, .inl fow))] H := hP
            have hD : va_D A [(u1, .inl (cy 0, 60, .inl fbe)), (r0, .inr (4, [.int zs, .ref r1, .ref r2])), (u3, .inl (cy 0, 600, .inl fso)), (b0, .inr (0, [.int now, .ref r0, .ref u0, .ref t0, .ref l0, .ref q0, .ref of, .ref sh, .ref nl, .ref fc])), (u0, .inr (5, [.int zr, .ref u1, .ref u2, .ref u3])), (u2, .inl (cy 0, 600, .inl fow))] := hD
            refine lv_if_eq (tgt := 106) hx hb dX0_tightestBerth_64 (by decide) (fun c64 => ?_) (fun c64 => ?_)
            · skip
              have fc64 := q_eq (a := rr61.toInt) (b := 0) c64 rfl (by decide)
              obtain ⟨x106, ex106⟩ : ∃ y : Int32, y = i + 1 := ⟨_, rfl⟩
              refine lv_iinc (v := x106) (lv' := [(7, .int x106), (8, .int 1), (6, .int bg), (5, .int best), (0, .ref b0), (1, .int o), (2, .int day), (3, .int a), (4, .int b)]) hx hb dX0_tightestBerth_106 hl (k := 1) rfl (by rw [ex106]; rfl) (by decide) rfl (fun ls hl => ?_)
              have tx106 := q_add (p := i.toInt) (q := 1) ex106 rfl (by decide) (by omega) (by omega)
              refine lv_goto (tgt := 10) hx hb dX0_tightestBerth_109 (by decide) ?_
              exact ih_10 x106 best bg (by first | omega | decide | (rw [i32_0]; omega)) (by first | omega | decide | (rw [i32_0]; omega)) (by first | omega | decide | (rw [i32_0]; omega)) (by omega) H locs (hP.sub [3, 4, 0, 5, 2, 1] rfl) (hD.sub [3, 4, 0, 5, 2, 1] (by decide) rfl) hS ls (lv_sub hl [0, 2, 3, 4, 5, 6, 7, 8] rfl)
            · skip
              have fc64 := q_ne (a := rr61.toInt) (b := 0) c64 rfl (by decide)
              refine lv_aload_n hx hb dX0_tightestBerth_67 rfl (lv_at hl 4 rfl) ?_
              refine va_get (D := D) (ci := 0) (v := .ref u0) (C := RX0) (T := TX0) (N := 10) hx hb hts in_X0 hown hK hP 3 rfl rfl 2 (by decide) w_1 (fun _ h9 => h9) rfl dX0_tightestBerth_68 ?_
              refine lv_iload_n hx hb dX0_tightestBerth_71 rfl (lv_at hl 6 rfl) ?_
              refine lv_iload hx hb dX0_tightestBerth_72 (lv_at hl 1 rfl) ?_
              refine lv_iload_n hx hb dX0_tightestBerth_74 rfl (lv_at hl 7 rfl) ?_
              refine lv_iload hx hb dX0_tightestBerth_75 (lv_at hl 8 rfl) ?_
              refine lv_aload_n hx hb dX0_tightestBerth_77 rfl (lv_at hl 4 rfl) ?_
              refine va_get (D := D) (ci := 0) (v := .ref r0) (C := RX0) (T := TX0) (N := 10) hx hb hts in_X0 hown hK hP 3 rfl rfl 1 (by decide) w_8 (fun _ h9 => h9) rfl dX0_tightestBerth_78 ?_
              refine va_get (D := D) (ci := 4) (v := .int zs) (C := RX4) (T := TX4) (N := 3) hx hb hts in_X4 hown hK hP 1 rfl rfl 0 (by decide) w_10 (fun _ h9 => h9) rfl dX0_tightestBerth_81 ?_
              refine lv_iconst (v := 1) hx hb dX0_tightestBerth_84 (by decide) ?_
              refine lv_isub hx hb dX0_tightestBerth_85 ?_
              refine lv_topi (fun x85 ex85 => ?_)
              have tx85 := q_sub (p := zs.toInt) (q := 1) ex85 rfl (by decide) (by omega) (by omega)
              refine k_i (va_runV (As := [.int day, .int i, .int a, .int b, .int x85]) (rest := []) ⟨hx, hb, hml, hown, hts⟩ (c_X5_gap l D cy E u0 u1 u2 u3 zr fso day i a b x85 H.size (by first | omega | decide | (constructor <;> first | omega | decide)) (by first | omega | decide | (constructor <;> first | omega | decide))) (cwV 5 hts gX0_tightestBerth_X5_gap rfl rfl rfl (by decide +kernel) ⟨Nat.le_of_ble_eq_true rfl, Nat.le_of_ble_eq_true rfl⟩) (cp_v hK hN hS hAB hP hD [4, 2] rfl (by decide) (ci := 5) rfl rfl rfl) rfl rfl hl.1 rfl (lv_room (Nat.le_of_ble_eq_true rfl)) dX0_tightestBerth_86 ⟨Nat.le_of_ble_eq_true rfl, Nat.le_of_ble_eq_true rfl⟩) hP hD hS hA [4, 2] [0, 1, 3, 5] (wr := [(u1, .inl (cy 0, 60, .inl fbe)), (r0, .inr (4, [.int zs, .ref r1, .ref r2])), (b0, .inr (0, [.int now, .ref r0, .ref u0, .ref t0, .ref l0, .ref q0, .ref of, .ref sh, .ref nl, .ref fc])), (u2, .inl (cy 0, 600, .inl fow))]) rfl rfl (by decide) (by decide) (fun rr86 u_rr86 H locs hw86 hP hD hS => ?_)
              try dsimp only at hw86
              have hP : va_P D vwCl [(u1, .inl (cy 0, 60, .inl fbe)), (r0, .inr (4, [.int zs, .ref r1, .ref r2])), (b0, .inr (0, [.int now, .ref r0, .ref u0, .ref t0, .ref l0, .ref q0, .ref of, .ref sh, .ref nl, .ref fc])), (u2, .inl (cy 0, 600, .inl fow)), (u0, .inr (5, [.int zr, .ref u1, .ref u2, .ref u3])), (u3, .inl (cy 0, 600, .inl fso))] H := hP
              have hD : va_D A [(u1, .inl (cy 0, 60, .inl fbe)), (r0, .inr (4, [.int zs, .ref r1, .ref r2])), (b0, .inr (0, [.int now, .ref r0, .ref u0, .ref t0, .ref l0, .ref q0, .ref of, .ref sh, .ref nl, .ref fc])), (u2, .inl (cy 0, 600, .inl fow)), (u0, .inr (5, [.int zr, .ref u1, .ref u2, .ref u3])), (u3, .inl (cy 0, 600, .inl fso))] := hD
              refine lv_istore (lv' := [(9, .int rr86), (8, .int 1), (7, .int i), (6, .int bg), (5, .int best), (0, .ref b0), (1, .int o), (2, .int day), (3, .int a), (4, .int b)]) hx hb dX0_tightestBerth_89 hl (by decide) rfl (fun ls hl => ?_)
              refine lv_iload hx hb dX0_tightestBerth_91 (lv_at hl 0 rfl) ?_
              refine lv_iload hx hb dX0_tightestBerth_93 (lv_at hl 3 rfl) ?_
              refine lv_icmp_ge (tgt := 106) hx hb dX0_tightestBerth_95 (by decide) (fun c95 => ?_) (fun c95 => ?_)
              · skip
                have fc95 := q_le (a := bg.toInt) (b := rr86.toInt) c95 rfl rfl
                obtain ⟨x106, ex106⟩ : ∃ y : Int32, y = i + 1 := ⟨_, rfl⟩
                refine lv_iinc (v := x106) (lv' := [(7, .int x106), (9, .int rr86), (8, .int 1), (6, .int bg), (5, .int best), (0, .ref b0), (1, .int o), (2, .int day), (3, .int a), (4, .int b)]) hx hb dX0_tightestBerth_106 hl (k := 2) rfl (by rw [ex106]; rfl) (by decide) rfl (fun ls hl => ?_)
                have tx106 := q_add (p := i.toInt) (q := 1) ex106 rfl (by decide) (by omega) (by omega)
                refine lv_goto (tgt := 10) hx hb dX0_tightestBerth_109 (by decide) ?_
                exact ih_10 x106 best bg (by first | omega | decide | (rw [i32_0]; omega)) (by first | omega | decide | (rw [i32_0]; omega)) (by first | omega | decide | (rw [i32_0]; omega)) (by omega) H locs (hP.sub [2, 4, 0, 3, 5, 1] rfl) (hD.sub [2, 4, 0, 3, 5, 1] (by decide) rfl) hS ls (lv_sub hl [0, 3, 4, 5, 6, 7, 8, 9] rfl)
              · skip
                have fc95 := q_nle (a := bg.toInt) (b := rr86.toInt) c95 rfl rfl
                refine lv_iload hx hb dX0_tightestBerth_98 (lv_at hl 2 rfl) ?_
                refine lv_istore (lv' := [(5, .int i), (9, .int rr86), (8, .int 1), (7, .int i), (6, .int bg), (0, .ref b0), (1, .int o), (2, .int day), (3, .int a), (4, .int b)]) hx hb dX0_tightestBerth_100 hl (by decide) rfl (fun ls hl => ?_)
                refine lv_iload hx hb dX0_tightestBerth_102 (lv_at hl 1 rfl) ?_
                refine lv_istore (lv' := [(6, .int rr86), (5, .int i), (9, .int rr86), (8, .int 1), (7, .int i), (0, .ref b0), (1, .int o), (2, .int day), (3, .int a), (4, .int b)]) hx hb dX0_tightestBerth_104 hl (by decide) rfl (fun ls hl => ?_)
                obtain ⟨x106, ex106⟩ : ∃ y : Int32, y = i + 1 := ⟨_, rfl⟩
                refine lv_iinc (v := x106) (lv' := [(7, .int x106), (6, .int rr86), (5, .int i), (9, .int rr86), (8, .int 1), (0, .ref b0), (1, .int o), (2, .int day), (3, .int a), (4, .int b)]) hx hb dX0_tightestBerth_106 hl (k := 4) rfl (by rw [ex106]; rfl) (by decide) rfl (fun ls hl => ?_)
                have tx106 := q_add (p := i.toInt) (q := 1) ex106 rfl (by decide) (by omega) (by omega)
                refine lv_goto (tgt := 10) hx hb dX0_tightestBerth_109 (by decide) ?_
                exact ih_10 x106 i rr86 (by first | omega | decide | (rw [i32_0]; omega)) (by first | omega | decide | (rw [i32_0]; omega)) (by first | omega | decide | (rw [i32_0]; omega)) (by omega) H locs (hP.sub [2, 4, 0, 3, 5, 1] rfl) (hD.sub [2, 4, 0, 3, 5, 1] (by decide) rfl) hS ls (lv_sub hl [0, 1, 2, 5, 6, 7, 8, 9] rfl)
  exact lp_10 ((10 - (0 : Int32).toInt).toNat + 1) 0 (-1) 10 (by first | omega | decide | (rw [i32_0]; omega) | (rw [i32_m1]; omega)) (by first | omega | decide | (rw [i32_0]; omega) | (rw [i32_m1]; omega)) (Or.inl (by decide)) (by first | omega | exact Nat.lt_succ_self _ | (rw [i32_0]; omega) | (rw [i32_1]; omega)) H locs hP hD hS ls (lv_sub hl [0, 1, 2, 3, 4, 5, 6, 7] rfl)

abbrev Q_c_X0_sellStretch (D : va_G) (cy : Nat → ClassId) (E : EN) (b0 : Nat) (r0 : Nat) (u0 : Nat) (t0 : Nat) (l0 : Nat) (q0 : Nat) (of : Nat) (sh : Nat) (nl : Nat) (fc : Nat) (u1 : Nat) (u2 : Nat) (u3 : Nat) (r1 : Nat) (r2 : Nat) (t1 : Nat) (t2 : Nat) (t3 : Nat) (t4 : Nat) (t5 : Nat) (t6 : Nat) (now : Int32) (zr : Int32) (zs : Int32) (zt : Int32) (fbe : Nat → Int32) (fow : Nat → Int32) (fso : Nat → Int32) (fhr : Nat → Int32) (fda : Nat → Int32) (fbt : Nat → Int32) (ffr : Nat → Int32) (fto : Nat → Int32) (foc : Nat → Int32) (fgi : Nat → Int32) (o : Int32) (day : Int32) (a : Int32) (b : Int32) : (Nat → Prop) → Array Value → State → Outcome → State → Prop := QI D cy (fun (r : Int32) (u : (Nat → Int32) × Int32 × (Nat → Int32) × (Nat → Int32) × (Nat → Int32) × (Nat → Int32) × (Nat → Int32) × (Nat → Int32)) => match u with | (gso, zz, gda, gbt, gfr, gto, goc, ggi) => (0 ≤ zz.toInt ∧ zz.toInt ≤ 300) ∧ AllI gda 300 0 59 ∧ AllI gbt 300 0 9) (fun u : (Nat → Int32) × Int32 × (Nat → Int32) × (Nat → Int32) × (Nat → Int32) × (Nat → Int32) × (Nat → Int32) × (Nat → Int32) => match u with | (gso, zz, gda, gbt, gfr, gto, goc, ggi) => [(b0, .inr (0, [.int now, .ref r0, .ref u0, .ref t0, .ref l0, .ref q0, .ref of, .ref sh, .ref nl, .ref fc])), (u0, .inr (5, [.int zr, .ref u1, .ref u2, .ref u3])), (u1, .inl (cy 0, 60, .inl fbe)), (u2, .inl (cy 0, 600, .inl fow)), (u3, .inl (cy 0, 600, .inl gso)), (r0, .inr (4, [.int zs, .ref r1, .ref r2])), (r2, .inl (cy 0, 9, .inl fhr)), (t0, .inr (7, [.int zz, .ref t1, .ref t2, .ref t3, .ref t4, .ref t5, .ref t6])), (t1, .inl (cy 0, 300, .inl gda)), (t2, .inl (cy 0, 300, .inl gbt)), (t3, .inl (cy 0, 300, .inl gfr)), (t4, .inl (cy 0, 300, .inl gto)), (t5, .inl (cy 0, 300, .inl goc)), (t6, .inl (cy 0, 300, .inl ggi))])
set_option maxHeartbeats 4000000 in
set_option maxRecDepth 100000 in
theorem c_X0_sellStretch (l : Launch) (D : va_G) (cy : Nat → ClassId) (E : EN) (b0 : Nat) (r0 : Nat) (u0 : Nat) (t0 : Nat) (l0 : Nat) (q0 : Nat) (of : Nat) (sh : Nat) (nl : Nat) (fc : Nat) (u1 : Nat) (u2 : Nat) (u3 : Nat) (r1 : Nat) (r2 : Nat) (t1 : Nat) (t2 : Nat) (t3 : Nat) (t4 : Nat) (t5 : Nat) (t6 : Nat) (now : Int32) (zr : Int32) (zs : Int32) (zt : Int32) (fbe : Nat → Int32) (fow : Nat → Int32) (fso : Nat → Int32) (fhr : Nat → Int32) (fda : Nat → Int32) (fbt : Nat → Int32) (ffr : Nat → Int32) (fto : Nat → Int32) (foc : Nat → Int32) (fgi : Nat → Int32) (o : Int32) (day : Int32) (a : Int32) (b : Int32) (sz : Nat) (hday : 0 ≤ day.toInt ∧ day.toInt < 60) (hzs : 2 ≤ zs.toInt ∧ zs.toInt ≤ 10) (hzt : 0 ≤ zt.toInt ∧ zt.toInt ≤ 300) (hv_fbe : AllI fbe 60 0 10) (hv_fhr : AllI fhr 9 0 24) (hv_fda : AllI fda 300 0 59) (hv_fbt : AllI fbt 300 0 9) : Met l yX0_sellStretch wsX0_sellStretch ({ frames := 4, cells := 0, slots := 0, locals := 101 } : Room) (CP D cy E [.ref b0, .int o, .int day, .int a, .int b] [(b0, .inr (0, [.int now, .ref r0, .ref u0, .ref t0, .ref l0, .ref q0, .ref of, .ref sh, .ref nl, .ref fc])), (u0, .inr (5, [.int zr, .ref u1, .ref u2, .ref u3])), (u1, .inl (cy 0, 60, .inl fbe)), (u2, .inl (cy 0, 600, .inl fow)), (u3, .inl (cy 0, 600, .inl fso)), (r0, .inr (4, [.int zs, .ref r1, .ref r2])), (r2, .inl (cy 0, 9, .inl fhr)), (t0, .inr (7, [.int zt, .ref t1, .ref t2, .ref t3, .ref t4, .ref t5, .ref t6])), (t1, .inl (cy 0, 300, .inl fda)), (t2, .inl (cy 0, 300, .inl fbt)), (t3, .inl (cy 0, 300, .inl ffr)), (t4, .inl (cy 0, 300, .inl fto)), (t5, .inl (cy 0, 300, .inl foc)), (t6, .inl (cy 0, 300, .inl fgi))] sz) (Q_c_X0_sellStretch D cy E b0 r0 u0 t0 l0 q0 of sh nl fc u1 u2 u3 r1 r2 t1 t2 t3 t4 t5 t6 now zr zs zt fbe fow fso fhr fda fbt ffr fto foc fgi o day a b (va_A [(b0, .inr (0, [.int now, .ref r0, .ref u0, .ref t0, .ref l0, .ref q0, .ref of, .ref sh, .ref nl, .ref fc])), (u0, .inr (5, [.int zr, .ref u1, .ref u2, .ref u3])), (u1, .inl (cy 0, 60, .inl fbe)), (u2, .inl (cy 0, 600, .inl fow)), (u3, .inl (cy 0, 600, .inl fso)), (r0, .inr (4, [.int zs, .ref r1, .ref r2])), (r2, .inl (cy 0, 9, .inl fhr)), (t0, .inr (7, [.int zt, .ref t1, .ref t2, .ref t3, .ref t4, .ref t5, .ref t6])), (t1, .inl (cy 0, 300, .inl fda)), (t2, .inl (cy 0, 300, .inl fbt)), (t3, .inl (cy 0, 300, .inl ffr)), (t4, .inl (cy 0, 300, .inl fto)), (t5, .inl (cy 0, 300, .inl foc)), (t6, .inl (cy 0, 300, .inl fgi))] sz)) 0 0 (va_A [(b0, .inr (0, [.int now, .ref r0, .ref u0, .ref t0, .ref l0, .ref q0, .ref of, .ref sh, .ref nl, .ref fc])), (u0, .inr (5, [.int zr, .ref u1, .ref u2, .ref u3])), (u1, .inl (cy 0, 60, .inl fbe)), (u2, .inl (cy 0, 600, .inl fow)), (u3, .inl (cy 0, 600, .inl fso)), (r0, .inr (4, [.int zs, .ref r1, .ref r2])), (r2, .inl (cy 0, 9, .inl fhr)), (t0, .inr (7, [.int zt, .ref t1, .ref t2, .ref t3, .ref t4, .ref t5, .ref t6])), (t1, .inl (cy 0, 300, .inl fda)), (t2, .inl (cy 0, 300, .inl fbt)), (t3, .inl (cy 0, 300, .inl ffr)), (t4, .inl (cy 0, 300, .inl fto)), (t5, .inl (cy 0, 300, .inl foc)), (t6, .inl (cy 0, 300, .inl fgi))] sz) := by
  refine Met.go (Qc := Q_c_X0_sellStretch D cy E b0 r0 u0 t0 l0 q0 of sh nl fc u1 u2 u3 r1 r2 t1 t2 t3 t4 t5 t6 now zr zs zt fbe fow fso fhr fda fbt ffr fto foc fgi o day a b) (cc := cX0_sellStretch) (maxL := 6) (ret := (some .int)) (by decide) rfl (Nat.le_of_ble_eq_true rfl) ?_
  intro p e s m below meth c hx hb hr hts hown hlocks hin hml hK hN A hA hAB hD hP hS ls hl hsz
  have hl : lv_has ls 6 [(0, .ref b0), (1, .int o), (2, .int day), (3, .int a), (4, .int b)] := hl
  have in_X0 : ∀ w ∈ wsX00, w ∈ wsX0_sellStretch := fun _ h => List.mem_cons_of_mem _ (List.mem_append_left _ (List.mem_append_left _ (List.mem_append_left _ ((List.mem_append_right _ h)))))
  have w_1 := hts (.fieldLink RX0 28 "SleepingCars$Book" "tickets" "LSleepingCars$Tickets;") (by decide +kernel)
  have w_2 := hts (.instanceMethod yX7_isFull) (by decide +kernel)
  have w_3 := hts (.instanceMethod yX0_hasLeft) (by decide +kernel)
  have w_4 := hts (.instanceMethod yX0_tightestBerth) (by decide +kernel)
  have w_5 := hts (.fieldLink RX0 21 "SleepingCars$Book" "runs" "LSleepingCars$Runs;") (by decide +kernel)
  have w_6 := hts (.instanceMethod yX5_legsOf) (by decide +kernel)
  have w_7 := hts (.initialized RX9) (by decide +kernel)
  have w_8 := hts (.static yX9_legsBetween) (by decide +kernel)
  have w_9 := hts (.instanceMethod yX5_setLegs) (by decide +kernel)
  have w_10 := hts (.instanceMethod yX7_add) (by decide +kernel)
  obtain ⟨H, eH⟩ : ∃ H : Heap, H = s.heap := ⟨_, rfl⟩
  obtain ⟨locs, eL⟩ : ∃ L : List Loc, L = [] := ⟨_, rfl⟩
  rw [← eL]
  rw [← eL] at hS
  have hP : va_P D vwCl [(b0, .inr (0, [.int now, .ref r0, .ref u0, .ref t0, .ref l0, .ref q0, .ref of, .ref sh, .ref nl, .ref fc])), (u0, .inr (5, [.int zr, .ref u1, .ref u2, .ref u3])), (u1, .inl (cy 0, 60, .inl fbe)), (u2, .inl (cy 0, 600, .inl fow)), (u3, .inl (cy 0, 600, .inl fso)), (r0, .inr (4, [.int zs, .ref r1, .ref r2])), (r2, .inl (cy 0, 9, .inl fhr)), (t0, .inr (7, [.int zt, .ref t1, .ref t2, .ref t3, .ref t4, .ref t5, .ref t6])), (t1, .inl (cy 0, 300, .inl fda)), (t2, .inl (cy 0, 300, .inl fbt)), (t3, .inl (cy 0, 300, .inl ffr)), (t4, .inl (cy 0, 300, .inl fto)), (t5, .inl (cy 0, 300, .inl foc)), (t6, .inl (cy 0, 300, .inl fgi))] H := by rw [eH]; exact hP
  have hS : va_S A s.heap H locs := by rw [eH]; exact hS
  refine W.heapEq eH ?_
  clear eH eL
  refine lv_aload_n hx hb dX0_sellStretch_0 rfl (lv_at hl 0 rfl) ?_
  refine va_get (D := D) (ci := 0) (v := .ref t0) (C := RX0) (T := TX0) (N := 10) hx hb hts in_X0 hown hK hP 0 rfl rfl 3 (by decide) w_1 (fun _ h9 => h9) rfl dX0_sellStretch_1 ?_
  refine k_i (va_runV (As := []) (rest := []) ⟨hx, hb, hml, hown, hts⟩ (c_X7_isFull l D cy E t0 t1 t2 t3 t4 t5 t6 zt H.size ) (cwV 0 hts gX0_sellStretch_X7_isFull rfl rfl rfl (by decide +kernel) ⟨Nat.le_of_ble_eq_true rfl, Nat.le_of_ble_eq_true rfl⟩) (cp_v hK hN hS hAB hP hD [7] rfl (by decide) (ci := 7) rfl rfl rfl) rfl rfl hl.1 rfl (lv_room (Nat.le_of_ble_eq_true rfl)) dX0_sellStretch_4 ⟨Nat.le_of_ble_eq_true rfl, Nat.le_of_ble_eq_true rfl⟩) hP hD hS hA [7] [0, 1, 2, 3, 4, 5, 6, 8, 9, 10, 11, 12, 13] (wr := [(b0, .inr (0, [.int now, .ref r0, .ref u0, .ref t0, .ref l0, .ref q0, .ref of, .ref sh, .ref nl, .ref fc])), (u0, .inr (5, [.int zr, .ref u1, .ref u2, .ref u3])), (u1, .inl (cy 0, 60, .inl fbe)), (u2, .inl (cy 0, 600, .inl fow)), (u3, .inl (cy 0, 600, .inl fso)), (r0, .inr (4, [.int zs, .ref r1, .ref r2])), (r2, .inl (cy 0, 9, .inl fhr)), (t1, .inl (cy 0, 300, .inl fda)), (t2, .inl (cy 0, 300, .inl fbt)), (t3, .inl (cy 0, 300, .inl ffr)), (t4, .inl (cy 0, 300, .inl fto)), (t5, .inl (cy 0, 300, .inl foc)), (t6, .inl (cy 0, 300, .inl fgi))]) rfl rfl (by decide) (by decide) (fun rr4 u_rr4 H locs hw4 hP hD hS => ?_)
  try dsimp only at hw4
  have hP : va_P D vwCl [(b0, .inr (0, [.int now, .ref r0, .ref u0, .ref t0, .ref l0, .ref q0, .ref of, .ref sh, .ref nl, .ref fc])), (u0, .inr (5, [.int zr, .ref u1, .ref u2, .ref u3])), (u1, .inl (cy 0, 60, .inl fbe)), (u2, .inl (cy 0, 600, .inl fow)), (u3, .inl (cy 0, 600, .inl fso)), (r0, .inr (4, [.int zs, .ref r1, .ref r2])), (r2, .inl (cy 0, 9, .inl fhr)), (t1, .inl (cy 0, 300, .inl fda)), (t2, .inl (cy 0, 300, .inl fbt)), (t3, .inl (cy 0, 300, .inl ffr)), (t4, .inl (cy 0, 300, .inl fto)), (t5, .inl (cy 0, 300, .inl foc)), (t6, .inl (cy 0, 300, .inl fgi)), (t0, .inr (7, [.int zt, .ref t1, .ref t2, .ref t3, .ref t4, .ref t5, .ref t6]))] H := hP
  have hD : va_D A [(b0, .inr (0, [.int now, .ref r0, .ref u0, .ref t0, .ref l0, .ref q0, .ref of, .ref sh, .ref nl, .ref fc])), (u0, .inr (5, [.int zr, .ref u1, .ref u2, .ref u3])), (u1, .inl (cy 0, 60, .inl fbe)), (u2, .inl (cy 0, 600, .inl fow)), (u3, .inl (cy 0, 600, .inl fso)), (r0, .inr (4, [.int zs, .ref r1, .ref r2])), (r2, .inl (cy 0, 9, .inl fhr)), (t1, .inl (cy 0, 300, .inl fda)), (t2, .inl (cy 0, 300, .inl fbt)), (t3, .inl (cy 0, 300, .inl ffr)), (t4, .inl (cy 0, 300, .inl fto)), (t5, .inl (cy 0, 300, .inl foc)), (t6, .inl (cy 0, 300, .inl fgi)), (t0, .inr (7, [.int zt, .ref t1, .ref t2, .ref t3, .ref t4, .ref t5, .ref t6]))] := hD
  refine lv_if_ne (tgt := 19) hx hb dX0_sellStretch_7 (by decide) (fun c7 => ?_) (fun c7 => ?_)
  · skip
    have fc7 := q_ne (a := rr4.toInt) (b := 0) c7 rfl (by decide)
    refine lv_iconst (v := (-1)) hx hb dX0_sellStretch_19 (by decide) ?_
    exact r_i hx hb hr hlocks hK hS dX0_sellStretch_20 (u := (fso, zt, fda, fbt, ffr, fto, foc, fgi)) (hP.sub (ws' := [(b0, .inr (0, [.int now, .ref r0, .ref u0, .ref t0, .ref l0, .ref q0, .ref of, .ref sh, .ref nl, .ref fc])), (u0, .inr (5, [.int zr, .ref u1, .ref u2, .ref u3])), (u1, .inl (cy 0, 60, .inl fbe)), (u2, .inl (cy 0, 600, .inl fow)), (u3, .inl (cy 0, 600, .inl fso)), (r0, .inr (4, [.int zs, .ref r1, .ref r2])), (r2, .inl (cy 0, 9, .inl fhr)), (t0, .inr (7, [.int zt, .ref t1, .ref t2, .ref t3, .ref t4, .ref t5, .ref t6])), (t1, .inl (cy 0, 300, .inl fda)), (t2, .inl (cy 0, 300, .inl fbt)), (t3, .inl (cy 0, 300, .inl ffr)), (t4, .inl (cy 0, 300, .inl fto)), (t5, .inl (cy 0, 300, .inl foc)), (t6, .inl (cy 0, 300, .inl fgi))]) [0, 1, 2, 3, 4, 5, 6, 13, 7, 8, 9, 10, 11, 12] rfl) (hD.sub (ws' := [(b0, .inr (0, [.int now, .ref r0, .ref u0, .ref t0, .ref l0, .ref q0, .ref of, .ref sh, .ref nl, .ref fc])), (u0, .inr (5, [.int zr, .ref u1, .ref u2, .ref u3])), (u1, .inl (cy 0, 60, .inl fbe)), (u2, .inl (cy 0, 600, .inl fow)), (u3, .inl (cy 0, 600, .inl fso)), (r0, .inr (4, [.int zs, .ref r1, .ref r2])), (r2, .inl (cy 0, 9, .inl fhr)), (t0, .inr (7, [.int zt, .ref t1, .ref t2, .ref t3, .ref t4, .ref t5, .ref t6])), (t1, .inl (cy 0, 300, .inl fda)), (t2, .inl (cy 0, 300, .inl fbt)), (t3, .inl (cy 0, 300, .inl ffr)), (t4, .inl (cy 0, 300, .inl fto)), (t5, .inl (cy 0, 300, .inl foc)), (t6, .inl (cy 0, 300, .inl fgi))]) [0, 1, 2, 3, 4, 5, 6, 13, 7, 8, 9, 10, 11, 12] (by decide) rfl) (⟨(by omega), hv_fda, hv_fbt⟩)
  · skip
    have fc7 := q_eq (a := rr4.toInt) (b := 0) c7 rfl (by decide)
    refine lv_aload_n hx hb dX0_sellStretch_10 rfl (lv_at hl 0 rfl) ?_
    refine lv_iload_n hx hb dX0_sellStretch_11 rfl (lv_at hl 2 rfl) ?_
    refine lv_iload_n hx hb dX0_sellStretch_12 rfl (lv_at hl 3 rfl) ?_
    refine k_i (va_runV (As := [.int day, .int a]) (rest := []) ⟨hx, hb, hml, hown, hts⟩ (c_X0_hasLeft l D cy E b0 r0 u0 t0 l0 q0 of sh nl fc r1 r2 now zs fhr day a H.size hv_fhr) (cwV 2 hts gX0_sellStretch_X0_hasLeft rfl rfl rfl (by decide +kernel) ⟨Nat.le_of_ble_eq_true rfl, Nat.le_of_ble_eq_true rfl⟩) (cp_v hK hN hS hAB hP hD [0, 5, 6] rfl (by decide) (ci := 0) rfl rfl rfl) rfl rfl hl.1 rfl (lv_room (Nat.le_of_ble_eq_true rfl)) dX0_sellStretch_13 ⟨Nat.le_of_ble_eq_true rfl, Nat.le_of_ble_eq_true rfl⟩) hP hD hS hA [0, 5, 6] [1, 2, 3, 4, 7, 8, 9, 10, 11, 12, 13] (wr := [(u0, .inr (5, [.int zr, .ref u1, .ref u2, .ref u3])), (u1, .inl (cy 0, 60, .inl fbe)), (u2, .inl (cy 0, 600, .inl fow)), (u3, .inl (cy 0, 600, .inl fso)), (t1, .inl (cy 0, 300, .inl fda)), (t2, .inl (cy 0, 300, .inl fbt)), (t3, .inl (cy 0, 300, .inl ffr)), (t4, .inl (cy 0, 300, .inl fto)), (t5, .inl (cy 0, 300, .inl foc)), (t6, .inl (cy 0, 300, .inl fgi)), (t0, .inr (7, [.int zt, .ref t1, .ref t2, .ref t3, .ref t4, .ref t5, .ref t6]))]) rfl rfl (by decide) (by decide) (fun rr13 u_rr13 H locs hw13 hP hD hS => ?_)
    try dsimp only at hw13
    have hP : va_P D vwCl [(u0, .inr (5, [.int zr, .ref u1, .ref u2, .ref u3])), (u1, .inl (cy 0, 60, .inl fbe)), (u2, .inl (cy 0, 600, .inl fow)), (u3, .inl (cy 0, 600, .inl fso)), (t1, .inl (cy 0, 300, .inl fda)), (t2, .inl (cy 0, 300, .inl fbt)), (t3, .inl (cy 0, 300, .inl ffr)), (t4, .inl (cy 0, 300, .inl fto)), (t5, .inl (cy 0, 300, .inl foc)), (t6, .inl (cy 0, 300, .inl fgi)), (t0, .inr (7, [.int zt, .ref t1, .ref t2, .ref t3, .ref t4, .ref t5, .ref t6])), (b0, .inr (0, [.int now, .ref r0, .ref u0, .ref t0, .ref l0, .ref q0, .ref of, .ref sh, .ref nl, .ref fc])), (r0, .inr (4, [.int zs, .ref r1, .ref r2])), (r2, .inl (cy 0, 9, .inl fhr))] H := hP
    have hD : va_D A [(u0, .inr (5, [.int zr, .ref u1, .ref u2, .ref u3])), (u1, .inl (cy 0, 60, .inl fbe)), (u2, .inl (cy 0, 600, .inl fow)), (u3, .inl (cy 0, 600, .inl fso)), (t1, .inl (cy 0, 300, .inl fda)), (t2, .inl (cy 0, 300, .inl fbt)), (t3, .inl (cy 0, 300, .inl ffr)), (t4, .inl (cy 0, 300, .inl fto)), (t5, .inl (cy 0, 300, .inl foc)), (t6, .inl (cy 0, 300, .inl fgi)), (t0, .inr (7, [.int zt, .ref t1, .ref t2, .ref t3, .ref t4, .ref t5, .ref t6])), (b0, .inr (0, [.int now, .ref r0, .ref u0, .ref t0, .ref l0, .ref q0, .ref of, .ref sh, .ref nl, .ref fc])), (r0, .inr (4, [.int zs, .ref r1, .ref r2])), (r2, .inl (cy 0, 9, .inl fhr))] := hD
    refine lv_if_eq (tgt := 21) hx hb dX0_sellStretch_16 (by decide) (fun c16 => ?_) (fun c16 => ?_)
    · skip
      have fc16 := q_eq (a := rr13.toInt) (b := 0) c16 rfl (by decide)
      refine lv_aload_n hx hb dX0_sellStretch_21 rfl (lv_at hl 0 rfl) ?_
      refine lv_iload_n hx hb dX0_sellStretch_22 rfl (lv_at hl 1 rfl) ?_
      refine lv_iload_n hx hb dX0_sellStretch_23 rfl (lv_at hl 2 rfl) ?_
      refine lv_iload_n hx hb dX0_sellStretch_24 rfl (lv_at hl 3 rfl) ?_
      refine lv_iload hx hb dX0_sellStretch_25 (lv_at hl 4 rfl) ?_
      refine k_i (va_runV (As := [.int o, .int day, .int a, .int b]) (rest := []) ⟨hx, hb, hml, hown, hts⟩ (c_X0_tightestBerth l D cy E b0 r0 u0 t0 l0 q0 of sh nl fc u1 u2 u3 r1 r2 now zr zs fbe fow fso o day a b H.size (by first | omega | decide | (constructor <;> first | omega | decide)) (by first | omega | decide | (constructor <;> first | omega | decide)) hv_fbe) (cwV 4 hts gX0_sellStretch_X0_tightestBerth rfl rfl rfl (by decide +kernel) ⟨Nat.le_of_ble_eq_true rfl, Nat.le_of_ble_eq_true rfl⟩) (cp_v hK hN hS hAB hP hD [11, 0, 1, 2, 3, 12] rfl (by decide) (ci := 0) rfl rfl rfl) rfl rfl hl.1 rfl (lv_room (Nat.le_of_ble_eq_true rfl)) dX0_sellStretch_27 ⟨Nat.le_of_ble_eq_true rfl, Nat.le_of_ble_eq_true rfl⟩) hP hD hS hA [11, 0, 1, 2, 3, 12] [4, 5, 6, 7, 8, 9, 10, 13] (wr := [(t1, .inl (cy 0, 300, .inl fda)), (t2, .inl (cy 0, 300, .inl fbt)), (t3, .inl (cy 0, 300, .inl ffr)), (t4, .inl (cy 0, 300, .inl fto)), (t5, .inl (cy 0, 300, .inl foc)), (t6, .inl (cy 0, 300, .inl fgi)), (t0, .inr (7, [.int zt, .ref t1, .ref t2, .ref t3, .ref t4, .ref t5, .ref t6])), (r2, .inl (cy 0, 9, .inl fhr))]) rfl rfl (by decide) (by decide) (fun rr27 u_rr27 H locs hw27 hP hD hS => ?_)
      try dsimp only at hw27
      have hP : va_P D vwCl [(t1, .inl (cy 0, 300, .inl fda)), (t2, .inl (cy 0, 300, .inl fbt)), (t3, .inl (cy 0, 300, .inl ffr)), (t4, .inl (cy 0, 300, .inl fto)), (t5, .inl (cy 0, 300, .inl foc)), (t6, .inl (cy 0, 300, .inl fgi)), (t0, .inr (7, [.int zt, .ref t1, .ref t2, .ref t3, .ref t4, .ref t5, .ref t6])), (r2, .inl (cy 0, 9, .inl fhr)), (b0, .inr (0, [.int now, .ref r0, .ref u0, .ref t0, .ref l0, .ref q0, .ref of, .ref sh, .ref nl, .ref fc])), (u0, .inr (5, [.int zr, .ref u1, .ref u2, .ref u3])), (u1, .inl (cy 0, 60, .inl fbe)), (u2, .inl (cy 0, 600, .inl fow)), (u3, .inl (cy 0, 600, .inl fso)), (r0, .inr (4, [.int zs, .ref r1, .ref r2]))] H := hP
      have hD : va_D A [(t1, .inl (cy 0, 300, .inl fda)), (t2, .inl (cy 0, 300, .inl fbt)), (t3, .inl (cy 0, 300, .inl ffr)), (t4, .inl (cy 0, 300, .inl fto)), (t5, .inl (cy 0, 300, .inl foc)), (t6, .inl (cy 0, 300, .inl fgi)), (t0, .inr (7, [.int zt, .ref t1, .ref t2, .ref t3, .ref t4, .ref t5, .ref t6])), (r2, .inl (cy 0, 9, .inl fhr)), (b0, .inr (0, [.int now, .ref r0, .ref u0, .ref t0, .ref l0, .ref q0, .ref of, .ref sh, .ref nl, .ref fc])), (u0, .inr (5, [.int zr, .ref u1, .ref u2, .ref u3])), (u1, .inl (cy 0, 60, .inl fbe)), (u2, .inl (cy 0, 600, .inl fow)), (u3, .inl (cy 0, 600, .inl fso)), (r0, .inr (4, [.int zs, .ref r1, .ref r2]))] := hD
      refine lv_istore (lv' := [(5, .int rr27), (0, .ref b0), (1, .int o), (2, .int day), (3, .int a), (4, .int b)]) hx hb dX0_sellStretch_30 hl (by decide) rfl (fun ls hl => ?_)
      refine lv_iload hx hb dX0_sellStretch_32 (lv_at hl 0 rfl) ?_
      refine lv_iconst (v := (-1)) hx hb dX0_sellStretch_34 (by decide) ?_
      refine lv_icmp_ne (tgt := 40) hx hb dX0_sellStretch_35 (by decide) (fun c35 => ?_) (fun c35 => ?_)
      · skip
        have fc35 := q_ne (a := rr27.toInt) (b := (-1)) c35 rfl (by decide)
        refine lv_aload_n hx hb dX0_sellStretch_40 rfl (lv_at hl 1 rfl) ?_
        refine va_get (D := D) (ci := 0) (v := .ref u0) (C := RX0) (T := TX0) (N := 10) hx hb hts in_X0 hown hK hP 8 rfl rfl 2 (by decide) w_5 (fun _ h9 => h9) rfl dX0_sellStretch_41 ?_
        refine lv_iload_n hx hb dX0_sellStretch_44 rfl (lv_at hl 3 rfl) ?_
        refine lv_iload hx hb dX0_sellStretch_45 (lv_at hl 0 rfl) ?_
        refine lv_aload_n hx hb dX0_sellStretch_47 rfl (lv_at hl 1 rfl) ?_
        refine va_get (D := D) (ci := 0) (v := .ref u0) (C := RX0) (T := TX0) (N := 10) hx hb hts in_X0 hown hK hP 8 rfl rfl 2 (by decide) w_5 (fun _ h9 => h9) rfl dX0_sellStretch_48 ?_
        refine lv_iload_n hx hb dX0_sellStretch_51 rfl (lv_at hl 3 rfl) ?_
        refine lv_iload hx hb dX0_sellStretch_52 (lv_at hl 0 rfl) ?_
        refine k_i (va_runV (As := [.int day, .int rr27]) (rest := [.int rr27, .int day, .ref u0]) ⟨hx, hb, hml, hown, hts⟩ (c_X5_legsOf l D cy E u0 u1 u2 u3 zr fso day rr27 H.size (by first | omega | decide | (constructor <;> first | omega | decide)) (by first | omega | decide | (constructor <;> first | omega | decide))) (cwV 2 hts gX0_sellStretch_X5_legsOf rfl rfl rfl (by decide +kernel) ⟨Nat.le_of_ble_eq_true rfl, Nat.le_of_ble_eq_true rfl⟩) (cp_v hK hN hS hAB hP hD [9, 12] rfl (by decide) (ci := 5) rfl rfl rfl) rfl rfl hl.1 rfl (lv_room (Nat.le_of_ble_eq_true rfl)) dX0_sellStretch_54 ⟨Nat.le_of_ble_eq_true rfl, Nat.le_of_ble_eq_true rfl⟩) hP hD hS hA [9, 12] [0, 1, 2, 3, 4, 5, 6, 7, 8, 10, 11, 13] (wr := [(t1, .inl (cy 0, 300, .inl fda)), (t2, .inl (cy 0, 300, .inl fbt)), (t3, .inl (cy 0, 300, .inl ffr)), (t4, .inl (cy 0, 300, .inl fto)), (t5, .inl (cy 0, 300, .inl foc)), (t6, .inl (cy 0, 300, .inl fgi)), (t0, .inr (7, [.int zt, .ref t1, .ref t2, .ref t3, .ref t4, .ref t5, .ref t6])), (r2, .inl (cy 0, 9, .inl fhr)), (b0, .inr (0, [.int now, .ref r0, .ref u0, .ref t0, .ref l0, .ref q0, .ref of, .ref sh, .ref nl, .ref fc])), (u1, .inl (cy 0, 60, .inl fbe)), (u2, .inl (cy 0, 600, .inl fow)), (r0, .inr (4, [.int zs, .ref r1, .ref r2]))]) rfl rfl (by decide) (by decide) (fun rr54 u_rr54 H locs hw54 hP hD hS => ?_)
        try dsimp only at hw54
        have hP : va_P D vwCl [(t1, .inl (cy 0, 300, .inl fda)), (t2, .inl (cy 0, 300, .inl fbt)), (t3, .inl (cy 0, 300, .inl ffr)), (t4, .inl (cy 0, 300, .inl fto)), (t5, .inl (cy 0, 300, .inl foc)), (t6, .inl (cy 0, 300, .inl fgi)), (t0, .inr (7, [.int zt, .ref t1, .ref t2, .ref t3, .ref t4, .ref t5, .ref t6])), (r2, .inl (cy 0, 9, .inl fhr)), (b0, .inr (0, [.int now, .ref r0, .ref u0, .ref t0, .ref l0, .ref q0, .ref of, .ref sh, .ref nl, .ref fc])), (u1, .inl (cy 0, 60, .inl fbe)), (u2, .inl (cy 0, 600, .inl fow)), (r0, .inr (4, [.int zs, .ref r1, .ref r2])), (u0, .inr (5, [.int zr, .ref u1, .ref u2, .ref u3])), (u3, .inl (cy 0, 600, .inl fso))] H := hP
        have hD : va_D A [(t1, .inl (cy 0, 300, .inl fda)), (t2, .inl (cy 0, 300, .inl fbt)), (t3, .inl (cy 0, 300, .inl ffr)), (t4, .inl (cy 0, 300, .inl fto)), (t5, .inl (cy 0, 300, .inl foc)), (t6, .inl (cy 0, 300, .inl fgi)), (t0, .inr (7, [.int zt, .ref t1, .ref t2, .ref t3, .ref t4, .ref t5, .ref t6])), (r2, .inl (cy 0, 9, .inl fhr)), (b0, .inr (0, [.int now, .ref r0, .ref u0, .ref t0, .ref l0, .ref q0, .ref of, .ref sh, .ref nl, .ref fc])), (u1, .inl (cy 0, 60, .inl fbe)), (u2, .inl (cy 0, 600, .inl fow)), (r0, .inr (4, [.int zs, .ref r1, .ref r2])), (u0, .inr (5, [.int zr, .ref u1, .ref u2, .ref u3])), (u3, .inl (cy 0, 600, .inl fso))] := hD
        refine lv_iload_n hx hb dX0_sellStretch_57 rfl (lv_at hl 4 rfl) ?_
        refine lv_iload hx hb dX0_sellStretch_58 (lv_at hl 5 rfl) ?_
        refine k_i (va_runSN (As := [.int a, .int b]) (rest := [.int rr54, .int rr27, .int day, .ref u0]) ⟨hx, hb, hml, hown, hts⟩ (c_X9_legsBetween l D cy E a b H.size ) ⟨va_cnB 2 hts gX0_sellStretch_X9_legsBetween_n93 rfl rfl rfl (hN.1.2.2.2.2.2.2.2.2.2.1) w_7 (by decide +kernel) ⟨Nat.le_of_ble_eq_true rfl, Nat.le_of_ble_eq_true rfl⟩, w_8, trivial⟩ (cp_s hK hN hS hAB hP hD [] rfl (by decide)) rfl rfl hl.1 rfl (lv_room (Nat.le_of_ble_eq_true rfl)) dX0_sellStretch_60 ⟨Nat.le_of_ble_eq_true rfl, Nat.le_of_ble_eq_true rfl⟩) hP hD hS hA [] [0, 1, 2, 3, 4, 5, 6, 7, 8, 9, 10, 11, 12, 13] (wr := [(t1, .inl (cy 0, 300, .inl fda)), (t2, .inl (cy 0, 300, .inl fbt)), (t3, .inl (cy 0, 300, .inl ffr)), (t4, .inl (cy 0, 300, .inl fto)), (t5, .inl (cy 0, 300, .inl foc)), (t6, .inl (cy 0, 300, .inl fgi)), (t0, .inr (7, [.int zt, .ref t1, .ref t2, .ref t3, .ref t4, .ref t5, .ref t6])), (r2, .inl (cy 0, 9, .inl fhr)), (b0, .inr (0, [.int now, .ref r0, .ref u0, .ref t0, .ref l0, .ref q0, .ref of, .ref sh, .ref nl, .ref fc])), (u1, .inl (cy 0, 60, .inl fbe)), (u2, .inl (cy 0, 600, .inl fow)), (r0, .inr (4, [.int zs, .ref r1, .ref r2])), (u0, .inr (5, [.int zr, .ref u1, .ref u2, .ref u3])), (u3, .inl (cy 0, 600, .inl fso))]) rfl rfl (by decide) (by decide) (fun rr60 u_rr60 H locs hw60 hP hD hS => ?_)
        try dsimp only at hw60
        have hP : va_P D vwCl [(t1, .inl (cy 0, 300, .inl fda)), (t2, .inl (cy 0, 300, .inl fbt)), (t3, .inl (cy 0, 300, .inl ffr)), (t4, .inl (cy 0, 300, .inl fto)), (t5, .inl (cy 0, 300, .inl foc)), (t6, .inl (cy 0, 300, .inl fgi)), (t0, .inr (7, [.int zt, .ref t1, .ref t2, .ref t3, .ref t4, .ref t5, .ref t6])), (r2, .inl (cy 0, 9, .inl fhr)), (b0, .inr (0, [.int now, .ref r0, .ref u0, .ref t0, .ref l0, .ref q0, .ref of, .ref sh, .ref nl, .ref fc])), (u1, .inl (cy 0, 60, .inl fbe)), (u2, .inl (cy 0, 600, .inl fow)), (r0, .inr (4, [.int zs, .ref r1, .ref r2])), (u0, .inr (5, [.int zr, .ref u1, .ref u2, .ref u3])), (u3, .inl (cy 0, 600, .inl fso))] H := hP
        have hD : va_D A [(t1, .inl (cy 0, 300, .inl fda)), (t2, .inl (cy 0, 300, .inl fbt)), (t3, .inl (cy 0, 300, .inl ffr)), (t4, .inl (cy 0, 300, .inl fto)), (t5, .inl (cy 0, 300, .inl foc)), (t6, .inl (cy 0, 300, .inl fgi)), (t0, .inr (7, [.int zt, .ref t1, .ref t2, .ref t3, .ref t4, .ref t5, .ref t6])), (r2, .inl (cy 0, 9, .inl fhr)), (b0, .inr (0, [.int now, .ref r0, .ref u0, .ref t0, .ref l0, .ref q0, .ref of, .ref sh, .ref nl, .ref fc])), (u1, .inl (cy 0, 60, .inl fbe)), (u2, .inl (cy 0, 600, .inl fow)), (r0, .inr (4, [.int zs, .ref r1, .ref r2])), (u0, .inr (5, [.int zr, .ref u1, .ref u2, .ref u3])), (u3, .inl (cy 0, 600, .inl fso))] := hD
        refine lv_ior hx hb dX0_sellStretch_63 ?_
        refine lv_topi (fun x63 ex63 => ?_)
        refine k_v (va_runV (As := [.int day, .int rr27, .int x63]) (rest := []) ⟨hx, hb, hml, hown, hts⟩ (c_X5_setLegs l D cy E u0 u1 u2 u3 zr fso day rr27 x63 H.size (by first | omega | decide | (constructor <;> first | omega | decide)) (by first | omega | decide | (constructor <;> first | omega | decide))) (cwV 3 hts gX0_sellStretch_X5_setLegs rfl rfl rfl (by decide +kernel) ⟨Nat.le_of_ble_eq_true rfl, Nat.le_of_ble_eq_true rfl⟩) (cp_v hK hN hS hAB hP hD [12, 13] rfl (by decide) (ci := 5) rfl rfl rfl) rfl rfl hl.1 rfl (lv_room (Nat.le_of_ble_eq_true rfl)) dX0_sellStretch_64 ⟨Nat.le_of_ble_eq_true rfl, Nat.le_of_ble_eq_true rfl⟩) hP hD hS hA [12, 13] [0, 1, 2, 3, 4, 5, 6, 7, 8, 9, 10, 11] (wr := [(t1, .inl (cy 0, 300, .inl fda)), (t2, .inl (cy 0, 300, .inl fbt)), (t3, .inl (cy 0, 300, .inl ffr)), (t4, .inl (cy 0, 300, .inl fto)), (t5, .inl (cy 0, 300, .inl foc)), (t6, .inl (cy 0, 300, .inl fgi)), (t0, .inr (7, [.int zt, .ref t1, .ref t2, .ref t3, .ref t4, .ref t5, .ref t6])), (r2, .inl (cy 0, 9, .inl fhr)), (b0, .inr (0, [.int now, .ref r0, .ref u0, .ref t0, .ref l0, .ref q0, .ref of, .ref sh, .ref nl, .ref fc])), (u1, .inl (cy 0, 60, .inl fbe)), (u2, .inl (cy 0, 600, .inl fow)), (r0, .inr (4, [.int zs, .ref r1, .ref r2]))]) rfl rfl (by decide) (by decide) (fun u_rr64 H locs hw64 hP hD hS => ?_)
        try dsimp only at hw64
        have hP : va_P D vwCl [(t1, .inl (cy 0, 300, .inl fda)), (t2, .inl (cy 0, 300, .inl fbt)), (t3, .inl (cy 0, 300, .inl ffr)), (t4, .inl (cy 0, 300, .inl fto)), (t5, .inl (cy 0, 300, .inl foc)), (t6, .inl (cy 0, 300, .inl fgi)), (t0, .inr (7, [.int zt, .ref t1, .ref t2, .ref t3, .ref t4, .ref t5, .ref t6])), (r2, .inl (cy 0, 9, .inl fhr)), (b0, .inr (0, [.int now, .ref r0, .ref u0, .ref t0, .ref l0, .ref q0, .ref of, .ref sh, .ref nl, .ref fc])), (u1, .inl (cy 0, 60, .inl fbe)), (u2, .inl (cy 0, 600, .inl fow)), (r0, .inr (4, [.int zs, .ref r1, .ref r2])), (u0, .inr (5, [.int zr, .ref u1, .ref u2, .ref u3])), (u3, .inl (cy 0, 600, .inl u_rr64))] H := hP
        have hD : va_D A [(t1, .inl (cy 0, 300, .inl fda)), (t2, .inl (cy 0, 300, .inl fbt)), (t3, .inl (cy 0, 300, .inl ffr)), (t4, .inl (cy 0, 300, .inl fto)), (t5, .inl (cy 0, 300, .inl foc)), (t6, .inl (cy 0, 300, .inl fgi)), (t0, .inr (7, [.int zt, .ref t1, .ref t2, .ref t3, .ref t4, .ref t5, .ref t6])), (r2, .inl (cy 0, 9, .inl fhr)), (b0, .inr (0, [.int now, .ref r0, .ref u0, .ref t0, .ref l0, .ref q0, .ref of, .ref sh, .ref nl, .ref fc])), (u1, .inl (cy 0, 60, .inl fbe)), (u2, .inl (cy 0, 600, .inl fow)), (r0, .inr (4, [.int zs, .ref r1, .ref r2])), (u0, .inr (5, [.int zr, .ref u1, .ref u2, .ref u3])), (u3, .inl (cy 0, 600, .inl u_rr64))] := hD
        refine lv_aload_n hx hb dX0_sellStretch_67 rfl (lv_at hl 1 rfl) ?_
        refine va_get (D := D) (ci := 0) (v := .ref t0) (C := RX0) (T := TX0) (N := 10) hx hb hts in_X0 hown hK hP 8 rfl rfl 3 (by decide) w_1 (fun _ h9 => h9) rfl dX0_sellStretch_68 ?_
        refine lv_iload_n hx hb dX0_sellStretch_71 rfl (lv_at hl 2 rfl) ?_
        refine lv_iload_n hx hb dX0_sellStretch_72 rfl (lv_at hl 3 rfl) ?_
        refine lv_iload hx hb dX0_sellStretch_73 (lv_at hl 0 rfl) ?_
        refine lv_iload_n hx hb dX0_sellStretch_75 rfl (lv_at hl 4 rfl) ?_
        refine lv_iload hx hb dX0_sellStretch_76 (lv_at hl 5 rfl) ?_
        refine k_i (va_runV (As := [.int o, .int day, .int rr27, .int a, .int b]) (rest := []) ⟨hx, hb, hml, hown, hts⟩ (c_X7_add l D cy E t0 t1 t2 t3 t4 t5 t6 zt fda fbt ffr fto foc fgi o day rr27 a b H.size (by first | omega | decide | (constructor <;> first | omega | decide)) (by first | omega | decide | (constructor <;> first | omega | decide)) (by first | omega | decide | (constructor <;> first | omega | decide)) hv_fda hv_fbt) (cwV 5 hts gX0_sellStretch_X7_add rfl rfl rfl (by decide +kernel) ⟨Nat.le_of_ble_eq_true rfl, Nat.le_of_ble_eq_true rfl⟩) (cp_v hK hN hS hAB hP hD [6, 0, 1, 2, 3, 4, 5] rfl (by decide) (ci := 7) rfl rfl rfl) rfl rfl hl.1 rfl (lv_room (Nat.le_of_ble_eq_true rfl)) dX0_sellStretch_78 ⟨Nat.le_of_ble_eq_true rfl, Nat.le_of_ble_eq_true rfl⟩) hP hD hS hA [6, 0, 1, 2, 3, 4, 5] [7, 8, 9, 10, 11, 12, 13] (wr := [(r2, .inl (cy 0, 9, .inl fhr)), (b0, .inr (0, [.int now, .ref r0, .ref u0, .ref t0, .ref l0, .ref q0, .ref of, .ref sh, .ref nl, .ref fc])), (u1, .inl (cy 0, 60, .inl fbe)), (u2, .inl (cy 0, 600, .inl fow)), (r0, .inr (4, [.int zs, .ref r1, .ref r2])), (u0, .inr (5, [.int zr, .ref u1, .ref u2, .ref u3])), (u3, .inl (cy 0, 600, .inl u_rr64))]) rfl rfl (by decide) (by decide) (fun rr78 u_rr78 H locs hw78 hP hD hS => ?_)
        obtain ⟨o78, o78_1, o78_2, o78_3, o78_4, o78_5, o78_6⟩ := u_rr78
        try dsimp only at hw78
        obtain ⟨hw78, hv78_0, hv78_1⟩ := hw78
        have hP : va_P D vwCl [(r2, .inl (cy 0, 9, .inl fhr)), (b0, .inr (0, [.int now, .ref r0, .ref u0, .ref t0, .ref l0, .ref q0, .ref of, .ref sh, .ref nl, .ref fc])), (u1, .inl (cy 0, 60, .inl fbe)), (u2, .inl (cy 0, 600, .inl fow)), (r0, .inr (4, [.int zs, .ref r1, .ref r2])), (u0, .inr (5, [.int zr, .ref u1, .ref u2, .ref u3])), (u3, .inl (cy 0, 600, .inl u_rr64)), (t0, .inr (7, [.int o78, .ref t1, .ref t2, .ref t3, .ref t4, .ref t5, .ref t6])), (t1, .inl (cy 0, 300, .inl o78_1)), (t2, .inl (cy 0, 300, .inl o78_2)), (t3, .inl (cy 0, 300, .inl o78_3)), (t4, .inl (cy 0, 300, .inl o78_4)), (t5, .inl (cy 0, 300, .inl o78_5)), (t6, .inl (cy 0, 300, .inl o78_6))] H := hP
        have hD : va_D A [(r2, .inl (cy 0, 9, .inl fhr)), (b0, .inr (0, [.int now, .ref r0, .ref u0, .ref t0, .ref l0, .ref q0, .ref of, .ref sh, .ref nl, .ref fc])), (u1, .inl (cy 0, 60, .inl fbe)), (u2, .inl (cy 0, 600, .inl fow)), (r0, .inr (4, [.int zs, .ref r1, .ref r2])), (u0, .inr (5, [.int zr, .ref u1, .ref u2, .ref u3])), (u3, .inl (cy 0, 600, .inl u_rr64)), (t0, .inr (7, [.int o78, .ref t1, .ref t2, .ref t3, .ref t4, .ref t5, .ref t6])), (t1, .inl (cy 0, 300, .inl o78_1)), (t2, .inl (cy 0, 300, .inl o78_2)), (t3, .inl (cy 0, 300, .inl o78_3)), (t4, .inl (cy 0, 300, .inl o78_4)), (t5, .inl (cy 0, 300, .inl o78_5)), (t6, .inl (cy 0, 300, .inl o78_6))] := hD
        exact r_i hx hb hr hlocks hK hS dX0_sellStretch_81 (u := (u_rr64, o78, o78_1, o78_2, o78_3, o78_4, o78_5, o78_6)) (hP.sub (ws' := [(b0, .inr (0, [.int now, .ref r0, .ref u0, .ref t0, .ref l0, .ref q0, .ref of, .ref sh, .ref nl, .ref fc])), (u0, .inr (5, [.int zr, .ref u1, .ref u2, .ref u3])), (u1, .inl (cy 0, 60, .inl fbe)), (u2, .inl (cy 0, 600, .inl fow)), (u3, .inl (cy 0, 600, .inl u_rr64)), (r0, .inr (4, [.int zs, .ref r1, .ref r2])), (r2, .inl (cy 0, 9, .inl fhr)), (t0, .inr (7, [.int o78, .ref t1, .ref t2, .ref t3, .ref t4, .ref t5, .ref t6])), (t1, .inl (cy 0, 300, .inl o78_1)), (t2, .inl (cy 0, 300, .inl o78_2)), (t3, .inl (cy 0, 300, .inl o78_3)), (t4, .inl (cy 0, 300, .inl o78_4)), (t5, .inl (cy 0, 300, .inl o78_5)), (t6, .inl (cy 0, 300, .inl o78_6))]) [1, 5, 2, 3, 6, 4, 0, 7, 8, 9, 10, 11, 12, 13] rfl) (hD.sub (ws' := [(b0, .inr (0, [.int now, .ref r0, .ref u0, .ref t0, .ref l0, .ref q0, .ref of, .ref sh, .ref nl, .ref fc])), (u0, .inr (5, [.int zr, .ref u1, .ref u2, .ref u3])), (u1, .inl (cy 0, 60, .inl fbe)), (u2, .inl (cy 0, 600, .inl fow)), (u3, .inl (cy 0, 600, .inl u_rr64)), (r0, .inr (4, [.int zs, .ref r1, .ref r2])), (r2, .inl (cy 0, 9, .inl fhr)), (t0, .inr (7, [.int o78, .ref t1, .ref t2, .ref t3, .ref t4, .ref t5, .ref t6])), (t1, .inl (cy 0, 300, .inl o78_1)), (t2, .inl (cy 0, 300, .inl o78_2)), (t3, .inl (cy 0, 300, .inl o78_3)), (t4, .inl (cy 0, 300, .inl o78_4)), (t5, .inl (cy 0, 300, .inl o78_5)), (t6, .inl (cy 0, 300, .inl o78_6))]) [1, 5, 2, 3, 6, 4, 0, 7, 8, 9, 10, 11, 12, 13] (by decide) rfl) (⟨(by omega), hv78_0, hv78_1⟩)
      · skip
        have fc35 := q_eq (a := rr27.toInt) (b := (-1)) c35 rfl (by decide)
        refine lv_iconst (v := (-1)) hx hb dX0_sellStretch_38 (by decide) ?_
        exact r_i hx hb hr hlocks hK hS dX0_sellStretch_39 (u := (fso, zt, fda, fbt, ffr, fto, foc, fgi)) (hP.sub (ws' := [(b0, .inr (0, [.int now, .ref r0, .ref u0, .ref t0, .ref l0, .ref q0, .ref of, .ref sh, .ref nl, .ref fc])), (u0, .inr (5, [.int zr, .ref u1, .ref u2, .ref u3])), (u1, .inl (cy 0, 60, .inl fbe)), (u2, .inl (cy 0, 600, .inl fow)), (u3, .inl (cy 0, 600, .inl fso)), (r0, .inr (4, [.int zs, .ref r1, .ref r2])), (r2, .inl (cy 0, 9, .inl fhr)), (t0, .inr (7, [.int zt, .ref t1, .ref t2, .ref t3, .ref t4, .ref t5, .ref t6])), (t1, .inl (cy 0, 300, .inl fda)), (t2, .inl (cy 0, 300, .inl fbt)), (t3, .inl (cy 0, 300, .inl ffr)), (t4, .inl (cy 0, 300, .inl fto)), (t5, .inl (cy 0, 300, .inl foc)), (t6, .inl (cy 0, 300, .inl fgi))]) [8, 9, 10, 11, 12, 13, 7, 6, 0, 1, 2, 3, 4, 5] rfl) (hD.sub (ws' := [(b0, .inr (0, [.int now, .ref r0, .ref u0, .ref t0, .ref l0, .ref q0, .ref of, .ref sh, .ref nl, .ref fc])), (u0, .inr (5, [.int zr, .ref u1, .ref u2, .ref u3])), (u1, .inl (cy 0, 60, .inl fbe)), (u2, .inl (cy 0, 600, .inl fow)), (u3, .inl (cy 0, 600, .inl fso)), (r0, .inr (4, [.int zs, .ref r1, .ref r2])), (r2, .inl (cy 0, 9, .inl fhr)), (t0, .inr (7, [.int zt, .ref t1, .ref t2, .ref t3, .ref t4, .ref t5, .ref t6])), (t1, .inl (cy 0, 300, .inl fda)), (t2, .inl (cy 0, 300, .inl fbt)), (t3, .inl (cy 0, 300, .inl ffr)), (t4, .inl (cy 0, 300, .inl fto)), (t5, .inl (cy 0, 300, .inl foc)), (t6, .inl (cy 0, 300, .inl fgi))]) [8, 9, 10, 11, 12, 13, 7, 6, 0, 1, 2, 3, 4, 5] (by decide) rfl) (⟨(by omega), hv_fda, hv_fbt⟩)
    · skip
      have fc16 := q_ne (a := rr13.toInt) (b := 0) c16 rfl (by decide)
      refine lv_iconst (v := (-1)) hx hb dX0_sellStretch_19 (by decide) ?_
      exact r_i hx hb hr hlocks hK hS dX0_sellStretch_20 (u := (fso, zt, fda, fbt, ffr, fto, foc, fgi)) (hP.sub (ws' := [(b0, .inr (0, [.int now, .ref r0, .ref u0, .ref t0, .ref l0, .ref q0, .ref of, .ref sh, .ref nl, .ref fc])), (u0, .inr (5, [.int zr, .ref u1, .ref u2, .ref u3])), (u1, .inl (cy 0, 60, .inl fbe)), (u2, .inl (cy 0, 600, .inl fow)), (u3, .inl (cy 0, 600, .inl fso)), (r0, .inr (4, [.int zs, .ref r1, .ref r2])), (r2, .inl (cy 0, 9, .inl fhr)), (t0, .inr (7, [.int zt, .ref t1, .ref t2, .ref t3, .ref t4, .ref t5, .ref t6])), (t1, .inl (cy 0, 300, .inl fda)), (t2, .inl (cy 0, 300, .inl fbt)), (t3, .inl (cy 0, 300, .inl ffr)), (t4, .inl (cy 0, 300, .inl fto)), (t5, .inl (cy 0, 300, .inl foc)), (t6, .inl (cy 0, 300, .inl fgi))]) [11, 0, 1, 2, 3, 12, 13, 10, 4, 5, 6, 7, 8, 9] rfl) (hD.sub (ws' := [(b0, .inr (0, [.int now, .ref r0, .ref u0, .ref t0, .ref l0, .ref q0, .ref of, .ref sh, .ref nl, .ref fc])), (u0, .inr (5, [.int zr, .ref u1, .ref u2, .ref u3])), (u1, .inl (cy 0, 60, .inl fbe)), (u2, .inl (cy 0, 600, .inl fow)), (u3, .inl (cy 0, 600, .inl fso)), (r0, .inr (4, [.int zs, .ref r1, .ref r2])), (r2, .inl (cy 0, 9, .inl fhr)), (t0, .inr (7, [.int zt, .ref t1, .ref t2, .ref t3, .ref t4, .ref t5, .ref t6])), (t1, .inl (cy 0, 300, .inl fda)), (t2, .inl (cy 0, 300, .inl fbt)), (t3, .inl (cy 0, 300, .inl ffr)), (t4, .inl (cy 0, 300, .inl fto)), (t5, .inl (cy 0, 300, .inl foc)), (t6, .inl (cy 0, 300, .inl fgi))]) [11, 0, 1, 2, 3, 12, 13, 10, 4, 5, 6, 7, 8, 9] (by decide) rfl) (⟨(by omega), hv_fda, hv_fbt⟩)

abbrev Q_c_X0_takeBack (D : va_G) (cy : Nat → ClassId) (E : EN) (b0 : Nat) (r0 : Nat) (u0 : Nat) (t0 : Nat) (l0 : Nat) (q0 : Nat) (of : Nat) (sh : Nat) (nl : Nat) (fc : Nat) (u1 : Nat) (u2 : Nat) (u3 : Nat) (r1 : Nat) (r2 : Nat) (t1 : Nat) (t2 : Nat) (t3 : Nat) (t4 : Nat) (t5 : Nat) (t6 : Nat) (now : Int32) (zr : Int32) (zs : Int32) (zt : Int32) (fso : Nat → Int32) (fhr : Nat → Int32) (fda : Nat → Int32) (fbt : Nat → Int32) (ffr : Nat → Int32) (fto : Nat → Int32) (foc : Nat → Int32) (fgi : Nat → Int32) (t : Int32) : (Nat → Prop) → Array Value → State → Outcome → State → Prop := QI D cy (fun (r : Int32) (u : (Nat → Int32) × (Nat → Int32)) => match u with | (gso, ggi) => r.toInt = 0 ∨ r.toInt = 1) (fun u : (Nat → Int32) × (Nat → Int32) => match u with | (gso, ggi) => [(b0, .inr (0, [.int now, .ref r0, .ref u0, .ref t0, .ref l0, .ref q0, .ref of, .ref sh, .ref nl, .ref fc])), (u0, .inr (5, [.int zr, .ref u1, .ref u2, .ref u3])), (u3, .inl (cy 0, 600, .inl gso)), (r0, .inr (4, [.int zs, .ref r1, .ref r2])), (r2, .inl (cy 0, 9, .inl fhr)), (t0, .inr (7, [.int zt, .ref t1, .ref t2, .ref t3, .ref t4, .ref t5, .ref t6])), (t1, .inl (cy 0, 300, .inl fda)), (t2, .inl (cy 0, 300, .inl fbt)), (t3, .inl (cy 0, 300, .inl ffr)), (t4, .inl (cy 0, 300, .inl fto)), (t5, .inl (cy 0, 300, .inl foc)), (t6, .inl (cy 0, 300, .inl ggi))])
set_option maxHeartbeats 4000000 in
set_option maxRecDepth 100000 in
theorem c_X0_takeBack (l : Launch) (D : va_G) (cy : Nat → ClassId) (E : EN) (b0 : Nat) (r0 : Nat) (u0 : Nat) (t0 : Nat) (l0 : Nat) (q0 : Nat) (of : Nat) (sh : Nat) (nl : Nat) (fc : Nat) (u1 : Nat) (u2 : Nat) (u3 : Nat) (r1 : Nat) (r2 : Nat) (t1 : Nat) (t2 : Nat) (t3 : Nat) (t4 : Nat) (t5 : Nat) (t6 : Nat) (now : Int32) (zr : Int32) (zs : Int32) (zt : Int32) (fso : Nat → Int32) (fhr : Nat → Int32) (fda : Nat → Int32) (fbt : Nat → Int32) (ffr : Nat → Int32) (fto : Nat → Int32) (foc : Nat → Int32) (fgi : Nat → Int32) (t : Int32) (sz : Nat) (hti : 0 ≤ t.toInt ∧ t.toInt < 300) (hv_fhr : AllI fhr 9 0 24) (hv_fda : AllI fda 300 0 59) (hv_fbt : AllI fbt 300 0 9) : Met l yX0_takeBack wsX0_takeBack ({ frames := 2, cells := 0, slots := 0, locals := 45 } : Room) (CP D cy E [.ref b0, .int t] [(b0, .inr (0, [.int now, .ref r0, .ref u0, .ref t0, .ref l0, .ref q0, .ref of, .ref sh, .ref nl, .ref fc])), (u0, .inr (5, [.int zr, .ref u1, .ref u2, .ref u3])), (u3, .inl (cy 0, 600, .inl fso)), (r0, .inr (4, [.int zs, .ref r1, .ref r2])), (r2, .inl (cy 0, 9, .inl fhr)), (t0, .inr (7, [.int zt, .ref t1, .ref t2, .ref t3, .ref t4, .ref t5, .ref t6])), (t1, .inl (cy 0, 300, .inl fda)), (t2, .inl (cy 0, 300, .inl fbt)), (t3, .inl (cy 0, 300, .inl ffr)), (t4, .inl (cy 0, 300, .inl fto)), (t5, .inl (cy 0, 300, .inl foc)), (t6, .inl (cy 0, 300, .inl fgi))] sz) (Q_c_X0_takeBack D cy E b0 r0 u0 t0 l0 q0 of sh nl fc u1 u2 u3 r1 r2 t1 t2 t3 t4 t5 t6 now zr zs zt fso fhr fda fbt ffr fto foc fgi t (va_A [(b0, .inr (0, [.int now, .ref r0, .ref u0, .ref t0, .ref l0, .ref q0, .ref of, .ref sh, .ref nl, .ref fc])), (u0, .inr (5, [.int zr, .ref u1, .ref u2, .ref u3])), (u3, .inl (cy 0, 600, .inl fso)), (r0, .inr (4, [.int zs, .ref r1, .ref r2])), (r2, .inl (cy 0, 9, .inl fhr)), (t0, .inr (7, [.int zt, .ref t1, .ref t2, .ref t3, .ref t4, .ref t5, .ref t6])), (t1, .inl (cy 0, 300, .inl fda)), (t2, .inl (cy 0, 300, .inl fbt)), (t3, .inl (cy 0, 300, .inl ffr)), (t4, .inl (cy 0, 300, .inl fto)), (t5, .inl (cy 0, 300, .inl foc)), (t6, .inl (cy 0, 300, .inl fgi))] sz)) 0 0 (va_A [(b0, .inr (0, [.int now, .ref r0, .ref u0, .ref t0, .ref l0, .ref q0, .ref of, .ref sh, .ref nl, .ref fc])), (u0, .inr (5, [.int zr, .ref u1, .ref u2, .ref u3])), (u3, .inl (cy 0, 600, .inl fso)), (r0, .inr (4, [.int zs, .ref r1, .ref r2])), (r2, .inl (cy 0, 9, .inl fhr)), (t0, .inr (7, [.int zt, .ref t1, .ref t2, .ref t3, .ref t4, .ref t5, .ref t6])), (t1, .inl (cy 0, 300, .inl fda)), (t2, .inl (cy 0, 300, .inl fbt)), (t3, .inl (cy 0, 300, .inl ffr)), (t4, .inl (cy 0, 300, .inl fto)), (t5, .inl (cy 0, 300, .inl foc)), (t6, .inl (cy 0, 300, .inl fgi))] sz) := by
  refine Met.go (Qc := Q_c_X0_takeBack D cy E b0 r0 u0 t0 l0 q0 of sh nl fc u1 u2 u3 r1 r2 t1 t2 t3 t4 t5 t6 now zr zs zt fso fhr fda fbt ffr fto foc fgi t) (cc := cX0_takeBack) (maxL := 4) (ret := (some .boolean)) (by decide) rfl (Nat.le_of_ble_eq_true rfl) ?_
  intro p e s m below meth c hx hb hr hts hown hlocks hin hml hK hN A hA hAB hD hP hS ls hl hsz
  have hl : lv_has ls 4 [(0, .ref b0), (1, .int t)] := hl
  have in_X0 : ∀ w ∈ wsX00, w ∈ wsX0_takeBack := fun _ h => List.mem_cons_of_mem _ (List.mem_append_left _ (List.mem_append_left _ (List.mem_append_left _ ((List.mem_append_right _ h)))))
  have w_1 := hts (.fieldLink RX0 28 "SleepingCars$Book" "tickets" "LSleepingCars$Tickets;") (by decide +kernel)
  have in_X7 : ∀ w ∈ wsX70, w ∈ wsX0_takeBack := fun _ h => List.mem_cons_of_mem _ (List.mem_append_left _ (List.mem_append_left _ ((List.mem_append_right _ h))))
  have w_3 := hts (.fieldLink RX0 117 "SleepingCars$Tickets" "days" "[I") (by decide +kernel)
  have w_4 := hts (.fieldLink RX0 120 "SleepingCars$Tickets" "given" "[I") (by decide +kernel)
  have w_5 := hts (.fieldLink RX0 123 "SleepingCars$Tickets" "froms" "[I") (by decide +kernel)
  have w_6 := hts (.instanceMethod yX0_hasLeft) (by decide +kernel)
  have w_7 := hts (.fieldLink RX0 126 "SleepingCars$Tickets" "berths" "[I") (by decide +kernel)
  have w_8 := hts (.fieldLink RX0 21 "SleepingCars$Book" "runs" "LSleepingCars$Runs;") (by decide +kernel)
  have w_9 := hts (.instanceMethod yX5_legsOf) (by decide +kernel)
  have w_10 := hts (.instanceMethod yX7_legsOf) (by decide +kernel)
  have w_11 := hts (.instanceMethod yX5_setLegs) (by decide +kernel)
  obtain ⟨H, eH⟩ : ∃ H : Heap, H = s.heap := ⟨_, rfl⟩
  obtain ⟨locs, eL⟩ : ∃ L : List Loc, L = [] := ⟨_, rfl⟩
  rw [← eL]
  rw [← eL] at hS
  have hP : va_P D vwCl [(b0, .inr (0, [.int now, .ref r0, .ref u0, .ref t0, .ref l0, .ref q0, .ref of, .ref sh, .ref nl, .ref fc])), (u0, .inr (5, [.int zr, .ref u1, .ref u2, .ref u3])), (u3, .inl (cy 0, 600, .inl fso)), (r0, .inr (4, [.int zs, .ref r1, .ref r2])), (r2, .inl (cy 0, 9, .inl fhr)), (t0, .inr (7, [.int zt, .ref t1, .ref t2, .ref t3, .ref t4, .ref t5, .ref t6])), (t1, .inl (cy 0, 300, .inl fda)), (t2, .inl (cy 0, 300, .inl fbt)), (t3, .inl (cy 0, 300, .inl ffr)), (t4, .inl (cy 0, 300, .inl fto)), (t5, .inl (cy 0, 300, .inl foc)), (t6, .inl (cy 0, 300, .inl fgi))] H := by rw [eH]; exact hP
  have hS : va_S A s.heap H locs := by rw [eH]; exact hS
  refine W.heapEq eH ?_
  clear eH eL
  refine lv_aload_n hx hb dX0_takeBack_0 rfl (lv_at hl 0 rfl) ?_
  refine va_get (D := D) (ci := 0) (v := .ref t0) (C := RX0) (T := TX0) (N := 10) hx hb hts in_X0 hown hK hP 0 rfl rfl 3 (by decide) w_1 (fun _ h9 => h9) rfl dX0_takeBack_1 ?_
  refine va_get (D := D) (ci := 7) (v := .ref t1) (C := RX7) (T := TX7) (N := 7) hx hb hts in_X7 hown hK hP 5 rfl rfl 1 (by decide) w_3 (fun _ h9 => h9) rfl dX0_takeBack_4 ?_
  refine lv_iload_n hx hb dX0_takeBack_7 rfl (lv_at hl 1 rfl) ?_
  refine va_iald hx hb hK hP 6 0 rfl rfl (q_in (a := t.toInt) rfl (by omega) (by omega)) dX0_takeBack_8 ?_
  refine lv_topi (fun x8 ex8 => ?_)
  have tx8 := congrArg Int32.toInt ex8
  have ix8 := hv_fda t.toNatClampNeg (cn (by omega) (by decide))
  refine lv_istore_n (lv' := [(2, .int x8), (0, .ref b0), (1, .int t)]) hx hb dX0_takeBack_9 rfl hl (by decide) rfl (fun ls hl => ?_)
  refine lv_aload_n hx hb dX0_takeBack_10 rfl (lv_at hl 1 rfl) ?_
  refine va_get (D := D) (ci := 0) (v := .ref t0) (C := RX0) (T := TX0) (N := 10) hx hb hts in_X0 hown hK hP 0 rfl rfl 3 (by decide) w_1 (fun _ h9 => h9) rfl dX0_takeBack_11 ?_
  refine va_get (D := D) (ci := 7) (v := .ref t6) (C := RX7) (T := TX7) (N := 7) hx hb hts in_X7 hown hK hP 5 rfl rfl 6 (by decide) w_4 (fun _ h9 => h9) rfl dX0_takeBack_14 ?_
  refine lv_iload_n hx hb dX0_takeBack_17 rfl (lv_at hl 2 rfl) ?_
  refine va_iald hx hb hK hP 11 0 rfl rfl (q_in (a := t.toInt) rfl (by omega) (by omega)) dX0_takeBack_18 ?_
  refine lv_topi (fun x18 ex18 => ?_)
  have tx18 := congrArg Int32.toInt ex18
  refine lv_iconst (v := 1) hx hb dX0_takeBack_19 (by decide) ?_
  refine lv_icmp_eq (tgt := 40) hx hb dX0_takeBack_20 (by decide) (fun c20 => ?_) (fun c20 => ?_)
  · skip
    have fc20 := q_eq (a := x18.toInt) (b := 1) c20 rfl (by decide)
    refine lv_iconst (v := 0) hx hb dX0_takeBack_40 (by decide) ?_
    exact r_z hx hb hr hlocks hK hS dX0_takeBack_41 (by decide) (u := (fso, fgi)) hP hD (by first | exact Or.inl (by decide) | exact Or.inr (by decide) | omega)
  · skip
    have fc20 := q_ne (a := x18.toInt) (b := 1) c20 rfl (by decide)
    refine lv_aload_n hx hb dX0_takeBack_23 rfl (lv_at hl 1 rfl) ?_
    refine lv_iload_n hx hb dX0_takeBack_24 rfl (lv_at hl 0 rfl) ?_
    refine lv_aload_n hx hb dX0_takeBack_25 rfl (lv_at hl 1 rfl) ?_
    refine va_get (D := D) (ci := 0) (v := .ref t0) (C := RX0) (T := TX0) (N := 10) hx hb hts in_X0 hown hK hP 0 rfl rfl 3 (by decide) w_1 (fun _ h9 => h9) rfl dX0_takeBack_26 ?_
    refine va_get (D := D) (ci := 7) (v := .ref t3) (C := RX7) (T := TX7) (N := 7) hx hb hts in_X7 hown hK hP 5 rfl rfl 3 (by decide) w_5 (fun _ h9 => h9) rfl dX0_takeBack_29 ?_
    refine lv_iload_n hx hb dX0_takeBack_32 rfl (lv_at hl 2 rfl) ?_
    refine va_iald hx hb hK hP 8 0 rfl rfl (q_in (a := t.toInt) rfl (by omega) (by omega)) dX0_takeBack_33 ?_
    refine lv_topi (fun x33 ex33 => ?_)
    have tx33 := congrArg Int32.toInt ex33
    refine k_i (va_runV (As := [.int x8, .int x33]) (rest := []) ⟨hx, hb, hml, hown, hts⟩ (c_X0_hasLeft l D cy E b0 r0 u0 t0 l0 q0 of sh nl fc r1 r2 now zs fhr x8 x33 H.size hv_fhr) (cwV 2 hts gX0_takeBack_X0_hasLeft rfl rfl rfl (by decide +kernel) ⟨Nat.le_of_ble_eq_true rfl, Nat.le_of_ble_eq_true rfl⟩) (cp_v hK hN hS hAB hP hD [0, 3, 4] rfl (by decide) (ci := 0) rfl rfl rfl) rfl rfl hl.1 rfl (lv_room (Nat.le_of_ble_eq_true rfl)) dX0_takeBack_34 ⟨Nat.le_of_ble_eq_true rfl, Nat.le_of_ble_eq_true rfl⟩) hP hD hS hA [0, 3, 4] [1, 2, 5, 6, 7, 8, 9, 10, 11] (wr := [(u0, .inr (5, [.int zr, .ref u1, .ref u2, .ref u3])), (u3, .inl (cy 0, 600, .inl fso)), (t0, .inr (7, [.int zt, .ref t1, .ref t2, .ref t3, .ref t4, .ref t5, .ref t6])), (t1, .inl (cy 0, 300, .inl fda)), (t2, .inl (cy 0, 300, .inl fbt)), (t3, .inl (cy 0, 300, .inl ffr)), (t4, .inl (cy 0, 300, .inl fto)), (t5, .inl (cy 0, 300, .inl foc)), (t6, .inl (cy 0, 300, .inl fgi))]) rfl rfl (by decide) (by decide) (fun rr34 u_rr34 H locs hw34 hP hD hS => ?_)
    try dsimp only at hw34
    have hP : va_P D vwCl [(u0, .inr (5, [.int zr, .ref u1, .ref u2, .ref u3])), (u3, .inl (cy 0, 600, .inl fso)), (t0, .inr (7, [.int zt, .ref t1, .ref t2, .ref t3, .ref t4, .ref t5, .ref t6])), (t1, .inl (cy 0, 300, .inl fda)), (t2, .inl (cy 0, 300, .inl fbt)), (t3, .inl (cy 0, 300, .inl ffr)), (t4, .inl (cy 0, 300, .inl fto)), (t5, .inl (cy 0, 300, .inl foc)), (t6, .inl (cy 0, 300, .inl fgi)), (b0, .inr (0, [.int now, .ref r0, .ref u0, .ref t0, .ref l0, .ref q0, .ref of, .ref sh, .ref nl, .ref fc])), (r0, .inr (4, [.int zs, .ref r1, .ref r2])), (r2, .inl (cy 0, 9, .inl fhr))] H := hP
    have hD : va_D A [(u0, .inr (5, [.int zr, .ref u1, .ref u2, .ref u3])), (u3, .inl (cy 0, 600, .inl fso)), (t0, .inr (7, [.int zt, .ref t1, .ref t2, .ref t3, .ref t4, .ref t5, .ref t6])), (t1, .inl (cy 0, 300, .inl fda)), (t2, .inl (cy 0, 300, .inl fbt)), (t3, .inl (cy 0, 300, .inl ffr)), (t4, .inl (cy 0, 300, .inl fto)), (t5, .inl (cy 0, 300, .inl foc)), (t6, .inl (cy 0, 300, .inl fgi)), (b0, .inr (0, [.int now, .ref r0, .ref u0, .ref t0, .ref l0, .ref q0, .ref of, .ref sh, .ref nl, .ref fc])), (r0, .inr (4, [.int zs, .ref r1, .ref r2])), (r2, .inl (cy 0, 9, .inl fhr))] := hD
    refine lv_if_eq (tgt := 42) hx hb dX0_takeBack_37 (by decide) (fun c37 => ?_) (fun c37 => ?_)
    · skip
      have fc37 := q_eq (a := rr34.toInt) (b := 0) c37 rfl (by decide)
      refine lv_aload_n hx hb dX0_takeBack_42 rfl (lv_at hl 1 rfl) ?_
      refine va_get (D := D) (ci := 0) (v := .ref t0) (C := RX0) (T := TX0) (N := 10) hx hb hts in_X0 hown hK hP 9 rfl rfl 3 (by decide) w_1 (fun _ h9 => h9) rfl dX0_takeBack_43 ?_
      refine va_get (D := D) (ci := 7) (v := .ref t2) (C := RX7) (T := TX7) (N := 7) hx hb hts in_X7 hown hK hP 2 rfl rfl 2 (by decide) w_7 (fun _ h9 => h9) rfl dX0_takeBack_46 ?_
      refine lv_iload_n hx hb dX0_takeBack_49 rfl (lv_at hl 2 rfl) ?_
      refine va_iald hx hb hK hP 4 0 rfl rfl (q_in (a := t.toInt) rfl (by omega) (by omega)) dX0_takeBack_50 ?_
      refine lv_topi (fun x50 ex50 => ?_)
      have tx50 := congrArg Int32.toInt ex50
      have ix50 := hv_fbt t.toNatClampNeg (cn (by omega) (by decide))
      refine lv_istore_n (lv' := [(3, .int x50), (2, .int x8), (0, .ref b0), (1, .int t)]) hx hb dX0_takeBack_51 rfl hl (by decide) rfl (fun ls hl => ?_)
      refine lv_aload_n hx hb dX0_takeBack_52 rfl (lv_at hl 2 rfl) ?_
      refine va_get (D := D) (ci := 0) (v := .ref t0) (C := RX0) (T := TX0) (N := 10) hx hb hts in_X0 hown hK hP 9 rfl rfl 3 (by decide) w_1 (fun _ h9 => h9) rfl dX0_takeBack_53 ?_
      refine va_get (D := D) (ci := 7) (v := .ref t6) (C := RX7) (T := TX7) (N := 7) hx hb hts in_X7 hown hK hP 2 rfl rfl 6 (by decide) w_4 (fun _ h9 => h9) rfl dX0_takeBack_56 ?_
      refine lv_iload_n hx hb dX0_takeBack_59 rfl (lv_at hl 3 rfl) ?_
      refine lv_iconst (v := 1) hx hb dX0_takeBack_60 (by decide) ?_
      refine va_iast hx hb hK hP hD hS 8 0 rfl rfl (q_in (a := t.toInt) rfl (by omega) (by omega)) dX0_takeBack_61 (fun H locs hP hD hS => ?_)
      have hP : va_P D vwCl [(u0, .inr (5, [.int zr, .ref u1, .ref u2, .ref u3])), (u3, .inl (cy 0, 600, .inl fso)), (t0, .inr (7, [.int zt, .ref t1, .ref t2, .ref t3, .ref t4, .ref t5, .ref t6])), (t1, .inl (cy 0, 300, .inl fda)), (t2, .inl (cy 0, 300, .inl fbt)), (t3, .inl (cy 0, 300, .inl ffr)), (t4, .inl (cy 0, 300, .inl fto)), (t5, .inl (cy 0, 300, .inl foc)), (t6, .inl (cy 0, 300, .inl (upd fgi t.toNatClampNeg 1))), (b0, .inr (0, [.int now, .ref r0, .ref u0, .ref t0, .ref l0, .ref q0, .ref of, .ref sh, .ref nl, .ref fc])), (r0, .inr (4, [.int zs, .ref r1, .ref r2])), (r2, .inl (cy 0, 9, .inl fhr))] H := hP
      have hD : va_D A [(u0, .inr (5, [.int zr, .ref u1, .ref u2, .ref u3])), (u3, .inl (cy 0, 600, .inl fso)), (t0, .inr (7, [.int zt, .ref t1, .ref t2, .ref t3, .ref t4, .ref t5, .ref t6])), (t1, .inl (cy 0, 300, .inl fda)), (t2, .inl (cy 0, 300, .inl fbt)), (t3, .inl (cy 0, 300, .inl ffr)), (t4, .inl (cy 0, 300, .inl fto)), (t5, .inl (cy 0, 300, .inl foc)), (t6, .inl (cy 0, 300, .inl (upd fgi t.toNatClampNeg 1))), (b0, .inr (0, [.int now, .ref r0, .ref u0, .ref t0, .ref l0, .ref q0, .ref of, .ref sh, .ref nl, .ref fc])), (r0, .inr (4, [.int zs, .ref r1, .ref r2])), (r2, .inl (cy 0, 9, .inl fhr))] := hD
      refine lv_aload_n hx hb dX0_takeBack_62 rfl (lv_at hl 2 rfl) ?_
      refine va_get (D := D) (ci := 0) (v := .ref u0) (C := RX0) (T := TX0) (N := 10) hx hb hts in_X0 hown hK hP 9 rfl rfl 2 (by decide) w_8 (fun _ h9 => h9) rfl dX0_takeBack_63 ?_
      refine lv_iload_n hx hb dX0_takeBack_66 rfl (lv_at hl 1 rfl) ?_
      refine lv_iload_n hx hb dX0_takeBack_67 rfl (lv_at hl 0 rfl) ?_
      refine lv_aload_n hx hb dX0_takeBack_68 rfl (lv_at hl 2 rfl) ?_
      refine va_get (D := D) (ci := 0) (v := .ref u0) (C := RX0) (T := TX0) (N := 10) hx hb hts in_X0 hown hK hP 9 rfl rfl 2 (by decide) w_8 (fun _ h9 => h9) rfl dX0_takeBack_69 ?_
      refine lv_iload_n hx hb dX0_takeBack_72 rfl (lv_at hl 1 rfl) ?_
      refine lv_iload_n hx hb dX0_takeBack_73 rfl (lv_at hl 0 rfl) ?_
      refine k_i (va_runV (As := [.int x8, .int x50]) (rest := [.int x50, .int x8, .ref u0]) ⟨hx, hb, hml, hown, hts⟩ (c_X5_legsOf l D cy E u0 u1 u2 u3 zr fso x8 x50 H.size (by first | omega | decide | (constructor <;> first | omega | decide)) (by first | omega | decide | (constructor <;> first | omega | decide))) (cwV 2 hts gX0_takeBack_X5_legsOf rfl rfl rfl (by decide +kernel) ⟨Nat.le_of_ble_eq_true rfl, Nat.le_of_ble_eq_true rfl⟩) (cp_v hK hN hS hAB hP hD [0, 1] rfl (by decide) (ci := 5) rfl rfl rfl) rfl rfl hl.1 rfl (lv_room (Nat.le_of_ble_eq_true rfl)) dX0_takeBack_74 ⟨Nat.le_of_ble_eq_true rfl, Nat.le_of_ble_eq_true rfl⟩) hP hD hS hA [0, 1] [2, 3, 4, 5, 6, 7, 8, 9, 10, 11] (wr := [(t0, .inr (7, [.int zt, .ref t1, .ref t2, .ref t3, .ref t4, .ref t5, .ref t6])), (t1, .inl (cy 0, 300, .inl fda)), (t2, .inl (cy 0, 300, .inl fbt)), (t3, .inl (cy 0, 300, .inl ffr)), (t4, .inl (cy 0, 300, .inl fto)), (t5, .inl (cy 0, 300, .inl foc)), (t6, .inl (cy 0, 300, .inl (upd fgi t.toNatClampNeg 1))), (b0, .inr (0, [.int now, .ref r0, .ref u0, .ref t0, .ref l0, .ref q0, .ref of, .ref sh, .ref nl, .ref fc])), (r0, .inr (4, [.int zs, .ref r1, .ref r2])), (r2, .inl (cy 0, 9, .inl fhr))]) rfl rfl (by decide) (by decide) (fun rr74 u_rr74 H locs hw74 hP hD hS => ?_)
      try dsimp only at hw74
      have hP : va_P D vwCl [(t0, .inr (7, [.int zt, .ref t1, .ref t2, .ref t3, .ref t4, .ref t5, .ref t6])), (t1, .inl (cy 0, 300, .inl fda)), (t2, .inl (cy 0, 300, .inl fbt)), (t3, .inl (cy 0, 300, .inl ffr)), (t4, .inl (cy 0, 300, .inl fto)), (t5, .inl (cy 0, 300, .inl foc)), (t6, .inl (cy 0, 300, .inl (upd fgi t.toNatClampNeg 1))), (b0, .inr (0, [.int now, .ref r0, .ref u0, .ref t0, .ref l0, .ref q0, .ref of, .ref sh, .ref nl, .ref fc])), (r0, .inr (4, [.int zs, .ref r1, .ref r2])), (r2, .inl (cy 0, 9, .inl fhr)), (u0, .inr (5, [.int zr, .ref u1, .ref u2, .ref u3])), (u3, .inl (cy 0, 600, .inl fso))] H := hP
      have hD : va_D A [(t0, .inr (7, [.int zt, .ref t1, .ref t2, .ref t3, .ref t4, .ref t5, .ref t6])), (t1, .inl (cy 0, 300, .inl fda)), (t2, .inl (cy 0, 300, .inl fbt)), (t3, .inl (cy 0, 300, .inl ffr)), (t4, .inl (cy 0, 300, .inl fto)), (t5, .inl (cy 0, 300, .inl foc)), (t6, .inl (cy 0, 300, .inl (upd fgi t.toNatClampNeg 1))), (b0, .inr (0, [.int now, .ref r0, .ref u0, .ref t0, .ref l0, .ref q0, .ref of, .ref sh, .ref nl, .ref fc])), (r0, .inr (4, [.int zs, .ref r1, .ref r2])), (r2, .inl (cy 0, 9, .inl fhr)), (u0, .inr (5, [.int zr, .ref u1, .ref u2, .ref u3])), (u3, .inl (cy 0, 600, .inl fso))] := hD
      refine lv_aload_n hx hb dX0_takeBack_77 rfl (lv_at hl 2 rfl) ?_
      refine va_get (D := D) (ci := 0) (v := .ref t0) (C := RX0) (T := TX0) (N := 10) hx hb hts in_X0 hown hK hP 7 rfl rfl 3 (by decide) w_1 (fun _ h9 => h9) rfl dX0_takeBack_78 ?_
      refine lv_iload_n hx hb dX0_takeBack_81 rfl (lv_at hl 3 rfl) ?_
      refine k_i (va_runV (As := [.int t]) (rest := [.int rr74, .int x50, .int x8, .ref u0]) ⟨hx, hb, hml, hown, hts⟩ (c_X7_legsOf l D cy E t0 t1 t2 t3 t4 t5 t6 zt ffr fto t H.size (by first | omega | decide | (constructor <;> first | omega | decide))) (cwV 1 hts gX0_takeBack_X7_legsOf rfl rfl rfl (by decide +kernel) ⟨Nat.le_of_ble_eq_true rfl, Nat.le_of_ble_eq_true rfl⟩) (cp_v hK hN hS hAB hP hD [0, 3, 4] rfl (by decide) (ci := 7) rfl rfl rfl) rfl rfl hl.1 rfl (lv_room (Nat.le_of_ble_eq_true rfl)) dX0_takeBack_82 ⟨Nat.le_of_ble_eq_true rfl, Nat.le_of_ble_eq_true rfl⟩) hP hD hS hA [0, 3, 4] [1, 2, 5, 6, 7, 8, 9, 10, 11] (wr := [(t1, .inl (cy 0, 300, .inl fda)), (t2, .inl (cy 0, 300, .inl fbt)), (t5, .inl (cy 0, 300, .inl foc)), (t6, .inl (cy 0, 300, .inl (upd fgi t.toNatClampNeg 1))), (b0, .inr (0, [.int now, .ref r0, .ref u0, .ref t0, .ref l0, .ref q0, .ref of, .ref sh, .ref nl, .ref fc])), (r0, .inr (4, [.int zs, .ref r1, .ref r2])), (r2, .inl (cy 0, 9, .inl fhr)), (u0, .inr (5, [.int zr, .ref u1, .ref u2, .ref u3])), (u3, .inl (cy 0, 600, .inl fso))]) rfl rfl (by decide) (by decide) (fun rr82 u_rr82 H locs hw82 hP hD hS => ?_)
      try dsimp only at hw82
      have hP : va_P D vwCl [(t1, .inl (cy 0, 300, .inl fda)), (t2, .inl (cy 0, 300, .inl fbt)), (t5, .inl (cy 0, 300, .inl foc)), (t6, .inl (cy 0, 300, .inl (upd fgi t.toNatClampNeg 1))), (b0, .inr (0, [.int now, .ref r0, .ref u0, .ref t0, .ref l0, .ref q0, .ref of, .ref sh, .ref nl, .ref fc])), (r0, .inr (4, [.int zs, .ref r1, .ref r2])), (r2, .inl (cy 0, 9, .inl fhr)), (u0, .inr (5, [.int zr, .ref u1, .ref u2, .ref u3])), (u3, .inl (cy 0, 600, .inl fso)), (t0, .inr (7, [.int zt, .ref t1, .ref t2, .ref t3, .ref t4, .ref t5, .ref t6])), (t3, .inl (cy 0, 300, .inl ffr)), (t4, .inl (cy 0, 300, .inl fto))] H := hP
      have hD : va_D A [(t1, .inl (cy 0, 300, .inl fda)), (t2, .inl (cy 0, 300, .inl fbt)), (t5, .inl (cy 0, 300, .inl foc)), (t6, .inl (cy 0, 300, .inl (upd fgi t.toNatClampNeg 1))), (b0, .inr (0, [.int now, .ref r0, .ref u0, .ref t0, .ref l0, .ref q0, .ref of, .ref sh, .ref nl, .ref fc])), (r0, .inr (4, [.int zs, .ref r1, .ref r2])), (r2, .inl (cy 0, 9, .inl fhr)), (u0, .inr (5, [.int zr, .ref u1, .ref u2, .ref u3])), (u3, .inl (cy 0, 600, .inl fso)), (t0, .inr (7, [.int zt, .ref t1, .ref t2, .ref t3, .ref t4, .ref t5, .ref t6])), (t3, .inl (cy 0, 300, .inl ffr)), (t4, .inl (cy 0, 300, .inl fto))] := hD
      refine lv_iconst (v := (-1)) hx hb dX0_takeBack_85 (by decide) ?_
      refine lv_ixor hx hb dX0_takeBack_86 ?_
      refine lv_topi (fun x86 ex86 => ?_)
      refine lv_iand hx hb dX0_takeBack_87 ?_
      refine lv_topi (fun x87 ex87 => ?_)
      refine k_v (va_runV (As := [.int x8, .int x50, .int x87]) (rest := []) ⟨hx, hb, hml, hown, hts⟩ (c_X5_setLegs l D cy E u0 u1 u2 u3 zr fso x8 x50 x87 H.size (by first | omega | decide | (constructor <;> first | omega | decide)) (by first | omega | decide | (constructor <;> first | omega | decide))) (cwV 3 hts gX0_takeBack_X5_setLegs rfl rfl rfl (by decide +kernel) ⟨Nat.le_of_ble_eq_true rfl, Nat.le_of_ble_eq_true rfl⟩) (cp_v hK hN hS hAB hP hD [7, 8] rfl (by decide) (ci := 5) rfl rfl rfl) rfl rfl hl.1 rfl (lv_room (Nat.le_of_ble_eq_true rfl)) dX0_takeBack_88 ⟨Nat.le_of_ble_eq_true rfl, Nat.le_of_ble_eq_true rfl⟩) hP hD hS hA [7, 8] [0, 1, 2, 3, 4, 5, 6, 9, 10, 11] (wr := [(t1, .inl (cy 0, 300, .inl fda)), (t2, .inl (cy 0, 300, .inl fbt)), (t5, .inl (cy 0, 300, .inl foc)), (t6, .inl (cy 0, 300, .inl (upd fgi t.toNatClampNeg 1))), (b0, .inr (0, [.int now, .ref r0, .ref u0, .ref t0, .ref l0, .ref q0, .ref of, .ref sh, .ref nl, .ref fc])), (r0, .inr (4, [.int zs, .ref r1, .ref r2])), (r2, .inl (cy 0, 9, .inl fhr)), (t0, .inr (7, [.int zt, .ref t1, .ref t2, .ref t3, .ref t4, .ref t5, .ref t6])), (t3, .inl (cy 0, 300, .inl ffr)), (t4, .inl (cy 0, 300, .inl fto))]) rfl rfl (by decide) (by decide) (fun u_rr88 H locs hw88 hP hD hS => ?_)
      try dsimp only at hw88
      have hP : va_P D vwCl [(t1, .inl (cy 0, 300, .inl fda)), (t2, .inl (cy 0, 300, .inl fbt)), (t5, .inl (cy 0, 300, .inl foc)), (t6, .inl (cy 0, 300, .inl (upd fgi t.toNatClampNeg 1))), (b0, .inr (0, [.int now, .ref r0, .ref u0, .ref t0, .ref l0, .ref q0, .ref of, .ref sh, .ref nl, .ref fc])), (r0, .inr (4, [.int zs, .ref r1, .ref r2])), (r2, .inl (cy 0, 9, .inl fhr)), (t0, .inr (7, [.int zt, .ref t1, .ref t2, .ref t3, .ref t4, .ref t5, .ref t6])), (t3, .inl (cy 0, 300, .inl ffr)), (t4, .inl (cy 0, 300, .inl fto)), (u0, .inr (5, [.int zr, .ref u1, .ref u2, .ref u3])), (u3, .inl (cy 0, 600, .inl u_rr88))] H := hP
      have hD : va_D A [(t1, .inl (cy 0, 300, .inl fda)), (t2, .inl (cy 0, 300, .inl fbt)), (t5, .inl (cy 0, 300, .inl foc)), (t6, .inl (cy 0, 300, .inl (upd fgi t.toNatClampNeg 1))), (b0, .inr (0, [.int now, .ref r0, .ref u0, .ref t0, .ref l0, .ref q0, .ref of, .ref sh, .ref nl, .ref fc])), (r0, .inr (4, [.int zs, .ref r1, .ref r2])), (r2, .inl (cy 0, 9, .inl fhr)), (t0, .inr (7, [.int zt, .ref t1, .ref t2, .ref t3, .ref t4, .ref t5, .ref t6])), (t3, .inl (cy 0, 300, .inl ffr)), (t4, .inl (cy 0, 300, .inl fto)), (u0, .inr (5, [.int zr, .ref u1, .ref u2, .ref u3])), (u3, .inl (cy 0, 600, .inl u_rr88))] := hD
      refine lv_iconst (v := 1) hx hb dX0_takeBack_91 (by decide) ?_
      exact r_z hx hb hr hlocks hK hS dX0_takeBack_92 (by decide) (u := (u_rr88, upd fgi t.toNatClampNeg 1)) (hP.sub (ws' := [(b0, .inr (0, [.int now, .ref r0, .ref u0, .ref t0, .ref l0, .ref q0, .ref of, .ref sh, .ref nl, .ref fc])), (u0, .inr (5, [.int zr, .ref u1, .ref u2, .ref u3])), (u3, .inl (cy 0, 600, .inl u_rr88)), (r0, .inr (4, [.int zs, .ref r1, .ref r2])), (r2, .inl (cy 0, 9, .inl fhr)), (t0, .inr (7, [.int zt, .ref t1, .ref t2, .ref t3, .ref t4, .ref t5, .ref t6])), (t1, .inl (cy 0, 300, .inl fda)), (t2, .inl (cy 0, 300, .inl fbt)), (t3, .inl (cy 0, 300, .inl ffr)), (t4, .inl (cy 0, 300, .inl fto)), (t5, .inl (cy 0, 300, .inl foc)), (t6, .inl (cy 0, 300, .inl (upd fgi t.toNatClampNeg 1)))]) [4, 10, 11, 5, 6, 7, 0, 1, 8, 9, 2, 3] rfl) (hD.sub (ws' := [(b0, .inr (0, [.int now, .ref r0, .ref u0, .ref t0, .ref l0, .ref q0, .ref of, .ref sh, .ref nl, .ref fc])), (u0, .inr (5, [.int zr, .ref u1, .ref u2, .ref u3])), (u3, .inl (cy 0, 600, .inl u_rr88)), (r0, .inr (4, [.int zs, .ref r1, .ref r2])), (r2, .inl (cy 0, 9, .inl fhr)), (t0, .inr (7, [.int zt, .ref t1, .ref t2, .ref t3, .ref t4, .ref t5, .ref t6])), (t1, .inl (cy 0, 300, .inl fda)), (t2, .inl (cy 0, 300, .inl fbt)), (t3, .inl (cy 0, 300, .inl ffr)), (t4, .inl (cy 0, 300, .inl fto)), (t5, .inl (cy 0, 300, .inl foc)), (t6, .inl (cy 0, 300, .inl (upd fgi t.toNatClampNeg 1)))]) [4, 10, 11, 5, 6, 7, 0, 1, 8, 9, 2, 3] (by decide) rfl) (by first | exact Or.inl (by decide) | exact Or.inr (by decide) | omega)
    · skip
      have fc37 := q_ne (a := rr34.toInt) (b := 0) c37 rfl (by decide)
      refine lv_iconst (v := 0) hx hb dX0_takeBack_40 (by decide) ?_
      exact r_z hx hb hr hlocks hK hS dX0_takeBack_41 (by decide) (u := (fso, fgi)) (hP.sub (ws' := [(b0, .inr (0, [.int now, .ref r0, .ref u0, .ref t0, .ref l0, .ref q0, .ref of, .ref sh, .ref nl, .ref fc])), (u0, .inr (5, [.int zr, .ref u1, .ref u2, .ref u3])), (u3, .inl (cy 0, 600, .inl fso)), (r0, .inr (4, [.int zs, .ref r1, .ref r2])), (r2, .inl (cy 0, 9, .inl fhr)), (t0, .inr (7, [.int zt, .ref t1, .ref t2, .ref t3, .ref t4, .ref t5, .ref t6])), (t1, .inl (cy 0, 300, .inl fda)), (t2, .inl (cy 0, 300, .inl fbt)), (t3, .inl (cy 0, 300, .inl ffr)), (t4, .inl (cy 0, 300, .inl fto)), (t5, .inl (cy 0, 300, .inl foc)), (t6, .inl (cy 0, 300, .inl fgi))]) [9, 0, 1, 10, 11, 2, 3, 4, 5, 6, 7, 8] rfl) (hD.sub (ws' := [(b0, .inr (0, [.int now, .ref r0, .ref u0, .ref t0, .ref l0, .ref q0, .ref of, .ref sh, .ref nl, .ref fc])), (u0, .inr (5, [.int zr, .ref u1, .ref u2, .ref u3])), (u3, .inl (cy 0, 600, .inl fso)), (r0, .inr (4, [.int zs, .ref r1, .ref r2])), (r2, .inl (cy 0, 9, .inl fhr)), (t0, .inr (7, [.int zt, .ref t1, .ref t2, .ref t3, .ref t4, .ref t5, .ref t6])), (t1, .inl (cy 0, 300, .inl fda)), (t2, .inl (cy 0, 300, .inl fbt)), (t3, .inl (cy 0, 300, .inl ffr)), (t4, .inl (cy 0, 300, .inl fto)), (t5, .inl (cy 0, 300, .inl foc)), (t6, .inl (cy 0, 300, .inl fgi))]) [9, 0, 1, 10, 11, 2, 3, 4, 5, 6, 7, 8] (by decide) rfl) (by first | exact Or.inl (by decide) | exact Or.inr (by decide) | omega)

abbrev Q_c_X0_letterHours (D : va_G) (cy : Nat → ClassId) (E : EN) (b0 : Nat) (r0 : Nat) (u0 : Nat) (t0 : Nat) (l0 : Nat) (q0 : Nat) (of : Nat) (sh : Nat) (nl : Nat) (fc : Nat) (r1 : Nat) (r2 : Nat) (now : Int32) (zs : Int32) (fhr : Nat → Int32) (fof : Nat → Int32) (o : Int32) (oo : Int32) : (Nat → Prop) → Array Value → State → Outcome → State → Prop := QI D cy (fun (r : Int32) (_ : Unit) => True) (fun _ : Unit => [(b0, .inr (0, [.int now, .ref r0, .ref u0, .ref t0, .ref l0, .ref q0, .ref of, .ref sh, .ref nl, .ref fc])), (r0, .inr (4, [.int zs, .ref r1, .ref r2])), (r2, .inl (cy 0, 9, .inl fhr)), (of, .inl (cy 0, 6, .inl fof))])
set_option maxHeartbeats 4000000 in
set_option maxRecDepth 100000 in
theorem c_X0_letterHours (l : Launch) (D : va_G) (cy : Nat → ClassId) (E : EN) (b0 : Nat) (r0 : Nat) (u0 : Nat) (t0 : Nat) (l0 : Nat) (q0 : Nat) (of : Nat) (sh : Nat) (nl : Nat) (fc : Nat) (r1 : Nat) (r2 : Nat) (now : Int32) (zs : Int32) (fhr : Nat → Int32) (fof : Nat → Int32) (o : Int32) (oo : Int32) (sz : Nat) (ho : 0 ≤ o.toInt ∧ o.toInt < 6) (hoo : 0 ≤ oo.toInt ∧ oo.toInt < 6) (hv_fhr : AllI fhr 9 0 24) : Met l yX0_letterHours wsX0_letterHours ({ frames := 1, cells := 0, slots := 0, locals := 24 } : Room) (CP D cy E [.ref b0, .int o, .int oo] [(b0, .inr (0, [.int now, .ref r0, .ref u0, .ref t0, .ref l0, .ref q0, .ref of, .ref sh, .ref nl, .ref fc])), (r0, .inr (4, [.int zs, .ref r1, .ref r2])), (r2, .inl (cy 0, 9, .inl fhr)), (of, .inl (cy 0, 6, .inl fof))] sz) (Q_c_X0_letterHours D cy E b0 r0 u0 t0 l0 q0 of sh nl fc r1 r2 now zs fhr fof o oo (va_A [(b0, .inr (0, [.int now, .ref r0, .ref u0, .ref t0, .ref l0, .ref q0, .ref of, .ref sh, .ref nl, .ref fc])), (r0, .inr (4, [.int zs, .ref r1, .ref r2])), (r2, .inl (cy 0, 9, .inl fhr)), (of, .inl (cy 0, 6, .inl fof))] sz)) 0 0 (va_A [(b0, .inr (0, [.int now, .ref r0, .ref u0, .ref t0, .ref l0, .ref q0, .ref of, .ref sh, .ref nl, .ref fc])), (r0, .inr (4, [.int zs, .ref r1, .ref r2])), (r2, .inl (cy 0, 9, .inl fhr)), (of, .inl (cy 0, 6, .inl fof))] sz) := by
  refine Met.go (Qc := Q_c_X0_letterHours D cy E b0 r0 u0 t0 l0 q0 of sh nl fc r1 r2 now zs fhr fof o oo) (cc := cX0_letterHours) (maxL := 4) (ret := (some .int)) (by decide) rfl (Nat.le_of_ble_eq_true rfl) ?_
  intro p e s m below meth c hx hb hr hts hown hlocks hin hml hK hN A hA hAB hD hP hS ls hl hsz
  have hl : lv_has ls 4 [(0, .ref b0), (1, .int o), (2, .int oo)] := hl
  have in_X0 : ∀ w ∈ wsX00, w ∈ wsX0_letterHours := fun _ h => List.mem_cons_of_mem _ (List.mem_append_left _ ((List.mem_append_right _ h)))
  have w_1 := hts (.fieldLink RX0 12 "SleepingCars$Book" "route" "LSleepingCars$Route;") (by decide +kernel)
  have w_2 := hts (.fieldLink RX0 46 "SleepingCars$Book" "officeStops" "[I") (by decide +kernel)
  have w_3 := hts (.instanceMethod yX4_hoursTo) (by decide +kernel)
  have w_4 := hts (.methodLink RX0 129 Lib.Math.abs.name) (by decide +kernel)
  have w_5 := hts (.static Lib.Math.abs.name) (by decide +kernel)
  have w_6 := hts (.initialized "java/lang/Math") (by decide +kernel)
  have w_7 := hts (.code Lib.Math.abs.name Lib.Math.abs.code 1 (some .int)) (by decide +kernel)
  obtain ⟨H, eH⟩ : ∃ H : Heap, H = s.heap := ⟨_, rfl⟩
  obtain ⟨locs, eL⟩ : ∃ L : List Loc, L = [] := ⟨_, rfl⟩
  rw [← eL]
  rw [← eL] at hS
  have hP : va_P D vwCl [(b0, .inr (0, [.int now, .ref r0, .ref u0, .ref t0, .ref l0, .ref q0, .ref of, .ref sh, .ref nl, .ref fc])), (r0, .inr (4, [.int zs, .ref r1, .ref r2])), (r2, .inl (cy 0, 9, .inl fhr)), (of, .inl (cy 0, 6, .inl fof))] H := by rw [eH]; exact hP
  have hS : va_S A s.heap H locs := by rw [eH]; exact hS
  refine W.heapEq eH ?_
  clear eH eL
  refine lv_aload_n hx hb dX0_letterHours_0 rfl (lv_at hl 0 rfl) ?_
  refine va_get (D := D) (ci := 0) (v := .ref r0) (C := RX0) (T := TX0) (N := 10) hx hb hts in_X0 hown hK hP 0 rfl rfl 1 (by decide) w_1 (fun _ h9 => h9) rfl dX0_letterHours_1 ?_
  refine lv_aload_n hx hb dX0_letterHours_4 rfl (lv_at hl 0 rfl) ?_
  refine va_get (D := D) (ci := 0) (v := .ref of) (C := RX0) (T := TX0) (N := 10) hx hb hts in_X0 hown hK hP 0 rfl rfl 6 (by decide) w_2 (fun _ h9 => h9) rfl dX0_letterHours_5 ?_
  refine lv_iload_n hx hb dX0_letterHours_8 rfl (lv_at hl 1 rfl) ?_
  refine va_iald hx hb hK hP 3 0 rfl rfl (q_in (a := o.toInt) rfl (by omega) (by omega)) dX0_letterHours_9 ?_
  refine lv_topi (fun x9 ex9 => ?_)
  have tx9 := congrArg Int32.toInt ex9
  refine k_i (va_runV (As := [.int x9]) (rest := []) ⟨hx, hb, hml, hown, hts⟩ (c_X4_hoursTo l D cy E r0 r1 r2 zs fhr x9 H.size hv_fhr) (cwV 1 hts gX0_letterHours_X4_hoursTo rfl rfl rfl (by decide +kernel) ⟨Nat.le_of_ble_eq_true rfl, Nat.le_of_ble_eq_true rfl⟩) (cp_v hK hN hS hAB hP hD [1, 2] rfl (by decide) (ci := 4) rfl rfl rfl) rfl rfl hl.1 rfl (lv_room (Nat.le_of_ble_eq_true rfl)) dX0_letterHours_10 ⟨Nat.le_of_ble_eq_true rfl, Nat.le_of_ble_eq_true rfl⟩) hP hD hS hA [1, 2] [0, 3] (wr := [(b0, .inr (0, [.int now, .ref r0, .ref u0, .ref t0, .ref l0, .ref q0, .ref of, .ref sh, .ref nl, .ref fc])), (of, .inl (cy 0, 6, .inl fof))]) rfl rfl (by decide) (by decide) (fun rr10 u_rr10 H locs hw10 hP hD hS => ?_)
  try dsimp only at hw10
  have hP : va_P D vwCl [(b0, .inr (0, [.int now, .ref r0, .ref u0, .ref t0, .ref l0, .ref q0, .ref of, .ref sh, .ref nl, .ref fc])), (of, .inl (cy 0, 6, .inl fof)), (r0, .inr (4, [.int zs, .ref r1, .ref r2])), (r2, .inl (cy 0, 9, .inl fhr))] H := hP
  have hD : va_D A [(b0, .inr (0, [.int now, .ref r0, .ref u0, .ref t0, .ref l0, .ref q0, .ref of, .ref sh, .ref nl, .ref fc])), (of, .inl (cy 0, 6, .inl fof)), (r0, .inr (4, [.int zs, .ref r1, .ref r2])), (r2, .inl (cy 0, 9, .inl fhr))] := hD
  refine lv_aload_n hx hb dX0_letterHours_13 rfl (lv_at hl 0 rfl) ?_
  refine va_get (D := D) (ci := 0) (v := .ref r0) (C := RX0) (T := TX0) (N := 10) hx hb hts in_X0 hown hK hP 0 rfl rfl 1 (by decide) w_1 (fun _ h9 => h9) rfl dX0_letterHours_14 ?_
  refine lv_aload_n hx hb dX0_letterHours_17 rfl (lv_at hl 0 rfl) ?_
  refine va_get (D := D) (ci := 0) (v := .ref of) (C := RX0) (T := TX0) (N := 10) hx hb hts in_X0 hown hK hP 0 rfl rfl 6 (by decide) w_2 (fun _ h9 => h9) rfl dX0_letterHours_18 ?_
  refine lv_iload_n hx hb dX0_letterHours_21 rfl (lv_at hl 2 rfl) ?_
  refine va_iald hx hb hK hP 1 0 rfl rfl (q_in (a := oo.toInt) rfl (by omega) (by omega)) dX0_letterHours_22 ?_
  refine lv_topi (fun x22 ex22 => ?_)
  have tx22 := congrArg Int32.toInt ex22
  refine k_i (va_runV (As := [.int x22]) (rest := [.int rr10]) ⟨hx, hb, hml, hown, hts⟩ (c_X4_hoursTo l D cy E r0 r1 r2 zs fhr x22 H.size hv_fhr) (cwV 1 hts gX0_letterHours_X4_hoursTo rfl rfl rfl (by decide +kernel) ⟨Nat.le_of_ble_eq_true rfl, Nat.le_of_ble_eq_true rfl⟩) (cp_v hK hN hS hAB hP hD [2, 3] rfl (by decide) (ci := 4) rfl rfl rfl) rfl rfl hl.1 rfl (lv_room (Nat.le_of_ble_eq_true rfl)) dX0_letterHours_23 ⟨Nat.le_of_ble_eq_true rfl, Nat.le_of_ble_eq_true rfl⟩) hP hD hS hA [2, 3] [0, 1] (wr := [(b0, .inr (0, [.int now, .ref r0, .ref u0, .ref t0, .ref l0, .ref q0, .ref of, .ref sh, .ref nl, .ref fc])), (of, .inl (cy 0, 6, .inl fof))]) rfl rfl (by decide) (by decide) (fun rr23 u_rr23 H locs hw23 hP hD hS => ?_)
  try dsimp only at hw23
  have hP : va_P D vwCl [(b0, .inr (0, [.int now, .ref r0, .ref u0, .ref t0, .ref l0, .ref q0, .ref of, .ref sh, .ref nl, .ref fc])), (of, .inl (cy 0, 6, .inl fof)), (r0, .inr (4, [.int zs, .ref r1, .ref r2])), (r2, .inl (cy 0, 9, .inl fhr))] H := hP
  have hD : va_D A [(b0, .inr (0, [.int now, .ref r0, .ref u0, .ref t0, .ref l0, .ref q0, .ref of, .ref sh, .ref nl, .ref fc])), (of, .inl (cy 0, 6, .inl fof)), (r0, .inr (4, [.int zs, .ref r1, .ref r2])), (r2, .inl (cy 0, 9, .inl fhr))] := hD
  refine lv_isub hx hb dX0_letterHours_26 ?_
  refine lv_topi (fun x26 ex26 => ?_)
  refine lv_istore_n (lv' := [(3, .int x26), (0, .ref b0), (1, .int o), (2, .int oo)]) hx hb dX0_letterHours_27 rfl hl (by decide) rfl (fun ls hl => ?_)
  refine lv_iconst (v := 1) hx hb dX0_letterHours_28 (by decide) ?_
  refine lv_iload_n hx hb dX0_letterHours_29 rfl (lv_at hl 0 rfl) ?_
  refine va_mabs hx hb (hml.trans hl.1.symm) hown w_4 w_5 w_6 w_7 (Nat.le_of_ble_eq_true rfl) (Nat.le_of_ble_eq_true rfl) (Nat.le_of_ble_eq_true rfl) (Nat.le_of_ble_eq_true rfl) dX0_letterHours_30 ?_
  refine lv_topi (fun x30 ex30 => ?_)
  refine lv_iadd hx hb dX0_letterHours_33 ?_
  refine lv_topi (fun x33 ex33 => ?_)
  exact r_i hx hb hr hlocks hK hS dX0_letterHours_34 (u := ()) (hP.sub (ws' := [(b0, .inr (0, [.int now, .ref r0, .ref u0, .ref t0, .ref l0, .ref q0, .ref of, .ref sh, .ref nl, .ref fc])), (r0, .inr (4, [.int zs, .ref r1, .ref r2])), (r2, .inl (cy 0, 9, .inl fhr)), (of, .inl (cy 0, 6, .inl fof))]) [0, 2, 3, 1] rfl) (hD.sub (ws' := [(b0, .inr (0, [.int now, .ref r0, .ref u0, .ref t0, .ref l0, .ref q0, .ref of, .ref sh, .ref nl, .ref fc])), (r0, .inr (4, [.int zs, .ref r1, .ref r2])), (r2, .inl (cy 0, 9, .inl fhr)), (of, .inl (cy 0, 6, .inl fof))]) [0, 2, 3, 1] (by decide) rfl) (trivial)
