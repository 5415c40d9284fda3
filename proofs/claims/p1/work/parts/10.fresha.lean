abbrev Q_c_isTold0 (D : va_G) (cy : Nat → ClassId) (u0 : Nat) (u1 : Nat) (u2 : Nat) (u3 : Nat) (day : Int32) : (Nat → Prop) → Array Value → State → Outcome → State → Prop := QI D cy (fun (r : Int32) (_ : Unit) => r.toInt = 0) (fun _ : Unit => [(u0, .inr (5, [.int 0, .ref u1, .ref u2, .ref u3])), (u1, .inl (cy 0, 60, .inl (fun _ => 0)))])
set_option maxHeartbeats 4000000 in
set_option maxRecDepth 100000 in
theorem c_isTold0 (l : Launch) (D : va_G) (cy : Nat → ClassId) (u0 : Nat) (u1 : Nat) (u2 : Nat) (u3 : Nat) (day : Int32) (sz : Nat)  : Met l yX5_isTold wsX5_isTold ({ frames := 0, cells := 0, slots := 0, locals := 0 } : Room) (CP D cy [.ref u0, .int day] [(u0, .inr (5, [.int 0, .ref u1, .ref u2, .ref u3])), (u1, .inl (cy 0, 60, .inl (fun _ => 0)))] sz) (Q_c_isTold0 D cy u0 u1 u2 u3 day (va_A [(u0, .inr (5, [.int 0, .ref u1, .ref u2, .ref u3])), (u1, .inl (cy 0, 60, .inl (fun _ => 0)))] sz)) 0 0 (va_A [(u0, .inr (5, [.int 0, .ref u1, .ref u2, .ref u3])), (u1, .inl (cy 0, 60, .inl (fun _ => 0)))] sz) := by
  refine Met.go (Qc := Q_c_isTold0 D cy u0 u1 u2 u3 day) (cc := cX5_isTold) (maxL := 2) (ret := (some .boolean)) (by decide) rfl (Nat.le_of_ble_eq_true rfl) ?_
  intro p e s m below meth c hx hb hr hts hown hlocks hin hml hK hN A hA hD hP hS ls hl hsz
  have hl : lv_has ls 2 [(0, .ref u0), (1, .int day)] := hl
  have in_X5 : ∀ w ∈ wsX50, w ∈ wsX5_isTold := fun _ h => List.mem_cons_of_mem _ ((List.mem_append_right _ h))
  have w_1 := hts (.fieldLink RX5 9 "SleepingCars$Runs" "berths" "[I") (by decide +kernel)
  obtain ⟨H, eH⟩ : ∃ H : Heap, H = s.heap := ⟨_, rfl⟩
  obtain ⟨locs, eL⟩ : ∃ L : List Loc, L = [] := ⟨_, rfl⟩
  rw [← eL]
  rw [← eL] at hS
  have hP : va_P D vwCl [(u0, .inr (5, [.int 0, .ref u1, .ref u2, .ref u3])), (u1, .inl (cy 0, 60, .inl (fun _ => 0)))] H := by rw [eH]; exact hP
  have hS : va_S A s.heap H locs := by rw [eH]; exact hS
  refine W.heapEq eH ?_
  clear eH eL
  refine lv_iload_n hx hb dX5_isTold_0 rfl (lv_at hl 1 rfl) ?_
  refine lv_if_lt (tgt := 23) hx hb dX5_isTold_1 (by decide) (fun c1 => ?_) (fun c1 => ?_)
  · skip
    have fc1 := q_lt (a := day.toInt) (b := 0) c1 rfl (by decide)
    refine lv_iconst (v := 0) hx hb dX5_isTold_23 (by decide) ?_
    exact r_z hx hb hr hlocks hK hS dX5_isTold_24 (by decide) (u := ()) hP hD (by decide)
  · skip
    have fc1 := q_nlt (a := day.toInt) (b := 0) c1 rfl (by decide)
    refine lv_iload_n hx hb dX5_isTold_4 rfl (lv_at hl 1 rfl) ?_
    refine lv_bipush (v := 60) hx hb dX5_isTold_5 (by decide) ?_
    refine lv_icmp_ge (tgt := 23) hx hb dX5_isTold_7 (by decide) (fun c7 => ?_) (fun c7 => ?_)
    · skip
      have fc7 := q_le (a := 60) (b := day.toInt) c7 (by decide) rfl
      refine lv_iconst (v := 0) hx hb dX5_isTold_23 (by decide) ?_
      exact r_z hx hb hr hlocks hK hS dX5_isTold_24 (by decide) (u := ()) hP hD (by decide)
    · skip
      have fc7 := q_nle (a := 60) (b := day.toInt) c7 (by decide) rfl
      refine lv_aload_n hx hb dX5_isTold_10 rfl (lv_at hl 0 rfl) ?_
      refine va_get (D := D) (ci := 5) (v := .ref u1) (C := RX5) (T := TX5) (N := 4) hx hb hts in_X5 hown hK hP 0 rfl rfl 1 (by decide) w_1 (fun _ h9 => h9) rfl dX5_isTold_11 ?_
      refine lv_iload_n hx hb dX5_isTold_14 rfl (lv_at hl 1 rfl) ?_
      refine va_iald hx hb hK hP 1 0 rfl rfl (q_in (a := day.toInt) rfl (by omega) (by omega)) dX5_isTold_15 ?_
      refine lv_topi (fun x15 ex15 => ?_)
      obtain rfl : x15 = 0 := ex15
      refine lv_if_le (tgt := 23) hx hb dX5_isTold_16 (by decide) (fun c16 => ?_) (fun c16 => ?_)
      · skip
        refine lv_iconst (v := 0) hx hb dX5_isTold_23 (by decide) ?_
        exact r_z hx hb hr hlocks hK hS dX5_isTold_24 (by decide) (u := ()) hP hD (by decide)
      · skip
        exact absurd c16 (by decide)

abbrev Q_c_hasBerth0 (D : va_G) (cy : Nat → ClassId) (u0 : Nat) (u1 : Nat) (u2 : Nat) (u3 : Nat) (day : Int32) (berth : Int32) : (Nat → Prop) → Array Value → State → Outcome → State → Prop := QI D cy (fun (r : Int32) (_ : Unit) => r.toInt = 0) (fun _ : Unit => [(u0, .inr (5, [.int 0, .ref u1, .ref u2, .ref u3])), (u1, .inl (cy 0, 60, .inl (fun _ => 0)))])
set_option maxHeartbeats 4000000 in
set_option maxRecDepth 100000 in
theorem c_hasBerth0 (l : Launch) (D : va_G) (cy : Nat → ClassId) (u0 : Nat) (u1 : Nat) (u2 : Nat) (u3 : Nat) (day : Int32) (berth : Int32) (sz : Nat)  : Met l yX5_hasBerth wsX5_hasBerth ({ frames := 1, cells := 0, slots := 0, locals := 21 } : Room) (CP D cy [.ref u0, .int day, .int berth] [(u0, .inr (5, [.int 0, .ref u1, .ref u2, .ref u3])), (u1, .inl (cy 0, 60, .inl (fun _ => 0)))] sz) (Q_c_hasBerth0 D cy u0 u1 u2 u3 day berth (va_A [(u0, .inr (5, [.int 0, .ref u1, .ref u2, .ref u3])), (u1, .inl (cy 0, 60, .inl (fun _ => 0)))] sz)) 0 0 (va_A [(u0, .inr (5, [.int 0, .ref u1, .ref u2, .ref u3])), (u1, .inl (cy 0, 60, .inl (fun _ => 0)))] sz) := by
  refine Met.go (Qc := Q_c_hasBerth0 D cy u0 u1 u2 u3 day berth) (cc := cX5_hasBerth) (maxL := 3) (ret := (some .boolean)) (by decide) rfl (Nat.le_of_ble_eq_true rfl) ?_
  intro p e s m below meth c hx hb hr hts hown hlocks hin hml hK hN A hA hD hP hS ls hl hsz
  have hl : lv_has ls 3 [(0, .ref u0), (1, .int day), (2, .int berth)] := hl
  have w_0 := hts (.instanceMethod yX5_isTold) (by decide +kernel)
  obtain ⟨H, eH⟩ : ∃ H : Heap, H = s.heap := ⟨_, rfl⟩
  obtain ⟨locs, eL⟩ : ∃ L : List Loc, L = [] := ⟨_, rfl⟩
  rw [← eL]
  rw [← eL] at hS
  have hP : va_P D vwCl [(u0, .inr (5, [.int 0, .ref u1, .ref u2, .ref u3])), (u1, .inl (cy 0, 60, .inl (fun _ => 0)))] H := by rw [eH]; exact hP
  have hS : va_S A s.heap H locs := by rw [eH]; exact hS
  refine W.heapEq eH ?_
  clear eH eL
  refine lv_aload_n hx hb dX5_hasBerth_0 rfl (lv_at hl 0 rfl) ?_
  refine lv_iload_n hx hb dX5_hasBerth_1 rfl (lv_at hl 1 rfl) ?_
  refine k_i (va_runV (As := [.int day]) (rest := []) ⟨hx, hb, hml, hown, hts⟩ (c_isTold0 l D cy u0 u1 u2 u3 day H.size ) (cwV 1 hts gX5_hasBerth_X5_isTold rfl rfl rfl (by decide +kernel) ⟨Nat.le_of_ble_eq_true rfl, Nat.le_of_ble_eq_true rfl⟩) (cp_v hK hN hP hD [0, 1] rfl (by decide) (ci := 5) rfl rfl rfl) rfl rfl hl.1 rfl (lv_room (Nat.le_of_ble_eq_true rfl)) dX5_hasBerth_2 ⟨Nat.le_of_ble_eq_true rfl, Nat.le_of_ble_eq_true rfl⟩) hP hD hS hA [0, 1] [] (wr := []) rfl rfl (by decide) (by decide) (fun r2 u_r2 H locs hw2 hP hD hS => ?_)
  try dsimp only at hw2
  have hP : va_P D vwCl [(u0, .inr (5, [.int 0, .ref u1, .ref u2, .ref u3])), (u1, .inl (cy 0, 60, .inl (fun _ => 0)))] H := hP
  have hD : va_D A [(u0, .inr (5, [.int 0, .ref u1, .ref u2, .ref u3])), (u1, .inl (cy 0, 60, .inl (fun _ => 0)))] := hD
  refine lv_if_eq (tgt := 26) hx hb dX5_hasBerth_5 (by decide) (fun c5 => ?_) (fun c5 => ?_)
  · skip
    have fc5 := q_eq (a := r2.toInt) (b := 0) c5 rfl (by decide)
    refine lv_iconst (v := 0) hx hb dX5_hasBerth_26 (by decide) ?_
    exact r_z hx hb hr hlocks hK hS dX5_hasBerth_27 (by decide) (u := ()) hP hD (by decide)
  · skip
    have fc5 := q_ne (a := r2.toInt) (b := 0) c5 rfl (by decide)
    exfalso; omega

abbrev Q_c_X9_isOffice (D : va_G) (cy : Nat → ClassId) (o : Int32) : (Nat → Prop) → Array Value → State → Outcome → State → Prop := QI D cy (fun (r : Int32) (_ : Unit) => (r.toInt = 1 ∧ (0 ≤ o.toInt ∧ o.toInt < 6)) ∨ (r.toInt = 0 ∧ ¬ (0 ≤ o.toInt ∧ o.toInt < 6))) (fun _ : Unit => [])
set_option maxHeartbeats 4000000 in
set_option maxRecDepth 100000 in
theorem c_X9_isOffice (l : Launch) (D : va_G) (cy : Nat → ClassId) (o : Int32) (sz : Nat)  : Met l yX9_isOffice wsX9_isOffice ({ frames := 0, cells := 0, slots := 0, locals := 0 } : Room) (CP D cy [.int o] [] sz) (Q_c_X9_isOffice D cy o (va_A [] sz)) 0 0 (va_A [] sz) := by
  refine Met.go (Qc := Q_c_X9_isOffice D cy o) (cc := cX9_isOffice) (maxL := 1) (ret := (some .boolean)) (by decide) rfl (Nat.le_of_ble_eq_true rfl) ?_
  intro p e s m below meth c hx hb hr hts hown hlocks hin hml hK hN A hA hD hP hS ls hl hsz
  have hl : lv_has ls 1 [(0, .int o)] := hl
  obtain ⟨H, eH⟩ : ∃ H : Heap, H = s.heap := ⟨_, rfl⟩
  obtain ⟨locs, eL⟩ : ∃ L : List Loc, L = [] := ⟨_, rfl⟩
  rw [← eL]
  rw [← eL] at hS
  have hP : va_P D vwCl [] H := by rw [eH]; exact hP
  have hS : va_S A s.heap H locs := by rw [eH]; exact hS
  refine W.heapEq eH ?_
  clear eH eL
  refine lv_iload_n hx hb dX9_isOffice_0 rfl (lv_at hl 0 rfl) ?_
  refine lv_if_lt (tgt := 14) hx hb dX9_isOffice_1 (by decide) (fun c1 => ?_) (fun c1 => ?_)
  · skip
    have fc1 := q_lt (a := o.toInt) (b := 0) c1 rfl (by decide)
    refine lv_iconst (v := 0) hx hb dX9_isOffice_14 (by decide) ?_
    exact r_z hx hb hr hlocks hK hS dX9_isOffice_15 (by decide) (u := ()) hP hD (by first | exact Or.inl ⟨by decide, by omega⟩ | exact Or.inr ⟨by decide, by omega⟩)
  · skip
    have fc1 := q_nlt (a := o.toInt) (b := 0) c1 rfl (by decide)
    refine lv_iload_n hx hb dX9_isOffice_4 rfl (lv_at hl 0 rfl) ?_
    refine lv_bipush (v := 6) hx hb dX9_isOffice_5 (by decide) ?_
    refine lv_icmp_ge (tgt := 14) hx hb dX9_isOffice_7 (by decide) (fun c7 => ?_) (fun c7 => ?_)
    · skip
      have fc7 := q_le (a := 6) (b := o.toInt) c7 (by decide) rfl
      refine lv_iconst (v := 0) hx hb dX9_isOffice_14 (by decide) ?_
      exact r_z hx hb hr hlocks hK hS dX9_isOffice_15 (by decide) (u := ()) hP hD (by first | exact Or.inl ⟨by decide, by omega⟩ | exact Or.inr ⟨by decide, by omega⟩)
    · skip
      have fc7 := q_nle (a := 6) (b := o.toInt) c7 (by decide) rfl
      refine lv_iconst (v := 1) hx hb dX9_isOffice_10 (by decide) ?_
      refine lv_goto (tgt := 15) hx hb dX9_isOffice_11 (by decide) ?_
      exact r_z hx hb hr hlocks hK hS dX9_isOffice_15 (by decide) (u := ()) hP hD (by first | exact Or.inl ⟨by decide, by omega⟩ | exact Or.inr ⟨by decide, by omega⟩)

abbrev Q_c_isRunStretch0 (D : va_G) (cy : Nat → ClassId) (b0 : Nat) (r0 : Nat) (u0 : Nat) (t0 : Nat) (l0 : Nat) (q0 : Nat) (of : Nat) (sh : Nat) (nl : Nat) (fc : Nat) (u1 : Nat) (u2 : Nat) (u3 : Nat) (day : Int32) (a : Int32) (b : Int32) : (Nat → Prop) → Array Value → State → Outcome → State → Prop := QI D cy (fun (r : Int32) (_ : Unit) => r.toInt = 0) (fun _ : Unit => [(b0, .inr (0, [.int 0, .ref r0, .ref u0, .ref t0, .ref l0, .ref q0, .ref of, .ref sh, .ref nl, .ref fc])), (u0, .inr (5, [.int 0, .ref u1, .ref u2, .ref u3])), (u1, .inl (cy 0, 60, .inl (fun _ => 0)))])
set_option maxHeartbeats 4000000 in
set_option maxRecDepth 100000 in
theorem c_isRunStretch0 (l : Launch) (D : va_G) (cy : Nat → ClassId) (b0 : Nat) (r0 : Nat) (u0 : Nat) (t0 : Nat) (l0 : Nat) (q0 : Nat) (of : Nat) (sh : Nat) (nl : Nat) (fc : Nat) (u1 : Nat) (u2 : Nat) (u3 : Nat) (day : Int32) (a : Int32) (b : Int32) (sz : Nat)  : Met l yX0_isRunStretch wsX0_isRunStretch ({ frames := 1, cells := 0, slots := 0, locals := 21 } : Room) (CP D cy [.ref b0, .int day, .int a, .int b] [(b0, .inr (0, [.int 0, .ref r0, .ref u0, .ref t0, .ref l0, .ref q0, .ref of, .ref sh, .ref nl, .ref fc])), (u0, .inr (5, [.int 0, .ref u1, .ref u2, .ref u3])), (u1, .inl (cy 0, 60, .inl (fun _ => 0)))] sz) (Q_c_isRunStretch0 D cy b0 r0 u0 t0 l0 q0 of sh nl fc u1 u2 u3 day a b (va_A [(b0, .inr (0, [.int 0, .ref r0, .ref u0, .ref t0, .ref l0, .ref q0, .ref of, .ref sh, .ref nl, .ref fc])), (u0, .inr (5, [.int 0, .ref u1, .ref u2, .ref u3])), (u1, .inl (cy 0, 60, .inl (fun _ => 0)))] sz)) 0 0 (va_A [(b0, .inr (0, [.int 0, .ref r0, .ref u0, .ref t0, .ref l0, .ref q0, .ref of, .ref sh, .ref nl, .ref fc])), (u0, .inr (5, [.int 0, .ref u1, .ref u2, .ref u3])), (u1, .inl (cy 0, 60, .inl (fun _ => 0)))] sz) := by
  refine Met.go (Qc := Q_c_isRunStretch0 D cy b0 r0 u0 t0 l0 q0 of sh nl fc u1 u2 u3 day a b) (cc := cX0_isRunStretch) (maxL := 4) (ret := (some .boolean)) (by decide) rfl (Nat.le_of_ble_eq_true rfl) ?_
  intro p e s m below meth c hx hb hr hts hown hlocks hin hml hK hN A hA hD hP hS ls hl hsz
  have hl : lv_has ls 4 [(0, .ref b0), (1, .int day), (2, .int a), (3, .int b)] := hl
  have in_X0 : ∀ w ∈ wsX00, w ∈ wsX0_isRunStretch := fun _ h => List.mem_cons_of_mem _ (List.mem_append_left _ (List.mem_append_left _ ((List.mem_append_right _ h))))
  have w_1 := hts (.fieldLink RX0 21 "SleepingCars$Book" "runs" "LSleepingCars$Runs;") (by decide +kernel)
  have w_2 := hts (.instanceMethod yX5_isTold) (by decide +kernel)
  obtain ⟨H, eH⟩ : ∃ H : Heap, H = s.heap := ⟨_, rfl⟩
  obtain ⟨locs, eL⟩ : ∃ L : List Loc, L = [] := ⟨_, rfl⟩
  rw [← eL]
  rw [← eL] at hS
  have hP : va_P D vwCl [(b0, .inr (0, [.int 0, .ref r0, .ref u0, .ref t0, .ref l0, .ref q0, .ref of, .ref sh, .ref nl, .ref fc])), (u0, .inr (5, [.int 0, .ref u1, .ref u2, .ref u3])), (u1, .inl (cy 0, 60, .inl (fun _ => 0)))] H := by rw [eH]; exact hP
  have hS : va_S A s.heap H locs := by rw [eH]; exact hS
  refine W.heapEq eH ?_
  clear eH eL
  refine lv_aload_n hx hb dX0_isRunStretch_0 rfl (lv_at hl 0 rfl) ?_
  refine va_get (D := D) (ci := 0) (v := .ref u0) (C := RX0) (T := TX0) (N := 10) hx hb hts in_X0 hown hK hP 0 rfl rfl 2 (by decide) w_1 (fun _ h9 => h9) rfl dX0_isRunStretch_1 ?_
  refine lv_iload_n hx hb dX0_isRunStretch_4 rfl (lv_at hl 1 rfl) ?_
  refine k_i (va_runV (As := [.int day]) (rest := []) ⟨hx, hb, hml, hown, hts⟩ (c_isTold0 l D cy u0 u1 u2 u3 day H.size ) (cwV 1 hts gX0_isRunStretch_X5_isTold rfl rfl rfl (by decide +kernel) ⟨Nat.le_of_ble_eq_true rfl, Nat.le_of_ble_eq_true rfl⟩) (cp_v hK hN hP hD [1, 2] rfl (by decide) (ci := 5) rfl rfl rfl) rfl rfl hl.1 rfl (lv_room (Nat.le_of_ble_eq_true rfl)) dX0_isRunStretch_5 ⟨Nat.le_of_ble_eq_true rfl, Nat.le_of_ble_eq_true rfl⟩) hP hD hS hA [1, 2] [0] (wr := [(b0, .inr (0, [.int 0, .ref r0, .ref u0, .ref t0, .ref l0, .ref q0, .ref of, .ref sh, .ref nl, .ref fc]))]) rfl rfl (by decide) (by decide) (fun r5 u_r5 H locs hw5 hP hD hS => ?_)
  try dsimp only at hw5
  have hP : va_P D vwCl [(b0, .inr (0, [.int 0, .ref r0, .ref u0, .ref t0, .ref l0, .ref q0, .ref of, .ref sh, .ref nl, .ref fc])), (u0, .inr (5, [.int 0, .ref u1, .ref u2, .ref u3])), (u1, .inl (cy 0, 60, .inl (fun _ => 0)))] H := hP
  have hD : va_D A [(b0, .inr (0, [.int 0, .ref r0, .ref u0, .ref t0, .ref l0, .ref q0, .ref of, .ref sh, .ref nl, .ref fc])), (u0, .inr (5, [.int 0, .ref u1, .ref u2, .ref u3])), (u1, .inl (cy 0, 60, .inl (fun _ => 0)))] := hD
  refine lv_if_eq (tgt := 27) hx hb dX0_isRunStretch_8 (by decide) (fun c8 => ?_) (fun c8 => ?_)
  · skip
    have fc8 := q_eq (a := r5.toInt) (b := 0) c8 rfl (by decide)
    refine lv_iconst (v := 0) hx hb dX0_isRunStretch_27 (by decide) ?_
    exact r_z hx hb hr hlocks hK hS dX0_isRunStretch_28 (by decide) (u := ()) hP hD (by decide)
  · skip
    have fc8 := q_ne (a := r5.toInt) (b := 0) c8 rfl (by decide)
    exfalso; omega

abbrev Q_c_hasLeft0 (D : va_G) (cy : Nat → ClassId) (b0 : Nat) (r0 : Nat) (u0 : Nat) (t0 : Nat) (l0 : Nat) (q0 : Nat) (of : Nat) (sh : Nat) (nl : Nat) (fc : Nat) (r1 : Nat) (r2 : Nat) (g2 : Nat → Int32) (day : Int32) : (Nat → Prop) → Array Value → State → Outcome → State → Prop := QI D cy (fun (r : Int32) (_ : Unit) => (r.toInt = 1 ∧ (day.toInt ≤ 0)) ∨ (r.toInt = 0 ∧ ¬ (day.toInt ≤ 0))) (fun _ : Unit => [(b0, .inr (0, [.int 0, .ref r0, .ref u0, .ref t0, .ref l0, .ref q0, .ref of, .ref sh, .ref nl, .ref fc])), (r0, .inr (4, [.int 2, .ref r1, .ref r2])), (r2, .inl (cy 0, 9, .inl g2))])
set_option maxHeartbeats 4000000 in
set_option maxRecDepth 100000 in
theorem c_hasLeft0 (l : Launch) (D : va_G) (cy : Nat → ClassId) (b0 : Nat) (r0 : Nat) (u0 : Nat) (t0 : Nat) (l0 : Nat) (q0 : Nat) (of : Nat) (sh : Nat) (nl : Nat) (fc : Nat) (r1 : Nat) (r2 : Nat) (g2 : Nat → Int32) (day : Int32) (sz : Nat) (hd : 0 ≤ day.toInt ∧ day.toInt < 60) : Met l yX0_hasLeft wsX0_hasLeft ({ frames := 1, cells := 0, slots := 0, locals := 23 } : Room) (CP D cy [.ref b0, .int day, .int 0] [(b0, .inr (0, [.int 0, .ref r0, .ref u0, .ref t0, .ref l0, .ref q0, .ref of, .ref sh, .ref nl, .ref fc])), (r0, .inr (4, [.int 2, .ref r1, .ref r2])), (r2, .inl (cy 0, 9, .inl g2))] sz) (Q_c_hasLeft0 D cy b0 r0 u0 t0 l0 q0 of sh nl fc r1 r2 g2 day (va_A [(b0, .inr (0, [.int 0, .ref r0, .ref u0, .ref t0, .ref l0, .ref q0, .ref of, .ref sh, .ref nl, .ref fc])), (r0, .inr (4, [.int 2, .ref r1, .ref r2])), (r2, .inl (cy 0, 9, .inl g2))] sz)) 0 0 (va_A [(b0, .inr (0, [.int 0, .ref r0, .ref u0, .ref t0, .ref l0, .ref q0, .ref of, .ref sh, .ref nl, .ref fc])), (r0, .inr (4, [.int 2, .ref r1, .ref r2])), (r2, .inl (cy 0, 9, .inl g2))] sz) := by
  refine Met.go (Qc := Q_c_hasLeft0 D cy b0 r0 u0 t0 l0 q0 of sh nl fc r1 r2 g2 day) (cc := cX0_hasLeft) (maxL := 3) (ret := (some .boolean)) (by decide) rfl (Nat.le_of_ble_eq_true rfl) ?_
  intro p e s m below meth c hx hb hr hts hown hlocks hin hml hK hN A hA hD hP hS ls hl hsz
  have hl : lv_has ls 3 [(0, .ref b0), (1, .int day), (2, .int 0)] := hl
  have in_X0 : ∀ w ∈ wsX00, w ∈ wsX0_hasLeft := fun _ h => List.mem_cons_of_mem _ (List.mem_append_left _ ((List.mem_append_right _ h)))
  have w_1 := hts (.fieldLink RX0 67 "SleepingCars$Book" "now" "I") (by decide +kernel)
  have w_2 := hts (.fieldLink RX0 12 "SleepingCars$Book" "route" "LSleepingCars$Route;") (by decide +kernel)
  have w_3 := hts (.instanceMethod yX4_hoursTo) (by decide +kernel)
  obtain ⟨H, eH⟩ : ∃ H : Heap, H = s.heap := ⟨_, rfl⟩
  obtain ⟨locs, eL⟩ : ∃ L : List Loc, L = [] := ⟨_, rfl⟩
  rw [← eL]
  rw [← eL] at hS
  have hP : va_P D vwCl [(b0, .inr (0, [.int 0, .ref r0, .ref u0, .ref t0, .ref l0, .ref q0, .ref of, .ref sh, .ref nl, .ref fc])), (r0, .inr (4, [.int 2, .ref r1, .ref r2])), (r2, .inl (cy 0, 9, .inl g2))] H := by rw [eH]; exact hP
  have hS : va_S A s.heap H locs := by rw [eH]; exact hS
  refine W.heapEq eH ?_
  clear eH eL
  refine lv_aload_n hx hb dX0_hasLeft_0 rfl (lv_at hl 0 rfl) ?_
  refine va_get (D := D) (ci := 0) (v := .int 0) (C := RX0) (T := TX0) (N := 10) hx hb hts in_X0 hown hK hP 0 rfl rfl 0 (by decide) w_1 (fun _ h9 => h9) rfl dX0_hasLeft_1 ?_
  refine lv_bipush (v := 24) hx hb dX0_hasLeft_4 (by decide) ?_
  refine lv_iload_n hx hb dX0_hasLeft_6 rfl (lv_at hl 1 rfl) ?_
  refine lv_imul hx hb dX0_hasLeft_7 ?_
  refine lv_topi (fun x7 ex7 => ?_)
  have tx7 := q_mul (p := 24) (q := day.toInt) ex7 (by decide) rfl (by omega) (by omega)
  refine lv_aload_n hx hb dX0_hasLeft_8 rfl (lv_at hl 0 rfl) ?_
  refine va_get (D := D) (ci := 0) (v := .ref r0) (C := RX0) (T := TX0) (N := 10) hx hb hts in_X0 hown hK hP 0 rfl rfl 1 (by decide) w_2 (fun _ h9 => h9) rfl dX0_hasLeft_9 ?_
  refine lv_iload_n hx hb dX0_hasLeft_12 rfl (lv_at hl 2 rfl) ?_
  refine k_i (va_runV (As := [.int 0]) (rest := [.int x7, .int 0]) ⟨hx, hb, hml, hown, hts⟩ (c_X4_hoursTo l D cy r0 r1 r2 2 g2 0 H.size ) (cwV 1 hts gX0_hasLeft_X4_hoursTo rfl rfl rfl (by decide +kernel) ⟨Nat.le_of_ble_eq_true rfl, Nat.le_of_ble_eq_true rfl⟩) (cp_v hK hN hP hD [1, 2] rfl (by decide) (ci := 4) rfl rfl rfl) rfl rfl hl.1 rfl (lv_room (Nat.le_of_ble_eq_true rfl)) dX0_hasLeft_13 ⟨Nat.le_of_ble_eq_true rfl, Nat.le_of_ble_eq_true rfl⟩) hP hD hS hA [1, 2] [0] (wr := [(b0, .inr (0, [.int 0, .ref r0, .ref u0, .ref t0, .ref l0, .ref q0, .ref of, .ref sh, .ref nl, .ref fc]))]) rfl rfl (by decide) (by decide) (fun r13 u_r13 H locs hw13 hP hD hS => ?_)
  try dsimp only at hw13
  have hP : va_P D vwCl [(b0, .inr (0, [.int 0, .ref r0, .ref u0, .ref t0, .ref l0, .ref q0, .ref of, .ref sh, .ref nl, .ref fc])), (r0, .inr (4, [.int 2, .ref r1, .ref r2])), (r2, .inl (cy 0, 9, .inl g2))] H := hP
  have hD : va_D A [(b0, .inr (0, [.int 0, .ref r0, .ref u0, .ref t0, .ref l0, .ref q0, .ref of, .ref sh, .ref nl, .ref fc])), (r0, .inr (4, [.int 2, .ref r1, .ref r2])), (r2, .inl (cy 0, 9, .inl g2))] := hD
  have hr13 : r13.toInt = 0 := by rw [hw13]; rfl
  refine lv_iadd hx hb dX0_hasLeft_16 ?_
  refine lv_topi (fun x16 ex16 => ?_)
  have tx16 := q_add (p := x7.toInt) (q := r13.toInt) ex16 rfl rfl (by omega) (by omega)
  refine lv_icmp_lt (tgt := 24) hx hb dX0_hasLeft_17 (by decide) (fun c17 => ?_) (fun c17 => ?_)
  · skip
    have fc17 := q_lt (a := 0) (b := x16.toInt) c17 (by decide) rfl
    refine lv_iconst (v := 0) hx hb dX0_hasLeft_24 (by decide) ?_
    exact r_z hx hb hr hlocks hK hS dX0_hasLeft_25 (by decide) (u := ()) hP hD (by first | exact Or.inl ⟨by decide, by omega⟩ | exact Or.inr ⟨by decide, by omega⟩)
  · skip
    have fc17 := q_nlt (a := 0) (b := x16.toInt) c17 (by decide) rfl
    refine lv_iconst (v := 1) hx hb dX0_hasLeft_20 (by decide) ?_
    refine lv_goto (tgt := 25) hx hb dX0_hasLeft_21 (by decide) ?_
    exact r_z hx hb hr hlocks hK hS dX0_hasLeft_25 (by decide) (u := ()) hP hD (by first | exact Or.inl ⟨by decide, by omega⟩ | exact Or.inr ⟨by decide, by omega⟩)

abbrev Q_c_hasT0 (D : va_G) (cy : Nat → ClassId) (t0 : Nat) (t1 : Nat) (t2 : Nat) (t3 : Nat) (t4 : Nat) (t5 : Nat) (t6 : Nat) (n : Int32) : (Nat → Prop) → Array Value → State → Outcome → State → Prop := QI D cy (fun (r : Int32) (_ : Unit) => r.toInt = 0) (fun _ : Unit => [(t0, .inr (7, [.int 0, .ref t1, .ref t2, .ref t3, .ref t4, .ref t5, .ref t6]))])
set_option maxHeartbeats 4000000 in
set_option maxRecDepth 100000 in
theorem c_hasT0 (l : Launch) (D : va_G) (cy : Nat → ClassId) (t0 : Nat) (t1 : Nat) (t2 : Nat) (t3 : Nat) (t4 : Nat) (t5 : Nat) (t6 : Nat) (n : Int32) (sz : Nat)  : Met l yX7_has wsX7_has ({ frames := 0, cells := 0, slots := 0, locals := 0 } : Room) (CP D cy [.ref t0, .int n] [(t0, .inr (7, [.int 0, .ref t1, .ref t2, .ref t3, .ref t4, .ref t5, .ref t6]))] sz) (Q_c_hasT0 D cy t0 t1 t2 t3 t4 t5 t6 n (va_A [(t0, .inr (7, [.int 0, .ref t1, .ref t2, .ref t3, .ref t4, .ref t5, .ref t6]))] sz)) 0 0 (va_A [(t0, .inr (7, [.int 0, .ref t1, .ref t2, .ref t3, .ref t4, .ref t5, .ref t6]))] sz) := by
  refine Met.go (Qc := Q_c_hasT0 D cy t0 t1 t2 t3 t4 t5 t6 n) (cc := cX7_has) (maxL := 2) (ret := (some .boolean)) (by decide) rfl (Nat.le_of_ble_eq_true rfl) ?_
  intro p e s m below meth c hx hb hr hts hown hlocks hin hml hK hN A hA hD hP hS ls hl hsz
  have hl : lv_has ls 2 [(0, .ref t0), (1, .int n)] := hl
  have in_X7 : ∀ w ∈ wsX70, w ∈ wsX7_has := fun _ h => List.mem_cons_of_mem _ ((List.mem_append_right _ h))
  have w_1 := hts (.fieldLink RX7 30 "SleepingCars$Tickets" "size" "I") (by decide +kernel)
  obtain ⟨H, eH⟩ : ∃ H : Heap, H = s.heap := ⟨_, rfl⟩
  obtain ⟨locs, eL⟩ : ∃ L : List Loc, L = [] := ⟨_, rfl⟩
  rw [← eL]
  rw [← eL] at hS
  have hP : va_P D vwCl [(t0, .inr (7, [.int 0, .ref t1, .ref t2, .ref t3, .ref t4, .ref t5, .ref t6]))] H := by rw [eH]; exact hP
  have hS : va_S A s.heap H locs := by rw [eH]; exact hS
  refine W.heapEq eH ?_
  clear eH eL
  refine lv_iload_n hx hb dX7_has_0 rfl (lv_at hl 1 rfl) ?_
  refine lv_if_lt (tgt := 16) hx hb dX7_has_1 (by decide) (fun c1 => ?_) (fun c1 => ?_)
  · skip
    have fc1 := q_lt (a := n.toInt) (b := 0) c1 rfl (by decide)
    refine lv_iconst (v := 0) hx hb dX7_has_16 (by decide) ?_
    exact r_z hx hb hr hlocks hK hS dX7_has_17 (by decide) (u := ()) hP hD (by decide)
  · skip
    have fc1 := q_nlt (a := n.toInt) (b := 0) c1 rfl (by decide)
    refine lv_iload_n hx hb dX7_has_4 rfl (lv_at hl 1 rfl) ?_
    refine lv_aload_n hx hb dX7_has_5 rfl (lv_at hl 0 rfl) ?_
    refine va_get (D := D) (ci := 7) (v := .int 0) (C := RX7) (T := TX7) (N := 7) hx hb hts in_X7 hown hK hP 0 rfl rfl 0 (by decide) w_1 (fun _ h9 => h9) rfl dX7_has_6 ?_
    refine lv_icmp_ge (tgt := 16) hx hb dX7_has_9 (by decide) (fun c9 => ?_) (fun c9 => ?_)
    · skip
      have fc9 := q_le (a := 0) (b := n.toInt) c9 (by decide) rfl
      refine lv_iconst (v := 0) hx hb dX7_has_16 (by decide) ?_
      exact r_z hx hb hr hlocks hK hS dX7_has_17 (by decide) (u := ()) hP hD (by decide)
    · skip
      have fc9 := q_nle (a := 0) (b := n.toInt) c9 (by decide) rfl
      exfalso; omega

abbrev Q_c_hasL0 (D : va_G) (cy : Nat → ClassId) (l0 : Nat) (l1 : Nat) (l2 : Nat) (l3 : Nat) (l4 : Nat) (l5 : Nat) (l6 : Nat) (l7 : Nat) (n : Int32) : (Nat → Prop) → Array Value → State → Outcome → State → Prop := QI D cy (fun (r : Int32) (_ : Unit) => r.toInt = 0) (fun _ : Unit => [(l0, .inr (1, [.int 0, .ref l1, .ref l2, .ref l3, .ref l4, .ref l5, .ref l6, .ref l7]))])
set_option maxHeartbeats 4000000 in
set_option maxRecDepth 100000 in
theorem c_hasL0 (l : Launch) (D : va_G) (cy : Nat → ClassId) (l0 : Nat) (l1 : Nat) (l2 : Nat) (l3 : Nat) (l4 : Nat) (l5 : Nat) (l6 : Nat) (l7 : Nat) (n : Int32) (sz : Nat)  : Met l yX1_has wsX1_has ({ frames := 0, cells := 0, slots := 0, locals := 0 } : Room) (CP D cy [.ref l0, .int n] [(l0, .inr (1, [.int 0, .ref l1, .ref l2, .ref l3, .ref l4, .ref l5, .ref l6, .ref l7]))] sz) (Q_c_hasL0 D cy l0 l1 l2 l3 l4 l5 l6 l7 n (va_A [(l0, .inr (1, [.int 0, .ref l1, .ref l2, .ref l3, .ref l4, .ref l5, .ref l6, .ref l7]))] sz)) 0 0 (va_A [(l0, .inr (1, [.int 0, .ref l1, .ref l2, .ref l3, .ref l4, .ref l5, .ref l6, .ref l7]))] sz) := by
  refine Met.go (Qc := Q_c_hasL0 D cy l0 l1 l2 l3 l4 l5 l6 l7 n) (cc := cX1_has) (maxL := 2) (ret := (some .boolean)) (by decide) rfl (Nat.le_of_ble_eq_true rfl) ?_
  intro p e s m below meth c hx hb hr hts hown hlocks hin hml hK hN A hA hD hP hS ls hl hsz
  have hl : lv_has ls 2 [(0, .ref l0), (1, .int n)] := hl
  have in_X1 : ∀ w ∈ wsX10, w ∈ wsX1_has := fun _ h => List.mem_cons_of_mem _ ((List.mem_append_right _ h))
  have w_1 := hts (.fieldLink RX1 33 "SleepingCars$Letters" "size" "I") (by decide +kernel)
  obtain ⟨H, eH⟩ : ∃ H : Heap, H = s.heap := ⟨_, rfl⟩
  obtain ⟨locs, eL⟩ : ∃ L : List Loc, L = [] := ⟨_, rfl⟩
  rw [← eL]
  rw [← eL] at hS
  have hP : va_P D vwCl [(l0, .inr (1, [.int 0, .ref l1, .ref l2, .ref l3, .ref l4, .ref l5, .ref l6, .ref l7]))] H := by rw [eH]; exact hP
  have hS : va_S A s.heap H locs := by rw [eH]; exact hS
  refine W.heapEq eH ?_
  clear eH eL
  refine lv_iload_n hx hb dX1_has_0 rfl (lv_at hl 1 rfl) ?_
  refine lv_if_lt (tgt := 16) hx hb dX1_has_1 (by decide) (fun c1 => ?_) (fun c1 => ?_)
  · skip
    have fc1 := q_lt (a := n.toInt) (b := 0) c1 rfl (by decide)
    refine lv_iconst (v := 0) hx hb dX1_has_16 (by decide) ?_
    exact r_z hx hb hr hlocks hK hS dX1_has_17 (by decide) (u := ()) hP hD (by decide)
  · skip
    have fc1 := q_nlt (a := n.toInt) (b := 0) c1 rfl (by decide)
    refine lv_iload_n hx hb dX1_has_4 rfl (lv_at hl 1 rfl) ?_
    refine lv_aload_n hx hb dX1_has_5 rfl (lv_at hl 0 rfl) ?_
    refine va_get (D := D) (ci := 1) (v := .int 0) (C := RX1) (T := TX1) (N := 8) hx hb hts in_X1 hown hK hP 0 rfl rfl 0 (by decide) w_1 (fun _ h9 => h9) rfl dX1_has_6 ?_
    refine lv_icmp_ge (tgt := 16) hx hb dX1_has_9 (by decide) (fun c9 => ?_) (fun c9 => ?_)
    · skip
      have fc9 := q_le (a := 0) (b := n.toInt) c9 (by decide) rfl
      refine lv_iconst (v := 0) hx hb dX1_has_16 (by decide) ?_
      exact r_z hx hb hr hlocks hK hS dX1_has_17 (by decide) (u := ()) hP hD (by decide)
    · skip
      have fc9 := q_nle (a := 0) (b := n.toInt) c9 (by decide) rfl
      exfalso; omega
