abbrev Q_c_X9_line (D : va_G) (cy : Nat → ClassId) (x0 : Nat) (b0 : Nat) (im : Nat) (tp : Nat) (rd : Nat) (r0 : Nat) (u0 : Nat) (t0 : Nat) (l0 : Nat) (q0 : Nat) (of : Nat) (sh : Nat) (nl : Nat) (fc : Nat) (u1 : Nat) (u2 : Nat) (u3 : Nat) (r1 : Nat) (r2 : Nat) (g1 : Nat → Int32) (g2 : Nat → Int32) (n : Int32) : (Nat → Prop) → Array Value → State → Outcome → State → Prop := QI D cy (fun (r : Int32) (_ : Unit) => (r.toInt = 1 ∧ (2 ≤ n.toInt ∧ n.toInt ≤ 10)) ∨ (r.toInt = 0 ∧ ¬ (2 ≤ n.toInt ∧ n.toInt ≤ 10))) (fun _ : Unit => [])
set_option maxHeartbeats 4000000 in
set_option maxRecDepth 100000 in
theorem c_X9_line (l : Launch) (D : va_G) (cy : Nat → ClassId) (x0 : Nat) (b0 : Nat) (im : Nat) (tp : Nat) (rd : Nat) (r0 : Nat) (u0 : Nat) (t0 : Nat) (l0 : Nat) (q0 : Nat) (of : Nat) (sh : Nat) (nl : Nat) (fc : Nat) (u1 : Nat) (u2 : Nat) (u3 : Nat) (r1 : Nat) (r2 : Nat) (g1 : Nat → Int32) (g2 : Nat → Int32) (n : Int32) (sz : Nat)  : Met l yX9_line wsX9_line ({ frames := 2, cells := 0, slots := 0, locals := 44 } : Room) (CP D cy [.ref x0, .int n] [(x0, .inr (9, [.ref b0, .ref im, .ref tp, .ref rd])), (b0, .inr (0, [.int 0, .ref r0, .ref u0, .ref t0, .ref l0, .ref q0, .ref of, .ref sh, .ref nl, .ref fc])), (u0, .inr (5, [.int 0, .ref u1, .ref u2, .ref u3])), (r0, .inr (4, [.int 2, .ref r1, .ref r2])), (r1, .inl (cy 0, 9, .inl g1)), (r2, .inl (cy 0, 9, .inl g2)), (of, .inl (cy 0, 6, .inl (fun _ => 0)))] sz) (Q_c_X9_line D cy x0 b0 im tp rd r0 u0 t0 l0 q0 of sh nl fc u1 u2 u3 r1 r2 g1 g2 n (va_A [(x0, .inr (9, [.ref b0, .ref im, .ref tp, .ref rd])), (b0, .inr (0, [.int 0, .ref r0, .ref u0, .ref t0, .ref l0, .ref q0, .ref of, .ref sh, .ref nl, .ref fc])), (u0, .inr (5, [.int 0, .ref u1, .ref u2, .ref u3])), (r0, .inr (4, [.int 2, .ref r1, .ref r2])), (r1, .inl (cy 0, 9, .inl g1)), (r2, .inl (cy 0, 9, .inl g2)), (of, .inl (cy 0, 6, .inl (fun _ => 0)))] sz)) 0 0 (va_A [(x0, .inr (9, [.ref b0, .ref im, .ref tp, .ref rd])), (b0, .inr (0, [.int 0, .ref r0, .ref u0, .ref t0, .ref l0, .ref q0, .ref of, .ref sh, .ref nl, .ref fc])), (u0, .inr (5, [.int 0, .ref u1, .ref u2, .ref u3])), (r0, .inr (4, [.int 2, .ref r1, .ref r2])), (r1, .inl (cy 0, 9, .inl g1)), (r2, .inl (cy 0, 9, .inl g2)), (of, .inl (cy 0, 6, .inl (fun _ => 0)))] sz) := by
  refine Met.go (Qc := Q_c_X9_line D cy x0 b0 im tp rd r0 u0 t0 l0 q0 of sh nl fc u1 u2 u3 r1 r2 g1 g2 n) (cc := cX9_line) (maxL := 2) (ret := (some .boolean)) (by decide) rfl (Nat.le_of_ble_eq_true rfl) ?_
  intro p e s m below meth c hx hb hr hts hown hlocks hin hml hK hN A hA hD hP hS ls hl hsz
  have hl : lv_has ls 2 [(0, .ref x0), (1, .int n)] := hl
  have in_X9 : ∀ w ∈ wsX90, w ∈ wsX9_line := fun _ h => List.mem_cons_of_mem _ (List.mem_append_left _ (List.mem_append_left _ (List.mem_append_left _ ((List.mem_append_right _ h)))))
  have w_1 := hts (.fieldLink RX9 10 "SleepingCars" "book" "LSleepingCars$Book;") (by decide +kernel)
  have in_X0 : ∀ w ∈ wsX00, w ∈ wsX9_line := fun _ h => List.mem_cons_of_mem _ (List.mem_append_left _ (List.mem_append_left _ ((List.mem_append_right _ h))))
  have w_3 := hts (.fieldLink RX9 34 "SleepingCars$Book" "runs" "LSleepingCars$Runs;") (by decide +kernel)
  have in_X5 : ∀ w ∈ wsX50, w ∈ wsX9_line := fun _ h => List.mem_cons_of_mem _ (List.mem_append_left _ ((List.mem_append_right _ h)))
  have w_5 := hts (.fieldLink RX9 38 "SleepingCars$Runs" "size" "I") (by decide +kernel)
  have w_6 := hts (.fieldLink RX9 44 "SleepingCars$Book" "route" "LSleepingCars$Route;") (by decide +kernel)
  have w_7 := hts (.instanceMethod yX4_lay) (by decide +kernel)
  have w_8 := hts (.fieldLink RX9 54 "SleepingCars$Book" "officeStops" "[I") (by decide +kernel)
  obtain ⟨H, eH⟩ : ∃ H : Heap, H = s.heap := ⟨_, rfl⟩
  obtain ⟨locs, eL⟩ : ∃ L : List Loc, L = [] := ⟨_, rfl⟩
  rw [← eL]
  rw [← eL] at hS
  have hP : va_P D vwCl [(x0, .inr (9, [.ref b0, .ref im, .ref tp, .ref rd])), (b0, .inr (0, [.int 0, .ref r0, .ref u0, .ref t0, .ref l0, .ref q0, .ref of, .ref sh, .ref nl, .ref fc])), (u0, .inr (5, [.int 0, .ref u1, .ref u2, .ref u3])), (r0, .inr (4, [.int 2, .ref r1, .ref r2])), (r1, .inl (cy 0, 9, .inl g1)), (r2, .inl (cy 0, 9, .inl g2)), (of, .inl (cy 0, 6, .inl (fun _ => 0)))] H := by rw [eH]; exact hP
  have hS : va_S A s.heap H locs := by rw [eH]; exact hS
  refine W.heapEq eH ?_
  clear eH eL
  refine lv_aload_n hx hb dX9_line_0 rfl (lv_at hl 0 rfl) ?_
  refine va_get (D := D) (ci := 9) (v := .ref b0) (C := RX9) (T := TX9) (N := 4) hx hb hts in_X9 hown hK hP 0 rfl rfl 0 (by decide) w_1 (fun _ h9 => h9) rfl dX9_line_1 ?_
  refine va_get (D := D) (ci := 0) (v := .ref u0) (C := RX0) (T := TX0) (N := 10) hx hb hts in_X0 hown hK hP 1 rfl rfl 2 (by decide) w_3 (fun _ h9 => h9) rfl dX9_line_4 ?_
  refine va_get (D := D) (ci := 5) (v := .int 0) (C := RX5) (T := TX5) (N := 4) hx hb hts in_X5 hown hK hP 2 rfl rfl 0 (by decide) w_5 (fun _ h9 => h9) rfl dX9_line_7 ?_
  refine lv_if_gt (tgt := 24) hx hb dX9_line_10 (by decide) (fun c10 => ?_) (fun c10 => ?_)
  · skip
    exact absurd c10 (by decide)
  · skip
    refine lv_iload_n hx hb dX9_line_13 rfl (lv_at hl 1 rfl) ?_
    refine lv_iconst (v := 2) hx hb dX9_line_14 (by decide) ?_
    refine lv_icmp_lt (tgt := 24) hx hb dX9_line_15 (by decide) (fun c15 => ?_) (fun c15 => ?_)
    · skip
      have fc15 := q_lt (a := n.toInt) (b := 2) c15 rfl (by decide)
      refine lv_iconst (v := 0) hx hb dX9_line_24 (by decide) ?_
      exact r_z hx hb hr hlocks hK hS dX9_line_25 (by decide) (u := ()) (hP.sub (ws' := []) [] rfl) (hD.sub (ws' := []) [] (by decide) rfl) (by first | exact Or.inl ⟨by decide, by omega⟩ | exact Or.inr ⟨by decide, by omega⟩)
    · skip
      have fc15 := q_nlt (a := n.toInt) (b := 2) c15 rfl (by decide)
      refine lv_iload_n hx hb dX9_line_18 rfl (lv_at hl 1 rfl) ?_
      refine lv_bipush (v := 10) hx hb dX9_line_19 (by decide) ?_
      refine lv_icmp_le (tgt := 26) hx hb dX9_line_21 (by decide) (fun c21 => ?_) (fun c21 => ?_)
      · skip
        have fc21 := q_le (a := n.toInt) (b := 10) c21 rfl (by decide)
        refine lv_aload_n hx hb dX9_line_26 rfl (lv_at hl 0 rfl) ?_
        refine va_get (D := D) (ci := 9) (v := .ref b0) (C := RX9) (T := TX9) (N := 4) hx hb hts in_X9 hown hK hP 0 rfl rfl 0 (by decide) w_1 (fun _ h9 => h9) rfl dX9_line_27 ?_
        refine va_get (D := D) (ci := 0) (v := .ref r0) (C := RX0) (T := TX0) (N := 10) hx hb hts in_X0 hown hK hP 1 rfl rfl 1 (by decide) w_6 (fun _ h9 => h9) rfl dX9_line_30 ?_
        refine lv_iload_n hx hb dX9_line_33 rfl (lv_at hl 1 rfl) ?_
        refine k_v (va_runV (As := [.int n]) (rest := []) ⟨hx, hb, hml, hown, hts⟩ (c_X4_lay l D cy r0 r1 r2 2 g1 g2 n H.size ) (cwV 1 hts gX9_line_X4_lay rfl rfl rfl (by decide +kernel) ⟨Nat.le_of_ble_eq_true rfl, Nat.le_of_ble_eq_true rfl⟩) (cp_v hK hN hP hD [3, 4, 5] rfl (by decide) (ci := 4) rfl rfl rfl) rfl rfl hl.1 rfl (lv_room (Nat.le_of_ble_eq_true rfl)) dX9_line_34 ⟨Nat.le_of_ble_eq_true rfl, Nat.le_of_ble_eq_true rfl⟩) hP hD hS hA [3, 4, 5] [0, 1, 2, 6] (wr := [(x0, .inr (9, [.ref b0, .ref im, .ref tp, .ref rd])), (b0, .inr (0, [.int 0, .ref r0, .ref u0, .ref t0, .ref l0, .ref q0, .ref of, .ref sh, .ref nl, .ref fc])), (u0, .inr (5, [.int 0, .ref u1, .ref u2, .ref u3])), (of, .inl (cy 0, 6, .inl (fun _ => 0)))]) rfl rfl (by decide) (by decide) (fun u_r34 H locs hw34 hP hD hS => ?_)
        obtain ⟨o34, o34_1⟩ := u_r34
        try dsimp only at hw34
        have hP : va_P D vwCl [(x0, .inr (9, [.ref b0, .ref im, .ref tp, .ref rd])), (b0, .inr (0, [.int 0, .ref r0, .ref u0, .ref t0, .ref l0, .ref q0, .ref of, .ref sh, .ref nl, .ref fc])), (u0, .inr (5, [.int 0, .ref u1, .ref u2, .ref u3])), (of, .inl (cy 0, 6, .inl (fun _ => 0))), (r0, .inr (4, [.int n, .ref r1, .ref r2])), (r1, .inl (cy 0, 9, .inl o34)), (r2, .inl (cy 0, 9, .inl o34_1))] H := hP
        have hD : va_D A [(x0, .inr (9, [.ref b0, .ref im, .ref tp, .ref rd])), (b0, .inr (0, [.int 0, .ref r0, .ref u0, .ref t0, .ref l0, .ref q0, .ref of, .ref sh, .ref nl, .ref fc])), (u0, .inr (5, [.int 0, .ref u1, .ref u2, .ref u3])), (of, .inl (cy 0, 6, .inl (fun _ => 0))), (r0, .inr (4, [.int n, .ref r1, .ref r2])), (r1, .inl (cy 0, 9, .inl o34)), (r2, .inl (cy 0, 9, .inl o34_1))] := hD
        refine lv_aload_n hx hb dX9_line_37 rfl (lv_at hl 0 rfl) ?_
        refine va_get (D := D) (ci := 9) (v := .ref b0) (C := RX9) (T := TX9) (N := 4) hx hb hts in_X9 hown hK hP 0 rfl rfl 0 (by decide) w_1 (fun _ h9 => h9) rfl dX9_line_38 ?_
        refine va_get (D := D) (ci := 0) (v := .ref of) (C := RX0) (T := TX0) (N := 10) hx hb hts in_X0 hown hK hP 1 rfl rfl 6 (by decide) w_8 (fun _ h9 => h9) rfl dX9_line_41 ?_
        refine lv_iconst (v := 0) hx hb dX9_line_44 (by decide) ?_
        refine k_v (va_runS (As := [.ref of, .int 0]) (rest := []) ⟨hx, hb, hml, hown, hts⟩ (c_fill_6 l D cy of (fun _ => 0) 0 H.size ) (va_cwS 2 hts gX9_line_J7_fill_53178 rfl rfl rfl (by decide +kernel) ⟨Nat.le_of_ble_eq_true rfl, Nat.le_of_ble_eq_true rfl⟩) (cp_s hK hN hP hD [3] rfl (by decide)) rfl rfl hl.1 rfl (lv_room (Nat.le_of_ble_eq_true rfl)) dX9_line_45 ⟨Nat.le_of_ble_eq_true rfl, Nat.le_of_ble_eq_true rfl⟩) hP hD hS hA [3] [0, 1, 2, 4, 5, 6] (wr := [(x0, .inr (9, [.ref b0, .ref im, .ref tp, .ref rd])), (b0, .inr (0, [.int 0, .ref r0, .ref u0, .ref t0, .ref l0, .ref q0, .ref of, .ref sh, .ref nl, .ref fc])), (u0, .inr (5, [.int 0, .ref u1, .ref u2, .ref u3])), (r0, .inr (4, [.int n, .ref r1, .ref r2])), (r1, .inl (cy 0, 9, .inl o34)), (r2, .inl (cy 0, 9, .inl o34_1))]) rfl rfl (by decide) (by decide) (fun u_r45 H locs hw45 hP hD hS => ?_)
        try dsimp only at hw45
        have hP : va_P D vwCl [(x0, .inr (9, [.ref b0, .ref im, .ref tp, .ref rd])), (b0, .inr (0, [.int 0, .ref r0, .ref u0, .ref t0, .ref l0, .ref q0, .ref of, .ref sh, .ref nl, .ref fc])), (u0, .inr (5, [.int 0, .ref u1, .ref u2, .ref u3])), (r0, .inr (4, [.int n, .ref r1, .ref r2])), (r1, .inl (cy 0, 9, .inl o34)), (r2, .inl (cy 0, 9, .inl o34_1)), (of, .inl (cy 0, 6, .inl u_r45))] H := hP
        have hD : va_D A [(x0, .inr (9, [.ref b0, .ref im, .ref tp, .ref rd])), (b0, .inr (0, [.int 0, .ref r0, .ref u0, .ref t0, .ref l0, .ref q0, .ref of, .ref sh, .ref nl, .ref fc])), (u0, .inr (5, [.int 0, .ref u1, .ref u2, .ref u3])), (r0, .inr (4, [.int n, .ref r1, .ref r2])), (r1, .inl (cy 0, 9, .inl o34)), (r2, .inl (cy 0, 9, .inl o34_1)), (of, .inl (cy 0, 6, .inl u_r45))] := hD
        refine lv_iconst (v := 1) hx hb dX9_line_48 (by decide) ?_
        exact r_z hx hb hr hlocks hK hS dX9_line_49 (by decide) (u := ()) (hP.sub (ws' := []) [] rfl) (hD.sub (ws' := []) [] (by decide) rfl) (by first | exact Or.inl ⟨by decide, by omega⟩ | exact Or.inr ⟨by decide, by omega⟩)
      · skip
        have fc21 := q_nle (a := n.toInt) (b := 10) c21 rfl (by decide)
        refine lv_iconst (v := 0) hx hb dX9_line_24 (by decide) ?_
        exact r_z hx hb hr hlocks hK hS dX9_line_25 (by decide) (u := ()) (hP.sub (ws' := []) [] rfl) (hD.sub (ws' := []) [] (by decide) rfl) (by first | exact Or.inl ⟨by decide, by omega⟩ | exact Or.inr ⟨by decide, by omega⟩)

abbrev Q_c_X9_stretch (D : va_G) (cy : Nat → ClassId) (x0 : Nat) (b0 : Nat) (im : Nat) (tp : Nat) (rd : Nat) (r0 : Nat) (u0 : Nat) (t0 : Nat) (l0 : Nat) (q0 : Nat) (of : Nat) (sh : Nat) (nl : Nat) (fc : Nat) (u1 : Nat) (u2 : Nat) (u3 : Nat) (r1 : Nat) (r2 : Nat) (g1 : Nat → Int32) (g2 : Nat → Int32) (stop : Int32) (km : Int32) (hs : Int32) : (Nat → Prop) → Array Value → State → Outcome → State → Prop := QI D cy (fun (r : Int32) (_ : Unit) => (r.toInt = 1 ∧ (stop.toInt = 0 ∧ 1 ≤ km.toInt ∧ km.toInt ≤ 500 ∧ 1 ≤ hs.toInt ∧ hs.toInt ≤ 24)) ∨ (r.toInt = 0 ∧ ¬ (stop.toInt = 0 ∧ 1 ≤ km.toInt ∧ km.toInt ≤ 500 ∧ 1 ≤ hs.toInt ∧ hs.toInt ≤ 24))) (fun _ : Unit => [])
set_option maxHeartbeats 4000000 in
set_option maxRecDepth 100000 in
theorem c_X9_stretch (l : Launch) (D : va_G) (cy : Nat → ClassId) (x0 : Nat) (b0 : Nat) (im : Nat) (tp : Nat) (rd : Nat) (r0 : Nat) (u0 : Nat) (t0 : Nat) (l0 : Nat) (q0 : Nat) (of : Nat) (sh : Nat) (nl : Nat) (fc : Nat) (u1 : Nat) (u2 : Nat) (u3 : Nat) (r1 : Nat) (r2 : Nat) (g1 : Nat → Int32) (g2 : Nat → Int32) (stop : Int32) (km : Int32) (hs : Int32) (sz : Nat)  : Met l yX9_stretch wsX9_stretch ({ frames := 1, cells := 0, slots := 0, locals := 21 } : Room) (CP D cy [.ref x0, .int stop, .int km, .int hs] [(x0, .inr (9, [.ref b0, .ref im, .ref tp, .ref rd])), (b0, .inr (0, [.int 0, .ref r0, .ref u0, .ref t0, .ref l0, .ref q0, .ref of, .ref sh, .ref nl, .ref fc])), (u0, .inr (5, [.int 0, .ref u1, .ref u2, .ref u3])), (r0, .inr (4, [.int 2, .ref r1, .ref r2])), (r1, .inl (cy 0, 9, .inl g1)), (r2, .inl (cy 0, 9, .inl g2))] sz) (Q_c_X9_stretch D cy x0 b0 im tp rd r0 u0 t0 l0 q0 of sh nl fc u1 u2 u3 r1 r2 g1 g2 stop km hs (va_A [(x0, .inr (9, [.ref b0, .ref im, .ref tp, .ref rd])), (b0, .inr (0, [.int 0, .ref r0, .ref u0, .ref t0, .ref l0, .ref q0, .ref of, .ref sh, .ref nl, .ref fc])), (u0, .inr (5, [.int 0, .ref u1, .ref u2, .ref u3])), (r0, .inr (4, [.int 2, .ref r1, .ref r2])), (r1, .inl (cy 0, 9, .inl g1)), (r2, .inl (cy 0, 9, .inl g2))] sz)) 0 0 (va_A [(x0, .inr (9, [.ref b0, .ref im, .ref tp, .ref rd])), (b0, .inr (0, [.int 0, .ref r0, .ref u0, .ref t0, .ref l0, .ref q0, .ref of, .ref sh, .ref nl, .ref fc])), (u0, .inr (5, [.int 0, .ref u1, .ref u2, .ref u3])), (r0, .inr (4, [.int 2, .ref r1, .ref r2])), (r1, .inl (cy 0, 9, .inl g1)), (r2, .inl (cy 0, 9, .inl g2))] sz) := by
  refine Met.go (Qc := Q_c_X9_stretch D cy x0 b0 im tp rd r0 u0 t0 l0 q0 of sh nl fc u1 u2 u3 r1 r2 g1 g2 stop km hs) (cc := cX9_stretch) (maxL := 4) (ret := (some .boolean)) (by decide) rfl (Nat.le_of_ble_eq_true rfl) ?_
  intro p e s m below meth c hx hb hr hts hown hlocks hin hml hK hN A hA hD hP hS ls hl hsz
  have hl : lv_has ls 4 [(0, .ref x0), (1, .int stop), (2, .int km), (3, .int hs)] := hl
  have in_X9 : ∀ w ∈ wsX90, w ∈ wsX9_stretch := fun _ h => List.mem_cons_of_mem _ (List.mem_append_left _ (List.mem_append_left _ (List.mem_append_left _ ((List.mem_append_right _ h)))))
  have w_1 := hts (.fieldLink RX9 10 "SleepingCars" "book" "LSleepingCars$Book;") (by decide +kernel)
  have in_X0 : ∀ w ∈ wsX00, w ∈ wsX9_stretch := fun _ h => List.mem_cons_of_mem _ (List.mem_append_left _ (List.mem_append_left _ ((List.mem_append_right _ h))))
  have w_3 := hts (.fieldLink RX9 34 "SleepingCars$Book" "runs" "LSleepingCars$Runs;") (by decide +kernel)
  have in_X5 : ∀ w ∈ wsX50, w ∈ wsX9_stretch := fun _ h => List.mem_cons_of_mem _ (List.mem_append_left _ ((List.mem_append_right _ h)))
  have w_5 := hts (.fieldLink RX9 38 "SleepingCars$Runs" "size" "I") (by decide +kernel)
  have w_6 := hts (.fieldLink RX9 44 "SleepingCars$Book" "route" "LSleepingCars$Route;") (by decide +kernel)
  have w_7 := hts (.instanceMethod yX4_hasLeg) (by decide +kernel)
  have in_X4 : ∀ w ∈ wsX40, w ∈ wsX9_stretch := fun _ h => List.mem_cons_of_mem _ ((List.mem_append_right _ h))
  have w_9 := hts (.fieldLink RX9 68 "SleepingCars$Route" "legKm" "[I") (by decide +kernel)
  have w_10 := hts (.fieldLink RX9 71 "SleepingCars$Route" "legHours" "[I") (by decide +kernel)
  obtain ⟨H, eH⟩ : ∃ H : Heap, H = s.heap := ⟨_, rfl⟩
  obtain ⟨locs, eL⟩ : ∃ L : List Loc, L = [] := ⟨_, rfl⟩
  rw [← eL]
  rw [← eL] at hS
  have hP : va_P D vwCl [(x0, .inr (9, [.ref b0, .ref im, .ref tp, .ref rd])), (b0, .inr (0, [.int 0, .ref r0, .ref u0, .ref t0, .ref l0, .ref q0, .ref of, .ref sh, .ref nl, .ref fc])), (u0, .inr (5, [.int 0, .ref u1, .ref u2, .ref u3])), (r0, .inr (4, [.int 2, .ref r1, .ref r2])), (r1, .inl (cy 0, 9, .inl g1)), (r2, .inl (cy 0, 9, .inl g2))] H := by rw [eH]; exact hP
  have hS : va_S A s.heap H locs := by rw [eH]; exact hS
  refine W.heapEq eH ?_
  clear eH eL
  refine lv_aload_n hx hb dX9_stretch_0 rfl (lv_at hl 0 rfl) ?_
  refine va_get (D := D) (ci := 9) (v := .ref b0) (C := RX9) (T := TX9) (N := 4) hx hb hts in_X9 hown hK hP 0 rfl rfl 0 (by decide) w_1 (fun _ h9 => h9) rfl dX9_stretch_1 ?_
  refine va_get (D := D) (ci := 0) (v := .ref u0) (C := RX0) (T := TX0) (N := 10) hx hb hts in_X0 hown hK hP 1 rfl rfl 2 (by decide) w_3 (fun _ h9 => h9) rfl dX9_stretch_4 ?_
  refine va_get (D := D) (ci := 5) (v := .int 0) (C := RX5) (T := TX5) (N := 4) hx hb hts in_X5 hown hK hP 2 rfl rfl 0 (by decide) w_5 (fun _ h9 => h9) rfl dX9_stretch_7 ?_
  refine lv_if_gt (tgt := 27) hx hb dX9_stretch_10 (by decide) (fun c10 => ?_) (fun c10 => ?_)
  · skip
    exact absurd c10 (by decide)
  · skip
    refine lv_aload_n hx hb dX9_stretch_13 rfl (lv_at hl 0 rfl) ?_
    refine va_get (D := D) (ci := 9) (v := .ref b0) (C := RX9) (T := TX9) (N := 4) hx hb hts in_X9 hown hK hP 0 rfl rfl 0 (by decide) w_1 (fun _ h9 => h9) rfl dX9_stretch_14 ?_
    refine va_get (D := D) (ci := 0) (v := .ref r0) (C := RX0) (T := TX0) (N := 10) hx hb hts in_X0 hown hK hP 1 rfl rfl 1 (by decide) w_6 (fun _ h9 => h9) rfl dX9_stretch_17 ?_
    refine lv_iload_n hx hb dX9_stretch_20 rfl (lv_at hl 1 rfl) ?_
    refine k_i (va_runV (As := [.int stop]) (rest := []) ⟨hx, hb, hml, hown, hts⟩ (c_X4_hasLeg l D cy r0 r1 r2 2 stop H.size (by decide)) (cwV 1 hts gX9_stretch_X4_hasLeg rfl rfl rfl (by decide +kernel) ⟨Nat.le_of_ble_eq_true rfl, Nat.le_of_ble_eq_true rfl⟩) (cp_v hK hN hP hD [3] rfl (by decide) (ci := 4) rfl rfl rfl) rfl rfl hl.1 rfl (lv_room (Nat.le_of_ble_eq_true rfl)) dX9_stretch_21 ⟨Nat.le_of_ble_eq_true rfl, Nat.le_of_ble_eq_true rfl⟩) hP hD hS hA [3] [0, 1, 2, 4, 5] (wr := [(x0, .inr (9, [.ref b0, .ref im, .ref tp, .ref rd])), (b0, .inr (0, [.int 0, .ref r0, .ref u0, .ref t0, .ref l0, .ref q0, .ref of, .ref sh, .ref nl, .ref fc])), (u0, .inr (5, [.int 0, .ref u1, .ref u2, .ref u3])), (r1, .inl (cy 0, 9, .inl g1)), (r2, .inl (cy 0, 9, .inl g2))]) rfl rfl (by decide) (by decide) (fun r21 u_r21 H locs hw21 hP hD hS => ?_)
    try dsimp only at hw21
    have hP : va_P D vwCl [(x0, .inr (9, [.ref b0, .ref im, .ref tp, .ref rd])), (b0, .inr (0, [.int 0, .ref r0, .ref u0, .ref t0, .ref l0, .ref q0, .ref of, .ref sh, .ref nl, .ref fc])), (u0, .inr (5, [.int 0, .ref u1, .ref u2, .ref u3])), (r1, .inl (cy 0, 9, .inl g1)), (r2, .inl (cy 0, 9, .inl g2)), (r0, .inr (4, [.int 2, .ref r1, .ref r2]))] H := hP
    have hD : va_D A [(x0, .inr (9, [.ref b0, .ref im, .ref tp, .ref rd])), (b0, .inr (0, [.int 0, .ref r0, .ref u0, .ref t0, .ref l0, .ref q0, .ref of, .ref sh, .ref nl, .ref fc])), (u0, .inr (5, [.int 0, .ref u1, .ref u2, .ref u3])), (r1, .inl (cy 0, 9, .inl g1)), (r2, .inl (cy 0, 9, .inl g2)), (r0, .inr (4, [.int 2, .ref r1, .ref r2]))] := hD
    simp only [show (2 : Int32).toInt = 2 by decide] at hw21
    refine lv_if_ne (tgt := 29) hx hb dX9_stretch_24 (by decide) (fun c24 => ?_) (fun c24 => ?_)
    · skip
      have fc24 := q_ne (a := r21.toInt) (b := 0) c24 rfl (by decide)
      refine lv_iload_n hx hb dX9_stretch_29 rfl (lv_at hl 2 rfl) ?_
      refine lv_iconst (v := 1) hx hb dX9_stretch_30 (by decide) ?_
      refine lv_icmp_lt (tgt := 52) hx hb dX9_stretch_31 (by decide) (fun c31 => ?_) (fun c31 => ?_)
      · skip
        have fc31 := q_lt (a := km.toInt) (b := 1) c31 rfl (by decide)
        refine lv_iconst (v := 0) hx hb dX9_stretch_52 (by decide) ?_
        exact r_z hx hb hr hlocks hK hS dX9_stretch_53 (by decide) (u := ()) (hP.sub (ws' := []) [] rfl) (hD.sub (ws' := []) [] (by decide) rfl) (by first | exact Or.inl ⟨by decide, by omega⟩ | exact Or.inr ⟨by decide, by omega⟩)
      · skip
        have fc31 := q_nlt (a := km.toInt) (b := 1) c31 rfl (by decide)
        refine lv_iload_n hx hb dX9_stretch_34 rfl (lv_at hl 2 rfl) ?_
        refine lv_sipush (v := 500) hx hb dX9_stretch_35 (by decide) ?_
        refine lv_icmp_gt (tgt := 52) hx hb dX9_stretch_38 (by decide) (fun c38 => ?_) (fun c38 => ?_)
        · skip
          have fc38 := q_lt (a := 500) (b := km.toInt) c38 (by decide) rfl
          refine lv_iconst (v := 0) hx hb dX9_stretch_52 (by decide) ?_
          exact r_z hx hb hr hlocks hK hS dX9_stretch_53 (by decide) (u := ()) (hP.sub (ws' := []) [] rfl) (hD.sub (ws' := []) [] (by decide) rfl) (by first | exact Or.inl ⟨by decide, by omega⟩ | exact Or.inr ⟨by decide, by omega⟩)
        · skip
          have fc38 := q_nlt (a := 500) (b := km.toInt) c38 (by decide) rfl
          refine lv_iload_n hx hb dX9_stretch_41 rfl (lv_at hl 3 rfl) ?_
          refine lv_iconst (v := 1) hx hb dX9_stretch_42 (by decide) ?_
          refine lv_icmp_lt (tgt := 52) hx hb dX9_stretch_43 (by decide) (fun c43 => ?_) (fun c43 => ?_)
          · skip
            have fc43 := q_lt (a := hs.toInt) (b := 1) c43 rfl (by decide)
            refine lv_iconst (v := 0) hx hb dX9_stretch_52 (by decide) ?_
            exact r_z hx hb hr hlocks hK hS dX9_stretch_53 (by decide) (u := ()) (hP.sub (ws' := []) [] rfl) (hD.sub (ws' := []) [] (by decide) rfl) (by first | exact Or.inl ⟨by decide, by omega⟩ | exact Or.inr ⟨by decide, by omega⟩)
          · skip
            have fc43 := q_nlt (a := hs.toInt) (b := 1) c43 rfl (by decide)
            refine lv_iload_n hx hb dX9_stretch_46 rfl (lv_at hl 3 rfl) ?_
            refine lv_bipush (v := 24) hx hb dX9_stretch_47 (by decide) ?_
            refine lv_icmp_le (tgt := 54) hx hb dX9_stretch_49 (by decide) (fun c49 => ?_) (fun c49 => ?_)
            · skip
              have fc49 := q_le (a := hs.toInt) (b := 24) c49 rfl (by decide)
              refine lv_aload_n hx hb dX9_stretch_54 rfl (lv_at hl 0 rfl) ?_
              refine va_get (D := D) (ci := 9) (v := .ref b0) (C := RX9) (T := TX9) (N := 4) hx hb hts in_X9 hown hK hP 0 rfl rfl 0 (by decide) w_1 (fun _ h9 => h9) rfl dX9_stretch_55 ?_
              refine va_get (D := D) (ci := 0) (v := .ref r0) (C := RX0) (T := TX0) (N := 10) hx hb hts in_X0 hown hK hP 1 rfl rfl 1 (by decide) w_6 (fun _ h9 => h9) rfl dX9_stretch_58 ?_
              refine va_get (D := D) (ci := 4) (v := .ref r1) (C := RX4) (T := TX4) (N := 3) hx hb hts in_X4 hown hK hP 5 rfl rfl 1 (by decide) w_9 (fun _ h9 => h9) rfl dX9_stretch_61 ?_
              refine lv_iload_n hx hb dX9_stretch_64 rfl (lv_at hl 1 rfl) ?_
              refine lv_iload_n hx hb dX9_stretch_65 rfl (lv_at hl 2 rfl) ?_
              refine va_iast hx hb hK hP hD hS 3 0 rfl rfl (q_in (a := stop.toInt) rfl (by omega) (by omega)) dX9_stretch_66 (fun H locs hP hD hS => ?_)
              have hP : va_P D vwCl [(x0, .inr (9, [.ref b0, .ref im, .ref tp, .ref rd])), (b0, .inr (0, [.int 0, .ref r0, .ref u0, .ref t0, .ref l0, .ref q0, .ref of, .ref sh, .ref nl, .ref fc])), (u0, .inr (5, [.int 0, .ref u1, .ref u2, .ref u3])), (r1, .inl (cy 0, 9, .inl (upd g1 stop.toNatClampNeg km))), (r2, .inl (cy 0, 9, .inl g2)), (r0, .inr (4, [.int 2, .ref r1, .ref r2]))] H := hP
              have hD : va_D A [(x0, .inr (9, [.ref b0, .ref im, .ref tp, .ref rd])), (b0, .inr (0, [.int 0, .ref r0, .ref u0, .ref t0, .ref l0, .ref q0, .ref of, .ref sh, .ref nl, .ref fc])), (u0, .inr (5, [.int 0, .ref u1, .ref u2, .ref u3])), (r1, .inl (cy 0, 9, .inl (upd g1 stop.toNatClampNeg km))), (r2, .inl (cy 0, 9, .inl g2)), (r0, .inr (4, [.int 2, .ref r1, .ref r2]))] := hD
              refine lv_aload_n hx hb dX9_stretch_67 rfl (lv_at hl 0 rfl) ?_
              refine va_get (D := D) (ci := 9) (v := .ref b0) (C := RX9) (T := TX9) (N := 4) hx hb hts in_X9 hown hK hP 0 rfl rfl 0 (by decide) w_1 (fun _ h9 => h9) rfl dX9_stretch_68 ?_
              refine va_get (D := D) (ci := 0) (v := .ref r0) (C := RX0) (T := TX0) (N := 10) hx hb hts in_X0 hown hK hP 1 rfl rfl 1 (by decide) w_6 (fun _ h9 => h9) rfl dX9_stretch_71 ?_
              refine va_get (D := D) (ci := 4) (v := .ref r2) (C := RX4) (T := TX4) (N := 3) hx hb hts in_X4 hown hK hP 5 rfl rfl 2 (by decide) w_10 (fun _ h9 => h9) rfl dX9_stretch_74 ?_
              refine lv_iload_n hx hb dX9_stretch_77 rfl (lv_at hl 1 rfl) ?_
              refine lv_iload_n hx hb dX9_stretch_78 rfl (lv_at hl 3 rfl) ?_
              refine va_iast hx hb hK hP hD hS 4 0 rfl rfl (q_in (a := stop.toInt) rfl (by omega) (by omega)) dX9_stretch_79 (fun H locs hP hD hS => ?_)
              have hP : va_P D vwCl [(x0, .inr (9, [.ref b0, .ref im, .ref tp, .ref rd])), (b0, .inr (0, [.int 0, .ref r0, .ref u0, .ref t0, .ref l0, .ref q0, .ref of, .ref sh, .ref nl, .ref fc])), (u0, .inr (5, [.int 0, .ref u1, .ref u2, .ref u3])), (r1, .inl (cy 0, 9, .inl (upd g1 stop.toNatClampNeg km))), (r2, .inl (cy 0, 9, .inl (upd g2 stop.toNatClampNeg hs))), (r0, .inr (4, [.int 2, .ref r1, .ref r2]))] H := hP
              have hD : va_D A [(x0, .inr (9, [.ref b0, .ref im, .ref tp, .ref rd])), (b0, .inr (0, [.int 0, .ref r0, .ref u0, .ref t0, .ref l0, .ref q0, .ref of, .ref sh, .ref nl, .ref fc])), (u0, .inr (5, [.int 0, .ref u1, .ref u2, .ref u3])), (r1, .inl (cy 0, 9, .inl (upd g1 stop.toNatClampNeg km))), (r2, .inl (cy 0, 9, .inl (upd g2 stop.toNatClampNeg hs))), (r0, .inr (4, [.int 2, .ref r1, .ref r2]))] := hD
              refine lv_iconst (v := 1) hx hb dX9_stretch_80 (by decide) ?_
              exact r_z hx hb hr hlocks hK hS dX9_stretch_81 (by decide) (u := ()) (hP.sub (ws' := []) [] rfl) (hD.sub (ws' := []) [] (by decide) rfl) (by first | exact Or.inl ⟨by decide, by omega⟩ | exact Or.inr ⟨by decide, by omega⟩)
            · skip
              have fc49 := q_nle (a := hs.toInt) (b := 24) c49 rfl (by decide)
              refine lv_iconst (v := 0) hx hb dX9_stretch_52 (by decide) ?_
              exact r_z hx hb hr hlocks hK hS dX9_stretch_53 (by decide) (u := ()) (hP.sub (ws' := []) [] rfl) (hD.sub (ws' := []) [] (by decide) rfl) (by first | exact Or.inl ⟨by decide, by omega⟩ | exact Or.inr ⟨by decide, by omega⟩)
    · skip
      have fc24 := q_eq (a := r21.toInt) (b := 0) c24 rfl (by decide)
      refine lv_iconst (v := 0) hx hb dX9_stretch_27 (by decide) ?_
      exact r_z hx hb hr hlocks hK hS dX9_stretch_28 (by decide) (u := ()) (hP.sub (ws' := []) [] rfl) (hD.sub (ws' := []) [] (by decide) rfl) (by first | exact Or.inl ⟨by decide, by omega⟩ | exact Or.inr ⟨by decide, by omega⟩)

abbrev Q_c_X9_office (D : va_G) (cy : Nat → ClassId) (x0 : Nat) (b0 : Nat) (im : Nat) (tp : Nat) (rd : Nat) (r0 : Nat) (u0 : Nat) (t0 : Nat) (l0 : Nat) (q0 : Nat) (of : Nat) (sh : Nat) (nl : Nat) (fc : Nat) (u1 : Nat) (u2 : Nat) (u3 : Nat) (r1 : Nat) (r2 : Nat) (o : Int32) (stop : Int32) : (Nat → Prop) → Array Value → State → Outcome → State → Prop := QI D cy (fun (r : Int32) (_ : Unit) => (r.toInt = 1 ∧ (0 ≤ o.toInt ∧ o.toInt < 6 ∧ 0 ≤ stop.toInt ∧ stop.toInt < 2)) ∨ (r.toInt = 0 ∧ ¬ (0 ≤ o.toInt ∧ o.toInt < 6 ∧ 0 ≤ stop.toInt ∧ stop.toInt < 2))) (fun _ : Unit => [])
set_option maxHeartbeats 4000000 in
set_option maxRecDepth 100000 in
theorem c_X9_office (l : Launch) (D : va_G) (cy : Nat → ClassId) (x0 : Nat) (b0 : Nat) (im : Nat) (tp : Nat) (rd : Nat) (r0 : Nat) (u0 : Nat) (t0 : Nat) (l0 : Nat) (q0 : Nat) (of : Nat) (sh : Nat) (nl : Nat) (fc : Nat) (u1 : Nat) (u2 : Nat) (u3 : Nat) (r1 : Nat) (r2 : Nat) (o : Int32) (stop : Int32) (sz : Nat)  : Met l yX9_office wsX9_office ({ frames := 1, cells := 0, slots := 0, locals := 21 } : Room) (CP D cy [.ref x0, .int o, .int stop] [(x0, .inr (9, [.ref b0, .ref im, .ref tp, .ref rd])), (b0, .inr (0, [.int 0, .ref r0, .ref u0, .ref t0, .ref l0, .ref q0, .ref of, .ref sh, .ref nl, .ref fc])), (u0, .inr (5, [.int 0, .ref u1, .ref u2, .ref u3])), (r0, .inr (4, [.int 2, .ref r1, .ref r2])), (of, .inl (cy 0, 6, .inl (fun _ => 0)))] sz) (Q_c_X9_office D cy x0 b0 im tp rd r0 u0 t0 l0 q0 of sh nl fc u1 u2 u3 r1 r2 o stop (va_A [(x0, .inr (9, [.ref b0, .ref im, .ref tp, .ref rd])), (b0, .inr (0, [.int 0, .ref r0, .ref u0, .ref t0, .ref l0, .ref q0, .ref of, .ref sh, .ref nl, .ref fc])), (u0, .inr (5, [.int 0, .ref u1, .ref u2, .ref u3])), (r0, .inr (4, [.int 2, .ref r1, .ref r2])), (of, .inl (cy 0, 6, .inl (fun _ => 0)))] sz)) 0 0 (va_A [(x0, .inr (9, [.ref b0, .ref im, .ref tp, .ref rd])), (b0, .inr (0, [.int 0, .ref r0, .ref u0, .ref t0, .ref l0, .ref q0, .ref of, .ref sh, .ref nl, .ref fc])), (u0, .inr (5, [.int 0, .ref u1, .ref u2, .ref u3])), (r0, .inr (4, [.int 2, .ref r1, .ref r2])), (of, .inl (cy 0, 6, .inl (fun _ => 0)))] sz) := by
  refine Met.go (Qc := Q_c_X9_office D cy x0 b0 im tp rd r0 u0 t0 l0 q0 of sh nl fc u1 u2 u3 r1 r2 o stop) (cc := cX9_office) (maxL := 3) (ret := (some .boolean)) (by decide) rfl (Nat.le_of_ble_eq_true rfl) ?_
  intro p e s m below meth c hx hb hr hts hown hlocks hin hml hK hN A hA hD hP hS ls hl hsz
  have hl : lv_has ls 3 [(0, .ref x0), (1, .int o), (2, .int stop)] := hl
  have in_X9 : ∀ w ∈ wsX90, w ∈ wsX9_office := fun _ h => List.mem_cons_of_mem _ (List.mem_append_left _ (List.mem_append_left _ (List.mem_append_left _ ((List.mem_append_right _ h)))))
  have w_1 := hts (.fieldLink RX9 10 "SleepingCars" "book" "LSleepingCars$Book;") (by decide +kernel)
  have in_X0 : ∀ w ∈ wsX00, w ∈ wsX9_office := fun _ h => List.mem_cons_of_mem _ (List.mem_append_left _ (List.mem_append_left _ ((List.mem_append_right _ h))))
  have w_3 := hts (.fieldLink RX9 34 "SleepingCars$Book" "runs" "LSleepingCars$Runs;") (by decide +kernel)
  have in_X5 : ∀ w ∈ wsX50, w ∈ wsX9_office := fun _ h => List.mem_cons_of_mem _ (List.mem_append_left _ ((List.mem_append_right _ h)))
  have w_5 := hts (.fieldLink RX9 38 "SleepingCars$Runs" "size" "I") (by decide +kernel)
  have w_6 := hts (.fieldLink RX9 44 "SleepingCars$Book" "route" "LSleepingCars$Route;") (by decide +kernel)
  have w_7 := hts (.instanceMethod yX4_isStop) (by decide +kernel)
  have w_8 := hts (.fieldLink RX9 54 "SleepingCars$Book" "officeStops" "[I") (by decide +kernel)
  obtain ⟨H, eH⟩ : ∃ H : Heap, H = s.heap := ⟨_, rfl⟩
  obtain ⟨locs, eL⟩ : ∃ L : List Loc, L = [] := ⟨_, rfl⟩
  rw [← eL]
  rw [← eL] at hS
  have hP : va_P D vwCl [(x0, .inr (9, [.ref b0, .ref im, .ref tp, .ref rd])), (b0, .inr (0, [.int 0, .ref r0, .ref u0, .ref t0, .ref l0, .ref q0, .ref of, .ref sh, .ref nl, .ref fc])), (u0, .inr (5, [.int 0, .ref u1, .ref u2, .ref u3])), (r0, .inr (4, [.int 2, .ref r1, .ref r2])), (of, .inl (cy 0, 6, .inl (fun _ => 0)))] H := by rw [eH]; exact hP
  have hS : va_S A s.heap H locs := by rw [eH]; exact hS
  refine W.heapEq eH ?_
  clear eH eL
  refine lv_aload_n hx hb dX9_office_0 rfl (lv_at hl 0 rfl) ?_
  refine va_get (D := D) (ci := 9) (v := .ref b0) (C := RX9) (T := TX9) (N := 4) hx hb hts in_X9 hown hK hP 0 rfl rfl 0 (by decide) w_1 (fun _ h9 => h9) rfl dX9_office_1 ?_
  refine va_get (D := D) (ci := 0) (v := .ref u0) (C := RX0) (T := TX0) (N := 10) hx hb hts in_X0 hown hK hP 1 rfl rfl 2 (by decide) w_3 (fun _ h9 => h9) rfl dX9_office_4 ?_
  refine va_get (D := D) (ci := 5) (v := .int 0) (C := RX5) (T := TX5) (N := 4) hx hb hts in_X5 hown hK hP 2 rfl rfl 0 (by decide) w_5 (fun _ h9 => h9) rfl dX9_office_7 ?_
  refine lv_if_gt (tgt := 34) hx hb dX9_office_10 (by decide) (fun c10 => ?_) (fun c10 => ?_)
  · skip
    exact absurd c10 (by decide)
  · skip
    refine lv_iload_n hx hb dX9_office_13 rfl (lv_at hl 1 rfl) ?_
    refine k_i (va_runS (As := [.int o]) (rest := []) ⟨hx, hb, hml, hown, hts⟩ (c_X9_isOffice l D cy o H.size ) (va_cwS 1 hts gX9_office_X9_isOffice rfl rfl rfl (by decide +kernel) ⟨Nat.le_of_ble_eq_true rfl, Nat.le_of_ble_eq_true rfl⟩) (cp_s hK hN hP hD [] rfl (by decide)) rfl rfl hl.1 rfl (lv_room (Nat.le_of_ble_eq_true rfl)) dX9_office_14 ⟨Nat.le_of_ble_eq_true rfl, Nat.le_of_ble_eq_true rfl⟩) hP hD hS hA [] [0, 1, 2, 3, 4] (wr := [(x0, .inr (9, [.ref b0, .ref im, .ref tp, .ref rd])), (b0, .inr (0, [.int 0, .ref r0, .ref u0, .ref t0, .ref l0, .ref q0, .ref of, .ref sh, .ref nl, .ref fc])), (u0, .inr (5, [.int 0, .ref u1, .ref u2, .ref u3])), (r0, .inr (4, [.int 2, .ref r1, .ref r2])), (of, .inl (cy 0, 6, .inl (fun _ => 0)))]) rfl rfl (by decide) (by decide) (fun r14 u_r14 H locs hw14 hP hD hS => ?_)
    try dsimp only at hw14
    have hP : va_P D vwCl [(x0, .inr (9, [.ref b0, .ref im, .ref tp, .ref rd])), (b0, .inr (0, [.int 0, .ref r0, .ref u0, .ref t0, .ref l0, .ref q0, .ref of, .ref sh, .ref nl, .ref fc])), (u0, .inr (5, [.int 0, .ref u1, .ref u2, .ref u3])), (r0, .inr (4, [.int 2, .ref r1, .ref r2])), (of, .inl (cy 0, 6, .inl (fun _ => 0)))] H := hP
    have hD : va_D A [(x0, .inr (9, [.ref b0, .ref im, .ref tp, .ref rd])), (b0, .inr (0, [.int 0, .ref r0, .ref u0, .ref t0, .ref l0, .ref q0, .ref of, .ref sh, .ref nl, .ref fc])), (u0, .inr (5, [.int 0, .ref u1, .ref u2, .ref u3])), (r0, .inr (4, [.int 2, .ref r1, .ref r2])), (of, .inl (cy 0, 6, .inl (fun _ => 0)))] := hD
    refine lv_if_eq (tgt := 34) hx hb dX9_office_17 (by decide) (fun c17 => ?_) (fun c17 => ?_)
    · skip
      have fc17 := q_eq (a := r14.toInt) (b := 0) c17 rfl (by decide)
      refine lv_iconst (v := 0) hx hb dX9_office_34 (by decide) ?_
      exact r_z hx hb hr hlocks hK hS dX9_office_35 (by decide) (u := ()) (hP.sub (ws' := []) [] rfl) (hD.sub (ws' := []) [] (by decide) rfl) (by first | exact Or.inl ⟨by decide, by omega⟩ | exact Or.inr ⟨by decide, by omega⟩)
    · skip
      have fc17 := q_ne (a := r14.toInt) (b := 0) c17 rfl (by decide)
      refine lv_aload_n hx hb dX9_office_20 rfl (lv_at hl 0 rfl) ?_
      refine va_get (D := D) (ci := 9) (v := .ref b0) (C := RX9) (T := TX9) (N := 4) hx hb hts in_X9 hown hK hP 0 rfl rfl 0 (by decide) w_1 (fun _ h9 => h9) rfl dX9_office_21 ?_
      refine va_get (D := D) (ci := 0) (v := .ref r0) (C := RX0) (T := TX0) (N := 10) hx hb hts in_X0 hown hK hP 1 rfl rfl 1 (by decide) w_6 (fun _ h9 => h9) rfl dX9_office_24 ?_
      refine lv_iload_n hx hb dX9_office_27 rfl (lv_at hl 2 rfl) ?_
      refine k_i (va_runV (As := [.int stop]) (rest := []) ⟨hx, hb, hml, hown, hts⟩ (c_X4_isStop l D cy r0 r1 r2 2 stop H.size ) (cwV 1 hts gX9_office_X4_isStop rfl rfl rfl (by decide +kernel) ⟨Nat.le_of_ble_eq_true rfl, Nat.le_of_ble_eq_true rfl⟩) (cp_v hK hN hP hD [3] rfl (by decide) (ci := 4) rfl rfl rfl) rfl rfl hl.1 rfl (lv_room (Nat.le_of_ble_eq_true rfl)) dX9_office_28 ⟨Nat.le_of_ble_eq_true rfl, Nat.le_of_ble_eq_true rfl⟩) hP hD hS hA [3] [0, 1, 2, 4] (wr := [(x0, .inr (9, [.ref b0, .ref im, .ref tp, .ref rd])), (b0, .inr (0, [.int 0, .ref r0, .ref u0, .ref t0, .ref l0, .ref q0, .ref of, .ref sh, .ref nl, .ref fc])), (u0, .inr (5, [.int 0, .ref u1, .ref u2, .ref u3])), (of, .inl (cy 0, 6, .inl (fun _ => 0)))]) rfl rfl (by decide) (by decide) (fun r28 u_r28 H locs hw28 hP hD hS => ?_)
      try dsimp only at hw28
      have hP : va_P D vwCl [(x0, .inr (9, [.ref b0, .ref im, .ref tp, .ref rd])), (b0, .inr (0, [.int 0, .ref r0, .ref u0, .ref t0, .ref l0, .ref q0, .ref of, .ref sh, .ref nl, .ref fc])), (u0, .inr (5, [.int 0, .ref u1, .ref u2, .ref u3])), (of, .inl (cy 0, 6, .inl (fun _ => 0))), (r0, .inr (4, [.int 2, .ref r1, .ref r2]))] H := hP
      have hD : va_D A [(x0, .inr (9, [.ref b0, .ref im, .ref tp, .ref rd])), (b0, .inr (0, [.int 0, .ref r0, .ref u0, .ref t0, .ref l0, .ref q0, .ref of, .ref sh, .ref nl, .ref fc])), (u0, .inr (5, [.int 0, .ref u1, .ref u2, .ref u3])), (of, .inl (cy 0, 6, .inl (fun _ => 0))), (r0, .inr (4, [.int 2, .ref r1, .ref r2]))] := hD
      simp only [show (2 : Int32).toInt = 2 by decide] at hw28
      refine lv_if_ne (tgt := 36) hx hb dX9_office_31 (by decide) (fun c31 => ?_) (fun c31 => ?_)
      · skip
        have fc31 := q_ne (a := r28.toInt) (b := 0) c31 rfl (by decide)
        refine lv_aload_n hx hb dX9_office_36 rfl (lv_at hl 0 rfl) ?_
        refine va_get (D := D) (ci := 9) (v := .ref b0) (C := RX9) (T := TX9) (N := 4) hx hb hts in_X9 hown hK hP 0 rfl rfl 0 (by decide) w_1 (fun _ h9 => h9) rfl dX9_office_37 ?_
        refine va_get (D := D) (ci := 0) (v := .ref of) (C := RX0) (T := TX0) (N := 10) hx hb hts in_X0 hown hK hP 1 rfl rfl 6 (by decide) w_8 (fun _ h9 => h9) rfl dX9_office_40 ?_
        refine lv_iload_n hx hb dX9_office_43 rfl (lv_at hl 1 rfl) ?_
        refine lv_iload_n hx hb dX9_office_44 rfl (lv_at hl 2 rfl) ?_
        refine va_iast hx hb hK hP hD hS 3 0 rfl rfl (q_in (a := o.toInt) rfl (by omega) (by omega)) dX9_office_45 (fun H locs hP hD hS => ?_)
        have hP : va_P D vwCl [(x0, .inr (9, [.ref b0, .ref im, .ref tp, .ref rd])), (b0, .inr (0, [.int 0, .ref r0, .ref u0, .ref t0, .ref l0, .ref q0, .ref of, .ref sh, .ref nl, .ref fc])), (u0, .inr (5, [.int 0, .ref u1, .ref u2, .ref u3])), (of, .inl (cy 0, 6, .inl (upd (fun _ => 0) o.toNatClampNeg stop))), (r0, .inr (4, [.int 2, .ref r1, .ref r2]))] H := hP
        have hD : va_D A [(x0, .inr (9, [.ref b0, .ref im, .ref tp, .ref rd])), (b0, .inr (0, [.int 0, .ref r0, .ref u0, .ref t0, .ref l0, .ref q0, .ref of, .ref sh, .ref nl, .ref fc])), (u0, .inr (5, [.int 0, .ref u1, .ref u2, .ref u3])), (of, .inl (cy 0, 6, .inl (upd (fun _ => 0) o.toNatClampNeg stop))), (r0, .inr (4, [.int 2, .ref r1, .ref r2]))] := hD
        refine lv_iconst (v := 1) hx hb dX9_office_46 (by decide) ?_
        exact r_z hx hb hr hlocks hK hS dX9_office_47 (by decide) (u := ()) (hP.sub (ws' := []) [] rfl) (hD.sub (ws' := []) [] (by decide) rfl) (by first | exact Or.inl ⟨by decide, by omega⟩ | exact Or.inr ⟨by decide, by omega⟩)
      · skip
        have fc31 := q_eq (a := r28.toInt) (b := 0) c31 rfl (by decide)
        refine lv_iconst (v := 0) hx hb dX9_office_34 (by decide) ?_
        exact r_z hx hb hr hlocks hK hS dX9_office_35 (by decide) (u := ()) (hP.sub (ws' := []) [] rfl) (hD.sub (ws' := []) [] (by decide) rfl) (by first | exact Or.inl ⟨by decide, by omega⟩ | exact Or.inr ⟨by decide, by omega⟩)

abbrev Q_c_X9_share (D : va_G) (cy : Nat → ClassId) (x0 : Nat) (b0 : Nat) (im : Nat) (tp : Nat) (rd : Nat) (r0 : Nat) (u0 : Nat) (t0 : Nat) (l0 : Nat) (q0 : Nat) (of : Nat) (sh : Nat) (nl : Nat) (fc : Nat) (b : Int32) (o : Int32) : (Nat → Prop) → Array Value → State → Outcome → State → Prop := QI D cy (fun (r : Int32) (_ : Unit) => (r.toInt = 1 ∧ (0 ≤ b.toInt ∧ b.toInt < 10 ∧ 0 ≤ o.toInt ∧ o.toInt < 6)) ∨ (r.toInt = 0 ∧ ¬ (0 ≤ b.toInt ∧ b.toInt < 10 ∧ 0 ≤ o.toInt ∧ o.toInt < 6))) (fun _ : Unit => [])
set_option maxHeartbeats 4000000 in
set_option maxRecDepth 100000 in
theorem c_X9_share (l : Launch) (D : va_G) (cy : Nat → ClassId) (x0 : Nat) (b0 : Nat) (im : Nat) (tp : Nat) (rd : Nat) (r0 : Nat) (u0 : Nat) (t0 : Nat) (l0 : Nat) (q0 : Nat) (of : Nat) (sh : Nat) (nl : Nat) (fc : Nat) (b : Int32) (o : Int32) (sz : Nat)  : Met l yX9_share wsX9_share ({ frames := 1, cells := 0, slots := 0, locals := 20 } : Room) (CP D cy [.ref x0, .int b, .int o] [(x0, .inr (9, [.ref b0, .ref im, .ref tp, .ref rd])), (b0, .inr (0, [.int 0, .ref r0, .ref u0, .ref t0, .ref l0, .ref q0, .ref of, .ref sh, .ref nl, .ref fc])), (sh, .inl (cy 0, 10, .inl (fun _ => 0)))] sz) (Q_c_X9_share D cy x0 b0 im tp rd r0 u0 t0 l0 q0 of sh nl fc b o (va_A [(x0, .inr (9, [.ref b0, .ref im, .ref tp, .ref rd])), (b0, .inr (0, [.int 0, .ref r0, .ref u0, .ref t0, .ref l0, .ref q0, .ref of, .ref sh, .ref nl, .ref fc])), (sh, .inl (cy 0, 10, .inl (fun _ => 0)))] sz)) 0 0 (va_A [(x0, .inr (9, [.ref b0, .ref im, .ref tp, .ref rd])), (b0, .inr (0, [.int 0, .ref r0, .ref u0, .ref t0, .ref l0, .ref q0, .ref of, .ref sh, .ref nl, .ref fc])), (sh, .inl (cy 0, 10, .inl (fun _ => 0)))] sz) := by
  refine Met.go (Qc := Q_c_X9_share D cy x0 b0 im tp rd r0 u0 t0 l0 q0 of sh nl fc b o) (cc := cX9_share) (maxL := 3) (ret := (some .boolean)) (by decide) rfl (Nat.le_of_ble_eq_true rfl) ?_
  intro p e s m below meth c hx hb hr hts hown hlocks hin hml hK hN A hA hD hP hS ls hl hsz
  have hl : lv_has ls 3 [(0, .ref x0), (1, .int b), (2, .int o)] := hl
  have in_X9 : ∀ w ∈ wsX90, w ∈ wsX9_share := fun _ h => List.mem_cons_of_mem _ (List.mem_append_left _ ((List.mem_append_right _ h)))
  have w_1 := hts (.fieldLink RX9 10 "SleepingCars" "book" "LSleepingCars$Book;") (by decide +kernel)
  have in_X0 : ∀ w ∈ wsX00, w ∈ wsX9_share := fun _ h => List.mem_cons_of_mem _ ((List.mem_append_right _ h))
  have w_3 := hts (.fieldLink RX9 80 "SleepingCars$Book" "shares" "[I") (by decide +kernel)
  obtain ⟨H, eH⟩ : ∃ H : Heap, H = s.heap := ⟨_, rfl⟩
  obtain ⟨locs, eL⟩ : ∃ L : List Loc, L = [] := ⟨_, rfl⟩
  rw [← eL]
  rw [← eL] at hS
  have hP : va_P D vwCl [(x0, .inr (9, [.ref b0, .ref im, .ref tp, .ref rd])), (b0, .inr (0, [.int 0, .ref r0, .ref u0, .ref t0, .ref l0, .ref q0, .ref of, .ref sh, .ref nl, .ref fc])), (sh, .inl (cy 0, 10, .inl (fun _ => 0)))] H := by rw [eH]; exact hP
  have hS : va_S A s.heap H locs := by rw [eH]; exact hS
  refine W.heapEq eH ?_
  clear eH eL
  refine lv_iload_n hx hb dX9_share_0 rfl (lv_at hl 1 rfl) ?_
  refine lv_if_lt (tgt := 17) hx hb dX9_share_1 (by decide) (fun c1 => ?_) (fun c1 => ?_)
  · skip
    have fc1 := q_lt (a := b.toInt) (b := 0) c1 rfl (by decide)
    refine lv_iconst (v := 0) hx hb dX9_share_17 (by decide) ?_
    exact r_z hx hb hr hlocks hK hS dX9_share_18 (by decide) (u := ()) (hP.sub (ws' := []) [] rfl) (hD.sub (ws' := []) [] (by decide) rfl) (by first | exact Or.inl ⟨by decide, by omega⟩ | exact Or.inr ⟨by decide, by omega⟩)
  · skip
    have fc1 := q_nlt (a := b.toInt) (b := 0) c1 rfl (by decide)
    refine lv_iload_n hx hb dX9_share_4 rfl (lv_at hl 1 rfl) ?_
    refine lv_bipush (v := 10) hx hb dX9_share_5 (by decide) ?_
    refine lv_icmp_ge (tgt := 17) hx hb dX9_share_7 (by decide) (fun c7 => ?_) (fun c7 => ?_)
    · skip
      have fc7 := q_le (a := 10) (b := b.toInt) c7 (by decide) rfl
      refine lv_iconst (v := 0) hx hb dX9_share_17 (by decide) ?_
      exact r_z hx hb hr hlocks hK hS dX9_share_18 (by decide) (u := ()) (hP.sub (ws' := []) [] rfl) (hD.sub (ws' := []) [] (by decide) rfl) (by first | exact Or.inl ⟨by decide, by omega⟩ | exact Or.inr ⟨by decide, by omega⟩)
    · skip
      have fc7 := q_nle (a := 10) (b := b.toInt) c7 (by decide) rfl
      refine lv_iload_n hx hb dX9_share_10 rfl (lv_at hl 2 rfl) ?_
      refine k_i (va_runS (As := [.int o]) (rest := []) ⟨hx, hb, hml, hown, hts⟩ (c_X9_isOffice l D cy o H.size ) (va_cwS 1 hts gX9_share_X9_isOffice rfl rfl rfl (by decide +kernel) ⟨Nat.le_of_ble_eq_true rfl, Nat.le_of_ble_eq_true rfl⟩) (cp_s hK hN hP hD [] rfl (by decide)) rfl rfl hl.1 rfl (lv_room (Nat.le_of_ble_eq_true rfl)) dX9_share_11 ⟨Nat.le_of_ble_eq_true rfl, Nat.le_of_ble_eq_true rfl⟩) hP hD hS hA [] [0, 1, 2] (wr := [(x0, .inr (9, [.ref b0, .ref im, .ref tp, .ref rd])), (b0, .inr (0, [.int 0, .ref r0, .ref u0, .ref t0, .ref l0, .ref q0, .ref of, .ref sh, .ref nl, .ref fc])), (sh, .inl (cy 0, 10, .inl (fun _ => 0)))]) rfl rfl (by decide) (by decide) (fun r11 u_r11 H locs hw11 hP hD hS => ?_)
      try dsimp only at hw11
      have hP : va_P D vwCl [(x0, .inr (9, [.ref b0, .ref im, .ref tp, .ref rd])), (b0, .inr (0, [.int 0, .ref r0, .ref u0, .ref t0, .ref l0, .ref q0, .ref of, .ref sh, .ref nl, .ref fc])), (sh, .inl (cy 0, 10, .inl (fun _ => 0)))] H := hP
      have hD : va_D A [(x0, .inr (9, [.ref b0, .ref im, .ref tp, .ref rd])), (b0, .inr (0, [.int 0, .ref r0, .ref u0, .ref t0, .ref l0, .ref q0, .ref of, .ref sh, .ref nl, .ref fc])), (sh, .inl (cy 0, 10, .inl (fun _ => 0)))] := hD
      refine lv_if_ne (tgt := 19) hx hb dX9_share_14 (by decide) (fun c14 => ?_) (fun c14 => ?_)
      · skip
        have fc14 := q_ne (a := r11.toInt) (b := 0) c14 rfl (by decide)
        refine lv_aload_n hx hb dX9_share_19 rfl (lv_at hl 0 rfl) ?_
        refine va_get (D := D) (ci := 9) (v := .ref b0) (C := RX9) (T := TX9) (N := 4) hx hb hts in_X9 hown hK hP 0 rfl rfl 0 (by decide) w_1 (fun _ h9 => h9) rfl dX9_share_20 ?_
        refine va_get (D := D) (ci := 0) (v := .ref sh) (C := RX0) (T := TX0) (N := 10) hx hb hts in_X0 hown hK hP 1 rfl rfl 7 (by decide) w_3 (fun _ h9 => h9) rfl dX9_share_23 ?_
        refine lv_iload_n hx hb dX9_share_26 rfl (lv_at hl 1 rfl) ?_
        refine lv_iload_n hx hb dX9_share_27 rfl (lv_at hl 2 rfl) ?_
        refine va_iast hx hb hK hP hD hS 2 0 rfl rfl (q_in (a := b.toInt) rfl (by omega) (by omega)) dX9_share_28 (fun H locs hP hD hS => ?_)
        have hP : va_P D vwCl [(x0, .inr (9, [.ref b0, .ref im, .ref tp, .ref rd])), (b0, .inr (0, [.int 0, .ref r0, .ref u0, .ref t0, .ref l0, .ref q0, .ref of, .ref sh, .ref nl, .ref fc])), (sh, .inl (cy 0, 10, .inl (upd (fun _ => 0) b.toNatClampNeg o)))] H := hP
        have hD : va_D A [(x0, .inr (9, [.ref b0, .ref im, .ref tp, .ref rd])), (b0, .inr (0, [.int 0, .ref r0, .ref u0, .ref t0, .ref l0, .ref q0, .ref of, .ref sh, .ref nl, .ref fc])), (sh, .inl (cy 0, 10, .inl (upd (fun _ => 0) b.toNatClampNeg o)))] := hD
        refine lv_iconst (v := 1) hx hb dX9_share_29 (by decide) ?_
        exact r_z hx hb hr hlocks hK hS dX9_share_30 (by decide) (u := ()) (hP.sub (ws' := []) [] rfl) (hD.sub (ws' := []) [] (by decide) rfl) (by first | exact Or.inl ⟨by decide, by omega⟩ | exact Or.inr ⟨by decide, by omega⟩)
      · skip
        have fc14 := q_eq (a := r11.toInt) (b := 0) c14 rfl (by decide)
        refine lv_iconst (v := 0) hx hb dX9_share_17 (by decide) ?_
        exact r_z hx hb hr hlocks hK hS dX9_share_18 (by decide) (u := ()) (hP.sub (ws' := []) [] rfl) (hD.sub (ws' := []) [] (by decide) rfl) (by first | exact Or.inl ⟨by decide, by omega⟩ | exact Or.inr ⟨by decide, by omega⟩)

abbrev Q_c_X9_run (D : va_G) (cy : Nat → ClassId) (x0 : Nat) (b0 : Nat) (im : Nat) (tp : Nat) (rd : Nat) (r0 : Nat) (u0 : Nat) (t0 : Nat) (l0 : Nat) (q0 : Nat) (of : Nat) (sh : Nat) (nl : Nat) (fc : Nat) (u1 : Nat) (u2 : Nat) (u3 : Nat) (r1 : Nat) (r2 : Nat) (g2 : Nat → Int32) (day : Int32) (n : Int32) : (Nat → Prop) → Array Value → State → Outcome → State → Prop := QI D cy (fun (r : Int32) (_ : Unit) => (r.toInt = 1 ∧ (1 ≤ day.toInt ∧ day.toInt < 60 ∧ 1 ≤ n.toInt ∧ n.toInt ≤ 10)) ∨ (r.toInt = 0 ∧ ¬ (1 ≤ day.toInt ∧ day.toInt < 60 ∧ 1 ≤ n.toInt ∧ n.toInt ≤ 10))) (fun _ : Unit => [])
set_option maxHeartbeats 4000000 in
set_option maxRecDepth 100000 in
theorem c_X9_run (l : Launch) (D : va_G) (cy : Nat → ClassId) (x0 : Nat) (b0 : Nat) (im : Nat) (tp : Nat) (rd : Nat) (r0 : Nat) (u0 : Nat) (t0 : Nat) (l0 : Nat) (q0 : Nat) (of : Nat) (sh : Nat) (nl : Nat) (fc : Nat) (u1 : Nat) (u2 : Nat) (u3 : Nat) (r1 : Nat) (r2 : Nat) (g2 : Nat → Int32) (day : Int32) (n : Int32) (sz : Nat)  : Met l yX9_run wsX9_run ({ frames := 2, cells := 0, slots := 0, locals := 53 } : Room) (CP D cy [.ref x0, .int day, .int n] [(x0, .inr (9, [.ref b0, .ref im, .ref tp, .ref rd])), (b0, .inr (0, [.int 0, .ref r0, .ref u0, .ref t0, .ref l0, .ref q0, .ref of, .ref sh, .ref nl, .ref fc])), (u0, .inr (5, [.int 0, .ref u1, .ref u2, .ref u3])), (u1, .inl (cy 0, 60, .inl (fun _ => 0))), (u2, .inl (cy 0, 600, .inl (fun _ => 0))), (r0, .inr (4, [.int 2, .ref r1, .ref r2])), (r2, .inl (cy 0, 9, .inl g2)), (sh, .inl (cy 0, 10, .inl (fun _ => 0)))] sz) (Q_c_X9_run D cy x0 b0 im tp rd r0 u0 t0 l0 q0 of sh nl fc u1 u2 u3 r1 r2 g2 day n (va_A [(x0, .inr (9, [.ref b0, .ref im, .ref tp, .ref rd])), (b0, .inr (0, [.int 0, .ref r0, .ref u0, .ref t0, .ref l0, .ref q0, .ref of, .ref sh, .ref nl, .ref fc])), (u0, .inr (5, [.int 0, .ref u1, .ref u2, .ref u3])), (u1, .inl (cy 0, 60, .inl (fun _ => 0))), (u2, .inl (cy 0, 600, .inl (fun _ => 0))), (r0, .inr (4, [.int 2, .ref r1, .ref r2])), (r2, .inl (cy 0, 9, .inl g2)), (sh, .inl (cy 0, 10, .inl (fun _ => 0)))] sz)) 0 0 (va_A [(x0, .inr (9, [.ref b0, .ref im, .ref tp, .ref rd])), (b0, .inr (0, [.int 0, .ref r0, .ref u0, .ref t0, .ref l0, .ref q0, .ref of, .ref sh, .ref nl, .ref fc])), (u0, .inr (5, [.int 0, .ref u1, .ref u2, .ref u3])), (u1, .inl (cy 0, 60, .inl (fun _ => 0))), (u2, .inl (cy 0, 600, .inl (fun _ => 0))), (r0, .inr (4, [.int 2, .ref r1, .ref r2])), (r2, .inl (cy 0, 9, .inl g2)), (sh, .inl (cy 0, 10, .inl (fun _ => 0)))] sz) := by
  refine Met.go (Qc := Q_c_X9_run D cy x0 b0 im tp rd r0 u0 t0 l0 q0 of sh nl fc u1 u2 u3 r1 r2 g2 day n) (cc := cX9_run) (maxL := 3) (ret := (some .boolean)) (by decide) rfl (Nat.le_of_ble_eq_true rfl) ?_
  intro p e s m below meth c hx hb hr hts hown hlocks hin hml hK hN A hA hD hP hS ls hl hsz
  have hl : lv_has ls 3 [(0, .ref x0), (1, .int day), (2, .int n)] := hl
  have in_X9 : ∀ w ∈ wsX90, w ∈ wsX9_run := fun _ h => List.mem_cons_of_mem _ (List.mem_append_left _ (List.mem_append_left _ (List.mem_append_left _ ((List.mem_append_right _ h)))))
  have w_1 := hts (.fieldLink RX9 10 "SleepingCars" "book" "LSleepingCars$Book;") (by decide +kernel)
  have in_X0 : ∀ w ∈ wsX00, w ∈ wsX9_run := fun _ h => List.mem_cons_of_mem _ (List.mem_append_left _ (List.mem_append_left _ ((List.mem_append_right _ h))))
  have w_3 := hts (.fieldLink RX9 34 "SleepingCars$Book" "runs" "LSleepingCars$Runs;") (by decide +kernel)
  have w_4 := hts (.instanceMethod yX5_isTold) (by decide +kernel)
  have w_5 := hts (.instanceMethod yX0_hasLeft) (by decide +kernel)
  have w_6 := hts (.fieldLink RX9 80 "SleepingCars$Book" "shares" "[I") (by decide +kernel)
  have w_7 := hts (.instanceMethod yX5_add) (by decide +kernel)
  obtain ⟨H, eH⟩ : ∃ H : Heap, H = s.heap := ⟨_, rfl⟩
  obtain ⟨locs, eL⟩ : ∃ L : List Loc, L = [] := ⟨_, rfl⟩
  rw [← eL]
  rw [← eL] at hS
  have hP : va_P D vwCl [(x0, .inr (9, [.ref b0, .ref im, .ref tp, .ref rd])), (b0, .inr (0, [.int 0, .ref r0, .ref u0, .ref t0, .ref l0, .ref q0, .ref of, .ref sh, .ref nl, .ref fc])), (u0, .inr (5, [.int 0, .ref u1, .ref u2, .ref u3])), (u1, .inl (cy 0, 60, .inl (fun _ => 0))), (u2, .inl (cy 0, 600, .inl (fun _ => 0))), (r0, .inr (4, [.int 2, .ref r1, .ref r2])), (r2, .inl (cy 0, 9, .inl g2)), (sh, .inl (cy 0, 10, .inl (fun _ => 0)))] H := by rw [eH]; exact hP
  have hS : va_S A s.heap H locs := by rw [eH]; exact hS
  refine W.heapEq eH ?_
  clear eH eL
  refine lv_iload_n hx hb dX9_run_0 rfl (lv_at hl 1 rfl) ?_
  refine lv_if_lt (tgt := 36) hx hb dX9_run_1 (by decide) (fun c1 => ?_) (fun c1 => ?_)
  · skip
    have fc1 := q_lt (a := day.toInt) (b := 0) c1 rfl (by decide)
    refine lv_iconst (v := 0) hx hb dX9_run_36 (by decide) ?_
    exact r_z hx hb hr hlocks hK hS dX9_run_37 (by decide) (u := ()) (hP.sub (ws' := []) [] rfl) (hD.sub (ws' := []) [] (by decide) rfl) (by first | exact Or.inl ⟨by decide, by omega⟩ | exact Or.inr ⟨by decide, by omega⟩)
  · skip
    have fc1 := q_nlt (a := day.toInt) (b := 0) c1 rfl (by decide)
    refine lv_iload_n hx hb dX9_run_4 rfl (lv_at hl 1 rfl) ?_
    refine lv_bipush (v := 60) hx hb dX9_run_5 (by decide) ?_
    refine lv_icmp_ge (tgt := 36) hx hb dX9_run_7 (by decide) (fun c7 => ?_) (fun c7 => ?_)
    · skip
      have fc7 := q_le (a := 60) (b := day.toInt) c7 (by decide) rfl
      refine lv_iconst (v := 0) hx hb dX9_run_36 (by decide) ?_
      exact r_z hx hb hr hlocks hK hS dX9_run_37 (by decide) (u := ()) (hP.sub (ws' := []) [] rfl) (hD.sub (ws' := []) [] (by decide) rfl) (by first | exact Or.inl ⟨by decide, by omega⟩ | exact Or.inr ⟨by decide, by omega⟩)
    · skip
      have fc7 := q_nle (a := 60) (b := day.toInt) c7 (by decide) rfl
      refine lv_aload_n hx hb dX9_run_10 rfl (lv_at hl 0 rfl) ?_
      refine va_get (D := D) (ci := 9) (v := .ref b0) (C := RX9) (T := TX9) (N := 4) hx hb hts in_X9 hown hK hP 0 rfl rfl 0 (by decide) w_1 (fun _ h9 => h9) rfl dX9_run_11 ?_
      refine va_get (D := D) (ci := 0) (v := .ref u0) (C := RX0) (T := TX0) (N := 10) hx hb hts in_X0 hown hK hP 1 rfl rfl 2 (by decide) w_3 (fun _ h9 => h9) rfl dX9_run_14 ?_
      refine lv_iload_n hx hb dX9_run_17 rfl (lv_at hl 1 rfl) ?_
      refine k_i (va_runV (As := [.int day]) (rest := []) ⟨hx, hb, hml, hown, hts⟩ (c_isTold0 l D cy u0 u1 u2 u3 day H.size ) (cwV 1 hts gX9_run_X5_isTold rfl rfl rfl (by decide +kernel) ⟨Nat.le_of_ble_eq_true rfl, Nat.le_of_ble_eq_true rfl⟩) (cp_v hK hN hP hD [2, 3] rfl (by decide) (ci := 5) rfl rfl rfl) rfl rfl hl.1 rfl (lv_room (Nat.le_of_ble_eq_true rfl)) dX9_run_18 ⟨Nat.le_of_ble_eq_true rfl, Nat.le_of_ble_eq_true rfl⟩) hP hD hS hA [2, 3] [0, 1, 4, 5, 6, 7] (wr := [(x0, .inr (9, [.ref b0, .ref im, .ref tp, .ref rd])), (b0, .inr (0, [.int 0, .ref r0, .ref u0, .ref t0, .ref l0, .ref q0, .ref of, .ref sh, .ref nl, .ref fc])), (u2, .inl (cy 0, 600, .inl (fun _ => 0))), (r0, .inr (4, [.int 2, .ref r1, .ref r2])), (r2, .inl (cy 0, 9, .inl g2)), (sh, .inl (cy 0, 10, .inl (fun _ => 0)))]) rfl rfl (by decide) (by decide) (fun r18 u_r18 H locs hw18 hP hD hS => ?_)
      try dsimp only at hw18
      have hP : va_P D vwCl [(x0, .inr (9, [.ref b0, .ref im, .ref tp, .ref rd])), (b0, .inr (0, [.int 0, .ref r0, .ref u0, .ref t0, .ref l0, .ref q0, .ref of, .ref sh, .ref nl, .ref fc])), (u2, .inl (cy 0, 600, .inl (fun _ => 0))), (r0, .inr (4, [.int 2, .ref r1, .ref r2])), (r2, .inl (cy 0, 9, .inl g2)), (sh, .inl (cy 0, 10, .inl (fun _ => 0))), (u0, .inr (5, [.int 0, .ref u1, .ref u2, .ref u3])), (u1, .inl (cy 0, 60, .inl (fun _ => 0)))] H := hP
      have hD : va_D A [(x0, .inr (9, [.ref b0, .ref im, .ref tp, .ref rd])), (b0, .inr (0, [.int 0, .ref r0, .ref u0, .ref t0, .ref l0, .ref q0, .ref of, .ref sh, .ref nl, .ref fc])), (u2, .inl (cy 0, 600, .inl (fun _ => 0))), (r0, .inr (4, [.int 2, .ref r1, .ref r2])), (r2, .inl (cy 0, 9, .inl g2)), (sh, .inl (cy 0, 10, .inl (fun _ => 0))), (u0, .inr (5, [.int 0, .ref u1, .ref u2, .ref u3])), (u1, .inl (cy 0, 60, .inl (fun _ => 0)))] := hD
      refine lv_if_ne (tgt := 36) hx hb dX9_run_21 (by decide) (fun c21 => ?_) (fun c21 => ?_)
      · skip
        have fc21 := q_ne (a := r18.toInt) (b := 0) c21 rfl (by decide)
        exfalso; omega
      · skip
        have fc21 := q_eq (a := r18.toInt) (b := 0) c21 rfl (by decide)
        refine lv_aload_n hx hb dX9_run_24 rfl (lv_at hl 0 rfl) ?_
        refine va_get (D := D) (ci := 9) (v := .ref b0) (C := RX9) (T := TX9) (N := 4) hx hb hts in_X9 hown hK hP 0 rfl rfl 0 (by decide) w_1 (fun _ h9 => h9) rfl dX9_run_25 ?_
        refine lv_iload_n hx hb dX9_run_28 rfl (lv_at hl 1 rfl) ?_
        refine lv_iconst (v := 0) hx hb dX9_run_29 (by decide) ?_
        refine k_i (va_runV (As := [.int day, .int 0]) (rest := []) ⟨hx, hb, hml, hown, hts⟩ (c_hasLeft0 l D cy b0 r0 u0 t0 l0 q0 of sh nl fc r1 r2 g2 day H.size (by omega)) (cwV 2 hts gX9_run_X0_hasLeft rfl rfl rfl (by decide +kernel) ⟨Nat.le_of_ble_eq_true rfl, Nat.le_of_ble_eq_true rfl⟩) (cp_v hK hN hP hD [1, 3, 4] rfl (by decide) (ci := 0) rfl rfl rfl) rfl rfl hl.1 rfl (lv_room (Nat.le_of_ble_eq_true rfl)) dX9_run_30 ⟨Nat.le_of_ble_eq_true rfl, Nat.le_of_ble_eq_true rfl⟩) hP hD hS hA [1, 3, 4] [0, 2, 5, 6, 7] (wr := [(x0, .inr (9, [.ref b0, .ref im, .ref tp, .ref rd])), (u2, .inl (cy 0, 600, .inl (fun _ => 0))), (sh, .inl (cy 0, 10, .inl (fun _ => 0))), (u0, .inr (5, [.int 0, .ref u1, .ref u2, .ref u3])), (u1, .inl (cy 0, 60, .inl (fun _ => 0)))]) rfl rfl (by decide) (by decide) (fun r30 u_r30 H locs hw30 hP hD hS => ?_)
        try dsimp only at hw30
        have hP : va_P D vwCl [(x0, .inr (9, [.ref b0, .ref im, .ref tp, .ref rd])), (u2, .inl (cy 0, 600, .inl (fun _ => 0))), (sh, .inl (cy 0, 10, .inl (fun _ => 0))), (u0, .inr (5, [.int 0, .ref u1, .ref u2, .ref u3])), (u1, .inl (cy 0, 60, .inl (fun _ => 0))), (b0, .inr (0, [.int 0, .ref r0, .ref u0, .ref t0, .ref l0, .ref q0, .ref of, .ref sh, .ref nl, .ref fc])), (r0, .inr (4, [.int 2, .ref r1, .ref r2])), (r2, .inl (cy 0, 9, .inl g2))] H := hP
        have hD : va_D A [(x0, .inr (9, [.ref b0, .ref im, .ref tp, .ref rd])), (u2, .inl (cy 0, 600, .inl (fun _ => 0))), (sh, .inl (cy 0, 10, .inl (fun _ => 0))), (u0, .inr (5, [.int 0, .ref u1, .ref u2, .ref u3])), (u1, .inl (cy 0, 60, .inl (fun _ => 0))), (b0, .inr (0, [.int 0, .ref r0, .ref u0, .ref t0, .ref l0, .ref q0, .ref of, .ref sh, .ref nl, .ref fc])), (r0, .inr (4, [.int 2, .ref r1, .ref r2])), (r2, .inl (cy 0, 9, .inl g2))] := hD
        refine lv_if_eq (tgt := 38) hx hb dX9_run_33 (by decide) (fun c33 => ?_) (fun c33 => ?_)
        · skip
          have fc33 := q_eq (a := r30.toInt) (b := 0) c33 rfl (by decide)
          refine lv_iload_n hx hb dX9_run_38 rfl (lv_at hl 2 rfl) ?_
          refine lv_iconst (v := 1) hx hb dX9_run_39 (by decide) ?_
          refine lv_icmp_lt (tgt := 49) hx hb dX9_run_40 (by decide) (fun c40 => ?_) (fun c40 => ?_)
          · skip
            have fc40 := q_lt (a := n.toInt) (b := 1) c40 rfl (by decide)
            refine lv_iconst (v := 0) hx hb dX9_run_49 (by decide) ?_
            exact r_z hx hb hr hlocks hK hS dX9_run_50 (by decide) (u := ()) (hP.sub (ws' := []) [] rfl) (hD.sub (ws' := []) [] (by decide) rfl) (by first | exact Or.inl ⟨by decide, by omega⟩ | exact Or.inr ⟨by decide, by omega⟩)
          · skip
            have fc40 := q_nlt (a := n.toInt) (b := 1) c40 rfl (by decide)
            refine lv_iload_n hx hb dX9_run_43 rfl (lv_at hl 2 rfl) ?_
            refine lv_bipush (v := 10) hx hb dX9_run_44 (by decide) ?_
            refine lv_icmp_le (tgt := 51) hx hb dX9_run_46 (by decide) (fun c46 => ?_) (fun c46 => ?_)
            · skip
              have fc46 := q_le (a := n.toInt) (b := 10) c46 rfl (by decide)
              refine lv_aload_n hx hb dX9_run_51 rfl (lv_at hl 0 rfl) ?_
              refine va_get (D := D) (ci := 9) (v := .ref b0) (C := RX9) (T := TX9) (N := 4) hx hb hts in_X9 hown hK hP 0 rfl rfl 0 (by decide) w_1 (fun _ h9 => h9) rfl dX9_run_52 ?_
              refine va_get (D := D) (ci := 0) (v := .ref u0) (C := RX0) (T := TX0) (N := 10) hx hb hts in_X0 hown hK hP 5 rfl rfl 2 (by decide) w_3 (fun _ h9 => h9) rfl dX9_run_55 ?_
              refine lv_iload_n hx hb dX9_run_58 rfl (lv_at hl 1 rfl) ?_
              refine lv_iload_n hx hb dX9_run_59 rfl (lv_at hl 2 rfl) ?_
              refine lv_aload_n hx hb dX9_run_60 rfl (lv_at hl 0 rfl) ?_
              refine va_get (D := D) (ci := 9) (v := .ref b0) (C := RX9) (T := TX9) (N := 4) hx hb hts in_X9 hown hK hP 0 rfl rfl 0 (by decide) w_1 (fun _ h9 => h9) rfl dX9_run_61 ?_
              refine va_get (D := D) (ci := 0) (v := .ref sh) (C := RX0) (T := TX0) (N := 10) hx hb hts in_X0 hown hK hP 5 rfl rfl 7 (by decide) w_6 (fun _ h9 => h9) rfl dX9_run_64 ?_
              refine k_v (va_runV (As := [.int day, .int n, .ref sh]) (rest := []) ⟨hx, hb, hml, hown, hts⟩ (c_X5_add l D cy u0 u1 u2 u3 sh 0 (fun _ => 0) (fun _ => 0) (fun _ => 0) day n H.size (by decide) (by omega)) (cwV 3 hts gX9_run_X5_add rfl rfl rfl (by decide +kernel) ⟨Nat.le_of_ble_eq_true rfl, Nat.le_of_ble_eq_true rfl⟩) (cp_v hK hN hP hD [3, 4, 1, 2] rfl (by decide) (ci := 5) rfl rfl rfl) rfl rfl hl.1 rfl (lv_room (Nat.le_of_ble_eq_true rfl)) dX9_run_67 ⟨Nat.le_of_ble_eq_true rfl, Nat.le_of_ble_eq_true rfl⟩) hP hD hS hA [3, 4, 1, 2] [0, 5, 6, 7] (wr := [(x0, .inr (9, [.ref b0, .ref im, .ref tp, .ref rd])), (b0, .inr (0, [.int 0, .ref r0, .ref u0, .ref t0, .ref l0, .ref q0, .ref of, .ref sh, .ref nl, .ref fc])), (r0, .inr (4, [.int 2, .ref r1, .ref r2])), (r2, .inl (cy 0, 9, .inl g2))]) rfl rfl (by decide) (by decide) (fun u_r67 H locs hw67 hP hD hS => ?_)
              obtain ⟨o67, o67_1⟩ := u_r67
              try dsimp only at hw67
              have hP : va_P D vwCl [(x0, .inr (9, [.ref b0, .ref im, .ref tp, .ref rd])), (b0, .inr (0, [.int 0, .ref r0, .ref u0, .ref t0, .ref l0, .ref q0, .ref of, .ref sh, .ref nl, .ref fc])), (r0, .inr (4, [.int 2, .ref r1, .ref r2])), (r2, .inl (cy 0, 9, .inl g2)), (u0, .inr (5, [.int o67, .ref u1, .ref u2, .ref u3])), (u1, .inl (cy 0, 60, .inl (upd (fun _ => 0) day.toNatClampNeg n))), (u2, .inl (cy 0, 600, .inl o67_1)), (sh, .inl (cy 0, 10, .inl (fun _ => 0)))] H := hP
              have hD : va_D A [(x0, .inr (9, [.ref b0, .ref im, .ref tp, .ref rd])), (b0, .inr (0, [.int 0, .ref r0, .ref u0, .ref t0, .ref l0, .ref q0, .ref of, .ref sh, .ref nl, .ref fc])), (r0, .inr (4, [.int 2, .ref r1, .ref r2])), (r2, .inl (cy 0, 9, .inl g2)), (u0, .inr (5, [.int o67, .ref u1, .ref u2, .ref u3])), (u1, .inl (cy 0, 60, .inl (upd (fun _ => 0) day.toNatClampNeg n))), (u2, .inl (cy 0, 600, .inl o67_1)), (sh, .inl (cy 0, 10, .inl (fun _ => 0)))] := hD
              refine lv_iconst (v := 1) hx hb dX9_run_70 (by decide) ?_
              exact r_z hx hb hr hlocks hK hS dX9_run_71 (by decide) (u := ()) (hP.sub (ws' := []) [] rfl) (hD.sub (ws' := []) [] (by decide) rfl) (by first | exact Or.inl ⟨by decide, by omega⟩ | exact Or.inr ⟨by decide, by omega⟩)
            · skip
              have fc46 := q_nle (a := n.toInt) (b := 10) c46 rfl (by decide)
              refine lv_iconst (v := 0) hx hb dX9_run_49 (by decide) ?_
              exact r_z hx hb hr hlocks hK hS dX9_run_50 (by decide) (u := ()) (hP.sub (ws' := []) [] rfl) (hD.sub (ws' := []) [] (by decide) rfl) (by first | exact Or.inl ⟨by decide, by omega⟩ | exact Or.inr ⟨by decide, by omega⟩)
        · skip
          have fc33 := q_ne (a := r30.toInt) (b := 0) c33 rfl (by decide)
          refine lv_iconst (v := 0) hx hb dX9_run_36 (by decide) ?_
          exact r_z hx hb hr hlocks hK hS dX9_run_37 (by decide) (u := ()) (hP.sub (ws' := []) [] rfl) (hD.sub (ws' := []) [] (by decide) rfl) (by first | exact Or.inl ⟨by decide, by omega⟩ | exact Or.inr ⟨by decide, by omega⟩)

abbrev Q_c_X9_sell (D : va_G) (cy : Nat → ClassId) (x0 : Nat) (b0 : Nat) (im : Nat) (tp : Nat) (rd : Nat) (r0 : Nat) (u0 : Nat) (t0 : Nat) (l0 : Nat) (q0 : Nat) (of : Nat) (sh : Nat) (nl : Nat) (fc : Nat) (u1 : Nat) (u2 : Nat) (u3 : Nat) (o : Int32) (day : Int32) (a : Int32) (b : Int32) : (Nat → Prop) → Array Value → State → Outcome → State → Prop := QI D cy (fun (r : Int32) (_ : Unit) => r.toInt = -1) (fun _ : Unit => [])
set_option maxHeartbeats 4000000 in
set_option maxRecDepth 100000 in
theorem c_X9_sell (l : Launch) (D : va_G) (cy : Nat → ClassId) (x0 : Nat) (b0 : Nat) (im : Nat) (tp : Nat) (rd : Nat) (r0 : Nat) (u0 : Nat) (t0 : Nat) (l0 : Nat) (q0 : Nat) (of : Nat) (sh : Nat) (nl : Nat) (fc : Nat) (u1 : Nat) (u2 : Nat) (u3 : Nat) (o : Int32) (day : Int32) (a : Int32) (b : Int32) (sz : Nat)  : Met l yX9_sell wsX9_sell ({ frames := 2, cells := 0, slots := 0, locals := 44 } : Room) (CP D cy [.ref x0, .int o, .int day, .int a, .int b] [(x0, .inr (9, [.ref b0, .ref im, .ref tp, .ref rd])), (b0, .inr (0, [.int 0, .ref r0, .ref u0, .ref t0, .ref l0, .ref q0, .ref of, .ref sh, .ref nl, .ref fc])), (u0, .inr (5, [.int 0, .ref u1, .ref u2, .ref u3])), (u1, .inl (cy 0, 60, .inl (fun _ => 0)))] sz) (Q_c_X9_sell D cy x0 b0 im tp rd r0 u0 t0 l0 q0 of sh nl fc u1 u2 u3 o day a b (va_A [(x0, .inr (9, [.ref b0, .ref im, .ref tp, .ref rd])), (b0, .inr (0, [.int 0, .ref r0, .ref u0, .ref t0, .ref l0, .ref q0, .ref of, .ref sh, .ref nl, .ref fc])), (u0, .inr (5, [.int 0, .ref u1, .ref u2, .ref u3])), (u1, .inl (cy 0, 60, .inl (fun _ => 0)))] sz)) 0 0 (va_A [(x0, .inr (9, [.ref b0, .ref im, .ref tp, .ref rd])), (b0, .inr (0, [.int 0, .ref r0, .ref u0, .ref t0, .ref l0, .ref q0, .ref of, .ref sh, .ref nl, .ref fc])), (u0, .inr (5, [.int 0, .ref u1, .ref u2, .ref u3])), (u1, .inl (cy 0, 60, .inl (fun _ => 0)))] sz) := by
  refine Met.go (Qc := Q_c_X9_sell D cy x0 b0 im tp rd r0 u0 t0 l0 q0 of sh nl fc u1 u2 u3 o day a b) (cc := cX9_sell) (maxL := 5) (ret := (some .int)) (by decide) rfl (Nat.le_of_ble_eq_true rfl) ?_
  intro p e s m below meth c hx hb hr hts hown hlocks hin hml hK hN A hA hD hP hS ls hl hsz
  have hl : lv_has ls 5 [(0, .ref x0), (1, .int o), (2, .int day), (3, .int a), (4, .int b)] := hl
  have in_X9 : ∀ w ∈ wsX90, w ∈ wsX9_sell := fun _ h => List.mem_cons_of_mem _ (List.mem_append_left _ (List.mem_append_left _ (List.mem_append_left _ (List.mem_append_left _ ((List.mem_append_right _ h))))))
  have w_1 := hts (.fieldLink RX9 10 "SleepingCars" "book" "LSleepingCars$Book;") (by decide +kernel)
  have w_2 := hts (.instanceMethod yX0_isRunStretch) (by decide +kernel)
  obtain ⟨H, eH⟩ : ∃ H : Heap, H = s.heap := ⟨_, rfl⟩
  obtain ⟨locs, eL⟩ : ∃ L : List Loc, L = [] := ⟨_, rfl⟩
  rw [← eL]
  rw [← eL] at hS
  have hP : va_P D vwCl [(x0, .inr (9, [.ref b0, .ref im, .ref tp, .ref rd])), (b0, .inr (0, [.int 0, .ref r0, .ref u0, .ref t0, .ref l0, .ref q0, .ref of, .ref sh, .ref nl, .ref fc])), (u0, .inr (5, [.int 0, .ref u1, .ref u2, .ref u3])), (u1, .inl (cy 0, 60, .inl (fun _ => 0)))] H := by rw [eH]; exact hP
  have hS : va_S A s.heap H locs := by rw [eH]; exact hS
  refine W.heapEq eH ?_
  clear eH eL
  refine lv_iload_n hx hb dX9_sell_0 rfl (lv_at hl 1 rfl) ?_
  refine k_i (va_runS (As := [.int o]) (rest := []) ⟨hx, hb, hml, hown, hts⟩ (c_X9_isOffice l D cy o H.size ) (va_cwS 1 hts gX9_sell_X9_isOffice rfl rfl rfl (by decide +kernel) ⟨Nat.le_of_ble_eq_true rfl, Nat.le_of_ble_eq_true rfl⟩) (cp_s hK hN hP hD [] rfl (by decide)) rfl rfl hl.1 rfl (lv_room (Nat.le_of_ble_eq_true rfl)) dX9_sell_1 ⟨Nat.le_of_ble_eq_true rfl, Nat.le_of_ble_eq_true rfl⟩) hP hD hS hA [] [0, 1, 2, 3] (wr := [(x0, .inr (9, [.ref b0, .ref im, .ref tp, .ref rd])), (b0, .inr (0, [.int 0, .ref r0, .ref u0, .ref t0, .ref l0, .ref q0, .ref of, .ref sh, .ref nl, .ref fc])), (u0, .inr (5, [.int 0, .ref u1, .ref u2, .ref u3])), (u1, .inl (cy 0, 60, .inl (fun _ => 0)))]) rfl rfl (by decide) (by decide) (fun r1 u_r1 H locs hw1 hP hD hS => ?_)
  try dsimp only at hw1
  have hP : va_P D vwCl [(x0, .inr (9, [.ref b0, .ref im, .ref tp, .ref rd])), (b0, .inr (0, [.int 0, .ref r0, .ref u0, .ref t0, .ref l0, .ref q0, .ref of, .ref sh, .ref nl, .ref fc])), (u0, .inr (5, [.int 0, .ref u1, .ref u2, .ref u3])), (u1, .inl (cy 0, 60, .inl (fun _ => 0)))] H := hP
  have hD : va_D A [(x0, .inr (9, [.ref b0, .ref im, .ref tp, .ref rd])), (b0, .inr (0, [.int 0, .ref r0, .ref u0, .ref t0, .ref l0, .ref q0, .ref of, .ref sh, .ref nl, .ref fc])), (u0, .inr (5, [.int 0, .ref u1, .ref u2, .ref u3])), (u1, .inl (cy 0, 60, .inl (fun _ => 0)))] := hD
  refine lv_if_eq (tgt := 21) hx hb dX9_sell_4 (by decide) (fun c4 => ?_) (fun c4 => ?_)
  · skip
    have fc4 := q_eq (a := r1.toInt) (b := 0) c4 rfl (by decide)
    refine lv_iconst (v := (-1)) hx hb dX9_sell_21 (by decide) ?_
    exact r_i hx hb hr hlocks hK hS dX9_sell_22 (u := ()) (hP.sub (ws' := []) [] rfl) (hD.sub (ws' := []) [] (by decide) rfl) (by decide)
  · skip
    have fc4 := q_ne (a := r1.toInt) (b := 0) c4 rfl (by decide)
    refine lv_aload_n hx hb dX9_sell_7 rfl (lv_at hl 0 rfl) ?_
    refine va_get (D := D) (ci := 9) (v := .ref b0) (C := RX9) (T := TX9) (N := 4) hx hb hts in_X9 hown hK hP 0 rfl rfl 0 (by decide) w_1 (fun _ h9 => h9) rfl dX9_sell_8 ?_
    refine lv_iload_n hx hb dX9_sell_11 rfl (lv_at hl 2 rfl) ?_
    refine lv_iload_n hx hb dX9_sell_12 rfl (lv_at hl 3 rfl) ?_
    refine lv_iload hx hb dX9_sell_13 (lv_at hl 4 rfl) ?_
    refine k_i (va_runV (As := [.int day, .int a, .int b]) (rest := []) ⟨hx, hb, hml, hown, hts⟩ (c_isRunStretch0 l D cy b0 r0 u0 t0 l0 q0 of sh nl fc u1 u2 u3 day a b H.size ) (cwV 3 hts gX9_sell_X0_isRunStretch rfl rfl rfl (by decide +kernel) ⟨Nat.le_of_ble_eq_true rfl, Nat.le_of_ble_eq_true rfl⟩) (cp_v hK hN hP hD [1, 2, 3] rfl (by decide) (ci := 0) rfl rfl rfl) rfl rfl hl.1 rfl (lv_room (Nat.le_of_ble_eq_true rfl)) dX9_sell_15 ⟨Nat.le_of_ble_eq_true rfl, Nat.le_of_ble_eq_true rfl⟩) hP hD hS hA [1, 2, 3] [0] (wr := [(x0, .inr (9, [.ref b0, .ref im, .ref tp, .ref rd]))]) rfl rfl (by decide) (by decide) (fun r15 u_r15 H locs hw15 hP hD hS => ?_)
    try dsimp only at hw15
    have hP : va_P D vwCl [(x0, .inr (9, [.ref b0, .ref im, .ref tp, .ref rd])), (b0, .inr (0, [.int 0, .ref r0, .ref u0, .ref t0, .ref l0, .ref q0, .ref of, .ref sh, .ref nl, .ref fc])), (u0, .inr (5, [.int 0, .ref u1, .ref u2, .ref u3])), (u1, .inl (cy 0, 60, .inl (fun _ => 0)))] H := hP
    have hD : va_D A [(x0, .inr (9, [.ref b0, .ref im, .ref tp, .ref rd])), (b0, .inr (0, [.int 0, .ref r0, .ref u0, .ref t0, .ref l0, .ref q0, .ref of, .ref sh, .ref nl, .ref fc])), (u0, .inr (5, [.int 0, .ref u1, .ref u2, .ref u3])), (u1, .inl (cy 0, 60, .inl (fun _ => 0)))] := hD
    refine lv_if_ne (tgt := 23) hx hb dX9_sell_18 (by decide) (fun c18 => ?_) (fun c18 => ?_)
    · skip
      have fc18 := q_ne (a := r15.toInt) (b := 0) c18 rfl (by decide)
      exfalso; omega
    · skip
      have fc18 := q_eq (a := r15.toInt) (b := 0) c18 rfl (by decide)
      refine lv_iconst (v := (-1)) hx hb dX9_sell_21 (by decide) ?_
      exact r_i hx hb hr hlocks hK hS dX9_sell_22 (u := ()) (hP.sub (ws' := []) [] rfl) (hD.sub (ws' := []) [] (by decide) rfl) (by decide)

abbrev Q_c_X9_back (D : va_G) (cy : Nat → ClassId) (x0 : Nat) (b0 : Nat) (im : Nat) (tp : Nat) (rd : Nat) (r0 : Nat) (u0 : Nat) (t0 : Nat) (l0 : Nat) (q0 : Nat) (of : Nat) (sh : Nat) (nl : Nat) (fc : Nat) (t1 : Nat) (t2 : Nat) (t3 : Nat) (t4 : Nat) (t5 : Nat) (t6 : Nat) (t : Int32) : (Nat → Prop) → Array Value → State → Outcome → State → Prop := QI D cy (fun (r : Int32) (_ : Unit) => r.toInt = 0) (fun _ : Unit => [])
set_option maxHeartbeats 4000000 in
set_option maxRecDepth 100000 in
theorem c_X9_back (l : Launch) (D : va_G) (cy : Nat → ClassId) (x0 : Nat) (b0 : Nat) (im : Nat) (tp : Nat) (rd : Nat) (r0 : Nat) (u0 : Nat) (t0 : Nat) (l0 : Nat) (q0 : Nat) (of : Nat) (sh : Nat) (nl : Nat) (fc : Nat) (t1 : Nat) (t2 : Nat) (t3 : Nat) (t4 : Nat) (t5 : Nat) (t6 : Nat) (t : Int32) (sz : Nat)  : Met l yX9_back wsX9_back ({ frames := 1, cells := 0, slots := 0, locals := 21 } : Room) (CP D cy [.ref x0, .int t] [(x0, .inr (9, [.ref b0, .ref im, .ref tp, .ref rd])), (b0, .inr (0, [.int 0, .ref r0, .ref u0, .ref t0, .ref l0, .ref q0, .ref of, .ref sh, .ref nl, .ref fc])), (t0, .inr (7, [.int 0, .ref t1, .ref t2, .ref t3, .ref t4, .ref t5, .ref t6]))] sz) (Q_c_X9_back D cy x0 b0 im tp rd r0 u0 t0 l0 q0 of sh nl fc t1 t2 t3 t4 t5 t6 t (va_A [(x0, .inr (9, [.ref b0, .ref im, .ref tp, .ref rd])), (b0, .inr (0, [.int 0, .ref r0, .ref u0, .ref t0, .ref l0, .ref q0, .ref of, .ref sh, .ref nl, .ref fc])), (t0, .inr (7, [.int 0, .ref t1, .ref t2, .ref t3, .ref t4, .ref t5, .ref t6]))] sz)) 0 0 (va_A [(x0, .inr (9, [.ref b0, .ref im, .ref tp, .ref rd])), (b0, .inr (0, [.int 0, .ref r0, .ref u0, .ref t0, .ref l0, .ref q0, .ref of, .ref sh, .ref nl, .ref fc])), (t0, .inr (7, [.int 0, .ref t1, .ref t2, .ref t3, .ref t4, .ref t5, .ref t6]))] sz) := by
  refine Met.go (Qc := Q_c_X9_back D cy x0 b0 im tp rd r0 u0 t0 l0 q0 of sh nl fc t1 t2 t3 t4 t5 t6 t) (cc := cX9_back) (maxL := 2) (ret := (some .boolean)) (by decide) rfl (Nat.le_of_ble_eq_true rfl) ?_
  intro p e s m below meth c hx hb hr hts hown hlocks hin hml hK hN A hA hD hP hS ls hl hsz
  have hl : lv_has ls 2 [(0, .ref x0), (1, .int t)] := hl
  have in_X9 : ∀ w ∈ wsX90, w ∈ wsX9_back := fun _ h => List.mem_cons_of_mem _ (List.mem_append_left _ (List.mem_append_left _ (List.mem_append_left _ (List.mem_append_left _ ((List.mem_append_right _ h))))))
  have w_1 := hts (.fieldLink RX9 10 "SleepingCars" "book" "LSleepingCars$Book;") (by decide +kernel)
  have in_X0 : ∀ w ∈ wsX00, w ∈ wsX9_back := fun _ h => List.mem_cons_of_mem _ (List.mem_append_left _ (List.mem_append_left _ (List.mem_append_left _ ((List.mem_append_right _ h)))))
  have w_3 := hts (.fieldLink RX9 102 "SleepingCars$Book" "tickets" "LSleepingCars$Tickets;") (by decide +kernel)
  have w_4 := hts (.instanceMethod yX7_has) (by decide +kernel)
  obtain ⟨H, eH⟩ : ∃ H : Heap, H = s.heap := ⟨_, rfl⟩
  obtain ⟨locs, eL⟩ : ∃ L : List Loc, L = [] := ⟨_, rfl⟩
  rw [← eL]
  rw [← eL] at hS
  have hP : va_P D vwCl [(x0, .inr (9, [.ref b0, .ref im, .ref tp, .ref rd])), (b0, .inr (0, [.int 0, .ref r0, .ref u0, .ref t0, .ref l0, .ref q0, .ref of, .ref sh, .ref nl, .ref fc])), (t0, .inr (7, [.int 0, .ref t1, .ref t2, .ref t3, .ref t4, .ref t5, .ref t6]))] H := by rw [eH]; exact hP
  have hS : va_S A s.heap H locs := by rw [eH]; exact hS
  refine W.heapEq eH ?_
  clear eH eL
  refine lv_aload_n hx hb dX9_back_0 rfl (lv_at hl 0 rfl) ?_
  refine va_get (D := D) (ci := 9) (v := .ref b0) (C := RX9) (T := TX9) (N := 4) hx hb hts in_X9 hown hK hP 0 rfl rfl 0 (by decide) w_1 (fun _ h9 => h9) rfl dX9_back_1 ?_
  refine va_get (D := D) (ci := 0) (v := .ref t0) (C := RX0) (T := TX0) (N := 10) hx hb hts in_X0 hown hK hP 1 rfl rfl 3 (by decide) w_3 (fun _ h9 => h9) rfl dX9_back_4 ?_
  refine lv_iload_n hx hb dX9_back_7 rfl (lv_at hl 1 rfl) ?_
  refine k_i (va_runV (As := [.int t]) (rest := []) ⟨hx, hb, hml, hown, hts⟩ (c_hasT0 l D cy t0 t1 t2 t3 t4 t5 t6 t H.size ) (cwV 1 hts gX9_back_X7_has rfl rfl rfl (by decide +kernel) ⟨Nat.le_of_ble_eq_true rfl, Nat.le_of_ble_eq_true rfl⟩) (cp_v hK hN hP hD [2] rfl (by decide) (ci := 7) rfl rfl rfl) rfl rfl hl.1 rfl (lv_room (Nat.le_of_ble_eq_true rfl)) dX9_back_8 ⟨Nat.le_of_ble_eq_true rfl, Nat.le_of_ble_eq_true rfl⟩) hP hD hS hA [2] [0, 1] (wr := [(x0, .inr (9, [.ref b0, .ref im, .ref tp, .ref rd])), (b0, .inr (0, [.int 0, .ref r0, .ref u0, .ref t0, .ref l0, .ref q0, .ref of, .ref sh, .ref nl, .ref fc]))]) rfl rfl (by decide) (by decide) (fun r8 u_r8 H locs hw8 hP hD hS => ?_)
  try dsimp only at hw8
  have hP : va_P D vwCl [(x0, .inr (9, [.ref b0, .ref im, .ref tp, .ref rd])), (b0, .inr (0, [.int 0, .ref r0, .ref u0, .ref t0, .ref l0, .ref q0, .ref of, .ref sh, .ref nl, .ref fc])), (t0, .inr (7, [.int 0, .ref t1, .ref t2, .ref t3, .ref t4, .ref t5, .ref t6]))] H := hP
  have hD : va_D A [(x0, .inr (9, [.ref b0, .ref im, .ref tp, .ref rd])), (b0, .inr (0, [.int 0, .ref r0, .ref u0, .ref t0, .ref l0, .ref q0, .ref of, .ref sh, .ref nl, .ref fc])), (t0, .inr (7, [.int 0, .ref t1, .ref t2, .ref t3, .ref t4, .ref t5, .ref t6]))] := hD
  refine lv_if_eq (tgt := 29) hx hb dX9_back_11 (by decide) (fun c11 => ?_) (fun c11 => ?_)
  · skip
    have fc11 := q_eq (a := r8.toInt) (b := 0) c11 rfl (by decide)
    refine lv_iconst (v := 0) hx hb dX9_back_29 (by decide) ?_
    exact r_z hx hb hr hlocks hK hS dX9_back_30 (by decide) (u := ()) (hP.sub (ws' := []) [] rfl) (hD.sub (ws' := []) [] (by decide) rfl) (by decide)
  · skip
    have fc11 := q_ne (a := r8.toInt) (b := 0) c11 rfl (by decide)
    exfalso; omega

abbrev Q_c_X9_letter (D : va_G) (cy : Nat → ClassId) (x0 : Nat) (b0 : Nat) (im : Nat) (tp : Nat) (rd : Nat) (r0 : Nat) (u0 : Nat) (t0 : Nat) (l0 : Nat) (q0 : Nat) (of : Nat) (sh : Nat) (nl : Nat) (fc : Nat) (u1 : Nat) (u2 : Nat) (u3 : Nat) (o : Int32) (oo : Int32) (day : Int32) (a : Int32) (b : Int32) : (Nat → Prop) → Array Value → State → Outcome → State → Prop := QI D cy (fun (r : Int32) (_ : Unit) => r.toInt = -1) (fun _ : Unit => [])
set_option maxHeartbeats 4000000 in
set_option maxRecDepth 100000 in
theorem c_X9_letter (l : Launch) (D : va_G) (cy : Nat → ClassId) (x0 : Nat) (b0 : Nat) (im : Nat) (tp : Nat) (rd : Nat) (r0 : Nat) (u0 : Nat) (t0 : Nat) (l0 : Nat) (q0 : Nat) (of : Nat) (sh : Nat) (nl : Nat) (fc : Nat) (u1 : Nat) (u2 : Nat) (u3 : Nat) (o : Int32) (oo : Int32) (day : Int32) (a : Int32) (b : Int32) (sz : Nat)  : Met l yX9_letter wsX9_letter ({ frames := 2, cells := 0, slots := 0, locals := 44 } : Room) (CP D cy [.ref x0, .int o, .int oo, .int day, .int a, .int b] [(x0, .inr (9, [.ref b0, .ref im, .ref tp, .ref rd])), (b0, .inr (0, [.int 0, .ref r0, .ref u0, .ref t0, .ref l0, .ref q0, .ref of, .ref sh, .ref nl, .ref fc])), (u0, .inr (5, [.int 0, .ref u1, .ref u2, .ref u3])), (u1, .inl (cy 0, 60, .inl (fun _ => 0)))] sz) (Q_c_X9_letter D cy x0 b0 im tp rd r0 u0 t0 l0 q0 of sh nl fc u1 u2 u3 o oo day a b (va_A [(x0, .inr (9, [.ref b0, .ref im, .ref tp, .ref rd])), (b0, .inr (0, [.int 0, .ref r0, .ref u0, .ref t0, .ref l0, .ref q0, .ref of, .ref sh, .ref nl, .ref fc])), (u0, .inr (5, [.int 0, .ref u1, .ref u2, .ref u3])), (u1, .inl (cy 0, 60, .inl (fun _ => 0)))] sz)) 0 0 (va_A [(x0, .inr (9, [.ref b0, .ref im, .ref tp, .ref rd])), (b0, .inr (0, [.int 0, .ref r0, .ref u0, .ref t0, .ref l0, .ref q0, .ref of, .ref sh, .ref nl, .ref fc])), (u0, .inr (5, [.int 0, .ref u1, .ref u2, .ref u3])), (u1, .inl (cy 0, 60, .inl (fun _ => 0)))] sz) := by
  refine Met.go (Qc := Q_c_X9_letter D cy x0 b0 im tp rd r0 u0 t0 l0 q0 of sh nl fc u1 u2 u3 o oo day a b) (cc := cX9_letter) (maxL := 7) (ret := (some .int)) (by decide) rfl (Nat.le_of_ble_eq_true rfl) ?_
  intro p e s m below meth c hx hb hr hts hown hlocks hin hml hK hN A hA hD hP hS ls hl hsz
  have hl : lv_has ls 7 [(0, .ref x0), (1, .int o), (2, .int oo), (3, .int day), (4, .int a), (5, .int b)] := hl
  have in_X9 : ∀ w ∈ wsX90, w ∈ wsX9_letter := fun _ h => List.mem_cons_of_mem _ (List.mem_append_left _ (List.mem_append_left _ (List.mem_append_left _ (List.mem_append_left _ (List.mem_append_left _ ((List.mem_append_right _ h)))))))
  have w_1 := hts (.fieldLink RX9 10 "SleepingCars" "book" "LSleepingCars$Book;") (by decide +kernel)
  have w_2 := hts (.instanceMethod yX0_isRunStretch) (by decide +kernel)
  obtain ⟨H, eH⟩ : ∃ H : Heap, H = s.heap := ⟨_, rfl⟩
  obtain ⟨locs, eL⟩ : ∃ L : List Loc, L = [] := ⟨_, rfl⟩
  rw [← eL]
  rw [← eL] at hS
  have hP : va_P D vwCl [(x0, .inr (9, [.ref b0, .ref im, .ref tp, .ref rd])), (b0, .inr (0, [.int 0, .ref r0, .ref u0, .ref t0, .ref l0, .ref q0, .ref of, .ref sh, .ref nl, .ref fc])), (u0, .inr (5, [.int 0, .ref u1, .ref u2, .ref u3])), (u1, .inl (cy 0, 60, .inl (fun _ => 0)))] H := by rw [eH]; exact hP
  have hS : va_S A s.heap H locs := by rw [eH]; exact hS
  refine W.heapEq eH ?_
  clear eH eL
  refine lv_iload_n hx hb dX9_letter_0 rfl (lv_at hl 1 rfl) ?_
  refine k_i (va_runS (As := [.int o]) (rest := []) ⟨hx, hb, hml, hown, hts⟩ (c_X9_isOffice l D cy o H.size ) (va_cwS 1 hts gX9_letter_X9_isOffice rfl rfl rfl (by decide +kernel) ⟨Nat.le_of_ble_eq_true rfl, Nat.le_of_ble_eq_true rfl⟩) (cp_s hK hN hP hD [] rfl (by decide)) rfl rfl hl.1 rfl (lv_room (Nat.le_of_ble_eq_true rfl)) dX9_letter_1 ⟨Nat.le_of_ble_eq_true rfl, Nat.le_of_ble_eq_true rfl⟩) hP hD hS hA [] [0, 1, 2, 3] (wr := [(x0, .inr (9, [.ref b0, .ref im, .ref tp, .ref rd])), (b0, .inr (0, [.int 0, .ref r0, .ref u0, .ref t0, .ref l0, .ref q0, .ref of, .ref sh, .ref nl, .ref fc])), (u0, .inr (5, [.int 0, .ref u1, .ref u2, .ref u3])), (u1, .inl (cy 0, 60, .inl (fun _ => 0)))]) rfl rfl (by decide) (by decide) (fun r1 u_r1 H locs hw1 hP hD hS => ?_)
  try dsimp only at hw1
  have hP : va_P D vwCl [(x0, .inr (9, [.ref b0, .ref im, .ref tp, .ref rd])), (b0, .inr (0, [.int 0, .ref r0, .ref u0, .ref t0, .ref l0, .ref q0, .ref of, .ref sh, .ref nl, .ref fc])), (u0, .inr (5, [.int 0, .ref u1, .ref u2, .ref u3])), (u1, .inl (cy 0, 60, .inl (fun _ => 0)))] H := hP
  have hD : va_D A [(x0, .inr (9, [.ref b0, .ref im, .ref tp, .ref rd])), (b0, .inr (0, [.int 0, .ref r0, .ref u0, .ref t0, .ref l0, .ref q0, .ref of, .ref sh, .ref nl, .ref fc])), (u0, .inr (5, [.int 0, .ref u1, .ref u2, .ref u3])), (u1, .inl (cy 0, 60, .inl (fun _ => 0)))] := hD
  refine lv_if_eq (tgt := 19) hx hb dX9_letter_4 (by decide) (fun c4 => ?_) (fun c4 => ?_)
  · skip
    have fc4 := q_eq (a := r1.toInt) (b := 0) c4 rfl (by decide)
    refine lv_iconst (v := (-1)) hx hb dX9_letter_19 (by decide) ?_
    exact r_i hx hb hr hlocks hK hS dX9_letter_20 (u := ()) (hP.sub (ws' := []) [] rfl) (hD.sub (ws' := []) [] (by decide) rfl) (by decide)
  · skip
    have fc4 := q_ne (a := r1.toInt) (b := 0) c4 rfl (by decide)
    refine lv_iload_n hx hb dX9_letter_7 rfl (lv_at hl 2 rfl) ?_
    refine k_i (va_runS (As := [.int oo]) (rest := []) ⟨hx, hb, hml, hown, hts⟩ (c_X9_isOffice l D cy oo H.size ) (va_cwS 1 hts gX9_letter_X9_isOffice rfl rfl rfl (by decide +kernel) ⟨Nat.le_of_ble_eq_true rfl, Nat.le_of_ble_eq_true rfl⟩) (cp_s hK hN hP hD [] rfl (by decide)) rfl rfl hl.1 rfl (lv_room (Nat.le_of_ble_eq_true rfl)) dX9_letter_8 ⟨Nat.le_of_ble_eq_true rfl, Nat.le_of_ble_eq_true rfl⟩) hP hD hS hA [] [0, 1, 2, 3] (wr := [(x0, .inr (9, [.ref b0, .ref im, .ref tp, .ref rd])), (b0, .inr (0, [.int 0, .ref r0, .ref u0, .ref t0, .ref l0, .ref q0, .ref of, .ref sh, .ref nl, .ref fc])), (u0, .inr (5, [.int 0, .ref u1, .ref u2, .ref u3])), (u1, .inl (cy 0, 60, .inl (fun _ => 0)))]) rfl rfl (by decide) (by decide) (fun r8 u_r8 H locs hw8 hP hD hS => ?_)
    try dsimp only at hw8
    have hP : va_P D vwCl [(x0, .inr (9, [.ref b0, .ref im, .ref tp, .ref rd])), (b0, .inr (0, [.int 0, .ref r0, .ref u0, .ref t0, .ref l0, .ref q0, .ref of, .ref sh, .ref nl, .ref fc])), (u0, .inr (5, [.int 0, .ref u1, .ref u2, .ref u3])), (u1, .inl (cy 0, 60, .inl (fun _ => 0)))] H := hP
    have hD : va_D A [(x0, .inr (9, [.ref b0, .ref im, .ref tp, .ref rd])), (b0, .inr (0, [.int 0, .ref r0, .ref u0, .ref t0, .ref l0, .ref q0, .ref of, .ref sh, .ref nl, .ref fc])), (u0, .inr (5, [.int 0, .ref u1, .ref u2, .ref u3])), (u1, .inl (cy 0, 60, .inl (fun _ => 0)))] := hD
    refine lv_if_eq (tgt := 19) hx hb dX9_letter_11 (by decide) (fun c11 => ?_) (fun c11 => ?_)
    · skip
      have fc11 := q_eq (a := r8.toInt) (b := 0) c11 rfl (by decide)
      refine lv_iconst (v := (-1)) hx hb dX9_letter_19 (by decide) ?_
      exact r_i hx hb hr hlocks hK hS dX9_letter_20 (u := ()) (hP.sub (ws' := []) [] rfl) (hD.sub (ws' := []) [] (by decide) rfl) (by decide)
    · skip
      have fc11 := q_ne (a := r8.toInt) (b := 0) c11 rfl (by decide)
      refine lv_iload_n hx hb dX9_letter_14 rfl (lv_at hl 1 rfl) ?_
      refine lv_iload_n hx hb dX9_letter_15 rfl (lv_at hl 2 rfl) ?_
      refine lv_icmp_ne (tgt := 21) hx hb dX9_letter_16 (by decide) (fun c16 => ?_) (fun c16 => ?_)
      · skip
        have fc16 := q_ne (a := o.toInt) (b := oo.toInt) c16 rfl rfl
        refine lv_aload_n hx hb dX9_letter_21 rfl (lv_at hl 0 rfl) ?_
        refine va_get (D := D) (ci := 9) (v := .ref b0) (C := RX9) (T := TX9) (N := 4) hx hb hts in_X9 hown hK hP 0 rfl rfl 0 (by decide) w_1 (fun _ h9 => h9) rfl dX9_letter_22 ?_
        refine lv_iload_n hx hb dX9_letter_25 rfl (lv_at hl 3 rfl) ?_
        refine lv_iload hx hb dX9_letter_26 (lv_at hl 4 rfl) ?_
        refine lv_iload hx hb dX9_letter_28 (lv_at hl 5 rfl) ?_
        refine k_i (va_runV (As := [.int day, .int a, .int b]) (rest := []) ⟨hx, hb, hml, hown, hts⟩ (c_isRunStretch0 l D cy b0 r0 u0 t0 l0 q0 of sh nl fc u1 u2 u3 day a b H.size ) (cwV 3 hts gX9_letter_X0_isRunStretch rfl rfl rfl (by decide +kernel) ⟨Nat.le_of_ble_eq_true rfl, Nat.le_of_ble_eq_true rfl⟩) (cp_v hK hN hP hD [1, 2, 3] rfl (by decide) (ci := 0) rfl rfl rfl) rfl rfl hl.1 rfl (lv_room (Nat.le_of_ble_eq_true rfl)) dX9_letter_30 ⟨Nat.le_of_ble_eq_true rfl, Nat.le_of_ble_eq_true rfl⟩) hP hD hS hA [1, 2, 3] [0] (wr := [(x0, .inr (9, [.ref b0, .ref im, .ref tp, .ref rd]))]) rfl rfl (by decide) (by decide) (fun r30 u_r30 H locs hw30 hP hD hS => ?_)
        try dsimp only at hw30
        have hP : va_P D vwCl [(x0, .inr (9, [.ref b0, .ref im, .ref tp, .ref rd])), (b0, .inr (0, [.int 0, .ref r0, .ref u0, .ref t0, .ref l0, .ref q0, .ref of, .ref sh, .ref nl, .ref fc])), (u0, .inr (5, [.int 0, .ref u1, .ref u2, .ref u3])), (u1, .inl (cy 0, 60, .inl (fun _ => 0)))] H := hP
        have hD : va_D A [(x0, .inr (9, [.ref b0, .ref im, .ref tp, .ref rd])), (b0, .inr (0, [.int 0, .ref r0, .ref u0, .ref t0, .ref l0, .ref q0, .ref of, .ref sh, .ref nl, .ref fc])), (u0, .inr (5, [.int 0, .ref u1, .ref u2, .ref u3])), (u1, .inl (cy 0, 60, .inl (fun _ => 0)))] := hD
        refine lv_if_eq (tgt := 49) hx hb dX9_letter_33 (by decide) (fun c33 => ?_) (fun c33 => ?_)
        · skip
          have fc33 := q_eq (a := r30.toInt) (b := 0) c33 rfl (by decide)
          refine lv_iconst (v := (-1)) hx hb dX9_letter_49 (by decide) ?_
          exact r_i hx hb hr hlocks hK hS dX9_letter_50 (u := ()) (hP.sub (ws' := []) [] rfl) (hD.sub (ws' := []) [] (by decide) rfl) (by decide)
        · skip
          have fc33 := q_ne (a := r30.toInt) (b := 0) c33 rfl (by decide)
          exfalso; omega
      · skip
        have fc16 := q_eq (a := o.toInt) (b := oo.toInt) c16 rfl rfl
        refine lv_iconst (v := (-1)) hx hb dX9_letter_19 (by decide) ?_
        exact r_i hx hb hr hlocks hK hS dX9_letter_20 (u := ()) (hP.sub (ws' := []) [] rfl) (hD.sub (ws' := []) [] (by decide) rfl) (by decide)

abbrev Q_c_X9_post (D : va_G) (cy : Nat → ClassId) (x0 : Nat) (b0 : Nat) (im : Nat) (tp : Nat) (rd : Nat) (r0 : Nat) (u0 : Nat) (t0 : Nat) (l0 : Nat) (q0 : Nat) (of : Nat) (sh : Nat) (nl : Nat) (fc : Nat) (l1 : Nat) (l2 : Nat) (l3 : Nat) (l4 : Nat) (l5 : Nat) (l6 : Nat) (l7 : Nat) (n : Int32) (what : Int32) : (Nat → Prop) → Array Value → State → Outcome → State → Prop := QI D cy (fun (r : Int32) (_ : Unit) => r.toInt = -1) (fun _ : Unit => [])
set_option maxHeartbeats 4000000 in
set_option maxRecDepth 100000 in
theorem c_X9_post (l : Launch) (D : va_G) (cy : Nat → ClassId) (x0 : Nat) (b0 : Nat) (im : Nat) (tp : Nat) (rd : Nat) (r0 : Nat) (u0 : Nat) (t0 : Nat) (l0 : Nat) (q0 : Nat) (of : Nat) (sh : Nat) (nl : Nat) (fc : Nat) (l1 : Nat) (l2 : Nat) (l3 : Nat) (l4 : Nat) (l5 : Nat) (l6 : Nat) (l7 : Nat) (n : Int32) (what : Int32) (sz : Nat)  : Met l yX9_post wsX9_post ({ frames := 1, cells := 0, slots := 0, locals := 21 } : Room) (CP D cy [.ref x0, .int n, .int what] [(x0, .inr (9, [.ref b0, .ref im, .ref tp, .ref rd])), (b0, .inr (0, [.int 0, .ref r0, .ref u0, .ref t0, .ref l0, .ref q0, .ref of, .ref sh, .ref nl, .ref fc])), (l0, .inr (1, [.int 0, .ref l1, .ref l2, .ref l3, .ref l4, .ref l5, .ref l6, .ref l7]))] sz) (Q_c_X9_post D cy x0 b0 im tp rd r0 u0 t0 l0 q0 of sh nl fc l1 l2 l3 l4 l5 l6 l7 n what (va_A [(x0, .inr (9, [.ref b0, .ref im, .ref tp, .ref rd])), (b0, .inr (0, [.int 0, .ref r0, .ref u0, .ref t0, .ref l0, .ref q0, .ref of, .ref sh, .ref nl, .ref fc])), (l0, .inr (1, [.int 0, .ref l1, .ref l2, .ref l3, .ref l4, .ref l5, .ref l6, .ref l7]))] sz)) 0 0 (va_A [(x0, .inr (9, [.ref b0, .ref im, .ref tp, .ref rd])), (b0, .inr (0, [.int 0, .ref r0, .ref u0, .ref t0, .ref l0, .ref q0, .ref of, .ref sh, .ref nl, .ref fc])), (l0, .inr (1, [.int 0, .ref l1, .ref l2, .ref l3, .ref l4, .ref l5, .ref l6, .ref l7]))] sz) := by
  refine Met.go (Qc := Q_c_X9_post D cy x0 b0 im tp rd r0 u0 t0 l0 q0 of sh nl fc l1 l2 l3 l4 l5 l6 l7 n what) (cc := cX9_post) (maxL := 3) (ret := (some .int)) (by decide) rfl (Nat.le_of_ble_eq_true rfl) ?_
  intro p e s m below meth c hx hb hr hts hown hlocks hin hml hK hN A hA hD hP hS ls hl hsz
  have hl : lv_has ls 3 [(0, .ref x0), (1, .int n), (2, .int what)] := hl
  have in_X9 : ∀ w ∈ wsX90, w ∈ wsX9_post := fun _ h => List.mem_cons_of_mem _ (List.mem_append_left _ (List.mem_append_left _ ((List.mem_append_right _ h))))
  have w_1 := hts (.fieldLink RX9 10 "SleepingCars" "book" "LSleepingCars$Book;") (by decide +kernel)
  have in_X0 : ∀ w ∈ wsX00, w ∈ wsX9_post := fun _ h => List.mem_cons_of_mem _ (List.mem_append_left _ ((List.mem_append_right _ h)))
  have w_3 := hts (.fieldLink RX9 122 "SleepingCars$Book" "letters" "LSleepingCars$Letters;") (by decide +kernel)
  have w_4 := hts (.instanceMethod yX1_has) (by decide +kernel)
  obtain ⟨H, eH⟩ : ∃ H : Heap, H = s.heap := ⟨_, rfl⟩
  obtain ⟨locs, eL⟩ : ∃ L : List Loc, L = [] := ⟨_, rfl⟩
  rw [← eL]
  rw [← eL] at hS
  have hP : va_P D vwCl [(x0, .inr (9, [.ref b0, .ref im, .ref tp, .ref rd])), (b0, .inr (0, [.int 0, .ref r0, .ref u0, .ref t0, .ref l0, .ref q0, .ref of, .ref sh, .ref nl, .ref fc])), (l0, .inr (1, [.int 0, .ref l1, .ref l2, .ref l3, .ref l4, .ref l5, .ref l6, .ref l7]))] H := by rw [eH]; exact hP
  have hS : va_S A s.heap H locs := by rw [eH]; exact hS
  refine W.heapEq eH ?_
  clear eH eL
  refine lv_aload_n hx hb dX9_post_0 rfl (lv_at hl 0 rfl) ?_
  refine va_get (D := D) (ci := 9) (v := .ref b0) (C := RX9) (T := TX9) (N := 4) hx hb hts in_X9 hown hK hP 0 rfl rfl 0 (by decide) w_1 (fun _ h9 => h9) rfl dX9_post_1 ?_
  refine va_get (D := D) (ci := 0) (v := .ref l0) (C := RX0) (T := TX0) (N := 10) hx hb hts in_X0 hown hK hP 1 rfl rfl 4 (by decide) w_3 (fun _ h9 => h9) rfl dX9_post_4 ?_
  refine lv_iload_n hx hb dX9_post_7 rfl (lv_at hl 1 rfl) ?_
  refine k_i (va_runV (As := [.int n]) (rest := []) ⟨hx, hb, hml, hown, hts⟩ (c_hasL0 l D cy l0 l1 l2 l3 l4 l5 l6 l7 n H.size ) (cwV 1 hts gX9_post_X1_has rfl rfl rfl (by decide +kernel) ⟨Nat.le_of_ble_eq_true rfl, Nat.le_of_ble_eq_true rfl⟩) (cp_v hK hN hP hD [2] rfl (by decide) (ci := 1) rfl rfl rfl) rfl rfl hl.1 rfl (lv_room (Nat.le_of_ble_eq_true rfl)) dX9_post_8 ⟨Nat.le_of_ble_eq_true rfl, Nat.le_of_ble_eq_true rfl⟩) hP hD hS hA [2] [0, 1] (wr := [(x0, .inr (9, [.ref b0, .ref im, .ref tp, .ref rd])), (b0, .inr (0, [.int 0, .ref r0, .ref u0, .ref t0, .ref l0, .ref q0, .ref of, .ref sh, .ref nl, .ref fc]))]) rfl rfl (by decide) (by decide) (fun r8 u_r8 H locs hw8 hP hD hS => ?_)
  try dsimp only at hw8
  have hP : va_P D vwCl [(x0, .inr (9, [.ref b0, .ref im, .ref tp, .ref rd])), (b0, .inr (0, [.int 0, .ref r0, .ref u0, .ref t0, .ref l0, .ref q0, .ref of, .ref sh, .ref nl, .ref fc])), (l0, .inr (1, [.int 0, .ref l1, .ref l2, .ref l3, .ref l4, .ref l5, .ref l6, .ref l7]))] H := hP
  have hD : va_D A [(x0, .inr (9, [.ref b0, .ref im, .ref tp, .ref rd])), (b0, .inr (0, [.int 0, .ref r0, .ref u0, .ref t0, .ref l0, .ref q0, .ref of, .ref sh, .ref nl, .ref fc])), (l0, .inr (1, [.int 0, .ref l1, .ref l2, .ref l3, .ref l4, .ref l5, .ref l6, .ref l7]))] := hD
  refine lv_if_ne (tgt := 16) hx hb dX9_post_11 (by decide) (fun c11 => ?_) (fun c11 => ?_)
  · skip
    have fc11 := q_ne (a := r8.toInt) (b := 0) c11 rfl (by decide)
    exfalso; omega
  · skip
    have fc11 := q_eq (a := r8.toInt) (b := 0) c11 rfl (by decide)
    refine lv_iconst (v := (-1)) hx hb dX9_post_14 (by decide) ?_
    exact r_i hx hb hr hlocks hK hS dX9_post_15 (u := ()) (hP.sub (ws' := []) [] rfl) (hD.sub (ws' := []) [] (by decide) rfl) (by decide)

abbrev Q_c_beginNextHour0 (D : va_G) (cy : Nat → ClassId) (b0 : Nat) (r0 : Nat) (u0 : Nat) (t0 : Nat) (l0 : Nat) (q0 : Nat) (of : Nat) (sh : Nat) (nl : Nat) (fc : Nat) (l1 : Nat) (l2 : Nat) (l3 : Nat) (l4 : Nat) (l5 : Nat) (l6 : Nat) (l7 : Nat) (now : Int32) : (Nat → Prop) → Array Value → State → Outcome → State → Prop := QV D cy (fun (now2 : Int32) => now2.toInt = now.toInt + 1) (fun now2 : Int32 => [(b0, .inr (0, [.int now2, .ref r0, .ref u0, .ref t0, .ref l0, .ref q0, .ref of, .ref sh, .ref nl, .ref fc])), (l0, .inr (1, [.int 0, .ref l1, .ref l2, .ref l3, .ref l4, .ref l5, .ref l6, .ref l7]))])
set_option maxHeartbeats 4000000 in
set_option maxRecDepth 100000 in
theorem c_beginNextHour0 (l : Launch) (D : va_G) (cy : Nat → ClassId) (b0 : Nat) (r0 : Nat) (u0 : Nat) (t0 : Nat) (l0 : Nat) (q0 : Nat) (of : Nat) (sh : Nat) (nl : Nat) (fc : Nat) (l1 : Nat) (l2 : Nat) (l3 : Nat) (l4 : Nat) (l5 : Nat) (l6 : Nat) (l7 : Nat) (now : Int32) (sz : Nat) (hn : 0 ≤ now.toInt ∧ now.toInt < 2000) : Met l yX0_beginNextHour wsX0_beginNextHour ({ frames := 0, cells := 0, slots := 0, locals := 0 } : Room) (CP D cy [.ref b0] [(b0, .inr (0, [.int now, .ref r0, .ref u0, .ref t0, .ref l0, .ref q0, .ref of, .ref sh, .ref nl, .ref fc])), (l0, .inr (1, [.int 0, .ref l1, .ref l2, .ref l3, .ref l4, .ref l5, .ref l6, .ref l7]))] sz) (Q_c_beginNextHour0 D cy b0 r0 u0 t0 l0 q0 of sh nl fc l1 l2 l3 l4 l5 l6 l7 now (va_A [(b0, .inr (0, [.int now, .ref r0, .ref u0, .ref t0, .ref l0, .ref q0, .ref of, .ref sh, .ref nl, .ref fc])), (l0, .inr (1, [.int 0, .ref l1, .ref l2, .ref l3, .ref l4, .ref l5, .ref l6, .ref l7]))] sz)) 0 0 (va_A [(b0, .inr (0, [.int now, .ref r0, .ref u0, .ref t0, .ref l0, .ref q0, .ref of, .ref sh, .ref nl, .ref fc])), (l0, .inr (1, [.int 0, .ref l1, .ref l2, .ref l3, .ref l4, .ref l5, .ref l6, .ref l7]))] sz) := by
  refine Met.go (Qc := Q_c_beginNextHour0 D cy b0 r0 u0 t0 l0 q0 of sh nl fc l1 l2 l3 l4 l5 l6 l7 now) (cc := cX0_beginNextHour) (maxL := 2) (ret := none) (by decide) rfl (Nat.le_of_ble_eq_true rfl) ?_
  intro p e s m below meth c hx hb hr hts hown hlocks hin hml hK hN A hA hD hP hS ls hl hsz
  have hl : lv_has ls 2 [(0, .ref b0)] := hl
  have in_X0 : ∀ w ∈ wsX00, w ∈ wsX0_beginNextHour := fun _ h => List.mem_cons_of_mem _ (List.mem_append_left _ (List.mem_append_left _ (List.mem_append_left _ (List.mem_append_left _ ((List.mem_append_right _ h))))))
  have w_1 := hts (.fieldLink RX0 67 "SleepingCars$Book" "now" "I") (by decide +kernel)
  have w_2 := hts (.fieldLink RX0 35 "SleepingCars$Book" "letters" "LSleepingCars$Letters;") (by decide +kernel)
  have in_X1 : ∀ w ∈ wsX10, w ∈ wsX0_beginNextHour := fun _ h => List.mem_cons_of_mem _ (List.mem_append_left _ (List.mem_append_left _ (List.mem_append_left _ ((List.mem_append_right _ h)))))
  have w_4 := hts (.fieldLink RX0 134 "SleepingCars$Letters" "size" "I") (by decide +kernel)
  obtain ⟨H, eH⟩ : ∃ H : Heap, H = s.heap := ⟨_, rfl⟩
  obtain ⟨locs, eL⟩ : ∃ L : List Loc, L = [] := ⟨_, rfl⟩
  rw [← eL]
  rw [← eL] at hS
  have hP : va_P D vwCl [(b0, .inr (0, [.int now, .ref r0, .ref u0, .ref t0, .ref l0, .ref q0, .ref of, .ref sh, .ref nl, .ref fc])), (l0, .inr (1, [.int 0, .ref l1, .ref l2, .ref l3, .ref l4, .ref l5, .ref l6, .ref l7]))] H := by rw [eH]; exact hP
  have hS : va_S A s.heap H locs := by rw [eH]; exact hS
  refine W.heapEq eH ?_
  clear eH eL
  refine lv_aload_n hx hb dX0_beginNextHour_0 rfl (lv_at hl 0 rfl) ?_
  refine lv_dup hx hb dX0_beginNextHour_1 rfl ?_
  refine va_get (D := D) (ci := 0) (v := .int now) (C := RX0) (T := TX0) (N := 10) hx hb hts in_X0 hown hK hP 0 rfl rfl 0 (by decide) w_1 (fun _ h9 => h9) rfl dX0_beginNextHour_2 ?_
  refine lv_iconst (v := 1) hx hb dX0_beginNextHour_5 (by decide) ?_
  refine lv_iadd hx hb dX0_beginNextHour_6 ?_
  refine lv_topi (fun x6 ex6 => ?_)
  have tx6 := q_add (p := now.toInt) (q := 1) ex6 rfl (by decide) (by omega) (by omega)
  refine va_put (D := D) (ci := 0) (v := .int x6) (ty := .int) (C := RX0) (T := TX0) (N := 10) hx hb hts in_X0 tyX0 tyX0_ok nmX0 hown hK hP hD hS 0 rfl rfl 0 (by decide) w_1 (fun _ h9 => h9) rfl (by decide +kernel) rfl rfl (Nat.le_of_ble_eq_true rfl) dX0_beginNextHour_7 (fun H locs hP hD hS => ?_)
  have hP : va_P D vwCl [(b0, .inr (0, [.int x6, .ref r0, .ref u0, .ref t0, .ref l0, .ref q0, .ref of, .ref sh, .ref nl, .ref fc])), (l0, .inr (1, [.int 0, .ref l1, .ref l2, .ref l3, .ref l4, .ref l5, .ref l6, .ref l7]))] H := hP
  have hD : va_D A [(b0, .inr (0, [.int x6, .ref r0, .ref u0, .ref t0, .ref l0, .ref q0, .ref of, .ref sh, .ref nl, .ref fc])), (l0, .inr (1, [.int 0, .ref l1, .ref l2, .ref l3, .ref l4, .ref l5, .ref l6, .ref l7]))] := hD
  refine lv_iconst (v := 0) hx hb dX0_beginNextHour_10 (by decide) ?_
  refine lv_istore_n (lv' := [(1, .int 0), (0, .ref b0)]) hx hb dX0_beginNextHour_11 rfl hl (by decide) rfl (fun ls hl => ?_)
  refine lv_iload_n hx hb dX0_beginNextHour_12 rfl (lv_at hl 0 rfl) ?_
  refine lv_aload_n hx hb dX0_beginNextHour_13 rfl (lv_at hl 1 rfl) ?_
  refine va_get (D := D) (ci := 0) (v := .ref l0) (C := RX0) (T := TX0) (N := 10) hx hb hts in_X0 hown hK hP 0 rfl rfl 4 (by decide) w_2 (fun _ h9 => h9) rfl dX0_beginNextHour_14 ?_
  refine va_get (D := D) (ci := 1) (v := .int 0) (C := RX1) (T := TX1) (N := 8) hx hb hts in_X1 hown hK hP 1 rfl rfl 0 (by decide) w_4 (fun _ h9 => h9) rfl dX0_beginNextHour_17 ?_
  refine lv_icmp_ge (tgt := 94) hx hb dX0_beginNextHour_20 (by decide) (fun c20 => ?_) (fun c20 => ?_)
  · skip
    exact r_v hx hb hr hlocks hK hS dX0_beginNextHour_94 (u := (x6)) hP hD (by omega)
  · skip
    exact absurd c20 (by decide)

abbrev Q_c_X9_hours (D : va_G) (cy : Nat → ClassId) (x0 : Nat) (b0 : Nat) (im : Nat) (tp : Nat) (rd : Nat) (r0 : Nat) (u0 : Nat) (t0 : Nat) (l0 : Nat) (q0 : Nat) (of : Nat) (sh : Nat) (nl : Nat) (fc : Nat) (l1 : Nat) (l2 : Nat) (l3 : Nat) (l4 : Nat) (l5 : Nat) (l6 : Nat) (l7 : Nat) (n : Int32) : (Nat → Prop) → Array Value → State → Outcome → State → Prop := QI D cy (fun (r : Int32) (_ : Unit) => (1 ≤ n.toInt ∧ n.toInt ≤ 100 ∧ r.toInt = n.toInt) ∨ (¬ (1 ≤ n.toInt ∧ n.toInt ≤ 100) ∧ r.toInt = -1)) (fun _ : Unit => [])
set_option maxHeartbeats 4000000 in
set_option maxRecDepth 100000 in
theorem c_X9_hours (l : Launch) (D : va_G) (cy : Nat → ClassId) (x0 : Nat) (b0 : Nat) (im : Nat) (tp : Nat) (rd : Nat) (r0 : Nat) (u0 : Nat) (t0 : Nat) (l0 : Nat) (q0 : Nat) (of : Nat) (sh : Nat) (nl : Nat) (fc : Nat) (l1 : Nat) (l2 : Nat) (l3 : Nat) (l4 : Nat) (l5 : Nat) (l6 : Nat) (l7 : Nat) (n : Int32) (sz : Nat)  : Met l yX9_hours wsX9_hours ({ frames := 1, cells := 0, slots := 0, locals := 21 } : Room) (CP D cy [.ref x0, .int n] [(x0, .inr (9, [.ref b0, .ref im, .ref tp, .ref rd])), (b0, .inr (0, [.int 0, .ref r0, .ref u0, .ref t0, .ref l0, .ref q0, .ref of, .ref sh, .ref nl, .ref fc])), (l0, .inr (1, [.int 0, .ref l1, .ref l2, .ref l3, .ref l4, .ref l5, .ref l6, .ref l7]))] sz) (Q_c_X9_hours D cy x0 b0 im tp rd r0 u0 t0 l0 q0 of sh nl fc l1 l2 l3 l4 l5 l6 l7 n (va_A [(x0, .inr (9, [.ref b0, .ref im, .ref tp, .ref rd])), (b0, .inr (0, [.int 0, .ref r0, .ref u0, .ref t0, .ref l0, .ref q0, .ref of, .ref sh, .ref nl, .ref fc])), (l0, .inr (1, [.int 0, .ref l1, .ref l2, .ref l3, .ref l4, .ref l5, .ref l6, .ref l7]))] sz)) 0 0 (va_A [(x0, .inr (9, [.ref b0, .ref im, .ref tp, .ref rd])), (b0, .inr (0, [.int 0, .ref r0, .ref u0, .ref t0, .ref l0, .ref q0, .ref of, .ref sh, .ref nl, .ref fc])), (l0, .inr (1, [.int 0, .ref l1, .ref l2, .ref l3, .ref l4, .ref l5, .ref l6, .ref l7]))] sz) := by
  refine Met.go (Qc := Q_c_X9_hours D cy x0 b0 im tp rd r0 u0 t0 l0 q0 of sh nl fc l1 l2 l3 l4 l5 l6 l7 n) (cc := cX9_hours) (maxL := 3) (ret := (some .int)) (by decide) rfl (Nat.le_of_ble_eq_true rfl) ?_
  intro p e s m below meth c hx hb hr hts hown hlocks hin hml hK hN A hA hD hP hS ls hl hsz
  have hl : lv_has ls 3 [(0, .ref x0), (1, .int n)] := hl
  have in_X9 : ∀ w ∈ wsX90, w ∈ wsX9_hours := fun _ h => List.mem_cons_of_mem _ (List.mem_append_left _ (List.mem_append_left _ (List.mem_append_left _ (List.mem_append_left _ (List.mem_append_left _ ((List.mem_append_right _ h)))))))
  have w_1 := hts (.fieldLink RX9 10 "SleepingCars" "book" "LSleepingCars$Book;") (by decide +kernel)
  have in_X0 : ∀ w ∈ wsX00, w ∈ wsX9_hours := fun _ h => List.mem_cons_of_mem _ (List.mem_append_left _ (List.mem_append_left _ (List.mem_append_left _ (List.mem_append_left _ ((List.mem_append_right _ h))))))
  have w_3 := hts (.fieldLink RX9 126 "SleepingCars$Book" "now" "I") (by decide +kernel)
  have w_4 := hts (.instanceMethod yX0_beginNextHour) (by decide +kernel)
  obtain ⟨H, eH⟩ : ∃ H : Heap, H = s.heap := ⟨_, rfl⟩
  obtain ⟨locs, eL⟩ : ∃ L : List Loc, L = [] := ⟨_, rfl⟩
  rw [← eL]
  rw [← eL] at hS
  have hP : va_P D vwCl [(x0, .inr (9, [.ref b0, .ref im, .ref tp, .ref rd])), (b0, .inr (0, [.int 0, .ref r0, .ref u0, .ref t0, .ref l0, .ref q0, .ref of, .ref sh, .ref nl, .ref fc])), (l0, .inr (1, [.int 0, .ref l1, .ref l2, .ref l3, .ref l4, .ref l5, .ref l6, .ref l7]))] H := by rw [eH]; exact hP
  have hS : va_S A s.heap H locs := by rw [eH]; exact hS
  refine W.heapEq eH ?_
  clear eH eL
  refine lv_iload_n hx hb dX9_hours_0 rfl (lv_at hl 1 rfl) ?_
  refine lv_iconst (v := 1) hx hb dX9_hours_1 (by decide) ?_
  refine lv_icmp_lt (tgt := 26) hx hb dX9_hours_2 (by decide) (fun c2 => ?_) (fun c2 => ?_)
  · skip
    have fc2 := q_lt (a := n.toInt) (b := 1) c2 rfl (by decide)
    refine lv_iconst (v := (-1)) hx hb dX9_hours_26 (by decide) ?_
    exact r_i hx hb hr hlocks hK hS dX9_hours_27 (u := ()) (hP.sub (ws' := []) [] rfl) (hD.sub (ws' := []) [] (by decide) rfl) (by first | exact Or.inl ⟨by omega, by omega, by omega⟩ | exact Or.inr ⟨by omega, by decide⟩)
  · skip
    have fc2 := q_nlt (a := n.toInt) (b := 1) c2 rfl (by decide)
    refine lv_iload_n hx hb dX9_hours_5 rfl (lv_at hl 1 rfl) ?_
    refine lv_bipush (v := 100) hx hb dX9_hours_6 (by decide) ?_
    refine lv_icmp_gt (tgt := 26) hx hb dX9_hours_8 (by decide) (fun c8 => ?_) (fun c8 => ?_)
    · skip
      have fc8 := q_lt (a := 100) (b := n.toInt) c8 (by decide) rfl
      refine lv_iconst (v := (-1)) hx hb dX9_hours_26 (by decide) ?_
      exact r_i hx hb hr hlocks hK hS dX9_hours_27 (u := ()) (hP.sub (ws' := []) [] rfl) (hD.sub (ws' := []) [] (by decide) rfl) (by first | exact Or.inl ⟨by omega, by omega, by omega⟩ | exact Or.inr ⟨by omega, by decide⟩)
    · skip
      have fc8 := q_nlt (a := 100) (b := n.toInt) c8 (by decide) rfl
      refine lv_aload_n hx hb dX9_hours_11 rfl (lv_at hl 0 rfl) ?_
      refine va_get (D := D) (ci := 9) (v := .ref b0) (C := RX9) (T := TX9) (N := 4) hx hb hts in_X9 hown hK hP 0 rfl rfl 0 (by decide) w_1 (fun _ h9 => h9) rfl dX9_hours_12 ?_
      refine va_get (D := D) (ci := 0) (v := .int 0) (C := RX0) (T := TX0) (N := 10) hx hb hts in_X0 hown hK hP 1 rfl rfl 0 (by decide) w_3 (fun _ h9 => h9) rfl dX9_hours_15 ?_
      refine lv_iload_n hx hb dX9_hours_18 rfl (lv_at hl 1 rfl) ?_
      refine lv_iadd hx hb dX9_hours_19 ?_
      refine lv_topi (fun x19 ex19 => ?_)
      have tx19 := q_add (p := 0) (q := n.toInt) ex19 (by decide) rfl (by omega) (by omega)
      refine lv_sipush (v := 2000) hx hb dX9_hours_20 (by decide) ?_
      refine lv_icmp_le (tgt := 28) hx hb dX9_hours_23 (by decide) (fun c23 => ?_) (fun c23 => ?_)
      · skip
        have fc23 := q_le (a := x19.toInt) (b := 2000) c23 rfl (by decide)
        refine lv_iconst (v := 0) hx hb dX9_hours_28 (by decide) ?_
        refine lv_istore_n (lv' := [(2, .int 0), (0, .ref x0), (1, .int n)]) hx hb dX9_hours_29 rfl hl (by decide) rfl (fun ls hl => ?_)
        have lp_30 : ∀ (n_30 : Nat) (i : Int32) (now : Int32), (0 ≤ i.toInt) → (i.toInt ≤ n.toInt) → (now.toInt = i.toInt) → (100 - i.toInt).toNat < n_30 → ∀ (H : Heap) (locs : List Loc), va_P D vwCl [(x0, .inr (9, [.ref b0, .ref im, .ref tp, .ref rd])), (b0, .inr (0, [.int now, .ref r0, .ref u0, .ref t0, .ref l0, .ref q0, .ref of, .ref sh, .ref nl, .ref fc])), (l0, .inr (1, [.int 0, .ref l1, .ref l2, .ref l3, .ref l4, .ref l5, .ref l6, .ref l7]))] H → va_D A [(x0, .inr (9, [.ref b0, .ref im, .ref tp, .ref rd])), (b0, .inr (0, [.int now, .ref r0, .ref u0, .ref t0, .ref l0, .ref q0, .ref of, .ref sh, .ref nl, .ref fc])), (l0, .inr (1, [.int 0, .ref l1, .ref l2, .ref l3, .ref l4, .ref l5, .ref l6, .ref l7]))] → va_S A s.heap H locs → ∀ ls : Array Slot, lv_has ls 3 [(2, .int i), (0, .ref x0), (1, .int n)] → W p l e (headSpec wsX9_hours ({ frames := 1, cells := 0, slots := 0, locals := 21 } : Room)).room s m ([.ref x0, .int n] : List Value).toArray below meth c H locs 0 0 (MQ below (Q_c_X9_hours D cy x0 b0 im tp rd r0 u0 t0 l0 q0 of sh nl fc l1 l2 l3 l4 l5 l6 l7 n A) ([.ref x0, .int n] : List Value).toArray s 0 0 A) (F0 m 30 ls []) := by
          intro n_30
          induction n_30 with
          | zero => intro i now hi0 hi1 hn hmu; exact absurd hmu (Nat.not_lt_zero _)
          | succ n_30 ih_30 =>
            intro i now hi0 hi1 hn hmu_30 H locs hP hD hS ls hl
            refine lv_iload_n hx hb dX9_hours_30 rfl (lv_at hl 0 rfl) ?_
            refine lv_iload_n hx hb dX9_hours_31 rfl (lv_at hl 2 rfl) ?_
            refine lv_icmp_ge (tgt := 48) hx hb dX9_hours_32 (by decide) (fun c32 => ?_) (fun c32 => ?_)
            · skip
              have fc32 := q_le (a := n.toInt) (b := i.toInt) c32 rfl rfl
              refine lv_aload_n hx hb dX9_hours_48 rfl (lv_at hl 1 rfl) ?_
              refine va_get (D := D) (ci := 9) (v := .ref b0) (C := RX9) (T := TX9) (N := 4) hx hb hts in_X9 hown hK hP 0 rfl rfl 0 (by decide) w_1 (fun _ h9 => h9) rfl dX9_hours_49 ?_
              refine va_get (D := D) (ci := 0) (v := .int now) (C := RX0) (T := TX0) (N := 10) hx hb hts in_X0 hown hK hP 1 rfl rfl 0 (by decide) w_3 (fun _ h9 => h9) rfl dX9_hours_52 ?_
              exact r_i hx hb hr hlocks hK hS dX9_hours_55 (u := ()) (hP.sub (ws' := []) [] rfl) (hD.sub (ws' := []) [] (by decide) rfl) (by first | exact Or.inl ⟨by omega, by omega, by omega⟩ | exact Or.inr ⟨by omega, by decide⟩)
            · skip
              have fc32 := q_nle (a := n.toInt) (b := i.toInt) c32 rfl rfl
              refine lv_aload_n hx hb dX9_hours_35 rfl (lv_at hl 1 rfl) ?_
              refine va_get (D := D) (ci := 9) (v := .ref b0) (C := RX9) (T := TX9) (N := 4) hx hb hts in_X9 hown hK hP 0 rfl rfl 0 (by decide) w_1 (fun _ h9 => h9) rfl dX9_hours_36 ?_
              refine k_v (va_runV (As := []) (rest := []) ⟨hx, hb, hml, hown, hts⟩ (c_beginNextHour0 l D cy b0 r0 u0 t0 l0 q0 of sh nl fc l1 l2 l3 l4 l5 l6 l7 now H.size (by omega)) (cwV 0 hts gX9_hours_X0_beginNextHour rfl rfl rfl (by decide +kernel) ⟨Nat.le_of_ble_eq_true rfl, Nat.le_of_ble_eq_true rfl⟩) (cp_v hK hN hP hD [1, 2] rfl (by decide) (ci := 0) rfl rfl rfl) rfl rfl hl.1 rfl (lv_room (Nat.le_of_ble_eq_true rfl)) dX9_hours_39 ⟨Nat.le_of_ble_eq_true rfl, Nat.le_of_ble_eq_true rfl⟩) hP hD hS hA [1, 2] [0] (wr := [(x0, .inr (9, [.ref b0, .ref im, .ref tp, .ref rd]))]) rfl rfl (by decide) (by decide) (fun u_r39 H locs hw39 hP hD hS => ?_)
              try dsimp only at hw39
              have hP : va_P D vwCl [(x0, .inr (9, [.ref b0, .ref im, .ref tp, .ref rd])), (b0, .inr (0, [.int u_r39, .ref r0, .ref u0, .ref t0, .ref l0, .ref q0, .ref of, .ref sh, .ref nl, .ref fc])), (l0, .inr (1, [.int 0, .ref l1, .ref l2, .ref l3, .ref l4, .ref l5, .ref l6, .ref l7]))] H := hP
              have hD : va_D A [(x0, .inr (9, [.ref b0, .ref im, .ref tp, .ref rd])), (b0, .inr (0, [.int u_r39, .ref r0, .ref u0, .ref t0, .ref l0, .ref q0, .ref of, .ref sh, .ref nl, .ref fc])), (l0, .inr (1, [.int 0, .ref l1, .ref l2, .ref l3, .ref l4, .ref l5, .ref l6, .ref l7]))] := hD
              obtain ⟨x42, ex42⟩ : ∃ y : Int32, y = i + 1 := ⟨_, rfl⟩
              refine lv_iinc (v := x42) (lv' := [(2, .int x42), (0, .ref x0), (1, .int n)]) hx hb dX9_hours_42 hl (k := 0) rfl (by rw [ex42]; rfl) (by decide) rfl (fun ls hl => ?_)
              have tx42 := q_add (p := i.toInt) (q := 1) ex42 rfl (by decide) (by omega) (by omega)
              refine lv_goto (tgt := 30) hx hb dX9_hours_45 (by decide) ?_
              exact ih_30 x42 u_r39 (by omega) (by omega) (by omega) (by omega) H locs hP hD hS ls (lv_sub hl [0, 1, 2] rfl)
        exact lp_30 (100 + 1) 0 0 (by decide) (by rw [show (0 : Int32).toInt = 0 by decide]; omega) (by decide) (by first | omega | exact Nat.lt_succ_self _) H locs hP hD hS ls (lv_sub hl [0, 1, 2] rfl)
      · skip
        have fc23 := q_nle (a := x19.toInt) (b := 2000) c23 rfl (by decide)
        exfalso; omega

abbrev Q_c_X9_moved (D : va_G) (cy : Nat → ClassId) (x0 : Nat) (b0 : Nat) (im : Nat) (tp : Nat) (rd : Nat) (r0 : Nat) (u0 : Nat) (t0 : Nat) (l0 : Nat) (q0 : Nat) (of : Nat) (sh : Nat) (nl : Nat) (fc : Nat) (u1 : Nat) (u2 : Nat) (u3 : Nat) (day : Int32) : (Nat → Prop) → Array Value → State → Outcome → State → Prop := QI D cy (fun (r : Int32) (_ : Unit) => r.toInt = -1) (fun _ : Unit => [])
set_option maxHeartbeats 4000000 in
set_option maxRecDepth 100000 in
theorem c_X9_moved (l : Launch) (D : va_G) (cy : Nat → ClassId) (x0 : Nat) (b0 : Nat) (im : Nat) (tp : Nat) (rd : Nat) (r0 : Nat) (u0 : Nat) (t0 : Nat) (l0 : Nat) (q0 : Nat) (of : Nat) (sh : Nat) (nl : Nat) (fc : Nat) (u1 : Nat) (u2 : Nat) (u3 : Nat) (day : Int32) (sz : Nat)  : Met l yX9_moved wsX9_moved ({ frames := 1, cells := 0, slots := 0, locals := 21 } : Room) (CP D cy [.ref x0, .int day] [(x0, .inr (9, [.ref b0, .ref im, .ref tp, .ref rd])), (b0, .inr (0, [.int 0, .ref r0, .ref u0, .ref t0, .ref l0, .ref q0, .ref of, .ref sh, .ref nl, .ref fc])), (u0, .inr (5, [.int 0, .ref u1, .ref u2, .ref u3])), (u1, .inl (cy 0, 60, .inl (fun _ => 0)))] sz) (Q_c_X9_moved D cy x0 b0 im tp rd r0 u0 t0 l0 q0 of sh nl fc u1 u2 u3 day (va_A [(x0, .inr (9, [.ref b0, .ref im, .ref tp, .ref rd])), (b0, .inr (0, [.int 0, .ref r0, .ref u0, .ref t0, .ref l0, .ref q0, .ref of, .ref sh, .ref nl, .ref fc])), (u0, .inr (5, [.int 0, .ref u1, .ref u2, .ref u3])), (u1, .inl (cy 0, 60, .inl (fun _ => 0)))] sz)) 0 0 (va_A [(x0, .inr (9, [.ref b0, .ref im, .ref tp, .ref rd])), (b0, .inr (0, [.int 0, .ref r0, .ref u0, .ref t0, .ref l0, .ref q0, .ref of, .ref sh, .ref nl, .ref fc])), (u0, .inr (5, [.int 0, .ref u1, .ref u2, .ref u3])), (u1, .inl (cy 0, 60, .inl (fun _ => 0)))] sz) := by
  refine Met.go (Qc := Q_c_X9_moved D cy x0 b0 im tp rd r0 u0 t0 l0 q0 of sh nl fc u1 u2 u3 day) (cc := cX9_moved) (maxL := 2) (ret := (some .int)) (by decide) rfl (Nat.le_of_ble_eq_true rfl) ?_
  intro p e s m below meth c hx hb hr hts hown hlocks hin hml hK hN A hA hD hP hS ls hl hsz
  have hl : lv_has ls 2 [(0, .ref x0), (1, .int day)] := hl
  have in_X9 : ∀ w ∈ wsX90, w ∈ wsX9_moved := fun _ h => List.mem_cons_of_mem _ (List.mem_append_left _ (List.mem_append_left _ (List.mem_append_left _ (List.mem_append_left _ ((List.mem_append_right _ h))))))
  have w_1 := hts (.fieldLink RX9 10 "SleepingCars" "book" "LSleepingCars$Book;") (by decide +kernel)
  have in_X0 : ∀ w ∈ wsX00, w ∈ wsX9_moved := fun _ h => List.mem_cons_of_mem _ (List.mem_append_left _ (List.mem_append_left _ (List.mem_append_left _ ((List.mem_append_right _ h)))))
  have w_3 := hts (.fieldLink RX9 34 "SleepingCars$Book" "runs" "LSleepingCars$Runs;") (by decide +kernel)
  have w_4 := hts (.instanceMethod yX5_isTold) (by decide +kernel)
  obtain ⟨H, eH⟩ : ∃ H : Heap, H = s.heap := ⟨_, rfl⟩
  obtain ⟨locs, eL⟩ : ∃ L : List Loc, L = [] := ⟨_, rfl⟩
  rw [← eL]
  rw [← eL] at hS
  have hP : va_P D vwCl [(x0, .inr (9, [.ref b0, .ref im, .ref tp, .ref rd])), (b0, .inr (0, [.int 0, .ref r0, .ref u0, .ref t0, .ref l0, .ref q0, .ref of, .ref sh, .ref nl, .ref fc])), (u0, .inr (5, [.int 0, .ref u1, .ref u2, .ref u3])), (u1, .inl (cy 0, 60, .inl (fun _ => 0)))] H := by rw [eH]; exact hP
  have hS : va_S A s.heap H locs := by rw [eH]; exact hS
  refine W.heapEq eH ?_
  clear eH eL
  refine lv_aload_n hx hb dX9_moved_0 rfl (lv_at hl 0 rfl) ?_
  refine va_get (D := D) (ci := 9) (v := .ref b0) (C := RX9) (T := TX9) (N := 4) hx hb hts in_X9 hown hK hP 0 rfl rfl 0 (by decide) w_1 (fun _ h9 => h9) rfl dX9_moved_1 ?_
  refine va_get (D := D) (ci := 0) (v := .ref u0) (C := RX0) (T := TX0) (N := 10) hx hb hts in_X0 hown hK hP 1 rfl rfl 2 (by decide) w_3 (fun _ h9 => h9) rfl dX9_moved_4 ?_
  refine lv_iload_n hx hb dX9_moved_7 rfl (lv_at hl 1 rfl) ?_
  refine k_i (va_runV (As := [.int day]) (rest := []) ⟨hx, hb, hml, hown, hts⟩ (c_isTold0 l D cy u0 u1 u2 u3 day H.size ) (cwV 1 hts gX9_moved_X5_isTold rfl rfl rfl (by decide +kernel) ⟨Nat.le_of_ble_eq_true rfl, Nat.le_of_ble_eq_true rfl⟩) (cp_v hK hN hP hD [2, 3] rfl (by decide) (ci := 5) rfl rfl rfl) rfl rfl hl.1 rfl (lv_room (Nat.le_of_ble_eq_true rfl)) dX9_moved_8 ⟨Nat.le_of_ble_eq_true rfl, Nat.le_of_ble_eq_true rfl⟩) hP hD hS hA [2, 3] [0, 1] (wr := [(x0, .inr (9, [.ref b0, .ref im, .ref tp, .ref rd])), (b0, .inr (0, [.int 0, .ref r0, .ref u0, .ref t0, .ref l0, .ref q0, .ref of, .ref sh, .ref nl, .ref fc]))]) rfl rfl (by decide) (by decide) (fun r8 u_r8 H locs hw8 hP hD hS => ?_)
  try dsimp only at hw8
  have hP : va_P D vwCl [(x0, .inr (9, [.ref b0, .ref im, .ref tp, .ref rd])), (b0, .inr (0, [.int 0, .ref r0, .ref u0, .ref t0, .ref l0, .ref q0, .ref of, .ref sh, .ref nl, .ref fc])), (u0, .inr (5, [.int 0, .ref u1, .ref u2, .ref u3])), (u1, .inl (cy 0, 60, .inl (fun _ => 0)))] H := hP
  have hD : va_D A [(x0, .inr (9, [.ref b0, .ref im, .ref tp, .ref rd])), (b0, .inr (0, [.int 0, .ref r0, .ref u0, .ref t0, .ref l0, .ref q0, .ref of, .ref sh, .ref nl, .ref fc])), (u0, .inr (5, [.int 0, .ref u1, .ref u2, .ref u3])), (u1, .inl (cy 0, 60, .inl (fun _ => 0)))] := hD
  refine lv_if_eq (tgt := 26) hx hb dX9_moved_11 (by decide) (fun c11 => ?_) (fun c11 => ?_)
  · skip
    have fc11 := q_eq (a := r8.toInt) (b := 0) c11 rfl (by decide)
    refine lv_iconst (v := (-1)) hx hb dX9_moved_26 (by decide) ?_
    exact r_i hx hb hr hlocks hK hS dX9_moved_27 (u := ()) (hP.sub (ws' := []) [] rfl) (hD.sub (ws' := []) [] (by decide) rfl) (by decide)
  · skip
    have fc11 := q_ne (a := r8.toInt) (b := 0) c11 rfl (by decide)
    exfalso; omega

abbrev Q_c_X9_wouldFit (D : va_G) (cy : Nat → ClassId) (x0 : Nat) (b0 : Nat) (im : Nat) (tp : Nat) (rd : Nat) (r0 : Nat) (u0 : Nat) (t0 : Nat) (l0 : Nat) (q0 : Nat) (of : Nat) (sh : Nat) (nl : Nat) (fc : Nat) (u1 : Nat) (u2 : Nat) (u3 : Nat) (o : Int32) (day : Int32) (a : Int32) (b : Int32) : (Nat → Prop) → Array Value → State → Outcome → State → Prop := QI D cy (fun (r : Int32) (_ : Unit) => r.toInt = 0) (fun _ : Unit => [])
set_option maxHeartbeats 4000000 in
set_option maxRecDepth 100000 in
theorem c_X9_wouldFit (l : Launch) (D : va_G) (cy : Nat → ClassId) (x0 : Nat) (b0 : Nat) (im : Nat) (tp : Nat) (rd : Nat) (r0 : Nat) (u0 : Nat) (t0 : Nat) (l0 : Nat) (q0 : Nat) (of : Nat) (sh : Nat) (nl : Nat) (fc : Nat) (u1 : Nat) (u2 : Nat) (u3 : Nat) (o : Int32) (day : Int32) (a : Int32) (b : Int32) (sz : Nat)  : Met l yX9_wouldFit wsX9_wouldFit ({ frames := 2, cells := 0, slots := 0, locals := 44 } : Room) (CP D cy [.ref x0, .int o, .int day, .int a, .int b] [(x0, .inr (9, [.ref b0, .ref im, .ref tp, .ref rd])), (b0, .inr (0, [.int 0, .ref r0, .ref u0, .ref t0, .ref l0, .ref q0, .ref of, .ref sh, .ref nl, .ref fc])), (u0, .inr (5, [.int 0, .ref u1, .ref u2, .ref u3])), (u1, .inl (cy 0, 60, .inl (fun _ => 0)))] sz) (Q_c_X9_wouldFit D cy x0 b0 im tp rd r0 u0 t0 l0 q0 of sh nl fc u1 u2 u3 o day a b (va_A [(x0, .inr (9, [.ref b0, .ref im, .ref tp, .ref rd])), (b0, .inr (0, [.int 0, .ref r0, .ref u0, .ref t0, .ref l0, .ref q0, .ref of, .ref sh, .ref nl, .ref fc])), (u0, .inr (5, [.int 0, .ref u1, .ref u2, .ref u3])), (u1, .inl (cy 0, 60, .inl (fun _ => 0)))] sz)) 0 0 (va_A [(x0, .inr (9, [.ref b0, .ref im, .ref tp, .ref rd])), (b0, .inr (0, [.int 0, .ref r0, .ref u0, .ref t0, .ref l0, .ref q0, .ref of, .ref sh, .ref nl, .ref fc])), (u0, .inr (5, [.int 0, .ref u1, .ref u2, .ref u3])), (u1, .inl (cy 0, 60, .inl (fun _ => 0)))] sz) := by
  refine Met.go (Qc := Q_c_X9_wouldFit D cy x0 b0 im tp rd r0 u0 t0 l0 q0 of sh nl fc u1 u2 u3 o day a b) (cc := cX9_wouldFit) (maxL := 5) (ret := (some .boolean)) (by decide) rfl (Nat.le_of_ble_eq_true rfl) ?_
  intro p e s m below meth c hx hb hr hts hown hlocks hin hml hK hN A hA hD hP hS ls hl hsz
  have hl : lv_has ls 5 [(0, .ref x0), (1, .int o), (2, .int day), (3, .int a), (4, .int b)] := hl
  have in_X9 : ∀ w ∈ wsX90, w ∈ wsX9_wouldFit := fun _ h => List.mem_cons_of_mem _ (List.mem_append_left _ (List.mem_append_left _ (List.mem_append_left _ ((List.mem_append_right _ h)))))
  have w_1 := hts (.fieldLink RX9 10 "SleepingCars" "book" "LSleepingCars$Book;") (by decide +kernel)
  have w_2 := hts (.instanceMethod yX0_isRunStretch) (by decide +kernel)
  obtain ⟨H, eH⟩ : ∃ H : Heap, H = s.heap := ⟨_, rfl⟩
  obtain ⟨locs, eL⟩ : ∃ L : List Loc, L = [] := ⟨_, rfl⟩
  rw [← eL]
  rw [← eL] at hS
  have hP : va_P D vwCl [(x0, .inr (9, [.ref b0, .ref im, .ref tp, .ref rd])), (b0, .inr (0, [.int 0, .ref r0, .ref u0, .ref t0, .ref l0, .ref q0, .ref of, .ref sh, .ref nl, .ref fc])), (u0, .inr (5, [.int 0, .ref u1, .ref u2, .ref u3])), (u1, .inl (cy 0, 60, .inl (fun _ => 0)))] H := by rw [eH]; exact hP
  have hS : va_S A s.heap H locs := by rw [eH]; exact hS
  refine W.heapEq eH ?_
  clear eH eL
  refine lv_iload_n hx hb dX9_wouldFit_0 rfl (lv_at hl 1 rfl) ?_
  refine k_i (va_runS (As := [.int o]) (rest := []) ⟨hx, hb, hml, hown, hts⟩ (c_X9_isOffice l D cy o H.size ) (va_cwS 1 hts gX9_wouldFit_X9_isOffice rfl rfl rfl (by decide +kernel) ⟨Nat.le_of_ble_eq_true rfl, Nat.le_of_ble_eq_true rfl⟩) (cp_s hK hN hP hD [] rfl (by decide)) rfl rfl hl.1 rfl (lv_room (Nat.le_of_ble_eq_true rfl)) dX9_wouldFit_1 ⟨Nat.le_of_ble_eq_true rfl, Nat.le_of_ble_eq_true rfl⟩) hP hD hS hA [] [0, 1, 2, 3] (wr := [(x0, .inr (9, [.ref b0, .ref im, .ref tp, .ref rd])), (b0, .inr (0, [.int 0, .ref r0, .ref u0, .ref t0, .ref l0, .ref q0, .ref of, .ref sh, .ref nl, .ref fc])), (u0, .inr (5, [.int 0, .ref u1, .ref u2, .ref u3])), (u1, .inl (cy 0, 60, .inl (fun _ => 0)))]) rfl rfl (by decide) (by decide) (fun r1 u_r1 H locs hw1 hP hD hS => ?_)
  try dsimp only at hw1
  have hP : va_P D vwCl [(x0, .inr (9, [.ref b0, .ref im, .ref tp, .ref rd])), (b0, .inr (0, [.int 0, .ref r0, .ref u0, .ref t0, .ref l0, .ref q0, .ref of, .ref sh, .ref nl, .ref fc])), (u0, .inr (5, [.int 0, .ref u1, .ref u2, .ref u3])), (u1, .inl (cy 0, 60, .inl (fun _ => 0)))] H := hP
  have hD : va_D A [(x0, .inr (9, [.ref b0, .ref im, .ref tp, .ref rd])), (b0, .inr (0, [.int 0, .ref r0, .ref u0, .ref t0, .ref l0, .ref q0, .ref of, .ref sh, .ref nl, .ref fc])), (u0, .inr (5, [.int 0, .ref u1, .ref u2, .ref u3])), (u1, .inl (cy 0, 60, .inl (fun _ => 0)))] := hD
  refine lv_if_eq (tgt := 33) hx hb dX9_wouldFit_4 (by decide) (fun c4 => ?_) (fun c4 => ?_)
  · skip
    have fc4 := q_eq (a := r1.toInt) (b := 0) c4 rfl (by decide)
    refine lv_iconst (v := 0) hx hb dX9_wouldFit_33 (by decide) ?_
    exact r_z hx hb hr hlocks hK hS dX9_wouldFit_34 (by decide) (u := ()) (hP.sub (ws' := []) [] rfl) (hD.sub (ws' := []) [] (by decide) rfl) (by decide)
  · skip
    have fc4 := q_ne (a := r1.toInt) (b := 0) c4 rfl (by decide)
    refine lv_aload_n hx hb dX9_wouldFit_7 rfl (lv_at hl 0 rfl) ?_
    refine va_get (D := D) (ci := 9) (v := .ref b0) (C := RX9) (T := TX9) (N := 4) hx hb hts in_X9 hown hK hP 0 rfl rfl 0 (by decide) w_1 (fun _ h9 => h9) rfl dX9_wouldFit_8 ?_
    refine lv_iload_n hx hb dX9_wouldFit_11 rfl (lv_at hl 2 rfl) ?_
    refine lv_iload_n hx hb dX9_wouldFit_12 rfl (lv_at hl 3 rfl) ?_
    refine lv_iload hx hb dX9_wouldFit_13 (lv_at hl 4 rfl) ?_
    refine k_i (va_runV (As := [.int day, .int a, .int b]) (rest := []) ⟨hx, hb, hml, hown, hts⟩ (c_isRunStretch0 l D cy b0 r0 u0 t0 l0 q0 of sh nl fc u1 u2 u3 day a b H.size ) (cwV 3 hts gX9_wouldFit_X0_isRunStretch rfl rfl rfl (by decide +kernel) ⟨Nat.le_of_ble_eq_true rfl, Nat.le_of_ble_eq_true rfl⟩) (cp_v hK hN hP hD [1, 2, 3] rfl (by decide) (ci := 0) rfl rfl rfl) rfl rfl hl.1 rfl (lv_room (Nat.le_of_ble_eq_true rfl)) dX9_wouldFit_15 ⟨Nat.le_of_ble_eq_true rfl, Nat.le_of_ble_eq_true rfl⟩) hP hD hS hA [1, 2, 3] [0] (wr := [(x0, .inr (9, [.ref b0, .ref im, .ref tp, .ref rd]))]) rfl rfl (by decide) (by decide) (fun r15 u_r15 H locs hw15 hP hD hS => ?_)
    try dsimp only at hw15
    have hP : va_P D vwCl [(x0, .inr (9, [.ref b0, .ref im, .ref tp, .ref rd])), (b0, .inr (0, [.int 0, .ref r0, .ref u0, .ref t0, .ref l0, .ref q0, .ref of, .ref sh, .ref nl, .ref fc])), (u0, .inr (5, [.int 0, .ref u1, .ref u2, .ref u3])), (u1, .inl (cy 0, 60, .inl (fun _ => 0)))] H := hP
    have hD : va_D A [(x0, .inr (9, [.ref b0, .ref im, .ref tp, .ref rd])), (b0, .inr (0, [.int 0, .ref r0, .ref u0, .ref t0, .ref l0, .ref q0, .ref of, .ref sh, .ref nl, .ref fc])), (u0, .inr (5, [.int 0, .ref u1, .ref u2, .ref u3])), (u1, .inl (cy 0, 60, .inl (fun _ => 0)))] := hD
    refine lv_if_eq (tgt := 33) hx hb dX9_wouldFit_18 (by decide) (fun c18 => ?_) (fun c18 => ?_)
    · skip
      have fc18 := q_eq (a := r15.toInt) (b := 0) c18 rfl (by decide)
      refine lv_iconst (v := 0) hx hb dX9_wouldFit_33 (by decide) ?_
      exact r_z hx hb hr hlocks hK hS dX9_wouldFit_34 (by decide) (u := ()) (hP.sub (ws' := []) [] rfl) (hD.sub (ws' := []) [] (by decide) rfl) (by decide)
    · skip
      have fc18 := q_ne (a := r15.toInt) (b := 0) c18 rfl (by decide)
      exfalso; omega

abbrev Q_c_X9_ticket (D : va_G) (cy : Nat → ClassId) (x0 : Nat) (b0 : Nat) (im : Nat) (tp : Nat) (rd : Nat) (r0 : Nat) (u0 : Nat) (t0 : Nat) (l0 : Nat) (q0 : Nat) (of : Nat) (sh : Nat) (nl : Nat) (fc : Nat) (t1 : Nat) (t2 : Nat) (t3 : Nat) (t4 : Nat) (t5 : Nat) (t6 : Nat) (t : Int32) (what : Int32) : (Nat → Prop) → Array Value → State → Outcome → State → Prop := QI D cy (fun (r : Int32) (_ : Unit) => r.toInt = -1) (fun _ : Unit => [])
set_option maxHeartbeats 4000000 in
set_option maxRecDepth 100000 in
theorem c_X9_ticket (l : Launch) (D : va_G) (cy : Nat → ClassId) (x0 : Nat) (b0 : Nat) (im : Nat) (tp : Nat) (rd : Nat) (r0 : Nat) (u0 : Nat) (t0 : Nat) (l0 : Nat) (q0 : Nat) (of : Nat) (sh : Nat) (nl : Nat) (fc : Nat) (t1 : Nat) (t2 : Nat) (t3 : Nat) (t4 : Nat) (t5 : Nat) (t6 : Nat) (t : Int32) (what : Int32) (sz : Nat)  : Met l yX9_ticket wsX9_ticket ({ frames := 1, cells := 0, slots := 0, locals := 21 } : Room) (CP D cy [.ref x0, .int t, .int what] [(x0, .inr (9, [.ref b0, .ref im, .ref tp, .ref rd])), (b0, .inr (0, [.int 0, .ref r0, .ref u0, .ref t0, .ref l0, .ref q0, .ref of, .ref sh, .ref nl, .ref fc])), (t0, .inr (7, [.int 0, .ref t1, .ref t2, .ref t3, .ref t4, .ref t5, .ref t6]))] sz) (Q_c_X9_ticket D cy x0 b0 im tp rd r0 u0 t0 l0 q0 of sh nl fc t1 t2 t3 t4 t5 t6 t what (va_A [(x0, .inr (9, [.ref b0, .ref im, .ref tp, .ref rd])), (b0, .inr (0, [.int 0, .ref r0, .ref u0, .ref t0, .ref l0, .ref q0, .ref of, .ref sh, .ref nl, .ref fc])), (t0, .inr (7, [.int 0, .ref t1, .ref t2, .ref t3, .ref t4, .ref t5, .ref t6]))] sz)) 0 0 (va_A [(x0, .inr (9, [.ref b0, .ref im, .ref tp, .ref rd])), (b0, .inr (0, [.int 0, .ref r0, .ref u0, .ref t0, .ref l0, .ref q0, .ref of, .ref sh, .ref nl, .ref fc])), (t0, .inr (7, [.int 0, .ref t1, .ref t2, .ref t3, .ref t4, .ref t5, .ref t6]))] sz) := by
  refine Met.go (Qc := Q_c_X9_ticket D cy x0 b0 im tp rd r0 u0 t0 l0 q0 of sh nl fc t1 t2 t3 t4 t5 t6 t what) (cc := cX9_ticket) (maxL := 3) (ret := (some .int)) (by decide) rfl (Nat.le_of_ble_eq_true rfl) ?_
  intro p e s m below meth c hx hb hr hts hown hlocks hin hml hK hN A hA hD hP hS ls hl hsz
  have hl : lv_has ls 3 [(0, .ref x0), (1, .int t), (2, .int what)] := hl
  have in_X9 : ∀ w ∈ wsX90, w ∈ wsX9_ticket := fun _ h => List.mem_cons_of_mem _ (List.mem_append_left _ (List.mem_append_left _ ((List.mem_append_right _ h))))
  have w_1 := hts (.fieldLink RX9 10 "SleepingCars" "book" "LSleepingCars$Book;") (by decide +kernel)
  have in_X0 : ∀ w ∈ wsX00, w ∈ wsX9_ticket := fun _ h => List.mem_cons_of_mem _ (List.mem_append_left _ ((List.mem_append_right _ h)))
  have w_3 := hts (.fieldLink RX9 102 "SleepingCars$Book" "tickets" "LSleepingCars$Tickets;") (by decide +kernel)
  have w_4 := hts (.instanceMethod yX7_has) (by decide +kernel)
  obtain ⟨H, eH⟩ : ∃ H : Heap, H = s.heap := ⟨_, rfl⟩
  obtain ⟨locs, eL⟩ : ∃ L : List Loc, L = [] := ⟨_, rfl⟩
  rw [← eL]
  rw [← eL] at hS
  have hP : va_P D vwCl [(x0, .inr (9, [.ref b0, .ref im, .ref tp, .ref rd])), (b0, .inr (0, [.int 0, .ref r0, .ref u0, .ref t0, .ref l0, .ref q0, .ref of, .ref sh, .ref nl, .ref fc])), (t0, .inr (7, [.int 0, .ref t1, .ref t2, .ref t3, .ref t4, .ref t5, .ref t6]))] H := by rw [eH]; exact hP
  have hS : va_S A s.heap H locs := by rw [eH]; exact hS
  refine W.heapEq eH ?_
  clear eH eL
  refine lv_aload_n hx hb dX9_ticket_0 rfl (lv_at hl 0 rfl) ?_
  refine va_get (D := D) (ci := 9) (v := .ref b0) (C := RX9) (T := TX9) (N := 4) hx hb hts in_X9 hown hK hP 0 rfl rfl 0 (by decide) w_1 (fun _ h9 => h9) rfl dX9_ticket_1 ?_
  refine va_get (D := D) (ci := 0) (v := .ref t0) (C := RX0) (T := TX0) (N := 10) hx hb hts in_X0 hown hK hP 1 rfl rfl 3 (by decide) w_3 (fun _ h9 => h9) rfl dX9_ticket_4 ?_
  refine lv_iload_n hx hb dX9_ticket_7 rfl (lv_at hl 1 rfl) ?_
  refine k_i (va_runV (As := [.int t]) (rest := []) ⟨hx, hb, hml, hown, hts⟩ (c_hasT0 l D cy t0 t1 t2 t3 t4 t5 t6 t H.size ) (cwV 1 hts gX9_ticket_X7_has rfl rfl rfl (by decide +kernel) ⟨Nat.le_of_ble_eq_true rfl, Nat.le_of_ble_eq_true rfl⟩) (cp_v hK hN hP hD [2] rfl (by decide) (ci := 7) rfl rfl rfl) rfl rfl hl.1 rfl (lv_room (Nat.le_of_ble_eq_true rfl)) dX9_ticket_8 ⟨Nat.le_of_ble_eq_true rfl, Nat.le_of_ble_eq_true rfl⟩) hP hD hS hA [2] [0, 1] (wr := [(x0, .inr (9, [.ref b0, .ref im, .ref tp, .ref rd])), (b0, .inr (0, [.int 0, .ref r0, .ref u0, .ref t0, .ref l0, .ref q0, .ref of, .ref sh, .ref nl, .ref fc]))]) rfl rfl (by decide) (by decide) (fun r8 u_r8 H locs hw8 hP hD hS => ?_)
  try dsimp only at hw8
  have hP : va_P D vwCl [(x0, .inr (9, [.ref b0, .ref im, .ref tp, .ref rd])), (b0, .inr (0, [.int 0, .ref r0, .ref u0, .ref t0, .ref l0, .ref q0, .ref of, .ref sh, .ref nl, .ref fc])), (t0, .inr (7, [.int 0, .ref t1, .ref t2, .ref t3, .ref t4, .ref t5, .ref t6]))] H := hP
  have hD : va_D A [(x0, .inr (9, [.ref b0, .ref im, .ref tp, .ref rd])), (b0, .inr (0, [.int 0, .ref r0, .ref u0, .ref t0, .ref l0, .ref q0, .ref of, .ref sh, .ref nl, .ref fc])), (t0, .inr (7, [.int 0, .ref t1, .ref t2, .ref t3, .ref t4, .ref t5, .ref t6]))] := hD
  refine lv_if_ne (tgt := 16) hx hb dX9_ticket_11 (by decide) (fun c11 => ?_) (fun c11 => ?_)
  · skip
    have fc11 := q_ne (a := r8.toInt) (b := 0) c11 rfl (by decide)
    exfalso; omega
  · skip
    have fc11 := q_eq (a := r8.toInt) (b := 0) c11 rfl (by decide)
    refine lv_iconst (v := (-1)) hx hb dX9_ticket_14 (by decide) ?_
    exact r_i hx hb hr hlocks hK hS dX9_ticket_15 (u := ()) (hP.sub (ws' := []) [] rfl) (hD.sub (ws' := []) [] (by decide) rfl) (by decide)

abbrev Q_c_X9_lies (D : va_G) (cy : Nat → ClassId) (x0 : Nat) (b0 : Nat) (im : Nat) (tp : Nat) (rd : Nat) (r0 : Nat) (u0 : Nat) (t0 : Nat) (l0 : Nat) (q0 : Nat) (of : Nat) (sh : Nat) (nl : Nat) (fc : Nat) (u1 : Nat) (u2 : Nat) (u3 : Nat) (day : Int32) (b : Int32) (stop : Int32) : (Nat → Prop) → Array Value → State → Outcome → State → Prop := QI D cy (fun (r : Int32) (_ : Unit) => r.toInt = -2) (fun _ : Unit => [])
set_option maxHeartbeats 4000000 in
set_option maxRecDepth 100000 in
theorem c_X9_lies (l : Launch) (D : va_G) (cy : Nat → ClassId) (x0 : Nat) (b0 : Nat) (im : Nat) (tp : Nat) (rd : Nat) (r0 : Nat) (u0 : Nat) (t0 : Nat) (l0 : Nat) (q0 : Nat) (of : Nat) (sh : Nat) (nl : Nat) (fc : Nat) (u1 : Nat) (u2 : Nat) (u3 : Nat) (day : Int32) (b : Int32) (stop : Int32) (sz : Nat)  : Met l yX9_lies wsX9_lies ({ frames := 2, cells := 0, slots := 0, locals := 43 } : Room) (CP D cy [.ref x0, .int day, .int b, .int stop] [(x0, .inr (9, [.ref b0, .ref im, .ref tp, .ref rd])), (b0, .inr (0, [.int 0, .ref r0, .ref u0, .ref t0, .ref l0, .ref q0, .ref of, .ref sh, .ref nl, .ref fc])), (u0, .inr (5, [.int 0, .ref u1, .ref u2, .ref u3])), (u1, .inl (cy 0, 60, .inl (fun _ => 0)))] sz) (Q_c_X9_lies D cy x0 b0 im tp rd r0 u0 t0 l0 q0 of sh nl fc u1 u2 u3 day b stop (va_A [(x0, .inr (9, [.ref b0, .ref im, .ref tp, .ref rd])), (b0, .inr (0, [.int 0, .ref r0, .ref u0, .ref t0, .ref l0, .ref q0, .ref of, .ref sh, .ref nl, .ref fc])), (u0, .inr (5, [.int 0, .ref u1, .ref u2, .ref u3])), (u1, .inl (cy 0, 60, .inl (fun _ => 0)))] sz)) 0 0 (va_A [(x0, .inr (9, [.ref b0, .ref im, .ref tp, .ref rd])), (b0, .inr (0, [.int 0, .ref r0, .ref u0, .ref t0, .ref l0, .ref q0, .ref of, .ref sh, .ref nl, .ref fc])), (u0, .inr (5, [.int 0, .ref u1, .ref u2, .ref u3])), (u1, .inl (cy 0, 60, .inl (fun _ => 0)))] sz) := by
  refine Met.go (Qc := Q_c_X9_lies D cy x0 b0 im tp rd r0 u0 t0 l0 q0 of sh nl fc u1 u2 u3 day b stop) (cc := cX9_lies) (maxL := 4) (ret := (some .int)) (by decide) rfl (Nat.le_of_ble_eq_true rfl) ?_
  intro p e s m below meth c hx hb hr hts hown hlocks hin hml hK hN A hA hD hP hS ls hl hsz
  have hl : lv_has ls 4 [(0, .ref x0), (1, .int day), (2, .int b), (3, .int stop)] := hl
  have in_X9 : ∀ w ∈ wsX90, w ∈ wsX9_lies := fun _ h => List.mem_cons_of_mem _ (List.mem_append_left _ (List.mem_append_left _ (List.mem_append_left _ (List.mem_append_left _ ((List.mem_append_right _ h))))))
  have w_1 := hts (.fieldLink RX9 10 "SleepingCars" "book" "LSleepingCars$Book;") (by decide +kernel)
  have in_X0 : ∀ w ∈ wsX00, w ∈ wsX9_lies := fun _ h => List.mem_cons_of_mem _ (List.mem_append_left _ (List.mem_append_left _ (List.mem_append_left _ ((List.mem_append_right _ h)))))
  have w_3 := hts (.fieldLink RX9 34 "SleepingCars$Book" "runs" "LSleepingCars$Runs;") (by decide +kernel)
  have w_4 := hts (.instanceMethod yX5_hasBerth) (by decide +kernel)
  obtain ⟨H, eH⟩ : ∃ H : Heap, H = s.heap := ⟨_, rfl⟩
  obtain ⟨locs, eL⟩ : ∃ L : List Loc, L = [] := ⟨_, rfl⟩
  rw [← eL]
  rw [← eL] at hS
  have hP : va_P D vwCl [(x0, .inr (9, [.ref b0, .ref im, .ref tp, .ref rd])), (b0, .inr (0, [.int 0, .ref r0, .ref u0, .ref t0, .ref l0, .ref q0, .ref of, .ref sh, .ref nl, .ref fc])), (u0, .inr (5, [.int 0, .ref u1, .ref u2, .ref u3])), (u1, .inl (cy 0, 60, .inl (fun _ => 0)))] H := by rw [eH]; exact hP
  have hS : va_S A s.heap H locs := by rw [eH]; exact hS
  refine W.heapEq eH ?_
  clear eH eL
  refine lv_aload_n hx hb dX9_lies_0 rfl (lv_at hl 0 rfl) ?_
  refine va_get (D := D) (ci := 9) (v := .ref b0) (C := RX9) (T := TX9) (N := 4) hx hb hts in_X9 hown hK hP 0 rfl rfl 0 (by decide) w_1 (fun _ h9 => h9) rfl dX9_lies_1 ?_
  refine va_get (D := D) (ci := 0) (v := .ref u0) (C := RX0) (T := TX0) (N := 10) hx hb hts in_X0 hown hK hP 1 rfl rfl 2 (by decide) w_3 (fun _ h9 => h9) rfl dX9_lies_4 ?_
  refine lv_iload_n hx hb dX9_lies_7 rfl (lv_at hl 1 rfl) ?_
  refine lv_iload_n hx hb dX9_lies_8 rfl (lv_at hl 2 rfl) ?_
  refine k_i (va_runV (As := [.int day, .int b]) (rest := []) ⟨hx, hb, hml, hown, hts⟩ (c_hasBerth0 l D cy u0 u1 u2 u3 day b H.size ) (cwV 2 hts gX9_lies_X5_hasBerth rfl rfl rfl (by decide +kernel) ⟨Nat.le_of_ble_eq_true rfl, Nat.le_of_ble_eq_true rfl⟩) (cp_v hK hN hP hD [2, 3] rfl (by decide) (ci := 5) rfl rfl rfl) rfl rfl hl.1 rfl (lv_room (Nat.le_of_ble_eq_true rfl)) dX9_lies_9 ⟨Nat.le_of_ble_eq_true rfl, Nat.le_of_ble_eq_true rfl⟩) hP hD hS hA [2, 3] [0, 1] (wr := [(x0, .inr (9, [.ref b0, .ref im, .ref tp, .ref rd])), (b0, .inr (0, [.int 0, .ref r0, .ref u0, .ref t0, .ref l0, .ref q0, .ref of, .ref sh, .ref nl, .ref fc]))]) rfl rfl (by decide) (by decide) (fun r9 u_r9 H locs hw9 hP hD hS => ?_)
  try dsimp only at hw9
  have hP : va_P D vwCl [(x0, .inr (9, [.ref b0, .ref im, .ref tp, .ref rd])), (b0, .inr (0, [.int 0, .ref r0, .ref u0, .ref t0, .ref l0, .ref q0, .ref of, .ref sh, .ref nl, .ref fc])), (u0, .inr (5, [.int 0, .ref u1, .ref u2, .ref u3])), (u1, .inl (cy 0, 60, .inl (fun _ => 0)))] H := hP
  have hD : va_D A [(x0, .inr (9, [.ref b0, .ref im, .ref tp, .ref rd])), (b0, .inr (0, [.int 0, .ref r0, .ref u0, .ref t0, .ref l0, .ref q0, .ref of, .ref sh, .ref nl, .ref fc])), (u0, .inr (5, [.int 0, .ref u1, .ref u2, .ref u3])), (u1, .inl (cy 0, 60, .inl (fun _ => 0)))] := hD
  refine lv_if_eq (tgt := 29) hx hb dX9_lies_12 (by decide) (fun c12 => ?_) (fun c12 => ?_)
  · skip
    have fc12 := q_eq (a := r9.toInt) (b := 0) c12 rfl (by decide)
    refine lv_bipush (v := (-2)) hx hb dX9_lies_29 (by decide) ?_
    exact r_i hx hb hr hlocks hK hS dX9_lies_31 (u := ()) (hP.sub (ws' := []) [] rfl) (hD.sub (ws' := []) [] (by decide) rfl) (by decide)
  · skip
    have fc12 := q_ne (a := r9.toInt) (b := 0) c12 rfl (by decide)
    exfalso; omega

abbrev Q_c_X9_told (D : va_G) (cy : Nat → ClassId) (x0 : Nat) (b0 : Nat) (im : Nat) (tp : Nat) (rd : Nat) (r0 : Nat) (u0 : Nat) (t0 : Nat) (l0 : Nat) (q0 : Nat) (of : Nat) (sh : Nat) (nl : Nat) (fc : Nat) (u1 : Nat) (u2 : Nat) (u3 : Nat) (day : Int32) (what : Int32) : (Nat → Prop) → Array Value → State → Outcome → State → Prop := QI D cy (fun (r : Int32) (_ : Unit) => r.toInt = -1) (fun _ : Unit => [])
set_option maxHeartbeats 4000000 in
set_option maxRecDepth 100000 in
theorem c_X9_told (l : Launch) (D : va_G) (cy : Nat → ClassId) (x0 : Nat) (b0 : Nat) (im : Nat) (tp : Nat) (rd : Nat) (r0 : Nat) (u0 : Nat) (t0 : Nat) (l0 : Nat) (q0 : Nat) (of : Nat) (sh : Nat) (nl : Nat) (fc : Nat) (u1 : Nat) (u2 : Nat) (u3 : Nat) (day : Int32) (what : Int32) (sz : Nat)  : Met l yX9_told wsX9_told ({ frames := 1, cells := 0, slots := 0, locals := 21 } : Room) (CP D cy [.ref x0, .int day, .int what] [(x0, .inr (9, [.ref b0, .ref im, .ref tp, .ref rd])), (b0, .inr (0, [.int 0, .ref r0, .ref u0, .ref t0, .ref l0, .ref q0, .ref of, .ref sh, .ref nl, .ref fc])), (u0, .inr (5, [.int 0, .ref u1, .ref u2, .ref u3])), (u1, .inl (cy 0, 60, .inl (fun _ => 0)))] sz) (Q_c_X9_told D cy x0 b0 im tp rd r0 u0 t0 l0 q0 of sh nl fc u1 u2 u3 day what (va_A [(x0, .inr (9, [.ref b0, .ref im, .ref tp, .ref rd])), (b0, .inr (0, [.int 0, .ref r0, .ref u0, .ref t0, .ref l0, .ref q0, .ref of, .ref sh, .ref nl, .ref fc])), (u0, .inr (5, [.int 0, .ref u1, .ref u2, .ref u3])), (u1, .inl (cy 0, 60, .inl (fun _ => 0)))] sz)) 0 0 (va_A [(x0, .inr (9, [.ref b0, .ref im, .ref tp, .ref rd])), (b0, .inr (0, [.int 0, .ref r0, .ref u0, .ref t0, .ref l0, .ref q0, .ref of, .ref sh, .ref nl, .ref fc])), (u0, .inr (5, [.int 0, .ref u1, .ref u2, .ref u3])), (u1, .inl (cy 0, 60, .inl (fun _ => 0)))] sz) := by
  refine Met.go (Qc := Q_c_X9_told D cy x0 b0 im tp rd r0 u0 t0 l0 q0 of sh nl fc u1 u2 u3 day what) (cc := cX9_told) (maxL := 3) (ret := (some .int)) (by decide) rfl (Nat.le_of_ble_eq_true rfl) ?_
  intro p e s m below meth c hx hb hr hts hown hlocks hin hml hK hN A hA hD hP hS ls hl hsz
  have hl : lv_has ls 3 [(0, .ref x0), (1, .int day), (2, .int what)] := hl
  have in_X9 : ∀ w ∈ wsX90, w ∈ wsX9_told := fun _ h => List.mem_cons_of_mem _ (List.mem_append_left _ (List.mem_append_left _ (List.mem_append_left _ (List.mem_append_left _ ((List.mem_append_right _ h))))))
  have w_1 := hts (.fieldLink RX9 10 "SleepingCars" "book" "LSleepingCars$Book;") (by decide +kernel)
  have in_X0 : ∀ w ∈ wsX00, w ∈ wsX9_told := fun _ h => List.mem_cons_of_mem _ (List.mem_append_left _ (List.mem_append_left _ (List.mem_append_left _ ((List.mem_append_right _ h)))))
  have w_3 := hts (.fieldLink RX9 34 "SleepingCars$Book" "runs" "LSleepingCars$Runs;") (by decide +kernel)
  have w_4 := hts (.instanceMethod yX5_isTold) (by decide +kernel)
  obtain ⟨H, eH⟩ : ∃ H : Heap, H = s.heap := ⟨_, rfl⟩
  obtain ⟨locs, eL⟩ : ∃ L : List Loc, L = [] := ⟨_, rfl⟩
  rw [← eL]
  rw [← eL] at hS
  have hP : va_P D vwCl [(x0, .inr (9, [.ref b0, .ref im, .ref tp, .ref rd])), (b0, .inr (0, [.int 0, .ref r0, .ref u0, .ref t0, .ref l0, .ref q0, .ref of, .ref sh, .ref nl, .ref fc])), (u0, .inr (5, [.int 0, .ref u1, .ref u2, .ref u3])), (u1, .inl (cy 0, 60, .inl (fun _ => 0)))] H := by rw [eH]; exact hP
  have hS : va_S A s.heap H locs := by rw [eH]; exact hS
  refine W.heapEq eH ?_
  clear eH eL
  refine lv_aload_n hx hb dX9_told_0 rfl (lv_at hl 0 rfl) ?_
  refine va_get (D := D) (ci := 9) (v := .ref b0) (C := RX9) (T := TX9) (N := 4) hx hb hts in_X9 hown hK hP 0 rfl rfl 0 (by decide) w_1 (fun _ h9 => h9) rfl dX9_told_1 ?_
  refine va_get (D := D) (ci := 0) (v := .ref u0) (C := RX0) (T := TX0) (N := 10) hx hb hts in_X0 hown hK hP 1 rfl rfl 2 (by decide) w_3 (fun _ h9 => h9) rfl dX9_told_4 ?_
  refine lv_iload_n hx hb dX9_told_7 rfl (lv_at hl 1 rfl) ?_
  refine k_i (va_runV (As := [.int day]) (rest := []) ⟨hx, hb, hml, hown, hts⟩ (c_isTold0 l D cy u0 u1 u2 u3 day H.size ) (cwV 1 hts gX9_told_X5_isTold rfl rfl rfl (by decide +kernel) ⟨Nat.le_of_ble_eq_true rfl, Nat.le_of_ble_eq_true rfl⟩) (cp_v hK hN hP hD [2, 3] rfl (by decide) (ci := 5) rfl rfl rfl) rfl rfl hl.1 rfl (lv_room (Nat.le_of_ble_eq_true rfl)) dX9_told_8 ⟨Nat.le_of_ble_eq_true rfl, Nat.le_of_ble_eq_true rfl⟩) hP hD hS hA [2, 3] [0, 1] (wr := [(x0, .inr (9, [.ref b0, .ref im, .ref tp, .ref rd])), (b0, .inr (0, [.int 0, .ref r0, .ref u0, .ref t0, .ref l0, .ref q0, .ref of, .ref sh, .ref nl, .ref fc]))]) rfl rfl (by decide) (by decide) (fun r8 u_r8 H locs hw8 hP hD hS => ?_)
  try dsimp only at hw8
  have hP : va_P D vwCl [(x0, .inr (9, [.ref b0, .ref im, .ref tp, .ref rd])), (b0, .inr (0, [.int 0, .ref r0, .ref u0, .ref t0, .ref l0, .ref q0, .ref of, .ref sh, .ref nl, .ref fc])), (u0, .inr (5, [.int 0, .ref u1, .ref u2, .ref u3])), (u1, .inl (cy 0, 60, .inl (fun _ => 0)))] H := hP
  have hD : va_D A [(x0, .inr (9, [.ref b0, .ref im, .ref tp, .ref rd])), (b0, .inr (0, [.int 0, .ref r0, .ref u0, .ref t0, .ref l0, .ref q0, .ref of, .ref sh, .ref nl, .ref fc])), (u0, .inr (5, [.int 0, .ref u1, .ref u2, .ref u3])), (u1, .inl (cy 0, 60, .inl (fun _ => 0)))] := hD
  refine lv_if_ne (tgt := 16) hx hb dX9_told_11 (by decide) (fun c11 => ?_) (fun c11 => ?_)
  · skip
    have fc11 := q_ne (a := r8.toInt) (b := 0) c11 rfl (by decide)
    exfalso; omega
  · skip
    have fc11 := q_eq (a := r8.toInt) (b := 0) c11 rfl (by decide)
    refine lv_iconst (v := (-1)) hx hb dX9_told_14 (by decide) ?_
    exact r_i hx hb hr hlocks hK hS dX9_told_15 (u := ()) (hP.sub (ws' := []) [] rfl) (hD.sub (ws' := []) [] (by decide) rfl) (by decide)

abbrev Q_c_X9_cost (D : va_G) (cy : Nat → ClassId) (x0 : Nat) (b0 : Nat) (im : Nat) (tp : Nat) (rd : Nat) (r0 : Nat) (u0 : Nat) (t0 : Nat) (l0 : Nat) (q0 : Nat) (of : Nat) (sh : Nat) (nl : Nat) (fc : Nat) (u1 : Nat) (u2 : Nat) (u3 : Nat) (day : Int32) (stop : Int32) : (Nat → Prop) → Array Value → State → Outcome → State → Prop := QL D cy (fun (r : Int64) (_ : Unit) => r = 0) (fun _ : Unit => [])
set_option maxHeartbeats 4000000 in
set_option maxRecDepth 100000 in
theorem c_X9_cost (l : Launch) (D : va_G) (cy : Nat → ClassId) (x0 : Nat) (b0 : Nat) (im : Nat) (tp : Nat) (rd : Nat) (r0 : Nat) (u0 : Nat) (t0 : Nat) (l0 : Nat) (q0 : Nat) (of : Nat) (sh : Nat) (nl : Nat) (fc : Nat) (u1 : Nat) (u2 : Nat) (u3 : Nat) (day : Int32) (stop : Int32) (sz : Nat)  : Met l yX9_cost wsX9_cost ({ frames := 1, cells := 0, slots := 0, locals := 21 } : Room) (CP D cy [.ref x0, .int day, .int stop] [(x0, .inr (9, [.ref b0, .ref im, .ref tp, .ref rd])), (b0, .inr (0, [.int 0, .ref r0, .ref u0, .ref t0, .ref l0, .ref q0, .ref of, .ref sh, .ref nl, .ref fc])), (u0, .inr (5, [.int 0, .ref u1, .ref u2, .ref u3])), (u1, .inl (cy 0, 60, .inl (fun _ => 0)))] sz) (Q_c_X9_cost D cy x0 b0 im tp rd r0 u0 t0 l0 q0 of sh nl fc u1 u2 u3 day stop (va_A [(x0, .inr (9, [.ref b0, .ref im, .ref tp, .ref rd])), (b0, .inr (0, [.int 0, .ref r0, .ref u0, .ref t0, .ref l0, .ref q0, .ref of, .ref sh, .ref nl, .ref fc])), (u0, .inr (5, [.int 0, .ref u1, .ref u2, .ref u3])), (u1, .inl (cy 0, 60, .inl (fun _ => 0)))] sz)) 0 0 (va_A [(x0, .inr (9, [.ref b0, .ref im, .ref tp, .ref rd])), (b0, .inr (0, [.int 0, .ref r0, .ref u0, .ref t0, .ref l0, .ref q0, .ref of, .ref sh, .ref nl, .ref fc])), (u0, .inr (5, [.int 0, .ref u1, .ref u2, .ref u3])), (u1, .inl (cy 0, 60, .inl (fun _ => 0)))] sz) := by
  refine Met.go (Qc := Q_c_X9_cost D cy x0 b0 im tp rd r0 u0 t0 l0 q0 of sh nl fc u1 u2 u3 day stop) (cc := cX9_cost) (maxL := 3) (ret := (some .long)) (by decide) rfl (Nat.le_of_ble_eq_true rfl) ?_
  intro p e s m below meth c hx hb hr hts hown hlocks hin hml hK hN A hA hD hP hS ls hl hsz
  have hl : lv_has ls 3 [(0, .ref x0), (1, .int day), (2, .int stop)] := hl
  have in_X9 : ∀ w ∈ wsX90, w ∈ wsX9_cost := fun _ h => List.mem_cons_of_mem _ (List.mem_append_left _ (List.mem_append_left _ (List.mem_append_left _ (List.mem_append_left _ ((List.mem_append_right _ h))))))
  have w_1 := hts (.fieldLink RX9 10 "SleepingCars" "book" "LSleepingCars$Book;") (by decide +kernel)
  have in_X0 : ∀ w ∈ wsX00, w ∈ wsX9_cost := fun _ h => List.mem_cons_of_mem _ (List.mem_append_left _ (List.mem_append_left _ (List.mem_append_left _ ((List.mem_append_right _ h)))))
  have w_3 := hts (.fieldLink RX9 34 "SleepingCars$Book" "runs" "LSleepingCars$Runs;") (by decide +kernel)
  have w_4 := hts (.instanceMethod yX5_isTold) (by decide +kernel)
  obtain ⟨H, eH⟩ : ∃ H : Heap, H = s.heap := ⟨_, rfl⟩
  obtain ⟨locs, eL⟩ : ∃ L : List Loc, L = [] := ⟨_, rfl⟩
  rw [← eL]
  rw [← eL] at hS
  have hP : va_P D vwCl [(x0, .inr (9, [.ref b0, .ref im, .ref tp, .ref rd])), (b0, .inr (0, [.int 0, .ref r0, .ref u0, .ref t0, .ref l0, .ref q0, .ref of, .ref sh, .ref nl, .ref fc])), (u0, .inr (5, [.int 0, .ref u1, .ref u2, .ref u3])), (u1, .inl (cy 0, 60, .inl (fun _ => 0)))] H := by rw [eH]; exact hP
  have hS : va_S A s.heap H locs := by rw [eH]; exact hS
  refine W.heapEq eH ?_
  clear eH eL
  refine lv_aload_n hx hb dX9_cost_0 rfl (lv_at hl 0 rfl) ?_
  refine va_get (D := D) (ci := 9) (v := .ref b0) (C := RX9) (T := TX9) (N := 4) hx hb hts in_X9 hown hK hP 0 rfl rfl 0 (by decide) w_1 (fun _ h9 => h9) rfl dX9_cost_1 ?_
  refine va_get (D := D) (ci := 0) (v := .ref u0) (C := RX0) (T := TX0) (N := 10) hx hb hts in_X0 hown hK hP 1 rfl rfl 2 (by decide) w_3 (fun _ h9 => h9) rfl dX9_cost_4 ?_
  refine lv_iload_n hx hb dX9_cost_7 rfl (lv_at hl 1 rfl) ?_
  refine k_i (va_runV (As := [.int day]) (rest := []) ⟨hx, hb, hml, hown, hts⟩ (c_isTold0 l D cy u0 u1 u2 u3 day H.size ) (cwV 1 hts gX9_cost_X5_isTold rfl rfl rfl (by decide +kernel) ⟨Nat.le_of_ble_eq_true rfl, Nat.le_of_ble_eq_true rfl⟩) (cp_v hK hN hP hD [2, 3] rfl (by decide) (ci := 5) rfl rfl rfl) rfl rfl hl.1 rfl (lv_room (Nat.le_of_ble_eq_true rfl)) dX9_cost_8 ⟨Nat.le_of_ble_eq_true rfl, Nat.le_of_ble_eq_true rfl⟩) hP hD hS hA [2, 3] [0, 1] (wr := [(x0, .inr (9, [.ref b0, .ref im, .ref tp, .ref rd])), (b0, .inr (0, [.int 0, .ref r0, .ref u0, .ref t0, .ref l0, .ref q0, .ref of, .ref sh, .ref nl, .ref fc]))]) rfl rfl (by decide) (by decide) (fun r8 u_r8 H locs hw8 hP hD hS => ?_)
  try dsimp only at hw8
  have hP : va_P D vwCl [(x0, .inr (9, [.ref b0, .ref im, .ref tp, .ref rd])), (b0, .inr (0, [.int 0, .ref r0, .ref u0, .ref t0, .ref l0, .ref q0, .ref of, .ref sh, .ref nl, .ref fc])), (u0, .inr (5, [.int 0, .ref u1, .ref u2, .ref u3])), (u1, .inl (cy 0, 60, .inl (fun _ => 0)))] H := hP
  have hD : va_D A [(x0, .inr (9, [.ref b0, .ref im, .ref tp, .ref rd])), (b0, .inr (0, [.int 0, .ref r0, .ref u0, .ref t0, .ref l0, .ref q0, .ref of, .ref sh, .ref nl, .ref fc])), (u0, .inr (5, [.int 0, .ref u1, .ref u2, .ref u3])), (u1, .inl (cy 0, 60, .inl (fun _ => 0)))] := hD
  refine lv_if_ne (tgt := 16) hx hb dX9_cost_11 (by decide) (fun c11 => ?_) (fun c11 => ?_)
  · skip
    have fc11 := q_ne (a := r8.toInt) (b := 0) c11 rfl (by decide)
    exfalso; omega
  · skip
    have fc11 := q_eq (a := r8.toInt) (b := 0) c11 rfl (by decide)
    refine lv_lconst (v := 0) hx hb dX9_cost_14 (by decide) ?_
    exact r_l hx hb hr hlocks hK hS dX9_cost_15 (u := ()) (hP.sub (ws' := []) [] rfl) (hD.sub (ws' := []) [] (by decide) rfl) (rfl)
