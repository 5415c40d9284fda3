abbrev Q_c_X9_isInSet (D : va_G) (cy : Nat → ClassId) (days : Int32) (day : Int32) : (Nat → Prop) → Array Value → State → Outcome → State → Prop := QI D cy (fun (r : Int32) (_ : Unit) => (r.toInt = 1 ∧ ((bitAt days day).toInt = 1)) ∨ (r.toInt = 0 ∧ ¬ ((bitAt days day).toInt = 1))) (fun _ : Unit => [])
set_option maxHeartbeats 4000000 in
set_option maxRecDepth 100000 in
theorem c_X9_isInSet (l : Launch) (D : va_G) (cy : Nat → ClassId) (days : Int32) (day : Int32) (sz : Nat)  : Met l yX9_isInSet wsX9_isInSet ({ frames := 0, cells := 0, slots := 0, locals := 0 } : Room) (CP D cy [.int days, .int day] [] sz) (Q_c_X9_isInSet D cy days day (va_A [] sz)) 0 0 (va_A [] sz) := by
  refine Met.go (Qc := Q_c_X9_isInSet D cy days day) (cc := cX9_isInSet) (maxL := 2) (ret := (some .boolean)) (by decide) rfl (Nat.le_of_ble_eq_true rfl) ?_
  intro p e s m below meth c hx hb hr hts hown hlocks hin hml hK hN A hA hD hP hS ls hl hsz
  have hl : lv_has ls 2 [(0, .int days), (1, .int day)] := hl
  obtain ⟨H, eH⟩ : ∃ H : Heap, H = s.heap := ⟨_, rfl⟩
  obtain ⟨locs, eL⟩ : ∃ L : List Loc, L = [] := ⟨_, rfl⟩
  rw [← eL]
  rw [← eL] at hS
  have hP : va_P D vwCl [] H := by rw [eH]; exact hP
  have hS : va_S A s.heap H locs := by rw [eH]; exact hS
  refine W.heapEq eH ?_
  clear eH eL
  refine lv_iload_n hx hb dX9_isInSet_0 rfl (lv_at hl 0 rfl) ?_
  refine lv_iload_n hx hb dX9_isInSet_1 rfl (lv_at hl 1 rfl) ?_
  refine lv_ishr hx hb dX9_isInSet_2 ?_
  refine lv_topi (fun x2 ex2 => ?_)
  refine lv_iconst (v := 1) hx hb dX9_isInSet_3 (by decide) ?_
  refine lv_iand hx hb dX9_isInSet_4 ?_
  refine lv_topi (fun x4 ex4 => ?_)
  have tx4 : x4.toInt = (bitAt days day).toInt := by rw [ex4, ex2]; rfl
  refine lv_iconst (v := 1) hx hb dX9_isInSet_5 (by decide) ?_
  refine lv_icmp_ne (tgt := 13) hx hb dX9_isInSet_6 (by decide) (fun c6 => ?_) (fun c6 => ?_)
  · skip
    have fc6 := q_ne (a := x4.toInt) (b := 1) c6 rfl (by decide)
    refine lv_iconst (v := 0) hx hb dX9_isInSet_13 (by decide) ?_
    exact r_z hx hb hr hlocks hK hS dX9_isInSet_14 (by decide) (u := ()) hP hD (by first | exact Or.inl ⟨by decide, by omega⟩ | exact Or.inr ⟨by decide, by omega⟩)
  · skip
    have fc6 := q_eq (a := x4.toInt) (b := 1) c6 rfl (by decide)
    refine lv_iconst (v := 1) hx hb dX9_isInSet_9 (by decide) ?_
    refine lv_goto (tgt := 14) hx hb dX9_isInSet_10 (by decide) ?_
    exact r_z hx hb hr hlocks hK hS dX9_isInSet_14 (by decide) (u := ()) hP hD (by first | exact Or.inl ⟨by decide, by omega⟩ | exact Or.inr ⟨by decide, by omega⟩)

abbrev Q_c_X9_carsOut (D : va_G) (cy : Nat → ClassId) (days : Int32) (day : Int32) (away : Int32) : (Nat → Prop) → Array Value → State → Outcome → State → Prop := QI D cy (fun (r : Int32) (_ : Unit) => r.toInt = coF days away.toInt day.toInt (day.toInt + 1).toNat ∧ 0 ≤ r.toInt ∧ r.toInt ≤ 30) (fun _ : Unit => [])
set_option maxHeartbeats 4000000 in
set_option maxRecDepth 100000 in
theorem c_X9_carsOut (l : Launch) (D : va_G) (cy : Nat → ClassId) (days : Int32) (day : Int32) (away : Int32) (sz : Nat) (hd : 0 ≤ day.toInt ∧ day.toInt < 30) : Met l yX9_carsOut wsX9_carsOut ({ frames := 1, cells := 0, slots := 0, locals := 21 } : Room) (CP D cy [.int days, .int day, .int away] [] sz) (Q_c_X9_carsOut D cy days day away (va_A [] sz)) 0 0 (va_A [] sz) := by
  refine Met.go (Qc := Q_c_X9_carsOut D cy days day away) (cc := cX9_carsOut) (maxL := 5) (ret := (some .int)) (by decide) rfl (Nat.le_of_ble_eq_true rfl) ?_
  intro p e s m below meth c hx hb hr hts hown hlocks hin hml hK hN A hA hD hP hS ls hl hsz
  have hl : lv_has ls 5 [(0, .int days), (1, .int day), (2, .int away)] := hl
  obtain ⟨H, eH⟩ : ∃ H : Heap, H = s.heap := ⟨_, rfl⟩
  obtain ⟨locs, eL⟩ : ∃ L : List Loc, L = [] := ⟨_, rfl⟩
  rw [← eL]
  rw [← eL] at hS
  have hP : va_P D vwCl [] H := by rw [eH]; exact hP
  have hS : va_S A s.heap H locs := by rw [eH]; exact hS
  refine W.heapEq eH ?_
  clear eH eL
  refine lv_iconst (v := 0) hx hb dX9_carsOut_0 (by decide) ?_
  refine lv_istore_n (lv' := [(3, .int 0), (0, .int days), (1, .int day), (2, .int away)]) hx hb dX9_carsOut_1 rfl hl (by decide) rfl (fun ls hl => ?_)
  refine lv_iconst (v := 0) hx hb dX9_carsOut_2 (by decide) ?_
  refine lv_istore (lv' := [(4, .int 0), (3, .int 0), (0, .int days), (1, .int day), (2, .int away)]) hx hb dX9_carsOut_3 hl (by decide) rfl (fun ls hl => ?_)
  have lp_5 : ∀ (n_5 : Nat) (i : Int32) (ot : Int32), (0 ≤ i.toInt) → (i.toInt ≤ day.toInt + 1) → (ot.toInt = coF days away.toInt day.toInt i.toInt.toNat) → (0 ≤ ot.toInt) → (ot.toInt ≤ i.toInt) → (30 - i.toInt).toNat < n_5 → ∀ (H : Heap) (locs : List Loc), va_P D vwCl [] H → va_D A [] → va_S A s.heap H locs → ∀ ls : Array Slot, lv_has ls 5 [(4, .int i), (3, .int ot), (0, .int days), (1, .int day), (2, .int away)] → W p l e (headSpec wsX9_carsOut ({ frames := 1, cells := 0, slots := 0, locals := 21 } : Room)).room s m ([.int days, .int day, .int away] : List Value).toArray below meth c H locs 0 0 (MQ below (Q_c_X9_carsOut D cy days day away A) ([.int days, .int day, .int away] : List Value).toArray s 0 0 A) (F0 m 5 ls []) := by
    intro n_5
    induction n_5 with
    | zero => intro i ot hi0 hi1 ho ho0 ho1 hmu; exact absurd hmu (Nat.not_lt_zero _)
    | succ n_5 ih_5 =>
      intro i ot hi0 hi1 ho ho0 ho1 hmu_5 H locs hP hD hS ls hl
      refine lv_iload hx hb dX9_carsOut_5 (lv_at hl 0 rfl) ?_
      refine lv_iload_n hx hb dX9_carsOut_7 rfl (lv_at hl 3 rfl) ?_
      refine lv_icmp_gt (tgt := 40) hx hb dX9_carsOut_8 (by decide) (fun c8 => ?_) (fun c8 => ?_)
      · skip
        have fc8 := q_lt (a := day.toInt) (b := i.toInt) c8 rfl rfl
        refine lv_iload_n hx hb dX9_carsOut_40 rfl (lv_at hl 1 rfl) ?_
        exact r_i hx hb hr hlocks hK hS dX9_carsOut_41 (u := ()) hP hD (⟨by rw [ho, show i.toInt.toNat = (day.toInt + 1).toNat by omega], by omega, by omega⟩)
      · skip
        have fc8 := q_nlt (a := day.toInt) (b := i.toInt) c8 rfl rfl
        refine lv_iload_n hx hb dX9_carsOut_11 rfl (lv_at hl 2 rfl) ?_
        refine lv_iload hx hb dX9_carsOut_12 (lv_at hl 0 rfl) ?_
        refine k_i (va_runS (As := [.int days, .int i]) (rest := []) ⟨hx, hb, hml, hown, hts⟩ (c_X9_isInSet l D cy days i H.size ) (va_cwS 2 hts gX9_carsOut_X9_isInSet rfl rfl rfl (by decide +kernel) ⟨Nat.le_of_ble_eq_true rfl, Nat.le_of_ble_eq_true rfl⟩) (cp_s hK hN hP hD [] rfl (by decide)) rfl rfl hl.1 rfl (lv_room (Nat.le_of_ble_eq_true rfl)) dX9_carsOut_14 ⟨Nat.le_of_ble_eq_true rfl, Nat.le_of_ble_eq_true rfl⟩) hP hD hS hA [] [] (wr := []) rfl rfl (by decide) (by decide) (fun r14 u_r14 H locs hw14 hP hD hS => ?_)
        try dsimp only at hw14
        have hP : va_P D vwCl [] H := hP
        have hD : va_D A [] := hD
        refine lv_if_eq (tgt := 34) hx hb dX9_carsOut_17 (by decide) (fun c17 => ?_) (fun c17 => ?_)
        · skip
          have fc17 := q_eq (a := r14.toInt) (b := 0) c17 rfl (by decide)
          obtain ⟨x34, ex34⟩ : ∃ y : Int32, y = i + 1 := ⟨_, rfl⟩
          refine lv_iinc (v := x34) (lv' := [(4, .int x34), (3, .int ot), (0, .int days), (1, .int day), (2, .int away)]) hx hb dX9_carsOut_34 hl (k := 0) rfl (by rw [ex34]; rfl) (by decide) rfl (fun ls hl => ?_)
          have tx34 := q_add (p := i.toInt) (q := 1) ex34 rfl (by decide) (by omega) (by omega)
          refine lv_goto (tgt := 5) hx hb dX9_carsOut_37 (by decide) ?_
          exact ih_5 x34 ot (by omega) (by omega) (by first | exact co_step hi0 tx34 ho (by omega) (by omega) (by omega) | exact co_skip hi0 tx34 ho (by omega) (by omega)) (by omega) (by omega) (by omega) H locs hP hD hS ls (lv_sub hl [0, 1, 2, 3, 4] rfl)
        · skip
          have fc17 := q_ne (a := r14.toInt) (b := 0) c17 rfl (by decide)
          refine lv_bipush (v := 24) hx hb dX9_carsOut_20 (by decide) ?_
          refine lv_iload_n hx hb dX9_carsOut_22 rfl (lv_at hl 3 rfl) ?_
          refine lv_iload hx hb dX9_carsOut_23 (lv_at hl 0 rfl) ?_
          refine lv_isub hx hb dX9_carsOut_25 ?_
          refine lv_topi (fun x25 ex25 => ?_)
          have tx25 := q_sub (p := day.toInt) (q := i.toInt) ex25 rfl rfl (by omega) (by omega)
          refine lv_imul hx hb dX9_carsOut_26 ?_
          refine lv_topi (fun x26 ex26 => ?_)
          have tx26 := q_mul (p := 24) (q := x25.toInt) ex26 (by decide) rfl (by omega) (by omega)
          refine lv_iload_n hx hb dX9_carsOut_27 rfl (lv_at hl 4 rfl) ?_
          refine lv_icmp_ge (tgt := 34) hx hb dX9_carsOut_28 (by decide) (fun c28 => ?_) (fun c28 => ?_)
          · skip
            have fc28 := q_le (a := away.toInt) (b := x26.toInt) c28 rfl rfl
            obtain ⟨x34, ex34⟩ : ∃ y : Int32, y = i + 1 := ⟨_, rfl⟩
            refine lv_iinc (v := x34) (lv' := [(4, .int x34), (3, .int ot), (0, .int days), (1, .int day), (2, .int away)]) hx hb dX9_carsOut_34 hl (k := 0) rfl (by rw [ex34]; rfl) (by decide) rfl (fun ls hl => ?_)
            have tx34 := q_add (p := i.toInt) (q := 1) ex34 rfl (by decide) (by omega) (by omega)
            refine lv_goto (tgt := 5) hx hb dX9_carsOut_37 (by decide) ?_
            exact ih_5 x34 ot (by omega) (by omega) (by first | exact co_step hi0 tx34 ho (by omega) (by omega) (by omega) | exact co_skip hi0 tx34 ho (by omega) (by omega)) (by omega) (by omega) (by omega) H locs hP hD hS ls (lv_sub hl [0, 1, 2, 3, 4] rfl)
          · skip
            have fc28 := q_nle (a := away.toInt) (b := x26.toInt) c28 rfl rfl
            obtain ⟨x31, ex31⟩ : ∃ y : Int32, y = ot + 1 := ⟨_, rfl⟩
            refine lv_iinc (v := x31) (lv' := [(3, .int x31), (4, .int i), (0, .int days), (1, .int day), (2, .int away)]) hx hb dX9_carsOut_31 hl (k := 1) rfl (by rw [ex31]; rfl) (by decide) rfl (fun ls hl => ?_)
            have tx31 := q_add (p := ot.toInt) (q := 1) ex31 rfl (by decide) (by omega) (by omega)
            obtain ⟨x34, ex34⟩ : ∃ y : Int32, y = i + 1 := ⟨_, rfl⟩
            refine lv_iinc (v := x34) (lv' := [(4, .int x34), (3, .int x31), (0, .int days), (1, .int day), (2, .int away)]) hx hb dX9_carsOut_34 hl (k := 1) rfl (by rw [ex34]; rfl) (by decide) rfl (fun ls hl => ?_)
            have tx34 := q_add (p := i.toInt) (q := 1) ex34 rfl (by decide) (by omega) (by omega)
            refine lv_goto (tgt := 5) hx hb dX9_carsOut_37 (by decide) ?_
            exact ih_5 x34 x31 (by omega) (by omega) (by first | exact co_step hi0 tx34 ho (by omega) (by omega) (by omega) | exact co_skip hi0 tx34 ho (by omega) (by omega)) (by omega) (by omega) (by omega) H locs hP hD hS ls (lv_sub hl [0, 1, 2, 3, 4] rfl)
  exact lp_5 (30 + 1) 0 0 (by decide) (by rw [show (0 : Int32).toInt = 0 by decide]; omega) rfl (by decide) (by decide) (by first | omega | exact Nat.lt_succ_self _) H locs hP hD hS ls (lv_sub hl [0, 1, 2, 3, 4] rfl)

abbrev Q_c_X9_cars (D : va_G) (cy : Nat → ClassId) (x0 : Nat) (b0 : Nat) (im : Nat) (tp : Nat) (rd : Nat) (r0 : Nat) (u0 : Nat) (t0 : Nat) (l0 : Nat) (q0 : Nat) (of : Nat) (sh : Nat) (nl : Nat) (fc : Nat) (r1 : Nat) (r2 : Nat) (g2 : Nat → Int32) (days : Int32) (rest : Int32) : (Nat → Prop) → Array Value → State → Outcome → State → Prop := QI D cy (fun (r : Int32) (_ : Unit) => (0 ≤ days.toInt ∧ 0 ≤ rest.toInt ∧ rest.toInt ≤ 48 ∧ r.toInt = moF days (2 * (1 + rest.toInt)) 30) ∨ (¬ (0 ≤ days.toInt ∧ 0 ≤ rest.toInt ∧ rest.toInt ≤ 48) ∧ r.toInt = -1)) (fun _ : Unit => [])
set_option maxHeartbeats 4000000 in
set_option maxRecDepth 100000 in
theorem c_X9_cars (l : Launch) (D : va_G) (cy : Nat → ClassId) (x0 : Nat) (b0 : Nat) (im : Nat) (tp : Nat) (rd : Nat) (r0 : Nat) (u0 : Nat) (t0 : Nat) (l0 : Nat) (q0 : Nat) (of : Nat) (sh : Nat) (nl : Nat) (fc : Nat) (r1 : Nat) (r2 : Nat) (g2 : Nat → Int32) (days : Int32) (rest : Int32) (sz : Nat) (hg2 : ∀ j : Nat, j < 9 → g2 j = 1) : Met l yX9_cars wsX9_cars ({ frames := 2, cells := 0, slots := 0, locals := 45 } : Room) (CP D cy [.ref x0, .int days, .int rest] [(x0, .inr (9, [.ref b0, .ref im, .ref tp, .ref rd])), (b0, .inr (0, [.int 0, .ref r0, .ref u0, .ref t0, .ref l0, .ref q0, .ref of, .ref sh, .ref nl, .ref fc])), (r0, .inr (4, [.int 2, .ref r1, .ref r2])), (r2, .inl (cy 0, 9, .inl g2))] sz) (Q_c_X9_cars D cy x0 b0 im tp rd r0 u0 t0 l0 q0 of sh nl fc r1 r2 g2 days rest (va_A [(x0, .inr (9, [.ref b0, .ref im, .ref tp, .ref rd])), (b0, .inr (0, [.int 0, .ref r0, .ref u0, .ref t0, .ref l0, .ref q0, .ref of, .ref sh, .ref nl, .ref fc])), (r0, .inr (4, [.int 2, .ref r1, .ref r2])), (r2, .inl (cy 0, 9, .inl g2))] sz)) 0 0 (va_A [(x0, .inr (9, [.ref b0, .ref im, .ref tp, .ref rd])), (b0, .inr (0, [.int 0, .ref r0, .ref u0, .ref t0, .ref l0, .ref q0, .ref of, .ref sh, .ref nl, .ref fc])), (r0, .inr (4, [.int 2, .ref r1, .ref r2])), (r2, .inl (cy 0, 9, .inl g2))] sz) := by
  refine Met.go (Qc := Q_c_X9_cars D cy x0 b0 im tp rd r0 u0 t0 l0 q0 of sh nl fc r1 r2 g2 days rest) (cc := cX9_cars) (maxL := 6) (ret := (some .int)) (by decide) rfl (Nat.le_of_ble_eq_true rfl) ?_
  intro p e s m below meth c hx hb hr hts hown hlocks hin hml hK hN A hA hD hP hS ls hl hsz
  have hl : lv_has ls 6 [(0, .ref x0), (1, .int days), (2, .int rest)] := hl
  have in_X9 : ∀ w ∈ wsX90, w ∈ wsX9_cars := fun _ h => List.mem_cons_of_mem _ (List.mem_append_left _ (List.mem_append_left _ ((List.mem_append_right _ h))))
  have w_1 := hts (.fieldLink RX9 10 "SleepingCars" "book" "LSleepingCars$Book;") (by decide +kernel)
  have in_X0 : ∀ w ∈ wsX00, w ∈ wsX9_cars := fun _ h => List.mem_cons_of_mem _ (List.mem_append_left _ ((List.mem_append_right _ h)))
  have w_3 := hts (.fieldLink RX9 44 "SleepingCars$Book" "route" "LSleepingCars$Route;") (by decide +kernel)
  have w_4 := hts (.instanceMethod yX4_allHours) (by decide +kernel)
  have w_5 := hts (.methodLink RX9 244 Lib.Math.max.name) (by decide +kernel)
  have w_6 := hts (.static Lib.Math.max.name) (by decide +kernel)
  have w_7 := hts (.initialized "java/lang/Math") (by decide +kernel)
  have w_8 := hts (.code Lib.Math.max.name Lib.Math.max.code 2 (some .int)) (by decide +kernel)
  obtain ⟨H, eH⟩ : ∃ H : Heap, H = s.heap := ⟨_, rfl⟩
  obtain ⟨locs, eL⟩ : ∃ L : List Loc, L = [] := ⟨_, rfl⟩
  rw [← eL]
  rw [← eL] at hS
  have hP : va_P D vwCl [(x0, .inr (9, [.ref b0, .ref im, .ref tp, .ref rd])), (b0, .inr (0, [.int 0, .ref r0, .ref u0, .ref t0, .ref l0, .ref q0, .ref of, .ref sh, .ref nl, .ref fc])), (r0, .inr (4, [.int 2, .ref r1, .ref r2])), (r2, .inl (cy 0, 9, .inl g2))] H := by rw [eH]; exact hP
  have hS : va_S A s.heap H locs := by rw [eH]; exact hS
  refine W.heapEq eH ?_
  clear eH eL
  refine lv_iload_n hx hb dX9_cars_0 rfl (lv_at hl 1 rfl) ?_
  refine lv_if_lt (tgt := 14) hx hb dX9_cars_1 (by decide) (fun c1 => ?_) (fun c1 => ?_)
  · skip
    have fc1 := q_lt (a := days.toInt) (b := 0) c1 rfl (by decide)
    refine lv_iconst (v := (-1)) hx hb dX9_cars_14 (by decide) ?_
    exact r_i hx hb hr hlocks hK hS dX9_cars_15 (u := ()) (hP.sub (ws' := []) [] rfl) (hD.sub (ws' := []) [] (by decide) rfl) (by first | exact Or.inl ⟨by omega, by omega, by omega, by rw [hm, show d.toInt.toNat = 30 by omega, tx29, tx28, hr24]⟩ | exact Or.inr ⟨by omega, by decide⟩)
  · skip
    have fc1 := q_nlt (a := days.toInt) (b := 0) c1 rfl (by decide)
    refine lv_iload_n hx hb dX9_cars_4 rfl (lv_at hl 2 rfl) ?_
    refine lv_if_lt (tgt := 14) hx hb dX9_cars_5 (by decide) (fun c5 => ?_) (fun c5 => ?_)
    · skip
      have fc5 := q_lt (a := rest.toInt) (b := 0) c5 rfl (by decide)
      refine lv_iconst (v := (-1)) hx hb dX9_cars_14 (by decide) ?_
      exact r_i hx hb hr hlocks hK hS dX9_cars_15 (u := ()) (hP.sub (ws' := []) [] rfl) (hD.sub (ws' := []) [] (by decide) rfl) (by first | exact Or.inl ⟨by omega, by omega, by omega, by rw [hm, show d.toInt.toNat = 30 by omega, tx29, tx28, hr24]⟩ | exact Or.inr ⟨by omega, by decide⟩)
    · skip
      have fc5 := q_nlt (a := rest.toInt) (b := 0) c5 rfl (by decide)
      refine lv_iload_n hx hb dX9_cars_8 rfl (lv_at hl 2 rfl) ?_
      refine lv_bipush (v := 48) hx hb dX9_cars_9 (by decide) ?_
      refine lv_icmp_le (tgt := 16) hx hb dX9_cars_11 (by decide) (fun c11 => ?_) (fun c11 => ?_)
      · skip
        have fc11 := q_le (a := rest.toInt) (b := 48) c11 rfl (by decide)
        refine lv_iconst (v := 2) hx hb dX9_cars_16 (by decide) ?_
        refine lv_aload_n hx hb dX9_cars_17 rfl (lv_at hl 0 rfl) ?_
        refine va_get (D := D) (ci := 9) (v := .ref b0) (C := RX9) (T := TX9) (N := 4) hx hb hts in_X9 hown hK hP 0 rfl rfl 0 (by decide) w_1 (fun _ h9 => h9) rfl dX9_cars_18 ?_
        refine va_get (D := D) (ci := 0) (v := .ref r0) (C := RX0) (T := TX0) (N := 10) hx hb hts in_X0 hown hK hP 1 rfl rfl 1 (by decide) w_3 (fun _ h9 => h9) rfl dX9_cars_21 ?_
        refine k_i (va_runV (As := []) (rest := [.int 2]) ⟨hx, hb, hml, hown, hts⟩ (c_X4_allHours l D cy r0 r1 r2 2 g2 H.size (by decide)) (cwV 0 hts gX9_cars_X4_allHours rfl rfl rfl (by decide +kernel) ⟨Nat.le_of_ble_eq_true rfl, Nat.le_of_ble_eq_true rfl⟩) (cp_v hK hN hP hD [2, 3] rfl (by decide) (ci := 4) rfl rfl rfl) rfl rfl hl.1 rfl (lv_room (Nat.le_of_ble_eq_true rfl)) dX9_cars_24 ⟨Nat.le_of_ble_eq_true rfl, Nat.le_of_ble_eq_true rfl⟩) hP hD hS hA [2, 3] [0, 1] (wr := [(x0, .inr (9, [.ref b0, .ref im, .ref tp, .ref rd])), (b0, .inr (0, [.int 0, .ref r0, .ref u0, .ref t0, .ref l0, .ref q0, .ref of, .ref sh, .ref nl, .ref fc]))]) rfl rfl (by decide) (by decide) (fun r24 u_r24 H locs hw24 hP hD hS => ?_)
        try dsimp only at hw24
        have hP : va_P D vwCl [(x0, .inr (9, [.ref b0, .ref im, .ref tp, .ref rd])), (b0, .inr (0, [.int 0, .ref r0, .ref u0, .ref t0, .ref l0, .ref q0, .ref of, .ref sh, .ref nl, .ref fc])), (r0, .inr (4, [.int 2, .ref r1, .ref r2])), (r2, .inl (cy 0, 9, .inl g2))] H := hP
        have hD : va_D A [(x0, .inr (9, [.ref b0, .ref im, .ref tp, .ref rd])), (b0, .inr (0, [.int 0, .ref r0, .ref u0, .ref t0, .ref l0, .ref q0, .ref of, .ref sh, .ref nl, .ref fc])), (r0, .inr (4, [.int 2, .ref r1, .ref r2])), (r2, .inl (cy 0, 9, .inl g2))] := hD
        have hr24 : r24.toInt = 1 := by rw [hw24, show min ((2 : Int32).toInt - 1).toNat 9 = 1 by decide]; exact sum_one hg2
        refine lv_iload_n hx hb dX9_cars_27 rfl (lv_at hl 2 rfl) ?_
        refine lv_iadd hx hb dX9_cars_28 ?_
        refine lv_topi (fun x28 ex28 => ?_)
        have tx28 := q_add (p := r24.toInt) (q := rest.toInt) ex28 rfl rfl (by omega) (by omega)
        refine lv_imul hx hb dX9_cars_29 ?_
        refine lv_topi (fun x29 ex29 => ?_)
        have tx29 := q_mul (p := 2) (q := x28.toInt) ex29 (by decide) rfl (by omega) (by omega)
        refine lv_istore_n (lv' := [(3, .int x29), (0, .ref x0), (1, .int days), (2, .int rest)]) hx hb dX9_cars_30 rfl hl (by decide) rfl (fun ls hl => ?_)
        refine lv_iconst (v := 0) hx hb dX9_cars_31 (by decide) ?_
        refine lv_istore (lv' := [(4, .int 0), (3, .int x29), (0, .ref x0), (1, .int days), (2, .int rest)]) hx hb dX9_cars_32 hl (by decide) rfl (fun ls hl => ?_)
        refine lv_iconst (v := 0) hx hb dX9_cars_34 (by decide) ?_
        refine lv_istore (lv' := [(5, .int 0), (4, .int 0), (3, .int x29), (0, .ref x0), (1, .int days), (2, .int rest)]) hx hb dX9_cars_35 hl (by decide) rfl (fun ls hl => ?_)
        have lp_37 : ∀ (n_37 : Nat) (d : Int32) (mo : Int32), (0 ≤ d.toInt) → (d.toInt ≤ 30) → (mo.toInt = moF days x29.toInt d.toInt.toNat) → (30 - d.toInt).toNat < n_37 → ∀ (H : Heap) (locs : List Loc), va_P D vwCl [(x0, .inr (9, [.ref b0, .ref im, .ref tp, .ref rd])), (b0, .inr (0, [.int 0, .ref r0, .ref u0, .ref t0, .ref l0, .ref q0, .ref of, .ref sh, .ref nl, .ref fc])), (r0, .inr (4, [.int 2, .ref r1, .ref r2])), (r2, .inl (cy 0, 9, .inl g2))] H → va_D A [(x0, .inr (9, [.ref b0, .ref im, .ref tp, .ref rd])), (b0, .inr (0, [.int 0, .ref r0, .ref u0, .ref t0, .ref l0, .ref q0, .ref of, .ref sh, .ref nl, .ref fc])), (r0, .inr (4, [.int 2, .ref r1, .ref r2])), (r2, .inl (cy 0, 9, .inl g2))] → va_S A s.heap H locs → ∀ ls : Array Slot, lv_has ls 6 [(5, .int d), (4, .int mo), (3, .int x29), (0, .ref x0), (1, .int days), (2, .int rest)] → W p l e (headSpec wsX9_cars ({ frames := 2, cells := 0, slots := 0, locals := 45 } : Room)).room s m ([.ref x0, .int days, .int rest] : List Value).toArray below meth c H locs 0 0 (MQ below (Q_c_X9_cars D cy x0 b0 im tp rd r0 u0 t0 l0 q0 of sh nl fc r1 r2 g2 days rest A) ([.ref x0, .int days, .int rest] : List Value).toArray s 0 0 A) (F0 m 37 ls []) := by
          intro n_37
          induction n_37 with
          | zero => intro d mo hi0 hi1 hm hmu; exact absurd hmu (Nat.not_lt_zero _)
          | succ n_37 ih_37 =>
            intro d mo hi0 hi1 hm hmu_37 H locs hP hD hS ls hl
            refine lv_iload hx hb dX9_cars_37 (lv_at hl 0 rfl) ?_
            refine lv_bipush (v := 30) hx hb dX9_cars_39 (by decide) ?_
            refine lv_icmp_ge (tgt := 73) hx hb dX9_cars_41 (by decide) (fun c41 => ?_) (fun c41 => ?_)
            · skip
              have fc41 := q_le (a := 30) (b := d.toInt) c41 (by decide) rfl
              refine lv_iload hx hb dX9_cars_73 (lv_at hl 1 rfl) ?_
              exact r_i hx hb hr hlocks hK hS dX9_cars_75 (u := ()) (hP.sub (ws' := []) [] rfl) (hD.sub (ws' := []) [] (by decide) rfl) (by first | exact Or.inl ⟨by omega, by omega, by omega, by rw [hm, show d.toInt.toNat = 30 by omega, tx29, tx28, hr24]⟩ | exact Or.inr ⟨by omega, by decide⟩)
            · skip
              have fc41 := q_nle (a := 30) (b := d.toInt) c41 (by decide) rfl
              refine lv_iload_n hx hb dX9_cars_44 rfl (lv_at hl 4 rfl) ?_
              refine lv_iload hx hb dX9_cars_45 (lv_at hl 0 rfl) ?_
              refine k_i (va_runS (As := [.int days, .int d]) (rest := []) ⟨hx, hb, hml, hown, hts⟩ (c_X9_isInSet l D cy days d H.size ) (va_cwS 2 hts gX9_cars_X9_isInSet rfl rfl rfl (by decide +kernel) ⟨Nat.le_of_ble_eq_true rfl, Nat.le_of_ble_eq_true rfl⟩) (cp_s hK hN hP hD [] rfl (by decide)) rfl rfl hl.1 rfl (lv_room (Nat.le_of_ble_eq_true rfl)) dX9_cars_47 ⟨Nat.le_of_ble_eq_true rfl, Nat.le_of_ble_eq_true rfl⟩) hP hD hS hA [] [0, 1, 2, 3] (wr := [(x0, .inr (9, [.ref b0, .ref im, .ref tp, .ref rd])), (b0, .inr (0, [.int 0, .ref r0, .ref u0, .ref t0, .ref l0, .ref q0, .ref of, .ref sh, .ref nl, .ref fc])), (r0, .inr (4, [.int 2, .ref r1, .ref r2])), (r2, .inl (cy 0, 9, .inl g2))]) rfl rfl (by decide) (by decide) (fun r47 u_r47 H locs hw47 hP hD hS => ?_)
              try dsimp only at hw47
              have hP : va_P D vwCl [(x0, .inr (9, [.ref b0, .ref im, .ref tp, .ref rd])), (b0, .inr (0, [.int 0, .ref r0, .ref u0, .ref t0, .ref l0, .ref q0, .ref of, .ref sh, .ref nl, .ref fc])), (r0, .inr (4, [.int 2, .ref r1, .ref r2])), (r2, .inl (cy 0, 9, .inl g2))] H := hP
              have hD : va_D A [(x0, .inr (9, [.ref b0, .ref im, .ref tp, .ref rd])), (b0, .inr (0, [.int 0, .ref r0, .ref u0, .ref t0, .ref l0, .ref q0, .ref of, .ref sh, .ref nl, .ref fc])), (r0, .inr (4, [.int 2, .ref r1, .ref r2])), (r2, .inl (cy 0, 9, .inl g2))] := hD
              refine lv_if_eq (tgt := 67) hx hb dX9_cars_50 (by decide) (fun c50 => ?_) (fun c50 => ?_)
              · skip
                have fc50 := q_eq (a := r47.toInt) (b := 0) c50 rfl (by decide)
                obtain ⟨x67, ex67⟩ : ∃ y : Int32, y = d + 1 := ⟨_, rfl⟩
                refine lv_iinc (v := x67) (lv' := [(5, .int x67), (4, .int mo), (3, .int x29), (0, .ref x0), (1, .int days), (2, .int rest)]) hx hb dX9_cars_67 hl (k := 0) rfl (by rw [ex67]; rfl) (by decide) rfl (fun ls hl => ?_)
                have tx67 := q_add (p := d.toInt) (q := 1) ex67 rfl (by decide) (by omega) (by omega)
                refine lv_goto (tgt := 37) hx hb dX9_cars_70 (by decide) ?_
                exact ih_37 x67 mo (by omega) (by omega) (by first | exact mo_step hi0 tx67 hm (by omega) hw59.1 tx62 | exact mo_skip hi0 tx67 hm (by omega)) (by omega) H locs hP hD hS ls (lv_sub hl [0, 1, 2, 3, 4, 5] rfl)
              · skip
                have fc50 := q_ne (a := r47.toInt) (b := 0) c50 rfl (by decide)
                refine lv_iload hx hb dX9_cars_53 (lv_at hl 1 rfl) ?_
                refine lv_iload_n hx hb dX9_cars_55 rfl (lv_at hl 4 rfl) ?_
                refine lv_iload hx hb dX9_cars_56 (lv_at hl 0 rfl) ?_
                refine lv_iload_n hx hb dX9_cars_58 rfl (lv_at hl 2 rfl) ?_
                refine k_i (va_runS (As := [.int days, .int d, .int x29]) (rest := [.int mo]) ⟨hx, hb, hml, hown, hts⟩ (c_X9_carsOut l D cy days d x29 H.size (by omega)) (va_cwS 3 hts gX9_cars_X9_carsOut rfl rfl rfl (by decide +kernel) ⟨Nat.le_of_ble_eq_true rfl, Nat.le_of_ble_eq_true rfl⟩) (cp_s hK hN hP hD [] rfl (by decide)) rfl rfl hl.1 rfl (lv_room (Nat.le_of_ble_eq_true rfl)) dX9_cars_59 ⟨Nat.le_of_ble_eq_true rfl, Nat.le_of_ble_eq_true rfl⟩) hP hD hS hA [] [0, 1, 2, 3] (wr := [(x0, .inr (9, [.ref b0, .ref im, .ref tp, .ref rd])), (b0, .inr (0, [.int 0, .ref r0, .ref u0, .ref t0, .ref l0, .ref q0, .ref of, .ref sh, .ref nl, .ref fc])), (r0, .inr (4, [.int 2, .ref r1, .ref r2])), (r2, .inl (cy 0, 9, .inl g2))]) rfl rfl (by decide) (by decide) (fun r59 u_r59 H locs hw59 hP hD hS => ?_)
                try dsimp only at hw59
                have hP : va_P D vwCl [(x0, .inr (9, [.ref b0, .ref im, .ref tp, .ref rd])), (b0, .inr (0, [.int 0, .ref r0, .ref u0, .ref t0, .ref l0, .ref q0, .ref of, .ref sh, .ref nl, .ref fc])), (r0, .inr (4, [.int 2, .ref r1, .ref r2])), (r2, .inl (cy 0, 9, .inl g2))] H := hP
                have hD : va_D A [(x0, .inr (9, [.ref b0, .ref im, .ref tp, .ref rd])), (b0, .inr (0, [.int 0, .ref r0, .ref u0, .ref t0, .ref l0, .ref q0, .ref of, .ref sh, .ref nl, .ref fc])), (r0, .inr (4, [.int 2, .ref r1, .ref r2])), (r2, .inl (cy 0, 9, .inl g2))] := hD
                refine va_mmax hx hb (hml.trans hl.1.symm) hown w_5 w_6 w_7 w_8 (Nat.le_of_ble_eq_true rfl) (Nat.le_of_ble_eq_true rfl) (Nat.le_of_ble_eq_true rfl) (Nat.le_of_ble_eq_true rfl) dX9_cars_62 ?_
                refine lv_topi (fun x62 ex62 => ?_)
                have tx62 := q_max ex62
                refine lv_istore (lv' := [(4, .int x62), (5, .int d), (3, .int x29), (0, .ref x0), (1, .int days), (2, .int rest)]) hx hb dX9_cars_65 hl (by decide) rfl (fun ls hl => ?_)
                obtain ⟨x67, ex67⟩ : ∃ y : Int32, y = d + 1 := ⟨_, rfl⟩
                refine lv_iinc (v := x67) (lv' := [(5, .int x67), (4, .int x62), (3, .int x29), (0, .ref x0), (1, .int days), (2, .int rest)]) hx hb dX9_cars_67 hl (k := 1) rfl (by rw [ex67]; rfl) (by decide) rfl (fun ls hl => ?_)
                have tx67 := q_add (p := d.toInt) (q := 1) ex67 rfl (by decide) (by omega) (by omega)
                refine lv_goto (tgt := 37) hx hb dX9_cars_70 (by decide) ?_
                exact ih_37 x67 x62 (by omega) (by omega) (by first | exact mo_step hi0 tx67 hm (by omega) hw59.1 tx62 | exact mo_skip hi0 tx67 hm (by omega)) (by omega) H locs hP hD hS ls (lv_sub hl [0, 1, 2, 3, 4, 5] rfl)
        exact lp_37 (30 + 1) 0 0 (by decide) (by decide) rfl (by first | omega | exact Nat.lt_succ_self _) H locs hP hD hS ls (lv_sub hl [0, 1, 2, 3, 4, 5] rfl)
      · skip
        have fc11 := q_nle (a := rest.toInt) (b := 48) c11 rfl (by decide)
        refine lv_iconst (v := (-1)) hx hb dX9_cars_14 (by decide) ?_
        exact r_i hx hb hr hlocks hK hS dX9_cars_15 (u := ()) (hP.sub (ws' := []) [] rfl) (hD.sub (ws' := []) [] (by decide) rfl) (by first | exact Or.inl ⟨by omega, by omega, by omega, by rw [hm, show d.toInt.toNat = 30 by omega, tx29, tx28, hr24]⟩ | exact Or.inr ⟨by omega, by decide⟩)
