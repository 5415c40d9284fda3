abbrev Q_c_X7_has (D : va_G) (cy : Nat → ClassId) (E : EN) (t0 : Nat) (t1 : Nat) (t2 : Nat) (t3 : Nat) (t4 : Nat) (t5 : Nat) (t6 : Nat) (zt : Int32) (t : Int32) : (Nat → Prop) → Array Value → State → Outcome → State → Prop := QI D cy (fun (r : Int32) (_ : Unit) => (r.toInt = 1 ∧ (0 ≤ t.toInt ∧ t.toInt < zt.toInt)) ∨ (r.toInt = 0 ∧ ¬ (0 ≤ t.toInt ∧ t.toInt < zt.toInt))) (fun _ : Unit => [Prod.mk t0 (Sum.inr (Prod.mk 7 [Value.int zt, Value.ref t1, Value.ref t2, Value.ref t3, Value.ref t4, Value.ref t5, Value.ref t6]))])
set_option maxHeartbeats 4000000 in
set_option maxRecDepth 100000 in
theorem c_X7_has (l : Launch) (D : va_G) (cy : Nat → ClassId) (E : EN) (t0 : Nat) (t1 : Nat) (t2 : Nat) (t3 : Nat) (t4 : Nat) (t5 : Nat) (t6 : Nat) (zt : Int32) (t : Int32) (sz : Nat)  : Met l yX7_has wsX7_has ({ frames := 0, cells := 0, slots := 0, locals := 0 } : Room) (CP D cy E [.ref t0, .int t] [Prod.mk t0 (Sum.inr (Prod.mk 7 [Value.int zt, Value.ref t1, Value.ref t2, Value.ref t3, Value.ref t4, Value.ref t5, Value.ref t6]))] sz) (Q_c_X7_has D cy E t0 t1 t2 t3 t4 t5 t6 zt t (va_A [Prod.mk t0 (Sum.inr (Prod.mk 7 [Value.int zt, Value.ref t1, Value.ref t2, Value.ref t3, Value.ref t4, Value.ref t5, Value.ref t6]))] sz)) 0 0 (va_A [Prod.mk t0 (Sum.inr (Prod.mk 7 [Value.int zt, Value.ref t1, Value.ref t2, Value.ref t3, Value.ref t4, Value.ref t5, Value.ref t6]))] sz) := by
  refine Met.go (Qc := Q_c_X7_has D cy E t0 t1 t2 t3 t4 t5 t6 zt t) (cc := cX7_has) (maxL := 2) (ret := (some .boolean)) (by decide) rfl (Nat.le_of_ble_eq_true rfl) ?_
  intro p e s m below meth c hx hb hr hts hown hlocks hin hml hK hN A hA hAB hD hP hS ls hl hsz
  have hl : lv_has ls 2 [(0, .ref t0), (1, .int t)] := hl
  have in_X7 : ∀ w ∈ wsX70, w ∈ wsX7_has := fun _ h => List.mem_cons_of_mem _ ((List.mem_append_right _ h))
  have w_1 := hts (.fieldLink RX7 30 "SleepingCars$Tickets" "size" "I") (by decide +kernel)
  obtain ⟨H, eH⟩ : ∃ H : Heap, H = s.heap := ⟨_, rfl⟩
  obtain ⟨locs, eL⟩ : ∃ L : List Loc, L = [] := ⟨_, rfl⟩
  rw [← eL]
  rw [← eL] at hS
  have hP : va_P D vwCl [Prod.mk t0 (Sum.inr (Prod.mk 7 [Value.int zt, Value.ref t1, Value.ref t2, Value.ref t3, Value.ref t4, Value.ref t5, Value.ref t6]))] H := by rw [eH]; exact hP
  have hS : va_S A s.heap H locs := by rw [eH]; exact hS
  refine W.heapEq eH ?_
  clear eH eL
  refine lv_iload_n hx hb dX7_has_0 rfl (lv_at hl 1 rfl) ?_
  refine lv_if_lt (tgt := 16) hx hb dX7_has_1 (by decide) (fun c1 => ?_) (fun c1 => ?_)
  · skip
    have fc1 := q_lt (a := t.toInt) (b := 0) c1 rfl (by decide)
    refine lv_iconst (v := 0) hx hb dX7_has_16 (by decide) ?_
    exact r_z hx hb hr hlocks hK hS dX7_has_17 (by decide) (u := ()) hP hD (by first | exact Or.inl ⟨by decide, by omega⟩ | exact Or.inr ⟨by decide, by omega⟩)
  · skip
    have fc1 := q_nlt (a := t.toInt) (b := 0) c1 rfl (by decide)
    refine lv_iload_n hx hb dX7_has_4 rfl (lv_at hl 1 rfl) ?_
    refine lv_aload_n hx hb dX7_has_5 rfl (lv_at hl 0 rfl) ?_
    refine va_get (D := D) (ci := 7) (v := .int zt) (C := RX7) (T := TX7) (N := 7) hx hb hts in_X7 hown hK hP 0 rfl rfl 0 (by decide) w_1 (fun _ h9 => h9) rfl dX7_has_6 ?_
    refine lv_icmp_ge (tgt := 16) hx hb dX7_has_9 (by decide) (fun c9 => ?_) (fun c9 => ?_)
    · skip
      have fc9 := q_le (a := zt.toInt) (b := t.toInt) c9 rfl rfl
      refine lv_iconst (v := 0) hx hb dX7_has_16 (by decide) ?_
      exact r_z hx hb hr hlocks hK hS dX7_has_17 (by decide) (u := ()) hP hD (by first | exact Or.inl ⟨by decide, by omega⟩ | exact Or.inr ⟨by decide, by omega⟩)
    · skip
      have fc9 := q_nle (a := zt.toInt) (b := t.toInt) c9 rfl rfl
      refine lv_iconst (v := 1) hx hb dX7_has_12 (by decide) ?_
      refine lv_goto (tgt := 17) hx hb dX7_has_13 (by decide) ?_
      exact r_z hx hb hr hlocks hK hS dX7_has_17 (by decide) (u := ()) hP hD (by first | exact Or.inl ⟨by decide, by omega⟩ | exact Or.inr ⟨by decide, by omega⟩)

abbrev Q_c_X7_isFull (D : va_G) (cy : Nat → ClassId) (E : EN) (t0 : Nat) (t1 : Nat) (t2 : Nat) (t3 : Nat) (t4 : Nat) (t5 : Nat) (t6 : Nat) (zt : Int32) : (Nat → Prop) → Array Value → State → Outcome → State → Prop := QI D cy (fun (r : Int32) (_ : Unit) => (r.toInt = 1 ∧ (300 ≤ zt.toInt)) ∨ (r.toInt = 0 ∧ ¬ (300 ≤ zt.toInt))) (fun _ : Unit => [Prod.mk t0 (Sum.inr (Prod.mk 7 [Value.int zt, Value.ref t1, Value.ref t2, Value.ref t3, Value.ref t4, Value.ref t5, Value.ref t6]))])
set_option maxHeartbeats 4000000 in
set_option maxRecDepth 100000 in
theorem c_X7_isFull (l : Launch) (D : va_G) (cy : Nat → ClassId) (E : EN) (t0 : Nat) (t1 : Nat) (t2 : Nat) (t3 : Nat) (t4 : Nat) (t5 : Nat) (t6 : Nat) (zt : Int32) (sz : Nat)  : Met l yX7_isFull wsX7_isFull ({ frames := 0, cells := 0, slots := 0, locals := 0 } : Room) (CP D cy E [.ref t0] [Prod.mk t0 (Sum.inr (Prod.mk 7 [Value.int zt, Value.ref t1, Value.ref t2, Value.ref t3, Value.ref t4, Value.ref t5, Value.ref t6]))] sz) (Q_c_X7_isFull D cy E t0 t1 t2 t3 t4 t5 t6 zt (va_A [Prod.mk t0 (Sum.inr (Prod.mk 7 [Value.int zt, Value.ref t1, Value.ref t2, Value.ref t3, Value.ref t4, Value.ref t5, Value.ref t6]))] sz)) 0 0 (va_A [Prod.mk t0 (Sum.inr (Prod.mk 7 [Value.int zt, Value.ref t1, Value.ref t2, Value.ref t3, Value.ref t4, Value.ref t5, Value.ref t6]))] sz) := by
  refine Met.go (Qc := Q_c_X7_isFull D cy E t0 t1 t2 t3 t4 t5 t6 zt) (cc := cX7_isFull) (maxL := 1) (ret := (some .boolean)) (by decide) rfl (Nat.le_of_ble_eq_true rfl) ?_
  intro p e s m below meth c hx hb hr hts hown hlocks hin hml hK hN A hA hAB hD hP hS ls hl hsz
  have hl : lv_has ls 1 [(0, .ref t0)] := hl
  have in_X7 : ∀ w ∈ wsX70, w ∈ wsX7_isFull := fun _ h => List.mem_cons_of_mem _ ((List.mem_append_right _ h))
  have w_1 := hts (.fieldLink RX7 30 "SleepingCars$Tickets" "size" "I") (by decide +kernel)
  obtain ⟨H, eH⟩ : ∃ H : Heap, H = s.heap := ⟨_, rfl⟩
  obtain ⟨locs, eL⟩ : ∃ L : List Loc, L = [] := ⟨_, rfl⟩
  rw [← eL]
  rw [← eL] at hS
  have hP : va_P D vwCl [Prod.mk t0 (Sum.inr (Prod.mk 7 [Value.int zt, Value.ref t1, Value.ref t2, Value.ref t3, Value.ref t4, Value.ref t5, Value.ref t6]))] H := by rw [eH]; exact hP
  have hS : va_S A s.heap H locs := by rw [eH]; exact hS
  refine W.heapEq eH ?_
  clear eH eL
  refine lv_aload_n hx hb dX7_isFull_0 rfl (lv_at hl 0 rfl) ?_
  refine va_get (D := D) (ci := 7) (v := .int zt) (C := RX7) (T := TX7) (N := 7) hx hb hts in_X7 hown hK hP 0 rfl rfl 0 (by decide) w_1 (fun _ h9 => h9) rfl dX7_isFull_1 ?_
  refine lv_sipush (v := 300) hx hb dX7_isFull_4 (by decide) ?_
  refine lv_icmp_lt (tgt := 14) hx hb dX7_isFull_7 (by decide) (fun c7 => ?_) (fun c7 => ?_)
  · skip
    have fc7 := q_lt (a := zt.toInt) (b := 300) c7 rfl (by decide)
    refine lv_iconst (v := 0) hx hb dX7_isFull_14 (by decide) ?_
    exact r_z hx hb hr hlocks hK hS dX7_isFull_15 (by decide) (u := ()) hP hD (by first | exact Or.inl ⟨by decide, by omega⟩ | exact Or.inr ⟨by decide, by omega⟩)
  · skip
    have fc7 := q_nlt (a := zt.toInt) (b := 300) c7 rfl (by decide)
    refine lv_iconst (v := 1) hx hb dX7_isFull_10 (by decide) ?_
    refine lv_goto (tgt := 15) hx hb dX7_isFull_11 (by decide) ?_
    exact r_z hx hb hr hlocks hK hS dX7_isFull_15 (by decide) (u := ()) hP hD (by first | exact Or.inl ⟨by decide, by omega⟩ | exact Or.inr ⟨by decide, by omega⟩)

abbrev Q_c_X7_add (D : va_G) (cy : Nat → ClassId) (E : EN) (t0 : Nat) (t1 : Nat) (t2 : Nat) (t3 : Nat) (t4 : Nat) (t5 : Nat) (t6 : Nat) (zt : Int32) (fda : Nat → Int32) (fbt : Nat → Int32) (ffr : Nat → Int32) (fto : Nat → Int32) (foc : Nat → Int32) (fgi : Nat → Int32) (o : Int32) (day : Int32) (berth : Int32) (a : Int32) (b : Int32) : (Nat → Prop) → Array Value → State → Outcome → State → Prop := QI D cy (fun (r : Int32) (u : Int32 × (Nat → Int32) × (Nat → Int32) × (Nat → Int32) × (Nat → Int32) × (Nat → Int32) × (Nat → Int32)) => match u with | (zz, gda, gbt, gfr, gto, goc, ggi) => (0 ≤ zz.toInt ∧ zz.toInt ≤ 300) ∧ AllI gda 300 0 59 ∧ AllI gbt 300 0 9) (fun u : Int32 × (Nat → Int32) × (Nat → Int32) × (Nat → Int32) × (Nat → Int32) × (Nat → Int32) × (Nat → Int32) => match u with | (zz, gda, gbt, gfr, gto, goc, ggi) => [Prod.mk t0 (Sum.inr (Prod.mk 7 [Value.int zz, Value.ref t1, Value.ref t2, Value.ref t3, Value.ref t4, Value.ref t5, Value.ref t6])), Prod.mk t1 (Sum.inl (Prod.mk (cy 0) (Prod.mk 300 (Sum.inl gda)))), Prod.mk t2 (Sum.inl (Prod.mk (cy 0) (Prod.mk 300 (Sum.inl gbt)))), Prod.mk t3 (Sum.inl (Prod.mk (cy 0) (Prod.mk 300 (Sum.inl gfr)))), Prod.mk t4 (Sum.inl (Prod.mk (cy 0) (Prod.mk 300 (Sum.inl gto)))), Prod.mk t5 (Sum.inl (Prod.mk (cy 0) (Prod.mk 300 (Sum.inl goc)))), Prod.mk t6 (Sum.inl (Prod.mk (cy 0) (Prod.mk 300 (Sum.inl ggi))))])
set_option maxHeartbeats 4000000 in
set_option maxRecDepth 100000 in
theorem c_X7_add (l : Launch) (D : va_G) (cy : Nat → ClassId) (E : EN) (t0 : Nat) (t1 : Nat) (t2 : Nat) (t3 : Nat) (t4 : Nat) (t5 : Nat) (t6 : Nat) (zt : Int32) (fda : Nat → Int32) (fbt : Nat → Int32) (ffr : Nat → Int32) (fto : Nat → Int32) (foc : Nat → Int32) (fgi : Nat → Int32) (o : Int32) (day : Int32) (berth : Int32) (a : Int32) (b : Int32) (sz : Nat) (hzt : 0 ≤ zt.toInt ∧ zt.toInt ≤ 300) (hday : 0 ≤ day.toInt ∧ day.toInt < 60) (hber : 0 ≤ berth.toInt ∧ berth.toInt < 10) (hv_fda : AllI fda 300 0 59) (hv_fbt : AllI fbt 300 0 9) : Met l yX7_add wsX7_add ({ frames := 1, cells := 0, slots := 0, locals := 20 } : Room) (CP D cy E [.ref t0, .int o, .int day, .int berth, .int a, .int b] [Prod.mk t0 (Sum.inr (Prod.mk 7 [Value.int zt, Value.ref t1, Value.ref t2, Value.ref t3, Value.ref t4, Value.ref t5, Value.ref t6])), Prod.mk t1 (Sum.inl (Prod.mk (cy 0) (Prod.mk 300 (Sum.inl fda)))), Prod.mk t2 (Sum.inl (Prod.mk (cy 0) (Prod.mk 300 (Sum.inl fbt)))), Prod.mk t3 (Sum.inl (Prod.mk (cy 0) (Prod.mk 300 (Sum.inl ffr)))), Prod.mk t4 (Sum.inl (Prod.mk (cy 0) (Prod.mk 300 (Sum.inl fto)))), Prod.mk t5 (Sum.inl (Prod.mk (cy 0) (Prod.mk 300 (Sum.inl foc)))), Prod.mk t6 (Sum.inl (Prod.mk (cy 0) (Prod.mk 300 (Sum.inl fgi))))] sz) (Q_c_X7_add D cy E t0 t1 t2 t3 t4 t5 t6 zt fda fbt ffr fto foc fgi o day berth a b (va_A [Prod.mk t0 (Sum.inr (Prod.mk 7 [Value.int zt, Value.ref t1, Value.ref t2, Value.ref t3, Value.ref t4, Value.ref t5, Value.ref t6])), Prod.mk t1 (Sum.inl (Prod.mk (cy 0) (Prod.mk 300 (Sum.inl fda)))), Prod.mk t2 (Sum.inl (Prod.mk (cy 0) (Prod.mk 300 (Sum.inl fbt)))), Prod.mk t3 (Sum.inl (Prod.mk (cy 0) (Prod.mk 300 (Sum.inl ffr)))), Prod.mk t4 (Sum.inl (Prod.mk (cy 0) (Prod.mk 300 (Sum.inl fto)))), Prod.mk t5 (Sum.inl (Prod.mk (cy 0) (Prod.mk 300 (Sum.inl foc)))), Prod.mk t6 (Sum.inl (Prod.mk (cy 0) (Prod.mk 300 (Sum.inl fgi))))] sz)) 0 0 (va_A [Prod.mk t0 (Sum.inr (Prod.mk 7 [Value.int zt, Value.ref t1, Value.ref t2, Value.ref t3, Value.ref t4, Value.ref t5, Value.ref t6])), Prod.mk t1 (Sum.inl (Prod.mk (cy 0) (Prod.mk 300 (Sum.inl fda)))), Prod.mk t2 (Sum.inl (Prod.mk (cy 0) (Prod.mk 300 (Sum.inl fbt)))), Prod.mk t3 (Sum.inl (Prod.mk (cy 0) (Prod.mk 300 (Sum.inl ffr)))), Prod.mk t4 (Sum.inl (Prod.mk (cy 0) (Prod.mk 300 (Sum.inl fto)))), Prod.mk t5 (Sum.inl (Prod.mk (cy 0) (Prod.mk 300 (Sum.inl foc)))), Prod.mk t6 (Sum.inl (Prod.mk (cy 0) (Prod.mk 300 (Sum.inl fgi))))] sz) := by
  refine Met.go (Qc := Q_c_X7_add D cy E t0 t1 t2 t3 t4 t5 t6 zt fda fbt ffr fto foc fgi o day berth a b) (cc := cX7_add) (maxL := 6) (ret := (some .int)) (by decide) rfl (Nat.le_of_ble_eq_true rfl) ?_
  intro p e s m below meth c hx hb hr hts hown hlocks hin hml hK hN A hA hAB hD hP hS ls hl hsz
  have hl : lv_has ls 6 [(0, .ref t0), (1, .int o), (2, .int day), (3, .int berth), (4, .int a), (5, .int b)] := hl
  have w_0 := hts (.instanceMethod yX7_isFull) (by decide +kernel)
  have in_X7 : ∀ w ∈ wsX70, w ∈ wsX7_add := fun _ h => List.mem_cons_of_mem _ ((List.mem_append_right _ h))
  have w_2 := hts (.fieldLink RX7 9 "SleepingCars$Tickets" "days" "[I") (by decide +kernel)
  have w_3 := hts (.fieldLink RX7 30 "SleepingCars$Tickets" "size" "I") (by decide +kernel)
  have w_4 := hts (.fieldLink RX7 15 "SleepingCars$Tickets" "berths" "[I") (by decide +kernel)
  have w_5 := hts (.fieldLink RX7 18 "SleepingCars$Tickets" "froms" "[I") (by decide +kernel)
  have w_6 := hts (.fieldLink RX7 21 "SleepingCars$Tickets" "tos" "[I") (by decide +kernel)
  have w_7 := hts (.fieldLink RX7 24 "SleepingCars$Tickets" "offices" "[I") (by decide +kernel)
  have w_8 := hts (.fieldLink RX7 27 "SleepingCars$Tickets" "given" "[I") (by decide +kernel)
  obtain ⟨H, eH⟩ : ∃ H : Heap, H = s.heap := ⟨_, rfl⟩
  obtain ⟨locs, eL⟩ : ∃ L : List Loc, L = [] := ⟨_, rfl⟩
  rw [← eL]
  rw [← eL] at hS
  have hP : va_P D vwCl [Prod.mk t0 (Sum.inr (Prod.mk 7 [Value.int zt, Value.ref t1, Value.ref t2, Value.ref t3, Value.ref t4, Value.ref t5, Value.ref t6])), Prod.mk t1 (Sum.inl (Prod.mk (cy 0) (Prod.mk 300 (Sum.inl fda)))), Prod.mk t2 (Sum.inl (Prod.mk (cy 0) (Prod.mk 300 (Sum.inl fbt)))), Prod.mk t3 (Sum.inl (Prod.mk (cy 0) (Prod.mk 300 (Sum.inl ffr)))), Prod.mk t4 (Sum.inl (Prod.mk (cy 0) (Prod.mk 300 (Sum.inl fto)))), Prod.mk t5 (Sum.inl (Prod.mk (cy 0) (Prod.mk 300 (Sum.inl foc)))), Prod.mk t6 (Sum.inl (Prod.mk (cy 0) (Prod.mk 300 (Sum.inl fgi))))] H := by rw [eH]; exact hP
  have hS : va_S A s.heap H locs := by rw [eH]; exact hS
  refine W.heapEq eH ?_
  clear eH eL
  refine lv_aload_n hx hb dX7_add_0 rfl (lv_at hl 0 rfl) ?_
  refine k_i (va_runV (As := []) (rest := []) ⟨hx, hb, hml, hown, hts⟩ (c_X7_isFull l D cy E t0 t1 t2 t3 t4 t5 t6 zt H.size ) (cwV 0 hts gX7_add_X7_isFull rfl rfl rfl (by decide +kernel) ⟨Nat.le_of_ble_eq_true rfl, Nat.le_of_ble_eq_true rfl⟩) (cp_v hK hN hS hAB hP hD [0] rfl (by decide) (ci := 7) rfl rfl rfl) rfl rfl hl.1 rfl (lv_room (Nat.le_of_ble_eq_true rfl)) dX7_add_1 ⟨Nat.le_of_ble_eq_true rfl, Nat.le_of_ble_eq_true rfl⟩) hP hD hS hA [0] [1, 2, 3, 4, 5, 6] (wr := [Prod.mk t1 (Sum.inl (Prod.mk (cy 0) (Prod.mk 300 (Sum.inl fda)))), Prod.mk t2 (Sum.inl (Prod.mk (cy 0) (Prod.mk 300 (Sum.inl fbt)))), Prod.mk t3 (Sum.inl (Prod.mk (cy 0) (Prod.mk 300 (Sum.inl ffr)))), Prod.mk t4 (Sum.inl (Prod.mk (cy 0) (Prod.mk 300 (Sum.inl fto)))), Prod.mk t5 (Sum.inl (Prod.mk (cy 0) (Prod.mk 300 (Sum.inl foc)))), Prod.mk t6 (Sum.inl (Prod.mk (cy 0) (Prod.mk 300 (Sum.inl fgi))))]) rfl rfl (by decide) (by decide) (fun rr1 u_rr1 H locs hw1 hP hD hS => ?_)
  try dsimp only at hw1
  have hP : va_P D vwCl [Prod.mk t1 (Sum.inl (Prod.mk (cy 0) (Prod.mk 300 (Sum.inl fda)))), Prod.mk t2 (Sum.inl (Prod.mk (cy 0) (Prod.mk 300 (Sum.inl fbt)))), Prod.mk t3 (Sum.inl (Prod.mk (cy 0) (Prod.mk 300 (Sum.inl ffr)))), Prod.mk t4 (Sum.inl (Prod.mk (cy 0) (Prod.mk 300 (Sum.inl fto)))), Prod.mk t5 (Sum.inl (Prod.mk (cy 0) (Prod.mk 300 (Sum.inl foc)))), Prod.mk t6 (Sum.inl (Prod.mk (cy 0) (Prod.mk 300 (Sum.inl fgi)))), Prod.mk t0 (Sum.inr (Prod.mk 7 [Value.int zt, Value.ref t1, Value.ref t2, Value.ref t3, Value.ref t4, Value.ref t5, Value.ref t6]))] H := hP
  have hD : va_D A [Prod.mk t1 (Sum.inl (Prod.mk (cy 0) (Prod.mk 300 (Sum.inl fda)))), Prod.mk t2 (Sum.inl (Prod.mk (cy 0) (Prod.mk 300 (Sum.inl fbt)))), Prod.mk t3 (Sum.inl (Prod.mk (cy 0) (Prod.mk 300 (Sum.inl ffr)))), Prod.mk t4 (Sum.inl (Prod.mk (cy 0) (Prod.mk 300 (Sum.inl fto)))), Prod.mk t5 (Sum.inl (Prod.mk (cy 0) (Prod.mk 300 (Sum.inl foc)))), Prod.mk t6 (Sum.inl (Prod.mk (cy 0) (Prod.mk 300 (Sum.inl fgi)))), Prod.mk t0 (Sum.inr (Prod.mk 7 [Value.int zt, Value.ref t1, Value.ref t2, Value.ref t3, Value.ref t4, Value.ref t5, Value.ref t6]))] := hD
  refine lv_if_eq (tgt := 9) hx hb dX7_add_4 (by decide) (fun c4 => ?_) (fun c4 => ?_)
  · skip
    have fc4 := q_eq (a := rr1.toInt) (b := 0) c4 rfl (by decide)
    refine lv_aload_n hx hb dX7_add_9 rfl (lv_at hl 0 rfl) ?_
    refine va_get (D := D) (ci := 7) (v := .ref t1) (C := RX7) (T := TX7) (N := 7) hx hb hts in_X7 hown hK hP 6 rfl rfl 1 (by decide) w_2 (fun _ h9 => h9) rfl dX7_add_10 ?_
    refine lv_aload_n hx hb dX7_add_13 rfl (lv_at hl 0 rfl) ?_
    refine va_get (D := D) (ci := 7) (v := .int zt) (C := RX7) (T := TX7) (N := 7) hx hb hts in_X7 hown hK hP 6 rfl rfl 0 (by decide) w_3 (fun _ h9 => h9) rfl dX7_add_14 ?_
    refine lv_iload_n hx hb dX7_add_17 rfl (lv_at hl 2 rfl) ?_
    have v18_a : AllI (upd fda zt.toNatClampNeg day) 300 0 59 := allI_upd hv_fda (by omega) (by omega)
    refine va_iast hx hb hK hP hD hS 0 0 rfl rfl (q_in (a := zt.toInt) rfl (by omega) (by omega)) dX7_add_18 (fun H locs hP hD hS => ?_)
    have hP : va_P D vwCl [Prod.mk t1 (Sum.inl (Prod.mk (cy 0) (Prod.mk 300 (Sum.inl (upd fda zt.toNatClampNeg day))))), Prod.mk t2 (Sum.inl (Prod.mk (cy 0) (Prod.mk 300 (Sum.inl fbt)))), Prod.mk t3 (Sum.inl (Prod.mk (cy 0) (Prod.mk 300 (Sum.inl ffr)))), Prod.mk t4 (Sum.inl (Prod.mk (cy 0) (Prod.mk 300 (Sum.inl fto)))), Prod.mk t5 (Sum.inl (Prod.mk (cy 0) (Prod.mk 300 (Sum.inl foc)))), Prod.mk t6 (Sum.inl (Prod.mk (cy 0) (Prod.mk 300 (Sum.inl fgi)))), Prod.mk t0 (Sum.inr (Prod.mk 7 [Value.int zt, Value.ref t1, Value.ref t2, Value.ref t3, Value.ref t4, Value.ref t5, Value.ref t6]))] H := hP
    have hD : va_D A [Prod.mk t1 (Sum.inl (Prod.mk (cy 0) (Prod.mk 300 (Sum.inl (upd fda zt.toNatClampNeg day))))), Prod.mk t2 (Sum.inl (Prod.mk (cy 0) (Prod.mk 300 (Sum.inl fbt)))), Prod.mk t3 (Sum.inl (Prod.mk (cy 0) (Prod.mk 300 (Sum.inl ffr)))), Prod.mk t4 (Sum.inl (Prod.mk (cy 0) (Prod.mk 300 (Sum.inl fto)))), Prod.mk t5 (Sum.inl (Prod.mk (cy 0) (Prod.mk 300 (Sum.inl foc)))), Prod.mk t6 (Sum.inl (Prod.mk (cy 0) (Prod.mk 300 (Sum.inl fgi)))), Prod.mk t0 (Sum.inr (Prod.mk 7 [Value.int zt, Value.ref t1, Value.ref t2, Value.ref t3, Value.ref t4, Value.ref t5, Value.ref t6]))] := hD
    refine lv_aload_n hx hb dX7_add_19 rfl (lv_at hl 0 rfl) ?_
    refine va_get (D := D) (ci := 7) (v := .ref t2) (C := RX7) (T := TX7) (N := 7) hx hb hts in_X7 hown hK hP 6 rfl rfl 2 (by decide) w_4 (fun _ h9 => h9) rfl dX7_add_20 ?_
    refine lv_aload_n hx hb dX7_add_23 rfl (lv_at hl 0 rfl) ?_
    refine va_get (D := D) (ci := 7) (v := .int zt) (C := RX7) (T := TX7) (N := 7) hx hb hts in_X7 hown hK hP 6 rfl rfl 0 (by decide) w_3 (fun _ h9 => h9) rfl dX7_add_24 ?_
    refine lv_iload_n hx hb dX7_add_27 rfl (lv_at hl 3 rfl) ?_
    have v28_a : AllI (upd fbt zt.toNatClampNeg berth) 300 0 9 := allI_upd hv_fbt (by omega) (by omega)
    refine va_iast hx hb hK hP hD hS 1 0 rfl rfl (q_in (a := zt.toInt) rfl (by omega) (by omega)) dX7_add_28 (fun H locs hP hD hS => ?_)
    have hP : va_P D vwCl [Prod.mk t1 (Sum.inl (Prod.mk (cy 0) (Prod.mk 300 (Sum.inl (upd fda zt.toNatClampNeg day))))), Prod.mk t2 (Sum.inl (Prod.mk (cy 0) (Prod.mk 300 (Sum.inl (upd fbt zt.toNatClampNeg berth))))), Prod.mk t3 (Sum.inl (Prod.mk (cy 0) (Prod.mk 300 (Sum.inl ffr)))), Prod.mk t4 (Sum.inl (Prod.mk (cy 0) (Prod.mk 300 (Sum.inl fto)))), Prod.mk t5 (Sum.inl (Prod.mk (cy 0) (Prod.mk 300 (Sum.inl foc)))), Prod.mk t6 (Sum.inl (Prod.mk (cy 0) (Prod.mk 300 (Sum.inl fgi)))), Prod.mk t0 (Sum.inr (Prod.mk 7 [Value.int zt, Value.ref t1, Value.ref t2, Value.ref t3, Value.ref t4, Value.ref t5, Value.ref t6]))] H := hP
    have hD : va_D A [Prod.mk t1 (Sum.inl (Prod.mk (cy 0) (Prod.mk 300 (Sum.inl (upd fda zt.toNatClampNeg day))))), Prod.mk t2 (Sum.inl (Prod.mk (cy 0) (Prod.mk 300 (Sum.inl (upd fbt zt.toNatClampNeg berth))))), Prod.mk t3 (Sum.inl (Prod.mk (cy 0) (Prod.mk 300 (Sum.inl ffr)))), Prod.mk t4 (Sum.inl (Prod.mk (cy 0) (Prod.mk 300 (Sum.inl fto)))), Prod.mk t5 (Sum.inl (Prod.mk (cy 0) (Prod.mk 300 (Sum.inl foc)))), Prod.mk t6 (Sum.inl (Prod.mk (cy 0) (Prod.mk 300 (Sum.inl fgi)))), Prod.mk t0 (Sum.inr (Prod.mk 7 [Value.int zt, Value.ref t1, Value.ref t2, Value.ref t3, Value.ref t4, Value.ref t5, Value.ref t6]))] := hD
    refine lv_aload_n hx hb dX7_add_29 rfl (lv_at hl 0 rfl) ?_
    refine va_get (D := D) (ci := 7) (v := .ref t3) (C := RX7) (T := TX7) (N := 7) hx hb hts in_X7 hown hK hP 6 rfl rfl 3 (by decide) w_5 (fun _ h9 => h9) rfl dX7_add_30 ?_
    refine lv_aload_n hx hb dX7_add_33 rfl (lv_at hl 0 rfl) ?_
    refine va_get (D := D) (ci := 7) (v := .int zt) (C := RX7) (T := TX7) (N := 7) hx hb hts in_X7 hown hK hP 6 rfl rfl 0 (by decide) w_3 (fun _ h9 => h9) rfl dX7_add_34 ?_
    refine lv_iload hx hb dX7_add_37 (lv_at hl 4 rfl) ?_
    refine va_iast hx hb hK hP hD hS 2 0 rfl rfl (q_in (a := zt.toInt) rfl (by omega) (by omega)) dX7_add_39 (fun H locs hP hD hS => ?_)
    have hP : va_P D vwCl [Prod.mk t1 (Sum.inl (Prod.mk (cy 0) (Prod.mk 300 (Sum.inl (upd fda zt.toNatClampNeg day))))), Prod.mk t2 (Sum.inl (Prod.mk (cy 0) (Prod.mk 300 (Sum.inl (upd fbt zt.toNatClampNeg berth))))), Prod.mk t3 (Sum.inl (Prod.mk (cy 0) (Prod.mk 300 (Sum.inl (upd ffr zt.toNatClampNeg a))))), Prod.mk t4 (Sum.inl (Prod.mk (cy 0) (Prod.mk 300 (Sum.inl fto)))), Prod.mk t5 (Sum.inl (Prod.mk (cy 0) (Prod.mk 300 (Sum.inl foc)))), Prod.mk t6 (Sum.inl (Prod.mk (cy 0) (Prod.mk 300 (Sum.inl fgi)))), Prod.mk t0 (Sum.inr (Prod.mk 7 [Value.int zt, Value.ref t1, Value.ref t2, Value.ref t3, Value.ref t4, Value.ref t5, Value.ref t6]))] H := hP
    have hD : va_D A [Prod.mk t1 (Sum.inl (Prod.mk (cy 0) (Prod.mk 300 (Sum.inl (upd fda zt.toNatClampNeg day))))), Prod.mk t2 (Sum.inl (Prod.mk (cy 0) (Prod.mk 300 (Sum.inl (upd fbt zt.toNatClampNeg berth))))), Prod.mk t3 (Sum.inl (Prod.mk (cy 0) (Prod.mk 300 (Sum.inl (upd ffr zt.toNatClampNeg a))))), Prod.mk t4 (Sum.inl (Prod.mk (cy 0) (Prod.mk 300 (Sum.inl fto)))), Prod.mk t5 (Sum.inl (Prod.mk (cy 0) (Prod.mk 300 (Sum.inl foc)))), Prod.mk t6 (Sum.inl (Prod.mk (cy 0) (Prod.mk 300 (Sum.inl fgi)))), Prod.mk t0 (Sum.inr (Prod.mk 7 [Value.int zt, Value.ref t1, Value.ref t2, Value.ref t3, Value.ref t4, Value.ref t5, Value.ref t6]))] := hD
    refine lv_aload_n hx hb dX7_add_40 rfl (lv_at hl 0 rfl) ?_
    refine va_get (D := D) (ci := 7) (v := .ref t4) (C := RX7) (T := TX7) (N := 7) hx hb hts in_X7 hown hK hP 6 rfl rfl 4 (by decide) w_6 (fun _ h9 => h9) rfl dX7_add_41 ?_
    refine lv_aload_n hx hb dX7_add_44 rfl (lv_at hl 0 rfl) ?_
    refine va_get (D := D) (ci := 7) (v := .int zt) (C := RX7) (T := TX7) (N := 7) hx hb hts in_X7 hown hK hP 6 rfl rfl 0 (by decide) w_3 (fun _ h9 => h9) rfl dX7_add_45 ?_
    refine lv_iload hx hb dX7_add_48 (lv_at hl 5 rfl) ?_
    refine va_iast hx hb hK hP hD hS 3 0 rfl rfl (q_in (a := zt.toInt) rfl (by omega) (by omega)) dX7_add_50 (fun H locs hP hD hS => ?_)
    have hP : va_P D vwCl [Prod.mk t1 (Sum.inl (Prod.mk (cy 0) (Prod.mk 300 (Sum.inl (upd fda zt.toNatClampNeg day))))), Prod.mk t2 (Sum.inl (Prod.mk (cy 0) (Prod.mk 300 (Sum.inl (upd fbt zt.toNatClampNeg berth))))), Prod.mk t3 (Sum.inl (Prod.mk (cy 0) (Prod.mk 300 (Sum.inl (upd ffr zt.toNatClampNeg a))))), Prod.mk t4 (Sum.inl (Prod.mk (cy 0) (Prod.mk 300 (Sum.inl (upd fto zt.toNatClampNeg b))))), Prod.mk t5 (Sum.inl (Prod.mk (cy 0) (Prod.mk 300 (Sum.inl foc)))), Prod.mk t6 (Sum.inl (Prod.mk (cy 0) (Prod.mk 300 (Sum.inl fgi)))), Prod.mk t0 (Sum.inr (Prod.mk 7 [Value.int zt, Value.ref t1, Value.ref t2, Value.ref t3, Value.ref t4, Value.ref t5, Value.ref t6]))] H := hP
    have hD : va_D A [Prod.mk t1 (Sum.inl (Prod.mk (cy 0) (Prod.mk 300 (Sum.inl (upd fda zt.toNatClampNeg day))))), Prod.mk t2 (Sum.inl (Prod.mk (cy 0) (Prod.mk 300 (Sum.inl (upd fbt zt.toNatClampNeg berth))))), Prod.mk t3 (Sum.inl (Prod.mk (cy 0) (Prod.mk 300 (Sum.inl (upd ffr zt.toNatClampNeg a))))), Prod.mk t4 (Sum.inl (Prod.mk (cy 0) (Prod.mk 300 (Sum.inl (upd fto zt.toNatClampNeg b))))), Prod.mk t5 (Sum.inl (Prod.mk (cy 0) (Prod.mk 300 (Sum.inl foc)))), Prod.mk t6 (Sum.inl (Prod.mk (cy 0) (Prod.mk 300 (Sum.inl fgi)))), Prod.mk t0 (Sum.inr (Prod.mk 7 [Value.int zt, Value.ref t1, Value.ref t2, Value.ref t3, Value.ref t4, Value.ref t5, Value.ref t6]))] := hD
    refine lv_aload_n hx hb dX7_add_51 rfl (lv_at hl 0 rfl) ?_
    refine va_get (D := D) (ci := 7) (v := .ref t5) (C := RX7) (T := TX7) (N := 7) hx hb hts in_X7 hown hK hP 6 rfl rfl 5 (by decide) w_7 (fun _ h9 => h9) rfl dX7_add_52 ?_
    refine lv_aload_n hx hb dX7_add_55 rfl (lv_at hl 0 rfl) ?_
    refine va_get (D := D) (ci := 7) (v := .int zt) (C := RX7) (T := TX7) (N := 7) hx hb hts in_X7 hown hK hP 6 rfl rfl 0 (by decide) w_3 (fun _ h9 => h9) rfl dX7_add_56 ?_
    refine lv_iload_n hx hb dX7_add_59 rfl (lv_at hl 1 rfl) ?_
    refine va_iast hx hb hK hP hD hS 4 0 rfl rfl (q_in (a := zt.toInt) rfl (by omega) (by omega)) dX7_add_60 (fun H locs hP hD hS => ?_)
    have hP : va_P D vwCl [Prod.mk t1 (Sum.inl (Prod.mk (cy 0) (Prod.mk 300 (Sum.inl (upd fda zt.toNatClampNeg day))))), Prod.mk t2 (Sum.inl (Prod.mk (cy 0) (Prod.mk 300 (Sum.inl (upd fbt zt.toNatClampNeg berth))))), Prod.mk t3 (Sum.inl (Prod.mk (cy 0) (Prod.mk 300 (Sum.inl (upd ffr zt.toNatClampNeg a))))), Prod.mk t4 (Sum.inl (Prod.mk (cy 0) (Prod.mk 300 (Sum.inl (upd fto zt.toNatClampNeg b))))), Prod.mk t5 (Sum.inl (Prod.mk (cy 0) (Prod.mk 300 (Sum.inl (upd foc zt.toNatClampNeg o))))), Prod.mk t6 (Sum.inl (Prod.mk (cy 0) (Prod.mk 300 (Sum.inl fgi)))), Prod.mk t0 (Sum.inr (Prod.mk 7 [Value.int zt, Value.ref t1, Value.ref t2, Value.ref t3, Value.ref t4, Value.ref t5, Value.ref t6]))] H := hP
    have hD : va_D A [Prod.mk t1 (Sum.inl (Prod.mk (cy 0) (Prod.mk 300 (Sum.inl (upd fda zt.toNatClampNeg day))))), Prod.mk t2 (Sum.inl (Prod.mk (cy 0) (Prod.mk 300 (Sum.inl (upd fbt zt.toNatClampNeg berth))))), Prod.mk t3 (Sum.inl (Prod.mk (cy 0) (Prod.mk 300 (Sum.inl (upd ffr zt.toNatClampNeg a))))), Prod.mk t4 (Sum.inl (Prod.mk (cy 0) (Prod.mk 300 (Sum.inl (upd fto zt.toNatClampNeg b))))), Prod.mk t5 (Sum.inl (Prod.mk (cy 0) (Prod.mk 300 (Sum.inl (upd foc zt.toNatClampNeg o))))), Prod.mk t6 (Sum.inl (Prod.mk (cy 0) (Prod.mk 300 (Sum.inl fgi)))), Prod.mk t0 (Sum.inr (Prod.mk 7 [Value.int zt, Value.ref t1, Value.ref t2, Value.ref t3, Value.ref t4, Value.ref t5, Value.ref t6]))] := hD
    refine lv_aload_n hx hb dX7_add_61 rfl (lv_at hl 0 rfl) ?_
    refine va_get (D := D) (ci := 7) (v := .ref t6) (C := RX7) (T := TX7) (N := 7) hx hb hts in_X7 hown hK hP 6 rfl rfl 6 (by decide) w_8 (fun _ h9 => h9) rfl dX7_add_62 ?_
    refine lv_aload_n hx hb dX7_add_65 rfl (lv_at hl 0 rfl) ?_
    refine va_get (D := D) (ci := 7) (v := .int zt) (C := RX7) (T := TX7) (N := 7) hx hb hts in_X7 hown hK hP 6 rfl rfl 0 (by decide) w_3 (fun _ h9 => h9) rfl dX7_add_66 ?_
    refine lv_iconst (v := 0) hx hb dX7_add_69 (by decide) ?_
    refine va_iast hx hb hK hP hD hS 5 0 rfl rfl (q_in (a := zt.toInt) rfl (by omega) (by omega)) dX7_add_70 (fun H locs hP hD hS => ?_)
    have hP : va_P D vwCl [Prod.mk t1 (Sum.inl (Prod.mk (cy 0) (Prod.mk 300 (Sum.inl (upd fda zt.toNatClampNeg day))))), Prod.mk t2 (Sum.inl (Prod.mk (cy 0) (Prod.mk 300 (Sum.inl (upd fbt zt.toNatClampNeg berth))))), Prod.mk t3 (Sum.inl (Prod.mk (cy 0) (Prod.mk 300 (Sum.inl (upd ffr zt.toNatClampNeg a))))), Prod.mk t4 (Sum.inl (Prod.mk (cy 0) (Prod.mk 300 (Sum.inl (upd fto zt.toNatClampNeg b))))), Prod.mk t5 (Sum.inl (Prod.mk (cy 0) (Prod.mk 300 (Sum.inl (upd foc zt.toNatClampNeg o))))), Prod.mk t6 (Sum.inl (Prod.mk (cy 0) (Prod.mk 300 (Sum.inl (upd fgi zt.toNatClampNeg 0))))), Prod.mk t0 (Sum.inr (Prod.mk 7 [Value.int zt, Value.ref t1, Value.ref t2, Value.ref t3, Value.ref t4, Value.ref t5, Value.ref t6]))] H := hP
    have hD : va_D A [Prod.mk t1 (Sum.inl (Prod.mk (cy 0) (Prod.mk 300 (Sum.inl (upd fda zt.toNatClampNeg day))))), Prod.mk t2 (Sum.inl (Prod.mk (cy 0) (Prod.mk 300 (Sum.inl (upd fbt zt.toNatClampNeg berth))))), Prod.mk t3 (Sum.inl (Prod.mk (cy 0) (Prod.mk 300 (Sum.inl (upd ffr zt.toNatClampNeg a))))), Prod.mk t4 (Sum.inl (Prod.mk (cy 0) (Prod.mk 300 (Sum.inl (upd fto zt.toNatClampNeg b))))), Prod.mk t5 (Sum.inl (Prod.mk (cy 0) (Prod.mk 300 (Sum.inl (upd foc zt.toNatClampNeg o))))), Prod.mk t6 (Sum.inl (Prod.mk (cy 0) (Prod.mk 300 (Sum.inl (upd fgi zt.toNatClampNeg 0))))), Prod.mk t0 (Sum.inr (Prod.mk 7 [Value.int zt, Value.ref t1, Value.ref t2, Value.ref t3, Value.ref t4, Value.ref t5, Value.ref t6]))] := hD
    refine lv_aload_n hx hb dX7_add_71 rfl (lv_at hl 0 rfl) ?_
    refine lv_dup hx hb dX7_add_72 rfl ?_
    refine va_get (D := D) (ci := 7) (v := .int zt) (C := RX7) (T := TX7) (N := 7) hx hb hts in_X7 hown hK hP 6 rfl rfl 0 (by decide) w_3 (fun _ h9 => h9) rfl dX7_add_73 ?_
    refine lv_iconst (v := 1) hx hb dX7_add_76 (by decide) ?_
    refine lv_iadd hx hb dX7_add_77 ?_
    refine lv_topi (fun x77 ex77 => ?_)
    have tx77 := q_add (p := zt.toInt) (q := 1) ex77 rfl (by decide) (by omega) (by omega)
    refine va_put (D := D) (ci := 7) (v := .int x77) (ty := .int) (C := RX7) (T := TX7) (N := 7) hx hb hts in_X7 tyX7 tyX7_ok nmX7 hown hK hP hD hS 6 rfl rfl 0 (by decide) w_3 (fun _ h9 => h9) rfl (by decide +kernel) rfl rfl (Nat.le_of_ble_eq_true rfl) dX7_add_78 (fun H locs hP hD hS => ?_)
    have hP : va_P D vwCl [Prod.mk t1 (Sum.inl (Prod.mk (cy 0) (Prod.mk 300 (Sum.inl (upd fda zt.toNatClampNeg day))))), Prod.mk t2 (Sum.inl (Prod.mk (cy 0) (Prod.mk 300 (Sum.inl (upd fbt zt.toNatClampNeg berth))))), Prod.mk t3 (Sum.inl (Prod.mk (cy 0) (Prod.mk 300 (Sum.inl (upd ffr zt.toNatClampNeg a))))), Prod.mk t4 (Sum.inl (Prod.mk (cy 0) (Prod.mk 300 (Sum.inl (upd fto zt.toNatClampNeg b))))), Prod.mk t5 (Sum.inl (Prod.mk (cy 0) (Prod.mk 300 (Sum.inl (upd foc zt.toNatClampNeg o))))), Prod.mk t6 (Sum.inl (Prod.mk (cy 0) (Prod.mk 300 (Sum.inl (upd fgi zt.toNatClampNeg 0))))), Prod.mk t0 (Sum.inr (Prod.mk 7 [Value.int x77, Value.ref t1, Value.ref t2, Value.ref t3, Value.ref t4, Value.ref t5, Value.ref t6]))] H := hP
    have hD : va_D A [Prod.mk t1 (Sum.inl (Prod.mk (cy 0) (Prod.mk 300 (Sum.inl (upd fda zt.toNatClampNeg day))))), Prod.mk t2 (Sum.inl (Prod.mk (cy 0) (Prod.mk 300 (Sum.inl (upd fbt zt.toNatClampNeg berth))))), Prod.mk t3 (Sum.inl (Prod.mk (cy 0) (Prod.mk 300 (Sum.inl (upd ffr zt.toNatClampNeg a))))), Prod.mk t4 (Sum.inl (Prod.mk (cy 0) (Prod.mk 300 (Sum.inl (upd fto zt.toNatClampNeg b))))), Prod.mk t5 (Sum.inl (Prod.mk (cy 0) (Prod.mk 300 (Sum.inl (upd foc zt.toNatClampNeg o))))), Prod.mk t6 (Sum.inl (Prod.mk (cy 0) (Prod.mk 300 (Sum.inl (upd fgi zt.toNatClampNeg 0))))), Prod.mk t0 (Sum.inr (Prod.mk 7 [Value.int x77, Value.ref t1, Value.ref t2, Value.ref t3, Value.ref t4, Value.ref t5, Value.ref t6]))] := hD
    refine lv_aload_n hx hb dX7_add_81 rfl (lv_at hl 0 rfl) ?_
    refine va_get (D := D) (ci := 7) (v := .int x77) (C := RX7) (T := TX7) (N := 7) hx hb hts in_X7 hown hK hP 6 rfl rfl 0 (by decide) w_3 (fun _ h9 => h9) rfl dX7_add_82 ?_
    refine lv_iconst (v := 1) hx hb dX7_add_85 (by decide) ?_
    refine lv_isub hx hb dX7_add_86 ?_
    refine lv_topi (fun x86 ex86 => ?_)
    have tx86 := q_sub (p := x77.toInt) (q := 1) ex86 rfl (by decide) (by omega) (by omega)
    exact r_i hx hb hr hlocks hK hS dX7_add_87 (u := (x77, upd fda zt.toNatClampNeg day, upd fbt zt.toNatClampNeg berth, upd ffr zt.toNatClampNeg a, upd fto zt.toNatClampNeg b, upd foc zt.toNatClampNeg o, upd fgi zt.toNatClampNeg 0)) (hP.sub (ws' := [Prod.mk t0 (Sum.inr (Prod.mk 7 [Value.int x77, Value.ref t1, Value.ref t2, Value.ref t3, Value.ref t4, Value.ref t5, Value.ref t6])), Prod.mk t1 (Sum.inl (Prod.mk (cy 0) (Prod.mk 300 (Sum.inl (upd fda zt.toNatClampNeg day))))), Prod.mk t2 (Sum.inl (Prod.mk (cy 0) (Prod.mk 300 (Sum.inl (upd fbt zt.toNatClampNeg berth))))), Prod.mk t3 (Sum.inl (Prod.mk (cy 0) (Prod.mk 300 (Sum.inl (upd ffr zt.toNatClampNeg a))))), Prod.mk t4 (Sum.inl (Prod.mk (cy 0) (Prod.mk 300 (Sum.inl (upd fto zt.toNatClampNeg b))))), Prod.mk t5 (Sum.inl (Prod.mk (cy 0) (Prod.mk 300 (Sum.inl (upd foc zt.toNatClampNeg o))))), Prod.mk t6 (Sum.inl (Prod.mk (cy 0) (Prod.mk 300 (Sum.inl (upd fgi zt.toNatClampNeg 0)))))]) [6, 0, 1, 2, 3, 4, 5] rfl) (hD.sub (ws' := [Prod.mk t0 (Sum.inr (Prod.mk 7 [Value.int x77, Value.ref t1, Value.ref t2, Value.ref t3, Value.ref t4, Value.ref t5, Value.ref t6])), Prod.mk t1 (Sum.inl (Prod.mk (cy 0) (Prod.mk 300 (Sum.inl (upd fda zt.toNatClampNeg day))))), Prod.mk t2 (Sum.inl (Prod.mk (cy 0) (Prod.mk 300 (Sum.inl (upd fbt zt.toNatClampNeg berth))))), Prod.mk t3 (Sum.inl (Prod.mk (cy 0) (Prod.mk 300 (Sum.inl (upd ffr zt.toNatClampNeg a))))), Prod.mk t4 (Sum.inl (Prod.mk (cy 0) (Prod.mk 300 (Sum.inl (upd fto zt.toNatClampNeg b))))), Prod.mk t5 (Sum.inl (Prod.mk (cy 0) (Prod.mk 300 (Sum.inl (upd foc zt.toNatClampNeg o))))), Prod.mk t6 (Sum.inl (Prod.mk (cy 0) (Prod.mk 300 (Sum.inl (upd fgi zt.toNatClampNeg 0)))))]) [6, 0, 1, 2, 3, 4, 5] (by decide) rfl) (⟨(by omega), v18_a, v28_a⟩)
  · skip
    have fc4 := q_ne (a := rr1.toInt) (b := 0) c4 rfl (by decide)
    refine lv_iconst (v := (-1)) hx hb dX7_add_7 (by decide) ?_
    exact r_i hx hb hr hlocks hK hS dX7_add_8 (u := (zt, fda, fbt, ffr, fto, foc, fgi)) (hP.sub (ws' := [Prod.mk t0 (Sum.inr (Prod.mk 7 [Value.int zt, Value.ref t1, Value.ref t2, Value.ref t3, Value.ref t4, Value.ref t5, Value.ref t6])), Prod.mk t1 (Sum.inl (Prod.mk (cy 0) (Prod.mk 300 (Sum.inl fda)))), Prod.mk t2 (Sum.inl (Prod.mk (cy 0) (Prod.mk 300 (Sum.inl fbt)))), Prod.mk t3 (Sum.inl (Prod.mk (cy 0) (Prod.mk 300 (Sum.inl ffr)))), Prod.mk t4 (Sum.inl (Prod.mk (cy 0) (Prod.mk 300 (Sum.inl fto)))), Prod.mk t5 (Sum.inl (Prod.mk (cy 0) (Prod.mk 300 (Sum.inl foc)))), Prod.mk t6 (Sum.inl (Prod.mk (cy 0) (Prod.mk 300 (Sum.inl fgi))))]) [6, 0, 1, 2, 3, 4, 5] rfl) (hD.sub (ws' := [Prod.mk t0 (Sum.inr (Prod.mk 7 [Value.int zt, Value.ref t1, Value.ref t2, Value.ref t3, Value.ref t4, Value.ref t5, Value.ref t6])), Prod.mk t1 (Sum.inl (Prod.mk (cy 0) (Prod.mk 300 (Sum.inl fda)))), Prod.mk t2 (Sum.inl (Prod.mk (cy 0) (Prod.mk 300 (Sum.inl fbt)))), Prod.mk t3 (Sum.inl (Prod.mk (cy 0) (Prod.mk 300 (Sum.inl ffr)))), Prod.mk t4 (Sum.inl (Prod.mk (cy 0) (Prod.mk 300 (Sum.inl fto)))), Prod.mk t5 (Sum.inl (Prod.mk (cy 0) (Prod.mk 300 (Sum.inl foc)))), Prod.mk t6 (Sum.inl (Prod.mk (cy 0) (Prod.mk 300 (Sum.inl fgi))))]) [6, 0, 1, 2, 3, 4, 5] (by decide) rfl) (⟨(by omega), hv_fda, hv_fbt⟩)

abbrev Q_c_X7_isLive (D : va_G) (cy : Nat → ClassId) (E : EN) (t0 : Nat) (t1 : Nat) (t2 : Nat) (t3 : Nat) (t4 : Nat) (t5 : Nat) (t6 : Nat) (zt : Int32) (fda : Nat → Int32) (fgi : Nat → Int32) (t : Int32) (day : Int32) : (Nat → Prop) → Array Value → State → Outcome → State → Prop := QI D cy (fun (r : Int32) (_ : Unit) => r.toInt = 0 ∨ r.toInt = 1) (fun _ : Unit => [Prod.mk t0 (Sum.inr (Prod.mk 7 [Value.int zt, Value.ref t1, Value.ref t2, Value.ref t3, Value.ref t4, Value.ref t5, Value.ref t6])), Prod.mk t1 (Sum.inl (Prod.mk (cy 0) (Prod.mk 300 (Sum.inl fda)))), Prod.mk t6 (Sum.inl (Prod.mk (cy 0) (Prod.mk 300 (Sum.inl fgi))))])
set_option maxHeartbeats 4000000 in
set_option maxRecDepth 100000 in
theorem c_X7_isLive (l : Launch) (D : va_G) (cy : Nat → ClassId) (E : EN) (t0 : Nat) (t1 : Nat) (t2 : Nat) (t3 : Nat) (t4 : Nat) (t5 : Nat) (t6 : Nat) (zt : Int32) (fda : Nat → Int32) (fgi : Nat → Int32) (t : Int32) (day : Int32) (sz : Nat) (hti : 0 ≤ t.toInt ∧ t.toInt < 300) (hv_fda : AllI fda 300 0 59) : Met l yX7_isLive wsX7_isLive ({ frames := 0, cells := 0, slots := 0, locals := 0 } : Room) (CP D cy E [.ref t0, .int t, .int day] [Prod.mk t0 (Sum.inr (Prod.mk 7 [Value.int zt, Value.ref t1, Value.ref t2, Value.ref t3, Value.ref t4, Value.ref t5, Value.ref t6])), Prod.mk t1 (Sum.inl (Prod.mk (cy 0) (Prod.mk 300 (Sum.inl fda)))), Prod.mk t6 (Sum.inl (Prod.mk (cy 0) (Prod.mk 300 (Sum.inl fgi))))] sz) (Q_c_X7_isLive D cy E t0 t1 t2 t3 t4 t5 t6 zt fda fgi t day (va_A [Prod.mk t0 (Sum.inr (Prod.mk 7 [Value.int zt, Value.ref t1, Value.ref t2, Value.ref t3, Value.ref t4, Value.ref t5, Value.ref t6])), Prod.mk t1 (Sum.inl (Prod.mk (cy 0) (Prod.mk 300 (Sum.inl fda)))), Prod.mk t6 (Sum.inl (Prod.mk (cy 0) (Prod.mk 300 (Sum.inl fgi))))] sz)) 0 0 (va_A [Prod.mk t0 (Sum.inr (Prod.mk 7 [Value.int zt, Value.ref t1, Value.ref t2, Value.ref t3, Value.ref t4, Value.ref t5, Value.ref t6])), Prod.mk t1 (Sum.inl (Prod.mk (cy 0) (Prod.mk 300 (Sum.inl fda)))), Prod.mk t6 (Sum.inl (Prod.mk (cy 0) (Prod.mk 300 (Sum.inl fgi))))] sz) := by
  refine Met.go (Qc := Q_c_X7_isLive D cy E t0 t1 t2 t3 t4 t5 t6 zt fda fgi t day) (cc := cX7_isLive) (maxL := 3) (ret := (some .boolean)) (by decide) rfl (Nat.le_of_ble_eq_true rfl) ?_
  intro p e s m below meth c hx hb hr hts hown hlocks hin hml hK hN A hA hAB hD hP hS ls hl hsz
  have hl : lv_has ls 3 [(0, .ref t0), (1, .int t), (2, .int day)] := hl
  have in_X7 : ∀ w ∈ wsX70, w ∈ wsX7_isLive := fun _ h => List.mem_cons_of_mem _ ((List.mem_append_right _ h))
  have w_1 := hts (.fieldLink RX7 27 "SleepingCars$Tickets" "given" "[I") (by decide +kernel)
  have w_2 := hts (.fieldLink RX7 9 "SleepingCars$Tickets" "days" "[I") (by decide +kernel)
  obtain ⟨H, eH⟩ : ∃ H : Heap, H = s.heap := ⟨_, rfl⟩
  obtain ⟨locs, eL⟩ : ∃ L : List Loc, L = [] := ⟨_, rfl⟩
  rw [← eL]
  rw [← eL] at hS
  have hP : va_P D vwCl [Prod.mk t0 (Sum.inr (Prod.mk 7 [Value.int zt, Value.ref t1, Value.ref t2, Value.ref t3, Value.ref t4, Value.ref t5, Value.ref t6])), Prod.mk t1 (Sum.inl (Prod.mk (cy 0) (Prod.mk 300 (Sum.inl fda)))), Prod.mk t6 (Sum.inl (Prod.mk (cy 0) (Prod.mk 300 (Sum.inl fgi))))] H := by rw [eH]; exact hP
  have hS : va_S A s.heap H locs := by rw [eH]; exact hS
  refine W.heapEq eH ?_
  clear eH eL
  refine lv_aload_n hx hb dX7_isLive_0 rfl (lv_at hl 0 rfl) ?_
  refine va_get (D := D) (ci := 7) (v := .ref t6) (C := RX7) (T := TX7) (N := 7) hx hb hts in_X7 hown hK hP 0 rfl rfl 6 (by decide) w_1 (fun _ h9 => h9) rfl dX7_isLive_1 ?_
  refine lv_iload_n hx hb dX7_isLive_4 rfl (lv_at hl 1 rfl) ?_
  refine va_iald hx hb hK hP 2 0 rfl rfl (q_in (a := t.toInt) rfl (by omega) (by omega)) dX7_isLive_5 ?_
  refine lv_topi (fun x5 ex5 => ?_)
  have tx5 := congrArg Int32.toInt ex5
  refine lv_if_ne (tgt := 23) hx hb dX7_isLive_6 (by decide) (fun c6 => ?_) (fun c6 => ?_)
  · skip
    have fc6 := q_ne (a := x5.toInt) (b := 0) c6 rfl (by decide)
    refine lv_iconst (v := 0) hx hb dX7_isLive_23 (by decide) ?_
    exact r_z hx hb hr hlocks hK hS dX7_isLive_24 (by decide) (u := ()) hP hD (by first | exact Or.inl (by decide) | exact Or.inr (by decide) | omega)
  · skip
    have fc6 := q_eq (a := x5.toInt) (b := 0) c6 rfl (by decide)
    refine lv_aload_n hx hb dX7_isLive_9 rfl (lv_at hl 0 rfl) ?_
    refine va_get (D := D) (ci := 7) (v := .ref t1) (C := RX7) (T := TX7) (N := 7) hx hb hts in_X7 hown hK hP 0 rfl rfl 1 (by decide) w_2 (fun _ h9 => h9) rfl dX7_isLive_10 ?_
    refine lv_iload_n hx hb dX7_isLive_13 rfl (lv_at hl 1 rfl) ?_
    refine va_iald hx hb hK hP 1 0 rfl rfl (q_in (a := t.toInt) rfl (by omega) (by omega)) dX7_isLive_14 ?_
    refine lv_topi (fun x14 ex14 => ?_)
    have tx14 := congrArg Int32.toInt ex14
    have ix14 := hv_fda t.toNatClampNeg (cn (by omega) (by decide))
    refine lv_iload_n hx hb dX7_isLive_15 rfl (lv_at hl 2 rfl) ?_
    refine lv_icmp_ne (tgt := 23) hx hb dX7_isLive_16 (by decide) (fun c16 => ?_) (fun c16 => ?_)
    · skip
      have fc16 := q_ne (a := x14.toInt) (b := day.toInt) c16 rfl rfl
      refine lv_iconst (v := 0) hx hb dX7_isLive_23 (by decide) ?_
      exact r_z hx hb hr hlocks hK hS dX7_isLive_24 (by decide) (u := ()) hP hD (by first | exact Or.inl (by decide) | exact Or.inr (by decide) | omega)
    · skip
      have fc16 := q_eq (a := x14.toInt) (b := day.toInt) c16 rfl rfl
      refine lv_iconst (v := 1) hx hb dX7_isLive_19 (by decide) ?_
      refine lv_goto (tgt := 24) hx hb dX7_isLive_20 (by decide) ?_
      exact r_z hx hb hr hlocks hK hS dX7_isLive_24 (by decide) (u := ()) hP hD (by first | exact Or.inl (by decide) | exact Or.inr (by decide) | omega)

abbrev Q_c_X7_legsOf (D : va_G) (cy : Nat → ClassId) (E : EN) (t0 : Nat) (t1 : Nat) (t2 : Nat) (t3 : Nat) (t4 : Nat) (t5 : Nat) (t6 : Nat) (zt : Int32) (ffr : Nat → Int32) (fto : Nat → Int32) (t : Int32) : (Nat → Prop) → Array Value → State → Outcome → State → Prop := QI D cy (fun (r : Int32) (_ : Unit) => True) (fun _ : Unit => [Prod.mk t0 (Sum.inr (Prod.mk 7 [Value.int zt, Value.ref t1, Value.ref t2, Value.ref t3, Value.ref t4, Value.ref t5, Value.ref t6])), Prod.mk t3 (Sum.inl (Prod.mk (cy 0) (Prod.mk 300 (Sum.inl ffr)))), Prod.mk t4 (Sum.inl (Prod.mk (cy 0) (Prod.mk 300 (Sum.inl fto))))])
set_option maxHeartbeats 4000000 in
set_option maxRecDepth 100000 in
theorem c_X7_legsOf (l : Launch) (D : va_G) (cy : Nat → ClassId) (E : EN) (t0 : Nat) (t1 : Nat) (t2 : Nat) (t3 : Nat) (t4 : Nat) (t5 : Nat) (t6 : Nat) (zt : Int32) (ffr : Nat → Int32) (fto : Nat → Int32) (t : Int32) (sz : Nat) (hti : 0 ≤ t.toInt ∧ t.toInt < 300) : Met l yX7_legsOf wsX7_legsOf ({ frames := 1, cells := 0, slots := 0, locals := 21 } : Room) (CP D cy E [.ref t0, .int t] [Prod.mk t0 (Sum.inr (Prod.mk 7 [Value.int zt, Value.ref t1, Value.ref t2, Value.ref t3, Value.ref t4, Value.ref t5, Value.ref t6])), Prod.mk t3 (Sum.inl (Prod.mk (cy 0) (Prod.mk 300 (Sum.inl ffr)))), Prod.mk t4 (Sum.inl (Prod.mk (cy 0) (Prod.mk 300 (Sum.inl fto))))] sz) (Q_c_X7_legsOf D cy E t0 t1 t2 t3 t4 t5 t6 zt ffr fto t (va_A [Prod.mk t0 (Sum.inr (Prod.mk 7 [Value.int zt, Value.ref t1, Value.ref t2, Value.ref t3, Value.ref t4, Value.ref t5, Value.ref t6])), Prod.mk t3 (Sum.inl (Prod.mk (cy 0) (Prod.mk 300 (Sum.inl ffr)))), Prod.mk t4 (Sum.inl (Prod.mk (cy 0) (Prod.mk 300 (Sum.inl fto))))] sz)) 0 0 (va_A [Prod.mk t0 (Sum.inr (Prod.mk 7 [Value.int zt, Value.ref t1, Value.ref t2, Value.ref t3, Value.ref t4, Value.ref t5, Value.ref t6])), Prod.mk t3 (Sum.inl (Prod.mk (cy 0) (Prod.mk 300 (Sum.inl ffr)))), Prod.mk t4 (Sum.inl (Prod.mk (cy 0) (Prod.mk 300 (Sum.inl fto))))] sz) := by
  refine Met.go (Qc := Q_c_X7_legsOf D cy E t0 t1 t2 t3 t4 t5 t6 zt ffr fto t) (cc := cX7_legsOf) (maxL := 2) (ret := (some .int)) (by decide) rfl (Nat.le_of_ble_eq_true rfl) ?_
  intro p e s m below meth c hx hb hr hts hown hlocks hin hml hK hN A hA hAB hD hP hS ls hl hsz
  have hl : lv_has ls 2 [(0, .ref t0), (1, .int t)] := hl
  have in_X7 : ∀ w ∈ wsX70, w ∈ wsX7_legsOf := fun _ h => List.mem_cons_of_mem _ ((List.mem_append_right _ h))
  have w_1 := hts (.fieldLink RX7 18 "SleepingCars$Tickets" "froms" "[I") (by decide +kernel)
  have w_2 := hts (.fieldLink RX7 21 "SleepingCars$Tickets" "tos" "[I") (by decide +kernel)
  have w_3 := hts (.initialized RX9) (by decide +kernel)
  have w_4 := hts (.static yX9_legsBetween) (by decide +kernel)
  obtain ⟨H, eH⟩ : ∃ H : Heap, H = s.heap := ⟨_, rfl⟩
  obtain ⟨locs, eL⟩ : ∃ L : List Loc, L = [] := ⟨_, rfl⟩
  rw [← eL]
  rw [← eL] at hS
  have hP : va_P D vwCl [Prod.mk t0 (Sum.inr (Prod.mk 7 [Value.int zt, Value.ref t1, Value.ref t2, Value.ref t3, Value.ref t4, Value.ref t5, Value.ref t6])), Prod.mk t3 (Sum.inl (Prod.mk (cy 0) (Prod.mk 300 (Sum.inl ffr)))), Prod.mk t4 (Sum.inl (Prod.mk (cy 0) (Prod.mk 300 (Sum.inl fto))))] H := by rw [eH]; exact hP
  have hS : va_S A s.heap H locs := by rw [eH]; exact hS
  refine W.heapEq eH ?_
  clear eH eL
  refine lv_aload_n hx hb dX7_legsOf_0 rfl (lv_at hl 0 rfl) ?_
  refine va_get (D := D) (ci := 7) (v := .ref t3) (C := RX7) (T := TX7) (N := 7) hx hb hts in_X7 hown hK hP 0 rfl rfl 3 (by decide) w_1 (fun _ h9 => h9) rfl dX7_legsOf_1 ?_
  refine lv_iload_n hx hb dX7_legsOf_4 rfl (lv_at hl 1 rfl) ?_
  refine va_iald hx hb hK hP 1 0 rfl rfl (q_in (a := t.toInt) rfl (by omega) (by omega)) dX7_legsOf_5 ?_
  refine lv_topi (fun x5 ex5 => ?_)
  have tx5 := congrArg Int32.toInt ex5
  refine lv_aload_n hx hb dX7_legsOf_6 rfl (lv_at hl 0 rfl) ?_
  refine va_get (D := D) (ci := 7) (v := .ref t4) (C := RX7) (T := TX7) (N := 7) hx hb hts in_X7 hown hK hP 0 rfl rfl 4 (by decide) w_2 (fun _ h9 => h9) rfl dX7_legsOf_7 ?_
  refine lv_iload_n hx hb dX7_legsOf_10 rfl (lv_at hl 1 rfl) ?_
  refine va_iald hx hb hK hP 2 0 rfl rfl (q_in (a := t.toInt) rfl (by omega) (by omega)) dX7_legsOf_11 ?_
  refine lv_topi (fun x11 ex11 => ?_)
  have tx11 := congrArg Int32.toInt ex11
  refine k_i (va_runSN (As := [.int x5, .int x11]) (rest := []) ⟨hx, hb, hml, hown, hts⟩ (c_X9_legsBetween l D cy E x5 x11 H.size ) ⟨va_cnB 2 hts gX7_legsOf_X9_legsBetween_n38 rfl rfl rfl (hN.1.2.2.2.2.2.2.2.2.2.2) w_3 (by decide +kernel) ⟨Nat.le_of_ble_eq_true rfl, Nat.le_of_ble_eq_true rfl⟩, w_4, trivial⟩ (cp_s hK hN hS hAB hP hD [] rfl (by decide)) rfl rfl hl.1 rfl (lv_room (Nat.le_of_ble_eq_true rfl)) dX7_legsOf_12 ⟨Nat.le_of_ble_eq_true rfl, Nat.le_of_ble_eq_true rfl⟩) hP hD hS hA [] [0, 1, 2] (wr := [Prod.mk t0 (Sum.inr (Prod.mk 7 [Value.int zt, Value.ref t1, Value.ref t2, Value.ref t3, Value.ref t4, Value.ref t5, Value.ref t6])), Prod.mk t3 (Sum.inl (Prod.mk (cy 0) (Prod.mk 300 (Sum.inl ffr)))), Prod.mk t4 (Sum.inl (Prod.mk (cy 0) (Prod.mk 300 (Sum.inl fto))))]) rfl rfl (by decide) (by decide) (fun rr12 u_rr12 H locs hw12 hP hD hS => ?_)
  try dsimp only at hw12
  have hP : va_P D vwCl [Prod.mk t0 (Sum.inr (Prod.mk 7 [Value.int zt, Value.ref t1, Value.ref t2, Value.ref t3, Value.ref t4, Value.ref t5, Value.ref t6])), Prod.mk t3 (Sum.inl (Prod.mk (cy 0) (Prod.mk 300 (Sum.inl ffr)))), Prod.mk t4 (Sum.inl (Prod.mk (cy 0) (Prod.mk 300 (Sum.inl fto))))] H := hP
  have hD : va_D A [Prod.mk t0 (Sum.inr (Prod.mk 7 [Value.int zt, Value.ref t1, Value.ref t2, Value.ref t3, Value.ref t4, Value.ref t5, Value.ref t6])), Prod.mk t3 (Sum.inl (Prod.mk (cy 0) (Prod.mk 300 (Sum.inl ffr)))), Prod.mk t4 (Sum.inl (Prod.mk (cy 0) (Prod.mk 300 (Sum.inl fto))))] := hD
  exact r_i hx hb hr hlocks hK hS dX7_legsOf_15 (u := ()) hP hD (trivial)

abbrev Q_c_X7_liveOf (D : va_G) (cy : Nat → ClassId) (E : EN) (t0 : Nat) (t1 : Nat) (t2 : Nat) (t3 : Nat) (t4 : Nat) (t5 : Nat) (t6 : Nat) (zt : Int32) (fda : Nat → Int32) (fgi : Nat → Int32) (day : Int32) : (Nat → Prop) → Array Value → State → Outcome → State → Prop := QI D cy (fun (r : Int32) (_ : Unit) => True) (fun _ : Unit => [Prod.mk t0 (Sum.inr (Prod.mk 7 [Value.int zt, Value.ref t1, Value.ref t2, Value.ref t3, Value.ref t4, Value.ref t5, Value.ref t6])), Prod.mk t1 (Sum.inl (Prod.mk (cy 0) (Prod.mk 300 (Sum.inl fda)))), Prod.mk t6 (Sum.inl (Prod.mk (cy 0) (Prod.mk 300 (Sum.inl fgi))))])
set_option maxHeartbeats 4000000 in
set_option maxRecDepth 100000 in
theorem c_X7_liveOf (l : Launch) (D : va_G) (cy : Nat → ClassId) (E : EN) (t0 : Nat) (t1 : Nat) (t2 : Nat) (t3 : Nat) (t4 : Nat) (t5 : Nat) (t6 : Nat) (zt : Int32) (fda : Nat → Int32) (fgi : Nat → Int32) (day : Int32) (sz : Nat) (hzt : 0 ≤ zt.toInt ∧ zt.toInt ≤ 300) (hv_fda : AllI fda 300 0 59) : Met l yX7_liveOf wsX7_liveOf ({ frames := 1, cells := 0, slots := 0, locals := 22 } : Room) (CP D cy E [.ref t0, .int day] [Prod.mk t0 (Sum.inr (Prod.mk 7 [Value.int zt, Value.ref t1, Value.ref t2, Value.ref t3, Value.ref t4, Value.ref t5, Value.ref t6])), Prod.mk t1 (Sum.inl (Prod.mk (cy 0) (Prod.mk 300 (Sum.inl fda)))), Prod.mk t6 (Sum.inl (Prod.mk (cy 0) (Prod.mk 300 (Sum.inl fgi))))] sz) (Q_c_X7_liveOf D cy E t0 t1 t2 t3 t4 t5 t6 zt fda fgi day (va_A [Prod.mk t0 (Sum.inr (Prod.mk 7 [Value.int zt, Value.ref t1, Value.ref t2, Value.ref t3, Value.ref t4, Value.ref t5, Value.ref t6])), Prod.mk t1 (Sum.inl (Prod.mk (cy 0) (Prod.mk 300 (Sum.inl fda)))), Prod.mk t6 (Sum.inl (Prod.mk (cy 0) (Prod.mk 300 (Sum.inl fgi))))] sz)) 0 0 (va_A [Prod.mk t0 (Sum.inr (Prod.mk 7 [Value.int zt, Value.ref t1, Value.ref t2, Value.ref t3, Value.ref t4, Value.ref t5, Value.ref t6])), Prod.mk t1 (Sum.inl (Prod.mk (cy 0) (Prod.mk 300 (Sum.inl fda)))), Prod.mk t6 (Sum.inl (Prod.mk (cy 0) (Prod.mk 300 (Sum.inl fgi))))] sz) := by
  refine Met.go (Qc := Q_c_X7_liveOf D cy E t0 t1 t2 t3 t4 t5 t6 zt fda fgi day) (cc := cX7_liveOf) (maxL := 4) (ret := (some .int)) (by decide) rfl (Nat.le_of_ble_eq_true rfl) ?_
  intro p e s m below meth c hx hb hr hts hown hlocks hin hml hK hN A hA hAB hD hP hS ls hl hsz
  have hl : lv_has ls 4 [(0, .ref t0), (1, .int day)] := hl
  have in_X7 : ∀ w ∈ wsX70, w ∈ wsX7_liveOf := fun _ h => List.mem_cons_of_mem _ ((List.mem_append_right _ h))
  have w_1 := hts (.fieldLink RX7 30 "SleepingCars$Tickets" "size" "I") (by decide +kernel)
  have w_2 := hts (.instanceMethod yX7_isLive) (by decide +kernel)
  obtain ⟨H, eH⟩ : ∃ H : Heap, H = s.heap := ⟨_, rfl⟩
  obtain ⟨locs, eL⟩ : ∃ L : List Loc, L = [] := ⟨_, rfl⟩
  rw [← eL]
  rw [← eL] at hS
  have hP : va_P D vwCl [Prod.mk t0 (Sum.inr (Prod.mk 7 [Value.int zt, Value.ref t1, Value.ref t2, Value.ref t3, Value.ref t4, Value.ref t5, Value.ref t6])), Prod.mk t1 (Sum.inl (Prod.mk (cy 0) (Prod.mk 300 (Sum.inl fda)))), Prod.mk t6 (Sum.inl (Prod.mk (cy 0) (Prod.mk 300 (Sum.inl fgi))))] H := by rw [eH]; exact hP
  have hS : va_S A s.heap H locs := by rw [eH]; exact hS
  refine W.heapEq eH ?_
  clear eH eL
  refine lv_iconst (v := 0) hx hb dX7_liveOf_0 (by decide) ?_
  refine lv_istore_n (lv' := [(2, .int 0), (0, .ref t0), (1, .int day)]) hx hb dX7_liveOf_1 rfl hl (by decide) rfl (fun ls hl => ?_)
  refine lv_iconst (v := 0) hx hb dX7_liveOf_2 (by decide) ?_
  refine lv_istore_n (lv' := [(3, .int 0), (2, .int 0), (0, .ref t0), (1, .int day)]) hx hb dX7_liveOf_3 rfl hl (by decide) rfl (fun ls hl => ?_)
  have lp_4 : ∀ (n_4 : Nat) (i : Int32) (n : Int32), (0 ≤ i.toInt) → (i.toInt ≤ zt.toInt) → (300 - i.toInt).toNat < n_4 → ∀ (H : Heap) (locs : List Loc), va_P D vwCl [Prod.mk t0 (Sum.inr (Prod.mk 7 [Value.int zt, Value.ref t1, Value.ref t2, Value.ref t3, Value.ref t4, Value.ref t5, Value.ref t6])), Prod.mk t1 (Sum.inl (Prod.mk (cy 0) (Prod.mk 300 (Sum.inl fda)))), Prod.mk t6 (Sum.inl (Prod.mk (cy 0) (Prod.mk 300 (Sum.inl fgi))))] H → va_D A [Prod.mk t0 (Sum.inr (Prod.mk 7 [Value.int zt, Value.ref t1, Value.ref t2, Value.ref t3, Value.ref t4, Value.ref t5, Value.ref t6])), Prod.mk t1 (Sum.inl (Prod.mk (cy 0) (Prod.mk 300 (Sum.inl fda)))), Prod.mk t6 (Sum.inl (Prod.mk (cy 0) (Prod.mk 300 (Sum.inl fgi))))] → va_S A s.heap H locs → ∀ ls : Array Slot, lv_has ls 4 [(3, .int i), (2, .int n), (0, .ref t0), (1, .int day)] → W p l e (headSpec wsX7_liveOf ({ frames := 1, cells := 0, slots := 0, locals := 22 } : Room)).room s m ([.ref t0, .int day] : List Value).toArray below meth c H locs 0 0 (MQ below (Q_c_X7_liveOf D cy E t0 t1 t2 t3 t4 t5 t6 zt fda fgi day A) ([.ref t0, .int day] : List Value).toArray s 0 0 A) (F0 m 4 ls []) := by
    intro n_4
    induction n_4 with
    | zero => intro i n hi0 hi1 hmu; exact absurd hmu (Nat.not_lt_zero _)
    | succ n_4 ih_4 =>
      intro i n hi0 hi1 hmu_4 H locs hP hD hS ls hl
      refine lv_iload_n hx hb dX7_liveOf_4 rfl (lv_at hl 0 rfl) ?_
      refine lv_aload_n hx hb dX7_liveOf_5 rfl (lv_at hl 2 rfl) ?_
      refine va_get (D := D) (ci := 7) (v := .int zt) (C := RX7) (T := TX7) (N := 7) hx hb hts in_X7 hown hK hP 0 rfl rfl 0 (by decide) w_1 (fun _ h9 => h9) rfl dX7_liveOf_6 ?_
      refine lv_icmp_ge (tgt := 30) hx hb dX7_liveOf_9 (by decide) (fun c9 => ?_) (fun c9 => ?_)
      · skip
        have fc9 := q_le (a := zt.toInt) (b := i.toInt) c9 rfl rfl
        refine lv_iload_n hx hb dX7_liveOf_30 rfl (lv_at hl 1 rfl) ?_
        exact r_i hx hb hr hlocks hK hS dX7_liveOf_31 (u := ()) hP hD (trivial)
      · skip
        have fc9 := q_nle (a := zt.toInt) (b := i.toInt) c9 rfl rfl
        refine lv_aload_n hx hb dX7_liveOf_12 rfl (lv_at hl 2 rfl) ?_
        refine lv_iload_n hx hb dX7_liveOf_13 rfl (lv_at hl 0 rfl) ?_
        refine lv_iload_n hx hb dX7_liveOf_14 rfl (lv_at hl 3 rfl) ?_
        refine k_i (va_runV (As := [.int i, .int day]) (rest := []) ⟨hx, hb, hml, hown, hts⟩ (c_X7_isLive l D cy E t0 t1 t2 t3 t4 t5 t6 zt fda fgi i day H.size (by first | omega | decide | (constructor <;> first | omega | decide)) hv_fda) (cwV 2 hts gX7_liveOf_X7_isLive rfl rfl rfl (by decide +kernel) ⟨Nat.le_of_ble_eq_true rfl, Nat.le_of_ble_eq_true rfl⟩) (cp_v hK hN hS hAB hP hD [0, 1, 2] rfl (by decide) (ci := 7) rfl rfl rfl) rfl rfl hl.1 rfl (lv_room (Nat.le_of_ble_eq_true rfl)) dX7_liveOf_15 ⟨Nat.le_of_ble_eq_true rfl, Nat.le_of_ble_eq_true rfl⟩) hP hD hS hA [0, 1, 2] [] (wr := []) rfl rfl (by decide) (by decide) (fun rr15 u_rr15 H locs hw15 hP hD hS => ?_)
        try dsimp only at hw15
        have hP : va_P D vwCl [Prod.mk t0 (Sum.inr (Prod.mk 7 [Value.int zt, Value.ref t1, Value.ref t2, Value.ref t3, Value.ref t4, Value.ref t5, Value.ref t6])), Prod.mk t1 (Sum.inl (Prod.mk (cy 0) (Prod.mk 300 (Sum.inl fda)))), Prod.mk t6 (Sum.inl (Prod.mk (cy 0) (Prod.mk 300 (Sum.inl fgi))))] H := hP
        have hD : va_D A [Prod.mk t0 (Sum.inr (Prod.mk 7 [Value.int zt, Value.ref t1, Value.ref t2, Value.ref t3, Value.ref t4, Value.ref t5, Value.ref t6])), Prod.mk t1 (Sum.inl (Prod.mk (cy 0) (Prod.mk 300 (Sum.inl fda)))), Prod.mk t6 (Sum.inl (Prod.mk (cy 0) (Prod.mk 300 (Sum.inl fgi))))] := hD
        refine lv_if_eq (tgt := 24) hx hb dX7_liveOf_18 (by decide) (fun c18 => ?_) (fun c18 => ?_)
        · skip
          have fc18 := q_eq (a := rr15.toInt) (b := 0) c18 rfl (by decide)
          obtain ⟨x24, ex24⟩ : ∃ y : Int32, y = i + 1 := ⟨_, rfl⟩
          refine lv_iinc (v := x24) (lv' := [(3, .int x24), (2, .int n), (0, .ref t0), (1, .int day)]) hx hb dX7_liveOf_24 hl (k := 0) rfl (by rw [ex24]; rfl) (by decide) rfl (fun ls hl => ?_)
          have tx24 := q_add (p := i.toInt) (q := 1) ex24 rfl (by decide) (by omega) (by omega)
          refine lv_goto (tgt := 4) hx hb dX7_liveOf_27 (by decide) ?_
          exact ih_4 x24 n (by first | omega | decide | (rw [i32_0]; omega)) (by first | omega | decide | (rw [i32_0]; omega)) (by omega) H locs hP hD hS ls (lv_sub hl [0, 1, 2, 3] rfl)
        · skip
          have fc18 := q_ne (a := rr15.toInt) (b := 0) c18 rfl (by decide)
          obtain ⟨x21, ex21⟩ : ∃ y : Int32, y = n + 1 := ⟨_, rfl⟩
          refine lv_iinc (v := x21) (lv' := [(2, .int x21), (3, .int i), (0, .ref t0), (1, .int day)]) hx hb dX7_liveOf_21 hl (k := 1) rfl (by rw [ex21]; rfl) (by decide) rfl (fun ls hl => ?_)
          obtain ⟨x24, ex24⟩ : ∃ y : Int32, y = i + 1 := ⟨_, rfl⟩
          refine lv_iinc (v := x24) (lv' := [(3, .int x24), (2, .int x21), (0, .ref t0), (1, .int day)]) hx hb dX7_liveOf_24 hl (k := 1) rfl (by rw [ex24]; rfl) (by decide) rfl (fun ls hl => ?_)
          have tx24 := q_add (p := i.toInt) (q := 1) ex24 rfl (by decide) (by omega) (by omega)
          refine lv_goto (tgt := 4) hx hb dX7_liveOf_27 (by decide) ?_
          exact ih_4 x24 x21 (by first | omega | decide | (rw [i32_0]; omega)) (by first | omega | decide | (rw [i32_0]; omega)) (by omega) H locs hP hD hS ls (lv_sub hl [0, 1, 2, 3] rfl)
  exact lp_4 ((300 - (0 : Int32).toInt).toNat + 1) 0 0 (by first | omega | decide | (rw [i32_0]; omega) | (rw [i32_m1]; omega)) (by first | omega | decide | (rw [i32_0]; omega) | (rw [i32_m1]; omega)) (by first | omega | exact Nat.lt_succ_self _ | (rw [i32_0]; omega) | (rw [i32_1]; omega)) H locs hP hD hS ls (lv_sub hl [0, 1, 2, 3] rfl)

abbrev Q_c_X7_find (D : va_G) (cy : Nat → ClassId) (E : EN) (t0 : Nat) (t1 : Nat) (t2 : Nat) (t3 : Nat) (t4 : Nat) (t5 : Nat) (t6 : Nat) (zt : Int32) (fda : Nat → Int32) (fbt : Nat → Int32) (ffr : Nat → Int32) (fto : Nat → Int32) (fgi : Nat → Int32) (day : Int32) (berth : Int32) (stop : Int32) : (Nat → Prop) → Array Value → State → Outcome → State → Prop := QI D cy (fun (r : Int32) (_ : Unit) => True) (fun _ : Unit => [Prod.mk t0 (Sum.inr (Prod.mk 7 [Value.int zt, Value.ref t1, Value.ref t2, Value.ref t3, Value.ref t4, Value.ref t5, Value.ref t6])), Prod.mk t1 (Sum.inl (Prod.mk (cy 0) (Prod.mk 300 (Sum.inl fda)))), Prod.mk t2 (Sum.inl (Prod.mk (cy 0) (Prod.mk 300 (Sum.inl fbt)))), Prod.mk t3 (Sum.inl (Prod.mk (cy 0) (Prod.mk 300 (Sum.inl ffr)))), Prod.mk t4 (Sum.inl (Prod.mk (cy 0) (Prod.mk 300 (Sum.inl fto)))), Prod.mk t6 (Sum.inl (Prod.mk (cy 0) (Prod.mk 300 (Sum.inl fgi))))])
set_option maxHeartbeats 4000000 in
set_option maxRecDepth 100000 in
theorem c_X7_find (l : Launch) (D : va_G) (cy : Nat → ClassId) (E : EN) (t0 : Nat) (t1 : Nat) (t2 : Nat) (t3 : Nat) (t4 : Nat) (t5 : Nat) (t6 : Nat) (zt : Int32) (fda : Nat → Int32) (fbt : Nat → Int32) (ffr : Nat → Int32) (fto : Nat → Int32) (fgi : Nat → Int32) (day : Int32) (berth : Int32) (stop : Int32) (sz : Nat) (hzt : 0 ≤ zt.toInt ∧ zt.toInt ≤ 300) (hv_fda : AllI fda 300 0 59) (hv_fbt : AllI fbt 300 0 9) : Met l yX7_find wsX7_find ({ frames := 1, cells := 0, slots := 0, locals := 22 } : Room) (CP D cy E [.ref t0, .int day, .int berth, .int stop] [Prod.mk t0 (Sum.inr (Prod.mk 7 [Value.int zt, Value.ref t1, Value.ref t2, Value.ref t3, Value.ref t4, Value.ref t5, Value.ref t6])), Prod.mk t1 (Sum.inl (Prod.mk (cy 0) (Prod.mk 300 (Sum.inl fda)))), Prod.mk t2 (Sum.inl (Prod.mk (cy 0) (Prod.mk 300 (Sum.inl fbt)))), Prod.mk t3 (Sum.inl (Prod.mk (cy 0) (Prod.mk 300 (Sum.inl ffr)))), Prod.mk t4 (Sum.inl (Prod.mk (cy 0) (Prod.mk 300 (Sum.inl fto)))), Prod.mk t6 (Sum.inl (Prod.mk (cy 0) (Prod.mk 300 (Sum.inl fgi))))] sz) (Q_c_X7_find D cy E t0 t1 t2 t3 t4 t5 t6 zt fda fbt ffr fto fgi day berth stop (va_A [Prod.mk t0 (Sum.inr (Prod.mk 7 [Value.int zt, Value.ref t1, Value.ref t2, Value.ref t3, Value.ref t4, Value.ref t5, Value.ref t6])), Prod.mk t1 (Sum.inl (Prod.mk (cy 0) (Prod.mk 300 (Sum.inl fda)))), Prod.mk t2 (Sum.inl (Prod.mk (cy 0) (Prod.mk 300 (Sum.inl fbt)))), Prod.mk t3 (Sum.inl (Prod.mk (cy 0) (Prod.mk 300 (Sum.inl ffr)))), Prod.mk t4 (Sum.inl (Prod.mk (cy 0) (Prod.mk 300 (Sum.inl fto)))), Prod.mk t6 (Sum.inl (Prod.mk (cy 0) (Prod.mk 300 (Sum.inl fgi))))] sz)) 0 0 (va_A [Prod.mk t0 (Sum.inr (Prod.mk 7 [Value.int zt, Value.ref t1, Value.ref t2, Value.ref t3, Value.ref t4, Value.ref t5, Value.ref t6])), Prod.mk t1 (Sum.inl (Prod.mk (cy 0) (Prod.mk 300 (Sum.inl fda)))), Prod.mk t2 (Sum.inl (Prod.mk (cy 0) (Prod.mk 300 (Sum.inl fbt)))), Prod.mk t3 (Sum.inl (Prod.mk (cy 0) (Prod.mk 300 (Sum.inl ffr)))), Prod.mk t4 (Sum.inl (Prod.mk (cy 0) (Prod.mk 300 (Sum.inl fto)))), Prod.mk t6 (Sum.inl (Prod.mk (cy 0) (Prod.mk 300 (Sum.inl fgi))))] sz) := by
  refine Met.go (Qc := Q_c_X7_find D cy E t0 t1 t2 t3 t4 t5 t6 zt fda fbt ffr fto fgi day berth stop) (cc := cX7_find) (maxL := 5) (ret := (some .int)) (by decide) rfl (Nat.le_of_ble_eq_true rfl) ?_
  intro p e s m below meth c hx hb hr hts hown hlocks hin hml hK hN A hA hAB hD hP hS ls hl hsz
  have hl : lv_has ls 5 [(0, .ref t0), (1, .int day), (2, .int berth), (3, .int stop)] := hl
  have in_X7 : ∀ w ∈ wsX70, w ∈ wsX7_find := fun _ h => List.mem_cons_of_mem _ ((List.mem_append_right _ h))
  have w_1 := hts (.fieldLink RX7 30 "SleepingCars$Tickets" "size" "I") (by decide +kernel)
  have w_2 := hts (.instanceMethod yX7_isLive) (by decide +kernel)
  have w_3 := hts (.fieldLink RX7 15 "SleepingCars$Tickets" "berths" "[I") (by decide +kernel)
  have w_4 := hts (.fieldLink RX7 18 "SleepingCars$Tickets" "froms" "[I") (by decide +kernel)
  have w_5 := hts (.fieldLink RX7 21 "SleepingCars$Tickets" "tos" "[I") (by decide +kernel)
  obtain ⟨H, eH⟩ : ∃ H : Heap, H = s.heap := ⟨_, rfl⟩
  obtain ⟨locs, eL⟩ : ∃ L : List Loc, L = [] := ⟨_, rfl⟩
  rw [← eL]
  rw [← eL] at hS
  have hP : va_P D vwCl [Prod.mk t0 (Sum.inr (Prod.mk 7 [Value.int zt, Value.ref t1, Value.ref t2, Value.ref t3, Value.ref t4, Value.ref t5, Value.ref t6])), Prod.mk t1 (Sum.inl (Prod.mk (cy 0) (Prod.mk 300 (Sum.inl fda)))), Prod.mk t2 (Sum.inl (Prod.mk (cy 0) (Prod.mk 300 (Sum.inl fbt)))), Prod.mk t3 (Sum.inl (Prod.mk (cy 0) (Prod.mk 300 (Sum.inl ffr)))), Prod.mk t4 (Sum.inl (Prod.mk (cy 0) (Prod.mk 300 (Sum.inl fto)))), Prod.mk t6 (Sum.inl (Prod.mk (cy 0) (Prod.mk 300 (Sum.inl fgi))))] H := by rw [eH]; exact hP
  have hS : va_S A s.heap H locs := by rw [eH]; exact hS
  refine W.heapEq eH ?_
  clear eH eL
  refine lv_iconst (v := 0) hx hb dX7_find_0 (by decide) ?_
  refine lv_istore (lv' := [(4, .int 0), (0, .ref t0), (1, .int day), (2, .int berth), (3, .int stop)]) hx hb dX7_find_1 hl (by decide) rfl (fun ls hl => ?_)
  have lp_3 : ∀ (n_3 : Nat) (i : Int32), (0 ≤ i.toInt) → (i.toInt ≤ zt.toInt) → (300 - i.toInt).toNat < n_3 → ∀ (H : Heap) (locs : List Loc), va_P D vwCl [Prod.mk t0 (Sum.inr (Prod.mk 7 [Value.int zt, Value.ref t1, Value.ref t2, Value.ref t3, Value.ref t4, Value.ref t5, Value.ref t6])), Prod.mk t1 (Sum.inl (Prod.mk (cy 0) (Prod.mk 300 (Sum.inl fda)))), Prod.mk t2 (Sum.inl (Prod.mk (cy 0) (Prod.mk 300 (Sum.inl fbt)))), Prod.mk t3 (Sum.inl (Prod.mk (cy 0) (Prod.mk 300 (Sum.inl ffr)))), Prod.mk t4 (Sum.inl (Prod.mk (cy 0) (Prod.mk 300 (Sum.inl fto)))), Prod.mk t6 (Sum.inl (Prod.mk (cy 0) (Prod.mk 300 (Sum.inl fgi))))] H → va_D A [Prod.mk t0 (Sum.inr (Prod.mk 7 [Value.int zt, Value.ref t1, Value.ref t2, Value.ref t3, Value.ref t4, Value.ref t5, Value.ref t6])), Prod.mk t1 (Sum.inl (Prod.mk (cy 0) (Prod.mk 300 (Sum.inl fda)))), Prod.mk t2 (Sum.inl (Prod.mk (cy 0) (Prod.mk 300 (Sum.inl fbt)))), Prod.mk t3 (Sum.inl (Prod.mk (cy 0) (Prod.mk 300 (Sum.inl ffr)))), Prod.mk t4 (Sum.inl (Prod.mk (cy 0) (Prod.mk 300 (Sum.inl fto)))), Prod.mk t6 (Sum.inl (Prod.mk (cy 0) (Prod.mk 300 (Sum.inl fgi))))] → va_S A s.heap H locs → ∀ ls : Array Slot, lv_has ls 5 [(4, .int i), (0, .ref t0), (1, .int day), (2, .int berth), (3, .int stop)] → W p l e (headSpec wsX7_find ({ frames := 1, cells := 0, slots := 0, locals := 22 } : Room)).room s m ([.ref t0, .int day, .int berth, .int stop] : List Value).toArray below meth c H locs 0 0 (MQ below (Q_c_X7_find D cy E t0 t1 t2 t3 t4 t5 t6 zt fda fbt ffr fto fgi day berth stop A) ([.ref t0, .int day, .int berth, .int stop] : List Value).toArray s 0 0 A) (F0 m 3 ls []) := by
    intro n_3
    induction n_3 with
    | zero => intro i hi0 hi1 hmu; exact absurd hmu (Nat.not_lt_zero _)
    | succ n_3 ih_3 =>
      intro i hi0 hi1 hmu_3 H locs hP hD hS ls hl
      refine lv_iload hx hb dX7_find_3 (lv_at hl 0 rfl) ?_
      refine lv_aload_n hx hb dX7_find_5 rfl (lv_at hl 1 rfl) ?_
      refine va_get (D := D) (ci := 7) (v := .int zt) (C := RX7) (T := TX7) (N := 7) hx hb hts in_X7 hown hK hP 0 rfl rfl 0 (by decide) w_1 (fun _ h9 => h9) rfl dX7_find_6 ?_
      refine lv_icmp_ge (tgt := 64) hx hb dX7_find_9 (by decide) (fun c9 => ?_) (fun c9 => ?_)
      · skip
        have fc9 := q_le (a := zt.toInt) (b := i.toInt) c9 rfl rfl
        refine lv_iconst (v := (-1)) hx hb dX7_find_64 (by decide) ?_
        exact r_i hx hb hr hlocks hK hS dX7_find_65 (u := ()) hP hD (trivial)
      · skip
        have fc9 := q_nle (a := zt.toInt) (b := i.toInt) c9 rfl rfl
        refine lv_aload_n hx hb dX7_find_12 rfl (lv_at hl 1 rfl) ?_
        refine lv_iload hx hb dX7_find_13 (lv_at hl 0 rfl) ?_
        refine lv_iload_n hx hb dX7_find_15 rfl (lv_at hl 2 rfl) ?_
        refine k_i (va_runV (As := [.int i, .int day]) (rest := []) ⟨hx, hb, hml, hown, hts⟩ (c_X7_isLive l D cy E t0 t1 t2 t3 t4 t5 t6 zt fda fgi i day H.size (by first | omega | decide | (constructor <;> first | omega | decide)) hv_fda) (cwV 2 hts gX7_find_X7_isLive rfl rfl rfl (by decide +kernel) ⟨Nat.le_of_ble_eq_true rfl, Nat.le_of_ble_eq_true rfl⟩) (cp_v hK hN hS hAB hP hD [0, 1, 5] rfl (by decide) (ci := 7) rfl rfl rfl) rfl rfl hl.1 rfl (lv_room (Nat.le_of_ble_eq_true rfl)) dX7_find_16 ⟨Nat.le_of_ble_eq_true rfl, Nat.le_of_ble_eq_true rfl⟩) hP hD hS hA [0, 1, 5] [2, 3, 4] (wr := [Prod.mk t2 (Sum.inl (Prod.mk (cy 0) (Prod.mk 300 (Sum.inl fbt)))), Prod.mk t3 (Sum.inl (Prod.mk (cy 0) (Prod.mk 300 (Sum.inl ffr)))), Prod.mk t4 (Sum.inl (Prod.mk (cy 0) (Prod.mk 300 (Sum.inl fto))))]) rfl rfl (by decide) (by decide) (fun rr16 u_rr16 H locs hw16 hP hD hS => ?_)
        try dsimp only at hw16
        have hP : va_P D vwCl [Prod.mk t2 (Sum.inl (Prod.mk (cy 0) (Prod.mk 300 (Sum.inl fbt)))), Prod.mk t3 (Sum.inl (Prod.mk (cy 0) (Prod.mk 300 (Sum.inl ffr)))), Prod.mk t4 (Sum.inl (Prod.mk (cy 0) (Prod.mk 300 (Sum.inl fto)))), Prod.mk t0 (Sum.inr (Prod.mk 7 [Value.int zt, Value.ref t1, Value.ref t2, Value.ref t3, Value.ref t4, Value.ref t5, Value.ref t6])), Prod.mk t1 (Sum.inl (Prod.mk (cy 0) (Prod.mk 300 (Sum.inl fda)))), Prod.mk t6 (Sum.inl (Prod.mk (cy 0) (Prod.mk 300 (Sum.inl fgi))))] H := hP
        have hD : va_D A [Prod.mk t2 (Sum.inl (Prod.mk (cy 0) (Prod.mk 300 (Sum.inl fbt)))), Prod.mk t3 (Sum.inl (Prod.mk (cy 0) (Prod.mk 300 (Sum.inl ffr)))), Prod.mk t4 (Sum.inl (Prod.mk (cy 0) (Prod.mk 300 (Sum.inl fto)))), Prod.mk t0 (Sum.inr (Prod.mk 7 [Value.int zt, Value.ref t1, Value.ref t2, Value.ref t3, Value.ref t4, Value.ref t5, Value.ref t6])), Prod.mk t1 (Sum.inl (Prod.mk (cy 0) (Prod.mk 300 (Sum.inl fda)))), Prod.mk t6 (Sum.inl (Prod.mk (cy 0) (Prod.mk 300 (Sum.inl fgi))))] := hD
        refine lv_if_eq (tgt := 58) hx hb dX7_find_19 (by decide) (fun c19 => ?_) (fun c19 => ?_)
        · skip
          have fc19 := q_eq (a := rr16.toInt) (b := 0) c19 rfl (by decide)
          obtain ⟨x58, ex58⟩ : ∃ y : Int32, y = i + 1 := ⟨_, rfl⟩
          refine lv_iinc (v := x58) (lv' := [(4, .int x58), (0, .ref t0), (1, .int day), (2, .int berth), (3, .int stop)]) hx hb dX7_find_58 hl (k := 0) rfl (by rw [ex58]; rfl) (by decide) rfl (fun ls hl => ?_)
          have tx58 := q_add (p := i.toInt) (q := 1) ex58 rfl (by decide) (by omega) (by omega)
          refine lv_goto (tgt := 3) hx hb dX7_find_61 (by decide) ?_
          exact ih_3 x58 (by first | omega | decide | (rw [i32_0]; omega)) (by first | omega | decide | (rw [i32_0]; omega)) (by omega) H locs (hP.sub [3, 4, 0, 1, 2, 5] rfl) (hD.sub [3, 4, 0, 1, 2, 5] (by decide) rfl) hS ls (lv_sub hl [0, 1, 2, 3, 4] rfl)
        · skip
          have fc19 := q_ne (a := rr16.toInt) (b := 0) c19 rfl (by decide)
          refine lv_aload_n hx hb dX7_find_22 rfl (lv_at hl 1 rfl) ?_
          refine va_get (D := D) (ci := 7) (v := .ref t2) (C := RX7) (T := TX7) (N := 7) hx hb hts in_X7 hown hK hP 3 rfl rfl 2 (by decide) w_3 (fun _ h9 => h9) rfl dX7_find_23 ?_
          refine lv_iload hx hb dX7_find_26 (lv_at hl 0 rfl) ?_
          refine va_iald hx hb hK hP 0 0 rfl rfl (q_in (a := i.toInt) rfl (by omega) (by omega)) dX7_find_28 ?_
          refine lv_topi (fun x28 ex28 => ?_)
          have tx28 := congrArg Int32.toInt ex28
          have ix28 := hv_fbt i.toNatClampNeg (cn (by omega) (by decide))
          refine lv_iload_n hx hb dX7_find_29 rfl (lv_at hl 3 rfl) ?_
          refine lv_icmp_ne (tgt := 58) hx hb dX7_find_30 (by decide) (fun c30 => ?_) (fun c30 => ?_)
          · skip
            have fc30 := q_ne (a := x28.toInt) (b := berth.toInt) c30 rfl rfl
            obtain ⟨x58, ex58⟩ : ∃ y : Int32, y = i + 1 := ⟨_, rfl⟩
            refine lv_iinc (v := x58) (lv' := [(4, .int x58), (0, .ref t0), (1, .int day), (2, .int berth), (3, .int stop)]) hx hb dX7_find_58 hl (k := 0) rfl (by rw [ex58]; rfl) (by decide) rfl (fun ls hl => ?_)
            have tx58 := q_add (p := i.toInt) (q := 1) ex58 rfl (by decide) (by omega) (by omega)
            refine lv_goto (tgt := 3) hx hb dX7_find_61 (by decide) ?_
            exact ih_3 x58 (by first | omega | decide | (rw [i32_0]; omega)) (by first | omega | decide | (rw [i32_0]; omega)) (by omega) H locs (hP.sub [3, 4, 0, 1, 2, 5] rfl) (hD.sub [3, 4, 0, 1, 2, 5] (by decide) rfl) hS ls (lv_sub hl [0, 1, 2, 3, 4] rfl)
          · skip
            have fc30 := q_eq (a := x28.toInt) (b := berth.toInt) c30 rfl rfl
            refine lv_aload_n hx hb dX7_find_33 rfl (lv_at hl 1 rfl) ?_
            refine va_get (D := D) (ci := 7) (v := .ref t3) (C := RX7) (T := TX7) (N := 7) hx hb hts in_X7 hown hK hP 3 rfl rfl 3 (by decide) w_4 (fun _ h9 => h9) rfl dX7_find_34 ?_
            refine lv_iload hx hb dX7_find_37 (lv_at hl 0 rfl) ?_
            refine va_iald hx hb hK hP 1 0 rfl rfl (q_in (a := i.toInt) rfl (by omega) (by omega)) dX7_find_39 ?_
            refine lv_topi (fun x39 ex39 => ?_)
            have tx39 := congrArg Int32.toInt ex39
            refine lv_iload_n hx hb dX7_find_40 rfl (lv_at hl 4 rfl) ?_
            refine lv_icmp_gt (tgt := 58) hx hb dX7_find_41 (by decide) (fun c41 => ?_) (fun c41 => ?_)
            · skip
              have fc41 := q_lt (a := stop.toInt) (b := x39.toInt) c41 rfl rfl
              obtain ⟨x58, ex58⟩ : ∃ y : Int32, y = i + 1 := ⟨_, rfl⟩
              refine lv_iinc (v := x58) (lv' := [(4, .int x58), (0, .ref t0), (1, .int day), (2, .int berth), (3, .int stop)]) hx hb dX7_find_58 hl (k := 0) rfl (by rw [ex58]; rfl) (by decide) rfl (fun ls hl => ?_)
              have tx58 := q_add (p := i.toInt) (q := 1) ex58 rfl (by decide) (by omega) (by omega)
              refine lv_goto (tgt := 3) hx hb dX7_find_61 (by decide) ?_
              exact ih_3 x58 (by first | omega | decide | (rw [i32_0]; omega)) (by first | omega | decide | (rw [i32_0]; omega)) (by omega) H locs (hP.sub [3, 4, 0, 1, 2, 5] rfl) (hD.sub [3, 4, 0, 1, 2, 5] (by decide) rfl) hS ls (lv_sub hl [0, 1, 2, 3, 4] rfl)
            · skip
              have fc41 := q_nlt (a := stop.toInt) (b := x39.toInt) c41 rfl rfl
              refine lv_iload_n hx hb dX7_find_44 rfl (lv_at hl 4 rfl) ?_
              refine lv_aload_n hx hb dX7_find_45 rfl (lv_at hl 1 rfl) ?_
              refine va_get (D := D) (ci := 7) (v := .ref t4) (C := RX7) (T := TX7) (N := 7) hx hb hts in_X7 hown hK hP 3 rfl rfl 4 (by decide) w_5 (fun _ h9 => h9) rfl dX7_find_46 ?_
              refine lv_iload hx hb dX7_find_49 (lv_at hl 0 rfl) ?_
              refine va_iald hx hb hK hP 2 0 rfl rfl (q_in (a := i.toInt) rfl (by omega) (by omega)) dX7_find_51 ?_
              refine lv_topi (fun x51 ex51 => ?_)
              have tx51 := congrArg Int32.toInt ex51
              refine lv_icmp_ge (tgt := 58) hx hb dX7_find_52 (by decide) (fun c52 => ?_) (fun c52 => ?_)
              · skip
                have fc52 := q_le (a := x51.toInt) (b := stop.toInt) c52 rfl rfl
                obtain ⟨x58, ex58⟩ : ∃ y : Int32, y = i + 1 := ⟨_, rfl⟩
                refine lv_iinc (v := x58) (lv' := [(4, .int x58), (0, .ref t0), (1, .int day), (2, .int berth), (3, .int stop)]) hx hb dX7_find_58 hl (k := 0) rfl (by rw [ex58]; rfl) (by decide) rfl (fun ls hl => ?_)
                have tx58 := q_add (p := i.toInt) (q := 1) ex58 rfl (by decide) (by omega) (by omega)
                refine lv_goto (tgt := 3) hx hb dX7_find_61 (by decide) ?_
                exact ih_3 x58 (by first | omega | decide | (rw [i32_0]; omega)) (by first | omega | decide | (rw [i32_0]; omega)) (by omega) H locs (hP.sub [3, 4, 0, 1, 2, 5] rfl) (hD.sub [3, 4, 0, 1, 2, 5] (by decide) rfl) hS ls (lv_sub hl [0, 1, 2, 3, 4] rfl)
              · skip
                have fc52 := q_nle (a := x51.toInt) (b := stop.toInt) c52 rfl rfl
                refine lv_iload hx hb dX7_find_55 (lv_at hl 0 rfl) ?_
                exact r_i hx hb hr hlocks hK hS dX7_find_57 (u := ()) (hP.sub (ws' := [Prod.mk t0 (Sum.inr (Prod.mk 7 [Value.int zt, Value.ref t1, Value.ref t2, Value.ref t3, Value.ref t4, Value.ref t5, Value.ref t6])), Prod.mk t1 (Sum.inl (Prod.mk (cy 0) (Prod.mk 300 (Sum.inl fda)))), Prod.mk t2 (Sum.inl (Prod.mk (cy 0) (Prod.mk 300 (Sum.inl fbt)))), Prod.mk t3 (Sum.inl (Prod.mk (cy 0) (Prod.mk 300 (Sum.inl ffr)))), Prod.mk t4 (Sum.inl (Prod.mk (cy 0) (Prod.mk 300 (Sum.inl fto)))), Prod.mk t6 (Sum.inl (Prod.mk (cy 0) (Prod.mk 300 (Sum.inl fgi))))]) [3, 4, 0, 1, 2, 5] rfl) (hD.sub (ws' := [Prod.mk t0 (Sum.inr (Prod.mk 7 [Value.int zt, Value.ref t1, Value.ref t2, Value.ref t3, Value.ref t4, Value.ref t5, Value.ref t6])), Prod.mk t1 (Sum.inl (Prod.mk (cy 0) (Prod.mk 300 (Sum.inl fda)))), Prod.mk t2 (Sum.inl (Prod.mk (cy 0) (Prod.mk 300 (Sum.inl fbt)))), Prod.mk t3 (Sum.inl (Prod.mk (cy 0) (Prod.mk 300 (Sum.inl ffr)))), Prod.mk t4 (Sum.inl (Prod.mk (cy 0) (Prod.mk 300 (Sum.inl fto)))), Prod.mk t6 (Sum.inl (Prod.mk (cy 0) (Prod.mk 300 (Sum.inl fgi))))]) [3, 4, 0, 1, 2, 5] (by decide) rfl) (trivial)
  exact lp_3 ((300 - (0 : Int32).toInt).toNat + 1) 0 (by first | omega | decide | (rw [i32_0]; omega) | (rw [i32_m1]; omega)) (by first | omega | decide | (rw [i32_0]; omega) | (rw [i32_m1]; omega)) (by first | omega | exact Nat.lt_succ_self _ | (rw [i32_0]; omega) | (rw [i32_1]; omega)) H locs hP hD hS ls (lv_sub hl [0, 1, 2, 3, 4] rfl)

abbrev Q_c_X1_has (D : va_G) (cy : Nat → ClassId) (E : EN) (l0 : Nat) (l1 : Nat) (l2 : Nat) (l3 : Nat) (l4 : Nat) (l5 : Nat) (l6 : Nat) (l7 : Nat) (zl : Int32) (t : Int32) : (Nat → Prop) → Array Value → State → Outcome → State → Prop := QI D cy (fun (r : Int32) (_ : Unit) => (r.toInt = 1 ∧ (0 ≤ t.toInt ∧ t.toInt < zl.toInt)) ∨ (r.toInt = 0 ∧ ¬ (0 ≤ t.toInt ∧ t.toInt < zl.toInt))) (fun _ : Unit => [Prod.mk l0 (Sum.inr (Prod.mk 1 [Value.int zl, Value.ref l1, Value.ref l2, Value.ref l3, Value.ref l4, Value.ref l5, Value.ref l6, Value.ref l7]))])
set_option maxHeartbeats 4000000 in
set_option maxRecDepth 100000 in
theorem c_X1_has (l : Launch) (D : va_G) (cy : Nat → ClassId) (E : EN) (l0 : Nat) (l1 : Nat) (l2 : Nat) (l3 : Nat) (l4 : Nat) (l5 : Nat) (l6 : Nat) (l7 : Nat) (zl : Int32) (t : Int32) (sz : Nat)  : Met l yX1_has wsX1_has ({ frames := 0, cells := 0, slots := 0, locals := 0 } : Room) (CP D cy E [.ref l0, .int t] [Prod.mk l0 (Sum.inr (Prod.mk 1 [Value.int zl, Value.ref l1, Value.ref l2, Value.ref l3, Value.ref l4, Value.ref l5, Value.ref l6, Value.ref l7]))] sz) (Q_c_X1_has D cy E l0 l1 l2 l3 l4 l5 l6 l7 zl t (va_A [Prod.mk l0 (Sum.inr (Prod.mk 1 [Value.int zl, Value.ref l1, Value.ref l2, Value.ref l3, Value.ref l4, Value.ref l5, Value.ref l6, Value.ref l7]))] sz)) 0 0 (va_A [Prod.mk l0 (Sum.inr (Prod.mk 1 [Value.int zl, Value.ref l1, Value.ref l2, Value.ref l3, Value.ref l4, Value.ref l5, Value.ref l6, Value.ref l7]))] sz) := by
  refine Met.go (Qc := Q_c_X1_has D cy E l0 l1 l2 l3 l4 l5 l6 l7 zl t) (cc := cX1_has) (maxL := 2) (ret := (some .boolean)) (by decide) rfl (Nat.le_of_ble_eq_true rfl) ?_
  intro p e s m below meth c hx hb hr hts hown hlocks hin hml hK hN A hA hAB hD hP hS ls hl hsz
  have hl : lv_has ls 2 [(0, .ref l0), (1, .int t)] := hl
  have in_X1 : ∀ w ∈ wsX10, w ∈ wsX1_has := fun _ h => List.mem_cons_of_mem _ ((List.mem_append_right _ h))
  have w_1 := hts (.fieldLink RX1 33 "SleepingCars$Letters" "size" "I") (by decide +kernel)
  obtain ⟨H, eH⟩ : ∃ H : Heap, H = s.heap := ⟨_, rfl⟩
  obtain ⟨locs, eL⟩ : ∃ L : List Loc, L = [] := ⟨_, rfl⟩
  rw [← eL]
  rw [← eL] at hS
  have hP : va_P D vwCl [Prod.mk l0 (Sum.inr (Prod.mk 1 [Value.int zl, Value.ref l1, Value.ref l2, Value.ref l3, Value.ref l4, Value.ref l5, Value.ref l6, Value.ref l7]))] H := by rw [eH]; exact hP
  have hS : va_S A s.heap H locs := by rw [eH]; exact hS
  refine W.heapEq eH ?_
  clear eH eL
  refine lv_iload_n hx hb dX1_has_0 rfl (lv_at hl 1 rfl) ?_
  refine lv_if_lt (tgt := 16) hx hb dX1_has_1 (by decide) (fun c1 => ?_) (fun c1 => ?_)
  · skip
    have fc1 := q_lt (a := t.toInt) (b := 0) c1 rfl (by decide)
    refine lv_iconst (v := 0) hx hb dX1_has_16 (by decide) ?_
    exact r_z hx hb hr hlocks hK hS dX1_has_17 (by decide) (u := ()) hP hD (by first | exact Or.inl ⟨by decide, by omega⟩ | exact Or.inr ⟨by decide, by omega⟩)
  · skip
    have fc1 := q_nlt (a := t.toInt) (b := 0) c1 rfl (by decide)
    refine lv_iload_n hx hb dX1_has_4 rfl (lv_at hl 1 rfl) ?_
    refine lv_aload_n hx hb dX1_has_5 rfl (lv_at hl 0 rfl) ?_
    refine va_get (D := D) (ci := 1) (v := .int zl) (C := RX1) (T := TX1) (N := 8) hx hb hts in_X1 hown hK hP 0 rfl rfl 0 (by decide) w_1 (fun _ h9 => h9) rfl dX1_has_6 ?_
    refine lv_icmp_ge (tgt := 16) hx hb dX1_has_9 (by decide) (fun c9 => ?_) (fun c9 => ?_)
    · skip
      have fc9 := q_le (a := zl.toInt) (b := t.toInt) c9 rfl rfl
      refine lv_iconst (v := 0) hx hb dX1_has_16 (by decide) ?_
      exact r_z hx hb hr hlocks hK hS dX1_has_17 (by decide) (u := ()) hP hD (by first | exact Or.inl ⟨by decide, by omega⟩ | exact Or.inr ⟨by decide, by omega⟩)
    · skip
      have fc9 := q_nle (a := zl.toInt) (b := t.toInt) c9 rfl rfl
      refine lv_iconst (v := 1) hx hb dX1_has_12 (by decide) ?_
      refine lv_goto (tgt := 17) hx hb dX1_has_13 (by decide) ?_
      exact r_z hx hb hr hlocks hK hS dX1_has_17 (by decide) (u := ()) hP hD (by first | exact Or.inl ⟨by decide, by omega⟩ | exact Or.inr ⟨by decide, by omega⟩)

abbrev Q_c_X1_add (D : va_G) (cy : Nat → ClassId) (E : EN) (l0 : Nat) (l1 : Nat) (l2 : Nat) (l3 : Nat) (l4 : Nat) (l5 : Nat) (l6 : Nat) (l7 : Nat) (zl : Int32) (lof : Nat → Int32) (lda : Nat → Int32) (lfr : Nat → Int32) (lto : Nat → Int32) (lco : Nat → Int32) (lan : Nat → Int32) (lso : Nat → Int32) (o : Int32) (day : Int32) (a : Int32) (b : Int32) (cm : Int32) (an : Int32) : (Nat → Prop) → Array Value → State → Outcome → State → Prop := QI D cy (fun (r : Int32) (u : Int32 × (Nat → Int32) × (Nat → Int32) × (Nat → Int32) × (Nat → Int32) × (Nat → Int32) × (Nat → Int32) × (Nat → Int32)) => match u with | (zz, mof, mda, mfr, mto, mco, man, mso) => (0 ≤ zz.toInt ∧ zz.toInt ≤ 100) ∧ AllI mda 100 0 59) (fun u : Int32 × (Nat → Int32) × (Nat → Int32) × (Nat → Int32) × (Nat → Int32) × (Nat → Int32) × (Nat → Int32) × (Nat → Int32) => match u with | (zz, mof, mda, mfr, mto, mco, man, mso) => [Prod.mk l0 (Sum.inr (Prod.mk 1 [Value.int zz, Value.ref l1, Value.ref l2, Value.ref l3, Value.ref l4, Value.ref l5, Value.ref l6, Value.ref l7])), Prod.mk l1 (Sum.inl (Prod.mk (cy 0) (Prod.mk 100 (Sum.inl mof)))), Prod.mk l2 (Sum.inl (Prod.mk (cy 0) (Prod.mk 100 (Sum.inl mda)))), Prod.mk l3 (Sum.inl (Prod.mk (cy 0) (Prod.mk 100 (Sum.inl mfr)))), Prod.mk l4 (Sum.inl (Prod.mk (cy 0) (Prod.mk 100 (Sum.inl mto)))), Prod.mk l5 (Sum.inl (Prod.mk (cy 0) (Prod.mk 100 (Sum.inl mco)))), Prod.mk l6 (Sum.inl (Prod.mk (cy 0) (Prod.mk 100 (Sum.inl man)))), Prod.mk l7 (Sum.inl (Prod.mk (cy 0) (Prod.mk 100 (Sum.inl mso))))])
set_option maxHeartbeats 4000000 in
set_option maxRecDepth 100000 in
theorem c_X1_add (l : Launch) (D : va_G) (cy : Nat → ClassId) (E : EN) (l0 : Nat) (l1 : Nat) (l2 : Nat) (l3 : Nat) (l4 : Nat) (l5 : Nat) (l6 : Nat) (l7 : Nat) (zl : Int32) (lof : Nat → Int32) (lda : Nat → Int32) (lfr : Nat → Int32) (lto : Nat → Int32) (lco : Nat → Int32) (lan : Nat → Int32) (lso : Nat → Int32) (o : Int32) (day : Int32) (a : Int32) (b : Int32) (cm : Int32) (an : Int32) (sz : Nat) (hzl : 0 ≤ zl.toInt ∧ zl.toInt ≤ 100) (hday : 0 ≤ day.toInt ∧ day.toInt < 60) (hv_lda : AllI lda 100 0 59) : Met l yX1_add wsX1_add ({ frames := 0, cells := 0, slots := 0, locals := 0 } : Room) (CP D cy E [.ref l0, .int o, .int day, .int a, .int b, .int cm, .int an] [Prod.mk l0 (Sum.inr (Prod.mk 1 [Value.int zl, Value.ref l1, Value.ref l2, Value.ref l3, Value.ref l4, Value.ref l5, Value.ref l6, Value.ref l7])), Prod.mk l1 (Sum.inl (Prod.mk (cy 0) (Prod.mk 100 (Sum.inl lof)))), Prod.mk l2 (Sum.inl (Prod.mk (cy 0) (Prod.mk 100 (Sum.inl lda)))), Prod.mk l3 (Sum.inl (Prod.mk (cy 0) (Prod.mk 100 (Sum.inl lfr)))), Prod.mk l4 (Sum.inl (Prod.mk (cy 0) (Prod.mk 100 (Sum.inl lto)))), Prod.mk l5 (Sum.inl (Prod.mk (cy 0) (Prod.mk 100 (Sum.inl lco)))), Prod.mk l6 (Sum.inl (Prod.mk (cy 0) (Prod.mk 100 (Sum.inl lan)))), Prod.mk l7 (Sum.inl (Prod.mk (cy 0) (Prod.mk 100 (Sum.inl lso))))] sz) (Q_c_X1_add D cy E l0 l1 l2 l3 l4 l5 l6 l7 zl lof lda lfr lto lco lan lso o day a b cm an (va_A [Prod.mk l0 (Sum.inr (Prod.mk 1 [Value.int zl, Value.ref l1, Value.ref l2, Value.ref l3, Value.ref l4, Value.ref l5, Value.ref l6, Value.ref l7])), Prod.mk l1 (Sum.inl (Prod.mk (cy 0) (Prod.mk 100 (Sum.inl lof)))), Prod.mk l2 (Sum.inl (Prod.mk (cy 0) (Prod.mk 100 (Sum.inl lda)))), Prod.mk l3 (Sum.inl (Prod.mk (cy 0) (Prod.mk 100 (Sum.inl lfr)))), Prod.mk l4 (Sum.inl (Prod.mk (cy 0) (Prod.mk 100 (Sum.inl lto)))), Prod.mk l5 (Sum.inl (Prod.mk (cy 0) (Prod.mk 100 (Sum.inl lco)))), Prod.mk l6 (Sum.inl (Prod.mk (cy 0) (Prod.mk 100 (Sum.inl lan)))), Prod.mk l7 (Sum.inl (Prod.mk (cy 0) (Prod.mk 100 (Sum.inl lso))))] sz)) 0 0 (va_A [Prod.mk l0 (Sum.inr (Prod.mk 1 [Value.int zl, Value.ref l1, Value.ref l2, Value.ref l3, Value.ref l4, Value.ref l5, Value.ref l6, Value.ref l7])), Prod.mk l1 (Sum.inl (Prod.mk (cy 0) (Prod.mk 100 (Sum.inl lof)))), Prod.mk l2 (Sum.inl (Prod.mk (cy 0) (Prod.mk 100 (Sum.inl lda)))), Prod.mk l3 (Sum.inl (Prod.mk (cy 0) (Prod.mk 100 (Sum.inl lfr)))), Prod.mk l4 (Sum.inl (Prod.mk (cy 0) (Prod.mk 100 (Sum.inl lto)))), Prod.mk l5 (Sum.inl (Prod.mk (cy 0) (Prod.mk 100 (Sum.inl lco)))), Prod.mk l6 (Sum.inl (Prod.mk (cy 0) (Prod.mk 100 (Sum.inl lan)))), Prod.mk l7 (Sum.inl (Prod.mk (cy 0) (Prod.mk 100 (Sum.inl lso))))] sz) := by
  refine Met.go (Qc := Q_c_X1_add D cy E l0 l1 l2 l3 l4 l5 l6 l7 zl lof lda lfr lto lco lan lso o day a b cm an) (cc := cX1_add) (maxL := 7) (ret := (some .int)) (by decide) rfl (Nat.le_of_ble_eq_true rfl) ?_
  intro p e s m below meth c hx hb hr hts hown hlocks hin hml hK hN A hA hAB hD hP hS ls hl hsz
  have hl : lv_has ls 7 [(0, .ref l0), (1, .int o), (2, .int day), (3, .int a), (4, .int b), (5, .int cm), (6, .int an)] := hl
  have in_X1 : ∀ w ∈ wsX10, w ∈ wsX1_add := fun _ h => List.mem_cons_of_mem _ ((List.mem_append_right _ h))
  have w_1 := hts (.fieldLink RX1 33 "SleepingCars$Letters" "size" "I") (by decide +kernel)
  have w_2 := hts (.fieldLink RX1 9 "SleepingCars$Letters" "offices" "[I") (by decide +kernel)
  have w_3 := hts (.fieldLink RX1 15 "SleepingCars$Letters" "days" "[I") (by decide +kernel)
  have w_4 := hts (.fieldLink RX1 18 "SleepingCars$Letters" "froms" "[I") (by decide +kernel)
  have w_5 := hts (.fieldLink RX1 21 "SleepingCars$Letters" "tos" "[I") (by decide +kernel)
  have w_6 := hts (.fieldLink RX1 24 "SleepingCars$Letters" "comes" "[I") (by decide +kernel)
  have w_7 := hts (.fieldLink RX1 27 "SleepingCars$Letters" "answered" "[I") (by decide +kernel)
  have w_8 := hts (.fieldLink RX1 30 "SleepingCars$Letters" "sold" "[I") (by decide +kernel)
  obtain ⟨H, eH⟩ : ∃ H : Heap, H = s.heap := ⟨_, rfl⟩
  obtain ⟨locs, eL⟩ : ∃ L : List Loc, L = [] := ⟨_, rfl⟩
  rw [← eL]
  rw [← eL] at hS
  have hP : va_P D vwCl [Prod.mk l0 (Sum.inr (Prod.mk 1 [Value.int zl, Value.ref l1, Value.ref l2, Value.ref l3, Value.ref l4, Value.ref l5, Value.ref l6, Value.ref l7])), Prod.mk l1 (Sum.inl (Prod.mk (cy 0) (Prod.mk 100 (Sum.inl lof)))), Prod.mk l2 (Sum.inl (Prod.mk (cy 0) (Prod.mk 100 (Sum.inl lda)))), Prod.mk l3 (Sum.inl (Prod.mk (cy 0) (Prod.mk 100 (Sum.inl lfr)))), Prod.mk l4 (Sum.inl (Prod.mk (cy 0) (Prod.mk 100 (Sum.inl lto)))), Prod.mk l5 (Sum.inl (Prod.mk (cy 0) (Prod.mk 100 (Sum.inl lco)))), Prod.mk l6 (Sum.inl (Prod.mk (cy 0) (Prod.mk 100 (Sum.inl lan)))), Prod.mk l7 (Sum.inl (Prod.mk (cy 0) (Prod.mk 100 (Sum.inl lso))))] H := by rw [eH]; exact hP
  have hS : va_S A s.heap H locs := by rw [eH]; exact hS
  refine W.heapEq eH ?_
  clear eH eL
  refine lv_aload_n hx hb dX1_add_0 rfl (lv_at hl 0 rfl) ?_
  refine va_get (D := D) (ci := 1) (v := .int zl) (C := RX1) (T := TX1) (N := 8) hx hb hts in_X1 hown hK hP 0 rfl rfl 0 (by decide) w_1 (fun _ h9 => h9) rfl dX1_add_1 ?_
  refine lv_bipush (v := 100) hx hb dX1_add_4 (by decide) ?_
  refine lv_icmp_lt (tgt := 11) hx hb dX1_add_6 (by decide) (fun c6 => ?_) (fun c6 => ?_)
  · skip
    have fc6 := q_lt (a := zl.toInt) (b := 100) c6 rfl (by decide)
    refine lv_aload_n hx hb dX1_add_11 rfl (lv_at hl 0 rfl) ?_
    refine va_get (D := D) (ci := 1) (v := .ref l1) (C := RX1) (T := TX1) (N := 8) hx hb hts in_X1 hown hK hP 0 rfl rfl 1 (by decide) w_2 (fun _ h9 => h9) rfl dX1_add_12 ?_
    refine lv_aload_n hx hb dX1_add_15 rfl (lv_at hl 0 rfl) ?_
    refine va_get (D := D) (ci := 1) (v := .int zl) (C := RX1) (T := TX1) (N := 8) hx hb hts in_X1 hown hK hP 0 rfl rfl 0 (by decide) w_1 (fun _ h9 => h9) rfl dX1_add_16 ?_
    refine lv_iload_n hx hb dX1_add_19 rfl (lv_at hl 1 rfl) ?_
    refine va_iast hx hb hK hP hD hS 1 0 rfl rfl (q_in (a := zl.toInt) rfl (by omega) (by omega)) dX1_add_20 (fun H locs hP hD hS => ?_)
    have hP : va_P D vwCl [Prod.mk l0 (Sum.inr (Prod.mk 1 [Value.int zl, Value.ref l1, Value.ref l2, Value.ref l3, Value.ref l4, Value.ref l5, Value.ref l6, Value.ref l7])), Prod.mk l1 (Sum.inl (Prod.mk (cy 0) (Prod.mk 100 (Sum.inl (upd lof zl.toNatClampNeg o))))), Prod.mk l2 (Sum.inl (Prod.mk (cy 0) (Prod.mk 100 (Sum.inl lda)))), Prod.mk l3 (Sum.inl (Prod.mk (cy 0) (Prod.mk 100 (Sum.inl lfr)))), Prod.mk l4 (Sum.inl (Prod.mk (cy 0) (Prod.mk 100 (Sum.inl lto)))), Prod.mk l5 (Sum.inl (Prod.mk (cy 0) (Prod.mk 100 (Sum.inl lco)))), Prod.mk l6 (Sum.inl (Prod.mk (cy 0) (Prod.mk 100 (Sum.inl lan)))), Prod.mk l7 (Sum.inl (Prod.mk (cy 0) (Prod.mk 100 (Sum.inl lso))))] H := hP
    have hD : va_D A [Prod.mk l0 (Sum.inr (Prod.mk 1 [Value.int zl, Value.ref l1, Value.ref l2, Value.ref l3, Value.ref l4, Value.ref l5, Value.ref l6, Value.ref l7])), Prod.mk l1 (Sum.inl (Prod.mk (cy 0) (Prod.mk 100 (Sum.inl (upd lof zl.toNatClampNeg o))))), Prod.mk l2 (Sum.inl (Prod.mk (cy 0) (Prod.mk 100 (Sum.inl lda)))), Prod.mk l3 (Sum.inl (Prod.mk (cy 0) (Prod.mk 100 (Sum.inl lfr)))), Prod.mk l4 (Sum.inl (Prod.mk (cy 0) (Prod.mk 100 (Sum.inl lto)))), Prod.mk l5 (Sum.inl (Prod.mk (cy 0) (Prod.mk 100 (Sum.inl lco)))), Prod.mk l6 (Sum.inl (Prod.mk (cy 0) (Prod.mk 100 (Sum.inl lan)))), Prod.mk l7 (Sum.inl (Prod.mk (cy 0) (Prod.mk 100 (Sum.inl lso))))] := hD
    refine lv_aload_n hx hb dX1_add_21 rfl (lv_at hl 0 rfl) ?_
    refine va_get (D := D) (ci := 1) (v := .ref l2) (C := RX1) (T := TX1) (N := 8) hx hb hts in_X1 hown hK hP 0 rfl rfl 2 (by decide) w_3 (fun _ h9 => h9) rfl dX1_add_22 ?_
    refine lv_aload_n hx hb dX1_add_25 rfl (lv_at hl 0 rfl) ?_
    refine va_get (D := D) (ci := 1) (v := .int zl) (C := RX1) (T := TX1) (N := 8) hx hb hts in_X1 hown hK hP 0 rfl rfl 0 (by decide) w_1 (fun _ h9 => h9) rfl dX1_add_26 ?_
    refine lv_iload_n hx hb dX1_add_29 rfl (lv_at hl 2 rfl) ?_
    have v30_a : AllI (upd lda zl.toNatClampNeg day) 100 0 59 := allI_upd hv_lda (by omega) (by omega)
    refine va_iast hx hb hK hP hD hS 2 0 rfl rfl (q_in (a := zl.toInt) rfl (by omega) (by omega)) dX1_add_30 (fun H locs hP hD hS => ?_)
    have hP : va_P D vwCl [Prod.mk l0 (Sum.inr (Prod.mk 1 [Value.int zl, Value.ref l1, Value.ref l2, Value.ref l3, Value.ref l4, Value.ref l5, Value.ref l6, Value.ref l7])), Prod.mk l1 (Sum.inl (Prod.mk (cy 0) (Prod.mk 100 (Sum.inl (upd lof zl.toNatClampNeg o))))), Prod.mk l2 (Sum.inl (Prod.mk (cy 0) (Prod.mk 100 (Sum.inl (upd lda zl.toNatClampNeg day))))), Prod.mk l3 (Sum.inl (Prod.mk (cy 0) (Prod.mk 100 (Sum.inl lfr)))), Prod.mk l4 (Sum.inl (Prod.mk (cy 0) (Prod.mk 100 (Sum.inl lto)))), Prod.mk l5 (Sum.inl (Prod.mk (cy 0) (Prod.mk 100 (Sum.inl lco)))), Prod.mk l6 (Sum.inl (Prod.mk (cy 0) (Prod.mk 100 (Sum.inl lan)))), Prod.mk l7 (Sum.inl (Prod.mk (cy 0) (Prod.mk 100 (Sum.inl lso))))] H := hP
    have hD : va_D A [Prod.mk l0 (Sum.inr (Prod.mk 1 [Value.int zl, Value.ref l1, Value.ref l2, Value.ref l3, Value.ref l4, Value.ref l5, Value.ref l6, Value.ref l7])), Prod.mk l1 (Sum.inl (Prod.mk (cy 0) (Prod.mk 100 (Sum.inl (upd lof zl.toNatClampNeg o))))), Prod.mk l2 (Sum.inl (Prod.mk (cy 0) (Prod.mk 100 (Sum.inl (upd lda zl.toNatClampNeg day))))), Prod.mk l3 (Sum.inl (Prod.mk (cy 0) (Prod.mk 100 (Sum.inl lfr)))), Prod.mk l4 (Sum.inl (Prod.mk (cy 0) (Prod.mk 100 (Sum.inl lto)))), Prod.mk l5 (Sum.inl (Prod.mk (cy 0) (Prod.mk 100 (Sum.inl lco)))), Prod.mk l6 (Sum.inl (Prod.mk (cy 0) (Prod.mk 100 (Sum.inl lan)))), Prod.mk l7 (Sum.inl (Prod.mk (cy 0) (Prod.mk 100 (Sum.inl lso))))] := hD
    refine lv_aload_n hx hb dX1_add_31 rfl (lv_at hl 0 rfl) ?_
    refine va_get (D := D) (ci := 1) (v := .ref l3) (C := RX1) (T := TX1) (N := 8) hx hb hts in_X1 hown hK hP 0 rfl rfl 3 (by decide) w_4 (fun _ h9 => h9) rfl dX1_add_32 ?_
    refine lv_aload_n hx hb dX1_add_35 rfl (lv_at hl 0 rfl) ?_
    refine va_get (D := D) (ci := 1) (v := .int zl) (C := RX1) (T := TX1) (N := 8) hx hb hts in_X1 hown hK hP 0 rfl rfl 0 (by decide) w_1 (fun _ h9 => h9) rfl dX1_add_36 ?_
    refine lv_iload_n hx hb dX1_add_39 rfl (lv_at hl 3 rfl) ?_
    refine va_iast hx hb hK hP hD hS 3 0 rfl rfl (q_in (a := zl.toInt) rfl (by omega) (by omega)) dX1_add_40 (fun H locs hP hD hS => ?_)
    have hP : va_P D vwCl [Prod.mk l0 (Sum.inr (Prod.mk 1 [Value.int zl, Value.ref l1, Value.ref l2, Value.ref l3, Value.ref l4, Value.ref l5, Value.ref l6, Value.ref l7])), Prod.mk l1 (Sum.inl (Prod.mk (cy 0) (Prod.mk 100 (Sum.inl (upd lof zl.toNatClampNeg o))))), Prod.mk l2 (Sum.inl (Prod.mk (cy 0) (Prod.mk 100 (Sum.inl (upd lda zl.toNatClampNeg day))))), Prod.mk l3 (Sum.inl (Prod.mk (cy 0) (Prod.mk 100 (Sum.inl (upd lfr zl.toNatClampNeg a))))), Prod.mk l4 (Sum.inl (Prod.mk (cy 0) (Prod.mk 100 (Sum.inl lto)))), Prod.mk l5 (Sum.inl (Prod.mk (cy 0) (Prod.mk 100 (Sum.inl lco)))), Prod.mk l6 (Sum.inl (Prod.mk (cy 0) (Prod.mk 100 (Sum.inl lan)))), Prod.mk l7 (Sum.inl (Prod.mk (cy 0) (Prod.mk 100 (Sum.inl lso))))] H := hP
    have hD : va_D A [Prod.mk l0 (Sum.inr (Prod.mk 1 [Value.int zl, Value.ref l1, Value.ref l2, Value.ref l3, Value.ref l4, Value.ref l5, Value.ref l6, Value.ref l7])), Prod.mk l1 (Sum.inl (Prod.mk (cy 0) (Prod.mk 100 (Sum.inl (upd lof zl.toNatClampNeg o))))), Prod.mk l2 (Sum.inl (Prod.mk (cy 0) (Prod.mk 100 (Sum.inl (upd lda zl.toNatClampNeg day))))), Prod.mk l3 (Sum.inl (Prod.mk (cy 0) (Prod.mk 100 (Sum.inl (upd lfr zl.toNatClampNeg a))))), Prod.mk l4 (Sum.inl (Prod.mk (cy 0) (Prod.mk 100 (Sum.inl lto)))), Prod.mk l5 (Sum.inl (Prod.mk (cy 0) (Prod.mk 100 (Sum.inl lco)))), Prod.mk l6 (Sum.inl (Prod.mk (cy 0) (Prod.mk 100 (Sum.inl lan)))), Prod.mk l7 (Sum.inl (Prod.mk (cy 0) (Prod.mk 100 (Sum.inl lso))))] := hD
    refine lv_aload_n hx hb dX1_add_41 rfl (lv_at hl 0 rfl) ?_
    refine va_get (D := D) (ci := 1) (v := .ref l4) (C := RX1) (T := TX1) (N := 8) hx hb hts in_X1 hown hK hP 0 rfl rfl 4 (by decide) w_5 (fun _ h9 => h9) rfl dX1_add_42 ?_
    refine lv_aload_n hx hb dX1_add_45 rfl (lv_at hl 0 rfl) ?_
    refine va_get (D := D) (ci := 1) (v := .int zl) (C := RX1) (T := TX1) (N := 8) hx hb hts in_X1 hown hK hP 0 rfl rfl 0 (by decide) w_1 (fun _ h9 => h9) rfl dX1_add_46 ?_
    refine lv_iload hx hb dX1_add_49 (lv_at hl 4 rfl) ?_
    refine va_iast hx hb hK hP hD hS 4 0 rfl rfl (q_in (a := zl.toInt) rfl (by omega) (by omega)) dX1_add_51 (fun H locs hP hD hS => ?_)
    have hP : va_P D vwCl [Prod.mk l0 (Sum.inr (Prod.mk 1 [Value.int zl, Value.ref l1, Value.ref l2, Value.ref l3, Value.ref l4, Value.ref l5, Value.ref l6, Value.ref l7])), Prod.mk l1 (Sum.inl (Prod.mk (cy 0) (Prod.mk 100 (Sum.inl (upd lof zl.toNatClampNeg o))))), Prod.mk l2 (Sum.inl (Prod.mk (cy 0) (Prod.mk 100 (Sum.inl (upd lda zl.toNatClampNeg day))))), Prod.mk l3 (Sum.inl (Prod.mk (cy 0) (Prod.mk 100 (Sum.inl (upd lfr zl.toNatClampNeg a))))), Prod.mk l4 (Sum.inl (Prod.mk (cy 0) (Prod.mk 100 (Sum.inl (upd lto zl.toNatClampNeg b))))), Prod.mk l5 (Sum.inl (Prod.mk (cy 0) (Prod.mk 100 (Sum.inl lco)))), Prod.mk l6 (Sum.inl (Prod.mk (cy 0) (Prod.mk 100 (Sum.inl lan)))), Prod.mk l7 (Sum.inl (Prod.mk (cy 0) (Prod.mk 100 (Sum.inl lso))))] H := hP
    have hD : va_D A [Prod.mk l0 (Sum.inr (Prod.mk 1 [Value.int zl, Value.ref l1, Value.ref l2, Value.ref l3, Value.ref l4, Value.ref l5, Value.ref l6, Value.ref l7])), Prod.mk l1 (Sum.inl (Prod.mk (cy 0) (Prod.mk 100 (Sum.inl (upd lof zl.toNatClampNeg o))))), Prod.mk l2 (Sum.inl (Prod.mk (cy 0) (Prod.mk 100 (Sum.inl (upd lda zl.toNatClampNeg day))))), Prod.mk l3 (Sum.inl (Prod.mk (cy 0) (Prod.mk 100 (Sum.inl (upd lfr zl.toNatClampNeg a))))), Prod.mk l4 (Sum.inl (Prod.mk (cy 0) (Prod.mk 100 (Sum.inl (upd lto zl.toNatClampNeg b))))), Prod.mk l5 (Sum.inl (Prod.mk (cy 0) (Prod.mk 100 (Sum.inl lco)))), Prod.mk l6 (Sum.inl (Prod.mk (cy 0) (Prod.mk 100 (Sum.inl lan)))), Prod.mk l7 (Sum.inl (Prod.mk (cy 0) (Prod.mk 100 (Sum.inl lso))))] := hD
    refine lv_aload_n hx hb dX1_add_52 rfl (lv_at hl 0 rfl) ?_
    refine va_get (D := D) (ci := 1) (v := .ref l5) (C := RX1) (T := TX1) (N := 8) hx hb hts in_X1 hown hK hP 0 rfl rfl 5 (by decide) w_6 (fun _ h9 => h9) rfl dX1_add_53 ?_
    refine lv_aload_n hx hb dX1_add_56 rfl (lv_at hl 0 rfl) ?_
    refine va_get (D := D) (ci := 1) (v := .int zl) (C := RX1) (T := TX1) (N := 8) hx hb hts in_X1 hown hK hP 0 rfl rfl 0 (by decide) w_1 (fun _ h9 => h9) rfl dX1_add_57 ?_
    refine lv_iload hx hb dX1_add_60 (lv_at hl 5 rfl) ?_
    refine va_iast hx hb hK hP hD hS 5 0 rfl rfl (q_in (a := zl.toInt) rfl (by omega) (by omega)) dX1_add_62 (fun H locs hP hD hS => ?_)
    have hP : va_P D vwCl [Prod.mk l0 (Sum.inr (Prod.mk 1 [Value.int zl, Value.ref l1, Value.ref l2, Value.ref l3, Value.ref l4, Value.ref l5, Value.ref l6, Value.ref l7])), Prod.mk l1 (Sum.inl (Prod.mk (cy 0) (Prod.mk 100 (Sum.inl (upd lof zl.toNatClampNeg o))))), Prod.mk l2 (Sum.inl (Prod.mk (cy 0) (Prod.mk 100 (Sum.inl (upd lda zl.toNatClampNeg day))))), Prod.mk l3 (Sum.inl (Prod.mk (cy 0) (Prod.mk 100 (Sum.inl (upd lfr zl.toNatClampNeg a))))), Prod.mk l4 (Sum.inl (Prod.mk (cy 0) (Prod.mk 100 (Sum.inl (upd lto zl.toNatClampNeg b))))), Prod.mk l5 (Sum.inl (Prod.mk (cy 0) (Prod.mk 100 (Sum.inl (upd lco zl.toNatClampNeg cm))))), Prod.mk l6 (Sum.inl (Prod.mk (cy 0) (Prod.mk 100 (Sum.inl lan)))), Prod.mk l7 (Sum.inl (Prod.mk (cy 0) (Prod.mk 100 (Sum.inl lso))))] H := hP
    have hD : va_D A [Prod.mk l0 (Sum.inr (Prod.mk 1 [Value.int zl, Value.ref l1, Value.ref l2, Value.ref l3, Value.ref l4, Value.ref l5, Value.ref l6, Value.ref l7])), Prod.mk l1 (Sum.inl (Prod.mk (cy 0) (Prod.mk 100 (Sum.inl (upd lof zl.toNatClampNeg o))))), Prod.mk l2 (Sum.inl (Prod.mk (cy 0) (Prod.mk 100 (Sum.inl (upd lda zl.toNatClampNeg day))))), Prod.mk l3 (Sum.inl (Prod.mk (cy 0) (Prod.mk 100 (Sum.inl (upd lfr zl.toNatClampNeg a))))), Prod.mk l4 (Sum.inl (Prod.mk (cy 0) (Prod.mk 100 (Sum.inl (upd lto zl.toNatClampNeg b))))), Prod.mk l5 (Sum.inl (Prod.mk (cy 0) (Prod.mk 100 (Sum.inl (upd lco zl.toNatClampNeg cm))))), Prod.mk l6 (Sum.inl (Prod.mk (cy 0) (Prod.mk 100 (Sum.inl lan)))), Prod.mk l7 (Sum.inl (Prod.mk (cy 0) (Prod.mk 100 (Sum.inl lso))))] := hD
    refine lv_aload_n hx hb dX1_add_63 rfl (lv_at hl 0 rfl) ?_
    refine va_get (D := D) (ci := 1) (v := .ref l6) (C := RX1) (T := TX1) (N := 8) hx hb hts in_X1 hown hK hP 0 rfl rfl 6 (by decide) w_7 (fun _ h9 => h9) rfl dX1_add_64 ?_
    refine lv_aload_n hx hb dX1_add_67 rfl (lv_at hl 0 rfl) ?_
    refine va_get (D := D) (ci := 1) (v := .int zl) (C := RX1) (T := TX1) (N := 8) hx hb hts in_X1 hown hK hP 0 rfl rfl 0 (by decide) w_1 (fun _ h9 => h9) rfl dX1_add_68 ?_
    refine lv_iload hx hb dX1_add_71 (lv_at hl 6 rfl) ?_
    refine va_iast hx hb hK hP hD hS 6 0 rfl rfl (q_in (a := zl.toInt) rfl (by omega) (by omega)) dX1_add_73 (fun H locs hP hD hS => ?_)
    have hP : va_P D vwCl [Prod.mk l0 (Sum.inr (Prod.mk 1 [Value.int zl, Value.ref l1, Value.ref l2, Value.ref l3, Value.ref l4, Value.ref l5, Value.ref l6, Value.ref l7])), Prod.mk l1 (Sum.inl (Prod.mk (cy 0) (Prod.mk 100 (Sum.inl (upd lof zl.toNatClampNeg o))))), Prod.mk l2 (Sum.inl (Prod.mk (cy 0) (Prod.mk 100 (Sum.inl (upd lda zl.toNatClampNeg day))))), Prod.mk l3 (Sum.inl (Prod.mk (cy 0) (Prod.mk 100 (Sum.inl (upd lfr zl.toNatClampNeg a))))), Prod.mk l4 (Sum.inl (Prod.mk (cy 0) (Prod.mk 100 (Sum.inl (upd lto zl.toNatClampNeg b))))), Prod.mk l5 (Sum.inl (Prod.mk (cy 0) (Prod.mk 100 (Sum.inl (upd lco zl.toNatClampNeg cm))))), Prod.mk l6 (Sum.inl (Prod.mk (cy 0) (Prod.mk 100 (Sum.inl (upd lan zl.toNatClampNeg an))))), Prod.mk l7 (Sum.inl (Prod.mk (cy 0) (Prod.mk 100 (Sum.inl lso))))] H := hP
    have hD : va_D A [Prod.mk l0 (Sum.inr (Prod.mk 1 [Value.int zl, Value.ref l1, Value.ref l2, Value.ref l3, Value.ref l4, Value.ref l5, Value.ref l6, Value.ref l7])), Prod.mk l1 (Sum.inl (Prod.mk (cy 0) (Prod.mk 100 (Sum.inl (upd lof zl.toNatClampNeg o))))), Prod.mk l2 (Sum.inl (Prod.mk (cy 0) (Prod.mk 100 (Sum.inl (upd lda zl.toNatClampNeg day))))), Prod.mk l3 (Sum.inl (Prod.mk (cy 0) (Prod.mk 100 (Sum.inl (upd lfr zl.toNatClampNeg a))))), Prod.mk l4 (Sum.inl (Prod.mk (cy 0) (Prod.mk 100 (Sum.inl (upd lto zl.toNatClampNeg b))))), Prod.mk l5 (Sum.inl (Prod.mk (cy 0) (Prod.mk 100 (Sum.inl (upd lco zl.toNatClampNeg cm))))), Prod.mk l6 (Sum.inl (Prod.mk (cy 0) (Prod.mk 100 (Sum.inl (upd lan zl.toNatClampNeg an))))), Prod.mk l7 (Sum.inl (Prod.mk (cy 0) (Prod.mk 100 (Sum.inl lso))))] := hD
    refine lv_aload_n hx hb dX1_add_74 rfl (lv_at hl 0 rfl) ?_
    refine va_get (D := D) (ci := 1) (v := .ref l7) (C := RX1) (T := TX1) (N := 8) hx hb hts in_X1 hown hK hP 0 rfl rfl 7 (by decide) w_8 (fun _ h9 => h9) rfl dX1_add_75 ?_
    refine lv_aload_n hx hb dX1_add_78 rfl (lv_at hl 0 rfl) ?_
    refine va_get (D := D) (ci := 1) (v := .int zl) (C := RX1) (T := TX1) (N := 8) hx hb hts in_X1 hown hK hP 0 rfl rfl 0 (by decide) w_1 (fun _ h9 => h9) rfl dX1_add_79 ?_
    refine lv_iconst (v := (-1)) hx hb dX1_add_82 (by decide) ?_
    refine va_iast hx hb hK hP hD hS 7 0 rfl rfl (q_in (a := zl.toInt) rfl (by omega) (by omega)) dX1_add_83 (fun H locs hP hD hS => ?_)
    have hP : va_P D vwCl [Prod.mk l0 (Sum.inr (Prod.mk 1 [Value.int zl, Value.ref l1, Value.ref l2, Value.ref l3, Value.ref l4, Value.ref l5, Value.ref l6, Value.ref l7])), Prod.mk l1 (Sum.inl (Prod.mk (cy 0) (Prod.mk 100 (Sum.inl (upd lof zl.toNatClampNeg o))))), Prod.mk l2 (Sum.inl (Prod.mk (cy 0) (Prod.mk 100 (Sum.inl (upd lda zl.toNatClampNeg day))))), Prod.mk l3 (Sum.inl (Prod.mk (cy 0) (Prod.mk 100 (Sum.inl (upd lfr zl.toNatClampNeg a))))), Prod.mk l4 (Sum.inl (Prod.mk (cy 0) (Prod.mk 100 (Sum.inl (upd lto zl.toNatClampNeg b))))), Prod.mk l5 (Sum.inl (Prod.mk (cy 0) (Prod.mk 100 (Sum.inl (upd lco zl.toNatClampNeg cm))))), Prod.mk l6 (Sum.inl (Prod.mk (cy 0) (Prod.mk 100 (Sum.inl (upd lan zl.toNatClampNeg an))))), Prod.mk l7 (Sum.inl (Prod.mk (cy 0) (Prod.mk 100 (Sum.inl (upd lso zl.toNatClampNeg (-1))))))] H := hP
    have hD : va_D A [Prod.mk l0 (Sum.inr (Prod.mk 1 [Value.int zl, Value.ref l1, Value.ref l2, Value.ref l3, Value.ref l4, Value.ref l5, Value.ref l6, Value.ref l7])), Prod.mk l1 (Sum.inl (Prod.mk (cy 0) (Prod.mk 100 (Sum.inl (upd lof zl.toNatClampNeg o))))), Prod.mk l2 (Sum.inl (Prod.mk (cy 0) (Prod.mk 100 (Sum.inl (upd lda zl.toNatClampNeg day))))), Prod.mk l3 (Sum.inl (Prod.mk (cy 0) (Prod.mk 100 (Sum.inl (upd lfr zl.toNatClampNeg a))))), Prod.mk l4 (Sum.inl (Prod.mk (cy 0) (Prod.mk 100 (Sum.inl (upd lto zl.toNatClampNeg b))))), Prod.mk l5 (Sum.inl (Prod.mk (cy 0) (Prod.mk 100 (Sum.inl (upd lco zl.toNatClampNeg cm))))), Prod.mk l6 (Sum.inl (Prod.mk (cy 0) (Prod.mk 100 (Sum.inl (upd lan zl.toNatClampNeg an))))), Prod.mk l7 (Sum.inl (Prod.mk (cy 0) (Prod.mk 100 (Sum.inl (upd lso zl.toNatClampNeg (-1))))))] := hD
    refine lv_aload_n hx hb dX1_add_84 rfl (lv_at hl 0 rfl) ?_
    refine lv_dup hx hb dX1_add_85 rfl ?_
    refine va_get (D := D) (ci := 1) (v := .int zl) (C := RX1) (T := TX1) (N := 8) hx hb hts in_X1 hown hK hP 0 rfl rfl 0 (by decide) w_1 (fun _ h9 => h9) rfl dX1_add_86 ?_
    refine lv_iconst (v := 1) hx hb dX1_add_89 (by decide) ?_
    refine lv_iadd hx hb dX1_add_90 ?_
    refine lv_topi (fun x90 ex90 => ?_)
    have tx90 := q_add (p := zl.toInt) (q := 1) ex90 rfl (by decide) (by omega) (by omega)
    refine va_put (D := D) (ci := 1) (v := .int x90) (ty := .int) (C := RX1) (T := TX1) (N := 8) hx hb hts in_X1 tyX1 tyX1_ok nmX1 hown hK hP hD hS 0 rfl rfl 0 (by decide) w_1 (fun _ h9 => h9) rfl (by decide +kernel) rfl rfl (Nat.le_of_ble_eq_true rfl) dX1_add_91 (fun H locs hP hD hS => ?_)
    have hP : va_P D vwCl [Prod.mk l0 (Sum.inr (Prod.mk 1 [Value.int x90, Value.ref l1, Value.ref l2, Value.ref l3, Value.ref l4, Value.ref l5, Value.ref l6, Value.ref l7])), Prod.mk l1 (Sum.inl (Prod.mk (cy 0) (Prod.mk 100 (Sum.inl (upd lof zl.toNatClampNeg o))))), Prod.mk l2 (Sum.inl (Prod.mk (cy 0) (Prod.mk 100 (Sum.inl (upd lda zl.toNatClampNeg day))))), Prod.mk l3 (Sum.inl (Prod.mk (cy 0) (Prod.mk 100 (Sum.inl (upd lfr zl.toNatClampNeg a))))), Prod.mk l4 (Sum.inl (Prod.mk (cy 0) (Prod.mk 100 (Sum.inl (upd lto zl.toNatClampNeg b))))), Prod.mk l5 (Sum.inl (Prod.mk (cy 0) (Prod.mk 100 (Sum.inl (upd lco zl.toNatClampNeg cm))))), Prod.mk l6 (Sum.inl (Prod.mk (cy 0) (Prod.mk 100 (Sum.inl (upd lan zl.toNatClampNeg an))))), Prod.mk l7 (Sum.inl (Prod.mk (cy 0) (Prod.mk 100 (Sum.inl (upd lso zl.toNatClampNeg (-1))))))] H := hP
    have hD : va_D A [Prod.mk l0 (Sum.inr (Prod.mk 1 [Value.int x90, Value.ref l1, Value.ref l2, Value.ref l3, Value.ref l4, Value.ref l5, Value.ref l6, Value.ref l7])), Prod.mk l1 (Sum.inl (Prod.mk (cy 0) (Prod.mk 100 (Sum.inl (upd lof zl.toNatClampNeg o))))), Prod.mk l2 (Sum.inl (Prod.mk (cy 0) (Prod.mk 100 (Sum.inl (upd lda zl.toNatClampNeg day))))), Prod.mk l3 (Sum.inl (Prod.mk (cy 0) (Prod.mk 100 (Sum.inl (upd lfr zl.toNatClampNeg a))))), Prod.mk l4 (Sum.inl (Prod.mk (cy 0) (Prod.mk 100 (Sum.inl (upd lto zl.toNatClampNeg b))))), Prod.mk l5 (Sum.inl (Prod.mk (cy 0) (Prod.mk 100 (Sum.inl (upd lco zl.toNatClampNeg cm))))), Prod.mk l6 (Sum.inl (Prod.mk (cy 0) (Prod.mk 100 (Sum.inl (upd lan zl.toNatClampNeg an))))), Prod.mk l7 (Sum.inl (Prod.mk (cy 0) (Prod.mk 100 (Sum.inl (upd lso zl.toNatClampNeg (-1))))))] := hD
    refine lv_aload_n hx hb dX1_add_94 rfl (lv_at hl 0 rfl) ?_
    refine va_get (D := D) (ci := 1) (v := .int x90) (C := RX1) (T := TX1) (N := 8) hx hb hts in_X1 hown hK hP 0 rfl rfl 0 (by decide) w_1 (fun _ h9 => h9) rfl dX1_add_95 ?_
    refine lv_iconst (v := 1) hx hb dX1_add_98 (by decide) ?_
    refine lv_isub hx hb dX1_add_99 ?_
    refine lv_topi (fun x99 ex99 => ?_)
    have tx99 := q_sub (p := x90.toInt) (q := 1) ex99 rfl (by decide) (by omega) (by omega)
    exact r_i hx hb hr hlocks hK hS dX1_add_100 (u := (x90, upd lof zl.toNatClampNeg o, upd lda zl.toNatClampNeg day, upd lfr zl.toNatClampNeg a, upd lto zl.toNatClampNeg b, upd lco zl.toNatClampNeg cm, upd lan zl.toNatClampNeg an, upd lso zl.toNatClampNeg (-1))) hP hD (⟨(by omega), v30_a⟩)
  · skip
    have fc6 := q_nlt (a := zl.toInt) (b := 100) c6 rfl (by decide)
    refine lv_iconst (v := (-1)) hx hb dX1_add_9 (by decide) ?_
    exact r_i hx hb hr hlocks hK hS dX1_add_10 (u := (zl, lof, lda, lfr, lto, lco, lan, lso)) hP hD (⟨(by omega), hv_lda⟩)

abbrev Q_c_X1_standing (D : va_G) (cy : Nat → ClassId) (E : EN) (l0 : Nat) (l1 : Nat) (l2 : Nat) (l3 : Nat) (l4 : Nat) (l5 : Nat) (l6 : Nat) (l7 : Nat) (zl : Int32) (lco : Nat → Int32) (lan : Nat → Int32) (t : Int32) (now : Int32) : (Nat → Prop) → Array Value → State → Outcome → State → Prop := QI D cy (fun (r : Int32) (_ : Unit) => True) (fun _ : Unit => [Prod.mk l0 (Sum.inr (Prod.mk 1 [Value.int zl, Value.ref l1, Value.ref l2, Value.ref l3, Value.ref l4, Value.ref l5, Value.ref l6, Value.ref l7])), Prod.mk l5 (Sum.inl (Prod.mk (cy 0) (Prod.mk 100 (Sum.inl lco)))), Prod.mk l6 (Sum.inl (Prod.mk (cy 0) (Prod.mk 100 (Sum.inl lan))))])
set_option maxHeartbeats 4000000 in
set_option maxRecDepth 100000 in
theorem c_X1_standing (l : Launch) (D : va_G) (cy : Nat → ClassId) (E : EN) (l0 : Nat) (l1 : Nat) (l2 : Nat) (l3 : Nat) (l4 : Nat) (l5 : Nat) (l6 : Nat) (l7 : Nat) (zl : Int32) (lco : Nat → Int32) (lan : Nat → Int32) (t : Int32) (now : Int32) (sz : Nat) (hli : 0 ≤ t.toInt ∧ t.toInt < 100) : Met l yX1_standing wsX1_standing ({ frames := 0, cells := 0, slots := 0, locals := 0 } : Room) (CP D cy E [.ref l0, .int t, .int now] [Prod.mk l0 (Sum.inr (Prod.mk 1 [Value.int zl, Value.ref l1, Value.ref l2, Value.ref l3, Value.ref l4, Value.ref l5, Value.ref l6, Value.ref l7])), Prod.mk l5 (Sum.inl (Prod.mk (cy 0) (Prod.mk 100 (Sum.inl lco)))), Prod.mk l6 (Sum.inl (Prod.mk (cy 0) (Prod.mk 100 (Sum.inl lan))))] sz) (Q_c_X1_standing D cy E l0 l1 l2 l3 l4 l5 l6 l7 zl lco lan t now (va_A [Prod.mk l0 (Sum.inr (Prod.mk 1 [Value.int zl, Value.ref l1, Value.ref l2, Value.ref l3, Value.ref l4, Value.ref l5, Value.ref l6, Value.ref l7])), Prod.mk l5 (Sum.inl (Prod.mk (cy 0) (Prod.mk 100 (Sum.inl lco)))), Prod.mk l6 (Sum.inl (Prod.mk (cy 0) (Prod.mk 100 (Sum.inl lan))))] sz)) 0 0 (va_A [Prod.mk l0 (Sum.inr (Prod.mk 1 [Value.int zl, Value.ref l1, Value.ref l2, Value.ref l3, Value.ref l4, Value.ref l5, Value.ref l6, Value.ref l7])), Prod.mk l5 (Sum.inl (Prod.mk (cy 0) (Prod.mk 100 (Sum.inl lco)))), Prod.mk l6 (Sum.inl (Prod.mk (cy 0) (Prod.mk 100 (Sum.inl lan))))] sz) := by
  refine Met.go (Qc := Q_c_X1_standing D cy E l0 l1 l2 l3 l4 l5 l6 l7 zl lco lan t now) (cc := cX1_standing) (maxL := 3) (ret := (some .int)) (by decide) rfl (Nat.le_of_ble_eq_true rfl) ?_
  intro p e s m below meth c hx hb hr hts hown hlocks hin hml hK hN A hA hAB hD hP hS ls hl hsz
  have hl : lv_has ls 3 [(0, .ref l0), (1, .int t), (2, .int now)] := hl
  have in_X1 : ∀ w ∈ wsX10, w ∈ wsX1_standing := fun _ h => List.mem_cons_of_mem _ ((List.mem_append_right _ h))
  have w_1 := hts (.fieldLink RX1 24 "SleepingCars$Letters" "comes" "[I") (by decide +kernel)
  have w_2 := hts (.fieldLink RX1 27 "SleepingCars$Letters" "answered" "[I") (by decide +kernel)
  obtain ⟨H, eH⟩ : ∃ H : Heap, H = s.heap := ⟨_, rfl⟩
  obtain ⟨locs, eL⟩ : ∃ L : List Loc, L = [] := ⟨_, rfl⟩
  rw [← eL]
  rw [← eL] at hS
  have hP : va_P D vwCl [Prod.mk l0 (Sum.inr (Prod.mk 1 [Value.int zl, Value.ref l1, Value.ref l2, Value.ref l3, Value.ref l4, Value.ref l5, Value.ref l6, Value.ref l7])), Prod.mk l5 (Sum.inl (Prod.mk (cy 0) (Prod.mk 100 (Sum.inl lco)))), Prod.mk l6 (Sum.inl (Prod.mk (cy 0) (Prod.mk 100 (Sum.inl lan))))] H := by rw [eH]; exact hP
  have hS : va_S A s.heap H locs := by rw [eH]; exact hS
  refine W.heapEq eH ?_
  clear eH eL
  refine lv_iload_n hx hb dX1_standing_0 rfl (lv_at hl 2 rfl) ?_
  refine lv_aload_n hx hb dX1_standing_1 rfl (lv_at hl 0 rfl) ?_
  refine va_get (D := D) (ci := 1) (v := .ref l5) (C := RX1) (T := TX1) (N := 8) hx hb hts in_X1 hown hK hP 0 rfl rfl 5 (by decide) w_1 (fun _ h9 => h9) rfl dX1_standing_2 ?_
  refine lv_iload_n hx hb dX1_standing_5 rfl (lv_at hl 1 rfl) ?_
  refine va_iald hx hb hK hP 1 0 rfl rfl (q_in (a := t.toInt) rfl (by omega) (by omega)) dX1_standing_6 ?_
  refine lv_topi (fun x6 ex6 => ?_)
  have tx6 := congrArg Int32.toInt ex6
  refine lv_icmp_ge (tgt := 12) hx hb dX1_standing_7 (by decide) (fun c7 => ?_) (fun c7 => ?_)
  · skip
    have fc7 := q_le (a := x6.toInt) (b := now.toInt) c7 rfl rfl
    refine lv_iload_n hx hb dX1_standing_12 rfl (lv_at hl 2 rfl) ?_
    refine lv_aload_n hx hb dX1_standing_13 rfl (lv_at hl 0 rfl) ?_
    refine va_get (D := D) (ci := 1) (v := .ref l6) (C := RX1) (T := TX1) (N := 8) hx hb hts in_X1 hown hK hP 0 rfl rfl 6 (by decide) w_2 (fun _ h9 => h9) rfl dX1_standing_14 ?_
    refine lv_iload_n hx hb dX1_standing_17 rfl (lv_at hl 1 rfl) ?_
    refine va_iald hx hb hK hP 2 0 rfl rfl (q_in (a := t.toInt) rfl (by omega) (by omega)) dX1_standing_18 ?_
    refine lv_topi (fun x18 ex18 => ?_)
    have tx18 := congrArg Int32.toInt ex18
    refine lv_icmp_ge (tgt := 26) hx hb dX1_standing_19 (by decide) (fun c19 => ?_) (fun c19 => ?_)
    · skip
      have fc19 := q_le (a := x18.toInt) (b := now.toInt) c19 rfl rfl
      refine lv_iconst (v := 2) hx hb dX1_standing_26 (by decide) ?_
      exact r_i hx hb hr hlocks hK hS dX1_standing_27 (u := ()) hP hD (trivial)
    · skip
      have fc19 := q_nle (a := x18.toInt) (b := now.toInt) c19 rfl rfl
      refine lv_iconst (v := 1) hx hb dX1_standing_22 (by decide) ?_
      refine lv_goto (tgt := 27) hx hb dX1_standing_23 (by decide) ?_
      exact r_i hx hb hr hlocks hK hS dX1_standing_27 (u := ()) hP hD (trivial)
  · skip
    have fc7 := q_nle (a := x6.toInt) (b := now.toInt) c7 rfl rfl
    refine lv_iconst (v := 0) hx hb dX1_standing_10 (by decide) ?_
    exact r_i hx hb hr hlocks hK hS dX1_standing_11 (u := ()) hP hD (trivial)

abbrev Q_c_X2_clear (D : va_G) (cy : Nat → ClassId) (E : EN) (q0 : Nat) (q1 : Nat) (q2 : Nat) (q3 : Nat) (q4 : Nat) (q5 : Nat) (q6 : Nat) (q7 : Nat) (zq : Int32) (qte : Nat → Int32) : (Nat → Prop) → Array Value → State → Outcome → State → Prop := QV D cy (fun (pte : (Nat → Int32)) => (True) ∧ AllI pte 16 0 4) (fun pte : (Nat → Int32) => [Prod.mk q0 (Sum.inr (Prod.mk 2 [Value.int 0, Value.ref q1, Value.ref q2, Value.ref q3, Value.ref q4, Value.ref q5, Value.ref q6, Value.ref q7])), Prod.mk q3 (Sum.inl (Prod.mk (cy 0) (Prod.mk 16 (Sum.inl pte))))])
set_option maxHeartbeats 4000000 in
set_option maxRecDepth 100000 in
theorem c_X2_clear (l : Launch) (D : va_G) (cy : Nat → ClassId) (E : EN) (q0 : Nat) (q1 : Nat) (q2 : Nat) (q3 : Nat) (q4 : Nat) (q5 : Nat) (q6 : Nat) (q7 : Nat) (zq : Int32) (qte : Nat → Int32) (sz : Nat) (hv_qte : AllI qte 16 0 4) : Met l yX2_clear wsX2_clear ({ frames := 1, cells := 0, slots := 0, locals := 23 } : Room) (CP D cy E [.ref q0] [Prod.mk q0 (Sum.inr (Prod.mk 2 [Value.int zq, Value.ref q1, Value.ref q2, Value.ref q3, Value.ref q4, Value.ref q5, Value.ref q6, Value.ref q7])), Prod.mk q3 (Sum.inl (Prod.mk (cy 0) (Prod.mk 16 (Sum.inl qte))))] sz) (Q_c_X2_clear D cy E q0 q1 q2 q3 q4 q5 q6 q7 zq qte (va_A [Prod.mk q0 (Sum.inr (Prod.mk 2 [Value.int zq, Value.ref q1, Value.ref q2, Value.ref q3, Value.ref q4, Value.ref q5, Value.ref q6, Value.ref q7])), Prod.mk q3 (Sum.inl (Prod.mk (cy 0) (Prod.mk 16 (Sum.inl qte))))] sz)) 0 0 (va_A [Prod.mk q0 (Sum.inr (Prod.mk 2 [Value.int zq, Value.ref q1, Value.ref q2, Value.ref q3, Value.ref q4, Value.ref q5, Value.ref q6, Value.ref q7])), Prod.mk q3 (Sum.inl (Prod.mk (cy 0) (Prod.mk 16 (Sum.inl qte))))] sz) := by
  refine Met.go (Qc := Q_c_X2_clear D cy E q0 q1 q2 q3 q4 q5 q6 q7 zq qte) (cc := cX2_clear) (maxL := 1) (ret := none) (by decide) rfl (Nat.le_of_ble_eq_true rfl) ?_
  intro p e s m below meth c hx hb hr hts hown hlocks hin hml hK hN A hA hAB hD hP hS ls hl hsz
  have hl : lv_has ls 1 [(0, .ref q0)] := hl
  have in_X2 : ∀ w ∈ wsX20, w ∈ wsX2_clear := fun _ h => List.mem_cons_of_mem _ ((List.mem_append_right _ h))
  have w_1 := hts (.fieldLink RX2 33 "SleepingCars$Rates" "lines" "I") (by decide +kernel)
  have w_2 := hts (.fieldLink RX2 18 "SleepingCars$Rates" "tests" "[I") (by decide +kernel)
  obtain ⟨H, eH⟩ : ∃ H : Heap, H = s.heap := ⟨_, rfl⟩
  obtain ⟨locs, eL⟩ : ∃ L : List Loc, L = [] := ⟨_, rfl⟩
  rw [← eL]
  rw [← eL] at hS
  have hP : va_P D vwCl [Prod.mk q0 (Sum.inr (Prod.mk 2 [Value.int zq, Value.ref q1, Value.ref q2, Value.ref q3, Value.ref q4, Value.ref q5, Value.ref q6, Value.ref q7])), Prod.mk q3 (Sum.inl (Prod.mk (cy 0) (Prod.mk 16 (Sum.inl qte))))] H := by rw [eH]; exact hP
  have hS : va_S A s.heap H locs := by rw [eH]; exact hS
  refine W.heapEq eH ?_
  clear eH eL
  refine lv_aload_n hx hb dX2_clear_0 rfl (lv_at hl 0 rfl) ?_
  refine lv_iconst (v := 0) hx hb dX2_clear_1 (by decide) ?_
  refine va_put (D := D) (ci := 2) (v := .int 0) (ty := .int) (C := RX2) (T := TX2) (N := 8) hx hb hts in_X2 tyX2 tyX2_ok nmX2 hown hK hP hD hS 0 rfl rfl 0 (by decide) w_1 (fun _ h9 => h9) rfl (by decide +kernel) rfl rfl (Nat.le_of_ble_eq_true rfl) dX2_clear_2 (fun H locs hP hD hS => ?_)
  have hP : va_P D vwCl [Prod.mk q0 (Sum.inr (Prod.mk 2 [Value.int 0, Value.ref q1, Value.ref q2, Value.ref q3, Value.ref q4, Value.ref q5, Value.ref q6, Value.ref q7])), Prod.mk q3 (Sum.inl (Prod.mk (cy 0) (Prod.mk 16 (Sum.inl qte))))] H := hP
  have hD : va_D A [Prod.mk q0 (Sum.inr (Prod.mk 2 [Value.int 0, Value.ref q1, Value.ref q2, Value.ref q3, Value.ref q4, Value.ref q5, Value.ref q6, Value.ref q7])), Prod.mk q3 (Sum.inl (Prod.mk (cy 0) (Prod.mk 16 (Sum.inl qte))))] := hD
  refine lv_aload_n hx hb dX2_clear_5 rfl (lv_at hl 0 rfl) ?_
  refine va_get (D := D) (ci := 2) (v := .ref q3) (C := RX2) (T := TX2) (N := 8) hx hb hts in_X2 hown hK hP 0 rfl rfl 3 (by decide) w_2 (fun _ h9 => h9) rfl dX2_clear_6 ?_
  refine lv_iconst (v := 0) hx hb dX2_clear_9 (by decide) ?_
  refine k_v (va_runS (As := [.ref q3, .int 0]) (rest := []) ⟨hx, hb, hml, hown, hts⟩ (c_fill_16 l D cy E q3 qte 0 H.size ) (va_cwS 2 hts gX2_clear_J7_fill_53178 rfl rfl rfl (by decide +kernel) ⟨Nat.le_of_ble_eq_true rfl, Nat.le_of_ble_eq_true rfl⟩) (cp_s hK hN hS hAB hP hD [1] rfl (by decide)) rfl rfl hl.1 rfl (lv_room (Nat.le_of_ble_eq_true rfl)) dX2_clear_10 ⟨Nat.le_of_ble_eq_true rfl, Nat.le_of_ble_eq_true rfl⟩) hP hD hS hA [1] [0] (wr := [Prod.mk q0 (Sum.inr (Prod.mk 2 [Value.int 0, Value.ref q1, Value.ref q2, Value.ref q3, Value.ref q4, Value.ref q5, Value.ref q6, Value.ref q7]))]) rfl rfl (by decide) (by decide) (fun u_rr10 H locs hw10 hP hD hS => ?_)
  try dsimp only at hw10
  have hP : va_P D vwCl [Prod.mk q0 (Sum.inr (Prod.mk 2 [Value.int 0, Value.ref q1, Value.ref q2, Value.ref q3, Value.ref q4, Value.ref q5, Value.ref q6, Value.ref q7])), Prod.mk q3 (Sum.inl (Prod.mk (cy 0) (Prod.mk 16 (Sum.inl u_rr10))))] H := hP
  have hD : va_D A [Prod.mk q0 (Sum.inr (Prod.mk 2 [Value.int 0, Value.ref q1, Value.ref q2, Value.ref q3, Value.ref q4, Value.ref q5, Value.ref q6, Value.ref q7])), Prod.mk q3 (Sum.inl (Prod.mk (cy 0) (Prod.mk 16 (Sum.inl u_rr10))))] := hD
  exact r_v hx hb hr hlocks hK hS dX2_clear_13 (u := (u_rr10)) hP hD (⟨trivial, (allI_eq hw10 (by decide) (by decide))⟩)

abbrev Q_c_X2_addTest (D : va_G) (cy : Nat → ClassId) (E : EN) (q0 : Nat) (q1 : Nat) (q2 : Nat) (q3 : Nat) (q4 : Nat) (q5 : Nat) (q6 : Nat) (q7 : Nat) (zq : Int32) (qch : Nat → Int32) (qam : Nat → Int32) (qte : Nat → Int32) (qsu : Nat → Int32) (qsi : Nat → Int32) (qbo : Nat → Int32) (qne : Nat → Int32) (su : Int32) (si : Int32) (bo : Int32) (no : Int32) : (Nat → Prop) → Array Value → State → Outcome → State → Prop := QV D cy (fun (u : (Nat → Int32) × (Nat → Int32) × (Nat → Int32) × (Nat → Int32) × (Nat → Int32)) => match u with | (pte, psu, psi, pbo, pne) => (True) ∧ AllI pte 16 0 4 ∧ AllI psu 64 0 4) (fun u : (Nat → Int32) × (Nat → Int32) × (Nat → Int32) × (Nat → Int32) × (Nat → Int32) => match u with | (pte, psu, psi, pbo, pne) => [Prod.mk q0 (Sum.inr (Prod.mk 2 [Value.int zq, Value.ref q1, Value.ref q2, Value.ref q3, Value.ref q4, Value.ref q5, Value.ref q6, Value.ref q7])), Prod.mk q1 (Sum.inl (Prod.mk (cy 0) (Prod.mk 16 (Sum.inl qch)))), Prod.mk q2 (Sum.inl (Prod.mk (cy 0) (Prod.mk 16 (Sum.inl qam)))), Prod.mk q3 (Sum.inl (Prod.mk (cy 0) (Prod.mk 16 (Sum.inl pte)))), Prod.mk q4 (Sum.inl (Prod.mk (cy 0) (Prod.mk 64 (Sum.inl psu)))), Prod.mk q5 (Sum.inl (Prod.mk (cy 0) (Prod.mk 64 (Sum.inl psi)))), Prod.mk q6 (Sum.inl (Prod.mk (cy 0) (Prod.mk 64 (Sum.inl pbo)))), Prod.mk q7 (Sum.inl (Prod.mk (cy 0) (Prod.mk 64 (Sum.inl pne))))])
set_option maxHeartbeats 4000000 in
set_option maxRecDepth 100000 in
theorem c_X2_addTest (l : Launch) (D : va_G) (cy : Nat → ClassId) (E : EN) (q0 : Nat) (q1 : Nat) (q2 : Nat) (q3 : Nat) (q4 : Nat) (q5 : Nat) (q6 : Nat) (q7 : Nat) (zq : Int32) (qch : Nat → Int32) (qam : Nat → Int32) (qte : Nat → Int32) (qsu : Nat → Int32) (qsi : Nat → Int32) (qbo : Nat → Int32) (qne : Nat → Int32) (su : Int32) (si : Int32) (bo : Int32) (no : Int32) (sz : Nat) (hzq : 0 ≤ zq.toInt ∧ zq.toInt ≤ 16) (hsu : 0 ≤ su.toInt ∧ su.toInt ≤ 4) (hv_qte : AllI qte 16 0 4) (hv_qsu : AllI qsu 64 0 4) : Met l yX2_addTest wsX2_addTest ({ frames := 0, cells := 0, slots := 0, locals := 0 } : Room) (CP D cy E [.ref q0, .int su, .int si, .int bo, .int no] [Prod.mk q0 (Sum.inr (Prod.mk 2 [Value.int zq, Value.ref q1, Value.ref q2, Value.ref q3, Value.ref q4, Value.ref q5, Value.ref q6, Value.ref q7])), Prod.mk q1 (Sum.inl (Prod.mk (cy 0) (Prod.mk 16 (Sum.inl qch)))), Prod.mk q2 (Sum.inl (Prod.mk (cy 0) (Prod.mk 16 (Sum.inl qam)))), Prod.mk q3 (Sum.inl (Prod.mk (cy 0) (Prod.mk 16 (Sum.inl qte)))), Prod.mk q4 (Sum.inl (Prod.mk (cy 0) (Prod.mk 64 (Sum.inl qsu)))), Prod.mk q5 (Sum.inl (Prod.mk (cy 0) (Prod.mk 64 (Sum.inl qsi)))), Prod.mk q6 (Sum.inl (Prod.mk (cy 0) (Prod.mk 64 (Sum.inl qbo)))), Prod.mk q7 (Sum.inl (Prod.mk (cy 0) (Prod.mk 64 (Sum.inl qne))))] sz) (Q_c_X2_addTest D cy E q0 q1 q2 q3 q4 q5 q6 q7 zq qch qam qte qsu qsi qbo qne su si bo no (va_A [Prod.mk q0 (Sum.inr (Prod.mk 2 [Value.int zq, Value.ref q1, Value.ref q2, Value.ref q3, Value.ref q4, Value.ref q5, Value.ref q6, Value.ref q7])), Prod.mk q1 (Sum.inl (Prod.mk (cy 0) (Prod.mk 16 (Sum.inl qch)))), Prod.mk q2 (Sum.inl (Prod.mk (cy 0) (Prod.mk 16 (Sum.inl qam)))), Prod.mk q3 (Sum.inl (Prod.mk (cy 0) (Prod.mk 16 (Sum.inl qte)))), Prod.mk q4 (Sum.inl (Prod.mk (cy 0) (Prod.mk 64 (Sum.inl qsu)))), Prod.mk q5 (Sum.inl (Prod.mk (cy 0) (Prod.mk 64 (Sum.inl qsi)))), Prod.mk q6 (Sum.inl (Prod.mk (cy 0) (Prod.mk 64 (Sum.inl qbo)))), Prod.mk q7 (Sum.inl (Prod.mk (cy 0) (Prod.mk 64 (Sum.inl qne))))] sz)) 0 0 (va_A [Prod.mk q0 (Sum.inr (Prod.mk 2 [Value.int zq, Value.ref q1, Value.ref q2, Value.ref q3, Value.ref q4, Value.ref q5, Value.ref q6, Value.ref q7])), Prod.mk q1 (Sum.inl (Prod.mk (cy 0) (Prod.mk 16 (Sum.inl qch)))), Prod.mk q2 (Sum.inl (Prod.mk (cy 0) (Prod.mk 16 (Sum.inl qam)))), Prod.mk q3 (Sum.inl (Prod.mk (cy 0) (Prod.mk 16 (Sum.inl qte)))), Prod.mk q4 (Sum.inl (Prod.mk (cy 0) (Prod.mk 64 (Sum.inl qsu)))), Prod.mk q5 (Sum.inl (Prod.mk (cy 0) (Prod.mk 64 (Sum.inl qsi)))), Prod.mk q6 (Sum.inl (Prod.mk (cy 0) (Prod.mk 64 (Sum.inl qbo)))), Prod.mk q7 (Sum.inl (Prod.mk (cy 0) (Prod.mk 64 (Sum.inl qne))))] sz) := by
  refine Met.go (Qc := Q_c_X2_addTest D cy E q0 q1 q2 q3 q4 q5 q6 q7 zq qch qam qte qsu qsi qbo qne su si bo no) (cc := cX2_addTest) (maxL := 6) (ret := none) (by decide) rfl (Nat.le_of_ble_eq_true rfl) ?_
  intro p e s m below meth c hx hb hr hts hown hlocks hin hml hK hN A hA hAB hD hP hS ls hl hsz
  have hl : lv_has ls 6 [(0, .ref q0), (1, .int su), (2, .int si), (3, .int bo), (4, .int no)] := hl
  have in_X2 : ∀ w ∈ wsX20, w ∈ wsX2_addTest := fun _ h => List.mem_cons_of_mem _ ((List.mem_append_right _ h))
  have w_1 := hts (.fieldLink RX2 33 "SleepingCars$Rates" "lines" "I") (by decide +kernel)
  have w_2 := hts (.fieldLink RX2 18 "SleepingCars$Rates" "tests" "[I") (by decide +kernel)
  have w_3 := hts (.fieldLink RX2 21 "SleepingCars$Rates" "subjects" "[I") (by decide +kernel)
  have w_4 := hts (.fieldLink RX2 24 "SleepingCars$Rates" "signs" "[I") (by decide +kernel)
  have w_5 := hts (.fieldLink RX2 27 "SleepingCars$Rates" "bounds" "[I") (by decide +kernel)
  have w_6 := hts (.fieldLink RX2 30 "SleepingCars$Rates" "negated" "[I") (by decide +kernel)
  obtain ⟨H, eH⟩ : ∃ H : Heap, H = s.heap := ⟨_, rfl⟩
  obtain ⟨locs, eL⟩ : ∃ L : List Loc, L = [] := ⟨_, rfl⟩
  rw [← eL]
  rw [← eL] at hS
  have hP : va_P D vwCl [Prod.mk q0 (Sum.inr (Prod.mk 2 [Value.int zq, Value.ref q1, Value.ref q2, Value.ref q3, Value.ref q4, Value.ref q5, Value.ref q6, Value.ref q7])), Prod.mk q1 (Sum.inl (Prod.mk (cy 0) (Prod.mk 16 (Sum.inl qch)))), Prod.mk q2 (Sum.inl (Prod.mk (cy 0) (Prod.mk 16 (Sum.inl qam)))), Prod.mk q3 (Sum.inl (Prod.mk (cy 0) (Prod.mk 16 (Sum.inl qte)))), Prod.mk q4 (Sum.inl (Prod.mk (cy 0) (Prod.mk 64 (Sum.inl qsu)))), Prod.mk q5 (Sum.inl (Prod.mk (cy 0) (Prod.mk 64 (Sum.inl qsi)))), Prod.mk q6 (Sum.inl (Prod.mk (cy 0) (Prod.mk 64 (Sum.inl qbo)))), Prod.mk q7 (Sum.inl (Prod.mk (cy 0) (Prod.mk 64 (Sum.inl qne))))] H := by rw [eH]; exact hP
  have hS : va_S A s.heap H locs := by rw [eH]; exact hS
  refine W.heapEq eH ?_
  clear eH eL
  refine lv_aload_n hx hb dX2_addTest_0 rfl (lv_at hl 0 rfl) ?_
  refine va_get (D := D) (ci := 2) (v := .int zq) (C := RX2) (T := TX2) (N := 8) hx hb hts in_X2 hown hK hP 0 rfl rfl 0 (by decide) w_1 (fun _ h9 => h9) rfl dX2_addTest_1 ?_
  refine lv_bipush (v := 16) hx hb dX2_addTest_4 (by decide) ?_
  refine lv_icmp_ge (tgt := 22) hx hb dX2_addTest_6 (by decide) (fun c6 => ?_) (fun c6 => ?_)
  · skip
    have fc6 := q_le (a := 16) (b := zq.toInt) c6 (by decide) rfl
    exact r_v hx hb hr hlocks hK hS dX2_addTest_22 (u := (qte, qsu, qsi, qbo, qne)) hP hD (⟨trivial, hv_qte, hv_qsu⟩)
  · skip
    have fc6 := q_nle (a := 16) (b := zq.toInt) c6 (by decide) rfl
    refine lv_aload_n hx hb dX2_addTest_9 rfl (lv_at hl 0 rfl) ?_
    refine va_get (D := D) (ci := 2) (v := .ref q3) (C := RX2) (T := TX2) (N := 8) hx hb hts in_X2 hown hK hP 0 rfl rfl 3 (by decide) w_2 (fun _ h9 => h9) rfl dX2_addTest_10 ?_
    refine lv_aload_n hx hb dX2_addTest_13 rfl (lv_at hl 0 rfl) ?_
    refine va_get (D := D) (ci := 2) (v := .int zq) (C := RX2) (T := TX2) (N := 8) hx hb hts in_X2 hown hK hP 0 rfl rfl 0 (by decide) w_1 (fun _ h9 => h9) rfl dX2_addTest_14 ?_
    refine va_iald hx hb hK hP 3 0 rfl rfl (q_in (a := zq.toInt) rfl (by omega) (by omega)) dX2_addTest_17 ?_
    refine lv_topi (fun x17 ex17 => ?_)
    have tx17 := congrArg Int32.toInt ex17
    have ix17 := hv_qte zq.toNatClampNeg (cn (by omega) (by decide))
    refine lv_iconst (v := 4) hx hb dX2_addTest_18 (by decide) ?_
    refine lv_icmp_lt (tgt := 23) hx hb dX2_addTest_19 (by decide) (fun c19 => ?_) (fun c19 => ?_)
    · skip
      have fc19 := q_lt (a := x17.toInt) (b := 4) c19 rfl (by decide)
      refine lv_aload_n hx hb dX2_addTest_23 rfl (lv_at hl 0 rfl) ?_
      refine va_get (D := D) (ci := 2) (v := .int zq) (C := RX2) (T := TX2) (N := 8) hx hb hts in_X2 hown hK hP 0 rfl rfl 0 (by decide) w_1 (fun _ h9 => h9) rfl dX2_addTest_24 ?_
      refine lv_iconst (v := 4) hx hb dX2_addTest_27 (by decide) ?_
      refine lv_imul hx hb dX2_addTest_28 ?_
      refine lv_topi (fun x28 ex28 => ?_)
      have tx28 := q_mul (p := zq.toInt) (q := 4) ex28 rfl (by decide) (by omega) (by omega)
      refine lv_aload_n hx hb dX2_addTest_29 rfl (lv_at hl 0 rfl) ?_
      refine va_get (D := D) (ci := 2) (v := .ref q3) (C := RX2) (T := TX2) (N := 8) hx hb hts in_X2 hown hK hP 0 rfl rfl 3 (by decide) w_2 (fun _ h9 => h9) rfl dX2_addTest_30 ?_
      refine lv_aload_n hx hb dX2_addTest_33 rfl (lv_at hl 0 rfl) ?_
      refine va_get (D := D) (ci := 2) (v := .int zq) (C := RX2) (T := TX2) (N := 8) hx hb hts in_X2 hown hK hP 0 rfl rfl 0 (by decide) w_1 (fun _ h9 => h9) rfl dX2_addTest_34 ?_
      refine va_iald hx hb hK hP 3 0 rfl rfl (q_in (a := zq.toInt) rfl (by omega) (by omega)) dX2_addTest_37 ?_
      refine lv_topi (fun x37 ex37 => ?_)
      have tx37 := congrArg Int32.toInt ex37
      have ix37 := hv_qte zq.toNatClampNeg (cn (by omega) (by decide))
      refine lv_iadd hx hb dX2_addTest_38 ?_
      refine lv_topi (fun x38 ex38 => ?_)
      have tx38 := q_add (p := x28.toInt) (q := x37.toInt) ex38 rfl rfl (by omega) (by omega)
      refine lv_istore (lv' := [(5, .int x38), (0, .ref q0), (1, .int su), (2, .int si), (3, .int bo), (4, .int no)]) hx hb dX2_addTest_39 hl (by decide) rfl (fun ls hl => ?_)
      refine lv_aload_n hx hb dX2_addTest_41 rfl (lv_at hl 1 rfl) ?_
      refine va_get (D := D) (ci := 2) (v := .ref q4) (C := RX2) (T := TX2) (N := 8) hx hb hts in_X2 hown hK hP 0 rfl rfl 4 (by decide) w_3 (fun _ h9 => h9) rfl dX2_addTest_42 ?_
      refine lv_iload hx hb dX2_addTest_45 (lv_at hl 0 rfl) ?_
      refine lv_iload_n hx hb dX2_addTest_47 rfl (lv_at hl 2 rfl) ?_
      have v48_a : AllI (upd qsu x38.toNatClampNeg su) 64 0 4 := allI_upd hv_qsu (by omega) (by omega)
      refine va_iast hx hb hK hP hD hS 4 0 rfl rfl (q_in (a := x38.toInt) rfl (by omega) (by omega)) dX2_addTest_48 (fun H locs hP hD hS => ?_)
      have hP : va_P D vwCl [Prod.mk q0 (Sum.inr (Prod.mk 2 [Value.int zq, Value.ref q1, Value.ref q2, Value.ref q3, Value.ref q4, Value.ref q5, Value.ref q6, Value.ref q7])), Prod.mk q1 (Sum.inl (Prod.mk (cy 0) (Prod.mk 16 (Sum.inl qch)))), Prod.mk q2 (Sum.inl (Prod.mk (cy 0) (Prod.mk 16 (Sum.inl qam)))), Prod.mk q3 (Sum.inl (Prod.mk (cy 0) (Prod.mk 16 (Sum.inl qte)))), Prod.mk q4 (Sum.inl (Prod.mk (cy 0) (Prod.mk 64 (Sum.inl (upd qsu x38.toNatClampNeg su))))), Prod.mk q5 (Sum.inl (Prod.mk (cy 0) (Prod.mk 64 (Sum.inl qsi)))), Prod.mk q6 (Sum.inl (Prod.mk (cy 0) (Prod.mk 64 (Sum.inl qbo)))), Prod.mk q7 (Sum.inl (Prod.mk (cy 0) (Prod.mk 64 (Sum.inl qne))))] H := hP
      have hD : va_D A [Prod.mk q0 (Sum.inr (Prod.mk 2 [Value.int zq, Value.ref q1, Value.ref q2, Value.ref q3, Value.ref q4, Value.ref q5, Value.ref q6, Value.ref q7])), Prod.mk q1 (Sum.inl (Prod.mk (cy 0) (Prod.mk 16 (Sum.inl qch)))), Prod.mk q2 (Sum.inl (Prod.mk (cy 0) (Prod.mk 16 (Sum.inl qam)))), Prod.mk q3 (Sum.inl (Prod.mk (cy 0) (Prod.mk 16 (Sum.inl qte)))), Prod.mk q4 (Sum.inl (Prod.mk (cy 0) (Prod.mk 64 (Sum.inl (upd qsu x38.toNatClampNeg su))))), Prod.mk q5 (Sum.inl (Prod.mk (cy 0) (Prod.mk 64 (Sum.inl qsi)))), Prod.mk q6 (Sum.inl (Prod.mk (cy 0) (Prod.mk 64 (Sum.inl qbo)))), Prod.mk q7 (Sum.inl (Prod.mk (cy 0) (Prod.mk 64 (Sum.inl qne))))] := hD
      refine lv_aload_n hx hb dX2_addTest_49 rfl (lv_at hl 1 rfl) ?_
      refine va_get (D := D) (ci := 2) (v := .ref q5) (C := RX2) (T := TX2) (N := 8) hx hb hts in_X2 hown hK hP 0 rfl rfl 5 (by decide) w_4 (fun _ h9 => h9) rfl dX2_addTest_50 ?_
      refine lv_iload hx hb dX2_addTest_53 (lv_at hl 0 rfl) ?_
      refine lv_iload_n hx hb dX2_addTest_55 rfl (lv_at hl 3 rfl) ?_
      refine va_iast hx hb hK hP hD hS 5 0 rfl rfl (q_in (a := x38.toInt) rfl (by omega) (by omega)) dX2_addTest_56 (fun H locs hP hD hS => ?_)
      have hP : va_P D vwCl [Prod.mk q0 (Sum.inr (Prod.mk 2 [Value.int zq, Value.ref q1, Value.ref q2, Value.ref q3, Value.ref q4, Value.ref q5, Value.ref q6, Value.ref q7])), Prod.mk q1 (Sum.inl (Prod.mk (cy 0) (Prod.mk 16 (Sum.inl qch)))), Prod.mk q2 (Sum.inl (Prod.mk (cy 0) (Prod.mk 16 (Sum.inl qam)))), Prod.mk q3 (Sum.inl (Prod.mk (cy 0) (Prod.mk 16 (Sum.inl qte)))), Prod.mk q4 (Sum.inl (Prod.mk (cy 0) (Prod.mk 64 (Sum.inl (upd qsu x38.toNatClampNeg su))))), Prod.mk q5 (Sum.inl (Prod.mk (cy 0) (Prod.mk 64 (Sum.inl (upd qsi x38.toNatClampNeg si))))), Prod.mk q6 (Sum.inl (Prod.mk (cy 0) (Prod.mk 64 (Sum.inl qbo)))), Prod.mk q7 (Sum.inl (Prod.mk (cy 0) (Prod.mk 64 (Sum.inl qne))))] H := hP
      have hD : va_D A [Prod.mk q0 (Sum.inr (Prod.mk 2 [Value.int zq, Value.ref q1, Value.ref q2, Value.ref q3, Value.ref q4, Value.ref q5, Value.ref q6, Value.ref q7])), Prod.mk q1 (Sum.inl (Prod.mk (cy 0) (Prod.mk 16 (Sum.inl qch)))), Prod.mk q2 (Sum.inl (Prod.mk (cy 0) (Prod.mk 16 (Sum.inl qam)))), Prod.mk q3 (Sum.inl (Prod.mk (cy 0) (Prod.mk 16 (Sum.inl qte)))), Prod.mk q4 (Sum.inl (Prod.mk (cy 0) (Prod.mk 64 (Sum.inl (upd qsu x38.toNatClampNeg su))))), Prod.mk q5 (Sum.inl (Prod.mk (cy 0) (Prod.mk 64 (Sum.inl (upd qsi x38.toNatClampNeg si))))), Prod.mk q6 (Sum.inl (Prod.mk (cy 0) (Prod.mk 64 (Sum.inl qbo)))), Prod.mk q7 (Sum.inl (Prod.mk (cy 0) (Prod.mk 64 (Sum.inl qne))))] := hD
      refine lv_aload_n hx hb dX2_addTest_57 rfl (lv_at hl 1 rfl) ?_
      refine va_get (D := D) (ci := 2) (v := .ref q6) (C := RX2) (T := TX2) (N := 8) hx hb hts in_X2 hown hK hP 0 rfl rfl 6 (by decide) w_5 (fun _ h9 => h9) rfl dX2_addTest_58 ?_
      refine lv_iload hx hb dX2_addTest_61 (lv_at hl 0 rfl) ?_
      refine lv_iload_n hx hb dX2_addTest_63 rfl (lv_at hl 4 rfl) ?_
      refine va_iast hx hb hK hP hD hS 6 0 rfl rfl (q_in (a := x38.toInt) rfl (by omega) (by omega)) dX2_addTest_64 (fun H locs hP hD hS => ?_)
      have hP : va_P D vwCl [Prod.mk q0 (Sum.inr (Prod.mk 2 [Value.int zq, Value.ref q1, Value.ref q2, Value.ref q3, Value.ref q4, Value.ref q5, Value.ref q6, Value.ref q7])), Prod.mk q1 (Sum.inl (Prod.mk (cy 0) (Prod.mk 16 (Sum.inl qch)))), Prod.mk q2 (Sum.inl (Prod.mk (cy 0) (Prod.mk 16 (Sum.inl qam)))), Prod.mk q3 (Sum.inl (Prod.mk (cy 0) (Prod.mk 16 (Sum.inl qte)))), Prod.mk q4 (Sum.inl (Prod.mk (cy 0) (Prod.mk 64 (Sum.inl (upd qsu x38.toNatClampNeg su))))), Prod.mk q5 (Sum.inl (Prod.mk (cy 0) (Prod.mk 64 (Sum.inl (upd qsi x38.toNatClampNeg si))))), Prod.mk q6 (Sum.inl (Prod.mk (cy 0) (Prod.mk 64 (Sum.inl (upd qbo x38.toNatClampNeg bo))))), Prod.mk q7 (Sum.inl (Prod.mk (cy 0) (Prod.mk 64 (Sum.inl qne))))] H := hP
      have hD : va_D A [Prod.mk q0 (Sum.inr (Prod.mk 2 [Value.int zq, Value.ref q1, Value.ref q2, Value.ref q3, Value.ref q4, Value.ref q5, Value.ref q6, Value.ref q7])), Prod.mk q1 (Sum.inl (Prod.mk (cy 0) (Prod.mk 16 (Sum.inl qch)))), Prod.mk q2 (Sum.inl (Prod.mk (cy 0) (Prod.mk 16 (Sum.inl qam)))), Prod.mk q3 (Sum.inl (Prod.mk (cy 0) (Prod.mk 16 (Sum.inl qte)))), Prod.mk q4 (Sum.inl (Prod.mk (cy 0) (Prod.mk 64 (Sum.inl (upd qsu x38.toNatClampNeg su))))), Prod.mk q5 (Sum.inl (Prod.mk (cy 0) (Prod.mk 64 (Sum.inl (upd qsi x38.toNatClampNeg si))))), Prod.mk q6 (Sum.inl (Prod.mk (cy 0) (Prod.mk 64 (Sum.inl (upd qbo x38.toNatClampNeg bo))))), Prod.mk q7 (Sum.inl (Prod.mk (cy 0) (Prod.mk 64 (Sum.inl qne))))] := hD
      refine lv_aload_n hx hb dX2_addTest_65 rfl (lv_at hl 1 rfl) ?_
      refine va_get (D := D) (ci := 2) (v := .ref q7) (C := RX2) (T := TX2) (N := 8) hx hb hts in_X2 hown hK hP 0 rfl rfl 7 (by decide) w_6 (fun _ h9 => h9) rfl dX2_addTest_66 ?_
      refine lv_iload hx hb dX2_addTest_69 (lv_at hl 0 rfl) ?_
      refine lv_iload hx hb dX2_addTest_71 (lv_at hl 5 rfl) ?_
      refine lv_if_eq (tgt := 80) hx hb dX2_addTest_73 (by decide) (fun c73 => ?_) (fun c73 => ?_)
      · skip
        have fc73 := q_eq (a := no.toInt) (b := 0) c73 rfl (by decide)
        refine lv_iconst (v := 0) hx hb dX2_addTest_80 (by decide) ?_
        refine va_iast hx hb hK hP hD hS 7 0 rfl rfl (q_in (a := x38.toInt) rfl (by omega) (by omega)) dX2_addTest_81 (fun H locs hP hD hS => ?_)
        have hP : va_P D vwCl [Prod.mk q0 (Sum.inr (Prod.mk 2 [Value.int zq, Value.ref q1, Value.ref q2, Value.ref q3, Value.ref q4, Value.ref q5, Value.ref q6, Value.ref q7])), Prod.mk q1 (Sum.inl (Prod.mk (cy 0) (Prod.mk 16 (Sum.inl qch)))), Prod.mk q2 (Sum.inl (Prod.mk (cy 0) (Prod.mk 16 (Sum.inl qam)))), Prod.mk q3 (Sum.inl (Prod.mk (cy 0) (Prod.mk 16 (Sum.inl qte)))), Prod.mk q4 (Sum.inl (Prod.mk (cy 0) (Prod.mk 64 (Sum.inl (upd qsu x38.toNatClampNeg su))))), Prod.mk q5 (Sum.inl (Prod.mk (cy 0) (Prod.mk 64 (Sum.inl (upd qsi x38.toNatClampNeg si))))), Prod.mk q6 (Sum.inl (Prod.mk (cy 0) (Prod.mk 64 (Sum.inl (upd qbo x38.toNatClampNeg bo))))), Prod.mk q7 (Sum.inl (Prod.mk (cy 0) (Prod.mk 64 (Sum.inl (upd qne x38.toNatClampNeg 0)))))] H := hP
        have hD : va_D A [Prod.mk q0 (Sum.inr (Prod.mk 2 [Value.int zq, Value.ref q1, Value.ref q2, Value.ref q3, Value.ref q4, Value.ref q5, Value.ref q6, Value.ref q7])), Prod.mk q1 (Sum.inl (Prod.mk (cy 0) (Prod.mk 16 (Sum.inl qch)))), Prod.mk q2 (Sum.inl (Prod.mk (cy 0) (Prod.mk 16 (Sum.inl qam)))), Prod.mk q3 (Sum.inl (Prod.mk (cy 0) (Prod.mk 16 (Sum.inl qte)))), Prod.mk q4 (Sum.inl (Prod.mk (cy 0) (Prod.mk 64 (Sum.inl (upd qsu x38.toNatClampNeg su))))), Prod.mk q5 (Sum.inl (Prod.mk (cy 0) (Prod.mk 64 (Sum.inl (upd qsi x38.toNatClampNeg si))))), Prod.mk q6 (Sum.inl (Prod.mk (cy 0) (Prod.mk 64 (Sum.inl (upd qbo x38.toNatClampNeg bo))))), Prod.mk q7 (Sum.inl (Prod.mk (cy 0) (Prod.mk 64 (Sum.inl (upd qne x38.toNatClampNeg 0)))))] := hD
        refine lv_aload_n hx hb dX2_addTest_82 rfl (lv_at hl 1 rfl) ?_
        refine va_get (D := D) (ci := 2) (v := .ref q3) (C := RX2) (T := TX2) (N := 8) hx hb hts in_X2 hown hK hP 0 rfl rfl 3 (by decide) w_2 (fun _ h9 => h9) rfl dX2_addTest_83 ?_
        refine lv_aload_n hx hb dX2_addTest_86 rfl (lv_at hl 1 rfl) ?_
        refine va_get (D := D) (ci := 2) (v := .int zq) (C := RX2) (T := TX2) (N := 8) hx hb hts in_X2 hown hK hP 0 rfl rfl 0 (by decide) w_1 (fun _ h9 => h9) rfl dX2_addTest_87 ?_
        refine lv_dup2_11 hx hb dX2_addTest_90 rfl rfl ?_
        refine va_iald hx hb hK hP 3 0 rfl rfl (q_in (a := zq.toInt) rfl (by omega) (by omega)) dX2_addTest_91 ?_
        refine lv_topi (fun x91 ex91 => ?_)
        have tx91 := congrArg Int32.toInt ex91
        have ix91 := hv_qte zq.toNatClampNeg (cn (by omega) (by decide))
        refine lv_iconst (v := 1) hx hb dX2_addTest_92 (by decide) ?_
        refine lv_iadd hx hb dX2_addTest_93 ?_
        refine lv_topi (fun x93 ex93 => ?_)
        have tx93 := q_add (p := x91.toInt) (q := 1) ex93 rfl (by decide) (by omega) (by omega)
        have v94_a : AllI (upd qte zq.toNatClampNeg x93) 16 0 4 := allI_upd hv_qte (by omega) (by omega)
        refine va_iast hx hb hK hP hD hS 3 0 rfl rfl (q_in (a := zq.toInt) rfl (by omega) (by omega)) dX2_addTest_94 (fun H locs hP hD hS => ?_)
        have hP : va_P D vwCl [Prod.mk q0 (Sum.inr (Prod.mk 2 [Value.int zq, Value.ref q1, Value.ref q2, Value.ref q3, Value.ref q4, Value.ref q5, Value.ref q6, Value.ref q7])), Prod.mk q1 (Sum.inl (Prod.mk (cy 0) (Prod.mk 16 (Sum.inl qch)))), Prod.mk q2 (Sum.inl (Prod.mk (cy 0) (Prod.mk 16 (Sum.inl qam)))), Prod.mk q3 (Sum.inl (Prod.mk (cy 0) (Prod.mk 16 (Sum.inl (upd qte zq.toNatClampNeg x93))))), Prod.mk q4 (Sum.inl (Prod.mk (cy 0) (Prod.mk 64 (Sum.inl (upd qsu x38.toNatClampNeg su))))), Prod.mk q5 (Sum.inl (Prod.mk (cy 0) (Prod.mk 64 (Sum.inl (upd qsi x38.toNatClampNeg si))))), Prod.mk q6 (Sum.inl (Prod.mk (cy 0) (Prod.mk 64 (Sum.inl (upd qbo x38.toNatClampNeg bo))))), Prod.mk q7 (Sum.inl (Prod.mk (cy 0) (Prod.mk 64 (Sum.inl (upd qne x38.toNatClampNeg 0)))))] H := hP
        have hD : va_D A [Prod.mk q0 (Sum.inr (Prod.mk 2 [Value.int zq, Value.ref q1, Value.ref q2, Value.ref q3, Value.ref q4, Value.ref q5, Value.ref q6, Value.ref q7])), Prod.mk q1 (Sum.inl (Prod.mk (cy 0) (Prod.mk 16 (Sum.inl qch)))), Prod.mk q2 (Sum.inl (Prod.mk (cy 0) (Prod.mk 16 (Sum.inl qam)))), Prod.mk q3 (Sum.inl (Prod.mk (cy 0) (Prod.mk 16 (Sum.inl (upd qte zq.toNatClampNeg x93))))), Prod.mk q4 (Sum.inl (Prod.mk (cy 0) (Prod.mk 64 (Sum.inl (upd qsu x38.toNatClampNeg su))))), Prod.mk q5 (Sum.inl (Prod.mk (cy 0) (Prod.mk 64 (Sum.inl (upd qsi x38.toNatClampNeg si))))), Prod.mk q6 (Sum.inl (Prod.mk (cy 0) (Prod.mk 64 (Sum.inl (upd qbo x38.toNatClampNeg bo))))), Prod.mk q7 (Sum.inl (Prod.mk (cy 0) (Prod.mk 64 (Sum.inl (upd qne x38.toNatClampNeg 0)))))] := hD
        exact r_v hx hb hr hlocks hK hS dX2_addTest_95 (u := (upd qte zq.toNatClampNeg x93, upd qsu x38.toNatClampNeg su, upd qsi x38.toNatClampNeg si, upd qbo x38.toNatClampNeg bo, upd qne x38.toNatClampNeg 0)) hP hD (⟨trivial, v94_a, v48_a⟩)
      · skip
        have fc73 := q_ne (a := no.toInt) (b := 0) c73 rfl (by decide)
        refine lv_iconst (v := 1) hx hb dX2_addTest_76 (by decide) ?_
        refine lv_goto (tgt := 81) hx hb dX2_addTest_77 (by decide) ?_
        refine va_iast hx hb hK hP hD hS 7 0 rfl rfl (q_in (a := x38.toInt) rfl (by omega) (by omega)) dX2_addTest_81 (fun H locs hP hD hS => ?_)
        have hP : va_P D vwCl [Prod.mk q0 (Sum.inr (Prod.mk 2 [Value.int zq, Value.ref q1, Value.ref q2, Value.ref q3, Value.ref q4, Value.ref q5, Value.ref q6, Value.ref q7])), Prod.mk q1 (Sum.inl (Prod.mk (cy 0) (Prod.mk 16 (Sum.inl qch)))), Prod.mk q2 (Sum.inl (Prod.mk (cy 0) (Prod.mk 16 (Sum.inl qam)))), Prod.mk q3 (Sum.inl (Prod.mk (cy 0) (Prod.mk 16 (Sum.inl qte)))), Prod.mk q4 (Sum.inl (Prod.mk (cy 0) (Prod.mk 64 (Sum.inl (upd qsu x38.toNatClampNeg su))))), Prod.mk q5 (Sum.inl (Prod.mk (cy 0) (Prod.mk 64 (Sum.inl (upd qsi x38.toNatClampNeg si))))), Prod.mk q6 (Sum.inl (Prod.mk (cy 0) (Prod.mk 64 (Sum.inl (upd qbo x38.toNatClampNeg bo))))), Prod.mk q7 (Sum.inl (Prod.mk (cy 0) (Prod.mk 64 (Sum.inl (upd qne x38.toNatClampNeg 1)))))] H := hP
        have hD : va_D A [Prod.mk q0 (Sum.inr (Prod.mk 2 [Value.int zq, Value.ref q1, Value.ref q2, Value.ref q3, Value.ref q4, Value.ref q5, Value.ref q6, Value.ref q7])), Prod.mk q1 (Sum.inl (Prod.mk (cy 0) (Prod.mk 16 (Sum.inl qch)))), Prod.mk q2 (Sum.inl (Prod.mk (cy 0) (Prod.mk 16 (Sum.inl qam)))), Prod.mk q3 (Sum.inl (Prod.mk (cy 0) (Prod.mk 16 (Sum.inl qte)))), Prod.mk q4 (Sum.inl (Prod.mk (cy 0) (Prod.mk 64 (Sum.inl (upd qsu x38.toNatClampNeg su))))), Prod.mk q5 (Sum.inl (Prod.mk (cy 0) (Prod.mk 64 (Sum.inl (upd qsi x38.toNatClampNeg si))))), Prod.mk q6 (Sum.inl (Prod.mk (cy 0) (Prod.mk 64 (Sum.inl (upd qbo x38.toNatClampNeg bo))))), Prod.mk q7 (Sum.inl (Prod.mk (cy 0) (Prod.mk 64 (Sum.inl (upd qne x38.toNatClampNeg 1)))))] := hD
        refine lv_aload_n hx hb dX2_addTest_82 rfl (lv_at hl 1 rfl) ?_
        refine va_get (D := D) (ci := 2) (v := .ref q3) (C := RX2) (T := TX2) (N := 8) hx hb hts in_X2 hown hK hP 0 rfl rfl 3 (by decide) w_2 (fun _ h9 => h9) rfl dX2_addTest_83 ?_
        refine lv_aload_n hx hb dX2_addTest_86 rfl (lv_at hl 1 rfl) ?_
        refine va_get (D := D) (ci := 2) (v := .int zq) (C := RX2) (T := TX2) (N := 8) hx hb hts in_X2 hown hK hP 0 rfl rfl 0 (by decide) w_1 (fun _ h9 => h9) rfl dX2_addTest_87 ?_
        refine lv_dup2_11 hx hb dX2_addTest_90 rfl rfl ?_
        refine va_iald hx hb hK hP 3 0 rfl rfl (q_in (a := zq.toInt) rfl (by omega) (by omega)) dX2_addTest_91 ?_
        refine lv_topi (fun x91 ex91 => ?_)
        have tx91 := congrArg Int32.toInt ex91
        have ix91 := hv_qte zq.toNatClampNeg (cn (by omega) (by decide))
        refine lv_iconst (v := 1) hx hb dX2_addTest_92 (by decide) ?_
        refine lv_iadd hx hb dX2_addTest_93 ?_
        refine lv_topi (fun x93 ex93 => ?_)
        have tx93 := q_add (p := x91.toInt) (q := 1) ex93 rfl (by decide) (by omega) (by omega)
        have v94_a : AllI (upd qte zq.toNatClampNeg x93) 16 0 4 := allI_upd hv_qte (by omega) (by omega)
        refine va_iast hx hb hK hP hD hS 3 0 rfl rfl (q_in (a := zq.toInt) rfl (by omega) (by omega)) dX2_addTest_94 (fun H locs hP hD hS => ?_)
        have hP : va_P D vwCl [Prod.mk q0 (Sum.inr (Prod.mk 2 [Value.int zq, Value.ref q1, Value.ref q2, Value.ref q3, Value.ref q4, Value.ref q5, Value.ref q6, Value.ref q7])), Prod.mk q1 (Sum.inl (Prod.mk (cy 0) (Prod.mk 16 (Sum.inl qch)))), Prod.mk q2 (Sum.inl (Prod.mk (cy 0) (Prod.mk 16 (Sum.inl qam)))), Prod.mk q3 (Sum.inl (Prod.mk (cy 0) (Prod.mk 16 (Sum.inl (upd qte zq.toNatClampNeg x93))))), Prod.mk q4 (Sum.inl (Prod.mk (cy 0) (Prod.mk 64 (Sum.inl (upd qsu x38.toNatClampNeg su))))), Prod.mk q5 (Sum.inl (Prod.mk (cy 0) (Prod.mk 64 (Sum.inl (upd qsi x38.toNatClampNeg si))))), Prod.mk q6 (Sum.inl (Prod.mk (cy 0) (Prod.mk 64 (Sum.inl (upd qbo x38.toNatClampNeg bo))))), Prod.mk q7 (Sum.inl (Prod.mk (cy 0) (Prod.mk 64 (Sum.inl (upd qne x38.toNatClampNeg 1)))))] H := hP
        have hD : va_D A [Prod.mk q0 (Sum.inr (Prod.mk 2 [Value.int zq, Value.ref q1, Value.ref q2, Value.ref q3, Value.ref q4, Value.ref q5, Value.ref q6, Value.ref q7])), Prod.mk q1 (Sum.inl (Prod.mk (cy 0) (Prod.mk 16 (Sum.inl qch)))), Prod.mk q2 (Sum.inl (Prod.mk (cy 0) (Prod.mk 16 (Sum.inl qam)))), Prod.mk q3 (Sum.inl (Prod.mk (cy 0) (Prod.mk 16 (Sum.inl (upd qte zq.toNatClampNeg x93))))), Prod.mk q4 (Sum.inl (Prod.mk (cy 0) (Prod.mk 64 (Sum.inl (upd qsu x38.toNatClampNeg su))))), Prod.mk q5 (Sum.inl (Prod.mk (cy 0) (Prod.mk 64 (Sum.inl (upd qsi x38.toNatClampNeg si))))), Prod.mk q6 (Sum.inl (Prod.mk (cy 0) (Prod.mk 64 (Sum.inl (upd qbo x38.toNatClampNeg bo))))), Prod.mk q7 (Sum.inl (Prod.mk (cy 0) (Prod.mk 64 (Sum.inl (upd qne x38.toNatClampNeg 1)))))] := hD
        exact r_v hx hb hr hlocks hK hS dX2_addTest_95 (u := (upd qte zq.toNatClampNeg x93, upd qsu x38.toNatClampNeg su, upd qsi x38.toNatClampNeg si, upd qbo x38.toNatClampNeg bo, upd qne x38.toNatClampNeg 1)) hP hD (⟨trivial, v94_a, v48_a⟩)
    · skip
      have fc19 := q_nlt (a := x17.toInt) (b := 4) c19 rfl (by decide)
      exact r_v hx hb hr hlocks hK hS dX2_addTest_22 (u := (qte, qsu, qsi, qbo, qne)) hP hD (⟨trivial, hv_qte, hv_qsu⟩)

abbrev Q_c_X2_addLine (D : va_G) (cy : Nat → ClassId) (E : EN) (q0 : Nat) (q1 : Nat) (q2 : Nat) (q3 : Nat) (q4 : Nat) (q5 : Nat) (q6 : Nat) (q7 : Nat) (zq : Int32) (qch : Nat → Int32) (qam : Nat → Int32) (qte : Nat → Int32) (qsu : Nat → Int32) (qsi : Nat → Int32) (qbo : Nat → Int32) (qne : Nat → Int32) (ch : Int32) (am : Int32) : (Nat → Prop) → Array Value → State → Outcome → State → Prop := QV D cy (fun (u : Int32 × (Nat → Int32) × (Nat → Int32)) => match u with | (zz, pch, pam) => 0 ≤ zz.toInt ∧ zz.toInt ≤ 16) (fun u : Int32 × (Nat → Int32) × (Nat → Int32) => match u with | (zz, pch, pam) => [Prod.mk q0 (Sum.inr (Prod.mk 2 [Value.int zz, Value.ref q1, Value.ref q2, Value.ref q3, Value.ref q4, Value.ref q5, Value.ref q6, Value.ref q7])), Prod.mk q1 (Sum.inl (Prod.mk (cy 0) (Prod.mk 16 (Sum.inl pch)))), Prod.mk q2 (Sum.inl (Prod.mk (cy 0) (Prod.mk 16 (Sum.inl pam)))), Prod.mk q3 (Sum.inl (Prod.mk (cy 0) (Prod.mk 16 (Sum.inl qte)))), Prod.mk q4 (Sum.inl (Prod.mk (cy 0) (Prod.mk 64 (Sum.inl qsu)))), Prod.mk q5 (Sum.inl (Prod.mk (cy 0) (Prod.mk 64 (Sum.inl qsi)))), Prod.mk q6 (Sum.inl (Prod.mk (cy 0) (Prod.mk 64 (Sum.inl qbo)))), Prod.mk q7 (Sum.inl (Prod.mk (cy 0) (Prod.mk 64 (Sum.inl qne))))])
set_option maxHeartbeats 4000000 in
set_option maxRecDepth 100000 in
theorem c_X2_addLine (l : Launch) (D : va_G) (cy : Nat → ClassId) (E : EN) (q0 : Nat) (q1 : Nat) (q2 : Nat) (q3 : Nat) (q4 : Nat) (q5 : Nat) (q6 : Nat) (q7 : Nat) (zq : Int32) (qch : Nat → Int32) (qam : Nat → Int32) (qte : Nat → Int32) (qsu : Nat → Int32) (qsi : Nat → Int32) (qbo : Nat → Int32) (qne : Nat → Int32) (ch : Int32) (am : Int32) (sz : Nat) (hzq : 0 ≤ zq.toInt ∧ zq.toInt ≤ 16) (hv_qte : AllI qte 16 0 4) (hv_qsu : AllI qsu 64 0 4) : Met l yX2_addLine wsX2_addLine ({ frames := 0, cells := 0, slots := 0, locals := 0 } : Room) (CP D cy E [.ref q0, .int ch, .int am] [Prod.mk q0 (Sum.inr (Prod.mk 2 [Value.int zq, Value.ref q1, Value.ref q2, Value.ref q3, Value.ref q4, Value.ref q5, Value.ref q6, Value.ref q7])), Prod.mk q1 (Sum.inl (Prod.mk (cy 0) (Prod.mk 16 (Sum.inl qch)))), Prod.mk q2 (Sum.inl (Prod.mk (cy 0) (Prod.mk 16 (Sum.inl qam)))), Prod.mk q3 (Sum.inl (Prod.mk (cy 0) (Prod.mk 16 (Sum.inl qte)))), Prod.mk q4 (Sum.inl (Prod.mk (cy 0) (Prod.mk 64 (Sum.inl qsu)))), Prod.mk q5 (Sum.inl (Prod.mk (cy 0) (Prod.mk 64 (Sum.inl qsi)))), Prod.mk q6 (Sum.inl (Prod.mk (cy 0) (Prod.mk 64 (Sum.inl qbo)))), Prod.mk q7 (Sum.inl (Prod.mk (cy 0) (Prod.mk 64 (Sum.inl qne))))] sz) (Q_c_X2_addLine D cy E q0 q1 q2 q3 q4 q5 q6 q7 zq qch qam qte qsu qsi qbo qne ch am (va_A [Prod.mk q0 (Sum.inr (Prod.mk 2 [Value.int zq, Value.ref q1, Value.ref q2, Value.ref q3, Value.ref q4, Value.ref q5, Value.ref q6, Value.ref q7])), Prod.mk q1 (Sum.inl (Prod.mk (cy 0) (Prod.mk 16 (Sum.inl qch)))), Prod.mk q2 (Sum.inl (Prod.mk (cy 0) (Prod.mk 16 (Sum.inl qam)))), Prod.mk q3 (Sum.inl (Prod.mk (cy 0) (Prod.mk 16 (Sum.inl qte)))), Prod.mk q4 (Sum.inl (Prod.mk (cy 0) (Prod.mk 64 (Sum.inl qsu)))), Prod.mk q5 (Sum.inl (Prod.mk (cy 0) (Prod.mk 64 (Sum.inl qsi)))), Prod.mk q6 (Sum.inl (Prod.mk (cy 0) (Prod.mk 64 (Sum.inl qbo)))), Prod.mk q7 (Sum.inl (Prod.mk (cy 0) (Prod.mk 64 (Sum.inl qne))))] sz)) 0 0 (va_A [Prod.mk q0 (Sum.inr (Prod.mk 2 [Value.int zq, Value.ref q1, Value.ref q2, Value.ref q3, Value.ref q4, Value.ref q5, Value.ref q6, Value.ref q7])), Prod.mk q1 (Sum.inl (Prod.mk (cy 0) (Prod.mk 16 (Sum.inl qch)))), Prod.mk q2 (Sum.inl (Prod.mk (cy 0) (Prod.mk 16 (Sum.inl qam)))), Prod.mk q3 (Sum.inl (Prod.mk (cy 0) (Prod.mk 16 (Sum.inl qte)))), Prod.mk q4 (Sum.inl (Prod.mk (cy 0) (Prod.mk 64 (Sum.inl qsu)))), Prod.mk q5 (Sum.inl (Prod.mk (cy 0) (Prod.mk 64 (Sum.inl qsi)))), Prod.mk q6 (Sum.inl (Prod.mk (cy 0) (Prod.mk 64 (Sum.inl qbo)))), Prod.mk q7 (Sum.inl (Prod.mk (cy 0) (Prod.mk 64 (Sum.inl qne))))] sz) := by
  refine Met.go (Qc := Q_c_X2_addLine D cy E q0 q1 q2 q3 q4 q5 q6 q7 zq qch qam qte qsu qsi qbo qne ch am) (cc := cX2_addLine) (maxL := 3) (ret := none) (by decide) rfl (Nat.le_of_ble_eq_true rfl) ?_
  intro p e s m below meth c hx hb hr hts hown hlocks hin hml hK hN A hA hAB hD hP hS ls hl hsz
  have hl : lv_has ls 3 [(0, .ref q0), (1, .int ch), (2, .int am)] := hl
  have in_X2 : ∀ w ∈ wsX20, w ∈ wsX2_addLine := fun _ h => List.mem_cons_of_mem _ ((List.mem_append_right _ h))
  have w_1 := hts (.fieldLink RX2 33 "SleepingCars$Rates" "lines" "I") (by decide +kernel)
  have w_2 := hts (.fieldLink RX2 9 "SleepingCars$Rates" "charges" "[I") (by decide +kernel)
  have w_3 := hts (.fieldLink RX2 15 "SleepingCars$Rates" "amounts" "[I") (by decide +kernel)
  obtain ⟨H, eH⟩ : ∃ H : Heap, H = s.heap := ⟨_, rfl⟩
  obtain ⟨locs, eL⟩ : ∃ L : List Loc, L = [] := ⟨_, rfl⟩
  rw [← eL]
  rw [← eL] at hS
  have hP : va_P D vwCl [Prod.mk q0 (Sum.inr (Prod.mk 2 [Value.int zq, Value.ref q1, Value.ref q2, Value.ref q3, Value.ref q4, Value.ref q5, Value.ref q6, Value.ref q7])), Prod.mk q1 (Sum.inl (Prod.mk (cy 0) (Prod.mk 16 (Sum.inl qch)))), Prod.mk q2 (Sum.inl (Prod.mk (cy 0) (Prod.mk 16 (Sum.inl qam)))), Prod.mk q3 (Sum.inl (Prod.mk (cy 0) (Prod.mk 16 (Sum.inl qte)))), Prod.mk q4 (Sum.inl (Prod.mk (cy 0) (Prod.mk 64 (Sum.inl qsu)))), Prod.mk q5 (Sum.inl (Prod.mk (cy 0) (Prod.mk 64 (Sum.inl qsi)))), Prod.mk q6 (Sum.inl (Prod.mk (cy 0) (Prod.mk 64 (Sum.inl qbo)))), Prod.mk q7 (Sum.inl (Prod.mk (cy 0) (Prod.mk 64 (Sum.inl qne))))] H := by rw [eH]; exact hP
  have hS : va_S A s.heap H locs := by rw [eH]; exact hS
  refine W.heapEq eH ?_
  clear eH eL
  refine lv_aload_n hx hb dX2_addLine_0 rfl (lv_at hl 0 rfl) ?_
  refine va_get (D := D) (ci := 2) (v := .int zq) (C := RX2) (T := TX2) (N := 8) hx hb hts in_X2 hown hK hP 0 rfl rfl 0 (by decide) w_1 (fun _ h9 => h9) rfl dX2_addLine_1 ?_
  refine lv_bipush (v := 16) hx hb dX2_addLine_4 (by decide) ?_
  refine lv_icmp_lt (tgt := 10) hx hb dX2_addLine_6 (by decide) (fun c6 => ?_) (fun c6 => ?_)
  · skip
    have fc6 := q_lt (a := zq.toInt) (b := 16) c6 rfl (by decide)
    refine lv_aload_n hx hb dX2_addLine_10 rfl (lv_at hl 0 rfl) ?_
    refine va_get (D := D) (ci := 2) (v := .ref q1) (C := RX2) (T := TX2) (N := 8) hx hb hts in_X2 hown hK hP 0 rfl rfl 1 (by decide) w_2 (fun _ h9 => h9) rfl dX2_addLine_11 ?_
    refine lv_aload_n hx hb dX2_addLine_14 rfl (lv_at hl 0 rfl) ?_
    refine va_get (D := D) (ci := 2) (v := .int zq) (C := RX2) (T := TX2) (N := 8) hx hb hts in_X2 hown hK hP 0 rfl rfl 0 (by decide) w_1 (fun _ h9 => h9) rfl dX2_addLine_15 ?_
    refine lv_iload_n hx hb dX2_addLine_18 rfl (lv_at hl 1 rfl) ?_
    refine va_iast hx hb hK hP hD hS 1 0 rfl rfl (q_in (a := zq.toInt) rfl (by omega) (by omega)) dX2_addLine_19 (fun H locs hP hD hS => ?_)
    have hP : va_P D vwCl [Prod.mk q0 (Sum.inr (Prod.mk 2 [Value.int zq, Value.ref q1, Value.ref q2, Value.ref q3, Value.ref q4, Value.ref q5, Value.ref q6, Value.ref q7])), Prod.mk q1 (Sum.inl (Prod.mk (cy 0) (Prod.mk 16 (Sum.inl (upd qch zq.toNatClampNeg ch))))), Prod.mk q2 (Sum.inl (Prod.mk (cy 0) (Prod.mk 16 (Sum.inl qam)))), Prod.mk q3 (Sum.inl (Prod.mk (cy 0) (Prod.mk 16 (Sum.inl qte)))), Prod.mk q4 (Sum.inl (Prod.mk (cy 0) (Prod.mk 64 (Sum.inl qsu)))), Prod.mk q5 (Sum.inl (Prod.mk (cy 0) (Prod.mk 64 (Sum.inl qsi)))), Prod.mk q6 (Sum.inl (Prod.mk (cy 0) (Prod.mk 64 (Sum.inl qbo)))), Prod.mk q7 (Sum.inl (Prod.mk (cy 0) (Prod.mk 64 (Sum.inl qne))))] H := hP
    have hD : va_D A [Prod.mk q0 (Sum.inr (Prod.mk 2 [Value.int zq, Value.ref q1, Value.ref q2, Value.ref q3, Value.ref q4, Value.ref q5, Value.ref q6, Value.ref q7])), Prod.mk q1 (Sum.inl (Prod.mk (cy 0) (Prod.mk 16 (Sum.inl (upd qch zq.toNatClampNeg ch))))), Prod.mk q2 (Sum.inl (Prod.mk (cy 0) (Prod.mk 16 (Sum.inl qam)))), Prod.mk q3 (Sum.inl (Prod.mk (cy 0) (Prod.mk 16 (Sum.inl qte)))), Prod.mk q4 (Sum.inl (Prod.mk (cy 0) (Prod.mk 64 (Sum.inl qsu)))), Prod.mk q5 (Sum.inl (Prod.mk (cy 0) (Prod.mk 64 (Sum.inl qsi)))), Prod.mk q6 (Sum.inl (Prod.mk (cy 0) (Prod.mk 64 (Sum.inl qbo)))), Prod.mk q7 (Sum.inl (Prod.mk (cy 0) (Prod.mk 64 (Sum.inl qne))))] := hD
    refine lv_aload_n hx hb dX2_addLine_20 rfl (lv_at hl 0 rfl) ?_
    refine va_get (D := D) (ci := 2) (v := .ref q2) (C := RX2) (T := TX2) (N := 8) hx hb hts in_X2 hown hK hP 0 rfl rfl 2 (by decide) w_3 (fun _ h9 => h9) rfl dX2_addLine_21 ?_
    refine lv_aload_n hx hb dX2_addLine_24 rfl (lv_at hl 0 rfl) ?_
    refine va_get (D := D) (ci := 2) (v := .int zq) (C := RX2) (T := TX2) (N := 8) hx hb hts in_X2 hown hK hP 0 rfl rfl 0 (by decide) w_1 (fun _ h9 => h9) rfl dX2_addLine_25 ?_
    refine lv_iload_n hx hb dX2_addLine_28 rfl (lv_at hl 2 rfl) ?_
    refine va_iast hx hb hK hP hD hS 2 0 rfl rfl (q_in (a := zq.toInt) rfl (by omega) (by omega)) dX2_addLine_29 (fun H locs hP hD hS => ?_)
    have hP : va_P D vwCl [Prod.mk q0 (Sum.inr (Prod.mk 2 [Value.int zq, Value.ref q1, Value.ref q2, Value.ref q3, Value.ref q4, Value.ref q5, Value.ref q6, Value.ref q7])), Prod.mk q1 (Sum.inl (Prod.mk (cy 0) (Prod.mk 16 (Sum.inl (upd qch zq.toNatClampNeg ch))))), Prod.mk q2 (Sum.inl (Prod.mk (cy 0) (Prod.mk 16 (Sum.inl (upd qam zq.toNatClampNeg am))))), Prod.mk q3 (Sum.inl (Prod.mk (cy 0) (Prod.mk 16 (Sum.inl qte)))), Prod.mk q4 (Sum.inl (Prod.mk (cy 0) (Prod.mk 64 (Sum.inl qsu)))), Prod.mk q5 (Sum.inl (Prod.mk (cy 0) (Prod.mk 64 (Sum.inl qsi)))), Prod.mk q6 (Sum.inl (Prod.mk (cy 0) (Prod.mk 64 (Sum.inl qbo)))), Prod.mk q7 (Sum.inl (Prod.mk (cy 0) (Prod.mk 64 (Sum.inl qne))))] H := hP
    have hD : va_D A [Prod.mk q0 (Sum.inr (Prod.mk 2 [Value.int zq, Value.ref q1, Value.ref q2, Value.ref q3, Value.ref q4, Value.ref q5, Value.ref q6, Value.ref q7])), Prod.mk q1 (Sum.inl (Prod.mk (cy 0) (Prod.mk 16 (Sum.inl (upd qch zq.toNatClampNeg ch))))), Prod.mk q2 (Sum.inl (Prod.mk (cy 0) (Prod.mk 16 (Sum.inl (upd qam zq.toNatClampNeg am))))), Prod.mk q3 (Sum.inl (Prod.mk (cy 0) (Prod.mk 16 (Sum.inl qte)))), Prod.mk q4 (Sum.inl (Prod.mk (cy 0) (Prod.mk 64 (Sum.inl qsu)))), Prod.mk q5 (Sum.inl (Prod.mk (cy 0) (Prod.mk 64 (Sum.inl qsi)))), Prod.mk q6 (Sum.inl (Prod.mk (cy 0) (Prod.mk 64 (Sum.inl qbo)))), Prod.mk q7 (Sum.inl (Prod.mk (cy 0) (Prod.mk 64 (Sum.inl qne))))] := hD
    refine lv_aload_n hx hb dX2_addLine_30 rfl (lv_at hl 0 rfl) ?_
    refine lv_dup hx hb dX2_addLine_31 rfl ?_
    refine va_get (D := D) (ci := 2) (v := .int zq) (C := RX2) (T := TX2) (N := 8) hx hb hts in_X2 hown hK hP 0 rfl rfl 0 (by decide) w_1 (fun _ h9 => h9) rfl dX2_addLine_32 ?_
    refine lv_iconst (v := 1) hx hb dX2_addLine_35 (by decide) ?_
    refine lv_iadd hx hb dX2_addLine_36 ?_
    refine lv_topi (fun x36 ex36 => ?_)
    have tx36 := q_add (p := zq.toInt) (q := 1) ex36 rfl (by decide) (by omega) (by omega)
    refine va_put (D := D) (ci := 2) (v := .int x36) (ty := .int) (C := RX2) (T := TX2) (N := 8) hx hb hts in_X2 tyX2 tyX2_ok nmX2 hown hK hP hD hS 0 rfl rfl 0 (by decide) w_1 (fun _ h9 => h9) rfl (by decide +kernel) rfl rfl (Nat.le_of_ble_eq_true rfl) dX2_addLine_37 (fun H locs hP hD hS => ?_)
    have hP : va_P D vwCl [Prod.mk q0 (Sum.inr (Prod.mk 2 [Value.int x36, Value.ref q1, Value.ref q2, Value.ref q3, Value.ref q4, Value.ref q5, Value.ref q6, Value.ref q7])), Prod.mk q1 (Sum.inl (Prod.mk (cy 0) (Prod.mk 16 (Sum.inl (upd qch zq.toNatClampNeg ch))))), Prod.mk q2 (Sum.inl (Prod.mk (cy 0) (Prod.mk 16 (Sum.inl (upd qam zq.toNatClampNeg am))))), Prod.mk q3 (Sum.inl (Prod.mk (cy 0) (Prod.mk 16 (Sum.inl qte)))), Prod.mk q4 (Sum.inl (Prod.mk (cy 0) (Prod.mk 64 (Sum.inl qsu)))), Prod.mk q5 (Sum.inl (Prod.mk (cy 0) (Prod.mk 64 (Sum.inl qsi)))), Prod.mk q6 (Sum.inl (Prod.mk (cy 0) (Prod.mk 64 (Sum.inl qbo)))), Prod.mk q7 (Sum.inl (Prod.mk (cy 0) (Prod.mk 64 (Sum.inl qne))))] H := hP
    have hD : va_D A [Prod.mk q0 (Sum.inr (Prod.mk 2 [Value.int x36, Value.ref q1, Value.ref q2, Value.ref q3, Value.ref q4, Value.ref q5, Value.ref q6, Value.ref q7])), Prod.mk q1 (Sum.inl (Prod.mk (cy 0) (Prod.mk 16 (Sum.inl (upd qch zq.toNatClampNeg ch))))), Prod.mk q2 (Sum.inl (Prod.mk (cy 0) (Prod.mk 16 (Sum.inl (upd qam zq.toNatClampNeg am))))), Prod.mk q3 (Sum.inl (Prod.mk (cy 0) (Prod.mk 16 (Sum.inl qte)))), Prod.mk q4 (Sum.inl (Prod.mk (cy 0) (Prod.mk 64 (Sum.inl qsu)))), Prod.mk q5 (Sum.inl (Prod.mk (cy 0) (Prod.mk 64 (Sum.inl qsi)))), Prod.mk q6 (Sum.inl (Prod.mk (cy 0) (Prod.mk 64 (Sum.inl qbo)))), Prod.mk q7 (Sum.inl (Prod.mk (cy 0) (Prod.mk 64 (Sum.inl qne))))] := hD
    exact r_v hx hb hr hlocks hK hS dX2_addLine_40 (u := (x36, upd qch zq.toNatClampNeg ch, upd qam zq.toNatClampNeg am)) hP hD (by omega)
  · skip
    have fc6 := q_nlt (a := zq.toInt) (b := 16) c6 rfl (by decide)
    exact r_v hx hb hr hlocks hK hS dX2_addLine_9 (u := (zq, qch, qam)) hP hD (by omega)

abbrev Q_c_X2_compares (D : va_G) (cy : Nat → ClassId) (E : EN) (v : Int32) (si : Int32) (bo : Int32) : (Nat → Prop) → Array Value → State → Outcome → State → Prop := QI D cy (fun (r : Int32) (_ : Unit) => r.toInt = 0 ∨ r.toInt = 1) (fun _ : Unit => [])
set_option maxHeartbeats 4000000 in
set_option maxRecDepth 100000 in
theorem c_X2_compares (l : Launch) (D : va_G) (cy : Nat → ClassId) (E : EN) (v : Int32) (si : Int32) (bo : Int32) (sz : Nat)  : Met l yX2_compares wsX2_compares ({ frames := 0, cells := 0, slots := 0, locals := 0 } : Room) (CP D cy E [.int v, .int si, .int bo] [] sz) (Q_c_X2_compares D cy E v si bo (va_A [] sz)) 0 0 (va_A [] sz) := by
  refine Met.go (Qc := Q_c_X2_compares D cy E v si bo) (cc := cX2_compares) (maxL := 3) (ret := (some .boolean)) (by decide) rfl (Nat.le_of_ble_eq_true rfl) ?_
  intro p e s m below meth c hx hb hr hts hown hlocks hin hml hK hN A hA hAB hD hP hS ls hl hsz
  have hl : lv_has ls 3 [(0, .int v), (1, .int si), (2, .int bo)] := hl
  obtain ⟨H, eH⟩ : ∃ H : Heap, H = s.heap := ⟨_, rfl⟩
  obtain ⟨locs, eL⟩ : ∃ L : List Loc, L = [] := ⟨_, rfl⟩
  rw [← eL]
  rw [← eL] at hS
  have hP : va_P D vwCl [] H := by rw [eH]; exact hP
  have hS : va_S A s.heap H locs := by rw [eH]; exact hS
  refine W.heapEq eH ?_
  clear eH eL
  refine lv_iload_n hx hb dX2_compares_0 rfl (lv_at hl 1 rfl) ?_
  refine lv_bipush (v := 15) hx hb dX2_compares_1 (by decide) ?_
  refine lv_icmp_ne (tgt := 17) hx hb dX2_compares_3 (by decide) (fun c3 => ?_) (fun c3 => ?_)
  · skip
    have fc3 := q_ne (a := si.toInt) (b := 15) c3 rfl (by decide)
    refine lv_iload_n hx hb dX2_compares_17 rfl (lv_at hl 1 rfl) ?_
    refine lv_bipush (v := 16) hx hb dX2_compares_18 (by decide) ?_
    refine lv_icmp_ne (tgt := 36) hx hb dX2_compares_20 (by decide) (fun c20 => ?_) (fun c20 => ?_)
    · skip
      have fc20 := q_ne (a := si.toInt) (b := 16) c20 rfl (by decide)
      refine lv_iload_n hx hb dX2_compares_36 rfl (lv_at hl 0 rfl) ?_
      refine lv_iload_n hx hb dX2_compares_37 rfl (lv_at hl 2 rfl) ?_
      refine lv_icmp_ne (tgt := 45) hx hb dX2_compares_38 (by decide) (fun c38 => ?_) (fun c38 => ?_)
      · skip
        have fc38 := q_ne (a := v.toInt) (b := bo.toInt) c38 rfl rfl
        refine lv_iconst (v := 0) hx hb dX2_compares_45 (by decide) ?_
        exact r_z hx hb hr hlocks hK hS dX2_compares_46 (by decide) (u := ()) hP hD (by first | exact Or.inl (by decide) | exact Or.inr (by decide) | omega)
      · skip
        have fc38 := q_eq (a := v.toInt) (b := bo.toInt) c38 rfl rfl
        refine lv_iconst (v := 1) hx hb dX2_compares_41 (by decide) ?_
        refine lv_goto (tgt := 46) hx hb dX2_compares_42 (by decide) ?_
        exact r_z hx hb hr hlocks hK hS dX2_compares_46 (by decide) (u := ()) hP hD (by first | exact Or.inl (by decide) | exact Or.inr (by decide) | omega)
    · skip
      have fc20 := q_eq (a := si.toInt) (b := 16) c20 rfl (by decide)
      refine lv_iload_n hx hb dX2_compares_23 rfl (lv_at hl 0 rfl) ?_
      refine lv_iload_n hx hb dX2_compares_24 rfl (lv_at hl 2 rfl) ?_
      refine lv_icmp_le (tgt := 32) hx hb dX2_compares_25 (by decide) (fun c25 => ?_) (fun c25 => ?_)
      · skip
        have fc25 := q_le (a := v.toInt) (b := bo.toInt) c25 rfl rfl
        refine lv_iconst (v := 0) hx hb dX2_compares_32 (by decide) ?_
        refine lv_goto (tgt := 46) hx hb dX2_compares_33 (by decide) ?_
        exact r_z hx hb hr hlocks hK hS dX2_compares_46 (by decide) (u := ()) hP hD (by first | exact Or.inl (by decide) | exact Or.inr (by decide) | omega)
      · skip
        have fc25 := q_nle (a := v.toInt) (b := bo.toInt) c25 rfl rfl
        refine lv_iconst (v := 1) hx hb dX2_compares_28 (by decide) ?_
        refine lv_goto (tgt := 46) hx hb dX2_compares_29 (by decide) ?_
        exact r_z hx hb hr hlocks hK hS dX2_compares_46 (by decide) (u := ()) hP hD (by first | exact Or.inl (by decide) | exact Or.inr (by decide) | omega)
  · skip
    have fc3 := q_eq (a := si.toInt) (b := 15) c3 rfl (by decide)
    refine lv_iload_n hx hb dX2_compares_6 rfl (lv_at hl 0 rfl) ?_
    refine lv_iload_n hx hb dX2_compares_7 rfl (lv_at hl 2 rfl) ?_
    refine lv_icmp_ge (tgt := 15) hx hb dX2_compares_8 (by decide) (fun c8 => ?_) (fun c8 => ?_)
    · skip
      have fc8 := q_le (a := bo.toInt) (b := v.toInt) c8 rfl rfl
      refine lv_iconst (v := 0) hx hb dX2_compares_15 (by decide) ?_
      exact r_z hx hb hr hlocks hK hS dX2_compares_16 (by decide) (u := ()) hP hD (by first | exact Or.inl (by decide) | exact Or.inr (by decide) | omega)
    · skip
      have fc8 := q_nle (a := bo.toInt) (b := v.toInt) c8 rfl rfl
      refine lv_iconst (v := 1) hx hb dX2_compares_11 (by decide) ?_
      refine lv_goto (tgt := 16) hx hb dX2_compares_12 (by decide) ?_
      exact r_z hx hb hr hlocks hK hS dX2_compares_16 (by decide) (u := ()) hP hD (by first | exact Or.inl (by decide) | exact Or.inr (by decide) | omega)

abbrev Q_c_X2_timesCharged (D : va_G) (cy : Nat → ClassId) (E : EN) (fc : Nat) (ffc : Nat → Int32) (ch : Int32) : (Nat → Prop) → Array Value → State → Outcome → State → Prop := QL D cy (fun (r : Int64) (_ : Unit) => True) (fun _ : Unit => [Prod.mk fc (Sum.inl (Prod.mk (cy 0) (Prod.mk 5 (Sum.inl ffc))))])
set_option maxHeartbeats 4000000 in
set_option maxRecDepth 100000 in
theorem c_X2_timesCharged (l : Launch) (D : va_G) (cy : Nat → ClassId) (E : EN) (fc : Nat) (ffc : Nat → Int32) (ch : Int32) (sz : Nat)  : Met l yX2_timesCharged wsX2_timesCharged ({ frames := 0, cells := 0, slots := 0, locals := 0 } : Room) (CP D cy E [.int ch, .ref fc] [Prod.mk fc (Sum.inl (Prod.mk (cy 0) (Prod.mk 5 (Sum.inl ffc))))] sz) (Q_c_X2_timesCharged D cy E fc ffc ch (va_A [Prod.mk fc (Sum.inl (Prod.mk (cy 0) (Prod.mk 5 (Sum.inl ffc))))] sz)) 0 0 (va_A [Prod.mk fc (Sum.inl (Prod.mk (cy 0) (Prod.mk 5 (Sum.inl ffc))))] sz) := by
  refine Met.go (Qc := Q_c_X2_timesCharged D cy E fc ffc ch) (cc := cX2_timesCharged) (maxL := 2) (ret := (some .long)) (by decide) rfl (Nat.le_of_ble_eq_true rfl) ?_
  intro p e s m below meth c hx hb hr hts hown hlocks hin hml hK hN A hA hAB hD hP hS ls hl hsz
  have hl : lv_has ls 2 [(0, .int ch), (1, .ref fc)] := hl
  have w_0 := hts (.constantLong RX2 58 (4)) (by decide +kernel)
  have w_1 := hts (.constantLong RX2 60 (-1)) (by decide +kernel)
  obtain ⟨H, eH⟩ : ∃ H : Heap, H = s.heap := ⟨_, rfl⟩
  obtain ⟨locs, eL⟩ : ∃ L : List Loc, L = [] := ⟨_, rfl⟩
  rw [← eL]
  rw [← eL] at hS
  have hP : va_P D vwCl [Prod.mk fc (Sum.inl (Prod.mk (cy 0) (Prod.mk 5 (Sum.inl ffc))))] H := by rw [eH]; exact hP
  have hS : va_S A s.heap H locs := by rw [eH]; exact hS
  refine W.heapEq eH ?_
  clear eH eL
  refine lv_iload_n hx hb dX2_timesCharged_0 rfl (lv_at hl 0 rfl) ?_
  by_cases c1 : ch.toInt < 8 ∨ 11 < ch.toInt
  · refine lv_tableOut (tgt := 50) hx hb dX2_timesCharged_1 c1 (by decide) ?_
    refine lv_lconst (v := 1) hx hb dX2_timesCharged_50 (by decide) ?_
    exact r_l hx hb hr hlocks hK hS dX2_timesCharged_51 (u := ()) hP hD (trivial)
  · have zc1 : ch.toInt = 8 ∨ ch.toInt = 9 ∨ ch.toInt = 10 ∨ ch.toInt = 11 := by omega
    rcases zc1 with zc1 | zc1 | zc1 | zc1
    · refine lv_tableIn (tgt := 32) hx hb dX2_timesCharged_1 (by omega) (by omega) (by rw [zc1]; rfl) (by decide) ?_
      refine lv_ldc2 (v := (4)) hx hb hown w_0 dX2_timesCharged_32 ?_
      refine lv_aload_n hx hb dX2_timesCharged_35 rfl (lv_at hl 1 rfl) ?_
      refine lv_iconst (v := 1) hx hb dX2_timesCharged_36 (by decide) ?_
      refine va_iald hx hb hK hP 0 0 rfl rfl (q_in (a := 1) (by decide) (by decide) (by decide)) dX2_timesCharged_37 ?_
      refine lv_topi (fun x37 ex37 => ?_)
      have tx37 := congrArg Int32.toInt ex37
      obtain ⟨x38, ex38⟩ : ∃ y : Int64, x37.toInt64 = y := ⟨_, rfl⟩
      refine lv_i2l hx hb dX2_timesCharged_38 ex38 ?_
      refine lv_lmul hx hb dX2_timesCharged_39 ?_
      refine lv_topl (fun x39 ex39 => ?_)
      exact r_l hx hb hr hlocks hK hS dX2_timesCharged_40 (u := ()) hP hD (trivial)
    · refine lv_tableIn (tgt := 41) hx hb dX2_timesCharged_1 (by omega) (by omega) (by rw [zc1]; rfl) (by decide) ?_
      refine lv_aload_n hx hb dX2_timesCharged_41 rfl (lv_at hl 1 rfl) ?_
      refine lv_iconst (v := 3) hx hb dX2_timesCharged_42 (by decide) ?_
      refine va_iald hx hb hK hP 0 0 rfl rfl (q_in (a := 3) (by decide) (by decide) (by decide)) dX2_timesCharged_43 ?_
      refine lv_topi (fun x43 ex43 => ?_)
      have tx43 := congrArg Int32.toInt ex43
      obtain ⟨x44, ex44⟩ : ∃ y : Int64, x43.toInt64 = y := ⟨_, rfl⟩
      refine lv_i2l hx hb dX2_timesCharged_44 ex44 ?_
      exact r_l hx hb hr hlocks hK hS dX2_timesCharged_45 (u := ()) hP hD (trivial)
    · refine lv_tableIn (tgt := 50) hx hb dX2_timesCharged_1 (by omega) (by omega) (by rw [zc1]; rfl) (by decide) ?_
      refine lv_lconst (v := 1) hx hb dX2_timesCharged_50 (by decide) ?_
      exact r_l hx hb hr hlocks hK hS dX2_timesCharged_51 (u := ()) hP hD (trivial)
    · refine lv_tableIn (tgt := 46) hx hb dX2_timesCharged_1 (by omega) (by omega) (by rw [zc1]; rfl) (by decide) ?_
      refine lv_ldc2 (v := (-1)) hx hb hown w_1 dX2_timesCharged_46 ?_
      exact r_l hx hb hr hlocks hK hS dX2_timesCharged_49 (u := ()) hP hD (trivial)

abbrev Q_c_X2_holds (D : va_G) (cy : Nat → ClassId) (E : EN) (q0 : Nat) (q1 : Nat) (q2 : Nat) (q3 : Nat) (q4 : Nat) (q5 : Nat) (q6 : Nat) (q7 : Nat) (fc : Nat) (zq : Int32) (qsu : Nat → Int32) (qsi : Nat → Int32) (qbo : Nat → Int32) (qne : Nat → Int32) (ffc : Nat → Int32) (at_ : Int32) : (Nat → Prop) → Array Value → State → Outcome → State → Prop := QI D cy (fun (r : Int32) (_ : Unit) => r.toInt = 0 ∨ r.toInt = 1) (fun _ : Unit => [Prod.mk q0 (Sum.inr (Prod.mk 2 [Value.int zq, Value.ref q1, Value.ref q2, Value.ref q3, Value.ref q4, Value.ref q5, Value.ref q6, Value.ref q7])), Prod.mk q4 (Sum.inl (Prod.mk (cy 0) (Prod.mk 64 (Sum.inl qsu)))), Prod.mk q5 (Sum.inl (Prod.mk (cy 0) (Prod.mk 64 (Sum.inl qsi)))), Prod.mk q6 (Sum.inl (Prod.mk (cy 0) (Prod.mk 64 (Sum.inl qbo)))), Prod.mk q7 (Sum.inl (Prod.mk (cy 0) (Prod.mk 64 (Sum.inl qne)))), Prod.mk fc (Sum.inl (Prod.mk (cy 0) (Prod.mk 5 (Sum.inl ffc))))])
set_option maxHeartbeats 4000000 in
set_option maxRecDepth 100000 in
theorem c_X2_holds (l : Launch) (D : va_G) (cy : Nat → ClassId) (E : EN) (q0 : Nat) (q1 : Nat) (q2 : Nat) (q3 : Nat) (q4 : Nat) (q5 : Nat) (q6 : Nat) (q7 : Nat) (fc : Nat) (zq : Int32) (qsu : Nat → Int32) (qsi : Nat → Int32) (qbo : Nat → Int32) (qne : Nat → Int32) (ffc : Nat → Int32) (at_ : Int32) (sz : Nat) (hat : 0 ≤ at_.toInt ∧ at_.toInt < 64) (hv_qsu : AllI qsu 64 0 4) : Met l yX2_holds wsX2_holds ({ frames := 1, cells := 0, slots := 0, locals := 22 } : Room) (CP D cy E [.ref q0, .int at_, .ref fc] [Prod.mk q0 (Sum.inr (Prod.mk 2 [Value.int zq, Value.ref q1, Value.ref q2, Value.ref q3, Value.ref q4, Value.ref q5, Value.ref q6, Value.ref q7])), Prod.mk q4 (Sum.inl (Prod.mk (cy 0) (Prod.mk 64 (Sum.inl qsu)))), Prod.mk q5 (Sum.inl (Prod.mk (cy 0) (Prod.mk 64 (Sum.inl qsi)))), Prod.mk q6 (Sum.inl (Prod.mk (cy 0) (Prod.mk 64 (Sum.inl qbo)))), Prod.mk q7 (Sum.inl (Prod.mk (cy 0) (Prod.mk 64 (Sum.inl qne)))), Prod.mk fc (Sum.inl (Prod.mk (cy 0) (Prod.mk 5 (Sum.inl ffc))))] sz) (Q_c_X2_holds D cy E q0 q1 q2 q3 q4 q5 q6 q7 fc zq qsu qsi qbo qne ffc at_ (va_A [Prod.mk q0 (Sum.inr (Prod.mk 2 [Value.int zq, Value.ref q1, Value.ref q2, Value.ref q3, Value.ref q4, Value.ref q5, Value.ref q6, Value.ref q7])), Prod.mk q4 (Sum.inl (Prod.mk (cy 0) (Prod.mk 64 (Sum.inl qsu)))), Prod.mk q5 (Sum.inl (Prod.mk (cy 0) (Prod.mk 64 (Sum.inl qsi)))), Prod.mk q6 (Sum.inl (Prod.mk (cy 0) (Prod.mk 64 (Sum.inl qbo)))), Prod.mk q7 (Sum.inl (Prod.mk (cy 0) (Prod.mk 64 (Sum.inl qne)))), Prod.mk fc (Sum.inl (Prod.mk (cy 0) (Prod.mk 5 (Sum.inl ffc))))] sz)) 0 0 (va_A [Prod.mk q0 (Sum.inr (Prod.mk 2 [Value.int zq, Value.ref q1, Value.ref q2, Value.ref q3, Value.ref q4, Value.ref q5, Value.ref q6, Value.ref q7])), Prod.mk q4 (Sum.inl (Prod.mk (cy 0) (Prod.mk 64 (Sum.inl qsu)))), Prod.mk q5 (Sum.inl (Prod.mk (cy 0) (Prod.mk 64 (Sum.inl qsi)))), Prod.mk q6 (Sum.inl (Prod.mk (cy 0) (Prod.mk 64 (Sum.inl qbo)))), Prod.mk q7 (Sum.inl (Prod.mk (cy 0) (Prod.mk 64 (Sum.inl qne)))), Prod.mk fc (Sum.inl (Prod.mk (cy 0) (Prod.mk 5 (Sum.inl ffc))))] sz) := by
  refine Met.go (Qc := Q_c_X2_holds D cy E q0 q1 q2 q3 q4 q5 q6 q7 fc zq qsu qsi qbo qne ffc at_) (cc := cX2_holds) (maxL := 4) (ret := (some .boolean)) (by decide) rfl (Nat.le_of_ble_eq_true rfl) ?_
  intro p e s m below meth c hx hb hr hts hown hlocks hin hml hK hN A hA hAB hD hP hS ls hl hsz
  have hl : lv_has ls 4 [(0, .ref q0), (1, .int at_), (2, .ref fc)] := hl
  have in_X2 : ∀ w ∈ wsX20, w ∈ wsX2_holds := fun _ h => List.mem_cons_of_mem _ ((List.mem_append_right _ h))
  have w_1 := hts (.fieldLink RX2 21 "SleepingCars$Rates" "subjects" "[I") (by decide +kernel)
  have w_2 := hts (.fieldLink RX2 24 "SleepingCars$Rates" "signs" "[I") (by decide +kernel)
  have w_3 := hts (.fieldLink RX2 27 "SleepingCars$Rates" "bounds" "[I") (by decide +kernel)
  have w_4 := hts (.fieldLink RX2 30 "SleepingCars$Rates" "negated" "[I") (by decide +kernel)
  obtain ⟨H, eH⟩ : ∃ H : Heap, H = s.heap := ⟨_, rfl⟩
  obtain ⟨locs, eL⟩ : ∃ L : List Loc, L = [] := ⟨_, rfl⟩
  rw [← eL]
  rw [← eL] at hS
  have hP : va_P D vwCl [Prod.mk q0 (Sum.inr (Prod.mk 2 [Value.int zq, Value.ref q1, Value.ref q2, Value.ref q3, Value.ref q4, Value.ref q5, Value.ref q6, Value.ref q7])), Prod.mk q4 (Sum.inl (Prod.mk (cy 0) (Prod.mk 64 (Sum.inl qsu)))), Prod.mk q5 (Sum.inl (Prod.mk (cy 0) (Prod.mk 64 (Sum.inl qsi)))), Prod.mk q6 (Sum.inl (Prod.mk (cy 0) (Prod.mk 64 (Sum.inl qbo)))), Prod.mk q7 (Sum.inl (Prod.mk (cy 0) (Prod.mk 64 (Sum.inl qne)))), Prod.mk fc (Sum.inl (Prod.mk (cy 0) (Prod.mk 5 (Sum.inl ffc))))] H := by rw [eH]; exact hP
  have hS : va_S A s.heap H locs := by rw [eH]; exact hS
  refine W.heapEq eH ?_
  clear eH eL
  refine lv_aload_n hx hb dX2_holds_0 rfl (lv_at hl 2 rfl) ?_
  refine lv_aload_n hx hb dX2_holds_1 rfl (lv_at hl 0 rfl) ?_
  refine va_get (D := D) (ci := 2) (v := .ref q4) (C := RX2) (T := TX2) (N := 8) hx hb hts in_X2 hown hK hP 0 rfl rfl 4 (by decide) w_1 (fun _ h9 => h9) rfl dX2_holds_2 ?_
  refine lv_iload_n hx hb dX2_holds_5 rfl (lv_at hl 1 rfl) ?_
  refine va_iald hx hb hK hP 1 0 rfl rfl (q_in (a := at_.toInt) rfl (by omega) (by omega)) dX2_holds_6 ?_
  refine lv_topi (fun x6 ex6 => ?_)
  have tx6 := congrArg Int32.toInt ex6
  have ix6 := hv_qsu at_.toNatClampNeg (cn (by omega) (by decide))
  refine va_iald hx hb hK hP 5 0 rfl rfl (q_in (a := x6.toInt) rfl (by omega) (by omega)) dX2_holds_7 ?_
  refine lv_topi (fun x7 ex7 => ?_)
  have tx7 := congrArg Int32.toInt ex7
  refine lv_aload_n hx hb dX2_holds_8 rfl (lv_at hl 0 rfl) ?_
  refine va_get (D := D) (ci := 2) (v := .ref q5) (C := RX2) (T := TX2) (N := 8) hx hb hts in_X2 hown hK hP 0 rfl rfl 5 (by decide) w_2 (fun _ h9 => h9) rfl dX2_holds_9 ?_
  refine lv_iload_n hx hb dX2_holds_12 rfl (lv_at hl 1 rfl) ?_
  refine va_iald hx hb hK hP 2 0 rfl rfl (q_in (a := at_.toInt) rfl (by omega) (by omega)) dX2_holds_13 ?_
  refine lv_topi (fun x13 ex13 => ?_)
  have tx13 := congrArg Int32.toInt ex13
  refine lv_aload_n hx hb dX2_holds_14 rfl (lv_at hl 0 rfl) ?_
  refine va_get (D := D) (ci := 2) (v := .ref q6) (C := RX2) (T := TX2) (N := 8) hx hb hts in_X2 hown hK hP 0 rfl rfl 6 (by decide) w_3 (fun _ h9 => h9) rfl dX2_holds_15 ?_
  refine lv_iload_n hx hb dX2_holds_18 rfl (lv_at hl 1 rfl) ?_
  refine va_iald hx hb hK hP 3 0 rfl rfl (q_in (a := at_.toInt) rfl (by omega) (by omega)) dX2_holds_19 ?_
  refine lv_topi (fun x19 ex19 => ?_)
  have tx19 := congrArg Int32.toInt ex19
  refine k_i (va_runS (As := [.int x7, .int x13, .int x19]) (rest := []) ⟨hx, hb, hml, hown, hts⟩ (c_X2_compares l D cy E x7 x13 x19 H.size ) (va_cwS 3 hts gX2_holds_X2_compares rfl rfl rfl (by decide +kernel) ⟨Nat.le_of_ble_eq_true rfl, Nat.le_of_ble_eq_true rfl⟩) (cp_s hK hN hS hAB hP hD [] rfl (by decide)) rfl rfl hl.1 rfl (lv_room (Nat.le_of_ble_eq_true rfl)) dX2_holds_20 ⟨Nat.le_of_ble_eq_true rfl, Nat.le_of_ble_eq_true rfl⟩) hP hD hS hA [] [0, 1, 2, 3, 4, 5] (wr := [Prod.mk q0 (Sum.inr (Prod.mk 2 [Value.int zq, Value.ref q1, Value.ref q2, Value.ref q3, Value.ref q4, Value.ref q5, Value.ref q6, Value.ref q7])), Prod.mk q4 (Sum.inl (Prod.mk (cy 0) (Prod.mk 64 (Sum.inl qsu)))), Prod.mk q5 (Sum.inl (Prod.mk (cy 0) (Prod.mk 64 (Sum.inl qsi)))), Prod.mk q6 (Sum.inl (Prod.mk (cy 0) (Prod.mk 64 (Sum.inl qbo)))), Prod.mk q7 (Sum.inl (Prod.mk (cy 0) (Prod.mk 64 (Sum.inl qne)))), Prod.mk fc (Sum.inl (Prod.mk (cy 0) (Prod.mk 5 (Sum.inl ffc))))]) rfl rfl (by decide) (by decide) (fun rr20 u_rr20 H locs hw20 hP hD hS => ?_)
  try dsimp only at hw20
  have hP : va_P D vwCl [Prod.mk q0 (Sum.inr (Prod.mk 2 [Value.int zq, Value.ref q1, Value.ref q2, Value.ref q3, Value.ref q4, Value.ref q5, Value.ref q6, Value.ref q7])), Prod.mk q4 (Sum.inl (Prod.mk (cy 0) (Prod.mk 64 (Sum.inl qsu)))), Prod.mk q5 (Sum.inl (Prod.mk (cy 0) (Prod.mk 64 (Sum.inl qsi)))), Prod.mk q6 (Sum.inl (Prod.mk (cy 0) (Prod.mk 64 (Sum.inl qbo)))), Prod.mk q7 (Sum.inl (Prod.mk (cy 0) (Prod.mk 64 (Sum.inl qne)))), Prod.mk fc (Sum.inl (Prod.mk (cy 0) (Prod.mk 5 (Sum.inl ffc))))] H := hP
  have hD : va_D A [Prod.mk q0 (Sum.inr (Prod.mk 2 [Value.int zq, Value.ref q1, Value.ref q2, Value.ref q3, Value.ref q4, Value.ref q5, Value.ref q6, Value.ref q7])), Prod.mk q4 (Sum.inl (Prod.mk (cy 0) (Prod.mk 64 (Sum.inl qsu)))), Prod.mk q5 (Sum.inl (Prod.mk (cy 0) (Prod.mk 64 (Sum.inl qsi)))), Prod.mk q6 (Sum.inl (Prod.mk (cy 0) (Prod.mk 64 (Sum.inl qbo)))), Prod.mk q7 (Sum.inl (Prod.mk (cy 0) (Prod.mk 64 (Sum.inl qne)))), Prod.mk fc (Sum.inl (Prod.mk (cy 0) (Prod.mk 5 (Sum.inl ffc))))] := hD
  refine lv_istore_n (lv' := [(3, .int rr20), (0, .ref q0), (1, .int at_), (2, .ref fc)]) hx hb dX2_holds_23 rfl hl (by decide) rfl (fun ls hl => ?_)
  refine lv_iload_n hx hb dX2_holds_24 rfl (lv_at hl 0 rfl) ?_
  refine lv_aload_n hx hb dX2_holds_25 rfl (lv_at hl 1 rfl) ?_
  refine va_get (D := D) (ci := 2) (v := .ref q7) (C := RX2) (T := TX2) (N := 8) hx hb hts in_X2 hown hK hP 0 rfl rfl 7 (by decide) w_4 (fun _ h9 => h9) rfl dX2_holds_26 ?_
  refine lv_iload_n hx hb dX2_holds_29 rfl (lv_at hl 2 rfl) ?_
  refine va_iald hx hb hK hP 4 0 rfl rfl (q_in (a := at_.toInt) rfl (by omega) (by omega)) dX2_holds_30 ?_
  refine lv_topi (fun x30 ex30 => ?_)
  have tx30 := congrArg Int32.toInt ex30
  refine lv_iconst (v := 1) hx hb dX2_holds_31 (by decide) ?_
  refine lv_icmp_ne (tgt := 39) hx hb dX2_holds_32 (by decide) (fun c32 => ?_) (fun c32 => ?_)
  · skip
    have fc32 := q_ne (a := x30.toInt) (b := 1) c32 rfl (by decide)
    refine lv_iconst (v := 0) hx hb dX2_holds_39 (by decide) ?_
    refine lv_icmp_eq (tgt := 47) hx hb dX2_holds_40 (by decide) (fun c40 => ?_) (fun c40 => ?_)
    · skip
      have fc40 := q_eq (a := rr20.toInt) (b := 0) c40 rfl (by decide)
      refine lv_iconst (v := 0) hx hb dX2_holds_47 (by decide) ?_
      exact r_z hx hb hr hlocks hK hS dX2_holds_48 (by decide) (u := ()) hP hD (by first | exact Or.inl (by decide) | exact Or.inr (by decide) | omega)
    · skip
      have fc40 := q_ne (a := rr20.toInt) (b := 0) c40 rfl (by decide)
      refine lv_iconst (v := 1) hx hb dX2_holds_43 (by decide) ?_
      refine lv_goto (tgt := 48) hx hb dX2_holds_44 (by decide) ?_
      exact r_z hx hb hr hlocks hK hS dX2_holds_48 (by decide) (u := ()) hP hD (by first | exact Or.inl (by decide) | exact Or.inr (by decide) | omega)
  · skip
    have fc32 := q_eq (a := x30.toInt) (b := 1) c32 rfl (by decide)
    refine lv_iconst (v := 1) hx hb dX2_holds_35 (by decide) ?_
    refine lv_goto (tgt := 40) hx hb dX2_holds_36 (by decide) ?_
    refine lv_icmp_eq (tgt := 47) hx hb dX2_holds_40 (by decide) (fun c40 => ?_) (fun c40 => ?_)
    · skip
      have fc40 := q_eq (a := rr20.toInt) (b := 1) c40 rfl (by decide)
      refine lv_iconst (v := 0) hx hb dX2_holds_47 (by decide) ?_
      exact r_z hx hb hr hlocks hK hS dX2_holds_48 (by decide) (u := ()) hP hD (by first | exact Or.inl (by decide) | exact Or.inr (by decide) | omega)
    · skip
      have fc40 := q_ne (a := rr20.toInt) (b := 1) c40 rfl (by decide)
      refine lv_iconst (v := 1) hx hb dX2_holds_43 (by decide) ?_
      refine lv_goto (tgt := 48) hx hb dX2_holds_44 (by decide) ?_
      exact r_z hx hb hr hlocks hK hS dX2_holds_48 (by decide) (u := ()) hP hD (by first | exact Or.inl (by decide) | exact Or.inr (by decide) | omega)

abbrev Q_c_X2_allHold (D : va_G) (cy : Nat → ClassId) (E : EN) (q0 : Nat) (q1 : Nat) (q2 : Nat) (q3 : Nat) (q4 : Nat) (q5 : Nat) (q6 : Nat) (q7 : Nat) (fc : Nat) (zq : Int32) (qte : Nat → Int32) (qsu : Nat → Int32) (qsi : Nat → Int32) (qbo : Nat → Int32) (qne : Nat → Int32) (ffc : Nat → Int32) (ln : Int32) : (Nat → Prop) → Array Value → State → Outcome → State → Prop := QI D cy (fun (r : Int32) (_ : Unit) => r.toInt = 0 ∨ r.toInt = 1) (fun _ : Unit => [Prod.mk q0 (Sum.inr (Prod.mk 2 [Value.int zq, Value.ref q1, Value.ref q2, Value.ref q3, Value.ref q4, Value.ref q5, Value.ref q6, Value.ref q7])), Prod.mk q3 (Sum.inl (Prod.mk (cy 0) (Prod.mk 16 (Sum.inl qte)))), Prod.mk q4 (Sum.inl (Prod.mk (cy 0) (Prod.mk 64 (Sum.inl qsu)))), Prod.mk q5 (Sum.inl (Prod.mk (cy 0) (Prod.mk 64 (Sum.inl qsi)))), Prod.mk q6 (Sum.inl (Prod.mk (cy 0) (Prod.mk 64 (Sum.inl qbo)))), Prod.mk q7 (Sum.inl (Prod.mk (cy 0) (Prod.mk 64 (Sum.inl qne)))), Prod.mk fc (Sum.inl (Prod.mk (cy 0) (Prod.mk 5 (Sum.inl ffc))))])
set_option maxHeartbeats 4000000 in
set_option maxRecDepth 100000 in
theorem c_X2_allHold (l : Launch) (D : va_G) (cy : Nat → ClassId) (E : EN) (q0 : Nat) (q1 : Nat) (q2 : Nat) (q3 : Nat) (q4 : Nat) (q5 : Nat) (q6 : Nat) (q7 : Nat) (fc : Nat) (zq : Int32) (qte : Nat → Int32) (qsu : Nat → Int32) (qsi : Nat → Int32) (qbo : Nat → Int32) (qne : Nat → Int32) (ffc : Nat → Int32) (ln : Int32) (sz : Nat) (hln : 0 ≤ ln.toInt ∧ ln.toInt < 16) (hv_qte : AllI qte 16 0 4) (hv_qsu : AllI qsu 64 0 4) : Met l yX2_allHold wsX2_allHold ({ frames := 2, cells := 0, slots := 0, locals := 45 } : Room) (CP D cy E [.ref q0, .int ln, .ref fc] [Prod.mk q0 (Sum.inr (Prod.mk 2 [Value.int zq, Value.ref q1, Value.ref q2, Value.ref q3, Value.ref q4, Value.ref q5, Value.ref q6, Value.ref q7])), Prod.mk q3 (Sum.inl (Prod.mk (cy 0) (Prod.mk 16 (Sum.inl qte)))), Prod.mk q4 (Sum.inl (Prod.mk (cy 0) (Prod.mk 64 (Sum.inl qsu)))), Prod.mk q5 (Sum.inl (Prod.mk (cy 0) (Prod.mk 64 (Sum.inl qsi)))), Prod.mk q6 (Sum.inl (Prod.mk (cy 0) (Prod.mk 64 (Sum.inl qbo)))), Prod.mk q7 (Sum.inl (Prod.mk (cy 0) (Prod.mk 64 (Sum.inl qne)))), Prod.mk fc (Sum.inl (Prod.mk (cy 0) (Prod.mk 5 (Sum.inl ffc))))] sz) (Q_c_X2_allHold D cy E q0 q1 q2 q3 q4 q5 q6 q7 fc zq qte qsu qsi qbo qne ffc ln (va_A [Prod.mk q0 (Sum.inr (Prod.mk 2 [Value.int zq, Value.ref q1, Value.ref q2, Value.ref q3, Value.ref q4, Value.ref q5, Value.ref q6, Value.ref q7])), Prod.mk q3 (Sum.inl (Prod.mk (cy 0) (Prod.mk 16 (Sum.inl qte)))), Prod.mk q4 (Sum.inl (Prod.mk (cy 0) (Prod.mk 64 (Sum.inl qsu)))), Prod.mk q5 (Sum.inl (Prod.mk (cy 0) (Prod.mk 64 (Sum.inl qsi)))), Prod.mk q6 (Sum.inl (Prod.mk (cy 0) (Prod.mk 64 (Sum.inl qbo)))), Prod.mk q7 (Sum.inl (Prod.mk (cy 0) (Prod.mk 64 (Sum.inl qne)))), Prod.mk fc (Sum.inl (Prod.mk (cy 0) (Prod.mk 5 (Sum.inl ffc))))] sz)) 0 0 (va_A [Prod.mk q0 (Sum.inr (Prod.mk 2 [Value.int zq, Value.ref q1, Value.ref q2, Value.ref q3, Value.ref q4, Value.ref q5, Value.ref q6, Value.ref q7])), Prod.mk q3 (Sum.inl (Prod.mk (cy 0) (Prod.mk 16 (Sum.inl qte)))), Prod.mk q4 (Sum.inl (Prod.mk (cy 0) (Prod.mk 64 (Sum.inl qsu)))), Prod.mk q5 (Sum.inl (Prod.mk (cy 0) (Prod.mk 64 (Sum.inl qsi)))), Prod.mk q6 (Sum.inl (Prod.mk (cy 0) (Prod.mk 64 (Sum.inl qbo)))), Prod.mk q7 (Sum.inl (Prod.mk (cy 0) (Prod.mk 64 (Sum.inl qne)))), Prod.mk fc (Sum.inl (Prod.mk (cy 0) (Prod.mk 5 (Sum.inl ffc))))] sz) := by
  refine Met.go (Qc := Q_c_X2_allHold D cy E q0 q1 q2 q3 q4 q5 q6 q7 fc zq qte qsu qsi qbo qne ffc ln) (cc := cX2_allHold) (maxL := 4) (ret := (some .boolean)) (by decide) rfl (Nat.le_of_ble_eq_true rfl) ?_
  intro p e s m below meth c hx hb hr hts hown hlocks hin hml hK hN A hA hAB hD hP hS ls hl hsz
  have hl : lv_has ls 4 [(0, .ref q0), (1, .int ln), (2, .ref fc)] := hl
  have in_X2 : ∀ w ∈ wsX20, w ∈ wsX2_allHold := fun _ h => List.mem_cons_of_mem _ ((List.mem_append_right _ h))
  have w_1 := hts (.fieldLink RX2 18 "SleepingCars$Rates" "tests" "[I") (by decide +kernel)
  have w_2 := hts (.instanceMethod yX2_holds) (by decide +kernel)
  obtain ⟨H, eH⟩ : ∃ H : Heap, H = s.heap := ⟨_, rfl⟩
  obtain ⟨locs, eL⟩ : ∃ L : List Loc, L = [] := ⟨_, rfl⟩
  rw [← eL]
  rw [← eL] at hS
  have hP : va_P D vwCl [Prod.mk q0 (Sum.inr (Prod.mk 2 [Value.int zq, Value.ref q1, Value.ref q2, Value.ref q3, Value.ref q4, Value.ref q5, Value.ref q6, Value.ref q7])), Prod.mk q3 (Sum.inl (Prod.mk (cy 0) (Prod.mk 16 (Sum.inl qte)))), Prod.mk q4 (Sum.inl (Prod.mk (cy 0) (Prod.mk 64 (Sum.inl qsu)))), Prod.mk q5 (Sum.inl (Prod.mk (cy 0) (Prod.mk 64 (Sum.inl qsi)))), Prod.mk q6 (Sum.inl (Prod.mk (cy 0) (Prod.mk 64 (Sum.inl qbo)))), Prod.mk q7 (Sum.inl (Prod.mk (cy 0) (Prod.mk 64 (Sum.inl qne)))), Prod.mk fc (Sum.inl (Prod.mk (cy 0) (Prod.mk 5 (Sum.inl ffc))))] H := by rw [eH]; exact hP
  have hS : va_S A s.heap H locs := by rw [eH]; exact hS
  refine W.heapEq eH ?_
  clear eH eL
  refine lv_iconst (v := 0) hx hb dX2_allHold_0 (by decide) ?_
  refine lv_istore_n (lv' := [(3, .int 0), (0, .ref q0), (1, .int ln), (2, .ref fc)]) hx hb dX2_allHold_1 rfl hl (by decide) rfl (fun ls hl => ?_)
  have lp_2 : ∀ (n_2 : Nat) (i : Int32), (0 ≤ i.toInt) → (i.toInt ≤ 4) → (4 - i.toInt).toNat < n_2 → ∀ (H : Heap) (locs : List Loc), va_P D vwCl [Prod.mk q0 (Sum.inr (Prod.mk 2 [Value.int zq, Value.ref q1, Value.ref q2, Value.ref q3, Value.ref q4, Value.ref q5, Value.ref q6, Value.ref q7])), Prod.mk q3 (Sum.inl (Prod.mk (cy 0) (Prod.mk 16 (Sum.inl qte)))), Prod.mk q4 (Sum.inl (Prod.mk (cy 0) (Prod.mk 64 (Sum.inl qsu)))), Prod.mk q5 (Sum.inl (Prod.mk (cy 0) (Prod.mk 64 (Sum.inl qsi)))), Prod.mk q6 (Sum.inl (Prod.mk (cy 0) (Prod.mk 64 (Sum.inl qbo)))), Prod.mk q7 (Sum.inl (Prod.mk (cy 0) (Prod.mk 64 (Sum.inl qne)))), Prod.mk fc (Sum.inl (Prod.mk (cy 0) (Prod.mk 5 (Sum.inl ffc))))] H → va_D A [Prod.mk q0 (Sum.inr (Prod.mk 2 [Value.int zq, Value.ref q1, Value.ref q2, Value.ref q3, Value.ref q4, Value.ref q5, Value.ref q6, Value.ref q7])), Prod.mk q3 (Sum.inl (Prod.mk (cy 0) (Prod.mk 16 (Sum.inl qte)))), Prod.mk q4 (Sum.inl (Prod.mk (cy 0) (Prod.mk 64 (Sum.inl qsu)))), Prod.mk q5 (Sum.inl (Prod.mk (cy 0) (Prod.mk 64 (Sum.inl qsi)))), Prod.mk q6 (Sum.inl (Prod.mk (cy 0) (Prod.mk 64 (Sum.inl qbo)))), Prod.mk q7 (Sum.inl (Prod.mk (cy 0) (Prod.mk 64 (Sum.inl qne)))), Prod.mk fc (Sum.inl (Prod.mk (cy 0) (Prod.mk 5 (Sum.inl ffc))))] → va_S A s.heap H locs → ∀ ls : Array Slot, lv_has ls 4 [(3, .int i), (0, .ref q0), (1, .int ln), (2, .ref fc)] → W p l e (headSpec wsX2_allHold ({ frames := 2, cells := 0, slots := 0, locals := 45 } : Room)).room s m ([.ref q0, .int ln, .ref fc] : List Value).toArray below meth c H locs 0 0 (MQ below (Q_c_X2_allHold D cy E q0 q1 q2 q3 q4 q5 q6 q7 fc zq qte qsu qsi qbo qne ffc ln A) ([.ref q0, .int ln, .ref fc] : List Value).toArray s 0 0 A) (F0 m 2 ls []) := by
    intro n_2
    induction n_2 with
    | zero => intro i hi0 hi1 hmu; exact absurd hmu (Nat.not_lt_zero _)
    | succ n_2 ih_2 =>
      intro i hi0 hi1 hmu_2 H locs hP hD hS ls hl
      refine lv_iload_n hx hb dX2_allHold_2 rfl (lv_at hl 0 rfl) ?_
      refine lv_aload_n hx hb dX2_allHold_3 rfl (lv_at hl 1 rfl) ?_
      refine va_get (D := D) (ci := 2) (v := .ref q3) (C := RX2) (T := TX2) (N := 8) hx hb hts in_X2 hown hK hP 0 rfl rfl 3 (by decide) w_1 (fun _ h9 => h9) rfl dX2_allHold_4 ?_
      refine lv_iload_n hx hb dX2_allHold_7 rfl (lv_at hl 2 rfl) ?_
      refine va_iald hx hb hK hP 1 0 rfl rfl (q_in (a := ln.toInt) rfl (by omega) (by omega)) dX2_allHold_8 ?_
      refine lv_topi (fun x8 ex8 => ?_)
      have tx8 := congrArg Int32.toInt ex8
      have ix8 := hv_qte ln.toNatClampNeg (cn (by omega) (by decide))
      refine lv_icmp_ge (tgt := 33) hx hb dX2_allHold_9 (by decide) (fun c9 => ?_) (fun c9 => ?_)
      · skip
        have fc9 := q_le (a := x8.toInt) (b := i.toInt) c9 rfl rfl
        refine lv_iconst (v := 1) hx hb dX2_allHold_33 (by decide) ?_
        exact r_z hx hb hr hlocks hK hS dX2_allHold_34 (by decide) (u := ()) hP hD (by first | exact Or.inl (by decide) | exact Or.inr (by decide) | omega)
      · skip
        have fc9 := q_nle (a := x8.toInt) (b := i.toInt) c9 rfl rfl
        refine lv_aload_n hx hb dX2_allHold_12 rfl (lv_at hl 1 rfl) ?_
        refine lv_iload_n hx hb dX2_allHold_13 rfl (lv_at hl 2 rfl) ?_
        refine lv_iconst (v := 4) hx hb dX2_allHold_14 (by decide) ?_
        refine lv_imul hx hb dX2_allHold_15 ?_
        refine lv_topi (fun x15 ex15 => ?_)
        have tx15 := q_mul (p := ln.toInt) (q := 4) ex15 rfl (by decide) (by omega) (by omega)
        refine lv_iload_n hx hb dX2_allHold_16 rfl (lv_at hl 0 rfl) ?_
        refine lv_iadd hx hb dX2_allHold_17 ?_
        refine lv_topi (fun x17 ex17 => ?_)
        have tx17 := q_add (p := x15.toInt) (q := i.toInt) ex17 rfl rfl (by omega) (by omega)
        refine lv_aload_n hx hb dX2_allHold_18 rfl (lv_at hl 3 rfl) ?_
        refine k_i (va_runV (As := [.int x17, .ref fc]) (rest := []) ⟨hx, hb, hml, hown, hts⟩ (c_X2_holds l D cy E q0 q1 q2 q3 q4 q5 q6 q7 fc zq qsu qsi qbo qne ffc x17 H.size (by first | omega | decide | (constructor <;> first | omega | decide)) hv_qsu) (cwV 2 hts gX2_allHold_X2_holds rfl rfl rfl (by decide +kernel) ⟨Nat.le_of_ble_eq_true rfl, Nat.le_of_ble_eq_true rfl⟩) (cp_v hK hN hS hAB hP hD [0, 2, 3, 4, 5, 6] rfl (by decide) (ci := 2) rfl rfl rfl) rfl rfl hl.1 rfl (lv_room (Nat.le_of_ble_eq_true rfl)) dX2_allHold_19 ⟨Nat.le_of_ble_eq_true rfl, Nat.le_of_ble_eq_true rfl⟩) hP hD hS hA [0, 2, 3, 4, 5, 6] [1] (wr := [Prod.mk q3 (Sum.inl (Prod.mk (cy 0) (Prod.mk 16 (Sum.inl qte))))]) rfl rfl (by decide) (by decide) (fun rr19 u_rr19 H locs hw19 hP hD hS => ?_)
        try dsimp only at hw19
        have hP : va_P D vwCl [Prod.mk q3 (Sum.inl (Prod.mk (cy 0) (Prod.mk 16 (Sum.inl qte)))), Prod.mk q0 (Sum.inr (Prod.mk 2 [Value.int zq, Value.ref q1, Value.ref q2, Value.ref q3, Value.ref q4, Value.ref q5, Value.ref q6, Value.ref q7])), Prod.mk q4 (Sum.inl (Prod.mk (cy 0) (Prod.mk 64 (Sum.inl qsu)))), Prod.mk q5 (Sum.inl (Prod.mk (cy 0) (Prod.mk 64 (Sum.inl qsi)))), Prod.mk q6 (Sum.inl (Prod.mk (cy 0) (Prod.mk 64 (Sum.inl qbo)))), Prod.mk q7 (Sum.inl (Prod.mk (cy 0) (Prod.mk 64 (Sum.inl qne)))), Prod.mk fc (Sum.inl (Prod.mk (cy 0) (Prod.mk 5 (Sum.inl ffc))))] H := hP
        have hD : va_D A [Prod.mk q3 (Sum.inl (Prod.mk (cy 0) (Prod.mk 16 (Sum.inl qte)))), Prod.mk q0 (Sum.inr (Prod.mk 2 [Value.int zq, Value.ref q1, Value.ref q2, Value.ref q3, Value.ref q4, Value.ref q5, Value.ref q6, Value.ref q7])), Prod.mk q4 (Sum.inl (Prod.mk (cy 0) (Prod.mk 64 (Sum.inl qsu)))), Prod.mk q5 (Sum.inl (Prod.mk (cy 0) (Prod.mk 64 (Sum.inl qsi)))), Prod.mk q6 (Sum.inl (Prod.mk (cy 0) (Prod.mk 64 (Sum.inl qbo)))), Prod.mk q7 (Sum.inl (Prod.mk (cy 0) (Prod.mk 64 (Sum.inl qne)))), Prod.mk fc (Sum.inl (Prod.mk (cy 0) (Prod.mk 5 (Sum.inl ffc))))] := hD
        refine lv_if_ne (tgt := 27) hx hb dX2_allHold_22 (by decide) (fun c22 => ?_) (fun c22 => ?_)
        · skip
          have fc22 := q_ne (a := rr19.toInt) (b := 0) c22 rfl (by decide)
          obtain ⟨x27, ex27⟩ : ∃ y : Int32, y = i + 1 := ⟨_, rfl⟩
          refine lv_iinc (v := x27) (lv' := [(3, .int x27), (0, .ref q0), (1, .int ln), (2, .ref fc)]) hx hb dX2_allHold_27 hl (k := 0) rfl (by rw [ex27]; rfl) (by decide) rfl (fun ls hl => ?_)
          have tx27 := q_add (p := i.toInt) (q := 1) ex27 rfl (by decide) (by omega) (by omega)
          refine lv_goto (tgt := 2) hx hb dX2_allHold_30 (by decide) ?_
          exact ih_2 x27 (by first | omega | decide | (rw [i32_0]; omega)) (by first | omega | decide | (rw [i32_0]; omega)) (by omega) H locs (hP.sub [1, 0, 2, 3, 4, 5, 6] rfl) (hD.sub [1, 0, 2, 3, 4, 5, 6] (by decide) rfl) hS ls (lv_sub hl [0, 1, 2, 3] rfl)
        · skip
          have fc22 := q_eq (a := rr19.toInt) (b := 0) c22 rfl (by decide)
          refine lv_iconst (v := 0) hx hb dX2_allHold_25 (by decide) ?_
          exact r_z hx hb hr hlocks hK hS dX2_allHold_26 (by decide) (u := ()) (hP.sub (ws' := [Prod.mk q0 (Sum.inr (Prod.mk 2 [Value.int zq, Value.ref q1, Value.ref q2, Value.ref q3, Value.ref q4, Value.ref q5, Value.ref q6, Value.ref q7])), Prod.mk q3 (Sum.inl (Prod.mk (cy 0) (Prod.mk 16 (Sum.inl qte)))), Prod.mk q4 (Sum.inl (Prod.mk (cy 0) (Prod.mk 64 (Sum.inl qsu)))), Prod.mk q5 (Sum.inl (Prod.mk (cy 0) (Prod.mk 64 (Sum.inl qsi)))), Prod.mk q6 (Sum.inl (Prod.mk (cy 0) (Prod.mk 64 (Sum.inl qbo)))), Prod.mk q7 (Sum.inl (Prod.mk (cy 0) (Prod.mk 64 (Sum.inl qne)))), Prod.mk fc (Sum.inl (Prod.mk (cy 0) (Prod.mk 5 (Sum.inl ffc))))]) [1, 0, 2, 3, 4, 5, 6] rfl) (hD.sub (ws' := [Prod.mk q0 (Sum.inr (Prod.mk 2 [Value.int zq, Value.ref q1, Value.ref q2, Value.ref q3, Value.ref q4, Value.ref q5, Value.ref q6, Value.ref q7])), Prod.mk q3 (Sum.inl (Prod.mk (cy 0) (Prod.mk 16 (Sum.inl qte)))), Prod.mk q4 (Sum.inl (Prod.mk (cy 0) (Prod.mk 64 (Sum.inl qsu)))), Prod.mk q5 (Sum.inl (Prod.mk (cy 0) (Prod.mk 64 (Sum.inl qsi)))), Prod.mk q6 (Sum.inl (Prod.mk (cy 0) (Prod.mk 64 (Sum.inl qbo)))), Prod.mk q7 (Sum.inl (Prod.mk (cy 0) (Prod.mk 64 (Sum.inl qne)))), Prod.mk fc (Sum.inl (Prod.mk (cy 0) (Prod.mk 5 (Sum.inl ffc))))]) [1, 0, 2, 3, 4, 5, 6] (by decide) rfl) (by first | exact Or.inl (by decide) | exact Or.inr (by decide) | omega)
  exact lp_2 ((4 - (0 : Int32).toInt).toNat + 1) 0 (by first | omega | decide | (rw [i32_0]; omega) | (rw [i32_m1]; omega)) (by first | omega | decide | (rw [i32_0]; omega) | (rw [i32_m1]; omega)) (by first | omega | exact Nat.lt_succ_self _ | (rw [i32_0]; omega) | (rw [i32_1]; omega)) H locs hP hD hS ls (lv_sub hl [0, 1, 2, 3] rfl)

abbrev Q_c_X2_priceOf (D : va_G) (cy : Nat → ClassId) (E : EN) (q0 : Nat) (q1 : Nat) (q2 : Nat) (q3 : Nat) (q4 : Nat) (q5 : Nat) (q6 : Nat) (q7 : Nat) (fc : Nat) (zq : Int32) (qch : Nat → Int32) (qam : Nat → Int32) (qte : Nat → Int32) (qsu : Nat → Int32) (qsi : Nat → Int32) (qbo : Nat → Int32) (qne : Nat → Int32) (ffc : Nat → Int32) : (Nat → Prop) → Array Value → State → Outcome → State → Prop := QL D cy (fun (r : Int64) (_ : Unit) => True) (fun _ : Unit => [Prod.mk q0 (Sum.inr (Prod.mk 2 [Value.int zq, Value.ref q1, Value.ref q2, Value.ref q3, Value.ref q4, Value.ref q5, Value.ref q6, Value.ref q7])), Prod.mk q1 (Sum.inl (Prod.mk (cy 0) (Prod.mk 16 (Sum.inl qch)))), Prod.mk q2 (Sum.inl (Prod.mk (cy 0) (Prod.mk 16 (Sum.inl qam)))), Prod.mk q3 (Sum.inl (Prod.mk (cy 0) (Prod.mk 16 (Sum.inl qte)))), Prod.mk q4 (Sum.inl (Prod.mk (cy 0) (Prod.mk 64 (Sum.inl qsu)))), Prod.mk q5 (Sum.inl (Prod.mk (cy 0) (Prod.mk 64 (Sum.inl qsi)))), Prod.mk q6 (Sum.inl (Prod.mk (cy 0) (Prod.mk 64 (Sum.inl qbo)))), Prod.mk q7 (Sum.inl (Prod.mk (cy 0) (Prod.mk 64 (Sum.inl qne)))), Prod.mk fc (Sum.inl (Prod.mk (cy 0) (Prod.mk 5 (Sum.inl ffc))))])
set_option maxHeartbeats 4000000 in
set_option maxRecDepth 100000 in
theorem c_X2_priceOf (l : Launch) (D : va_G) (cy : Nat → ClassId) (E : EN) (q0 : Nat) (q1 : Nat) (q2 : Nat) (q3 : Nat) (q4 : Nat) (q5 : Nat) (q6 : Nat) (q7 : Nat) (fc : Nat) (zq : Int32) (qch : Nat → Int32) (qam : Nat → Int32) (qte : Nat → Int32) (qsu : Nat → Int32) (qsi : Nat → Int32) (qbo : Nat → Int32) (qne : Nat → Int32) (ffc : Nat → Int32) (sz : Nat) (hzq : 0 ≤ zq.toInt ∧ zq.toInt ≤ 16) (hv_qte : AllI qte 16 0 4) (hv_qsu : AllI qsu 64 0 4) : Met l yX2_priceOf wsX2_priceOf ({ frames := 3, cells := 0, slots := 0, locals := 68 } : Room) (CP D cy E [.ref q0, .ref fc] [Prod.mk q0 (Sum.inr (Prod.mk 2 [Value.int zq, Value.ref q1, Value.ref q2, Value.ref q3, Value.ref q4, Value.ref q5, Value.ref q6, Value.ref q7])), Prod.mk q1 (Sum.inl (Prod.mk (cy 0) (Prod.mk 16 (Sum.inl qch)))), Prod.mk q2 (Sum.inl (Prod.mk (cy 0) (Prod.mk 16 (Sum.inl qam)))), Prod.mk q3 (Sum.inl (Prod.mk (cy 0) (Prod.mk 16 (Sum.inl qte)))), Prod.mk q4 (Sum.inl (Prod.mk (cy 0) (Prod.mk 64 (Sum.inl qsu)))), Prod.mk q5 (Sum.inl (Prod.mk (cy 0) (Prod.mk 64 (Sum.inl qsi)))), Prod.mk q6 (Sum.inl (Prod.mk (cy 0) (Prod.mk 64 (Sum.inl qbo)))), Prod.mk q7 (Sum.inl (Prod.mk (cy 0) (Prod.mk 64 (Sum.inl qne)))), Prod.mk fc (Sum.inl (Prod.mk (cy 0) (Prod.mk 5 (Sum.inl ffc))))] sz) (Q_c_X2_priceOf D cy E q0 q1 q2 q3 q4 q5 q6 q7 fc zq qch qam qte qsu qsi qbo qne ffc (va_A [Prod.mk q0 (Sum.inr (Prod.mk 2 [Value.int zq, Value.ref q1, Value.ref q2, Value.ref q3, Value.ref q4, Value.ref q5, Value.ref q6, Value.ref q7])), Prod.mk q1 (Sum.inl (Prod.mk (cy 0) (Prod.mk 16 (Sum.inl qch)))), Prod.mk q2 (Sum.inl (Prod.mk (cy 0) (Prod.mk 16 (Sum.inl qam)))), Prod.mk q3 (Sum.inl (Prod.mk (cy 0) (Prod.mk 16 (Sum.inl qte)))), Prod.mk q4 (Sum.inl (Prod.mk (cy 0) (Prod.mk 64 (Sum.inl qsu)))), Prod.mk q5 (Sum.inl (Prod.mk (cy 0) (Prod.mk 64 (Sum.inl qsi)))), Prod.mk q6 (Sum.inl (Prod.mk (cy 0) (Prod.mk 64 (Sum.inl qbo)))), Prod.mk q7 (Sum.inl (Prod.mk (cy 0) (Prod.mk 64 (Sum.inl qne)))), Prod.mk fc (Sum.inl (Prod.mk (cy 0) (Prod.mk 5 (Sum.inl ffc))))] sz)) 0 0 (va_A [Prod.mk q0 (Sum.inr (Prod.mk 2 [Value.int zq, Value.ref q1, Value.ref q2, Value.ref q3, Value.ref q4, Value.ref q5, Value.ref q6, Value.ref q7])), Prod.mk q1 (Sum.inl (Prod.mk (cy 0) (Prod.mk 16 (Sum.inl qch)))), Prod.mk q2 (Sum.inl (Prod.mk (cy 0) (Prod.mk 16 (Sum.inl qam)))), Prod.mk q3 (Sum.inl (Prod.mk (cy 0) (Prod.mk 16 (Sum.inl qte)))), Prod.mk q4 (Sum.inl (Prod.mk (cy 0) (Prod.mk 64 (Sum.inl qsu)))), Prod.mk q5 (Sum.inl (Prod.mk (cy 0) (Prod.mk 64 (Sum.inl qsi)))), Prod.mk q6 (Sum.inl (Prod.mk (cy 0) (Prod.mk 64 (Sum.inl qbo)))), Prod.mk q7 (Sum.inl (Prod.mk (cy 0) (Prod.mk 64 (Sum.inl qne)))), Prod.mk fc (Sum.inl (Prod.mk (cy 0) (Prod.mk 5 (Sum.inl ffc))))] sz) := by
  refine Met.go (Qc := Q_c_X2_priceOf D cy E q0 q1 q2 q3 q4 q5 q6 q7 fc zq qch qam qte qsu qsi qbo qne ffc) (cc := cX2_priceOf) (maxL := 5) (ret := (some .long)) (by decide) rfl (Nat.le_of_ble_eq_true rfl) ?_
  intro p e s m below meth c hx hb hr hts hown hlocks hin hml hK hN A hA hAB hD hP hS ls hl hsz
  have hl : lv_has ls 5 [(0, .ref q0), (1, .ref fc)] := hl
  have in_X2 : ∀ w ∈ wsX20, w ∈ wsX2_priceOf := fun _ h => List.mem_cons_of_mem _ ((List.mem_append_right _ h))
  have w_1 := hts (.fieldLink RX2 33 "SleepingCars$Rates" "lines" "I") (by decide +kernel)
  have w_2 := hts (.instanceMethod yX2_allHold) (by decide +kernel)
  have w_3 := hts (.fieldLink RX2 15 "SleepingCars$Rates" "amounts" "[I") (by decide +kernel)
  have w_4 := hts (.fieldLink RX2 9 "SleepingCars$Rates" "charges" "[I") (by decide +kernel)
  obtain ⟨H, eH⟩ : ∃ H : Heap, H = s.heap := ⟨_, rfl⟩
  obtain ⟨locs, eL⟩ : ∃ L : List Loc, L = [] := ⟨_, rfl⟩
  rw [← eL]
  rw [← eL] at hS
  have hP : va_P D vwCl [Prod.mk q0 (Sum.inr (Prod.mk 2 [Value.int zq, Value.ref q1, Value.ref q2, Value.ref q3, Value.ref q4, Value.ref q5, Value.ref q6, Value.ref q7])), Prod.mk q1 (Sum.inl (Prod.mk (cy 0) (Prod.mk 16 (Sum.inl qch)))), Prod.mk q2 (Sum.inl (Prod.mk (cy 0) (Prod.mk 16 (Sum.inl qam)))), Prod.mk q3 (Sum.inl (Prod.mk (cy 0) (Prod.mk 16 (Sum.inl qte)))), Prod.mk q4 (Sum.inl (Prod.mk (cy 0) (Prod.mk 64 (Sum.inl qsu)))), Prod.mk q5 (Sum.inl (Prod.mk (cy 0) (Prod.mk 64 (Sum.inl qsi)))), Prod.mk q6 (Sum.inl (Prod.mk (cy 0) (Prod.mk 64 (Sum.inl qbo)))), Prod.mk q7 (Sum.inl (Prod.mk (cy 0) (Prod.mk 64 (Sum.inl qne)))), Prod.mk fc (Sum.inl (Prod.mk (cy 0) (Prod.mk 5 (Sum.inl ffc))))] H := by rw [eH]; exact hP
  have hS : va_S A s.heap H locs := by rw [eH]; exact hS
  refine W.heapEq eH ?_
  clear eH eL
  refine lv_lconst (v := 0) hx hb dX2_priceOf_0 (by decide) ?_
  refine lv_lstore_n (lv' := [(2, .long 0), (0, .ref q0), (1, .ref fc)]) hx hb dX2_priceOf_1 rfl hl (by decide) rfl (fun ls hl => ?_)
  refine lv_iconst (v := 0) hx hb dX2_priceOf_2 (by decide) ?_
  refine lv_istore (lv' := [(4, .int 0), (2, .long 0), (0, .ref q0), (1, .ref fc)]) hx hb dX2_priceOf_3 hl (by decide) rfl (fun ls hl => ?_)
  have lp_5 : ∀ (n_5 : Nat) (i : Int32) (sm : Int64), (0 ≤ i.toInt) → (i.toInt ≤ zq.toInt) → (16 - i.toInt).toNat < n_5 → ∀ (H : Heap) (locs : List Loc), va_P D vwCl [Prod.mk q0 (Sum.inr (Prod.mk 2 [Value.int zq, Value.ref q1, Value.ref q2, Value.ref q3, Value.ref q4, Value.ref q5, Value.ref q6, Value.ref q7])), Prod.mk q1 (Sum.inl (Prod.mk (cy 0) (Prod.mk 16 (Sum.inl qch)))), Prod.mk q2 (Sum.inl (Prod.mk (cy 0) (Prod.mk 16 (Sum.inl qam)))), Prod.mk q3 (Sum.inl (Prod.mk (cy 0) (Prod.mk 16 (Sum.inl qte)))), Prod.mk q4 (Sum.inl (Prod.mk (cy 0) (Prod.mk 64 (Sum.inl qsu)))), Prod.mk q5 (Sum.inl (Prod.mk (cy 0) (Prod.mk 64 (Sum.inl qsi)))), Prod.mk q6 (Sum.inl (Prod.mk (cy 0) (Prod.mk 64 (Sum.inl qbo)))), Prod.mk q7 (Sum.inl (Prod.mk (cy 0) (Prod.mk 64 (Sum.inl qne)))), Prod.mk fc (Sum.inl (Prod.mk (cy 0) (Prod.mk 5 (Sum.inl ffc))))] H → va_D A [Prod.mk q0 (Sum.inr (Prod.mk 2 [Value.int zq, Value.ref q1, Value.ref q2, Value.ref q3, Value.ref q4, Value.ref q5, Value.ref q6, Value.ref q7])), Prod.mk q1 (Sum.inl (Prod.mk (cy 0) (Prod.mk 16 (Sum.inl qch)))), Prod.mk q2 (Sum.inl (Prod.mk (cy 0) (Prod.mk 16 (Sum.inl qam)))), Prod.mk q3 (Sum.inl (Prod.mk (cy 0) (Prod.mk 16 (Sum.inl qte)))), Prod.mk q4 (Sum.inl (Prod.mk (cy 0) (Prod.mk 64 (Sum.inl qsu)))), Prod.mk q5 (Sum.inl (Prod.mk (cy 0) (Prod.mk 64 (Sum.inl qsi)))), Prod.mk q6 (Sum.inl (Prod.mk (cy 0) (Prod.mk 64 (Sum.inl qbo)))), Prod.mk q7 (Sum.inl (Prod.mk (cy 0) (Prod.mk 64 (Sum.inl qne)))), Prod.mk fc (Sum.inl (Prod.mk (cy 0) (Prod.mk 5 (Sum.inl ffc))))] → va_S A s.heap H locs → ∀ ls : Array Slot, lv_has ls 5 [(4, .int i), (2, .long sm), (0, .ref q0), (1, .ref fc)] → W p l e (headSpec wsX2_priceOf ({ frames := 3, cells := 0, slots := 0, locals := 68 } : Room)).room s m ([.ref q0, .ref fc] : List Value).toArray below meth c H locs 0 0 (MQ below (Q_c_X2_priceOf D cy E q0 q1 q2 q3 q4 q5 q6 q7 fc zq qch qam qte qsu qsi qbo qne ffc A) ([.ref q0, .ref fc] : List Value).toArray s 0 0 A) (F0 m 5 ls []) := by
    intro n_5
    induction n_5 with
    | zero => intro i sm hi0 hi1 hmu; exact absurd hmu (Nat.not_lt_zero _)
    | succ n_5 ih_5 =>
      intro i sm hi0 hi1 hmu_5 H locs hP hD hS ls hl
      refine lv_iload hx hb dX2_priceOf_5 (lv_at hl 0 rfl) ?_
      refine lv_aload_n hx hb dX2_priceOf_7 rfl (lv_at hl 2 rfl) ?_
      refine va_get (D := D) (ci := 2) (v := .int zq) (C := RX2) (T := TX2) (N := 8) hx hb hts in_X2 hown hK hP 0 rfl rfl 0 (by decide) w_1 (fun _ h9 => h9) rfl dX2_priceOf_8 ?_
      refine lv_icmp_ge (tgt := 53) hx hb dX2_priceOf_11 (by decide) (fun c11 => ?_) (fun c11 => ?_)
      · skip
        have fc11 := q_le (a := zq.toInt) (b := i.toInt) c11 rfl rfl
        refine lv_lload_n hx hb dX2_priceOf_53 rfl (lv_at hl 1 rfl) ?_
        exact r_l hx hb hr hlocks hK hS dX2_priceOf_54 (u := ()) hP hD (trivial)
      · skip
        have fc11 := q_nle (a := zq.toInt) (b := i.toInt) c11 rfl rfl
        refine lv_aload_n hx hb dX2_priceOf_14 rfl (lv_at hl 2 rfl) ?_
        refine lv_iload hx hb dX2_priceOf_15 (lv_at hl 0 rfl) ?_
        refine lv_aload_n hx hb dX2_priceOf_17 rfl (lv_at hl 3 rfl) ?_
        refine k_i (va_runV (As := [.int i, .ref fc]) (rest := []) ⟨hx, hb, hml, hown, hts⟩ (c_X2_allHold l D cy E q0 q1 q2 q3 q4 q5 q6 q7 fc zq qte qsu qsi qbo qne ffc i H.size (by first | omega | decide | (constructor <;> first | omega | decide)) hv_qte hv_qsu) (cwV 2 hts gX2_priceOf_X2_allHold rfl rfl rfl (by decide +kernel) ⟨Nat.le_of_ble_eq_true rfl, Nat.le_of_ble_eq_true rfl⟩) (cp_v hK hN hS hAB hP hD [0, 3, 4, 5, 6, 7, 8] rfl (by decide) (ci := 2) rfl rfl rfl) rfl rfl hl.1 rfl (lv_room (Nat.le_of_ble_eq_true rfl)) dX2_priceOf_18 ⟨Nat.le_of_ble_eq_true rfl, Nat.le_of_ble_eq_true rfl⟩) hP hD hS hA [0, 3, 4, 5, 6, 7, 8] [1, 2] (wr := [Prod.mk q1 (Sum.inl (Prod.mk (cy 0) (Prod.mk 16 (Sum.inl qch)))), Prod.mk q2 (Sum.inl (Prod.mk (cy 0) (Prod.mk 16 (Sum.inl qam))))]) rfl rfl (by decide) (by decide) (fun rr18 u_rr18 H locs hw18 hP hD hS => ?_)
        try dsimp only at hw18
        have hP : va_P D vwCl [Prod.mk q1 (Sum.inl (Prod.mk (cy 0) (Prod.mk 16 (Sum.inl qch)))), Prod.mk q2 (Sum.inl (Prod.mk (cy 0) (Prod.mk 16 (Sum.inl qam)))), Prod.mk q0 (Sum.inr (Prod.mk 2 [Value.int zq, Value.ref q1, Value.ref q2, Value.ref q3, Value.ref q4, Value.ref q5, Value.ref q6, Value.ref q7])), Prod.mk q3 (Sum.inl (Prod.mk (cy 0) (Prod.mk 16 (Sum.inl qte)))), Prod.mk q4 (Sum.inl (Prod.mk (cy 0) (Prod.mk 64 (Sum.inl qsu)))), Prod.mk q5 (Sum.inl (Prod.mk (cy 0) (Prod.mk 64 (Sum.inl qsi)))), Prod.mk q6 (Sum.inl (Prod.mk (cy 0) (Prod.mk 64 (Sum.inl qbo)))), Prod.mk q7 (Sum.inl (Prod.mk (cy 0) (Prod.mk 64 (Sum.inl qne)))), Prod.mk fc (Sum.inl (Prod.mk (cy 0) (Prod.mk 5 (Sum.inl ffc))))] H := hP
        have hD : va_D A [Prod.mk q1 (Sum.inl (Prod.mk (cy 0) (Prod.mk 16 (Sum.inl qch)))), Prod.mk q2 (Sum.inl (Prod.mk (cy 0) (Prod.mk 16 (Sum.inl qam)))), Prod.mk q0 (Sum.inr (Prod.mk 2 [Value.int zq, Value.ref q1, Value.ref q2, Value.ref q3, Value.ref q4, Value.ref q5, Value.ref q6, Value.ref q7])), Prod.mk q3 (Sum.inl (Prod.mk (cy 0) (Prod.mk 16 (Sum.inl qte)))), Prod.mk q4 (Sum.inl (Prod.mk (cy 0) (Prod.mk 64 (Sum.inl qsu)))), Prod.mk q5 (Sum.inl (Prod.mk (cy 0) (Prod.mk 64 (Sum.inl qsi)))), Prod.mk q6 (Sum.inl (Prod.mk (cy 0) (Prod.mk 64 (Sum.inl qbo)))), Prod.mk q7 (Sum.inl (Prod.mk (cy 0) (Prod.mk 64 (Sum.inl qne)))), Prod.mk fc (Sum.inl (Prod.mk (cy 0) (Prod.mk 5 (Sum.inl ffc))))] := hD
        refine lv_if_eq (tgt := 47) hx hb dX2_priceOf_21 (by decide) (fun c21 => ?_) (fun c21 => ?_)
        · skip
          have fc21 := q_eq (a := rr18.toInt) (b := 0) c21 rfl (by decide)
          obtain ⟨x47, ex47⟩ : ∃ y : Int32, y = i + 1 := ⟨_, rfl⟩
          refine lv_iinc (v := x47) (lv' := [(4, .int x47), (2, .long sm), (0, .ref q0), (1, .ref fc)]) hx hb dX2_priceOf_47 hl (k := 0) rfl (by rw [ex47]; rfl) (by decide) rfl (fun ls hl => ?_)
          have tx47 := q_add (p := i.toInt) (q := 1) ex47 rfl (by decide) (by omega) (by omega)
          refine lv_goto (tgt := 5) hx hb dX2_priceOf_50 (by decide) ?_
          exact ih_5 x47 sm (by first | omega | decide | (rw [i32_0]; omega)) (by first | omega | decide | (rw [i32_0]; omega)) (by omega) H locs (hP.sub [2, 0, 1, 3, 4, 5, 6, 7, 8] rfl) (hD.sub [2, 0, 1, 3, 4, 5, 6, 7, 8] (by decide) rfl) hS ls (lv_sub hl [0, 1, 2, 3] rfl)
        · skip
          have fc21 := q_ne (a := rr18.toInt) (b := 0) c21 rfl (by decide)
          refine lv_lload_n hx hb dX2_priceOf_24 rfl (lv_at hl 1 rfl) ?_
          refine lv_aload_n hx hb dX2_priceOf_25 rfl (lv_at hl 2 rfl) ?_
          refine va_get (D := D) (ci := 2) (v := .ref q2) (C := RX2) (T := TX2) (N := 8) hx hb hts in_X2 hown hK hP 2 rfl rfl 2 (by decide) w_3 (fun _ h9 => h9) rfl dX2_priceOf_26 ?_
          refine lv_iload hx hb dX2_priceOf_29 (lv_at hl 0 rfl) ?_
          refine va_iald hx hb hK hP 1 0 rfl rfl (q_in (a := i.toInt) rfl (by omega) (by omega)) dX2_priceOf_31 ?_
          refine lv_topi (fun x31 ex31 => ?_)
          have tx31 := congrArg Int32.toInt ex31
          obtain ⟨x32, ex32⟩ : ∃ y : Int64, x31.toInt64 = y := ⟨_, rfl⟩
          refine lv_i2l hx hb dX2_priceOf_32 ex32 ?_
          refine lv_aload_n hx hb dX2_priceOf_33 rfl (lv_at hl 2 rfl) ?_
          refine va_get (D := D) (ci := 2) (v := .ref q1) (C := RX2) (T := TX2) (N := 8) hx hb hts in_X2 hown hK hP 2 rfl rfl 1 (by decide) w_4 (fun _ h9 => h9) rfl dX2_priceOf_34 ?_
          refine lv_iload hx hb dX2_priceOf_37 (lv_at hl 0 rfl) ?_
          refine va_iald hx hb hK hP 0 0 rfl rfl (q_in (a := i.toInt) rfl (by omega) (by omega)) dX2_priceOf_39 ?_
          refine lv_topi (fun x39 ex39 => ?_)
          have tx39 := congrArg Int32.toInt ex39
          refine lv_aload_n hx hb dX2_priceOf_40 rfl (lv_at hl 3 rfl) ?_
          refine k_l (va_runS (As := [.int x39, .ref fc]) (rest := [.long x32, .long sm]) ⟨hx, hb, hml, hown, hts⟩ (c_X2_timesCharged l D cy E fc ffc x39 H.size ) (va_cwS 2 hts gX2_priceOf_X2_timesCharged rfl rfl rfl (by decide +kernel) ⟨Nat.le_of_ble_eq_true rfl, Nat.le_of_ble_eq_true rfl⟩) (cp_s hK hN hS hAB hP hD [8] rfl (by decide)) rfl rfl hl.1 rfl (lv_room (Nat.le_of_ble_eq_true rfl)) dX2_priceOf_41 ⟨Nat.le_of_ble_eq_true rfl, Nat.le_of_ble_eq_true rfl⟩) hP hD hS hA [8] [0, 1, 2, 3, 4, 5, 6, 7] (wr := [Prod.mk q1 (Sum.inl (Prod.mk (cy 0) (Prod.mk 16 (Sum.inl qch)))), Prod.mk q2 (Sum.inl (Prod.mk (cy 0) (Prod.mk 16 (Sum.inl qam)))), Prod.mk q0 (Sum.inr (Prod.mk 2 [Value.int zq, Value.ref q1, Value.ref q2, Value.ref q3, Value.ref q4, Value.ref q5, Value.ref q6, Value.ref q7])), Prod.mk q3 (Sum.inl (Prod.mk (cy 0) (Prod.mk 16 (Sum.inl qte)))), Prod.mk q4 (Sum.inl (Prod.mk (cy 0) (Prod.mk 64 (Sum.inl qsu)))), Prod.mk q5 (Sum.inl (Prod.mk (cy 0) (Prod.mk 64 (Sum.inl qsi)))), Prod.mk q6 (Sum.inl (Prod.mk (cy 0) (Prod.mk 64 (Sum.inl qbo)))), Prod.mk q7 (Sum.inl (Prod.mk (cy 0) (Prod.mk 64 (Sum.inl qne))))]) rfl rfl (by decide) (by decide) (fun rr41 u_rr41 H locs hw41 hP hD hS => ?_)
          try dsimp only at hw41
          have hP : va_P D vwCl [Prod.mk q1 (Sum.inl (Prod.mk (cy 0) (Prod.mk 16 (Sum.inl qch)))), Prod.mk q2 (Sum.inl (Prod.mk (cy 0) (Prod.mk 16 (Sum.inl qam)))), Prod.mk q0 (Sum.inr (Prod.mk 2 [Value.int zq, Value.ref q1, Value.ref q2, Value.ref q3, Value.ref q4, Value.ref q5, Value.ref q6, Value.ref q7])), Prod.mk q3 (Sum.inl (Prod.mk (cy 0) (Prod.mk 16 (Sum.inl qte)))), Prod.mk q4 (Sum.inl (Prod.mk (cy 0) (Prod.mk 64 (Sum.inl qsu)))), Prod.mk q5 (Sum.inl (Prod.mk (cy 0) (Prod.mk 64 (Sum.inl qsi)))), Prod.mk q6 (Sum.inl (Prod.mk (cy 0) (Prod.mk 64 (Sum.inl qbo)))), Prod.mk q7 (Sum.inl (Prod.mk (cy 0) (Prod.mk 64 (Sum.inl qne)))), Prod.mk fc (Sum.inl (Prod.mk (cy 0) (Prod.mk 5 (Sum.inl ffc))))] H := hP
          have hD : va_D A [Prod.mk q1 (Sum.inl (Prod.mk (cy 0) (Prod.mk 16 (Sum.inl qch)))), Prod.mk q2 (Sum.inl (Prod.mk (cy 0) (Prod.mk 16 (Sum.inl qam)))), Prod.mk q0 (Sum.inr (Prod.mk 2 [Value.int zq, Value.ref q1, Value.ref q2, Value.ref q3, Value.ref q4, Value.ref q5, Value.ref q6, Value.ref q7])), Prod.mk q3 (Sum.inl (Prod.mk (cy 0) (Prod.mk 16 (Sum.inl qte)))), Prod.mk q4 (Sum.inl (Prod.mk (cy 0) (Prod.mk 64 (Sum.inl qsu)))), Prod.mk q5 (Sum.inl (Prod.mk (cy 0) (Prod.mk 64 (Sum.inl qsi)))), Prod.mk q6 (Sum.inl (Prod.mk (cy 0) (Prod.mk 64 (Sum.inl qbo)))), Prod.mk q7 (Sum.inl (Prod.mk (cy 0) (Prod.mk 64 (Sum.inl qne)))), Prod.mk fc (Sum.inl (Prod.mk (cy 0) (Prod.mk 5 (Sum.inl ffc))))] := hD
          refine lv_lmul hx hb dX2_priceOf_44 ?_
          refine lv_topl (fun x44 ex44 => ?_)
          refine lv_ladd hx hb dX2_priceOf_45 ?_
          refine lv_topl (fun x45 ex45 => ?_)
          refine lv_lstore_n (lv' := [(2, .long x45), (4, .int i), (0, .ref q0), (1, .ref fc)]) hx hb dX2_priceOf_46 rfl hl (by decide) rfl (fun ls hl => ?_)
          obtain ⟨x47, ex47⟩ : ∃ y : Int32, y = i + 1 := ⟨_, rfl⟩
          refine lv_iinc (v := x47) (lv' := [(4, .int x47), (2, .long x45), (0, .ref q0), (1, .ref fc)]) hx hb dX2_priceOf_47 hl (k := 1) rfl (by rw [ex47]; rfl) (by decide) rfl (fun ls hl => ?_)
          have tx47 := q_add (p := i.toInt) (q := 1) ex47 rfl (by decide) (by omega) (by omega)
          refine lv_goto (tgt := 5) hx hb dX2_priceOf_50 (by decide) ?_
          exact ih_5 x47 x45 (by first | omega | decide | (rw [i32_0]; omega)) (by first | omega | decide | (rw [i32_0]; omega)) (by omega) H locs (hP.sub [2, 0, 1, 3, 4, 5, 6, 7, 8] rfl) (hD.sub [2, 0, 1, 3, 4, 5, 6, 7, 8] (by decide) rfl) hS ls (lv_sub hl [0, 1, 2, 3] rfl)
  exact lp_5 ((16 - (0 : Int32).toInt).toNat + 1) 0 0 (by first | omega | decide | (rw [i32_0]; omega) | (rw [i32_m1]; omega)) (by first | omega | decide | (rw [i32_0]; omega) | (rw [i32_m1]; omega)) (by first | omega | exact Nat.lt_succ_self _ | (rw [i32_0]; omega) | (rw [i32_1]; omega)) H locs hP hD hS ls (lv_sub hl [0, 1, 2, 3] rfl)
