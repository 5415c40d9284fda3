abbrev Q_c_X4_lay (D : va_G) (cy : Nat → ClassId) (h0 : Nat) (h1 : Nat) (h2 : Nat) (z : Int32) (f1 : Nat → Int32) (f2 : Nat → Int32) (n : Int32) : (Nat → Prop) → Array Value → State → Outcome → State → Prop := QV D cy (fun (u : (Nat → Int32) × (Nat → Int32)) => match u with | (g1, g2) => (∀ j : Nat, j < 9 → g1 j = 1) ∧ (∀ j : Nat, j < 9 → g2 j = 1)) (fun u : (Nat → Int32) × (Nat → Int32) => match u with | (g1, g2) => [(h0, .inr (4, [.int n, .ref h1, .ref h2])), (h1, .inl (cy 0, 9, .inl g1)), (h2, .inl (cy 0, 9, .inl g2))])
set_option maxHeartbeats 4000000 in
set_option maxRecDepth 100000 in
theorem c_X4_lay (l : Launch) (D : va_G) (cy : Nat → ClassId) (h0 : Nat) (h1 : Nat) (h2 : Nat) (z : Int32) (f1 : Nat → Int32) (f2 : Nat → Int32) (n : Int32) (sz : Nat)  : Met l yX4_lay wsX4_lay ({ frames := 1, cells := 0, slots := 0, locals := 23 } : Room) (CP D cy [.ref h0, .int n] [(h0, .inr (4, [.int z, .ref h1, .ref h2])), (h1, .inl (cy 0, 9, .inl f1)), (h2, .inl (cy 0, 9, .inl f2))] sz) (Q_c_X4_lay D cy h0 h1 h2 z f1 f2 n (va_A [(h0, .inr (4, [.int z, .ref h1, .ref h2])), (h1, .inl (cy 0, 9, .inl f1)), (h2, .inl (cy 0, 9, .inl f2))] sz)) 0 0 (va_A [(h0, .inr (4, [.int z, .ref h1, .ref h2])), (h1, .inl (cy 0, 9, .inl f1)), (h2, .inl (cy 0, 9, .inl f2))] sz) := by
  refine Met.go (Qc := Q_c_X4_lay D cy h0 h1 h2 z f1 f2 n) (cc := cX4_lay) (maxL := 2) (ret := none) (by decide) rfl (Nat.le_of_ble_eq_true rfl) ?_
  intro p e s m below meth c hx hb hr hts hown hlocks hin hml hK hN A hA hD hP hS ls hl hsz
  have hl : lv_has ls 2 [(0, .ref h0), (1, .int n)] := hl
  have in_X4 : ∀ w ∈ wsX40, w ∈ wsX4_lay := fun _ h => List.mem_cons_of_mem _ ((List.mem_append_right _ h))
  have w_1 := hts (.fieldLink RX4 22 "SleepingCars$Route" "stops" "I") (by decide +kernel)
  have w_2 := hts (.fieldLink RX4 9 "SleepingCars$Route" "legKm" "[I") (by decide +kernel)
  have w_3 := hts (.fieldLink RX4 15 "SleepingCars$Route" "legHours" "[I") (by decide +kernel)
  obtain ⟨H, eH⟩ : ∃ H : Heap, H = s.heap := ⟨_, rfl⟩
  obtain ⟨locs, eL⟩ : ∃ L : List Loc, L = [] := ⟨_, rfl⟩
  rw [← eL]
  rw [← eL] at hS
  have hP : va_P D vwCl [(h0, .inr (4, [.int z, .ref h1, .ref h2])), (h1, .inl (cy 0, 9, .inl f1)), (h2, .inl (cy 0, 9, .inl f2))] H := by rw [eH]; exact hP
  have hS : va_S A s.heap H locs := by rw [eH]; exact hS
  refine W.heapEq eH ?_
  clear eH eL
  refine lv_aload_n hx hb dX4_lay_0 rfl (lv_at hl 0 rfl) ?_
  refine lv_iload_n hx hb dX4_lay_1 rfl (lv_at hl 1 rfl) ?_
  refine va_put (D := D) (ci := 4) (v := .int n) (ty := .int) (C := RX4) (T := TX4) (N := 3) hx hb hts in_X4 tyX4 tyX4_ok nmX4 hown hK hP hD hS 0 rfl rfl 0 (by decide) w_1 (fun _ h9 => h9) rfl (by decide +kernel) rfl rfl (Nat.le_of_ble_eq_true rfl) dX4_lay_2 (fun H locs hP hD hS => ?_)
  have hP : va_P D vwCl [(h0, .inr (4, [.int n, .ref h1, .ref h2])), (h1, .inl (cy 0, 9, .inl f1)), (h2, .inl (cy 0, 9, .inl f2))] H := hP
  have hD : va_D A [(h0, .inr (4, [.int n, .ref h1, .ref h2])), (h1, .inl (cy 0, 9, .inl f1)), (h2, .inl (cy 0, 9, .inl f2))] := hD
  refine lv_aload_n hx hb dX4_lay_5 rfl (lv_at hl 0 rfl) ?_
  refine va_get (D := D) (ci := 4) (v := .ref h1) (C := RX4) (T := TX4) (N := 3) hx hb hts in_X4 hown hK hP 0 rfl rfl 1 (by decide) w_2 (fun _ h9 => h9) rfl dX4_lay_6 ?_
  refine lv_iconst (v := 1) hx hb dX4_lay_9 (by decide) ?_
  refine k_v (va_runS (As := [.ref h1, .int 1]) (rest := []) ⟨hx, hb, hml, hown, hts⟩ (c_fill_9 l D cy h1 f1 1 H.size ) (va_cwS 2 hts gX4_lay_J7_fill_53178 rfl rfl rfl (by decide +kernel) ⟨Nat.le_of_ble_eq_true rfl, Nat.le_of_ble_eq_true rfl⟩) (cp_s hK hN hP hD [1] rfl (by decide)) rfl rfl hl.1 rfl (lv_room (Nat.le_of_ble_eq_true rfl)) dX4_lay_10 ⟨Nat.le_of_ble_eq_true rfl, Nat.le_of_ble_eq_true rfl⟩) hP hD hS hA [1] [0, 2] (wr := [(h0, .inr (4, [.int n, .ref h1, .ref h2])), (h2, .inl (cy 0, 9, .inl f2))]) rfl rfl (by decide) (by decide) (fun u_r10 H locs hw10 hP hD hS => ?_)
  try dsimp only at hw10
  have hP : va_P D vwCl [(h0, .inr (4, [.int n, .ref h1, .ref h2])), (h2, .inl (cy 0, 9, .inl f2)), (h1, .inl (cy 0, 9, .inl u_r10))] H := hP
  have hD : va_D A [(h0, .inr (4, [.int n, .ref h1, .ref h2])), (h2, .inl (cy 0, 9, .inl f2)), (h1, .inl (cy 0, 9, .inl u_r10))] := hD
  refine lv_aload_n hx hb dX4_lay_13 rfl (lv_at hl 0 rfl) ?_
  refine va_get (D := D) (ci := 4) (v := .ref h2) (C := RX4) (T := TX4) (N := 3) hx hb hts in_X4 hown hK hP 0 rfl rfl 2 (by decide) w_3 (fun _ h9 => h9) rfl dX4_lay_14 ?_
  refine lv_iconst (v := 1) hx hb dX4_lay_17 (by decide) ?_
  refine k_v (va_runS (As := [.ref h2, .int 1]) (rest := []) ⟨hx, hb, hml, hown, hts⟩ (c_fill_9 l D cy h2 f2 1 H.size ) (va_cwS 2 hts gX4_lay_J7_fill_53178 rfl rfl rfl (by decide +kernel) ⟨Nat.le_of_ble_eq_true rfl, Nat.le_of_ble_eq_true rfl⟩) (cp_s hK hN hP hD [1] rfl (by decide)) rfl rfl hl.1 rfl (lv_room (Nat.le_of_ble_eq_true rfl)) dX4_lay_18 ⟨Nat.le_of_ble_eq_true rfl, Nat.le_of_ble_eq_true rfl⟩) hP hD hS hA [1] [0, 2] (wr := [(h0, .inr (4, [.int n, .ref h1, .ref h2])), (h1, .inl (cy 0, 9, .inl u_r10))]) rfl rfl (by decide) (by decide) (fun u_r18 H locs hw18 hP hD hS => ?_)
  try dsimp only at hw18
  have hP : va_P D vwCl [(h0, .inr (4, [.int n, .ref h1, .ref h2])), (h1, .inl (cy 0, 9, .inl u_r10)), (h2, .inl (cy 0, 9, .inl u_r18))] H := hP
  have hD : va_D A [(h0, .inr (4, [.int n, .ref h1, .ref h2])), (h1, .inl (cy 0, 9, .inl u_r10)), (h2, .inl (cy 0, 9, .inl u_r18))] := hD
  exact r_v hx hb hr hlocks hK hS dX4_lay_21 (u := (u_r10, u_r18)) hP hD (⟨hw10, hw18⟩)

abbrev Q_c_X4_hasLeg (D : va_G) (cy : Nat → ClassId) (h0 : Nat) (h1 : Nat) (h2 : Nat) (z : Int32) (stop : Int32) : (Nat → Prop) → Array Value → State → Outcome → State → Prop := QI D cy (fun (r : Int32) (_ : Unit) => (r.toInt = 1 ∧ (0 ≤ stop.toInt ∧ stop.toInt < z.toInt - 1)) ∨ (r.toInt = 0 ∧ ¬ (0 ≤ stop.toInt ∧ stop.toInt < z.toInt - 1))) (fun _ : Unit => [(h0, .inr (4, [.int z, .ref h1, .ref h2]))])
set_option maxHeartbeats 4000000 in
set_option maxRecDepth 100000 in
theorem c_X4_hasLeg (l : Launch) (D : va_G) (cy : Nat → ClassId) (h0 : Nat) (h1 : Nat) (h2 : Nat) (z : Int32) (stop : Int32) (sz : Nat) (hz : 2 ≤ z.toInt ∧ z.toInt ≤ 10) : Met l yX4_hasLeg wsX4_hasLeg ({ frames := 0, cells := 0, slots := 0, locals := 0 } : Room) (CP D cy [.ref h0, .int stop] [(h0, .inr (4, [.int z, .ref h1, .ref h2]))] sz) (Q_c_X4_hasLeg D cy h0 h1 h2 z stop (va_A [(h0, .inr (4, [.int z, .ref h1, .ref h2]))] sz)) 0 0 (va_A [(h0, .inr (4, [.int z, .ref h1, .ref h2]))] sz) := by
  refine Met.go (Qc := Q_c_X4_hasLeg D cy h0 h1 h2 z stop) (cc := cX4_hasLeg) (maxL := 2) (ret := (some .boolean)) (by decide) rfl (Nat.le_of_ble_eq_true rfl) ?_
  intro p e s m below meth c hx hb hr hts hown hlocks hin hml hK hN A hA hD hP hS ls hl hsz
  have hl : lv_has ls 2 [(0, .ref h0), (1, .int stop)] := hl
  have in_X4 : ∀ w ∈ wsX40, w ∈ wsX4_hasLeg := fun _ h => List.mem_cons_of_mem _ ((List.mem_append_right _ h))
  have w_1 := hts (.fieldLink RX4 22 "SleepingCars$Route" "stops" "I") (by decide +kernel)
  obtain ⟨H, eH⟩ : ∃ H : Heap, H = s.heap := ⟨_, rfl⟩
  obtain ⟨locs, eL⟩ : ∃ L : List Loc, L = [] := ⟨_, rfl⟩
  rw [← eL]
  rw [← eL] at hS
  have hP : va_P D vwCl [(h0, .inr (4, [.int z, .ref h1, .ref h2]))] H := by rw [eH]; exact hP
  have hS : va_S A s.heap H locs := by rw [eH]; exact hS
  refine W.heapEq eH ?_
  clear eH eL
  refine lv_iload_n hx hb dX4_hasLeg_0 rfl (lv_at hl 1 rfl) ?_
  refine lv_if_lt (tgt := 18) hx hb dX4_hasLeg_1 (by decide) (fun c1 => ?_) (fun c1 => ?_)
  · skip
    have fc1 := q_lt (a := stop.toInt) (b := 0) c1 rfl (by decide)
    refine lv_iconst (v := 0) hx hb dX4_hasLeg_18 (by decide) ?_
    exact r_z hx hb hr hlocks hK hS dX4_hasLeg_19 (by decide) (u := ()) hP hD (by first | exact Or.inl ⟨by decide, by omega⟩ | exact Or.inr ⟨by decide, by omega⟩)
  · skip
    have fc1 := q_nlt (a := stop.toInt) (b := 0) c1 rfl (by decide)
    refine lv_iload_n hx hb dX4_hasLeg_4 rfl (lv_at hl 1 rfl) ?_
    refine lv_aload_n hx hb dX4_hasLeg_5 rfl (lv_at hl 0 rfl) ?_
    refine va_get (D := D) (ci := 4) (v := .int z) (C := RX4) (T := TX4) (N := 3) hx hb hts in_X4 hown hK hP 0 rfl rfl 0 (by decide) w_1 (fun _ h9 => h9) rfl dX4_hasLeg_6 ?_
    refine lv_iconst (v := 1) hx hb dX4_hasLeg_9 (by decide) ?_
    refine lv_isub hx hb dX4_hasLeg_10 ?_
    refine lv_topi (fun x10 ex10 => ?_)
    have tx10 := q_sub (p := z.toInt) (q := 1) ex10 rfl (by decide) (by omega) (by omega)
    refine lv_icmp_ge (tgt := 18) hx hb dX4_hasLeg_11 (by decide) (fun c11 => ?_) (fun c11 => ?_)
    · skip
      have fc11 := q_le (a := x10.toInt) (b := stop.toInt) c11 rfl rfl
      refine lv_iconst (v := 0) hx hb dX4_hasLeg_18 (by decide) ?_
      exact r_z hx hb hr hlocks hK hS dX4_hasLeg_19 (by decide) (u := ()) hP hD (by first | exact Or.inl ⟨by decide, by omega⟩ | exact Or.inr ⟨by decide, by omega⟩)
    · skip
      have fc11 := q_nle (a := x10.toInt) (b := stop.toInt) c11 rfl rfl
      refine lv_iconst (v := 1) hx hb dX4_hasLeg_14 (by decide) ?_
      refine lv_goto (tgt := 19) hx hb dX4_hasLeg_15 (by decide) ?_
      exact r_z hx hb hr hlocks hK hS dX4_hasLeg_19 (by decide) (u := ()) hP hD (by first | exact Or.inl ⟨by decide, by omega⟩ | exact Or.inr ⟨by decide, by omega⟩)

abbrev Q_c_X4_isStop (D : va_G) (cy : Nat → ClassId) (h0 : Nat) (h1 : Nat) (h2 : Nat) (z : Int32) (stop : Int32) : (Nat → Prop) → Array Value → State → Outcome → State → Prop := QI D cy (fun (r : Int32) (_ : Unit) => (r.toInt = 1 ∧ (0 ≤ stop.toInt ∧ stop.toInt < z.toInt)) ∨ (r.toInt = 0 ∧ ¬ (0 ≤ stop.toInt ∧ stop.toInt < z.toInt))) (fun _ : Unit => [(h0, .inr (4, [.int z, .ref h1, .ref h2]))])
set_option maxHeartbeats 4000000 in
set_option maxRecDepth 100000 in
theorem c_X4_isStop (l : Launch) (D : va_G) (cy : Nat → ClassId) (h0 : Nat) (h1 : Nat) (h2 : Nat) (z : Int32) (stop : Int32) (sz : Nat)  : Met l yX4_isStop wsX4_isStop ({ frames := 0, cells := 0, slots := 0, locals := 0 } : Room) (CP D cy [.ref h0, .int stop] [(h0, .inr (4, [.int z, .ref h1, .ref h2]))] sz) (Q_c_X4_isStop D cy h0 h1 h2 z stop (va_A [(h0, .inr (4, [.int z, .ref h1, .ref h2]))] sz)) 0 0 (va_A [(h0, .inr (4, [.int z, .ref h1, .ref h2]))] sz) := by
  refine Met.go (Qc := Q_c_X4_isStop D cy h0 h1 h2 z stop) (cc := cX4_isStop) (maxL := 2) (ret := (some .boolean)) (by decide) rfl (Nat.le_of_ble_eq_true rfl) ?_
  intro p e s m below meth c hx hb hr hts hown hlocks hin hml hK hN A hA hD hP hS ls hl hsz
  have hl : lv_has ls 2 [(0, .ref h0), (1, .int stop)] := hl
  have in_X4 : ∀ w ∈ wsX40, w ∈ wsX4_isStop := fun _ h => List.mem_cons_of_mem _ ((List.mem_append_right _ h))
  have w_1 := hts (.fieldLink RX4 22 "SleepingCars$Route" "stops" "I") (by decide +kernel)
  obtain ⟨H, eH⟩ : ∃ H : Heap, H = s.heap := ⟨_, rfl⟩
  obtain ⟨locs, eL⟩ : ∃ L : List Loc, L = [] := ⟨_, rfl⟩
  rw [← eL]
  rw [← eL] at hS
  have hP : va_P D vwCl [(h0, .inr (4, [.int z, .ref h1, .ref h2]))] H := by rw [eH]; exact hP
  have hS : va_S A s.heap H locs := by rw [eH]; exact hS
  refine W.heapEq eH ?_
  clear eH eL
  refine lv_iload_n hx hb dX4_isStop_0 rfl (lv_at hl 1 rfl) ?_
  refine lv_if_lt (tgt := 16) hx hb dX4_isStop_1 (by decide) (fun c1 => ?_) (fun c1 => ?_)
  · skip
    have fc1 := q_lt (a := stop.toInt) (b := 0) c1 rfl (by decide)
    refine lv_iconst (v := 0) hx hb dX4_isStop_16 (by decide) ?_
    exact r_z hx hb hr hlocks hK hS dX4_isStop_17 (by decide) (u := ()) hP hD (by first | exact Or.inl ⟨by decide, by omega⟩ | exact Or.inr ⟨by decide, by omega⟩)
  · skip
    have fc1 := q_nlt (a := stop.toInt) (b := 0) c1 rfl (by decide)
    refine lv_iload_n hx hb dX4_isStop_4 rfl (lv_at hl 1 rfl) ?_
    refine lv_aload_n hx hb dX4_isStop_5 rfl (lv_at hl 0 rfl) ?_
    refine va_get (D := D) (ci := 4) (v := .int z) (C := RX4) (T := TX4) (N := 3) hx hb hts in_X4 hown hK hP 0 rfl rfl 0 (by decide) w_1 (fun _ h9 => h9) rfl dX4_isStop_6 ?_
    refine lv_icmp_ge (tgt := 16) hx hb dX4_isStop_9 (by decide) (fun c9 => ?_) (fun c9 => ?_)
    · skip
      have fc9 := q_le (a := z.toInt) (b := stop.toInt) c9 rfl rfl
      refine lv_iconst (v := 0) hx hb dX4_isStop_16 (by decide) ?_
      exact r_z hx hb hr hlocks hK hS dX4_isStop_17 (by decide) (u := ()) hP hD (by first | exact Or.inl ⟨by decide, by omega⟩ | exact Or.inr ⟨by decide, by omega⟩)
    · skip
      have fc9 := q_nle (a := z.toInt) (b := stop.toInt) c9 rfl rfl
      refine lv_iconst (v := 1) hx hb dX4_isStop_12 (by decide) ?_
      refine lv_goto (tgt := 17) hx hb dX4_isStop_13 (by decide) ?_
      exact r_z hx hb hr hlocks hK hS dX4_isStop_17 (by decide) (u := ()) hP hD (by first | exact Or.inl ⟨by decide, by omega⟩ | exact Or.inr ⟨by decide, by omega⟩)

abbrev Q_c_X4_isStretch (D : va_G) (cy : Nat → ClassId) (h0 : Nat) (h1 : Nat) (h2 : Nat) (z : Int32) (a : Int32) (b : Int32) : (Nat → Prop) → Array Value → State → Outcome → State → Prop := QI D cy (fun (r : Int32) (_ : Unit) => (r.toInt = 1 ∧ (0 ≤ a.toInt ∧ a.toInt < b.toInt ∧ b.toInt < z.toInt)) ∨ (r.toInt = 0 ∧ ¬ (0 ≤ a.toInt ∧ a.toInt < b.toInt ∧ b.toInt < z.toInt))) (fun _ : Unit => [(h0, .inr (4, [.int z, .ref h1, .ref h2]))])
set_option maxHeartbeats 4000000 in
set_option maxRecDepth 100000 in
theorem c_X4_isStretch (l : Launch) (D : va_G) (cy : Nat → ClassId) (h0 : Nat) (h1 : Nat) (h2 : Nat) (z : Int32) (a : Int32) (b : Int32) (sz : Nat)  : Met l yX4_isStretch wsX4_isStretch ({ frames := 0, cells := 0, slots := 0, locals := 0 } : Room) (CP D cy [.ref h0, .int a, .int b] [(h0, .inr (4, [.int z, .ref h1, .ref h2]))] sz) (Q_c_X4_isStretch D cy h0 h1 h2 z a b (va_A [(h0, .inr (4, [.int z, .ref h1, .ref h2]))] sz)) 0 0 (va_A [(h0, .inr (4, [.int z, .ref h1, .ref h2]))] sz) := by
  refine Met.go (Qc := Q_c_X4_isStretch D cy h0 h1 h2 z a b) (cc := cX4_isStretch) (maxL := 3) (ret := (some .boolean)) (by decide) rfl (Nat.le_of_ble_eq_true rfl) ?_
  intro p e s m below meth c hx hb hr hts hown hlocks hin hml hK hN A hA hD hP hS ls hl hsz
  have hl : lv_has ls 3 [(0, .ref h0), (1, .int a), (2, .int b)] := hl
  have in_X4 : ∀ w ∈ wsX40, w ∈ wsX4_isStretch := fun _ h => List.mem_cons_of_mem _ ((List.mem_append_right _ h))
  have w_1 := hts (.fieldLink RX4 22 "SleepingCars$Route" "stops" "I") (by decide +kernel)
  obtain ⟨H, eH⟩ : ∃ H : Heap, H = s.heap := ⟨_, rfl⟩
  obtain ⟨locs, eL⟩ : ∃ L : List Loc, L = [] := ⟨_, rfl⟩
  rw [← eL]
  rw [← eL] at hS
  have hP : va_P D vwCl [(h0, .inr (4, [.int z, .ref h1, .ref h2]))] H := by rw [eH]; exact hP
  have hS : va_S A s.heap H locs := by rw [eH]; exact hS
  refine W.heapEq eH ?_
  clear eH eL
  refine lv_iload_n hx hb dX4_isStretch_0 rfl (lv_at hl 1 rfl) ?_
  refine lv_if_lt (tgt := 21) hx hb dX4_isStretch_1 (by decide) (fun c1 => ?_) (fun c1 => ?_)
  · skip
    have fc1 := q_lt (a := a.toInt) (b := 0) c1 rfl (by decide)
    refine lv_iconst (v := 0) hx hb dX4_isStretch_21 (by decide) ?_
    exact r_z hx hb hr hlocks hK hS dX4_isStretch_22 (by decide) (u := ()) hP hD (by first | exact Or.inl ⟨by decide, by omega⟩ | exact Or.inr ⟨by decide, by omega⟩)
  · skip
    have fc1 := q_nlt (a := a.toInt) (b := 0) c1 rfl (by decide)
    refine lv_iload_n hx hb dX4_isStretch_4 rfl (lv_at hl 1 rfl) ?_
    refine lv_iload_n hx hb dX4_isStretch_5 rfl (lv_at hl 2 rfl) ?_
    refine lv_icmp_ge (tgt := 21) hx hb dX4_isStretch_6 (by decide) (fun c6 => ?_) (fun c6 => ?_)
    · skip
      have fc6 := q_le (a := b.toInt) (b := a.toInt) c6 rfl rfl
      refine lv_iconst (v := 0) hx hb dX4_isStretch_21 (by decide) ?_
      exact r_z hx hb hr hlocks hK hS dX4_isStretch_22 (by decide) (u := ()) hP hD (by first | exact Or.inl ⟨by decide, by omega⟩ | exact Or.inr ⟨by decide, by omega⟩)
    · skip
      have fc6 := q_nle (a := b.toInt) (b := a.toInt) c6 rfl rfl
      refine lv_iload_n hx hb dX4_isStretch_9 rfl (lv_at hl 2 rfl) ?_
      refine lv_aload_n hx hb dX4_isStretch_10 rfl (lv_at hl 0 rfl) ?_
      refine va_get (D := D) (ci := 4) (v := .int z) (C := RX4) (T := TX4) (N := 3) hx hb hts in_X4 hown hK hP 0 rfl rfl 0 (by decide) w_1 (fun _ h9 => h9) rfl dX4_isStretch_11 ?_
      refine lv_icmp_ge (tgt := 21) hx hb dX4_isStretch_14 (by decide) (fun c14 => ?_) (fun c14 => ?_)
      · skip
        have fc14 := q_le (a := z.toInt) (b := b.toInt) c14 rfl rfl
        refine lv_iconst (v := 0) hx hb dX4_isStretch_21 (by decide) ?_
        exact r_z hx hb hr hlocks hK hS dX4_isStretch_22 (by decide) (u := ()) hP hD (by first | exact Or.inl ⟨by decide, by omega⟩ | exact Or.inr ⟨by decide, by omega⟩)
      · skip
        have fc14 := q_nle (a := z.toInt) (b := b.toInt) c14 rfl rfl
        refine lv_iconst (v := 1) hx hb dX4_isStretch_17 (by decide) ?_
        refine lv_goto (tgt := 22) hx hb dX4_isStretch_18 (by decide) ?_
        exact r_z hx hb hr hlocks hK hS dX4_isStretch_22 (by decide) (u := ()) hP hD (by first | exact Or.inl ⟨by decide, by omega⟩ | exact Or.inr ⟨by decide, by omega⟩)

abbrev Q_c_X4_hoursTo (D : va_G) (cy : Nat → ClassId) (h0 : Nat) (h1 : Nat) (h2 : Nat) (z : Int32) (f2 : Nat → Int32) (stop : Int32) : (Nat → Prop) → Array Value → State → Outcome → State → Prop := QI D cy (fun (r : Int32) (_ : Unit) => r = sumI f2 (min stop.toInt.toNat 9)) (fun _ : Unit => [(h0, .inr (4, [.int z, .ref h1, .ref h2])), (h2, .inl (cy 0, 9, .inl f2))])
set_option maxHeartbeats 4000000 in
set_option maxRecDepth 100000 in
theorem c_X4_hoursTo (l : Launch) (D : va_G) (cy : Nat → ClassId) (h0 : Nat) (h1 : Nat) (h2 : Nat) (z : Int32) (f2 : Nat → Int32) (stop : Int32) (sz : Nat)  : Met l yX4_hoursTo wsX4_hoursTo ({ frames := 0, cells := 0, slots := 0, locals := 0 } : Room) (CP D cy [.ref h0, .int stop] [(h0, .inr (4, [.int z, .ref h1, .ref h2])), (h2, .inl (cy 0, 9, .inl f2))] sz) (Q_c_X4_hoursTo D cy h0 h1 h2 z f2 stop (va_A [(h0, .inr (4, [.int z, .ref h1, .ref h2])), (h2, .inl (cy 0, 9, .inl f2))] sz)) 0 0 (va_A [(h0, .inr (4, [.int z, .ref h1, .ref h2])), (h2, .inl (cy 0, 9, .inl f2))] sz) := by
  refine Met.go (Qc := Q_c_X4_hoursTo D cy h0 h1 h2 z f2 stop) (cc := cX4_hoursTo) (maxL := 4) (ret := (some .int)) (by decide) rfl (Nat.le_of_ble_eq_true rfl) ?_
  intro p e s m below meth c hx hb hr hts hown hlocks hin hml hK hN A hA hD hP hS ls hl hsz
  have hl : lv_has ls 4 [(0, .ref h0), (1, .int stop)] := hl
  have in_X4 : ∀ w ∈ wsX40, w ∈ wsX4_hoursTo := fun _ h => List.mem_cons_of_mem _ ((List.mem_append_right _ h))
  have w_1 := hts (.fieldLink RX4 15 "SleepingCars$Route" "legHours" "[I") (by decide +kernel)
  obtain ⟨H, eH⟩ : ∃ H : Heap, H = s.heap := ⟨_, rfl⟩
  obtain ⟨locs, eL⟩ : ∃ L : List Loc, L = [] := ⟨_, rfl⟩
  rw [← eL]
  rw [← eL] at hS
  have hP : va_P D vwCl [(h0, .inr (4, [.int z, .ref h1, .ref h2])), (h2, .inl (cy 0, 9, .inl f2))] H := by rw [eH]; exact hP
  have hS : va_S A s.heap H locs := by rw [eH]; exact hS
  refine W.heapEq eH ?_
  clear eH eL
  refine lv_iconst (v := 0) hx hb dX4_hoursTo_0 (by decide) ?_
  refine lv_istore_n (lv' := [(2, .int 0), (0, .ref h0), (1, .int stop)]) hx hb dX4_hoursTo_1 rfl hl (by decide) rfl (fun ls hl => ?_)
  refine lv_iconst (v := 0) hx hb dX4_hoursTo_2 (by decide) ?_
  refine lv_istore_n (lv' := [(3, .int 0), (2, .int 0), (0, .ref h0), (1, .int stop)]) hx hb dX4_hoursTo_3 rfl hl (by decide) rfl (fun ls hl => ?_)
  have lp_4 : ∀ (n_4 : Nat) (i : Int32) (a : Int32), (0 ≤ i.toInt) → (i.toInt ≤ 9) → (i.toInt = 0 ∨ i.toInt ≤ stop.toInt) → (a = sumI f2 i.toInt.toNat) → (9 - i.toInt).toNat < n_4 → ∀ (H : Heap) (locs : List Loc), va_P D vwCl [(h0, .inr (4, [.int z, .ref h1, .ref h2])), (h2, .inl (cy 0, 9, .inl f2))] H → va_D A [(h0, .inr (4, [.int z, .ref h1, .ref h2])), (h2, .inl (cy 0, 9, .inl f2))] → va_S A s.heap H locs → ∀ ls : Array Slot, lv_has ls 4 [(3, .int i), (2, .int a), (0, .ref h0), (1, .int stop)] → W p l e (headSpec wsX4_hoursTo ({ frames := 0, cells := 0, slots := 0, locals := 0 } : Room)).room s m ([.ref h0, .int stop] : List Value).toArray below meth c H locs 0 0 (MQ below (Q_c_X4_hoursTo D cy h0 h1 h2 z f2 stop A) ([.ref h0, .int stop] : List Value).toArray s 0 0 A) (F0 m 4 ls []) := by
    intro n_4
    induction n_4 with
    | zero => intro i a hi0 hi1 hi2 ha hmu; exact absurd hmu (Nat.not_lt_zero _)
    | succ n_4 ih_4 =>
      intro i a hi0 hi1 hi2 ha hmu_4 H locs hP hD hS ls hl
      refine lv_iload_n hx hb dX4_hoursTo_4 rfl (lv_at hl 0 rfl) ?_
      refine lv_iload_n hx hb dX4_hoursTo_5 rfl (lv_at hl 3 rfl) ?_
      refine lv_icmp_ge (tgt := 33) hx hb dX4_hoursTo_6 (by decide) (fun c6 => ?_) (fun c6 => ?_)
      · skip
        have fc6 := q_le (a := stop.toInt) (b := i.toInt) c6 rfl rfl
        refine lv_iload_n hx hb dX4_hoursTo_33 rfl (lv_at hl 1 rfl) ?_
        exact r_i hx hb hr hlocks hK hS dX4_hoursTo_34 (u := ()) hP hD (by rw [ha, show i.toInt.toNat = min stop.toInt.toNat 9 by omega])
      · skip
        have fc6 := q_nle (a := stop.toInt) (b := i.toInt) c6 rfl rfl
        refine lv_iload_n hx hb dX4_hoursTo_9 rfl (lv_at hl 0 rfl) ?_
        refine lv_aload_n hx hb dX4_hoursTo_10 rfl (lv_at hl 2 rfl) ?_
        refine va_get (D := D) (ci := 4) (v := .ref h2) (C := RX4) (T := TX4) (N := 3) hx hb hts in_X4 hown hK hP 0 rfl rfl 2 (by decide) w_1 (fun _ h9 => h9) rfl dX4_hoursTo_11 ?_
        refine va_alen hx hb hK hP 1 0 rfl rfl (v := 9) rfl dX4_hoursTo_14 ?_
        refine lv_icmp_ge (tgt := 33) hx hb dX4_hoursTo_15 (by decide) (fun c15 => ?_) (fun c15 => ?_)
        · skip
          have fc15 := q_le (a := 9) (b := i.toInt) c15 (by decide) rfl
          refine lv_iload_n hx hb dX4_hoursTo_33 rfl (lv_at hl 1 rfl) ?_
          exact r_i hx hb hr hlocks hK hS dX4_hoursTo_34 (u := ()) hP hD (by rw [ha, show i.toInt.toNat = min stop.toInt.toNat 9 by omega])
        · skip
          have fc15 := q_nle (a := 9) (b := i.toInt) c15 (by decide) rfl
          refine lv_iload_n hx hb dX4_hoursTo_18 rfl (lv_at hl 1 rfl) ?_
          refine lv_aload_n hx hb dX4_hoursTo_19 rfl (lv_at hl 2 rfl) ?_
          refine va_get (D := D) (ci := 4) (v := .ref h2) (C := RX4) (T := TX4) (N := 3) hx hb hts in_X4 hown hK hP 0 rfl rfl 2 (by decide) w_1 (fun _ h9 => h9) rfl dX4_hoursTo_20 ?_
          refine lv_iload_n hx hb dX4_hoursTo_23 rfl (lv_at hl 0 rfl) ?_
          refine va_iald hx hb hK hP 1 0 rfl rfl (q_in (a := i.toInt) rfl (by omega) (by omega)) dX4_hoursTo_24 ?_
          refine lv_topi (fun x24 ex24 => ?_)
          have tx24 := congrArg Int32.toInt ex24
          refine lv_iadd hx hb dX4_hoursTo_25 ?_
          refine lv_topi (fun x25 ex25 => ?_)
          refine lv_istore_n (lv' := [(2, .int x25), (3, .int i), (0, .ref h0), (1, .int stop)]) hx hb dX4_hoursTo_26 rfl hl (by decide) rfl (fun ls hl => ?_)
          obtain ⟨x27, ex27⟩ : ∃ y : Int32, y = i + 1 := ⟨_, rfl⟩
          refine lv_iinc (v := x27) (lv' := [(3, .int x27), (2, .int x25), (0, .ref h0), (1, .int stop)]) hx hb dX4_hoursTo_27 hl (k := 1) rfl (by rw [ex27]; rfl) (by decide) rfl (fun ls hl => ?_)
          have tx27 := q_add (p := i.toInt) (q := 1) ex27 rfl (by decide) (by omega) (by omega)
          refine lv_goto (tgt := 4) hx hb dX4_hoursTo_30 (by decide) ?_
          exact ih_4 x27 x25 (by omega) (by omega) (by omega) (sum_step hi0 tx27 ha ex24 ex25) (by omega) H locs hP hD hS ls (lv_sub hl [0, 1, 2, 3] rfl)
  exact lp_4 (9 + 1) 0 0 (by decide) (by decide) (Or.inl (by decide)) rfl (by first | omega | exact Nat.lt_succ_self _) H locs hP hD hS ls (lv_sub hl [0, 1, 2, 3] rfl)

abbrev Q_c_X4_allHours (D : va_G) (cy : Nat → ClassId) (h0 : Nat) (h1 : Nat) (h2 : Nat) (z : Int32) (f2 : Nat → Int32) : (Nat → Prop) → Array Value → State → Outcome → State → Prop := QI D cy (fun (r : Int32) (_ : Unit) => r = sumI f2 (min (z.toInt - 1).toNat 9)) (fun _ : Unit => [(h0, .inr (4, [.int z, .ref h1, .ref h2])), (h2, .inl (cy 0, 9, .inl f2))])
set_option maxHeartbeats 4000000 in
set_option maxRecDepth 100000 in
theorem c_X4_allHours (l : Launch) (D : va_G) (cy : Nat → ClassId) (h0 : Nat) (h1 : Nat) (h2 : Nat) (z : Int32) (f2 : Nat → Int32) (sz : Nat) (hz : 2 ≤ z.toInt ∧ z.toInt ≤ 10) : Met l yX4_allHours wsX4_allHours ({ frames := 1, cells := 0, slots := 0, locals := 23 } : Room) (CP D cy [.ref h0] [(h0, .inr (4, [.int z, .ref h1, .ref h2])), (h2, .inl (cy 0, 9, .inl f2))] sz) (Q_c_X4_allHours D cy h0 h1 h2 z f2 (va_A [(h0, .inr (4, [.int z, .ref h1, .ref h2])), (h2, .inl (cy 0, 9, .inl f2))] sz)) 0 0 (va_A [(h0, .inr (4, [.int z, .ref h1, .ref h2])), (h2, .inl (cy 0, 9, .inl f2))] sz) := by
  refine Met.go (Qc := Q_c_X4_allHours D cy h0 h1 h2 z f2) (cc := cX4_allHours) (maxL := 1) (ret := (some .int)) (by decide) rfl (Nat.le_of_ble_eq_true rfl) ?_
  intro p e s m below meth c hx hb hr hts hown hlocks hin hml hK hN A hA hD hP hS ls hl hsz
  have hl : lv_has ls 1 [(0, .ref h0)] := hl
  have in_X4 : ∀ w ∈ wsX40, w ∈ wsX4_allHours := fun _ h => List.mem_cons_of_mem _ ((List.mem_append_right _ h))
  have w_1 := hts (.fieldLink RX4 22 "SleepingCars$Route" "stops" "I") (by decide +kernel)
  have w_2 := hts (.instanceMethod yX4_hoursTo) (by decide +kernel)
  obtain ⟨H, eH⟩ : ∃ H : Heap, H = s.heap := ⟨_, rfl⟩
  obtain ⟨locs, eL⟩ : ∃ L : List Loc, L = [] := ⟨_, rfl⟩
  rw [← eL]
  rw [← eL] at hS
  have hP : va_P D vwCl [(h0, .inr (4, [.int z, .ref h1, .ref h2])), (h2, .inl (cy 0, 9, .inl f2))] H := by rw [eH]; exact hP
  have hS : va_S A s.heap H locs := by rw [eH]; exact hS
  refine W.heapEq eH ?_
  clear eH eL
  refine lv_aload_n hx hb dX4_allHours_0 rfl (lv_at hl 0 rfl) ?_
  refine lv_aload_n hx hb dX4_allHours_1 rfl (lv_at hl 0 rfl) ?_
  refine va_get (D := D) (ci := 4) (v := .int z) (C := RX4) (T := TX4) (N := 3) hx hb hts in_X4 hown hK hP 0 rfl rfl 0 (by decide) w_1 (fun _ h9 => h9) rfl dX4_allHours_2 ?_
  refine lv_iconst (v := 1) hx hb dX4_allHours_5 (by decide) ?_
  refine lv_isub hx hb dX4_allHours_6 ?_
  refine lv_topi (fun x6 ex6 => ?_)
  have tx6 := q_sub (p := z.toInt) (q := 1) ex6 rfl (by decide) (by omega) (by omega)
  refine k_i (va_runV (As := [.int x6]) (rest := []) ⟨hx, hb, hml, hown, hts⟩ (c_X4_hoursTo l D cy h0 h1 h2 z f2 x6 H.size ) (cwV 1 hts gX4_allHours_X4_hoursTo rfl rfl rfl (by decide +kernel) ⟨Nat.le_of_ble_eq_true rfl, Nat.le_of_ble_eq_true rfl⟩) (cp_v hK hN hP hD [0, 1] rfl (by decide) (ci := 4) rfl rfl rfl) rfl rfl hl.1 rfl (lv_room (Nat.le_of_ble_eq_true rfl)) dX4_allHours_7 ⟨Nat.le_of_ble_eq_true rfl, Nat.le_of_ble_eq_true rfl⟩) hP hD hS hA [0, 1] [] (wr := []) rfl rfl (by decide) (by decide) (fun r7 u_r7 H locs hw7 hP hD hS => ?_)
  try dsimp only at hw7
  have hP : va_P D vwCl [(h0, .inr (4, [.int z, .ref h1, .ref h2])), (h2, .inl (cy 0, 9, .inl f2))] H := hP
  have hD : va_D A [(h0, .inr (4, [.int z, .ref h1, .ref h2])), (h2, .inl (cy 0, 9, .inl f2))] := hD
  exact r_i hx hb hr hlocks hK hS dX4_allHours_10 (u := ()) hP hD (by rw [hw7, tx6])

abbrev Q_c_X4_allKm (D : va_G) (cy : Nat → ClassId) (h0 : Nat) (h1 : Nat) (h2 : Nat) (z : Int32) (f1 : Nat → Int32) : (Nat → Prop) → Array Value → State → Outcome → State → Prop := QI D cy (fun (r : Int32) (_ : Unit) => r = sumI f1 (z.toInt - 1).toNat) (fun _ : Unit => [(h0, .inr (4, [.int z, .ref h1, .ref h2])), (h1, .inl (cy 0, 9, .inl f1))])
set_option maxHeartbeats 4000000 in
set_option maxRecDepth 100000 in
theorem c_X4_allKm (l : Launch) (D : va_G) (cy : Nat → ClassId) (h0 : Nat) (h1 : Nat) (h2 : Nat) (z : Int32) (f1 : Nat → Int32) (sz : Nat) (hz : 2 ≤ z.toInt ∧ z.toInt ≤ 10) : Met l yX4_allKm wsX4_allKm ({ frames := 0, cells := 0, slots := 0, locals := 0 } : Room) (CP D cy [.ref h0] [(h0, .inr (4, [.int z, .ref h1, .ref h2])), (h1, .inl (cy 0, 9, .inl f1))] sz) (Q_c_X4_allKm D cy h0 h1 h2 z f1 (va_A [(h0, .inr (4, [.int z, .ref h1, .ref h2])), (h1, .inl (cy 0, 9, .inl f1))] sz)) 0 0 (va_A [(h0, .inr (4, [.int z, .ref h1, .ref h2])), (h1, .inl (cy 0, 9, .inl f1))] sz) := by
  refine Met.go (Qc := Q_c_X4_allKm D cy h0 h1 h2 z f1) (cc := cX4_allKm) (maxL := 3) (ret := (some .int)) (by decide) rfl (Nat.le_of_ble_eq_true rfl) ?_
  intro p e s m below meth c hx hb hr hts hown hlocks hin hml hK hN A hA hD hP hS ls hl hsz
  have hl : lv_has ls 3 [(0, .ref h0)] := hl
  have in_X4 : ∀ w ∈ wsX40, w ∈ wsX4_allKm := fun _ h => List.mem_cons_of_mem _ ((List.mem_append_right _ h))
  have w_1 := hts (.fieldLink RX4 22 "SleepingCars$Route" "stops" "I") (by decide +kernel)
  have w_2 := hts (.fieldLink RX4 9 "SleepingCars$Route" "legKm" "[I") (by decide +kernel)
  obtain ⟨H, eH⟩ : ∃ H : Heap, H = s.heap := ⟨_, rfl⟩
  obtain ⟨locs, eL⟩ : ∃ L : List Loc, L = [] := ⟨_, rfl⟩
  rw [← eL]
  rw [← eL] at hS
  have hP : va_P D vwCl [(h0, .inr (4, [.int z, .ref h1, .ref h2])), (h1, .inl (cy 0, 9, .inl f1))] H := by rw [eH]; exact hP
  have hS : va_S A s.heap H locs := by rw [eH]; exact hS
  refine W.heapEq eH ?_
  clear eH eL
  refine lv_iconst (v := 0) hx hb dX4_allKm_0 (by decide) ?_
  refine lv_istore_n (lv' := [(1, .int 0), (0, .ref h0)]) hx hb dX4_allKm_1 rfl hl (by decide) rfl (fun ls hl => ?_)
  refine lv_iconst (v := 0) hx hb dX4_allKm_2 (by decide) ?_
  refine lv_istore_n (lv' := [(2, .int 0), (1, .int 0), (0, .ref h0)]) hx hb dX4_allKm_3 rfl hl (by decide) rfl (fun ls hl => ?_)
  have lp_4 : ∀ (n_4 : Nat) (i : Int32) (a : Int32), (0 ≤ i.toInt) → (i.toInt ≤ z.toInt - 1) → (a = sumI f1 i.toInt.toNat) → (9 - i.toInt).toNat < n_4 → ∀ (H : Heap) (locs : List Loc), va_P D vwCl [(h0, .inr (4, [.int z, .ref h1, .ref h2])), (h1, .inl (cy 0, 9, .inl f1))] H → va_D A [(h0, .inr (4, [.int z, .ref h1, .ref h2])), (h1, .inl (cy 0, 9, .inl f1))] → va_S A s.heap H locs → ∀ ls : Array Slot, lv_has ls 3 [(2, .int i), (1, .int a), (0, .ref h0)] → W p l e (headSpec wsX4_allKm ({ frames := 0, cells := 0, slots := 0, locals := 0 } : Room)).room s m ([.ref h0] : List Value).toArray below meth c H locs 0 0 (MQ below (Q_c_X4_allKm D cy h0 h1 h2 z f1 A) ([.ref h0] : List Value).toArray s 0 0 A) (F0 m 4 ls []) := by
    intro n_4
    induction n_4 with
    | zero => intro i a hi0 hi1 ha hmu; exact absurd hmu (Nat.not_lt_zero _)
    | succ n_4 ih_4 =>
      intro i a hi0 hi1 ha hmu_4 H locs hP hD hS ls hl
      refine lv_iload_n hx hb dX4_allKm_4 rfl (lv_at hl 0 rfl) ?_
      refine lv_aload_n hx hb dX4_allKm_5 rfl (lv_at hl 2 rfl) ?_
      refine va_get (D := D) (ci := 4) (v := .int z) (C := RX4) (T := TX4) (N := 3) hx hb hts in_X4 hown hK hP 0 rfl rfl 0 (by decide) w_1 (fun _ h9 => h9) rfl dX4_allKm_6 ?_
      refine lv_iconst (v := 1) hx hb dX4_allKm_9 (by decide) ?_
      refine lv_isub hx hb dX4_allKm_10 ?_
      refine lv_topi (fun x10 ex10 => ?_)
      have tx10 := q_sub (p := z.toInt) (q := 1) ex10 rfl (by decide) (by omega) (by omega)
      refine lv_icmp_ge (tgt := 29) hx hb dX4_allKm_11 (by decide) (fun c11 => ?_) (fun c11 => ?_)
      · skip
        have fc11 := q_le (a := x10.toInt) (b := i.toInt) c11 rfl rfl
        refine lv_iload_n hx hb dX4_allKm_29 rfl (lv_at hl 1 rfl) ?_
        exact r_i hx hb hr hlocks hK hS dX4_allKm_30 (u := ()) hP hD (by rw [ha, show i.toInt.toNat = (z.toInt - 1).toNat by omega])
      · skip
        have fc11 := q_nle (a := x10.toInt) (b := i.toInt) c11 rfl rfl
        refine lv_iload_n hx hb dX4_allKm_14 rfl (lv_at hl 1 rfl) ?_
        refine lv_aload_n hx hb dX4_allKm_15 rfl (lv_at hl 2 rfl) ?_
        refine va_get (D := D) (ci := 4) (v := .ref h1) (C := RX4) (T := TX4) (N := 3) hx hb hts in_X4 hown hK hP 0 rfl rfl 1 (by decide) w_2 (fun _ h9 => h9) rfl dX4_allKm_16 ?_
        refine lv_iload_n hx hb dX4_allKm_19 rfl (lv_at hl 0 rfl) ?_
        refine va_iald hx hb hK hP 1 0 rfl rfl (q_in (a := i.toInt) rfl (by omega) (by omega)) dX4_allKm_20 ?_
        refine lv_topi (fun x20 ex20 => ?_)
        have tx20 := congrArg Int32.toInt ex20
        refine lv_iadd hx hb dX4_allKm_21 ?_
        refine lv_topi (fun x21 ex21 => ?_)
        refine lv_istore_n (lv' := [(1, .int x21), (2, .int i), (0, .ref h0)]) hx hb dX4_allKm_22 rfl hl (by decide) rfl (fun ls hl => ?_)
        obtain ⟨x23, ex23⟩ : ∃ y : Int32, y = i + 1 := ⟨_, rfl⟩
        refine lv_iinc (v := x23) (lv' := [(2, .int x23), (1, .int x21), (0, .ref h0)]) hx hb dX4_allKm_23 hl (k := 1) rfl (by rw [ex23]; rfl) (by decide) rfl (fun ls hl => ?_)
        have tx23 := q_add (p := i.toInt) (q := 1) ex23 rfl (by decide) (by omega) (by omega)
        refine lv_goto (tgt := 4) hx hb dX4_allKm_26 (by decide) ?_
        exact ih_4 x23 x21 (by omega) (by omega) (sum_step hi0 tx23 ha ex20 ex21) (by omega) H locs hP hD hS ls (lv_sub hl [0, 1, 2] rfl)
  exact lp_4 (9 + 1) 0 0 (by decide) (by rw [show (0 : Int32).toInt = 0 by decide]; omega) rfl (by first | omega | exact Nat.lt_succ_self _) H locs hP hD hS ls (lv_sub hl [0, 1, 2] rfl)

abbrev Q_c_X4_copyFrom (D : va_G) (cy : Nat → ClassId) (h0 : Nat) (h1 : Nat) (h2 : Nat) (z : Int32) (k0 : Nat) (k1 : Nat) (k2 : Nat) (y : Int32) (f1 : Nat → Int32) (f2 : Nat → Int32) (e1 : Nat → Int32) (e2 : Nat → Int32) : (Nat → Prop) → Array Value → State → Outcome → State → Prop := QV D cy (fun (u : (Nat → Int32) × (Nat → Int32)) => match u with | (g1, g2) => (∀ j : Nat, j < 9 → g1 j = e1 j) ∧ (∀ j : Nat, j < 9 → g2 j = e2 j)) (fun u : (Nat → Int32) × (Nat → Int32) => match u with | (g1, g2) => [(h0, .inr (4, [.int y, .ref h1, .ref h2])), (h1, .inl (cy 0, 9, .inl g1)), (h2, .inl (cy 0, 9, .inl g2)), (k0, .inr (4, [.int y, .ref k1, .ref k2])), (k1, .inl (cy 0, 9, .inl e1)), (k2, .inl (cy 0, 9, .inl e2))])
set_option maxHeartbeats 4000000 in
set_option maxRecDepth 100000 in
theorem c_X4_copyFrom (l : Launch) (D : va_G) (cy : Nat → ClassId) (h0 : Nat) (h1 : Nat) (h2 : Nat) (z : Int32) (k0 : Nat) (k1 : Nat) (k2 : Nat) (y : Int32) (f1 : Nat → Int32) (f2 : Nat → Int32) (e1 : Nat → Int32) (e2 : Nat → Int32) (sz : Nat)  : Met l yX4_copyFrom wsX4_copyFrom ({ frames := 1, cells := 0, slots := 0, locals := 30 } : Room) (CP D cy [.ref h0, .ref k0] [(h0, .inr (4, [.int z, .ref h1, .ref h2])), (h1, .inl (cy 0, 9, .inl f1)), (h2, .inl (cy 0, 9, .inl f2)), (k0, .inr (4, [.int y, .ref k1, .ref k2])), (k1, .inl (cy 0, 9, .inl e1)), (k2, .inl (cy 0, 9, .inl e2))] sz) (Q_c_X4_copyFrom D cy h0 h1 h2 z k0 k1 k2 y f1 f2 e1 e2 (va_A [(h0, .inr (4, [.int z, .ref h1, .ref h2])), (h1, .inl (cy 0, 9, .inl f1)), (h2, .inl (cy 0, 9, .inl f2)), (k0, .inr (4, [.int y, .ref k1, .ref k2])), (k1, .inl (cy 0, 9, .inl e1)), (k2, .inl (cy 0, 9, .inl e2))] sz)) 0 0 (va_A [(h0, .inr (4, [.int z, .ref h1, .ref h2])), (h1, .inl (cy 0, 9, .inl f1)), (h2, .inl (cy 0, 9, .inl f2)), (k0, .inr (4, [.int y, .ref k1, .ref k2])), (k1, .inl (cy 0, 9, .inl e1)), (k2, .inl (cy 0, 9, .inl e2))] sz) := by
  refine Met.go (Qc := Q_c_X4_copyFrom D cy h0 h1 h2 z k0 k1 k2 y f1 f2 e1 e2) (cc := cX4_copyFrom) (maxL := 2) (ret := none) (by decide) rfl (Nat.le_of_ble_eq_true rfl) ?_
  intro p e s m below meth c hx hb hr hts hown hlocks hin hml hK hN A hA hD hP hS ls hl hsz
  have hl : lv_has ls 2 [(0, .ref h0), (1, .ref k0)] := hl
  have in_X4 : ∀ w ∈ wsX40, w ∈ wsX4_copyFrom := fun _ h => List.mem_cons_of_mem _ ((List.mem_append_right _ h))
  have w_1 := hts (.fieldLink RX4 22 "SleepingCars$Route" "stops" "I") (by decide +kernel)
  have w_2 := hts (.fieldLink RX4 9 "SleepingCars$Route" "legKm" "[I") (by decide +kernel)
  have w_3 := hts (.methodLink RX4 36 arraycopyName) (by decide +kernel)
  have w_4 := hts (.native arraycopyName) (by decide +kernel)
  have w_5 := hts (.static arraycopyName) (by decide +kernel)
  have w_6 := hts (.initialized "java/lang/System") (by decide +kernel)
  have w_7 := hts (.fieldLink RX4 15 "SleepingCars$Route" "legHours" "[I") (by decide +kernel)
  obtain ⟨H, eH⟩ : ∃ H : Heap, H = s.heap := ⟨_, rfl⟩
  obtain ⟨locs, eL⟩ : ∃ L : List Loc, L = [] := ⟨_, rfl⟩
  rw [← eL]
  rw [← eL] at hS
  have hP : va_P D vwCl [(h0, .inr (4, [.int z, .ref h1, .ref h2])), (h1, .inl (cy 0, 9, .inl f1)), (h2, .inl (cy 0, 9, .inl f2)), (k0, .inr (4, [.int y, .ref k1, .ref k2])), (k1, .inl (cy 0, 9, .inl e1)), (k2, .inl (cy 0, 9, .inl e2))] H := by rw [eH]; exact hP
  have hS : va_S A s.heap H locs := by rw [eH]; exact hS
  refine W.heapEq eH ?_
  clear eH eL
  refine lv_aload_n hx hb dX4_copyFrom_0 rfl (lv_at hl 0 rfl) ?_
  refine lv_aload_n hx hb dX4_copyFrom_1 rfl (lv_at hl 1 rfl) ?_
  refine va_get (D := D) (ci := 4) (v := .int y) (C := RX4) (T := TX4) (N := 3) hx hb hts in_X4 hown hK hP 3 rfl rfl 0 (by decide) w_1 (fun _ h9 => h9) rfl dX4_copyFrom_2 ?_
  refine va_put (D := D) (ci := 4) (v := .int y) (ty := .int) (C := RX4) (T := TX4) (N := 3) hx hb hts in_X4 tyX4 tyX4_ok nmX4 hown hK hP hD hS 0 rfl rfl 0 (by decide) w_1 (fun _ h9 => h9) rfl (by decide +kernel) rfl rfl (Nat.le_of_ble_eq_true rfl) dX4_copyFrom_5 (fun H locs hP hD hS => ?_)
  have hP : va_P D vwCl [(h0, .inr (4, [.int y, .ref h1, .ref h2])), (h1, .inl (cy 0, 9, .inl f1)), (h2, .inl (cy 0, 9, .inl f2)), (k0, .inr (4, [.int y, .ref k1, .ref k2])), (k1, .inl (cy 0, 9, .inl e1)), (k2, .inl (cy 0, 9, .inl e2))] H := hP
  have hD : va_D A [(h0, .inr (4, [.int y, .ref h1, .ref h2])), (h1, .inl (cy 0, 9, .inl f1)), (h2, .inl (cy 0, 9, .inl f2)), (k0, .inr (4, [.int y, .ref k1, .ref k2])), (k1, .inl (cy 0, 9, .inl e1)), (k2, .inl (cy 0, 9, .inl e2))] := hD
  refine lv_aload_n hx hb dX4_copyFrom_8 rfl (lv_at hl 1 rfl) ?_
  refine va_get (D := D) (ci := 4) (v := .ref k1) (C := RX4) (T := TX4) (N := 3) hx hb hts in_X4 hown hK hP 3 rfl rfl 1 (by decide) w_2 (fun _ h9 => h9) rfl dX4_copyFrom_9 ?_
  refine lv_iconst (v := 0) hx hb dX4_copyFrom_12 (by decide) ?_
  refine lv_aload_n hx hb dX4_copyFrom_13 rfl (lv_at hl 0 rfl) ?_
  refine va_get (D := D) (ci := 4) (v := .ref h1) (C := RX4) (T := TX4) (N := 3) hx hb hts in_X4 hown hK hP 0 rfl rfl 1 (by decide) w_2 (fun _ h9 => h9) rfl dX4_copyFrom_14 ?_
  refine lv_iconst (v := 0) hx hb dX4_copyFrom_17 (by decide) ?_
  refine lv_aload_n hx hb dX4_copyFrom_18 rfl (lv_at hl 0 rfl) ?_
  refine va_get (D := D) (ci := 4) (v := .ref h1) (C := RX4) (T := TX4) (N := 3) hx hb hts in_X4 hown hK hP 0 rfl rfl 1 (by decide) w_2 (fun _ h9 => h9) rfl dX4_copyFrom_19 ?_
  refine va_alen hx hb hK hP 1 0 rfl rfl (v := 9) rfl dX4_copyFrom_22 ?_
  refine va_copyi hx hb (hml.trans hl.1.symm) hown w_3 w_4 w_5 w_6 hK hP hD hS 4 1 0 0 rfl rfl rfl rfl rfl (by decide) (by decide) (by decide) (by decide) (by decide) (fun _ _ => rfl) (Nat.le_of_ble_eq_true rfl) (Nat.le_of_ble_eq_true rfl) dX4_copyFrom_23 (fun H locs hP hD hS => ?_)
  obtain ⟨g23, eg23⟩ : ∃ f : Nat → Int32, f = va_cpy e1 f1 (0 : Int32).toNatClampNeg (0 : Int32).toNatClampNeg (9 : Int32).toNatClampNeg := ⟨_, rfl⟩
  rw [← eg23] at hP hD
  have hP : va_P D vwCl [(h0, .inr (4, [.int y, .ref h1, .ref h2])), (h1, .inl (cy 0, 9, .inl g23)), (h2, .inl (cy 0, 9, .inl f2)), (k0, .inr (4, [.int y, .ref k1, .ref k2])), (k1, .inl (cy 0, 9, .inl e1)), (k2, .inl (cy 0, 9, .inl e2))] H := hP
  have hD : va_D A [(h0, .inr (4, [.int y, .ref h1, .ref h2])), (h1, .inl (cy 0, 9, .inl g23)), (h2, .inl (cy 0, 9, .inl f2)), (k0, .inr (4, [.int y, .ref k1, .ref k2])), (k1, .inl (cy 0, 9, .inl e1)), (k2, .inl (cy 0, 9, .inl e2))] := hD
  refine lv_aload_n hx hb dX4_copyFrom_26 rfl (lv_at hl 1 rfl) ?_
  refine va_get (D := D) (ci := 4) (v := .ref k2) (C := RX4) (T := TX4) (N := 3) hx hb hts in_X4 hown hK hP 3 rfl rfl 2 (by decide) w_7 (fun _ h9 => h9) rfl dX4_copyFrom_27 ?_
  refine lv_iconst (v := 0) hx hb dX4_copyFrom_30 (by decide) ?_
  refine lv_aload_n hx hb dX4_copyFrom_31 rfl (lv_at hl 0 rfl) ?_
  refine va_get (D := D) (ci := 4) (v := .ref h2) (C := RX4) (T := TX4) (N := 3) hx hb hts in_X4 hown hK hP 0 rfl rfl 2 (by decide) w_7 (fun _ h9 => h9) rfl dX4_copyFrom_32 ?_
  refine lv_iconst (v := 0) hx hb dX4_copyFrom_35 (by decide) ?_
  refine lv_aload_n hx hb dX4_copyFrom_36 rfl (lv_at hl 0 rfl) ?_
  refine va_get (D := D) (ci := 4) (v := .ref h2) (C := RX4) (T := TX4) (N := 3) hx hb hts in_X4 hown hK hP 0 rfl rfl 2 (by decide) w_7 (fun _ h9 => h9) rfl dX4_copyFrom_37 ?_
  refine va_alen hx hb hK hP 2 0 rfl rfl (v := 9) rfl dX4_copyFrom_40 ?_
  refine va_copyi hx hb (hml.trans hl.1.symm) hown w_3 w_4 w_5 w_6 hK hP hD hS 5 2 0 0 rfl rfl rfl rfl rfl (by decide) (by decide) (by decide) (by decide) (by decide) (fun _ _ => rfl) (Nat.le_of_ble_eq_true rfl) (Nat.le_of_ble_eq_true rfl) dX4_copyFrom_41 (fun H locs hP hD hS => ?_)
  obtain ⟨g41, eg41⟩ : ∃ f : Nat → Int32, f = va_cpy e2 f2 (0 : Int32).toNatClampNeg (0 : Int32).toNatClampNeg (9 : Int32).toNatClampNeg := ⟨_, rfl⟩
  rw [← eg41] at hP hD
  have hP : va_P D vwCl [(h0, .inr (4, [.int y, .ref h1, .ref h2])), (h1, .inl (cy 0, 9, .inl g23)), (h2, .inl (cy 0, 9, .inl g41)), (k0, .inr (4, [.int y, .ref k1, .ref k2])), (k1, .inl (cy 0, 9, .inl e1)), (k2, .inl (cy 0, 9, .inl e2))] H := hP
  have hD : va_D A [(h0, .inr (4, [.int y, .ref h1, .ref h2])), (h1, .inl (cy 0, 9, .inl g23)), (h2, .inl (cy 0, 9, .inl g41)), (k0, .inr (4, [.int y, .ref k1, .ref k2])), (k1, .inl (cy 0, 9, .inl e1)), (k2, .inl (cy 0, 9, .inl e2))] := hD
  exact r_v hx hb hr hlocks hK hS dX4_copyFrom_44 (u := (g23, g41)) hP hD (⟨cpy_at eg23, cpy_at eg41⟩)
