abbrev Q_c_X4_lay (D : va_G) (cy : Nat → ClassId) (E : EN) (r0 : Nat) (r1 : Nat) (r2 : Nat) (zs : Int32) (fkm : Nat → Int32) (fhr : Nat → Int32) (n : Int32) : (Nat → Prop) → Array Value → State → Outcome → State → Prop := QV D cy (fun (u : (Nat → Int32) × (Nat → Int32)) => match u with | (g1, g2) => ((∀ j : Nat, j < 9 → g1 j = 1) ∧ (∀ j : Nat, j < 9 → g2 j = 1)) ∧ AllI g2 9 0 24) (fun u : (Nat → Int32) × (Nat → Int32) => match u with | (g1, g2) => [(r0, .inr (4, [.int n, .ref r1, .ref r2])), (r1, .inl (cy 0, 9, .inl g1)), (r2, .inl (cy 0, 9, .inl g2))])
set_option maxHeartbeats 4000000 in
set_option maxRecDepth 100000 in
theorem c_X4_lay (l : Launch) (D : va_G) (cy : Nat → ClassId) (E : EN) (r0 : Nat) (r1 : Nat) (r2 : Nat) (zs : Int32) (fkm : Nat → Int32) (fhr : Nat → Int32) (n : Int32) (sz : Nat) (hv_fhr : AllI fhr 9 0 24) : Met l yX4_lay wsX4_lay ({ frames := 1, cells := 0, slots := 0, locals := 23 } : Room) (CP D cy E [.ref r0, .int n] [(r0, .inr (4, [.int zs, .ref r1, .ref r2])), (r1, .inl (cy 0, 9, .inl fkm)), (r2, .inl (cy 0, 9, .inl fhr))] sz) (Q_c_X4_lay D cy E r0 r1 r2 zs fkm fhr n (va_A [(r0, .inr (4, [.int zs, .ref r1, .ref r2])), (r1, .inl (cy 0, 9, .inl fkm)), (r2, .inl (cy 0, 9, .inl fhr))] sz)) 0 0 (va_A [(r0, .inr (4, [.int zs, .ref r1, .ref r2])), (r1, .inl (cy 0, 9, .inl fkm)), (r2, .inl (cy 0, 9, .inl fhr))] sz) := by
  refine Met.go (Qc := Q_c_X4_lay D cy E r0 r1 r2 zs fkm fhr n) (cc := cX4_lay) (maxL := 2) (ret := none) (by decide) rfl (Nat.le_of_ble_eq_true rfl) ?_
  intro p e s m below meth c hx hb hr hts hown hlocks hin hml hK hN A hA hAB hD hP hS ls hl hsz
  have hl : lv_has ls 2 [(0, .ref r0), (1, .int n)] := hl
  have in_X4 : ∀ w ∈ wsX40, w ∈ wsX4_lay := fun _ h => List.mem_cons_of_mem _ ((List.mem_append_right _ h))
  have w_1 := hts (.fieldLink RX4 22 "SleepingCars$Route" "stops" "I") (by decide +kernel)
  have w_2 := hts (.fieldLink RX4 9 "SleepingCars$Route" "legKm" "[I") (by decide +kernel)
  have w_3 := hts (.fieldLink RX4 15 "SleepingCars$Route" "legHours" "[I") (by decide +kernel)
  obtain ⟨H, eH⟩ : ∃ H : Heap, H = s.heap := ⟨_, rfl⟩
  obtain ⟨locs, eL⟩ : ∃ L : List Loc, L = [] := ⟨_, rfl⟩
  rw [← eL]
  rw [← eL] at hS
  have hP : va_P D vwCl [(r0, .inr (4, [.int zs, .ref r1, .ref r2])), (r1, .inl (cy 0, 9, .inl fkm)), (r2, .inl (cy 0, 9, .inl fhr))] H := by rw [eH]; exact hP
  have hS : va_S A s.heap H locs := by rw [eH]; exact hS
  refine W.heapEq eH ?_
  clear eH eL
  refine lv_aload_n hx hb dX4_lay_0 rfl (lv_at hl 0 rfl) ?_
  refine lv_iload_n hx hb dX4_lay_1 rfl (lv_at hl 1 rfl) ?_
  refine va_put (D := D) (ci := 4) (v := .int n) (ty := .int) (C := RX4) (T := TX4) (N := 3) hx hb hts in_X4 tyX4 tyX4_ok nmX4 hown hK hP hD hS 0 rfl rfl 0 (by decide) w_1 (fun _ h9 => h9) rfl (by decide +kernel) rfl rfl (Nat.le_of_ble_eq_true rfl) dX4_lay_2 (fun H locs hP hD hS => ?_)
  have hP : va_P D vwCl [(r0, .inr (4, [.int n, .ref r1, .ref r2])), (r1, .inl (cy 0, 9, .inl fkm)), (r2, .inl (cy 0, 9, .inl fhr))] H := hP
  have hD : va_D A [(r0, .inr (4, [.int n, .ref r1, .ref r2])), (r1, .inl (cy 0, 9, .inl fkm)), (r2, .inl (cy 0, 9, .inl fhr))] := hD
  refine lv_aload_n hx hb dX4_lay_5 rfl (lv_at hl 0 rfl) ?_
  refine va_get (D := D) (ci := 4) (v := .ref r1) (C := RX4) (T := TX4) (N := 3) hx hb hts in_X4 hown hK hP 0 rfl rfl 1 (by decide) w_2 (fun _ h9 => h9) rfl dX4_lay_6 ?_
  refine lv_iconst (v := 1) hx hb dX4_lay_9 (by decide) ?_
  refine k_v (va_runS (As := [.ref r1, .int 1]) (rest := []) ⟨hx, hb, hml, hown, hts⟩ (c_fill_9 l D cy E r1 fkm 1 H.size ) (va_cwS 2 hts gX4_lay_J7_fill_53178 rfl rfl rfl (by decide +kernel) ⟨Nat.le_of_ble_eq_true rfl, Nat.le_of_ble_eq_true rfl⟩) (cp_s hK hN hS hAB hP hD [1] rfl (by decide)) rfl rfl hl.1 rfl (lv_room (Nat.le_of_ble_eq_true rfl)) dX4_lay_10 ⟨Nat.le_of_ble_eq_true rfl, Nat.le_of_ble_eq_true rfl⟩) hP hD hS hA [1] [0, 2] (wr := [(r0, .inr (4, [.int n, .ref r1, .ref r2])), (r2, .inl (cy 0, 9, .inl fhr))]) rfl rfl (by decide) (by decide) (fun u_rr10 H locs hw10 hP hD hS => ?_)
  try dsimp only at hw10
  have hP : va_P D vwCl [(r0, .inr (4, [.int n, .ref r1, .ref r2])), (r2, .inl (cy 0, 9, .inl fhr)), (r1, .inl (cy 0, 9, .inl u_rr10))] H := hP
  have hD : va_D A [(r0, .inr (4, [.int n, .ref r1, .ref r2])), (r2, .inl (cy 0, 9, .inl fhr)), (r1, .inl (cy 0, 9, .inl u_rr10))] := hD
  refine lv_aload_n hx hb dX4_lay_13 rfl (lv_at hl 0 rfl) ?_
  refine va_get (D := D) (ci := 4) (v := .ref r2) (C := RX4) (T := TX4) (N := 3) hx hb hts in_X4 hown hK hP 0 rfl rfl 2 (by decide) w_3 (fun _ h9 => h9) rfl dX4_lay_14 ?_
  refine lv_iconst (v := 1) hx hb dX4_lay_17 (by decide) ?_
  refine k_v (va_runS (As := [.ref r2, .int 1]) (rest := []) ⟨hx, hb, hml, hown, hts⟩ (c_fill_9 l D cy E r2 fhr 1 H.size ) (va_cwS 2 hts gX4_lay_J7_fill_53178 rfl rfl rfl (by decide +kernel) ⟨Nat.le_of_ble_eq_true rfl, Nat.le_of_ble_eq_true rfl⟩) (cp_s hK hN hS hAB hP hD [1] rfl (by decide)) rfl rfl hl.1 rfl (lv_room (Nat.le_of_ble_eq_true rfl)) dX4_lay_18 ⟨Nat.le_of_ble_eq_true rfl, Nat.le_of_ble_eq_true rfl⟩) hP hD hS hA [1] [0, 2] (wr := [(r0, .inr (4, [.int n, .ref r1, .ref r2])), (r1, .inl (cy 0, 9, .inl u_rr10))]) rfl rfl (by decide) (by decide) (fun u_rr18 H locs hw18 hP hD hS => ?_)
  try dsimp only at hw18
  have hP : va_P D vwCl [(r0, .inr (4, [.int n, .ref r1, .ref r2])), (r1, .inl (cy 0, 9, .inl u_rr10)), (r2, .inl (cy 0, 9, .inl u_rr18))] H := hP
  have hD : va_D A [(r0, .inr (4, [.int n, .ref r1, .ref r2])), (r1, .inl (cy 0, 9, .inl u_rr10)), (r2, .inl (cy 0, 9, .inl u_rr18))] := hD
  exact r_v hx hb hr hlocks hK hS dX4_lay_21 (u := (u_rr10, u_rr18)) hP hD (⟨⟨hw10, hw18⟩, (allI_eq hw18 (by decide) (by decide))⟩)

abbrev Q_c_X4_hasLeg (D : va_G) (cy : Nat → ClassId) (E : EN) (r0 : Nat) (r1 : Nat) (r2 : Nat) (zs : Int32) (stop : Int32) : (Nat → Prop) → Array Value → State → Outcome → State → Prop := QI D cy (fun (r : Int32) (_ : Unit) => (r.toInt = 1 ∧ (0 ≤ stop.toInt ∧ stop.toInt < zs.toInt - 1)) ∨ (r.toInt = 0 ∧ ¬ (0 ≤ stop.toInt ∧ stop.toInt < zs.toInt - 1))) (fun _ : Unit => [(r0, .inr (4, [.int zs, .ref r1, .ref r2]))])
set_option maxHeartbeats 4000000 in
set_option maxRecDepth 100000 in
theorem c_X4_hasLeg (l : Launch) (D : va_G) (cy : Nat → ClassId) (E : EN) (r0 : Nat) (r1 : Nat) (r2 : Nat) (zs : Int32) (stop : Int32) (sz : Nat) (hzs : 2 ≤ zs.toInt ∧ zs.toInt ≤ 10) : Met l yX4_hasLeg wsX4_hasLeg ({ frames := 0, cells := 0, slots := 0, locals := 0 } : Room) (CP D cy E [.ref r0, .int stop] [(r0, .inr (4, [.int zs, .ref r1, .ref r2]))] sz) (Q_c_X4_hasLeg D cy E r0 r1 r2 zs stop (va_A [(r0, .inr (4, [.int zs, .ref r1, .ref r2]))] sz)) 0 0 (va_A [(r0, .inr (4, [.int zs, .ref r1, .ref r2]))] sz) := by
  refine Met.go (Qc := Q_c_X4_hasLeg D cy E r0 r1 r2 zs stop) (cc := cX4_hasLeg) (maxL := 2) (ret := (some .boolean)) (by decide) rfl (Nat.le_of_ble_eq_true rfl) ?_
  intro p e s m below meth c hx hb hr hts hown hlocks hin hml hK hN A hA hAB hD hP hS ls hl hsz
  have hl : lv_has ls 2 [(0, .ref r0), (1, .int stop)] := hl
  have in_X4 : ∀ w ∈ wsX40, w ∈ wsX4_hasLeg := fun _ h => List.mem_cons_of_mem _ ((List.mem_append_right _ h))
  have w_1 := hts (.fieldLink RX4 22 "SleepingCars$Route" "stops" "I") (by decide +kernel)
  obtain ⟨H, eH⟩ : ∃ H : Heap, H = s.heap := ⟨_, rfl⟩
  obtain ⟨locs, eL⟩ : ∃ L : List Loc, L = [] := ⟨_, rfl⟩
  rw [← eL]
  rw [← eL] at hS
  have hP : va_P D vwCl [(r0, .inr (4, [.int zs, .ref r1, .ref r2]))] H := by rw [eH]; exact hP
  have hS : va_S A s.heap H locs := by rw [eH]; exact hS
  refine W.heapEq eH ?_
  clear eH eL
  refine lv_iload_n hx hb dX4_hasLeg_0 rfl (lv_at hl 1 rfl) ?_
  refine lv_if_lt (tgt := 18) hx hb dX4_hasLeg_1 (by decide) (fun c1 => ?_) (fun c1 => ?_)
  · skip
    have fc1 := q_lt (a := stop.toInt) (b := 0) c1 rfl (by decide)
    refine lv_iconst (v := 0) hx hb dX4_hasLeg_18 (by decide) ?_
    exact r_z hx hb hr hlocks hK hS dX4_hasLeg_19 (by decide) (u := ()) hP hD (by first | exact Or.inl ⟨by decide, by omega⟩ | exact Or.inr ⟨by decide, by omega⟩)
  · skip
    have fc1 := q_nlt (a := stop.toInt) (b := 0) c1 rfl (by decide)
    refine lv_iload_n hx hb dX4_hasLeg_4 rfl (lv_at hl 1 rfl) ?_
    refine lv_aload_n hx hb dX4_hasLeg_5 rfl (lv_at hl 0 rfl) ?_
    refine va_get (D := D) (ci := 4) (v := .int zs) (C := RX4) (T := TX4) (N := 3) hx hb hts in_X4 hown hK hP 0 rfl rfl 0 (by decide) w_1 (fun _ h9 => h9) rfl dX4_hasLeg_6 ?_
    refine lv_iconst (v := 1) hx hb dX4_hasLeg_9 (by decide) ?_
    refine lv_isub hx hb dX4_hasLeg_10 ?_
    refine lv_topi (fun x10 ex10 => ?_)
    have tx10 := q_sub (p := zs.toInt) (q := 1) ex10 rfl (by decide) (by omega) (by omega)
    refine lv_icmp_ge (tgt := 18) hx hb dX4_hasLeg_11 (by decide) (fun c11 => ?_) (fun c11 => ?_)
    · skip
      have fc11 := q_le (a := x10.toInt) (b := stop.toInt) c11 rfl rfl
      refine lv_iconst (v := 0) hx hb dX4_hasLeg_18 (by decide) ?_
      exact r_z hx hb hr hlocks hK hS dX4_hasLeg_19 (by decide) (u := ()) hP hD (by first | exact Or.inl ⟨by decide, by omega⟩ | exact Or.inr ⟨by decide, by omega⟩)
    · skip
      have fc11 := q_nle (a := x10.toInt) (b := stop.toInt) c11 rfl rfl
      refine lv_iconst (v := 1) hx hb dX4_hasLeg_14 (by decide) ?_
      refine lv_goto (tgt := 19) hx hb dX4_hasLeg_15 (by decide) ?_
      exact r_z hx hb hr hlocks hK hS dX4_hasLeg_19 (by decide) (u := ()) hP hD (by first | exact Or.inl ⟨by decide, by omega⟩ | exact Or.inr ⟨by decide, by omega⟩)

abbrev Q_c_X4_isStop (D : va_G) (cy : Nat → ClassId) (E : EN) (r0 : Nat) (r1 : Nat) (r2 : Nat) (zs : Int32) (stop : Int32) : (Nat → Prop) → Array Value → State → Outcome → State → Prop := QI D cy (fun (r : Int32) (_ : Unit) => (r.toInt = 1 ∧ (0 ≤ stop.toInt ∧ stop.toInt < zs.toInt)) ∨ (r.toInt = 0 ∧ ¬ (0 ≤ stop.toInt ∧ stop.toInt < zs.toInt))) (fun _ : Unit => [(r0, .inr (4, [.int zs, .ref r1, .ref r2]))])
set_option maxHeartbeats 4000000 in
set_option maxRecDepth 100000 in
theorem c_X4_isStop (l : Launch) (D : va_G) (cy : Nat → ClassId) (E : EN) (r0 : Nat) (r1 : Nat) (r2 : Nat) (zs : Int32) (stop : Int32) (sz : Nat)  : Met l yX4_isStop wsX4_isStop ({ frames := 0, cells := 0, slots := 0, locals := 0 } : Room) (CP D cy E [.ref r0, .int stop] [(r0, .inr (4, [.int zs, .ref r1, .ref r2]))] sz) (Q_c_X4_isStop D cy E r0 r1 r2 zs stop (va_A [(r0, .inr (4, [.int zs, .ref r1, .ref r2]))] sz)) 0 0 (va_A [(r0, .inr (4, [.int zs, .ref r1, .ref r2]))] sz) := by
  refine Met.go (Qc := Q_c_X4_isStop D cy E r0 r1 r2 zs stop) (cc := cX4_isStop) (maxL := 2) (ret := (some .boolean)) (by decide) rfl (Nat.le_of_ble_eq_true rfl) ?_
  intro p e s m below meth c hx hb hr hts hown hlocks hin hml hK hN A hA hAB hD hP hS ls hl hsz
  have hl : lv_has ls 2 [(0, .ref r0), (1, .int stop)] := hl
  have in_X4 : ∀ w ∈ wsX40, w ∈ wsX4_isStop := fun _ h => List.mem_cons_of_mem _ ((List.mem_append_right _ h))
  have w_1 := hts (.fieldLink RX4 22 "SleepingCars$Route" "stops" "I") (by decide +kernel)
  obtain ⟨H, eH⟩ : ∃ H : Heap, H = s.heap := ⟨_, rfl⟩
  obtain ⟨locs, eL⟩ : ∃ L : List Loc, L = [] := ⟨_, rfl⟩
  rw [← eL]
  rw [← eL] at hS
  have hP : va_P D vwCl [(r0, .inr (4, [.int zs, .ref r1, .ref r2]))] H := by rw [eH]; exact hP
  have hS : va_S A s.heap H locs := by rw [eH]; exact hS
  refine W.heapEq eH ?_
  clear eH eL
  refine lv_iload_n hx hb dX4_isStop_0 rfl (lv_at hl 1 rfl) ?_
  refine lv_if_lt (tgt := 16) hx hb dX4_isStop_1 (by decide) (fun c1 => ?_) (fun c1 => ?_)
  · skip
    have fc1 := q_lt (a := stop.toInt) (b := 0) c1 rfl (by decide)
    refine lv_iconst (v := 0) hx hb dX4_isStop_16 (by decide) ?_
    exact r_z hx hb hr hlocks hK hS dX4_isStop_17 (by decide) (u := ()) hP hD (by first | exact Or.inl ⟨by decide, by omega⟩ | exact Or.inr ⟨by decide, by omega⟩)
  · skip
    have fc1 := q_nlt (a := stop.toInt) (b := 0) c1 rfl (by decide)
    refine lv_iload_n hx hb dX4_isStop_4 rfl (lv_at hl 1 rfl) ?_
    refine lv_aload_n hx hb dX4_isStop_5 rfl (lv_at hl 0 rfl) ?_
    refine va_get (D := D) (ci := 4) (v := .int zs) (C := RX4) (T := TX4) (N := 3) hx hb hts in_X4 hown hK hP 0 rfl rfl 0 (by decide) w_1 (fun _ h9 => h9) rfl dX4_isStop_6 ?_
    refine lv_icmp_ge (tgt := 16) hx hb dX4_isStop_9 (by decide) (fun c9 => ?_) (fun c9 => ?_)
    · skip
      have fc9 := q_le (a := zs.toInt) (b := stop.toInt) c9 rfl rfl
      refine lv_iconst (v := 0) hx hb dX4_isStop_16 (by decide) ?_
      exact r_z hx hb hr hlocks hK hS dX4_isStop_17 (by decide) (u := ()) hP hD (by first | exact Or.inl ⟨by decide, by omega⟩ | exact Or.inr ⟨by decide, by omega⟩)
    · skip
      have fc9 := q_nle (a := zs.toInt) (b := stop.toInt) c9 rfl rfl
      refine lv_iconst (v := 1) hx hb dX4_isStop_12 (by decide) ?_
      refine lv_goto (tgt := 17) hx hb dX4_isStop_13 (by decide) ?_
      exact r_z hx hb hr hlocks hK hS dX4_isStop_17 (by decide) (u := ()) hP hD (by first | exact Or.inl ⟨by decide, by omega⟩ | exact Or.inr ⟨by decide, by omega⟩)

abbrev Q_c_X4_isStretch (D : va_G) (cy : Nat → ClassId) (E : EN) (r0 : Nat) (r1 : Nat) (r2 : Nat) (zs : Int32) (a : Int32) (b : Int32) : (Nat → Prop) → Array Value → State → Outcome → State → Prop := QI D cy (fun (r : Int32) (_ : Unit) => (r.toInt = 1 ∧ (0 ≤ a.toInt ∧ a.toInt < b.toInt ∧ b.toInt < zs.toInt)) ∨ (r.toInt = 0 ∧ ¬ (0 ≤ a.toInt ∧ a.toInt < b.toInt ∧ b.toInt < zs.toInt))) (fun _ : Unit => [(r0, .inr (4, [.int zs, .ref r1, .ref r2]))])
set_option maxHeartbeats 4000000 in
set_option maxRecDepth 100000 in
theorem c_X4_isStretch (l : Launch) (D : va_G) (cy : Nat → ClassId) (E : EN) (r0 : Nat) (r1 : Nat) (r2 : Nat) (zs : Int32) (a : Int32) (b : Int32) (sz : Nat)  : Met l yX4_isStretch wsX4_isStretch ({ frames := 0, cells := 0, slots := 0, locals := 0 } : Room) (CP D cy E [.ref r0, .int a, .int b] [(r0, .inr (4, [.int zs, .ref r1, .ref r2]))] sz) (Q_c_X4_isStretch D cy E r0 r1 r2 zs a b (va_A [(r0, .inr (4, [.int zs, .ref r1, .ref r2]))] sz)) 0 0 (va_A [(r0, .inr (4, [.int zs, .ref r1, .ref r2]))] sz) := by
  refine Met.go (Qc := Q_c_X4_isStretch D cy E r0 r1 r2 zs a b) (cc := cX4_isStretch) (maxL := 3) (ret := (some .boolean)) (by decide) rfl (Nat.le_of_ble_eq_true rfl) ?_
  intro p e s m below meth c hx hb hr hts hown hlocks hin hml hK hN A hA hAB hD hP hS ls hl hsz
  have hl : lv_has ls 3 [(0, .ref r0), (1, .int a), (2, .int b)] := hl
  have in_X4 : ∀ w ∈ wsX40, w ∈ wsX4_isStretch := fun _ h => List.mem_cons_of_mem _ ((List.mem_append_right _ h))
  have w_1 := hts (.fieldLink RX4 22 "SleepingCars$Route" "stops" "I") (by decide +kernel)
  obtain ⟨H, eH⟩ : ∃ H : Heap, H = s.heap := ⟨_, rfl⟩
  obtain ⟨locs, eL⟩ : ∃ L : List Loc, L = [] := ⟨_, rfl⟩
  rw [← eL]
  rw [← eL] at hS
  have hP : va_P D vwCl [(r0, .inr (4, [.int zs, .ref r1, .ref r2]))] H := by rw [eH]; exact hP
  have hS : va_S A s.heap H locs := by rw [eH]; exact hS
  refine W.heapEq eH ?_
  clear eH eL
  refine lv_iload_n hx hb dX4_isStretch_0 rfl (lv_at hl 1 rfl) ?_
  refine lv_if_lt (tgt := 21) hx hb dX4_isStretch_1 (by decide) (fun c1 => ?_) (fun c1 => ?_)
  · skip
    have fc1 := q_lt (a := a.toInt) (b := 0) c1 rfl (by decide)
    refine lv_iconst (v := 0) hx hb dX4_isStretch_21 (by decide) ?_
    exact r_z hx hb hr hlocks hK hS dX4_isStretch_22 (by decide) (u := ()) hP hD (by first | exact Or.inl ⟨by decide, by omega⟩ | exact Or.inr ⟨by decide, by omega⟩)
  · skip
    have fc1 := q_nlt (a := a.toInt) (b := 0) c1 rfl (by decide)
    refine lv_iload_n hx hb dX4_isStretch_4 rfl (lv_at hl 1 rfl) ?_
    refine lv_iload_n hx hb dX4_isStretch_5 rfl (lv_at hl 2 rfl) ?_
    refine lv_icmp_ge (tgt := 21) hx hb dX4_isStretch_6 (by decide) (fun c6 => ?_) (fun c6 => ?_)
    · skip
      have fc6 := q_le (a := b.toInt) (b := a.toInt) c6 rfl rfl
      refine lv_iconst (v := 0) hx hb dX4_isStretch_21 (by decide) ?_
      exact r_z hx hb hr hlocks hK hS dX4_isStretch_22 (by decide) (u := ()) hP hD (by first | exact Or.inl ⟨by decide, by omega⟩ | exact Or.inr ⟨by decide, by omega⟩)
    · skip
      have fc6 := q_nle (a := b.toInt) (b := a.toInt) c6 rfl rfl
      refine lv_iload_n hx hb dX4_isStretch_9 rfl (lv_at hl 2 rfl) ?_
      refine lv_aload_n hx hb dX4_isStretch_10 rfl (lv_at hl 0 rfl) ?_
      refine va_get (D := D) (ci := 4) (v := .int zs) (C := RX4) (T := TX4) (N := 3) hx hb hts in_X4 hown hK hP 0 rfl rfl 0 (by decide) w_1 (fun _ h9 => h9) rfl dX4_isStretch_11 ?_
      refine lv_icmp_ge (tgt := 21) hx hb dX4_isStretch_14 (by decide) (fun c14 => ?_) (fun c14 => ?_)
      · skip
        have fc14 := q_le (a := zs.toInt) (b := b.toInt) c14 rfl rfl
        refine lv_iconst (v := 0) hx hb dX4_isStretch_21 (by decide) ?_
        exact r_z hx hb hr hlocks hK hS dX4_isStretch_22 (by decide) (u := ()) hP hD (by first | exact Or.inl ⟨by decide, by omega⟩ | exact Or.inr ⟨by decide, by omega⟩)
      · skip
        have fc14 := q_nle (a := zs.toInt) (b := b.toInt) c14 rfl rfl
        refine lv_iconst (v := 1) hx hb dX4_isStretch_17 (by decide) ?_
        refine lv_goto (tgt := 22) hx hb dX4_isStretch_18 (by decide) ?_
        exact r_z hx hb hr hlocks hK hS dX4_isStretch_22 (by decide) (u := ()) hP hD (by first | exact Or.inl ⟨by decide, by omega⟩ | exact Or.inr ⟨by decide, by omega⟩)

abbrev Q_c_X4_hoursTo (D : va_G) (cy : Nat → ClassId) (E : EN) (r0 : Nat) (r1 : Nat) (r2 : Nat) (zs : Int32) (fhr : Nat → Int32) (stop : Int32) : (Nat → Prop) → Array Value → State → Outcome → State → Prop := QI D cy (fun (r : Int32) (_ : Unit) => r = sumI fhr (min stop.toInt.toNat 9)) (fun _ : Unit => [(r0, .inr (4, [.int zs, .ref r1, .ref r2])), (r2, .inl (cy 0, 9, .inl fhr))])
set_option maxHeartbeats 4000000 in
set_option maxRecDepth 100000 in
theorem c_X4_hoursTo (l : Launch) (D : va_G) (cy : Nat → ClassId) (E : EN) (r0 : Nat) (r1 : Nat) (r2 : Nat) (zs : Int32) (fhr : Nat → Int32) (stop : Int32) (sz : Nat) (hv_fhr : AllI fhr 9 0 24) : Met l yX4_hoursTo wsX4_hoursTo ({ frames := 0, cells := 0, slots := 0, locals := 0 } : Room) (CP D cy E [.ref r0, .int stop] [(r0, .inr (4, [.int zs, .ref r1, .ref r2])), (r2, .inl (cy 0, 9, .inl fhr))] sz) (Q_c_X4_hoursTo D cy E r0 r1 r2 zs fhr stop (va_A [(r0, .inr (4, [.int zs, .ref r1, .ref r2])), (r2, .inl (cy 0, 9, .inl fhr))] sz)) 0 0 (va_A [(r0, .inr (4, [.int zs, .ref r1, .ref r2])), (r2, .inl (cy 0, 9, .inl fhr))] sz) := by
  refine Met.go (Qc := Q_c_X4_hoursTo D cy E r0 r1 r2 zs fhr stop) (cc := cX4_hoursTo) (maxL := 4) (ret := (some .int)) (by decide) rfl (Nat.le_of_ble_eq_true rfl) ?_
  intro p e s m below meth c hx hb hr hts hown hlocks hin hml hK hN A hA hAB hD hP hS ls hl hsz
  have hl : lv_has ls 4 [(0, .ref r0), (1, .int stop)] := hl
  have in_X4 : ∀ w ∈ wsX40, w ∈ wsX4_hoursTo := fun _ h => List.mem_cons_of_mem _ ((List.mem_append_right _ h))
  have w_1 := hts (.fieldLink RX4 15 "SleepingCars$Route" "legHours" "[I") (by decide +kernel)
  obtain ⟨H, eH⟩ : ∃ H : Heap, H = s.heap := ⟨_, rfl⟩
  obtain ⟨locs, eL⟩ : ∃ L : List Loc, L = [] := ⟨_, rfl⟩
  rw [← eL]
  rw [← eL] at hS
  have hP : va_P D vwCl [(r0, .inr (4, [.int zs, .ref r1, .ref r2])), (r2, .inl (cy 0, 9, .inl fhr))] H := by rw [eH]; exact hP
  have hS : va_S A s.heap H locs := by rw [eH]; exact hS
  refine W.heapEq eH ?_
  clear eH eL
  refine lv_iconst (v := 0) hx hb dX4_hoursTo_0 (by decide) ?_
  refine lv_istore_n (lv' := [(2, .int 0), (0, .ref r0), (1, .int stop)]) hx hb dX4_hoursTo_1 rfl hl (by decide) rfl (fun ls hl => ?_)
  refine lv_iconst (v := 0) hx hb dX4_hoursTo_2 (by decide) ?_
  refine lv_istore_n (lv' := [(3, .int 0), (2, .int 0), (0, .ref r0), (1, .int stop)]) hx hb dX4_hoursTo_3 rfl hl (by decide) rfl (fun ls hl => ?_)
  have lp_4 : ∀ (n_4 : Nat) (i : Int32) (a : Int32), (0 ≤ i.toInt) → (i.toInt ≤ 9) → (i.toInt = 0 ∨ i.toInt ≤ stop.toInt) → (a = sumI fhr i.toInt.toNat) → (9 - i.toInt).toNat < n_4 → ∀ (H : Heap) (locs : List Loc), va_P D vwCl [(r0, .inr (4, [.int zs, .ref r1, .ref r2])), (r2, .inl (cy 0, 9, .inl fhr))] H → va_D A [(r0, .inr (4, [.int zs, .ref r1, .ref r2])), (r2, .inl (cy 0, 9, .inl fhr))] → va_S A s.heap H locs → ∀ ls : Array Slot, lv_has ls 4 [(3, .int i), (2, .int a), (0, .ref r0), (1, .int stop)] → W p l e (headSpec wsX4_hoursTo ({ frames := 0, cells := 0, slots := 0, locals := 0 } : Room)).room s m ([.ref r0, .int stop] : List Value).toArray below meth c H locs 0 0 (MQ below (Q_c_X4_hoursTo D cy E r0 r1 r2 zs fhr stop A) ([.ref r0, .int stop] : List Value).toArray s 0 0 A) (F0 m 4 ls []) := by
    intro n_4
    induction n_4 with
    | zero => intro i a hi0 hi1 hi2 ha hmu; exact absurd hmu (Nat.not_lt_zero _)
    | succ n_4 ih_4 =>
      intro i a hi0 hi1 hi2 ha hmu_4 H locs hP hD hS ls hl
      refine lv_iload_n hx hb dX4_hoursTo_4 rfl (lv_at hl 0 rfl) ?_
      refine lv_iload_n hx hb dX4_hoursTo_5 rfl (lv_at hl 3 rfl) ?_
      refine lv_icmp_ge (tgt := 33) hx hb dX4_hoursTo_6 (by decide) (fun c6 => ?_) (fun c6 => ?_)
      · skip
        have fc6 := q_le (a := stop.toInt) (b := i.toInt) c6 rfl rfl
        refine lv_iload_n hx hb dX4_hoursTo_33 rfl (lv_at hl 1 rfl) ?_
        exact r_i hx hb hr hlocks hK hS dX4_hoursTo_34 (u := ()) hP hD (by rw [ha, show i.toInt.toNat = min stop.toInt.toNat 9 by omega])
      · skip
        have fc6 := q_nle (a := stop.toInt) (b := i.toInt) c6 rfl rfl
        refine lv_iload_n hx hb dX4_hoursTo_9 rfl (lv_at hl 0 rfl) ?_
        refine lv_aload_n hx hb dX4_hoursTo_10 rfl (lv_at hl 2 rfl) ?_
        refine va_get (D := D) (ci := 4) (v := .ref r2) (C := RX4) (T := TX4) (N := 3) hx hb hts in_X4 hown hK hP 0 rfl rfl 2 (by decide) w_1 (fun _ h9 => h9) rfl dX4_hoursTo_11 ?_
        refine va_alen hx hb hK hP 1 0 rfl rfl (v := 9) rfl dX4_hoursTo_14 ?_
        refine lv_icmp_ge (tgt := 33) hx hb dX4_hoursTo_15 (by decide) (fun c15 => ?_) (fun c15 => ?_)
        · skip
          have fc15 := q_le (a := 9) (b := i.toInt) c15 (by decide) rfl
          refine lv_iload_n hx hb dX4_hoursTo_33 rfl (lv_at hl 1 rfl) ?_
          exact r_i hx hb hr hlocks hK hS dX4_hoursTo_34 (u := ()) hP hD (by rw [ha, show i.toInt.toNat = min stop.toInt.toNat 9 by omega])
        · skip
          have fc15 := q_nle (a := 9) (b := i.toInt) c15 (by decide) rfl
          refine lv_iload_n hx hb dX4_hoursTo_18 rfl (lv_at hl 1 rfl) ?_
          refine lv_aload_n hx hb dX4_hoursTo_19 rfl (lv_at hl 2 rfl) ?_
          refine va_get (D := D) (ci := 4) (v := .ref r2) (C := RX4) (T := TX4) (N := 3) hx hb hts in_X4 hown hK hP 0 rfl rfl 2 (by decide) w_1 (fun _ h9 => h9) rfl dX4_hoursTo_20 ?_
          refine lv_iload_n hx hb dX4_hoursTo_23 rfl (lv_at hl 0 rfl) ?_
          refine va_iald hx hb hK hP 1 0 rfl rfl (q_in (a := i.toInt) rfl (by omega) (by omega)) dX4_hoursTo_24 ?_
          refine lv_topi (fun x24 ex24 => ?_)
          have tx24 := congrArg Int32.toInt ex24
          have ix24 := hv_fhr i.toNatClampNeg (cn (by omega) (by decide))
          refine lv_iadd hx hb dX4_hoursTo_25 ?_
          refine lv_topi (fun x25 ex25 => ?_)
          refine lv_istore_n (lv' := [(2, .int x25), (3, .int i), (0, .ref r0), (1, .int stop)]) hx hb dX4_hoursTo_26 rfl hl (by decide) rfl (fun ls hl => ?_)
          obtain ⟨x27, ex27⟩ : ∃ y : Int32, y = i + 1 := ⟨_, rfl⟩
          refine lv_iinc (v := x27) (lv' := [(3, .int x27), (2, .int x25), (0, .ref r0), (1, .int stop)]) hx hb dX4_hoursTo_27 hl (k := 1) rfl (by rw [ex27]; rfl) (by decide) rfl (fun ls hl => ?_)
          have tx27 := q_add (p := i.toInt) (q := 1) ex27 rfl (by decide) (by omega) (by omega)
          refine lv_goto (tgt := 4) hx hb dX4_hoursTo_30 (by decide) ?_
          exact ih_4 x27 x25 (by first | omega | decide | (rw [i32_0]; omega)) (by first | omega | decide | (rw [i32_0]; omega)) (by first | omega | decide | (rw [i32_0]; omega)) (sum_step hi0 tx27 ha ex24 ex25) (by omega) H locs hP hD hS ls (lv_sub hl [0, 1, 2, 3] rfl)
  exact lp_4 (9 + 1) 0 0 (by first | omega | decide | (rw [i32_0]; omega) | (rw [i32_m1]; omega)) (by first | omega | decide | (rw [i32_0]; omega) | (rw [i32_m1]; omega)) (Or.inl (by decide)) rfl (by first | omega | exact Nat.lt_succ_self _ | (rw [i32_0]; omega) | (rw [i32_1]; omega)) H locs hP hD hS ls (lv_sub hl [0, 1, 2, 3] rfl)

abbrev Q_c_X4_allHours (D : va_G) (cy : Nat → ClassId) (E : EN) (r0 : Nat) (r1 : Nat) (r2 : Nat) (zs : Int32) (fhr : Nat → Int32) : (Nat → Prop) → Array Value → State → Outcome → State → Prop := QI D cy (fun (r : Int32) (_ : Unit) => r = sumI fhr (min (zs.toInt - 1).toNat 9)) (fun _ : Unit => [(r0, .inr (4, [.int zs, .ref r1, .ref r2])), (r2, .inl (cy 0, 9, .inl fhr))])
set_option maxHeartbeats 4000000 in
set_option maxRecDepth 100000 in
theorem c_X4_allHours (l : Launch) (D : va_G) (cy : Nat → ClassId) (E : EN) (r0 : Nat) (r1 : Nat) (r2 : Nat) (zs : Int32) (fhr : Nat → Int32) (sz : Nat) (hzs : 2 ≤ zs.toInt ∧ zs.toInt ≤ 10) (hv_fhr : AllI fhr 9 0 24) : Met l yX4_allHours wsX4_allHours ({ frames := 1, cells := 0, slots := 0, locals := 23 } : Room) (CP D cy E [.ref r0] [(r0, .inr (4, [.int zs, .ref r1, .ref r2])), (r2, .inl (cy 0, 9, .inl fhr))] sz) (Q_c_X4_allHours D cy E r0 r1 r2 zs fhr (va_A [(r0, .inr (4, [.int zs, .ref r1, .ref r2])), (r2, .inl (cy 0, 9, .inl fhr))] sz)) 0 0 (va_A [(r0, .inr (4, [.int zs, .ref r1, .ref r2])), (r2, .inl (cy 0, 9, .inl fhr))] sz) := by
  refine Met.go (Qc := Q_c_X4_allHours D cy E r0 r1 r2 zs fhr) (cc := cX4_allHours) (maxL := 1) (ret := (some .int)) (by decide) rfl (Nat.le_of_ble_eq_true rfl) ?_
  intro p e s m below meth c hx hb hr hts hown hlocks hin hml hK hN A hA hAB hD hP hS ls hl hsz
  have hl : lv_has ls 1 [(0, .ref r0)] := hl
  have in_X4 : ∀ w ∈ wsX40, w ∈ wsX4_allHours := fun _ h => List.mem_cons_of_mem _ ((List.mem_append_right _ h))
  have w_1 := hts (.fieldLink RX4 22 "SleepingCars$Route" "stops" "I") (by decide +kernel)
  have w_2 := hts (.instanceMethod yX4_hoursTo) (by decide +kernel)
  obtain ⟨H, eH⟩ : ∃ H : Heap, H = s.heap := ⟨_, rfl⟩
  obtain ⟨locs, eL⟩ : ∃ L : List Loc, L = [] := ⟨_, rfl⟩
  rw [← eL]
  rw [← eL] at hS
  have hP : va_P D vwCl [(r0, .inr (4, [.int zs, .ref r1, .ref r2])), (r2, .inl (cy 0, 9, .inl fhr))] H := by rw [eH]; exact hP
  have hS : va_S A s.heap H locs := by rw [eH]; exact hS
  refine W.heapEq eH ?_
  clear eH eL
  refine lv_aload_n hx hb dX4_allHours_0 rfl (lv_at hl 0 rfl) ?_
  refine lv_aload_n hx hb dX4_allHours_1 rfl (lv_at hl 0 rfl) ?_
  refine va_get (D := D) (ci := 4) (v := .int zs) (C := RX4) (T := TX4) (N := 3) hx hb hts in_X4 hown hK hP 0 rfl rfl 0 (by decide) w_1 (fun _ h9 => h9) rfl dX4_allHours_2 ?_
  refine lv_iconst (v := 1) hx hb dX4_allHours_5 (by decide) ?_
  refine lv_isub hx hb dX4_allHours_6 ?_
  refine lv_topi (fun x6 ex6 => ?_)
  have tx6 := q_sub (p := zs.toInt) (q := 1) ex6 rfl (by decide) (by omega) (by omega)
  refine k_i (va_runV (As := [.int x6]) (rest := []) ⟨hx, hb, hml, hown, hts⟩ (c_X4_hoursTo l D cy E r0 r1 r2 zs fhr x6 H.size hv_fhr) (cwV 1 hts gX4_allHours_X4_hoursTo rfl rfl rfl (by decide +kernel) ⟨Nat.le_of_ble_eq_true rfl, Nat.le_of_ble_eq_true rfl⟩) (cp_v hK hN hS hAB hP hD [0, 1] rfl (by decide) (ci := 4) rfl rfl rfl) rfl rfl hl.1 rfl (lv_room (Nat.le_of_ble_eq_true rfl)) dX4_allHours_7 ⟨Nat.le_of_ble_eq_true rfl, Nat.le_of_ble_eq_true rfl⟩) hP hD hS hA [0, 1] [] (wr := []) rfl rfl (by decide) (by decide) (fun rr7 u_rr7 H locs hw7 hP hD hS => ?_)
  try dsimp only at hw7
  have hP : va_P D vwCl [(r0, .inr (4, [.int zs, .ref r1, .ref r2])), (r2, .inl (cy 0, 9, .inl fhr))] H := hP
  have hD : va_D A [(r0, .inr (4, [.int zs, .ref r1, .ref r2])), (r2, .inl (cy 0, 9, .inl fhr))] := hD
  exact r_i hx hb hr hlocks hK hS dX4_allHours_10 (u := ()) hP hD (by rw [hw7, tx6])

abbrev Q_c_X4_allKm (D : va_G) (cy : Nat → ClassId) (E : EN) (r0 : Nat) (r1 : Nat) (r2 : Nat) (zs : Int32) (fkm : Nat → Int32) : (Nat → Prop) → Array Value → State → Outcome → State → Prop := QI D cy (fun (r : Int32) (_ : Unit) => True) (fun _ : Unit => [(r0, .inr (4, [.int zs, .ref r1, .ref r2])), (r1, .inl (cy 0, 9, .inl fkm))])
set_option maxHeartbeats 4000000 in
set_option maxRecDepth 100000 in
theorem c_X4_allKm (l : Launch) (D : va_G) (cy : Nat → ClassId) (E : EN) (r0 : Nat) (r1 : Nat) (r2 : Nat) (zs : Int32) (fkm : Nat → Int32) (sz : Nat) (hzs : 2 ≤ zs.toInt ∧ zs.toInt ≤ 10) : Met l yX4_allKm wsX4_allKm ({ frames := 0, cells := 0, slots := 0, locals := 0 } : Room) (CP D cy E [.ref r0] [(r0, .inr (4, [.int zs, .ref r1, .ref r2])), (r1, .inl (cy 0, 9, .inl fkm))] sz) (Q_c_X4_allKm D cy E r0 r1 r2 zs fkm (va_A [(r0, .inr (4, [.int zs, .ref r1, .ref r2])), (r1, .inl (cy 0, 9, .inl fkm))] sz)) 0 0 (va_A [(r0, .inr (4, [.int zs, .ref r1, .ref r2])), (r1, .inl (cy 0, 9, .inl fkm))] sz) := by
  refine Met.go (Qc := Q_c_X4_allKm D cy E r0 r1 r2 zs fkm) (cc := cX4_allKm) (maxL := 3) (ret := (some .int)) (by decide) rfl (Nat.le_of_ble_eq_true rfl) ?_
  intro p e s m below meth c hx hb hr hts hown hlocks hin hml hK hN A hA hAB hD hP hS ls hl hsz
  have hl : lv_has ls 3 [(0, .ref r0)] := hl
  have in_X4 : ∀ w ∈ wsX40, w ∈ wsX4_allKm := fun _ h => List.mem_cons_of_mem _ ((List.mem_append_right _ h))
  have w_1 := hts (.fieldLink RX4 22 "SleepingCars$Route" "stops" "I") (by decide +kernel)
  have w_2 := hts (.fieldLink RX4 9 "SleepingCars$Route" "legKm" "[I") (by decide +kernel)
  obtain ⟨H, eH⟩ : ∃ H : Heap, H = s.heap := ⟨_, rfl⟩
  obtain ⟨locs, eL⟩ : ∃ L : List Loc, L = [] := ⟨_, rfl⟩
  rw [← eL]
  rw [← eL] at hS
  have hP : va_P D vwCl [(r0, .inr (4, [.int zs, .ref r1, .ref r2])), (r1, .inl (cy 0, 9, .inl fkm))] H := by rw [eH]; exact hP
  have hS : va_S A s.heap H locs := by rw [eH]; exact hS
  refine W.heapEq eH ?_
  clear eH eL
  refine lv_iconst (v := 0) hx hb dX4_allKm_0 (by decide) ?_
  refine lv_istore_n (lv' := [(1, .int 0), (0, .ref r0)]) hx hb dX4_allKm_1 rfl hl (by decide) rfl (fun ls hl => ?_)
  refine lv_iconst (v := 0) hx hb dX4_allKm_2 (by decide) ?_
  refine lv_istore_n (lv' := [(2, .int 0), (1, .int 0), (0, .ref r0)]) hx hb dX4_allKm_3 rfl hl (by decide) rfl (fun ls hl => ?_)
  have lp_4 : ∀ (n_4 : Nat) (i : Int32) (a : Int32), (0 ≤ i.toInt) → (i.toInt ≤ zs.toInt - 1) → (9 - i.toInt).toNat < n_4 → ∀ (H : Heap) (locs : List Loc), va_P D vwCl [(r0, .inr (4, [.int zs, .ref r1, .ref r2])), (r1, .inl (cy 0, 9, .inl fkm))] H → va_D A [(r0, .inr (4, [.int zs, .ref r1, .ref r2])), (r1, .inl (cy 0, 9, .inl fkm))] → va_S A s.heap H locs → ∀ ls : Array Slot, lv_has ls 3 [(2, .int i), (1, .int a), (0, .ref r0)] → W p l e (headSpec wsX4_allKm ({ frames := 0, cells := 0, slots := 0, locals := 0 } : Room)).room s m ([.ref r0] : List Value).toArray below meth c H locs 0 0 (MQ below (Q_c_X4_allKm D cy E r0 r1 r2 zs fkm A) ([.ref r0] : List Value).toArray s 0 0 A) (F0 m 4 ls []) := by
    intro n_4
    induction n_4 with
    | zero => intro i a hi0 hi1 hmu; exact absurd hmu (Nat.not_lt_zero _)
    | succ n_4 ih_4 =>
      intro i a hi0 hi1 hmu_4 H locs hP hD hS ls hl
      refine lv_iload_n hx hb dX4_allKm_4 rfl (lv_at hl 0 rfl) ?_
      refine lv_aload_n hx hb dX4_allKm_5 rfl (lv_at hl 2 rfl) ?_
      refine va_get (D := D) (ci := 4) (v := .int zs) (C := RX4) (T := TX4) (N := 3) hx hb hts in_X4 hown hK hP 0 rfl rfl 0 (by decide) w_1 (fun _ h9 => h9) rfl dX4_allKm_6 ?_
      refine lv_iconst (v := 1) hx hb dX4_allKm_9 (by decide) ?_
      refine lv_isub hx hb dX4_allKm_10 ?_
      refine lv_topi (fun x10 ex10 => ?_)
      have tx10 := q_sub (p := zs.toInt) (q := 1) ex10 rfl (by decide) (by omega) (by omega)
      refine lv_icmp_ge (tgt := 29) hx hb dX4_allKm_11 (by decide) (fun c11 => ?_) (fun c11 => ?_)
      · skip
        have fc11 := q_le (a := x10.toInt) (b := i.toInt) c11 rfl rfl
        refine lv_iload_n hx hb dX4_allKm_29 rfl (lv_at hl 1 rfl) ?_
        exact r_i hx hb hr hlocks hK hS dX4_allKm_30 (u := ()) hP hD (trivial)
      · skip
        have fc11 := q_nle (a := x10.toInt) (b := i.toInt) c11 rfl rfl
        refine lv_iload_n hx hb dX4_allKm_14 rfl (lv_at hl 1 rfl) ?_
        refine lv_aload_n hx hb dX4_allKm_15 rfl (lv_at hl 2 rfl) ?_
        refine va_get (D := D) (ci := 4) (v := .ref r1) (C := RX4) (T := TX4) (N := 3) hx hb hts in_X4 hown hK hP 0 rfl rfl 1 (by decide) w_2 (fun _ h9 => h9) rfl dX4_allKm_16 ?_
        refine lv_iload_n hx hb dX4_allKm_19 rfl (lv_at hl 0 rfl) ?_
        refine va_iald hx hb hK hP 1 0 rfl rfl (q_in (a := i.toInt) rfl (by omega) (by omega)) dX4_allKm_20 ?_
        refine lv_topi (fun x20 ex20 => ?_)
        have tx20 := congrArg Int32.toInt ex20
        refine lv_iadd hx hb dX4_allKm_21 ?_
        refine lv_topi (fun x21 ex21 => ?_)
        refine lv_istore_n (lv' := [(1, .int x21), (2, .int i), (0, .ref r0)]) hx hb dX4_allKm_22 rfl hl (by decide) rfl (fun ls hl => ?_)
        obtain ⟨x23, ex23⟩ : ∃ y : Int32, y = i + 1 := ⟨_, rfl⟩
        refine lv_iinc (v := x23) (lv' := [(2, .int x23), (1, .int x21), (0, .ref r0)]) hx hb dX4_allKm_23 hl (k := 1) rfl (by rw [ex23]; rfl) (by decide) rfl (fun ls hl => ?_)
        have tx23 := q_add (p := i.toInt) (q := 1) ex23 rfl (by decide) (by omega) (by omega)
        refine lv_goto (tgt := 4) hx hb dX4_allKm_26 (by decide) ?_
        exact ih_4 x23 x21 (by first | omega | decide | (rw [i32_0]; omega)) (by first | omega | decide | (rw [i32_0]; omega)) (by omega) H locs hP hD hS ls (lv_sub hl [0, 1, 2] rfl)
  exact lp_4 ((9 - (0 : Int32).toInt).toNat + 1) 0 0 (by first | omega | decide | (rw [i32_0]; omega) | (rw [i32_m1]; omega)) (by first | omega | decide | (rw [i32_0]; omega) | (rw [i32_m1]; omega)) (by first | omega | exact Nat.lt_succ_self _ | (rw [i32_0]; omega) | (rw [i32_1]; omega)) H locs hP hD hS ls (lv_sub hl [0, 1, 2] rfl)

abbrev Q_c_X4_copyFrom (D : va_G) (cy : Nat → ClassId) (E : EN) (r0 : Nat) (r1 : Nat) (r2 : Nat) (kr0 : Nat) (kr1 : Nat) (kr2 : Nat) (zs : Int32) (kzs : Int32) (fkm : Nat → Int32) (fhr : Nat → Int32) (kfkm : Nat → Int32) (kfhr : Nat → Int32) : (Nat → Prop) → Array Value → State → Outcome → State → Prop := QV D cy (fun (u : (Nat → Int32) × (Nat → Int32)) => match u with | (nfkm, nfhr) => ((∀ j : Nat, j < 9 → nfkm j = kfkm j) ∧ (∀ j : Nat, j < 9 → nfhr j = kfhr j)) ∧ AllI nfhr 9 0 24) (fun u : (Nat → Int32) × (Nat → Int32) => match u with | (nfkm, nfhr) => [(r0, .inr (4, [.int kzs, .ref r1, .ref r2])), (r1, .inl (cy 0, 9, .inl nfkm)), (r2, .inl (cy 0, 9, .inl nfhr)), (kr0, .inr (4, [.int kzs, .ref kr1, .ref kr2])), (kr1, .inl (cy 0, 9, .inl kfkm)), (kr2, .inl (cy 0, 9, .inl kfhr))])
set_option maxHeartbeats 4000000 in
set_option maxRecDepth 100000 in
theorem c_X4_copyFrom (l : Launch) (D : va_G) (cy : Nat → ClassId) (E : EN) (r0 : Nat) (r1 : Nat) (r2 : Nat) (kr0 : Nat) (kr1 : Nat) (kr2 : Nat) (zs : Int32) (kzs : Int32) (fkm : Nat → Int32) (fhr : Nat → Int32) (kfkm : Nat → Int32) (kfhr : Nat → Int32) (sz : Nat) (hv_fhr : AllI fhr 9 0 24) (hv_kfhr : AllI kfhr 9 0 24) : Met l yX4_copyFrom wsX4_copyFrom ({ frames := 1, cells := 0, slots := 0, locals := 30 } : Room) (CP D cy E [.ref r0, .ref kr0] [(r0, .inr (4, [.int zs, .ref r1, .ref r2])), (r1, .inl (cy 0, 9, .inl fkm)), (r2, .inl (cy 0, 9, .inl fhr)), (kr0, .inr (4, [.int kzs, .ref kr1, .ref kr2])), (kr1, .inl (cy 0, 9, .inl kfkm)), (kr2, .inl (cy 0, 9, .inl kfhr))] sz) (Q_c_X4_copyFrom D cy E r0 r1 r2 kr0 kr1 kr2 zs kzs fkm fhr kfkm kfhr (va_A [(r0, .inr (4, [.int zs, .ref r1, .ref r2])), (r1, .inl (cy 0, 9, .inl fkm)), (r2, .inl (cy 0, 9, .inl fhr)), (kr0, .inr (4, [.int kzs, .ref kr1, .ref kr2])), (kr1, .inl (cy 0, 9, .inl kfkm)), (kr2, .inl (cy 0, 9, .inl kfhr))] sz)) 0 0 (va_A [(r0, .inr (4, [.int zs, .ref r1, .ref r2])), (r1, .inl (cy 0, 9, .inl fkm)), (r2, .inl (cy 0, 9, .inl fhr)), (kr0, .inr (4, [.int kzs, .ref kr1, .ref kr2])), (kr1, .inl (cy 0, 9, .inl kfkm)), (kr2, .inl (cy 0, 9, .inl kfhr))] sz) := by
  refine Met.go (Qc := Q_c_X4_copyFrom D cy E r0 r1 r2 kr0 kr1 kr2 zs kzs fkm fhr kfkm kfhr) (cc := cX4_copyFrom) (maxL := 2) (ret := none) (by decide) rfl (Nat.le_of_ble_eq_true rfl) ?_
  intro p e s m below meth c hx hb hr hts hown hlocks hin hml hK hN A hA hAB hD hP hS ls hl hsz
  have hl : lv_has ls 2 [(0, .ref r0), (1, .ref kr0)] := hl
  have in_X4 : ∀ w ∈ wsX40, w ∈ wsX4_copyFrom := fun _ h => List.mem_cons_of_mem _ ((List.mem_append_right _ h))
  have w_1 := hts (.fieldLink RX4 22 "SleepingCars$Route" "stops" "I") (by decide +kernel)
  have w_2 := hts (.fieldLink RX4 9 "SleepingCars$Route" "legKm" "[I") (by decide +kernel)
  have w_3 := hts (.methodLink RX4 36 arraycopyName) (by decide +kernel)
  have w_4 := hts (.native arraycopyName) (by decide +kernel)
  have w_5 := hts (.static arraycopyName) (by decide +kernel)
  have w_6 := hts (.initialized "java/lang/System") (by decide +kernel)
  have w_7 := hts (.fieldLink RX4 15 "SleepingCars$Route" "legHours" "[I") (by decide +kernel)
  obtain ⟨H, eH⟩ : ∃ H : Heap, H = s.heap := ⟨_, rfl⟩
  obtain ⟨locs, eL⟩ : ∃ L : List Loc, L = [] := ⟨_, rfl⟩
  rw [← eL]
  rw [← eL] at hS
  have hP : va_P D vwCl [(r0, .inr (4, [.int zs, .ref r1, .ref r2])), (r1, .inl (cy 0, 9, .inl fkm)), (r2, .inl (cy 0, 9, .inl fhr)), (kr0, .inr (4, [.int kzs, .ref kr1, .ref kr2])), (kr1, .inl (cy 0, 9, .inl kfkm)), (kr2, .inl (cy 0, 9, .inl kfhr))] H := by rw [eH]; exact hP
  have hS : va_S A s.heap H locs := by rw [eH]; exact hS
  refine W.heapEq eH ?_
  clear eH eL
  refine lv_aload_n hx hb dX4_copyFrom_0 rfl (lv_at hl 0 rfl) ?_
  refine lv_aload_n hx hb dX4_copyFrom_1 rfl (lv_at hl 1 rfl) ?_
  refine va_get (D := D) (ci := 4) (v := .int kzs) (C := RX4) (T := TX4) (N := 3) hx hb hts in_X4 hown hK hP 3 rfl rfl 0 (by decide) w_1 (fun _ h9 => h9) rfl dX4_copyFrom_2 ?_
  refine va_put (D := D) (ci := 4) (v := .int kzs) (ty := .int) (C := RX4) (T := TX4) (N := 3) hx hb hts in_X4 tyX4 tyX4_ok nmX4 hown hK hP hD hS 0 rfl rfl 0 (by decide) w_1 (fun _ h9 => h9) rfl (by decide +kernel) rfl rfl (Nat.le_of_ble_eq_true rfl) dX4_copyFrom_5 (fun H locs hP hD hS => ?_)
  have hP : va_P D vwCl [(r0, .inr (4, [.int kzs, .ref r1, .ref r2])), (r1, .inl (cy 0, 9, .inl fkm)), (r2, .inl (cy 0, 9, .inl fhr)), (kr0, .inr (4, [.int kzs, .ref kr1, .ref kr2])), (kr1, .inl (cy 0, 9, .inl kfkm)), (kr2, .inl (cy 0, 9, .inl kfhr))] H := hP
  have hD : va_D A [(r0, .inr (4, [.int kzs, .ref r1, .ref r2])), (r1, .inl (cy 0, 9, .inl fkm)), (r2, .inl (cy 0, 9, .inl fhr)), (kr0, .inr (4, [.int kzs, .ref kr1, .ref kr2])), (kr1, .inl (cy 0, 9, .inl kfkm)), (kr2, .inl (cy 0, 9, .inl kfhr))] := hD
  refine lv_aload_n hx hb dX4_copyFrom_8 rfl (lv_at hl 1 rfl) ?_
  refine va_get (D := D) (ci := 4) (v := .ref kr1) (C := RX4) (T := TX4) (N := 3) hx hb hts in_X4 hown hK hP 3 rfl rfl 1 (by decide) w_2 (fun _ h9 => h9) rfl dX4_copyFrom_9 ?_
  refine lv_iconst (v := 0) hx hb dX4_copyFrom_12 (by decide) ?_
  refine lv_aload_n hx hb dX4_copyFrom_13 rfl (lv_at hl 0 rfl) ?_
  refine va_get (D := D) (ci := 4) (v := .ref r1) (C := RX4) (T := TX4) (N := 3) hx hb hts in_X4 hown hK hP 0 rfl rfl 1 (by decide) w_2 (fun _ h9 => h9) rfl dX4_copyFrom_14 ?_
  refine lv_iconst (v := 0) hx hb dX4_copyFrom_17 (by decide) ?_
  refine lv_aload_n hx hb dX4_copyFrom_18 rfl (lv_at hl 0 rfl) ?_
  refine va_get (D := D) (ci := 4) (v := .ref r1) (C := RX4) (T := TX4) (N := 3) hx hb hts in_X4 hown hK hP 0 rfl rfl 1 (by decide) w_2 (fun _ h9 => h9) rfl dX4_copyFrom_19 ?_
  refine va_alen hx hb hK hP 1 0 rfl rfl (v := 9) rfl dX4_copyFrom_22 ?_
  refine va_copyi hx hb (hml.trans hl.1.symm) hown w_3 w_4 w_5 w_6 hK hP hD hS 4 1 0 0 rfl rfl rfl rfl rfl (by decide) (by decide) (by decide) (by decide) (by decide) (fun _ _ => rfl) (Nat.le_of_ble_eq_true rfl) (Nat.le_of_ble_eq_true rfl) dX4_copyFrom_23 (fun H locs hP hD hS => ?_)
  obtain ⟨g23, eg23⟩ : ∃ f : Nat → Int32, f = va_cpy kfkm fkm (0 : Int32).toNatClampNeg (0 : Int32).toNatClampNeg (9 : Int32).toNatClampNeg := ⟨_, rfl⟩
  rw [← eg23] at hP hD
  have hP : va_P D vwCl [(r0, .inr (4, [.int kzs, .ref r1, .ref r2])), (r1, .inl (cy 0, 9, .inl g23)), (r2, .inl (cy 0, 9, .inl fhr)), (kr0, .inr (4, [.int kzs, .ref kr1, .ref kr2])), (kr1, .inl (cy 0, 9, .inl kfkm)), (kr2, .inl (cy 0, 9, .inl kfhr))] H := hP
  have hD : va_D A [(r0, .inr (4, [.int kzs, .ref r1, .ref r2])), (r1, .inl (cy 0, 9, .inl g23)), (r2, .inl (cy 0, 9, .inl fhr)), (kr0, .inr (4, [.int kzs, .ref kr1, .ref kr2])), (kr1, .inl (cy 0, 9, .inl kfkm)), (kr2, .inl (cy 0, 9, .inl kfhr))] := hD
  refine lv_aload_n hx hb dX4_copyFrom_26 rfl (lv_at hl 1 rfl) ?_
  refine va_get (D := D) (ci := 4) (v := .ref kr2) (C := RX4) (T := TX4) (N := 3) hx hb hts in_X4 hown hK hP 3 rfl rfl 2 (by decide) w_7 (fun _ h9 => h9) rfl dX4_copyFrom_27 ?_
  refine lv_iconst (v := 0) hx hb dX4_copyFrom_30 (by decide) ?_
  refine lv_aload_n hx hb dX4_copyFrom_31 rfl (lv_at hl 0 rfl) ?_
  refine va_get (D := D) (ci := 4) (v := .ref r2) (C := RX4) (T := TX4) (N := 3) hx hb hts in_X4 hown hK hP 0 rfl rfl 2 (by decide) w_7 (fun _ h9 => h9) rfl dX4_copyFrom_32 ?_
  refine lv_iconst (v := 0) hx hb dX4_copyFrom_35 (by decide) ?_
  refine lv_aload_n hx hb dX4_copyFrom_36 rfl (lv_at hl 0 rfl) ?_
  refine va_get (D := D) (ci := 4) (v := .ref r2) (C := RX4) (T := TX4) (N := 3) hx hb hts in_X4 hown hK hP 0 rfl rfl 2 (by decide) w_7 (fun _ h9 => h9) rfl dX4_copyFrom_37 ?_
  refine va_alen hx hb hK hP 2 0 rfl rfl (v := 9) rfl dX4_copyFrom_40 ?_
  refine va_copyi hx hb (hml.trans hl.1.symm) hown w_3 w_4 w_5 w_6 hK hP hD hS 5 2 0 0 rfl rfl rfl rfl rfl (by decide) (by decide) (by decide) (by decide) (by decide) (fun _ _ => rfl) (Nat.le_of_ble_eq_true rfl) (Nat.le_of_ble_eq_true rfl) dX4_copyFrom_41 (fun H locs hP hD hS => ?_)
  have v41_c : AllI (va_cpy kfhr fhr (0 : Int32).toNatClampNeg (0 : Int32).toNatClampNeg (9 : Int32).toNatClampNeg) 9 0 24 := allI_cpy hv_kfhr hv_fhr (by decide)
  obtain ⟨g41, eg41⟩ : ∃ f : Nat → Int32, f = va_cpy kfhr fhr (0 : Int32).toNatClampNeg (0 : Int32).toNatClampNeg (9 : Int32).toNatClampNeg := ⟨_, rfl⟩
  rw [← eg41] at hP hD
  rw [← eg41] at v41_c
  have hP : va_P D vwCl [(r0, .inr (4, [.int kzs, .ref r1, .ref r2])), (r1, .inl (cy 0, 9, .inl g23)), (r2, .inl (cy 0, 9, .inl g41)), (kr0, .inr (4, [.int kzs, .ref kr1, .ref kr2])), (kr1, .inl (cy 0, 9, .inl kfkm)), (kr2, .inl (cy 0, 9, .inl kfhr))] H := hP
  have hD : va_D A [(r0, .inr (4, [.int kzs, .ref r1, .ref r2])), (r1, .inl (cy 0, 9, .inl g23)), (r2, .inl (cy 0, 9, .inl g41)), (kr0, .inr (4, [.int kzs, .ref kr1, .ref kr2])), (kr1, .inl (cy 0, 9, .inl kfkm)), (kr2, .inl (cy 0, 9, .inl kfhr))] := hD
  exact r_v hx hb hr hlocks hK hS dX4_copyFrom_44 (u := (g23, g41)) hP hD (⟨⟨cpy_at eg23, cpy_at eg41⟩, v41_c⟩)

abbrev Q_c_X5_copyFrom (D : va_G) (cy : Nat → ClassId) (E : EN) (u0 : Nat) (u1 : Nat) (u2 : Nat) (u3 : Nat) (ku0 : Nat) (ku1 : Nat) (ku2 : Nat) (ku3 : Nat) (zr : Int32) (kzr : Int32) (fbe : Nat → Int32) (fow : Nat → Int32) (fso : Nat → Int32) (kfbe : Nat → Int32) (kfow : Nat → Int32) (kfso : Nat → Int32) : (Nat → Prop) → Array Value → State → Outcome → State → Prop := QV D cy (fun (u : (Nat → Int32) × (Nat → Int32) × (Nat → Int32)) => match u with | (nfbe, nfow, nfso) => ((∀ j : Nat, j < 60 → nfbe j = kfbe j) ∧ (∀ j : Nat, j < 600 → nfow j = kfow j) ∧ (∀ j : Nat, j < 600 → nfso j = kfso j)) ∧ AllI nfbe 60 0 10) (fun u : (Nat → Int32) × (Nat → Int32) × (Nat → Int32) => match u with | (nfbe, nfow, nfso) => [(u0, .inr (5, [.int kzr, .ref u1, .ref u2, .ref u3])), (u1, .inl (cy 0, 60, .inl nfbe)), (u2, .inl (cy 0, 600, .inl nfow)), (u3, .inl (cy 0, 600, .inl nfso)), (ku0, .inr (5, [.int kzr, .ref ku1, .ref ku2, .ref ku3])), (ku1, .inl (cy 0, 60, .inl kfbe)), (ku2, .inl (cy 0, 600, .inl kfow)), (ku3, .inl (cy 0, 600, .inl kfso))])
set_option maxHeartbeats 4000000 in
set_option maxRecDepth 100000 in
theorem c_X5_copyFrom (l : Launch) (D : va_G) (cy : Nat → ClassId) (E : EN) (u0 : Nat) (u1 : Nat) (u2 : Nat) (u3 : Nat) (ku0 : Nat) (ku1 : Nat) (ku2 : Nat) (ku3 : Nat) (zr : Int32) (kzr : Int32) (fbe : Nat → Int32) (fow : Nat → Int32) (fso : Nat → Int32) (kfbe : Nat → Int32) (kfow : Nat → Int32) (kfso : Nat → Int32) (sz : Nat) (hv_fbe : AllI fbe 60 0 10) (hv_kfbe : AllI kfbe 60 0 10) : Met l yX5_copyFrom wsX5_copyFrom ({ frames := 1, cells := 0, slots := 0, locals := 30 } : Room) (CP D cy E [.ref u0, .ref ku0] [(u0, .inr (5, [.int zr, .ref u1, .ref u2, .ref u3])), (u1, .inl (cy 0, 60, .inl fbe)), (u2, .inl (cy 0, 600, .inl fow)), (u3, .inl (cy 0, 600, .inl fso)), (ku0, .inr (5, [.int kzr, .ref ku1, .ref ku2, .ref ku3])), (ku1, .inl (cy 0, 60, .inl kfbe)), (ku2, .inl (cy 0, 600, .inl kfow)), (ku3, .inl (cy 0, 600, .inl kfso))] sz) (Q_c_X5_copyFrom D cy E u0 u1 u2 u3 ku0 ku1 ku2 ku3 zr kzr fbe fow fso kfbe kfow kfso (va_A [(u0, .inr (5, [.int zr, .ref u1, .ref u2, .ref u3])), (u1, .inl (cy 0, 60, .inl fbe)), (u2, .inl (cy 0, 600, .inl fow)), (u3, .inl (cy 0, 600, .inl fso)), (ku0, .inr (5, [.int kzr, .ref ku1, .ref ku2, .ref ku3])), (ku1, .inl (cy 0, 60, .inl kfbe)), (ku2, .inl (cy 0, 600, .inl kfow)), (ku3, .inl (cy 0, 600, .inl kfso))] sz)) 0 0 (va_A [(u0, .inr (5, [.int zr, .ref u1, .ref u2, .ref u3])), (u1, .inl (cy 0, 60, .inl fbe)), (u2, .inl (cy 0, 600, .inl fow)), (u3, .inl (cy 0, 600, .inl fso)), (ku0, .inr (5, [.int kzr, .ref ku1, .ref ku2, .ref ku3])), (ku1, .inl (cy 0, 60, .inl kfbe)), (ku2, .inl (cy 0, 600, .inl kfow)), (ku3, .inl (cy 0, 600, .inl kfso))] sz) := by
  refine Met.go (Qc := Q_c_X5_copyFrom D cy E u0 u1 u2 u3 ku0 ku1 ku2 ku3 zr kzr fbe fow fso kfbe kfow kfso) (cc := cX5_copyFrom) (maxL := 2) (ret := none) (by decide) rfl (Nat.le_of_ble_eq_true rfl) ?_
  intro p e s m below meth c hx hb hr hts hown hlocks hin hml hK hN A hA hAB hD hP hS ls hl hsz
  have hl : lv_has ls 2 [(0, .ref u0), (1, .ref ku0)] := hl
  have in_X5 : ∀ w ∈ wsX50, w ∈ wsX5_copyFrom := fun _ h => List.mem_cons_of_mem _ ((List.mem_append_right _ h))
  have w_1 := hts (.fieldLink RX5 25 "SleepingCars$Runs" "size" "I") (by decide +kernel)
  have w_2 := hts (.fieldLink RX5 9 "SleepingCars$Runs" "berths" "[I") (by decide +kernel)
  have w_3 := hts (.methodLink RX5 29 arraycopyName) (by decide +kernel)
  have w_4 := hts (.native arraycopyName) (by decide +kernel)
  have w_5 := hts (.static arraycopyName) (by decide +kernel)
  have w_6 := hts (.initialized "java/lang/System") (by decide +kernel)
  have w_7 := hts (.fieldLink RX5 15 "SleepingCars$Runs" "owners" "[I") (by decide +kernel)
  have w_8 := hts (.fieldLink RX5 18 "SleepingCars$Runs" "soldLegs" "[I") (by decide +kernel)
  obtain ⟨H, eH⟩ : ∃ H : Heap, H = s.heap := ⟨_, rfl⟩
  obtain ⟨locs, eL⟩ : ∃ L : List Loc, L = [] := ⟨_, rfl⟩
  rw [← eL]
  rw [← eL] at hS
  have hP : va_P D vwCl [(u0, .inr (5, [.int zr, .ref u1, .ref u2, .ref u3])), (u1, .inl (cy 0, 60, .inl fbe)), (u2, .inl (cy 0, 600, .inl fow)), (u3, .inl (cy 0, 600, .inl fso)), (ku0, .inr (5, [.int kzr, .ref ku1, .ref ku2, .ref ku3])), (ku1, .inl (cy 0, 60, .inl kfbe)), (ku2, .inl (cy 0, 600, .inl kfow)), (ku3, .inl (cy 0, 600, .inl kfso))] H := by rw [eH]; exact hP
  have hS : va_S A s.heap H locs := by rw [eH]; exact hS
  refine W.heapEq eH ?_
  clear eH eL
  refine lv_aload_n hx hb dX5_copyFrom_0 rfl (lv_at hl 0 rfl) ?_
  refine lv_aload_n hx hb dX5_copyFrom_1 rfl (lv_at hl 1 rfl) ?_
  refine va_get (D := D) (ci := 5) (v := .int kzr) (C := RX5) (T := TX5) (N := 4) hx hb hts in_X5 hown hK hP 4 rfl rfl 0 (by decide) w_1 (fun _ h9 => h9) rfl dX5_copyFrom_2 ?_
  refine va_put (D := D) (ci := 5) (v := .int kzr) (ty := .int) (C := RX5) (T := TX5) (N := 4) hx hb hts in_X5 tyX5 tyX5_ok nmX5 hown hK hP hD hS 0 rfl rfl 0 (by decide) w_1 (fun _ h9 => h9) rfl (by decide +kernel) rfl rfl (Nat.le_of_ble_eq_true rfl) dX5_copyFrom_5 (fun H locs hP hD hS => ?_)
  have hP : va_P D vwCl [(u0, .inr (5, [.int kzr, .ref u1, .ref u2, .ref u3])), (u1, .inl (cy 0, 60, .inl fbe)), (u2, .inl (cy 0, 600, .inl fow)), (u3, .inl (cy 0, 600, .inl fso)), (ku0, .inr (5, [.int kzr, .ref ku1, .ref ku2, .ref ku3])), (ku1, .inl (cy 0, 60, .inl kfbe)), (ku2, .inl (cy 0, 600, .inl kfow)), (ku3, .inl (cy 0, 600, .inl kfso))] H := hP
  have hD : va_D A [(u0, .inr (5, [.int kzr, .ref u1, .ref u2, .ref u3])), (u1, .inl (cy 0, 60, .inl fbe)), (u2, .inl (cy 0, 600, .inl fow)), (u3, .inl (cy 0, 600, .inl fso)), (ku0, .inr (5, [.int kzr, .ref ku1, .ref ku2, .ref ku3])), (ku1, .inl (cy 0, 60, .inl kfbe)), (ku2, .inl (cy 0, 600, .inl kfow)), (ku3, .inl (cy 0, 600, .inl kfso))] := hD
  refine lv_aload_n hx hb dX5_copyFrom_8 rfl (lv_at hl 1 rfl) ?_
  refine va_get (D := D) (ci := 5) (v := .ref ku1) (C := RX5) (T := TX5) (N := 4) hx hb hts in_X5 hown hK hP 4 rfl rfl 1 (by decide) w_2 (fun _ h9 => h9) rfl dX5_copyFrom_9 ?_
  refine lv_iconst (v := 0) hx hb dX5_copyFrom_12 (by decide) ?_
  refine lv_aload_n hx hb dX5_copyFrom_13 rfl (lv_at hl 0 rfl) ?_
  refine va_get (D := D) (ci := 5) (v := .ref u1) (C := RX5) (T := TX5) (N := 4) hx hb hts in_X5 hown hK hP 0 rfl rfl 1 (by decide) w_2 (fun _ h9 => h9) rfl dX5_copyFrom_14 ?_
  refine lv_iconst (v := 0) hx hb dX5_copyFrom_17 (by decide) ?_
  refine lv_aload_n hx hb dX5_copyFrom_18 rfl (lv_at hl 0 rfl) ?_
  refine va_get (D := D) (ci := 5) (v := .ref u1) (C := RX5) (T := TX5) (N := 4) hx hb hts in_X5 hown hK hP 0 rfl rfl 1 (by decide) w_2 (fun _ h9 => h9) rfl dX5_copyFrom_19 ?_
  refine va_alen hx hb hK hP 1 0 rfl rfl (v := 60) rfl dX5_copyFrom_22 ?_
  refine va_copyi hx hb (hml.trans hl.1.symm) hown w_3 w_4 w_5 w_6 hK hP hD hS 5 1 0 0 rfl rfl rfl rfl rfl (by decide) (by decide) (by decide) (by decide) (by decide) (fun _ _ => rfl) (Nat.le_of_ble_eq_true rfl) (Nat.le_of_ble_eq_true rfl) dX5_copyFrom_23 (fun H locs hP hD hS => ?_)
  have v23_c : AllI (va_cpy kfbe fbe (0 : Int32).toNatClampNeg (0 : Int32).toNatClampNeg (60 : Int32).toNatClampNeg) 60 0 10 := allI_cpy hv_kfbe hv_fbe (by decide)
  obtain ⟨g23, eg23⟩ : ∃ f : Nat → Int32, f = va_cpy kfbe fbe (0 : Int32).toNatClampNeg (0 : Int32).toNatClampNeg (60 : Int32).toNatClampNeg := ⟨_, rfl⟩
  rw [← eg23] at hP hD
  rw [← eg23] at v23_c
  have hP : va_P D vwCl [(u0, .inr (5, [.int kzr, .ref u1, .ref u2, .ref u3])), (u1, .inl (cy 0, 60, .inl g23)), (u2, .inl (cy 0, 600, .inl fow)), (u3, .inl (cy 0, 600, .inl fso)), (ku0, .inr (5, [.int kzr, .ref ku1, .ref ku2, .ref ku3])), (ku1, .inl (cy 0, 60, .inl kfbe)), (ku2, .inl (cy 0, 600, .inl kfow)), (ku3, .inl (cy 0, 600, .inl kfso))] H := hP
  have hD : va_D A [(u0, .inr (5, [.int kzr, .ref u1, .ref u2, .ref u3])), (u1, .inl (cy 0, 60, .inl g23)), (u2, .inl (cy 0, 600, .inl fow)), (u3, .inl (cy 0, 600, .inl fso)), (ku0, .inr (5, [.int kzr, .ref ku1, .ref ku2, .ref ku3])), (ku1, .inl (cy 0, 60, .inl kfbe)), (ku2, .inl (cy 0, 600, .inl kfow)), (ku3, .inl (cy 0, 600, .inl kfso))] := hD
  refine lv_aload_n hx hb dX5_copyFrom_26 rfl (lv_at hl 1 rfl) ?_
  refine va_get (D := D) (ci := 5) (v := .ref ku2) (C := RX5) (T := TX5) (N := 4) hx hb hts in_X5 hown hK hP 4 rfl rfl 2 (by decide) w_7 (fun _ h9 => h9) rfl dX5_copyFrom_27 ?_
  refine lv_iconst (v := 0) hx hb dX5_copyFrom_30 (by decide) ?_
  refine lv_aload_n hx hb dX5_copyFrom_31 rfl (lv_at hl 0 rfl) ?_
  refine va_get (D := D) (ci := 5) (v := .ref u2) (C := RX5) (T := TX5) (N := 4) hx hb hts in_X5 hown hK hP 0 rfl rfl 2 (by decide) w_7 (fun _ h9 => h9) rfl dX5_copyFrom_32 ?_
  refine lv_iconst (v := 0) hx hb dX5_copyFrom_35 (by decide) ?_
  refine lv_aload_n hx hb dX5_copyFrom_36 rfl (lv_at hl 0 rfl) ?_
  refine va_get (D := D) (ci := 5) (v := .ref u2) (C := RX5) (T := TX5) (N := 4) hx hb hts in_X5 hown hK hP 0 rfl rfl 2 (by decide) w_7 (fun _ h9 => h9) rfl dX5_copyFrom_37 ?_
  refine va_alen hx hb hK hP 2 0 rfl rfl (v := 600) rfl dX5_copyFrom_40 ?_
  refine va_copyi hx hb (hml.trans hl.1.symm) hown w_3 w_4 w_5 w_6 hK hP hD hS 6 2 0 0 rfl rfl rfl rfl rfl (by decide) (by decide) (by decide) (by decide) (by decide) (fun _ _ => rfl) (Nat.le_of_ble_eq_true rfl) (Nat.le_of_ble_eq_true rfl) dX5_copyFrom_41 (fun H locs hP hD hS => ?_)
  obtain ⟨g41, eg41⟩ : ∃ f : Nat → Int32, f = va_cpy kfow fow (0 : Int32).toNatClampNeg (0 : Int32).toNatClampNeg (600 : Int32).toNatClampNeg := ⟨_, rfl⟩
  rw [← eg41] at hP hD
  have hP : va_P D vwCl [(u0, .inr (5, [.int kzr, .ref u1, .ref u2, .ref u3])), (u1, .inl (cy 0, 60, .inl g23)), (u2, .inl (cy 0, 600, .inl g41)), (u3, .inl (cy 0, 600, .inl fso)), (ku0, .inr (5, [.int kzr, .ref ku1, .ref ku2, .ref ku3])), (ku1, .inl (cy 0, 60, .inl kfbe)), (ku2, .inl (cy 0, 600, .inl kfow)), (ku3, .inl (cy 0, 600, .inl kfso))] H := hP
  have hD : va_D A [(u0, .inr (5, [.int kzr, .ref u1, .ref u2, .ref u3])), (u1, .inl (cy 0, 60, .inl g23)), (u2, .inl (cy 0, 600, .inl g41)), (u3, .inl (cy 0, 600, .inl fso)), (ku0, .inr (5, [.int kzr, .ref ku1, .ref ku2, .ref ku3])), (ku1, .inl (cy 0, 60, .inl kfbe)), (ku2, .inl (cy 0, 600, .inl kfow)), (ku3, .inl (cy 0, 600, .inl kfso))] := hD
  refine lv_aload_n hx hb dX5_copyFrom_44 rfl (lv_at hl 1 rfl) ?_
  refine va_get (D := D) (ci := 5) (v := .ref ku3) (C := RX5) (T := TX5) (N := 4) hx hb hts in_X5 hown hK hP 4 rfl rfl 3 (by decide) w_8 (fun _ h9 => h9) rfl dX5_copyFrom_45 ?_
  refine lv_iconst (v := 0) hx hb dX5_copyFrom_48 (by decide) ?_
  refine lv_aload_n hx hb dX5_copyFrom_49 rfl (lv_at hl 0 rfl) ?_
  refine va_get (D := D) (ci := 5) (v := .ref u3) (C := RX5) (T := TX5) (N := 4) hx hb hts in_X5 hown hK hP 0 rfl rfl 3 (by decide) w_8 (fun _ h9 => h9) rfl dX5_copyFrom_50 ?_
  refine lv_iconst (v := 0) hx hb dX5_copyFrom_53 (by decide) ?_
  refine lv_aload_n hx hb dX5_copyFrom_54 rfl (lv_at hl 0 rfl) ?_
  refine va_get (D := D) (ci := 5) (v := .ref u3) (C := RX5) (T := TX5) (N := 4) hx hb hts in_X5 hown hK hP 0 rfl rfl 3 (by decide) w_8 (fun _ h9 => h9) rfl dX5_copyFrom_55 ?_
  refine va_alen hx hb hK hP 3 0 rfl rfl (v := 600) rfl dX5_copyFrom_58 ?_
  refine va_copyi hx hb (hml.trans hl.1.symm) hown w_3 w_4 w_5 w_6 hK hP hD hS 7 3 0 0 rfl rfl rfl rfl rfl (by decide) (by decide) (by decide) (by decide) (by decide) (fun _ _ => rfl) (Nat.le_of_ble_eq_true rfl) (Nat.le_of_ble_eq_true rfl) dX5_copyFrom_59 (fun H locs hP hD hS => ?_)
  obtain ⟨g59, eg59⟩ : ∃ f : Nat → Int32, f = va_cpy kfso fso (0 : Int32).toNatClampNeg (0 : Int32).toNatClampNeg (600 : Int32).toNatClampNeg := ⟨_, rfl⟩
  rw [← eg59] at hP hD
  have hP : va_P D vwCl [(u0, .inr (5, [.int kzr, .ref u1, .ref u2, .ref u3])), (u1, .inl (cy 0, 60, .inl g23)), (u2, .inl (cy 0, 600, .inl g41)), (u3, .inl (cy 0, 600, .inl g59)), (ku0, .inr (5, [.int kzr, .ref ku1, .ref ku2, .ref ku3])), (ku1, .inl (cy 0, 60, .inl kfbe)), (ku2, .inl (cy 0, 600, .inl kfow)), (ku3, .inl (cy 0, 600, .inl kfso))] H := hP
  have hD : va_D A [(u0, .inr (5, [.int kzr, .ref u1, .ref u2, .ref u3])), (u1, .inl (cy 0, 60, .inl g23)), (u2, .inl (cy 0, 600, .inl g41)), (u3, .inl (cy 0, 600, .inl g59)), (ku0, .inr (5, [.int kzr, .ref ku1, .ref ku2, .ref ku3])), (ku1, .inl (cy 0, 60, .inl kfbe)), (ku2, .inl (cy 0, 600, .inl kfow)), (ku3, .inl (cy 0, 600, .inl kfso))] := hD
  exact r_v hx hb hr hlocks hK hS dX5_copyFrom_62 (u := (g23, g41, g59)) hP hD (⟨⟨cpy_at eg23, cpy_at eg41, cpy_at eg59⟩, v23_c⟩)

abbrev Q_c_X7_copyFrom (D : va_G) (cy : Nat → ClassId) (E : EN) (t0 : Nat) (t1 : Nat) (t2 : Nat) (t3 : Nat) (t4 : Nat) (t5 : Nat) (t6 : Nat) (kt0 : Nat) (kt1 : Nat) (kt2 : Nat) (kt3 : Nat) (kt4 : Nat) (kt5 : Nat) (kt6 : Nat) (zt : Int32) (kzt : Int32) (fda : Nat → Int32) (fbt : Nat → Int32) (ffr : Nat → Int32) (fto : Nat → Int32) (foc : Nat → Int32) (fgi : Nat → Int32) (kfda : Nat → Int32) (kfbt : Nat → Int32) (kffr : Nat → Int32) (kfto : Nat → Int32) (kfoc : Nat → Int32) (kfgi : Nat → Int32) : (Nat → Prop) → Array Value → State → Outcome → State → Prop := QV D cy (fun (u : (Nat → Int32) × (Nat → Int32) × (Nat → Int32) × (Nat → Int32) × (Nat → Int32) × (Nat → Int32)) => match u with | (nfda, nfbt, nffr, nfto, nfoc, nfgi) => (True) ∧ AllI nfda 300 0 59 ∧ AllI nfbt 300 0 9) (fun u : (Nat → Int32) × (Nat → Int32) × (Nat → Int32) × (Nat → Int32) × (Nat → Int32) × (Nat → Int32) => match u with | (nfda, nfbt, nffr, nfto, nfoc, nfgi) => [(t0, .inr (7, [.int kzt, .ref t1, .ref t2, .ref t3, .ref t4, .ref t5, .ref t6])), (t1, .inl (cy 0, 300, .inl nfda)), (t2, .inl (cy 0, 300, .inl nfbt)), (t3, .inl (cy 0, 300, .inl nffr)), (t4, .inl (cy 0, 300, .inl nfto)), (t5, .inl (cy 0, 300, .inl nfoc)), (t6, .inl (cy 0, 300, .inl nfgi)), (kt0, .inr (7, [.int kzt, .ref kt1, .ref kt2, .ref kt3, .ref kt4, .ref kt5, .ref kt6])), (kt1, .inl (cy 0, 300, .inl kfda)), (kt2, .inl (cy 0, 300, .inl kfbt)), (kt3, .inl (cy 0, 300, .inl kffr)), (kt4, .inl (cy 0, 300, .inl kfto)), (kt5, .inl (cy 0, 300, .inl kfoc)), (kt6, .inl (cy 0, 300, .inl kfgi))])
set_option maxHeartbeats 4000000 in
set_option maxRecDepth 100000 in
theorem c_X7_copyFrom (l : Launch) (D : va_G) (cy : Nat → ClassId) (E : EN) (t0 : Nat) (t1 : Nat) (t2 : Nat) (t3 : Nat) (t4 : Nat) (t5 : Nat) (t6 : Nat) (kt0 : Nat) (kt1 : Nat) (kt2 : Nat) (kt3 : Nat) (kt4 : Nat) (kt5 : Nat) (kt6 : Nat) (zt : Int32) (kzt : Int32) (fda : Nat → Int32) (fbt : Nat → Int32) (ffr : Nat → Int32) (fto : Nat → Int32) (foc : Nat → Int32) (fgi : Nat → Int32) (kfda : Nat → Int32) (kfbt : Nat → Int32) (kffr : Nat → Int32) (kfto : Nat → Int32) (kfoc : Nat → Int32) (kfgi : Nat → Int32) (sz : Nat) (hy : 0 ≤ kzt.toInt ∧ kzt.toInt ≤ 300) (hv_fda : AllI fda 300 0 59) (hv_fbt : AllI fbt 300 0 9) (hv_kfda : AllI kfda 300 0 59) (hv_kfbt : AllI kfbt 300 0 9) : Met l yX7_copyFrom wsX7_copyFrom ({ frames := 1, cells := 0, slots := 0, locals := 30 } : Room) (CP D cy E [.ref t0, .ref kt0] [(t0, .inr (7, [.int zt, .ref t1, .ref t2, .ref t3, .ref t4, .ref t5, .ref t6])), (t1, .inl (cy 0, 300, .inl fda)), (t2, .inl (cy 0, 300, .inl fbt)), (t3, .inl (cy 0, 300, .inl ffr)), (t4, .inl (cy 0, 300, .inl fto)), (t5, .inl (cy 0, 300, .inl foc)), (t6, .inl (cy 0, 300, .inl fgi)), (kt0, .inr (7, [.int kzt, .ref kt1, .ref kt2, .ref kt3, .ref kt4, .ref kt5, .ref kt6])), (kt1, .inl (cy 0, 300, .inl kfda)), (kt2, .inl (cy 0, 300, .inl kfbt)), (kt3, .inl (cy 0, 300, .inl kffr)), (kt4, .inl (cy 0, 300, .inl kfto)), (kt5, .inl (cy 0, 300, .inl kfoc)), (kt6, .inl (cy 0, 300, .inl kfgi))] sz) (Q_c_X7_copyFrom D cy E t0 t1 t2 t3 t4 t5 t6 kt0 kt1 kt2 kt3 kt4 kt5 kt6 zt kzt fda fbt ffr fto foc fgi kfda kfbt kffr kfto kfoc kfgi (va_A [(t0, .inr (7, [.int zt, .ref t1, .ref t2, .ref t3, .ref t4, .ref t5, .ref t6])), (t1, .inl (cy 0, 300, .inl fda)), (t2, .inl (cy 0, 300, .inl fbt)), (t3, .inl (cy 0, 300, .inl ffr)), (t4, .inl (cy 0, 300, .inl fto)), (t5, .inl (cy 0, 300, .inl foc)), (t6, .inl (cy 0, 300, .inl fgi)), (kt0, .inr (7, [.int kzt, .ref kt1, .ref kt2, .ref kt3, .ref kt4, .ref kt5, .ref kt6])), (kt1, .inl (cy 0, 300, .inl kfda)), (kt2, .inl (cy 0, 300, .inl kfbt)), (kt3, .inl (cy 0, 300, .inl kffr)), (kt4, .inl (cy 0, 300, .inl kfto)), (kt5, .inl (cy 0, 300, .inl kfoc)), (kt6, .inl (cy 0, 300, .inl kfgi))] sz)) 0 0 (va_A [(t0, .inr (7, [.int zt, .ref t1, .ref t2, .ref t3, .ref t4, .ref t5, .ref t6])), (t1, .inl (cy 0, 300, .inl fda)), (t2, .inl (cy 0, 300, .inl fbt)), (t3, .inl (cy 0, 300, .inl ffr)), (t4, .inl (cy 0, 300, .inl fto)), (t5, .inl (cy 0, 300, .inl foc)), (t6, .inl (cy 0, 300, .inl fgi)), (kt0, .inr (7, [.int kzt, .ref kt1, .ref kt2, .ref kt3, .ref kt4, .ref kt5, .ref kt6])), (kt1, .inl (cy 0, 300, .inl kfda)), (kt2, .inl (cy 0, 300, .inl kfbt)), (kt3, .inl (cy 0, 300, .inl kffr)), (kt4, .inl (cy 0, 300, .inl kfto)), (kt5, .inl (cy 0, 300, .inl kfoc)), (kt6, .inl (cy 0, 300, .inl kfgi))] sz) := by
  refine Met.go (Qc := Q_c_X7_copyFrom D cy E t0 t1 t2 t3 t4 t5 t6 kt0 kt1 kt2 kt3 kt4 kt5 kt6 zt kzt fda fbt ffr fto foc fgi kfda kfbt kffr kfto kfoc kfgi) (cc := cX7_copyFrom) (maxL := 2) (ret := none) (by decide) rfl (Nat.le_of_ble_eq_true rfl) ?_
  intro p e s m below meth c hx hb hr hts hown hlocks hin hml hK hN A hA hAB hD hP hS ls hl hsz
  have hl : lv_has ls 2 [(0, .ref t0), (1, .ref kt0)] := hl
  have in_X7 : ∀ w ∈ wsX70, w ∈ wsX7_copyFrom := fun _ h => List.mem_cons_of_mem _ ((List.mem_append_right _ h))
  have w_1 := hts (.fieldLink RX7 30 "SleepingCars$Tickets" "size" "I") (by decide +kernel)
  have w_2 := hts (.fieldLink RX7 9 "SleepingCars$Tickets" "days" "[I") (by decide +kernel)
  have w_3 := hts (.methodLink RX7 46 arraycopyName) (by decide +kernel)
  have w_4 := hts (.native arraycopyName) (by decide +kernel)
  have w_5 := hts (.static arraycopyName) (by decide +kernel)
  have w_6 := hts (.initialized "java/lang/System") (by decide +kernel)
  have w_7 := hts (.fieldLink RX7 15 "SleepingCars$Tickets" "berths" "[I") (by decide +kernel)
  have w_8 := hts (.fieldLink RX7 18 "SleepingCars$Tickets" "froms" "[I") (by decide +kernel)
  have w_9 := hts (.fieldLink RX7 21 "SleepingCars$Tickets" "tos" "[I") (by decide +kernel)
  have w_10 := hts (.fieldLink RX7 24 "SleepingCars$Tickets" "offices" "[I") (by decide +kernel)
  have w_11 := hts (.fieldLink RX7 27 "SleepingCars$Tickets" "given" "[I") (by decide +kernel)
  obtain ⟨H, eH⟩ : ∃ H : Heap, H = s.heap := ⟨_, rfl⟩
  obtain ⟨locs, eL⟩ : ∃ L : List Loc, L = [] := ⟨_, rfl⟩
  rw [← eL]
  rw [← eL] at hS
  have hP : va_P D vwCl [(t0, .inr (7, [.int zt, .ref t1, .ref t2, .ref t3, .ref t4, .ref t5, .ref t6])), (t1, .inl (cy 0, 300, .inl fda)), (t2, .inl (cy 0, 300, .inl fbt)), (t3, .inl (cy 0, 300, .inl ffr)), (t4, .inl (cy 0, 300, .inl fto)), (t5, .inl (cy 0, 300, .inl foc)), (t6, .inl (cy 0, 300, .inl fgi)), (kt0, .inr (7, [.int kzt, .ref kt1, .ref kt2, .ref kt3, .ref kt4, .ref kt5, .ref kt6])), (kt1, .inl (cy 0, 300, .inl kfda)), (kt2, .inl (cy 0, 300, .inl kfbt)), (kt3, .inl (cy 0, 300, .inl kffr)), (kt4, .inl (cy 0, 300, .inl kfto)), (kt5, .inl (cy 0, 300, .inl kfoc)), (kt6, .inl (cy 0, 300, .inl kfgi))] H := by rw [eH]; exact hP
  have hS : va_S A s.heap H locs := by rw [eH]; exact hS
  refine W.heapEq eH ?_
  clear eH eL
  refine lv_aload_n hx hb dX7_copyFrom_0 rfl (lv_at hl 0 rfl) ?_
  refine lv_aload_n hx hb dX7_copyFrom_1 rfl (lv_at hl 1 rfl) ?_
  refine va_get (D := D) (ci := 7) (v := .int kzt) (C := RX7) (T := TX7) (N := 7) hx hb hts in_X7 hown hK hP 7 rfl rfl 0 (by decide) w_1 (fun _ h9 => h9) rfl dX7_copyFrom_2 ?_
  refine va_put (D := D) (ci := 7) (v := .int kzt) (ty := .int) (C := RX7) (T := TX7) (N := 7) hx hb hts in_X7 tyX7 tyX7_ok nmX7 hown hK hP hD hS 0 rfl rfl 0 (by decide) w_1 (fun _ h9 => h9) rfl (by decide +kernel) rfl rfl (Nat.le_of_ble_eq_true rfl) dX7_copyFrom_5 (fun H locs hP hD hS => ?_)
  have hP : va_P D vwCl [(t0, .inr (7, [.int kzt, .ref t1, .ref t2, .ref t3, .ref t4, .ref t5, .ref t6])), (t1, .inl (cy 0, 300, .inl fda)), (t2, .inl (cy 0, 300, .inl fbt)), (t3, .inl (cy 0, 300, .inl ffr)), (t4, .inl (cy 0, 300, .inl fto)), (t5, .inl (cy 0, 300, .inl foc)), (t6, .inl (cy 0, 300, .inl fgi)), (kt0, .inr (7, [.int kzt, .ref kt1, .ref kt2, .ref kt3, .ref kt4, .ref kt5, .ref kt6])), (kt1, .inl (cy 0, 300, .inl kfda)), (kt2, .inl (cy 0, 300, .inl kfbt)), (kt3, .inl (cy 0, 300, .inl kffr)), (kt4, .inl (cy 0, 300, .inl kfto)), (kt5, .inl (cy 0, 300, .inl kfoc)), (kt6, .inl (cy 0, 300, .inl kfgi))] H := hP
  have hD : va_D A [(t0, .inr (7, [.int kzt, .ref t1, .ref t2, .ref t3, .ref t4, .ref t5, .ref t6])), (t1, .inl (cy 0, 300, .inl fda)), (t2, .inl (cy 0, 300, .inl fbt)), (t3, .inl (cy 0, 300, .inl ffr)), (t4, .inl (cy 0, 300, .inl fto)), (t5, .inl (cy 0, 300, .inl foc)), (t6, .inl (cy 0, 300, .inl fgi)), (kt0, .inr (7, [.int kzt, .ref kt1, .ref kt2, .ref kt3, .ref kt4, .ref kt5, .ref kt6])), (kt1, .inl (cy 0, 300, .inl kfda)), (kt2, .inl (cy 0, 300, .inl kfbt)), (kt3, .inl (cy 0, 300, .inl kffr)), (kt4, .inl (cy 0, 300, .inl kfto)), (kt5, .inl (cy 0, 300, .inl kfoc)), (kt6, .inl (cy 0, 300, .inl kfgi))] := hD
  refine lv_aload_n hx hb dX7_copyFrom_8 rfl (lv_at hl 1 rfl) ?_
  refine va_get (D := D) (ci := 7) (v := .ref kt1) (C := RX7) (T := TX7) (N := 7) hx hb hts in_X7 hown hK hP 7 rfl rfl 1 (by decide) w_2 (fun _ h9 => h9) rfl dX7_copyFrom_9 ?_
  refine lv_iconst (v := 0) hx hb dX7_copyFrom_12 (by decide) ?_
  refine lv_aload_n hx hb dX7_copyFrom_13 rfl (lv_at hl 0 rfl) ?_
  refine va_get (D := D) (ci := 7) (v := .ref t1) (C := RX7) (T := TX7) (N := 7) hx hb hts in_X7 hown hK hP 0 rfl rfl 1 (by decide) w_2 (fun _ h9 => h9) rfl dX7_copyFrom_14 ?_
  refine lv_iconst (v := 0) hx hb dX7_copyFrom_17 (by decide) ?_
  refine lv_aload_n hx hb dX7_copyFrom_18 rfl (lv_at hl 0 rfl) ?_
  refine va_get (D := D) (ci := 7) (v := .int kzt) (C := RX7) (T := TX7) (N := 7) hx hb hts in_X7 hown hK hP 0 rfl rfl 0 (by decide) w_1 (fun _ h9 => h9) rfl dX7_copyFrom_19 ?_
  refine va_copyi hx hb (hml.trans hl.1.symm) hown w_3 w_4 w_5 w_6 hK hP hD hS 8 1 0 0 rfl rfl rfl rfl rfl (by decide) (by decide) (q_nn (by omega)) (cl_le hy.2) (cl_le hy.2) (fun _ _ => rfl) (Nat.le_of_ble_eq_true rfl) (Nat.le_of_ble_eq_true rfl) dX7_copyFrom_22 (fun H locs hP hD hS => ?_)
  have v22_c : AllI (va_cpy kfda fda (0 : Int32).toNatClampNeg (0 : Int32).toNatClampNeg kzt.toNatClampNeg) 300 0 59 := allI_cpy hv_kfda hv_fda (cl_le hy.2)
  obtain ⟨g22, eg22⟩ : ∃ f : Nat → Int32, f = va_cpy kfda fda (0 : Int32).toNatClampNeg (0 : Int32).toNatClampNeg kzt.toNatClampNeg := ⟨_, rfl⟩
  rw [← eg22] at hP hD
  rw [← eg22] at v22_c
  have hP : va_P D vwCl [(t0, .inr (7, [.int kzt, .ref t1, .ref t2, .ref t3, .ref t4, .ref t5, .ref t6])), (t1, .inl (cy 0, 300, .inl g22)), (t2, .inl (cy 0, 300, .inl fbt)), (t3, .inl (cy 0, 300, .inl ffr)), (t4, .inl (cy 0, 300, .inl fto)), (t5, .inl (cy 0, 300, .inl foc)), (t6, .inl (cy 0, 300, .inl fgi)), (kt0, .inr (7, [.int kzt, .ref kt1, .ref kt2, .ref kt3, .ref kt4, .ref kt5, .ref kt6])), (kt1, .inl (cy 0, 300, .inl kfda)), (kt2, .inl (cy 0, 300, .inl kfbt)), (kt3, .inl (cy 0, 300, .inl kffr)), (kt4, .inl (cy 0, 300, .inl kfto)), (kt5, .inl (cy 0, 300, .inl kfoc)), (kt6, .inl (cy 0, 300, .inl kfgi))] H := hP
  have hD : va_D A [(t0, .inr (7, [.int kzt, .ref t1, .ref t2, .ref t3, .ref t4, .ref t5, .ref t6])), (t1, .inl (cy 0, 300, .inl g22)), (t2, .inl (cy 0, 300, .inl fbt)), (t3, .inl (cy 0, 300, .inl ffr)), (t4, .inl (cy 0, 300, .inl fto)), (t5, .inl (cy 0, 300, .inl foc)), (t6, .inl (cy 0, 300, .inl fgi)), (kt0, .inr (7, [.int kzt, .ref kt1, .ref kt2, .ref kt3, .ref kt4, .ref kt5, .ref kt6])), (kt1, .inl (cy 0, 300, .inl kfda)), (kt2, .inl (cy 0, 300, .inl kfbt)), (kt3, .inl (cy 0, 300, .inl kffr)), (kt4, .inl (cy 0, 300, .inl kfto)), (kt5, .inl (cy 0, 300, .inl kfoc)), (kt6, .inl (cy 0, 300, .inl kfgi))] := hD
  refine lv_aload_n hx hb dX7_copyFrom_25 rfl (lv_at hl 1 rfl) ?_
  refine va_get (D := D) (ci := 7) (v := .ref kt2) (C := RX7) (T := TX7) (N := 7) hx hb hts in_X7 hown hK hP 7 rfl rfl 2 (by decide) w_7 (fun _ h9 => h9) rfl dX7_copyFrom_26 ?_
  refine lv_iconst (v := 0) hx hb dX7_copyFrom_29 (by decide) ?_
  refine lv_aload_n hx hb dX7_copyFrom_30 rfl (lv_at hl 0 rfl) ?_
  refine va_get (D := D) (ci := 7) (v := .ref t2) (C := RX7) (T := TX7) (N := 7) hx hb hts in_X7 hown hK hP 0 rfl rfl 2 (by decide) w_7 (fun _ h9 => h9) rfl dX7_copyFrom_31 ?_
  refine lv_iconst (v := 0) hx hb dX7_copyFrom_34 (by decide) ?_
  refine lv_aload_n hx hb dX7_copyFrom_35 rfl (lv_at hl 0 rfl) ?_
  refine va_get (D := D) (ci := 7) (v := .int kzt) (C := RX7) (T := TX7) (N := 7) hx hb hts in_X7 hown hK hP 0 rfl rfl 0 (by decide) w_1 (fun _ h9 => h9) rfl dX7_copyFrom_36 ?_
  refine va_copyi hx hb (hml.trans hl.1.symm) hown w_3 w_4 w_5 w_6 hK hP hD hS 9 2 0 0 rfl rfl rfl rfl rfl (by decide) (by decide) (q_nn (by omega)) (cl_le hy.2) (cl_le hy.2) (fun _ _ => rfl) (Nat.le_of_ble_eq_true rfl) (Nat.le_of_ble_eq_true rfl) dX7_copyFrom_39 (fun H locs hP hD hS => ?_)
  have v39_c : AllI (va_cpy kfbt fbt (0 : Int32).toNatClampNeg (0 : Int32).toNatClampNeg kzt.toNatClampNeg) 300 0 9 := allI_cpy hv_kfbt hv_fbt (cl_le hy.2)
  obtain ⟨g39, eg39⟩ : ∃ f : Nat → Int32, f = va_cpy kfbt fbt (0 : Int32).toNatClampNeg (0 : Int32).toNatClampNeg kzt.toNatClampNeg := ⟨_, rfl⟩
  rw [← eg39] at hP hD
  rw [← eg39] at v39_c
  have hP : va_P D vwCl [(t0, .inr (7, [.int kzt, .ref t1, .ref t2, .ref t3, .ref t4, .ref t5, .ref t6])), (t1, .inl (cy 0, 300, .inl g22)), (t2, .inl (cy 0, 300, .inl g39)), (t3, .inl (cy 0, 300, .inl ffr)), (t4, .inl (cy 0, 300, .inl fto)), (t5, .inl (cy 0, 300, .inl foc)), (t6, .inl (cy 0, 300, .inl fgi)), (kt0, .inr (7, [.int kzt, .ref kt1, .ref kt2, .ref kt3, .ref kt4, .ref kt5, .ref kt6])), (kt1, .inl (cy 0, 300, .inl kfda)), (kt2, .inl (cy 0, 300, .inl kfbt)), (kt3, .inl (cy 0, 300, .inl kffr)), (kt4, .inl (cy 0, 300, .inl kfto)), (kt5, .inl (cy 0, 300, .inl kfoc)), (kt6, .inl (cy 0, 300, .inl kfgi))] H := hP
  have hD : va_D A [(t0, .inr (7, [.int kzt, .ref t1, .ref t2, .ref t3, .ref t4, .ref t5, .ref t6])), (t1, .inl (cy 0, 300, .inl g22)), (t2, .inl (cy 0, 300, .inl g39)), (t3, .inl (cy 0, 300, .inl ffr)), (t4, .inl (cy 0, 300, .inl fto)), (t5, .inl (cy 0, 300, .inl foc)), (t6, .inl (cy 0, 300, .inl fgi)), (kt0, .inr (7, [.int kzt, .ref kt1, .ref kt2, .ref kt3, .ref kt4, .ref kt5, .ref kt6])), (kt1, .inl (cy 0, 300, .inl kfda)), (kt2, .inl (cy 0, 300, .inl kfbt)), (kt3, .inl (cy 0, 300, .inl kffr)), (kt4, .inl (cy 0, 300, .inl kfto)), (kt5, .inl (cy 0, 300, .inl kfoc)), (kt6, .inl (cy 0, 300, .inl kfgi))] := hD
  refine lv_aload_n hx hb dX7_copyFrom_42 rfl (lv_at hl 1 rfl) ?_
  refine va_get (D := D) (ci := 7) (v := .ref kt3) (C := RX7) (T := TX7) (N := 7) hx hb hts in_X7 hown hK hP 7 rfl rfl 3 (by decide) w_8 (fun _ h9 => h9) rfl dX7_copyFrom_43 ?_
  refine lv_iconst (v := 0) hx hb dX7_copyFrom_46 (by decide) ?_
  refine lv_aload_n hx hb dX7_copyFrom_47 rfl (lv_at hl 0 rfl) ?_
  refine va_get (D := D) (ci := 7) (v := .ref t3) (C := RX7) (T := TX7) (N := 7) hx hb hts in_X7 hown hK hP 0 rfl rfl 3 (by decide) w_8 (fun _ h9 => h9) rfl dX7_copyFrom_48 ?_
  refine lv_iconst (v := 0) hx hb dX7_copyFrom_51 (by decide) ?_
  refine lv_aload_n hx hb dX7_copyFrom_52 rfl (lv_at hl 0 rfl) ?_
  refine va_get (D := D) (ci := 7) (v := .int kzt) (C := RX7) (T := TX7) (N := 7) hx hb hts in_X7 hown hK hP 0 rfl rfl 0 (by decide) w_1 (fun _ h9 => h9) rfl dX7_copyFrom_53 ?_
  refine va_copyi hx hb (hml.trans hl.1.symm) hown w_3 w_4 w_5 w_6 hK hP hD hS 10 3 0 0 rfl rfl rfl rfl rfl (by decide) (by decide) (q_nn (by omega)) (cl_le hy.2) (cl_le hy.2) (fun _ _ => rfl) (Nat.le_of_ble_eq_true rfl) (Nat.le_of_ble_eq_true rfl) dX7_copyFrom_56 (fun H locs hP hD hS => ?_)
  obtain ⟨g56, eg56⟩ : ∃ f : Nat → Int32, f = va_cpy kffr ffr (0 : Int32).toNatClampNeg (0 : Int32).toNatClampNeg kzt.toNatClampNeg := ⟨_, rfl⟩
  rw [← eg56] at hP hD
  have hP : va_P D vwCl [(t0, .inr (7, [.int kzt, .ref t1, .ref t2, .ref t3, .ref t4, .ref t5, .ref t6])), (t1, .inl (cy 0, 300, .inl g22)), (t2, .inl (cy 0, 300, .inl g39)), (t3, .inl (cy 0, 300, .inl g56)), (t4, .inl (cy 0, 300, .inl fto)), (t5, .inl (cy 0, 300, .inl foc)), (t6, .inl (cy 0, 300, .inl fgi)), (kt0, .inr (7, [.int kzt, .ref kt1, .ref kt2, .ref kt3, .ref kt4, .ref kt5, .ref kt6])), (kt1, .inl (cy 0, 300, .inl kfda)), (kt2, .inl (cy 0, 300, .inl kfbt)), (kt3, .inl (cy 0, 300, .inl kffr)), (kt4, .inl (cy 0, 300, .inl kfto)), (kt5, .inl (cy 0, 300, .inl kfoc)), (kt6, .inl (cy 0, 300, .inl kfgi))] H := hP
  have hD : va_D A [(t0, .inr (7, [.int kzt, .ref t1, .ref t2, .ref t3, .ref t4, .ref t5, .ref t6])), (t1, .inl (cy 0, 300, .inl g22)), (t2, .inl (cy 0, 300, .inl g39)), (t3, .inl (cy 0, 300, .inl g56)), (t4, .inl (cy 0, 300, .inl fto)), (t5, .inl (cy 0, 300, .inl foc)), (t6, .inl (cy 0, 300, .inl fgi)), (kt0, .inr (7, [.int kzt, .ref kt1, .ref kt2, .ref kt3, .ref kt4, .ref kt5, .ref kt6])), (kt1, .inl (cy 0, 300, .inl kfda)), (kt2, .inl (cy 0, 300, .inl kfbt)), (kt3, .inl (cy 0, 300, .inl kffr)), (kt4, .inl (cy 0, 300, .inl kfto)), (kt5, .inl (cy 0, 300, .inl kfoc)), (kt6, .inl (cy 0, 300, .inl kfgi))] := hD
  refine lv_aload_n hx hb dX7_copyFrom_59 rfl (lv_at hl 1 rfl) ?_
  refine va_get (D := D) (ci := 7) (v := .ref kt4) (C := RX7) (T := TX7) (N := 7) hx hb hts in_X7 hown hK hP 7 rfl rfl 4 (by decide) w_9 (fun _ h9 => h9) rfl dX7_copyFrom_60 ?_
  refine lv_iconst (v := 0) hx hb dX7_copyFrom_63 (by decide) ?_
  refine lv_aload_n hx hb dX7_copyFrom_64 rfl (lv_at hl 0 rfl) ?_
  refine va_get (D := D) (ci := 7) (v := .ref t4) (C := RX7) (T := TX7) (N := 7) hx hb hts in_X7 hown hK hP 0 rfl rfl 4 (by decide) w_9 (fun _ h9 => h9) rfl dX7_copyFrom_65 ?_
  refine lv_iconst (v := 0) hx hb dX7_copyFrom_68 (by decide) ?_
  refine lv_aload_n hx hb dX7_copyFrom_69 rfl (lv_at hl 0 rfl) ?_
  refine va_get (D := D) (ci := 7) (v := .int kzt) (C := RX7) (T := TX7) (N := 7) hx hb hts in_X7 hown hK hP 0 rfl rfl 0 (by decide) w_1 (fun _ h9 => h9) rfl dX7_copyFrom_70 ?_
  refine va_copyi hx hb (hml.trans hl.1.symm) hown w_3 w_4 w_5 w_6 hK hP hD hS 11 4 0 0 rfl rfl rfl rfl rfl (by decide) (by decide) (q_nn (by omega)) (cl_le hy.2) (cl_le hy.2) (fun _ _ => rfl) (Nat.le_of_ble_eq_true rfl) (Nat.le_of_ble_eq_true rfl) dX7_copyFrom_73 (fun H locs hP hD hS => ?_)
  obtain ⟨g73, eg73⟩ : ∃ f : Nat → Int32, f = va_cpy kfto fto (0 : Int32).toNatClampNeg (0 : Int32).toNatClampNeg kzt.toNatClampNeg := ⟨_, rfl⟩
  rw [← eg73] at hP hD
  have hP : va_P D vwCl [(t0, .inr (7, [.int kzt, .ref t1, .ref t2, .ref t3, .ref t4, .ref t5, .ref t6])), (t1, .inl (cy 0, 300, .inl g22)), (t2, .inl (cy 0, 300, .inl g39)), (t3, .inl (cy 0, 300, .inl g56)), (t4, .inl (cy 0, 300, .inl g73)), (t5, .inl (cy 0, 300, .inl foc)), (t6, .inl (cy 0, 300, .inl fgi)), (kt0, .inr (7, [.int kzt, .ref kt1, .ref kt2, .ref kt3, .ref kt4, .ref kt5, .ref kt6])), (kt1, .inl (cy 0, 300, .inl kfda)), (kt2, .inl (cy 0, 300, .inl kfbt)), (kt3, .inl (cy 0, 300, .inl kffr)), (kt4, .inl (cy 0, 300, .inl kfto)), (kt5, .inl (cy 0, 300, .inl kfoc)), (kt6, .inl (cy 0, 300, .inl kfgi))] H := hP
  have hD : va_D A [(t0, .inr (7, [.int kzt, .ref t1, .ref t2, .ref t3, .ref t4, .ref t5, .ref t6])), (t1, .inl (cy 0, 300, .inl g22)), (t2, .inl (cy 0, 300, .inl g39)), (t3, .inl (cy 0, 300, .inl g56)), (t4, .inl (cy 0, 300, .inl g73)), (t5, .inl (cy 0, 300, .inl foc)), (t6, .inl (cy 0, 300, .inl fgi)), (kt0, .inr (7, [.int kzt, .ref kt1, .ref kt2, .ref kt3, .ref kt4, .ref kt5, .ref kt6])), (kt1, .inl (cy 0, 300, .inl kfda)), (kt2, .inl (cy 0, 300, .inl kfbt)), (kt3, .inl (cy 0, 300, .inl kffr)), (kt4, .inl (cy 0, 300, .inl kfto)), (kt5, .inl (cy 0, 300, .inl kfoc)), (kt6, .inl (cy 0, 300, .inl kfgi))] := hD
  refine lv_aload_n hx hb dX7_copyFrom_76 rfl (lv_at hl 1 rfl) ?_
  refine va_get (D := D) (ci := 7) (v := .ref kt5) (C := RX7) (T := TX7) (N := 7) hx hb hts in_X7 hown hK hP 7 rfl rfl 5 (by decide) w_10 (fun _ h9 => h9) rfl dX7_copyFrom_77 ?_
  refine lv_iconst (v := 0) hx hb dX7_copyFrom_80 (by decide) ?_
  refine lv_aload_n hx hb dX7_copyFrom_81 rfl (lv_at hl 0 rfl) ?_
  refine va_get (D := D) (ci := 7) (v := .ref t5) (C := RX7) (T := TX7) (N := 7) hx hb hts in_X7 hown hK hP 0 rfl rfl 5 (by decide) w_10 (fun _ h9 => h9) rfl dX7_copyFrom_82 ?_
  refine lv_iconst (v := 0) hx hb dX7_copyFrom_85 (by decide) ?_
  refine lv_aload_n hx hb dX7_copyFrom_86 rfl (lv_at hl 0 rfl) ?_
  refine va_get (D := D) (ci := 7) (v := .int kzt) (C := RX7) (T := TX7) (N := 7) hx hb hts in_X7 hown hK hP 0 rfl rfl 0 (by decide) w_1 (fun _ h9 => h9) rfl dX7_copyFrom_87 ?_
  refine va_copyi hx hb (hml.trans hl.1.symm) hown w_3 w_4 w_5 w_6 hK hP hD hS 12 5 0 0 rfl rfl rfl rfl rfl (by decide) (by decide) (q_nn (by omega)) (cl_le hy.2) (cl_le hy.2) (fun _ _ => rfl) (Nat.le_of_ble_eq_true rfl) (Nat.le_of_ble_eq_true rfl) dX7_copyFrom_90 (fun H locs hP hD hS => ?_)
  obtain ⟨g90, eg90⟩ : ∃ f : Nat → Int32, f = va_cpy kfoc foc (0 : Int32).toNatClampNeg (0 : Int32).toNatClampNeg kzt.toNatClampNeg := ⟨_, rfl⟩
  rw [← eg90] at hP hD
  have hP : va_P D vwCl [(t0, .inr (7, [.int kzt, .ref t1, .ref t2, .ref t3, .ref t4, .ref t5, .ref t6])), (t1, .inl (cy 0, 300, .inl g22)), (t2, .inl (cy 0, 300, .inl g39)), (t3, .inl (cy 0, 300, .inl g56)), (t4, .inl (cy 0, 300, .inl g73)), (t5, .inl (cy 0, 300, .inl g90)), (t6, .inl (cy 0, 300, .inl fgi)), (kt0, .inr (7, [.int kzt, .ref kt1, .ref kt2, .ref kt3, .ref kt4, .ref kt5, .ref kt6])), (kt1, .inl (cy 0, 300, .inl kfda)), (kt2, .inl (cy 0, 300, .inl kfbt)), (kt3, .inl (cy 0, 300, .inl kffr)), (kt4, .inl (cy 0, 300, .inl kfto)), (kt5, .inl (cy 0, 300, .inl kfoc)), (kt6, .inl (cy 0, 300, .inl kfgi))] H := hP
  have hD : va_D A [(t0, .inr (7, [.int kzt, .ref t1, .ref t2, .ref t3, .ref t4, .ref t5, .ref t6])), (t1, .inl (cy 0, 300, .inl g22)), (t2, .inl (cy 0, 300, .inl g39)), (t3, .inl (cy 0, 300, .inl g56)), (t4, .inl (cy 0, 300, .inl g73)), (t5, .inl (cy 0, 300, .inl g90)), (t6, .inl (cy 0, 300, .inl fgi)), (kt0, .inr (7, [.int kzt, .ref kt1, .ref kt2, .ref kt3, .ref kt4, .ref kt5, .ref kt6])), (kt1, .inl (cy 0, 300, .inl kfda)), (kt2, .inl (cy 0, 300, .inl kfbt)), (kt3, .inl (cy 0, 300, .inl kffr)), (kt4, .inl (cy 0, 300, .inl kfto)), (kt5, .inl (cy 0, 300, .inl kfoc)), (kt6, .inl (cy 0, 300, .inl kfgi))] := hD
  refine lv_aload_n hx hb dX7_copyFrom_93 rfl (lv_at hl 1 rfl) ?_
  refine va_get (D := D) (ci := 7) (v := .ref kt6) (C := RX7) (T := TX7) (N := 7) hx hb hts in_X7 hown hK hP 7 rfl rfl 6 (by decide) w_11 (fun _ h9 => h9) rfl dX7_copyFrom_94 ?_
  refine lv_iconst (v := 0) hx hb dX7_copyFrom_97 (by decide) ?_
  refine lv_aload_n hx hb dX7_copyFrom_98 rfl (lv_at hl 0 rfl) ?_
  refine va_get (D := D) (ci := 7) (v := .ref t6) (C := RX7) (T := TX7) (N := 7) hx hb hts in_X7 hown hK hP 0 rfl rfl 6 (by decide) w_11 (fun _ h9 => h9) rfl dX7_copyFrom_99 ?_
  refine lv_iconst (v := 0) hx hb dX7_copyFrom_102 (by decide) ?_
  refine lv_aload_n hx hb dX7_copyFrom_103 rfl (lv_at hl 0 rfl) ?_
  refine va_get (D := D) (ci := 7) (v := .int kzt) (C := RX7) (T := TX7) (N := 7) hx hb hts in_X7 hown hK hP 0 rfl rfl 0 (by decide) w_1 (fun _ h9 => h9) rfl dX7_copyFrom_104 ?_
  refine va_copyi hx hb (hml.trans hl.1.symm) hown w_3 w_4 w_5 w_6 hK hP hD hS 13 6 0 0 rfl rfl rfl rfl rfl (by decide) (by decide) (q_nn (by omega)) (cl_le hy.2) (cl_le hy.2) (fun _ _ => rfl) (Nat.le_of_ble_eq_true rfl) (Nat.le_of_ble_eq_true rfl) dX7_copyFrom_107 (fun H locs hP hD hS => ?_)
  obtain ⟨g107, eg107⟩ : ∃ f : Nat → Int32, f = va_cpy kfgi fgi (0 : Int32).toNatClampNeg (0 : Int32).toNatClampNeg kzt.toNatClampNeg := ⟨_, rfl⟩
  rw [← eg107] at hP hD
  have hP : va_P D vwCl [(t0, .inr (7, [.int kzt, .ref t1, .ref t2, .ref t3, .ref t4, .ref t5, .ref t6])), (t1, .inl (cy 0, 300, .inl g22)), (t2, .inl (cy 0, 300, .inl g39)), (t3, .inl (cy 0, 300, .inl g56)), (t4, .inl (cy 0, 300, .inl g73)), (t5, .inl (cy 0, 300, .inl g90)), (t6, .inl (cy 0, 300, .inl g107)), (kt0, .inr (7, [.int kzt, .ref kt1, .ref kt2, .ref kt3, .ref kt4, .ref kt5, .ref kt6])), (kt1, .inl (cy 0, 300, .inl kfda)), (kt2, .inl (cy 0, 300, .inl kfbt)), (kt3, .inl (cy 0, 300, .inl kffr)), (kt4, .inl (cy 0, 300, .inl kfto)), (kt5, .inl (cy 0, 300, .inl kfoc)), (kt6, .inl (cy 0, 300, .inl kfgi))] H := hP
  have hD : va_D A [(t0, .inr (7, [.int kzt, .ref t1, .ref t2, .ref t3, .ref t4, .ref t5, .ref t6])), (t1, .inl (cy 0, 300, .inl g22)), (t2, .inl (cy 0, 300, .inl g39)), (t3, .inl (cy 0, 300, .inl g56)), (t4, .inl (cy 0, 300, .inl g73)), (t5, .inl (cy 0, 300, .inl g90)), (t6, .inl (cy 0, 300, .inl g107)), (kt0, .inr (7, [.int kzt, .ref kt1, .ref kt2, .ref kt3, .ref kt4, .ref kt5, .ref kt6])), (kt1, .inl (cy 0, 300, .inl kfda)), (kt2, .inl (cy 0, 300, .inl kfbt)), (kt3, .inl (cy 0, 300, .inl kffr)), (kt4, .inl (cy 0, 300, .inl kfto)), (kt5, .inl (cy 0, 300, .inl kfoc)), (kt6, .inl (cy 0, 300, .inl kfgi))] := hD
  exact r_v hx hb hr hlocks hK hS dX7_copyFrom_110 (u := (g22, g39, g56, g73, g90, g107)) hP hD (⟨trivial, v22_c, v39_c⟩)

abbrev Q_c_X1_copyFrom (D : va_G) (cy : Nat → ClassId) (E : EN) (l0 : Nat) (l1 : Nat) (l2 : Nat) (l3 : Nat) (l4 : Nat) (l5 : Nat) (l6 : Nat) (l7 : Nat) (kl0 : Nat) (kl1 : Nat) (kl2 : Nat) (kl3 : Nat) (kl4 : Nat) (kl5 : Nat) (kl6 : Nat) (kl7 : Nat) (zl : Int32) (kzl : Int32) (lof : Nat → Int32) (lda : Nat → Int32) (lfr : Nat → Int32) (lto : Nat → Int32) (lco : Nat → Int32) (lan : Nat → Int32) (lso : Nat → Int32) (klof : Nat → Int32) (klda : Nat → Int32) (klfr : Nat → Int32) (klto : Nat → Int32) (klco : Nat → Int32) (klan : Nat → Int32) (klso : Nat → Int32) : (Nat → Prop) → Array Value → State → Outcome → State → Prop := QV D cy (fun (u : (Nat → Int32) × (Nat → Int32) × (Nat → Int32) × (Nat → Int32) × (Nat → Int32) × (Nat → Int32) × (Nat → Int32)) => match u with | (nlof, nlda, nlfr, nlto, nlco, nlan, nlso) => (True) ∧ AllI nlda 100 0 59) (fun u : (Nat → Int32) × (Nat → Int32) × (Nat → Int32) × (Nat → Int32) × (Nat → Int32) × (Nat → Int32) × (Nat → Int32) => match u with | (nlof, nlda, nlfr, nlto, nlco, nlan, nlso) => [(l0, .inr (1, [.int kzl, .ref l1, .ref l2, .ref l3, .ref l4, .ref l5, .ref l6, .ref l7])), (l1, .inl (cy 0, 100, .inl nlof)), (l2, .inl (cy 0, 100, .inl nlda)), (l3, .inl (cy 0, 100, .inl nlfr)), (l4, .inl (cy 0, 100, .inl nlto)), (l5, .inl (cy 0, 100, .inl nlco)), (l6, .inl (cy 0, 100, .inl nlan)), (l7, .inl (cy 0, 100, .inl nlso)), (kl0, .inr (1, [.int kzl, .ref kl1, .ref kl2, .ref kl3, .ref kl4, .ref kl5, .ref kl6, .ref kl7])), (kl1, .inl (cy 0, 100, .inl klof)), (kl2, .inl (cy 0, 100, .inl klda)), (kl3, .inl (cy 0, 100, .inl klfr)), (kl4, .inl (cy 0, 100, .inl klto)), (kl5, .inl (cy 0, 100, .inl klco)), (kl6, .inl (cy 0, 100, .inl klan)), (kl7, .inl (cy 0, 100, .inl klso))])
set_option maxHeartbeats 4000000 in
set_option maxRecDepth 100000 in
theorem c_X1_copyFrom (l : Launch) (D : va_G) (cy : Nat → ClassId) (E : EN) (l0 : Nat) (l1 : Nat) (l2 : Nat) (l3 : Nat) (l4 : Nat) (l5 : Nat) (l6 : Nat) (l7 : Nat) (kl0 : Nat) (kl1 : Nat) (kl2 : Nat) (kl3 : Nat) (kl4 : Nat) (kl5 : Nat) (kl6 : Nat) (kl7 : Nat) (zl : Int32) (kzl : Int32) (lof : Nat → Int32) (lda : Nat → Int32) (lfr : Nat → Int32) (lto : Nat → Int32) (lco : Nat → Int32) (lan : Nat → Int32) (lso : Nat → Int32) (klof : Nat → Int32) (klda : Nat → Int32) (klfr : Nat → Int32) (klto : Nat → Int32) (klco : Nat → Int32) (klan : Nat → Int32) (klso : Nat → Int32) (sz : Nat) (hy : 0 ≤ kzl.toInt ∧ kzl.toInt ≤ 100) (hv_lda : AllI lda 100 0 59) (hv_klda : AllI klda 100 0 59) : Met l yX1_copyFrom wsX1_copyFrom ({ frames := 1, cells := 0, slots := 0, locals := 30 } : Room) (CP D cy E [.ref l0, .ref kl0] [(l0, .inr (1, [.int zl, .ref l1, .ref l2, .ref l3, .ref l4, .ref l5, .ref l6, .ref l7])), (l1, .inl (cy 0, 100, .inl lof)), (l2, .inl (cy 0, 100, .inl lda)), (l3, .inl (cy 0, 100, .inl lfr)), (l4, .inl (cy 0, 100, .inl lto)), (l5, .inl (cy 0, 100, .inl lco)), (l6, .inl (cy 0, 100, .inl lan)), (l7, .inl (cy 0, 100, .inl lso)), (kl0, .inr (1, [.int kzl, .ref kl1, .ref kl2, .ref kl3, .ref kl4, .ref kl5, .ref kl6, .ref kl7])), (kl1, .inl (cy 0, 100, .inl klof)), (kl2, .inl (cy 0, 100, .inl klda)), (kl3, .inl (cy 0, 100, .inl klfr)), (kl4, .inl (cy 0, 100, .inl klto)), (kl5, .inl (cy 0, 100, .inl klco)), (kl6, .inl (cy 0, 100, .inl klan)), (kl7, .inl (cy 0, 100, .inl klso))] sz) (Q_c_X1_copyFrom D cy E l0 l1 l2 l3 l4 l5 l6 l7 kl0 kl1 kl2 kl3 kl4 kl5 kl6 kl7 zl kzl lof lda lfr lto lco lan lso klof klda klfr klto klco klan klso (va_A [(l0, .inr (1, [.int zl, .ref l1, .ref l2, .ref l3, .ref l4, .ref l5, .ref l6, .ref l7])), (l1, .inl (cy 0, 100, .inl lof)), (l2, .inl (cy 0, 100, .inl lda)), (l3, .inl (cy 0, 100, .inl lfr)), (l4, .inl (cy 0, 100, .inl lto)), (l5, .inl (cy 0, 100, .inl lco)), (l6, .inl (cy 0, 100, .inl lan)), (l7, .inl (cy 0, 100, .inl lso)), (kl0, .inr (1, [.int kzl, .ref kl1, .ref kl2, .ref kl3, .ref kl4, .ref kl5, .ref kl6, .ref kl7])), (kl1, .inl (cy 0, 100, .inl klof)), (kl2, .inl (cy 0, 100, .inl klda)), (kl3, .inl (cy 0, 100, .inl klfr)), (kl4, .inl (cy 0, 100, .inl klto)), (kl5, .inl (cy 0, 100, .inl klco)), (kl6, .inl (cy 0, 100, .inl klan)), (kl7, .inl (cy 0, 100, .inl klso))] sz)) 0 0 (va_A [(l0, .inr (1, [.int zl, .ref l1, .ref l2, .ref l3, .ref l4, .ref l5, .ref l6, .ref l7])), (l1, .inl (cy 0, 100, .inl lof)), (l2, .inl (cy 0, 100, .inl lda)), (l3, .inl (cy 0, 100, .inl lfr)), (l4, .inl (cy 0, 100, .inl lto)), (l5, .inl (cy 0, 100, .inl lco)), (l6, .inl (cy 0, 100, .inl lan)), (l7, .inl (cy 0, 100, .inl lso)), (kl0, .inr (1, [.int kzl, .ref kl1, .ref kl2, .ref kl3, .ref kl4, .ref kl5, .ref kl6, .ref kl7])), (kl1, .inl (cy 0, 100, .inl klof)), (kl2, .inl (cy 0, 100, .inl klda)), (kl3, .inl (cy 0, 100, .inl klfr)), (kl4, .inl (cy 0, 100, .inl klto)), (kl5, .inl (cy 0, 100, .inl klco)), (kl6, .inl (cy 0, 100, .inl klan)), (kl7, .inl (cy 0, 100, .inl klso))] sz) := by
  refine Met.go (Qc := Q_c_X1_copyFrom D cy E l0 l1 l2 l3 l4 l5 l6 l7 kl0 kl1 kl2 kl3 kl4 kl5 kl6 kl7 zl kzl lof lda lfr lto lco lan lso klof klda klfr klto klco klan klso) (cc := cX1_copyFrom) (maxL := 2) (ret := none) (by decide) rfl (Nat.le_of_ble_eq_true rfl) ?_
  intro p e s m below meth c hx hb hr hts hown hlocks hin hml hK hN A hA hAB hD hP hS ls hl hsz
  have hl : lv_has ls 2 [(0, .ref l0), (1, .ref kl0)] := hl
  have in_X1 : ∀ w ∈ wsX10, w ∈ wsX1_copyFrom := fun _ h => List.mem_cons_of_mem _ ((List.mem_append_right _ h))
  have w_1 := hts (.fieldLink RX1 33 "SleepingCars$Letters" "size" "I") (by decide +kernel)
  have w_2 := hts (.fieldLink RX1 9 "SleepingCars$Letters" "offices" "[I") (by decide +kernel)
  have w_3 := hts (.methodLink RX1 37 arraycopyName) (by decide +kernel)
  have w_4 := hts (.native arraycopyName) (by decide +kernel)
  have w_5 := hts (.static arraycopyName) (by decide +kernel)
  have w_6 := hts (.initialized "java/lang/System") (by decide +kernel)
  have w_7 := hts (.fieldLink RX1 15 "SleepingCars$Letters" "days" "[I") (by decide +kernel)
  have w_8 := hts (.fieldLink RX1 18 "SleepingCars$Letters" "froms" "[I") (by decide +kernel)
  have w_9 := hts (.fieldLink RX1 21 "SleepingCars$Letters" "tos" "[I") (by decide +kernel)
  have w_10 := hts (.fieldLink RX1 24 "SleepingCars$Letters" "comes" "[I") (by decide +kernel)
  have w_11 := hts (.fieldLink RX1 27 "SleepingCars$Letters" "answered" "[I") (by decide +kernel)
  have w_12 := hts (.fieldLink RX1 30 "SleepingCars$Letters" "sold" "[I") (by decide +kernel)
  obtain ⟨H, eH⟩ : ∃ H : Heap, H = s.heap := ⟨_, rfl⟩
  obtain ⟨locs, eL⟩ : ∃ L : List Loc, L = [] := ⟨_, rfl⟩
  rw [← eL]
  rw [← eL] at hS
  have hP : va_P D vwCl [(l0, .inr (1, [.int zl, .ref l1, .ref l2, .ref l3, .ref l4, .ref l5, .ref l6, .ref l7])), (l1, .inl (cy 0, 100, .inl lof)), (l2, .inl (cy 0, 100, .inl lda)), (l3, .inl (cy 0, 100, .inl lfr)), (l4, .inl (cy 0, 100, .inl lto)), (l5, .inl (cy 0, 100, .inl lco)), (l6, .inl (cy 0, 100, .inl lan)), (l7, .inl (cy 0, 100, .inl lso)), (kl0, .inr (1, [.int kzl, .ref kl1, .ref kl2, .ref kl3, .ref kl4, .ref kl5, .ref kl6, .ref kl7])), (kl1, .inl (cy 0, 100, .inl klof)), (kl2, .inl (cy 0, 100, .inl klda)), (kl3, .inl (cy 0, 100, .inl klfr)), (kl4, .inl (cy 0, 100, .inl klto)), (kl5, .inl (cy 0, 100, .inl klco)), (kl6, .inl (cy 0, 100, .inl klan)), (kl7, .inl (cy 0, 100, .inl klso))] H := by rw [eH]; exact hP
  have hS : va_S A s.heap H locs := by rw [eH]; exact hS
  refine W.heapEq eH ?_
  clear eH eL
  refine lv_aload_n hx hb dX1_copyFrom_0 rfl (lv_at hl 0 rfl) ?_
  refine lv_aload_n hx hb dX1_copyFrom_1 rfl (lv_at hl 1 rfl) ?_
  refine va_get (D := D) (ci := 1) (v := .int kzl) (C := RX1) (T := TX1) (N := 8) hx hb hts in_X1 hown hK hP 8 rfl rfl 0 (by decide) w_1 (fun _ h9 => h9) rfl dX1_copyFrom_2 ?_
  refine va_put (D := D) (ci := 1) (v := .int kzl) (ty := .int) (C := RX1) (T := TX1) (N := 8) hx hb hts in_X1 tyX1 tyX1_ok nmX1 hown hK hP hD hS 0 rfl rfl 0 (by decide) w_1 (fun _ h9 => h9) rfl (by decide +kernel) rfl rfl (Nat.le_of_ble_eq_true rfl) dX1_copyFrom_5 (fun H locs hP hD hS => ?_)
  have hP : va_P D vwCl [(l0, .inr (1, [.int kzl, .ref l1, .ref l2, .ref l3, .ref l4, .ref l5, .ref l6, .ref l7])), (l1, .inl (cy 0, 100, .inl lof)), (l2, .inl (cy 0, 100, .inl lda)), (l3, .inl (cy 0, 100, .inl lfr)), (l4, .inl (cy 0, 100, .inl lto)), (l5, .inl (cy 0, 100, .inl lco)), (l6, .inl (cy 0, 100, .inl lan)), (l7, .inl (cy 0, 100, .inl lso)), (kl0, .inr (1, [.int kzl, .ref kl1, .ref kl2, .ref kl3, .ref kl4, .ref kl5, .ref kl6, .ref kl7])), (kl1, .inl (cy 0, 100, .inl klof)), (kl2, .inl (cy 0, 100, .inl klda)), (kl3, .inl (cy 0, 100, .inl klfr)), (kl4, .inl (cy 0, 100, .inl klto)), (kl5, .inl (cy 0, 100, .inl klco)), (kl6, .inl (cy 0, 100, .inl klan)), (kl7, .inl (cy 0, 100, .inl klso))] H := hP
  have hD : va_D A [(l0, .inr (1, [.int kzl, .ref l1, .ref l2, .ref l3, .ref l4, .ref l5, .ref l6, .ref l7])), (l1, .inl (cy 0, 100, .inl lof)), (l2, .inl (cy 0, 100, .inl lda)), (l3, .inl (cy 0, 100, .inl lfr)), (l4, .inl (cy 0, 100, .inl lto)), (l5, .inl (cy 0, 100, .inl lco)), (l6, .inl (cy 0, 100, .inl lan)), (l7, .inl (cy 0, 100, .inl lso)), (kl0, .inr (1, [.int kzl, .ref kl1, .ref kl2, .ref kl3, .ref kl4, .ref kl5, .ref kl6, .ref kl7])), (kl1, .inl (cy 0, 100, .inl klof)), (kl2, .inl (cy 0, 100, .inl klda)), (kl3, .inl (cy 0, 100, .inl klfr)), (kl4, .inl (cy 0, 100, .inl klto)), (kl5, .inl (cy 0, 100, .inl klco)), (kl6, .inl (cy 0, 100, .inl klan)), (kl7, .inl (cy 0, 100, .inl klso))] := hD
  refine lv_aload_n hx hb dX1_copyFrom_8 rfl (lv_at hl 1 rfl) ?_
  refine va_get (D := D) (ci := 1) (v := .ref kl1) (C := RX1) (T := TX1) (N := 8) hx hb hts in_X1 hown hK hP 8 rfl rfl 1 (by decide) w_2 (fun _ h9 => h9) rfl dX1_copyFrom_9 ?_
  refine lv_iconst (v := 0) hx hb dX1_copyFrom_12 (by decide) ?_
  refine lv_aload_n hx hb dX1_copyFrom_13 rfl (lv_at hl 0 rfl) ?_
  refine va_get (D := D) (ci := 1) (v := .ref l1) (C := RX1) (T := TX1) (N := 8) hx hb hts in_X1 hown hK hP 0 rfl rfl 1 (by decide) w_2 (fun _ h9 => h9) rfl dX1_copyFrom_14 ?_
  refine lv_iconst (v := 0) hx hb dX1_copyFrom_17 (by decide) ?_
  refine lv_aload_n hx hb dX1_copyFrom_18 rfl (lv_at hl 0 rfl) ?_
  refine va_get (D := D) (ci := 1) (v := .int kzl) (C := RX1) (T := TX1) (N := 8) hx hb hts in_X1 hown hK hP 0 rfl rfl 0 (by decide) w_1 (fun _ h9 => h9) rfl dX1_copyFrom_19 ?_
  refine va_copyi hx hb (hml.trans hl.1.symm) hown w_3 w_4 w_5 w_6 hK hP hD hS 9 1 0 0 rfl rfl rfl rfl rfl (by decide) (by decide) (q_nn (by omega)) (cl_le hy.2) (cl_le hy.2) (fun _ _ => rfl) (Nat.le_of_ble_eq_true rfl) (Nat.le_of_ble_eq_true rfl) dX1_copyFrom_22 (fun H locs hP hD hS => ?_)
  obtain ⟨g22, eg22⟩ : ∃ f : Nat → Int32, f = va_cpy klof lof (0 : Int32).toNatClampNeg (0 : Int32).toNatClampNeg kzl.toNatClampNeg := ⟨_, rfl⟩
  rw [← eg22] at hP hD
  have hP : va_P D vwCl [(l0, .inr (1, [.int kzl, .ref l1, .ref l2, .ref l3, .ref l4, .ref l5, .ref l6, .ref l7])), (l1, .inl (cy 0, 100, .inl g22)), (l2, .inl (cy 0, 100, .inl lda)), (l3, .inl (cy 0, 100, .inl lfr)), (l4, .inl (cy 0, 100, .inl lto)), (l5, .inl (cy 0, 100, .inl lco)), (l6, .inl (cy 0, 100, .inl lan)), (l7, .inl (cy 0, 100, .inl lso)), (kl0, .inr (1, [.int kzl, .ref kl1, .ref kl2, .ref kl3, .ref kl4, .ref kl5, .ref kl6, .ref kl7])), (kl1, .inl (cy 0, 100, .inl klof)), (kl2, .inl (cy 0, 100, .inl klda)), (kl3, .inl (cy 0, 100, .inl klfr)), (kl4, .inl (cy 0, 100, .inl klto)), (kl5, .inl (cy 0, 100, .inl klco)), (kl6, .inl (cy 0, 100, .inl klan)), (kl7, .inl (cy 0, 100, .inl klso))] H := hP
  have hD : va_D A [(l0, .inr (1, [.int kzl, .ref l1, .ref l2, .ref l3, .ref l4, .ref l5, .ref l6, .ref l7])), (l1, .inl (cy 0, 100, .inl g22)), (l2, .inl (cy 0, 100, .inl lda)), (l3, .inl (cy 0, 100, .inl lfr)), (l4, .inl (cy 0, 100, .inl lto)), (l5, .inl (cy 0, 100, .inl lco)), (l6, .inl (cy 0, 100, .inl lan)), (l7, .inl (cy 0, 100, .inl lso)), (kl0, .inr (1, [.int kzl, .ref kl1, .ref kl2, .ref kl3, .ref kl4, .ref kl5, .ref kl6, .ref kl7])), (kl1, .inl (cy 0, 100, .inl klof)), (kl2, .inl (cy 0, 100, .inl klda)), (kl3, .inl (cy 0, 100, .inl klfr)), (kl4, .inl (cy 0, 100, .inl klto)), (kl5, .inl (cy 0, 100, .inl klco)), (kl6, .inl (cy 0, 100, .inl klan)), (kl7, .inl (cy 0, 100, .inl klso))] := hD
  refine lv_aload_n hx hb dX1_copyFrom_25 rfl (lv_at hl 1 rfl) ?_
  refine va_get (D := D) (ci := 1) (v := .ref kl2) (C := RX1) (T := TX1) (N := 8) hx hb hts in_X1 hown hK hP 8 rfl rfl 2 (by decide) w_7 (fun _ h9 => h9) rfl dX1_copyFrom_26 ?_
  refine lv_iconst (v := 0) hx hb dX1_copyFrom_29 (by decide) ?_
  refine lv_aload_n hx hb dX1_copyFrom_30 rfl (lv_at hl 0 rfl) ?_
  refine va_get (D := D) (ci := 1) (v := .ref l2) (C := RX1) (T := TX1) (N := 8) hx hb hts in_X1 hown hK hP 0 rfl rfl 2 (by decide) w_7 (fun _ h9 => h9) rfl dX1_copyFrom_31 ?_
  refine lv_iconst (v := 0) hx hb dX1_copyFrom_34 (by decide) ?_
  refine lv_aload_n hx hb dX1_copyFrom_35 rfl (lv_at hl 0 rfl) ?_
  refine va_get (D := D) (ci := 1) (v := .int kzl) (C := RX1) (T := TX1) (N := 8) hx hb hts in_X1 hown hK hP 0 rfl rfl 0 (by decide) w_1 (fun _ h9 => h9) rfl dX1_copyFrom_36 ?_
  refine va_copyi hx hb (hml.trans hl.1.symm) hown w_3 w_4 w_5 w_6 hK hP hD hS 10 2 0 0 rfl rfl rfl rfl rfl (by decide) (by decide) (q_nn (by omega)) (cl_le hy.2) (cl_le hy.2) (fun _ _ => rfl) (Nat.le_of_ble_eq_true rfl) (Nat.le_of_ble_eq_true rfl) dX1_copyFrom_39 (fun H locs hP hD hS => ?_)
  have v39_c : AllI (va_cpy klda lda (0 : Int32).toNatClampNeg (0 : Int32).toNatClampNeg kzl.toNatClampNeg) 100 0 59 := allI_cpy hv_klda hv_lda (cl_le hy.2)
  obtain ⟨g39, eg39⟩ : ∃ f : Nat → Int32, f = va_cpy klda lda (0 : Int32).toNatClampNeg (0 : Int32).toNatClampNeg kzl.toNatClampNeg := ⟨_, rfl⟩
  rw [← eg39] at hP hD
  rw [← eg39] at v39_c
  have hP : va_P D vwCl [(l0, .inr (1, [.int kzl, .ref l1, .ref l2, .ref l3, .ref l4, .ref l5, .ref l6, .ref l7])), (l1, .inl (cy 0, 100, .inl g22)), (l2, .inl (cy 0, 100, .inl g39)), (l3, .inl (cy 0, 100, .inl lfr)), (l4, .inl (cy 0, 100, .inl lto)), (l5, .inl (cy 0, 100, .inl lco)), (l6, .inl (cy 0, 100, .inl lan)), (l7, .inl (cy 0, 100, .inl lso)), (kl0, .inr (1, [.int kzl, .ref kl1, .ref kl2, .ref kl3, .ref kl4, .ref kl5, .ref kl6, .ref kl7])), (kl1, .inl (cy 0, 100, .inl klof)), (kl2, .inl (cy 0, 100, .inl klda)), (kl3, .inl (cy 0, 100, .inl klfr)), (kl4, .inl (cy 0, 100, .inl klto)), (kl5, .inl (cy 0, 100, .inl klco)), (kl6, .inl (cy 0, 100, .inl klan)), (kl7, .inl (cy 0, 100, .inl klso))] H := hP
  have hD : va_D A [(l0, .inr (1, [.int kzl, .ref l1, .ref l2, .ref l3, .ref l4, .ref l5, .ref l6, .ref l7])), (l1, .inl (cy 0, 100, .inl g22)), (l2, .inl (cy 0, 100, .inl g39)), (l3, .inl (cy 0, 100, .inl lfr)), (l4, .inl (cy 0, 100, .inl lto)), (l5, .inl (cy 0, 100, .inl lco)), (l6, .inl (cy 0, 100, .inl lan)), (l7, .inl (cy 0, 100, .inl lso)), (kl0, .inr (1, [.int kzl, .ref kl1, .ref kl2, .ref kl3, .ref kl4, .ref kl5, .ref kl6, .ref kl7])), (kl1, .inl (cy 0, 100, .inl klof)), (kl2, .inl (cy 0, 100, .inl klda)), (kl3, .inl (cy 0, 100, .inl klfr)), (kl4, .inl (cy 0, 100, .inl klto)), (kl5, .inl (cy 0, 100, .inl klco)), (kl6, .inl (cy 0, 100, .inl klan)), (kl7, .inl (cy 0, 100, .inl klso))] := hD
  refine lv_aload_n hx hb dX1_copyFrom_42 rfl (lv_at hl 1 rfl) ?_
  refine va_get (D := D) (ci := 1) (v := .ref kl3) (C := RX1) (T := TX1) (N := 8) hx hb hts in_X1 hown hK hP 8 rfl rfl 3 (by decide) w_8 (fun _ h9 => h9) rfl dX1_copyFrom_43 ?_
  refine lv_iconst (v := 0) hx hb dX1_copyFrom_46 (by decide) ?_
  refine lv_aload_n hx hb dX1_copyFrom_47 rfl (lv_at hl 0 rfl) ?_
  refine va_get (D := D) (ci := 1) (v := .ref l3) (C := RX1) (T := TX1) (N := 8) hx hb hts in_X1 hown hK hP 0 rfl rfl 3 (by decide) w_8 (fun _ h9 => h9) rfl dX1_copyFrom_48 ?_
  refine lv_iconst (v := 0) hx hb dX1_copyFrom_51 (by decide) ?_
  refine lv_aload_n hx hb dX1_copyFrom_52 rfl (lv_at hl 0 rfl) ?_
  refine va_get (D := D) (ci := 1) (v := .int kzl) (C := RX1) (T := TX1) (N := 8) hx hb hts in_X1 hown hK hP 0 rfl rfl 0 (by decide) w_1 (fun _ h9 => h9) rfl dX1_copyFrom_53 ?_
  refine va_copyi hx hb (hml.trans hl.1.symm) hown w_3 w_4 w_5 w_6 hK hP hD hS 11 3 0 0 rfl rfl rfl rfl rfl (by decide) (by decide) (q_nn (by omega)) (cl_le hy.2) (cl_le hy.2) (fun _ _ => rfl) (Nat.le_of_ble_eq_true rfl) (Nat.le_of_ble_eq_true rfl) dX1_copyFrom_56 (fun H locs hP hD hS => ?_)
  obtain ⟨g56, eg56⟩ : ∃ f : Nat → Int32, f = va_cpy klfr lfr (0 : Int32).toNatClampNeg (0 : Int32).toNatClampNeg kzl.toNatClampNeg := ⟨_, rfl⟩
  rw [← eg56] at hP hD
  have hP : va_P D vwCl [(l0, .inr (1, [.int kzl, .ref l1, .ref l2, .ref l3, .ref l4, .ref l5, .ref l6, .ref l7])), (l1, .inl (cy 0, 100, .inl g22)), (l2, .inl (cy 0, 100, .inl g39)), (l3, .inl (cy 0, 100, .inl g56)), (l4, .inl (cy 0, 100, .inl lto)), (l5, .inl (cy 0, 100, .inl lco)), (l6, .inl (cy 0, 100, .inl lan)), (l7, .inl (cy 0, 100, .inl lso)), (kl0, .inr (1, [.int kzl, .ref kl1, .ref kl2, .ref kl3, .ref kl4, .ref kl5, .ref kl6, .ref kl7])), (kl1, .inl (cy 0, 100, .inl klof)), (kl2, .inl (cy 0, 100, .inl klda)), (kl3, .inl (cy 0, 100, .inl klfr)), (kl4, .inl (cy 0, 100, .inl klto)), (kl5, .inl (cy 0, 100, .inl klco)), (kl6, .inl (cy 0, 100, .inl klan)), (kl7, .inl (cy 0, 100, .inl klso))] H := hP
  have hD : va_D A [(l0, .inr (1, [.int kzl, .ref l1, .ref l2, .ref l3, .ref l4, .ref l5, .ref l6, .ref l7])), (l1, .inl (cy 0, 100, .inl g22)), (l2, .inl (cy 0, 100, .inl g39)), (l3, .inl (cy 0, 100, .inl g56)), (l4, .inl (cy 0, 100, .inl lto)), (l5, .inl (cy 0, 100, .inl lco)), (l6, .inl (cy 0, 100, .inl lan)), (l7, .inl (cy 0, 100, .inl lso)), (kl0, .inr (1, [.int kzl, .ref kl1, .ref kl2, .ref kl3, .ref kl4, .ref kl5, .ref kl6, .ref kl7])), (kl1, .inl (cy 0, 100, .inl klof)), (kl2, .inl (cy 0, 100, .inl klda)), (kl3, .inl (cy 0, 100, .inl klfr)), (kl4, .inl (cy 0, 100, .inl klto)), (kl5, .inl (cy 0, 100, .inl klco)), (kl6, .inl (cy 0, 100, .inl klan)), (kl7, .inl (cy 0, 100, .inl klso))] := hD
  refine lv_aload_n hx hb dX1_copyFrom_59 rfl (lv_at hl 1 rfl) ?_
  refine va_get (D := D) (ci := 1) (v := .ref kl4) (C := RX1) (T := TX1) (N := 8) hx hb hts in_X1 hown hK hP 8 rfl rfl 4 (by decide) w_9 (fun _ h9 => h9) rfl dX1_copyFrom_60 ?_
  refine lv_iconst (v := 0) hx hb dX1_copyFrom_63 (by decide) ?_
  refine lv_aload_n hx hb dX1_copyFrom_64 rfl (lv_at hl 0 rfl) ?_
  refine va_get (D := D) (ci := 1) (v := .ref l4) (C := RX1) (T := TX1) (N := 8) hx hb hts in_X1 hown hK hP 0 rfl rfl 4 (by decide) w_9 (fun _ h9 => h9) rfl dX1_copyFrom_65 ?_
  refine lv_iconst (v := 0) hx hb dX1_copyFrom_68 (by decide) ?_
  refine lv_aload_n hx hb dX1_copyFrom_69 rfl (lv_at hl 0 rfl) ?_
  refine va_get (D := D) (ci := 1) (v := .int kzl) (C := RX1) (T := TX1) (N := 8) hx hb hts in_X1 hown hK hP 0 rfl rfl 0 (by decide) w_1 (fun _ h9 => h9) rfl dX1_copyFrom_70 ?_
  refine va_copyi hx hb (hml.trans hl.1.symm) hown w_3 w_4 w_5 w_6 hK hP hD hS 12 4 0 0 rfl rfl rfl rfl rfl (by decide) (by decide) (q_nn (by omega)) (cl_le hy.2) (cl_le hy.2) (fun _ _ => rfl) (Nat.le_of_ble_eq_true rfl) (Nat.le_of_ble_eq_true rfl) dX1_copyFrom_73 (fun H locs hP hD hS => ?_)
  obtain ⟨g73, eg73⟩ : ∃ f : Nat → Int32, f = va_cpy klto lto (0 : Int32).toNatClampNeg (0 : Int32).toNatClampNeg kzl.toNatClampNeg := ⟨_, rfl⟩
  rw [← eg73] at hP hD
  have hP : va_P D vwCl [(l0, .inr (1, [.int kzl, .ref l1, .ref l2, .ref l3, .ref l4, .ref l5, .ref l6, .ref l7])), (l1, .inl (cy 0, 100, .inl g22)), (l2, .inl (cy 0, 100, .inl g39)), (l3, .inl (cy 0, 100, .inl g56)), (l4, .inl (cy 0, 100, .inl g73)), (l5, .inl (cy 0, 100, .inl lco)), (l6, .inl (cy 0, 100, .inl lan)), (l7, .inl (cy 0, 100, .inl lso)), (kl0, .inr (1, [.int kzl, .ref kl1, .ref kl2, .ref kl3, .ref kl4, .ref kl5, .ref kl6, .ref kl7])), (kl1, .inl (cy 0, 100, .inl klof)), (kl2, .inl (cy 0, 100, .inl klda)), (kl3, .inl (cy 0, 100, .inl klfr)), (kl4, .inl (cy 0, 100, .inl klto)), (kl5, .inl (cy 0, 100, .inl klco)), (kl6, .inl (cy 0, 100, .inl klan)), (kl7, .inl (cy 0, 100, .inl klso))] H := hP
  have hD : va_D A [(l0, .inr (1, [.int kzl, .ref l1, .ref l2, .ref l3, .ref l4, .ref l5, .ref l6, .ref l7])), (l1, .inl (cy 0, 100, .inl g22)), (l2, .inl (cy 0, 100, .inl g39)), (l3, .inl (cy 0, 100, .inl g56)), (l4, .inl (cy 0, 100, .inl g73)), (l5, .inl (cy 0, 100, .inl lco)), (l6, .inl (cy 0, 100, .inl lan)), (l7, .inl (cy 0, 100, .inl lso)), (kl0, .inr (1, [.int kzl, .ref kl1, .ref kl2, .ref kl3, .ref kl4, .ref kl5, .ref kl6, .ref kl7])), (kl1, .inl (cy 0, 100, .inl klof)), (kl2, .inl (cy 0, 100, .inl klda)), (kl3, .inl (cy 0, 100, .inl klfr)), (kl4, .inl (cy 0, 100, .inl klto)), (kl5, .inl (cy 0, 100, .inl klco)), (kl6, .inl (cy 0, 100, .inl klan)), (kl7, .inl (cy 0, 100, .inl klso))] := hD
  refine lv_aload_n hx hb dX1_copyFrom_76 rfl (lv_at hl 1 rfl) ?_
  refine va_get (D := D) (ci := 1) (v := .ref kl5) (C := RX1) (T := TX1) (N := 8) hx hb hts in_X1 hown hK hP 8 rfl rfl 5 (by decide) w_10 (fun _ h9 => h9) rfl dX1_copyFrom_77 ?_
  refine lv_iconst (v := 0) hx hb dX1_copyFrom_80 (by decide) ?_
  refine lv_aload_n hx hb dX1_copyFrom_81 rfl (lv_at hl 0 rfl) ?_
  refine va_get (D := D) (ci := 1) (v := .ref l5) (C := RX1) (T := TX1) (N := 8) hx hb hts in_X1 hown hK hP 0 rfl rfl 5 (by decide) w_10 (fun _ h9 => h9) rfl dX1_copyFrom_82 ?_
  refine lv_iconst (v := 0) hx hb dX1_copyFrom_85 (by decide) ?_
  refine lv_aload_n hx hb dX1_copyFrom_86 rfl (lv_at hl 0 rfl) ?_
  refine va_get (D := D) (ci := 1) (v := .int kzl) (C := RX1) (T := TX1) (N := 8) hx hb hts in_X1 hown hK hP 0 rfl rfl 0 (by decide) w_1 (fun _ h9 => h9) rfl dX1_copyFrom_87 ?_
  refine va_copyi hx hb (hml.trans hl.1.symm) hown w_3 w_4 w_5 w_6 hK hP hD hS 13 5 0 0 rfl rfl rfl rfl rfl (by decide) (by decide) (q_nn (by omega)) (cl_le hy.2) (cl_le hy.2) (fun _ _ => rfl) (Nat.le_of_ble_eq_true rfl) (Nat.le_of_ble_eq_true rfl) dX1_copyFrom_90 (fun H locs hP hD hS => ?_)
  obtain ⟨g90, eg90⟩ : ∃ f : Nat → Int32, f = va_cpy klco lco (0 : Int32).toNatClampNeg (0 : Int32).toNatClampNeg kzl.toNatClampNeg := ⟨_, rfl⟩
  rw [← eg90] at hP hD
  have hP : va_P D vwCl [(l0, .inr (1, [.int kzl, .ref l1, .ref l2, .ref l3, .ref l4, .ref l5, .ref l6, .ref l7])), (l1, .inl (cy 0, 100, .inl g22)), (l2, .inl (cy 0, 100, .inl g39)), (l3, .inl (cy 0, 100, .inl g56)), (l4, .inl (cy 0, 100, .inl g73)), (l5, .inl (cy 0, 100, .inl g90)), (l6, .inl (cy 0, 100, .inl lan)), (l7, .inl (cy 0, 100, .inl lso)), (kl0, .inr (1, [.int kzl, .ref kl1, .ref kl2, .ref kl3, .ref kl4, .ref kl5, .ref kl6, .ref kl7])), (kl1, .inl (cy 0, 100, .inl klof)), (kl2, .inl (cy 0, 100, .inl klda)), (kl3, .inl (cy 0, 100, .inl klfr)), (kl4, .inl (cy 0, 100, .inl klto)), (kl5, .inl (cy 0, 100, .inl klco)), (kl6, .inl (cy 0, 100, .inl klan)), (kl7, .inl (cy 0, 100, .inl klso))] H := hP
  have hD : va_D A [(l0, .inr (1, [.int kzl, .ref l1, .ref l2, .ref l3, .ref l4, .ref l5, .ref l6, .ref l7])), (l1, .inl (cy 0, 100, .inl g22)), (l2, .inl (cy 0, 100, .inl g39)), (l3, .inl (cy 0, 100, .inl g56)), (l4, .inl (cy 0, 100, .inl g73)), (l5, .inl (cy 0, 100, .inl g90)), (l6, .inl (cy 0, 100, .inl lan)), (l7, .inl (cy 0, 100, .inl lso)), (kl0, .inr (1, [.int kzl, .ref kl1, .ref kl2, .ref kl3, .ref kl4, .ref kl5, .ref kl6, .ref kl7])), (kl1, .inl (cy 0, 100, .inl klof)), (kl2, .inl (cy 0, 100, .inl klda)), (kl3, .inl (cy 0, 100, .inl klfr)), (kl4, .inl (cy 0, 100, .inl klto)), (kl5, .inl (cy 0, 100, .inl klco)), (kl6, .inl (cy 0, 100, .inl klan)), (kl7, .inl (cy 0, 100, .inl klso))] := hD
  refine lv_aload_n hx hb dX1_copyFrom_93 rfl (lv_at hl 1 rfl) ?_
  refine va_get (D := D) (ci := 1) (v := .ref kl6) (C := RX1) (T := TX1) (N := 8) hx hb hts in_X1 hown hK hP 8 rfl rfl 6 (by decide) w_11 (fun _ h9 => h9) rfl dX1_copyFrom_94 ?_
  refine lv_iconst (v := 0) hx hb dX1_copyFrom_97 (by decide) ?_
  refine lv_aload_n hx hb dX1_copyFrom_98 rfl (lv_at hl 0 rfl) ?_
  refine va_get (D := D) (ci := 1) (v := .ref l6) (C := RX1) (T := TX1) (N := 8) hx hb hts in_X1 hown hK hP 0 rfl rfl 6 (by decide) w_11 (fun _ h9 => h9) rfl dX1_copyFrom_99 ?_
  refine lv_iconst (v := 0) hx hb dX1_copyFrom_102 (by decide) ?_
  refine lv_aload_n hx hb dX1_copyFrom_103 rfl (lv_at hl 0 rfl) ?_
  refine va_get (D := D) (ci := 1) (v := .int kzl) (C := RX1) (T := TX1) (N := 8) hx hb hts in_X1 hown hK hP 0 rfl rfl 0 (by decide) w_1 (fun _ h9 => h9) rfl dX1_copyFrom_104 ?_
  refine va_copyi hx hb (hml.trans hl.1.symm) hown w_3 w_4 w_5 w_6 hK hP hD hS 14 6 0 0 rfl rfl rfl rfl rfl (by decide) (by decide) (q_nn (by omega)) (cl_le hy.2) (cl_le hy.2) (fun _ _ => rfl) (Nat.le_of_ble_eq_true rfl) (Nat.le_of_ble_eq_true rfl) dX1_copyFrom_107 (fun H locs hP hD hS => ?_)
  obtain ⟨g107, eg107⟩ : ∃ f : Nat → Int32, f = va_cpy klan lan (0 : Int32).toNatClampNeg (0 : Int32).toNatClampNeg kzl.toNatClampNeg := ⟨_, rfl⟩
  rw [← eg107] at hP hD
  have hP : va_P D vwCl [(l0, .inr (1, [.int kzl, .ref l1, .ref l2, .ref l3, .ref l4, .ref l5, .ref l6, .ref l7])), (l1, .inl (cy 0, 100, .inl g22)), (l2, .inl (cy 0, 100, .inl g39)), (l3, .inl (cy 0, 100, .inl g56)), (l4, .inl (cy 0, 100, .inl g73)), (l5, .inl (cy 0, 100, .inl g90)), (l6, .inl (cy 0, 100, .inl g107)), (l7, .inl (cy 0, 100, .inl lso)), (kl0, .inr (1, [.int kzl, .ref kl1, .ref kl2, .ref kl3, .ref kl4, .ref kl5, .ref kl6, .ref kl7])), (kl1, .inl (cy 0, 100, .inl klof)), (kl2, .inl (cy 0, 100, .inl klda)), (kl3, .inl (cy 0, 100, .inl klfr)), (kl4, .inl (cy 0, 100, .inl klto)), (kl5, .inl (cy 0, 100, .inl klco)), (kl6, .inl (cy 0, 100, .inl klan)), (kl7, .inl (cy 0, 100, .inl klso))] H := hP
  have hD : va_D A [(l0, .inr (1, [.int kzl, .ref l1, .ref l2, .ref l3, .ref l4, .ref l5, .ref l6, .ref l7])), (l1, .inl (cy 0, 100, .inl g22)), (l2, .inl (cy 0, 100, .inl g39)), (l3, .inl (cy 0, 100, .inl g56)), (l4, .inl (cy 0, 100, .inl g73)), (l5, .inl (cy 0, 100, .inl g90)), (l6, .inl (cy 0, 100, .inl g107)), (l7, .inl (cy 0, 100, .inl lso)), (kl0, .inr (1, [.int kzl, .ref kl1, .ref kl2, .ref kl3, .ref kl4, .ref kl5, .ref kl6, .ref kl7])), (kl1, .inl (cy 0, 100, .inl klof)), (kl2, .inl (cy 0, 100, .inl klda)), (kl3, .inl (cy 0, 100, .inl klfr)), (kl4, .inl (cy 0, 100, .inl klto)), (kl5, .inl (cy 0, 100, .inl klco)), (kl6, .inl (cy 0, 100, .inl klan)), (kl7, .inl (cy 0, 100, .inl klso))] := hD
  refine lv_aload_n hx hb dX1_copyFrom_110 rfl (lv_at hl 1 rfl) ?_
  refine va_get (D := D) (ci := 1) (v := .ref kl7) (C := RX1) (T := TX1) (N := 8) hx hb hts in_X1 hown hK hP 8 rfl rfl 7 (by decide) w_12 (fun _ h9 => h9) rfl dX1_copyFrom_111 ?_
  refine lv_iconst (v := 0) hx hb dX1_copyFrom_114 (by decide) ?_
  refine lv_aload_n hx hb dX1_copyFrom_115 rfl (lv_at hl 0 rfl) ?_
  refine va_get (D := D) (ci := 1) (v := .ref l7) (C := RX1) (T := TX1) (N := 8) hx hb hts in_X1 hown hK hP 0 rfl rfl 7 (by decide) w_12 (fun _ h9 => h9) rfl dX1_copyFrom_116 ?_
  refine lv_iconst (v := 0) hx hb dX1_copyFrom_119 (by decide) ?_
  refine lv_aload_n hx hb dX1_copyFrom_120 rfl (lv_at hl 0 rfl) ?_
  refine va_get (D := D) (ci := 1) (v := .int kzl) (C := RX1) (T := TX1) (N := 8) hx hb hts in_X1 hown hK hP 0 rfl rfl 0 (by decide) w_1 (fun _ h9 => h9) rfl dX1_copyFrom_121 ?_
  refine va_copyi hx hb (hml.trans hl.1.symm) hown w_3 w_4 w_5 w_6 hK hP hD hS 15 7 0 0 rfl rfl rfl rfl rfl (by decide) (by decide) (q_nn (by omega)) (cl_le hy.2) (cl_le hy.2) (fun _ _ => rfl) (Nat.le_of_ble_eq_true rfl) (Nat.le_of_ble_eq_true rfl) dX1_copyFrom_124 (fun H locs hP hD hS => ?_)
  obtain ⟨g124, eg124⟩ : ∃ f : Nat → Int32, f = va_cpy klso lso (0 : Int32).toNatClampNeg (0 : Int32).toNatClampNeg kzl.toNatClampNeg := ⟨_, rfl⟩
  rw [← eg124] at hP hD
  have hP : va_P D vwCl [(l0, .inr (1, [.int kzl, .ref l1, .ref l2, .ref l3, .ref l4, .ref l5, .ref l6, .ref l7])), (l1, .inl (cy 0, 100, .inl g22)), (l2, .inl (cy 0, 100, .inl g39)), (l3, .inl (cy 0, 100, .inl g56)), (l4, .inl (cy 0, 100, .inl g73)), (l5, .inl (cy 0, 100, .inl g90)), (l6, .inl (cy 0, 100, .inl g107)), (l7, .inl (cy 0, 100, .inl g124)), (kl0, .inr (1, [.int kzl, .ref kl1, .ref kl2, .ref kl3, .ref kl4, .ref kl5, .ref kl6, .ref kl7])), (kl1, .inl (cy 0, 100, .inl klof)), (kl2, .inl (cy 0, 100, .inl klda)), (kl3, .inl (cy 0, 100, .inl klfr)), (kl4, .inl (cy 0, 100, .inl klto)), (kl5, .inl (cy 0, 100, .inl klco)), (kl6, .inl (cy 0, 100, .inl klan)), (kl7, .inl (cy 0, 100, .inl klso))] H := hP
  have hD : va_D A [(l0, .inr (1, [.int kzl, .ref l1, .ref l2, .ref l3, .ref l4, .ref l5, .ref l6, .ref l7])), (l1, .inl (cy 0, 100, .inl g22)), (l2, .inl (cy 0, 100, .inl g39)), (l3, .inl (cy 0, 100, .inl g56)), (l4, .inl (cy 0, 100, .inl g73)), (l5, .inl (cy 0, 100, .inl g90)), (l6, .inl (cy 0, 100, .inl g107)), (l7, .inl (cy 0, 100, .inl g124)), (kl0, .inr (1, [.int kzl, .ref kl1, .ref kl2, .ref kl3, .ref kl4, .ref kl5, .ref kl6, .ref kl7])), (kl1, .inl (cy 0, 100, .inl klof)), (kl2, .inl (cy 0, 100, .inl klda)), (kl3, .inl (cy 0, 100, .inl klfr)), (kl4, .inl (cy 0, 100, .inl klto)), (kl5, .inl (cy 0, 100, .inl klco)), (kl6, .inl (cy 0, 100, .inl klan)), (kl7, .inl (cy 0, 100, .inl klso))] := hD
  exact r_v hx hb hr hlocks hK hS dX1_copyFrom_127 (u := (g22, g39, g56, g73, g90, g107, g124)) hP hD (⟨trivial, v39_c⟩)

abbrev Q_c_X2_copyFrom (D : va_G) (cy : Nat → ClassId) (E : EN) (q0 : Nat) (q1 : Nat) (q2 : Nat) (q3 : Nat) (q4 : Nat) (q5 : Nat) (q6 : Nat) (q7 : Nat) (kq0 : Nat) (kq1 : Nat) (kq2 : Nat) (kq3 : Nat) (kq4 : Nat) (kq5 : Nat) (kq6 : Nat) (kq7 : Nat) (zq : Int32) (kzq : Int32) (qch : Nat → Int32) (qam : Nat → Int32) (qte : Nat → Int32) (qsu : Nat → Int32) (qsi : Nat → Int32) (qbo : Nat → Int32) (qne : Nat → Int32) (kqch : Nat → Int32) (kqam : Nat → Int32) (kqte : Nat → Int32) (kqsu : Nat → Int32) (kqsi : Nat → Int32) (kqbo : Nat → Int32) (kqne : Nat → Int32) : (Nat → Prop) → Array Value → State → Outcome → State → Prop := QV D cy (fun (u : (Nat → Int32) × (Nat → Int32) × (Nat → Int32) × (Nat → Int32) × (Nat → Int32) × (Nat → Int32) × (Nat → Int32)) => match u with | (nqch, nqam, nqte, nqsu, nqsi, nqbo, nqne) => ((∀ j : Nat, j < 16 → nqch j = kqch j) ∧ (∀ j : Nat, j < 16 → nqam j = kqam j) ∧ (∀ j : Nat, j < 16 → nqte j = kqte j) ∧ (∀ j : Nat, j < 64 → nqsu j = kqsu j) ∧ (∀ j : Nat, j < 64 → nqsi j = kqsi j) ∧ (∀ j : Nat, j < 64 → nqbo j = kqbo j) ∧ (∀ j : Nat, j < 64 → nqne j = kqne j)) ∧ AllI nqte 16 0 4 ∧ AllI nqsu 64 0 4) (fun u : (Nat → Int32) × (Nat → Int32) × (Nat → Int32) × (Nat → Int32) × (Nat → Int32) × (Nat → Int32) × (Nat → Int32) => match u with | (nqch, nqam, nqte, nqsu, nqsi, nqbo, nqne) => [(q0, .inr (2, [.int kzq, .ref q1, .ref q2, .ref q3, .ref q4, .ref q5, .ref q6, .ref q7])), (q1, .inl (cy 0, 16, .inl nqch)), (q2, .inl (cy 0, 16, .inl nqam)), (q3, .inl (cy 0, 16, .inl nqte)), (q4, .inl (cy 0, 64, .inl nqsu)), (q5, .inl (cy 0, 64, .inl nqsi)), (q6, .inl (cy 0, 64, .inl nqbo)), (q7, .inl (cy 0, 64, .inl nqne)), (kq0, .inr (2, [.int kzq, .ref kq1, .ref kq2, .ref kq3, .ref kq4, .ref kq5, .ref kq6, .ref kq7])), (kq1, .inl (cy 0, 16, .inl kqch)), (kq2, .inl (cy 0, 16, .inl kqam)), (kq3, .inl (cy 0, 16, .inl kqte)), (kq4, .inl (cy 0, 64, .inl kqsu)), (kq5, .inl (cy 0, 64, .inl kqsi)), (kq6, .inl (cy 0, 64, .inl kqbo)), (kq7, .inl (cy 0, 64, .inl kqne))])
set_option maxHeartbeats 4000000 in
set_option maxRecDepth 100000 in
theorem c_X2_copyFrom (l : Launch) (D : va_G) (cy : Nat → ClassId) (E : EN) (q0 : Nat) (q1 : Nat) (q2 : Nat) (q3 : Nat) (q4 : Nat) (q5 : Nat) (q6 : Nat) (q7 : Nat) (kq0 : Nat) (kq1 : Nat) (kq2 : Nat) (kq3 : Nat) (kq4 : Nat) (kq5 : Nat) (kq6 : Nat) (kq7 : Nat) (zq : Int32) (kzq : Int32) (qch : Nat → Int32) (qam : Nat → Int32) (qte : Nat → Int32) (qsu : Nat → Int32) (qsi : Nat → Int32) (qbo : Nat → Int32) (qne : Nat → Int32) (kqch : Nat → Int32) (kqam : Nat → Int32) (kqte : Nat → Int32) (kqsu : Nat → Int32) (kqsi : Nat → Int32) (kqbo : Nat → Int32) (kqne : Nat → Int32) (sz : Nat) (hv_qte : AllI qte 16 0 4) (hv_qsu : AllI qsu 64 0 4) (hv_kqte : AllI kqte 16 0 4) (hv_kqsu : AllI kqsu 64 0 4) : Met l yX2_copyFrom wsX2_copyFrom ({ frames := 1, cells := 0, slots := 0, locals := 30 } : Room) (CP D cy E [.ref q0, .ref kq0] [(q0, .inr (2, [.int zq, .ref q1, .ref q2, .ref q3, .ref q4, .ref q5, .ref q6, .ref q7])), (q1, .inl (cy 0, 16, .inl qch)), (q2, .inl (cy 0, 16, .inl qam)), (q3, .inl (cy 0, 16, .inl qte)), (q4, .inl (cy 0, 64, .inl qsu)), (q5, .inl (cy 0, 64, .inl qsi)), (q6, .inl (cy 0, 64, .inl qbo)), (q7, .inl (cy 0, 64, .inl qne)), (kq0, .inr (2, [.int kzq, .ref kq1, .ref kq2, .ref kq3, .ref kq4, .ref kq5, .ref kq6, .ref kq7])), (kq1, .inl (cy 0, 16, .inl kqch)), (kq2, .inl (cy 0, 16, .inl kqam)), (kq3, .inl (cy 0, 16, .inl kqte)), (kq4, .inl (cy 0, 64, .inl kqsu)), (kq5, .inl (cy 0, 64, .inl kqsi)), (kq6, .inl (cy 0, 64, .inl kqbo)), (kq7, .inl (cy 0, 64, .inl kqne))] sz) (Q_c_X2_copyFrom D cy E q0 q1 q2 q3 q4 q5 q6 q7 kq0 kq1 kq2 kq3 kq4 kq5 kq6 kq7 zq kzq qch qam qte qsu qsi qbo qne kqch kqam kqte kqsu kqsi kqbo kqne (va_A [(q0, .inr (2, [.int zq, .ref q1, .ref q2, .ref q3, .ref q4, .ref q5, .ref q6, .ref q7])), (q1, .inl (cy 0, 16, .inl qch)), (q2, .inl (cy 0, 16, .inl qam)), (q3, .inl (cy 0, 16, .inl qte)), (q4, .inl (cy 0, 64, .inl qsu)), (q5, .inl (cy 0, 64, .inl qsi)), (q6, .inl (cy 0, 64, .inl qbo)), (q7, .inl (cy 0, 64, .inl qne)), (kq0, .inr (2, [.int kzq, .ref kq1, .ref kq2, .ref kq3, .ref kq4, .ref kq5, .ref kq6, .ref kq7])), (kq1, .inl (cy 0, 16, .inl kqch)), (kq2, .inl (cy 0, 16, .inl kqam)), (kq3, .inl (cy 0, 16, .inl kqte)), (kq4, .inl (cy 0, 64, .inl kqsu)), (kq5, .inl (cy 0, 64, .inl kqsi)), (kq6, .inl (cy 0, 64, .inl kqbo)), (kq7, .inl (cy 0, 64, .inl kqne))] sz)) 0 0 (va_A [(q0, .inr (2, [.int zq, .ref q1, .ref q2, .ref q3, .ref q4, .ref q5, .ref q6, .ref q7])), (q1, .inl (cy 0, 16, .inl qch)), (q2, .inl (cy 0, 16, .inl qam)), (q3, .inl (cy 0, 16, .inl qte)), (q4, .inl (cy 0, 64, .inl qsu)), (q5, .inl (cy 0, 64, .inl qsi)), (q6, .inl (cy 0, 64, .inl qbo)), (q7, .inl (cy 0, 64, .inl qne)), (kq0, .inr (2, [.int kzq, .ref kq1, .ref kq2, .ref kq3, .ref kq4, .ref kq5, .ref kq6, .ref kq7])), (kq1, .inl (cy 0, 16, .inl kqch)), (kq2, .inl (cy 0, 16, .inl kqam)), (kq3, .inl (cy 0, 16, .inl kqte)), (kq4, .inl (cy 0, 64, .inl kqsu)), (kq5, .inl (cy 0, 64, .inl kqsi)), (kq6, .inl (cy 0, 64, .inl kqbo)), (kq7, .inl (cy 0, 64, .inl kqne))] sz) := by
  refine Met.go (Qc := Q_c_X2_copyFrom D cy E q0 q1 q2 q3 q4 q5 q6 q7 kq0 kq1 kq2 kq3 kq4 kq5 kq6 kq7 zq kzq qch qam qte qsu qsi qbo qne kqch kqam kqte kqsu kqsi kqbo kqne) (cc := cX2_copyFrom) (maxL := 2) (ret := none) (by decide) rfl (Nat.le_of_ble_eq_true rfl) ?_
  intro p e s m below meth c hx hb hr hts hown hlocks hin hml hK hN A hA hAB hD hP hS ls hl hsz
  have hl : lv_has ls 2 [(0, .ref q0), (1, .ref kq0)] := hl
  have in_X2 : ∀ w ∈ wsX20, w ∈ wsX2_copyFrom := fun _ h => List.mem_cons_of_mem _ ((List.mem_append_right _ h))
  have w_1 := hts (.fieldLink RX2 33 "SleepingCars$Rates" "lines" "I") (by decide +kernel)
  have w_2 := hts (.fieldLink RX2 9 "SleepingCars$Rates" "charges" "[I") (by decide +kernel)
  have w_3 := hts (.methodLink RX2 62 arraycopyName) (by decide +kernel)
  have w_4 := hts (.native arraycopyName) (by decide +kernel)
  have w_5 := hts (.static arraycopyName) (by decide +kernel)
  have w_6 := hts (.initialized "java/lang/System") (by decide +kernel)
  have w_7 := hts (.fieldLink RX2 15 "SleepingCars$Rates" "amounts" "[I") (by decide +kernel)
  have w_8 := hts (.fieldLink RX2 18 "SleepingCars$Rates" "tests" "[I") (by decide +kernel)
  have w_9 := hts (.fieldLink RX2 21 "SleepingCars$Rates" "subjects" "[I") (by decide +kernel)
  have w_10 := hts (.fieldLink RX2 24 "SleepingCars$Rates" "signs" "[I") (by decide +kernel)
  have w_11 := hts (.fieldLink RX2 27 "SleepingCars$Rates" "bounds" "[I") (by decide +kernel)
  have w_12 := hts (.fieldLink RX2 30 "SleepingCars$Rates" "negated" "[I") (by decide +kernel)
  obtain ⟨H, eH⟩ : ∃ H : Heap, H = s.heap := ⟨_, rfl⟩
  obtain ⟨locs, eL⟩ : ∃ L : List Loc, L = [] := ⟨_, rfl⟩
  rw [← eL]
  rw [← eL] at hS
  have hP : va_P D vwCl [(q0, .inr (2, [.int zq, .ref q1, .ref q2, .ref q3, .ref q4, .ref q5, .ref q6, .ref q7])), (q1, .inl (cy 0, 16, .inl qch)), (q2, .inl (cy 0, 16, .inl qam)), (q3, .inl (cy 0, 16, .inl qte)), (q4, .inl (cy 0, 64, .inl qsu)), (q5, .inl (cy 0, 64, .inl qsi)), (q6, .inl (cy 0, 64, .inl qbo)), (q7, .inl (cy 0, 64, .inl qne)), (kq0, .inr (2, [.int kzq, .ref kq1, .ref kq2, .ref kq3, .ref kq4, .ref kq5, .ref kq6, .ref kq7])), (kq1, .inl (cy 0, 16, .inl kqch)), (kq2, .inl (cy 0, 16, .inl kqam)), (kq3, .inl (cy 0, 16, .inl kqte)), (kq4, .inl (cy 0, 64, .inl kqsu)), (kq5, .inl (cy 0, 64, .inl kqsi)), (kq6, .inl (cy 0, 64, .inl kqbo)), (kq7, .inl (cy 0, 64, .inl kqne))] H := by rw [eH]; exact hP
  have hS : va_S A s.heap H locs := by rw [eH]; exact hS
  refine W.heapEq eH ?_
  clear eH eL
  refine lv_aload_n hx hb dX2_copyFrom_0 rfl (lv_at hl 0 rfl) ?_
  refine lv_aload_n hx hb dX2_copyFrom_1 rfl (lv_at hl 1 rfl) ?_
  refine va_get (D := D) (ci := 2) (v := .int kzq) (C := RX2) (T := TX2) (N := 8) hx hb hts in_X2 hown hK hP 8 rfl rfl 0 (by decide) w_1 (fun _ h9 => h9) rfl dX2_copyFrom_2 ?_
  refine va_put (D := D) (ci := 2) (v := .int kzq) (ty := .int) (C := RX2) (T := TX2) (N := 8) hx hb hts in_X2 tyX2 tyX2_ok nmX2 hown hK hP hD hS 0 rfl rfl 0 (by decide) w_1 (fun _ h9 => h9) rfl (by decide +kernel) rfl rfl (Nat.le_of_ble_eq_true rfl) dX2_copyFrom_5 (fun H locs hP hD hS => ?_)
  have hP : va_P D vwCl [(q0, .inr (2, [.int kzq, .ref q1, .ref q2, .ref q3, .ref q4, .ref q5, .ref q6, .ref q7])), (q1, .inl (cy 0, 16, .inl qch)), (q2, .inl (cy 0, 16, .inl qam)), (q3, .inl (cy 0, 16, .inl qte)), (q4, .inl (cy 0, 64, .inl qsu)), (q5, .inl (cy 0, 64, .inl qsi)), (q6, .inl (cy 0, 64, .inl qbo)), (q7, .inl (cy 0, 64, .inl qne)), (kq0, .inr (2, [.int kzq, .ref kq1, .ref kq2, .ref kq3, .ref kq4, .ref kq5, .ref kq6, .ref kq7])), (kq1, .inl (cy 0, 16, .inl kqch)), (kq2, .inl (cy 0, 16, .inl kqam)), (kq3, .inl (cy 0, 16, .inl kqte)), (kq4, .inl (cy 0, 64, .inl kqsu)), (kq5, .inl (cy 0, 64, .inl kqsi)), (kq6, .inl (cy 0, 64, .inl kqbo)), (kq7, .inl (cy 0, 64, .inl kqne))] H := hP
  have hD : va_D A [(q0, .inr (2, [.int kzq, .ref q1, .ref q2, .ref q3, .ref q4, .ref q5, .ref q6, .ref q7])), (q1, .inl (cy 0, 16, .inl qch)), (q2, .inl (cy 0, 16, .inl qam)), (q3, .inl (cy 0, 16, .inl qte)), (q4, .inl (cy 0, 64, .inl qsu)), (q5, .inl (cy 0, 64, .inl qsi)), (q6, .inl (cy 0, 64, .inl qbo)), (q7, .inl (cy 0, 64, .inl qne)), (kq0, .inr (2, [.int kzq, .ref kq1, .ref kq2, .ref kq3, .ref kq4, .ref kq5, .ref kq6, .ref kq7])), (kq1, .inl (cy 0, 16, .inl kqch)), (kq2, .inl (cy 0, 16, .inl kqam)), (kq3, .inl (cy 0, 16, .inl kqte)), (kq4, .inl (cy 0, 64, .inl kqsu)), (kq5, .inl (cy 0, 64, .inl kqsi)), (kq6, .inl (cy 0, 64, .inl kqbo)), (kq7, .inl (cy 0, 64, .inl kqne))] := hD
  refine lv_aload_n hx hb dX2_copyFrom_8 rfl (lv_at hl 1 rfl) ?_
  refine va_get (D := D) (ci := 2) (v := .ref kq1) (C := RX2) (T := TX2) (N := 8) hx hb hts in_X2 hown hK hP 8 rfl rfl 1 (by decide) w_2 (fun _ h9 => h9) rfl dX2_copyFrom_9 ?_
  refine lv_iconst (v := 0) hx hb dX2_copyFrom_12 (by decide) ?_
  refine lv_aload_n hx hb dX2_copyFrom_13 rfl (lv_at hl 0 rfl) ?_
  refine va_get (D := D) (ci := 2) (v := .ref q1) (C := RX2) (T := TX2) (N := 8) hx hb hts in_X2 hown hK hP 0 rfl rfl 1 (by decide) w_2 (fun _ h9 => h9) rfl dX2_copyFrom_14 ?_
  refine lv_iconst (v := 0) hx hb dX2_copyFrom_17 (by decide) ?_
  refine lv_aload_n hx hb dX2_copyFrom_18 rfl (lv_at hl 0 rfl) ?_
  refine va_get (D := D) (ci := 2) (v := .ref q1) (C := RX2) (T := TX2) (N := 8) hx hb hts in_X2 hown hK hP 0 rfl rfl 1 (by decide) w_2 (fun _ h9 => h9) rfl dX2_copyFrom_19 ?_
  refine va_alen hx hb hK hP 1 0 rfl rfl (v := 16) rfl dX2_copyFrom_22 ?_
  refine va_copyi hx hb (hml.trans hl.1.symm) hown w_3 w_4 w_5 w_6 hK hP hD hS 9 1 0 0 rfl rfl rfl rfl rfl (by decide) (by decide) (by decide) (by decide) (by decide) (fun _ _ => rfl) (Nat.le_of_ble_eq_true rfl) (Nat.le_of_ble_eq_true rfl) dX2_copyFrom_23 (fun H locs hP hD hS => ?_)
  obtain ⟨g23, eg23⟩ : ∃ f : Nat → Int32, f = va_cpy kqch qch (0 : Int32).toNatClampNeg (0 : Int32).toNatClampNeg (16 : Int32).toNatClampNeg := ⟨_, rfl⟩
  rw [← eg23] at hP hD
  have hP : va_P D vwCl [(q0, .inr (2, [.int kzq, .ref q1, .ref q2, .ref q3, .ref q4, .ref q5, .ref q6, .ref q7])), (q1, .inl (cy 0, 16, .inl g23)), (q2, .inl (cy 0, 16, .inl qam)), (q3, .inl (cy 0, 16, .inl qte)), (q4, .inl (cy 0, 64, .inl qsu)), (q5, .inl (cy 0, 64, .inl qsi)), (q6, .inl (cy 0, 64, .inl qbo)), (q7, .inl (cy 0, 64, .inl qne)), (kq0, .inr (2, [.int kzq, .ref kq1, .ref kq2, .ref kq3, .ref kq4, .ref kq5, .ref kq6, .ref kq7])), (kq1, .inl (cy 0, 16, .inl kqch)), (kq2, .inl (cy 0, 16, .inl kqam)), (kq3, .inl (cy 0, 16, .inl kqte)), (kq4, .inl (cy 0, 64, .inl kqsu)), (kq5, .inl (cy 0, 64, .inl kqsi)), (kq6, .inl (cy 0, 64, .inl kqbo)), (kq7, .inl (cy 0, 64, .inl kqne))] H := hP
  have hD : va_D A [(q0, .inr (2, [.int kzq, .ref q1, .ref q2, .ref q3, .ref q4, .ref q5, .ref q6, .ref q7])), (q1, .inl (cy 0, 16, .inl g23)), (q2, .inl (cy 0, 16, .inl qam)), (q3, .inl (cy 0, 16, .inl qte)), (q4, .inl (cy 0, 64, .inl qsu)), (q5, .inl (cy 0, 64, .inl qsi)), (q6, .inl (cy 0, 64, .inl qbo)), (q7, .inl (cy 0, 64, .inl qne)), (kq0, .inr (2, [.int kzq, .ref kq1, .ref kq2, .ref kq3, .ref kq4, .ref kq5, .ref kq6, .ref kq7])), (kq1, .inl (cy 0, 16, .inl kqch)), (kq2, .inl (cy 0, 16, .inl kqam)), (kq3, .inl (cy 0, 16, .inl kqte)), (kq4, .inl (cy 0, 64, .inl kqsu)), (kq5, .inl (cy 0, 64, .inl kqsi)), (kq6, .inl (cy 0, 64, .inl kqbo)), (kq7, .inl (cy 0, 64, .inl kqne))] := hD
  refine lv_aload_n hx hb dX2_copyFrom_26 rfl (lv_at hl 1 rfl) ?_
  refine va_get (D := D) (ci := 2) (v := .ref kq2) (C := RX2) (T := TX2) (N := 8) hx hb hts in_X2 hown hK hP 8 rfl rfl 2 (by decide) w_7 (fun _ h9 => h9) rfl dX2_copyFrom_27 ?_
  refine lv_iconst (v := 0) hx hb dX2_copyFrom_30 (by decide) ?_
  refine lv_aload_n hx hb dX2_copyFrom_31 rfl (lv_at hl 0 rfl) ?_
  refine va_get (D := D) (ci := 2) (v := .ref q2) (C := RX2) (T := TX2) (N := 8) hx hb hts in_X2 hown hK hP 0 rfl rfl 2 (by decide) w_7 (fun _ h9 => h9) rfl dX2_copyFrom_32 ?_
  refine lv_iconst (v := 0) hx hb dX2_copyFrom_35 (by decide) ?_
  refine lv_aload_n hx hb dX2_copyFrom_36 rfl (lv_at hl 0 rfl) ?_
  refine va_get (D := D) (ci := 2) (v := .ref q2) (C := RX2) (T := TX2) (N := 8) hx hb hts in_X2 hown hK hP 0 rfl rfl 2 (by decide) w_7 (fun _ h9 => h9) rfl dX2_copyFrom_37 ?_
  refine va_alen hx hb hK hP 2 0 rfl rfl (v := 16) rfl dX2_copyFrom_40 ?_
  refine va_copyi hx hb (hml.trans hl.1.symm) hown w_3 w_4 w_5 w_6 hK hP hD hS 10 2 0 0 rfl rfl rfl rfl rfl (by decide) (by decide) (by decide) (by decide) (by decide) (fun _ _ => rfl) (Nat.le_of_ble_eq_true rfl) (Nat.le_of_ble_eq_true rfl) dX2_copyFrom_41 (fun H locs hP hD hS => ?_)
  obtain ⟨g41, eg41⟩ : ∃ f : Nat → Int32, f = va_cpy kqam qam (0 : Int32).toNatClampNeg (0 : Int32).toNatClampNeg (16 : Int32).toNatClampNeg := ⟨_, rfl⟩
  rw [← eg41] at hP hD
  have hP : va_P D vwCl [(q0, .inr (2, [.int kzq, .ref q1, .ref q2, .ref q3, .ref q4, .ref q5, .ref q6, .ref q7])), (q1, .inl (cy 0, 16, .inl g23)), (q2, .inl (cy 0, 16, .inl g41)), (q3, .inl (cy 0, 16, .inl qte)), (q4, .inl (cy 0, 64, .inl qsu)), (q5, .inl (cy 0, 64, .inl qsi)), (q6, .inl (cy 0, 64, .inl qbo)), (q7, .inl (cy 0, 64, .inl qne)), (kq0, .inr (2, [.int kzq, .ref kq1, .ref kq2, .ref kq3, .ref kq4, .ref kq5, .ref kq6, .ref kq7])), (kq1, .inl (cy 0, 16, .inl kqch)), (kq2, .inl (cy 0, 16, .inl kqam)), (kq3, .inl (cy 0, 16, .inl kqte)), (kq4, .inl (cy 0, 64, .inl kqsu)), (kq5, .inl (cy 0, 64, .inl kqsi)), (kq6, .inl (cy 0, 64, .inl kqbo)), (kq7, .inl (cy 0, 64, .inl kqne))] H := hP
  have hD : va_D A [(q0, .inr (2, [.int kzq, .ref q1, .ref q2, .ref q3, .ref q4, .ref q5, .ref q6, .ref q7])), (q1, .inl (cy 0, 16, .inl g23)), (q2, .inl (cy 0, 16, .inl g41)), (q3, .inl (cy 0, 16, .inl qte)), (q4, .inl (cy 0, 64, .inl qsu)), (q5, .inl (cy 0, 64, .inl qsi)), (q6, .inl (cy 0, 64, .inl qbo)), (q7, .inl (cy 0, 64, .inl qne)), (kq0, .inr (2, [.int kzq, .ref kq1, .ref kq2, .ref kq3, .ref kq4, .ref kq5, .ref kq6, .ref kq7])), (kq1, .inl (cy 0, 16, .inl kqch)), (kq2, .inl (cy 0, 16, .inl kqam)), (kq3, .inl (cy 0, 16, .inl kqte)), (kq4, .inl (cy 0, 64, .inl kqsu)), (kq5, .inl (cy 0, 64, .inl kqsi)), (kq6, .inl (cy 0, 64, .inl kqbo)), (kq7, .inl (cy 0, 64, .inl kqne))] := hD
  refine lv_aload_n hx hb dX2_copyFrom_44 rfl (lv_at hl 1 rfl) ?_
  refine va_get (D := D) (ci := 2) (v := .ref kq3) (C := RX2) (T := TX2) (N := 8) hx hb hts in_X2 hown hK hP 8 rfl rfl 3 (by decide) w_8 (fun _ h9 => h9) rfl dX2_copyFrom_45 ?_
  refine lv_iconst (v := 0) hx hb dX2_copyFrom_48 (by decide) ?_
  refine lv_aload_n hx hb dX2_copyFrom_49 rfl (lv_at hl 0 rfl) ?_
  refine va_get (D := D) (ci := 2) (v := .ref q3) (C := RX2) (T := TX2) (N := 8) hx hb hts in_X2 hown hK hP 0 rfl rfl 3 (by decide) w_8 (fun _ h9 => h9) rfl dX2_copyFrom_50 ?_
  refine lv_iconst (v := 0) hx hb dX2_copyFrom_53 (by decide) ?_
  refine lv_aload_n hx hb dX2_copyFrom_54 rfl (lv_at hl 0 rfl) ?_
  refine va_get (D := D) (ci := 2) (v := .ref q3) (C := RX2) (T := TX2) (N := 8) hx hb hts in_X2 hown hK hP 0 rfl rfl 3 (by decide) w_8 (fun _ h9 => h9) rfl dX2_copyFrom_55 ?_
  refine va_alen hx hb hK hP 3 0 rfl rfl (v := 16) rfl dX2_copyFrom_58 ?_
  refine va_copyi hx hb (hml.trans hl.1.symm) hown w_3 w_4 w_5 w_6 hK hP hD hS 11 3 0 0 rfl rfl rfl rfl rfl (by decide) (by decide) (by decide) (by decide) (by decide) (fun _ _ => rfl) (Nat.le_of_ble_eq_true rfl) (Nat.le_of_ble_eq_true rfl) dX2_copyFrom_59 (fun H locs hP hD hS => ?_)
  have v59_c : AllI (va_cpy kqte qte (0 : Int32).toNatClampNeg (0 : Int32).toNatClampNeg (16 : Int32).toNatClampNeg) 16 0 4 := allI_cpy hv_kqte hv_qte (by decide)
  obtain ⟨g59, eg59⟩ : ∃ f : Nat → Int32, f = va_cpy kqte qte (0 : Int32).toNatClampNeg (0 : Int32).toNatClampNeg (16 : Int32).toNatClampNeg := ⟨_, rfl⟩
  rw [← eg59] at hP hD
  rw [← eg59] at v59_c
  have hP : va_P D vwCl [(q0, .inr (2, [.int kzq, .ref q1, .ref q2, .ref q3, .ref q4, .ref q5, .ref q6, .ref q7])), (q1, .inl (cy 0, 16, .inl g23)), (q2, .inl (cy 0, 16, .inl g41)), (q3, .inl (cy 0, 16, .inl g59)), (q4, .inl (cy 0, 64, .inl qsu)), (q5, .inl (cy 0, 64, .inl qsi)), (q6, .inl (cy 0, 64, .inl qbo)), (q7, .inl (cy 0, 64, .inl qne)), (kq0, .inr (2, [.int kzq, .ref kq1, .ref kq2, .ref kq3, .ref kq4, .ref kq5, .ref kq6, .ref kq7])), (kq1, .inl (cy 0, 16, .inl kqch)), (kq2, .inl (cy 0, 16, .inl kqam)), (kq3, .inl (cy 0, 16, .inl kqte)), (kq4, .inl (cy 0, 64, .inl kqsu)), (kq5, .inl (cy 0, 64, .inl kqsi)), (kq6, .inl (cy 0, 64, .inl kqbo)), (kq7, .inl (cy 0, 64, .inl kqne))] H := hP
  have hD : va_D A [(q0, .inr (2, [.int kzq, .ref q1, .ref q2, .ref q3, .ref q4, .ref q5, .ref q6, .ref q7])), (q1, .inl (cy 0, 16, .inl g23)), (q2, .inl (cy 0, 16, .inl g41)), (q3, .inl (cy 0, 16, .inl g59)), (q4, .inl (cy 0, 64, .inl qsu)), (q5, .inl (cy 0, 64, .inl qsi)), (q6, .inl (cy 0, 64, .inl qbo)), (q7, .inl (cy 0, 64, .inl qne)), (kq0, .inr (2, [.int kzq, .ref kq1, .ref kq2, .ref kq3, .ref kq4, .ref kq5, .ref kq6, .ref kq7])), (kq1, .inl (cy 0, 16, .inl kqch)), (kq2, .inl (cy 0, 16, .inl kqam)), (kq3, .inl (cy 0, 16, .inl kqte)), (kq4, .inl (cy 0, 64, .inl kqsu)), (kq5, .inl (cy 0, 64, .inl kqsi)), (kq6, .inl (cy 0, 64, .inl kqbo)), (kq7, .inl (cy 0, 64, .inl kqne))] := hD
  refine lv_aload_n hx hb dX2_copyFrom_62 rfl (lv_at hl 1 rfl) ?_
  refine va_get (D := D) (ci := 2) (v := .ref kq4) (C := RX2) (T := TX2) (N := 8) hx hb hts in_X2 hown hK hP 8 rfl rfl 4 (by decide) w_9 (fun _ h9 => h9) rfl dX2_copyFrom_63 ?_
  refine lv_iconst (v := 0) hx hb dX2_copyFrom_66 (by decide) ?_
  refine lv_aload_n hx hb dX2_copyFrom_67 rfl (lv_at hl 0 rfl) ?_
  refine va_get (D := D) (ci := 2) (v := .ref q4) (C := RX2) (T := TX2) (N := 8) hx hb hts in_X2 hown hK hP 0 rfl rfl 4 (by decide) w_9 (fun _ h9 => h9) rfl dX2_copyFrom_68 ?_
  refine lv_iconst (v := 0) hx hb dX2_copyFrom_71 (by decide) ?_
  refine lv_aload_n hx hb dX2_copyFrom_72 rfl (lv_at hl 0 rfl) ?_
  refine va_get (D := D) (ci := 2) (v := .ref q4) (C := RX2) (T := TX2) (N := 8) hx hb hts in_X2 hown hK hP 0 rfl rfl 4 (by decide) w_9 (fun _ h9 => h9) rfl dX2_copyFrom_73 ?_
  refine va_alen hx hb hK hP 4 0 rfl rfl (v := 64) rfl dX2_copyFrom_76 ?_
  refine va_copyi hx hb (hml.trans hl.1.symm) hown w_3 w_4 w_5 w_6 hK hP hD hS 12 4 0 0 rfl rfl rfl rfl rfl (by decide) (by decide) (by decide) (by decide) (by decide) (fun _ _ => rfl) (Nat.le_of_ble_eq_true rfl) (Nat.le_of_ble_eq_true rfl) dX2_copyFrom_77 (fun H locs hP hD hS => ?_)
  have v77_c : AllI (va_cpy kqsu qsu (0 : Int32).toNatClampNeg (0 : Int32).toNatClampNeg (64 : Int32).toNatClampNeg) 64 0 4 := allI_cpy hv_kqsu hv_qsu (by decide)
  obtain ⟨g77, eg77⟩ : ∃ f : Nat → Int32, f = va_cpy kqsu qsu (0 : Int32).toNatClampNeg (0 : Int32).toNatClampNeg (64 : Int32).toNatClampNeg := ⟨_, rfl⟩
  rw [← eg77] at hP hD
  rw [← eg77] at v77_c
  have hP : va_P D vwCl [(q0, .inr (2, [.int kzq, .ref q1, .ref q2, .ref q3, .ref q4, .ref q5, .ref q6, .ref q7])), (q1, .inl (cy 0, 16, .inl g23)), (q2, .inl (cy 0, 16, .inl g41)), (q3, .inl (cy 0, 16, .inl g59)), (q4, .inl (cy 0, 64, .inl g77)), (q5, .inl (cy 0, 64, .inl qsi)), (q6, .inl (cy 0, 64, .inl qbo)), (q7, .inl (cy 0, 64, .inl qne)), (kq0, .inr (2, [.int kzq, .ref kq1, .ref kq2, .ref kq3, .ref kq4, .ref kq5, .ref kq6, .ref kq7])), (kq1, .inl (cy 0, 16, .inl kqch)), (kq2, .inl (cy 0, 16, .inl kqam)), (kq3, .inl (cy 0, 16, .inl kqte)), (kq4, .inl (cy 0, 64, .inl kqsu)), (kq5, .inl (cy 0, 64, .inl kqsi)), (kq6, .inl (cy 0, 64, .inl kqbo)), (kq7, .inl (cy 0, 64, .inl kqne))] H := hP
  have hD : va_D A [(q0, .inr (2, [.int kzq, .ref q1, .ref q2, .ref q3, .ref q4, .ref q5, .ref q6, .ref q7])), (q1, .inl (cy 0, 16, .inl g23)), (q2, .inl (cy 0, 16, .inl g41)), (q3, .inl (cy 0, 16, .inl g59)), (q4, .inl (cy 0, 64, .inl g77)), (q5, .inl (cy 0, 64, .inl qsi)), (q6, .inl (cy 0, 64, .inl qbo)), (q7, .inl (cy 0, 64, .inl qne)), (kq0, .inr (2, [.int kzq, .ref kq1, .ref kq2, .ref kq3, .ref kq4, .ref kq5, .ref kq6, .ref kq7])), (kq1, .inl (cy 0, 16, .inl kqch)), (kq2, .inl (cy 0, 16, .inl kqam)), (kq3, .inl (cy 0, 16, .inl kqte)), (kq4, .inl (cy 0, 64, .inl kqsu)), (kq5, .inl (cy 0, 64, .inl kqsi)), (kq6, .inl (cy 0, 64, .inl kqbo)), (kq7, .inl (cy 0, 64, .inl kqne))] := hD
  refine lv_aload_n hx hb dX2_copyFrom_80 rfl (lv_at hl 1 rfl) ?_
  refine va_get (D := D) (ci := 2) (v := .ref kq5) (C := RX2) (T := TX2) (N := 8) hx hb hts in_X2 hown hK hP 8 rfl rfl 5 (by decide) w_10 (fun _ h9 => h9) rfl dX2_copyFrom_81 ?_
  refine lv_iconst (v := 0) hx hb dX2_copyFrom_84 (by decide) ?_
  refine lv_aload_n hx hb dX2_copyFrom_85 rfl (lv_at hl 0 rfl) ?_
  refine va_get (D := D) (ci := 2) (v := .ref q5) (C := RX2) (T := TX2) (N := 8) hx hb hts in_X2 hown hK hP 0 rfl rfl 5 (by decide) w_10 (fun _ h9 => h9) rfl dX2_copyFrom_86 ?_
  refine lv_iconst (v := 0) hx hb dX2_copyFrom_89 (by decide) ?_
  refine lv_aload_n hx hb dX2_copyFrom_90 rfl (lv_at hl 0 rfl) ?_
  refine va_get (D := D) (ci := 2) (v := .ref q5) (C := RX2) (T := TX2) (N := 8) hx hb hts in_X2 hown hK hP 0 rfl rfl 5 (by decide) w_10 (fun _ h9 => h9) rfl dX2_copyFrom_91 ?_
  refine va_alen hx hb hK hP 5 0 rfl rfl (v := 64) rfl dX2_copyFrom_94 ?_
  refine va_copyi hx hb (hml.trans hl.1.symm) hown w_3 w_4 w_5 w_6 hK hP hD hS 13 5 0 0 rfl rfl rfl rfl rfl (by decide) (by decide) (by decide) (by decide) (by decide) (fun _ _ => rfl) (Nat.le_of_ble_eq_true rfl) (Nat.le_of_ble_eq_true rfl) dX2_copyFrom_95 (fun H locs hP hD hS => ?_)
  obtain ⟨g95, eg95⟩ : ∃ f : Nat → Int32, f = va_cpy kqsi qsi (0 : Int32).toNatClampNeg (0 : Int32).toNatClampNeg (64 : Int32).toNatClampNeg := ⟨_, rfl⟩
  rw [← eg95] at hP hD
  have hP : va_P D vwCl [(q0, .inr (2, [.int kzq, .ref q1, .ref q2, .ref q3, .ref q4, .ref q5, .ref q6, .ref q7])), (q1, .inl (cy 0, 16, .inl g23)), (q2, .inl (cy 0, 16, .inl g41)), (q3, .inl (cy 0, 16, .inl g59)), (q4, .inl (cy 0, 64, .inl g77)), (q5, .inl (cy 0, 64, .inl g95)), (q6, .inl (cy 0, 64, .inl qbo)), (q7, .inl (cy 0, 64, .inl qne)), (kq0, .inr (2, [.int kzq, .ref kq1, .ref kq2, .ref kq3, .ref kq4, .ref kq5, .ref kq6, .ref kq7])), (kq1, .inl (cy 0, 16, .inl kqch)), (kq2, .inl (cy 0, 16, .inl kqam)), (kq3, .inl (cy 0, 16, .inl kqte)), (kq4, .inl (cy 0, 64, .inl kqsu)), (kq5, .inl (cy 0, 64, .inl kqsi)), (kq6, .inl (cy 0, 64, .inl kqbo)), (kq7, .inl (cy 0, 64, .inl kqne))] H := hP
  have hD : va_D A [(q0, .inr (2, [.int kzq, .ref q1, .ref q2, .ref q3, .ref q4, .ref q5, .ref q6, .ref q7])), (q1, .inl (cy 0, 16, .inl g23)), (q2, .inl (cy 0, 16, .inl g41)), (q3, .inl (cy 0, 16, .inl g59)), (q4, .inl (cy 0, 64, .inl g77)), (q5, .inl (cy 0, 64, .inl g95)), (q6, .inl (cy 0, 64, .inl qbo)), (q7, .inl (cy 0, 64, .inl qne)), (kq0, .inr (2, [.int kzq, .ref kq1, .ref kq2, .ref kq3, .ref kq4, .ref kq5, .ref kq6, .ref kq7])), (kq1, .inl (cy 0, 16, .inl kqch)), (kq2, .inl (cy 0, 16, .inl kqam)), (kq3, .inl (cy 0, 16, .inl kqte)), (kq4, .inl (cy 0, 64, .inl kqsu)), (kq5, .inl (cy 0, 64, .inl kqsi)), (kq6, .inl (cy 0, 64, .inl kqbo)), (kq7, .inl (cy 0, 64, .inl kqne))] := hD
  refine lv_aload_n hx hb dX2_copyFrom_98 rfl (lv_at hl 1 rfl) ?_
  refine va_get (D := D) (ci := 2) (v := .ref kq6) (C := RX2) (T := TX2) (N := 8) hx hb hts in_X2 hown hK hP 8 rfl rfl 6 (by decide) w_11 (fun _ h9 => h9) rfl dX2_copyFrom_99 ?_
  refine lv_iconst (v := 0) hx hb dX2_copyFrom_102 (by decide) ?_
  refine lv_aload_n hx hb dX2_copyFrom_103 rfl (lv_at hl 0 rfl) ?_
  refine va_get (D := D) (ci := 2) (v := .ref q6) (C := RX2) (T := TX2) (N := 8) hx hb hts in_X2 hown hK hP 0 rfl rfl 6 (by decide) w_11 (fun _ h9 => h9) rfl dX2_copyFrom_104 ?_
  refine lv_iconst (v := 0) hx hb dX2_copyFrom_107 (by decide) ?_
  refine lv_aload_n hx hb dX2_copyFrom_108 rfl (lv_at hl 0 rfl) ?_
  refine va_get (D := D) (ci := 2) (v := .ref q6) (C := RX2) (T := TX2) (N := 8) hx hb hts in_X2 hown hK hP 0 rfl rfl 6 (by decide) w_11 (fun _ h9 => h9) rfl dX2_copyFrom_109 ?_
  refine va_alen hx hb hK hP 6 0 rfl rfl (v := 64) rfl dX2_copyFrom_112 ?_
  refine va_copyi hx hb (hml.trans hl.1.symm) hown w_3 w_4 w_5 w_6 hK hP hD hS 14 6 0 0 rfl rfl rfl rfl rfl (by decide) (by decide) (by decide) (by decide) (by decide) (fun _ _ => rfl) (Nat.le_of_ble_eq_true rfl) (Nat.le_of_ble_eq_true rfl) dX2_copyFrom_113 (fun H locs hP hD hS => ?_)
  obtain ⟨g113, eg113⟩ : ∃ f : Nat → Int32, f = va_cpy kqbo qbo (0 : Int32).toNatClampNeg (0 : Int32).toNatClampNeg (64 : Int32).toNatClampNeg := ⟨_, rfl⟩
  rw [← eg113] at hP hD
  have hP : va_P D vwCl [(q0, .inr (2, [.int kzq, .ref q1, .ref q2, .ref q3, .ref q4, .ref q5, .ref q6, .ref q7])), (q1, .inl (cy 0, 16, .inl g23)), (q2, .inl (cy 0, 16, .inl g41)), (q3, .inl (cy 0, 16, .inl g59)), (q4, .inl (cy 0, 64, .inl g77)), (q5, .inl (cy 0, 64, .inl g95)), (q6, .inl (cy 0, 64, .inl g113)), (q7, .inl (cy 0, 64, .inl qne)), (kq0, .inr (2, [.int kzq, .ref kq1, .ref kq2, .ref kq3, .ref kq4, .ref kq5, .ref kq6, .ref kq7])), (kq1, .inl (cy 0, 16, .inl kqch)), (kq2, .inl (cy 0, 16, .inl kqam)), (kq3, .inl (cy 0, 16, .inl kqte)), (kq4, .inl (cy 0, 64, .inl kqsu)), (kq5, .inl (cy 0, 64, .inl kqsi)), (kq6, .inl (cy 0, 64, .inl kqbo)), (kq7, .inl (cy 0, 64, .inl kqne))] H := hP
  have hD : va_D A [(q0, .inr (2, [.int kzq, .ref q1, .ref q2, .ref q3, .ref q4, .ref q5, .ref q6, .ref q7])), (q1, .inl (cy 0, 16, .inl g23)), (q2, .inl (cy 0, 16, .inl g41)), (q3, .inl (cy 0, 16, .inl g59)), (q4, .inl (cy 0, 64, .inl g77)), (q5, .inl (cy 0, 64, .inl g95)), (q6, .inl (cy 0, 64, .inl g113)), (q7, .inl (cy 0, 64, .inl qne)), (kq0, .inr (2, [.int kzq, .ref kq1, .ref kq2, .ref kq3, .ref kq4, .ref kq5, .ref kq6, .ref kq7])), (kq1, .inl (cy 0, 16, .inl kqch)), (kq2, .inl (cy 0, 16, .inl kqam)), (kq3, .inl (cy 0, 16, .inl kqte)), (kq4, .inl (cy 0, 64, .inl kqsu)), (kq5, .inl (cy 0, 64, .inl kqsi)), (kq6, .inl (cy 0, 64, .inl kqbo)), (kq7, .inl (cy 0, 64, .inl kqne))] := hD
  refine lv_aload_n hx hb dX2_copyFrom_116 rfl (lv_at hl 1 rfl) ?_
  refine va_get (D := D) (ci := 2) (v := .ref kq7) (C := RX2) (T := TX2) (N := 8) hx hb hts in_X2 hown hK hP 8 rfl rfl 7 (by decide) w_12 (fun _ h9 => h9) rfl dX2_copyFrom_117 ?_
  refine lv_iconst (v := 0) hx hb dX2_copyFrom_120 (by decide) ?_
  refine lv_aload_n hx hb dX2_copyFrom_121 rfl (lv_at hl 0 rfl) ?_
  refine va_get (D := D) (ci := 2) (v := .ref q7) (C := RX2) (T := TX2) (N := 8) hx hb hts in_X2 hown hK hP 0 rfl rfl 7 (by decide) w_12 (fun _ h9 => h9) rfl dX2_copyFrom_122 ?_
  refine lv_iconst (v := 0) hx hb dX2_copyFrom_125 (by decide) ?_
  refine lv_aload_n hx hb dX2_copyFrom_126 rfl (lv_at hl 0 rfl) ?_
  refine va_get (D := D) (ci := 2) (v := .ref q7) (C := RX2) (T := TX2) (N := 8) hx hb hts in_X2 hown hK hP 0 rfl rfl 7 (by decide) w_12 (fun _ h9 => h9) rfl dX2_copyFrom_127 ?_
  refine va_alen hx hb hK hP 7 0 rfl rfl (v := 64) rfl dX2_copyFrom_130 ?_
  refine va_copyi hx hb (hml.trans hl.1.symm) hown w_3 w_4 w_5 w_6 hK hP hD hS 15 7 0 0 rfl rfl rfl rfl rfl (by decide) (by decide) (by decide) (by decide) (by decide) (fun _ _ => rfl) (Nat.le_of_ble_eq_true rfl) (Nat.le_of_ble_eq_true rfl) dX2_copyFrom_131 (fun H locs hP hD hS => ?_)
  obtain ⟨g131, eg131⟩ : ∃ f : Nat → Int32, f = va_cpy kqne qne (0 : Int32).toNatClampNeg (0 : Int32).toNatClampNeg (64 : Int32).toNatClampNeg := ⟨_, rfl⟩
  rw [← eg131] at hP hD
  have hP : va_P D vwCl [(q0, .inr (2, [.int kzq, .ref q1, .ref q2, .ref q3, .ref q4, .ref q5, .ref q6, .ref q7])), (q1, .inl (cy 0, 16, .inl g23)), (q2, .inl (cy 0, 16, .inl g41)), (q3, .inl (cy 0, 16, .inl g59)), (q4, .inl (cy 0, 64, .inl g77)), (q5, .inl (cy 0, 64, .inl g95)), (q6, .inl (cy 0, 64, .inl g113)), (q7, .inl (cy 0, 64, .inl g131)), (kq0, .inr (2, [.int kzq, .ref kq1, .ref kq2, .ref kq3, .ref kq4, .ref kq5, .ref kq6, .ref kq7])), (kq1, .inl (cy 0, 16, .inl kqch)), (kq2, .inl (cy 0, 16, .inl kqam)), (kq3, .inl (cy 0, 16, .inl kqte)), (kq4, .inl (cy 0, 64, .inl kqsu)), (kq5, .inl (cy 0, 64, .inl kqsi)), (kq6, .inl (cy 0, 64, .inl kqbo)), (kq7, .inl (cy 0, 64, .inl kqne))] H := hP
  have hD : va_D A [(q0, .inr (2, [.int kzq, .ref q1, .ref q2, .ref q3, .ref q4, .ref q5, .ref q6, .ref q7])), (q1, .inl (cy 0, 16, .inl g23)), (q2, .inl (cy 0, 16, .inl g41)), (q3, .inl (cy 0, 16, .inl g59)), (q4, .inl (cy 0, 64, .inl g77)), (q5, .inl (cy 0, 64, .inl g95)), (q6, .inl (cy 0, 64, .inl g113)), (q7, .inl (cy 0, 64, .inl g131)), (kq0, .inr (2, [.int kzq, .ref kq1, .ref kq2, .ref kq3, .ref kq4, .ref kq5, .ref kq6, .ref kq7])), (kq1, .inl (cy 0, 16, .inl kqch)), (kq2, .inl (cy 0, 16, .inl kqam)), (kq3, .inl (cy 0, 16, .inl kqte)), (kq4, .inl (cy 0, 64, .inl kqsu)), (kq5, .inl (cy 0, 64, .inl kqsi)), (kq6, .inl (cy 0, 64, .inl kqbo)), (kq7, .inl (cy 0, 64, .inl kqne))] := hD
  exact r_v hx hb hr hlocks hK hS dX2_copyFrom_134 (u := (g23, g41, g59, g77, g95, g113, g131)) hP hD (⟨⟨cpy_at eg23, cpy_at eg41, cpy_at eg59, cpy_at eg77, cpy_at eg95, cpy_at eg113, cpy_at eg131⟩, v59_c, v77_c⟩)
