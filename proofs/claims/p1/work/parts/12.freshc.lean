abbrev Q_c_X6_append (D : va_G) (cy : Nat → ClassId) (tp : Nat) (tb : Nat) (z : Int32) (f : Nat → Int32) (v : Int32) : (Nat → Prop) → Array Value → State → Outcome → State → Prop := QV D cy (fun (u : Int32 × (Nat → Int32)) => match u with | (zz, ff) => zz.toInt = z.toInt + 4) (fun u : Int32 × (Nat → Int32) => match u with | (zz, ff) => [(tp, .inr (6, [.int zz, .ref tb])), (tb, .inl (cy 0, 400, .inl ff))])
set_option maxHeartbeats 4000000 in
set_option maxRecDepth 100000 in
theorem c_X6_append (l : Launch) (D : va_G) (cy : Nat → ClassId) (tp : Nat) (tb : Nat) (z : Int32) (f : Nat → Int32) (v : Int32) (sz : Nat) (hz : 0 ≤ z.toInt ∧ z.toInt ≤ 396) : Met l yX6_append wsX6_append ({ frames := 0, cells := 0, slots := 0, locals := 0 } : Room) (CP D cy [.ref tp, .int v] [(tp, .inr (6, [.int z, .ref tb])), (tb, .inl (cy 0, 400, .inl f))] sz) (Q_c_X6_append D cy tp tb z f v (va_A [(tp, .inr (6, [.int z, .ref tb])), (tb, .inl (cy 0, 400, .inl f))] sz)) 0 0 (va_A [(tp, .inr (6, [.int z, .ref tb])), (tb, .inl (cy 0, 400, .inl f))] sz) := by
  refine Met.go (Qc := Q_c_X6_append D cy tp tb z f v) (cc := cX6_append) (maxL := 3) (ret := none) (by decide) rfl (Nat.le_of_ble_eq_true rfl) ?_
  intro p e s m below meth c hx hb hr hts hown hlocks hin hml hK hN A hA hD hP hS ls hl hsz
  have hl : lv_has ls 3 [(0, .ref tp), (1, .int v)] := hl
  have in_X6 : ∀ w ∈ wsX60, w ∈ wsX6_append := fun _ h => List.mem_cons_of_mem _ ((List.mem_append_right _ h))
  have w_1 := hts (.fieldLink RX6 15 "SleepingCars$Tape" "size" "I") (by decide +kernel)
  have w_2 := hts (.fieldLink RX6 9 "SleepingCars$Tape" "bytes" "[I") (by decide +kernel)
  obtain ⟨H, eH⟩ : ∃ H : Heap, H = s.heap := ⟨_, rfl⟩
  obtain ⟨locs, eL⟩ : ∃ L : List Loc, L = [] := ⟨_, rfl⟩
  rw [← eL]
  rw [← eL] at hS
  have hP : va_P D vwCl [(tp, .inr (6, [.int z, .ref tb])), (tb, .inl (cy 0, 400, .inl f))] H := by rw [eH]; exact hP
  have hS : va_S A s.heap H locs := by rw [eH]; exact hS
  refine W.heapEq eH ?_
  clear eH eL
  refine lv_bipush (v := 24) hx hb dX6_append_0 (by decide) ?_
  refine lv_istore_n (lv' := [(2, .int 24), (0, .ref tp), (1, .int v)]) hx hb dX6_append_2 rfl hl (by decide) rfl (fun ls hl => ?_)
  have lp_3 : ∀ (n_3 : Nat) (sh : Int32) (z1 : Int32) (f1 : Nat → Int32), (-8 ≤ sh.toInt) → (sh.toInt ≤ 24) → (8 * (z1.toInt - z.toInt) = 24 - sh.toInt) → (sh.toInt + 8).toNat < n_3 → ∀ (H : Heap) (locs : List Loc), va_P D vwCl [(tp, .inr (6, [.int z1, .ref tb])), (tb, .inl (cy 0, 400, .inl f1))] H → va_D A [(tp, .inr (6, [.int z1, .ref tb])), (tb, .inl (cy 0, 400, .inl f1))] → va_S A s.heap H locs → ∀ ls : Array Slot, lv_has ls 3 [(2, .int sh), (0, .ref tp), (1, .int v)] → W p l e (headSpec wsX6_append ({ frames := 0, cells := 0, slots := 0, locals := 0 } : Room)).room s m ([.ref tp, .int v] : List Value).toArray below meth c H locs 0 0 (MQ below (Q_c_X6_append D cy tp tb z f v A) ([.ref tp, .int v] : List Value).toArray s 0 0 A) (F0 m 3 ls []) := by
    intro n_3
    induction n_3 with
    | zero => intro sh z1 f1 hs0 hs1 hz1 hmu; exact absurd hmu (Nat.not_lt_zero _)
    | succ n_3 ih_3 =>
      intro sh z1 f1 hs0 hs1 hz1 hmu_3 H locs hP hD hS ls hl
      refine lv_iload_n hx hb dX6_append_3 rfl (lv_at hl 0 rfl) ?_
      refine lv_if_lt (tgt := 49) hx hb dX6_append_4 (by decide) (fun c4 => ?_) (fun c4 => ?_)
      · skip
        have fc4 := q_lt (a := sh.toInt) (b := 0) c4 rfl (by decide)
        exact r_v hx hb hr hlocks hK hS dX6_append_49 (u := (z1, f1)) hP hD (by omega)
      · skip
        have fc4 := q_nlt (a := sh.toInt) (b := 0) c4 rfl (by decide)
        refine lv_aload_n hx hb dX6_append_7 rfl (lv_at hl 1 rfl) ?_
        refine va_get (D := D) (ci := 6) (v := .int z1) (C := RX6) (T := TX6) (N := 2) hx hb hts in_X6 hown hK hP 0 rfl rfl 0 (by decide) w_1 (fun _ h9 => h9) rfl dX6_append_8 ?_
        refine lv_sipush (v := 400) hx hb dX6_append_11 (by decide) ?_
        refine lv_icmp_ge (tgt := 49) hx hb dX6_append_14 (by decide) (fun c14 => ?_) (fun c14 => ?_)
        · skip
          have fc14 := q_le (a := 400) (b := z1.toInt) c14 (by decide) rfl
          exfalso; omega
        · skip
          have fc14 := q_nle (a := 400) (b := z1.toInt) c14 (by decide) rfl
          refine lv_aload_n hx hb dX6_append_17 rfl (lv_at hl 1 rfl) ?_
          refine va_get (D := D) (ci := 6) (v := .ref tb) (C := RX6) (T := TX6) (N := 2) hx hb hts in_X6 hown hK hP 0 rfl rfl 1 (by decide) w_2 (fun _ h9 => h9) rfl dX6_append_18 ?_
          refine lv_aload_n hx hb dX6_append_21 rfl (lv_at hl 1 rfl) ?_
          refine va_get (D := D) (ci := 6) (v := .int z1) (C := RX6) (T := TX6) (N := 2) hx hb hts in_X6 hown hK hP 0 rfl rfl 0 (by decide) w_1 (fun _ h9 => h9) rfl dX6_append_22 ?_
          refine lv_iload_n hx hb dX6_append_25 rfl (lv_at hl 2 rfl) ?_
          refine lv_iload_n hx hb dX6_append_26 rfl (lv_at hl 0 rfl) ?_
          refine lv_ishr hx hb dX6_append_27 ?_
          refine lv_topi (fun x27 ex27 => ?_)
          refine lv_sipush (v := 255) hx hb dX6_append_28 (by decide) ?_
          refine lv_iand hx hb dX6_append_31 ?_
          refine lv_topi (fun x31 ex31 => ?_)
          refine va_iast hx hb hK hP hD hS 1 0 rfl rfl (q_in (a := z1.toInt) rfl (by omega) (by omega)) dX6_append_32 (fun H locs hP hD hS => ?_)
          have hP : va_P D vwCl [(tp, .inr (6, [.int z1, .ref tb])), (tb, .inl (cy 0, 400, .inl (upd f1 z1.toNatClampNeg x31)))] H := hP
          have hD : va_D A [(tp, .inr (6, [.int z1, .ref tb])), (tb, .inl (cy 0, 400, .inl (upd f1 z1.toNatClampNeg x31)))] := hD
          refine lv_aload_n hx hb dX6_append_33 rfl (lv_at hl 1 rfl) ?_
          refine lv_dup hx hb dX6_append_34 rfl ?_
          refine va_get (D := D) (ci := 6) (v := .int z1) (C := RX6) (T := TX6) (N := 2) hx hb hts in_X6 hown hK hP 0 rfl rfl 0 (by decide) w_1 (fun _ h9 => h9) rfl dX6_append_35 ?_
          refine lv_iconst (v := 1) hx hb dX6_append_38 (by decide) ?_
          refine lv_iadd hx hb dX6_append_39 ?_
          refine lv_topi (fun x39 ex39 => ?_)
          have tx39 := q_add (p := z1.toInt) (q := 1) ex39 rfl (by decide) (by omega) (by omega)
          refine va_put (D := D) (ci := 6) (v := .int x39) (ty := .int) (C := RX6) (T := TX6) (N := 2) hx hb hts in_X6 tyX6 tyX6_ok nmX6 hown hK hP hD hS 0 rfl rfl 0 (by decide) w_1 (fun _ h9 => h9) rfl (by decide +kernel) rfl rfl (Nat.le_of_ble_eq_true rfl) dX6_append_40 (fun H locs hP hD hS => ?_)
          have hP : va_P D vwCl [(tp, .inr (6, [.int x39, .ref tb])), (tb, .inl (cy 0, 400, .inl (upd f1 z1.toNatClampNeg x31)))] H := hP
          have hD : va_D A [(tp, .inr (6, [.int x39, .ref tb])), (tb, .inl (cy 0, 400, .inl (upd f1 z1.toNatClampNeg x31)))] := hD
          obtain ⟨x43, ex43⟩ : ∃ y : Int32, y = sh + (-8) := ⟨_, rfl⟩
          refine lv_iinc (v := x43) (lv' := [(2, .int x43), (0, .ref tp), (1, .int v)]) hx hb dX6_append_43 hl (k := 0) rfl (by rw [ex43]; rfl) (by decide) rfl (fun ls hl => ?_)
          have tx43 := q_add (p := sh.toInt) (q := -8) ex43 rfl (by decide) (by omega) (by omega)
          refine lv_goto (tgt := 3) hx hb dX6_append_46 (by decide) ?_
          exact ih_3 x43 x39 (upd f1 z1.toNatClampNeg x31) (by omega) (by omega) (by omega) (by omega) H locs hP hD hS ls (lv_sub hl [0, 1, 2] rfl)
  exact lp_3 (32 + 1) 24 z f (by decide) (by decide) (by rw [show (24 : Int32).toInt = 24 by decide]; omega) (by first | omega | exact Nat.lt_succ_self _) H locs hP hD hS ls (lv_sub hl [0, 1, 2] rfl)

abbrev Q_c_X9_feed (D : va_G) (cy : Nat → ClassId) (x0 : Nat) (b0 : Nat) (im : Nat) (tp : Nat) (rd : Nat) (tb : Nat) (v1 : Int32) (v2 : Int32) (v3 : Int32) (v4 : Int32) (v5 : Int32) : (Nat → Prop) → Array Value → State → Outcome → State → Prop := QI D cy (fun (r : Int32) (_ : Unit) => r.toInt = 20) (fun _ : Unit => [])
set_option maxHeartbeats 4000000 in
set_option maxRecDepth 100000 in
theorem c_X9_feed (l : Launch) (D : va_G) (cy : Nat → ClassId) (x0 : Nat) (b0 : Nat) (im : Nat) (tp : Nat) (rd : Nat) (tb : Nat) (v1 : Int32) (v2 : Int32) (v3 : Int32) (v4 : Int32) (v5 : Int32) (sz : Nat)  : Met l yX9_feed wsX9_feed ({ frames := 1, cells := 0, slots := 0, locals := 22 } : Room) (CP D cy [.ref x0, .int v1, .int v2, .int v3, .int v4, .int v5] [(x0, .inr (9, [.ref b0, .ref im, .ref tp, .ref rd])), (tp, .inr (6, [.int 0, .ref tb])), (tb, .inl (cy 0, 400, .inl (fun _ => 0)))] sz) (Q_c_X9_feed D cy x0 b0 im tp rd tb v1 v2 v3 v4 v5 (va_A [(x0, .inr (9, [.ref b0, .ref im, .ref tp, .ref rd])), (tp, .inr (6, [.int 0, .ref tb])), (tb, .inl (cy 0, 400, .inl (fun _ => 0)))] sz)) 0 0 (va_A [(x0, .inr (9, [.ref b0, .ref im, .ref tp, .ref rd])), (tp, .inr (6, [.int 0, .ref tb])), (tb, .inl (cy 0, 400, .inl (fun _ => 0)))] sz) := by
  refine Met.go (Qc := Q_c_X9_feed D cy x0 b0 im tp rd tb v1 v2 v3 v4 v5) (cc := cX9_feed) (maxL := 6) (ret := (some .int)) (by decide) rfl (Nat.le_of_ble_eq_true rfl) ?_
  intro p e s m below meth c hx hb hr hts hown hlocks hin hml hK hN A hA hD hP hS ls hl hsz
  have hl : lv_has ls 6 [(0, .ref x0), (1, .int v1), (2, .int v2), (3, .int v3), (4, .int v4), (5, .int v5)] := hl
  have in_X9 : ∀ w ∈ wsX90, w ∈ wsX9_feed := fun _ h => List.mem_cons_of_mem _ (List.mem_append_left _ ((List.mem_append_right _ h)))
  have w_1 := hts (.fieldLink RX9 23 "SleepingCars" "tape" "LSleepingCars$Tape;") (by decide +kernel)
  have in_X6 : ∀ w ∈ wsX60, w ∈ wsX9_feed := fun _ h => List.mem_cons_of_mem _ ((List.mem_append_right _ h))
  have w_3 := hts (.fieldLink RX9 196 "SleepingCars$Tape" "size" "I") (by decide +kernel)
  have w_4 := hts (.instanceMethod yX6_append) (by decide +kernel)
  obtain ⟨H, eH⟩ : ∃ H : Heap, H = s.heap := ⟨_, rfl⟩
  obtain ⟨locs, eL⟩ : ∃ L : List Loc, L = [] := ⟨_, rfl⟩
  rw [← eL]
  rw [← eL] at hS
  have hP : va_P D vwCl [(x0, .inr (9, [.ref b0, .ref im, .ref tp, .ref rd])), (tp, .inr (6, [.int 0, .ref tb])), (tb, .inl (cy 0, 400, .inl (fun _ => 0)))] H := by rw [eH]; exact hP
  have hS : va_S A s.heap H locs := by rw [eH]; exact hS
  refine W.heapEq eH ?_
  clear eH eL
  refine lv_aload_n hx hb dX9_feed_0 rfl (lv_at hl 0 rfl) ?_
  refine va_get (D := D) (ci := 9) (v := .ref tp) (C := RX9) (T := TX9) (N := 4) hx hb hts in_X9 hown hK hP 0 rfl rfl 2 (by decide) w_1 (fun _ h9 => h9) rfl dX9_feed_1 ?_
  refine va_get (D := D) (ci := 6) (v := .int 0) (C := RX6) (T := TX6) (N := 2) hx hb hts in_X6 hown hK hP 1 rfl rfl 0 (by decide) w_3 (fun _ h9 => h9) rfl dX9_feed_4 ?_
  refine lv_bipush (v := 20) hx hb dX9_feed_7 (by decide) ?_
  refine lv_iadd hx hb dX9_feed_9 ?_
  refine lv_topi (fun x9 ex9 => ?_)
  obtain rfl : x9 = 20 := ex9.trans (by decide)
  refine lv_sipush (v := 400) hx hb dX9_feed_10 (by decide) ?_
  refine lv_icmp_le (tgt := 18) hx hb dX9_feed_13 (by decide) (fun c13 => ?_) (fun c13 => ?_)
  · skip
    refine lv_aload_n hx hb dX9_feed_18 rfl (lv_at hl 0 rfl) ?_
    refine va_get (D := D) (ci := 9) (v := .ref tp) (C := RX9) (T := TX9) (N := 4) hx hb hts in_X9 hown hK hP 0 rfl rfl 2 (by decide) w_1 (fun _ h9 => h9) rfl dX9_feed_19 ?_
    refine lv_iload_n hx hb dX9_feed_22 rfl (lv_at hl 1 rfl) ?_
    refine k_v (va_runV (As := [.int v1]) (rest := []) ⟨hx, hb, hml, hown, hts⟩ (c_X6_append l D cy tp tb 0 (fun _ => 0) v1 H.size (by decide)) (cwV 1 hts gX9_feed_X6_append rfl rfl rfl (by decide +kernel) ⟨Nat.le_of_ble_eq_true rfl, Nat.le_of_ble_eq_true rfl⟩) (cp_v hK hN hP hD [1, 2] rfl (by decide) (ci := 6) rfl rfl rfl) rfl rfl hl.1 rfl (lv_room (Nat.le_of_ble_eq_true rfl)) dX9_feed_23 ⟨Nat.le_of_ble_eq_true rfl, Nat.le_of_ble_eq_true rfl⟩) hP hD hS hA [1, 2] [0] (wr := [(x0, .inr (9, [.ref b0, .ref im, .ref tp, .ref rd]))]) rfl rfl (by decide) (by decide) (fun u_r23 H locs hw23 hP hD hS => ?_)
    obtain ⟨o23, o23_1⟩ := u_r23
    try dsimp only at hw23
    have hP : va_P D vwCl [(x0, .inr (9, [.ref b0, .ref im, .ref tp, .ref rd])), (tp, .inr (6, [.int o23, .ref tb])), (tb, .inl (cy 0, 400, .inl o23_1))] H := hP
    have hD : va_D A [(x0, .inr (9, [.ref b0, .ref im, .ref tp, .ref rd])), (tp, .inr (6, [.int o23, .ref tb])), (tb, .inl (cy 0, 400, .inl o23_1))] := hD
    simp only [show (0 : Int32).toInt = 0 by decide] at hw23
    refine lv_aload_n hx hb dX9_feed_26 rfl (lv_at hl 0 rfl) ?_
    refine va_get (D := D) (ci := 9) (v := .ref tp) (C := RX9) (T := TX9) (N := 4) hx hb hts in_X9 hown hK hP 0 rfl rfl 2 (by decide) w_1 (fun _ h9 => h9) rfl dX9_feed_27 ?_
    refine lv_iload_n hx hb dX9_feed_30 rfl (lv_at hl 2 rfl) ?_
    refine k_v (va_runV (As := [.int v2]) (rest := []) ⟨hx, hb, hml, hown, hts⟩ (c_X6_append l D cy tp tb o23 o23_1 v2 H.size (by omega)) (cwV 1 hts gX9_feed_X6_append rfl rfl rfl (by decide +kernel) ⟨Nat.le_of_ble_eq_true rfl, Nat.le_of_ble_eq_true rfl⟩) (cp_v hK hN hP hD [1, 2] rfl (by decide) (ci := 6) rfl rfl rfl) rfl rfl hl.1 rfl (lv_room (Nat.le_of_ble_eq_true rfl)) dX9_feed_31 ⟨Nat.le_of_ble_eq_true rfl, Nat.le_of_ble_eq_true rfl⟩) hP hD hS hA [1, 2] [0] (wr := [(x0, .inr (9, [.ref b0, .ref im, .ref tp, .ref rd]))]) rfl rfl (by decide) (by decide) (fun u_r31 H locs hw31 hP hD hS => ?_)
    obtain ⟨o31, o31_1⟩ := u_r31
    try dsimp only at hw31
    have hP : va_P D vwCl [(x0, .inr (9, [.ref b0, .ref im, .ref tp, .ref rd])), (tp, .inr (6, [.int o31, .ref tb])), (tb, .inl (cy 0, 400, .inl o31_1))] H := hP
    have hD : va_D A [(x0, .inr (9, [.ref b0, .ref im, .ref tp, .ref rd])), (tp, .inr (6, [.int o31, .ref tb])), (tb, .inl (cy 0, 400, .inl o31_1))] := hD
    refine lv_aload_n hx hb dX9_feed_34 rfl (lv_at hl 0 rfl) ?_
    refine va_get (D := D) (ci := 9) (v := .ref tp) (C := RX9) (T := TX9) (N := 4) hx hb hts in_X9 hown hK hP 0 rfl rfl 2 (by decide) w_1 (fun _ h9 => h9) rfl dX9_feed_35 ?_
    refine lv_iload_n hx hb dX9_feed_38 rfl (lv_at hl 3 rfl) ?_
    refine k_v (va_runV (As := [.int v3]) (rest := []) ⟨hx, hb, hml, hown, hts⟩ (c_X6_append l D cy tp tb o31 o31_1 v3 H.size (by omega)) (cwV 1 hts gX9_feed_X6_append rfl rfl rfl (by decide +kernel) ⟨Nat.le_of_ble_eq_true rfl, Nat.le_of_ble_eq_true rfl⟩) (cp_v hK hN hP hD [1, 2] rfl (by decide) (ci := 6) rfl rfl rfl) rfl rfl hl.1 rfl (lv_room (Nat.le_of_ble_eq_true rfl)) dX9_feed_39 ⟨Nat.le_of_ble_eq_true rfl, Nat.le_of_ble_eq_true rfl⟩) hP hD hS hA [1, 2] [0] (wr := [(x0, .inr (9, [.ref b0, .ref im, .ref tp, .ref rd]))]) rfl rfl (by decide) (by decide) (fun u_r39 H locs hw39 hP hD hS => ?_)
    obtain ⟨o39, o39_1⟩ := u_r39
    try dsimp only at hw39
    have hP : va_P D vwCl [(x0, .inr (9, [.ref b0, .ref im, .ref tp, .ref rd])), (tp, .inr (6, [.int o39, .ref tb])), (tb, .inl (cy 0, 400, .inl o39_1))] H := hP
    have hD : va_D A [(x0, .inr (9, [.ref b0, .ref im, .ref tp, .ref rd])), (tp, .inr (6, [.int o39, .ref tb])), (tb, .inl (cy 0, 400, .inl o39_1))] := hD
    refine lv_aload_n hx hb dX9_feed_42 rfl (lv_at hl 0 rfl) ?_
    refine va_get (D := D) (ci := 9) (v := .ref tp) (C := RX9) (T := TX9) (N := 4) hx hb hts in_X9 hown hK hP 0 rfl rfl 2 (by decide) w_1 (fun _ h9 => h9) rfl dX9_feed_43 ?_
    refine lv_iload hx hb dX9_feed_46 (lv_at hl 4 rfl) ?_
    refine k_v (va_runV (As := [.int v4]) (rest := []) ⟨hx, hb, hml, hown, hts⟩ (c_X6_append l D cy tp tb o39 o39_1 v4 H.size (by omega)) (cwV 1 hts gX9_feed_X6_append rfl rfl rfl (by decide +kernel) ⟨Nat.le_of_ble_eq_true rfl, Nat.le_of_ble_eq_true rfl⟩) (cp_v hK hN hP hD [1, 2] rfl (by decide) (ci := 6) rfl rfl rfl) rfl rfl hl.1 rfl (lv_room (Nat.le_of_ble_eq_true rfl)) dX9_feed_48 ⟨Nat.le_of_ble_eq_true rfl, Nat.le_of_ble_eq_true rfl⟩) hP hD hS hA [1, 2] [0] (wr := [(x0, .inr (9, [.ref b0, .ref im, .ref tp, .ref rd]))]) rfl rfl (by decide) (by decide) (fun u_r48 H locs hw48 hP hD hS => ?_)
    obtain ⟨o48, o48_1⟩ := u_r48
    try dsimp only at hw48
    have hP : va_P D vwCl [(x0, .inr (9, [.ref b0, .ref im, .ref tp, .ref rd])), (tp, .inr (6, [.int o48, .ref tb])), (tb, .inl (cy 0, 400, .inl o48_1))] H := hP
    have hD : va_D A [(x0, .inr (9, [.ref b0, .ref im, .ref tp, .ref rd])), (tp, .inr (6, [.int o48, .ref tb])), (tb, .inl (cy 0, 400, .inl o48_1))] := hD
    refine lv_aload_n hx hb dX9_feed_51 rfl (lv_at hl 0 rfl) ?_
    refine va_get (D := D) (ci := 9) (v := .ref tp) (C := RX9) (T := TX9) (N := 4) hx hb hts in_X9 hown hK hP 0 rfl rfl 2 (by decide) w_1 (fun _ h9 => h9) rfl dX9_feed_52 ?_
    refine lv_iload hx hb dX9_feed_55 (lv_at hl 5 rfl) ?_
    refine k_v (va_runV (As := [.int v5]) (rest := []) ⟨hx, hb, hml, hown, hts⟩ (c_X6_append l D cy tp tb o48 o48_1 v5 H.size (by omega)) (cwV 1 hts gX9_feed_X6_append rfl rfl rfl (by decide +kernel) ⟨Nat.le_of_ble_eq_true rfl, Nat.le_of_ble_eq_true rfl⟩) (cp_v hK hN hP hD [1, 2] rfl (by decide) (ci := 6) rfl rfl rfl) rfl rfl hl.1 rfl (lv_room (Nat.le_of_ble_eq_true rfl)) dX9_feed_57 ⟨Nat.le_of_ble_eq_true rfl, Nat.le_of_ble_eq_true rfl⟩) hP hD hS hA [1, 2] [0] (wr := [(x0, .inr (9, [.ref b0, .ref im, .ref tp, .ref rd]))]) rfl rfl (by decide) (by decide) (fun u_r57 H locs hw57 hP hD hS => ?_)
    obtain ⟨o57, o57_1⟩ := u_r57
    try dsimp only at hw57
    have hP : va_P D vwCl [(x0, .inr (9, [.ref b0, .ref im, .ref tp, .ref rd])), (tp, .inr (6, [.int o57, .ref tb])), (tb, .inl (cy 0, 400, .inl o57_1))] H := hP
    have hD : va_D A [(x0, .inr (9, [.ref b0, .ref im, .ref tp, .ref rd])), (tp, .inr (6, [.int o57, .ref tb])), (tb, .inl (cy 0, 400, .inl o57_1))] := hD
    refine lv_aload_n hx hb dX9_feed_60 rfl (lv_at hl 0 rfl) ?_
    refine va_get (D := D) (ci := 9) (v := .ref tp) (C := RX9) (T := TX9) (N := 4) hx hb hts in_X9 hown hK hP 0 rfl rfl 2 (by decide) w_1 (fun _ h9 => h9) rfl dX9_feed_61 ?_
    refine va_get (D := D) (ci := 6) (v := .int o57) (C := RX6) (T := TX6) (N := 2) hx hb hts in_X6 hown hK hP 1 rfl rfl 0 (by decide) w_3 (fun _ h9 => h9) rfl dX9_feed_64 ?_
    exact r_i hx hb hr hlocks hK hS dX9_feed_67 (u := ()) (hP.sub (ws' := []) [] rfl) (hD.sub (ws' := []) [] (by decide) rfl) (by omega)
  · skip
    exact absurd c13 (by decide)

abbrev Q_c_X9_end (D : va_G) (cy : Nat → ClassId) (x0 : Nat) (b0 : Nat) (im : Nat) (tp : Nat) (rd : Nat) (tb : Nat) (n : Int32) : (Nat → Prop) → Array Value → State → Outcome → State → Prop := QI D cy (fun (r : Int32) (_ : Unit) => (n.toInt = 0 ∧ r.toInt = 0) ∨ (n.toInt ≠ 0 ∧ r.toInt = -1)) (fun _ : Unit => [])
set_option maxHeartbeats 4000000 in
set_option maxRecDepth 100000 in
theorem c_X9_end (l : Launch) (D : va_G) (cy : Nat → ClassId) (x0 : Nat) (b0 : Nat) (im : Nat) (tp : Nat) (rd : Nat) (tb : Nat) (n : Int32) (sz : Nat)  : Met l yX9_end wsX9_end ({ frames := 0, cells := 0, slots := 0, locals := 0 } : Room) (CP D cy [.ref x0, .int n] [(x0, .inr (9, [.ref b0, .ref im, .ref tp, .ref rd])), (tp, .inr (6, [.int 0, .ref tb]))] sz) (Q_c_X9_end D cy x0 b0 im tp rd tb n (va_A [(x0, .inr (9, [.ref b0, .ref im, .ref tp, .ref rd])), (tp, .inr (6, [.int 0, .ref tb]))] sz)) 0 0 (va_A [(x0, .inr (9, [.ref b0, .ref im, .ref tp, .ref rd])), (tp, .inr (6, [.int 0, .ref tb]))] sz) := by
  refine Met.go (Qc := Q_c_X9_end D cy x0 b0 im tp rd tb n) (cc := cX9_end) (maxL := 2) (ret := (some .int)) (by decide) rfl (Nat.le_of_ble_eq_true rfl) ?_
  intro p e s m below meth c hx hb hr hts hown hlocks hin hml hK hN A hA hD hP hS ls hl hsz
  have hl : lv_has ls 2 [(0, .ref x0), (1, .int n)] := hl
  have in_X9 : ∀ w ∈ wsX90, w ∈ wsX9_end := fun _ h => List.mem_cons_of_mem _ (List.mem_append_left _ ((List.mem_append_right _ h)))
  have w_1 := hts (.fieldLink RX9 23 "SleepingCars" "tape" "LSleepingCars$Tape;") (by decide +kernel)
  have in_X6 : ∀ w ∈ wsX60, w ∈ wsX9_end := fun _ h => List.mem_cons_of_mem _ ((List.mem_append_right _ h))
  have w_3 := hts (.fieldLink RX9 196 "SleepingCars$Tape" "size" "I") (by decide +kernel)
  obtain ⟨H, eH⟩ : ∃ H : Heap, H = s.heap := ⟨_, rfl⟩
  obtain ⟨locs, eL⟩ : ∃ L : List Loc, L = [] := ⟨_, rfl⟩
  rw [← eL]
  rw [← eL] at hS
  have hP : va_P D vwCl [(x0, .inr (9, [.ref b0, .ref im, .ref tp, .ref rd])), (tp, .inr (6, [.int 0, .ref tb]))] H := by rw [eH]; exact hP
  have hS : va_S A s.heap H locs := by rw [eH]; exact hS
  refine W.heapEq eH ?_
  clear eH eL
  refine lv_iload_n hx hb dX9_end_0 rfl (lv_at hl 1 rfl) ?_
  refine lv_if_lt (tgt := 15) hx hb dX9_end_1 (by decide) (fun c1 => ?_) (fun c1 => ?_)
  · skip
    have fc1 := q_lt (a := n.toInt) (b := 0) c1 rfl (by decide)
    refine lv_iconst (v := (-1)) hx hb dX9_end_15 (by decide) ?_
    exact r_i hx hb hr hlocks hK hS dX9_end_16 (u := ()) (hP.sub (ws' := []) [] rfl) (hD.sub (ws' := []) [] (by decide) rfl) (by first | exact Or.inl ⟨by omega, by omega⟩ | exact Or.inr ⟨by omega, by decide⟩)
  · skip
    have fc1 := q_nlt (a := n.toInt) (b := 0) c1 rfl (by decide)
    refine lv_iload_n hx hb dX9_end_4 rfl (lv_at hl 1 rfl) ?_
    refine lv_aload_n hx hb dX9_end_5 rfl (lv_at hl 0 rfl) ?_
    refine va_get (D := D) (ci := 9) (v := .ref tp) (C := RX9) (T := TX9) (N := 4) hx hb hts in_X9 hown hK hP 0 rfl rfl 2 (by decide) w_1 (fun _ h9 => h9) rfl dX9_end_6 ?_
    refine va_get (D := D) (ci := 6) (v := .int 0) (C := RX6) (T := TX6) (N := 2) hx hb hts in_X6 hown hK hP 1 rfl rfl 0 (by decide) w_3 (fun _ h9 => h9) rfl dX9_end_9 ?_
    refine lv_icmp_le (tgt := 17) hx hb dX9_end_12 (by decide) (fun c12 => ?_) (fun c12 => ?_)
    · skip
      have fc12 := q_le (a := n.toInt) (b := 0) c12 rfl (by decide)
      refine lv_aload_n hx hb dX9_end_17 rfl (lv_at hl 0 rfl) ?_
      refine va_get (D := D) (ci := 9) (v := .ref tp) (C := RX9) (T := TX9) (N := 4) hx hb hts in_X9 hown hK hP 0 rfl rfl 2 (by decide) w_1 (fun _ h9 => h9) rfl dX9_end_18 ?_
      refine lv_iload_n hx hb dX9_end_21 rfl (lv_at hl 1 rfl) ?_
      refine va_put (D := D) (ci := 6) (v := .int n) (ty := .int) (C := RX6) (T := TX6) (N := 2) hx hb hts in_X6 tyX6 tyX6_ok nmX6 hown hK hP hD hS 1 rfl rfl 0 (by decide) w_3 (fun _ h9 => h9) rfl (by decide +kernel) rfl rfl (Nat.le_of_ble_eq_true rfl) dX9_end_22 (fun H locs hP hD hS => ?_)
      have hP : va_P D vwCl [(x0, .inr (9, [.ref b0, .ref im, .ref tp, .ref rd])), (tp, .inr (6, [.int n, .ref tb]))] H := hP
      have hD : va_D A [(x0, .inr (9, [.ref b0, .ref im, .ref tp, .ref rd])), (tp, .inr (6, [.int n, .ref tb]))] := hD
      refine lv_iload_n hx hb dX9_end_25 rfl (lv_at hl 1 rfl) ?_
      exact r_i hx hb hr hlocks hK hS dX9_end_26 (u := ()) (hP.sub (ws' := []) [] rfl) (hD.sub (ws' := []) [] (by decide) rfl) (by first | exact Or.inl ⟨by omega, by omega⟩ | exact Or.inr ⟨by omega, by decide⟩)
    · skip
      have fc12 := q_nle (a := n.toInt) (b := 0) c12 rfl (by decide)
      refine lv_iconst (v := (-1)) hx hb dX9_end_15 (by decide) ?_
      exact r_i hx hb hr hlocks hK hS dX9_end_16 (u := ()) (hP.sub (ws' := []) [] rfl) (hD.sub (ws' := []) [] (by decide) rfl) (by first | exact Or.inl ⟨by omega, by omega⟩ | exact Or.inr ⟨by omega, by decide⟩)

abbrev Q_c_X9_fault (D : va_G) (cy : Nat → ClassId) (x0 : Nat) (b0 : Nat) (im : Nat) (tp : Nat) (rd : Nat) (d0 : Nat) (k0 : Nat) (what : Int32) : (Nat → Prop) → Array Value → State → Outcome → State → Prop := QI D cy (fun (r : Int32) (_ : Unit) => (what.toInt = 0 ∧ r.toInt = 0) ∨ (what.toInt ≠ 0 ∧ r.toInt = -1)) (fun _ : Unit => [])
set_option maxHeartbeats 4000000 in
set_option maxRecDepth 100000 in
theorem c_X9_fault (l : Launch) (D : va_G) (cy : Nat → ClassId) (x0 : Nat) (b0 : Nat) (im : Nat) (tp : Nat) (rd : Nat) (d0 : Nat) (k0 : Nat) (what : Int32) (sz : Nat)  : Met l yX9_fault wsX9_fault ({ frames := 0, cells := 0, slots := 0, locals := 0 } : Room) (CP D cy [.ref x0, .int what] [(x0, .inr (9, [.ref b0, .ref im, .ref tp, .ref rd])), (rd, .inr (3, [.int 0, .int (-1), .ref d0, .ref k0, .int 0, .int 0]))] sz) (Q_c_X9_fault D cy x0 b0 im tp rd d0 k0 what (va_A [(x0, .inr (9, [.ref b0, .ref im, .ref tp, .ref rd])), (rd, .inr (3, [.int 0, .int (-1), .ref d0, .ref k0, .int 0, .int 0]))] sz)) 0 0 (va_A [(x0, .inr (9, [.ref b0, .ref im, .ref tp, .ref rd])), (rd, .inr (3, [.int 0, .int (-1), .ref d0, .ref k0, .int 0, .int 0]))] sz) := by
  refine Met.go (Qc := Q_c_X9_fault D cy x0 b0 im tp rd d0 k0 what) (cc := cX9_fault) (maxL := 2) (ret := (some .int)) (by decide) rfl (Nat.le_of_ble_eq_true rfl) ?_
  intro p e s m below meth c hx hb hr hts hown hlocks hin hml hK hN A hA hD hP hS ls hl hsz
  have hl : lv_has ls 2 [(0, .ref x0), (1, .int what)] := hl
  have in_X9 : ∀ w ∈ wsX90, w ∈ wsX9_fault := fun _ h => List.mem_cons_of_mem _ (List.mem_append_left _ ((List.mem_append_right _ h)))
  have w_1 := hts (.fieldLink RX9 30 "SleepingCars" "reader" "LSleepingCars$Reader;") (by decide +kernel)
  have in_X3 : ∀ w ∈ wsX30, w ∈ wsX9_fault := fun _ h => List.mem_cons_of_mem _ ((List.mem_append_right _ h))
  have w_3 := hts (.fieldLink RX9 204 "SleepingCars$Reader" "faultKind" "I") (by decide +kernel)
  have w_4 := hts (.fieldLink RX9 223 "SleepingCars$Reader" "faultPlace" "I") (by decide +kernel)
  obtain ⟨H, eH⟩ : ∃ H : Heap, H = s.heap := ⟨_, rfl⟩
  obtain ⟨locs, eL⟩ : ∃ L : List Loc, L = [] := ⟨_, rfl⟩
  rw [← eL]
  rw [← eL] at hS
  have hP : va_P D vwCl [(x0, .inr (9, [.ref b0, .ref im, .ref tp, .ref rd])), (rd, .inr (3, [.int 0, .int (-1), .ref d0, .ref k0, .int 0, .int 0]))] H := by rw [eH]; exact hP
  have hS : va_S A s.heap H locs := by rw [eH]; exact hS
  refine W.heapEq eH ?_
  clear eH eL
  refine lv_iload_n hx hb dX9_fault_0 rfl (lv_at hl 1 rfl) ?_
  by_cases c1 : what = 0
  · have fc1 := q_eq (a := what.toInt) (b := 0) c1 rfl (by decide)
    refine lv_lookup (tgt := 28) (off := 27) hx hb dX9_fault_1 (by decide) (by rw [fc1]; rfl) (by decide) ?_
    refine lv_aload_n hx hb dX9_fault_28 rfl (lv_at hl 0 rfl) ?_
    refine va_get (D := D) (ci := 9) (v := .ref rd) (C := RX9) (T := TX9) (N := 4) hx hb hts in_X9 hown hK hP 0 rfl rfl 3 (by decide) w_1 (fun _ h9 => h9) rfl dX9_fault_29 ?_
    refine va_get (D := D) (ci := 3) (v := .int 0) (C := RX3) (T := TX3) (N := 6) hx hb hts in_X3 hown hK hP 1 rfl rfl 0 (by decide) w_3 (fun _ h9 => h9) rfl dX9_fault_32 ?_
    exact r_i hx hb hr hlocks hK hS dX9_fault_35 (u := ()) (hP.sub (ws' := []) [] rfl) (hD.sub (ws' := []) [] (by decide) rfl) (by first | exact Or.inl ⟨by omega, by decide⟩ | exact Or.inr ⟨by omega, by decide⟩)
  have fc1 := q_ne (a := what.toInt) (b := 0) c1 rfl (by decide)
  by_cases c35 : what = 1
  · have fc35 := q_eq (a := what.toInt) (b := 1) c35 rfl (by decide)
    refine lv_lookup (tgt := 36) (off := 35) hx hb dX9_fault_1 (by decide) ((lv_osw (k := 0) c1 (by decide)).trans <| by rw [fc35]; rfl) (by decide) ?_
    refine lv_aload_n hx hb dX9_fault_36 rfl (lv_at hl 0 rfl) ?_
    refine va_get (D := D) (ci := 9) (v := .ref rd) (C := RX9) (T := TX9) (N := 4) hx hb hts in_X9 hown hK hP 0 rfl rfl 3 (by decide) w_1 (fun _ h9 => h9) rfl dX9_fault_37 ?_
    refine va_get (D := D) (ci := 3) (v := .int (-1)) (C := RX3) (T := TX3) (N := 6) hx hb hts in_X3 hown hK hP 1 rfl rfl 1 (by decide) w_4 (fun _ h9 => h9) rfl dX9_fault_40 ?_
    exact r_i hx hb hr hlocks hK hS dX9_fault_43 (u := ()) (hP.sub (ws' := []) [] rfl) (hD.sub (ws' := []) [] (by decide) rfl) (by first | exact Or.inl ⟨by omega, by decide⟩ | exact Or.inr ⟨by omega, by decide⟩)
  have fc35 := q_ne (a := what.toInt) (b := 1) c35 rfl (by decide)
  refine lv_lookup (tgt := 44) (off := 43) hx hb dX9_fault_1 (by decide) ((lv_osw (k := 0) c1 (by decide)).trans <| (lv_osw (k := 1) c35 (by decide)).trans <| rfl) (by decide) ?_
  refine lv_iconst (v := (-1)) hx hb dX9_fault_44 (by decide) ?_
  exact r_i hx hb hr hlocks hK hS dX9_fault_45 (u := ()) (hP.sub (ws' := []) [] rfl) (hD.sub (ws' := []) [] (by decide) rfl) (by first | exact Or.inl ⟨by omega, by decide⟩ | exact Or.inr ⟨by omega, by decide⟩)

abbrev Q_c_X9_count (D : va_G) (cy : Nat → ClassId) (x0 : Nat) (b0 : Nat) (im : Nat) (tp : Nat) (rd : Nat) (r0 : Nat) (u0 : Nat) (t0 : Nat) (l0 : Nat) (q0 : Nat) (of : Nat) (sh : Nat) (nl : Nat) (fc : Nat) (r1 : Nat) (r2 : Nat) (u1 : Nat) (u2 : Nat) (u3 : Nat) (t1 : Nat) (t2 : Nat) (t3 : Nat) (t4 : Nat) (t5 : Nat) (t6 : Nat) (l1 : Nat) (l2 : Nat) (l3 : Nat) (l4 : Nat) (l5 : Nat) (l6 : Nat) (l7 : Nat) (q1 : Nat) (q2 : Nat) (q3 : Nat) (q4 : Nat) (q5 : Nat) (q6 : Nat) (q7 : Nat) (g1 : Nat → Int32) (g2 : Nat → Int32) (what : Int32) : (Nat → Prop) → Array Value → State → Outcome → State → Prop := QI D cy (fun (r : Int32) (_ : Unit) => (what.toInt = 0 ∧ r.toInt = 2) ∨ ((what.toInt = 6 ∨ what.toInt = 7) ∧ r.toInt = 1) ∨ (1 ≤ what.toInt ∧ what.toInt ≤ 5 ∧ r.toInt = 0) ∨ ((what.toInt < 0 ∨ 7 < what.toInt) ∧ r.toInt = -1)) (fun _ : Unit => [])
set_option maxHeartbeats 4000000 in
set_option maxRecDepth 100000 in
theorem c_X9_count (l : Launch) (D : va_G) (cy : Nat → ClassId) (x0 : Nat) (b0 : Nat) (im : Nat) (tp : Nat) (rd : Nat) (r0 : Nat) (u0 : Nat) (t0 : Nat) (l0 : Nat) (q0 : Nat) (of : Nat) (sh : Nat) (nl : Nat) (fc : Nat) (r1 : Nat) (r2 : Nat) (u1 : Nat) (u2 : Nat) (u3 : Nat) (t1 : Nat) (t2 : Nat) (t3 : Nat) (t4 : Nat) (t5 : Nat) (t6 : Nat) (l1 : Nat) (l2 : Nat) (l3 : Nat) (l4 : Nat) (l5 : Nat) (l6 : Nat) (l7 : Nat) (q1 : Nat) (q2 : Nat) (q3 : Nat) (q4 : Nat) (q5 : Nat) (q6 : Nat) (q7 : Nat) (g1 : Nat → Int32) (g2 : Nat → Int32) (what : Int32) (sz : Nat) (hg1 : ∀ j : Nat, j < 9 → g1 j = 1) (hg2 : ∀ j : Nat, j < 9 → g2 j = 1) : Met l yX9_count wsX9_count ({ frames := 2, cells := 0, slots := 0, locals := 43 } : Room) (CP D cy [.ref x0, .int what] [(x0, .inr (9, [.ref b0, .ref im, .ref tp, .ref rd])), (b0, .inr (0, [.int 0, .ref r0, .ref u0, .ref t0, .ref l0, .ref q0, .ref of, .ref sh, .ref nl, .ref fc])), (r0, .inr (4, [.int 2, .ref r1, .ref r2])), (r1, .inl (cy 0, 9, .inl g1)), (r2, .inl (cy 0, 9, .inl g2)), (u0, .inr (5, [.int 0, .ref u1, .ref u2, .ref u3])), (t0, .inr (7, [.int 0, .ref t1, .ref t2, .ref t3, .ref t4, .ref t5, .ref t6])), (l0, .inr (1, [.int 0, .ref l1, .ref l2, .ref l3, .ref l4, .ref l5, .ref l6, .ref l7])), (q0, .inr (2, [.int 0, .ref q1, .ref q2, .ref q3, .ref q4, .ref q5, .ref q6, .ref q7]))] sz) (Q_c_X9_count D cy x0 b0 im tp rd r0 u0 t0 l0 q0 of sh nl fc r1 r2 u1 u2 u3 t1 t2 t3 t4 t5 t6 l1 l2 l3 l4 l5 l6 l7 q1 q2 q3 q4 q5 q6 q7 g1 g2 what (va_A [(x0, .inr (9, [.ref b0, .ref im, .ref tp, .ref rd])), (b0, .inr (0, [.int 0, .ref r0, .ref u0, .ref t0, .ref l0, .ref q0, .ref of, .ref sh, .ref nl, .ref fc])), (r0, .inr (4, [.int 2, .ref r1, .ref r2])), (r1, .inl (cy 0, 9, .inl g1)), (r2, .inl (cy 0, 9, .inl g2)), (u0, .inr (5, [.int 0, .ref u1, .ref u2, .ref u3])), (t0, .inr (7, [.int 0, .ref t1, .ref t2, .ref t3, .ref t4, .ref t5, .ref t6])), (l0, .inr (1, [.int 0, .ref l1, .ref l2, .ref l3, .ref l4, .ref l5, .ref l6, .ref l7])), (q0, .inr (2, [.int 0, .ref q1, .ref q2, .ref q3, .ref q4, .ref q5, .ref q6, .ref q7]))] sz)) 0 0 (va_A [(x0, .inr (9, [.ref b0, .ref im, .ref tp, .ref rd])), (b0, .inr (0, [.int 0, .ref r0, .ref u0, .ref t0, .ref l0, .ref q0, .ref of, .ref sh, .ref nl, .ref fc])), (r0, .inr (4, [.int 2, .ref r1, .ref r2])), (r1, .inl (cy 0, 9, .inl g1)), (r2, .inl (cy 0, 9, .inl g2)), (u0, .inr (5, [.int 0, .ref u1, .ref u2, .ref u3])), (t0, .inr (7, [.int 0, .ref t1, .ref t2, .ref t3, .ref t4, .ref t5, .ref t6])), (l0, .inr (1, [.int 0, .ref l1, .ref l2, .ref l3, .ref l4, .ref l5, .ref l6, .ref l7])), (q0, .inr (2, [.int 0, .ref q1, .ref q2, .ref q3, .ref q4, .ref q5, .ref q6, .ref q7]))] sz) := by
  refine Met.go (Qc := Q_c_X9_count D cy x0 b0 im tp rd r0 u0 t0 l0 q0 of sh nl fc r1 r2 u1 u2 u3 t1 t2 t3 t4 t5 t6 l1 l2 l3 l4 l5 l6 l7 q1 q2 q3 q4 q5 q6 q7 g1 g2 what) (cc := cX9_count) (maxL := 2) (ret := (some .int)) (by decide) rfl (Nat.le_of_ble_eq_true rfl) ?_
  intro p e s m below meth c hx hb hr hts hown hlocks hin hml hK hN A hA hD hP hS ls hl hsz
  have hl : lv_has ls 2 [(0, .ref x0), (1, .int what)] := hl
  have in_X9 : ∀ w ∈ wsX90, w ∈ wsX9_count := fun _ h => List.mem_cons_of_mem _ (List.mem_append_left _ (List.mem_append_left _ (List.mem_append_left _ (List.mem_append_left _ (List.mem_append_left _ (List.mem_append_left _ ((List.mem_append_right _ h))))))))
  have w_1 := hts (.fieldLink RX9 10 "SleepingCars" "book" "LSleepingCars$Book;") (by decide +kernel)
  have in_X0 : ∀ w ∈ wsX00, w ∈ wsX9_count := fun _ h => List.mem_cons_of_mem _ (List.mem_append_left _ (List.mem_append_left _ (List.mem_append_left _ (List.mem_append_left _ (List.mem_append_left _ ((List.mem_append_right _ h)))))))
  have w_3 := hts (.fieldLink RX9 44 "SleepingCars$Book" "route" "LSleepingCars$Route;") (by decide +kernel)
  have in_X4 : ∀ w ∈ wsX40, w ∈ wsX9_count := fun _ h => List.mem_cons_of_mem _ (List.mem_append_left _ (List.mem_append_left _ (List.mem_append_left _ (List.mem_append_left _ ((List.mem_append_right _ h))))))
  have w_5 := hts (.fieldLink RX9 249 "SleepingCars$Route" "stops" "I") (by decide +kernel)
  have w_6 := hts (.fieldLink RX9 34 "SleepingCars$Book" "runs" "LSleepingCars$Runs;") (by decide +kernel)
  have in_X5 : ∀ w ∈ wsX50, w ∈ wsX9_count := fun _ h => List.mem_cons_of_mem _ (List.mem_append_left _ (List.mem_append_left _ (List.mem_append_left _ ((List.mem_append_right _ h)))))
  have w_8 := hts (.fieldLink RX9 38 "SleepingCars$Runs" "size" "I") (by decide +kernel)
  have w_9 := hts (.fieldLink RX9 102 "SleepingCars$Book" "tickets" "LSleepingCars$Tickets;") (by decide +kernel)
  have in_X7 : ∀ w ∈ wsX70, w ∈ wsX9_count := fun _ h => List.mem_cons_of_mem _ (List.mem_append_left _ (List.mem_append_left _ ((List.mem_append_right _ h))))
  have w_11 := hts (.fieldLink RX9 252 "SleepingCars$Tickets" "size" "I") (by decide +kernel)
  have w_12 := hts (.fieldLink RX9 122 "SleepingCars$Book" "letters" "LSleepingCars$Letters;") (by decide +kernel)
  have in_X1 : ∀ w ∈ wsX10, w ∈ wsX9_count := fun _ h => List.mem_cons_of_mem _ (List.mem_append_left _ ((List.mem_append_right _ h)))
  have w_14 := hts (.fieldLink RX9 253 "SleepingCars$Letters" "size" "I") (by decide +kernel)
  have w_15 := hts (.fieldLink RX9 126 "SleepingCars$Book" "now" "I") (by decide +kernel)
  have w_16 := hts (.fieldLink RX9 207 "SleepingCars$Book" "rates" "LSleepingCars$Rates;") (by decide +kernel)
  have in_X2 : ∀ w ∈ wsX20, w ∈ wsX9_count := fun _ h => List.mem_cons_of_mem _ ((List.mem_append_right _ h))
  have w_18 := hts (.fieldLink RX9 220 "SleepingCars$Rates" "lines" "I") (by decide +kernel)
  have w_19 := hts (.instanceMethod yX4_allHours) (by decide +kernel)
  have w_20 := hts (.instanceMethod yX4_allKm) (by decide +kernel)
  obtain ⟨H, eH⟩ : ∃ H : Heap, H = s.heap := ⟨_, rfl⟩
  obtain ⟨locs, eL⟩ : ∃ L : List Loc, L = [] := ⟨_, rfl⟩
  rw [← eL]
  rw [← eL] at hS
  have hP : va_P D vwCl [(x0, .inr (9, [.ref b0, .ref im, .ref tp, .ref rd])), (b0, .inr (0, [.int 0, .ref r0, .ref u0, .ref t0, .ref l0, .ref q0, .ref of, .ref sh, .ref nl, .ref fc])), (r0, .inr (4, [.int 2, .ref r1, .ref r2])), (r1, .inl (cy 0, 9, .inl g1)), (r2, .inl (cy 0, 9, .inl g2)), (u0, .inr (5, [.int 0, .ref u1, .ref u2, .ref u3])), (t0, .inr (7, [.int 0, .ref t1, .ref t2, .ref t3, .ref t4, .ref t5, .ref t6])), (l0, .inr (1, [.int 0, .ref l1, .ref l2, .ref l3, .ref l4, .ref l5, .ref l6, .ref l7])), (q0, .inr (2, [.int 0, .ref q1, .ref q2, .ref q3, .ref q4, .ref q5, .ref q6, .ref q7]))] H := by rw [eH]; exact hP
  have hS : va_S A s.heap H locs := by rw [eH]; exact hS
  refine W.heapEq eH ?_
  clear eH eL
  refine lv_iload_n hx hb dX9_count_0 rfl (lv_at hl 1 rfl) ?_
  by_cases c1 : what.toInt < 0 ∨ 7 < what.toInt
  · refine lv_tableOut (tgt := 133) hx hb dX9_count_1 c1 (by decide) ?_
    refine lv_iconst (v := (-1)) hx hb dX9_count_133 (by decide) ?_
    exact r_i hx hb hr hlocks hK hS dX9_count_134 (u := ()) (hP.sub (ws' := []) [] rfl) (hD.sub (ws' := []) [] (by decide) rfl) (by first | exact Or.inl ⟨by omega, by first | decide | omega⟩ | exact Or.inr (Or.inl ⟨by omega, by first | decide | omega⟩) | exact Or.inr (Or.inr (Or.inl ⟨by omega, by omega, by first | decide | omega⟩)) | exact Or.inr (Or.inr (Or.inr ⟨by omega, by decide⟩)))
  · have zc1 : what.toInt = 0 ∨ what.toInt = 1 ∨ what.toInt = 2 ∨ what.toInt = 3 ∨ what.toInt = 4 ∨ what.toInt = 5 ∨ what.toInt = 6 ∨ what.toInt = 7 := by omega
    rcases zc1 with zc1 | zc1 | zc1 | zc1 | zc1 | zc1 | zc1 | zc1
    · refine lv_tableIn (tgt := 48) hx hb dX9_count_1 (by omega) (by omega) (by rw [zc1]; rfl) (by decide) ?_
      refine lv_aload_n hx hb dX9_count_48 rfl (lv_at hl 0 rfl) ?_
      refine va_get (D := D) (ci := 9) (v := .ref b0) (C := RX9) (T := TX9) (N := 4) hx hb hts in_X9 hown hK hP 0 rfl rfl 0 (by decide) w_1 (fun _ h9 => h9) rfl dX9_count_49 ?_
      refine va_get (D := D) (ci := 0) (v := .ref r0) (C := RX0) (T := TX0) (N := 10) hx hb hts in_X0 hown hK hP 1 rfl rfl 1 (by decide) w_3 (fun _ h9 => h9) rfl dX9_count_52 ?_
      refine va_get (D := D) (ci := 4) (v := .int 2) (C := RX4) (T := TX4) (N := 3) hx hb hts in_X4 hown hK hP 2 rfl rfl 0 (by decide) w_5 (fun _ h9 => h9) rfl dX9_count_55 ?_
      exact r_i hx hb hr hlocks hK hS dX9_count_58 (u := ()) (hP.sub (ws' := []) [] rfl) (hD.sub (ws' := []) [] (by decide) rfl) (by first | exact Or.inl ⟨by omega, by first | decide | omega⟩ | exact Or.inr (Or.inl ⟨by omega, by first | decide | omega⟩) | exact Or.inr (Or.inr (Or.inl ⟨by omega, by omega, by first | decide | omega⟩)) | exact Or.inr (Or.inr (Or.inr ⟨by omega, by decide⟩)))
    · refine lv_tableIn (tgt := 59) hx hb dX9_count_1 (by omega) (by omega) (by rw [zc1]; rfl) (by decide) ?_
      refine lv_aload_n hx hb dX9_count_59 rfl (lv_at hl 0 rfl) ?_
      refine va_get (D := D) (ci := 9) (v := .ref b0) (C := RX9) (T := TX9) (N := 4) hx hb hts in_X9 hown hK hP 0 rfl rfl 0 (by decide) w_1 (fun _ h9 => h9) rfl dX9_count_60 ?_
      refine va_get (D := D) (ci := 0) (v := .ref u0) (C := RX0) (T := TX0) (N := 10) hx hb hts in_X0 hown hK hP 1 rfl rfl 2 (by decide) w_6 (fun _ h9 => h9) rfl dX9_count_63 ?_
      refine va_get (D := D) (ci := 5) (v := .int 0) (C := RX5) (T := TX5) (N := 4) hx hb hts in_X5 hown hK hP 5 rfl rfl 0 (by decide) w_8 (fun _ h9 => h9) rfl dX9_count_66 ?_
      exact r_i hx hb hr hlocks hK hS dX9_count_69 (u := ()) (hP.sub (ws' := []) [] rfl) (hD.sub (ws' := []) [] (by decide) rfl) (by first | exact Or.inl ⟨by omega, by first | decide | omega⟩ | exact Or.inr (Or.inl ⟨by omega, by first | decide | omega⟩) | exact Or.inr (Or.inr (Or.inl ⟨by omega, by omega, by first | decide | omega⟩)) | exact Or.inr (Or.inr (Or.inr ⟨by omega, by decide⟩)))
    · refine lv_tableIn (tgt := 70) hx hb dX9_count_1 (by omega) (by omega) (by rw [zc1]; rfl) (by decide) ?_
      refine lv_aload_n hx hb dX9_count_70 rfl (lv_at hl 0 rfl) ?_
      refine va_get (D := D) (ci := 9) (v := .ref b0) (C := RX9) (T := TX9) (N := 4) hx hb hts in_X9 hown hK hP 0 rfl rfl 0 (by decide) w_1 (fun _ h9 => h9) rfl dX9_count_71 ?_
      refine va_get (D := D) (ci := 0) (v := .ref t0) (C := RX0) (T := TX0) (N := 10) hx hb hts in_X0 hown hK hP 1 rfl rfl 3 (by decide) w_9 (fun _ h9 => h9) rfl dX9_count_74 ?_
      refine va_get (D := D) (ci := 7) (v := .int 0) (C := RX7) (T := TX7) (N := 7) hx hb hts in_X7 hown hK hP 6 rfl rfl 0 (by decide) w_11 (fun _ h9 => h9) rfl dX9_count_77 ?_
      exact r_i hx hb hr hlocks hK hS dX9_count_80 (u := ()) (hP.sub (ws' := []) [] rfl) (hD.sub (ws' := []) [] (by decide) rfl) (by first | exact Or.inl ⟨by omega, by first | decide | omega⟩ | exact Or.inr (Or.inl ⟨by omega, by first | decide | omega⟩) | exact Or.inr (Or.inr (Or.inl ⟨by omega, by omega, by first | decide | omega⟩)) | exact Or.inr (Or.inr (Or.inr ⟨by omega, by decide⟩)))
    · refine lv_tableIn (tgt := 81) hx hb dX9_count_1 (by omega) (by omega) (by rw [zc1]; rfl) (by decide) ?_
      refine lv_aload_n hx hb dX9_count_81 rfl (lv_at hl 0 rfl) ?_
      refine va_get (D := D) (ci := 9) (v := .ref b0) (C := RX9) (T := TX9) (N := 4) hx hb hts in_X9 hown hK hP 0 rfl rfl 0 (by decide) w_1 (fun _ h9 => h9) rfl dX9_count_82 ?_
      refine va_get (D := D) (ci := 0) (v := .ref l0) (C := RX0) (T := TX0) (N := 10) hx hb hts in_X0 hown hK hP 1 rfl rfl 4 (by decide) w_12 (fun _ h9 => h9) rfl dX9_count_85 ?_
      refine va_get (D := D) (ci := 1) (v := .int 0) (C := RX1) (T := TX1) (N := 8) hx hb hts in_X1 hown hK hP 7 rfl rfl 0 (by decide) w_14 (fun _ h9 => h9) rfl dX9_count_88 ?_
      exact r_i hx hb hr hlocks hK hS dX9_count_91 (u := ()) (hP.sub (ws' := []) [] rfl) (hD.sub (ws' := []) [] (by decide) rfl) (by first | exact Or.inl ⟨by omega, by first | decide | omega⟩ | exact Or.inr (Or.inl ⟨by omega, by first | decide | omega⟩) | exact Or.inr (Or.inr (Or.inl ⟨by omega, by omega, by first | decide | omega⟩)) | exact Or.inr (Or.inr (Or.inr ⟨by omega, by decide⟩)))
    · refine lv_tableIn (tgt := 92) hx hb dX9_count_1 (by omega) (by omega) (by rw [zc1]; rfl) (by decide) ?_
      refine lv_aload_n hx hb dX9_count_92 rfl (lv_at hl 0 rfl) ?_
      refine va_get (D := D) (ci := 9) (v := .ref b0) (C := RX9) (T := TX9) (N := 4) hx hb hts in_X9 hown hK hP 0 rfl rfl 0 (by decide) w_1 (fun _ h9 => h9) rfl dX9_count_93 ?_
      refine va_get (D := D) (ci := 0) (v := .int 0) (C := RX0) (T := TX0) (N := 10) hx hb hts in_X0 hown hK hP 1 rfl rfl 0 (by decide) w_15 (fun _ h9 => h9) rfl dX9_count_96 ?_
      exact r_i hx hb hr hlocks hK hS dX9_count_99 (u := ()) (hP.sub (ws' := []) [] rfl) (hD.sub (ws' := []) [] (by decide) rfl) (by first | exact Or.inl ⟨by omega, by first | decide | omega⟩ | exact Or.inr (Or.inl ⟨by omega, by first | decide | omega⟩) | exact Or.inr (Or.inr (Or.inl ⟨by omega, by omega, by first | decide | omega⟩)) | exact Or.inr (Or.inr (Or.inr ⟨by omega, by decide⟩)))
    · refine lv_tableIn (tgt := 100) hx hb dX9_count_1 (by omega) (by omega) (by rw [zc1]; rfl) (by decide) ?_
      refine lv_aload_n hx hb dX9_count_100 rfl (lv_at hl 0 rfl) ?_
      refine va_get (D := D) (ci := 9) (v := .ref b0) (C := RX9) (T := TX9) (N := 4) hx hb hts in_X9 hown hK hP 0 rfl rfl 0 (by decide) w_1 (fun _ h9 => h9) rfl dX9_count_101 ?_
      refine va_get (D := D) (ci := 0) (v := .ref q0) (C := RX0) (T := TX0) (N := 10) hx hb hts in_X0 hown hK hP 1 rfl rfl 5 (by decide) w_16 (fun _ h9 => h9) rfl dX9_count_104 ?_
      refine va_get (D := D) (ci := 2) (v := .int 0) (C := RX2) (T := TX2) (N := 8) hx hb hts in_X2 hown hK hP 8 rfl rfl 0 (by decide) w_18 (fun _ h9 => h9) rfl dX9_count_107 ?_
      exact r_i hx hb hr hlocks hK hS dX9_count_110 (u := ()) (hP.sub (ws' := []) [] rfl) (hD.sub (ws' := []) [] (by decide) rfl) (by first | exact Or.inl ⟨by omega, by first | decide | omega⟩ | exact Or.inr (Or.inl ⟨by omega, by first | decide | omega⟩) | exact Or.inr (Or.inr (Or.inl ⟨by omega, by omega, by first | decide | omega⟩)) | exact Or.inr (Or.inr (Or.inr ⟨by omega, by decide⟩)))
    · refine lv_tableIn (tgt := 111) hx hb dX9_count_1 (by omega) (by omega) (by rw [zc1]; rfl) (by decide) ?_
      refine lv_aload_n hx hb dX9_count_111 rfl (lv_at hl 0 rfl) ?_
      refine va_get (D := D) (ci := 9) (v := .ref b0) (C := RX9) (T := TX9) (N := 4) hx hb hts in_X9 hown hK hP 0 rfl rfl 0 (by decide) w_1 (fun _ h9 => h9) rfl dX9_count_112 ?_
      refine va_get (D := D) (ci := 0) (v := .ref r0) (C := RX0) (T := TX0) (N := 10) hx hb hts in_X0 hown hK hP 1 rfl rfl 1 (by decide) w_3 (fun _ h9 => h9) rfl dX9_count_115 ?_
      refine k_i (va_runV (As := []) (rest := []) ⟨hx, hb, hml, hown, hts⟩ (c_X4_allHours l D cy r0 r1 r2 2 g2 H.size (by decide)) (cwV 0 hts gX9_count_X4_allHours rfl rfl rfl (by decide +kernel) ⟨Nat.le_of_ble_eq_true rfl, Nat.le_of_ble_eq_true rfl⟩) (cp_v hK hN hP hD [2, 4] rfl (by decide) (ci := 4) rfl rfl rfl) rfl rfl hl.1 rfl (lv_room (Nat.le_of_ble_eq_true rfl)) dX9_count_118 ⟨Nat.le_of_ble_eq_true rfl, Nat.le_of_ble_eq_true rfl⟩) hP hD hS hA [2, 4] [0, 1, 3, 5, 6, 7, 8] (wr := [(x0, .inr (9, [.ref b0, .ref im, .ref tp, .ref rd])), (b0, .inr (0, [.int 0, .ref r0, .ref u0, .ref t0, .ref l0, .ref q0, .ref of, .ref sh, .ref nl, .ref fc])), (r1, .inl (cy 0, 9, .inl g1)), (u0, .inr (5, [.int 0, .ref u1, .ref u2, .ref u3])), (t0, .inr (7, [.int 0, .ref t1, .ref t2, .ref t3, .ref t4, .ref t5, .ref t6])), (l0, .inr (1, [.int 0, .ref l1, .ref l2, .ref l3, .ref l4, .ref l5, .ref l6, .ref l7])), (q0, .inr (2, [.int 0, .ref q1, .ref q2, .ref q3, .ref q4, .ref q5, .ref q6, .ref q7]))]) rfl rfl (by decide) (by decide) (fun r118 u_r118 H locs hw118 hP hD hS => ?_)
      try dsimp only at hw118
      have hP : va_P D vwCl [(x0, .inr (9, [.ref b0, .ref im, .ref tp, .ref rd])), (b0, .inr (0, [.int 0, .ref r0, .ref u0, .ref t0, .ref l0, .ref q0, .ref of, .ref sh, .ref nl, .ref fc])), (r1, .inl (cy 0, 9, .inl g1)), (u0, .inr (5, [.int 0, .ref u1, .ref u2, .ref u3])), (t0, .inr (7, [.int 0, .ref t1, .ref t2, .ref t3, .ref t4, .ref t5, .ref t6])), (l0, .inr (1, [.int 0, .ref l1, .ref l2, .ref l3, .ref l4, .ref l5, .ref l6, .ref l7])), (q0, .inr (2, [.int 0, .ref q1, .ref q2, .ref q3, .ref q4, .ref q5, .ref q6, .ref q7])), (r0, .inr (4, [.int 2, .ref r1, .ref r2])), (r2, .inl (cy 0, 9, .inl g2))] H := hP
      have hD : va_D A [(x0, .inr (9, [.ref b0, .ref im, .ref tp, .ref rd])), (b0, .inr (0, [.int 0, .ref r0, .ref u0, .ref t0, .ref l0, .ref q0, .ref of, .ref sh, .ref nl, .ref fc])), (r1, .inl (cy 0, 9, .inl g1)), (u0, .inr (5, [.int 0, .ref u1, .ref u2, .ref u3])), (t0, .inr (7, [.int 0, .ref t1, .ref t2, .ref t3, .ref t4, .ref t5, .ref t6])), (l0, .inr (1, [.int 0, .ref l1, .ref l2, .ref l3, .ref l4, .ref l5, .ref l6, .ref l7])), (q0, .inr (2, [.int 0, .ref q1, .ref q2, .ref q3, .ref q4, .ref q5, .ref q6, .ref q7])), (r0, .inr (4, [.int 2, .ref r1, .ref r2])), (r2, .inl (cy 0, 9, .inl g2))] := hD
      have hr118 : r118.toInt = 1 := by rw [hw118, show min ((2 : Int32).toInt - 1).toNat 9 = 1 by decide]; exact sum_one hg2
      exact r_i hx hb hr hlocks hK hS dX9_count_121 (u := ()) (hP.sub (ws' := []) [] rfl) (hD.sub (ws' := []) [] (by decide) rfl) (by first | exact Or.inl ⟨by omega, by first | decide | omega⟩ | exact Or.inr (Or.inl ⟨by omega, by first | decide | omega⟩) | exact Or.inr (Or.inr (Or.inl ⟨by omega, by omega, by first | decide | omega⟩)) | exact Or.inr (Or.inr (Or.inr ⟨by omega, by decide⟩)))
    · refine lv_tableIn (tgt := 122) hx hb dX9_count_1 (by omega) (by omega) (by rw [zc1]; rfl) (by decide) ?_
      refine lv_aload_n hx hb dX9_count_122 rfl (lv_at hl 0 rfl) ?_
      refine va_get (D := D) (ci := 9) (v := .ref b0) (C := RX9) (T := TX9) (N := 4) hx hb hts in_X9 hown hK hP 0 rfl rfl 0 (by decide) w_1 (fun _ h9 => h9) rfl dX9_count_123 ?_
      refine va_get (D := D) (ci := 0) (v := .ref r0) (C := RX0) (T := TX0) (N := 10) hx hb hts in_X0 hown hK hP 1 rfl rfl 1 (by decide) w_3 (fun _ h9 => h9) rfl dX9_count_126 ?_
      refine k_i (va_runV (As := []) (rest := []) ⟨hx, hb, hml, hown, hts⟩ (c_X4_allKm l D cy r0 r1 r2 2 g1 H.size (by decide)) (cwV 0 hts gX9_count_X4_allKm rfl rfl rfl (by decide +kernel) ⟨Nat.le_of_ble_eq_true rfl, Nat.le_of_ble_eq_true rfl⟩) (cp_v hK hN hP hD [2, 3] rfl (by decide) (ci := 4) rfl rfl rfl) rfl rfl hl.1 rfl (lv_room (Nat.le_of_ble_eq_true rfl)) dX9_count_129 ⟨Nat.le_of_ble_eq_true rfl, Nat.le_of_ble_eq_true rfl⟩) hP hD hS hA [2, 3] [0, 1, 4, 5, 6, 7, 8] (wr := [(x0, .inr (9, [.ref b0, .ref im, .ref tp, .ref rd])), (b0, .inr (0, [.int 0, .ref r0, .ref u0, .ref t0, .ref l0, .ref q0, .ref of, .ref sh, .ref nl, .ref fc])), (r2, .inl (cy 0, 9, .inl g2)), (u0, .inr (5, [.int 0, .ref u1, .ref u2, .ref u3])), (t0, .inr (7, [.int 0, .ref t1, .ref t2, .ref t3, .ref t4, .ref t5, .ref t6])), (l0, .inr (1, [.int 0, .ref l1, .ref l2, .ref l3, .ref l4, .ref l5, .ref l6, .ref l7])), (q0, .inr (2, [.int 0, .ref q1, .ref q2, .ref q3, .ref q4, .ref q5, .ref q6, .ref q7]))]) rfl rfl (by decide) (by decide) (fun r129 u_r129 H locs hw129 hP hD hS => ?_)
      try dsimp only at hw129
      have hP : va_P D vwCl [(x0, .inr (9, [.ref b0, .ref im, .ref tp, .ref rd])), (b0, .inr (0, [.int 0, .ref r0, .ref u0, .ref t0, .ref l0, .ref q0, .ref of, .ref sh, .ref nl, .ref fc])), (r2, .inl (cy 0, 9, .inl g2)), (u0, .inr (5, [.int 0, .ref u1, .ref u2, .ref u3])), (t0, .inr (7, [.int 0, .ref t1, .ref t2, .ref t3, .ref t4, .ref t5, .ref t6])), (l0, .inr (1, [.int 0, .ref l1, .ref l2, .ref l3, .ref l4, .ref l5, .ref l6, .ref l7])), (q0, .inr (2, [.int 0, .ref q1, .ref q2, .ref q3, .ref q4, .ref q5, .ref q6, .ref q7])), (r0, .inr (4, [.int 2, .ref r1, .ref r2])), (r1, .inl (cy 0, 9, .inl g1))] H := hP
      have hD : va_D A [(x0, .inr (9, [.ref b0, .ref im, .ref tp, .ref rd])), (b0, .inr (0, [.int 0, .ref r0, .ref u0, .ref t0, .ref l0, .ref q0, .ref of, .ref sh, .ref nl, .ref fc])), (r2, .inl (cy 0, 9, .inl g2)), (u0, .inr (5, [.int 0, .ref u1, .ref u2, .ref u3])), (t0, .inr (7, [.int 0, .ref t1, .ref t2, .ref t3, .ref t4, .ref t5, .ref t6])), (l0, .inr (1, [.int 0, .ref l1, .ref l2, .ref l3, .ref l4, .ref l5, .ref l6, .ref l7])), (q0, .inr (2, [.int 0, .ref q1, .ref q2, .ref q3, .ref q4, .ref q5, .ref q6, .ref q7])), (r0, .inr (4, [.int 2, .ref r1, .ref r2])), (r1, .inl (cy 0, 9, .inl g1))] := hD
      have hr129 : r129.toInt = 1 := by rw [hw129, show ((2 : Int32).toInt - 1).toNat = 1 by decide]; exact sum_one hg1
      exact r_i hx hb hr hlocks hK hS dX9_count_132 (u := ()) (hP.sub (ws' := []) [] rfl) (hD.sub (ws' := []) [] (by decide) rfl) (by first | exact Or.inl ⟨by omega, by first | decide | omega⟩ | exact Or.inr (Or.inl ⟨by omega, by first | decide | omega⟩) | exact Or.inr (Or.inr (Or.inl ⟨by omega, by omega, by first | decide | omega⟩)) | exact Or.inr (Or.inr (Or.inr ⟨by omega, by decide⟩)))

abbrev Q_c_X9_again (D : va_G) (cy : Nat → ClassId) (x0 : Nat) (b0 : Nat) (im : Nat) (tp : Nat) (rd : Nat) (k : Int32) : (Nat → Prop) → Array Value → State → Outcome → State → Prop := QI D cy (fun (r : Int32) (_ : Unit) => r.toInt = 0) (fun _ : Unit => [])
set_option maxHeartbeats 4000000 in
set_option maxRecDepth 100000 in
theorem c_X9_again (l : Launch) (D : va_G) (cy : Nat → ClassId) (x0 : Nat) (b0 : Nat) (im : Nat) (tp : Nat) (rd : Nat) (k : Int32) (sz : Nat)  : Met l yX9_again wsX9_again ({ frames := 0, cells := 0, slots := 0, locals := 0 } : Room) (CP D cy [.ref x0, .int k] [(x0, .inr (9, [.ref b0, .ref im, .ref tp, .ref rd])), (im, .inl (cy 3, 3, .inr (.inr (.inr (.inr (fun _ => none))))))] sz) (Q_c_X9_again D cy x0 b0 im tp rd k (va_A [(x0, .inr (9, [.ref b0, .ref im, .ref tp, .ref rd])), (im, .inl (cy 3, 3, .inr (.inr (.inr (.inr (fun _ => none))))))] sz)) 0 0 (va_A [(x0, .inr (9, [.ref b0, .ref im, .ref tp, .ref rd])), (im, .inl (cy 3, 3, .inr (.inr (.inr (.inr (fun _ => none))))))] sz) := by
  refine Met.go (Qc := Q_c_X9_again D cy x0 b0 im tp rd k) (cc := cX9_again) (maxL := 2) (ret := (some .boolean)) (by decide) rfl (Nat.le_of_ble_eq_true rfl) ?_
  intro p e s m below meth c hx hb hr hts hown hlocks hin hml hK hN A hA hD hP hS ls hl hsz
  have hl : lv_has ls 2 [(0, .ref x0), (1, .int k)] := hl
  have in_X9 : ∀ w ∈ wsX90, w ∈ wsX9_again := fun _ h => List.mem_cons_of_mem _ (List.mem_append_left _ (List.mem_append_left _ (List.mem_append_left _ (List.mem_append_left _ (List.mem_append_left _ (List.mem_append_left _ ((List.mem_append_right _ h))))))))
  have w_1 := hts (.fieldLink RX9 16 "SleepingCars" "images" "[LSleepingCars$Book;") (by decide +kernel)
  obtain ⟨H, eH⟩ : ∃ H : Heap, H = s.heap := ⟨_, rfl⟩
  obtain ⟨locs, eL⟩ : ∃ L : List Loc, L = [] := ⟨_, rfl⟩
  rw [← eL]
  rw [← eL] at hS
  have hP : va_P D vwCl [(x0, .inr (9, [.ref b0, .ref im, .ref tp, .ref rd])), (im, .inl (cy 3, 3, .inr (.inr (.inr (.inr (fun _ => none))))))] H := by rw [eH]; exact hP
  have hS : va_S A s.heap H locs := by rw [eH]; exact hS
  refine W.heapEq eH ?_
  clear eH eL
  refine lv_iload_n hx hb dX9_again_0 rfl (lv_at hl 1 rfl) ?_
  refine lv_if_lt (tgt := 18) hx hb dX9_again_1 (by decide) (fun c1 => ?_) (fun c1 => ?_)
  · skip
    have fc1 := q_lt (a := k.toInt) (b := 0) c1 rfl (by decide)
    refine lv_iconst (v := 0) hx hb dX9_again_18 (by decide) ?_
    exact r_z hx hb hr hlocks hK hS dX9_again_19 (by decide) (u := ()) (hP.sub (ws' := []) [] rfl) (hD.sub (ws' := []) [] (by decide) rfl) (by decide)
  · skip
    have fc1 := q_nlt (a := k.toInt) (b := 0) c1 rfl (by decide)
    refine lv_iload_n hx hb dX9_again_4 rfl (lv_at hl 1 rfl) ?_
    refine lv_iconst (v := 3) hx hb dX9_again_5 (by decide) ?_
    refine lv_icmp_ge (tgt := 18) hx hb dX9_again_6 (by decide) (fun c6 => ?_) (fun c6 => ?_)
    · skip
      have fc6 := q_le (a := 3) (b := k.toInt) c6 (by decide) rfl
      refine lv_iconst (v := 0) hx hb dX9_again_18 (by decide) ?_
      exact r_z hx hb hr hlocks hK hS dX9_again_19 (by decide) (u := ()) (hP.sub (ws' := []) [] rfl) (hD.sub (ws' := []) [] (by decide) rfl) (by decide)
    · skip
      have fc6 := q_nle (a := 3) (b := k.toInt) c6 (by decide) rfl
      refine lv_aload_n hx hb dX9_again_9 rfl (lv_at hl 0 rfl) ?_
      refine va_get (D := D) (ci := 9) (v := .ref im) (C := RX9) (T := TX9) (N := 4) hx hb hts in_X9 hown hK hP 0 rfl rfl 1 (by decide) w_1 (fun _ h9 => h9) rfl dX9_again_10 ?_
      refine lv_iload_n hx hb dX9_again_13 rfl (lv_at hl 1 rfl) ?_
      refine va_aldq hx hb hK hP 1 3 rfl rfl (q_in (a := k.toInt) rfl (by omega) (by omega)) dX9_again_14 ?_
      refine W.eq (g2 := F0 m 15 ls [.null]) (rfl) ?_
      refine lv_ifnonnullN hx hb dX9_again_15 ?_
      refine lv_iconst (v := 0) hx hb dX9_again_18 (by decide) ?_
      exact r_z hx hb hr hlocks hK hS dX9_again_19 (by decide) (u := ()) (hP.sub (ws' := []) [] rfl) (hD.sub (ws' := []) [] (by decide) rfl) (by decide)
