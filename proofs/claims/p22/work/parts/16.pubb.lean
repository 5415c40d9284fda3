abbrev Q_c_X6_append (D : va_G) (cy : Nat → ClassId) (E : EN) (tp : Nat) (tb : Nat) (ztp : Int32) (ftb : Nat → Int32) (v : Int32) : (Nat → Prop) → Array Value → State → Outcome → State → Prop := QV D cy (fun (u : Int32 × (Nat → Int32)) => match u with | (zz, gtb) => zz.toInt = ztp.toInt + 4) (fun u : Int32 × (Nat → Int32) => match u with | (zz, gtb) => [Prod.mk tp (Sum.inr (Prod.mk 6 [Value.int zz, Value.ref tb])), Prod.mk tb (Sum.inl (Prod.mk (cy 0) (Prod.mk 400 (Sum.inl gtb))))])
set_option maxHeartbeats 4000000 in
set_option maxRecDepth 100000 in
theorem c_X6_append (l : Launch) (D : va_G) (cy : Nat → ClassId) (E : EN) (tp : Nat) (tb : Nat) (ztp : Int32) (ftb : Nat → Int32) (v : Int32) (sz : Nat) (hz : 0 ≤ ztp.toInt ∧ ztp.toInt ≤ 396) : Met l yX6_append wsX6_append ({ frames := 0, cells := 0, slots := 0, locals := 0 } : Room) (CP D cy E [.ref tp, .int v] [Prod.mk tp (Sum.inr (Prod.mk 6 [Value.int ztp, Value.ref tb])), Prod.mk tb (Sum.inl (Prod.mk (cy 0) (Prod.mk 400 (Sum.inl ftb))))] sz) (Q_c_X6_append D cy E tp tb ztp ftb v (va_A [Prod.mk tp (Sum.inr (Prod.mk 6 [Value.int ztp, Value.ref tb])), Prod.mk tb (Sum.inl (Prod.mk (cy 0) (Prod.mk 400 (Sum.inl ftb))))] sz)) 0 0 (va_A [Prod.mk tp (Sum.inr (Prod.mk 6 [Value.int ztp, Value.ref tb])), Prod.mk tb (Sum.inl (Prod.mk (cy 0) (Prod.mk 400 (Sum.inl ftb))))] sz) := by
  refine Met.go (Qc := Q_c_X6_append D cy E tp tb ztp ftb v) (cc := cX6_append) (maxL := 3) (ret := none) (by decide) rfl (Nat.le_of_ble_eq_true rfl) ?_
  intro p e s m below meth c hx hb hr hts hown hlocks hin hml hK hN A hA hAB hD hP hS ls hl hsz
  have hl : lv_has ls 3 [(0, .ref tp), (1, .int v)] := hl
  have in_X6 : ∀ w ∈ wsX60, w ∈ wsX6_append := fun _ h => List.mem_cons_of_mem _ ((List.mem_append_right _ h))
  have w_1 := hts (.fieldLink RX6 15 "SleepingCars$Tape" "size" "I") (by decide +kernel)
  have w_2 := hts (.fieldLink RX6 9 "SleepingCars$Tape" "bytes" "[I") (by decide +kernel)
  obtain ⟨H, eH⟩ : ∃ H : Heap, H = s.heap := ⟨_, rfl⟩
  obtain ⟨locs, eL⟩ : ∃ L : List Loc, L = [] := ⟨_, rfl⟩
  rw [← eL]
  rw [← eL] at hS
  have hP : va_P D vwCl [Prod.mk tp (Sum.inr (Prod.mk 6 [Value.int ztp, Value.ref tb])), Prod.mk tb (Sum.inl (Prod.mk (cy 0) (Prod.mk 400 (Sum.inl ftb))))] H := by rw [eH]; exact hP
  have hS : va_S A s.heap H locs := by rw [eH]; exact hS
  refine W.heapEq eH ?_
  clear eH eL
  refine lv_bipush (v := 24) hx hb dX6_append_0 (by decide) ?_
  refine lv_istore_n (lv' := [(2, .int 24), (0, .ref tp), (1, .int v)]) hx hb dX6_append_2 rfl hl (by decide) rfl (fun ls hl => ?_)
  have lp_3 : ∀ (n_3 : Nat) (sh_ : Int32) (z1 : Int32) (f1 : Nat → Int32), (-8 ≤ sh_.toInt) → (sh_.toInt ≤ 24) → (8 * (z1.toInt - ztp.toInt) = 24 - sh_.toInt) → (sh_.toInt + 8).toNat < n_3 → ∀ (H : Heap) (locs : List Loc), va_P D vwCl [Prod.mk tp (Sum.inr (Prod.mk 6 [Value.int z1, Value.ref tb])), Prod.mk tb (Sum.inl (Prod.mk (cy 0) (Prod.mk 400 (Sum.inl f1))))] H → va_D A [Prod.mk tp (Sum.inr (Prod.mk 6 [Value.int z1, Value.ref tb])), Prod.mk tb (Sum.inl (Prod.mk (cy 0) (Prod.mk 400 (Sum.inl f1))))] → va_S A s.heap H locs → ∀ ls : Array Slot, lv_has ls 3 [(2, .int sh_), (0, .ref tp), (1, .int v)] → W p l e (headSpec wsX6_append ({ frames := 0, cells := 0, slots := 0, locals := 0 } : Room)).room s m ([.ref tp, .int v] : List Value).toArray below meth c H locs 0 0 (MQ below (Q_c_X6_append D cy E tp tb ztp ftb v A) ([.ref tp, .int v] : List Value).toArray s 0 0 A) (F0 m 3 ls []) := by
    intro n_3
    induction n_3 with
    | zero => intro sh_ z1 f1 hs0 hs1 hz1 hmu; exact absurd hmu (Nat.not_lt_zero _)
    | succ n_3 ih_3 =>
      intro sh_ z1 f1 hs0 hs1 hz1 hmu_3 H locs hP hD hS ls hl
      refine lv_iload_n hx hb dX6_append_3 rfl (lv_at hl 0 rfl) ?_
      refine lv_if_lt (tgt := 49) hx hb dX6_append_4 (by decide) (fun c4 => ?_) (fun c4 => ?_)
      · skip
        have fc4 := q_lt (a := sh_.toInt) (b := 0) c4 rfl (by decide)
        exact r_v hx hb hr hlocks hK hS dX6_append_49 (u := (z1, f1)) hP hD (by omega)
      · skip
        have fc4 := q_nlt (a := sh_.toInt) (b := 0) c4 rfl (by decide)
        refine lv_aload_n hx hb dX6_append_7 rfl (lv_at hl 1 rfl) ?_
        refine va_get (D := D) (ci := 6) (v := .int z1) (C := RX6) (T := TX6) (N := 2) hx hb hts in_X6 hown hK hP 0 rfl rfl 0 (by decide) w_1 (fun _ h9 => h9) rfl dX6_append_8 ?_
        refine lv_sipush (v := 400) hx hb dX6_append_11 (by decide) ?_
        refine lv_icmp_ge (tgt := 49) hx hb dX6_append_14 (by decide) (fun c14 => ?_) (fun c14 => ?_)
        · skip
          have fc14 := q_le (a := 400) (b := z1.toInt) c14 (by decide) rfl
          exfalso; omega
        · skip
          have fc14 := q_nle (a := 400) (b := z1.toInt) c14 (by decide) rfl
          refine lv_aload_n hx hb dX6_append_17 rfl (lv_at hl 1 rfl) ?_
          refine va_get (D := D) (ci := 6) (v := .ref tb) (C := RX6) (T := TX6) (N := 2) hx hb hts in_X6 hown hK hP 0 rfl rfl 1 (by decide) w_2 (fun _ h9 => h9) rfl dX6_append_18 ?_
          refine lv_aload_n hx hb dX6_append_21 rfl (lv_at hl 1 rfl) ?_
          refine va_get (D := D) (ci := 6) (v := .int z1) (C := RX6) (T := TX6) (N := 2) hx hb hts in_X6 hown hK hP 0 rfl rfl 0 (by decide) w_1 (fun _ h9 => h9) rfl dX6_append_22 ?_
          refine lv_iload_n hx hb dX6_append_25 rfl (lv_at hl 2 rfl) ?_
          refine lv_iload_n hx hb dX6_append_26 rfl (lv_at hl 0 rfl) ?_
          refine lv_ishr hx hb dX6_append_27 ?_
          refine lv_topi (fun x27 ex27 => ?_)
          refine lv_sipush (v := 255) hx hb dX6_append_28 (by decide) ?_
          refine lv_iand hx hb dX6_append_31 ?_
          refine lv_topi (fun x31 ex31 => ?_)
          refine va_iast hx hb hK hP hD hS 1 0 rfl rfl (q_in (a := z1.toInt) rfl (by omega) (by omega)) dX6_append_32 (fun H locs hP hD hS => ?_)
          have hP : va_P D vwCl [Prod.mk tp (Sum.inr (Prod.mk 6 [Value.int z1, Value.ref tb])), Prod.mk tb (Sum.inl (Prod.mk (cy 0) (Prod.mk 400 (Sum.inl (upd f1 z1.toNatClampNeg x31)))))] H := hP
          have hD : va_D A [Prod.mk tp (Sum.inr (Prod.mk 6 [Value.int z1, Value.ref tb])), Prod.mk tb (Sum.inl (Prod.mk (cy 0) (Prod.mk 400 (Sum.inl (upd f1 z1.toNatClampNeg x31)))))] := hD
          refine lv_aload_n hx hb dX6_append_33 rfl (lv_at hl 1 rfl) ?_
          refine lv_dup hx hb dX6_append_34 rfl ?_
          refine va_get (D := D) (ci := 6) (v := .int z1) (C := RX6) (T := TX6) (N := 2) hx hb hts in_X6 hown hK hP 0 rfl rfl 0 (by decide) w_1 (fun _ h9 => h9) rfl dX6_append_35 ?_
          refine lv_iconst (v := 1) hx hb dX6_append_38 (by decide) ?_
          refine lv_iadd hx hb dX6_append_39 ?_
          refine lv_topi (fun x39 ex39 => ?_)
          have tx39 := q_add (p := z1.toInt) (q := 1) ex39 rfl (by decide) (by omega) (by omega)
          refine va_put (D := D) (ci := 6) (v := .int x39) (ty := .int) (C := RX6) (T := TX6) (N := 2) hx hb hts in_X6 tyX6 tyX6_ok nmX6 hown hK hP hD hS 0 rfl rfl 0 (by decide) w_1 (fun _ h9 => h9) rfl (by decide +kernel) rfl rfl (Nat.le_of_ble_eq_true rfl) dX6_append_40 (fun H locs hP hD hS => ?_)
          have hP : va_P D vwCl [Prod.mk tp (Sum.inr (Prod.mk 6 [Value.int x39, Value.ref tb])), Prod.mk tb (Sum.inl (Prod.mk (cy 0) (Prod.mk 400 (Sum.inl (upd f1 z1.toNatClampNeg x31)))))] H := hP
          have hD : va_D A [Prod.mk tp (Sum.inr (Prod.mk 6 [Value.int x39, Value.ref tb])), Prod.mk tb (Sum.inl (Prod.mk (cy 0) (Prod.mk 400 (Sum.inl (upd f1 z1.toNatClampNeg x31)))))] := hD
          obtain ⟨x43, ex43⟩ : ∃ y : Int32, y = sh_ + (-8) := ⟨_, rfl⟩
          refine lv_iinc (v := x43) (lv' := [(2, .int x43), (0, .ref tp), (1, .int v)]) hx hb dX6_append_43 hl (k := 0) rfl (by rw [ex43]; rfl) (by decide) rfl (fun ls hl => ?_)
          have tx43 := q_add (p := sh_.toInt) (q := -8) ex43 rfl (by decide) (by omega) (by omega)
          refine lv_goto (tgt := 3) hx hb dX6_append_46 (by decide) ?_
          exact ih_3 x43 x39 (upd f1 z1.toNatClampNeg x31) (by first | omega | decide | (rw [i32_0]; omega)) (by first | omega | decide | (rw [i32_0]; omega)) (by first | omega | decide | (rw [i32_0]; omega)) (by omega) H locs hP hD hS ls (lv_sub hl [0, 1, 2] rfl)
  exact lp_3 (32 + 1) 24 ztp ftb (by first | omega | decide | (rw [i32_0]; omega) | (rw [i32_m1]; omega)) (by first | omega | decide | (rw [i32_0]; omega) | (rw [i32_m1]; omega)) (by rw [show (24 : Int32).toInt = 24 by decide]; omega) (by first | omega | exact Nat.lt_succ_self _ | (rw [i32_0]; omega) | (rw [i32_1]; omega)) H locs hP hD hS ls (lv_sub hl [0, 1, 2] rfl)

abbrev Q_c_X9_feed (D : va_G) (cy : Nat → ClassId) (E : EN) (x0 : Nat) (b0 : Nat) (im : Nat) (tp : Nat) (rd : Nat) (tb : Nat) (ztp : Int32) (ftb : Nat → Int32) (v1 : Int32) (v2 : Int32) (v3 : Int32) (v4 : Int32) (v5 : Int32) : (Nat → Prop) → Array Value → State → Outcome → State → Prop := QI D cy (fun (r : Int32) (u : Int32 × (Nat → Int32)) => match u with | (zz, gtb) => (ztp.toInt + 20 ≤ 400 ∧ zz.toInt = ztp.toInt + 20 ∧ r.toInt = zz.toInt) ∨ (400 < ztp.toInt + 20 ∧ zz.toInt = ztp.toInt ∧ r.toInt = -1)) (fun u : Int32 × (Nat → Int32) => match u with | (zz, gtb) => [Prod.mk x0 (Sum.inr (Prod.mk 9 [Value.ref b0, Value.ref im, Value.ref tp, Value.ref rd])), Prod.mk tp (Sum.inr (Prod.mk 6 [Value.int zz, Value.ref tb])), Prod.mk tb (Sum.inl (Prod.mk (cy 0) (Prod.mk 400 (Sum.inl gtb))))])
set_option maxHeartbeats 4000000 in
set_option maxRecDepth 100000 in
theorem c_X9_feed (l : Launch) (D : va_G) (cy : Nat → ClassId) (E : EN) (x0 : Nat) (b0 : Nat) (im : Nat) (tp : Nat) (rd : Nat) (tb : Nat) (ztp : Int32) (ftb : Nat → Int32) (v1 : Int32) (v2 : Int32) (v3 : Int32) (v4 : Int32) (v5 : Int32) (sz : Nat) (htp : 0 ≤ ztp.toInt ∧ ztp.toInt ≤ 400) : Met l yX9_feed wsX9_feed ({ frames := 1, cells := 0, slots := 0, locals := 22 } : Room) (CP D cy E [.ref x0, .int v1, .int v2, .int v3, .int v4, .int v5] [Prod.mk x0 (Sum.inr (Prod.mk 9 [Value.ref b0, Value.ref im, Value.ref tp, Value.ref rd])), Prod.mk tp (Sum.inr (Prod.mk 6 [Value.int ztp, Value.ref tb])), Prod.mk tb (Sum.inl (Prod.mk (cy 0) (Prod.mk 400 (Sum.inl ftb))))] sz) (Q_c_X9_feed D cy E x0 b0 im tp rd tb ztp ftb v1 v2 v3 v4 v5 (va_A [Prod.mk x0 (Sum.inr (Prod.mk 9 [Value.ref b0, Value.ref im, Value.ref tp, Value.ref rd])), Prod.mk tp (Sum.inr (Prod.mk 6 [Value.int ztp, Value.ref tb])), Prod.mk tb (Sum.inl (Prod.mk (cy 0) (Prod.mk 400 (Sum.inl ftb))))] sz)) 0 0 (va_A [Prod.mk x0 (Sum.inr (Prod.mk 9 [Value.ref b0, Value.ref im, Value.ref tp, Value.ref rd])), Prod.mk tp (Sum.inr (Prod.mk 6 [Value.int ztp, Value.ref tb])), Prod.mk tb (Sum.inl (Prod.mk (cy 0) (Prod.mk 400 (Sum.inl ftb))))] sz) := by
  refine Met.go (Qc := Q_c_X9_feed D cy E x0 b0 im tp rd tb ztp ftb v1 v2 v3 v4 v5) (cc := cX9_feed) (maxL := 6) (ret := (some .int)) (by decide) rfl (Nat.le_of_ble_eq_true rfl) ?_
  intro p e s m below meth c hx hb hr hts hown hlocks hin hml hK hN A hA hAB hD hP hS ls hl hsz
  have hl : lv_has ls 6 [(0, .ref x0), (1, .int v1), (2, .int v2), (3, .int v3), (4, .int v4), (5, .int v5)] := hl
  have in_X9 : ∀ w ∈ wsX90, w ∈ wsX9_feed := fun _ h => List.mem_cons_of_mem _ (List.mem_append_left _ ((List.mem_append_right _ h)))
  have w_1 := hts (.fieldLink RX9 23 "SleepingCars" "tape" "LSleepingCars$Tape;") (by decide +kernel)
  have in_X6 : ∀ w ∈ wsX60, w ∈ wsX9_feed := fun _ h => List.mem_cons_of_mem _ ((List.mem_append_right _ h))
  have w_3 := hts (.fieldLink RX9 196 "SleepingCars$Tape" "size" "I") (by decide +kernel)
  have w_4 := hts (.instanceMethod yX6_append) (by decide +kernel)
  obtain ⟨H, eH⟩ : ∃ H : Heap, H = s.heap := ⟨_, rfl⟩
  obtain ⟨locs, eL⟩ : ∃ L : List Loc, L = [] := ⟨_, rfl⟩
  rw [← eL]
  rw [← eL] at hS
  have hP : va_P D vwCl [Prod.mk x0 (Sum.inr (Prod.mk 9 [Value.ref b0, Value.ref im, Value.ref tp, Value.ref rd])), Prod.mk tp (Sum.inr (Prod.mk 6 [Value.int ztp, Value.ref tb])), Prod.mk tb (Sum.inl (Prod.mk (cy 0) (Prod.mk 400 (Sum.inl ftb))))] H := by rw [eH]; exact hP
  have hS : va_S A s.heap H locs := by rw [eH]; exact hS
  refine W.heapEq eH ?_
  clear eH eL
  refine lv_aload_n hx hb dX9_feed_0 rfl (lv_at hl 0 rfl) ?_
  refine va_get (D := D) (ci := 9) (v := .ref tp) (C := RX9) (T := TX9) (N := 4) hx hb hts in_X9 hown hK hP 0 rfl rfl 2 (by decide) w_1 (fun _ h9 => h9) rfl dX9_feed_1 ?_
  refine va_get (D := D) (ci := 6) (v := .int ztp) (C := RX6) (T := TX6) (N := 2) hx hb hts in_X6 hown hK hP 1 rfl rfl 0 (by decide) w_3 (fun _ h9 => h9) rfl dX9_feed_4 ?_
  refine lv_bipush (v := 20) hx hb dX9_feed_7 (by decide) ?_
  refine lv_iadd hx hb dX9_feed_9 ?_
  refine lv_topi (fun x9 ex9 => ?_)
  have tx9 := q_add (p := ztp.toInt) (q := 20) ex9 rfl (by decide) (by omega) (by omega)
  refine lv_sipush (v := 400) hx hb dX9_feed_10 (by decide) ?_
  refine lv_icmp_le (tgt := 18) hx hb dX9_feed_13 (by decide) (fun c13 => ?_) (fun c13 => ?_)
  · skip
    have fc13 := q_le (a := x9.toInt) (b := 400) c13 rfl (by decide)
    refine lv_aload_n hx hb dX9_feed_18 rfl (lv_at hl 0 rfl) ?_
    refine va_get (D := D) (ci := 9) (v := .ref tp) (C := RX9) (T := TX9) (N := 4) hx hb hts in_X9 hown hK hP 0 rfl rfl 2 (by decide) w_1 (fun _ h9 => h9) rfl dX9_feed_19 ?_
    refine lv_iload_n hx hb dX9_feed_22 rfl (lv_at hl 1 rfl) ?_
    refine k_v (va_runV (As := [.int v1]) (rest := []) ⟨hx, hb, hml, hown, hts⟩ (c_X6_append l D cy E tp tb ztp ftb v1 H.size (by first | omega | decide | (constructor <;> first | omega | decide))) (cwV 1 hts gX9_feed_X6_append rfl rfl rfl (by decide +kernel) ⟨Nat.le_of_ble_eq_true rfl, Nat.le_of_ble_eq_true rfl⟩) (cp_v hK hN hS hAB hP hD [1, 2] rfl (by decide) (ci := 6) rfl rfl rfl) rfl rfl hl.1 rfl (lv_room (Nat.le_of_ble_eq_true rfl)) dX9_feed_23 ⟨Nat.le_of_ble_eq_true rfl, Nat.le_of_ble_eq_true rfl⟩) hP hD hS hA [1, 2] [0] (wr := [Prod.mk x0 (Sum.inr (Prod.mk 9 [Value.ref b0, Value.ref im, Value.ref tp, Value.ref rd]))]) rfl rfl (by decide) (by decide) (fun u_rr23 H locs hw23 hP hD hS => ?_)
    obtain ⟨o23, o23_1⟩ := u_rr23
    try dsimp only at hw23
    have hP : va_P D vwCl [Prod.mk x0 (Sum.inr (Prod.mk 9 [Value.ref b0, Value.ref im, Value.ref tp, Value.ref rd])), Prod.mk tp (Sum.inr (Prod.mk 6 [Value.int o23, Value.ref tb])), Prod.mk tb (Sum.inl (Prod.mk (cy 0) (Prod.mk 400 (Sum.inl o23_1))))] H := hP
    have hD : va_D A [Prod.mk x0 (Sum.inr (Prod.mk 9 [Value.ref b0, Value.ref im, Value.ref tp, Value.ref rd])), Prod.mk tp (Sum.inr (Prod.mk 6 [Value.int o23, Value.ref tb])), Prod.mk tb (Sum.inl (Prod.mk (cy 0) (Prod.mk 400 (Sum.inl o23_1))))] := hD
    refine lv_aload_n hx hb dX9_feed_26 rfl (lv_at hl 0 rfl) ?_
    refine va_get (D := D) (ci := 9) (v := .ref tp) (C := RX9) (T := TX9) (N := 4) hx hb hts in_X9 hown hK hP 0 rfl rfl 2 (by decide) w_1 (fun _ h9 => h9) rfl dX9_feed_27 ?_
    refine lv_iload_n hx hb dX9_feed_30 rfl (lv_at hl 2 rfl) ?_
    refine k_v (va_runV (As := [.int v2]) (rest := []) ⟨hx, hb, hml, hown, hts⟩ (c_X6_append l D cy E tp tb o23 o23_1 v2 H.size (by first | omega | decide | (constructor <;> first | omega | decide))) (cwV 1 hts gX9_feed_X6_append rfl rfl rfl (by decide +kernel) ⟨Nat.le_of_ble_eq_true rfl, Nat.le_of_ble_eq_true rfl⟩) (cp_v hK hN hS hAB hP hD [1, 2] rfl (by decide) (ci := 6) rfl rfl rfl) rfl rfl hl.1 rfl (lv_room (Nat.le_of_ble_eq_true rfl)) dX9_feed_31 ⟨Nat.le_of_ble_eq_true rfl, Nat.le_of_ble_eq_true rfl⟩) hP hD hS hA [1, 2] [0] (wr := [Prod.mk x0 (Sum.inr (Prod.mk 9 [Value.ref b0, Value.ref im, Value.ref tp, Value.ref rd]))]) rfl rfl (by decide) (by decide) (fun u_rr31 H locs hw31 hP hD hS => ?_)
    obtain ⟨o31, o31_1⟩ := u_rr31
    try dsimp only at hw31
    have hP : va_P D vwCl [Prod.mk x0 (Sum.inr (Prod.mk 9 [Value.ref b0, Value.ref im, Value.ref tp, Value.ref rd])), Prod.mk tp (Sum.inr (Prod.mk 6 [Value.int o31, Value.ref tb])), Prod.mk tb (Sum.inl (Prod.mk (cy 0) (Prod.mk 400 (Sum.inl o31_1))))] H := hP
    have hD : va_D A [Prod.mk x0 (Sum.inr (Prod.mk 9 [Value.ref b0, Value.ref im, Value.ref tp, Value.ref rd])), Prod.mk tp (Sum.inr (Prod.mk 6 [Value.int o31, Value.ref tb])), Prod.mk tb (Sum.inl (Prod.mk (cy 0) (Prod.mk 400 (Sum.inl o31_1))))] := hD
    refine lv_aload_n hx hb dX9_feed_34 rfl (lv_at hl 0 rfl) ?_
    refine va_get (D := D) (ci := 9) (v := .ref tp) (C := RX9) (T := TX9) (N := 4) hx hb hts in_X9 hown hK hP 0 rfl rfl 2 (by decide) w_1 (fun _ h9 => h9) rfl dX9_feed_35 ?_
    refine lv_iload_n hx hb dX9_feed_38 rfl (lv_at hl 3 rfl) ?_
    refine k_v (va_runV (As := [.int v3]) (rest := []) ⟨hx, hb, hml, hown, hts⟩ (c_X6_append l D cy E tp tb o31 o31_1 v3 H.size (by first | omega | decide | (constructor <;> first | omega | decide))) (cwV 1 hts gX9_feed_X6_append rfl rfl rfl (by decide +kernel) ⟨Nat.le_of_ble_eq_true rfl, Nat.le_of_ble_eq_true rfl⟩) (cp_v hK hN hS hAB hP hD [1, 2] rfl (by decide) (ci := 6) rfl rfl rfl) rfl rfl hl.1 rfl (lv_room (Nat.le_of_ble_eq_true rfl)) dX9_feed_39 ⟨Nat.le_of_ble_eq_true rfl, Nat.le_of_ble_eq_true rfl⟩) hP hD hS hA [1, 2] [0] (wr := [Prod.mk x0 (Sum.inr (Prod.mk 9 [Value.ref b0, Value.ref im, Value.ref tp, Value.ref rd]))]) rfl rfl (by decide) (by decide) (fun u_rr39 H locs hw39 hP hD hS => ?_)
    obtain ⟨o39, o39_1⟩ := u_rr39
    try dsimp only at hw39
    have hP : va_P D vwCl [Prod.mk x0 (Sum.inr (Prod.mk 9 [Value.ref b0, Value.ref im, Value.ref tp, Value.ref rd])), Prod.mk tp (Sum.inr (Prod.mk 6 [Value.int o39, Value.ref tb])), Prod.mk tb (Sum.inl (Prod.mk (cy 0) (Prod.mk 400 (Sum.inl o39_1))))] H := hP
    have hD : va_D A [Prod.mk x0 (Sum.inr (Prod.mk 9 [Value.ref b0, Value.ref im, Value.ref tp, Value.ref rd])), Prod.mk tp (Sum.inr (Prod.mk 6 [Value.int o39, Value.ref tb])), Prod.mk tb (Sum.inl (Prod.mk (cy 0) (Prod.mk 400 (Sum.inl o39_1))))] := hD
    refine lv_aload_n hx hb dX9_feed_42 rfl (lv_at hl 0 rfl) ?_
    refine va_get (D := D) (ci := 9) (v := .ref tp) (C := RX9) (T := TX9) (N := 4) hx hb hts in_X9 hown hK hP 0 rfl rfl 2 (by decide) w_1 (fun _ h9 => h9) rfl dX9_feed_43 ?_
    refine lv_iload hx hb dX9_feed_46 (lv_at hl 4 rfl) ?_
    refine k_v (va_runV (As := [.int v4]) (rest := []) ⟨hx, hb, hml, hown, hts⟩ (c_X6_append l D cy E tp tb o39 o39_1 v4 H.size (by first | omega | decide | (constructor <;> first | omega | decide))) (cwV 1 hts gX9_feed_X6_append rfl rfl rfl (by decide +kernel) ⟨Nat.le_of_ble_eq_true rfl, Nat.le_of_ble_eq_true rfl⟩) (cp_v hK hN hS hAB hP hD [1, 2] rfl (by decide) (ci := 6) rfl rfl rfl) rfl rfl hl.1 rfl (lv_room (Nat.le_of_ble_eq_true rfl)) dX9_feed_48 ⟨Nat.le_of_ble_eq_true rfl, Nat.le_of_ble_eq_true rfl⟩) hP hD hS hA [1, 2] [0] (wr := [Prod.mk x0 (Sum.inr (Prod.mk 9 [Value.ref b0, Value.ref im, Value.ref tp, Value.ref rd]))]) rfl rfl (by decide) (by decide) (fun u_rr48 H locs hw48 hP hD hS => ?_)
    obtain ⟨o48, o48_1⟩ := u_rr48
    try dsimp only at hw48
    have hP : va_P D vwCl [Prod.mk x0 (Sum.inr (Prod.mk 9 [Value.ref b0, Value.ref im, Value.ref tp, Value.ref rd])), Prod.mk tp (Sum.inr (Prod.mk 6 [Value.int o48, Value.ref tb])), Prod.mk tb (Sum.inl (Prod.mk (cy 0) (Prod.mk 400 (Sum.inl o48_1))))] H := hP
    have hD : va_D A [Prod.mk x0 (Sum.inr (Prod.mk 9 [Value.ref b0, Value.ref im, Value.ref tp, Value.ref rd])), Prod.mk tp (Sum.inr (Prod.mk 6 [Value.int o48, Value.ref tb])), Prod.mk tb (Sum.inl (Prod.mk (cy 0) (Prod.mk 400 (Sum.inl o48_1))))] := hD
    refine lv_aload_n hx hb dX9_feed_51 rfl (lv_at hl 0 rfl) ?_
    refine va_get (D := D) (ci := 9) (v := .ref tp) (C := RX9) (T := TX9) (N := 4) hx hb hts in_X9 hown hK hP 0 rfl rfl 2 (by decide) w_1 (fun _ h9 => h9) rfl dX9_feed_52 ?_
    refine lv_iload hx hb dX9_feed_55 (lv_at hl 5 rfl) ?_
    refine k_v (va_runV (As := [.int v5]) (rest := []) ⟨hx, hb, hml, hown, hts⟩ (c_X6_append l D cy E tp tb o48 o48_1 v5 H.size (by first | omega | decide | (constructor <;> first | omega | decide))) (cwV 1 hts gX9_feed_X6_append rfl rfl rfl (by decide +kernel) ⟨Nat.le_of_ble_eq_true rfl, Nat.le_of_ble_eq_true rfl⟩) (cp_v hK hN hS hAB hP hD [1, 2] rfl (by decide) (ci := 6) rfl rfl rfl) rfl rfl hl.1 rfl (lv_room (Nat.le_of_ble_eq_true rfl)) dX9_feed_57 ⟨Nat.le_of_ble_eq_true rfl, Nat.le_of_ble_eq_true rfl⟩) hP hD hS hA [1, 2] [0] (wr := [Prod.mk x0 (Sum.inr (Prod.mk 9 [Value.ref b0, Value.ref im, Value.ref tp, Value.ref rd]))]) rfl rfl (by decide) (by decide) (fun u_rr57 H locs hw57 hP hD hS => ?_)
    obtain ⟨o57, o57_1⟩ := u_rr57
    try dsimp only at hw57
    have hP : va_P D vwCl [Prod.mk x0 (Sum.inr (Prod.mk 9 [Value.ref b0, Value.ref im, Value.ref tp, Value.ref rd])), Prod.mk tp (Sum.inr (Prod.mk 6 [Value.int o57, Value.ref tb])), Prod.mk tb (Sum.inl (Prod.mk (cy 0) (Prod.mk 400 (Sum.inl o57_1))))] H := hP
    have hD : va_D A [Prod.mk x0 (Sum.inr (Prod.mk 9 [Value.ref b0, Value.ref im, Value.ref tp, Value.ref rd])), Prod.mk tp (Sum.inr (Prod.mk 6 [Value.int o57, Value.ref tb])), Prod.mk tb (Sum.inl (Prod.mk (cy 0) (Prod.mk 400 (Sum.inl o57_1))))] := hD
    refine lv_aload_n hx hb dX9_feed_60 rfl (lv_at hl 0 rfl) ?_
    refine va_get (D := D) (ci := 9) (v := .ref tp) (C := RX9) (T := TX9) (N := 4) hx hb hts in_X9 hown hK hP 0 rfl rfl 2 (by decide) w_1 (fun _ h9 => h9) rfl dX9_feed_61 ?_
    refine va_get (D := D) (ci := 6) (v := .int o57) (C := RX6) (T := TX6) (N := 2) hx hb hts in_X6 hown hK hP 1 rfl rfl 0 (by decide) w_3 (fun _ h9 => h9) rfl dX9_feed_64 ?_
    exact r_i hx hb hr hlocks hK hS dX9_feed_67 (u := (o57, o57_1)) hP hD (by first | exact Or.inl ⟨by omega, by omega, by omega⟩ | exact Or.inr ⟨by omega, by omega, by decide⟩)
  · skip
    have fc13 := q_nle (a := x9.toInt) (b := 400) c13 rfl (by decide)
    refine lv_iconst (v := (-1)) hx hb dX9_feed_16 (by decide) ?_
    exact r_i hx hb hr hlocks hK hS dX9_feed_17 (u := (ztp, ftb)) hP hD (by first | exact Or.inl ⟨by omega, by omega, by omega⟩ | exact Or.inr ⟨by omega, by omega, by decide⟩)

abbrev Q_c_X9_end (D : va_G) (cy : Nat → ClassId) (E : EN) (x0 : Nat) (b0 : Nat) (im : Nat) (tp : Nat) (rd : Nat) (tb : Nat) (ztp : Int32) (ftb : Nat → Int32) (n : Int32) : (Nat → Prop) → Array Value → State → Outcome → State → Prop := QI D cy (fun (r : Int32) (zz : Int32) => (0 ≤ n.toInt ∧ n.toInt ≤ ztp.toInt ∧ zz.toInt = n.toInt ∧ r.toInt = n.toInt) ∨ (¬ (0 ≤ n.toInt ∧ n.toInt ≤ ztp.toInt) ∧ zz.toInt = ztp.toInt ∧ r.toInt = -1)) (fun zz : Int32 => [Prod.mk x0 (Sum.inr (Prod.mk 9 [Value.ref b0, Value.ref im, Value.ref tp, Value.ref rd])), Prod.mk tp (Sum.inr (Prod.mk 6 [Value.int zz, Value.ref tb])), Prod.mk tb (Sum.inl (Prod.mk (cy 0) (Prod.mk 400 (Sum.inl ftb))))])
set_option maxHeartbeats 4000000 in
set_option maxRecDepth 100000 in
theorem c_X9_end (l : Launch) (D : va_G) (cy : Nat → ClassId) (E : EN) (x0 : Nat) (b0 : Nat) (im : Nat) (tp : Nat) (rd : Nat) (tb : Nat) (ztp : Int32) (ftb : Nat → Int32) (n : Int32) (sz : Nat)  : Met l yX9_end wsX9_end ({ frames := 0, cells := 0, slots := 0, locals := 0 } : Room) (CP D cy E [.ref x0, .int n] [Prod.mk x0 (Sum.inr (Prod.mk 9 [Value.ref b0, Value.ref im, Value.ref tp, Value.ref rd])), Prod.mk tp (Sum.inr (Prod.mk 6 [Value.int ztp, Value.ref tb])), Prod.mk tb (Sum.inl (Prod.mk (cy 0) (Prod.mk 400 (Sum.inl ftb))))] sz) (Q_c_X9_end D cy E x0 b0 im tp rd tb ztp ftb n (va_A [Prod.mk x0 (Sum.inr (Prod.mk 9 [Value.ref b0, Value.ref im, Value.ref tp, Value.ref rd])), Prod.mk tp (Sum.inr (Prod.mk 6 [Value.int ztp, Value.ref tb])), Prod.mk tb (Sum.inl (Prod.mk (cy 0) (Prod.mk 400 (Sum.inl ftb))))] sz)) 0 0 (va_A [Prod.mk x0 (Sum.inr (Prod.mk 9 [Value.ref b0, Value.ref im, Value.ref tp, Value.ref rd])), Prod.mk tp (Sum.inr (Prod.mk 6 [Value.int ztp, Value.ref tb])), Prod.mk tb (Sum.inl (Prod.mk (cy 0) (Prod.mk 400 (Sum.inl ftb))))] sz) := by
  refine Met.go (Qc := Q_c_X9_end D cy E x0 b0 im tp rd tb ztp ftb n) (cc := cX9_end) (maxL := 2) (ret := (some .int)) (by decide) rfl (Nat.le_of_ble_eq_true rfl) ?_
  intro p e s m below meth c hx hb hr hts hown hlocks hin hml hK hN A hA hAB hD hP hS ls hl hsz
  have hl : lv_has ls 2 [(0, .ref x0), (1, .int n)] := hl
  have in_X9 : ∀ w ∈ wsX90, w ∈ wsX9_end := fun _ h => List.mem_cons_of_mem _ (List.mem_append_left _ ((List.mem_append_right _ h)))
  have w_1 := hts (.fieldLink RX9 23 "SleepingCars" "tape" "LSleepingCars$Tape;") (by decide +kernel)
  have in_X6 : ∀ w ∈ wsX60, w ∈ wsX9_end := fun _ h => List.mem_cons_of_mem _ ((List.mem_append_right _ h))
  have w_3 := hts (.fieldLink RX9 196 "SleepingCars$Tape" "size" "I") (by decide +kernel)
  obtain ⟨H, eH⟩ : ∃ H : Heap, H = s.heap := ⟨_, rfl⟩
  obtain ⟨locs, eL⟩ : ∃ L : List Loc, L = [] := ⟨_, rfl⟩
  rw [← eL]
  rw [← eL] at hS
  have hP : va_P D vwCl [Prod.mk x0 (Sum.inr (Prod.mk 9 [Value.ref b0, Value.ref im, Value.ref tp, Value.ref rd])), Prod.mk tp (Sum.inr (Prod.mk 6 [Value.int ztp, Value.ref tb])), Prod.mk tb (Sum.inl (Prod.mk (cy 0) (Prod.mk 400 (Sum.inl ftb))))] H := by rw [eH]; exact hP
  have hS : va_S A s.heap H locs := by rw [eH]; exact hS
  refine W.heapEq eH ?_
  clear eH eL
  refine lv_iload_n hx hb dX9_end_0 rfl (lv_at hl 1 rfl) ?_
  refine lv_if_lt (tgt := 15) hx hb dX9_end_1 (by decide) (fun c1 => ?_) (fun c1 => ?_)
  · skip
    have fc1 := q_lt (a := n.toInt) (b := 0) c1 rfl (by decide)
    refine lv_iconst (v := (-1)) hx hb dX9_end_15 (by decide) ?_
    exact r_i hx hb hr hlocks hK hS dX9_end_16 (u := (ztp)) hP hD (by first | exact Or.inl ⟨by omega, by omega, by omega, by omega⟩ | exact Or.inr ⟨by omega, by omega, by decide⟩)
  · skip
    have fc1 := q_nlt (a := n.toInt) (b := 0) c1 rfl (by decide)
    refine lv_iload_n hx hb dX9_end_4 rfl (lv_at hl 1 rfl) ?_
    refine lv_aload_n hx hb dX9_end_5 rfl (lv_at hl 0 rfl) ?_
    refine va_get (D := D) (ci := 9) (v := .ref tp) (C := RX9) (T := TX9) (N := 4) hx hb hts in_X9 hown hK hP 0 rfl rfl 2 (by decide) w_1 (fun _ h9 => h9) rfl dX9_end_6 ?_
    refine va_get (D := D) (ci := 6) (v := .int ztp) (C := RX6) (T := TX6) (N := 2) hx hb hts in_X6 hown hK hP 1 rfl rfl 0 (by decide) w_3 (fun _ h9 => h9) rfl dX9_end_9 ?_
    refine lv_icmp_le (tgt := 17) hx hb dX9_end_12 (by decide) (fun c12 => ?_) (fun c12 => ?_)
    · skip
      have fc12 := q_le (a := n.toInt) (b := ztp.toInt) c12 rfl rfl
      refine lv_aload_n hx hb dX9_end_17 rfl (lv_at hl 0 rfl) ?_
      refine va_get (D := D) (ci := 9) (v := .ref tp) (C := RX9) (T := TX9) (N := 4) hx hb hts in_X9 hown hK hP 0 rfl rfl 2 (by decide) w_1 (fun _ h9 => h9) rfl dX9_end_18 ?_
      refine lv_iload_n hx hb dX9_end_21 rfl (lv_at hl 1 rfl) ?_
      refine va_put (D := D) (ci := 6) (v := .int n) (ty := .int) (C := RX6) (T := TX6) (N := 2) hx hb hts in_X6 tyX6 tyX6_ok nmX6 hown hK hP hD hS 1 rfl rfl 0 (by decide) w_3 (fun _ h9 => h9) rfl (by decide +kernel) rfl rfl (Nat.le_of_ble_eq_true rfl) dX9_end_22 (fun H locs hP hD hS => ?_)
      have hP : va_P D vwCl [Prod.mk x0 (Sum.inr (Prod.mk 9 [Value.ref b0, Value.ref im, Value.ref tp, Value.ref rd])), Prod.mk tp (Sum.inr (Prod.mk 6 [Value.int n, Value.ref tb])), Prod.mk tb (Sum.inl (Prod.mk (cy 0) (Prod.mk 400 (Sum.inl ftb))))] H := hP
      have hD : va_D A [Prod.mk x0 (Sum.inr (Prod.mk 9 [Value.ref b0, Value.ref im, Value.ref tp, Value.ref rd])), Prod.mk tp (Sum.inr (Prod.mk 6 [Value.int n, Value.ref tb])), Prod.mk tb (Sum.inl (Prod.mk (cy 0) (Prod.mk 400 (Sum.inl ftb))))] := hD
      refine lv_iload_n hx hb dX9_end_25 rfl (lv_at hl 1 rfl) ?_
      exact r_i hx hb hr hlocks hK hS dX9_end_26 (u := (n)) hP hD (by first | exact Or.inl ⟨by omega, by omega, by omega, by omega⟩ | exact Or.inr ⟨by omega, by omega, by decide⟩)
    · skip
      have fc12 := q_nle (a := n.toInt) (b := ztp.toInt) c12 rfl rfl
      refine lv_iconst (v := (-1)) hx hb dX9_end_15 (by decide) ?_
      exact r_i hx hb hr hlocks hK hS dX9_end_16 (u := (ztp)) hP hD (by first | exact Or.inl ⟨by omega, by omega, by omega, by omega⟩ | exact Or.inr ⟨by omega, by omega, by decide⟩)

abbrev Q_c_X9_fault (D : va_G) (cy : Nat → ClassId) (E : EN) (x0 : Nat) (b0 : Nat) (im : Nat) (tp : Nat) (rd : Nat) (d0 : Nat) (k0 : Nat) (zfk : Int32) (zfp2 : Int32) (zat : Int32) (zsu : Int32) (what : Int32) : (Nat → Prop) → Array Value → State → Outcome → State → Prop := QI D cy (fun (r : Int32) (_ : Unit) => (what.toInt = 0 ∧ r = zfk) ∨ (what.toInt = 1 ∧ r = zfp2) ∨ (what.toInt ≠ 0 ∧ what.toInt ≠ 1 ∧ r.toInt = -1)) (fun _ : Unit => [Prod.mk x0 (Sum.inr (Prod.mk 9 [Value.ref b0, Value.ref im, Value.ref tp, Value.ref rd])), Prod.mk rd (Sum.inr (Prod.mk 3 [Value.int zfk, Value.int zfp2, Value.ref d0, Value.ref k0, Value.int zat, Value.int zsu]))])
set_option maxHeartbeats 4000000 in
set_option maxRecDepth 100000 in
theorem c_X9_fault (l : Launch) (D : va_G) (cy : Nat → ClassId) (E : EN) (x0 : Nat) (b0 : Nat) (im : Nat) (tp : Nat) (rd : Nat) (d0 : Nat) (k0 : Nat) (zfk : Int32) (zfp2 : Int32) (zat : Int32) (zsu : Int32) (what : Int32) (sz : Nat)  : Met l yX9_fault wsX9_fault ({ frames := 0, cells := 0, slots := 0, locals := 0 } : Room) (CP D cy E [.ref x0, .int what] [Prod.mk x0 (Sum.inr (Prod.mk 9 [Value.ref b0, Value.ref im, Value.ref tp, Value.ref rd])), Prod.mk rd (Sum.inr (Prod.mk 3 [Value.int zfk, Value.int zfp2, Value.ref d0, Value.ref k0, Value.int zat, Value.int zsu]))] sz) (Q_c_X9_fault D cy E x0 b0 im tp rd d0 k0 zfk zfp2 zat zsu what (va_A [Prod.mk x0 (Sum.inr (Prod.mk 9 [Value.ref b0, Value.ref im, Value.ref tp, Value.ref rd])), Prod.mk rd (Sum.inr (Prod.mk 3 [Value.int zfk, Value.int zfp2, Value.ref d0, Value.ref k0, Value.int zat, Value.int zsu]))] sz)) 0 0 (va_A [Prod.mk x0 (Sum.inr (Prod.mk 9 [Value.ref b0, Value.ref im, Value.ref tp, Value.ref rd])), Prod.mk rd (Sum.inr (Prod.mk 3 [Value.int zfk, Value.int zfp2, Value.ref d0, Value.ref k0, Value.int zat, Value.int zsu]))] sz) := by
  refine Met.go (Qc := Q_c_X9_fault D cy E x0 b0 im tp rd d0 k0 zfk zfp2 zat zsu what) (cc := cX9_fault) (maxL := 2) (ret := (some .int)) (by decide) rfl (Nat.le_of_ble_eq_true rfl) ?_
  intro p e s m below meth c hx hb hr hts hown hlocks hin hml hK hN A hA hAB hD hP hS ls hl hsz
  have hl : lv_has ls 2 [(0, .ref x0), (1, .int what)] := hl
  have in_X9 : ∀ w ∈ wsX90, w ∈ wsX9_fault := fun _ h => List.mem_cons_of_mem _ (List.mem_append_left _ ((List.mem_append_right _ h)))
  have w_1 := hts (.fieldLink RX9 30 "SleepingCars" "reader" "LSleepingCars$Reader;") (by decide +kernel)
  have in_X3 : ∀ w ∈ wsX30, w ∈ wsX9_fault := fun _ h => List.mem_cons_of_mem _ ((List.mem_append_right _ h))
  have w_3 := hts (.fieldLink RX9 204 "SleepingCars$Reader" "faultKind" "I") (by decide +kernel)
  have w_4 := hts (.fieldLink RX9 223 "SleepingCars$Reader" "faultPlace" "I") (by decide +kernel)
  obtain ⟨H, eH⟩ : ∃ H : Heap, H = s.heap := ⟨_, rfl⟩
  obtain ⟨locs, eL⟩ : ∃ L : List Loc, L = [] := ⟨_, rfl⟩
  rw [← eL]
  rw [← eL] at hS
  have hP : va_P D vwCl [Prod.mk x0 (Sum.inr (Prod.mk 9 [Value.ref b0, Value.ref im, Value.ref tp, Value.ref rd])), Prod.mk rd (Sum.inr (Prod.mk 3 [Value.int zfk, Value.int zfp2, Value.ref d0, Value.ref k0, Value.int zat, Value.int zsu]))] H := by rw [eH]; exact hP
  have hS : va_S A s.heap H locs := by rw [eH]; exact hS
  refine W.heapEq eH ?_
  clear eH eL
  refine lv_iload_n hx hb dX9_fault_0 rfl (lv_at hl 1 rfl) ?_
  by_cases c1 : what = 0
  · have fc1 := q_eq (a := what.toInt) (b := 0) c1 rfl (by decide)
    refine lv_lookup (tgt := 28) (off := 27) hx hb dX9_fault_1 (by decide) (by rw [fc1]; rfl) (by decide) ?_
    refine lv_aload_n hx hb dX9_fault_28 rfl (lv_at hl 0 rfl) ?_
    refine va_get (D := D) (ci := 9) (v := .ref rd) (C := RX9) (T := TX9) (N := 4) hx hb hts in_X9 hown hK hP 0 rfl rfl 3 (by decide) w_1 (fun _ h9 => h9) rfl dX9_fault_29 ?_
    refine va_get (D := D) (ci := 3) (v := .int zfk) (C := RX3) (T := TX3) (N := 6) hx hb hts in_X3 hown hK hP 1 rfl rfl 0 (by decide) w_3 (fun _ h9 => h9) rfl dX9_fault_32 ?_
    exact r_i hx hb hr hlocks hK hS dX9_fault_35 (u := ()) hP hD (by first | exact Or.inl ⟨by omega, rfl⟩ | exact Or.inr (Or.inl ⟨by omega, rfl⟩) | exact Or.inr (Or.inr ⟨by omega, by omega, by decide⟩))
  have fc1 := q_ne (a := what.toInt) (b := 0) c1 rfl (by decide)
  by_cases c35 : what = 1
  · have fc35 := q_eq (a := what.toInt) (b := 1) c35 rfl (by decide)
    refine lv_lookup (tgt := 36) (off := 35) hx hb dX9_fault_1 (by decide) ((lv_osw (k := 0) c1 (by decide)).trans <| by rw [fc35]; rfl) (by decide) ?_
    refine lv_aload_n hx hb dX9_fault_36 rfl (lv_at hl 0 rfl) ?_
    refine va_get (D := D) (ci := 9) (v := .ref rd) (C := RX9) (T := TX9) (N := 4) hx hb hts in_X9 hown hK hP 0 rfl rfl 3 (by decide) w_1 (fun _ h9 => h9) rfl dX9_fault_37 ?_
    refine va_get (D := D) (ci := 3) (v := .int zfp2) (C := RX3) (T := TX3) (N := 6) hx hb hts in_X3 hown hK hP 1 rfl rfl 1 (by decide) w_4 (fun _ h9 => h9) rfl dX9_fault_40 ?_
    exact r_i hx hb hr hlocks hK hS dX9_fault_43 (u := ()) hP hD (by first | exact Or.inl ⟨by omega, rfl⟩ | exact Or.inr (Or.inl ⟨by omega, rfl⟩) | exact Or.inr (Or.inr ⟨by omega, by omega, by decide⟩))
  have fc35 := q_ne (a := what.toInt) (b := 1) c35 rfl (by decide)
  refine lv_lookup (tgt := 44) (off := 43) hx hb dX9_fault_1 (by decide) ((lv_osw (k := 0) c1 (by decide)).trans <| (lv_osw (k := 1) c35 (by decide)).trans <| rfl) (by decide) ?_
  refine lv_iconst (v := (-1)) hx hb dX9_fault_44 (by decide) ?_
  exact r_i hx hb hr hlocks hK hS dX9_fault_45 (u := ()) hP hD (by first | exact Or.inl ⟨by omega, rfl⟩ | exact Or.inr (Or.inl ⟨by omega, rfl⟩) | exact Or.inr (Or.inr ⟨by omega, by omega, by decide⟩))

abbrev Q_c_X9_isInSet (D : va_G) (cy : Nat → ClassId) (E : EN) (days : Int32) (day : Int32) : (Nat → Prop) → Array Value → State → Outcome → State → Prop := QI D cy (fun (r : Int32) (_ : Unit) => (r.toInt = 1 ∧ ((bitAt days day).toInt = 1)) ∨ (r.toInt = 0 ∧ ¬ ((bitAt days day).toInt = 1))) (fun _ : Unit => [])
set_option maxHeartbeats 4000000 in
set_option maxRecDepth 100000 in
theorem c_X9_isInSet (l : Launch) (D : va_G) (cy : Nat → ClassId) (E : EN) (days : Int32) (day : Int32) (sz : Nat)  : Met l yX9_isInSet wsX9_isInSet ({ frames := 0, cells := 0, slots := 0, locals := 0 } : Room) (CP D cy E [.int days, .int day] [] sz) (Q_c_X9_isInSet D cy E days day (va_A [] sz)) 0 0 (va_A [] sz) := by
  refine Met.go (Qc := Q_c_X9_isInSet D cy E days day) (cc := cX9_isInSet) (maxL := 2) (ret := (some .boolean)) (by decide) rfl (Nat.le_of_ble_eq_true rfl) ?_
  intro p e s m below meth c hx hb hr hts hown hlocks hin hml hK hN A hA hAB hD hP hS ls hl hsz
  have hl : lv_has ls 2 [(0, .int days), (1, .int day)] := hl
  obtain ⟨H, eH⟩ : ∃ H : Heap, H = s.heap := ⟨_, rfl⟩
  obtain ⟨locs, eL⟩ : ∃ L : List Loc, L = [] := ⟨_, rfl⟩
  rw [← eL]
  rw [← eL] at hS
  have hP : va_P D vwCl [] H := by rw [eH]; exact hP
  have hS : va_S A s.heap H locs := by rw [eH]; exact hS
  refine W.heapEq eH ?_
  clear eH eL
  refine lv_iload_n hx hb dX9_isInSet_0 rfl (lv_at hl 0 rfl) ?_
  refine lv_iload_n hx hb dX9_isInSet_1 rfl (lv_at hl 1 rfl) ?_
  refine lv_ishr hx hb dX9_isInSet_2 ?_
  refine lv_topi (fun x2 ex2 => ?_)
  refine lv_iconst (v := 1) hx hb dX9_isInSet_3 (by decide) ?_
  refine lv_iand hx hb dX9_isInSet_4 ?_
  refine lv_topi (fun x4 ex4 => ?_)
  have tx4 : x4.toInt = (bitAt days day).toInt := by rw [ex4, ex2]; rfl
  refine lv_iconst (v := 1) hx hb dX9_isInSet_5 (by decide) ?_
  refine lv_icmp_ne (tgt := 13) hx hb dX9_isInSet_6 (by decide) (fun c6 => ?_) (fun c6 => ?_)
  · skip
    have fc6 := q_ne (a := x4.toInt) (b := 1) c6 rfl (by decide)
    refine lv_iconst (v := 0) hx hb dX9_isInSet_13 (by decide) ?_
    exact r_z hx hb hr hlocks hK hS dX9_isInSet_14 (by decide) (u := ()) hP hD (by first | exact Or.inl ⟨by decide, by omega⟩ | exact Or.inr ⟨by decide, by omega⟩)
  · skip
    have fc6 := q_eq (a := x4.toInt) (b := 1) c6 rfl (by decide)
    refine lv_iconst (v := 1) hx hb dX9_isInSet_9 (by decide) ?_
    refine lv_goto (tgt := 14) hx hb dX9_isInSet_10 (by decide) ?_
    exact r_z hx hb hr hlocks hK hS dX9_isInSet_14 (by decide) (u := ()) hP hD (by first | exact Or.inl ⟨by decide, by omega⟩ | exact Or.inr ⟨by decide, by omega⟩)

abbrev Q_c_X9_carsOut (D : va_G) (cy : Nat → ClassId) (E : EN) (days : Int32) (day : Int32) (away : Int32) : (Nat → Prop) → Array Value → State → Outcome → State → Prop := QI D cy (fun (r : Int32) (_ : Unit) => r.toInt = coF days away.toInt day.toInt (day.toInt + 1).toNat ∧ 0 ≤ r.toInt ∧ r.toInt ≤ 30) (fun _ : Unit => [])
set_option maxHeartbeats 4000000 in
set_option maxRecDepth 100000 in
theorem c_X9_carsOut (l : Launch) (D : va_G) (cy : Nat → ClassId) (E : EN) (days : Int32) (day : Int32) (away : Int32) (sz : Nat) (hd : 0 ≤ day.toInt ∧ day.toInt < 30) : Met l yX9_carsOut wsX9_carsOut ({ frames := 1, cells := 0, slots := 0, locals := 21 } : Room) (CP D cy E [.int days, .int day, .int away] [] sz) (Q_c_X9_carsOut D cy E days day away (va_A [] sz)) 0 0 (va_A [] sz) := by
  refine Met.go (Qc := Q_c_X9_carsOut D cy E days day away) (cc := cX9_carsOut) (maxL := 5) (ret := (some .int)) (by decide) rfl (Nat.le_of_ble_eq_true rfl) ?_
  intro p e s m below meth c hx hb hr hts hown hlocks hin hml hK hN A hA hAB hD hP hS ls hl hsz
  have hl : lv_has ls 5 [(0, .int days), (1, .int day), (2, .int away)] := hl
  obtain ⟨H, eH⟩ : ∃ H : Heap, H = s.heap := ⟨_, rfl⟩
  obtain ⟨locs, eL⟩ : ∃ L : List Loc, L = [] := ⟨_, rfl⟩
  rw [← eL]
  rw [← eL] at hS
  have hP : va_P D vwCl [] H := by rw [eH]; exact hP
  have hS : va_S A s.heap H locs := by rw [eH]; exact hS
  refine W.heapEq eH ?_
  clear eH eL
  refine lv_iconst (v := 0) hx hb dX9_carsOut_0 (by decide) ?_
  refine lv_istore_n (lv' := [(3, .int 0), (0, .int days), (1, .int day), (2, .int away)]) hx hb dX9_carsOut_1 rfl hl (by decide) rfl (fun ls hl => ?_)
  refine lv_iconst (v := 0) hx hb dX9_carsOut_2 (by decide) ?_
  refine lv_istore (lv' := [(4, .int 0), (3, .int 0), (0, .int days), (1, .int day), (2, .int away)]) hx hb dX9_carsOut_3 hl (by decide) rfl (fun ls hl => ?_)
  have lp_5 : ∀ (n_5 : Nat) (i : Int32) (ot : Int32), (0 ≤ i.toInt) → (i.toInt ≤ day.toInt + 1) → (ot.toInt = coF days away.toInt day.toInt i.toInt.toNat) → (0 ≤ ot.toInt) → (ot.toInt ≤ i.toInt) → (30 - i.toInt).toNat < n_5 → ∀ (H : Heap) (locs : List Loc), va_P D vwCl [] H → va_D A [] → va_S A s.heap H locs → ∀ ls : Array Slot, lv_has ls 5 [(4, .int i), (3, .int ot), (0, .int days), (1, .int day), (2, .int away)] → W p l e (headSpec wsX9_carsOut ({ frames := 1, cells := 0, slots := 0, locals := 21 } : Room)).room s m ([.int days, .int day, .int away] : List Value).toArray below meth c H locs 0 0 (MQ below (Q_c_X9_carsOut D cy E days day away A) ([.int days, .int day, .int away] : List Value).toArray s 0 0 A) (F0 m 5 ls []) := by
    intro n_5
    induction n_5 with
    | zero => intro i ot hi0 hi1 ho ho0 ho1 hmu; exact absurd hmu (Nat.not_lt_zero _)
    | succ n_5 ih_5 =>
      intro i ot hi0 hi1 ho ho0 ho1 hmu_5 H locs hP hD hS ls hl
      refine lv_iload hx hb dX9_carsOut_5 (lv_at hl 0 rfl) ?_
      refine lv_iload_n hx hb dX9_carsOut_7 rfl (lv_at hl 3 rfl) ?_
      refine lv_icmp_gt (tgt := 40) hx hb dX9_carsOut_8 (by decide) (fun c8 => ?_) (fun c8 => ?_)
      · skip
        have fc8 := q_lt (a := day.toInt) (b := i.toInt) c8 rfl rfl
        refine lv_iload_n hx hb dX9_carsOut_40 rfl (lv_at hl 1 rfl) ?_
        exact r_i hx hb hr hlocks hK hS dX9_carsOut_41 (u := ()) hP hD (⟨by rw [ho, show i.toInt.toNat = (day.toInt + 1).toNat by omega], by omega, by omega⟩)
      · skip
        have fc8 := q_nlt (a := day.toInt) (b := i.toInt) c8 rfl rfl
        refine lv_iload_n hx hb dX9_carsOut_11 rfl (lv_at hl 2 rfl) ?_
        refine lv_iload hx hb dX9_carsOut_12 (lv_at hl 0 rfl) ?_
        refine k_i (va_runS (As := [.int days, .int i]) (rest := []) ⟨hx, hb, hml, hown, hts⟩ (c_X9_isInSet l D cy E days i H.size ) (va_cwS 2 hts gX9_carsOut_X9_isInSet rfl rfl rfl (by decide +kernel) ⟨Nat.le_of_ble_eq_true rfl, Nat.le_of_ble_eq_true rfl⟩) (cp_s hK hN hS hAB hP hD [] rfl (by decide)) rfl rfl hl.1 rfl (lv_room (Nat.le_of_ble_eq_true rfl)) dX9_carsOut_14 ⟨Nat.le_of_ble_eq_true rfl, Nat.le_of_ble_eq_true rfl⟩) hP hD hS hA [] [] (wr := []) rfl rfl (by decide) (by decide) (fun rr14 u_rr14 H locs hw14 hP hD hS => ?_)
        try dsimp only at hw14
        have hP : va_P D vwCl [] H := hP
        have hD : va_D A [] := hD
        refine lv_if_eq (tgt := 34) hx hb dX9_carsOut_17 (by decide) (fun c17 => ?_) (fun c17 => ?_)
        · skip
          have fc17 := q_eq (a := rr14.toInt) (b := 0) c17 rfl (by decide)
          obtain ⟨x34, ex34⟩ : ∃ y : Int32, y = i + 1 := ⟨_, rfl⟩
          refine lv_iinc (v := x34) (lv' := [(4, .int x34), (3, .int ot), (0, .int days), (1, .int day), (2, .int away)]) hx hb dX9_carsOut_34 hl (k := 0) rfl (by rw [ex34]; rfl) (by decide) rfl (fun ls hl => ?_)
          have tx34 := q_add (p := i.toInt) (q := 1) ex34 rfl (by decide) (by omega) (by omega)
          refine lv_goto (tgt := 5) hx hb dX9_carsOut_37 (by decide) ?_
          exact ih_5 x34 ot (by first | omega | decide | (rw [i32_0]; omega)) (by first | omega | decide | (rw [i32_0]; omega)) (by first | exact co_step hi0 tx34 ho (by omega) (by omega) (by omega) | exact co_skip hi0 tx34 ho (by omega) (by omega)) (by first | omega | decide | (rw [i32_0]; omega)) (by first | omega | decide | (rw [i32_0]; omega)) (by omega) H locs hP hD hS ls (lv_sub hl [0, 1, 2, 3, 4] rfl)
        · skip
          have fc17 := q_ne (a := rr14.toInt) (b := 0) c17 rfl (by decide)
          refine lv_bipush (v := 24) hx hb dX9_carsOut_20 (by decide) ?_
          refine lv_iload_n hx hb dX9_carsOut_22 rfl (lv_at hl 3 rfl) ?_
          refine lv_iload hx hb dX9_carsOut_23 (lv_at hl 0 rfl) ?_
          refine lv_isub hx hb dX9_carsOut_25 ?_
          refine lv_topi (fun x25 ex25 => ?_)
          have tx25 := q_sub (p := day.toInt) (q := i.toInt) ex25 rfl rfl (by omega) (by omega)
          refine lv_imul hx hb dX9_carsOut_26 ?_
          refine lv_topi (fun x26 ex26 => ?_)
          have tx26 := q_mul (p := 24) (q := x25.toInt) ex26 (by decide) rfl (by omega) (by omega)
          refine lv_iload_n hx hb dX9_carsOut_27 rfl (lv_at hl 4 rfl) ?_
          refine lv_icmp_ge (tgt := 34) hx hb dX9_carsOut_28 (by decide) (fun c28 => ?_) (fun c28 => ?_)
          · skip
            have fc28 := q_le (a := away.toInt) (b := x26.toInt) c28 rfl rfl
            obtain ⟨x34, ex34⟩ : ∃ y : Int32, y = i + 1 := ⟨_, rfl⟩
            refine lv_iinc (v := x34) (lv' := [(4, .int x34), (3, .int ot), (0, .int days), (1, .int day), (2, .int away)]) hx hb dX9_carsOut_34 hl (k := 0) rfl (by rw [ex34]; rfl) (by decide) rfl (fun ls hl => ?_)
            have tx34 := q_add (p := i.toInt) (q := 1) ex34 rfl (by decide) (by omega) (by omega)
            refine lv_goto (tgt := 5) hx hb dX9_carsOut_37 (by decide) ?_
            exact ih_5 x34 ot (by first | omega | decide | (rw [i32_0]; omega)) (by first | omega | decide | (rw [i32_0]; omega)) (by first | exact co_step hi0 tx34 ho (by omega) (by omega) (by omega) | exact co_skip hi0 tx34 ho (by omega) (by omega)) (by first | omega | decide | (rw [i32_0]; omega)) (by first | omega | decide | (rw [i32_0]; omega)) (by omega) H locs hP hD hS ls (lv_sub hl [0, 1, 2, 3, 4] rfl)
          · skip
            have fc28 := q_nle (a := away.toInt) (b := x26.toInt) c28 rfl rfl
            obtain ⟨x31, ex31⟩ : ∃ y : Int32, y = ot + 1 := ⟨_, rfl⟩
            refine lv_iinc (v := x31) (lv' := [(3, .int x31), (4, .int i), (0, .int days), (1, .int day), (2, .int away)]) hx hb dX9_carsOut_31 hl (k := 1) rfl (by rw [ex31]; rfl) (by decide) rfl (fun ls hl => ?_)
            have tx31 := q_add (p := ot.toInt) (q := 1) ex31 rfl (by decide) (by omega) (by omega)
            obtain ⟨x34, ex34⟩ : ∃ y : Int32, y = i + 1 := ⟨_, rfl⟩
            refine lv_iinc (v := x34) (lv' := [(4, .int x34), (3, .int x31), (0, .int days), (1, .int day), (2, .int away)]) hx hb dX9_carsOut_34 hl (k := 1) rfl (by rw [ex34]; rfl) (by decide) rfl (fun ls hl => ?_)
            have tx34 := q_add (p := i.toInt) (q := 1) ex34 rfl (by decide) (by omega) (by omega)
            refine lv_goto (tgt := 5) hx hb dX9_carsOut_37 (by decide) ?_
            exact ih_5 x34 x31 (by first | omega | decide | (rw [i32_0]; omega)) (by first | omega | decide | (rw [i32_0]; omega)) (by first | exact co_step hi0 tx34 ho (by omega) (by omega) (by omega) | exact co_skip hi0 tx34 ho (by omega) (by omega)) (by first | omega | decide | (rw [i32_0]; omega)) (by first | omega | decide | (rw [i32_0]; omega)) (by omega) H locs hP hD hS ls (lv_sub hl [0, 1, 2, 3, 4] rfl)
  exact lp_5 (30 + 1) 0 0 (by first | omega | decide | (rw [i32_0]; omega) | (rw [i32_m1]; omega)) (by first | omega | decide | (rw [i32_0]; omega) | (rw [i32_m1]; omega)) rfl (by first | omega | decide | (rw [i32_0]; omega) | (rw [i32_m1]; omega)) (by first | omega | decide | (rw [i32_0]; omega) | (rw [i32_m1]; omega)) (by first | omega | exact Nat.lt_succ_self _ | (rw [i32_0]; omega) | (rw [i32_1]; omega)) H locs hP hD hS ls (lv_sub hl [0, 1, 2, 3, 4] rfl)

abbrev Q_c_X9_cars (D : va_G) (cy : Nat → ClassId) (E : EN) (x0 : Nat) (b0 : Nat) (im : Nat) (tp : Nat) (rd : Nat) (r0 : Nat) (u0 : Nat) (t0 : Nat) (l0 : Nat) (q0 : Nat) (of : Nat) (sh : Nat) (nl : Nat) (fc : Nat) (r1 : Nat) (r2 : Nat) (now : Int32) (zs : Int32) (fhr : Nat → Int32) (days : Int32) (rest : Int32) : (Nat → Prop) → Array Value → State → Outcome → State → Prop := QI D cy (fun (r : Int32) (_ : Unit) => (0 ≤ days.toInt ∧ 0 ≤ rest.toInt ∧ rest.toInt ≤ 48 ∧ r.toInt = moF days (2 * ((sumI fhr (zs.toInt - 1).toNat).toInt + rest.toInt)) 30) ∨ (¬ (0 ≤ days.toInt ∧ 0 ≤ rest.toInt ∧ rest.toInt ≤ 48) ∧ r.toInt = -1)) (fun _ : Unit => [Prod.mk x0 (Sum.inr (Prod.mk 9 [Value.ref b0, Value.ref im, Value.ref tp, Value.ref rd])), Prod.mk b0 (Sum.inr (Prod.mk 0 [Value.int now, Value.ref r0, Value.ref u0, Value.ref t0, Value.ref l0, Value.ref q0, Value.ref of, Value.ref sh, Value.ref nl, Value.ref fc])), Prod.mk r0 (Sum.inr (Prod.mk 4 [Value.int zs, Value.ref r1, Value.ref r2])), Prod.mk r2 (Sum.inl (Prod.mk (cy 0) (Prod.mk 9 (Sum.inl fhr))))])
set_option maxHeartbeats 4000000 in
set_option maxRecDepth 100000 in
theorem c_X9_cars (l : Launch) (D : va_G) (cy : Nat → ClassId) (E : EN) (x0 : Nat) (b0 : Nat) (im : Nat) (tp : Nat) (rd : Nat) (r0 : Nat) (u0 : Nat) (t0 : Nat) (l0 : Nat) (q0 : Nat) (of : Nat) (sh : Nat) (nl : Nat) (fc : Nat) (r1 : Nat) (r2 : Nat) (now : Int32) (zs : Int32) (fhr : Nat → Int32) (days : Int32) (rest : Int32) (sz : Nat) (hzs : 2 ≤ zs.toInt ∧ zs.toInt ≤ 10) (hv_fhr : AllI fhr 9 0 24) : Met l yX9_cars wsX9_cars ({ frames := 2, cells := 0, slots := 0, locals := 45 } : Room) (CP D cy E [.ref x0, .int days, .int rest] [Prod.mk x0 (Sum.inr (Prod.mk 9 [Value.ref b0, Value.ref im, Value.ref tp, Value.ref rd])), Prod.mk b0 (Sum.inr (Prod.mk 0 [Value.int now, Value.ref r0, Value.ref u0, Value.ref t0, Value.ref l0, Value.ref q0, Value.ref of, Value.ref sh, Value.ref nl, Value.ref fc])), Prod.mk r0 (Sum.inr (Prod.mk 4 [Value.int zs, Value.ref r1, Value.ref r2])), Prod.mk r2 (Sum.inl (Prod.mk (cy 0) (Prod.mk 9 (Sum.inl fhr))))] sz) (Q_c_X9_cars D cy E x0 b0 im tp rd r0 u0 t0 l0 q0 of sh nl fc r1 r2 now zs fhr days rest (va_A [Prod.mk x0 (Sum.inr (Prod.mk 9 [Value.ref b0, Value.ref im, Value.ref tp, Value.ref rd])), Prod.mk b0 (Sum.inr (Prod.mk 0 [Value.int now, Value.ref r0, Value.ref u0, Value.ref t0, Value.ref l0, Value.ref q0, Value.ref of, Value.ref sh, Value.ref nl, Value.ref fc])), Prod.mk r0 (Sum.inr (Prod.mk 4 [Value.int zs, Value.ref r1, Value.ref r2])), Prod.mk r2 (Sum.inl (Prod.mk (cy 0) (Prod.mk 9 (Sum.inl fhr))))] sz)) 0 0 (va_A [Prod.mk x0 (Sum.inr (Prod.mk 9 [Value.ref b0, Value.ref im, Value.ref tp, Value.ref rd])), Prod.mk b0 (Sum.inr (Prod.mk 0 [Value.int now, Value.ref r0, Value.ref u0, Value.ref t0, Value.ref l0, Value.ref q0, Value.ref of, Value.ref sh, Value.ref nl, Value.ref fc])), Prod.mk r0 (Sum.inr (Prod.mk 4 [Value.int zs, Value.ref r1, Value.ref r2])), Prod.mk r2 (Sum.inl (Prod.mk (cy 0) (Prod.mk 9 (Sum.inl fhr))))] sz) := by
  refine Met.go (Qc := Q_c_X9_cars D cy E x0 b0 im tp rd r0 u0 t0 l0 q0 of sh nl fc r1 r2 now zs fhr days rest) (cc := cX9_cars) (maxL := 6) (ret := (some .int)) (by decide) rfl (Nat.le_of_ble_eq_true rfl) ?_
  intro p e s m below meth c hx hb hr hts hown hlocks hin hml hK hN A hA hAB hD hP hS ls hl hsz
  have hl : lv_has ls 6 [(0, .ref x0), (1, .int days), (2, .int rest)] := hl
  have in_X9 : ∀ w ∈ wsX90, w ∈ wsX9_cars := fun _ h => List.mem_cons_of_mem _ (List.mem_append_left _ (List.mem_append_left _ ((List.mem_append_right _ h))))
  have w_1 := hts (.fieldLink RX9 10 "SleepingCars" "book" "LSleepingCars$Book;") (by decide +kernel)
  have in_X0 : ∀ w ∈ wsX00, w ∈ wsX9_cars := fun _ h => List.mem_cons_of_mem _ (List.mem_append_left _ ((List.mem_append_right _ h)))
  have w_3 := hts (.fieldLink RX9 44 "SleepingCars$Book" "route" "LSleepingCars$Route;") (by decide +kernel)
  have w_4 := hts (.instanceMethod yX4_allHours) (by decide +kernel)
  have w_5 := hts (.methodLink RX9 244 Lib.Math.max.name) (by decide +kernel)
  have w_6 := hts (.static Lib.Math.max.name) (by decide +kernel)
  have w_7 := hts (.initialized "java/lang/Math") (by decide +kernel)
  have w_8 := hts (.code Lib.Math.max.name Lib.Math.max.code 2 (some .int)) (by decide +kernel)
  obtain ⟨H, eH⟩ : ∃ H : Heap, H = s.heap := ⟨_, rfl⟩
  obtain ⟨locs, eL⟩ : ∃ L : List Loc, L = [] := ⟨_, rfl⟩
  rw [← eL]
  rw [← eL] at hS
  have hP : va_P D vwCl [Prod.mk x0 (Sum.inr (Prod.mk 9 [Value.ref b0, Value.ref im, Value.ref tp, Value.ref rd])), Prod.mk b0 (Sum.inr (Prod.mk 0 [Value.int now, Value.ref r0, Value.ref u0, Value.ref t0, Value.ref l0, Value.ref q0, Value.ref of, Value.ref sh, Value.ref nl, Value.ref fc])), Prod.mk r0 (Sum.inr (Prod.mk 4 [Value.int zs, Value.ref r1, Value.ref r2])), Prod.mk r2 (Sum.inl (Prod.mk (cy 0) (Prod.mk 9 (Sum.inl fhr))))] H := by rw [eH]; exact hP
  have hS : va_S A s.heap H locs := by rw [eH]; exact hS
  refine W.heapEq eH ?_
  clear eH eL
  refine lv_iload_n hx hb dX9_cars_0 rfl (lv_at hl 1 rfl) ?_
  refine lv_if_lt (tgt := 14) hx hb dX9_cars_1 (by decide) (fun c1 => ?_) (fun c1 => ?_)
  · skip
    have fc1 := q_lt (a := days.toInt) (b := 0) c1 rfl (by decide)
    refine lv_iconst (v := (-1)) hx hb dX9_cars_14 (by decide) ?_
    exact r_i hx hb hr hlocks hK hS dX9_cars_15 (u := ()) hP hD (by first | exact Or.inl ⟨by omega, by omega, by omega, by rw [hm, show d.toInt.toNat = 30 by omega, tx29, tx28, hrr24]⟩ | exact Or.inr ⟨by omega, by decide⟩)
  · skip
    have fc1 := q_nlt (a := days.toInt) (b := 0) c1 rfl (by decide)
    refine lv_iload_n hx hb dX9_cars_4 rfl (lv_at hl 2 rfl) ?_
    refine lv_if_lt (tgt := 14) hx hb dX9_cars_5 (by decide) (fun c5 => ?_) (fun c5 => ?_)
    · skip
      have fc5 := q_lt (a := rest.toInt) (b := 0) c5 rfl (by decide)
      refine lv_iconst (v := (-1)) hx hb dX9_cars_14 (by decide) ?_
      exact r_i hx hb hr hlocks hK hS dX9_cars_15 (u := ()) hP hD (by first | exact Or.inl ⟨by omega, by omega, by omega, by rw [hm, show d.toInt.toNat = 30 by omega, tx29, tx28, hrr24]⟩ | exact Or.inr ⟨by omega, by decide⟩)
    · skip
      have fc5 := q_nlt (a := rest.toInt) (b := 0) c5 rfl (by decide)
      refine lv_iload_n hx hb dX9_cars_8 rfl (lv_at hl 2 rfl) ?_
      refine lv_bipush (v := 48) hx hb dX9_cars_9 (by decide) ?_
      refine lv_icmp_le (tgt := 16) hx hb dX9_cars_11 (by decide) (fun c11 => ?_) (fun c11 => ?_)
      · skip
        have fc11 := q_le (a := rest.toInt) (b := 48) c11 rfl (by decide)
        refine lv_iconst (v := 2) hx hb dX9_cars_16 (by decide) ?_
        refine lv_aload_n hx hb dX9_cars_17 rfl (lv_at hl 0 rfl) ?_
        refine va_get (D := D) (ci := 9) (v := .ref b0) (C := RX9) (T := TX9) (N := 4) hx hb hts in_X9 hown hK hP 0 rfl rfl 0 (by decide) w_1 (fun _ h9 => h9) rfl dX9_cars_18 ?_
        refine va_get (D := D) (ci := 0) (v := .ref r0) (C := RX0) (T := TX0) (N := 10) hx hb hts in_X0 hown hK hP 1 rfl rfl 1 (by decide) w_3 (fun _ h9 => h9) rfl dX9_cars_21 ?_
        refine k_i (va_runV (As := []) (rest := [.int 2]) ⟨hx, hb, hml, hown, hts⟩ (c_X4_allHours l D cy E r0 r1 r2 zs fhr H.size (by first | omega | decide | (constructor <;> first | omega | decide)) hv_fhr) (cwV 0 hts gX9_cars_X4_allHours rfl rfl rfl (by decide +kernel) ⟨Nat.le_of_ble_eq_true rfl, Nat.le_of_ble_eq_true rfl⟩) (cp_v hK hN hS hAB hP hD [2, 3] rfl (by decide) (ci := 4) rfl rfl rfl) rfl rfl hl.1 rfl (lv_room (Nat.le_of_ble_eq_true rfl)) dX9_cars_24 ⟨Nat.le_of_ble_eq_true rfl, Nat.le_of_ble_eq_true rfl⟩) hP hD hS hA [2, 3] [0, 1] (wr := [Prod.mk x0 (Sum.inr (Prod.mk 9 [Value.ref b0, Value.ref im, Value.ref tp, Value.ref rd])), Prod.mk b0 (Sum.inr (Prod.mk 0 [Value.int now, Value.ref r0, Value.ref u0, Value.ref t0, Value.ref l0, Value.ref q0, Value.ref of, Value.ref sh, Value.ref nl, Value.ref fc]))]) rfl rfl (by decide) (by decide) (fun rr24 u_rr24 H locs hw24 hP hD hS => ?_)
        try dsimp only at hw24
        have hP : va_P D vwCl [Prod.mk x0 (Sum.inr (Prod.mk 9 [Value.ref b0, Value.ref im, Value.ref tp, Value.ref rd])), Prod.mk b0 (Sum.inr (Prod.mk 0 [Value.int now, Value.ref r0, Value.ref u0, Value.ref t0, Value.ref l0, Value.ref q0, Value.ref of, Value.ref sh, Value.ref nl, Value.ref fc])), Prod.mk r0 (Sum.inr (Prod.mk 4 [Value.int zs, Value.ref r1, Value.ref r2])), Prod.mk r2 (Sum.inl (Prod.mk (cy 0) (Prod.mk 9 (Sum.inl fhr))))] H := hP
        have hD : va_D A [Prod.mk x0 (Sum.inr (Prod.mk 9 [Value.ref b0, Value.ref im, Value.ref tp, Value.ref rd])), Prod.mk b0 (Sum.inr (Prod.mk 0 [Value.int now, Value.ref r0, Value.ref u0, Value.ref t0, Value.ref l0, Value.ref q0, Value.ref of, Value.ref sh, Value.ref nl, Value.ref fc])), Prod.mk r0 (Sum.inr (Prod.mk 4 [Value.int zs, Value.ref r1, Value.ref r2])), Prod.mk r2 (Sum.inl (Prod.mk (cy 0) (Prod.mk 9 (Sum.inl fhr))))] := hD
        have hbrr24 := sum_bd hv_fhr (by decide) (show (zs.toInt - 1).toNat ≤ 9 by omega)
        have hrr24 : rr24.toInt = (sumI fhr (zs.toInt - 1).toNat).toInt := by rw [hw24, show min (zs.toInt - 1).toNat 9 = (zs.toInt - 1).toNat by omega]
        refine lv_iload_n hx hb dX9_cars_27 rfl (lv_at hl 2 rfl) ?_
        refine lv_iadd hx hb dX9_cars_28 ?_
        refine lv_topi (fun x28 ex28 => ?_)
        have tx28 := q_add (p := rr24.toInt) (q := rest.toInt) ex28 rfl rfl (by omega) (by omega)
        refine lv_imul hx hb dX9_cars_29 ?_
        refine lv_topi (fun x29 ex29 => ?_)
        have tx29 := q_mul (p := 2) (q := x28.toInt) ex29 (by decide) rfl (by omega) (by omega)
        refine lv_istore_n (lv' := [(3, .int x29), (0, .ref x0), (1, .int days), (2, .int rest)]) hx hb dX9_cars_30 rfl hl (by decide) rfl (fun ls hl => ?_)
        refine lv_iconst (v := 0) hx hb dX9_cars_31 (by decide) ?_
        refine lv_istore (lv' := [(4, .int 0), (3, .int x29), (0, .ref x0), (1, .int days), (2, .int rest)]) hx hb dX9_cars_32 hl (by decide) rfl (fun ls hl => ?_)
        refine lv_iconst (v := 0) hx hb dX9_cars_34 (by decide) ?_
        refine lv_istore (lv' := [(5, .int 0), (4, .int 0), (3, .int x29), (0, .ref x0), (1, .int days), (2, .int rest)]) hx hb dX9_cars_35 hl (by decide) rfl (fun ls hl => ?_)
        have lp_37 : ∀ (n_37 : Nat) (d : Int32) (mo : Int32), (0 ≤ d.toInt) → (d.toInt ≤ 30) → (mo.toInt = moF days x29.toInt d.toInt.toNat) → (30 - d.toInt).toNat < n_37 → ∀ (H : Heap) (locs : List Loc), va_P D vwCl [Prod.mk x0 (Sum.inr (Prod.mk 9 [Value.ref b0, Value.ref im, Value.ref tp, Value.ref rd])), Prod.mk b0 (Sum.inr (Prod.mk 0 [Value.int now, Value.ref r0, Value.ref u0, Value.ref t0, Value.ref l0, Value.ref q0, Value.ref of, Value.ref sh, Value.ref nl, Value.ref fc])), Prod.mk r0 (Sum.inr (Prod.mk 4 [Value.int zs, Value.ref r1, Value.ref r2])), Prod.mk r2 (Sum.inl (Prod.mk (cy 0) (Prod.mk 9 (Sum.inl fhr))))] H → va_D A [Prod.mk x0 (Sum.inr (Prod.mk 9 [Value.ref b0, Value.ref im, Value.ref tp, Value.ref rd])), Prod.mk b0 (Sum.inr (Prod.mk 0 [Value.int now, Value.ref r0, Value.ref u0, Value.ref t0, Value.ref l0, Value.ref q0, Value.ref of, Value.ref sh, Value.ref nl, Value.ref fc])), Prod.mk r0 (Sum.inr (Prod.mk 4 [Value.int zs, Value.ref r1, Value.ref r2])), Prod.mk r2 (Sum.inl (Prod.mk (cy 0) (Prod.mk 9 (Sum.inl fhr))))] → va_S A s.heap H locs → ∀ ls : Array Slot, lv_has ls 6 [(5, .int d), (4, .int mo), (3, .int x29), (0, .ref x0), (1, .int days), (2, .int rest)] → W p l e (headSpec wsX9_cars ({ frames := 2, cells := 0, slots := 0, locals := 45 } : Room)).room s m ([.ref x0, .int days, .int rest] : List Value).toArray below meth c H locs 0 0 (MQ below (Q_c_X9_cars D cy E x0 b0 im tp rd r0 u0 t0 l0 q0 of sh nl fc r1 r2 now zs fhr days rest A) ([.ref x0, .int days, .int rest] : List Value).toArray s 0 0 A) (F0 m 37 ls []) := by
          intro n_37
          induction n_37 with
          | zero => intro d mo hi0 hi1 hm hmu; exact absurd hmu (Nat.not_lt_zero _)
          | succ n_37 ih_37 =>
            intro d mo hi0 hi1 hm hmu_37 H locs hP hD hS ls hl
            refine lv_iload hx hb dX9_cars_37 (lv_at hl 0 rfl) ?_
            refine lv_bipush (v := 30) hx hb dX9_cars_39 (by decide) ?_
            refine lv_icmp_ge (tgt := 73) hx hb dX9_cars_41 (by decide) (fun c41 => ?_) (fun c41 => ?_)
            · skip
              have fc41 := q_le (a := 30) (b := d.toInt) c41 (by decide) rfl
              refine lv_iload hx hb dX9_cars_73 (lv_at hl 1 rfl) ?_
              exact r_i hx hb hr hlocks hK hS dX9_cars_75 (u := ()) hP hD (by first | exact Or.inl ⟨by omega, by omega, by omega, by rw [hm, show d.toInt.toNat = 30 by omega, tx29, tx28, hrr24]⟩ | exact Or.inr ⟨by omega, by decide⟩)
            · skip
              have fc41 := q_nle (a := 30) (b := d.toInt) c41 (by decide) rfl
              refine lv_iload_n hx hb dX9_cars_44 rfl (lv_at hl 4 rfl) ?_
              refine lv_iload hx hb dX9_cars_45 (lv_at hl 0 rfl) ?_
              refine k_i (va_runS (As := [.int days, .int d]) (rest := []) ⟨hx, hb, hml, hown, hts⟩ (c_X9_isInSet l D cy E days d H.size ) (va_cwS 2 hts gX9_cars_X9_isInSet rfl rfl rfl (by decide +kernel) ⟨Nat.le_of_ble_eq_true rfl, Nat.le_of_ble_eq_true rfl⟩) (cp_s hK hN hS hAB hP hD [] rfl (by decide)) rfl rfl hl.1 rfl (lv_room (Nat.le_of_ble_eq_true rfl)) dX9_cars_47 ⟨Nat.le_of_ble_eq_true rfl, Nat.le_of_ble_eq_true rfl⟩) hP hD hS hA [] [0, 1, 2, 3] (wr := [Prod.mk x0 (Sum.inr (Prod.mk 9 [Value.ref b0, Value.ref im, Value.ref tp, Value.ref rd])), Prod.mk b0 (Sum.inr (Prod.mk 0 [Value.int now, Value.ref r0, Value.ref u0, Value.ref t0, Value.ref l0, Value.ref q0, Value.ref of, Value.ref sh, Value.ref nl, Value.ref fc])), Prod.mk r0 (Sum.inr (Prod.mk 4 [Value.int zs, Value.ref r1, Value.ref r2])), Prod.mk r2 (Sum.inl (Prod.mk (cy 0) (Prod.mk 9 (Sum.inl fhr))))]) rfl rfl (by decide) (by decide) (fun rr47 u_rr47 H locs hw47 hP hD hS => ?_)
              try dsimp only at hw47
              have hP : va_P D vwCl [Prod.mk x0 (Sum.inr (Prod.mk 9 [Value.ref b0, Value.ref im, Value.ref tp, Value.ref rd])), Prod.mk b0 (Sum.inr (Prod.mk 0 [Value.int now, Value.ref r0, Value.ref u0, Value.ref t0, Value.ref l0, Value.ref q0, Value.ref of, Value.ref sh, Value.ref nl, Value.ref fc])), Prod.mk r0 (Sum.inr (Prod.mk 4 [Value.int zs, Value.ref r1, Value.ref r2])), Prod.mk r2 (Sum.inl (Prod.mk (cy 0) (Prod.mk 9 (Sum.inl fhr))))] H := hP
              have hD : va_D A [Prod.mk x0 (Sum.inr (Prod.mk 9 [Value.ref b0, Value.ref im, Value.ref tp, Value.ref rd])), Prod.mk b0 (Sum.inr (Prod.mk 0 [Value.int now, Value.ref r0, Value.ref u0, Value.ref t0, Value.ref l0, Value.ref q0, Value.ref of, Value.ref sh, Value.ref nl, Value.ref fc])), Prod.mk r0 (Sum.inr (Prod.mk 4 [Value.int zs, Value.ref r1, Value.ref r2])), Prod.mk r2 (Sum.inl (Prod.mk (cy 0) (Prod.mk 9 (Sum.inl fhr))))] := hD
              refine lv_if_eq (tgt := 67) hx hb dX9_cars_50 (by decide) (fun c50 => ?_) (fun c50 => ?_)
              · skip
                have fc50 := q_eq (a := rr47.toInt) (b := 0) c50 rfl (by decide)
                obtain ⟨x67, ex67⟩ : ∃ y : Int32, y = d + 1 := ⟨_, rfl⟩
                refine lv_iinc (v := x67) (lv' := [(5, .int x67), (4, .int mo), (3, .int x29), (0, .ref x0), (1, .int days), (2, .int rest)]) hx hb dX9_cars_67 hl (k := 0) rfl (by rw [ex67]; rfl) (by decide) rfl (fun ls hl => ?_)
                have tx67 := q_add (p := d.toInt) (q := 1) ex67 rfl (by decide) (by omega) (by omega)
                refine lv_goto (tgt := 37) hx hb dX9_cars_70 (by decide) ?_
                exact ih_37 x67 mo (by first | omega | decide | (rw [i32_0]; omega)) (by first | omega | decide | (rw [i32_0]; omega)) (by first | exact mo_step hi0 tx67 hm (by omega) hw59.1 tx62 | exact mo_skip hi0 tx67 hm (by omega)) (by omega) H locs hP hD hS ls (lv_sub hl [0, 1, 2, 3, 4, 5] rfl)
              · skip
                have fc50 := q_ne (a := rr47.toInt) (b := 0) c50 rfl (by decide)
                refine lv_iload hx hb dX9_cars_53 (lv_at hl 1 rfl) ?_
                refine lv_iload_n hx hb dX9_cars_55 rfl (lv_at hl 4 rfl) ?_
                refine lv_iload hx hb dX9_cars_56 (lv_at hl 0 rfl) ?_
                refine lv_iload_n hx hb dX9_cars_58 rfl (lv_at hl 2 rfl) ?_
                refine k_i (va_runS (As := [.int days, .int d, .int x29]) (rest := [.int mo]) ⟨hx, hb, hml, hown, hts⟩ (c_X9_carsOut l D cy E days d x29 H.size (by first | omega | decide | (constructor <;> first | omega | decide))) (va_cwS 3 hts gX9_cars_X9_carsOut rfl rfl rfl (by decide +kernel) ⟨Nat.le_of_ble_eq_true rfl, Nat.le_of_ble_eq_true rfl⟩) (cp_s hK hN hS hAB hP hD [] rfl (by decide)) rfl rfl hl.1 rfl (lv_room (Nat.le_of_ble_eq_true rfl)) dX9_cars_59 ⟨Nat.le_of_ble_eq_true rfl, Nat.le_of_ble_eq_true rfl⟩) hP hD hS hA [] [0, 1, 2, 3] (wr := [Prod.mk x0 (Sum.inr (Prod.mk 9 [Value.ref b0, Value.ref im, Value.ref tp, Value.ref rd])), Prod.mk b0 (Sum.inr (Prod.mk 0 [Value.int now, Value.ref r0, Value.ref u0, Value.ref t0, Value.ref l0, Value.ref q0, Value.ref of, Value.ref sh, Value.ref nl, Value.ref fc])), Prod.mk r0 (Sum.inr (Prod.mk 4 [Value.int zs, Value.ref r1, Value.ref r2])), Prod.mk r2 (Sum.inl (Prod.mk (cy 0) (Prod.mk 9 (Sum.inl fhr))))]) rfl rfl (by decide) (by decide) (fun rr59 u_rr59 H locs hw59 hP hD hS => ?_)
                try dsimp only at hw59
                have hP : va_P D vwCl [Prod.mk x0 (Sum.inr (Prod.mk 9 [Value.ref b0, Value.ref im, Value.ref tp, Value.ref rd])), Prod.mk b0 (Sum.inr (Prod.mk 0 [Value.int now, Value.ref r0, Value.ref u0, Value.ref t0, Value.ref l0, Value.ref q0, Value.ref of, Value.ref sh, Value.ref nl, Value.ref fc])), Prod.mk r0 (Sum.inr (Prod.mk 4 [Value.int zs, Value.ref r1, Value.ref r2])), Prod.mk r2 (Sum.inl (Prod.mk (cy 0) (Prod.mk 9 (Sum.inl fhr))))] H := hP
                have hD : va_D A [Prod.mk x0 (Sum.inr (Prod.mk 9 [Value.ref b0, Value.ref im, Value.ref tp, Value.ref rd])), Prod.mk b0 (Sum.inr (Prod.mk 0 [Value.int now, Value.ref r0, Value.ref u0, Value.ref t0, Value.ref l0, Value.ref q0, Value.ref of, Value.ref sh, Value.ref nl, Value.ref fc])), Prod.mk r0 (Sum.inr (Prod.mk 4 [Value.int zs, Value.ref r1, Value.ref r2])), Prod.mk r2 (Sum.inl (Prod.mk (cy 0) (Prod.mk 9 (Sum.inl fhr))))] := hD
                refine va_mmax hx hb (hml.trans hl.1.symm) hown w_5 w_6 w_7 w_8 (Nat.le_of_ble_eq_true rfl) (Nat.le_of_ble_eq_true rfl) (Nat.le_of_ble_eq_true rfl) (Nat.le_of_ble_eq_true rfl) dX9_cars_62 ?_
                refine lv_topi (fun x62 ex62 => ?_)
                have tx62 := q_max ex62
                refine lv_istore (lv' := [(4, .int x62), (5, .int d), (3, .int x29), (0, .ref x0), (1, .int days), (2, .int rest)]) hx hb dX9_cars_65 hl (by decide) rfl (fun ls hl => ?_)
                obtain ⟨x67, ex67⟩ : ∃ y : Int32, y = d + 1 := ⟨_, rfl⟩
                refine lv_iinc (v := x67) (lv' := [(5, .int x67), (4, .int x62), (3, .int x29), (0, .ref x0), (1, .int days), (2, .int rest)]) hx hb dX9_cars_67 hl (k := 1) rfl (by rw [ex67]; rfl) (by decide) rfl (fun ls hl => ?_)
                have tx67 := q_add (p := d.toInt) (q := 1) ex67 rfl (by decide) (by omega) (by omega)
                refine lv_goto (tgt := 37) hx hb dX9_cars_70 (by decide) ?_
                exact ih_37 x67 x62 (by first | omega | decide | (rw [i32_0]; omega)) (by first | omega | decide | (rw [i32_0]; omega)) (by first | exact mo_step hi0 tx67 hm (by omega) hw59.1 tx62 | exact mo_skip hi0 tx67 hm (by omega)) (by omega) H locs hP hD hS ls (lv_sub hl [0, 1, 2, 3, 4, 5] rfl)
        exact lp_37 (30 + 1) 0 0 (by first | omega | decide | (rw [i32_0]; omega) | (rw [i32_m1]; omega)) (by first | omega | decide | (rw [i32_0]; omega) | (rw [i32_m1]; omega)) rfl (by first | omega | exact Nat.lt_succ_self _ | (rw [i32_0]; omega) | (rw [i32_1]; omega)) H locs hP hD hS ls (lv_sub hl [0, 1, 2, 3, 4, 5] rfl)
      · skip
        have fc11 := q_nle (a := rest.toInt) (b := 48) c11 rfl (by decide)
        refine lv_iconst (v := (-1)) hx hb dX9_cars_14 (by decide) ?_
        exact r_i hx hb hr hlocks hK hS dX9_cars_15 (u := ()) hP hD (by first | exact Or.inl ⟨by omega, by omega, by omega, by rw [hm, show d.toInt.toNat = 30 by omega, tx29, tx28, hrr24]⟩ | exact Or.inr ⟨by omega, by decide⟩)
