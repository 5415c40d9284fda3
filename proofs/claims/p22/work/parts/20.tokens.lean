abbrev Q_c_X8_isIn (D : va_G) (cy : Nat → ClassId) (E : EN) (v : Int32) (lo : Int32) (hi_ : Int32) (a : Int) (b : Int) : (Nat → Prop) → Array Value → State → Outcome → State → Prop := QI D cy (fun (r : Int32) (_ : Unit) => (r.toInt = 1 ∧ (a ≤ v.toInt ∧ v.toInt ≤ b)) ∨ (r.toInt = 0 ∧ ¬ (a ≤ v.toInt ∧ v.toInt ≤ b))) (fun _ : Unit => [])
set_option maxHeartbeats 4000000 in
set_option maxRecDepth 100000 in
theorem c_X8_isIn (l : Launch) (D : va_G) (cy : Nat → ClassId) (E : EN) (v : Int32) (lo : Int32) (hi_ : Int32) (a : Int) (b : Int) (sz : Nat) (ha : lo.toInt = a) (hb9 : hi_.toInt = b) : Met l yX8_isIn wsX8_isIn ({ frames := 0, cells := 0, slots := 0, locals := 0 } : Room) (CP D cy E [.int v, .int lo, .int hi_] [] sz) (Q_c_X8_isIn D cy E v lo hi_ a b (va_A [] sz)) 0 0 (va_A [] sz) := by
  refine Met.go (Qc := Q_c_X8_isIn D cy E v lo hi_ a b) (cc := cX8_isIn) (maxL := 3) (ret := (some .boolean)) (by decide) rfl (Nat.le_of_ble_eq_true rfl) ?_
  intro p e s m below meth c hx hb hr hts hown hlocks hin hml hK hN A hA hAB hD hP hS ls hl hsz
  have hl : lv_has ls 3 [(0, .int v), (1, .int lo), (2, .int hi_)] := hl
  obtain ⟨H, eH⟩ : ∃ H : Heap, H = s.heap := ⟨_, rfl⟩
  obtain ⟨locs, eL⟩ : ∃ L : List Loc, L = [] := ⟨_, rfl⟩
  rw [← eL]
  rw [← eL] at hS
  have hP : va_P D vwCl [] H := by rw [eH]; exact hP
  have hS : va_S A s.heap H locs := by rw [eH]; exact hS
  refine W.heapEq eH ?_
  clear eH eL
  refine lv_iload_n hx hb dX8_isIn_0 rfl (lv_at hl 0 rfl) ?_
  refine lv_iload_n hx hb dX8_isIn_1 rfl (lv_at hl 1 rfl) ?_
  refine lv_icmp_lt (tgt := 14) hx hb dX8_isIn_2 (by decide) (fun c2 => ?_) (fun c2 => ?_)
  · skip
    have fc2 := q_lt (a := v.toInt) (b := lo.toInt) c2 rfl rfl
    refine lv_iconst (v := 0) hx hb dX8_isIn_14 (by decide) ?_
    exact r_z hx hb hr hlocks hK hS dX8_isIn_15 (by decide) (u := ()) hP hD (by first | exact Or.inl ⟨by decide, by omega⟩ | exact Or.inr ⟨by decide, by omega⟩)
  · skip
    have fc2 := q_nlt (a := v.toInt) (b := lo.toInt) c2 rfl rfl
    refine lv_iload_n hx hb dX8_isIn_5 rfl (lv_at hl 0 rfl) ?_
    refine lv_iload_n hx hb dX8_isIn_6 rfl (lv_at hl 2 rfl) ?_
    refine lv_icmp_gt (tgt := 14) hx hb dX8_isIn_7 (by decide) (fun c7 => ?_) (fun c7 => ?_)
    · skip
      have fc7 := q_lt (a := hi_.toInt) (b := v.toInt) c7 rfl rfl
      refine lv_iconst (v := 0) hx hb dX8_isIn_14 (by decide) ?_
      exact r_z hx hb hr hlocks hK hS dX8_isIn_15 (by decide) (u := ()) hP hD (by first | exact Or.inl ⟨by decide, by omega⟩ | exact Or.inr ⟨by decide, by omega⟩)
    · skip
      have fc7 := q_nlt (a := hi_.toInt) (b := v.toInt) c7 rfl rfl
      refine lv_iconst (v := 1) hx hb dX8_isIn_10 (by decide) ?_
      refine lv_goto (tgt := 15) hx hb dX8_isIn_11 (by decide) ?_
      exact r_z hx hb hr hlocks hK hS dX8_isIn_15 (by decide) (u := ()) hP hD (by first | exact Or.inl ⟨by decide, by omega⟩ | exact Or.inr ⟨by decide, by omega⟩)

abbrev Q_c_X8_rowLength (D : va_G) (cy : Nat → ClassId) (E : EN) (tp : Nat) (tb : Nat) (ztp : Int32) (ftb : Nat → Int32) (at_ : Int32) (lo : Int32) (hi_ : Int32) : (Nat → Prop) → Array Value → State → Outcome → State → Prop := QI D cy (fun (r : Int32) (_ : Unit) => 0 ≤ r.toInt ∧ at_.toInt + r.toInt ≤ ztp.toInt) (fun _ : Unit => [Prod.mk tp (Sum.inr (Prod.mk 6 [Value.int ztp, Value.ref tb])), Prod.mk tb (Sum.inl (Prod.mk (cy 0) (Prod.mk 400 (Sum.inl ftb))))])
set_option maxHeartbeats 4000000 in
set_option maxRecDepth 100000 in
theorem c_X8_rowLength (l : Launch) (D : va_G) (cy : Nat → ClassId) (E : EN) (tp : Nat) (tb : Nat) (ztp : Int32) (ftb : Nat → Int32) (at_ : Int32) (lo : Int32) (hi_ : Int32) (sz : Nat) (hat : 0 ≤ at_.toInt ∧ at_.toInt < ztp.toInt ∧ ztp.toInt ≤ 400) : Met l yX8_rowLength wsX8_rowLength ({ frames := 1, cells := 0, slots := 0, locals := 22 } : Room) (CP D cy E [.ref tp, .int at_, .int lo, .int hi_] [Prod.mk tp (Sum.inr (Prod.mk 6 [Value.int ztp, Value.ref tb])), Prod.mk tb (Sum.inl (Prod.mk (cy 0) (Prod.mk 400 (Sum.inl ftb))))] sz) (Q_c_X8_rowLength D cy E tp tb ztp ftb at_ lo hi_ (va_A [Prod.mk tp (Sum.inr (Prod.mk 6 [Value.int ztp, Value.ref tb])), Prod.mk tb (Sum.inl (Prod.mk (cy 0) (Prod.mk 400 (Sum.inl ftb))))] sz)) 0 0 (va_A [Prod.mk tp (Sum.inr (Prod.mk 6 [Value.int ztp, Value.ref tb])), Prod.mk tb (Sum.inl (Prod.mk (cy 0) (Prod.mk 400 (Sum.inl ftb))))] sz) := by
  refine Met.go (Qc := Q_c_X8_rowLength D cy E tp tb ztp ftb at_ lo hi_) (cc := cX8_rowLength) (maxL := 5) (ret := (some .int)) (by decide) rfl (Nat.le_of_ble_eq_true rfl) ?_
  intro p e s m below meth c hx hb hr hts hown hlocks hin hml hK hN A hA hAB hD hP hS ls hl hsz
  have hl : lv_has ls 5 [(0, .ref tp), (1, .int at_), (2, .int lo), (3, .int hi_)] := hl
  have in_X6 : ∀ w ∈ wsX60, w ∈ wsX8_rowLength := fun _ h => List.mem_cons_of_mem _ ((List.mem_append_right _ h))
  have w_1 := hts (.fieldLink RX8 25 "SleepingCars$Tape" "size" "I") (by decide +kernel)
  have w_2 := hts (.fieldLink RX8 42 "SleepingCars$Tape" "bytes" "[I") (by decide +kernel)
  obtain ⟨H, eH⟩ : ∃ H : Heap, H = s.heap := ⟨_, rfl⟩
  obtain ⟨locs, eL⟩ : ∃ L : List Loc, L = [] := ⟨_, rfl⟩
  rw [← eL]
  rw [← eL] at hS
  have hP : va_P D vwCl [Prod.mk tp (Sum.inr (Prod.mk 6 [Value.int ztp, Value.ref tb])), Prod.mk tb (Sum.inl (Prod.mk (cy 0) (Prod.mk 400 (Sum.inl ftb))))] H := by rw [eH]; exact hP
  have hS : va_S A s.heap H locs := by rw [eH]; exact hS
  refine W.heapEq eH ?_
  clear eH eL
  refine lv_iload_n hx hb dX8_rowLength_0 rfl (lv_at hl 1 rfl) ?_
  refine lv_istore (lv' := [(4, .int at_), (0, .ref tp), (1, .int at_), (2, .int lo), (3, .int hi_)]) hx hb dX8_rowLength_1 hl (by decide) rfl (fun ls hl => ?_)
  have lp_3 : ∀ (n_3 : Nat) (bh : Int32), (at_.toInt ≤ bh.toInt ∧ bh.toInt ≤ ztp.toInt) → (400 - bh.toInt).toNat < n_3 → ∀ (H : Heap) (locs : List Loc), va_P D vwCl [Prod.mk tp (Sum.inr (Prod.mk 6 [Value.int ztp, Value.ref tb])), Prod.mk tb (Sum.inl (Prod.mk (cy 0) (Prod.mk 400 (Sum.inl ftb))))] H → va_D A [Prod.mk tp (Sum.inr (Prod.mk 6 [Value.int ztp, Value.ref tb])), Prod.mk tb (Sum.inl (Prod.mk (cy 0) (Prod.mk 400 (Sum.inl ftb))))] → va_S A s.heap H locs → ∀ ls : Array Slot, lv_has ls 5 [(4, .int bh), (0, .ref tp), (1, .int at_), (2, .int lo), (3, .int hi_)] → W p l e (headSpec wsX8_rowLength ({ frames := 1, cells := 0, slots := 0, locals := 22 } : Room)).room s m ([.ref tp, .int at_, .int lo, .int hi_] : List Value).toArray below meth c H locs 0 0 (MQ below (Q_c_X8_rowLength D cy E tp tb ztp ftb at_ lo hi_ A) ([.ref tp, .int at_, .int lo, .int hi_] : List Value).toArray s 0 0 A) (F0 m 3 ls []) := by
    intro n_3
    induction n_3 with
    | zero => intro bh hbh hmu; exact absurd hmu (Nat.not_lt_zero _)
    | succ n_3 ih_3 =>
      intro bh hbh hmu_3 H locs hP hD hS ls hl
      refine lv_iload hx hb dX8_rowLength_3 (lv_at hl 0 rfl) ?_
      refine lv_aload_n hx hb dX8_rowLength_5 rfl (lv_at hl 1 rfl) ?_
      refine va_get (D := D) (ci := 6) (v := .int ztp) (C := RX6) (T := TX6) (N := 2) hx hb hts in_X6 hown hK hP 0 rfl rfl 0 (by decide) w_1 (fun _ h9 => h9) rfl dX8_rowLength_6 ?_
      refine lv_icmp_ge (tgt := 33) hx hb dX8_rowLength_9 (by decide) (fun c9 => ?_) (fun c9 => ?_)
      · skip
        have fc9 := q_le (a := ztp.toInt) (b := bh.toInt) c9 rfl rfl
        refine lv_iload hx hb dX8_rowLength_33 (lv_at hl 0 rfl) ?_
        refine lv_iload_n hx hb dX8_rowLength_35 rfl (lv_at hl 2 rfl) ?_
        refine lv_isub hx hb dX8_rowLength_36 ?_
        refine lv_topi (fun x36 ex36 => ?_)
        have tx36 := q_sub (p := bh.toInt) (q := at_.toInt) ex36 rfl rfl (by omega) (by omega)
        exact r_i hx hb hr hlocks hK hS dX8_rowLength_37 (u := ()) hP hD (by omega)
      · skip
        have fc9 := q_nle (a := ztp.toInt) (b := bh.toInt) c9 rfl rfl
        refine lv_aload_n hx hb dX8_rowLength_12 rfl (lv_at hl 1 rfl) ?_
        refine va_get (D := D) (ci := 6) (v := .ref tb) (C := RX6) (T := TX6) (N := 2) hx hb hts in_X6 hown hK hP 0 rfl rfl 1 (by decide) w_2 (fun _ h9 => h9) rfl dX8_rowLength_13 ?_
        refine lv_iload hx hb dX8_rowLength_16 (lv_at hl 0 rfl) ?_
        refine va_iald hx hb hK hP 1 0 rfl rfl (q_in (a := bh.toInt) rfl (by omega) (by omega)) dX8_rowLength_18 ?_
        refine lv_topi (fun x18 ex18 => ?_)
        have tx18 := congrArg Int32.toInt ex18
        refine lv_iload_n hx hb dX8_rowLength_19 rfl (lv_at hl 3 rfl) ?_
        refine lv_iload_n hx hb dX8_rowLength_20 rfl (lv_at hl 4 rfl) ?_
        refine k_i (va_runS (As := [.int x18, .int lo, .int hi_]) (rest := []) ⟨hx, hb, hml, hown, hts⟩ (c_X8_isIn l D cy E x18 lo hi_ lo.toInt hi_.toInt H.size rfl rfl) (va_cwS 3 hts gX8_rowLength_X8_isIn rfl rfl rfl (by decide +kernel) ⟨Nat.le_of_ble_eq_true rfl, Nat.le_of_ble_eq_true rfl⟩) (cp_s hK hN hS hAB hP hD [] rfl (by decide)) rfl rfl hl.1 rfl (lv_room (Nat.le_of_ble_eq_true rfl)) dX8_rowLength_21 ⟨Nat.le_of_ble_eq_true rfl, Nat.le_of_ble_eq_true rfl⟩) hP hD hS hA [] [0, 1] (wr := [Prod.mk tp (Sum.inr (Prod.mk 6 [Value.int ztp, Value.ref tb])), Prod.mk tb (Sum.inl (Prod.mk (cy 0) (Prod.mk 400 (Sum.inl ftb))))]) rfl rfl (by decide) (by decide) (fun rr21 u_rr21 H locs hw21 hP hD hS => ?_)
        try dsimp only at hw21
        have hP : va_P D vwCl [Prod.mk tp (Sum.inr (Prod.mk 6 [Value.int ztp, Value.ref tb])), Prod.mk tb (Sum.inl (Prod.mk (cy 0) (Prod.mk 400 (Sum.inl ftb))))] H := hP
        have hD : va_D A [Prod.mk tp (Sum.inr (Prod.mk 6 [Value.int ztp, Value.ref tb])), Prod.mk tb (Sum.inl (Prod.mk (cy 0) (Prod.mk 400 (Sum.inl ftb))))] := hD
        refine lv_if_eq (tgt := 33) hx hb dX8_rowLength_24 (by decide) (fun c24 => ?_) (fun c24 => ?_)
        · skip
          have fc24 := q_eq (a := rr21.toInt) (b := 0) c24 rfl (by decide)
          refine lv_iload hx hb dX8_rowLength_33 (lv_at hl 0 rfl) ?_
          refine lv_iload_n hx hb dX8_rowLength_35 rfl (lv_at hl 2 rfl) ?_
          refine lv_isub hx hb dX8_rowLength_36 ?_
          refine lv_topi (fun x36 ex36 => ?_)
          have tx36 := q_sub (p := bh.toInt) (q := at_.toInt) ex36 rfl rfl (by omega) (by omega)
          exact r_i hx hb hr hlocks hK hS dX8_rowLength_37 (u := ()) hP hD (by omega)
        · skip
          have fc24 := q_ne (a := rr21.toInt) (b := 0) c24 rfl (by decide)
          obtain ⟨x27, ex27⟩ : ∃ y : Int32, y = bh + 1 := ⟨_, rfl⟩
          refine lv_iinc (v := x27) (lv' := [(4, .int x27), (0, .ref tp), (1, .int at_), (2, .int lo), (3, .int hi_)]) hx hb dX8_rowLength_27 hl (k := 0) rfl (by rw [ex27]; rfl) (by decide) rfl (fun ls hl => ?_)
          have tx27 := q_add (p := bh.toInt) (q := 1) ex27 rfl (by decide) (by omega) (by omega)
          refine lv_goto (tgt := 3) hx hb dX8_rowLength_30 (by decide) ?_
          exact ih_3 x27 (by first | omega | decide | (rw [i32_0]; omega)) (by omega) H locs hP hD hS ls (lv_sub hl [0, 1, 2, 3, 4] rfl)
  exact lp_3 ((400 - (at_ : Int32).toInt).toNat + 1) at_ (by first | omega | decide | (rw [i32_0]; omega) | (rw [i32_m1]; omega)) (by first | omega | exact Nat.lt_succ_self _ | (rw [i32_0]; omega) | (rw [i32_1]; omega)) H locs hP hD hS ls (lv_sub hl [0, 1, 2, 3, 4] rfl)

abbrev Q_c_X8_numberOf (D : va_G) (cy : Nat → ClassId) (E : EN) (tp : Nat) (tb : Nat) (ztp : Int32) (ftb : Nat → Int32) (at_ : Int32) (ln : Int32) : (Nat → Prop) → Array Value → State → Outcome → State → Prop := QI D cy (fun (r : Int32) (_ : Unit) => True) (fun _ : Unit => [Prod.mk tp (Sum.inr (Prod.mk 6 [Value.int ztp, Value.ref tb])), Prod.mk tb (Sum.inl (Prod.mk (cy 0) (Prod.mk 400 (Sum.inl ftb))))])
set_option maxHeartbeats 4000000 in
set_option maxRecDepth 100000 in
theorem c_X8_numberOf (l : Launch) (D : va_G) (cy : Nat → ClassId) (E : EN) (tp : Nat) (tb : Nat) (ztp : Int32) (ftb : Nat → Int32) (at_ : Int32) (ln : Int32) (sz : Nat) (hln : 0 ≤ at_.toInt ∧ 0 ≤ ln.toInt ∧ at_.toInt + ln.toInt ≤ ztp.toInt ∧ ztp.toInt ≤ 400) : Met l yX8_numberOf wsX8_numberOf ({ frames := 0, cells := 0, slots := 0, locals := 0 } : Room) (CP D cy E [.ref tp, .int at_, .int ln] [Prod.mk tp (Sum.inr (Prod.mk 6 [Value.int ztp, Value.ref tb])), Prod.mk tb (Sum.inl (Prod.mk (cy 0) (Prod.mk 400 (Sum.inl ftb))))] sz) (Q_c_X8_numberOf D cy E tp tb ztp ftb at_ ln (va_A [Prod.mk tp (Sum.inr (Prod.mk 6 [Value.int ztp, Value.ref tb])), Prod.mk tb (Sum.inl (Prod.mk (cy 0) (Prod.mk 400 (Sum.inl ftb))))] sz)) 0 0 (va_A [Prod.mk tp (Sum.inr (Prod.mk 6 [Value.int ztp, Value.ref tb])), Prod.mk tb (Sum.inl (Prod.mk (cy 0) (Prod.mk 400 (Sum.inl ftb))))] sz) := by
  refine Met.go (Qc := Q_c_X8_numberOf D cy E tp tb ztp ftb at_ ln) (cc := cX8_numberOf) (maxL := 5) (ret := (some .int)) (by decide) rfl (Nat.le_of_ble_eq_true rfl) ?_
  intro p e s m below meth c hx hb hr hts hown hlocks hin hml hK hN A hA hAB hD hP hS ls hl hsz
  have hl : lv_has ls 5 [(0, .ref tp), (1, .int at_), (2, .int ln)] := hl
  have in_X6 : ∀ w ∈ wsX60, w ∈ wsX8_numberOf := fun _ h => List.mem_cons_of_mem _ ((List.mem_append_right _ h))
  have w_1 := hts (.fieldLink RX8 42 "SleepingCars$Tape" "bytes" "[I") (by decide +kernel)
  obtain ⟨H, eH⟩ : ∃ H : Heap, H = s.heap := ⟨_, rfl⟩
  obtain ⟨locs, eL⟩ : ∃ L : List Loc, L = [] := ⟨_, rfl⟩
  rw [← eL]
  rw [← eL] at hS
  have hP : va_P D vwCl [Prod.mk tp (Sum.inr (Prod.mk 6 [Value.int ztp, Value.ref tb])), Prod.mk tb (Sum.inl (Prod.mk (cy 0) (Prod.mk 400 (Sum.inl ftb))))] H := by rw [eH]; exact hP
  have hS : va_S A s.heap H locs := by rw [eH]; exact hS
  refine W.heapEq eH ?_
  clear eH eL
  refine lv_iconst (v := 0) hx hb dX8_numberOf_0 (by decide) ?_
  refine lv_istore_n (lv' := [(3, .int 0), (0, .ref tp), (1, .int at_), (2, .int ln)]) hx hb dX8_numberOf_1 rfl hl (by decide) rfl (fun ls hl => ?_)
  refine lv_iload_n hx hb dX8_numberOf_2 rfl (lv_at hl 2 rfl) ?_
  refine lv_istore (lv' := [(4, .int at_), (3, .int 0), (0, .ref tp), (1, .int at_), (2, .int ln)]) hx hb dX8_numberOf_3 hl (by decide) rfl (fun ls hl => ?_)
  have lp_5 : ∀ (n_5 : Nat) (j : Int32) (nu : Int32), (at_.toInt ≤ j.toInt) → (400 - j.toInt).toNat < n_5 → ∀ (H : Heap) (locs : List Loc), va_P D vwCl [Prod.mk tp (Sum.inr (Prod.mk 6 [Value.int ztp, Value.ref tb])), Prod.mk tb (Sum.inl (Prod.mk (cy 0) (Prod.mk 400 (Sum.inl ftb))))] H → va_D A [Prod.mk tp (Sum.inr (Prod.mk 6 [Value.int ztp, Value.ref tb])), Prod.mk tb (Sum.inl (Prod.mk (cy 0) (Prod.mk 400 (Sum.inl ftb))))] → va_S A s.heap H locs → ∀ ls : Array Slot, lv_has ls 5 [(4, .int j), (3, .int nu), (0, .ref tp), (1, .int at_), (2, .int ln)] → W p l e (headSpec wsX8_numberOf ({ frames := 0, cells := 0, slots := 0, locals := 0 } : Room)).room s m ([.ref tp, .int at_, .int ln] : List Value).toArray below meth c H locs 0 0 (MQ below (Q_c_X8_numberOf D cy E tp tb ztp ftb at_ ln A) ([.ref tp, .int at_, .int ln] : List Value).toArray s 0 0 A) (F0 m 5 ls []) := by
    intro n_5
    induction n_5 with
    | zero => intro j nu hj hmu; exact absurd hmu (Nat.not_lt_zero _)
    | succ n_5 ih_5 =>
      intro j nu hj hmu_5 H locs hP hD hS ls hl
      refine lv_iload hx hb dX8_numberOf_5 (lv_at hl 0 rfl) ?_
      refine lv_iload_n hx hb dX8_numberOf_7 rfl (lv_at hl 3 rfl) ?_
      refine lv_iload_n hx hb dX8_numberOf_8 rfl (lv_at hl 4 rfl) ?_
      refine lv_iadd hx hb dX8_numberOf_9 ?_
      refine lv_topi (fun x9 ex9 => ?_)
      have tx9 := q_add (p := at_.toInt) (q := ln.toInt) ex9 rfl rfl (by omega) (by omega)
      refine lv_icmp_ge (tgt := 43) hx hb dX8_numberOf_10 (by decide) (fun c10 => ?_) (fun c10 => ?_)
      · skip
        have fc10 := q_le (a := x9.toInt) (b := j.toInt) c10 rfl rfl
        refine lv_iload_n hx hb dX8_numberOf_43 rfl (lv_at hl 1 rfl) ?_
        exact r_i hx hb hr hlocks hK hS dX8_numberOf_44 (u := ()) hP hD (trivial)
      · skip
        have fc10 := q_nle (a := x9.toInt) (b := j.toInt) c10 rfl rfl
        refine lv_iload hx hb dX8_numberOf_13 (lv_at hl 0 rfl) ?_
        refine lv_iload_n hx hb dX8_numberOf_15 rfl (lv_at hl 3 rfl) ?_
        refine lv_iconst (v := 4) hx hb dX8_numberOf_16 (by decide) ?_
        refine lv_iadd hx hb dX8_numberOf_17 ?_
        refine lv_topi (fun x17 ex17 => ?_)
        have tx17 := q_add (p := at_.toInt) (q := 4) ex17 rfl (by decide) (by omega) (by omega)
        refine lv_icmp_ge (tgt := 43) hx hb dX8_numberOf_18 (by decide) (fun c18 => ?_) (fun c18 => ?_)
        · skip
          have fc18 := q_le (a := x17.toInt) (b := j.toInt) c18 rfl rfl
          refine lv_iload_n hx hb dX8_numberOf_43 rfl (lv_at hl 1 rfl) ?_
          exact r_i hx hb hr hlocks hK hS dX8_numberOf_44 (u := ()) hP hD (trivial)
        · skip
          have fc18 := q_nle (a := x17.toInt) (b := j.toInt) c18 rfl rfl
          refine lv_bipush (v := 10) hx hb dX8_numberOf_21 (by decide) ?_
          refine lv_iload_n hx hb dX8_numberOf_23 rfl (lv_at hl 1 rfl) ?_
          refine lv_imul hx hb dX8_numberOf_24 ?_
          refine lv_topi (fun x24 ex24 => ?_)
          refine lv_aload_n hx hb dX8_numberOf_25 rfl (lv_at hl 2 rfl) ?_
          refine va_get (D := D) (ci := 6) (v := .ref tb) (C := RX6) (T := TX6) (N := 2) hx hb hts in_X6 hown hK hP 0 rfl rfl 1 (by decide) w_1 (fun _ h9 => h9) rfl dX8_numberOf_26 ?_
          refine lv_iload hx hb dX8_numberOf_29 (lv_at hl 0 rfl) ?_
          refine va_iald hx hb hK hP 1 0 rfl rfl (q_in (a := j.toInt) rfl (by omega) (by omega)) dX8_numberOf_31 ?_
          refine lv_topi (fun x31 ex31 => ?_)
          have tx31 := congrArg Int32.toInt ex31
          refine lv_iadd hx hb dX8_numberOf_32 ?_
          refine lv_topi (fun x32 ex32 => ?_)
          refine lv_bipush (v := 48) hx hb dX8_numberOf_33 (by decide) ?_
          refine lv_isub hx hb dX8_numberOf_35 ?_
          refine lv_topi (fun x35 ex35 => ?_)
          refine lv_istore_n (lv' := [(3, .int x35), (4, .int j), (0, .ref tp), (1, .int at_), (2, .int ln)]) hx hb dX8_numberOf_36 rfl hl (by decide) rfl (fun ls hl => ?_)
          obtain ⟨x37, ex37⟩ : ∃ y : Int32, y = j + 1 := ⟨_, rfl⟩
          refine lv_iinc (v := x37) (lv' := [(4, .int x37), (3, .int x35), (0, .ref tp), (1, .int at_), (2, .int ln)]) hx hb dX8_numberOf_37 hl (k := 1) rfl (by rw [ex37]; rfl) (by decide) rfl (fun ls hl => ?_)
          have tx37 := q_add (p := j.toInt) (q := 1) ex37 rfl (by decide) (by omega) (by omega)
          refine lv_goto (tgt := 5) hx hb dX8_numberOf_40 (by decide) ?_
          exact ih_5 x37 x35 (by first | omega | decide | (rw [i32_0]; omega)) (by omega) H locs hP hD hS ls (lv_sub hl [0, 1, 2, 3, 4] rfl)
  exact lp_5 ((400 - (at_ : Int32).toInt).toNat + 1) at_ 0 (by first | omega | decide | (rw [i32_0]; omega) | (rw [i32_m1]; omega)) (by first | omega | exact Nat.lt_succ_self _ | (rw [i32_0]; omega) | (rw [i32_1]; omega)) H locs hP hD hS ls (lv_sub hl [0, 1, 2, 3, 4] rfl)

abbrev Q_c_X8_signKind (D : va_G) (cy : Nat → ClassId) (E : EN) (v : Int32) : (Nat → Prop) → Array Value → State → Outcome → State → Prop := QI D cy (fun (r : Int32) (_ : Unit) => True) (fun _ : Unit => [])
set_option maxHeartbeats 4000000 in
set_option maxRecDepth 100000 in
theorem c_X8_signKind (l : Launch) (D : va_G) (cy : Nat → ClassId) (E : EN) (v : Int32) (sz : Nat)  : Met l yX8_signKind wsX8_signKind ({ frames := 0, cells := 0, slots := 0, locals := 0 } : Room) (CP D cy E [.int v] [] sz) (Q_c_X8_signKind D cy E v (va_A [] sz)) 0 0 (va_A [] sz) := by
  refine Met.go (Qc := Q_c_X8_signKind D cy E v) (cc := cX8_signKind) (maxL := 1) (ret := (some .int)) (by decide) rfl (Nat.le_of_ble_eq_true rfl) ?_
  intro p e s m below meth c hx hb hr hts hown hlocks hin hml hK hN A hA hAB hD hP hS ls hl hsz
  have hl : lv_has ls 1 [(0, .int v)] := hl
  obtain ⟨H, eH⟩ : ∃ H : Heap, H = s.heap := ⟨_, rfl⟩
  obtain ⟨locs, eL⟩ : ∃ L : List Loc, L = [] := ⟨_, rfl⟩
  rw [← eL]
  rw [← eL] at hS
  have hP : va_P D vwCl [] H := by rw [eH]; exact hP
  have hS : va_S A s.heap H locs := by rw [eH]; exact hS
  refine W.heapEq eH ?_
  clear eH eL
  refine lv_iload_n hx hb dX8_signKind_0 rfl (lv_at hl 0 rfl) ?_
  by_cases c1 : v.toInt < 58 ∨ 62 < v.toInt
  · refine lv_tableOut (tgt := 51) hx hb dX8_signKind_1 c1 (by decide) ?_
    refine lv_bipush (v := 19) hx hb dX8_signKind_51 (by decide) ?_
    exact r_i hx hb hr hlocks hK hS dX8_signKind_53 (u := ()) hP hD (trivial)
  · have zc1 : v.toInt = 58 ∨ v.toInt = 59 ∨ v.toInt = 60 ∨ v.toInt = 61 ∨ v.toInt = 62 := by omega
    rcases zc1 with zc1 | zc1 | zc1 | zc1 | zc1
    · refine lv_tableIn (tgt := 36) hx hb dX8_signKind_1 (by omega) (by omega) (by rw [zc1]; rfl) (by decide) ?_
      refine lv_bipush (v := 13) hx hb dX8_signKind_36 (by decide) ?_
      exact r_i hx hb hr hlocks hK hS dX8_signKind_38 (u := ()) hP hD (trivial)
    · refine lv_tableIn (tgt := 39) hx hb dX8_signKind_1 (by omega) (by omega) (by rw [zc1]; rfl) (by decide) ?_
      refine lv_bipush (v := 14) hx hb dX8_signKind_39 (by decide) ?_
      exact r_i hx hb hr hlocks hK hS dX8_signKind_41 (u := ()) hP hD (trivial)
    · refine lv_tableIn (tgt := 42) hx hb dX8_signKind_1 (by omega) (by omega) (by rw [zc1]; rfl) (by decide) ?_
      refine lv_bipush (v := 15) hx hb dX8_signKind_42 (by decide) ?_
      exact r_i hx hb hr hlocks hK hS dX8_signKind_44 (u := ()) hP hD (trivial)
    · refine lv_tableIn (tgt := 48) hx hb dX8_signKind_1 (by omega) (by omega) (by rw [zc1]; rfl) (by decide) ?_
      refine lv_bipush (v := 17) hx hb dX8_signKind_48 (by decide) ?_
      exact r_i hx hb hr hlocks hK hS dX8_signKind_50 (u := ()) hP hD (trivial)
    · refine lv_tableIn (tgt := 45) hx hb dX8_signKind_1 (by omega) (by omega) (by rw [zc1]; rfl) (by decide) ?_
      refine lv_bipush (v := 16) hx hb dX8_signKind_45 (by decide) ?_
      exact r_i hx hb hr hlocks hK hS dX8_signKind_47 (u := ()) hP hD (trivial)

abbrev Q_c_X8_wordOf (D : va_G) (cy : Nat → ClassId) (E : EN) (kd : Int32) : (Nat → Prop) → Array Value → State → Outcome → State → Prop := QR D cy (fun (_ : Unit) => True) (fun _ => E.2.1 kd.toNatClampNeg) (fun _ : Unit => [])
set_option maxHeartbeats 4000000 in
set_option maxRecDepth 100000 in
theorem c_X8_wordOf (l : Launch) (D : va_G) (cy : Nat → ClassId) (E : EN) (kd : Int32) (sz : Nat) (hkd : 0 ≤ kd.toInt ∧ kd.toInt ≤ 11) : Met l yX8_wordOf wsX8_wordOf ({ frames := 0, cells := 0, slots := 0, locals := 0 } : Room) (CP D cy E [.int kd] [] sz) (Q_c_X8_wordOf D cy E kd (va_A [] sz)) 0 0 (va_A [] sz) := by
  refine Met.go (Qc := Q_c_X8_wordOf D cy E kd) (cc := cX8_wordOf) (maxL := 1) (ret := (some (.object "java/lang/String"))) (by decide) rfl (Nat.le_of_ble_eq_true rfl) ?_
  intro p e s m below meth c hx hb hr hts hown hlocks hin hml hK hN A hA hAB hD hP hS ls hl hsz
  have hl : lv_has ls 1 [(0, .int kd)] := hl
  obtain ⟨H, eH⟩ : ∃ H : Heap, H = s.heap := ⟨_, rfl⟩
  obtain ⟨locs, eL⟩ : ∃ L : List Loc, L = [] := ⟨_, rfl⟩
  rw [← eL]
  rw [← eL] at hS
  have hP : va_P D vwCl [] H := by rw [eH]; exact hP
  have hS : va_S A s.heap H locs := by rw [eH]; exact hS
  refine W.heapEq eH ?_
  clear eH eL
  refine lv_iload_n hx hb dX8_wordOf_0 rfl (lv_at hl 0 rfl) ?_
  by_cases c1 : kd.toInt < 0 ∨ 10 < kd.toInt
  · refine lv_tableOut (tgt := 93) hx hb dX8_wordOf_1 c1 (by decide) ?_
    refine va_ldcS hx hb hown hN.2.2.2.1.2.2.2.2.2.2.2.2.2.2.2 dX8_wordOf_93 ?_
    exact r_r hx hb hr hlocks hK hS dX8_wordOf_95 (u := ()) hP hD (congrArg E.2.1 (by show _ = kd.toInt.toNat; omega)) (trivial)
  · have zc1 : kd.toInt = 0 ∨ kd.toInt = 1 ∨ kd.toInt = 2 ∨ kd.toInt = 3 ∨ kd.toInt = 4 ∨ kd.toInt = 5 ∨ kd.toInt = 6 ∨ kd.toInt = 7 ∨ kd.toInt = 8 ∨ kd.toInt = 9 ∨ kd.toInt = 10 := by omega
    rcases zc1 with zc1 | zc1 | zc1 | zc1 | zc1 | zc1 | zc1 | zc1 | zc1 | zc1 | zc1
    · refine lv_tableIn (tgt := 60) hx hb dX8_wordOf_1 (by omega) (by omega) (by rw [zc1]; rfl) (by decide) ?_
      refine va_ldcS hx hb hown hN.2.2.2.1.1 dX8_wordOf_60 ?_
      exact r_r hx hb hr hlocks hK hS dX8_wordOf_62 (u := ()) hP hD (congrArg E.2.1 (by show _ = kd.toInt.toNat; omega)) (trivial)
    · refine lv_tableIn (tgt := 63) hx hb dX8_wordOf_1 (by omega) (by omega) (by rw [zc1]; rfl) (by decide) ?_
      refine va_ldcS hx hb hown hN.2.2.2.1.2.1 dX8_wordOf_63 ?_
      exact r_r hx hb hr hlocks hK hS dX8_wordOf_65 (u := ()) hP hD (congrArg E.2.1 (by show _ = kd.toInt.toNat; omega)) (trivial)
    · refine lv_tableIn (tgt := 66) hx hb dX8_wordOf_1 (by omega) (by omega) (by rw [zc1]; rfl) (by decide) ?_
      refine va_ldcS hx hb hown hN.2.2.2.1.2.2.1 dX8_wordOf_66 ?_
      exact r_r hx hb hr hlocks hK hS dX8_wordOf_68 (u := ()) hP hD (congrArg E.2.1 (by show _ = kd.toInt.toNat; omega)) (trivial)
    · refine lv_tableIn (tgt := 69) hx hb dX8_wordOf_1 (by omega) (by omega) (by rw [zc1]; rfl) (by decide) ?_
      refine va_ldcS hx hb hown hN.2.2.2.1.2.2.2.1 dX8_wordOf_69 ?_
      exact r_r hx hb hr hlocks hK hS dX8_wordOf_71 (u := ()) hP hD (congrArg E.2.1 (by show _ = kd.toInt.toNat; omega)) (trivial)
    · refine lv_tableIn (tgt := 72) hx hb dX8_wordOf_1 (by omega) (by omega) (by rw [zc1]; rfl) (by decide) ?_
      refine va_ldcS hx hb hown hN.2.2.2.1.2.2.2.2.1 dX8_wordOf_72 ?_
      exact r_r hx hb hr hlocks hK hS dX8_wordOf_74 (u := ()) hP hD (congrArg E.2.1 (by show _ = kd.toInt.toNat; omega)) (trivial)
    · refine lv_tableIn (tgt := 75) hx hb dX8_wordOf_1 (by omega) (by omega) (by rw [zc1]; rfl) (by decide) ?_
      refine va_ldcS hx hb hown hN.2.2.2.1.2.2.2.2.2.1 dX8_wordOf_75 ?_
      exact r_r hx hb hr hlocks hK hS dX8_wordOf_77 (u := ()) hP hD (congrArg E.2.1 (by show _ = kd.toInt.toNat; omega)) (trivial)
    · refine lv_tableIn (tgt := 78) hx hb dX8_wordOf_1 (by omega) (by omega) (by rw [zc1]; rfl) (by decide) ?_
      refine va_ldcS hx hb hown hN.2.2.2.1.2.2.2.2.2.2.1 dX8_wordOf_78 ?_
      exact r_r hx hb hr hlocks hK hS dX8_wordOf_80 (u := ()) hP hD (congrArg E.2.1 (by show _ = kd.toInt.toNat; omega)) (trivial)
    · refine lv_tableIn (tgt := 81) hx hb dX8_wordOf_1 (by omega) (by omega) (by rw [zc1]; rfl) (by decide) ?_
      refine va_ldcS hx hb hown hN.2.2.2.1.2.2.2.2.2.2.2.1 dX8_wordOf_81 ?_
      exact r_r hx hb hr hlocks hK hS dX8_wordOf_83 (u := ()) hP hD (congrArg E.2.1 (by show _ = kd.toInt.toNat; omega)) (trivial)
    · refine lv_tableIn (tgt := 84) hx hb dX8_wordOf_1 (by omega) (by omega) (by rw [zc1]; rfl) (by decide) ?_
      refine va_ldcS hx hb hown hN.2.2.2.1.2.2.2.2.2.2.2.2.1 dX8_wordOf_84 ?_
      exact r_r hx hb hr hlocks hK hS dX8_wordOf_86 (u := ()) hP hD (congrArg E.2.1 (by show _ = kd.toInt.toNat; omega)) (trivial)
    · refine lv_tableIn (tgt := 87) hx hb dX8_wordOf_1 (by omega) (by omega) (by rw [zc1]; rfl) (by decide) ?_
      refine va_ldcS hx hb hown hN.2.2.2.1.2.2.2.2.2.2.2.2.2.1 dX8_wordOf_87 ?_
      exact r_r hx hb hr hlocks hK hS dX8_wordOf_89 (u := ()) hP hD (congrArg E.2.1 (by show _ = kd.toInt.toNat; omega)) (trivial)
    · refine lv_tableIn (tgt := 90) hx hb dX8_wordOf_1 (by omega) (by omega) (by rw [zc1]; rfl) (by decide) ?_
      refine va_ldcS hx hb hown hN.2.2.2.1.2.2.2.2.2.2.2.2.2.2.1 dX8_wordOf_90 ?_
      exact r_r hx hb hr hlocks hK hS dX8_wordOf_92 (u := ()) hP hD (congrArg E.2.1 (by show _ = kd.toInt.toNat; omega)) (trivial)

abbrev Q_c_X8_spells (D : va_G) (cy : Nat → ClassId) (E : EN) (tp : Nat) (tb : Nat) (ztp : Int32) (ftb : Nat → Int32) (at_ : Int32) (ln : Int32) (i : Nat) : (Nat → Prop) → Array Value → State → Outcome → State → Prop := QI D cy (fun (r : Int32) (_ : Unit) => r.toInt = 0 ∨ r.toInt = 1) (fun _ : Unit => [Prod.mk tp (Sum.inr (Prod.mk 6 [Value.int ztp, Value.ref tb])), Prod.mk tb (Sum.inl (Prod.mk (cy 0) (Prod.mk 400 (Sum.inl ftb))))])
set_option maxHeartbeats 4000000 in
set_option maxRecDepth 100000 in
theorem c_X8_spells (l : Launch) (D : va_G) (cy : Nat → ClassId) (E : EN) (tp : Nat) (tb : Nat) (ztp : Int32) (ftb : Nat → Int32) (at_ : Int32) (ln : Int32) (i : Nat) (sz : Nat) (hln : 0 ≤ at_.toInt ∧ 0 ≤ ln.toInt ∧ at_.toInt + ln.toInt ≤ ztp.toInt ∧ ztp.toInt ≤ 400) (hi : i < 12) : Met l yX8_spells wsX8_spells ({ frames := 4, cells := 0, slots := 0, locals := 85 } : Room) (CP D cy E [.ref tp, .int at_, .int ln, .ref (E.2.1 i)] [Prod.mk tp (Sum.inr (Prod.mk 6 [Value.int ztp, Value.ref tb])), Prod.mk tb (Sum.inl (Prod.mk (cy 0) (Prod.mk 400 (Sum.inl ftb))))] sz) (Q_c_X8_spells D cy E tp tb ztp ftb at_ ln i (va_A [Prod.mk tp (Sum.inr (Prod.mk 6 [Value.int ztp, Value.ref tb])), Prod.mk tb (Sum.inl (Prod.mk (cy 0) (Prod.mk 400 (Sum.inl ftb))))] sz)) 0 0 (va_A [Prod.mk tp (Sum.inr (Prod.mk 6 [Value.int ztp, Value.ref tb])), Prod.mk tb (Sum.inl (Prod.mk (cy 0) (Prod.mk 400 (Sum.inl ftb))))] sz) := by
  refine Met.go (Qc := Q_c_X8_spells D cy E tp tb ztp ftb at_ ln i) (cc := cX8_spells) (maxL := 5) (ret := (some .boolean)) (by decide) rfl (Nat.le_of_ble_eq_true rfl) ?_
  intro p e s m below meth c hx hb hr hts hown hlocks hin hml hK hN A hA hAB hD hP hS ls hl hsz
  have hl : lv_has ls 5 [(0, .ref tp), (1, .int at_), (2, .int ln), (3, .ref (E.2.1 i))] := hl
  have w_0 := hts (.instanceMethod yJ0_length_8abf5) (by decide +kernel)
  have in_X6 : ∀ w ∈ wsX60, w ∈ wsX8_spells := fun _ h => List.mem_cons_of_mem _ ((List.mem_append_right _ h))
  have w_2 := hts (.fieldLink RX8 42 "SleepingCars$Tape" "bytes" "[I") (by decide +kernel)
  have w_3 := hts (.instanceMethod yJ0_charAt_5068e) (by decide +kernel)
  obtain ⟨H, eH⟩ : ∃ H : Heap, H = s.heap := ⟨_, rfl⟩
  obtain ⟨locs, eL⟩ : ∃ L : List Loc, L = [] := ⟨_, rfl⟩
  rw [← eL]
  rw [← eL] at hS
  have hP : va_P D vwCl [Prod.mk tp (Sum.inr (Prod.mk 6 [Value.int ztp, Value.ref tb])), Prod.mk tb (Sum.inl (Prod.mk (cy 0) (Prod.mk 400 (Sum.inl ftb))))] H := by rw [eH]; exact hP
  have hS : va_S A s.heap H locs := by rw [eH]; exact hS
  refine W.heapEq eH ?_
  clear eH eL
  refine lv_iload_n hx hb dX8_spells_0 rfl (lv_at hl 2 rfl) ?_
  refine lv_aload_n hx hb dX8_spells_1 rfl (lv_at hl 3 rfl) ?_
  refine k_i (va_runV (As := []) (rest := [.int ln]) ⟨hx, hb, hml, hown, hts⟩ (c_J0_length_8abf5 l D cy E i H.size hi) (cwV 0 hts gX8_spells_J0_length_8abf5 rfl rfl rfl (by decide +kernel) ⟨Nat.le_of_ble_eq_true rfl, Nat.le_of_ble_eq_true rfl⟩) (cp_str hK hN hS hAB hi) rfl rfl hl.1 rfl (lv_room (Nat.le_of_ble_eq_true rfl)) dX8_spells_2 ⟨Nat.le_of_ble_eq_true rfl, Nat.le_of_ble_eq_true rfl⟩) hP hD hS hA [] [0, 1] (wr := [Prod.mk tp (Sum.inr (Prod.mk 6 [Value.int ztp, Value.ref tb])), Prod.mk tb (Sum.inl (Prod.mk (cy 0) (Prod.mk 400 (Sum.inl ftb))))]) rfl rfl (by decide) (by decide) (fun rr2 u_rr2 H locs hw2 hP hD hS => ?_)
  try dsimp only at hw2
  have hP : va_P D vwCl [Prod.mk tp (Sum.inr (Prod.mk 6 [Value.int ztp, Value.ref tb])), Prod.mk tb (Sum.inl (Prod.mk (cy 0) (Prod.mk 400 (Sum.inl ftb))))] H := hP
  have hD : va_D A [Prod.mk tp (Sum.inr (Prod.mk 6 [Value.int ztp, Value.ref tb])), Prod.mk tb (Sum.inl (Prod.mk (cy 0) (Prod.mk 400 (Sum.inl ftb))))] := hD
  have hlrr2 := str_len hi hw2
  refine lv_icmp_eq (tgt := 10) hx hb dX8_spells_5 (by decide) (fun c5 => ?_) (fun c5 => ?_)
  · skip
    have fc5 := q_eq (a := ln.toInt) (b := rr2.toInt) c5 rfl rfl
    refine lv_iconst (v := 0) hx hb dX8_spells_10 (by decide) ?_
    refine lv_istore (lv' := [(4, .int 0), (0, .ref tp), (1, .int at_), (2, .int ln), (3, .ref (E.2.1 i))]) hx hb dX8_spells_11 hl (by decide) rfl (fun ls hl => ?_)
    have lp_13 : ∀ (n_13 : Nat) (j : Int32), (0 ≤ j.toInt) → (j.toInt ≤ ln.toInt) → (400 - j.toInt).toNat < n_13 → ∀ (H : Heap) (locs : List Loc), va_P D vwCl [Prod.mk tp (Sum.inr (Prod.mk 6 [Value.int ztp, Value.ref tb])), Prod.mk tb (Sum.inl (Prod.mk (cy 0) (Prod.mk 400 (Sum.inl ftb))))] H → va_D A [Prod.mk tp (Sum.inr (Prod.mk 6 [Value.int ztp, Value.ref tb])), Prod.mk tb (Sum.inl (Prod.mk (cy 0) (Prod.mk 400 (Sum.inl ftb))))] → va_S A s.heap H locs → ∀ ls : Array Slot, lv_has ls 5 [(4, .int j), (0, .ref tp), (1, .int at_), (2, .int ln), (3, .ref (E.2.1 i))] → W p l e (headSpec wsX8_spells ({ frames := 4, cells := 0, slots := 0, locals := 85 } : Room)).room s m ([.ref tp, .int at_, .int ln, .ref (E.2.1 i)] : List Value).toArray below meth c H locs 0 0 (MQ below (Q_c_X8_spells D cy E tp tb ztp ftb at_ ln i A) ([.ref tp, .int at_, .int ln, .ref (E.2.1 i)] : List Value).toArray s 0 0 A) (F0 m 13 ls []) := by
      intro n_13
      induction n_13 with
      | zero => intro j hj0 hj1 hmu; exact absurd hmu (Nat.not_lt_zero _)
      | succ n_13 ih_13 =>
        intro j hj0 hj1 hmu_13 H locs hP hD hS ls hl
        refine lv_iload hx hb dX8_spells_13 (lv_at hl 0 rfl) ?_
        refine lv_iload_n hx hb dX8_spells_15 rfl (lv_at hl 3 rfl) ?_
        refine lv_icmp_ge (tgt := 45) hx hb dX8_spells_16 (by decide) (fun c16 => ?_) (fun c16 => ?_)
        · skip
          have fc16 := q_le (a := ln.toInt) (b := j.toInt) c16 rfl rfl
          refine lv_iconst (v := 1) hx hb dX8_spells_45 (by decide) ?_
          exact r_z hx hb hr hlocks hK hS dX8_spells_46 (by decide) (u := ()) hP hD (by first | exact Or.inl (by decide) | exact Or.inr (by decide) | omega)
        · skip
          have fc16 := q_nle (a := ln.toInt) (b := j.toInt) c16 rfl rfl
          refine lv_aload_n hx hb dX8_spells_19 rfl (lv_at hl 1 rfl) ?_
          refine va_get (D := D) (ci := 6) (v := .ref tb) (C := RX6) (T := TX6) (N := 2) hx hb hts in_X6 hown hK hP 0 rfl rfl 1 (by decide) w_2 (fun _ h9 => h9) rfl dX8_spells_20 ?_
          refine lv_iload_n hx hb dX8_spells_23 rfl (lv_at hl 2 rfl) ?_
          refine lv_iload hx hb dX8_spells_24 (lv_at hl 0 rfl) ?_
          refine lv_iadd hx hb dX8_spells_26 ?_
          refine lv_topi (fun x26 ex26 => ?_)
          have tx26 := q_add (p := at_.toInt) (q := j.toInt) ex26 rfl rfl (by omega) (by omega)
          refine va_iald hx hb hK hP 1 0 rfl rfl (q_in (a := x26.toInt) rfl (by omega) (by omega)) dX8_spells_27 ?_
          refine lv_topi (fun x27 ex27 => ?_)
          have tx27 := congrArg Int32.toInt ex27
          refine lv_aload_n hx hb dX8_spells_28 rfl (lv_at hl 4 rfl) ?_
          refine lv_iload hx hb dX8_spells_29 (lv_at hl 0 rfl) ?_
          refine k_i (va_runV (As := [.int j]) (rest := [.int x27]) ⟨hx, hb, hml, hown, hts⟩ (c_J0_charAt_5068e l D cy E i j H.size hi (by first | omega | decide | (constructor <;> first | omega | decide))) (cwV 1 hts gX8_spells_J0_charAt_5068e rfl rfl rfl (by decide +kernel) ⟨Nat.le_of_ble_eq_true rfl, Nat.le_of_ble_eq_true rfl⟩) (cp_str hK hN hS hAB hi) rfl rfl hl.1 rfl (lv_room (Nat.le_of_ble_eq_true rfl)) dX8_spells_31 ⟨Nat.le_of_ble_eq_true rfl, Nat.le_of_ble_eq_true rfl⟩) hP hD hS hA [] [0, 1] (wr := [Prod.mk tp (Sum.inr (Prod.mk 6 [Value.int ztp, Value.ref tb])), Prod.mk tb (Sum.inl (Prod.mk (cy 0) (Prod.mk 400 (Sum.inl ftb))))]) rfl rfl (by decide) (by decide) (fun rr31 u_rr31 H locs hw31 hP hD hS => ?_)
          try dsimp only at hw31
          have hP : va_P D vwCl [Prod.mk tp (Sum.inr (Prod.mk 6 [Value.int ztp, Value.ref tb])), Prod.mk tb (Sum.inl (Prod.mk (cy 0) (Prod.mk 400 (Sum.inl ftb))))] H := hP
          have hD : va_D A [Prod.mk tp (Sum.inr (Prod.mk 6 [Value.int ztp, Value.ref tb])), Prod.mk tb (Sum.inl (Prod.mk (cy 0) (Prod.mk 400 (Sum.inl ftb))))] := hD
          refine lv_icmp_eq (tgt := 39) hx hb dX8_spells_34 (by decide) (fun c34 => ?_) (fun c34 => ?_)
          · skip
            have fc34 := q_eq (a := x27.toInt) (b := rr31.toInt) c34 rfl rfl
            obtain ⟨x39, ex39⟩ : ∃ y : Int32, y = j + 1 := ⟨_, rfl⟩
            refine lv_iinc (v := x39) (lv' := [(4, .int x39), (0, .ref tp), (1, .int at_), (2, .int ln), (3, .ref (E.2.1 i))]) hx hb dX8_spells_39 hl (k := 0) rfl (by rw [ex39]; rfl) (by decide) rfl (fun ls hl => ?_)
            have tx39 := q_add (p := j.toInt) (q := 1) ex39 rfl (by decide) (by omega) (by omega)
            refine lv_goto (tgt := 13) hx hb dX8_spells_42 (by decide) ?_
            exact ih_13 x39 (by first | omega | decide | (rw [i32_0]; omega)) (by first | omega | decide | (rw [i32_0]; omega)) (by omega) H locs hP hD hS ls (lv_sub hl [0, 1, 2, 3, 4] rfl)
          · skip
            have fc34 := q_ne (a := x27.toInt) (b := rr31.toInt) c34 rfl rfl
            refine lv_iconst (v := 0) hx hb dX8_spells_37 (by decide) ?_
            exact r_z hx hb hr hlocks hK hS dX8_spells_38 (by decide) (u := ()) hP hD (by first | exact Or.inl (by decide) | exact Or.inr (by decide) | omega)
    exact lp_13 ((400 - (0 : Int32).toInt).toNat + 1) 0 (by first | omega | decide | (rw [i32_0]; omega) | (rw [i32_m1]; omega)) (by first | omega | decide | (rw [i32_0]; omega) | (rw [i32_m1]; omega)) (by first | omega | exact Nat.lt_succ_self _ | (rw [i32_0]; omega) | (rw [i32_1]; omega)) H locs hP hD hS ls (lv_sub hl [0, 1, 2, 3, 4] rfl)
  · skip
    have fc5 := q_ne (a := ln.toInt) (b := rr2.toInt) c5 rfl rfl
    refine lv_iconst (v := 0) hx hb dX8_spells_8 (by decide) ?_
    exact r_z hx hb hr hlocks hK hS dX8_spells_9 (by decide) (u := ()) hP hD (by first | exact Or.inl (by decide) | exact Or.inr (by decide) | omega)

abbrev Q_c_X8_wordKind (D : va_G) (cy : Nat → ClassId) (E : EN) (tp : Nat) (tb : Nat) (ztp : Int32) (ftb : Nat → Int32) (at_ : Int32) (ln : Int32) : (Nat → Prop) → Array Value → State → Outcome → State → Prop := QI D cy (fun (r : Int32) (_ : Unit) => True) (fun _ : Unit => [Prod.mk tp (Sum.inr (Prod.mk 6 [Value.int ztp, Value.ref tb])), Prod.mk tb (Sum.inl (Prod.mk (cy 0) (Prod.mk 400 (Sum.inl ftb))))])
set_option maxHeartbeats 4000000 in
set_option maxRecDepth 100000 in
theorem c_X8_wordKind (l : Launch) (D : va_G) (cy : Nat → ClassId) (E : EN) (tp : Nat) (tb : Nat) (ztp : Int32) (ftb : Nat → Int32) (at_ : Int32) (ln : Int32) (sz : Nat) (hln : 0 ≤ at_.toInt ∧ 0 ≤ ln.toInt ∧ at_.toInt + ln.toInt ≤ ztp.toInt ∧ ztp.toInt ≤ 400) : Met l yX8_wordKind wsX8_wordKind ({ frames := 5, cells := 0, slots := 0, locals := 109 } : Room) (CP D cy E [.ref tp, .int at_, .int ln] [Prod.mk tp (Sum.inr (Prod.mk 6 [Value.int ztp, Value.ref tb])), Prod.mk tb (Sum.inl (Prod.mk (cy 0) (Prod.mk 400 (Sum.inl ftb))))] sz) (Q_c_X8_wordKind D cy E tp tb ztp ftb at_ ln (va_A [Prod.mk tp (Sum.inr (Prod.mk 6 [Value.int ztp, Value.ref tb])), Prod.mk tb (Sum.inl (Prod.mk (cy 0) (Prod.mk 400 (Sum.inl ftb))))] sz)) 0 0 (va_A [Prod.mk tp (Sum.inr (Prod.mk 6 [Value.int ztp, Value.ref tb])), Prod.mk tb (Sum.inl (Prod.mk (cy 0) (Prod.mk 400 (Sum.inl ftb))))] sz) := by
  refine Met.go (Qc := Q_c_X8_wordKind D cy E tp tb ztp ftb at_ ln) (cc := cX8_wordKind) (maxL := 4) (ret := (some .int)) (by decide) rfl (Nat.le_of_ble_eq_true rfl) ?_
  intro p e s m below meth c hx hb hr hts hown hlocks hin hml hK hN A hA hAB hD hP hS ls hl hsz
  have hl : lv_has ls 4 [(0, .ref tp), (1, .int at_), (2, .int ln)] := hl
  obtain ⟨H, eH⟩ : ∃ H : Heap, H = s.heap := ⟨_, rfl⟩
  obtain ⟨locs, eL⟩ : ∃ L : List Loc, L = [] := ⟨_, rfl⟩
  rw [← eL]
  rw [← eL] at hS
  have hP : va_P D vwCl [Prod.mk tp (Sum.inr (Prod.mk 6 [Value.int ztp, Value.ref tb])), Prod.mk tb (Sum.inl (Prod.mk (cy 0) (Prod.mk 400 (Sum.inl ftb))))] H := by rw [eH]; exact hP
  have hS : va_S A s.heap H locs := by rw [eH]; exact hS
  refine W.heapEq eH ?_
  clear eH eL
  refine lv_iconst (v := 0) hx hb dX8_wordKind_0 (by decide) ?_
  refine lv_istore_n (lv' := [(3, .int 0), (0, .ref tp), (1, .int at_), (2, .int ln)]) hx hb dX8_wordKind_1 rfl hl (by decide) rfl (fun ls hl => ?_)
  have lp_2 : ∀ (n_2 : Nat) (kd : Int32), (0 ≤ kd.toInt) → (kd.toInt ≤ 12) → (12 - kd.toInt).toNat < n_2 → ∀ (H : Heap) (locs : List Loc), va_P D vwCl [Prod.mk tp (Sum.inr (Prod.mk 6 [Value.int ztp, Value.ref tb])), Prod.mk tb (Sum.inl (Prod.mk (cy 0) (Prod.mk 400 (Sum.inl ftb))))] H → va_D A [Prod.mk tp (Sum.inr (Prod.mk 6 [Value.int ztp, Value.ref tb])), Prod.mk tb (Sum.inl (Prod.mk (cy 0) (Prod.mk 400 (Sum.inl ftb))))] → va_S A s.heap H locs → ∀ ls : Array Slot, lv_has ls 4 [(3, .int kd), (0, .ref tp), (1, .int at_), (2, .int ln)] → W p l e (headSpec wsX8_wordKind ({ frames := 5, cells := 0, slots := 0, locals := 109 } : Room)).room s m ([.ref tp, .int at_, .int ln] : List Value).toArray below meth c H locs 0 0 (MQ below (Q_c_X8_wordKind D cy E tp tb ztp ftb at_ ln A) ([.ref tp, .int at_, .int ln] : List Value).toArray s 0 0 A) (F0 m 2 ls []) := by
    intro n_2
    induction n_2 with
    | zero => intro kd hkd0 hkd1 hmu; exact absurd hmu (Nat.not_lt_zero _)
    | succ n_2 ih_2 =>
      intro kd hkd0 hkd1 hmu_2 H locs hP hD hS ls hl
      refine lv_iload_n hx hb dX8_wordKind_2 rfl (lv_at hl 0 rfl) ?_
      refine lv_bipush (v := 11) hx hb dX8_wordKind_3 (by decide) ?_
      refine lv_icmp_gt (tgt := 29) hx hb dX8_wordKind_5 (by decide) (fun c5 => ?_) (fun c5 => ?_)
      · skip
        have fc5 := q_lt (a := 11) (b := kd.toInt) c5 (by decide) rfl
        refine lv_bipush (v := 18) hx hb dX8_wordKind_29 (by decide) ?_
        exact r_i hx hb hr hlocks hK hS dX8_wordKind_31 (u := ()) hP hD (trivial)
      · skip
        have fc5 := q_nlt (a := 11) (b := kd.toInt) c5 (by decide) rfl
        refine lv_aload_n hx hb dX8_wordKind_8 rfl (lv_at hl 1 rfl) ?_
        refine lv_iload_n hx hb dX8_wordKind_9 rfl (lv_at hl 2 rfl) ?_
        refine lv_iload_n hx hb dX8_wordKind_10 rfl (lv_at hl 3 rfl) ?_
        refine lv_iload_n hx hb dX8_wordKind_11 rfl (lv_at hl 0 rfl) ?_
        refine k_r (va_runS (As := [.int kd]) (rest := [.int ln, .int at_, .ref tp]) ⟨hx, hb, hml, hown, hts⟩ (c_X8_wordOf l D cy E kd H.size (by first | omega | decide | (constructor <;> first | omega | decide))) (va_cwS 1 hts gX8_wordKind_X8_wordOf rfl rfl rfl (by decide +kernel) ⟨Nat.le_of_ble_eq_true rfl, Nat.le_of_ble_eq_true rfl⟩) (cp_s hK hN hS hAB hP hD [] rfl (by decide)) rfl rfl hl.1 rfl (lv_room (Nat.le_of_ble_eq_true rfl)) dX8_wordKind_12 ⟨Nat.le_of_ble_eq_true rfl, Nat.le_of_ble_eq_true rfl⟩) hP hD hS hA [] [0, 1] (wr := [Prod.mk tp (Sum.inr (Prod.mk 6 [Value.int ztp, Value.ref tb])), Prod.mk tb (Sum.inl (Prod.mk (cy 0) (Prod.mk 400 (Sum.inl ftb))))]) rfl rfl (by decide) (by decide) (fun u_rr12 H locs hw12 hP hD hS => ?_)
        try dsimp only at hw12
        have hP : va_P D vwCl [Prod.mk tp (Sum.inr (Prod.mk 6 [Value.int ztp, Value.ref tb])), Prod.mk tb (Sum.inl (Prod.mk (cy 0) (Prod.mk 400 (Sum.inl ftb))))] H := hP
        have hD : va_D A [Prod.mk tp (Sum.inr (Prod.mk 6 [Value.int ztp, Value.ref tb])), Prod.mk tb (Sum.inl (Prod.mk (cy 0) (Prod.mk 400 (Sum.inl ftb))))] := hD
        refine k_i (va_runS (As := [.ref tp, .int at_, .int ln, .ref (E.2.1 kd.toNatClampNeg)]) (rest := []) ⟨hx, hb, hml, hown, hts⟩ (c_X8_spells l D cy E tp tb ztp ftb at_ ln kd.toNatClampNeg H.size (by first | omega | decide | (constructor <;> first | omega | decide)) (cn (by omega) (by decide))) (va_cwS 4 hts gX8_wordKind_X8_spells rfl rfl rfl (by decide +kernel) ⟨Nat.le_of_ble_eq_true rfl, Nat.le_of_ble_eq_true rfl⟩) (cp_s hK hN hS hAB hP hD [0, 1] rfl (by decide)) rfl rfl hl.1 rfl (lv_room (Nat.le_of_ble_eq_true rfl)) dX8_wordKind_15 ⟨Nat.le_of_ble_eq_true rfl, Nat.le_of_ble_eq_true rfl⟩) hP hD hS hA [0, 1] [] (wr := []) rfl rfl (by decide) (by decide) (fun rr15 u_rr15 H locs hw15 hP hD hS => ?_)
        try dsimp only at hw15
        have hP : va_P D vwCl [Prod.mk tp (Sum.inr (Prod.mk 6 [Value.int ztp, Value.ref tb])), Prod.mk tb (Sum.inl (Prod.mk (cy 0) (Prod.mk 400 (Sum.inl ftb))))] H := hP
        have hD : va_D A [Prod.mk tp (Sum.inr (Prod.mk 6 [Value.int ztp, Value.ref tb])), Prod.mk tb (Sum.inl (Prod.mk (cy 0) (Prod.mk 400 (Sum.inl ftb))))] := hD
        refine lv_if_eq (tgt := 23) hx hb dX8_wordKind_18 (by decide) (fun c18 => ?_) (fun c18 => ?_)
        · skip
          have fc18 := q_eq (a := rr15.toInt) (b := 0) c18 rfl (by decide)
          obtain ⟨x23, ex23⟩ : ∃ y : Int32, y = kd + 1 := ⟨_, rfl⟩
          refine lv_iinc (v := x23) (lv' := [(3, .int x23), (0, .ref tp), (1, .int at_), (2, .int ln)]) hx hb dX8_wordKind_23 hl (k := 0) rfl (by rw [ex23]; rfl) (by decide) rfl (fun ls hl => ?_)
          have tx23 := q_add (p := kd.toInt) (q := 1) ex23 rfl (by decide) (by omega) (by omega)
          refine lv_goto (tgt := 2) hx hb dX8_wordKind_26 (by decide) ?_
          exact ih_2 x23 (by first | omega | decide | (rw [i32_0]; omega)) (by first | omega | decide | (rw [i32_0]; omega)) (by omega) H locs hP hD hS ls (lv_sub hl [0, 1, 2, 3] rfl)
        · skip
          have fc18 := q_ne (a := rr15.toInt) (b := 0) c18 rfl (by decide)
          refine lv_iload_n hx hb dX8_wordKind_21 rfl (lv_at hl 0 rfl) ?_
          exact r_i hx hb hr hlocks hK hS dX8_wordKind_22 (u := ()) hP hD (trivial)
  exact lp_2 ((12 - (0 : Int32).toInt).toNat + 1) 0 (by first | omega | decide | (rw [i32_0]; omega) | (rw [i32_m1]; omega)) (by first | omega | decide | (rw [i32_0]; omega) | (rw [i32_m1]; omega)) (by first | omega | exact Nat.lt_succ_self _ | (rw [i32_0]; omega) | (rw [i32_1]; omega)) H locs hP hD hS ls (lv_sub hl [0, 1, 2, 3] rfl)

abbrev Q_c_X8_add (D : va_G) (cy : Nat → ClassId) (E : EN) (k0 : Nat) (k1 : Nat) (k2 : Nat) (k3 : Nat) (zk : Int32) (tq1 : Nat → Int32) (tq2 : Nat → Int32) (tq3 : Nat → Int32) (kd : Int32) (nu : Int32) (pl : Int32) : (Nat → Prop) → Array Value → State → Outcome → State → Prop := QV D cy (fun (u : Int32 × (Nat → Int32) × (Nat → Int32) × (Nat → Int32)) => match u with | (zz, gk1, gk2, gk3) => 0 ≤ zz.toInt ∧ zz.toInt ≤ 401) (fun u : Int32 × (Nat → Int32) × (Nat → Int32) × (Nat → Int32) => match u with | (zz, gk1, gk2, gk3) => [Prod.mk k0 (Sum.inr (Prod.mk 8 [Value.int zz, Value.ref k1, Value.ref k2, Value.ref k3])), Prod.mk k1 (Sum.inl (Prod.mk (cy 0) (Prod.mk 401 (Sum.inl gk1)))), Prod.mk k2 (Sum.inl (Prod.mk (cy 0) (Prod.mk 401 (Sum.inl gk2)))), Prod.mk k3 (Sum.inl (Prod.mk (cy 0) (Prod.mk 401 (Sum.inl gk3))))])
set_option maxHeartbeats 4000000 in
set_option maxRecDepth 100000 in
theorem c_X8_add (l : Launch) (D : va_G) (cy : Nat → ClassId) (E : EN) (k0 : Nat) (k1 : Nat) (k2 : Nat) (k3 : Nat) (zk : Int32) (tq1 : Nat → Int32) (tq2 : Nat → Int32) (tq3 : Nat → Int32) (kd : Int32) (nu : Int32) (pl : Int32) (sz : Nat) (hzk : 0 ≤ zk.toInt ∧ zk.toInt ≤ 401) : Met l yX8_add wsX8_add ({ frames := 0, cells := 0, slots := 0, locals := 0 } : Room) (CP D cy E [.ref k0, .int kd, .int nu, .int pl] [Prod.mk k0 (Sum.inr (Prod.mk 8 [Value.int zk, Value.ref k1, Value.ref k2, Value.ref k3])), Prod.mk k1 (Sum.inl (Prod.mk (cy 0) (Prod.mk 401 (Sum.inl tq1)))), Prod.mk k2 (Sum.inl (Prod.mk (cy 0) (Prod.mk 401 (Sum.inl tq2)))), Prod.mk k3 (Sum.inl (Prod.mk (cy 0) (Prod.mk 401 (Sum.inl tq3))))] sz) (Q_c_X8_add D cy E k0 k1 k2 k3 zk tq1 tq2 tq3 kd nu pl (va_A [Prod.mk k0 (Sum.inr (Prod.mk 8 [Value.int zk, Value.ref k1, Value.ref k2, Value.ref k3])), Prod.mk k1 (Sum.inl (Prod.mk (cy 0) (Prod.mk 401 (Sum.inl tq1)))), Prod.mk k2 (Sum.inl (Prod.mk (cy 0) (Prod.mk 401 (Sum.inl tq2)))), Prod.mk k3 (Sum.inl (Prod.mk (cy 0) (Prod.mk 401 (Sum.inl tq3))))] sz)) 0 0 (va_A [Prod.mk k0 (Sum.inr (Prod.mk 8 [Value.int zk, Value.ref k1, Value.ref k2, Value.ref k3])), Prod.mk k1 (Sum.inl (Prod.mk (cy 0) (Prod.mk 401 (Sum.inl tq1)))), Prod.mk k2 (Sum.inl (Prod.mk (cy 0) (Prod.mk 401 (Sum.inl tq2)))), Prod.mk k3 (Sum.inl (Prod.mk (cy 0) (Prod.mk 401 (Sum.inl tq3))))] sz) := by
  refine Met.go (Qc := Q_c_X8_add D cy E k0 k1 k2 k3 zk tq1 tq2 tq3 kd nu pl) (cc := cX8_add) (maxL := 4) (ret := none) (by decide) rfl (Nat.le_of_ble_eq_true rfl) ?_
  intro p e s m below meth c hx hb hr hts hown hlocks hin hml hK hN A hA hAB hD hP hS ls hl hsz
  have hl : lv_has ls 4 [(0, .ref k0), (1, .int kd), (2, .int nu), (3, .int pl)] := hl
  have in_X8 : ∀ w ∈ wsX80, w ∈ wsX8_add := fun _ h => List.mem_cons_of_mem _ ((List.mem_append_right _ h))
  have w_1 := hts (.fieldLink RX8 21 "SleepingCars$Tokens" "size" "I") (by decide +kernel)
  have w_2 := hts (.fieldLink RX8 9 "SleepingCars$Tokens" "kinds" "[I") (by decide +kernel)
  have w_3 := hts (.fieldLink RX8 15 "SleepingCars$Tokens" "numbers" "[I") (by decide +kernel)
  have w_4 := hts (.fieldLink RX8 18 "SleepingCars$Tokens" "places" "[I") (by decide +kernel)
  obtain ⟨H, eH⟩ : ∃ H : Heap, H = s.heap := ⟨_, rfl⟩
  obtain ⟨locs, eL⟩ : ∃ L : List Loc, L = [] := ⟨_, rfl⟩
  rw [← eL]
  rw [← eL] at hS
  have hP : va_P D vwCl [Prod.mk k0 (Sum.inr (Prod.mk 8 [Value.int zk, Value.ref k1, Value.ref k2, Value.ref k3])), Prod.mk k1 (Sum.inl (Prod.mk (cy 0) (Prod.mk 401 (Sum.inl tq1)))), Prod.mk k2 (Sum.inl (Prod.mk (cy 0) (Prod.mk 401 (Sum.inl tq2)))), Prod.mk k3 (Sum.inl (Prod.mk (cy 0) (Prod.mk 401 (Sum.inl tq3))))] H := by rw [eH]; exact hP
  have hS : va_S A s.heap H locs := by rw [eH]; exact hS
  refine W.heapEq eH ?_
  clear eH eL
  refine lv_aload_n hx hb dX8_add_0 rfl (lv_at hl 0 rfl) ?_
  refine va_get (D := D) (ci := 8) (v := .int zk) (C := RX8) (T := TX8) (N := 4) hx hb hts in_X8 hown hK hP 0 rfl rfl 0 (by decide) w_1 (fun _ h9 => h9) rfl dX8_add_1 ?_
  refine lv_aload_n hx hb dX8_add_4 rfl (lv_at hl 0 rfl) ?_
  refine va_get (D := D) (ci := 8) (v := .ref k1) (C := RX8) (T := TX8) (N := 4) hx hb hts in_X8 hown hK hP 0 rfl rfl 1 (by decide) w_2 (fun _ h9 => h9) rfl dX8_add_5 ?_
  refine va_alen hx hb hK hP 1 0 rfl rfl (v := 401) rfl dX8_add_8 ?_
  refine lv_icmp_ge (tgt := 52) hx hb dX8_add_9 (by decide) (fun c9 => ?_) (fun c9 => ?_)
  · skip
    have fc9 := q_le (a := 401) (b := zk.toInt) c9 (by decide) rfl
    exact r_v hx hb hr hlocks hK hS dX8_add_52 (u := (zk, tq1, tq2, tq3)) hP hD (by omega)
  · skip
    have fc9 := q_nle (a := 401) (b := zk.toInt) c9 (by decide) rfl
    refine lv_aload_n hx hb dX8_add_12 rfl (lv_at hl 0 rfl) ?_
    refine va_get (D := D) (ci := 8) (v := .ref k1) (C := RX8) (T := TX8) (N := 4) hx hb hts in_X8 hown hK hP 0 rfl rfl 1 (by decide) w_2 (fun _ h9 => h9) rfl dX8_add_13 ?_
    refine lv_aload_n hx hb dX8_add_16 rfl (lv_at hl 0 rfl) ?_
    refine va_get (D := D) (ci := 8) (v := .int zk) (C := RX8) (T := TX8) (N := 4) hx hb hts in_X8 hown hK hP 0 rfl rfl 0 (by decide) w_1 (fun _ h9 => h9) rfl dX8_add_17 ?_
    refine lv_iload_n hx hb dX8_add_20 rfl (lv_at hl 1 rfl) ?_
    refine va_iast hx hb hK hP hD hS 1 0 rfl rfl (q_in (a := zk.toInt) rfl (by omega) (by omega)) dX8_add_21 (fun H locs hP hD hS => ?_)
    have hP : va_P D vwCl [Prod.mk k0 (Sum.inr (Prod.mk 8 [Value.int zk, Value.ref k1, Value.ref k2, Value.ref k3])), Prod.mk k1 (Sum.inl (Prod.mk (cy 0) (Prod.mk 401 (Sum.inl (upd tq1 zk.toNatClampNeg kd))))), Prod.mk k2 (Sum.inl (Prod.mk (cy 0) (Prod.mk 401 (Sum.inl tq2)))), Prod.mk k3 (Sum.inl (Prod.mk (cy 0) (Prod.mk 401 (Sum.inl tq3))))] H := hP
    have hD : va_D A [Prod.mk k0 (Sum.inr (Prod.mk 8 [Value.int zk, Value.ref k1, Value.ref k2, Value.ref k3])), Prod.mk k1 (Sum.inl (Prod.mk (cy 0) (Prod.mk 401 (Sum.inl (upd tq1 zk.toNatClampNeg kd))))), Prod.mk k2 (Sum.inl (Prod.mk (cy 0) (Prod.mk 401 (Sum.inl tq2)))), Prod.mk k3 (Sum.inl (Prod.mk (cy 0) (Prod.mk 401 (Sum.inl tq3))))] := hD
    refine lv_aload_n hx hb dX8_add_22 rfl (lv_at hl 0 rfl) ?_
    refine va_get (D := D) (ci := 8) (v := .ref k2) (C := RX8) (T := TX8) (N := 4) hx hb hts in_X8 hown hK hP 0 rfl rfl 2 (by decide) w_3 (fun _ h9 => h9) rfl dX8_add_23 ?_
    refine lv_aload_n hx hb dX8_add_26 rfl (lv_at hl 0 rfl) ?_
    refine va_get (D := D) (ci := 8) (v := .int zk) (C := RX8) (T := TX8) (N := 4) hx hb hts in_X8 hown hK hP 0 rfl rfl 0 (by decide) w_1 (fun _ h9 => h9) rfl dX8_add_27 ?_
    refine lv_iload_n hx hb dX8_add_30 rfl (lv_at hl 2 rfl) ?_
    refine va_iast hx hb hK hP hD hS 2 0 rfl rfl (q_in (a := zk.toInt) rfl (by omega) (by omega)) dX8_add_31 (fun H locs hP hD hS => ?_)
    have hP : va_P D vwCl [Prod.mk k0 (Sum.inr (Prod.mk 8 [Value.int zk, Value.ref k1, Value.ref k2, Value.ref k3])), Prod.mk k1 (Sum.inl (Prod.mk (cy 0) (Prod.mk 401 (Sum.inl (upd tq1 zk.toNatClampNeg kd))))), Prod.mk k2 (Sum.inl (Prod.mk (cy 0) (Prod.mk 401 (Sum.inl (upd tq2 zk.toNatClampNeg nu))))), Prod.mk k3 (Sum.inl (Prod.mk (cy 0) (Prod.mk 401 (Sum.inl tq3))))] H := hP
    have hD : va_D A [Prod.mk k0 (Sum.inr (Prod.mk 8 [Value.int zk, Value.ref k1, Value.ref k2, Value.ref k3])), Prod.mk k1 (Sum.inl (Prod.mk (cy 0) (Prod.mk 401 (Sum.inl (upd tq1 zk.toNatClampNeg kd))))), Prod.mk k2 (Sum.inl (Prod.mk (cy 0) (Prod.mk 401 (Sum.inl (upd tq2 zk.toNatClampNeg nu))))), Prod.mk k3 (Sum.inl (Prod.mk (cy 0) (Prod.mk 401 (Sum.inl tq3))))] := hD
    refine lv_aload_n hx hb dX8_add_32 rfl (lv_at hl 0 rfl) ?_
    refine va_get (D := D) (ci := 8) (v := .ref k3) (C := RX8) (T := TX8) (N := 4) hx hb hts in_X8 hown hK hP 0 rfl rfl 3 (by decide) w_4 (fun _ h9 => h9) rfl dX8_add_33 ?_
    refine lv_aload_n hx hb dX8_add_36 rfl (lv_at hl 0 rfl) ?_
    refine va_get (D := D) (ci := 8) (v := .int zk) (C := RX8) (T := TX8) (N := 4) hx hb hts in_X8 hown hK hP 0 rfl rfl 0 (by decide) w_1 (fun _ h9 => h9) rfl dX8_add_37 ?_
    refine lv_iload_n hx hb dX8_add_40 rfl (lv_at hl 3 rfl) ?_
    refine va_iast hx hb hK hP hD hS 3 0 rfl rfl (q_in (a := zk.toInt) rfl (by omega) (by omega)) dX8_add_41 (fun H locs hP hD hS => ?_)
    have hP : va_P D vwCl [Prod.mk k0 (Sum.inr (Prod.mk 8 [Value.int zk, Value.ref k1, Value.ref k2, Value.ref k3])), Prod.mk k1 (Sum.inl (Prod.mk (cy 0) (Prod.mk 401 (Sum.inl (upd tq1 zk.toNatClampNeg kd))))), Prod.mk k2 (Sum.inl (Prod.mk (cy 0) (Prod.mk 401 (Sum.inl (upd tq2 zk.toNatClampNeg nu))))), Prod.mk k3 (Sum.inl (Prod.mk (cy 0) (Prod.mk 401 (Sum.inl (upd tq3 zk.toNatClampNeg pl)))))] H := hP
    have hD : va_D A [Prod.mk k0 (Sum.inr (Prod.mk 8 [Value.int zk, Value.ref k1, Value.ref k2, Value.ref k3])), Prod.mk k1 (Sum.inl (Prod.mk (cy 0) (Prod.mk 401 (Sum.inl (upd tq1 zk.toNatClampNeg kd))))), Prod.mk k2 (Sum.inl (Prod.mk (cy 0) (Prod.mk 401 (Sum.inl (upd tq2 zk.toNatClampNeg nu))))), Prod.mk k3 (Sum.inl (Prod.mk (cy 0) (Prod.mk 401 (Sum.inl (upd tq3 zk.toNatClampNeg pl)))))] := hD
    refine lv_aload_n hx hb dX8_add_42 rfl (lv_at hl 0 rfl) ?_
    refine lv_dup hx hb dX8_add_43 rfl ?_
    refine va_get (D := D) (ci := 8) (v := .int zk) (C := RX8) (T := TX8) (N := 4) hx hb hts in_X8 hown hK hP 0 rfl rfl 0 (by decide) w_1 (fun _ h9 => h9) rfl dX8_add_44 ?_
    refine lv_iconst (v := 1) hx hb dX8_add_47 (by decide) ?_
    refine lv_iadd hx hb dX8_add_48 ?_
    refine lv_topi (fun x48 ex48 => ?_)
    have tx48 := q_add (p := zk.toInt) (q := 1) ex48 rfl (by decide) (by omega) (by omega)
    refine va_put (D := D) (ci := 8) (v := .int x48) (ty := .int) (C := RX8) (T := TX8) (N := 4) hx hb hts in_X8 tyX8 tyX8_ok nmX8 hown hK hP hD hS 0 rfl rfl 0 (by decide) w_1 (fun _ h9 => h9) rfl (by decide +kernel) rfl rfl (Nat.le_of_ble_eq_true rfl) dX8_add_49 (fun H locs hP hD hS => ?_)
    have hP : va_P D vwCl [Prod.mk k0 (Sum.inr (Prod.mk 8 [Value.int x48, Value.ref k1, Value.ref k2, Value.ref k3])), Prod.mk k1 (Sum.inl (Prod.mk (cy 0) (Prod.mk 401 (Sum.inl (upd tq1 zk.toNatClampNeg kd))))), Prod.mk k2 (Sum.inl (Prod.mk (cy 0) (Prod.mk 401 (Sum.inl (upd tq2 zk.toNatClampNeg nu))))), Prod.mk k3 (Sum.inl (Prod.mk (cy 0) (Prod.mk 401 (Sum.inl (upd tq3 zk.toNatClampNeg pl)))))] H := hP
    have hD : va_D A [Prod.mk k0 (Sum.inr (Prod.mk 8 [Value.int x48, Value.ref k1, Value.ref k2, Value.ref k3])), Prod.mk k1 (Sum.inl (Prod.mk (cy 0) (Prod.mk 401 (Sum.inl (upd tq1 zk.toNatClampNeg kd))))), Prod.mk k2 (Sum.inl (Prod.mk (cy 0) (Prod.mk 401 (Sum.inl (upd tq2 zk.toNatClampNeg nu))))), Prod.mk k3 (Sum.inl (Prod.mk (cy 0) (Prod.mk 401 (Sum.inl (upd tq3 zk.toNatClampNeg pl)))))] := hD
    exact r_v hx hb hr hlocks hK hS dX8_add_52 (u := (x48, upd tq1 zk.toNatClampNeg kd, upd tq2 zk.toNatClampNeg nu, upd tq3 zk.toNatClampNeg pl)) hP hD (by omega)

abbrev Q_c_X8_kindAt (D : va_G) (cy : Nat → ClassId) (E : EN) (k0 : Nat) (k1 : Nat) (k2 : Nat) (k3 : Nat) (zk : Int32) (tq1 : Nat → Int32) (ix : Int32) : (Nat → Prop) → Array Value → State → Outcome → State → Prop := QI D cy (fun (r : Int32) (_ : Unit) => True) (fun _ : Unit => [Prod.mk k0 (Sum.inr (Prod.mk 8 [Value.int zk, Value.ref k1, Value.ref k2, Value.ref k3])), Prod.mk k1 (Sum.inl (Prod.mk (cy 0) (Prod.mk 401 (Sum.inl tq1))))])
set_option maxHeartbeats 4000000 in
set_option maxRecDepth 100000 in
theorem c_X8_kindAt (l : Launch) (D : va_G) (cy : Nat → ClassId) (E : EN) (k0 : Nat) (k1 : Nat) (k2 : Nat) (k3 : Nat) (zk : Int32) (tq1 : Nat → Int32) (ix : Int32) (sz : Nat) (hzk : 0 ≤ zk.toInt ∧ zk.toInt ≤ 401) : Met l yX8_kindAt wsX8_kindAt ({ frames := 0, cells := 0, slots := 0, locals := 0 } : Room) (CP D cy E [.ref k0, .int ix] [Prod.mk k0 (Sum.inr (Prod.mk 8 [Value.int zk, Value.ref k1, Value.ref k2, Value.ref k3])), Prod.mk k1 (Sum.inl (Prod.mk (cy 0) (Prod.mk 401 (Sum.inl tq1))))] sz) (Q_c_X8_kindAt D cy E k0 k1 k2 k3 zk tq1 ix (va_A [Prod.mk k0 (Sum.inr (Prod.mk 8 [Value.int zk, Value.ref k1, Value.ref k2, Value.ref k3])), Prod.mk k1 (Sum.inl (Prod.mk (cy 0) (Prod.mk 401 (Sum.inl tq1))))] sz)) 0 0 (va_A [Prod.mk k0 (Sum.inr (Prod.mk 8 [Value.int zk, Value.ref k1, Value.ref k2, Value.ref k3])), Prod.mk k1 (Sum.inl (Prod.mk (cy 0) (Prod.mk 401 (Sum.inl tq1))))] sz) := by
  refine Met.go (Qc := Q_c_X8_kindAt D cy E k0 k1 k2 k3 zk tq1 ix) (cc := cX8_kindAt) (maxL := 2) (ret := (some .int)) (by decide) rfl (Nat.le_of_ble_eq_true rfl) ?_
  intro p e s m below meth c hx hb hr hts hown hlocks hin hml hK hN A hA hAB hD hP hS ls hl hsz
  have hl : lv_has ls 2 [(0, .ref k0), (1, .int ix)] := hl
  have in_X8 : ∀ w ∈ wsX80, w ∈ wsX8_kindAt := fun _ h => List.mem_cons_of_mem _ ((List.mem_append_right _ h))
  have w_1 := hts (.fieldLink RX8 21 "SleepingCars$Tokens" "size" "I") (by decide +kernel)
  have w_2 := hts (.fieldLink RX8 9 "SleepingCars$Tokens" "kinds" "[I") (by decide +kernel)
  obtain ⟨H, eH⟩ : ∃ H : Heap, H = s.heap := ⟨_, rfl⟩
  obtain ⟨locs, eL⟩ : ∃ L : List Loc, L = [] := ⟨_, rfl⟩
  rw [← eL]
  rw [← eL] at hS
  have hP : va_P D vwCl [Prod.mk k0 (Sum.inr (Prod.mk 8 [Value.int zk, Value.ref k1, Value.ref k2, Value.ref k3])), Prod.mk k1 (Sum.inl (Prod.mk (cy 0) (Prod.mk 401 (Sum.inl tq1))))] H := by rw [eH]; exact hP
  have hS : va_S A s.heap H locs := by rw [eH]; exact hS
  refine W.heapEq eH ?_
  clear eH eL
  refine lv_iload_n hx hb dX8_kindAt_0 rfl (lv_at hl 1 rfl) ?_
  refine lv_if_lt (tgt := 21) hx hb dX8_kindAt_1 (by decide) (fun c1 => ?_) (fun c1 => ?_)
  · skip
    have fc1 := q_lt (a := ix.toInt) (b := 0) c1 rfl (by decide)
    refine lv_bipush (v := 20) hx hb dX8_kindAt_21 (by decide) ?_
    exact r_i hx hb hr hlocks hK hS dX8_kindAt_23 (u := ()) hP hD (trivial)
  · skip
    have fc1 := q_nlt (a := ix.toInt) (b := 0) c1 rfl (by decide)
    refine lv_iload_n hx hb dX8_kindAt_4 rfl (lv_at hl 1 rfl) ?_
    refine lv_aload_n hx hb dX8_kindAt_5 rfl (lv_at hl 0 rfl) ?_
    refine va_get (D := D) (ci := 8) (v := .int zk) (C := RX8) (T := TX8) (N := 4) hx hb hts in_X8 hown hK hP 0 rfl rfl 0 (by decide) w_1 (fun _ h9 => h9) rfl dX8_kindAt_6 ?_
    refine lv_icmp_ge (tgt := 21) hx hb dX8_kindAt_9 (by decide) (fun c9 => ?_) (fun c9 => ?_)
    · skip
      have fc9 := q_le (a := zk.toInt) (b := ix.toInt) c9 rfl rfl
      refine lv_bipush (v := 20) hx hb dX8_kindAt_21 (by decide) ?_
      exact r_i hx hb hr hlocks hK hS dX8_kindAt_23 (u := ()) hP hD (trivial)
    · skip
      have fc9 := q_nle (a := zk.toInt) (b := ix.toInt) c9 rfl rfl
      refine lv_aload_n hx hb dX8_kindAt_12 rfl (lv_at hl 0 rfl) ?_
      refine va_get (D := D) (ci := 8) (v := .ref k1) (C := RX8) (T := TX8) (N := 4) hx hb hts in_X8 hown hK hP 0 rfl rfl 1 (by decide) w_2 (fun _ h9 => h9) rfl dX8_kindAt_13 ?_
      refine lv_iload_n hx hb dX8_kindAt_16 rfl (lv_at hl 1 rfl) ?_
      refine va_iald hx hb hK hP 1 0 rfl rfl (q_in (a := ix.toInt) rfl (by omega) (by omega)) dX8_kindAt_17 ?_
      refine lv_topi (fun x17 ex17 => ?_)
      have tx17 := congrArg Int32.toInt ex17
      refine lv_goto (tgt := 23) hx hb dX8_kindAt_18 (by decide) ?_
      exact r_i hx hb hr hlocks hK hS dX8_kindAt_23 (u := ()) hP hD (trivial)

abbrev Q_c_X8_numberAt (D : va_G) (cy : Nat → ClassId) (E : EN) (k0 : Nat) (k1 : Nat) (k2 : Nat) (k3 : Nat) (zk : Int32) (tq2 : Nat → Int32) (ix : Int32) : (Nat → Prop) → Array Value → State → Outcome → State → Prop := QI D cy (fun (r : Int32) (_ : Unit) => True) (fun _ : Unit => [Prod.mk k0 (Sum.inr (Prod.mk 8 [Value.int zk, Value.ref k1, Value.ref k2, Value.ref k3])), Prod.mk k2 (Sum.inl (Prod.mk (cy 0) (Prod.mk 401 (Sum.inl tq2))))])
set_option maxHeartbeats 4000000 in
set_option maxRecDepth 100000 in
theorem c_X8_numberAt (l : Launch) (D : va_G) (cy : Nat → ClassId) (E : EN) (k0 : Nat) (k1 : Nat) (k2 : Nat) (k3 : Nat) (zk : Int32) (tq2 : Nat → Int32) (ix : Int32) (sz : Nat) (hzk : 0 ≤ zk.toInt ∧ zk.toInt ≤ 401) : Met l yX8_numberAt wsX8_numberAt ({ frames := 0, cells := 0, slots := 0, locals := 0 } : Room) (CP D cy E [.ref k0, .int ix] [Prod.mk k0 (Sum.inr (Prod.mk 8 [Value.int zk, Value.ref k1, Value.ref k2, Value.ref k3])), Prod.mk k2 (Sum.inl (Prod.mk (cy 0) (Prod.mk 401 (Sum.inl tq2))))] sz) (Q_c_X8_numberAt D cy E k0 k1 k2 k3 zk tq2 ix (va_A [Prod.mk k0 (Sum.inr (Prod.mk 8 [Value.int zk, Value.ref k1, Value.ref k2, Value.ref k3])), Prod.mk k2 (Sum.inl (Prod.mk (cy 0) (Prod.mk 401 (Sum.inl tq2))))] sz)) 0 0 (va_A [Prod.mk k0 (Sum.inr (Prod.mk 8 [Value.int zk, Value.ref k1, Value.ref k2, Value.ref k3])), Prod.mk k2 (Sum.inl (Prod.mk (cy 0) (Prod.mk 401 (Sum.inl tq2))))] sz) := by
  refine Met.go (Qc := Q_c_X8_numberAt D cy E k0 k1 k2 k3 zk tq2 ix) (cc := cX8_numberAt) (maxL := 2) (ret := (some .int)) (by decide) rfl (Nat.le_of_ble_eq_true rfl) ?_
  intro p e s m below meth c hx hb hr hts hown hlocks hin hml hK hN A hA hAB hD hP hS ls hl hsz
  have hl : lv_has ls 2 [(0, .ref k0), (1, .int ix)] := hl
  have in_X8 : ∀ w ∈ wsX80, w ∈ wsX8_numberAt := fun _ h => List.mem_cons_of_mem _ ((List.mem_append_right _ h))
  have w_1 := hts (.fieldLink RX8 21 "SleepingCars$Tokens" "size" "I") (by decide +kernel)
  have w_2 := hts (.fieldLink RX8 15 "SleepingCars$Tokens" "numbers" "[I") (by decide +kernel)
  obtain ⟨H, eH⟩ : ∃ H : Heap, H = s.heap := ⟨_, rfl⟩
  obtain ⟨locs, eL⟩ : ∃ L : List Loc, L = [] := ⟨_, rfl⟩
  rw [← eL]
  rw [← eL] at hS
  have hP : va_P D vwCl [Prod.mk k0 (Sum.inr (Prod.mk 8 [Value.int zk, Value.ref k1, Value.ref k2, Value.ref k3])), Prod.mk k2 (Sum.inl (Prod.mk (cy 0) (Prod.mk 401 (Sum.inl tq2))))] H := by rw [eH]; exact hP
  have hS : va_S A s.heap H locs := by rw [eH]; exact hS
  refine W.heapEq eH ?_
  clear eH eL
  refine lv_iload_n hx hb dX8_numberAt_0 rfl (lv_at hl 1 rfl) ?_
  refine lv_if_lt (tgt := 21) hx hb dX8_numberAt_1 (by decide) (fun c1 => ?_) (fun c1 => ?_)
  · skip
    have fc1 := q_lt (a := ix.toInt) (b := 0) c1 rfl (by decide)
    refine lv_iconst (v := 0) hx hb dX8_numberAt_21 (by decide) ?_
    exact r_i hx hb hr hlocks hK hS dX8_numberAt_22 (u := ()) hP hD (trivial)
  · skip
    have fc1 := q_nlt (a := ix.toInt) (b := 0) c1 rfl (by decide)
    refine lv_iload_n hx hb dX8_numberAt_4 rfl (lv_at hl 1 rfl) ?_
    refine lv_aload_n hx hb dX8_numberAt_5 rfl (lv_at hl 0 rfl) ?_
    refine va_get (D := D) (ci := 8) (v := .int zk) (C := RX8) (T := TX8) (N := 4) hx hb hts in_X8 hown hK hP 0 rfl rfl 0 (by decide) w_1 (fun _ h9 => h9) rfl dX8_numberAt_6 ?_
    refine lv_icmp_ge (tgt := 21) hx hb dX8_numberAt_9 (by decide) (fun c9 => ?_) (fun c9 => ?_)
    · skip
      have fc9 := q_le (a := zk.toInt) (b := ix.toInt) c9 rfl rfl
      refine lv_iconst (v := 0) hx hb dX8_numberAt_21 (by decide) ?_
      exact r_i hx hb hr hlocks hK hS dX8_numberAt_22 (u := ()) hP hD (trivial)
    · skip
      have fc9 := q_nle (a := zk.toInt) (b := ix.toInt) c9 rfl rfl
      refine lv_aload_n hx hb dX8_numberAt_12 rfl (lv_at hl 0 rfl) ?_
      refine va_get (D := D) (ci := 8) (v := .ref k2) (C := RX8) (T := TX8) (N := 4) hx hb hts in_X8 hown hK hP 0 rfl rfl 2 (by decide) w_2 (fun _ h9 => h9) rfl dX8_numberAt_13 ?_
      refine lv_iload_n hx hb dX8_numberAt_16 rfl (lv_at hl 1 rfl) ?_
      refine va_iald hx hb hK hP 1 0 rfl rfl (q_in (a := ix.toInt) rfl (by omega) (by omega)) dX8_numberAt_17 ?_
      refine lv_topi (fun x17 ex17 => ?_)
      have tx17 := congrArg Int32.toInt ex17
      refine lv_goto (tgt := 22) hx hb dX8_numberAt_18 (by decide) ?_
      exact r_i hx hb hr hlocks hK hS dX8_numberAt_22 (u := ()) hP hD (trivial)

abbrev Q_c_X8_placeAt (D : va_G) (cy : Nat → ClassId) (E : EN) (k0 : Nat) (k1 : Nat) (k2 : Nat) (k3 : Nat) (zk : Int32) (tq3 : Nat → Int32) (ix : Int32) : (Nat → Prop) → Array Value → State → Outcome → State → Prop := QI D cy (fun (r : Int32) (_ : Unit) => True) (fun _ : Unit => [Prod.mk k0 (Sum.inr (Prod.mk 8 [Value.int zk, Value.ref k1, Value.ref k2, Value.ref k3])), Prod.mk k3 (Sum.inl (Prod.mk (cy 0) (Prod.mk 401 (Sum.inl tq3))))])
set_option maxHeartbeats 4000000 in
set_option maxRecDepth 100000 in
theorem c_X8_placeAt (l : Launch) (D : va_G) (cy : Nat → ClassId) (E : EN) (k0 : Nat) (k1 : Nat) (k2 : Nat) (k3 : Nat) (zk : Int32) (tq3 : Nat → Int32) (ix : Int32) (sz : Nat) (hzk : 0 ≤ zk.toInt ∧ zk.toInt ≤ 401) : Met l yX8_placeAt wsX8_placeAt ({ frames := 0, cells := 0, slots := 0, locals := 0 } : Room) (CP D cy E [.ref k0, .int ix] [Prod.mk k0 (Sum.inr (Prod.mk 8 [Value.int zk, Value.ref k1, Value.ref k2, Value.ref k3])), Prod.mk k3 (Sum.inl (Prod.mk (cy 0) (Prod.mk 401 (Sum.inl tq3))))] sz) (Q_c_X8_placeAt D cy E k0 k1 k2 k3 zk tq3 ix (va_A [Prod.mk k0 (Sum.inr (Prod.mk 8 [Value.int zk, Value.ref k1, Value.ref k2, Value.ref k3])), Prod.mk k3 (Sum.inl (Prod.mk (cy 0) (Prod.mk 401 (Sum.inl tq3))))] sz)) 0 0 (va_A [Prod.mk k0 (Sum.inr (Prod.mk 8 [Value.int zk, Value.ref k1, Value.ref k2, Value.ref k3])), Prod.mk k3 (Sum.inl (Prod.mk (cy 0) (Prod.mk 401 (Sum.inl tq3))))] sz) := by
  refine Met.go (Qc := Q_c_X8_placeAt D cy E k0 k1 k2 k3 zk tq3 ix) (cc := cX8_placeAt) (maxL := 2) (ret := (some .int)) (by decide) rfl (Nat.le_of_ble_eq_true rfl) ?_
  intro p e s m below meth c hx hb hr hts hown hlocks hin hml hK hN A hA hAB hD hP hS ls hl hsz
  have hl : lv_has ls 2 [(0, .ref k0), (1, .int ix)] := hl
  have in_X8 : ∀ w ∈ wsX80, w ∈ wsX8_placeAt := fun _ h => List.mem_cons_of_mem _ ((List.mem_append_right _ h))
  have w_1 := hts (.fieldLink RX8 21 "SleepingCars$Tokens" "size" "I") (by decide +kernel)
  have w_2 := hts (.fieldLink RX8 18 "SleepingCars$Tokens" "places" "[I") (by decide +kernel)
  obtain ⟨H, eH⟩ : ∃ H : Heap, H = s.heap := ⟨_, rfl⟩
  obtain ⟨locs, eL⟩ : ∃ L : List Loc, L = [] := ⟨_, rfl⟩
  rw [← eL]
  rw [← eL] at hS
  have hP : va_P D vwCl [Prod.mk k0 (Sum.inr (Prod.mk 8 [Value.int zk, Value.ref k1, Value.ref k2, Value.ref k3])), Prod.mk k3 (Sum.inl (Prod.mk (cy 0) (Prod.mk 401 (Sum.inl tq3))))] H := by rw [eH]; exact hP
  have hS : va_S A s.heap H locs := by rw [eH]; exact hS
  refine W.heapEq eH ?_
  clear eH eL
  refine lv_iload_n hx hb dX8_placeAt_0 rfl (lv_at hl 1 rfl) ?_
  refine lv_if_lt (tgt := 21) hx hb dX8_placeAt_1 (by decide) (fun c1 => ?_) (fun c1 => ?_)
  · skip
    have fc1 := q_lt (a := ix.toInt) (b := 0) c1 rfl (by decide)
    refine lv_iconst (v := (-1)) hx hb dX8_placeAt_21 (by decide) ?_
    exact r_i hx hb hr hlocks hK hS dX8_placeAt_22 (u := ()) hP hD (trivial)
  · skip
    have fc1 := q_nlt (a := ix.toInt) (b := 0) c1 rfl (by decide)
    refine lv_iload_n hx hb dX8_placeAt_4 rfl (lv_at hl 1 rfl) ?_
    refine lv_aload_n hx hb dX8_placeAt_5 rfl (lv_at hl 0 rfl) ?_
    refine va_get (D := D) (ci := 8) (v := .int zk) (C := RX8) (T := TX8) (N := 4) hx hb hts in_X8 hown hK hP 0 rfl rfl 0 (by decide) w_1 (fun _ h9 => h9) rfl dX8_placeAt_6 ?_
    refine lv_icmp_ge (tgt := 21) hx hb dX8_placeAt_9 (by decide) (fun c9 => ?_) (fun c9 => ?_)
    · skip
      have fc9 := q_le (a := zk.toInt) (b := ix.toInt) c9 rfl rfl
      refine lv_iconst (v := (-1)) hx hb dX8_placeAt_21 (by decide) ?_
      exact r_i hx hb hr hlocks hK hS dX8_placeAt_22 (u := ()) hP hD (trivial)
    · skip
      have fc9 := q_nle (a := zk.toInt) (b := ix.toInt) c9 rfl rfl
      refine lv_aload_n hx hb dX8_placeAt_12 rfl (lv_at hl 0 rfl) ?_
      refine va_get (D := D) (ci := 8) (v := .ref k3) (C := RX8) (T := TX8) (N := 4) hx hb hts in_X8 hown hK hP 0 rfl rfl 3 (by decide) w_2 (fun _ h9 => h9) rfl dX8_placeAt_13 ?_
      refine lv_iload_n hx hb dX8_placeAt_16 rfl (lv_at hl 1 rfl) ?_
      refine va_iald hx hb hK hP 1 0 rfl rfl (q_in (a := ix.toInt) rfl (by omega) (by omega)) dX8_placeAt_17 ?_
      refine lv_topi (fun x17 ex17 => ?_)
      have tx17 := congrArg Int32.toInt ex17
      refine lv_goto (tgt := 22) hx hb dX8_placeAt_18 (by decide) ?_
      exact r_i hx hb hr hlocks hK hS dX8_placeAt_22 (u := ()) hP hD (trivial)

abbrev Q_c_X8_takeAt (D : va_G) (cy : Nat → ClassId) (E : EN) (k0 : Nat) (k1 : Nat) (k2 : Nat) (k3 : Nat) (tp : Nat) (tb : Nat) (zk : Int32) (ztp : Int32) (tq1 : Nat → Int32) (tq2 : Nat → Int32) (tq3 : Nat → Int32) (ftb : Nat → Int32) (at_ : Int32) : (Nat → Prop) → Array Value → State → Outcome → State → Prop := QI D cy (fun (r : Int32) (u : Int32 × (Nat → Int32) × (Nat → Int32) × (Nat → Int32)) => match u with | (zz, gk1, gk2, gk3) => 0 ≤ r.toInt ∧ at_.toInt + r.toInt ≤ ztp.toInt ∧ 0 ≤ zz.toInt ∧ zz.toInt ≤ 401) (fun u : Int32 × (Nat → Int32) × (Nat → Int32) × (Nat → Int32) => match u with | (zz, gk1, gk2, gk3) => [Prod.mk k0 (Sum.inr (Prod.mk 8 [Value.int zz, Value.ref k1, Value.ref k2, Value.ref k3])), Prod.mk k1 (Sum.inl (Prod.mk (cy 0) (Prod.mk 401 (Sum.inl gk1)))), Prod.mk k2 (Sum.inl (Prod.mk (cy 0) (Prod.mk 401 (Sum.inl gk2)))), Prod.mk k3 (Sum.inl (Prod.mk (cy 0) (Prod.mk 401 (Sum.inl gk3)))), Prod.mk tp (Sum.inr (Prod.mk 6 [Value.int ztp, Value.ref tb])), Prod.mk tb (Sum.inl (Prod.mk (cy 0) (Prod.mk 400 (Sum.inl ftb))))])
set_option maxHeartbeats 4000000 in
set_option maxRecDepth 100000 in
theorem c_X8_takeAt (l : Launch) (D : va_G) (cy : Nat → ClassId) (E : EN) (k0 : Nat) (k1 : Nat) (k2 : Nat) (k3 : Nat) (tp : Nat) (tb : Nat) (zk : Int32) (ztp : Int32) (tq1 : Nat → Int32) (tq2 : Nat → Int32) (tq3 : Nat → Int32) (ftb : Nat → Int32) (at_ : Int32) (sz : Nat) (hzk : 0 ≤ zk.toInt ∧ zk.toInt ≤ 401) (hat : 0 ≤ at_.toInt ∧ at_.toInt < ztp.toInt ∧ ztp.toInt ≤ 400) : Met l yX8_takeAt wsX8_takeAt ({ frames := 6, cells := 0, slots := 0, locals := 132 } : Room) (CP D cy E [.ref k0, .ref tp, .int at_] [Prod.mk k0 (Sum.inr (Prod.mk 8 [Value.int zk, Value.ref k1, Value.ref k2, Value.ref k3])), Prod.mk k1 (Sum.inl (Prod.mk (cy 0) (Prod.mk 401 (Sum.inl tq1)))), Prod.mk k2 (Sum.inl (Prod.mk (cy 0) (Prod.mk 401 (Sum.inl tq2)))), Prod.mk k3 (Sum.inl (Prod.mk (cy 0) (Prod.mk 401 (Sum.inl tq3)))), Prod.mk tp (Sum.inr (Prod.mk 6 [Value.int ztp, Value.ref tb])), Prod.mk tb (Sum.inl (Prod.mk (cy 0) (Prod.mk 400 (Sum.inl ftb))))] sz) (Q_c_X8_takeAt D cy E k0 k1 k2 k3 tp tb zk ztp tq1 tq2 tq3 ftb at_ (va_A [Prod.mk k0 (Sum.inr (Prod.mk 8 [Value.int zk, Value.ref k1, Value.ref k2, Value.ref k3])), Prod.mk k1 (Sum.inl (Prod.mk (cy 0) (Prod.mk 401 (Sum.inl tq1)))), Prod.mk k2 (Sum.inl (Prod.mk (cy 0) (Prod.mk 401 (Sum.inl tq2)))), Prod.mk k3 (Sum.inl (Prod.mk (cy 0) (Prod.mk 401 (Sum.inl tq3)))), Prod.mk tp (Sum.inr (Prod.mk 6 [Value.int ztp, Value.ref tb])), Prod.mk tb (Sum.inl (Prod.mk (cy 0) (Prod.mk 400 (Sum.inl ftb))))] sz)) 0 0 (va_A [Prod.mk k0 (Sum.inr (Prod.mk 8 [Value.int zk, Value.ref k1, Value.ref k2, Value.ref k3])), Prod.mk k1 (Sum.inl (Prod.mk (cy 0) (Prod.mk 401 (Sum.inl tq1)))), Prod.mk k2 (Sum.inl (Prod.mk (cy 0) (Prod.mk 401 (Sum.inl tq2)))), Prod.mk k3 (Sum.inl (Prod.mk (cy 0) (Prod.mk 401 (Sum.inl tq3)))), Prod.mk tp (Sum.inr (Prod.mk 6 [Value.int ztp, Value.ref tb])), Prod.mk tb (Sum.inl (Prod.mk (cy 0) (Prod.mk 400 (Sum.inl ftb))))] sz) := by
  refine Met.go (Qc := Q_c_X8_takeAt D cy E k0 k1 k2 k3 tp tb zk ztp tq1 tq2 tq3 ftb at_) (cc := cX8_takeAt) (maxL := 5) (ret := (some .int)) (by decide) rfl (Nat.le_of_ble_eq_true rfl) ?_
  intro p e s m below meth c hx hb hr hts hown hlocks hin hml hK hN A hA hAB hD hP hS ls hl hsz
  have hl : lv_has ls 5 [(0, .ref k0), (1, .ref tp), (2, .int at_)] := hl
  have in_X6 : ∀ w ∈ wsX60, w ∈ wsX8_takeAt := fun _ h => List.mem_cons_of_mem _ (List.mem_append_left _ ((List.mem_append_right _ h)))
  have w_1 := hts (.fieldLink RX8 42 "SleepingCars$Tape" "bytes" "[I") (by decide +kernel)
  have w_2 := hts (.instanceMethod yX8_add) (by decide +kernel)
  obtain ⟨H, eH⟩ : ∃ H : Heap, H = s.heap := ⟨_, rfl⟩
  obtain ⟨locs, eL⟩ : ∃ L : List Loc, L = [] := ⟨_, rfl⟩
  rw [← eL]
  rw [← eL] at hS
  have hP : va_P D vwCl [Prod.mk k0 (Sum.inr (Prod.mk 8 [Value.int zk, Value.ref k1, Value.ref k2, Value.ref k3])), Prod.mk k1 (Sum.inl (Prod.mk (cy 0) (Prod.mk 401 (Sum.inl tq1)))), Prod.mk k2 (Sum.inl (Prod.mk (cy 0) (Prod.mk 401 (Sum.inl tq2)))), Prod.mk k3 (Sum.inl (Prod.mk (cy 0) (Prod.mk 401 (Sum.inl tq3)))), Prod.mk tp (Sum.inr (Prod.mk 6 [Value.int ztp, Value.ref tb])), Prod.mk tb (Sum.inl (Prod.mk (cy 0) (Prod.mk 400 (Sum.inl ftb))))] H := by rw [eH]; exact hP
  have hS : va_S A s.heap H locs := by rw [eH]; exact hS
  refine W.heapEq eH ?_
  clear eH eL
  refine lv_aload_n hx hb dX8_takeAt_0 rfl (lv_at hl 1 rfl) ?_
  refine va_get (D := D) (ci := 6) (v := .ref tb) (C := RX6) (T := TX6) (N := 2) hx hb hts in_X6 hown hK hP 4 rfl rfl 1 (by decide) w_1 (fun _ h9 => h9) rfl dX8_takeAt_1 ?_
  refine lv_iload_n hx hb dX8_takeAt_4 rfl (lv_at hl 2 rfl) ?_
  refine va_iald hx hb hK hP 5 0 rfl rfl (q_in (a := at_.toInt) rfl (by omega) (by omega)) dX8_takeAt_5 ?_
  refine lv_topi (fun x5 ex5 => ?_)
  have tx5 := congrArg Int32.toInt ex5
  refine lv_istore_n (lv' := [(3, .int x5), (0, .ref k0), (1, .ref tp), (2, .int at_)]) hx hb dX8_takeAt_6 rfl hl (by decide) rfl (fun ls hl => ?_)
  refine lv_iload_n hx hb dX8_takeAt_7 rfl (lv_at hl 0 rfl) ?_
  refine lv_bipush (v := 32) hx hb dX8_takeAt_8 (by decide) ?_
  refine lv_icmp_eq (tgt := 19) hx hb dX8_takeAt_10 (by decide) (fun c10 => ?_) (fun c10 => ?_)
  · skip
    have fc10 := q_eq (a := x5.toInt) (b := 32) c10 rfl (by decide)
    refine lv_iconst (v := 1) hx hb dX8_takeAt_19 (by decide) ?_
    exact r_i hx hb hr hlocks hK hS dX8_takeAt_20 (u := (zk, tq1, tq2, tq3)) hP hD (by first | omega | exact ⟨by decide, by rw [i32_1]; omega, by omega, by omega⟩)
  · skip
    have fc10 := q_ne (a := x5.toInt) (b := 32) c10 rfl (by decide)
    refine lv_iload_n hx hb dX8_takeAt_13 rfl (lv_at hl 0 rfl) ?_
    refine lv_bipush (v := 10) hx hb dX8_takeAt_14 (by decide) ?_
    refine lv_icmp_ne (tgt := 21) hx hb dX8_takeAt_16 (by decide) (fun c16 => ?_) (fun c16 => ?_)
    · skip
      have fc16 := q_ne (a := x5.toInt) (b := 10) c16 rfl (by decide)
      refine lv_iload_n hx hb dX8_takeAt_21 rfl (lv_at hl 0 rfl) ?_
      refine lv_bipush (v := 97) hx hb dX8_takeAt_22 (by decide) ?_
      refine lv_bipush (v := 122) hx hb dX8_takeAt_24 (by decide) ?_
      refine k_i (va_runS (As := [.int x5, .int 97, .int 122]) (rest := []) ⟨hx, hb, hml, hown, hts⟩ (c_X8_isIn l D cy E x5 97 122 97 122 H.size (by decide) (by decide)) (va_cwS 3 hts gX8_takeAt_X8_isIn rfl rfl rfl (by decide +kernel) ⟨Nat.le_of_ble_eq_true rfl, Nat.le_of_ble_eq_true rfl⟩) (cp_s hK hN hS hAB hP hD [] rfl (by decide)) rfl rfl hl.1 rfl (lv_room (Nat.le_of_ble_eq_true rfl)) dX8_takeAt_26 ⟨Nat.le_of_ble_eq_true rfl, Nat.le_of_ble_eq_true rfl⟩) hP hD hS hA [] [0, 1, 2, 3, 4, 5] (wr := [Prod.mk k0 (Sum.inr (Prod.mk 8 [Value.int zk, Value.ref k1, Value.ref k2, Value.ref k3])), Prod.mk k1 (Sum.inl (Prod.mk (cy 0) (Prod.mk 401 (Sum.inl tq1)))), Prod.mk k2 (Sum.inl (Prod.mk (cy 0) (Prod.mk 401 (Sum.inl tq2)))), Prod.mk k3 (Sum.inl (Prod.mk (cy 0) (Prod.mk 401 (Sum.inl tq3)))), Prod.mk tp (Sum.inr (Prod.mk 6 [Value.int ztp, Value.ref tb])), Prod.mk tb (Sum.inl (Prod.mk (cy 0) (Prod.mk 400 (Sum.inl ftb))))]) rfl rfl (by decide) (by decide) (fun rr26 u_rr26 H locs hw26 hP hD hS => ?_)
      try dsimp only at hw26
      have hP : va_P D vwCl [Prod.mk k0 (Sum.inr (Prod.mk 8 [Value.int zk, Value.ref k1, Value.ref k2, Value.ref k3])), Prod.mk k1 (Sum.inl (Prod.mk (cy 0) (Prod.mk 401 (Sum.inl tq1)))), Prod.mk k2 (Sum.inl (Prod.mk (cy 0) (Prod.mk 401 (Sum.inl tq2)))), Prod.mk k3 (Sum.inl (Prod.mk (cy 0) (Prod.mk 401 (Sum.inl tq3)))), Prod.mk tp (Sum.inr (Prod.mk 6 [Value.int ztp, Value.ref tb])), Prod.mk tb (Sum.inl (Prod.mk (cy 0) (Prod.mk 400 (Sum.inl ftb))))] H := hP
      have hD : va_D A [Prod.mk k0 (Sum.inr (Prod.mk 8 [Value.int zk, Value.ref k1, Value.ref k2, Value.ref k3])), Prod.mk k1 (Sum.inl (Prod.mk (cy 0) (Prod.mk 401 (Sum.inl tq1)))), Prod.mk k2 (Sum.inl (Prod.mk (cy 0) (Prod.mk 401 (Sum.inl tq2)))), Prod.mk k3 (Sum.inl (Prod.mk (cy 0) (Prod.mk 401 (Sum.inl tq3)))), Prod.mk tp (Sum.inr (Prod.mk 6 [Value.int ztp, Value.ref tb])), Prod.mk tb (Sum.inl (Prod.mk (cy 0) (Prod.mk 400 (Sum.inl ftb))))] := hD
      refine lv_if_eq (tgt := 59) hx hb dX8_takeAt_29 (by decide) (fun c29 => ?_) (fun c29 => ?_)
      · skip
        have fc29 := q_eq (a := rr26.toInt) (b := 0) c29 rfl (by decide)
        refine lv_iload_n hx hb dX8_takeAt_59 rfl (lv_at hl 0 rfl) ?_
        refine lv_bipush (v := 48) hx hb dX8_takeAt_60 (by decide) ?_
        refine lv_bipush (v := 57) hx hb dX8_takeAt_62 (by decide) ?_
        refine k_i (va_runS (As := [.int x5, .int 48, .int 57]) (rest := []) ⟨hx, hb, hml, hown, hts⟩ (c_X8_isIn l D cy E x5 48 57 48 57 H.size (by decide) (by decide)) (va_cwS 3 hts gX8_takeAt_X8_isIn rfl rfl rfl (by decide +kernel) ⟨Nat.le_of_ble_eq_true rfl, Nat.le_of_ble_eq_true rfl⟩) (cp_s hK hN hS hAB hP hD [] rfl (by decide)) rfl rfl hl.1 rfl (lv_room (Nat.le_of_ble_eq_true rfl)) dX8_takeAt_64 ⟨Nat.le_of_ble_eq_true rfl, Nat.le_of_ble_eq_true rfl⟩) hP hD hS hA [] [0, 1, 2, 3, 4, 5] (wr := [Prod.mk k0 (Sum.inr (Prod.mk 8 [Value.int zk, Value.ref k1, Value.ref k2, Value.ref k3])), Prod.mk k1 (Sum.inl (Prod.mk (cy 0) (Prod.mk 401 (Sum.inl tq1)))), Prod.mk k2 (Sum.inl (Prod.mk (cy 0) (Prod.mk 401 (Sum.inl tq2)))), Prod.mk k3 (Sum.inl (Prod.mk (cy 0) (Prod.mk 401 (Sum.inl tq3)))), Prod.mk tp (Sum.inr (Prod.mk 6 [Value.int ztp, Value.ref tb])), Prod.mk tb (Sum.inl (Prod.mk (cy 0) (Prod.mk 400 (Sum.inl ftb))))]) rfl rfl (by decide) (by decide) (fun rr64 u_rr64 H locs hw64 hP hD hS => ?_)
        try dsimp only at hw64
        have hP : va_P D vwCl [Prod.mk k0 (Sum.inr (Prod.mk 8 [Value.int zk, Value.ref k1, Value.ref k2, Value.ref k3])), Prod.mk k1 (Sum.inl (Prod.mk (cy 0) (Prod.mk 401 (Sum.inl tq1)))), Prod.mk k2 (Sum.inl (Prod.mk (cy 0) (Prod.mk 401 (Sum.inl tq2)))), Prod.mk k3 (Sum.inl (Prod.mk (cy 0) (Prod.mk 401 (Sum.inl tq3)))), Prod.mk tp (Sum.inr (Prod.mk 6 [Value.int ztp, Value.ref tb])), Prod.mk tb (Sum.inl (Prod.mk (cy 0) (Prod.mk 400 (Sum.inl ftb))))] H := hP
        have hD : va_D A [Prod.mk k0 (Sum.inr (Prod.mk 8 [Value.int zk, Value.ref k1, Value.ref k2, Value.ref k3])), Prod.mk k1 (Sum.inl (Prod.mk (cy 0) (Prod.mk 401 (Sum.inl tq1)))), Prod.mk k2 (Sum.inl (Prod.mk (cy 0) (Prod.mk 401 (Sum.inl tq2)))), Prod.mk k3 (Sum.inl (Prod.mk (cy 0) (Prod.mk 401 (Sum.inl tq3)))), Prod.mk tp (Sum.inr (Prod.mk 6 [Value.int ztp, Value.ref tb])), Prod.mk tb (Sum.inl (Prod.mk (cy 0) (Prod.mk 400 (Sum.inl ftb))))] := hD
        refine lv_if_eq (tgt := 109) hx hb dX8_takeAt_67 (by decide) (fun c67 => ?_) (fun c67 => ?_)
        · skip
          have fc67 := q_eq (a := rr64.toInt) (b := 0) c67 rfl (by decide)
          refine lv_aload_n hx hb dX8_takeAt_109 rfl (lv_at hl 1 rfl) ?_
          refine lv_iload_n hx hb dX8_takeAt_110 rfl (lv_at hl 0 rfl) ?_
          refine k_i (va_runS (As := [.int x5]) (rest := [.ref k0]) ⟨hx, hb, hml, hown, hts⟩ (c_X8_signKind l D cy E x5 H.size ) (va_cwS 1 hts gX8_takeAt_X8_signKind rfl rfl rfl (by decide +kernel) ⟨Nat.le_of_ble_eq_true rfl, Nat.le_of_ble_eq_true rfl⟩) (cp_s hK hN hS hAB hP hD [] rfl (by decide)) rfl rfl hl.1 rfl (lv_room (Nat.le_of_ble_eq_true rfl)) dX8_takeAt_111 ⟨Nat.le_of_ble_eq_true rfl, Nat.le_of_ble_eq_true rfl⟩) hP hD hS hA [] [0, 1, 2, 3, 4, 5] (wr := [Prod.mk k0 (Sum.inr (Prod.mk 8 [Value.int zk, Value.ref k1, Value.ref k2, Value.ref k3])), Prod.mk k1 (Sum.inl (Prod.mk (cy 0) (Prod.mk 401 (Sum.inl tq1)))), Prod.mk k2 (Sum.inl (Prod.mk (cy 0) (Prod.mk 401 (Sum.inl tq2)))), Prod.mk k3 (Sum.inl (Prod.mk (cy 0) (Prod.mk 401 (Sum.inl tq3)))), Prod.mk tp (Sum.inr (Prod.mk 6 [Value.int ztp, Value.ref tb])), Prod.mk tb (Sum.inl (Prod.mk (cy 0) (Prod.mk 400 (Sum.inl ftb))))]) rfl rfl (by decide) (by decide) (fun rr111 u_rr111 H locs hw111 hP hD hS => ?_)
          try dsimp only at hw111
          have hP : va_P D vwCl [Prod.mk k0 (Sum.inr (Prod.mk 8 [Value.int zk, Value.ref k1, Value.ref k2, Value.ref k3])), Prod.mk k1 (Sum.inl (Prod.mk (cy 0) (Prod.mk 401 (Sum.inl tq1)))), Prod.mk k2 (Sum.inl (Prod.mk (cy 0) (Prod.mk 401 (Sum.inl tq2)))), Prod.mk k3 (Sum.inl (Prod.mk (cy 0) (Prod.mk 401 (Sum.inl tq3)))), Prod.mk tp (Sum.inr (Prod.mk 6 [Value.int ztp, Value.ref tb])), Prod.mk tb (Sum.inl (Prod.mk (cy 0) (Prod.mk 400 (Sum.inl ftb))))] H := hP
          have hD : va_D A [Prod.mk k0 (Sum.inr (Prod.mk 8 [Value.int zk, Value.ref k1, Value.ref k2, Value.ref k3])), Prod.mk k1 (Sum.inl (Prod.mk (cy 0) (Prod.mk 401 (Sum.inl tq1)))), Prod.mk k2 (Sum.inl (Prod.mk (cy 0) (Prod.mk 401 (Sum.inl tq2)))), Prod.mk k3 (Sum.inl (Prod.mk (cy 0) (Prod.mk 401 (Sum.inl tq3)))), Prod.mk tp (Sum.inr (Prod.mk 6 [Value.int ztp, Value.ref tb])), Prod.mk tb (Sum.inl (Prod.mk (cy 0) (Prod.mk 400 (Sum.inl ftb))))] := hD
          refine lv_iconst (v := 0) hx hb dX8_takeAt_114 (by decide) ?_
          refine lv_iload_n hx hb dX8_takeAt_115 rfl (lv_at hl 3 rfl) ?_
          refine k_v (va_runV (As := [.int rr111, .int 0, .int at_]) (rest := []) ⟨hx, hb, hml, hown, hts⟩ (c_X8_add l D cy E k0 k1 k2 k3 zk tq1 tq2 tq3 rr111 0 at_ H.size (by first | omega | decide | (constructor <;> first | omega | decide))) (cwV 3 hts gX8_takeAt_X8_add rfl rfl rfl (by decide +kernel) ⟨Nat.le_of_ble_eq_true rfl, Nat.le_of_ble_eq_true rfl⟩) (cp_v hK hN hS hAB hP hD [0, 1, 2, 3] rfl (by decide) (ci := 8) rfl rfl rfl) rfl rfl hl.1 rfl (lv_room (Nat.le_of_ble_eq_true rfl)) dX8_takeAt_116 ⟨Nat.le_of_ble_eq_true rfl, Nat.le_of_ble_eq_true rfl⟩) hP hD hS hA [0, 1, 2, 3] [4, 5] (wr := [Prod.mk tp (Sum.inr (Prod.mk 6 [Value.int ztp, Value.ref tb])), Prod.mk tb (Sum.inl (Prod.mk (cy 0) (Prod.mk 400 (Sum.inl ftb))))]) rfl rfl (by decide) (by decide) (fun u_rr116 H locs hw116 hP hD hS => ?_)
          obtain ⟨o116, o116_1, o116_2, o116_3⟩ := u_rr116
          try dsimp only at hw116
          have hP : va_P D vwCl [Prod.mk tp (Sum.inr (Prod.mk 6 [Value.int ztp, Value.ref tb])), Prod.mk tb (Sum.inl (Prod.mk (cy 0) (Prod.mk 400 (Sum.inl ftb)))), Prod.mk k0 (Sum.inr (Prod.mk 8 [Value.int o116, Value.ref k1, Value.ref k2, Value.ref k3])), Prod.mk k1 (Sum.inl (Prod.mk (cy 0) (Prod.mk 401 (Sum.inl o116_1)))), Prod.mk k2 (Sum.inl (Prod.mk (cy 0) (Prod.mk 401 (Sum.inl o116_2)))), Prod.mk k3 (Sum.inl (Prod.mk (cy 0) (Prod.mk 401 (Sum.inl o116_3))))] H := hP
          have hD : va_D A [Prod.mk tp (Sum.inr (Prod.mk 6 [Value.int ztp, Value.ref tb])), Prod.mk tb (Sum.inl (Prod.mk (cy 0) (Prod.mk 400 (Sum.inl ftb)))), Prod.mk k0 (Sum.inr (Prod.mk 8 [Value.int o116, Value.ref k1, Value.ref k2, Value.ref k3])), Prod.mk k1 (Sum.inl (Prod.mk (cy 0) (Prod.mk 401 (Sum.inl o116_1)))), Prod.mk k2 (Sum.inl (Prod.mk (cy 0) (Prod.mk 401 (Sum.inl o116_2)))), Prod.mk k3 (Sum.inl (Prod.mk (cy 0) (Prod.mk 401 (Sum.inl o116_3))))] := hD
          refine lv_iconst (v := 1) hx hb dX8_takeAt_119 (by decide) ?_
          exact r_i hx hb hr hlocks hK hS dX8_takeAt_120 (u := (o116, o116_1, o116_2, o116_3)) (hP.sub (ws' := [Prod.mk k0 (Sum.inr (Prod.mk 8 [Value.int o116, Value.ref k1, Value.ref k2, Value.ref k3])), Prod.mk k1 (Sum.inl (Prod.mk (cy 0) (Prod.mk 401 (Sum.inl o116_1)))), Prod.mk k2 (Sum.inl (Prod.mk (cy 0) (Prod.mk 401 (Sum.inl o116_2)))), Prod.mk k3 (Sum.inl (Prod.mk (cy 0) (Prod.mk 401 (Sum.inl o116_3)))), Prod.mk tp (Sum.inr (Prod.mk 6 [Value.int ztp, Value.ref tb])), Prod.mk tb (Sum.inl (Prod.mk (cy 0) (Prod.mk 400 (Sum.inl ftb))))]) [2, 3, 4, 5, 0, 1] rfl) (hD.sub (ws' := [Prod.mk k0 (Sum.inr (Prod.mk 8 [Value.int o116, Value.ref k1, Value.ref k2, Value.ref k3])), Prod.mk k1 (Sum.inl (Prod.mk (cy 0) (Prod.mk 401 (Sum.inl o116_1)))), Prod.mk k2 (Sum.inl (Prod.mk (cy 0) (Prod.mk 401 (Sum.inl o116_2)))), Prod.mk k3 (Sum.inl (Prod.mk (cy 0) (Prod.mk 401 (Sum.inl o116_3)))), Prod.mk tp (Sum.inr (Prod.mk 6 [Value.int ztp, Value.ref tb])), Prod.mk tb (Sum.inl (Prod.mk (cy 0) (Prod.mk 400 (Sum.inl ftb))))]) [2, 3, 4, 5, 0, 1] (by decide) rfl) (by first | omega | exact ⟨by decide, by rw [i32_1]; omega, by omega, by omega⟩)
        · skip
          have fc67 := q_ne (a := rr64.toInt) (b := 0) c67 rfl (by decide)
          refine lv_aload_n hx hb dX8_takeAt_70 rfl (lv_at hl 2 rfl) ?_
          refine lv_iload_n hx hb dX8_takeAt_71 rfl (lv_at hl 3 rfl) ?_
          refine lv_bipush (v := 48) hx hb dX8_takeAt_72 (by decide) ?_
          refine lv_bipush (v := 57) hx hb dX8_takeAt_74 (by decide) ?_
          refine k_i (va_runS (As := [.ref tp, .int at_, .int 48, .int 57]) (rest := []) ⟨hx, hb, hml, hown, hts⟩ (c_X8_rowLength l D cy E tp tb ztp ftb at_ 48 57 H.size (by first | omega | decide | (constructor <;> first | omega | decide))) (va_cwS 4 hts gX8_takeAt_X8_rowLength rfl rfl rfl (by decide +kernel) ⟨Nat.le_of_ble_eq_true rfl, Nat.le_of_ble_eq_true rfl⟩) (cp_s hK hN hS hAB hP hD [4, 5] rfl (by decide)) rfl rfl hl.1 rfl (lv_room (Nat.le_of_ble_eq_true rfl)) dX8_takeAt_76 ⟨Nat.le_of_ble_eq_true rfl, Nat.le_of_ble_eq_true rfl⟩) hP hD hS hA [4, 5] [0, 1, 2, 3] (wr := [Prod.mk k0 (Sum.inr (Prod.mk 8 [Value.int zk, Value.ref k1, Value.ref k2, Value.ref k3])), Prod.mk k1 (Sum.inl (Prod.mk (cy 0) (Prod.mk 401 (Sum.inl tq1)))), Prod.mk k2 (Sum.inl (Prod.mk (cy 0) (Prod.mk 401 (Sum.inl tq2)))), Prod.mk k3 (Sum.inl (Prod.mk (cy 0) (Prod.mk 401 (Sum.inl tq3))))]) rfl rfl (by decide) (by decide) (fun rr76 u_rr76 H locs hw76 hP hD hS => ?_)
          try dsimp only at hw76
          have hP : va_P D vwCl [Prod.mk k0 (Sum.inr (Prod.mk 8 [Value.int zk, Value.ref k1, Value.ref k2, Value.ref k3])), Prod.mk k1 (Sum.inl (Prod.mk (cy 0) (Prod.mk 401 (Sum.inl tq1)))), Prod.mk k2 (Sum.inl (Prod.mk (cy 0) (Prod.mk 401 (Sum.inl tq2)))), Prod.mk k3 (Sum.inl (Prod.mk (cy 0) (Prod.mk 401 (Sum.inl tq3)))), Prod.mk tp (Sum.inr (Prod.mk 6 [Value.int ztp, Value.ref tb])), Prod.mk tb (Sum.inl (Prod.mk (cy 0) (Prod.mk 400 (Sum.inl ftb))))] H := hP
          have hD : va_D A [Prod.mk k0 (Sum.inr (Prod.mk 8 [Value.int zk, Value.ref k1, Value.ref k2, Value.ref k3])), Prod.mk k1 (Sum.inl (Prod.mk (cy 0) (Prod.mk 401 (Sum.inl tq1)))), Prod.mk k2 (Sum.inl (Prod.mk (cy 0) (Prod.mk 401 (Sum.inl tq2)))), Prod.mk k3 (Sum.inl (Prod.mk (cy 0) (Prod.mk 401 (Sum.inl tq3)))), Prod.mk tp (Sum.inr (Prod.mk 6 [Value.int ztp, Value.ref tb])), Prod.mk tb (Sum.inl (Prod.mk (cy 0) (Prod.mk 400 (Sum.inl ftb))))] := hD
          refine lv_istore (lv' := [(4, .int rr76), (3, .int x5), (0, .ref k0), (1, .ref tp), (2, .int at_)]) hx hb dX8_takeAt_79 hl (by decide) rfl (fun ls hl => ?_)
          refine lv_aload_n hx hb dX8_takeAt_81 rfl (lv_at hl 2 rfl) ?_
          refine lv_iload hx hb dX8_takeAt_82 (lv_at hl 0 rfl) ?_
          refine lv_iconst (v := 4) hx hb dX8_takeAt_84 (by decide) ?_
          refine lv_icmp_le (tgt := 93) hx hb dX8_takeAt_85 (by decide) (fun c85 => ?_) (fun c85 => ?_)
          · skip
            have fc85 := q_le (a := rr76.toInt) (b := 4) c85 rfl (by decide)
            refine lv_bipush (v := 12) hx hb dX8_takeAt_93 (by decide) ?_
            refine lv_aload_n hx hb dX8_takeAt_95 rfl (lv_at hl 3 rfl) ?_
            refine lv_iload_n hx hb dX8_takeAt_96 rfl (lv_at hl 4 rfl) ?_
            refine lv_iload hx hb dX8_takeAt_97 (lv_at hl 0 rfl) ?_
            refine k_i (va_runS (As := [.ref tp, .int at_, .int rr76]) (rest := [.int 12, .ref k0]) ⟨hx, hb, hml, hown, hts⟩ (c_X8_numberOf l D cy E tp tb ztp ftb at_ rr76 H.size (by first | omega | decide | (constructor <;> first | omega | decide))) (va_cwS 3 hts gX8_takeAt_X8_numberOf rfl rfl rfl (by decide +kernel) ⟨Nat.le_of_ble_eq_true rfl, Nat.le_of_ble_eq_true rfl⟩) (cp_s hK hN hS hAB hP hD [4, 5] rfl (by decide)) rfl rfl hl.1 rfl (lv_room (Nat.le_of_ble_eq_true rfl)) dX8_takeAt_99 ⟨Nat.le_of_ble_eq_true rfl, Nat.le_of_ble_eq_true rfl⟩) hP hD hS hA [4, 5] [0, 1, 2, 3] (wr := [Prod.mk k0 (Sum.inr (Prod.mk 8 [Value.int zk, Value.ref k1, Value.ref k2, Value.ref k3])), Prod.mk k1 (Sum.inl (Prod.mk (cy 0) (Prod.mk 401 (Sum.inl tq1)))), Prod.mk k2 (Sum.inl (Prod.mk (cy 0) (Prod.mk 401 (Sum.inl tq2)))), Prod.mk k3 (Sum.inl (Prod.mk (cy 0) (Prod.mk 401 (Sum.inl tq3))))]) rfl rfl (by decide) (by decide) (fun rr99 u_rr99 H locs hw99 hP hD hS => ?_)
            try dsimp only at hw99
            have hP : va_P D vwCl [Prod.mk k0 (Sum.inr (Prod.mk 8 [Value.int zk, Value.ref k1, Value.ref k2, Value.ref k3])), Prod.mk k1 (Sum.inl (Prod.mk (cy 0) (Prod.mk 401 (Sum.inl tq1)))), Prod.mk k2 (Sum.inl (Prod.mk (cy 0) (Prod.mk 401 (Sum.inl tq2)))), Prod.mk k3 (Sum.inl (Prod.mk (cy 0) (Prod.mk 401 (Sum.inl tq3)))), Prod.mk tp (Sum.inr (Prod.mk 6 [Value.int ztp, Value.ref tb])), Prod.mk tb (Sum.inl (Prod.mk (cy 0) (Prod.mk 400 (Sum.inl ftb))))] H := hP
            have hD : va_D A [Prod.mk k0 (Sum.inr (Prod.mk 8 [Value.int zk, Value.ref k1, Value.ref k2, Value.ref k3])), Prod.mk k1 (Sum.inl (Prod.mk (cy 0) (Prod.mk 401 (Sum.inl tq1)))), Prod.mk k2 (Sum.inl (Prod.mk (cy 0) (Prod.mk 401 (Sum.inl tq2)))), Prod.mk k3 (Sum.inl (Prod.mk (cy 0) (Prod.mk 401 (Sum.inl tq3)))), Prod.mk tp (Sum.inr (Prod.mk 6 [Value.int ztp, Value.ref tb])), Prod.mk tb (Sum.inl (Prod.mk (cy 0) (Prod.mk 400 (Sum.inl ftb))))] := hD
            refine lv_iload_n hx hb dX8_takeAt_102 rfl (lv_at hl 4 rfl) ?_
            refine k_v (va_runV (As := [.int 12, .int rr99, .int at_]) (rest := []) ⟨hx, hb, hml, hown, hts⟩ (c_X8_add l D cy E k0 k1 k2 k3 zk tq1 tq2 tq3 12 rr99 at_ H.size (by first | omega | decide | (constructor <;> first | omega | decide))) (cwV 3 hts gX8_takeAt_X8_add rfl rfl rfl (by decide +kernel) ⟨Nat.le_of_ble_eq_true rfl, Nat.le_of_ble_eq_true rfl⟩) (cp_v hK hN hS hAB hP hD [0, 1, 2, 3] rfl (by decide) (ci := 8) rfl rfl rfl) rfl rfl hl.1 rfl (lv_room (Nat.le_of_ble_eq_true rfl)) dX8_takeAt_103 ⟨Nat.le_of_ble_eq_true rfl, Nat.le_of_ble_eq_true rfl⟩) hP hD hS hA [0, 1, 2, 3] [4, 5] (wr := [Prod.mk tp (Sum.inr (Prod.mk 6 [Value.int ztp, Value.ref tb])), Prod.mk tb (Sum.inl (Prod.mk (cy 0) (Prod.mk 400 (Sum.inl ftb))))]) rfl rfl (by decide) (by decide) (fun u_rr103 H locs hw103 hP hD hS => ?_)
            obtain ⟨o103, o103_1, o103_2, o103_3⟩ := u_rr103
            try dsimp only at hw103
            have hP : va_P D vwCl [Prod.mk tp (Sum.inr (Prod.mk 6 [Value.int ztp, Value.ref tb])), Prod.mk tb (Sum.inl (Prod.mk (cy 0) (Prod.mk 400 (Sum.inl ftb)))), Prod.mk k0 (Sum.inr (Prod.mk 8 [Value.int o103, Value.ref k1, Value.ref k2, Value.ref k3])), Prod.mk k1 (Sum.inl (Prod.mk (cy 0) (Prod.mk 401 (Sum.inl o103_1)))), Prod.mk k2 (Sum.inl (Prod.mk (cy 0) (Prod.mk 401 (Sum.inl o103_2)))), Prod.mk k3 (Sum.inl (Prod.mk (cy 0) (Prod.mk 401 (Sum.inl o103_3))))] H := hP
            have hD : va_D A [Prod.mk tp (Sum.inr (Prod.mk 6 [Value.int ztp, Value.ref tb])), Prod.mk tb (Sum.inl (Prod.mk (cy 0) (Prod.mk 400 (Sum.inl ftb)))), Prod.mk k0 (Sum.inr (Prod.mk 8 [Value.int o103, Value.ref k1, Value.ref k2, Value.ref k3])), Prod.mk k1 (Sum.inl (Prod.mk (cy 0) (Prod.mk 401 (Sum.inl o103_1)))), Prod.mk k2 (Sum.inl (Prod.mk (cy 0) (Prod.mk 401 (Sum.inl o103_2)))), Prod.mk k3 (Sum.inl (Prod.mk (cy 0) (Prod.mk 401 (Sum.inl o103_3))))] := hD
            refine lv_iload hx hb dX8_takeAt_106 (lv_at hl 0 rfl) ?_
            exact r_i hx hb hr hlocks hK hS dX8_takeAt_108 (u := (o103, o103_1, o103_2, o103_3)) (hP.sub (ws' := [Prod.mk k0 (Sum.inr (Prod.mk 8 [Value.int o103, Value.ref k1, Value.ref k2, Value.ref k3])), Prod.mk k1 (Sum.inl (Prod.mk (cy 0) (Prod.mk 401 (Sum.inl o103_1)))), Prod.mk k2 (Sum.inl (Prod.mk (cy 0) (Prod.mk 401 (Sum.inl o103_2)))), Prod.mk k3 (Sum.inl (Prod.mk (cy 0) (Prod.mk 401 (Sum.inl o103_3)))), Prod.mk tp (Sum.inr (Prod.mk 6 [Value.int ztp, Value.ref tb])), Prod.mk tb (Sum.inl (Prod.mk (cy 0) (Prod.mk 400 (Sum.inl ftb))))]) [2, 3, 4, 5, 0, 1] rfl) (hD.sub (ws' := [Prod.mk k0 (Sum.inr (Prod.mk 8 [Value.int o103, Value.ref k1, Value.ref k2, Value.ref k3])), Prod.mk k1 (Sum.inl (Prod.mk (cy 0) (Prod.mk 401 (Sum.inl o103_1)))), Prod.mk k2 (Sum.inl (Prod.mk (cy 0) (Prod.mk 401 (Sum.inl o103_2)))), Prod.mk k3 (Sum.inl (Prod.mk (cy 0) (Prod.mk 401 (Sum.inl o103_3)))), Prod.mk tp (Sum.inr (Prod.mk 6 [Value.int ztp, Value.ref tb])), Prod.mk tb (Sum.inl (Prod.mk (cy 0) (Prod.mk 400 (Sum.inl ftb))))]) [2, 3, 4, 5, 0, 1] (by decide) rfl) (by first | omega | exact ⟨by decide, by rw [i32_1]; omega, by omega, by omega⟩)
          · skip
            have fc85 := q_nle (a := rr76.toInt) (b := 4) c85 rfl (by decide)
            refine lv_bipush (v := 19) hx hb dX8_takeAt_88 (by decide) ?_
            refine lv_goto (tgt := 95) hx hb dX8_takeAt_90 (by decide) ?_
            refine lv_aload_n hx hb dX8_takeAt_95 rfl (lv_at hl 3 rfl) ?_
            refine lv_iload_n hx hb dX8_takeAt_96 rfl (lv_at hl 4 rfl) ?_
            refine lv_iload hx hb dX8_takeAt_97 (lv_at hl 0 rfl) ?_
            refine k_i (va_runS (As := [.ref tp, .int at_, .int rr76]) (rest := [.int 19, .ref k0]) ⟨hx, hb, hml, hown, hts⟩ (c_X8_numberOf l D cy E tp tb ztp ftb at_ rr76 H.size (by first | omega | decide | (constructor <;> first | omega | decide))) (va_cwS 3 hts gX8_takeAt_X8_numberOf rfl rfl rfl (by decide +kernel) ⟨Nat.le_of_ble_eq_true rfl, Nat.le_of_ble_eq_true rfl⟩) (cp_s hK hN hS hAB hP hD [4, 5] rfl (by decide)) rfl rfl hl.1 rfl (lv_room (Nat.le_of_ble_eq_true rfl)) dX8_takeAt_99 ⟨Nat.le_of_ble_eq_true rfl, Nat.le_of_ble_eq_true rfl⟩) hP hD hS hA [4, 5] [0, 1, 2, 3] (wr := [Prod.mk k0 (Sum.inr (Prod.mk 8 [Value.int zk, Value.ref k1, Value.ref k2, Value.ref k3])), Prod.mk k1 (Sum.inl (Prod.mk (cy 0) (Prod.mk 401 (Sum.inl tq1)))), Prod.mk k2 (Sum.inl (Prod.mk (cy 0) (Prod.mk 401 (Sum.inl tq2)))), Prod.mk k3 (Sum.inl (Prod.mk (cy 0) (Prod.mk 401 (Sum.inl tq3))))]) rfl rfl (by decide) (by decide) (fun rr99 u_rr99 H locs hw99 hP hD hS => ?_)
            try dsimp only at hw99
            have hP : va_P D vwCl [Prod.mk k0 (Sum.inr (Prod.mk 8 [Value.int zk, Value.ref k1, Value.ref k2, Value.ref k3])), Prod.mk k1 (Sum.inl (Prod.mk (cy 0) (Prod.mk 401 (Sum.inl tq1)))), Prod.mk k2 (Sum.inl (Prod.mk (cy 0) (Prod.mk 401 (Sum.inl tq2)))), Prod.mk k3 (Sum.inl (Prod.mk (cy 0) (Prod.mk 401 (Sum.inl tq3)))), Prod.mk tp (Sum.inr (Prod.mk 6 [Value.int ztp, Value.ref tb])), Prod.mk tb (Sum.inl (Prod.mk (cy 0) (Prod.mk 400 (Sum.inl ftb))))] H := hP
            have hD : va_D A [Prod.mk k0 (Sum.inr (Prod.mk 8 [Value.int zk, Value.ref k1, Value.ref k2, Value.ref k3])), Prod.mk k1 (Sum.inl (Prod.mk (cy 0) (Prod.mk 401 (Sum.inl tq1)))), Prod.mk k2 (Sum.inl (Prod.mk (cy 0) (Prod.mk 401 (Sum.inl tq2)))), Prod.mk k3 (Sum.inl (Prod.mk (cy 0) (Prod.mk 401 (Sum.inl tq3)))), Prod.mk tp (Sum.inr (Prod.mk 6 [Value.int ztp, Value.ref tb])), Prod.mk tb (Sum.inl (Prod.mk (cy 0) (Prod.mk 400 (Sum.inl ftb))))] := hD
            refine lv_iload_n hx hb dX8_takeAt_102 rfl (lv_at hl 4 rfl) ?_
            refine k_v (va_runV (As := [.int 19, .int rr99, .int at_]) (rest := []) ⟨hx, hb, hml, hown, hts⟩ (c_X8_add l D cy E k0 k1 k2 k3 zk tq1 tq2 tq3 19 rr99 at_ H.size (by first | omega | decide | (constructor <;> first | omega | decide))) (cwV 3 hts gX8_takeAt_X8_add rfl rfl rfl (by decide +kernel) ⟨Nat.le_of_ble_eq_true rfl, Nat.le_of_ble_eq_true rfl⟩) (cp_v hK hN hS hAB hP hD [0, 1, 2, 3] rfl (by decide) (ci := 8) rfl rfl rfl) rfl rfl hl.1 rfl (lv_room (Nat.le_of_ble_eq_true rfl)) dX8_takeAt_103 ⟨Nat.le_of_ble_eq_true rfl, Nat.le_of_ble_eq_true rfl⟩) hP hD hS hA [0, 1, 2, 3] [4, 5] (wr := [Prod.mk tp (Sum.inr (Prod.mk 6 [Value.int ztp, Value.ref tb])), Prod.mk tb (Sum.inl (Prod.mk (cy 0) (Prod.mk 400 (Sum.inl ftb))))]) rfl rfl (by decide) (by decide) (fun u_rr103 H locs hw103 hP hD hS => ?_)
            obtain ⟨o103, o103_1, o103_2, o103_3⟩ := u_rr103
            try dsimp only at hw103
            have hP : va_P D vwCl [Prod.mk tp (Sum.inr (Prod.mk 6 [Value.int ztp, Value.ref tb])), Prod.mk tb (Sum.inl (Prod.mk (cy 0) (Prod.mk 400 (Sum.inl ftb)))), Prod.mk k0 (Sum.inr (Prod.mk 8 [Value.int o103, Value.ref k1, Value.ref k2, Value.ref k3])), Prod.mk k1 (Sum.inl (Prod.mk (cy 0) (Prod.mk 401 (Sum.inl o103_1)))), Prod.mk k2 (Sum.inl (Prod.mk (cy 0) (Prod.mk 401 (Sum.inl o103_2)))), Prod.mk k3 (Sum.inl (Prod.mk (cy 0) (Prod.mk 401 (Sum.inl o103_3))))] H := hP
            have hD : va_D A [Prod.mk tp (Sum.inr (Prod.mk 6 [Value.int ztp, Value.ref tb])), Prod.mk tb (Sum.inl (Prod.mk (cy 0) (Prod.mk 400 (Sum.inl ftb)))), Prod.mk k0 (Sum.inr (Prod.mk 8 [Value.int o103, Value.ref k1, Value.ref k2, Value.ref k3])), Prod.mk k1 (Sum.inl (Prod.mk (cy 0) (Prod.mk 401 (Sum.inl o103_1)))), Prod.mk k2 (Sum.inl (Prod.mk (cy 0) (Prod.mk 401 (Sum.inl o103_2)))), Prod.mk k3 (Sum.inl (Prod.mk (cy 0) (Prod.mk 401 (Sum.inl o103_3))))] := hD
            refine lv_iload hx hb dX8_takeAt_106 (lv_at hl 0 rfl) ?_
            exact r_i hx hb hr hlocks hK hS dX8_takeAt_108 (u := (o103, o103_1, o103_2, o103_3)) (hP.sub (ws' := [Prod.mk k0 (Sum.inr (Prod.mk 8 [Value.int o103, Value.ref k1, Value.ref k2, Value.ref k3])), Prod.mk k1 (Sum.inl (Prod.mk (cy 0) (Prod.mk 401 (Sum.inl o103_1)))), Prod.mk k2 (Sum.inl (Prod.mk (cy 0) (Prod.mk 401 (Sum.inl o103_2)))), Prod.mk k3 (Sum.inl (Prod.mk (cy 0) (Prod.mk 401 (Sum.inl o103_3)))), Prod.mk tp (Sum.inr (Prod.mk 6 [Value.int ztp, Value.ref tb])), Prod.mk tb (Sum.inl (Prod.mk (cy 0) (Prod.mk 400 (Sum.inl ftb))))]) [2, 3, 4, 5, 0, 1] rfl) (hD.sub (ws' := [Prod.mk k0 (Sum.inr (Prod.mk 8 [Value.int o103, Value.ref k1, Value.ref k2, Value.ref k3])), Prod.mk k1 (Sum.inl (Prod.mk (cy 0) (Prod.mk 401 (Sum.inl o103_1)))), Prod.mk k2 (Sum.inl (Prod.mk (cy 0) (Prod.mk 401 (Sum.inl o103_2)))), Prod.mk k3 (Sum.inl (Prod.mk (cy 0) (Prod.mk 401 (Sum.inl o103_3)))), Prod.mk tp (Sum.inr (Prod.mk 6 [Value.int ztp, Value.ref tb])), Prod.mk tb (Sum.inl (Prod.mk (cy 0) (Prod.mk 400 (Sum.inl ftb))))]) [2, 3, 4, 5, 0, 1] (by decide) rfl) (by first | omega | exact ⟨by decide, by rw [i32_1]; omega, by omega, by omega⟩)
      · skip
        have fc29 := q_ne (a := rr26.toInt) (b := 0) c29 rfl (by decide)
        refine lv_aload_n hx hb dX8_takeAt_32 rfl (lv_at hl 2 rfl) ?_
        refine lv_iload_n hx hb dX8_takeAt_33 rfl (lv_at hl 3 rfl) ?_
        refine lv_bipush (v := 97) hx hb dX8_takeAt_34 (by decide) ?_
        refine lv_bipush (v := 122) hx hb dX8_takeAt_36 (by decide) ?_
        refine k_i (va_runS (As := [.ref tp, .int at_, .int 97, .int 122]) (rest := []) ⟨hx, hb, hml, hown, hts⟩ (c_X8_rowLength l D cy E tp tb ztp ftb at_ 97 122 H.size (by first | omega | decide | (constructor <;> first | omega | decide))) (va_cwS 4 hts gX8_takeAt_X8_rowLength rfl rfl rfl (by decide +kernel) ⟨Nat.le_of_ble_eq_true rfl, Nat.le_of_ble_eq_true rfl⟩) (cp_s hK hN hS hAB hP hD [4, 5] rfl (by decide)) rfl rfl hl.1 rfl (lv_room (Nat.le_of_ble_eq_true rfl)) dX8_takeAt_38 ⟨Nat.le_of_ble_eq_true rfl, Nat.le_of_ble_eq_true rfl⟩) hP hD hS hA [4, 5] [0, 1, 2, 3] (wr := [Prod.mk k0 (Sum.inr (Prod.mk 8 [Value.int zk, Value.ref k1, Value.ref k2, Value.ref k3])), Prod.mk k1 (Sum.inl (Prod.mk (cy 0) (Prod.mk 401 (Sum.inl tq1)))), Prod.mk k2 (Sum.inl (Prod.mk (cy 0) (Prod.mk 401 (Sum.inl tq2)))), Prod.mk k3 (Sum.inl (Prod.mk (cy 0) (Prod.mk 401 (Sum.inl tq3))))]) rfl rfl (by decide) (by decide) (fun rr38 u_rr38 H locs hw38 hP hD hS => ?_)
        try dsimp only at hw38
        have hP : va_P D vwCl [Prod.mk k0 (Sum.inr (Prod.mk 8 [Value.int zk, Value.ref k1, Value.ref k2, Value.ref k3])), Prod.mk k1 (Sum.inl (Prod.mk (cy 0) (Prod.mk 401 (Sum.inl tq1)))), Prod.mk k2 (Sum.inl (Prod.mk (cy 0) (Prod.mk 401 (Sum.inl tq2)))), Prod.mk k3 (Sum.inl (Prod.mk (cy 0) (Prod.mk 401 (Sum.inl tq3)))), Prod.mk tp (Sum.inr (Prod.mk 6 [Value.int ztp, Value.ref tb])), Prod.mk tb (Sum.inl (Prod.mk (cy 0) (Prod.mk 400 (Sum.inl ftb))))] H := hP
        have hD : va_D A [Prod.mk k0 (Sum.inr (Prod.mk 8 [Value.int zk, Value.ref k1, Value.ref k2, Value.ref k3])), Prod.mk k1 (Sum.inl (Prod.mk (cy 0) (Prod.mk 401 (Sum.inl tq1)))), Prod.mk k2 (Sum.inl (Prod.mk (cy 0) (Prod.mk 401 (Sum.inl tq2)))), Prod.mk k3 (Sum.inl (Prod.mk (cy 0) (Prod.mk 401 (Sum.inl tq3)))), Prod.mk tp (Sum.inr (Prod.mk 6 [Value.int ztp, Value.ref tb])), Prod.mk tb (Sum.inl (Prod.mk (cy 0) (Prod.mk 400 (Sum.inl ftb))))] := hD
        refine lv_istore (lv' := [(4, .int rr38), (3, .int x5), (0, .ref k0), (1, .ref tp), (2, .int at_)]) hx hb dX8_takeAt_41 hl (by decide) rfl (fun ls hl => ?_)
        refine lv_aload_n hx hb dX8_takeAt_43 rfl (lv_at hl 2 rfl) ?_
        refine lv_aload_n hx hb dX8_takeAt_44 rfl (lv_at hl 3 rfl) ?_
        refine lv_iload_n hx hb dX8_takeAt_45 rfl (lv_at hl 4 rfl) ?_
        refine lv_iload hx hb dX8_takeAt_46 (lv_at hl 0 rfl) ?_
        refine k_i (va_runS (As := [.ref tp, .int at_, .int rr38]) (rest := [.ref k0]) ⟨hx, hb, hml, hown, hts⟩ (c_X8_wordKind l D cy E tp tb ztp ftb at_ rr38 H.size (by first | omega | decide | (constructor <;> first | omega | decide))) (va_cwS 3 hts gX8_takeAt_X8_wordKind rfl rfl rfl (by decide +kernel) ⟨Nat.le_of_ble_eq_true rfl, Nat.le_of_ble_eq_true rfl⟩) (cp_s hK hN hS hAB hP hD [4, 5] rfl (by decide)) rfl rfl hl.1 rfl (lv_room (Nat.le_of_ble_eq_true rfl)) dX8_takeAt_48 ⟨Nat.le_of_ble_eq_true rfl, Nat.le_of_ble_eq_true rfl⟩) hP hD hS hA [4, 5] [0, 1, 2, 3] (wr := [Prod.mk k0 (Sum.inr (Prod.mk 8 [Value.int zk, Value.ref k1, Value.ref k2, Value.ref k3])), Prod.mk k1 (Sum.inl (Prod.mk (cy 0) (Prod.mk 401 (Sum.inl tq1)))), Prod.mk k2 (Sum.inl (Prod.mk (cy 0) (Prod.mk 401 (Sum.inl tq2)))), Prod.mk k3 (Sum.inl (Prod.mk (cy 0) (Prod.mk 401 (Sum.inl tq3))))]) rfl rfl (by decide) (by decide) (fun rr48 u_rr48 H locs hw48 hP hD hS => ?_)
        try dsimp only at hw48
        have hP : va_P D vwCl [Prod.mk k0 (Sum.inr (Prod.mk 8 [Value.int zk, Value.ref k1, Value.ref k2, Value.ref k3])), Prod.mk k1 (Sum.inl (Prod.mk (cy 0) (Prod.mk 401 (Sum.inl tq1)))), Prod.mk k2 (Sum.inl (Prod.mk (cy 0) (Prod.mk 401 (Sum.inl tq2)))), Prod.mk k3 (Sum.inl (Prod.mk (cy 0) (Prod.mk 401 (Sum.inl tq3)))), Prod.mk tp (Sum.inr (Prod.mk 6 [Value.int ztp, Value.ref tb])), Prod.mk tb (Sum.inl (Prod.mk (cy 0) (Prod.mk 400 (Sum.inl ftb))))] H := hP
        have hD : va_D A [Prod.mk k0 (Sum.inr (Prod.mk 8 [Value.int zk, Value.ref k1, Value.ref k2, Value.ref k3])), Prod.mk k1 (Sum.inl (Prod.mk (cy 0) (Prod.mk 401 (Sum.inl tq1)))), Prod.mk k2 (Sum.inl (Prod.mk (cy 0) (Prod.mk 401 (Sum.inl tq2)))), Prod.mk k3 (Sum.inl (Prod.mk (cy 0) (Prod.mk 401 (Sum.inl tq3)))), Prod.mk tp (Sum.inr (Prod.mk 6 [Value.int ztp, Value.ref tb])), Prod.mk tb (Sum.inl (Prod.mk (cy 0) (Prod.mk 400 (Sum.inl ftb))))] := hD
        refine lv_iconst (v := 0) hx hb dX8_takeAt_51 (by decide) ?_
        refine lv_iload_n hx hb dX8_takeAt_52 rfl (lv_at hl 4 rfl) ?_
        refine k_v (va_runV (As := [.int rr48, .int 0, .int at_]) (rest := []) ⟨hx, hb, hml, hown, hts⟩ (c_X8_add l D cy E k0 k1 k2 k3 zk tq1 tq2 tq3 rr48 0 at_ H.size (by first | omega | decide | (constructor <;> first | omega | decide))) (cwV 3 hts gX8_takeAt_X8_add rfl rfl rfl (by decide +kernel) ⟨Nat.le_of_ble_eq_true rfl, Nat.le_of_ble_eq_true rfl⟩) (cp_v hK hN hS hAB hP hD [0, 1, 2, 3] rfl (by decide) (ci := 8) rfl rfl rfl) rfl rfl hl.1 rfl (lv_room (Nat.le_of_ble_eq_true rfl)) dX8_takeAt_53 ⟨Nat.le_of_ble_eq_true rfl, Nat.le_of_ble_eq_true rfl⟩) hP hD hS hA [0, 1, 2, 3] [4, 5] (wr := [Prod.mk tp (Sum.inr (Prod.mk 6 [Value.int ztp, Value.ref tb])), Prod.mk tb (Sum.inl (Prod.mk (cy 0) (Prod.mk 400 (Sum.inl ftb))))]) rfl rfl (by decide) (by decide) (fun u_rr53 H locs hw53 hP hD hS => ?_)
        obtain ⟨o53, o53_1, o53_2, o53_3⟩ := u_rr53
        try dsimp only at hw53
        have hP : va_P D vwCl [Prod.mk tp (Sum.inr (Prod.mk 6 [Value.int ztp, Value.ref tb])), Prod.mk tb (Sum.inl (Prod.mk (cy 0) (Prod.mk 400 (Sum.inl ftb)))), Prod.mk k0 (Sum.inr (Prod.mk 8 [Value.int o53, Value.ref k1, Value.ref k2, Value.ref k3])), Prod.mk k1 (Sum.inl (Prod.mk (cy 0) (Prod.mk 401 (Sum.inl o53_1)))), Prod.mk k2 (Sum.inl (Prod.mk (cy 0) (Prod.mk 401 (Sum.inl o53_2)))), Prod.mk k3 (Sum.inl (Prod.mk (cy 0) (Prod.mk 401 (Sum.inl o53_3))))] H := hP
        have hD : va_D A [Prod.mk tp (Sum.inr (Prod.mk 6 [Value.int ztp, Value.ref tb])), Prod.mk tb (Sum.inl (Prod.mk (cy 0) (Prod.mk 400 (Sum.inl ftb)))), Prod.mk k0 (Sum.inr (Prod.mk 8 [Value.int o53, Value.ref k1, Value.ref k2, Value.ref k3])), Prod.mk k1 (Sum.inl (Prod.mk (cy 0) (Prod.mk 401 (Sum.inl o53_1)))), Prod.mk k2 (Sum.inl (Prod.mk (cy 0) (Prod.mk 401 (Sum.inl o53_2)))), Prod.mk k3 (Sum.inl (Prod.mk (cy 0) (Prod.mk 401 (Sum.inl o53_3))))] := hD
        refine lv_iload hx hb dX8_takeAt_56 (lv_at hl 0 rfl) ?_
        exact r_i hx hb hr hlocks hK hS dX8_takeAt_58 (u := (o53, o53_1, o53_2, o53_3)) (hP.sub (ws' := [Prod.mk k0 (Sum.inr (Prod.mk 8 [Value.int o53, Value.ref k1, Value.ref k2, Value.ref k3])), Prod.mk k1 (Sum.inl (Prod.mk (cy 0) (Prod.mk 401 (Sum.inl o53_1)))), Prod.mk k2 (Sum.inl (Prod.mk (cy 0) (Prod.mk 401 (Sum.inl o53_2)))), Prod.mk k3 (Sum.inl (Prod.mk (cy 0) (Prod.mk 401 (Sum.inl o53_3)))), Prod.mk tp (Sum.inr (Prod.mk 6 [Value.int ztp, Value.ref tb])), Prod.mk tb (Sum.inl (Prod.mk (cy 0) (Prod.mk 400 (Sum.inl ftb))))]) [2, 3, 4, 5, 0, 1] rfl) (hD.sub (ws' := [Prod.mk k0 (Sum.inr (Prod.mk 8 [Value.int o53, Value.ref k1, Value.ref k2, Value.ref k3])), Prod.mk k1 (Sum.inl (Prod.mk (cy 0) (Prod.mk 401 (Sum.inl o53_1)))), Prod.mk k2 (Sum.inl (Prod.mk (cy 0) (Prod.mk 401 (Sum.inl o53_2)))), Prod.mk k3 (Sum.inl (Prod.mk (cy 0) (Prod.mk 401 (Sum.inl o53_3)))), Prod.mk tp (Sum.inr (Prod.mk 6 [Value.int ztp, Value.ref tb])), Prod.mk tb (Sum.inl (Prod.mk (cy 0) (Prod.mk 400 (Sum.inl ftb))))]) [2, 3, 4, 5, 0, 1] (by decide) rfl) (by first | omega | exact ⟨by decide, by rw [i32_1]; omega, by omega, by omega⟩)
    · skip
      have fc16 := q_eq (a := x5.toInt) (b := 10) c16 rfl (by decide)
      refine lv_iconst (v := 1) hx hb dX8_takeAt_19 (by decide) ?_
      exact r_i hx hb hr hlocks hK hS dX8_takeAt_20 (u := (zk, tq1, tq2, tq3)) hP hD (by first | omega | exact ⟨by decide, by rw [i32_1]; omega, by omega, by omega⟩)

abbrev Q_c_X8_split (D : va_G) (cy : Nat → ClassId) (E : EN) (k0 : Nat) (k1 : Nat) (k2 : Nat) (k3 : Nat) (tp : Nat) (tb : Nat) (zk : Int32) (ztp : Int32) (tq1 : Nat → Int32) (tq2 : Nat → Int32) (tq3 : Nat → Int32) (ftb : Nat → Int32) : (Nat → Prop) → Array Value → State → Outcome → State → Prop := QV D cy (fun (u : Int32 × (Nat → Int32) × (Nat → Int32) × (Nat → Int32)) => match u with | (zz, gk1, gk2, gk3) => 0 ≤ zz.toInt ∧ zz.toInt ≤ 401) (fun u : Int32 × (Nat → Int32) × (Nat → Int32) × (Nat → Int32) => match u with | (zz, gk1, gk2, gk3) => [Prod.mk k0 (Sum.inr (Prod.mk 8 [Value.int zz, Value.ref k1, Value.ref k2, Value.ref k3])), Prod.mk k1 (Sum.inl (Prod.mk (cy 0) (Prod.mk 401 (Sum.inl gk1)))), Prod.mk k2 (Sum.inl (Prod.mk (cy 0) (Prod.mk 401 (Sum.inl gk2)))), Prod.mk k3 (Sum.inl (Prod.mk (cy 0) (Prod.mk 401 (Sum.inl gk3)))), Prod.mk tp (Sum.inr (Prod.mk 6 [Value.int ztp, Value.ref tb])), Prod.mk tb (Sum.inl (Prod.mk (cy 0) (Prod.mk 400 (Sum.inl ftb))))])
set_option maxHeartbeats 4000000 in
set_option maxRecDepth 100000 in
theorem c_X8_split (l : Launch) (D : va_G) (cy : Nat → ClassId) (E : EN) (k0 : Nat) (k1 : Nat) (k2 : Nat) (k3 : Nat) (tp : Nat) (tb : Nat) (zk : Int32) (ztp : Int32) (tq1 : Nat → Int32) (tq2 : Nat → Int32) (tq3 : Nat → Int32) (ftb : Nat → Int32) (sz : Nat) (htp : 0 ≤ ztp.toInt ∧ ztp.toInt ≤ 400) : Met l yX8_split wsX8_split ({ frames := 7, cells := 0, slots := 0, locals := 156 } : Room) (CP D cy E [.ref k0, .ref tp] [Prod.mk k0 (Sum.inr (Prod.mk 8 [Value.int zk, Value.ref k1, Value.ref k2, Value.ref k3])), Prod.mk k1 (Sum.inl (Prod.mk (cy 0) (Prod.mk 401 (Sum.inl tq1)))), Prod.mk k2 (Sum.inl (Prod.mk (cy 0) (Prod.mk 401 (Sum.inl tq2)))), Prod.mk k3 (Sum.inl (Prod.mk (cy 0) (Prod.mk 401 (Sum.inl tq3)))), Prod.mk tp (Sum.inr (Prod.mk 6 [Value.int ztp, Value.ref tb])), Prod.mk tb (Sum.inl (Prod.mk (cy 0) (Prod.mk 400 (Sum.inl ftb))))] sz) (Q_c_X8_split D cy E k0 k1 k2 k3 tp tb zk ztp tq1 tq2 tq3 ftb (va_A [Prod.mk k0 (Sum.inr (Prod.mk 8 [Value.int zk, Value.ref k1, Value.ref k2, Value.ref k3])), Prod.mk k1 (Sum.inl (Prod.mk (cy 0) (Prod.mk 401 (Sum.inl tq1)))), Prod.mk k2 (Sum.inl (Prod.mk (cy 0) (Prod.mk 401 (Sum.inl tq2)))), Prod.mk k3 (Sum.inl (Prod.mk (cy 0) (Prod.mk 401 (Sum.inl tq3)))), Prod.mk tp (Sum.inr (Prod.mk 6 [Value.int ztp, Value.ref tb])), Prod.mk tb (Sum.inl (Prod.mk (cy 0) (Prod.mk 400 (Sum.inl ftb))))] sz)) 0 0 (va_A [Prod.mk k0 (Sum.inr (Prod.mk 8 [Value.int zk, Value.ref k1, Value.ref k2, Value.ref k3])), Prod.mk k1 (Sum.inl (Prod.mk (cy 0) (Prod.mk 401 (Sum.inl tq1)))), Prod.mk k2 (Sum.inl (Prod.mk (cy 0) (Prod.mk 401 (Sum.inl tq2)))), Prod.mk k3 (Sum.inl (Prod.mk (cy 0) (Prod.mk 401 (Sum.inl tq3)))), Prod.mk tp (Sum.inr (Prod.mk 6 [Value.int ztp, Value.ref tb])), Prod.mk tb (Sum.inl (Prod.mk (cy 0) (Prod.mk 400 (Sum.inl ftb))))] sz) := by
  refine Met.go (Qc := Q_c_X8_split D cy E k0 k1 k2 k3 tp tb zk ztp tq1 tq2 tq3 ftb) (cc := cX8_split) (maxL := 3) (ret := none) (by decide) rfl (Nat.le_of_ble_eq_true rfl) ?_
  intro p e s m below meth c hx hb hr hts hown hlocks hin hml hK hN A hA hAB hD hP hS ls hl hsz
  have hl : lv_has ls 3 [(0, .ref k0), (1, .ref tp)] := hl
  have in_X8 : ∀ w ∈ wsX80, w ∈ wsX8_split := fun _ h => List.mem_cons_of_mem _ (List.mem_append_left _ ((List.mem_append_right _ h)))
  have w_1 := hts (.fieldLink RX8 21 "SleepingCars$Tokens" "size" "I") (by decide +kernel)
  have in_X6 : ∀ w ∈ wsX60, w ∈ wsX8_split := fun _ h => List.mem_cons_of_mem _ ((List.mem_append_right _ h))
  have w_3 := hts (.fieldLink RX8 25 "SleepingCars$Tape" "size" "I") (by decide +kernel)
  have w_4 := hts (.instanceMethod yX8_add) (by decide +kernel)
  have w_5 := hts (.instanceMethod yX8_takeAt) (by decide +kernel)
  have w_6 := hts (.methodLink RX8 32 Lib.Math.max.name) (by decide +kernel)
  have w_7 := hts (.static Lib.Math.max.name) (by decide +kernel)
  have w_8 := hts (.initialized "java/lang/Math") (by decide +kernel)
  have w_9 := hts (.code Lib.Math.max.name Lib.Math.max.code 2 (some .int)) (by decide +kernel)
  obtain ⟨H, eH⟩ : ∃ H : Heap, H = s.heap := ⟨_, rfl⟩
  obtain ⟨locs, eL⟩ : ∃ L : List Loc, L = [] := ⟨_, rfl⟩
  rw [← eL]
  rw [← eL] at hS
  have hP : va_P D vwCl [Prod.mk k0 (Sum.inr (Prod.mk 8 [Value.int zk, Value.ref k1, Value.ref k2, Value.ref k3])), Prod.mk k1 (Sum.inl (Prod.mk (cy 0) (Prod.mk 401 (Sum.inl tq1)))), Prod.mk k2 (Sum.inl (Prod.mk (cy 0) (Prod.mk 401 (Sum.inl tq2)))), Prod.mk k3 (Sum.inl (Prod.mk (cy 0) (Prod.mk 401 (Sum.inl tq3)))), Prod.mk tp (Sum.inr (Prod.mk 6 [Value.int ztp, Value.ref tb])), Prod.mk tb (Sum.inl (Prod.mk (cy 0) (Prod.mk 400 (Sum.inl ftb))))] H := by rw [eH]; exact hP
  have hS : va_S A s.heap H locs := by rw [eH]; exact hS
  refine W.heapEq eH ?_
  clear eH eL
  refine lv_aload_n hx hb dX8_split_0 rfl (lv_at hl 0 rfl) ?_
  refine lv_iconst (v := 0) hx hb dX8_split_1 (by decide) ?_
  refine va_put (D := D) (ci := 8) (v := .int 0) (ty := .int) (C := RX8) (T := TX8) (N := 4) hx hb hts in_X8 tyX8 tyX8_ok nmX8 hown hK hP hD hS 0 rfl rfl 0 (by decide) w_1 (fun _ h9 => h9) rfl (by decide +kernel) rfl rfl (Nat.le_of_ble_eq_true rfl) dX8_split_2 (fun H locs hP hD hS => ?_)
  have hP : va_P D vwCl [Prod.mk k0 (Sum.inr (Prod.mk 8 [Value.int 0, Value.ref k1, Value.ref k2, Value.ref k3])), Prod.mk k1 (Sum.inl (Prod.mk (cy 0) (Prod.mk 401 (Sum.inl tq1)))), Prod.mk k2 (Sum.inl (Prod.mk (cy 0) (Prod.mk 401 (Sum.inl tq2)))), Prod.mk k3 (Sum.inl (Prod.mk (cy 0) (Prod.mk 401 (Sum.inl tq3)))), Prod.mk tp (Sum.inr (Prod.mk 6 [Value.int ztp, Value.ref tb])), Prod.mk tb (Sum.inl (Prod.mk (cy 0) (Prod.mk 400 (Sum.inl ftb))))] H := hP
  have hD : va_D A [Prod.mk k0 (Sum.inr (Prod.mk 8 [Value.int 0, Value.ref k1, Value.ref k2, Value.ref k3])), Prod.mk k1 (Sum.inl (Prod.mk (cy 0) (Prod.mk 401 (Sum.inl tq1)))), Prod.mk k2 (Sum.inl (Prod.mk (cy 0) (Prod.mk 401 (Sum.inl tq2)))), Prod.mk k3 (Sum.inl (Prod.mk (cy 0) (Prod.mk 401 (Sum.inl tq3)))), Prod.mk tp (Sum.inr (Prod.mk 6 [Value.int ztp, Value.ref tb])), Prod.mk tb (Sum.inl (Prod.mk (cy 0) (Prod.mk 400 (Sum.inl ftb))))] := hD
  refine lv_iconst (v := 0) hx hb dX8_split_5 (by decide) ?_
  refine lv_istore_n (lv' := [(2, .int 0), (0, .ref k0), (1, .ref tp)]) hx hb dX8_split_6 rfl hl (by decide) rfl (fun ls hl => ?_)
  have lp_7 : ∀ (n_7 : Nat) (at1 : Int32) (z1 : Int32) (e1 : Nat → Int32) (e2 : Nat → Int32) (e3 : Nat → Int32), (0 ≤ at1.toInt ∧ at1.toInt ≤ ztp.toInt) → (0 ≤ z1.toInt ∧ z1.toInt ≤ 401) → (400 - at1.toInt).toNat < n_7 → ∀ (H : Heap) (locs : List Loc), va_P D vwCl [Prod.mk k0 (Sum.inr (Prod.mk 8 [Value.int z1, Value.ref k1, Value.ref k2, Value.ref k3])), Prod.mk k1 (Sum.inl (Prod.mk (cy 0) (Prod.mk 401 (Sum.inl e1)))), Prod.mk k2 (Sum.inl (Prod.mk (cy 0) (Prod.mk 401 (Sum.inl e2)))), Prod.mk k3 (Sum.inl (Prod.mk (cy 0) (Prod.mk 401 (Sum.inl e3)))), Prod.mk tp (Sum.inr (Prod.mk 6 [Value.int ztp, Value.ref tb])), Prod.mk tb (Sum.inl (Prod.mk (cy 0) (Prod.mk 400 (Sum.inl ftb))))] H → va_D A [Prod.mk k0 (Sum.inr (Prod.mk 8 [Value.int z1, Value.ref k1, Value.ref k2, Value.ref k3])), Prod.mk k1 (Sum.inl (Prod.mk (cy 0) (Prod.mk 401 (Sum.inl e1)))), Prod.mk k2 (Sum.inl (Prod.mk (cy 0) (Prod.mk 401 (Sum.inl e2)))), Prod.mk k3 (Sum.inl (Prod.mk (cy 0) (Prod.mk 401 (Sum.inl e3)))), Prod.mk tp (Sum.inr (Prod.mk 6 [Value.int ztp, Value.ref tb])), Prod.mk tb (Sum.inl (Prod.mk (cy 0) (Prod.mk 400 (Sum.inl ftb))))] → va_S A s.heap H locs → ∀ ls : Array Slot, lv_has ls 3 [(2, .int at1), (0, .ref k0), (1, .ref tp)] → W p l e (headSpec wsX8_split ({ frames := 7, cells := 0, slots := 0, locals := 156 } : Room)).room s m ([.ref k0, .ref tp] : List Value).toArray below meth c H locs 0 0 (MQ below (Q_c_X8_split D cy E k0 k1 k2 k3 tp tb zk ztp tq1 tq2 tq3 ftb A) ([.ref k0, .ref tp] : List Value).toArray s 0 0 A) (F0 m 7 ls []) := by
    intro n_7
    induction n_7 with
    | zero => intro at1 z1 e1 e2 e3 ha1 hz1 hmu; exact absurd hmu (Nat.not_lt_zero _)
    | succ n_7 ih_7 =>
      intro at1 z1 e1 e2 e3 ha1 hz1 hmu_7 H locs hP hD hS ls hl
      refine lv_iload_n hx hb dX8_split_7 rfl (lv_at hl 0 rfl) ?_
      refine lv_aload_n hx hb dX8_split_8 rfl (lv_at hl 2 rfl) ?_
      refine va_get (D := D) (ci := 6) (v := .int ztp) (C := RX6) (T := TX6) (N := 2) hx hb hts in_X6 hown hK hP 4 rfl rfl 0 (by decide) w_3 (fun _ h9 => h9) rfl dX8_split_9 ?_
      refine lv_icmp_ge (tgt := 31) hx hb dX8_split_12 (by decide) (fun c12 => ?_) (fun c12 => ?_)
      · skip
        have fc12 := q_le (a := ztp.toInt) (b := at1.toInt) c12 rfl rfl
        refine lv_aload_n hx hb dX8_split_31 rfl (lv_at hl 1 rfl) ?_
        refine lv_bipush (v := 20) hx hb dX8_split_32 (by decide) ?_
        refine lv_iconst (v := 0) hx hb dX8_split_34 (by decide) ?_
        refine lv_aload_n hx hb dX8_split_35 rfl (lv_at hl 2 rfl) ?_
        refine va_get (D := D) (ci := 6) (v := .int ztp) (C := RX6) (T := TX6) (N := 2) hx hb hts in_X6 hown hK hP 4 rfl rfl 0 (by decide) w_3 (fun _ h9 => h9) rfl dX8_split_36 ?_
        refine k_v (va_runV (As := [.int 20, .int 0, .int ztp]) (rest := []) ⟨hx, hb, hml, hown, hts⟩ (c_X8_add l D cy E k0 k1 k2 k3 z1 e1 e2 e3 20 0 ztp H.size (by first | omega | decide | (constructor <;> first | omega | decide))) (cwV 3 hts gX8_split_X8_add rfl rfl rfl (by decide +kernel) ⟨Nat.le_of_ble_eq_true rfl, Nat.le_of_ble_eq_true rfl⟩) (cp_v hK hN hS hAB hP hD [0, 1, 2, 3] rfl (by decide) (ci := 8) rfl rfl rfl) rfl rfl hl.1 rfl (lv_room (Nat.le_of_ble_eq_true rfl)) dX8_split_39 ⟨Nat.le_of_ble_eq_true rfl, Nat.le_of_ble_eq_true rfl⟩) hP hD hS hA [0, 1, 2, 3] [4, 5] (wr := [Prod.mk tp (Sum.inr (Prod.mk 6 [Value.int ztp, Value.ref tb])), Prod.mk tb (Sum.inl (Prod.mk (cy 0) (Prod.mk 400 (Sum.inl ftb))))]) rfl rfl (by decide) (by decide) (fun u_rr39 H locs hw39 hP hD hS => ?_)
        obtain ⟨o39, o39_1, o39_2, o39_3⟩ := u_rr39
        try dsimp only at hw39
        have hP : va_P D vwCl [Prod.mk tp (Sum.inr (Prod.mk 6 [Value.int ztp, Value.ref tb])), Prod.mk tb (Sum.inl (Prod.mk (cy 0) (Prod.mk 400 (Sum.inl ftb)))), Prod.mk k0 (Sum.inr (Prod.mk 8 [Value.int o39, Value.ref k1, Value.ref k2, Value.ref k3])), Prod.mk k1 (Sum.inl (Prod.mk (cy 0) (Prod.mk 401 (Sum.inl o39_1)))), Prod.mk k2 (Sum.inl (Prod.mk (cy 0) (Prod.mk 401 (Sum.inl o39_2)))), Prod.mk k3 (Sum.inl (Prod.mk (cy 0) (Prod.mk 401 (Sum.inl o39_3))))] H := hP
        have hD : va_D A [Prod.mk tp (Sum.inr (Prod.mk 6 [Value.int ztp, Value.ref tb])), Prod.mk tb (Sum.inl (Prod.mk (cy 0) (Prod.mk 400 (Sum.inl ftb)))), Prod.mk k0 (Sum.inr (Prod.mk 8 [Value.int o39, Value.ref k1, Value.ref k2, Value.ref k3])), Prod.mk k1 (Sum.inl (Prod.mk (cy 0) (Prod.mk 401 (Sum.inl o39_1)))), Prod.mk k2 (Sum.inl (Prod.mk (cy 0) (Prod.mk 401 (Sum.inl o39_2)))), Prod.mk k3 (Sum.inl (Prod.mk (cy 0) (Prod.mk 401 (Sum.inl o39_3))))] := hD
        exact r_v hx hb hr hlocks hK hS dX8_split_42 (u := (o39, o39_1, o39_2, o39_3)) (hP.sub (ws' := [Prod.mk k0 (Sum.inr (Prod.mk 8 [Value.int o39, Value.ref k1, Value.ref k2, Value.ref k3])), Prod.mk k1 (Sum.inl (Prod.mk (cy 0) (Prod.mk 401 (Sum.inl o39_1)))), Prod.mk k2 (Sum.inl (Prod.mk (cy 0) (Prod.mk 401 (Sum.inl o39_2)))), Prod.mk k3 (Sum.inl (Prod.mk (cy 0) (Prod.mk 401 (Sum.inl o39_3)))), Prod.mk tp (Sum.inr (Prod.mk 6 [Value.int ztp, Value.ref tb])), Prod.mk tb (Sum.inl (Prod.mk (cy 0) (Prod.mk 400 (Sum.inl ftb))))]) [2, 3, 4, 5, 0, 1] rfl) (hD.sub (ws' := [Prod.mk k0 (Sum.inr (Prod.mk 8 [Value.int o39, Value.ref k1, Value.ref k2, Value.ref k3])), Prod.mk k1 (Sum.inl (Prod.mk (cy 0) (Prod.mk 401 (Sum.inl o39_1)))), Prod.mk k2 (Sum.inl (Prod.mk (cy 0) (Prod.mk 401 (Sum.inl o39_2)))), Prod.mk k3 (Sum.inl (Prod.mk (cy 0) (Prod.mk 401 (Sum.inl o39_3)))), Prod.mk tp (Sum.inr (Prod.mk 6 [Value.int ztp, Value.ref tb])), Prod.mk tb (Sum.inl (Prod.mk (cy 0) (Prod.mk 400 (Sum.inl ftb))))]) [2, 3, 4, 5, 0, 1] (by decide) rfl) (by omega)
      · skip
        have fc12 := q_nle (a := ztp.toInt) (b := at1.toInt) c12 rfl rfl
        refine lv_iload_n hx hb dX8_split_15 rfl (lv_at hl 0 rfl) ?_
        refine lv_iconst (v := 1) hx hb dX8_split_16 (by decide) ?_
        refine lv_aload_n hx hb dX8_split_17 rfl (lv_at hl 1 rfl) ?_
        refine lv_aload_n hx hb dX8_split_18 rfl (lv_at hl 2 rfl) ?_
        refine lv_iload_n hx hb dX8_split_19 rfl (lv_at hl 0 rfl) ?_
        refine k_i (va_runV (As := [.ref tp, .int at1]) (rest := [.int 1, .int at1]) ⟨hx, hb, hml, hown, hts⟩ (c_X8_takeAt l D cy E k0 k1 k2 k3 tp tb z1 ztp e1 e2 e3 ftb at1 H.size (by first | omega | decide | (constructor <;> first | omega | decide)) (by first | omega | decide | (constructor <;> first | omega | decide))) (cwV 2 hts gX8_split_X8_takeAt rfl rfl rfl (by decide +kernel) ⟨Nat.le_of_ble_eq_true rfl, Nat.le_of_ble_eq_true rfl⟩) (cp_v hK hN hS hAB hP hD [0, 1, 2, 3, 4, 5] rfl (by decide) (ci := 8) rfl rfl rfl) rfl rfl hl.1 rfl (lv_room (Nat.le_of_ble_eq_true rfl)) dX8_split_20 ⟨Nat.le_of_ble_eq_true rfl, Nat.le_of_ble_eq_true rfl⟩) hP hD hS hA [0, 1, 2, 3, 4, 5] [] (wr := []) rfl rfl (by decide) (by decide) (fun rr20 u_rr20 H locs hw20 hP hD hS => ?_)
        obtain ⟨o20, o20_1, o20_2, o20_3⟩ := u_rr20
        try dsimp only at hw20
        have hP : va_P D vwCl [Prod.mk k0 (Sum.inr (Prod.mk 8 [Value.int o20, Value.ref k1, Value.ref k2, Value.ref k3])), Prod.mk k1 (Sum.inl (Prod.mk (cy 0) (Prod.mk 401 (Sum.inl o20_1)))), Prod.mk k2 (Sum.inl (Prod.mk (cy 0) (Prod.mk 401 (Sum.inl o20_2)))), Prod.mk k3 (Sum.inl (Prod.mk (cy 0) (Prod.mk 401 (Sum.inl o20_3)))), Prod.mk tp (Sum.inr (Prod.mk 6 [Value.int ztp, Value.ref tb])), Prod.mk tb (Sum.inl (Prod.mk (cy 0) (Prod.mk 400 (Sum.inl ftb))))] H := hP
        have hD : va_D A [Prod.mk k0 (Sum.inr (Prod.mk 8 [Value.int o20, Value.ref k1, Value.ref k2, Value.ref k3])), Prod.mk k1 (Sum.inl (Prod.mk (cy 0) (Prod.mk 401 (Sum.inl o20_1)))), Prod.mk k2 (Sum.inl (Prod.mk (cy 0) (Prod.mk 401 (Sum.inl o20_2)))), Prod.mk k3 (Sum.inl (Prod.mk (cy 0) (Prod.mk 401 (Sum.inl o20_3)))), Prod.mk tp (Sum.inr (Prod.mk 6 [Value.int ztp, Value.ref tb])), Prod.mk tb (Sum.inl (Prod.mk (cy 0) (Prod.mk 400 (Sum.inl ftb))))] := hD
        refine va_mmax hx hb (hml.trans hl.1.symm) hown w_6 w_7 w_8 w_9 (Nat.le_of_ble_eq_true rfl) (Nat.le_of_ble_eq_true rfl) (Nat.le_of_ble_eq_true rfl) (Nat.le_of_ble_eq_true rfl) dX8_split_23 ?_
        refine lv_topi (fun x23 ex23 => ?_)
        have tx23 := q_max ex23
        rw [i32_1] at tx23
        refine lv_iadd hx hb dX8_split_26 ?_
        refine lv_topi (fun x26 ex26 => ?_)
        have tx26 := q_add (p := at1.toInt) (q := x23.toInt) ex26 rfl rfl (by omega) (by omega)
        refine lv_istore_n (lv' := [(2, .int x26), (0, .ref k0), (1, .ref tp)]) hx hb dX8_split_27 rfl hl (by decide) rfl (fun ls hl => ?_)
        refine lv_goto (tgt := 7) hx hb dX8_split_28 (by decide) ?_
        exact ih_7 x26 o20 o20_1 o20_2 o20_3 (by first | omega | decide | (rw [i32_0]; omega)) (by first | omega | decide | (rw [i32_0]; omega)) (by omega) H locs hP hD hS ls (lv_sub hl [0, 1, 2] rfl)
  exact lp_7 ((400 - (0 : Int32).toInt).toNat + 1) 0 0 tq1 tq2 tq3 (by rw [i32_0]; omega) (by first | omega | decide | (rw [i32_0]; omega) | (rw [i32_m1]; omega)) (by first | omega | exact Nat.lt_succ_self _ | (rw [i32_0]; omega) | (rw [i32_1]; omega)) H locs hP hD hS ls (lv_sub hl [0, 1, 2] rfl)
