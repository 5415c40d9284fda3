abbrev Q_c_X2_copyFrom (D : va_G) (cy : Nat → ClassId) (h0 : Nat) (h1 : Nat) (h2 : Nat) (h3 : Nat) (h4 : Nat) (h5 : Nat) (h6 : Nat) (h7 : Nat) (k0 : Nat) (k1 : Nat) (k2 : Nat) (k3 : Nat) (k4 : Nat) (k5 : Nat) (k6 : Nat) (k7 : Nat) (z : Int32) (y : Int32) (f1 : Nat → Int32) (f2 : Nat → Int32) (f3 : Nat → Int32) (f4 : Nat → Int32) (f5 : Nat → Int32) (f6 : Nat → Int32) (f7 : Nat → Int32) (e1 : Nat → Int32) (e2 : Nat → Int32) (e3 : Nat → Int32) (e4 : Nat → Int32) (e5 : Nat → Int32) (e6 : Nat → Int32) (e7 : Nat → Int32) : (Nat → Prop) → Array Value → State → Outcome → State → Prop := QV D cy (fun (u : (Nat → Int32) × (Nat → Int32) × (Nat → Int32) × (Nat → Int32) × (Nat → Int32) × (Nat → Int32) × (Nat → Int32)) => match u with | (g1, g2, g3, g4, g5, g6, g7) => (∀ j : Nat, j < 16 → g1 j = e1 j) ∧ (∀ j : Nat, j < 16 → g2 j = e2 j) ∧ (∀ j : Nat, j < 16 → g3 j = e3 j) ∧ (∀ j : Nat, j < 64 → g4 j = e4 j) ∧ (∀ j : Nat, j < 64 → g5 j = e5 j) ∧ (∀ j : Nat, j < 64 → g6 j = e6 j) ∧ (∀ j : Nat, j < 64 → g7 j = e7 j)) (fun u : (Nat → Int32) × (Nat → Int32) × (Nat → Int32) × (Nat → Int32) × (Nat → Int32) × (Nat → Int32) × (Nat → Int32) => match u with | (g1, g2, g3, g4, g5, g6, g7) => [(h0, .inr (2, [.int y, .ref h1, .ref h2, .ref h3, .ref h4, .ref h5, .ref h6, .ref h7])), (h1, .inl (cy 0, 16, .inl g1)), (h2, .inl (cy 0, 16, .inl g2)), (h3, .inl (cy 0, 16, .inl g3)), (h4, .inl (cy 0, 64, .inl g4)), (h5, .inl (cy 0, 64, .inl g5)), (h6, .inl (cy 0, 64, .inl g6)), (h7, .inl (cy 0, 64, .inl g7)), (k0, .inr (2, [.int y, .ref k1, .ref k2, .ref k3, .ref k4, .ref k5, .ref k6, .ref k7])), (k1, .inl (cy 0, 16, .inl e1)), (k2, .inl (cy 0, 16, .inl e2)), (k3, .inl (cy 0, 16, .inl e3)), (k4, .inl (cy 0, 64, .inl e4)), (k5, .inl (cy 0, 64, .inl e5)), (k6, .inl (cy 0, 64, .inl e6)), (k7, .inl (cy 0, 64, .inl e7))])
set_option maxHeartbeats 4000000 in
set_option maxRecDepth 100000 in
theorem c_X2_copyFrom (l : Launch) (D : va_G) (cy : Nat → ClassId) (h0 : Nat) (h1 : Nat) (h2 : Nat) (h3 : Nat) (h4 : Nat) (h5 : Nat) (h6 : Nat) (h7 : Nat) (k0 : Nat) (k1 : Nat) (k2 : Nat) (k3 : Nat) (k4 : Nat) (k5 : Nat) (k6 : Nat) (k7 : Nat) (z : Int32) (y : Int32) (f1 : Nat → Int32) (f2 : Nat → Int32) (f3 : Nat → Int32) (f4 : Nat → Int32) (f5 : Nat → Int32) (f6 : Nat → Int32) (f7 : Nat → Int32) (e1 : Nat → Int32) (e2 : Nat → Int32) (e3 : Nat → Int32) (e4 : Nat → Int32) (e5 : Nat → Int32) (e6 : Nat → Int32) (e7 : Nat → Int32) (sz : Nat)  : Met l yX2_copyFrom wsX2_copyFrom ({ frames := 1, cells := 0, slots := 0, locals := 30 } : Room) (CP D cy [.ref h0, .ref k0] [(h0, .inr (2, [.int z, .ref h1, .ref h2, .ref h3, .ref h4, .ref h5, .ref h6, .ref h7])), (h1, .inl (cy 0, 16, .inl f1)), (h2, .inl (cy 0, 16, .inl f2)), (h3, .inl (cy 0, 16, .inl f3)), (h4, .inl (cy 0, 64, .inl f4)), (h5, .inl (cy 0, 64, .inl f5)), (h6, .inl (cy 0, 64, .inl f6)), (h7, .inl (cy 0, 64, .inl f7)), (k0, .inr (2, [.int y, .ref k1, .ref k2, .ref k3, .ref k4, .ref k5, .ref k6, .ref k7])), (k1, .inl (cy 0, 16, .inl e1)), (k2, .inl (cy 0, 16, .inl e2)), (k3, .inl (cy 0, 16, .inl e3)), (k4, .inl (cy 0, 64, .inl e4)), (k5, .inl (cy 0, 64, .inl e5)), (k6, .inl (cy 0, 64, .inl e6)), (k7, .inl (cy 0, 64, .inl e7))] sz) (Q_c_X2_copyFrom D cy h0 h1 h2 h3 h4 h5 h6 h7 k0 k1 k2 k3 k4 k5 k6 k7 z y f1 f2 f3 f4 f5 f6 f7 e1 e2 e3 e4 e5 e6 e7 (va_A [(h0, .inr (2, [.int z, .ref h1, .ref h2, .ref h3, .ref h4, .ref h5, .ref h6, .ref h7])), (h1, .inl (cy 0, 16, .inl f1)), (h2, .inl (cy 0, 16, .inl f2)), (h3, .inl (cy 0, 16, .inl f3)), (h4, .inl (cy 0, 64, .inl f4)), (h5, .inl (cy 0, 64, .inl f5)), (h6, .inl (cy 0, 64, .inl f6)), (h7, .inl (cy 0, 64, .inl f7)), (k0, .inr (2, [.int y, .ref k1, .ref k2, .ref k3, .ref k4, .ref k5, .ref k6, .ref k7])), (k1, .inl (cy 0, 16, .inl e1)), (k2, .inl (cy 0, 16, .inl e2)), (k3, .inl (cy 0, 16, .inl e3)), (k4, .inl (cy 0, 64, .inl e4)), (k5, .inl (cy 0, 64, .inl e5)), (k6, .inl (cy 0, 64, .inl e6)), (k7, .inl (cy 0, 64, .inl e7))] sz)) 0 0 (va_A [(h0, .inr (2, [.int z, .ref h1, .ref h2, .ref h3, .ref h4, .ref h5, .ref h6, .ref h7])), (h1, .inl (cy 0, 16, .inl f1)), (h2, .inl (cy 0, 16, .inl f2)), (h3, .inl (cy 0, 16, .inl f3)), (h4, .inl (cy 0, 64, .inl f4)), (h5, .inl (cy 0, 64, .inl f5)), (h6, .inl (cy 0, 64, .inl f6)), (h7, .inl (cy 0, 64, .inl f7)), (k0, .inr (2, [.int y, .ref k1, .ref k2, .ref k3, .ref k4, .ref k5, .ref k6, .ref k7])), (k1, .inl (cy 0, 16, .inl e1)), (k2, .inl (cy 0, 16, .inl e2)), (k3, .inl (cy 0, 16, .inl e3)), (k4, .inl (cy 0, 64, .inl e4)), (k5, .inl (cy 0, 64, .inl e5)), (k6, .inl (cy 0, 64, .inl e6)), (k7, .inl (cy 0, 64, .inl e7))] sz) := by
  refine Met.go (Qc := Q_c_X2_copyFrom D cy h0 h1 h2 h3 h4 h5 h6 h7 k0 k1 k2 k3 k4 k5 k6 k7 z y f1 f2 f3 f4 f5 f6 f7 e1 e2 e3 e4 e5 e6 e7) (cc := cX2_copyFrom) (maxL := 2) (ret := none) (by decide) rfl (Nat.le_of_ble_eq_true rfl) ?_
  intro p e s m below meth c hx hb hr hts hown hlocks hin hml hK hN A hA hD hP hS ls hl hsz
  have hl : lv_has ls 2 [(0, .ref h0), (1, .ref k0)] := hl
  have in_X2 : ∀ w ∈ wsX20, w ∈ wsX2_copyFrom := fun _ h => List.mem_cons_of_mem _ ((List.mem_append_right _ h))
  have w_1 := hts (.fieldLink RX2 33 "SleepingCars$Rates" "lines" "I") (by decide +kernel)
  have w_2 := hts (.fieldLink RX2 9 "SleepingCars$Rates" "charges" "[I") (by decide +kernel)
  have w_3 := hts (.methodLink RX2 62 arraycopyName) (by decide +kernel)
  have w_4 := hts (.native arraycopyName) (by decide +kernel)
  have w_5 := hts (.static arraycopyName) (by decide +kernel)
  have w_6 := hts (.initialized "java/lang/System") (by decide +kernel)
  have w_7 := hts (.fieldLink RX2 15 "SleepingCars$Rates" "amounts" "[I") (by decide +kernel)
  have w_8 := hts (.fieldLink RX2 18 "SleepingCars$Rates" "tests" "[I") (by decide +kernel)
  have w_9 := hts (.fieldLink RX2 21 "SleepingCars$Rates" "subjects" "[I") (by decide +kernel)
  have w_10 := hts (.fieldLink RX2 24 "SleepingCars$Rates" "signs" "[I") (by decide +kernel)
  have w_11 := hts (.fieldLink RX2 27 "SleepingCars$Rates" "bounds" "[I") (by decide +kernel)
  have w_12 := hts (.fieldLink RX2 30 "SleepingCars$Rates" "negated" "[I") (by decide +kernel)
  obtain ⟨H, eH⟩ : ∃ H : Heap, H = s.heap := ⟨_, rfl⟩
  obtain ⟨locs, eL⟩ : ∃ L : List Loc, L = [] := ⟨_, rfl⟩
  rw [← eL]
  rw [← eL] at hS
  have hP : va_P D vwCl [(h0, .inr (2, [.int z, .ref h1, .ref h2, .ref h3, .ref h4, .ref h5, .ref h6, .ref h7])), (h1, .inl (cy 0, 16, .inl f1)), (h2, .inl (cy 0, 16, .inl f2)), (h3, .inl (cy 0, 16, .inl f3)), (h4, .inl (cy 0, 64, .inl f4)), (h5, .inl (cy 0, 64, .inl f5)), (h6, .inl (cy 0, 64, .inl f6)), (h7, .inl (cy 0, 64, .inl f7)), (k0, .inr (2, [.int y, .ref k1, .ref k2, .ref k3, .ref k4, .ref k5, .ref k6, .ref k7])), (k1, .inl (cy 0, 16, .inl e1)), (k2, .inl (cy 0, 16, .inl e2)), (k3, .inl (cy 0, 16, .inl e3)), (k4, .inl (cy 0, 64, .inl e4)), (k5, .inl (cy 0, 64, .inl e5)), (k6, .inl (cy 0, 64, .inl e6)), (k7, .inl (cy 0, 64, .inl e7))] H := by rw [eH]; exact hP
  have hS : va_S A s.heap H locs := by rw [eH]; exact hS
  refine W.heapEq eH ?_
  clear eH eL
  refine lv_aload_n hx hb dX2_copyFrom_0 rfl (lv_at hl 0 rfl) ?_
  refine lv_aload_n hx hb dX2_copyFrom_1 rfl (lv_at hl 1 rfl) ?_
  refine va_get (D := D) (ci := 2) (v := .int y) (C := RX2) (T := TX2) (N := 8) hx hb hts in_X2 hown hK hP 8 rfl rfl 0 (by decide) w_1 (fun _ h9 => h9) rfl dX2_copyFrom_2 ?_
  refine va_put (D := D) (ci := 2) (v := .int y) (ty := .int) (C := RX2) (T := TX2) (N := 8) hx hb hts in_X2 tyX2 tyX2_ok nmX2 hown hK hP hD hS 0 rfl rfl 0 (by decide) w_1 (fun _ h9 => h9) rfl (by decide +kernel) rfl rfl (Nat.le_of_ble_eq_true rfl) dX2_copyFrom_5 (fun H locs hP hD hS => ?_)
  have hP : va_P D vwCl [(h0, .inr (2, [.int y, .ref h1, .ref h2, .ref h3, .ref h4, .ref h5, .ref h6, .ref h7])), (h1, .inl (cy 0, 16, .inl f1)), (h2, .inl (cy 0, 16, .inl f2)), (h3, .inl (cy 0, 16, .inl f3)), (h4, .inl (cy 0, 64, .inl f4)), (h5, .inl (cy 0, 64, .inl f5)), (h6, .inl (cy 0, 64, .inl f6)), (h7, .inl (cy 0, 64, .inl f7)), (k0, .inr (2, [.int y, .ref k1, .ref k2, .ref k3, .ref k4, .ref k5, .ref k6, .ref k7])), (k1, .inl (cy 0, 16, .inl e1)), (k2, .inl (cy 0, 16, .inl e2)), (k3, .inl (cy 0, 16, .inl e3)), (k4, .inl (cy 0, 64, .inl e4)), (k5, .inl (cy 0, 64, .inl e5)), (k6, .inl (cy 0, 64, .inl e6)), (k7, .inl (cy 0, 64, .inl e7))] H := hP
  have hD : va_D A [(h0, .inr (2, [.int y, .ref h1, .ref h2, .ref h3, .ref h4, .ref h5, .ref h6, .ref h7])), (h1, .inl (cy 0, 16, .inl f1)), (h2, .inl (cy 0, 16, .inl f2)), (h3, .inl (cy 0, 16, .inl f3)), (h4, .inl (cy 0, 64, .inl f4)), (h5, .inl (cy 0, 64, .inl f5)), (h6, .inl (cy 0, 64, .inl f6)), (h7, .inl (cy 0, 64, .inl f7)), (k0, .inr (2, [.int y, .ref k1, .ref k2, .ref k3, .ref k4, .ref k5, .ref k6, .ref k7])), (k1, .inl (cy 0, 16, .inl e1)), (k2, .inl (cy 0, 16, .inl e2)), (k3, .inl (cy 0, 16, .inl e3)), (k4, .inl (cy 0, 64, .inl e4)), (k5, .inl (cy 0, 64, .inl e5)), (k6, .inl (cy 0, 64, .inl e6)), (k7, .inl (cy 0, 64, .inl e7))] := hD
  refine lv_aload_n hx hb dX2_copyFrom_8 rfl (lv_at hl 1 rfl) ?_
  refine va_get (D := D) (ci := 2) (v := .ref k1) (C := RX2) (T := TX2) (N := 8) hx hb hts in_X2 hown hK hP 8 rfl rfl 1 (by decide) w_2 (fun _ h9 => h9) rfl dX2_copyFrom_9 ?_
  refine lv_iconst (v := 0) hx hb dX2_copyFrom_12 (by decide) ?_
  refine lv_aload_n hx hb dX2_copyFrom_13 rfl (lv_at hl 0 rfl) ?_
  refine va_get (D := D) (ci := 2) (v := .ref h1) (C := RX2) (T := TX2) (N := 8) hx hb hts in_X2 hown hK hP 0 rfl rfl 1 (by decide) w_2 (fun _ h9 => h9) rfl dX2_copyFrom_14 ?_
  refine lv_iconst (v := 0) hx hb dX2_copyFrom_17 (by decide) ?_
  refine lv_aload_n hx hb dX2_copyFrom_18 rfl (lv_at hl 0 rfl) ?_
  refine va_get (D := D) (ci := 2) (v := .ref h1) (C := RX2) (T := TX2) (N := 8) hx hb hts in_X2 hown hK hP 0 rfl rfl 1 (by decide) w_2 (fun _ h9 => h9) rfl dX2_copyFrom_19 ?_
  refine va_alen hx hb hK hP 1 0 rfl rfl (v := 16) rfl dX2_copyFrom_22 ?_
  refine va_copyi hx hb (hml.trans hl.1.symm) hown w_3 w_4 w_5 w_6 hK hP hD hS 9 1 0 0 rfl rfl rfl rfl rfl (by decide) (by decide) (by decide) (by decide) (by decide) (fun _ _ => rfl) (Nat.le_of_ble_eq_true rfl) (Nat.le_of_ble_eq_true rfl) dX2_copyFrom_23 (fun H locs hP hD hS => ?_)
  obtain ⟨g23, eg23⟩ : ∃ f : Nat → Int32, f = va_cpy e1 f1 (0 : Int32).toNatClampNeg (0 : Int32).toNatClampNeg (16 : Int32).toNatClampNeg := ⟨_, rfl⟩
  rw [← eg23] at hP hD
  have hP : va_P D vwCl [(h0, .inr (2, [.int y, .ref h1, .ref h2, .ref h3, .ref h4, .ref h5, .ref h6, .ref h7])), (h1, .inl (cy 0, 16, .inl g23)), (h2, .inl (cy 0, 16, .inl f2)), (h3, .inl (cy 0, 16, .inl f3)), (h4, .inl (cy 0, 64, .inl f4)), (h5, .inl (cy 0, 64, .inl f5)), (h6, .inl (cy 0, 64, .inl f6)), (h7, .inl (cy 0, 64, .inl f7)), (k0, .inr (2, [.int y, .ref k1, .ref k2, .ref k3, .ref k4, .ref k5, .ref k6, .ref k7])), (k1, .inl (cy 0, 16, .inl e1)), (k2, .inl (cy 0, 16, .inl e2)), (k3, .inl (cy 0, 16, .inl e3)), (k4, .inl (cy 0, 64, .inl e4)), (k5, .inl (cy 0, 64, .inl e5)), (k6, .inl (cy 0, 64, .inl e6)), (k7, .inl (cy 0, 64, .inl e7))] H := hP
  have hD : va_D A [(h0, .inr (2, [.int y, .ref h1, .ref h2, .ref h3, .ref h4, .ref h5, .ref h6, .ref h7])), (h1, .inl (cy 0, 16, .inl g23)), (h2, .inl (cy 0, 16, .inl f2)), (h3, .inl (cy 0, 16, .inl f3)), (h4, .inl (cy 0, 64, .inl f4)), (h5, .inl (cy 0, 64, .inl f5)), (h6, .inl (cy 0, 64, .inl f6)), (h7, .inl (cy 0, 64, .inl f7)), (k0, .inr (2, [.int y, .ref k1, .ref k2, .ref k3, .ref k4, .ref k5, .ref k6, .ref k7])), (k1, .inl (cy 0, 16, .inl e1)), (k2, .inl (cy 0, 16, .inl e2)), (k3, .inl (cy 0, 16, .inl e3)), (k4, .inl (cy 0, 64, .inl e4)), (k5, .inl (cy 0, 64, .inl e5)), (k6, .inl (cy 0, 64, .inl e6)), (k7, .inl (cy 0, 64, .inl e7))] := hD
  refine lv_aload_n hx hb dX2_copyFrom_26 rfl (lv_at hl 1 rfl) ?_
  refine va_get (D := D) (ci := 2) (v := .ref k2) (C := RX2) (T := TX2) (N := 8) hx hb hts in_X2 hown hK hP 8 rfl rfl 2 (by decide) w_7 (fun _ h9 => h9) rfl dX2_copyFrom_27 ?_
  refine lv_iconst (v := 0) hx hb dX2_copyFrom_30 (by decide) ?_
  refine lv_aload_n hx hb dX2_copyFrom_31 rfl (lv_at hl 0 rfl) ?_
  refine va_get (D := D) (ci := 2) (v := .ref h2) (C := RX2) (T := TX2) (N := 8) hx hb hts in_X2 hown hK hP 0 rfl rfl 2 (by decide) w_7 (fun _ h9 => h9) rfl dX2_copyFrom_32 ?_
  refine lv_iconst (v := 0) hx hb dX2_copyFrom_35 (by decide) ?_
  refine lv_aload_n hx hb dX2_copyFrom_36 rfl (lv_at hl 0 rfl) ?_
  refine va_get (D := D) (ci := 2) (v := .ref h2) (C := RX2) (T := TX2) (N := 8) hx hb hts in_X2 hown hK hP 0 rfl rfl 2 (by decide) w_7 (fun _ h9 => h9) rfl dX2_copyFrom_37 ?_
  refine va_alen hx hb hK hP 2 0 rfl rfl (v := 16) rfl dX2_copyFrom_40 ?_
  refine va_copyi hx hb (hml.trans hl.1.symm) hown w_3 w_4 w_5 w_6 hK hP hD hS 10 2 0 0 rfl rfl rfl rfl rfl (by decide) (by decide) (by decide) (by decide) (by decide) (fun _ _ => rfl) (Nat.le_of_ble_eq_true rfl) (Nat.le_of_ble_eq_true rfl) dX2_copyFrom_41 (fun H locs hP hD hS => ?_)
  obtain ⟨g41, eg41⟩ : ∃ f : Nat → Int32, f = va_cpy e2 f2 (0 : Int32).toNatClampNeg (0 : Int32).toNatClampNeg (16 : Int32).toNatClampNeg := ⟨_, rfl⟩
  rw [← eg41] at hP hD
  have hP : va_P D vwCl [(h0, .inr (2, [.int y, .ref h1, .ref h2, .ref h3, .ref h4, .ref h5, .ref h6, .ref h7])), (h1, .inl (cy 0, 16, .inl g23)), (h2, .inl (cy 0, 16, .inl g41)), (h3, .inl (cy 0, 16, .inl f3)), (h4, .inl (cy 0, 64, .inl f4)), (h5, .inl (cy 0, 64, .inl f5)), (h6, .inl (cy 0, 64, .inl f6)), (h7, .inl (cy 0, 64, .inl f7)), (k0, .inr (2, [.int y, .ref k1, .ref k2, .ref k3, .ref k4, .ref k5, .ref k6, .ref k7])), (k1, .inl (cy 0, 16, .inl e1)), (k2, .inl (cy 0, 16, .inl e2)), (k3, .inl (cy 0, 16, .inl e3)), (k4, .inl (cy 0, 64, .inl e4)), (k5, .inl (cy 0, 64, .inl e5)), (k6, .inl (cy 0, 64, .inl e6)), (k7, .inl (cy 0, 64, .inl e7))] H := hP
  have hD : va_D A [(h0, .inr (2, [.int y, .ref h1, .ref h2, .ref h3, .ref h4, .ref h5, .ref h6, .ref h7])), (h1, .inl (cy 0, 16, .inl g23)), (h2, .inl (cy 0, 16, .inl g41)), (h3, .inl (cy 0, 16, .inl f3)), (h4, .inl (cy 0, 64, .inl f4)), (h5, .inl (cy 0, 64, .inl f5)), (h6, .inl (cy 0, 64, .inl f6)), (h7, .inl (cy 0, 64, .inl f7)), (k0, .inr (2, [.int y, .ref k1, .ref k2, .ref k3, .ref k4, .ref k5, .ref k6, .ref k7])), (k1, .inl (cy 0, 16, .inl e1)), (k2, .inl (cy 0, 16, .inl e2)), (k3, .inl (cy 0, 16, .inl e3)), (k4, .inl (cy 0, 64, .inl e4)), (k5, .inl (cy 0, 64, .inl e5)), (k6, .inl (cy 0, 64, .inl e6)), (k7, .inl (cy 0, 64, .inl e7))] := hD
  refine lv_aload_n hx hb dX2_copyFrom_44 rfl (lv_at hl 1 rfl) ?_
  refine va_get (D := D) (ci := 2) (v := .ref k3) (C := RX2) (T := TX2) (N := 8) hx hb hts in_X2 hown hK hP 8 rfl rfl 3 (by decide) w_8 (fun _ h9 => h9) rfl dX2_copyFrom_45 ?_
  refine lv_iconst (v := 0) hx hb dX2_copyFrom_48 (by decide) ?_
  refine lv_aload_n hx hb dX2_copyFrom_49 rfl (lv_at hl 0 rfl) ?_
  refine va_get (D := D) (ci := 2) (v := .ref h3) (C := RX2) (T := TX2) (N := 8) hx hb hts in_X2 hown hK hP 0 rfl rfl 3 (by decide) w_8 (fun _ h9 => h9) rfl dX2_copyFrom_50 ?_
  refine lv_iconst (v := 0) hx hb dX2_copyFrom_53 (by decide) ?_
  refine lv_aload_n hx hb dX2_copyFrom_54 rfl (lv_at hl 0 rfl) ?_
  refine va_get (D := D) (ci := 2) (v := .ref h3) (C := RX2) (T := TX2) (N := 8) hx hb hts in_X2 hown hK hP 0 rfl rfl 3 (by decide) w_8 (fun _ h9 => h9) rfl dX2_copyFrom_55 ?_
  refine va_alen hx hb hK hP 3 0 rfl rfl (v := 16) rfl dX2_copyFrom_58 ?_
  refine va_copyi hx hb (hml.trans hl.1.symm) hown w_3 w_4 w_5 w_6 hK hP hD hS 11 3 0 0 rfl rfl rfl rfl rfl (by decide) (by decide) (by decide) (by decide) (by decide) (fun _ _ => rfl) (Nat.le_of_ble_eq_true rfl) (Nat.le_of_ble_eq_true rfl) dX2_copyFrom_59 (fun H locs hP hD hS => ?_)
  obtain ⟨g59, eg59⟩ : ∃ f : Nat → Int32, f = va_cpy e3 f3 (0 : Int32).toNatClampNeg (0 : Int32).toNatClampNeg (16 : Int32).toNatClampNeg := ⟨_, rfl⟩
  rw [← eg59] at hP hD
  have hP : va_P D vwCl [(h0, .inr (2, [.int y, .ref h1, .ref h2, .ref h3, .ref h4, .ref h5, .ref h6, .ref h7])), (h1, .inl (cy 0, 16, .inl g23)), (h2, .inl (cy 0, 16, .inl g41)), (h3, .inl (cy 0, 16, .inl g59)), (h4, .inl (cy 0, 64, .inl f4)), (h5, .inl (cy 0, 64, .inl f5)), (h6, .inl (cy 0, 64, .inl f6)), (h7, .inl (cy 0, 64, .inl f7)), (k0, .inr (2, [.int y, .ref k1, .ref k2, .ref k3, .ref k4, .ref k5, .ref k6, .ref k7])), (k1, .inl (cy 0, 16, .inl e1)), (k2, .inl (cy 0, 16, .inl e2)), (k3, .inl (cy 0, 16, .inl e3)), (k4, .inl (cy 0, 64, .inl e4)), (k5, .inl (cy 0, 64, .inl e5)), (k6, .inl (cy 0, 64, .inl e6)), (k7, .inl (cy 0, 64, .inl e7))] H := hP
  have hD : va_D A [(h0, .inr (2, [.int y, .ref h1, .ref h2, .ref h3, .ref h4, .ref h5, .ref h6, .ref h7])), (h1, .inl (cy 0, 16, .inl g23)), (h2, .inl (cy 0, 16, .inl g41)), (h3, .inl (cy 0, 16, .inl g59)), (h4, .inl (cy 0, 64, .inl f4)), (h5, .inl (cy 0, 64, .inl f5)), (h6, .inl (cy 0, 64, .inl f6)), (h7, .inl (cy 0, 64, .inl f7)), (k0, .inr (2, [.int y, .ref k1, .ref k2, .ref k3, .ref k4, .ref k5, .ref k6, .ref k7])), (k1, .inl (cy 0, 16, .inl e1)), (k2, .inl (cy 0, 16, .inl e2)), (k3, .inl (cy 0, 16, .inl e3)), (k4, .inl (cy 0, 64, .inl e4)), (k5, .inl (cy 0, 64, .inl e5)), (k6, .inl (cy 0, 64, .inl e6)), (k7, .inl (cy 0, 64, .inl e7))] := hD
  refine lv_aload_n hx hb dX2_copyFrom_62 rfl (lv_at hl 1 rfl) ?_
  refine va_get (D := D) (ci := 2) (v := .ref k4) (C := RX2) (T := TX2) (N := 8) hx hb hts in_X2 hown hK hP 8 rfl rfl 4 (by decide) w_9 (fun _ h9 => h9) rfl dX2_copyFrom_63 ?_
  refine lv_iconst (v := 0) hx hb dX2_copyFrom_66 (by decide) ?_
  refine lv_aload_n hx hb dX2_copyFrom_67 rfl (lv_at hl 0 rfl) ?_
  refine va_get (D := D) (ci := 2) (v := .ref h4) (C := RX2) (T := TX2) (N := 8) hx hb hts in_X2 hown hK hP 0 rfl rfl 4 (by decide) w_9 (fun _ h9 => h9) rfl dX2_copyFrom_68 ?_
  refine lv_iconst (v := 0) hx hb dX2_copyFrom_71 (by decide) ?_
  refine lv_aload_n hx hb dX2_copyFrom_72 rfl (lv_at hl 0 rfl) ?_
  refine va_get (D := D) (ci := 2) (v := .ref h4) (C := RX2) (T := TX2) (N := 8) hx hb hts in_X2 hown hK hP 0 rfl rfl 4 (by decide) w_9 (fun _ h9 => h9) rfl dX2_copyFrom_73 ?_
  refine va_alen hx hb hK hP 4 0 rfl rfl (v := 64) rfl dX2_copyFrom_76 ?_
  refine va_copyi hx hb (hml.trans hl.1.symm) hown w_3 w_4 w_5 w_6 hK hP hD hS 12 4 0 0 rfl rfl rfl rfl rfl (by decide) (by decide) (by decide) (by decide) (by decide) (fun _ _ => rfl) (Nat.le_of_ble_eq_true rfl) (Nat.le_of_ble_eq_true rfl) dX2_copyFrom_77 (fun H locs hP hD hS => ?_)
  obtain ⟨g77, eg77⟩ : ∃ f : Nat → Int32, f = va_cpy e4 f4 (0 : Int32).toNatClampNeg (0 : Int32).toNatClampNeg (64 : Int32).toNatClampNeg := ⟨_, rfl⟩
  rw [← eg77] at hP hD
  have hP : va_P D vwCl [(h0, .inr (2, [.int y, .ref h1, .ref h2, .ref h3, .ref h4, .ref h5, .ref h6, .ref h7])), (h1, .inl (cy 0, 16, .inl g23)), (h2, .inl (cy 0, 16, .inl g41)), (h3, .inl (cy 0, 16, .inl g59)), (h4, .inl (cy 0, 64, .inl g77)), (h5, .inl (cy 0, 64, .inl f5)), (h6, .inl (cy 0, 64, .inl f6)), (h7, .inl (cy 0, 64, .inl f7)), (k0, .inr (2, [.int y, .ref k1, .ref k2, .ref k3, .ref k4, .ref k5, .ref k6, .ref k7])), (k1, .inl (cy 0, 16, .inl e1)), (k2, .inl (cy 0, 16, .inl e2)), (k3, .inl (cy 0, 16, .inl e3)), (k4, .inl (cy 0, 64, .inl e4)), (k5, .inl (cy 0, 64, .inl e5)), (k6, .inl (cy 0, 64, .inl e6)), (k7, .inl (cy 0, 64, .inl e7))] H := hP
  have hD : va_D A [(h0, .inr (2, [.int y, .ref h1, .ref h2, .ref h3, .ref h4, .ref h5, .ref h6, .ref h7])), (h1, .inl (cy 0, 16, .inl g23)), (h2, .inl (cy 0, 16, .inl g41)), (h3, .inl (cy 0, 16, .inl g59)), (h4, .inl (cy 0, 64, .inl g77)), (h5, .inl (cy 0, 64, .inl f5)), (h6, .inl (cy 0, 64, .inl f6)), (h7, .inl (cy 0, 64, .inl f7)), (k0, .inr (2, [.int y, .ref k1, .ref k2, .ref k3, .ref k4, .ref k5, .ref k6, .ref k7])), (k1, .inl (cy 0, 16, .inl e1)), (k2, .inl (cy 0, 16, .inl e2)), (k3, .inl (cy 0, 16, .inl e3)), (k4, .inl (cy 0, 64, .inl e4)), (k5, .inl (cy 0, 64, .inl e5)), (k6, .inl (cy 0, 64, .inl e6)), (k7, .inl (cy 0, 64, .inl e7))] := hD
  refine lv_aload_n hx hb dX2_copyFrom_80 rfl (lv_at hl 1 rfl) ?_
  refine va_get (D := D) (ci := 2) (v := .ref k5) (C := RX2) (T := TX2) (N := 8) hx hb hts in_X2 hown hK hP 8 rfl rfl 5 (by decide) w_10 (fun _ h9 => h9) rfl dX2_copyFrom_81 ?_
  refine lv_iconst (v := 0) hx hb dX2_copyFrom_84 (by decide) ?_
  refine lv_aload_n hx hb dX2_copyFrom_85 rfl (lv_at hl 0 rfl) ?_
  refine va_get (D := D) (ci := 2) (v := .ref h5) (C := RX2) (T := TX2) (N := 8) hx hb hts in_X2 hown hK hP 0 rfl rfl 5 (by decide) w_10 (fun _ h9 => h9) rfl dX2_copyFrom_86 ?_
  refine lv_iconst (v := 0) hx hb dX2_copyFrom_89 (by decide) ?_
  refine lv_aload_n hx hb dX2_copyFrom_90 rfl (lv_at hl 0 rfl) ?_
  refine va_get (D := D) (ci := 2) (v := .ref h5) (C := RX2) (T := TX2) (N := 8) hx hb hts in_X2 hown hK hP 0 rfl rfl 5 (by decide) w_10 (fun _ h9 => h9) rfl dX2_copyFrom_91 ?_
  refine va_alen hx hb hK hP 5 0 rfl rfl (v := 64) rfl dX2_copyFrom_94 ?_
  refine va_copyi hx hb (hml.trans hl.1.symm) hown w_3 w_4 w_5 w_6 hK hP hD hS 13 5 0 0 rfl rfl rfl rfl rfl (by decide) (by decide) (by decide) (by decide) (by decide) (fun _ _ => rfl) (Nat.le_of_ble_eq_true rfl) (Nat.le_of_ble_eq_true rfl) dX2_copyFrom_95 (fun H locs hP hD hS => ?_)
  obtain ⟨g95, eg95⟩ : ∃ f : Nat → Int32, f = va_cpy e5 f5 (0 : Int32).toNatClampNeg (0 : Int32).toNatClampNeg (64 : Int32).toNatClampNeg := ⟨_, rfl⟩
  rw [← eg95] at hP hD
  have hP : va_P D vwCl [(h0, .inr (2, [.int y, .ref h1, .ref h2, .ref h3, .ref h4, .ref h5, .ref h6, .ref h7])), (h1, .inl (cy 0, 16, .inl g23)), (h2, .inl (cy 0, 16, .inl g41)), (h3, .inl (cy 0, 16, .inl g59)), (h4, .inl (cy 0, 64, .inl g77)), (h5, .inl (cy 0, 64, .inl g95)), (h6, .inl (cy 0, 64, .inl f6)), (h7, .inl (cy 0, 64, .inl f7)), (k0, .inr (2, [.int y, .ref k1, .ref k2, .ref k3, .ref k4, .ref k5, .ref k6, .ref k7])), (k1, .inl (cy 0, 16, .inl e1)), (k2, .inl (cy 0, 16, .inl e2)), (k3, .inl (cy 0, 16, .inl e3)), (k4, .inl (cy 0, 64, .inl e4)), (k5, .inl (cy 0, 64, .inl e5)), (k6, .inl (cy 0, 64, .inl e6)), (k7, .inl (cy 0, 64, .inl e7))] H := hP
  have hD : va_D A [(h0, .inr (2, [.int y, .ref h1, .ref h2, .ref h3, .ref h4, .ref h5, .ref h6, .ref h7])), (h1, .inl (cy 0, 16, .inl g23)), (h2, .inl (cy 0, 16, .inl g41)), (h3, .inl (cy 0, 16, .inl g59)), (h4, .inl (cy 0, 64, .inl g77)), (h5, .inl (cy 0, 64, .inl g95)), (h6, .inl (cy 0, 64, .inl f6)), (h7, .inl (cy 0, 64, .inl f7)), (k0, .inr (2, [.int y, .ref k1, .ref k2, .ref k3, .ref k4, .ref k5, .ref k6, .ref k7])), (k1, .inl (cy 0, 16, .inl e1)), (k2, .inl (cy 0, 16, .inl e2)), (k3, .inl (cy 0, 16, .inl e3)), (k4, .inl (cy 0, 64, .inl e4)), (k5, .inl (cy 0, 64, .inl e5)), (k6, .inl (cy 0, 64, .inl e6)), (k7, .inl (cy 0, 64, .inl e7))] := hD
  refine lv_aload_n hx hb dX2_copyFrom_98 rfl (lv_at hl 1 rfl) ?_
  refine va_get (D := D) (ci := 2) (v := .ref k6) (C := RX2) (T := TX2) (N := 8) hx hb hts in_X2 hown hK hP 8 rfl rfl 6 (by decide) w_11 (fun _ h9 => h9) rfl dX2_copyFrom_99 ?_
  refine lv_iconst (v := 0) hx hb dX2_copyFrom_102 (by decide) ?_
  refine lv_aload_n hx hb dX2_copyFrom_103 rfl (lv_at hl 0 rfl) ?_
  refine va_get (D := D) (ci := 2) (v := .ref h6) (C := RX2) (T := TX2) (N := 8) hx hb hts in_X2 hown hK hP 0 rfl rfl 6 (by decide) w_11 (fun _ h9 => h9) rfl dX2_copyFrom_104 ?_
  refine lv_iconst (v := 0) hx hb dX2_copyFrom_107 (by decide) ?_
  refine lv_aload_n hx hb dX2_copyFrom_108 rfl (lv_at hl 0 rfl) ?_
  refine va_get (D := D) (ci := 2) (v := .ref h6) (C := RX2) (T := TX2) (N := 8) hx hb hts in_X2 hown hK hP 0 rfl rfl 6 (by decide) w_11 (fun _ h9 => h9) rfl dX2_copyFrom_109 ?_
  refine va_alen hx hb hK hP 6 0 rfl rfl (v := 64) rfl dX2_copyFrom_112 ?_
  refine va_copyi hx hb (hml.trans hl.1.symm) hown w_3 w_4 w_5 w_6 hK hP hD hS 14 6 0 0 rfl rfl rfl rfl rfl (by decide) (by decide) (by decide) (by decide) (by decide) (fun _ _ => rfl) (Nat.le_of_ble_eq_true rfl) (Nat.le_of_ble_eq_true rfl) dX2_copyFrom_113 (fun H locs hP hD hS => ?_)
  obtain ⟨g113, eg113⟩ : ∃ f : Nat → Int32, f = va_cpy e6 f6 (0 : Int32).toNatClampNeg (0 : Int32).toNatClampNeg (64 : Int32).toNatClampNeg := ⟨_, rfl⟩
  rw [← eg113] at hP hD
  have hP : va_P D vwCl [(h0, .inr (2, [.int y, .ref h1, .ref h2, .ref h3, .ref h4, .ref h5, .ref h6, .ref h7])), (h1, .inl (cy 0, 16, .inl g23)), (h2, .inl (cy 0, 16, .inl g41)), (h3, .inl (cy 0, 16, .inl g59)), (h4, .inl (cy 0, 64, .inl g77)), (h5, .inl (cy 0, 64, .inl g95)), (h6, .inl (cy 0, 64, .inl g113)), (h7, .inl (cy 0, 64, .inl f7)), (k0, .inr (2, [.int y, .ref k1, .ref k2, .ref k3, .ref k4, .ref k5, .ref k6, .ref k7])), (k1, .inl (cy 0, 16, .inl e1)), (k2, .inl (cy 0, 16, .inl e2)), (k3, .inl (cy 0, 16, .inl e3)), (k4, .inl (cy 0, 64, .inl e4)), (k5, .inl (cy 0, 64, .inl e5)), (k6, .inl (cy 0, 64, .inl e6)), (k7, .inl (cy 0, 64, .inl e7))] H := hP
  have hD : va_D A [(h0, .inr (2, [.int y, .ref h1, .ref h2, .ref h3, .ref h4, .ref h5, .ref h6, .ref h7])), (h1, .inl (cy 0, 16, .inl g23)), (h2, .inl (cy 0, 16, .inl g41)), (h3, .inl (cy 0, 16, .inl g59)), (h4, .inl (cy 0, 64, .inl g77)), (h5, .inl (cy 0, 64, .inl g95)), (h6, .inl (cy 0, 64, .inl g113)), (h7, .inl (cy 0, 64, .inl f7)), (k0, .inr (2, [.int y, .ref k1, .ref k2, .ref k3, .ref k4, .ref k5, .ref k6, .ref k7])), (k1, .inl (cy 0, 16, .inl e1)), (k2, .inl (cy 0, 16, .inl e2)), (k3, .inl (cy 0, 16, .inl e3)), (k4, .inl (cy 0, 64, .inl e4)), (k5, .inl (cy 0, 64, .inl e5)), (k6, .inl (cy 0, 64, .inl e6)), (k7, .inl (cy 0, 64, .inl e7))] := hD
  refine lv_aload_n hx hb dX2_copyFrom_116 rfl (lv_at hl 1 rfl) ?_
  refine va_get (D := D) (ci := 2) (v := .ref k7) (C := RX2) (T := TX2) (N := 8) hx hb hts in_X2 hown hK hP 8 rfl rfl 7 (by decide) w_12 (fun _ h9 => h9) rfl dX2_copyFrom_117 ?_
  refine lv_iconst (v := 0) hx hb dX2_copyFrom_120 (by decide) ?_
  refine lv_aload_n hx hb dX2_copyFrom_121 rfl (lv_at hl 0 rfl) ?_
  refine va_get (D := D) (ci := 2) (v := .ref h7) (C := RX2) (T := TX2) (N := 8) hx hb hts in_X2 hown hK hP 0 rfl rfl 7 (by decide) w_12 (fun _ h9 => h9) rfl dX2_copyFrom_122 ?_
  refine lv_iconst (v := 0) hx hb dX2_copyFrom_125 (by decide) ?_
  refine lv_aload_n hx hb dX2_copyFrom_126 rfl (lv_at hl 0 rfl) ?_
  refine va_get (D := D) (ci := 2) (v := .ref h7) (C := RX2) (T := TX2) (N := 8) hx hb hts in_X2 hown hK hP 0 rfl rfl 7 (by decide) w_12 (fun _ h9 => h9) rfl dX2_copyFrom_127 ?_
  refine va_alen hx hb hK hP 7 0 rfl rfl (v := 64) rfl dX2_copyFrom_130 ?_
  refine va_copyi hx hb (hml.trans hl.1.symm) hown w_3 w_4 w_5 w_6 hK hP hD hS 15 7 0 0 rfl rfl rfl rfl rfl (by decide) (by decide) (by decide) (by decide) (by decide) (fun _ _ => rfl) (Nat.le_of_ble_eq_true rfl) (Nat.le_of_ble_eq_true rfl) dX2_copyFrom_131 (fun H locs hP hD hS => ?_)
  obtain ⟨g131, eg131⟩ : ∃ f : Nat → Int32, f = va_cpy e7 f7 (0 : Int32).toNatClampNeg (0 : Int32).toNatClampNeg (64 : Int32).toNatClampNeg := ⟨_, rfl⟩
  rw [← eg131] at hP hD
  have hP : va_P D vwCl [(h0, .inr (2, [.int y, .ref h1, .ref h2, .ref h3, .ref h4, .ref h5, .ref h6, .ref h7])), (h1, .inl (cy 0, 16, .inl g23)), (h2, .inl (cy 0, 16, .inl g41)), (h3, .inl (cy 0, 16, .inl g59)), (h4, .inl (cy 0, 64, .inl g77)), (h5, .inl (cy 0, 64, .inl g95)), (h6, .inl (cy 0, 64, .inl g113)), (h7, .inl (cy 0, 64, .inl g131)), (k0, .inr (2, [.int y, .ref k1, .ref k2, .ref k3, .ref k4, .ref k5, .ref k6, .ref k7])), (k1, .inl (cy 0, 16, .inl e1)), (k2, .inl (cy 0, 16, .inl e2)), (k3, .inl (cy 0, 16, .inl e3)), (k4, .inl (cy 0, 64, .inl e4)), (k5, .inl (cy 0, 64, .inl e5)), (k6, .inl (cy 0, 64, .inl e6)), (k7, .inl (cy 0, 64, .inl e7))] H := hP
  have hD : va_D A [(h0, .inr (2, [.int y, .ref h1, .ref h2, .ref h3, .ref h4, .ref h5, .ref h6, .ref h7])), (h1, .inl (cy 0, 16, .inl g23)), (h2, .inl (cy 0, 16, .inl g41)), (h3, .inl (cy 0, 16, .inl g59)), (h4, .inl (cy 0, 64, .inl g77)), (h5, .inl (cy 0, 64, .inl g95)), (h6, .inl (cy 0, 64, .inl g113)), (h7, .inl (cy 0, 64, .inl g131)), (k0, .inr (2, [.int y, .ref k1, .ref k2, .ref k3, .ref k4, .ref k5, .ref k6, .ref k7])), (k1, .inl (cy 0, 16, .inl e1)), (k2, .inl (cy 0, 16, .inl e2)), (k3, .inl (cy 0, 16, .inl e3)), (k4, .inl (cy 0, 64, .inl e4)), (k5, .inl (cy 0, 64, .inl e5)), (k6, .inl (cy 0, 64, .inl e6)), (k7, .inl (cy 0, 64, .inl e7))] := hD
  exact r_v hx hb hr hlocks hK hS dX2_copyFrom_134 (u := (g23, g41, g59, g77, g95, g113, g131)) hP hD (⟨cpy_at eg23, cpy_at eg41, cpy_at eg59, cpy_at eg77, cpy_at eg95, cpy_at eg113, cpy_at eg131⟩)

abbrev Q_c_X5_copyFrom (D : va_G) (cy : Nat → ClassId) (h0 : Nat) (h1 : Nat) (h2 : Nat) (h3 : Nat) (k0 : Nat) (k1 : Nat) (k2 : Nat) (k3 : Nat) (z : Int32) (y : Int32) (f1 : Nat → Int32) (f2 : Nat → Int32) (f3 : Nat → Int32) (e1 : Nat → Int32) (e2 : Nat → Int32) (e3 : Nat → Int32) : (Nat → Prop) → Array Value → State → Outcome → State → Prop := QV D cy (fun (u : (Nat → Int32) × (Nat → Int32) × (Nat → Int32)) => match u with | (g1, g2, g3) => (∀ j : Nat, j < 60 → g1 j = e1 j) ∧ (∀ j : Nat, j < 600 → g2 j = e2 j) ∧ (∀ j : Nat, j < 600 → g3 j = e3 j)) (fun u : (Nat → Int32) × (Nat → Int32) × (Nat → Int32) => match u with | (g1, g2, g3) => [(h0, .inr (5, [.int y, .ref h1, .ref h2, .ref h3])), (h1, .inl (cy 0, 60, .inl g1)), (h2, .inl (cy 0, 600, .inl g2)), (h3, .inl (cy 0, 600, .inl g3)), (k0, .inr (5, [.int y, .ref k1, .ref k2, .ref k3])), (k1, .inl (cy 0, 60, .inl e1)), (k2, .inl (cy 0, 600, .inl e2)), (k3, .inl (cy 0, 600, .inl e3))])
set_option maxHeartbeats 4000000 in
set_option maxRecDepth 100000 in
theorem c_X5_copyFrom (l : Launch) (D : va_G) (cy : Nat → ClassId) (h0 : Nat) (h1 : Nat) (h2 : Nat) (h3 : Nat) (k0 : Nat) (k1 : Nat) (k2 : Nat) (k3 : Nat) (z : Int32) (y : Int32) (f1 : Nat → Int32) (f2 : Nat → Int32) (f3 : Nat → Int32) (e1 : Nat → Int32) (e2 : Nat → Int32) (e3 : Nat → Int32) (sz : Nat)  : Met l yX5_copyFrom wsX5_copyFrom ({ frames := 1, cells := 0, slots := 0, locals := 30 } : Room) (CP D cy [.ref h0, .ref k0] [(h0, .inr (5, [.int z, .ref h1, .ref h2, .ref h3])), (h1, .inl (cy 0, 60, .inl f1)), (h2, .inl (cy 0, 600, .inl f2)), (h3, .inl (cy 0, 600, .inl f3)), (k0, .inr (5, [.int y, .ref k1, .ref k2, .ref k3])), (k1, .inl (cy 0, 60, .inl e1)), (k2, .inl (cy 0, 600, .inl e2)), (k3, .inl (cy 0, 600, .inl e3))] sz) (Q_c_X5_copyFrom D cy h0 h1 h2 h3 k0 k1 k2 k3 z y f1 f2 f3 e1 e2 e3 (va_A [(h0, .inr (5, [.int z, .ref h1, .ref h2, .ref h3])), (h1, .inl (cy 0, 60, .inl f1)), (h2, .inl (cy 0, 600, .inl f2)), (h3, .inl (cy 0, 600, .inl f3)), (k0, .inr (5, [.int y, .ref k1, .ref k2, .ref k3])), (k1, .inl (cy 0, 60, .inl e1)), (k2, .inl (cy 0, 600, .inl e2)), (k3, .inl (cy 0, 600, .inl e3))] sz)) 0 0 (va_A [(h0, .inr (5, [.int z, .ref h1, .ref h2, .ref h3])), (h1, .inl (cy 0, 60, .inl f1)), (h2, .inl (cy 0, 600, .inl f2)), (h3, .inl (cy 0, 600, .inl f3)), (k0, .inr (5, [.int y, .ref k1, .ref k2, .ref k3])), (k1, .inl (cy 0, 60, .inl e1)), (k2, .inl (cy 0, 600, .inl e2)), (k3, .inl (cy 0, 600, .inl e3))] sz) := by
  refine Met.go (Qc := Q_c_X5_copyFrom D cy h0 h1 h2 h3 k0 k1 k2 k3 z y f1 f2 f3 e1 e2 e3) (cc := cX5_copyFrom) (maxL := 2) (ret := none) (by decide) rfl (Nat.le_of_ble_eq_true rfl) ?_
  intro p e s m below meth c hx hb hr hts hown hlocks hin hml hK hN A hA hD hP hS ls hl hsz
  have hl : lv_has ls 2 [(0, .ref h0), (1, .ref k0)] := hl
  have in_X5 : ∀ w ∈ wsX50, w ∈ wsX5_copyFrom := fun _ h => List.mem_cons_of_mem _ ((List.mem_append_right _ h))
  have w_1 := hts (.fieldLink RX5 25 "SleepingCars$Runs" "size" "I") (by decide +kernel)
  have w_2 := hts (.fieldLink RX5 9 "SleepingCars$Runs" "berths" "[I") (by decide +kernel)
  have w_3 := hts (.methodLink RX5 29 arraycopyName) (by decide +kernel)
  have w_4 := hts (.native arraycopyName) (by decide +kernel)
  have w_5 := hts (.static arraycopyName) (by decide +kernel)
  have w_6 := hts (.initialized "java/lang/System") (by decide +kernel)
  have w_7 := hts (.fieldLink RX5 15 "SleepingCars$Runs" "owners" "[I") (by decide +kernel)
  have w_8 := hts (.fieldLink RX5 18 "SleepingCars$Runs" "soldLegs" "[I") (by decide +kernel)
  obtain ⟨H, eH⟩ : ∃ H : Heap, H = s.heap := ⟨_, rfl⟩
  obtain ⟨locs, eL⟩ : ∃ L : List Loc, L = [] := ⟨_, rfl⟩
  rw [← eL]
  rw [← eL] at hS
  have hP : va_P D vwCl [(h0, .inr (5, [.int z, .ref h1, .ref h2, .ref h3])), (h1, .inl (cy 0, 60, .inl f1)), (h2, .inl (cy 0, 600, .inl f2)), (h3, .inl (cy 0, 600, .inl f3)), (k0, .inr (5, [.int y, .ref k1, .ref k2, .ref k3])), (k1, .inl (cy 0, 60, .inl e1)), (k2, .inl (cy 0, 600, .inl e2)), (k3, .inl (cy 0, 600, .inl e3))] H := by rw [eH]; exact hP
  have hS : va_S A s.heap H locs := by rw [eH]; exact hS
  refine W.heapEq eH ?_
  clear eH eL
  refine lv_aload_n hx hb dX5_copyFrom_0 rfl (lv_at hl 0 rfl) ?_
  refine lv_aload_n hx hb dX5_copyFrom_1 rfl (lv_at hl 1 rfl) ?_
  refine va_get (D := D) (ci := 5) (v := .int y) (C := RX5) (T := TX5) (N := 4) hx hb hts in_X5 hown hK hP 4 rfl rfl 0 (by decide) w_1 (fun _ h9 => h9) rfl dX5_copyFrom_2 ?_
  refine va_put (D := D) (ci := 5) (v := .int y) (ty := .int) (C := RX5) (T := TX5) (N := 4) hx hb hts in_X5 tyX5 tyX5_ok nmX5 hown hK hP hD hS 0 rfl rfl 0 (by decide) w_1 (fun _ h9 => h9) rfl (by decide +kernel) rfl rfl (Nat.le_of_ble_eq_true rfl) dX5_copyFrom_5 (fun H locs hP hD hS => ?_)
  have hP : va_P D vwCl [(h0, .inr (5, [.int y, .ref h1, .ref h2, .ref h3])), (h1, .inl (cy 0, 60, .inl f1)), (h2, .inl (cy 0, 600, .inl f2)), (h3, .inl (cy 0, 600, .inl f3)), (k0, .inr (5, [.int y, .ref k1, .ref k2, .ref k3])), (k1, .inl (cy 0, 60, .inl e1)), (k2, .inl (cy 0, 600, .inl e2)), (k3, .inl (cy 0, 600, .inl e3))] H := hP
  have hD : va_D A [(h0, .inr (5, [.int y, .ref h1, .ref h2, .ref h3])), (h1, .inl (cy 0, 60, .inl f1)), (h2, .inl (cy 0, 600, .inl f2)), (h3, .inl (cy 0, 600, .inl f3)), (k0, .inr (5, [.int y, .ref k1, .ref k2, .ref k3])), (k1, .inl (cy 0, 60, .inl e1)), (k2, .inl (cy 0, 600, .inl e2)), (k3, .inl (cy 0, 600, .inl e3))] := hD
  refine lv_aload_n hx hb dX5_copyFrom_8 rfl (lv_at hl 1 rfl) ?_
  refine va_get (D := D) (ci := 5) (v := .ref k1) (C := RX5) (T := TX5) (N := 4) hx hb hts in_X5 hown hK hP 4 rfl rfl 1 (by decide) w_2 (fun _ h9 => h9) rfl dX5_copyFrom_9 ?_
  refine lv_iconst (v := 0) hx hb dX5_copyFrom_12 (by decide) ?_
  refine lv_aload_n hx hb dX5_copyFrom_13 rfl (lv_at hl 0 rfl) ?_
  refine va_get (D := D) (ci := 5) (v := .ref h1) (C := RX5) (T := TX5) (N := 4) hx hb hts in_X5 hown hK hP 0 rfl rfl 1 (by decide) w_2 (fun _ h9 => h9) rfl dX5_copyFrom_14 ?_
  refine lv_iconst (v := 0) hx hb dX5_copyFrom_17 (by decide) ?_
  refine lv_aload_n hx hb dX5_copyFrom_18 rfl (lv_at hl 0 rfl) ?_
  refine va_get (D := D) (ci := 5) (v := .ref h1) (C := RX5) (T := TX5) (N := 4) hx hb hts in_X5 hown hK hP 0 rfl rfl 1 (by decide) w_2 (fun _ h9 => h9) rfl dX5_copyFrom_19 ?_
  refine va_alen hx hb hK hP 1 0 rfl rfl (v := 60) rfl dX5_copyFrom_22 ?_
  refine va_copyi hx hb (hml.trans hl.1.symm) hown w_3 w_4 w_5 w_6 hK hP hD hS 5 1 0 0 rfl rfl rfl rfl rfl (by decide) (by decide) (by decide) (by decide) (by decide) (fun _ _ => rfl) (Nat.le_of_ble_eq_true rfl) (Nat.le_of_ble_eq_true rfl) dX5_copyFrom_23 (fun H locs hP hD hS => ?_)
  obtain ⟨g23, eg23⟩ : ∃ f : Nat → Int32, f = va_cpy e1 f1 (0 : Int32).toNatClampNeg (0 : Int32).toNatClampNeg (60 : Int32).toNatClampNeg := ⟨_, rfl⟩
  rw [← eg23] at hP hD
  have hP : va_P D vwCl [(h0, .inr (5, [.int y, .ref h1, .ref h2, .ref h3])), (h1, .inl (cy 0, 60, .inl g23)), (h2, .inl (cy 0, 600, .inl f2)), (h3, .inl (cy 0, 600, .inl f3)), (k0, .inr (5, [.int y, .ref k1, .ref k2, .ref k3])), (k1, .inl (cy 0, 60, .inl e1)), (k2, .inl (cy 0, 600, .inl e2)), (k3, .inl (cy 0, 600, .inl e3))] H := hP
  have hD : va_D A [(h0, .inr (5, [.int y, .ref h1, .ref h2, .ref h3])), (h1, .inl (cy 0, 60, .inl g23)), (h2, .inl (cy 0, 600, .inl f2)), (h3, .inl (cy 0, 600, .inl f3)), (k0, .inr (5, [.int y, .ref k1, .ref k2, .ref k3])), (k1, .inl (cy 0, 60, .inl e1)), (k2, .inl (cy 0, 600, .inl e2)), (k3, .inl (cy 0, 600, .inl e3))] := hD
  refine lv_aload_n hx hb dX5_copyFrom_26 rfl (lv_at hl 1 rfl) ?_
  refine va_get (D := D) (ci := 5) (v := .ref k2) (C := RX5) (T := TX5) (N := 4) hx hb hts in_X5 hown hK hP 4 rfl rfl 2 (by decide) w_7 (fun _ h9 => h9) rfl dX5_copyFrom_27 ?_
  refine lv_iconst (v := 0) hx hb dX5_copyFrom_30 (by decide) ?_
  refine lv_aload_n hx hb dX5_copyFrom_31 rfl (lv_at hl 0 rfl) ?_
  refine va_get (D := D) (ci := 5) (v := .ref h2) (C := RX5) (T := TX5) (N := 4) hx hb hts in_X5 hown hK hP 0 rfl rfl 2 (by decide) w_7 (fun _ h9 => h9) rfl dX5_copyFrom_32 ?_
  refine lv_iconst (v := 0) hx hb dX5_copyFrom_35 (by decide) ?_
  refine lv_aload_n hx hb dX5_copyFrom_36 rfl (lv_at hl 0 rfl) ?_
  refine va_get (D := D) (ci := 5) (v := .ref h2) (C := RX5) (T := TX5) (N := 4) hx hb hts in_X5 hown hK hP 0 rfl rfl 2 (by decide) w_7 (fun _ h9 => h9) rfl dX5_copyFrom_37 ?_
  refine va_alen hx hb hK hP 2 0 rfl rfl (v := 600) rfl dX5_copyFrom_40 ?_
  refine va_copyi hx hb (hml.trans hl.1.symm) hown w_3 w_4 w_5 w_6 hK hP hD hS 6 2 0 0 rfl rfl rfl rfl rfl (by decide) (by decide) (by decide) (by decide) (by decide) (fun _ _ => rfl) (Nat.le_of_ble_eq_true rfl) (Nat.le_of_ble_eq_true rfl) dX5_copyFrom_41 (fun H locs hP hD hS => ?_)
  obtain ⟨g41, eg41⟩ : ∃ f : Nat → Int32, f = va_cpy e2 f2 (0 : Int32).toNatClampNeg (0 : Int32).toNatClampNeg (600 : Int32).toNatClampNeg := ⟨_, rfl⟩
  rw [← eg41] at hP hD
  have hP : va_P D vwCl [(h0, .inr (5, [.int y, .ref h1, .ref h2, .ref h3])), (h1, .inl (cy 0, 60, .inl g23)), (h2, .inl (cy 0, 600, .inl g41)), (h3, .inl (cy 0, 600, .inl f3)), (k0, .inr (5, [.int y, .ref k1, .ref k2, .ref k3])), (k1, .inl (cy 0, 60, .inl e1)), (k2, .inl (cy 0, 600, .inl e2)), (k3, .inl (cy 0, 600, .inl e3))] H := hP
  have hD : va_D A [(h0, .inr (5, [.int y, .ref h1, .ref h2, .ref h3])), (h1, .inl (cy 0, 60, .inl g23)), (h2, .inl (cy 0, 600, .inl g41)), (h3, .inl (cy 0, 600, .inl f3)), (k0, .inr (5, [.int y, .ref k1, .ref k2, .ref k3])), (k1, .inl (cy 0, 60, .inl e1)), (k2, .inl (cy 0, 600, .inl e2)), (k3, .inl (cy 0, 600, .inl e3))] := hD
  refine lv_aload_n hx hb dX5_copyFrom_44 rfl (lv_at hl 1 rfl) ?_
  refine va_get (D := D) (ci := 5) (v := .ref k3) (C := RX5) (T := TX5) (N := 4) hx hb hts in_X5 hown hK hP 4 rfl rfl 3 (by decide) w_8 (fun _ h9 => h9) rfl dX5_copyFrom_45 ?_
  refine lv_iconst (v := 0) hx hb dX5_copyFrom_48 (by decide) ?_
  refine lv_aload_n hx hb dX5_copyFrom_49 rfl (lv_at hl 0 rfl) ?_
  refine va_get (D := D) (ci := 5) (v := .ref h3) (C := RX5) (T := TX5) (N := 4) hx hb hts in_X5 hown hK hP 0 rfl rfl 3 (by decide) w_8 (fun _ h9 => h9) rfl dX5_copyFrom_50 ?_
  refine lv_iconst (v := 0) hx hb dX5_copyFrom_53 (by decide) ?_
  refine lv_aload_n hx hb dX5_copyFrom_54 rfl (lv_at hl 0 rfl) ?_
  refine va_get (D := D) (ci := 5) (v := .ref h3) (C := RX5) (T := TX5) (N := 4) hx hb hts in_X5 hown hK hP 0 rfl rfl 3 (by decide) w_8 (fun _ h9 => h9) rfl dX5_copyFrom_55 ?_
  refine va_alen hx hb hK hP 3 0 rfl rfl (v := 600) rfl dX5_copyFrom_58 ?_
  refine va_copyi hx hb (hml.trans hl.1.symm) hown w_3 w_4 w_5 w_6 hK hP hD hS 7 3 0 0 rfl rfl rfl rfl rfl (by decide) (by decide) (by decide) (by decide) (by decide) (fun _ _ => rfl) (Nat.le_of_ble_eq_true rfl) (Nat.le_of_ble_eq_true rfl) dX5_copyFrom_59 (fun H locs hP hD hS => ?_)
  obtain ⟨g59, eg59⟩ : ∃ f : Nat → Int32, f = va_cpy e3 f3 (0 : Int32).toNatClampNeg (0 : Int32).toNatClampNeg (600 : Int32).toNatClampNeg := ⟨_, rfl⟩
  rw [← eg59] at hP hD
  have hP : va_P D vwCl [(h0, .inr (5, [.int y, .ref h1, .ref h2, .ref h3])), (h1, .inl (cy 0, 60, .inl g23)), (h2, .inl (cy 0, 600, .inl g41)), (h3, .inl (cy 0, 600, .inl g59)), (k0, .inr (5, [.int y, .ref k1, .ref k2, .ref k3])), (k1, .inl (cy 0, 60, .inl e1)), (k2, .inl (cy 0, 600, .inl e2)), (k3, .inl (cy 0, 600, .inl e3))] H := hP
  have hD : va_D A [(h0, .inr (5, [.int y, .ref h1, .ref h2, .ref h3])), (h1, .inl (cy 0, 60, .inl g23)), (h2, .inl (cy 0, 600, .inl g41)), (h3, .inl (cy 0, 600, .inl g59)), (k0, .inr (5, [.int y, .ref k1, .ref k2, .ref k3])), (k1, .inl (cy 0, 60, .inl e1)), (k2, .inl (cy 0, 600, .inl e2)), (k3, .inl (cy 0, 600, .inl e3))] := hD
  exact r_v hx hb hr hlocks hK hS dX5_copyFrom_62 (u := (g23, g41, g59)) hP hD (⟨cpy_at eg23, cpy_at eg41, cpy_at eg59⟩)

abbrev Q_c_X7_copyFrom (D : va_G) (cy : Nat → ClassId) (h0 : Nat) (h1 : Nat) (h2 : Nat) (h3 : Nat) (h4 : Nat) (h5 : Nat) (h6 : Nat) (k0 : Nat) (k1 : Nat) (k2 : Nat) (k3 : Nat) (k4 : Nat) (k5 : Nat) (k6 : Nat) (z : Int32) (y : Int32) (f1 : Nat → Int32) (f2 : Nat → Int32) (f3 : Nat → Int32) (f4 : Nat → Int32) (f5 : Nat → Int32) (f6 : Nat → Int32) (e1 : Nat → Int32) (e2 : Nat → Int32) (e3 : Nat → Int32) (e4 : Nat → Int32) (e5 : Nat → Int32) (e6 : Nat → Int32) : (Nat → Prop) → Array Value → State → Outcome → State → Prop := QV D cy (fun (u : (Nat → Int32) × (Nat → Int32) × (Nat → Int32) × (Nat → Int32) × (Nat → Int32) × (Nat → Int32)) => match u with | (g1, g2, g3, g4, g5, g6) => (∀ j : Nat, j < y.toInt.toNat → g1 j = e1 j) ∧ (∀ j : Nat, j < y.toInt.toNat → g2 j = e2 j) ∧ (∀ j : Nat, j < y.toInt.toNat → g3 j = e3 j) ∧ (∀ j : Nat, j < y.toInt.toNat → g4 j = e4 j) ∧ (∀ j : Nat, j < y.toInt.toNat → g5 j = e5 j) ∧ (∀ j : Nat, j < y.toInt.toNat → g6 j = e6 j)) (fun u : (Nat → Int32) × (Nat → Int32) × (Nat → Int32) × (Nat → Int32) × (Nat → Int32) × (Nat → Int32) => match u with | (g1, g2, g3, g4, g5, g6) => [(h0, .inr (7, [.int y, .ref h1, .ref h2, .ref h3, .ref h4, .ref h5, .ref h6])), (h1, .inl (cy 0, 300, .inl g1)), (h2, .inl (cy 0, 300, .inl g2)), (h3, .inl (cy 0, 300, .inl g3)), (h4, .inl (cy 0, 300, .inl g4)), (h5, .inl (cy 0, 300, .inl g5)), (h6, .inl (cy 0, 300, .inl g6)), (k0, .inr (7, [.int y, .ref k1, .ref k2, .ref k3, .ref k4, .ref k5, .ref k6])), (k1, .inl (cy 0, 300, .inl e1)), (k2, .inl (cy 0, 300, .inl e2)), (k3, .inl (cy 0, 300, .inl e3)), (k4, .inl (cy 0, 300, .inl e4)), (k5, .inl (cy 0, 300, .inl e5)), (k6, .inl (cy 0, 300, .inl e6))])
set_option maxHeartbeats 4000000 in
set_option maxRecDepth 100000 in
theorem c_X7_copyFrom (l : Launch) (D : va_G) (cy : Nat → ClassId) (h0 : Nat) (h1 : Nat) (h2 : Nat) (h3 : Nat) (h4 : Nat) (h5 : Nat) (h6 : Nat) (k0 : Nat) (k1 : Nat) (k2 : Nat) (k3 : Nat) (k4 : Nat) (k5 : Nat) (k6 : Nat) (z : Int32) (y : Int32) (f1 : Nat → Int32) (f2 : Nat → Int32) (f3 : Nat → Int32) (f4 : Nat → Int32) (f5 : Nat → Int32) (f6 : Nat → Int32) (e1 : Nat → Int32) (e2 : Nat → Int32) (e3 : Nat → Int32) (e4 : Nat → Int32) (e5 : Nat → Int32) (e6 : Nat → Int32) (sz : Nat) (hy : 0 ≤ y.toInt ∧ y.toInt ≤ 300) : Met l yX7_copyFrom wsX7_copyFrom ({ frames := 1, cells := 0, slots := 0, locals := 30 } : Room) (CP D cy [.ref h0, .ref k0] [(h0, .inr (7, [.int z, .ref h1, .ref h2, .ref h3, .ref h4, .ref h5, .ref h6])), (h1, .inl (cy 0, 300, .inl f1)), (h2, .inl (cy 0, 300, .inl f2)), (h3, .inl (cy 0, 300, .inl f3)), (h4, .inl (cy 0, 300, .inl f4)), (h5, .inl (cy 0, 300, .inl f5)), (h6, .inl (cy 0, 300, .inl f6)), (k0, .inr (7, [.int y, .ref k1, .ref k2, .ref k3, .ref k4, .ref k5, .ref k6])), (k1, .inl (cy 0, 300, .inl e1)), (k2, .inl (cy 0, 300, .inl e2)), (k3, .inl (cy 0, 300, .inl e3)), (k4, .inl (cy 0, 300, .inl e4)), (k5, .inl (cy 0, 300, .inl e5)), (k6, .inl (cy 0, 300, .inl e6))] sz) (Q_c_X7_copyFrom D cy h0 h1 h2 h3 h4 h5 h6 k0 k1 k2 k3 k4 k5 k6 z y f1 f2 f3 f4 f5 f6 e1 e2 e3 e4 e5 e6 (va_A [(h0, .inr (7, [.int z, .ref h1, .ref h2, .ref h3, .ref h4, .ref h5, .ref h6])), (h1, .inl (cy 0, 300, .inl f1)), (h2, .inl (cy 0, 300, .inl f2)), (h3, .inl (cy 0, 300, .inl f3)), (h4, .inl (cy 0, 300, .inl f4)), (h5, .inl (cy 0, 300, .inl f5)), (h6, .inl (cy 0, 300, .inl f6)), (k0, .inr (7, [.int y, .ref k1, .ref k2, .ref k3, .ref k4, .ref k5, .ref k6])), (k1, .inl (cy 0, 300, .inl e1)), (k2, .inl (cy 0, 300, .inl e2)), (k3, .inl (cy 0, 300, .inl e3)), (k4, .inl (cy 0, 300, .inl e4)), (k5, .inl (cy 0, 300, .inl e5)), (k6, .inl (cy 0, 300, .inl e6))] sz)) 0 0 (va_A [(h0, .inr (7, [.int z, .ref h1, .ref h2, .ref h3, .ref h4, .ref h5, .ref h6])), (h1, .inl (cy 0, 300, .inl f1)), (h2, .inl (cy 0, 300, .inl f2)), (h3, .inl (cy 0, 300, .inl f3)), (h4, .inl (cy 0, 300, .inl f4)), (h5, .inl (cy 0, 300, .inl f5)), (h6, .inl (cy 0, 300, .inl f6)), (k0, .inr (7, [.int y, .ref k1, .ref k2, .ref k3, .ref k4, .ref k5, .ref k6])), (k1, .inl (cy 0, 300, .inl e1)), (k2, .inl (cy 0, 300, .inl e2)), (k3, .inl (cy 0, 300, .inl e3)), (k4, .inl (cy 0, 300, .inl e4)), (k5, .inl (cy 0, 300, .inl e5)), (k6, .inl (cy 0, 300, .inl e6))] sz) := by
  refine Met.go (Qc := Q_c_X7_copyFrom D cy h0 h1 h2 h3 h4 h5 h6 k0 k1 k2 k3 k4 k5 k6 z y f1 f2 f3 f4 f5 f6 e1 e2 e3 e4 e5 e6) (cc := cX7_copyFrom) (maxL := 2) (ret := none) (by decide) rfl (Nat.le_of_ble_eq_true rfl) ?_
  intro p e s m below meth c hx hb hr hts hown hlocks hin hml hK hN A hA hD hP hS ls hl hsz
  have hl : lv_has ls 2 [(0, .ref h0), (1, .ref k0)] := hl
  have in_X7 : ∀ w ∈ wsX70, w ∈ wsX7_copyFrom := fun _ h => List.mem_cons_of_mem _ ((List.mem_append_right _ h))
  have w_1 := hts (.fieldLink RX7 30 "SleepingCars$Tickets" "size" "I") (by decide +kernel)
  have w_2 := hts (.fieldLink RX7 9 "SleepingCars$Tickets" "days" "[I") (by decide +kernel)
  have w_3 := hts (.methodLink RX7 46 arraycopyName) (by decide +kernel)
  have w_4 := hts (.native arraycopyName) (by decide +kernel)
  have w_5 := hts (.static arraycopyName) (by decide +kernel)
  have w_6 := hts (.initialized "java/lang/System") (by decide +kernel)
  have w_7 := hts (.fieldLink RX7 15 "SleepingCars$Tickets" "berths" "[I") (by decide +kernel)
  have w_8 := hts (.fieldLink RX7 18 "SleepingCars$Tickets" "froms" "[I") (by decide +kernel)
  have w_9 := hts (.fieldLink RX7 21 "SleepingCars$Tickets" "tos" "[I") (by decide +kernel)
  have w_10 := hts (.fieldLink RX7 24 "SleepingCars$Tickets" "offices" "[I") (by decide +kernel)
  have w_11 := hts (.fieldLink RX7 27 "SleepingCars$Tickets" "given" "[I") (by decide +kernel)
  obtain ⟨H, eH⟩ : ∃ H : Heap, H = s.heap := ⟨_, rfl⟩
  obtain ⟨locs, eL⟩ : ∃ L : List Loc, L = [] := ⟨_, rfl⟩
  rw [← eL]
  rw [← eL] at hS
  have hP : va_P D vwCl [(h0, .inr (7, [.int z, .ref h1, .ref h2, .ref h3, .ref h4, .ref h5, .ref h6])), (h1, .inl (cy 0, 300, .inl f1)), (h2, .inl (cy 0, 300, .inl f2)), (h3, .inl (cy 0, 300, .inl f3)), (h4, .inl (cy 0, 300, .inl f4)), (h5, .inl (cy 0, 300, .inl f5)), (h6, .inl (cy 0, 300, .inl f6)), (k0, .inr (7, [.int y, .ref k1, .ref k2, .ref k3, .ref k4, .ref k5, .ref k6])), (k1, .inl (cy 0, 300, .inl e1)), (k2, .inl (cy 0, 300, .inl e2)), (k3, .inl (cy 0, 300, .inl e3)), (k4, .inl (cy 0, 300, .inl e4)), (k5, .inl (cy 0, 300, .inl e5)), (k6, .inl (cy 0, 300, .inl e6))] H := by rw [eH]; exact hP
  have hS : va_S A s.heap H locs := by rw [eH]; exact hS
  refine W.heapEq eH ?_
  clear eH eL
  refine lv_aload_n hx hb dX7_copyFrom_0 rfl (lv_at hl 0 rfl) ?_
  refine lv_aload_n hx hb dX7_copyFrom_1 rfl (lv_at hl 1 rfl) ?_
  refine va_get (D := D) (ci := 7) (v := .int y) (C := RX7) (T := TX7) (N := 7) hx hb hts in_X7 hown hK hP 7 rfl rfl 0 (by decide) w_1 (fun _ h9 => h9) rfl dX7_copyFrom_2 ?_
  refine va_put (D := D) (ci := 7) (v := .int y) (ty := .int) (C := RX7) (T := TX7) (N := 7) hx hb hts in_X7 tyX7 tyX7_ok nmX7 hown hK hP hD hS 0 rfl rfl 0 (by decide) w_1 (fun _ h9 => h9) rfl (by decide +kernel) rfl rfl (Nat.le_of_ble_eq_true rfl) dX7_copyFrom_5 (fun H locs hP hD hS => ?_)
  have hP : va_P D vwCl [(h0, .inr (7, [.int y, .ref h1, .ref h2, .ref h3, .ref h4, .ref h5, .ref h6])), (h1, .inl (cy 0, 300, .inl f1)), (h2, .inl (cy 0, 300, .inl f2)), (h3, .inl (cy 0, 300, .inl f3)), (h4, .inl (cy 0, 300, .inl f4)), (h5, .inl (cy 0, 300, .inl f5)), (h6, .inl (cy 0, 300, .inl f6)), (k0, .inr (7, [.int y, .ref k1, .ref k2, .ref k3, .ref k4, .ref k5, .ref k6])), (k1, .inl (cy 0, 300, .inl e1)), (k2, .inl (cy 0, 300, .inl e2)), (k3, .inl (cy 0, 300, .inl e3)), (k4, .inl (cy 0, 300, .inl e4)), (k5, .inl (cy 0, 300, .inl e5)), (k6, .inl (cy 0, 300, .inl e6))] H := hP
  have hD : va_D A [(h0, .inr (7, [.int y, .ref h1, .ref h2, .ref h3, .ref h4, .ref h5, .ref h6])), (h1, .inl (cy 0, 300, .inl f1)), (h2, .inl (cy 0, 300, .inl f2)), (h3, .inl (cy 0, 300, .inl f3)), (h4, .inl (cy 0, 300, .inl f4)), (h5, .inl (cy 0, 300, .inl f5)), (h6, .inl (cy 0, 300, .inl f6)), (k0, .inr (7, [.int y, .ref k1, .ref k2, .ref k3, .ref k4, .ref k5, .ref k6])), (k1, .inl (cy 0, 300, .inl e1)), (k2, .inl (cy 0, 300, .inl e2)), (k3, .inl (cy 0, 300, .inl e3)), (k4, .inl (cy 0, 300, .inl e4)), (k5, .inl (cy 0, 300, .inl e5)), (k6, .inl (cy 0, 300, .inl e6))] := hD
  refine lv_aload_n hx hb dX7_copyFrom_8 rfl (lv_at hl 1 rfl) ?_
  refine va_get (D := D) (ci := 7) (v := .ref k1) (C := RX7) (T := TX7) (N := 7) hx hb hts in_X7 hown hK hP 7 rfl rfl 1 (by decide) w_2 (fun _ h9 => h9) rfl dX7_copyFrom_9 ?_
  refine lv_iconst (v := 0) hx hb dX7_copyFrom_12 (by decide) ?_
  refine lv_aload_n hx hb dX7_copyFrom_13 rfl (lv_at hl 0 rfl) ?_
  refine va_get (D := D) (ci := 7) (v := .ref h1) (C := RX7) (T := TX7) (N := 7) hx hb hts in_X7 hown hK hP 0 rfl rfl 1 (by decide) w_2 (fun _ h9 => h9) rfl dX7_copyFrom_14 ?_
  refine lv_iconst (v := 0) hx hb dX7_copyFrom_17 (by decide) ?_
  refine lv_aload_n hx hb dX7_copyFrom_18 rfl (lv_at hl 0 rfl) ?_
  refine va_get (D := D) (ci := 7) (v := .int y) (C := RX7) (T := TX7) (N := 7) hx hb hts in_X7 hown hK hP 0 rfl rfl 0 (by decide) w_1 (fun _ h9 => h9) rfl dX7_copyFrom_19 ?_
  refine va_copyi hx hb (hml.trans hl.1.symm) hown w_3 w_4 w_5 w_6 hK hP hD hS 8 1 0 0 rfl rfl rfl rfl rfl (by decide) (by decide) (q_nn (by omega)) (cl_le hy.2) (cl_le hy.2) (fun _ _ => rfl) (Nat.le_of_ble_eq_true rfl) (Nat.le_of_ble_eq_true rfl) dX7_copyFrom_22 (fun H locs hP hD hS => ?_)
  obtain ⟨g22, eg22⟩ : ∃ f : Nat → Int32, f = va_cpy e1 f1 (0 : Int32).toNatClampNeg (0 : Int32).toNatClampNeg y.toNatClampNeg := ⟨_, rfl⟩
  rw [← eg22] at hP hD
  have hP : va_P D vwCl [(h0, .inr (7, [.int y, .ref h1, .ref h2, .ref h3, .ref h4, .ref h5, .ref h6])), (h1, .inl (cy 0, 300, .inl g22)), (h2, .inl (cy 0, 300, .inl f2)), (h3, .inl (cy 0, 300, .inl f3)), (h4, .inl (cy 0, 300, .inl f4)), (h5, .inl (cy 0, 300, .inl f5)), (h6, .inl (cy 0, 300, .inl f6)), (k0, .inr (7, [.int y, .ref k1, .ref k2, .ref k3, .ref k4, .ref k5, .ref k6])), (k1, .inl (cy 0, 300, .inl e1)), (k2, .inl (cy 0, 300, .inl e2)), (k3, .inl (cy 0, 300, .inl e3)), (k4, .inl (cy 0, 300, .inl e4)), (k5, .inl (cy 0, 300, .inl e5)), (k6, .inl (cy 0, 300, .inl e6))] H := hP
  have hD : va_D A [(h0, .inr (7, [.int y, .ref h1, .ref h2, .ref h3, .ref h4, .ref h5, .ref h6])), (h1, .inl (cy 0, 300, .inl g22)), (h2, .inl (cy 0, 300, .inl f2)), (h3, .inl (cy 0, 300, .inl f3)), (h4, .inl (cy 0, 300, .inl f4)), (h5, .inl (cy 0, 300, .inl f5)), (h6, .inl (cy 0, 300, .inl f6)), (k0, .inr (7, [.int y, .ref k1, .ref k2, .ref k3, .ref k4, .ref k5, .ref k6])), (k1, .inl (cy 0, 300, .inl e1)), (k2, .inl (cy 0, 300, .inl e2)), (k3, .inl (cy 0, 300, .inl e3)), (k4, .inl (cy 0, 300, .inl e4)), (k5, .inl (cy 0, 300, .inl e5)), (k6, .inl (cy 0, 300, .inl e6))] := hD
  refine lv_aload_n hx hb dX7_copyFrom_25 rfl (lv_at hl 1 rfl) ?_
  refine va_get (D := D) (ci := 7) (v := .ref k2) (C := RX7) (T := TX7) (N := 7) hx hb hts in_X7 hown hK hP 7 rfl rfl 2 (by decide) w_7 (fun _ h9 => h9) rfl dX7_copyFrom_26 ?_
  refine lv_iconst (v := 0) hx hb dX7_copyFrom_29 (by decide) ?_
  refine lv_aload_n hx hb dX7_copyFrom_30 rfl (lv_at hl 0 rfl) ?_
  refine va_get (D := D) (ci := 7) (v := .ref h2) (C := RX7) (T := TX7) (N := 7) hx hb hts in_X7 hown hK hP 0 rfl rfl 2 (by decide) w_7 (fun _ h9 => h9) rfl dX7_copyFrom_31 ?_
  refine lv_iconst (v := 0) hx hb dX7_copyFrom_34 (by decide) ?_
  refine lv_aload_n hx hb dX7_copyFrom_35 rfl (lv_at hl 0 rfl) ?_
  refine va_get (D := D) (ci := 7) (v := .int y) (C := RX7) (T := TX7) (N := 7) hx hb hts in_X7 hown hK hP 0 rfl rfl 0 (by decide) w_1 (fun _ h9 => h9) rfl dX7_copyFrom_36 ?_
  refine va_copyi hx hb (hml.trans hl.1.symm) hown w_3 w_4 w_5 w_6 hK hP hD hS 9 2 0 0 rfl rfl rfl rfl rfl (by decide) (by decide) (q_nn (by omega)) (cl_le hy.2) (cl_le hy.2) (fun _ _ => rfl) (Nat.le_of_ble_eq_true rfl) (Nat.le_of_ble_eq_true rfl) dX7_copyFrom_39 (fun H locs hP hD hS => ?_)
  obtain ⟨g39, eg39⟩ : ∃ f : Nat → Int32, f = va_cpy e2 f2 (0 : Int32).toNatClampNeg (0 : Int32).toNatClampNeg y.toNatClampNeg := ⟨_, rfl⟩
  rw [← eg39] at hP hD
  have hP : va_P D vwCl [(h0, .inr (7, [.int y, .ref h1, .ref h2, .ref h3, .ref h4, .ref h5, .ref h6])), (h1, .inl (cy 0, 300, .inl g22)), (h2, .inl (cy 0, 300, .inl g39)), (h3, .inl (cy 0, 300, .inl f3)), (h4, .inl (cy 0, 300, .inl f4)), (h5, .inl (cy 0, 300, .inl f5)), (h6, .inl (cy 0, 300, .inl f6)), (k0, .inr (7, [.int y, .ref k1, .ref k2, .ref k3, .ref k4, .ref k5, .ref k6])), (k1, .inl (cy 0, 300, .inl e1)), (k2, .inl (cy 0, 300, .inl e2)), (k3, .inl (cy 0, 300, .inl e3)), (k4, .inl (cy 0, 300, .inl e4)), (k5, .inl (cy 0, 300, .inl e5)), (k6, .inl (cy 0, 300, .inl e6))] H := hP
  have hD : va_D A [(h0, .inr (7, [.int y, .ref h1, .ref h2, .ref h3, .ref h4, .ref h5, .ref h6])), (h1, .inl (cy 0, 300, .inl g22)), (h2, .inl (cy 0, 300, .inl g39)), (h3, .inl (cy 0, 300, .inl f3)), (h4, .inl (cy 0, 300, .inl f4)), (h5, .inl (cy 0, 300, .inl f5)), (h6, .inl (cy 0, 300, .inl f6)), (k0, .inr (7, [.int y, .ref k1, .ref k2, .ref k3, .ref k4, .ref k5, .ref k6])), (k1, .inl (cy 0, 300, .inl e1)), (k2, .inl (cy 0, 300, .inl e2)), (k3, .inl (cy 0, 300, .inl e3)), (k4, .inl (cy 0, 300, .inl e4)), (k5, .inl (cy 0, 300, .inl e5)), (k6, .inl (cy 0, 300, .inl e6))] := hD
  refine lv_aload_n hx hb dX7_copyFrom_42 rfl (lv_at hl 1 rfl) ?_
  refine va_get (D := D) (ci := 7) (v := .ref k3) (C := RX7) (T := TX7) (N := 7) hx hb hts in_X7 hown hK hP 7 rfl rfl 3 (by decide) w_8 (fun _ h9 => h9) rfl dX7_copyFrom_43 ?_
  refine lv_iconst (v := 0) hx hb dX7_copyFrom_46 (by decide) ?_
  refine lv_aload_n hx hb dX7_copyFrom_47 rfl (lv_at hl 0 rfl) ?_
  refine va_get (D := D) (ci := 7) (v := .ref h3) (C := RX7) (T := TX7) (N := 7) hx hb hts in_X7 hown hK hP 0 rfl rfl 3 (by decide) w_8 (fun _ h9 => h9) rfl dX7_copyFrom_48 ?_
  refine lv_iconst (v := 0) hx hb dX7_copyFrom_51 (by decide) ?_
  refine lv_aload_n hx hb dX7_copyFrom_52 rfl (lv_at hl 0 rfl) ?_
  refine va_get (D := D) (ci := 7) (v := .int y) (C := RX7) (T := TX7) (N := 7) hx hb hts in_X7 hown hK hP 0 rfl rfl 0 (by decide) w_1 (fun _ h9 => h9) rfl dX7_copyFrom_53 ?_
  refine va_copyi hx hb (hml.trans hl.1.symm) hown w_3 w_4 w_5 w_6 hK hP hD hS 10 3 0 0 rfl rfl rfl rfl rfl (by decide) (by decide) (q_nn (by omega)) (cl_le hy.2) (cl_le hy.2) (fun _ _ => rfl) (Nat.le_of_ble_eq_true rfl) (Nat.le_of_ble_eq_true rfl) dX7_copyFrom_56 (fun H locs hP hD hS => ?_)
  obtain ⟨g56, eg56⟩ : ∃ f : Nat → Int32, f = va_cpy e3 f3 (0 : Int32).toNatClampNeg (0 : Int32).toNatClampNeg y.toNatClampNeg := ⟨_, rfl⟩
  rw [← eg56] at hP hD
  have hP : va_P D vwCl [(h0, .inr (7, [.int y, .ref h1, .ref h2, .ref h3, .ref h4, .ref h5, .ref h6])), (h1, .inl (cy 0, 300, .inl g22)), (h2, .inl (cy 0, 300, .inl g39)), (h3, .inl (cy 0, 300, .inl g56)), (h4, .inl (cy 0, 300, .inl f4)), (h5, .inl (cy 0, 300, .inl f5)), (h6, .inl (cy 0, 300, .inl f6)), (k0, .inr (7, [.int y, .ref k1, .ref k2, .ref k3, .ref k4, .ref k5, .ref k6])), (k1, .inl (cy 0, 300, .inl e1)), (k2, .inl (cy 0, 300, .inl e2)), (k3, .inl (cy 0, 300, .inl e3)), (k4, .inl (cy 0, 300, .inl e4)), (k5, .inl (cy 0, 300, .inl e5)), (k6, .inl (cy 0, 300, .inl e6))] H := hP
  have hD : va_D A [(h0, .inr (7, [.int y, .ref h1, .ref h2, .ref h3, .ref h4, .ref h5, .ref h6])), (h1, .inl (cy 0, 300, .inl g22)), (h2, .inl (cy 0, 300, .inl g39)), (h3, .inl (cy 0, 300, .inl g56)), (h4, .inl (cy 0, 300, .inl f4)), (h5, .inl (cy 0, 300, .inl f5)), (h6, .inl (cy 0, 300, .inl f6)), (k0, .inr (7, [.int y, .ref k1, .ref k2, .ref k3, .ref k4, .ref k5, .ref k6])), (k1, .inl (cy 0, 300, .inl e1)), (k2, .inl (cy 0, 300, .inl e2)), (k3, .inl (cy 0, 300, .inl e3)), (k4, .inl (cy 0, 300, .inl e4)), (k5, .inl (cy 0, 300, .inl e5)), (k6, .inl (cy 0, 300, .inl e6))] := hD
  refine lv_aload_n hx hb dX7_copyFrom_59 rfl (lv_at hl 1 rfl) ?_
  refine va_get (D := D) (ci := 7) (v := .ref k4) (C := RX7) (T := TX7) (N := 7) hx hb hts in_X7 hown hK hP 7 rfl rfl 4 (by decide) w_9 (fun _ h9 => h9) rfl dX7_copyFrom_60 ?_
  refine lv_iconst (v := 0) hx hb dX7_copyFrom_63 (by decide) ?_
  refine lv_aload_n hx hb dX7_copyFrom_64 rfl (lv_at hl 0 rfl) ?_
  refine va_get (D := D) (ci := 7) (v := .ref h4) (C := RX7) (T := TX7) (N := 7) hx hb hts in_X7 hown hK hP 0 rfl rfl 4 (by decide) w_9 (fun _ h9 => h9) rfl dX7_copyFrom_65 ?_
  refine lv_iconst (v := 0) hx hb dX7_copyFrom_68 (by decide) ?_
  refine lv_aload_n hx hb dX7_copyFrom_69 rfl (lv_at hl 0 rfl) ?_
  refine va_get (D := D) (ci := 7) (v := .int y) (C := RX7) (T := TX7) (N := 7) hx hb hts in_X7 hown hK hP 0 rfl rfl 0 (by decide) w_1 (fun _ h9 => h9) rfl dX7_copyFrom_70 ?_
  refine va_copyi hx hb (hml.trans hl.1.symm) hown w_3 w_4 w_5 w_6 hK hP hD hS 11 4 0 0 rfl rfl rfl rfl rfl (by decide) (by decide) (q_nn (by omega)) (cl_le hy.2) (cl_le hy.2) (fun _ _ => rfl) (Nat.le_of_ble_eq_true rfl) (Nat.le_of_ble_eq_true rfl) dX7_copyFrom_73 (fun H locs hP hD hS => ?_)
  obtain ⟨g73, eg73⟩ : ∃ f : Nat → Int32, f = va_cpy e4 f4 (0 : Int32).toNatClampNeg (0 : Int32).toNatClampNeg y.toNatClampNeg := ⟨_, rfl⟩
  rw [← eg73] at hP hD
  have hP : va_P D vwCl [(h0, .inr (7, [.int y, .ref h1, .ref h2, .ref h3, .ref h4, .ref h5, .ref h6])), (h1, .inl (cy 0, 300, .inl g22)), (h2, .inl (cy 0, 300, .inl g39)), (h3, .inl (cy 0, 300, .inl g56)), (h4, .inl (cy 0, 300, .inl g73)), (h5, .inl (cy 0, 300, .inl f5)), (h6, .inl (cy 0, 300, .inl f6)), (k0, .inr (7, [.int y, .ref k1, .ref k2, .ref k3, .ref k4, .ref k5, .ref k6])), (k1, .inl (cy 0, 300, .inl e1)), (k2, .inl (cy 0, 300, .inl e2)), (k3, .inl (cy 0, 300, .inl e3)), (k4, .inl (cy 0, 300, .inl e4)), (k5, .inl (cy 0, 300, .inl e5)), (k6, .inl (cy 0, 300, .inl e6))] H := hP
  have hD : va_D A [(h0, .inr (7, [.int y, .ref h1, .ref h2, .ref h3, .ref h4, .ref h5, .ref h6])), (h1, .inl (cy 0, 300, .inl g22)), (h2, .inl (cy 0, 300, .inl g39)), (h3, .inl (cy 0, 300, .inl g56)), (h4, .inl (cy 0, 300, .inl g73)), (h5, .inl (cy 0, 300, .inl f5)), (h6, .inl (cy 0, 300, .inl f6)), (k0, .inr (7, [.int y, .ref k1, .ref k2, .ref k3, .ref k4, .ref k5, .ref k6])), (k1, .inl (cy 0, 300, .inl e1)), (k2, .inl (cy 0, 300, .inl e2)), (k3, .inl (cy 0, 300, .inl e3)), (k4, .inl (cy 0, 300, .inl e4)), (k5, .inl (cy 0, 300, .inl e5)), (k6, .inl (cy 0, 300, .inl e6))] := hD
  refine lv_aload_n hx hb dX7_copyFrom_76 rfl (lv_at hl 1 rfl) ?_
  refine va_get (D := D) (ci := 7) (v := .ref k5) (C := RX7) (T := TX7) (N := 7) hx hb hts in_X7 hown hK hP 7 rfl rfl 5 (by decide) w_10 (fun _ h9 => h9) rfl dX7_copyFrom_77 ?_
  refine lv_iconst (v := 0) hx hb dX7_copyFrom_80 (by decide) ?_
  refine lv_aload_n hx hb dX7_copyFrom_81 rfl (lv_at hl 0 rfl) ?_
  refine va_get (D := D) (ci := 7) (v := .ref h5) (C := RX7) (T := TX7) (N := 7) hx hb hts in_X7 hown hK hP 0 rfl rfl 5 (by decide) w_10 (fun _ h9 => h9) rfl dX7_copyFrom_82 ?_
  refine lv_iconst (v := 0) hx hb dX7_copyFrom_85 (by decide) ?_
  refine lv_aload_n hx hb dX7_copyFrom_86 rfl (lv_at hl 0 rfl) ?_
  refine va_get (D := D) (ci := 7) (v := .int y) (C := RX7) (T := TX7) (N := 7) hx hb hts in_X7 hown hK hP 0 rfl rfl 0 (by decide) w_1 (fun _ h9 => h9) rfl dX7_copyFrom_87 ?_
  refine va_copyi hx hb (hml.trans hl.1.symm) hown w_3 w_4 w_5 w_6 hK hP hD hS 12 5 0 0 rfl rfl rfl rfl rfl (by decide) (by decide) (q_nn (by omega)) (cl_le hy.2) (cl_le hy.2) (fun _ _ => rfl) (Nat.le_of_ble_eq_true rfl) (Nat.le_of_ble_eq_true rfl) dX7_copyFrom_90 (fun H locs hP hD hS => ?_)
  obtain ⟨g90, eg90⟩ : ∃ f : Nat → Int32, f = va_cpy e5 f5 (0 : Int32).toNatClampNeg (0 : Int32).toNatClampNeg y.toNatClampNeg := ⟨_, rfl⟩
  rw [← eg90] at hP hD
  have hP : va_P D vwCl [(h0, .inr (7, [.int y, .ref h1, .ref h2, .ref h3, .ref h4, .ref h5, .ref h6])), (h1, .inl (cy 0, 300, .inl g22)), (h2, .inl (cy 0, 300, .inl g39)), (h3, .inl (cy 0, 300, .inl g56)), (h4, .inl (cy 0, 300, .inl g73)), (h5, .inl (cy 0, 300, .inl g90)), (h6, .inl (cy 0, 300, .inl f6)), (k0, .inr (7, [.int y, .ref k1, .ref k2, .ref k3, .ref k4, .ref k5, .ref k6])), (k1, .inl (cy 0, 300, .inl e1)), (k2, .inl (cy 0, 300, .inl e2)), (k3, .inl (cy 0, 300, .inl e3)), (k4, .inl (cy 0, 300, .inl e4)), (k5, .inl (cy 0, 300, .inl e5)), (k6, .inl (cy 0, 300, .inl e6))] H := hP
  have hD : va_D A [(h0, .inr (7, [.int y, .ref h1, .ref h2, .ref h3, .ref h4, .ref h5, .ref h6])), (h1, .inl (cy 0, 300, .inl g22)), (h2, .inl (cy 0, 300, .inl g39)), (h3, .inl (cy 0, 300, .inl g56)), (h4, .inl (cy 0, 300, .inl g73)), (h5, .inl (cy 0, 300, .inl g90)), (h6, .inl (cy 0, 300, .inl f6)), (k0, .inr (7, [.int y, .ref k1, .ref k2, .ref k3, .ref k4, .ref k5, .ref k6])), (k1, .inl (cy 0, 300, .inl e1)), (k2, .inl (cy 0, 300, .inl e2)), (k3, .inl (cy 0, 300, .inl e3)), (k4, .inl (cy 0, 300, .inl e4)), (k5, .inl (cy 0, 300, .inl e5)), (k6, .inl (cy 0, 300, .inl e6))] := hD
  refine lv_aload_n hx hb dX7_copyFrom_93 rfl (lv_at hl 1 rfl) ?_
  refine va_get (D := D) (ci := 7) (v := .ref k6) (C := RX7) (T := TX7) (N := 7) hx hb hts in_X7 hown hK hP 7 rfl rfl 6 (by decide) w_11 (fun _ h9 => h9) rfl dX7_copyFrom_94 ?_
  refine lv_iconst (v := 0) hx hb dX7_copyFrom_97 (by decide) ?_
  refine lv_aload_n hx hb dX7_copyFrom_98 rfl (lv_at hl 0 rfl) ?_
  refine va_get (D := D) (ci := 7) (v := .ref h6) (C := RX7) (T := TX7) (N := 7) hx hb hts in_X7 hown hK hP 0 rfl rfl 6 (by decide) w_11 (fun _ h9 => h9) rfl dX7_copyFrom_99 ?_
  refine lv_iconst (v := 0) hx hb dX7_copyFrom_102 (by decide) ?_
  refine lv_aload_n hx hb dX7_copyFrom_103 rfl (lv_at hl 0 rfl) ?_
  refine va_get (D := D) (ci := 7) (v := .int y) (C := RX7) (T := TX7) (N := 7) hx hb hts in_X7 hown hK hP 0 rfl rfl 0 (by decide) w_1 (fun _ h9 => h9) rfl dX7_copyFrom_104 ?_
  refine va_copyi hx hb (hml.trans hl.1.symm) hown w_3 w_4 w_5 w_6 hK hP hD hS 13 6 0 0 rfl rfl rfl rfl rfl (by decide) (by decide) (q_nn (by omega)) (cl_le hy.2) (cl_le hy.2) (fun _ _ => rfl) (Nat.le_of_ble_eq_true rfl) (Nat.le_of_ble_eq_true rfl) dX7_copyFrom_107 (fun H locs hP hD hS => ?_)
  obtain ⟨g107, eg107⟩ : ∃ f : Nat → Int32, f = va_cpy e6 f6 (0 : Int32).toNatClampNeg (0 : Int32).toNatClampNeg y.toNatClampNeg := ⟨_, rfl⟩
  rw [← eg107] at hP hD
  have hP : va_P D vwCl [(h0, .inr (7, [.int y, .ref h1, .ref h2, .ref h3, .ref h4, .ref h5, .ref h6])), (h1, .inl (cy 0, 300, .inl g22)), (h2, .inl (cy 0, 300, .inl g39)), (h3, .inl (cy 0, 300, .inl g56)), (h4, .inl (cy 0, 300, .inl g73)), (h5, .inl (cy 0, 300, .inl g90)), (h6, .inl (cy 0, 300, .inl g107)), (k0, .inr (7, [.int y, .ref k1, .ref k2, .ref k3, .ref k4, .ref k5, .ref k6])), (k1, .inl (cy 0, 300, .inl e1)), (k2, .inl (cy 0, 300, .inl e2)), (k3, .inl (cy 0, 300, .inl e3)), (k4, .inl (cy 0, 300, .inl e4)), (k5, .inl (cy 0, 300, .inl e5)), (k6, .inl (cy 0, 300, .inl e6))] H := hP
  have hD : va_D A [(h0, .inr (7, [.int y, .ref h1, .ref h2, .ref h3, .ref h4, .ref h5, .ref h6])), (h1, .inl (cy 0, 300, .inl g22)), (h2, .inl (cy 0, 300, .inl g39)), (h3, .inl (cy 0, 300, .inl g56)), (h4, .inl (cy 0, 300, .inl g73)), (h5, .inl (cy 0, 300, .inl g90)), (h6, .inl (cy 0, 300, .inl g107)), (k0, .inr (7, [.int y, .ref k1, .ref k2, .ref k3, .ref k4, .ref k5, .ref k6])), (k1, .inl (cy 0, 300, .inl e1)), (k2, .inl (cy 0, 300, .inl e2)), (k3, .inl (cy 0, 300, .inl e3)), (k4, .inl (cy 0, 300, .inl e4)), (k5, .inl (cy 0, 300, .inl e5)), (k6, .inl (cy 0, 300, .inl e6))] := hD
  exact r_v hx hb hr hlocks hK hS dX7_copyFrom_110 (u := (g22, g39, g56, g73, g90, g107)) hP hD (⟨cpy_at eg22, cpy_at eg39, cpy_at eg56, cpy_at eg73, cpy_at eg90, cpy_at eg107⟩)

abbrev Q_c_X1_copyFrom (D : va_G) (cy : Nat → ClassId) (h0 : Nat) (h1 : Nat) (h2 : Nat) (h3 : Nat) (h4 : Nat) (h5 : Nat) (h6 : Nat) (h7 : Nat) (k0 : Nat) (k1 : Nat) (k2 : Nat) (k3 : Nat) (k4 : Nat) (k5 : Nat) (k6 : Nat) (k7 : Nat) (z : Int32) (y : Int32) (f1 : Nat → Int32) (f2 : Nat → Int32) (f3 : Nat → Int32) (f4 : Nat → Int32) (f5 : Nat → Int32) (f6 : Nat → Int32) (f7 : Nat → Int32) (e1 : Nat → Int32) (e2 : Nat → Int32) (e3 : Nat → Int32) (e4 : Nat → Int32) (e5 : Nat → Int32) (e6 : Nat → Int32) (e7 : Nat → Int32) : (Nat → Prop) → Array Value → State → Outcome → State → Prop := QV D cy (fun (u : (Nat → Int32) × (Nat → Int32) × (Nat → Int32) × (Nat → Int32) × (Nat → Int32) × (Nat → Int32) × (Nat → Int32)) => match u with | (g1, g2, g3, g4, g5, g6, g7) => (∀ j : Nat, j < y.toInt.toNat → g1 j = e1 j) ∧ (∀ j : Nat, j < y.toInt.toNat → g2 j = e2 j) ∧ (∀ j : Nat, j < y.toInt.toNat → g3 j = e3 j) ∧ (∀ j : Nat, j < y.toInt.toNat → g4 j = e4 j) ∧ (∀ j : Nat, j < y.toInt.toNat → g5 j = e5 j) ∧ (∀ j : Nat, j < y.toInt.toNat → g6 j = e6 j) ∧ (∀ j : Nat, j < y.toInt.toNat → g7 j = e7 j)) (fun u : (Nat → Int32) × (Nat → Int32) × (Nat → Int32) × (Nat → Int32) × (Nat → Int32) × (Nat → Int32) × (Nat → Int32) => match u with | (g1, g2, g3, g4, g5, g6, g7) => [(h0, .inr (1, [.int y, .ref h1, .ref h2, .ref h3, .ref h4, .ref h5, .ref h6, .ref h7])), (h1, .inl (cy 0, 100, .inl g1)), (h2, .inl (cy 0, 100, .inl g2)), (h3, .inl (cy 0, 100, .inl g3)), (h4, .inl (cy 0, 100, .inl g4)), (h5, .inl (cy 0, 100, .inl g5)), (h6, .inl (cy 0, 100, .inl g6)), (h7, .inl (cy 0, 100, .inl g7)), (k0, .inr (1, [.int y, .ref k1, .ref k2, .ref k3, .ref k4, .ref k5, .ref k6, .ref k7])), (k1, .inl (cy 0, 100, .inl e1)), (k2, .inl (cy 0, 100, .inl e2)), (k3, .inl (cy 0, 100, .inl e3)), (k4, .inl (cy 0, 100, .inl e4)), (k5, .inl (cy 0, 100, .inl e5)), (k6, .inl (cy 0, 100, .inl e6)), (k7, .inl (cy 0, 100, .inl e7))])
set_option maxHeartbeats 4000000 in
set_option maxRecDepth 100000 in
theorem c_X1_copyFrom (l : Launch) (D : va_G) (cy : Nat → ClassId) (h0 : Nat) (h1 : Nat) (h2 : Nat) (h3 : Nat) (h4 : Nat) (h5 : Nat) (h6 : Nat) (h7 : Nat) (k0 : Nat) (k1 : Nat) (k2 : Nat) (k3 : Nat) (k4 : Nat) (k5 : Nat) (k6 : Nat) (k7 : Nat) (z : Int32) (y : Int32) (f1 : Nat → Int32) (f2 : Nat → Int32) (f3 : Nat → Int32) (f4 : Nat → Int32) (f5 : Nat → Int32) (f6 : Nat → Int32) (f7 : Nat → Int32) (e1 : Nat → Int32) (e2 : Nat → Int32) (e3 : Nat → Int32) (e4 : Nat → Int32) (e5 : Nat → Int32) (e6 : Nat → Int32) (e7 : Nat → Int32) (sz : Nat) (hy : 0 ≤ y.toInt ∧ y.toInt ≤ 100) : Met l yX1_copyFrom wsX1_copyFrom ({ frames := 1, cells := 0, slots := 0, locals := 30 } : Room) (CP D cy [.ref h0, .ref k0] [(h0, .inr (1, [.int z, .ref h1, .ref h2, .ref h3, .ref h4, .ref h5, .ref h6, .ref h7])), (h1, .inl (cy 0, 100, .inl f1)), (h2, .inl (cy 0, 100, .inl f2)), (h3, .inl (cy 0, 100, .inl f3)), (h4, .inl (cy 0, 100, .inl f4)), (h5, .inl (cy 0, 100, .inl f5)), (h6, .inl (cy 0, 100, .inl f6)), (h7, .inl (cy 0, 100, .inl f7)), (k0, .inr (1, [.int y, .ref k1, .ref k2, .ref k3, .ref k4, .ref k5, .ref k6, .ref k7])), (k1, .inl (cy 0, 100, .inl e1)), (k2, .inl (cy 0, 100, .inl e2)), (k3, .inl (cy 0, 100, .inl e3)), (k4, .inl (cy 0, 100, .inl e4)), (k5, .inl (cy 0, 100, .inl e5)), (k6, .inl (cy 0, 100, .inl e6)), (k7, .inl (cy 0, 100, .inl e7))] sz) (Q_c_X1_copyFrom D cy h0 h1 h2 h3 h4 h5 h6 h7 k0 k1 k2 k3 k4 k5 k6 k7 z y f1 f2 f3 f4 f5 f6 f7 e1 e2 e3 e4 e5 e6 e7 (va_A [(h0, .inr (1, [.int z, .ref h1, .ref h2, .ref h3, .ref h4, .ref h5, .ref h6, .ref h7])), (h1, .inl (cy 0, 100, .inl f1)), (h2, .inl (cy 0, 100, .inl f2)), (h3, .inl (cy 0, 100, .inl f3)), (h4, .inl (cy 0, 100, .inl f4)), (h5, .inl (cy 0, 100, .inl f5)), (h6, .inl (cy 0, 100, .inl f6)), (h7, .inl (cy 0, 100, .inl f7)), (k0, .inr (1, [.int y, .ref k1, .ref k2, .ref k3, .ref k4, .ref k5, .ref k6, .ref k7])), (k1, .inl (cy 0, 100, .inl e1)), (k2, .inl (cy 0, 100, .inl e2)), (k3, .inl (cy 0, 100, .inl e3)), (k4, .inl (cy 0, 100, .inl e4)), (k5, .inl (cy 0, 100, .inl e5)), (k6, .inl (cy 0, 100, .inl e6)), (k7, .inl (cy 0, 100, .inl e7))] sz)) 0 0 (va_A [(h0, .inr (1, [.int z, .ref h1, .ref h2, .ref h3, .ref h4, .ref h5, .ref h6, .ref h7])), (h1, .inl (cy 0, 100, .inl f1)), (h2, .inl (cy 0, 100, .inl f2)), (h3, .inl (cy 0, 100, .inl f3)), (h4, .inl (cy 0, 100, .inl f4)), (h5, .inl (cy 0, 100, .inl f5)), (h6, .inl (cy 0, 100, .inl f6)), (h7, .inl (cy 0, 100, .inl f7)), (k0, .inr (1, [.int y, .ref k1, .ref k2, .ref k3, .ref k4, .ref k5, .ref k6, .ref k7])), (k1, .inl (cy 0, 100, .inl e1)), (k2, .inl (cy 0, 100, .inl e2)), (k3, .inl (cy 0, 100, .inl e3)), (k4, .inl (cy 0, 100, .inl e4)), (k5, .inl (cy 0, 100, .inl e5)), (k6, .inl (cy 0, 100, .inl e6)), (k7, .inl (cy 0, 100, .inl e7))] sz) := by
  refine Met.go (Qc := Q_c_X1_copyFrom D cy h0 h1 h2 h3 h4 h5 h6 h7 k0 k1 k2 k3 k4 k5 k6 k7 z y f1 f2 f3 f4 f5 f6 f7 e1 e2 e3 e4 e5 e6 e7) (cc := cX1_copyFrom) (maxL := 2) (ret := none) (by decide) rfl (Nat.le_of_ble_eq_true rfl) ?_
  intro p e s m below meth c hx hb hr hts hown hlocks hin hml hK hN A hA hD hP hS ls hl hsz
  have hl : lv_has ls 2 [(0, .ref h0), (1, .ref k0)] := hl
  have in_X1 : ∀ w ∈ wsX10, w ∈ wsX1_copyFrom := fun _ h => List.mem_cons_of_mem _ ((List.mem_append_right _ h))
  have w_1 := hts (.fieldLink RX1 33 "SleepingCars$Letters" "size" "I") (by decide +kernel)
  have w_2 := hts (.fieldLink RX1 9 "SleepingCars$Letters" "offices" "[I") (by decide +kernel)
  have w_3 := hts (.methodLink RX1 37 arraycopyName) (by decide +kernel)
  have w_4 := hts (.native arraycopyName) (by decide +kernel)
  have w_5 := hts (.static arraycopyName) (by decide +kernel)
  have w_6 := hts (.initialized "java/lang/System") (by decide +kernel)
  have w_7 := hts (.fieldLink RX1 15 "SleepingCars$Letters" "days" "[I") (by decide +kernel)
  have w_8 := hts (.fieldLink RX1 18 "SleepingCars$Letters" "froms" "[I") (by decide +kernel)
  have w_9 := hts (.fieldLink RX1 21 "SleepingCars$Letters" "tos" "[I") (by decide +kernel)
  have w_10 := hts (.fieldLink RX1 24 "SleepingCars$Letters" "comes" "[I") (by decide +kernel)
  have w_11 := hts (.fieldLink RX1 27 "SleepingCars$Letters" "answered" "[I") (by decide +kernel)
  have w_12 := hts (.fieldLink RX1 30 "SleepingCars$Letters" "sold" "[I") (by decide +kernel)
  obtain ⟨H, eH⟩ : ∃ H : Heap, H = s.heap := ⟨_, rfl⟩
  obtain ⟨locs, eL⟩ : ∃ L : List Loc, L = [] := ⟨_, rfl⟩
  rw [← eL]
  rw [← eL] at hS
  have hP : va_P D vwCl [(h0, .inr (1, [.int z, .ref h1, .ref h2, .ref h3, .ref h4, .ref h5, .ref h6, .ref h7])), (h1, .inl (cy 0, 100, .inl f1)), (h2, .inl (cy 0, 100, .inl f2)), (h3, .inl (cy 0, 100, .inl f3)), (h4, .inl (cy 0, 100, .inl f4)), (h5, .inl (cy 0, 100, .inl f5)), (h6, .inl (cy 0, 100, .inl f6)), (h7, .inl (cy 0, 100, .inl f7)), (k0, .inr (1, [.int y, .ref k1, .ref k2, .ref k3, .ref k4, .ref k5, .ref k6, .ref k7])), (k1, .inl (cy 0, 100, .inl e1)), (k2, .inl (cy 0, 100, .inl e2)), (k3, .inl (cy 0, 100, .inl e3)), (k4, .inl (cy 0, 100, .inl e4)), (k5, .inl (cy 0, 100, .inl e5)), (k6, .inl (cy 0, 100, .inl e6)), (k7, .inl (cy 0, 100, .inl e7))] H := by rw [eH]; exact hP
  have hS : va_S A s.heap H locs := by rw [eH]; exact hS
  refine W.heapEq eH ?_
  clear eH eL
  refine lv_aload_n hx hb dX1_copyFrom_0 rfl (lv_at hl 0 rfl) ?_
  refine lv_aload_n hx hb dX1_copyFrom_1 rfl (lv_at hl 1 rfl) ?_
  refine va_get (D := D) (ci := 1) (v := .int y) (C := RX1) (T := TX1) (N := 8) hx hb hts in_X1 hown hK hP 8 rfl rfl 0 (by decide) w_1 (fun _ h9 => h9) rfl dX1_copyFrom_2 ?_
  refine va_put (D := D) (ci := 1) (v := .int y) (ty := .int) (C := RX1) (T := TX1) (N := 8) hx hb hts in_X1 tyX1 tyX1_ok nmX1 hown hK hP hD hS 0 rfl rfl 0 (by decide) w_1 (fun _ h9 => h9) rfl (by decide +kernel) rfl rfl (Nat.le_of_ble_eq_true rfl) dX1_copyFrom_5 (fun H locs hP hD hS => ?_)
  have hP : va_P D vwCl [(h0, .inr (1, [.int y, .ref h1, .ref h2, .ref h3, .ref h4, .ref h5, .ref h6, .ref h7])), (h1, .inl (cy 0, 100, .inl f1)), (h2, .inl (cy 0, 100, .inl f2)), (h3, .inl (cy 0, 100, .inl f3)), (h4, .inl (cy 0, 100, .inl f4)), (h5, .inl (cy 0, 100, .inl f5)), (h6, .inl (cy 0, 100, .inl f6)), (h7, .inl (cy 0, 100, .inl f7)), (k0, .inr (1, [.int y, .ref k1, .ref k2, .ref k3, .ref k4, .ref k5, .ref k6, .ref k7])), (k1, .inl (cy 0, 100, .inl e1)), (k2, .inl (cy 0, 100, .inl e2)), (k3, .inl (cy 0, 100, .inl e3)), (k4, .inl (cy 0, 100, .inl e4)), (k5, .inl (cy 0, 100, .inl e5)), (k6, .inl (cy 0, 100, .inl e6)), (k7, .inl (cy 0, 100, .inl e7))] H := hP
  have hD : va_D A [(h0, .inr (1, [.int y, .ref h1, .ref h2, .ref h3, .ref h4, .ref h5, .ref h6, .ref h7])), (h1, .inl (cy 0, 100, .inl f1)), (h2, .inl (cy 0, 100, .inl f2)), (h3, .inl (cy 0, 100, .inl f3)), (h4, .inl (cy 0, 100, .inl f4)), (h5, .inl (cy 0, 100, .inl f5)), (h6, .inl (cy 0, 100, .inl f6)), (h7, .inl (cy 0, 100, .inl f7)), (k0, .inr (1, [.int y, .ref k1, .ref k2, .ref k3, .ref k4, .ref k5, .ref k6, .ref k7])), (k1, .inl (cy 0, 100, .inl e1)), (k2, .inl (cy 0, 100, .inl e2)), (k3, .inl (cy 0, 100, .inl e3)), (k4, .inl (cy 0, 100, .inl e4)), (k5, .inl (cy 0, 100, .inl e5)), (k6, .inl (cy 0, 100, .inl e6)), (k7, .inl (cy 0, 100, .inl e7))] := hD
  refine lv_aload_n hx hb dX1_copyFrom_8 rfl (lv_at hl 1 rfl) ?_
  refine va_get (D := D) (ci := 1) (v := .ref k1) (C := RX1) (T := TX1) (N := 8) hx hb hts in_X1 hown hK hP 8 rfl rfl 1 (by decide) w_2 (fun _ h9 => h9) rfl dX1_copyFrom_9 ?_
  refine lv_iconst (v := 0) hx hb dX1_copyFrom_12 (by decide) ?_
  refine lv_aload_n hx hb dX1_copyFrom_13 rfl (lv_at hl 0 rfl) ?_
  refine va_get (D := D) (ci := 1) (v := .ref h1) (C := RX1) (T := TX1) (N := 8) hx hb hts in_X1 hown hK hP 0 rfl rfl 1 (by decide) w_2 (fun _ h9 => h9) rfl dX1_copyFrom_14 ?_
  refine lv_iconst (v := 0) hx hb dX1_copyFrom_17 (by decide) ?_
  refine lv_aload_n hx hb dX1_copyFrom_18 rfl (lv_at hl 0 rfl) ?_
  refine va_get (D := D) (ci := 1) (v := .int y) (C := RX1) (T := TX1) (N := 8) hx hb hts in_X1 hown hK hP 0 rfl rfl 0 (by decide) w_1 (fun _ h9 => h9) rfl dX1_copyFrom_19 ?_
  refine va_copyi hx hb (hml.trans hl.1.symm) hown w_3 w_4 w_5 w_6 hK hP hD hS 9 1 0 0 rfl rfl rfl rfl rfl (by decide) (by decide) (q_nn (by omega)) (cl_le hy.2) (cl_le hy.2) (fun _ _ => rfl) (Nat.le_of_ble_eq_true rfl) (Nat.le_of_ble_eq_true rfl) dX1_copyFrom_22 (fun H locs hP hD hS => ?_)
  obtain ⟨g22, eg22⟩ : ∃ f : Nat → Int32, f = va_cpy e1 f1 (0 : Int32).toNatClampNeg (0 : Int32).toNatClampNeg y.toNatClampNeg := ⟨_, rfl⟩
  rw [← eg22] at hP hD
  have hP : va_P D vwCl [(h0, .inr (1, [.int y, .ref h1, .ref h2, .ref h3, .ref h4, .ref h5, .ref h6, .ref h7])), (h1, .inl (cy 0, 100, .inl g22)), (h2, .inl (cy 0, 100, .inl f2)), (h3, .inl (cy 0, 100, .inl f3)), (h4, .inl (cy 0, 100, .inl f4)), (h5, .inl (cy 0, 100, .inl f5)), (h6, .inl (cy 0, 100, .inl f6)), (h7, .inl (cy 0, 100, .inl f7)), (k0, .inr (1, [.int y, .ref k1, .ref k2, .ref k3, .ref k4, .ref k5, .ref k6, .ref k7])), (k1, .inl (cy 0, 100, .inl e1)), (k2, .inl (cy 0, 100, .inl e2)), (k3, .inl (cy 0, 100, .inl e3)), (k4, .inl (cy 0, 100, .inl e4)), (k5, .inl (cy 0, 100, .inl e5)), (k6, .inl (cy 0, 100, .inl e6)), (k7, .inl (cy 0, 100, .inl e7))] H := hP
  have hD : va_D A [(h0, .inr (1, [.int y, .ref h1, .ref h2, .ref h3, .ref h4, .ref h5, .ref h6, .ref h7])), (h1, .inl (cy 0, 100, .inl g22)), (h2, .inl (cy 0, 100, .inl f2)), (h3, .inl (cy 0, 100, .inl f3)), (h4, .inl (cy 0, 100, .inl f4)), (h5, .inl (cy 0, 100, .inl f5)), (h6, .inl (cy 0, 100, .inl f6)), (h7, .inl (cy 0, 100, .inl f7)), (k0, .inr (1, [.int y, .ref k1, .ref k2, .ref k3, .ref k4, .ref k5, .ref k6, .ref k7])), (k1, .inl (cy 0, 100, .inl e1)), (k2, .inl (cy 0, 100, .inl e2)), (k3, .inl (cy 0, 100, .inl e3)), (k4, .inl (cy 0, 100, .inl e4)), (k5, .inl (cy 0, 100, .inl e5)), (k6, .inl (cy 0, 100, .inl e6)), (k7, .inl (cy 0, 100, .inl e7))] := hD
  refine lv_aload_n hx hb dX1_copyFrom_25 rfl (lv_at hl 1 rfl) ?_
  refine va_get (D := D) (ci := 1) (v := .ref k2) (C := RX1) (T := TX1) (N := 8) hx hb hts in_X1 hown hK hP 8 rfl rfl 2 (by decide) w_7 (fun _ h9 => h9) rfl dX1_copyFrom_26 ?_
  refine lv_iconst (v := 0) hx hb dX1_copyFrom_29 (by decide) ?_
  refine lv_aload_n hx hb dX1_copyFrom_30 rfl (lv_at hl 0 rfl) ?_
  refine va_get (D := D) (ci := 1) (v := .ref h2) (C := RX1) (T := TX1) (N := 8) hx hb hts in_X1 hown hK hP 0 rfl rfl 2 (by decide) w_7 (fun _ h9 => h9) rfl dX1_copyFrom_31 ?_
  refine lv_iconst (v := 0) hx hb dX1_copyFrom_34 (by decide) ?_
  refine lv_aload_n hx hb dX1_copyFrom_35 rfl (lv_at hl 0 rfl) ?_
  refine va_get (D := D) (ci := 1) (v := .int y) (C := RX1) (T := TX1) (N := 8) hx hb hts in_X1 hown hK hP 0 rfl rfl 0 (by decide) w_1 (fun _ h9 => h9) rfl dX1_copyFrom_36 ?_
  refine va_copyi hx hb (hml.trans hl.1.symm) hown w_3 w_4 w_5 w_6 hK hP hD hS 10 2 0 0 rfl rfl rfl rfl rfl (by decide) (by decide) (q_nn (by omega)) (cl_le hy.2) (cl_le hy.2) (fun _ _ => rfl) (Nat.le_of_ble_eq_true rfl) (Nat.le_of_ble_eq_true rfl) dX1_copyFrom_39 (fun H locs hP hD hS => ?_)
  obtain ⟨g39, eg39⟩ : ∃ f : Nat → Int32, f = va_cpy e2 f2 (0 : Int32).toNatClampNeg (0 : Int32).toNatClampNeg y.toNatClampNeg := ⟨_, rfl⟩
  rw [← eg39] at hP hD
  have hP : va_P D vwCl [(h0, .inr (1, [.int y, .ref h1, .ref h2, .ref h3, .ref h4, .ref h5, .ref h6, .ref h7])), (h1, .inl (cy 0, 100, .inl g22)), (h2, .inl (cy 0, 100, .inl g39)), (h3, .inl (cy 0, 100, .inl f3)), (h4, .inl (cy 0, 100, .inl f4)), (h5, .inl (cy 0, 100, .inl f5)), (h6, .inl (cy 0, 100, .inl f6)), (h7, .inl (cy 0, 100, .inl f7)), (k0, .inr (1, [.int y, .ref k1, .ref k2, .ref k3, .ref k4, .ref k5, .ref k6, .ref k7])), (k1, .inl (cy 0, 100, .inl e1)), (k2, .inl (cy 0, 100, .inl e2)), (k3, .inl (cy 0, 100, .inl e3)), (k4, .inl (cy 0, 100, .inl e4)), (k5, .inl (cy 0, 100, .inl e5)), (k6, .inl (cy 0, 100, .inl e6)), (k7, .inl (cy 0, 100, .inl e7))] H := hP
  have hD : va_D A [(h0, .inr (1, [.int y, .ref h1, .ref h2, .ref h3, .ref h4, .ref h5, .ref h6, .ref h7])), (h1, .inl (cy 0, 100, .inl g22)), (h2, .inl (cy 0, 100, .inl g39)), (h3, .inl (cy 0, 100, .inl f3)), (h4, .inl (cy 0, 100, .inl f4)), (h5, .inl (cy 0, 100, .inl f5)), (h6, .inl (cy 0, 100, .inl f6)), (h7, .inl (cy 0, 100, .inl f7)), (k0, .inr (1, [.int y, .ref k1, .ref k2, .ref k3, .ref k4, .ref k5, .ref k6, .ref k7])), (k1, .inl (cy 0, 100, .inl e1)), (k2, .inl (cy 0, 100, .inl e2)), (k3, .inl (cy 0, 100, .inl e3)), (k4, .inl (cy 0, 100, .inl e4)), (k5, .inl (cy 0, 100, .inl e5)), (k6, .inl (cy 0, 100, .inl e6)), (k7, .inl (cy 0, 100, .inl e7))] := hD
  refine lv_aload_n hx hb dX1_copyFrom_42 rfl (lv_at hl 1 rfl) ?_
  refine va_get (D := D) (ci := 1) (v := .ref k3) (C := RX1) (T := TX1) (N := 8) hx hb hts in_X1 hown hK hP 8 rfl rfl 3 (by decide) w_8 (fun _ h9 => h9) rfl dX1_copyFrom_43 ?_
  refine lv_iconst (v := 0) hx hb dX1_copyFrom_46 (by decide) ?_
  refine lv_aload_n hx hb dX1_copyFrom_47 rfl (lv_at hl 0 rfl) ?_
  refine va_get (D := D) (ci := 1) (v := .ref h3) (C := RX1) (T := TX1) (N := 8) hx hb hts in_X1 hown hK hP 0 rfl rfl 3 (by decide) w_8 (fun _ h9 => h9) rfl dX1_copyFrom_48 ?_
  refine lv_iconst (v := 0) hx hb dX1_copyFrom_51 (by decide) ?_
  refine lv_aload_n hx hb dX1_copyFrom_52 rfl (lv_at hl 0 rfl) ?_
  refine va_get (D := D) (ci := 1) (v := .int y) (C := RX1) (T := TX1) (N := 8) hx hb hts in_X1 hown hK hP 0 rfl rfl 0 (by decide) w_1 (fun _ h9 => h9) rfl dX1_copyFrom_53 ?_
  refine va_copyi hx hb (hml.trans hl.1.symm) hown w_3 w_4 w_5 w_6 hK hP hD hS 11 3 0 0 rfl rfl rfl rfl rfl (by decide) (by decide) (q_nn (by omega)) (cl_le hy.2) (cl_le hy.2) (fun _ _ => rfl) (Nat.le_of_ble_eq_true rfl) (Nat.le_of_ble_eq_true rfl) dX1_copyFrom_56 (fun H locs hP hD hS => ?_)
  obtain ⟨g56, eg56⟩ : ∃ f : Nat → Int32, f = va_cpy e3 f3 (0 : Int32).toNatClampNeg (0 : Int32).toNatClampNeg y.toNatClampNeg := ⟨_, rfl⟩
  rw [← eg56] at hP hD
  have hP : va_P D vwCl [(h0, .inr (1, [.int y, .ref h1, .ref h2, .ref h3, .ref h4, .ref h5, .ref h6, .ref h7])), (h1, .inl (cy 0, 100, .inl g22)), (h2, .inl (cy 0, 100, .inl g39)), (h3, .inl (cy 0, 100, .inl g56)), (h4, .inl (cy 0, 100, .inl f4)), (h5, .inl (cy 0, 100, .inl f5)), (h6, .inl (cy 0, 100, .inl f6)), (h7, .inl (cy 0, 100, .inl f7)), (k0, .inr (1, [.int y, .ref k1, .ref k2, .ref k3, .ref k4, .ref k5, .ref k6, .ref k7])), (k1, .inl (cy 0, 100, .inl e1)), (k2, .inl (cy 0, 100, .inl e2)), (k3, .inl (cy 0, 100, .inl e3)), (k4, .inl (cy 0, 100, .inl e4)), (k5, .inl (cy 0, 100, .inl e5)), (k6, .inl (cy 0, 100, .inl e6)), (k7, .inl (cy 0, 100, .inl e7))] H := hP
  have hD : va_D A [(h0, .inr (1, [.int y, .ref h1, .ref h2, .ref h3, .ref h4, .ref h5, .ref h6, .ref h7])), (h1, .inl (cy 0, 100, .inl g22)), (h2, .inl (cy 0, 100, .inl g39)), (h3, .inl (cy 0, 100, .inl g56)), (h4, .inl (cy 0, 100, .inl f4)), (h5, .inl (cy 0, 100, .inl f5)), (h6, .inl (cy 0, 100, .inl f6)), (h7, .inl (cy 0, 100, .inl f7)), (k0, .inr (1, [.int y, .ref k1, .ref k2, .ref k3, .ref k4, .ref k5, .ref k6, .ref k7])), (k1, .inl (cy 0, 100, .inl e1)), (k2, .inl (cy 0, 100, .inl e2)), (k3, .inl (cy 0, 100, .inl e3)), (k4, .inl (cy 0, 100, .inl e4)), (k5, .inl (cy 0, 100, .inl e5)), (k6, .inl (cy 0, 100, .inl e6)), (k7, .inl (cy 0, 100, .inl e7))] := hD
  refine lv_aload_n hx hb dX1_copyFrom_59 rfl (lv_at hl 1 rfl) ?_
  refine va_get (D := D) (ci := 1) (v := .ref k4) (C := RX1) (T := TX1) (N := 8) hx hb hts in_X1 hown hK hP 8 rfl rfl 4 (by decide) w_9 (fun _ h9 => h9) rfl dX1_copyFrom_60 ?_
  refine lv_iconst (v := 0) hx hb dX1_copyFrom_63 (by decide) ?_
  refine lv_aload_n hx hb dX1_copyFrom_64 rfl (lv_at hl 0 rfl) ?_
  refine va_get (D := D) (ci := 1) (v := .ref h4) (C := RX1) (T := TX1) (N := 8) hx hb hts in_X1 hown hK hP 0 rfl rfl 4 (by decide) w_9 (fun _ h9 => h9) rfl dX1_copyFrom_65 ?_
  refine lv_iconst (v := 0) hx hb dX1_copyFrom_68 (by decide) ?_
  refine lv_aload_n hx hb dX1_copyFrom_69 rfl (lv_at hl 0 rfl) ?_
  refine va_get (D := D) (ci := 1) (v := .int y) (C := RX1) (T := TX1) (N := 8) hx hb hts in_X1 hown hK hP 0 rfl rfl 0 (by decide) w_1 (fun _ h9 => h9) rfl dX1_copyFrom_70 ?_
  refine va_copyi hx hb (hml.trans hl.1.symm) hown w_3 w_4 w_5 w_6 hK hP hD hS 12 4 0 0 rfl rfl rfl rfl rfl (by decide) (by decide) (q_nn (by omega)) (cl_le hy.2) (cl_le hy.2) (fun _ _ => rfl) (Nat.le_of_ble_eq_true rfl) (Nat.le_of_ble_eq_true rfl) dX1_copyFrom_73 (fun H locs hP hD hS => ?_)
  obtain ⟨g73, eg73⟩ : ∃ f : Nat → Int32, f = va_cpy e4 f4 (0 : Int32).toNatClampNeg (0 : Int32).toNatClampNeg y.toNatClampNeg := ⟨_, rfl⟩
  rw [← eg73] at hP hD
  have hP : va_P D vwCl [(h0, .inr (1, [.int y, .ref h1, .ref h2, .ref h3, .ref h4, .ref h5, .ref h6, .ref h7])), (h1, .inl (cy 0, 100, .inl g22)), (h2, .inl (cy 0, 100, .inl g39)), (h3, .inl (cy 0, 100, .inl g56)), (h4, .inl (cy 0, 100, .inl g73)), (h5, .inl (cy 0, 100, .inl f5)), (h6, .inl (cy 0, 100, .inl f6)), (h7, .inl (cy 0, 100, .inl f7)), (k0, .inr (1, [.int y, .ref k1, .ref k2, .ref k3, .ref k4, .ref k5, .ref k6, .ref k7])), (k1, .inl (cy 0, 100, .inl e1)), (k2, .inl (cy 0, 100, .inl e2)), (k3, .inl (cy 0, 100, .inl e3)), (k4, .inl (cy 0, 100, .inl e4)), (k5, .inl (cy 0, 100, .inl e5)), (k6, .inl (cy 0, 100, .inl e6)), (k7, .inl (cy 0, 100, .inl e7))] H := hP
  have hD : va_D A [(h0, .inr (1, [.int y, .ref h1, .ref h2, .ref h3, .ref h4, .ref h5, .ref h6, .ref h7])), (h1, .inl (cy 0, 100, .inl g22)), (h2, .inl (cy 0, 100, .inl g39)), (h3, .inl (cy 0, 100, .inl g56)), (h4, .inl (cy 0, 100, .inl g73)), (h5, .inl (cy 0, 100, .inl f5)), (h6, .inl (cy 0, 100, .inl f6)), (h7, .inl (cy 0, 100, .inl f7)), (k0, .inr (1, [.int y, .ref k1, .ref k2, .ref k3, .ref k4, .ref k5, .ref k6, .ref k7])), (k1, .inl (cy 0, 100, .inl e1)), (k2, .inl (cy 0, 100, .inl e2)), (k3, .inl (cy 0, 100, .inl e3)), (k4, .inl (cy 0, 100, .inl e4)), (k5, .inl (cy 0, 100, .inl e5)), (k6, .inl (cy 0, 100, .inl e6)), (k7, .inl (cy 0, 100, .inl e7))] := hD
  refine lv_aload_n hx hb dX1_copyFrom_76 rfl (lv_at hl 1 rfl) ?_
  refine va_get (D := D) (ci := 1) (v := .ref k5) (C := RX1) (T := TX1) (N := 8) hx hb hts in_X1 hown hK hP 8 rfl rfl 5 (by decide) w_10 (fun _ h9 => h9) rfl dX1_copyFrom_77 ?_
  refine lv_iconst (v := 0) hx hb dX1_copyFrom_80 (by decide) ?_
  refine lv_aload_n hx hb dX1_copyFrom_81 rfl (lv_at hl 0 rfl) ?_
  refine va_get (D := D) (ci := 1) (v := .ref h5) (C := RX1) (T := TX1) (N := 8) hx hb hts in_X1 hown hK hP 0 rfl rfl 5 (by decide) w_10 (fun _ h9 => h9) rfl dX1_copyFrom_82 ?_
  refine lv_iconst (v := 0) hx hb dX1_copyFrom_85 (by decide) ?_
  refine lv_aload_n hx hb dX1_copyFrom_86 rfl (lv_at hl 0 rfl) ?_
  refine va_get (D := D) (ci := 1) (v := .int y) (C := RX1) (T := TX1) (N := 8) hx hb hts in_X1 hown hK hP 0 rfl rfl 0 (by decide) w_1 (fun _ h9 => h9) rfl dX1_copyFrom_87 ?_
  refine va_copyi hx hb (hml.trans hl.1.symm) hown w_3 w_4 w_5 w_6 hK hP hD hS 13 5 0 0 rfl rfl rfl rfl rfl (by decide) (by decide) (q_nn (by omega)) (cl_le hy.2) (cl_le hy.2) (fun _ _ => rfl) (Nat.le_of_ble_eq_true rfl) (Nat.le_of_ble_eq_true rfl) dX1_copyFrom_90 (fun H locs hP hD hS => ?_)
  obtain ⟨g90, eg90⟩ : ∃ f : Nat → Int32, f = va_cpy e5 f5 (0 : Int32).toNatClampNeg (0 : Int32).toNatClampNeg y.toNatClampNeg := ⟨_, rfl⟩
  rw [← eg90] at hP hD
  have hP : va_P D vwCl [(h0, .inr (1, [.int y, .ref h1, .ref h2, .ref h3, .ref h4, .ref h5, .ref h6, .ref h7])), (h1, .inl (cy 0, 100, .inl g22)), (h2, .inl (cy 0, 100, .inl g39)), (h3, .inl (cy 0, 100, .inl g56)), (h4, .inl (cy 0, 100, .inl g73)), (h5, .inl (cy 0, 100, .inl g90)), (h6, .inl (cy 0, 100, .inl f6)), (h7, .inl (cy 0, 100, .inl f7)), (k0, .inr (1, [.int y, .ref k1, .ref k2, .ref k3, .ref k4, .ref k5, .ref k6, .ref k7])), (k1, .inl (cy 0, 100, .inl e1)), (k2, .inl (cy 0, 100, .inl e2)), (k3, .inl (cy 0, 100, .inl e3)), (k4, .inl (cy 0, 100, .inl e4)), (k5, .inl (cy 0, 100, .inl e5)), (k6, .inl (cy 0, 100, .inl e6)), (k7, .inl (cy 0, 100, .inl e7))] H := hP
  have hD : va_D A [(h0, .inr (1, [.int y, .ref h1, .ref h2, .ref h3, .ref h4, .ref h5, .ref h6, .ref h7])), (h1, .inl (cy 0, 100, .inl g22)), (h2, .inl (cy 0, 100, .inl g39)), (h3, .inl (cy 0, 100, .inl g56)), (h4, .inl (cy 0, 100, .inl g73)), (h5, .inl (cy 0, 100, .inl g90)), (h6, .inl (cy 0, 100, .inl f6)), (h7, .inl (cy 0, 100, .inl f7)), (k0, .inr (1, [.int y, .ref k1, .ref k2, .ref k3, .ref k4, .ref k5, .ref k6, .ref k7])), (k1, .inl (cy 0, 100, .inl e1)), (k2, .inl (cy 0, 100, .inl e2)), (k3, .inl (cy 0, 100, .inl e3)), (k4, .inl (cy 0, 100, .inl e4)), (k5, .inl (cy 0, 100, .inl e5)), (k6, .inl (cy 0, 100, .inl e6)), (k7, .inl (cy 0, 100, .inl e7))] := hD
  refine lv_aload_n hx hb dX1_copyFrom_93 rfl (lv_at hl 1 rfl) ?_
  refine va_get (D := D) (ci := 1) (v := .ref k6) (C := RX1) (T := TX1) (N := 8) hx hb hts in_X1 hown hK hP 8 rfl rfl 6 (by decide) w_11 (fun _ h9 => h9) rfl dX1_copyFrom_94 ?_
  refine lv_iconst (v := 0) hx hb dX1_copyFrom_97 (by decide) ?_
  refine lv_aload_n hx hb dX1_copyFrom_98 rfl (lv_at hl 0 rfl) ?_
  refine va_get (D := D) (ci := 1) (v := .ref h6) (C := RX1) (T := TX1) (N := 8) hx hb hts in_X1 hown hK hP 0 rfl rfl 6 (by decide) w_11 (fun _ h9 => h9) rfl dX1_copyFrom_99 ?_
  refine lv_iconst (v := 0) hx hb dX1_copyFrom_102 (by decide) ?_
  refine lv_aload_n hx hb dX1_copyFrom_103 rfl (lv_at hl 0 rfl) ?_
  refine va_get (D := D) (ci := 1) (v := .int y) (C := RX1) (T := TX1) (N := 8) hx hb hts in_X1 hown hK hP 0 rfl rfl 0 (by decide) w_1 (fun _ h9 => h9) rfl dX1_copyFrom_104 ?_
  refine va_copyi hx hb (hml.trans hl.1.symm) hown w_3 w_4 w_5 w_6 hK hP hD hS 14 6 0 0 rfl rfl rfl rfl rfl (by decide) (by decide) (q_nn (by omega)) (cl_le hy.2) (cl_le hy.2) (fun _ _ => rfl) (Nat.le_of_ble_eq_true rfl) (Nat.le_of_ble_eq_true rfl) dX1_copyFrom_107 (fun H locs hP hD hS => ?_)
  obtain ⟨g107, eg107⟩ : ∃ f : Nat → Int32, f = va_cpy e6 f6 (0 : Int32).toNatClampNeg (0 : Int32).toNatClampNeg y.toNatClampNeg := ⟨_, rfl⟩
  rw [← eg107] at hP hD
  have hP : va_P D vwCl [(h0, .inr (1, [.int y, .ref h1, .ref h2, .ref h3, .ref h4, .ref h5, .ref h6, .ref h7])), (h1, .inl (cy 0, 100, .inl g22)), (h2, .inl (cy 0, 100, .inl g39)), (h3, .inl (cy 0, 100, .inl g56)), (h4, .inl (cy 0, 100, .inl g73)), (h5, .inl (cy 0, 100, .inl g90)), (h6, .inl (cy 0, 100, .inl g107)), (h7, .inl (cy 0, 100, .inl f7)), (k0, .inr (1, [.int y, .ref k1, .ref k2, .ref k3, .ref k4, .ref k5, .ref k6, .ref k7])), (k1, .inl (cy 0, 100, .inl e1)), (k2, .inl (cy 0, 100, .inl e2)), (k3, .inl (cy 0, 100, .inl e3)), (k4, .inl (cy 0, 100, .inl e4)), (k5, .inl (cy 0, 100, .inl e5)), (k6, .inl (cy 0, 100, .inl e6)), (k7, .inl (cy 0, 100, .inl e7))] H := hP
  have hD : va_D A [(h0, .inr (1, [.int y, .ref h1, .ref h2, .ref h3, .ref h4, .ref h5, .ref h6, .ref h7])), (h1, .inl (cy 0, 100, .inl g22)), (h2, .inl (cy 0, 100, .inl g39)), (h3, .inl (cy 0, 100, .inl g56)), (h4, .inl (cy 0, 100, .inl g73)), (h5, .inl (cy 0, 100, .inl g90)), (h6, .inl (cy 0, 100, .inl g107)), (h7, .inl (cy 0, 100, .inl f7)), (k0, .inr (1, [.int y, .ref k1, .ref k2, .ref k3, .ref k4, .ref k5, .ref k6, .ref k7])), (k1, .inl (cy 0, 100, .inl e1)), (k2, .inl (cy 0, 100, .inl e2)), (k3, .inl (cy 0, 100, .inl e3)), (k4, .inl (cy 0, 100, .inl e4)), (k5, .inl (cy 0, 100, .inl e5)), (k6, .inl (cy 0, 100, .inl e6)), (k7, .inl (cy 0, 100, .inl e7))] := hD
  refine lv_aload_n hx hb dX1_copyFrom_110 rfl (lv_at hl 1 rfl) ?_
  refine va_get (D := D) (ci := 1) (v := .ref k7) (C := RX1) (T := TX1) (N := 8) hx hb hts in_X1 hown hK hP 8 rfl rfl 7 (by decide) w_12 (fun _ h9 => h9) rfl dX1_copyFrom_111 ?_
  refine lv_iconst (v := 0) hx hb dX1_copyFrom_114 (by decide) ?_
  refine lv_aload_n hx hb dX1_copyFrom_115 rfl (lv_at hl 0 rfl) ?_
  refine va_get (D := D) (ci := 1) (v := .ref h7) (C := RX1) (T := TX1) (N := 8) hx hb hts in_X1 hown hK hP 0 rfl rfl 7 (by decide) w_12 (fun _ h9 => h9) rfl dX1_copyFrom_116 ?_
  refine lv_iconst (v := 0) hx hb dX1_copyFrom_119 (by decide) ?_
  refine lv_aload_n hx hb dX1_copyFrom_120 rfl (lv_at hl 0 rfl) ?_
  refine va_get (D := D) (ci := 1) (v := .int y) (C := RX1) (T := TX1) (N := 8) hx hb hts in_X1 hown hK hP 0 rfl rfl 0 (by decide) w_1 (fun _ h9 => h9) rfl dX1_copyFrom_121 ?_
  refine va_copyi hx hb (hml.trans hl.1.symm) hown w_3 w_4 w_5 w_6 hK hP hD hS 15 7 0 0 rfl rfl rfl rfl rfl (by decide) (by decide) (q_nn (by omega)) (cl_le hy.2) (cl_le hy.2) (fun _ _ => rfl) (Nat.le_of_ble_eq_true rfl) (Nat.le_of_ble_eq_true rfl) dX1_copyFrom_124 (fun H locs hP hD hS => ?_)
  obtain ⟨g124, eg124⟩ : ∃ f : Nat → Int32, f = va_cpy e7 f7 (0 : Int32).toNatClampNeg (0 : Int32).toNatClampNeg y.toNatClampNeg := ⟨_, rfl⟩
  rw [← eg124] at hP hD
  have hP : va_P D vwCl [(h0, .inr (1, [.int y, .ref h1, .ref h2, .ref h3, .ref h4, .ref h5, .ref h6, .ref h7])), (h1, .inl (cy 0, 100, .inl g22)), (h2, .inl (cy 0, 100, .inl g39)), (h3, .inl (cy 0, 100, .inl g56)), (h4, .inl (cy 0, 100, .inl g73)), (h5, .inl (cy 0, 100, .inl g90)), (h6, .inl (cy 0, 100, .inl g107)), (h7, .inl (cy 0, 100, .inl g124)), (k0, .inr (1, [.int y, .ref k1, .ref k2, .ref k3, .ref k4, .ref k5, .ref k6, .ref k7])), (k1, .inl (cy 0, 100, .inl e1)), (k2, .inl (cy 0, 100, .inl e2)), (k3, .inl (cy 0, 100, .inl e3)), (k4, .inl (cy 0, 100, .inl e4)), (k5, .inl (cy 0, 100, .inl e5)), (k6, .inl (cy 0, 100, .inl e6)), (k7, .inl (cy 0, 100, .inl e7))] H := hP
  have hD : va_D A [(h0, .inr (1, [.int y, .ref h1, .ref h2, .ref h3, .ref h4, .ref h5, .ref h6, .ref h7])), (h1, .inl (cy 0, 100, .inl g22)), (h2, .inl (cy 0, 100, .inl g39)), (h3, .inl (cy 0, 100, .inl g56)), (h4, .inl (cy 0, 100, .inl g73)), (h5, .inl (cy 0, 100, .inl g90)), (h6, .inl (cy 0, 100, .inl g107)), (h7, .inl (cy 0, 100, .inl g124)), (k0, .inr (1, [.int y, .ref k1, .ref k2, .ref k3, .ref k4, .ref k5, .ref k6, .ref k7])), (k1, .inl (cy 0, 100, .inl e1)), (k2, .inl (cy 0, 100, .inl e2)), (k3, .inl (cy 0, 100, .inl e3)), (k4, .inl (cy 0, 100, .inl e4)), (k5, .inl (cy 0, 100, .inl e5)), (k6, .inl (cy 0, 100, .inl e6)), (k7, .inl (cy 0, 100, .inl e7))] := hD
  exact r_v hx hb hr hlocks hK hS dX1_copyFrom_127 (u := (g22, g39, g56, g73, g90, g107, g124)) hP hD (⟨cpy_at eg22, cpy_at eg39, cpy_at eg56, cpy_at eg73, cpy_at eg90, cpy_at eg107, cpy_at eg124⟩)

abbrev Q_c_tokAdd0 (D : va_G) (cy : Nat → ClassId) (k0 : Nat) (k1 : Nat) (k2 : Nat) (k3 : Nat) : (Nat → Prop) → Array Value → State → Outcome → State → Prop := QV D cy (fun (u : (Nat → Int32) × (Nat → Int32) × (Nat → Int32)) => match u with | (f1, f2, f3) => f1 0 = 20) (fun u : (Nat → Int32) × (Nat → Int32) × (Nat → Int32) => match u with | (f1, f2, f3) => [(k0, .inr (8, [.int 1, .ref k1, .ref k2, .ref k3])), (k1, .inl (cy 0, 401, .inl f1)), (k2, .inl (cy 0, 401, .inl f2)), (k3, .inl (cy 0, 401, .inl f3))])
set_option maxHeartbeats 4000000 in
set_option maxRecDepth 100000 in
theorem c_tokAdd0 (l : Launch) (D : va_G) (cy : Nat → ClassId) (k0 : Nat) (k1 : Nat) (k2 : Nat) (k3 : Nat) (sz : Nat)  : Met l yX8_add wsX8_add ({ frames := 0, cells := 0, slots := 0, locals := 0 } : Room) (CP D cy [.ref k0, .int 20, .int 0, .int 0] [(k0, .inr (8, [.int 0, .ref k1, .ref k2, .ref k3])), (k1, .inl (cy 0, 401, .inl (fun _ => 0))), (k2, .inl (cy 0, 401, .inl (fun _ => 0))), (k3, .inl (cy 0, 401, .inl (fun _ => 0)))] sz) (Q_c_tokAdd0 D cy k0 k1 k2 k3 (va_A [(k0, .inr (8, [.int 0, .ref k1, .ref k2, .ref k3])), (k1, .inl (cy 0, 401, .inl (fun _ => 0))), (k2, .inl (cy 0, 401, .inl (fun _ => 0))), (k3, .inl (cy 0, 401, .inl (fun _ => 0)))] sz)) 0 0 (va_A [(k0, .inr (8, [.int 0, .ref k1, .ref k2, .ref k3])), (k1, .inl (cy 0, 401, .inl (fun _ => 0))), (k2, .inl (cy 0, 401, .inl (fun _ => 0))), (k3, .inl (cy 0, 401, .inl (fun _ => 0)))] sz) := by
  refine Met.go (Qc := Q_c_tokAdd0 D cy k0 k1 k2 k3) (cc := cX8_add) (maxL := 4) (ret := none) (by decide) rfl (Nat.le_of_ble_eq_true rfl) ?_
  intro p e s m below meth c hx hb hr hts hown hlocks hin hml hK hN A hA hD hP hS ls hl hsz
  have hl : lv_has ls 4 [(0, .ref k0), (1, .int 20), (2, .int 0), (3, .int 0)] := hl
  have in_X8 : ∀ w ∈ wsX80, w ∈ wsX8_add := fun _ h => List.mem_cons_of_mem _ ((List.mem_append_right _ h))
  have w_1 := hts (.fieldLink RX8 21 "SleepingCars$Tokens" "size" "I") (by decide +kernel)
  have w_2 := hts (.fieldLink RX8 9 "SleepingCars$Tokens" "kinds" "[I") (by decide +kernel)
  have w_3 := hts (.fieldLink RX8 15 "SleepingCars$Tokens" "numbers" "[I") (by decide +kernel)
  have w_4 := hts (.fieldLink RX8 18 "SleepingCars$Tokens" "places" "[I") (by decide +kernel)
  obtain ⟨H, eH⟩ : ∃ H : Heap, H = s.heap := ⟨_, rfl⟩
  obtain ⟨locs, eL⟩ : ∃ L : List Loc, L = [] := ⟨_, rfl⟩
  rw [← eL]
  rw [← eL] at hS
  have hP : va_P D vwCl [(k0, .inr (8, [.int 0, .ref k1, .ref k2, .ref k3])), (k1, .inl (cy 0, 401, .inl (fun _ => 0))), (k2, .inl (cy 0, 401, .inl (fun _ => 0))), (k3, .inl (cy 0, 401, .inl (fun _ => 0)))] H := by rw [eH]; exact hP
  have hS : va_S A s.heap H locs := by rw [eH]; exact hS
  refine W.heapEq eH ?_
  clear eH eL
  refine lv_aload_n hx hb dX8_add_0 rfl (lv_at hl 0 rfl) ?_
  refine va_get (D := D) (ci := 8) (v := .int 0) (C := RX8) (T := TX8) (N := 4) hx hb hts in_X8 hown hK hP 0 rfl rfl 0 (by decide) w_1 (fun _ h9 => h9) rfl dX8_add_1 ?_
  refine lv_aload_n hx hb dX8_add_4 rfl (lv_at hl 0 rfl) ?_
  refine va_get (D := D) (ci := 8) (v := .ref k1) (C := RX8) (T := TX8) (N := 4) hx hb hts in_X8 hown hK hP 0 rfl rfl 1 (by decide) w_2 (fun _ h9 => h9) rfl dX8_add_5 ?_
  refine va_alen hx hb hK hP 1 0 rfl rfl (v := 401) rfl dX8_add_8 ?_
  refine lv_icmp_ge (tgt := 52) hx hb dX8_add_9 (by decide) (fun c9 => ?_) (fun c9 => ?_)
  · skip
    exact absurd c9 (by decide)
  · skip
    refine lv_aload_n hx hb dX8_add_12 rfl (lv_at hl 0 rfl) ?_
    refine va_get (D := D) (ci := 8) (v := .ref k1) (C := RX8) (T := TX8) (N := 4) hx hb hts in_X8 hown hK hP 0 rfl rfl 1 (by decide) w_2 (fun _ h9 => h9) rfl dX8_add_13 ?_
    refine lv_aload_n hx hb dX8_add_16 rfl (lv_at hl 0 rfl) ?_
    refine va_get (D := D) (ci := 8) (v := .int 0) (C := RX8) (T := TX8) (N := 4) hx hb hts in_X8 hown hK hP 0 rfl rfl 0 (by decide) w_1 (fun _ h9 => h9) rfl dX8_add_17 ?_
    refine lv_iload_n hx hb dX8_add_20 rfl (lv_at hl 1 rfl) ?_
    refine va_iast hx hb hK hP hD hS 1 0 rfl rfl (q_in (a := 0) (by decide) (by decide) (by decide)) dX8_add_21 (fun H locs hP hD hS => ?_)
    have hP : va_P D vwCl [(k0, .inr (8, [.int 0, .ref k1, .ref k2, .ref k3])), (k1, .inl (cy 0, 401, .inl (upd (fun _ => 0) (0 : Int32).toNatClampNeg 20))), (k2, .inl (cy 0, 401, .inl (fun _ => 0))), (k3, .inl (cy 0, 401, .inl (fun _ => 0)))] H := hP
    have hD : va_D A [(k0, .inr (8, [.int 0, .ref k1, .ref k2, .ref k3])), (k1, .inl (cy 0, 401, .inl (upd (fun _ => 0) (0 : Int32).toNatClampNeg 20))), (k2, .inl (cy 0, 401, .inl (fun _ => 0))), (k3, .inl (cy 0, 401, .inl (fun _ => 0)))] := hD
    refine lv_aload_n hx hb dX8_add_22 rfl (lv_at hl 0 rfl) ?_
    refine va_get (D := D) (ci := 8) (v := .ref k2) (C := RX8) (T := TX8) (N := 4) hx hb hts in_X8 hown hK hP 0 rfl rfl 2 (by decide) w_3 (fun _ h9 => h9) rfl dX8_add_23 ?_
    refine lv_aload_n hx hb dX8_add_26 rfl (lv_at hl 0 rfl) ?_
    refine va_get (D := D) (ci := 8) (v := .int 0) (C := RX8) (T := TX8) (N := 4) hx hb hts in_X8 hown hK hP 0 rfl rfl 0 (by decide) w_1 (fun _ h9 => h9) rfl dX8_add_27 ?_
    refine lv_iload_n hx hb dX8_add_30 rfl (lv_at hl 2 rfl) ?_
    refine va_iast hx hb hK hP hD hS 2 0 rfl rfl (q_in (a := 0) (by decide) (by decide) (by decide)) dX8_add_31 (fun H locs hP hD hS => ?_)
    have hP : va_P D vwCl [(k0, .inr (8, [.int 0, .ref k1, .ref k2, .ref k3])), (k1, .inl (cy 0, 401, .inl (upd (fun _ => 0) (0 : Int32).toNatClampNeg 20))), (k2, .inl (cy 0, 401, .inl (upd (fun _ => 0) (0 : Int32).toNatClampNeg 0))), (k3, .inl (cy 0, 401, .inl (fun _ => 0)))] H := hP
    have hD : va_D A [(k0, .inr (8, [.int 0, .ref k1, .ref k2, .ref k3])), (k1, .inl (cy 0, 401, .inl (upd (fun _ => 0) (0 : Int32).toNatClampNeg 20))), (k2, .inl (cy 0, 401, .inl (upd (fun _ => 0) (0 : Int32).toNatClampNeg 0))), (k3, .inl (cy 0, 401, .inl (fun _ => 0)))] := hD
    refine lv_aload_n hx hb dX8_add_32 rfl (lv_at hl 0 rfl) ?_
    refine va_get (D := D) (ci := 8) (v := .ref k3) (C := RX8) (T := TX8) (N := 4) hx hb hts in_X8 hown hK hP 0 rfl rfl 3 (by decide) w_4 (fun _ h9 => h9) rfl dX8_add_33 ?_
    refine lv_aload_n hx hb dX8_add_36 rfl (lv_at hl 0 rfl) ?_
    refine va_get (D := D) (ci := 8) (v := .int 0) (C := RX8) (T := TX8) (N := 4) hx hb hts in_X8 hown hK hP 0 rfl rfl 0 (by decide) w_1 (fun _ h9 => h9) rfl dX8_add_37 ?_
    refine lv_iload_n hx hb dX8_add_40 rfl (lv_at hl 3 rfl) ?_
    refine va_iast hx hb hK hP hD hS 3 0 rfl rfl (q_in (a := 0) (by decide) (by decide) (by decide)) dX8_add_41 (fun H locs hP hD hS => ?_)
    have hP : va_P D vwCl [(k0, .inr (8, [.int 0, .ref k1, .ref k2, .ref k3])), (k1, .inl (cy 0, 401, .inl (upd (fun _ => 0) (0 : Int32).toNatClampNeg 20))), (k2, .inl (cy 0, 401, .inl (upd (fun _ => 0) (0 : Int32).toNatClampNeg 0))), (k3, .inl (cy 0, 401, .inl (upd (fun _ => 0) (0 : Int32).toNatClampNeg 0)))] H := hP
    have hD : va_D A [(k0, .inr (8, [.int 0, .ref k1, .ref k2, .ref k3])), (k1, .inl (cy 0, 401, .inl (upd (fun _ => 0) (0 : Int32).toNatClampNeg 20))), (k2, .inl (cy 0, 401, .inl (upd (fun _ => 0) (0 : Int32).toNatClampNeg 0))), (k3, .inl (cy 0, 401, .inl (upd (fun _ => 0) (0 : Int32).toNatClampNeg 0)))] := hD
    refine lv_aload_n hx hb dX8_add_42 rfl (lv_at hl 0 rfl) ?_
    refine lv_dup hx hb dX8_add_43 rfl ?_
    refine va_get (D := D) (ci := 8) (v := .int 0) (C := RX8) (T := TX8) (N := 4) hx hb hts in_X8 hown hK hP 0 rfl rfl 0 (by decide) w_1 (fun _ h9 => h9) rfl dX8_add_44 ?_
    refine lv_iconst (v := 1) hx hb dX8_add_47 (by decide) ?_
    refine lv_iadd hx hb dX8_add_48 ?_
    refine lv_topi (fun x48 ex48 => ?_)
    obtain rfl : x48 = 1 := ex48.trans (by decide)
    refine va_put (D := D) (ci := 8) (v := .int 1) (ty := .int) (C := RX8) (T := TX8) (N := 4) hx hb hts in_X8 tyX8 tyX8_ok nmX8 hown hK hP hD hS 0 rfl rfl 0 (by decide) w_1 (fun _ h9 => h9) rfl (by decide +kernel) rfl rfl (Nat.le_of_ble_eq_true rfl) dX8_add_49 (fun H locs hP hD hS => ?_)
    have hP : va_P D vwCl [(k0, .inr (8, [.int 1, .ref k1, .ref k2, .ref k3])), (k1, .inl (cy 0, 401, .inl (upd (fun _ => 0) (0 : Int32).toNatClampNeg 20))), (k2, .inl (cy 0, 401, .inl (upd (fun _ => 0) (0 : Int32).toNatClampNeg 0))), (k3, .inl (cy 0, 401, .inl (upd (fun _ => 0) (0 : Int32).toNatClampNeg 0)))] H := hP
    have hD : va_D A [(k0, .inr (8, [.int 1, .ref k1, .ref k2, .ref k3])), (k1, .inl (cy 0, 401, .inl (upd (fun _ => 0) (0 : Int32).toNatClampNeg 20))), (k2, .inl (cy 0, 401, .inl (upd (fun _ => 0) (0 : Int32).toNatClampNeg 0))), (k3, .inl (cy 0, 401, .inl (upd (fun _ => 0) (0 : Int32).toNatClampNeg 0)))] := hD
    exact r_v hx hb hr hlocks hK hS dX8_add_52 (u := (upd (fun _ => 0) (0 : Int32).toNatClampNeg 20, upd (fun _ => 0) (0 : Int32).toNatClampNeg 0, upd (fun _ => 0) (0 : Int32).toNatClampNeg 0)) hP hD (by decide)

abbrev Q_c_kindAt0 (D : va_G) (cy : Nat → ClassId) (k0 : Nat) (k1 : Nat) (k2 : Nat) (k3 : Nat) (f1 : Nat → Int32) : (Nat → Prop) → Array Value → State → Outcome → State → Prop := QI D cy (fun (r : Int32) (_ : Unit) => r.toInt = 20) (fun _ : Unit => [(k0, .inr (8, [.int 1, .ref k1, .ref k2, .ref k3])), (k1, .inl (cy 0, 401, .inl f1))])
set_option maxHeartbeats 4000000 in
set_option maxRecDepth 100000 in
theorem c_kindAt0 (l : Launch) (D : va_G) (cy : Nat → ClassId) (k0 : Nat) (k1 : Nat) (k2 : Nat) (k3 : Nat) (f1 : Nat → Int32) (sz : Nat) (h20 : f1 0 = 20) : Met l yX8_kindAt wsX8_kindAt ({ frames := 0, cells := 0, slots := 0, locals := 0 } : Room) (CP D cy [.ref k0, .int 0] [(k0, .inr (8, [.int 1, .ref k1, .ref k2, .ref k3])), (k1, .inl (cy 0, 401, .inl f1))] sz) (Q_c_kindAt0 D cy k0 k1 k2 k3 f1 (va_A [(k0, .inr (8, [.int 1, .ref k1, .ref k2, .ref k3])), (k1, .inl (cy 0, 401, .inl f1))] sz)) 0 0 (va_A [(k0, .inr (8, [.int 1, .ref k1, .ref k2, .ref k3])), (k1, .inl (cy 0, 401, .inl f1))] sz) := by
  refine Met.go (Qc := Q_c_kindAt0 D cy k0 k1 k2 k3 f1) (cc := cX8_kindAt) (maxL := 2) (ret := (some .int)) (by decide) rfl (Nat.le_of_ble_eq_true rfl) ?_
  intro p e s m below meth c hx hb hr hts hown hlocks hin hml hK hN A hA hD hP hS ls hl hsz
  have hl : lv_has ls 2 [(0, .ref k0), (1, .int 0)] := hl
  have in_X8 : ∀ w ∈ wsX80, w ∈ wsX8_kindAt := fun _ h => List.mem_cons_of_mem _ ((List.mem_append_right _ h))
  have w_1 := hts (.fieldLink RX8 21 "SleepingCars$Tokens" "size" "I") (by decide +kernel)
  have w_2 := hts (.fieldLink RX8 9 "SleepingCars$Tokens" "kinds" "[I") (by decide +kernel)
  obtain ⟨H, eH⟩ : ∃ H : Heap, H = s.heap := ⟨_, rfl⟩
  obtain ⟨locs, eL⟩ : ∃ L : List Loc, L = [] := ⟨_, rfl⟩
  rw [← eL]
  rw [← eL] at hS
  have hP : va_P D vwCl [(k0, .inr (8, [.int 1, .ref k1, .ref k2, .ref k3])), (k1, .inl (cy 0, 401, .inl f1))] H := by rw [eH]; exact hP
  have hS : va_S A s.heap H locs := by rw [eH]; exact hS
  refine W.heapEq eH ?_
  clear eH eL
  refine lv_iload_n hx hb dX8_kindAt_0 rfl (lv_at hl 1 rfl) ?_
  refine lv_if_lt (tgt := 21) hx hb dX8_kindAt_1 (by decide) (fun c1 => ?_) (fun c1 => ?_)
  · skip
    exact absurd c1 (by decide)
  · skip
    refine lv_iload_n hx hb dX8_kindAt_4 rfl (lv_at hl 1 rfl) ?_
    refine lv_aload_n hx hb dX8_kindAt_5 rfl (lv_at hl 0 rfl) ?_
    refine va_get (D := D) (ci := 8) (v := .int 1) (C := RX8) (T := TX8) (N := 4) hx hb hts in_X8 hown hK hP 0 rfl rfl 0 (by decide) w_1 (fun _ h9 => h9) rfl dX8_kindAt_6 ?_
    refine lv_icmp_ge (tgt := 21) hx hb dX8_kindAt_9 (by decide) (fun c9 => ?_) (fun c9 => ?_)
    · skip
      exact absurd c9 (by decide)
    · skip
      refine lv_aload_n hx hb dX8_kindAt_12 rfl (lv_at hl 0 rfl) ?_
      refine va_get (D := D) (ci := 8) (v := .ref k1) (C := RX8) (T := TX8) (N := 4) hx hb hts in_X8 hown hK hP 0 rfl rfl 1 (by decide) w_2 (fun _ h9 => h9) rfl dX8_kindAt_13 ?_
      refine lv_iload_n hx hb dX8_kindAt_16 rfl (lv_at hl 1 rfl) ?_
      refine va_iald hx hb hK hP 1 0 rfl rfl (q_in (a := 0) (by decide) (by decide) (by decide)) dX8_kindAt_17 ?_
      refine lv_topi (fun x17 ex17 => ?_)
      have tx17 := congrArg Int32.toInt ex17
      refine lv_goto (tgt := 23) hx hb dX8_kindAt_18 (by decide) ?_
      exact r_i hx hb hr hlocks hK hS dX8_kindAt_23 (u := ()) hP hD (by rw [ex17, show (0 : Int32).toNatClampNeg = 0 by decide, h20]; decide)

abbrev Q_c_split0 (D : va_G) (cy : Nat → ClassId) (k0 : Nat) (k1 : Nat) (k2 : Nat) (k3 : Nat) (tp : Nat) (tb : Nat) : (Nat → Prop) → Array Value → State → Outcome → State → Prop := QV D cy (fun (u : (Nat → Int32) × (Nat → Int32) × (Nat → Int32)) => match u with | (f1, f2, f3) => f1 0 = 20) (fun u : (Nat → Int32) × (Nat → Int32) × (Nat → Int32) => match u with | (f1, f2, f3) => [(k0, .inr (8, [.int 1, .ref k1, .ref k2, .ref k3])), (k1, .inl (cy 0, 401, .inl f1)), (k2, .inl (cy 0, 401, .inl f2)), (k3, .inl (cy 0, 401, .inl f3)), (tp, .inr (6, [.int 0, .ref tb]))])
set_option maxHeartbeats 4000000 in
set_option maxRecDepth 100000 in
theorem c_split0 (l : Launch) (D : va_G) (cy : Nat → ClassId) (k0 : Nat) (k1 : Nat) (k2 : Nat) (k3 : Nat) (tp : Nat) (tb : Nat) (sz : Nat)  : Met l yX8_split wsX8_split ({ frames := 1, cells := 0, slots := 0, locals := 23 } : Room) (CP D cy [.ref k0, .ref tp] [(k0, .inr (8, [.int 0, .ref k1, .ref k2, .ref k3])), (k1, .inl (cy 0, 401, .inl (fun _ => 0))), (k2, .inl (cy 0, 401, .inl (fun _ => 0))), (k3, .inl (cy 0, 401, .inl (fun _ => 0))), (tp, .inr (6, [.int 0, .ref tb]))] sz) (Q_c_split0 D cy k0 k1 k2 k3 tp tb (va_A [(k0, .inr (8, [.int 0, .ref k1, .ref k2, .ref k3])), (k1, .inl (cy 0, 401, .inl (fun _ => 0))), (k2, .inl (cy 0, 401, .inl (fun _ => 0))), (k3, .inl (cy 0, 401, .inl (fun _ => 0))), (tp, .inr (6, [.int 0, .ref tb]))] sz)) 0 0 (va_A [(k0, .inr (8, [.int 0, .ref k1, .ref k2, .ref k3])), (k1, .inl (cy 0, 401, .inl (fun _ => 0))), (k2, .inl (cy 0, 401, .inl (fun _ => 0))), (k3, .inl (cy 0, 401, .inl (fun _ => 0))), (tp, .inr (6, [.int 0, .ref tb]))] sz) := by
  refine Met.go (Qc := Q_c_split0 D cy k0 k1 k2 k3 tp tb) (cc := cX8_split) (maxL := 3) (ret := none) (by decide) rfl (Nat.le_of_ble_eq_true rfl) ?_
  intro p e s m below meth c hx hb hr hts hown hlocks hin hml hK hN A hA hD hP hS ls hl hsz
  have hl : lv_has ls 3 [(0, .ref k0), (1, .ref tp)] := hl
  have in_X8 : ∀ w ∈ wsX80, w ∈ wsX8_split := fun _ h => List.mem_cons_of_mem _ (List.mem_append_left _ ((List.mem_append_right _ h)))
  have w_1 := hts (.fieldLink RX8 21 "SleepingCars$Tokens" "size" "I") (by decide +kernel)
  have in_X6 : ∀ w ∈ wsX60, w ∈ wsX8_split := fun _ h => List.mem_cons_of_mem _ ((List.mem_append_right _ h))
  have w_3 := hts (.fieldLink RX8 25 "SleepingCars$Tape" "size" "I") (by decide +kernel)
  have w_4 := hts (.instanceMethod yX8_add) (by decide +kernel)
  obtain ⟨H, eH⟩ : ∃ H : Heap, H = s.heap := ⟨_, rfl⟩
  obtain ⟨locs, eL⟩ : ∃ L : List Loc, L = [] := ⟨_, rfl⟩
  rw [← eL]
  rw [← eL] at hS
  have hP : va_P D vwCl [(k0, .inr (8, [.int 0, .ref k1, .ref k2, .ref k3])), (k1, .inl (cy 0, 401, .inl (fun _ => 0))), (k2, .inl (cy 0, 401, .inl (fun _ => 0))), (k3, .inl (cy 0, 401, .inl (fun _ => 0))), (tp, .inr (6, [.int 0, .ref tb]))] H := by rw [eH]; exact hP
  have hS : va_S A s.heap H locs := by rw [eH]; exact hS
  refine W.heapEq eH ?_
  clear eH eL
  refine lv_aload_n hx hb dX8_split_0 rfl (lv_at hl 0 rfl) ?_
  refine lv_iconst (v := 0) hx hb dX8_split_1 (by decide) ?_
  refine va_put (D := D) (ci := 8) (v := .int 0) (ty := .int) (C := RX8) (T := TX8) (N := 4) hx hb hts in_X8 tyX8 tyX8_ok nmX8 hown hK hP hD hS 0 rfl rfl 0 (by decide) w_1 (fun _ h9 => h9) rfl (by decide +kernel) rfl rfl (Nat.le_of_ble_eq_true rfl) dX8_split_2 (fun H locs hP hD hS => ?_)
  have hP : va_P D vwCl [(k0, .inr (8, [.int 0, .ref k1, .ref k2, .ref k3])), (k1, .inl (cy 0, 401, .inl (fun _ => 0))), (k2, .inl (cy 0, 401, .inl (fun _ => 0))), (k3, .inl (cy 0, 401, .inl (fun _ => 0))), (tp, .inr (6, [.int 0, .ref tb]))] H := hP
  have hD : va_D A [(k0, .inr (8, [.int 0, .ref k1, .ref k2, .ref k3])), (k1, .inl (cy 0, 401, .inl (fun _ => 0))), (k2, .inl (cy 0, 401, .inl (fun _ => 0))), (k3, .inl (cy 0, 401, .inl (fun _ => 0))), (tp, .inr (6, [.int 0, .ref tb]))] := hD
  refine lv_iconst (v := 0) hx hb dX8_split_5 (by decide) ?_
  refine lv_istore_n (lv' := [(2, .int 0), (0, .ref k0), (1, .ref tp)]) hx hb dX8_split_6 rfl hl (by decide) rfl (fun ls hl => ?_)
  refine lv_iload_n hx hb dX8_split_7 rfl (lv_at hl 0 rfl) ?_
  refine lv_aload_n hx hb dX8_split_8 rfl (lv_at hl 2 rfl) ?_
  refine va_get (D := D) (ci := 6) (v := .int 0) (C := RX6) (T := TX6) (N := 2) hx hb hts in_X6 hown hK hP 4 rfl rfl 0 (by decide) w_3 (fun _ h9 => h9) rfl dX8_split_9 ?_
  refine lv_icmp_ge (tgt := 31) hx hb dX8_split_12 (by decide) (fun c12 => ?_) (fun c12 => ?_)
  · skip
    refine lv_aload_n hx hb dX8_split_31 rfl (lv_at hl 1 rfl) ?_
    refine lv_bipush (v := 20) hx hb dX8_split_32 (by decide) ?_
    refine lv_iconst (v := 0) hx hb dX8_split_34 (by decide) ?_
    refine lv_aload_n hx hb dX8_split_35 rfl (lv_at hl 2 rfl) ?_
    refine va_get (D := D) (ci := 6) (v := .int 0) (C := RX6) (T := TX6) (N := 2) hx hb hts in_X6 hown hK hP 4 rfl rfl 0 (by decide) w_3 (fun _ h9 => h9) rfl dX8_split_36 ?_
    refine k_v (va_runV (As := [.int 20, .int 0, .int 0]) (rest := []) ⟨hx, hb, hml, hown, hts⟩ (c_tokAdd0 l D cy k0 k1 k2 k3 H.size ) (cwV 3 hts gX8_split_X8_add rfl rfl rfl (by decide +kernel) ⟨Nat.le_of_ble_eq_true rfl, Nat.le_of_ble_eq_true rfl⟩) (cp_v hK hN hP hD [0, 1, 2, 3] rfl (by decide) (ci := 8) rfl rfl rfl) rfl rfl hl.1 rfl (lv_room (Nat.le_of_ble_eq_true rfl)) dX8_split_39 ⟨Nat.le_of_ble_eq_true rfl, Nat.le_of_ble_eq_true rfl⟩) hP hD hS hA [0, 1, 2, 3] [4] (wr := [(tp, .inr (6, [.int 0, .ref tb]))]) rfl rfl (by decide) (by decide) (fun u_r39 H locs hw39 hP hD hS => ?_)
    obtain ⟨o39, o39_1, o39_2⟩ := u_r39
    try dsimp only at hw39
    have hP : va_P D vwCl [(tp, .inr (6, [.int 0, .ref tb])), (k0, .inr (8, [.int 1, .ref k1, .ref k2, .ref k3])), (k1, .inl (cy 0, 401, .inl o39)), (k2, .inl (cy 0, 401, .inl o39_1)), (k3, .inl (cy 0, 401, .inl o39_2))] H := hP
    have hD : va_D A [(tp, .inr (6, [.int 0, .ref tb])), (k0, .inr (8, [.int 1, .ref k1, .ref k2, .ref k3])), (k1, .inl (cy 0, 401, .inl o39)), (k2, .inl (cy 0, 401, .inl o39_1)), (k3, .inl (cy 0, 401, .inl o39_2))] := hD
    exact r_v hx hb hr hlocks hK hS dX8_split_42 (u := (o39, o39_1, o39_2)) (hP.sub (ws' := [(k0, .inr (8, [.int 1, .ref k1, .ref k2, .ref k3])), (k1, .inl (cy 0, 401, .inl o39)), (k2, .inl (cy 0, 401, .inl o39_1)), (k3, .inl (cy 0, 401, .inl o39_2)), (tp, .inr (6, [.int 0, .ref tb]))]) [1, 2, 3, 4, 0] rfl) (hD.sub (ws' := [(k0, .inr (8, [.int 1, .ref k1, .ref k2, .ref k3])), (k1, .inl (cy 0, 401, .inl o39)), (k2, .inl (cy 0, 401, .inl o39_1)), (k3, .inl (cy 0, 401, .inl o39_2)), (tp, .inr (6, [.int 0, .ref tb]))]) [1, 2, 3, 4, 0] (by decide) rfl) (hw39)
  · skip
    exact absurd c12 (by decide)

abbrev Q_c_clear0 (D : va_G) (cy : Nat → ClassId) (d0 : Nat) (d1 : Nat) (d2 : Nat) (d3 : Nat) (d4 : Nat) (d5 : Nat) (d6 : Nat) (d7 : Nat) : (Nat → Prop) → Array Value → State → Outcome → State → Prop := QV D cy (fun (g : (Nat → Int32)) => ∀ j : Nat, j < 16 → g j = 0) (fun g : (Nat → Int32) => [(d0, .inr (2, [.int 0, .ref d1, .ref d2, .ref d3, .ref d4, .ref d5, .ref d6, .ref d7])), (d3, .inl (cy 0, 16, .inl g))])
set_option maxHeartbeats 4000000 in
set_option maxRecDepth 100000 in
theorem c_clear0 (l : Launch) (D : va_G) (cy : Nat → ClassId) (d0 : Nat) (d1 : Nat) (d2 : Nat) (d3 : Nat) (d4 : Nat) (d5 : Nat) (d6 : Nat) (d7 : Nat) (sz : Nat)  : Met l yX2_clear wsX2_clear ({ frames := 1, cells := 0, slots := 0, locals := 23 } : Room) (CP D cy [.ref d0] [(d0, .inr (2, [.int 0, .ref d1, .ref d2, .ref d3, .ref d4, .ref d5, .ref d6, .ref d7])), (d3, .inl (cy 0, 16, .inl (fun _ => 0)))] sz) (Q_c_clear0 D cy d0 d1 d2 d3 d4 d5 d6 d7 (va_A [(d0, .inr (2, [.int 0, .ref d1, .ref d2, .ref d3, .ref d4, .ref d5, .ref d6, .ref d7])), (d3, .inl (cy 0, 16, .inl (fun _ => 0)))] sz)) 0 0 (va_A [(d0, .inr (2, [.int 0, .ref d1, .ref d2, .ref d3, .ref d4, .ref d5, .ref d6, .ref d7])), (d3, .inl (cy 0, 16, .inl (fun _ => 0)))] sz) := by
  refine Met.go (Qc := Q_c_clear0 D cy d0 d1 d2 d3 d4 d5 d6 d7) (cc := cX2_clear) (maxL := 1) (ret := none) (by decide) rfl (Nat.le_of_ble_eq_true rfl) ?_
  intro p e s m below meth c hx hb hr hts hown hlocks hin hml hK hN A hA hD hP hS ls hl hsz
  have hl : lv_has ls 1 [(0, .ref d0)] := hl
  have in_X2 : ∀ w ∈ wsX20, w ∈ wsX2_clear := fun _ h => List.mem_cons_of_mem _ ((List.mem_append_right _ h))
  have w_1 := hts (.fieldLink RX2 33 "SleepingCars$Rates" "lines" "I") (by decide +kernel)
  have w_2 := hts (.fieldLink RX2 18 "SleepingCars$Rates" "tests" "[I") (by decide +kernel)
  obtain ⟨H, eH⟩ : ∃ H : Heap, H = s.heap := ⟨_, rfl⟩
  obtain ⟨locs, eL⟩ : ∃ L : List Loc, L = [] := ⟨_, rfl⟩
  rw [← eL]
  rw [← eL] at hS
  have hP : va_P D vwCl [(d0, .inr (2, [.int 0, .ref d1, .ref d2, .ref d3, .ref d4, .ref d5, .ref d6, .ref d7])), (d3, .inl (cy 0, 16, .inl (fun _ => 0)))] H := by rw [eH]; exact hP
  have hS : va_S A s.heap H locs := by rw [eH]; exact hS
  refine W.heapEq eH ?_
  clear eH eL
  refine lv_aload_n hx hb dX2_clear_0 rfl (lv_at hl 0 rfl) ?_
  refine lv_iconst (v := 0) hx hb dX2_clear_1 (by decide) ?_
  refine va_put (D := D) (ci := 2) (v := .int 0) (ty := .int) (C := RX2) (T := TX2) (N := 8) hx hb hts in_X2 tyX2 tyX2_ok nmX2 hown hK hP hD hS 0 rfl rfl 0 (by decide) w_1 (fun _ h9 => h9) rfl (by decide +kernel) rfl rfl (Nat.le_of_ble_eq_true rfl) dX2_clear_2 (fun H locs hP hD hS => ?_)
  have hP : va_P D vwCl [(d0, .inr (2, [.int 0, .ref d1, .ref d2, .ref d3, .ref d4, .ref d5, .ref d6, .ref d7])), (d3, .inl (cy 0, 16, .inl (fun _ => 0)))] H := hP
  have hD : va_D A [(d0, .inr (2, [.int 0, .ref d1, .ref d2, .ref d3, .ref d4, .ref d5, .ref d6, .ref d7])), (d3, .inl (cy 0, 16, .inl (fun _ => 0)))] := hD
  refine lv_aload_n hx hb dX2_clear_5 rfl (lv_at hl 0 rfl) ?_
  refine va_get (D := D) (ci := 2) (v := .ref d3) (C := RX2) (T := TX2) (N := 8) hx hb hts in_X2 hown hK hP 0 rfl rfl 3 (by decide) w_2 (fun _ h9 => h9) rfl dX2_clear_6 ?_
  refine lv_iconst (v := 0) hx hb dX2_clear_9 (by decide) ?_
  refine k_v (va_runS (As := [.ref d3, .int 0]) (rest := []) ⟨hx, hb, hml, hown, hts⟩ (c_fill_16 l D cy d3 (fun _ => 0) 0 H.size ) (va_cwS 2 hts gX2_clear_J7_fill_53178 rfl rfl rfl (by decide +kernel) ⟨Nat.le_of_ble_eq_true rfl, Nat.le_of_ble_eq_true rfl⟩) (cp_s hK hN hP hD [1] rfl (by decide)) rfl rfl hl.1 rfl (lv_room (Nat.le_of_ble_eq_true rfl)) dX2_clear_10 ⟨Nat.le_of_ble_eq_true rfl, Nat.le_of_ble_eq_true rfl⟩) hP hD hS hA [1] [0] (wr := [(d0, .inr (2, [.int 0, .ref d1, .ref d2, .ref d3, .ref d4, .ref d5, .ref d6, .ref d7]))]) rfl rfl (by decide) (by decide) (fun u_r10 H locs hw10 hP hD hS => ?_)
  try dsimp only at hw10
  have hP : va_P D vwCl [(d0, .inr (2, [.int 0, .ref d1, .ref d2, .ref d3, .ref d4, .ref d5, .ref d6, .ref d7])), (d3, .inl (cy 0, 16, .inl u_r10))] H := hP
  have hD : va_D A [(d0, .inr (2, [.int 0, .ref d1, .ref d2, .ref d3, .ref d4, .ref d5, .ref d6, .ref d7])), (d3, .inl (cy 0, 16, .inl u_r10))] := hD
  exact r_v hx hb hr hlocks hK hS dX2_clear_13 (u := (u_r10)) hP hD (hw10)

abbrev Q_c_isSound0 (D : va_G) (cy : Nat → ClassId) (rd : Nat) (d0 : Nat) (k0 : Nat) : (Nat → Prop) → Array Value → State → Outcome → State → Prop := QI D cy (fun (r : Int32) (_ : Unit) => r.toInt = 1) (fun _ : Unit => [(rd, .inr (3, [.int 0, .int (-1), .ref d0, .ref k0, .int 0, .int (-1)]))])
set_option maxHeartbeats 4000000 in
set_option maxRecDepth 100000 in
theorem c_isSound0 (l : Launch) (D : va_G) (cy : Nat → ClassId) (rd : Nat) (d0 : Nat) (k0 : Nat) (sz : Nat)  : Met l yX3_isSound wsX3_isSound ({ frames := 0, cells := 0, slots := 0, locals := 0 } : Room) (CP D cy [.ref rd] [(rd, .inr (3, [.int 0, .int (-1), .ref d0, .ref k0, .int 0, .int (-1)]))] sz) (Q_c_isSound0 D cy rd d0 k0 (va_A [(rd, .inr (3, [.int 0, .int (-1), .ref d0, .ref k0, .int 0, .int (-1)]))] sz)) 0 0 (va_A [(rd, .inr (3, [.int 0, .int (-1), .ref d0, .ref k0, .int 0, .int (-1)]))] sz) := by
  refine Met.go (Qc := Q_c_isSound0 D cy rd d0 k0) (cc := cX3_isSound) (maxL := 1) (ret := (some .boolean)) (by decide) rfl (Nat.le_of_ble_eq_true rfl) ?_
  intro p e s m below meth c hx hb hr hts hown hlocks hin hml hK hN A hA hD hP hS ls hl hsz
  have hl : lv_has ls 1 [(0, .ref rd)] := hl
  have in_X3 : ∀ w ∈ wsX30, w ∈ wsX3_isSound := fun _ h => List.mem_cons_of_mem _ ((List.mem_append_right _ h))
  have w_1 := hts (.fieldLink RX3 9 "SleepingCars$Reader" "faultKind" "I") (by decide +kernel)
  obtain ⟨H, eH⟩ : ∃ H : Heap, H = s.heap := ⟨_, rfl⟩
  obtain ⟨locs, eL⟩ : ∃ L : List Loc, L = [] := ⟨_, rfl⟩
  rw [← eL]
  rw [← eL] at hS
  have hP : va_P D vwCl [(rd, .inr (3, [.int 0, .int (-1), .ref d0, .ref k0, .int 0, .int (-1)]))] H := by rw [eH]; exact hP
  have hS : va_S A s.heap H locs := by rw [eH]; exact hS
  refine W.heapEq eH ?_
  clear eH eL
  refine lv_aload_n hx hb dX3_isSound_0 rfl (lv_at hl 0 rfl) ?_
  refine va_get (D := D) (ci := 3) (v := .int 0) (C := RX3) (T := TX3) (N := 6) hx hb hts in_X3 hown hK hP 0 rfl rfl 0 (by decide) w_1 (fun _ h9 => h9) rfl dX3_isSound_1 ?_
  refine lv_if_ne (tgt := 11) hx hb dX3_isSound_4 (by decide) (fun c4 => ?_) (fun c4 => ?_)
  · skip
    exact absurd c4 (by decide)
  · skip
    refine lv_iconst (v := 1) hx hb dX3_isSound_7 (by decide) ?_
    refine lv_goto (tgt := 12) hx hb dX3_isSound_8 (by decide) ?_
    exact r_z hx hb hr hlocks hK hS dX3_isSound_12 (by decide) (u := ()) hP hD (by decide)

abbrev Q_c_isNext0 (D : va_G) (cy : Nat → ClassId) (rd : Nat) (d0 : Nat) (k0 : Nat) (k1 : Nat) (k2 : Nat) (k3 : Nat) (f1 : Nat → Int32) : (Nat → Prop) → Array Value → State → Outcome → State → Prop := QI D cy (fun (r : Int32) (_ : Unit) => r.toInt = 1) (fun _ : Unit => [(rd, .inr (3, [.int 0, .int (-1), .ref d0, .ref k0, .int 0, .int (-1)])), (k0, .inr (8, [.int 1, .ref k1, .ref k2, .ref k3])), (k1, .inl (cy 0, 401, .inl f1))])
set_option maxHeartbeats 4000000 in
set_option maxRecDepth 100000 in
theorem c_isNext0 (l : Launch) (D : va_G) (cy : Nat → ClassId) (rd : Nat) (d0 : Nat) (k0 : Nat) (k1 : Nat) (k2 : Nat) (k3 : Nat) (f1 : Nat → Int32) (sz : Nat) (h20 : f1 0 = 20) : Met l yX3_isNext wsX3_isNext ({ frames := 1, cells := 0, slots := 0, locals := 21 } : Room) (CP D cy [.ref rd, .int 20] [(rd, .inr (3, [.int 0, .int (-1), .ref d0, .ref k0, .int 0, .int (-1)])), (k0, .inr (8, [.int 1, .ref k1, .ref k2, .ref k3])), (k1, .inl (cy 0, 401, .inl f1))] sz) (Q_c_isNext0 D cy rd d0 k0 k1 k2 k3 f1 (va_A [(rd, .inr (3, [.int 0, .int (-1), .ref d0, .ref k0, .int 0, .int (-1)])), (k0, .inr (8, [.int 1, .ref k1, .ref k2, .ref k3])), (k1, .inl (cy 0, 401, .inl f1))] sz)) 0 0 (va_A [(rd, .inr (3, [.int 0, .int (-1), .ref d0, .ref k0, .int 0, .int (-1)])), (k0, .inr (8, [.int 1, .ref k1, .ref k2, .ref k3])), (k1, .inl (cy 0, 401, .inl f1))] sz) := by
  refine Met.go (Qc := Q_c_isNext0 D cy rd d0 k0 k1 k2 k3 f1) (cc := cX3_isNext) (maxL := 2) (ret := (some .boolean)) (by decide) rfl (Nat.le_of_ble_eq_true rfl) ?_
  intro p e s m below meth c hx hb hr hts hown hlocks hin hml hK hN A hA hD hP hS ls hl hsz
  have hl : lv_has ls 2 [(0, .ref rd), (1, .int 20)] := hl
  have in_X3 : ∀ w ∈ wsX30, w ∈ wsX3_isNext := fun _ h => List.mem_cons_of_mem _ (List.mem_append_left _ ((List.mem_append_right _ h)))
  have w_1 := hts (.fieldLink RX3 28 "SleepingCars$Reader" "tokens" "LSleepingCars$Tokens;") (by decide +kernel)
  have w_2 := hts (.fieldLink RX3 35 "SleepingCars$Reader" "at" "I") (by decide +kernel)
  have w_3 := hts (.instanceMethod yX8_kindAt) (by decide +kernel)
  obtain ⟨H, eH⟩ : ∃ H : Heap, H = s.heap := ⟨_, rfl⟩
  obtain ⟨locs, eL⟩ : ∃ L : List Loc, L = [] := ⟨_, rfl⟩
  rw [← eL]
  rw [← eL] at hS
  have hP : va_P D vwCl [(rd, .inr (3, [.int 0, .int (-1), .ref d0, .ref k0, .int 0, .int (-1)])), (k0, .inr (8, [.int 1, .ref k1, .ref k2, .ref k3])), (k1, .inl (cy 0, 401, .inl f1))] H := by rw [eH]; exact hP
  have hS : va_S A s.heap H locs := by rw [eH]; exact hS
  refine W.heapEq eH ?_
  clear eH eL
  refine lv_aload_n hx hb dX3_isNext_0 rfl (lv_at hl 0 rfl) ?_
  refine va_get (D := D) (ci := 3) (v := .ref k0) (C := RX3) (T := TX3) (N := 6) hx hb hts in_X3 hown hK hP 0 rfl rfl 3 (by decide) w_1 (fun _ h9 => h9) rfl dX3_isNext_1 ?_
  refine lv_aload_n hx hb dX3_isNext_4 rfl (lv_at hl 0 rfl) ?_
  refine va_get (D := D) (ci := 3) (v := .int 0) (C := RX3) (T := TX3) (N := 6) hx hb hts in_X3 hown hK hP 0 rfl rfl 4 (by decide) w_2 (fun _ h9 => h9) rfl dX3_isNext_5 ?_
  refine k_i (va_runV (As := [.int 0]) (rest := []) ⟨hx, hb, hml, hown, hts⟩ (c_kindAt0 l D cy k0 k1 k2 k3 f1 H.size h20) (cwV 1 hts gX3_isNext_X8_kindAt rfl rfl rfl (by decide +kernel) ⟨Nat.le_of_ble_eq_true rfl, Nat.le_of_ble_eq_true rfl⟩) (cp_v hK hN hP hD [1, 2] rfl (by decide) (ci := 8) rfl rfl rfl) rfl rfl hl.1 rfl (lv_room (Nat.le_of_ble_eq_true rfl)) dX3_isNext_8 ⟨Nat.le_of_ble_eq_true rfl, Nat.le_of_ble_eq_true rfl⟩) hP hD hS hA [1, 2] [0] (wr := [(rd, .inr (3, [.int 0, .int (-1), .ref d0, .ref k0, .int 0, .int (-1)]))]) rfl rfl (by decide) (by decide) (fun r8 u_r8 H locs hw8 hP hD hS => ?_)
  try dsimp only at hw8
  have hP : va_P D vwCl [(rd, .inr (3, [.int 0, .int (-1), .ref d0, .ref k0, .int 0, .int (-1)])), (k0, .inr (8, [.int 1, .ref k1, .ref k2, .ref k3])), (k1, .inl (cy 0, 401, .inl f1))] H := hP
  have hD : va_D A [(rd, .inr (3, [.int 0, .int (-1), .ref d0, .ref k0, .int 0, .int (-1)])), (k0, .inr (8, [.int 1, .ref k1, .ref k2, .ref k3])), (k1, .inl (cy 0, 401, .inl f1))] := hD
  refine lv_iload_n hx hb dX3_isNext_11 rfl (lv_at hl 1 rfl) ?_
  refine lv_icmp_ne (tgt := 19) hx hb dX3_isNext_12 (by decide) (fun c12 => ?_) (fun c12 => ?_)
  · skip
    have fc12 := q_ne (a := r8.toInt) (b := 20) c12 rfl (by decide)
    exfalso; omega
  · skip
    have fc12 := q_eq (a := r8.toInt) (b := 20) c12 rfl (by decide)
    refine lv_iconst (v := 1) hx hb dX3_isNext_15 (by decide) ?_
    refine lv_goto (tgt := 20) hx hb dX3_isNext_16 (by decide) ?_
    exact r_z hx hb hr hlocks hK hS dX3_isNext_20 (by decide) (u := ()) hP hD (by decide)

abbrev Q_c_read0 (D : va_G) (cy : Nat → ClassId) (rd : Nat) (tp : Nat) (tb : Nat) (d0 : Nat) (d1 : Nat) (d2 : Nat) (d3 : Nat) (d4 : Nat) (d5 : Nat) (d6 : Nat) (d7 : Nat) (k0 : Nat) (k1 : Nat) (k2 : Nat) (k3 : Nat) : (Nat → Prop) → Array Value → State → Outcome → State → Prop := QV D cy (fun (u : (Nat → Int32) × (Nat → Int32) × (Nat → Int32) × (Nat → Int32)) => match u with | (g, f1, f2, f3) => True) (fun u : (Nat → Int32) × (Nat → Int32) × (Nat → Int32) × (Nat → Int32) => match u with | (g, f1, f2, f3) => [(rd, .inr (3, [.int 0, .int (-1), .ref d0, .ref k0, .int 0, .int (-1)])), (d0, .inr (2, [.int 0, .ref d1, .ref d2, .ref d3, .ref d4, .ref d5, .ref d6, .ref d7])), (d3, .inl (cy 0, 16, .inl g)), (k0, .inr (8, [.int 1, .ref k1, .ref k2, .ref k3])), (k1, .inl (cy 0, 401, .inl f1)), (k2, .inl (cy 0, 401, .inl f2)), (k3, .inl (cy 0, 401, .inl f3)), (tp, .inr (6, [.int 0, .ref tb]))])
set_option maxHeartbeats 4000000 in
set_option maxRecDepth 100000 in
theorem c_read0 (l : Launch) (D : va_G) (cy : Nat → ClassId) (rd : Nat) (tp : Nat) (tb : Nat) (d0 : Nat) (d1 : Nat) (d2 : Nat) (d3 : Nat) (d4 : Nat) (d5 : Nat) (d6 : Nat) (d7 : Nat) (k0 : Nat) (k1 : Nat) (k2 : Nat) (k3 : Nat) (sz : Nat)  : Met l yX3_read wsX3_read ({ frames := 2, cells := 0, slots := 0, locals := 45 } : Room) (CP D cy [.ref rd, .ref tp] [(rd, .inr (3, [.int 0, .int (-1), .ref d0, .ref k0, .int 0, .int 0])), (d0, .inr (2, [.int 0, .ref d1, .ref d2, .ref d3, .ref d4, .ref d5, .ref d6, .ref d7])), (d3, .inl (cy 0, 16, .inl (fun _ => 0))), (k0, .inr (8, [.int 0, .ref k1, .ref k2, .ref k3])), (k1, .inl (cy 0, 401, .inl (fun _ => 0))), (k2, .inl (cy 0, 401, .inl (fun _ => 0))), (k3, .inl (cy 0, 401, .inl (fun _ => 0))), (tp, .inr (6, [.int 0, .ref tb]))] sz) (Q_c_read0 D cy rd tp tb d0 d1 d2 d3 d4 d5 d6 d7 k0 k1 k2 k3 (va_A [(rd, .inr (3, [.int 0, .int (-1), .ref d0, .ref k0, .int 0, .int 0])), (d0, .inr (2, [.int 0, .ref d1, .ref d2, .ref d3, .ref d4, .ref d5, .ref d6, .ref d7])), (d3, .inl (cy 0, 16, .inl (fun _ => 0))), (k0, .inr (8, [.int 0, .ref k1, .ref k2, .ref k3])), (k1, .inl (cy 0, 401, .inl (fun _ => 0))), (k2, .inl (cy 0, 401, .inl (fun _ => 0))), (k3, .inl (cy 0, 401, .inl (fun _ => 0))), (tp, .inr (6, [.int 0, .ref tb]))] sz)) 0 0 (va_A [(rd, .inr (3, [.int 0, .int (-1), .ref d0, .ref k0, .int 0, .int 0])), (d0, .inr (2, [.int 0, .ref d1, .ref d2, .ref d3, .ref d4, .ref d5, .ref d6, .ref d7])), (d3, .inl (cy 0, 16, .inl (fun _ => 0))), (k0, .inr (8, [.int 0, .ref k1, .ref k2, .ref k3])), (k1, .inl (cy 0, 401, .inl (fun _ => 0))), (k2, .inl (cy 0, 401, .inl (fun _ => 0))), (k3, .inl (cy 0, 401, .inl (fun _ => 0))), (tp, .inr (6, [.int 0, .ref tb]))] sz) := by
  refine Met.go (Qc := Q_c_read0 D cy rd tp tb d0 d1 d2 d3 d4 d5 d6 d7 k0 k1 k2 k3) (cc := cX3_read) (maxL := 3) (ret := none) (by decide) rfl (Nat.le_of_ble_eq_true rfl) ?_
  intro p e s m below meth c hx hb hr hts hown hlocks hin hml hK hN A hA hD hP hS ls hl hsz
  have hl : lv_has ls 3 [(0, .ref rd), (1, .ref tp)] := hl
  have in_X3 : ∀ w ∈ wsX30, w ∈ wsX3_read := fun _ h => List.mem_cons_of_mem _ (List.mem_append_left _ (List.mem_append_left _ (List.mem_append_left _ ((List.mem_append_right _ h)))))
  have w_1 := hts (.fieldLink RX3 9 "SleepingCars$Reader" "faultKind" "I") (by decide +kernel)
  have w_2 := hts (.fieldLink RX3 15 "SleepingCars$Reader" "faultPlace" "I") (by decide +kernel)
  have w_3 := hts (.fieldLink RX3 32 "SleepingCars$Reader" "surplusPlace" "I") (by decide +kernel)
  have w_4 := hts (.fieldLink RX3 35 "SleepingCars$Reader" "at" "I") (by decide +kernel)
  have w_5 := hts (.fieldLink RX3 21 "SleepingCars$Reader" "draft" "LSleepingCars$Rates;") (by decide +kernel)
  have w_6 := hts (.instanceMethod yX2_clear) (by decide +kernel)
  have w_7 := hts (.fieldLink RX3 28 "SleepingCars$Reader" "tokens" "LSleepingCars$Tokens;") (by decide +kernel)
  have w_8 := hts (.instanceMethod yX8_split) (by decide +kernel)
  have w_9 := hts (.instanceMethod yX3_isSound) (by decide +kernel)
  have w_10 := hts (.instanceMethod yX3_isNext) (by decide +kernel)
  obtain ⟨H, eH⟩ : ∃ H : Heap, H = s.heap := ⟨_, rfl⟩
  obtain ⟨locs, eL⟩ : ∃ L : List Loc, L = [] := ⟨_, rfl⟩
  rw [← eL]
  rw [← eL] at hS
  have hP : va_P D vwCl [(rd, .inr (3, [.int 0, .int (-1), .ref d0, .ref k0, .int 0, .int 0])), (d0, .inr (2, [.int 0, .ref d1, .ref d2, .ref d3, .ref d4, .ref d5, .ref d6, .ref d7])), (d3, .inl (cy 0, 16, .inl (fun _ => 0))), (k0, .inr (8, [.int 0, .ref k1, .ref k2, .ref k3])), (k1, .inl (cy 0, 401, .inl (fun _ => 0))), (k2, .inl (cy 0, 401, .inl (fun _ => 0))), (k3, .inl (cy 0, 401, .inl (fun _ => 0))), (tp, .inr (6, [.int 0, .ref tb]))] H := by rw [eH]; exact hP
  have hS : va_S A s.heap H locs := by rw [eH]; exact hS
  refine W.heapEq eH ?_
  clear eH eL
  refine lv_aload_n hx hb dX3_read_0 rfl (lv_at hl 0 rfl) ?_
  refine lv_iconst (v := 0) hx hb dX3_read_1 (by decide) ?_
  refine va_put (D := D) (ci := 3) (v := .int 0) (ty := .int) (C := RX3) (T := TX3) (N := 6) hx hb hts in_X3 tyX3 tyX3_ok nmX3 hown hK hP hD hS 0 rfl rfl 0 (by decide) w_1 (fun _ h9 => h9) rfl (by decide +kernel) rfl rfl (Nat.le_of_ble_eq_true rfl) dX3_read_2 (fun H locs hP hD hS => ?_)
  have hP : va_P D vwCl [(rd, .inr (3, [.int 0, .int (-1), .ref d0, .ref k0, .int 0, .int 0])), (d0, .inr (2, [.int 0, .ref d1, .ref d2, .ref d3, .ref d4, .ref d5, .ref d6, .ref d7])), (d3, .inl (cy 0, 16, .inl (fun _ => 0))), (k0, .inr (8, [.int 0, .ref k1, .ref k2, .ref k3])), (k1, .inl (cy 0, 401, .inl (fun _ => 0))), (k2, .inl (cy 0, 401, .inl (fun _ => 0))), (k3, .inl (cy 0, 401, .inl (fun _ => 0))), (tp, .inr (6, [.int 0, .ref tb]))] H := hP
  have hD : va_D A [(rd, .inr (3, [.int 0, .int (-1), .ref d0, .ref k0, .int 0, .int 0])), (d0, .inr (2, [.int 0, .ref d1, .ref d2, .ref d3, .ref d4, .ref d5, .ref d6, .ref d7])), (d3, .inl (cy 0, 16, .inl (fun _ => 0))), (k0, .inr (8, [.int 0, .ref k1, .ref k2, .ref k3])), (k1, .inl (cy 0, 401, .inl (fun _ => 0))), (k2, .inl (cy 0, 401, .inl (fun _ => 0))), (k3, .inl (cy 0, 401, .inl (fun _ => 0))), (tp, .inr (6, [.int 0, .ref tb]))] := hD
  refine lv_aload_n hx hb dX3_read_5 rfl (lv_at hl 0 rfl) ?_
  refine lv_iconst (v := (-1)) hx hb dX3_read_6 (by decide) ?_
  refine va_put (D := D) (ci := 3) (v := .int (-1)) (ty := .int) (C := RX3) (T := TX3) (N := 6) hx hb hts in_X3 tyX3 tyX3_ok nmX3 hown hK hP hD hS 0 rfl rfl 1 (by decide) w_2 (fun _ h9 => h9) rfl (by decide +kernel) rfl rfl (Nat.le_of_ble_eq_true rfl) dX3_read_7 (fun H locs hP hD hS => ?_)
  have hP : va_P D vwCl [(rd, .inr (3, [.int 0, .int (-1), .ref d0, .ref k0, .int 0, .int 0])), (d0, .inr (2, [.int 0, .ref d1, .ref d2, .ref d3, .ref d4, .ref d5, .ref d6, .ref d7])), (d3, .inl (cy 0, 16, .inl (fun _ => 0))), (k0, .inr (8, [.int 0, .ref k1, .ref k2, .ref k3])), (k1, .inl (cy 0, 401, .inl (fun _ => 0))), (k2, .inl (cy 0, 401, .inl (fun _ => 0))), (k3, .inl (cy 0, 401, .inl (fun _ => 0))), (tp, .inr (6, [.int 0, .ref tb]))] H := hP
  have hD : va_D A [(rd, .inr (3, [.int 0, .int (-1), .ref d0, .ref k0, .int 0, .int 0])), (d0, .inr (2, [.int 0, .ref d1, .ref d2, .ref d3, .ref d4, .ref d5, .ref d6, .ref d7])), (d3, .inl (cy 0, 16, .inl (fun _ => 0))), (k0, .inr (8, [.int 0, .ref k1, .ref k2, .ref k3])), (k1, .inl (cy 0, 401, .inl (fun _ => 0))), (k2, .inl (cy 0, 401, .inl (fun _ => 0))), (k3, .inl (cy 0, 401, .inl (fun _ => 0))), (tp, .inr (6, [.int 0, .ref tb]))] := hD
  refine lv_aload_n hx hb dX3_read_10 rfl (lv_at hl 0 rfl) ?_
  refine lv_iconst (v := (-1)) hx hb dX3_read_11 (by decide) ?_
  refine va_put (D := D) (ci := 3) (v := .int (-1)) (ty := .int) (C := RX3) (T := TX3) (N := 6) hx hb hts in_X3 tyX3 tyX3_ok nmX3 hown hK hP hD hS 0 rfl rfl 5 (by decide) w_3 (fun _ h9 => h9) rfl (by decide +kernel) rfl rfl (Nat.le_of_ble_eq_true rfl) dX3_read_12 (fun H locs hP hD hS => ?_)
  have hP : va_P D vwCl [(rd, .inr (3, [.int 0, .int (-1), .ref d0, .ref k0, .int 0, .int (-1)])), (d0, .inr (2, [.int 0, .ref d1, .ref d2, .ref d3, .ref d4, .ref d5, .ref d6, .ref d7])), (d3, .inl (cy 0, 16, .inl (fun _ => 0))), (k0, .inr (8, [.int 0, .ref k1, .ref k2, .ref k3])), (k1, .inl (cy 0, 401, .inl (fun _ => 0))), (k2, .inl (cy 0, 401, .inl (fun _ => 0))), (k3, .inl (cy 0, 401, .inl (fun _ => 0))), (tp, .inr (6, [.int 0, .ref tb]))] H := hP
  have hD : va_D A [(rd, .inr (3, [.int 0, .int (-1), .ref d0, .ref k0, .int 0, .int (-1)])), (d0, .inr (2, [.int 0, .ref d1, .ref d2, .ref d3, .ref d4, .ref d5, .ref d6, .ref d7])), (d3, .inl (cy 0, 16, .inl (fun _ => 0))), (k0, .inr (8, [.int 0, .ref k1, .ref k2, .ref k3])), (k1, .inl (cy 0, 401, .inl (fun _ => 0))), (k2, .inl (cy 0, 401, .inl (fun _ => 0))), (k3, .inl (cy 0, 401, .inl (fun _ => 0))), (tp, .inr (6, [.int 0, .ref tb]))] := hD
  refine lv_aload_n hx hb dX3_read_15 rfl (lv_at hl 0 rfl) ?_
  refine lv_iconst (v := 0) hx hb dX3_read_16 (by decide) ?_
  refine va_put (D := D) (ci := 3) (v := .int 0) (ty := .int) (C := RX3) (T := TX3) (N := 6) hx hb hts in_X3 tyX3 tyX3_ok nmX3 hown hK hP hD hS 0 rfl rfl 4 (by decide) w_4 (fun _ h9 => h9) rfl (by decide +kernel) rfl rfl (Nat.le_of_ble_eq_true rfl) dX3_read_17 (fun H locs hP hD hS => ?_)
  have hP : va_P D vwCl [(rd, .inr (3, [.int 0, .int (-1), .ref d0, .ref k0, .int 0, .int (-1)])), (d0, .inr (2, [.int 0, .ref d1, .ref d2, .ref d3, .ref d4, .ref d5, .ref d6, .ref d7])), (d3, .inl (cy 0, 16, .inl (fun _ => 0))), (k0, .inr (8, [.int 0, .ref k1, .ref k2, .ref k3])), (k1, .inl (cy 0, 401, .inl (fun _ => 0))), (k2, .inl (cy 0, 401, .inl (fun _ => 0))), (k3, .inl (cy 0, 401, .inl (fun _ => 0))), (tp, .inr (6, [.int 0, .ref tb]))] H := hP
  have hD : va_D A [(rd, .inr (3, [.int 0, .int (-1), .ref d0, .ref k0, .int 0, .int (-1)])), (d0, .inr (2, [.int 0, .ref d1, .ref d2, .ref d3, .ref d4, .ref d5, .ref d6, .ref d7])), (d3, .inl (cy 0, 16, .inl (fun _ => 0))), (k0, .inr (8, [.int 0, .ref k1, .ref k2, .ref k3])), (k1, .inl (cy 0, 401, .inl (fun _ => 0))), (k2, .inl (cy 0, 401, .inl (fun _ => 0))), (k3, .inl (cy 0, 401, .inl (fun _ => 0))), (tp, .inr (6, [.int 0, .ref tb]))] := hD
  refine lv_aload_n hx hb dX3_read_20 rfl (lv_at hl 0 rfl) ?_
  refine va_get (D := D) (ci := 3) (v := .ref d0) (C := RX3) (T := TX3) (N := 6) hx hb hts in_X3 hown hK hP 0 rfl rfl 2 (by decide) w_5 (fun _ h9 => h9) rfl dX3_read_21 ?_
  refine k_v (va_runV (As := []) (rest := []) ⟨hx, hb, hml, hown, hts⟩ (c_clear0 l D cy d0 d1 d2 d3 d4 d5 d6 d7 H.size ) (cwV 0 hts gX3_read_X2_clear rfl rfl rfl (by decide +kernel) ⟨Nat.le_of_ble_eq_true rfl, Nat.le_of_ble_eq_true rfl⟩) (cp_v hK hN hP hD [1, 2] rfl (by decide) (ci := 2) rfl rfl rfl) rfl rfl hl.1 rfl (lv_room (Nat.le_of_ble_eq_true rfl)) dX3_read_24 ⟨Nat.le_of_ble_eq_true rfl, Nat.le_of_ble_eq_true rfl⟩) hP hD hS hA [1, 2] [0, 3, 4, 5, 6, 7] (wr := [(rd, .inr (3, [.int 0, .int (-1), .ref d0, .ref k0, .int 0, .int (-1)])), (k0, .inr (8, [.int 0, .ref k1, .ref k2, .ref k3])), (k1, .inl (cy 0, 401, .inl (fun _ => 0))), (k2, .inl (cy 0, 401, .inl (fun _ => 0))), (k3, .inl (cy 0, 401, .inl (fun _ => 0))), (tp, .inr (6, [.int 0, .ref tb]))]) rfl rfl (by decide) (by decide) (fun u_r24 H locs hw24 hP hD hS => ?_)
  try dsimp only at hw24
  have hP : va_P D vwCl [(rd, .inr (3, [.int 0, .int (-1), .ref d0, .ref k0, .int 0, .int (-1)])), (k0, .inr (8, [.int 0, .ref k1, .ref k2, .ref k3])), (k1, .inl (cy 0, 401, .inl (fun _ => 0))), (k2, .inl (cy 0, 401, .inl (fun _ => 0))), (k3, .inl (cy 0, 401, .inl (fun _ => 0))), (tp, .inr (6, [.int 0, .ref tb])), (d0, .inr (2, [.int 0, .ref d1, .ref d2, .ref d3, .ref d4, .ref d5, .ref d6, .ref d7])), (d3, .inl (cy 0, 16, .inl u_r24))] H := hP
  have hD : va_D A [(rd, .inr (3, [.int 0, .int (-1), .ref d0, .ref k0, .int 0, .int (-1)])), (k0, .inr (8, [.int 0, .ref k1, .ref k2, .ref k3])), (k1, .inl (cy 0, 401, .inl (fun _ => 0))), (k2, .inl (cy 0, 401, .inl (fun _ => 0))), (k3, .inl (cy 0, 401, .inl (fun _ => 0))), (tp, .inr (6, [.int 0, .ref tb])), (d0, .inr (2, [.int 0, .ref d1, .ref d2, .ref d3, .ref d4, .ref d5, .ref d6, .ref d7])), (d3, .inl (cy 0, 16, .inl u_r24))] := hD
  refine lv_aload_n hx hb dX3_read_27 rfl (lv_at hl 0 rfl) ?_
  refine va_get (D := D) (ci := 3) (v := .ref k0) (C := RX3) (T := TX3) (N := 6) hx hb hts in_X3 hown hK hP 0 rfl rfl 3 (by decide) w_7 (fun _ h9 => h9) rfl dX3_read_28 ?_
  refine lv_aload_n hx hb dX3_read_31 rfl (lv_at hl 1 rfl) ?_
  refine k_v (va_runV (As := [.ref tp]) (rest := []) ⟨hx, hb, hml, hown, hts⟩ (c_split0 l D cy k0 k1 k2 k3 tp tb H.size ) (cwV 1 hts gX3_read_X8_split rfl rfl rfl (by decide +kernel) ⟨Nat.le_of_ble_eq_true rfl, Nat.le_of_ble_eq_true rfl⟩) (cp_v hK hN hP hD [1, 2, 3, 4, 5] rfl (by decide) (ci := 8) rfl rfl rfl) rfl rfl hl.1 rfl (lv_room (Nat.le_of_ble_eq_true rfl)) dX3_read_32 ⟨Nat.le_of_ble_eq_true rfl, Nat.le_of_ble_eq_true rfl⟩) hP hD hS hA [1, 2, 3, 4, 5] [0, 6, 7] (wr := [(rd, .inr (3, [.int 0, .int (-1), .ref d0, .ref k0, .int 0, .int (-1)])), (d0, .inr (2, [.int 0, .ref d1, .ref d2, .ref d3, .ref d4, .ref d5, .ref d6, .ref d7])), (d3, .inl (cy 0, 16, .inl u_r24))]) rfl rfl (by decide) (by decide) (fun u_r32 H locs hw32 hP hD hS => ?_)
  obtain ⟨o32, o32_1, o32_2⟩ := u_r32
  try dsimp only at hw32
  have hP : va_P D vwCl [(rd, .inr (3, [.int 0, .int (-1), .ref d0, .ref k0, .int 0, .int (-1)])), (d0, .inr (2, [.int 0, .ref d1, .ref d2, .ref d3, .ref d4, .ref d5, .ref d6, .ref d7])), (d3, .inl (cy 0, 16, .inl u_r24)), (k0, .inr (8, [.int 1, .ref k1, .ref k2, .ref k3])), (k1, .inl (cy 0, 401, .inl o32)), (k2, .inl (cy 0, 401, .inl o32_1)), (k3, .inl (cy 0, 401, .inl o32_2)), (tp, .inr (6, [.int 0, .ref tb]))] H := hP
  have hD : va_D A [(rd, .inr (3, [.int 0, .int (-1), .ref d0, .ref k0, .int 0, .int (-1)])), (d0, .inr (2, [.int 0, .ref d1, .ref d2, .ref d3, .ref d4, .ref d5, .ref d6, .ref d7])), (d3, .inl (cy 0, 16, .inl u_r24)), (k0, .inr (8, [.int 1, .ref k1, .ref k2, .ref k3])), (k1, .inl (cy 0, 401, .inl o32)), (k2, .inl (cy 0, 401, .inl o32_1)), (k3, .inl (cy 0, 401, .inl o32_2)), (tp, .inr (6, [.int 0, .ref tb]))] := hD
  refine lv_iconst (v := 0) hx hb dX3_read_35 (by decide) ?_
  refine lv_istore_n (lv' := [(2, .int 0), (0, .ref rd), (1, .ref tp)]) hx hb dX3_read_36 rfl hl (by decide) rfl (fun ls hl => ?_)
  refine lv_iload_n hx hb dX3_read_37 rfl (lv_at hl 0 rfl) ?_
  refine lv_sipush (v := 400) hx hb dX3_read_38 (by decide) ?_
  refine lv_icmp_ge (tgt := 81) hx hb dX3_read_41 (by decide) (fun c41 => ?_) (fun c41 => ?_)
  · skip
    exact absurd c41 (by decide)
  · skip
    refine lv_aload_n hx hb dX3_read_44 rfl (lv_at hl 1 rfl) ?_
    refine k_i (va_runV (As := []) (rest := []) ⟨hx, hb, hml, hown, hts⟩ (c_isSound0 l D cy rd d0 k0 H.size ) (cwV 0 hts gX3_read_X3_isSound rfl rfl rfl (by decide +kernel) ⟨Nat.le_of_ble_eq_true rfl, Nat.le_of_ble_eq_true rfl⟩) (cp_v hK hN hP hD [0] rfl (by decide) (ci := 3) rfl rfl rfl) rfl rfl hl.1 rfl (lv_room (Nat.le_of_ble_eq_true rfl)) dX3_read_45 ⟨Nat.le_of_ble_eq_true rfl, Nat.le_of_ble_eq_true rfl⟩) hP hD hS hA [0] [1, 2, 3, 4, 5, 6, 7] (wr := [(d0, .inr (2, [.int 0, .ref d1, .ref d2, .ref d3, .ref d4, .ref d5, .ref d6, .ref d7])), (d3, .inl (cy 0, 16, .inl u_r24)), (k0, .inr (8, [.int 1, .ref k1, .ref k2, .ref k3])), (k1, .inl (cy 0, 401, .inl o32)), (k2, .inl (cy 0, 401, .inl o32_1)), (k3, .inl (cy 0, 401, .inl o32_2)), (tp, .inr (6, [.int 0, .ref tb]))]) rfl rfl (by decide) (by decide) (fun r45 u_r45 H locs hw45 hP hD hS => ?_)
    try dsimp only at hw45
    have hP : va_P D vwCl [(d0, .inr (2, [.int 0, .ref d1, .ref d2, .ref d3, .ref d4, .ref d5, .ref d6, .ref d7])), (d3, .inl (cy 0, 16, .inl u_r24)), (k0, .inr (8, [.int 1, .ref k1, .ref k2, .ref k3])), (k1, .inl (cy 0, 401, .inl o32)), (k2, .inl (cy 0, 401, .inl o32_1)), (k3, .inl (cy 0, 401, .inl o32_2)), (tp, .inr (6, [.int 0, .ref tb])), (rd, .inr (3, [.int 0, .int (-1), .ref d0, .ref k0, .int 0, .int (-1)]))] H := hP
    have hD : va_D A [(d0, .inr (2, [.int 0, .ref d1, .ref d2, .ref d3, .ref d4, .ref d5, .ref d6, .ref d7])), (d3, .inl (cy 0, 16, .inl u_r24)), (k0, .inr (8, [.int 1, .ref k1, .ref k2, .ref k3])), (k1, .inl (cy 0, 401, .inl o32)), (k2, .inl (cy 0, 401, .inl o32_1)), (k3, .inl (cy 0, 401, .inl o32_2)), (tp, .inr (6, [.int 0, .ref tb])), (rd, .inr (3, [.int 0, .int (-1), .ref d0, .ref k0, .int 0, .int (-1)]))] := hD
    refine lv_if_eq (tgt := 81) hx hb dX3_read_48 (by decide) (fun c48 => ?_) (fun c48 => ?_)
    · skip
      have fc48 := q_eq (a := r45.toInt) (b := 0) c48 rfl (by decide)
      exfalso; omega
    · skip
      have fc48 := q_ne (a := r45.toInt) (b := 0) c48 rfl (by decide)
      refine lv_aload_n hx hb dX3_read_51 rfl (lv_at hl 1 rfl) ?_
      refine lv_bipush (v := 20) hx hb dX3_read_52 (by decide) ?_
      refine k_i (va_runV (As := [.int 20]) (rest := []) ⟨hx, hb, hml, hown, hts⟩ (c_isNext0 l D cy rd d0 k0 k1 k2 k3 o32 H.size hw32) (cwV 1 hts gX3_read_X3_isNext rfl rfl rfl (by decide +kernel) ⟨Nat.le_of_ble_eq_true rfl, Nat.le_of_ble_eq_true rfl⟩) (cp_v hK hN hP hD [7, 2, 3] rfl (by decide) (ci := 3) rfl rfl rfl) rfl rfl hl.1 rfl (lv_room (Nat.le_of_ble_eq_true rfl)) dX3_read_54 ⟨Nat.le_of_ble_eq_true rfl, Nat.le_of_ble_eq_true rfl⟩) hP hD hS hA [7, 2, 3] [0, 1, 4, 5, 6] (wr := [(d0, .inr (2, [.int 0, .ref d1, .ref d2, .ref d3, .ref d4, .ref d5, .ref d6, .ref d7])), (d3, .inl (cy 0, 16, .inl u_r24)), (k2, .inl (cy 0, 401, .inl o32_1)), (k3, .inl (cy 0, 401, .inl o32_2)), (tp, .inr (6, [.int 0, .ref tb]))]) rfl rfl (by decide) (by decide) (fun r54 u_r54 H locs hw54 hP hD hS => ?_)
      try dsimp only at hw54
      have hP : va_P D vwCl [(d0, .inr (2, [.int 0, .ref d1, .ref d2, .ref d3, .ref d4, .ref d5, .ref d6, .ref d7])), (d3, .inl (cy 0, 16, .inl u_r24)), (k2, .inl (cy 0, 401, .inl o32_1)), (k3, .inl (cy 0, 401, .inl o32_2)), (tp, .inr (6, [.int 0, .ref tb])), (rd, .inr (3, [.int 0, .int (-1), .ref d0, .ref k0, .int 0, .int (-1)])), (k0, .inr (8, [.int 1, .ref k1, .ref k2, .ref k3])), (k1, .inl (cy 0, 401, .inl o32))] H := hP
      have hD : va_D A [(d0, .inr (2, [.int 0, .ref d1, .ref d2, .ref d3, .ref d4, .ref d5, .ref d6, .ref d7])), (d3, .inl (cy 0, 16, .inl u_r24)), (k2, .inl (cy 0, 401, .inl o32_1)), (k3, .inl (cy 0, 401, .inl o32_2)), (tp, .inr (6, [.int 0, .ref tb])), (rd, .inr (3, [.int 0, .int (-1), .ref d0, .ref k0, .int 0, .int (-1)])), (k0, .inr (8, [.int 1, .ref k1, .ref k2, .ref k3])), (k1, .inl (cy 0, 401, .inl o32))] := hD
      refine lv_if_ne (tgt := 81) hx hb dX3_read_57 (by decide) (fun c57 => ?_) (fun c57 => ?_)
      · skip
        have fc57 := q_ne (a := r54.toInt) (b := 0) c57 rfl (by decide)
        refine lv_aload_n hx hb dX3_read_81 rfl (lv_at hl 1 rfl) ?_
        refine k_i (va_runV (As := []) (rest := []) ⟨hx, hb, hml, hown, hts⟩ (c_isSound0 l D cy rd d0 k0 H.size ) (cwV 0 hts gX3_read_X3_isSound rfl rfl rfl (by decide +kernel) ⟨Nat.le_of_ble_eq_true rfl, Nat.le_of_ble_eq_true rfl⟩) (cp_v hK hN hP hD [5] rfl (by decide) (ci := 3) rfl rfl rfl) rfl rfl hl.1 rfl (lv_room (Nat.le_of_ble_eq_true rfl)) dX3_read_82 ⟨Nat.le_of_ble_eq_true rfl, Nat.le_of_ble_eq_true rfl⟩) hP hD hS hA [5] [0, 1, 2, 3, 4, 6, 7] (wr := [(d0, .inr (2, [.int 0, .ref d1, .ref d2, .ref d3, .ref d4, .ref d5, .ref d6, .ref d7])), (d3, .inl (cy 0, 16, .inl u_r24)), (k2, .inl (cy 0, 401, .inl o32_1)), (k3, .inl (cy 0, 401, .inl o32_2)), (tp, .inr (6, [.int 0, .ref tb])), (k0, .inr (8, [.int 1, .ref k1, .ref k2, .ref k3])), (k1, .inl (cy 0, 401, .inl o32))]) rfl rfl (by decide) (by decide) (fun r82 u_r82 H locs hw82 hP hD hS => ?_)
        try dsimp only at hw82
        have hP : va_P D vwCl [(d0, .inr (2, [.int 0, .ref d1, .ref d2, .ref d3, .ref d4, .ref d5, .ref d6, .ref d7])), (d3, .inl (cy 0, 16, .inl u_r24)), (k2, .inl (cy 0, 401, .inl o32_1)), (k3, .inl (cy 0, 401, .inl o32_2)), (tp, .inr (6, [.int 0, .ref tb])), (k0, .inr (8, [.int 1, .ref k1, .ref k2, .ref k3])), (k1, .inl (cy 0, 401, .inl o32)), (rd, .inr (3, [.int 0, .int (-1), .ref d0, .ref k0, .int 0, .int (-1)]))] H := hP
        have hD : va_D A [(d0, .inr (2, [.int 0, .ref d1, .ref d2, .ref d3, .ref d4, .ref d5, .ref d6, .ref d7])), (d3, .inl (cy 0, 16, .inl u_r24)), (k2, .inl (cy 0, 401, .inl o32_1)), (k3, .inl (cy 0, 401, .inl o32_2)), (tp, .inr (6, [.int 0, .ref tb])), (k0, .inr (8, [.int 1, .ref k1, .ref k2, .ref k3])), (k1, .inl (cy 0, 401, .inl o32)), (rd, .inr (3, [.int 0, .int (-1), .ref d0, .ref k0, .int 0, .int (-1)]))] := hD
        refine lv_if_eq (tgt := 109) hx hb dX3_read_85 (by decide) (fun c85 => ?_) (fun c85 => ?_)
        · skip
          have fc85 := q_eq (a := r82.toInt) (b := 0) c85 rfl (by decide)
          exfalso; omega
        · skip
          have fc85 := q_ne (a := r82.toInt) (b := 0) c85 rfl (by decide)
          refine lv_aload_n hx hb dX3_read_88 rfl (lv_at hl 1 rfl) ?_
          refine va_get (D := D) (ci := 3) (v := .int (-1)) (C := RX3) (T := TX3) (N := 6) hx hb hts in_X3 hown hK hP 7 rfl rfl 5 (by decide) w_3 (fun _ h9 => h9) rfl dX3_read_89 ?_
          refine lv_iconst (v := (-1)) hx hb dX3_read_92 (by decide) ?_
          refine lv_icmp_eq (tgt := 109) hx hb dX3_read_93 (by decide) (fun c93 => ?_) (fun c93 => ?_)
          · skip
            exact r_v hx hb hr hlocks hK hS dX3_read_109 (u := (u_r24, o32, o32_1, o32_2)) (hP.sub (ws' := [(rd, .inr (3, [.int 0, .int (-1), .ref d0, .ref k0, .int 0, .int (-1)])), (d0, .inr (2, [.int 0, .ref d1, .ref d2, .ref d3, .ref d4, .ref d5, .ref d6, .ref d7])), (d3, .inl (cy 0, 16, .inl u_r24)), (k0, .inr (8, [.int 1, .ref k1, .ref k2, .ref k3])), (k1, .inl (cy 0, 401, .inl o32)), (k2, .inl (cy 0, 401, .inl o32_1)), (k3, .inl (cy 0, 401, .inl o32_2)), (tp, .inr (6, [.int 0, .ref tb]))]) [7, 0, 1, 5, 6, 2, 3, 4] rfl) (hD.sub (ws' := [(rd, .inr (3, [.int 0, .int (-1), .ref d0, .ref k0, .int 0, .int (-1)])), (d0, .inr (2, [.int 0, .ref d1, .ref d2, .ref d3, .ref d4, .ref d5, .ref d6, .ref d7])), (d3, .inl (cy 0, 16, .inl u_r24)), (k0, .inr (8, [.int 1, .ref k1, .ref k2, .ref k3])), (k1, .inl (cy 0, 401, .inl o32)), (k2, .inl (cy 0, 401, .inl o32_1)), (k3, .inl (cy 0, 401, .inl o32_2)), (tp, .inr (6, [.int 0, .ref tb]))]) [7, 0, 1, 5, 6, 2, 3, 4] (by decide) rfl) (trivial)
          · skip
            exact absurd c93 (by decide)
      · skip
        have fc57 := q_eq (a := r54.toInt) (b := 0) c57 rfl (by decide)
        exfalso; omega

abbrev Q_c_X9_contract (D : va_G) (cy : Nat → ClassId) (x0 : Nat) (b0 : Nat) (im : Nat) (tp : Nat) (rd : Nat) (r0 : Nat) (u0 : Nat) (t0 : Nat) (l0 : Nat) (q0 : Nat) (of : Nat) (sh : Nat) (nl : Nat) (fc : Nat) (d0 : Nat) (k0 : Nat) (d1 : Nat) (d2 : Nat) (d3 : Nat) (d4 : Nat) (d5 : Nat) (d6 : Nat) (d7 : Nat) (k1 : Nat) (k2 : Nat) (k3 : Nat) (tb : Nat) (q1 : Nat) (q2 : Nat) (q3 : Nat) (q4 : Nat) (q5 : Nat) (q6 : Nat) (q7 : Nat) : (Nat → Prop) → Array Value → State → Outcome → State → Prop := QI D cy (fun (r : Int32) (_ : Unit) => r.toInt = 0) (fun _ : Unit => [])
set_option maxHeartbeats 4000000 in
set_option maxRecDepth 100000 in
theorem c_X9_contract (l : Launch) (D : va_G) (cy : Nat → ClassId) (x0 : Nat) (b0 : Nat) (im : Nat) (tp : Nat) (rd : Nat) (r0 : Nat) (u0 : Nat) (t0 : Nat) (l0 : Nat) (q0 : Nat) (of : Nat) (sh : Nat) (nl : Nat) (fc : Nat) (d0 : Nat) (k0 : Nat) (d1 : Nat) (d2 : Nat) (d3 : Nat) (d4 : Nat) (d5 : Nat) (d6 : Nat) (d7 : Nat) (k1 : Nat) (k2 : Nat) (k3 : Nat) (tb : Nat) (q1 : Nat) (q2 : Nat) (q3 : Nat) (q4 : Nat) (q5 : Nat) (q6 : Nat) (q7 : Nat) (sz : Nat)  : Met l yX9_contract wsX9_contract ({ frames := 3, cells := 0, slots := 0, locals := 67 } : Room) (CP D cy [.ref x0] [(x0, .inr (9, [.ref b0, .ref im, .ref tp, .ref rd])), (b0, .inr (0, [.int 0, .ref r0, .ref u0, .ref t0, .ref l0, .ref q0, .ref of, .ref sh, .ref nl, .ref fc])), (rd, .inr (3, [.int 0, .int (-1), .ref d0, .ref k0, .int 0, .int 0])), (d0, .inr (2, [.int 0, .ref d1, .ref d2, .ref d3, .ref d4, .ref d5, .ref d6, .ref d7])), (d1, .inl (cy 0, 16, .inl (fun _ => 0))), (d2, .inl (cy 0, 16, .inl (fun _ => 0))), (d3, .inl (cy 0, 16, .inl (fun _ => 0))), (d4, .inl (cy 0, 64, .inl (fun _ => 0))), (d5, .inl (cy 0, 64, .inl (fun _ => 0))), (d6, .inl (cy 0, 64, .inl (fun _ => 0))), (d7, .inl (cy 0, 64, .inl (fun _ => 0))), (k0, .inr (8, [.int 0, .ref k1, .ref k2, .ref k3])), (k1, .inl (cy 0, 401, .inl (fun _ => 0))), (k2, .inl (cy 0, 401, .inl (fun _ => 0))), (k3, .inl (cy 0, 401, .inl (fun _ => 0))), (tp, .inr (6, [.int 0, .ref tb])), (q0, .inr (2, [.int 0, .ref q1, .ref q2, .ref q3, .ref q4, .ref q5, .ref q6, .ref q7])), (q1, .inl (cy 0, 16, .inl (fun _ => 0))), (q2, .inl (cy 0, 16, .inl (fun _ => 0))), (q3, .inl (cy 0, 16, .inl (fun _ => 0))), (q4, .inl (cy 0, 64, .inl (fun _ => 0))), (q5, .inl (cy 0, 64, .inl (fun _ => 0))), (q6, .inl (cy 0, 64, .inl (fun _ => 0))), (q7, .inl (cy 0, 64, .inl (fun _ => 0)))] sz) (Q_c_X9_contract D cy x0 b0 im tp rd r0 u0 t0 l0 q0 of sh nl fc d0 k0 d1 d2 d3 d4 d5 d6 d7 k1 k2 k3 tb q1 q2 q3 q4 q5 q6 q7 (va_A [(x0, .inr (9, [.ref b0, .ref im, .ref tp, .ref rd])), (b0, .inr (0, [.int 0, .ref r0, .ref u0, .ref t0, .ref l0, .ref q0, .ref of, .ref sh, .ref nl, .ref fc])), (rd, .inr (3, [.int 0, .int (-1), .ref d0, .ref k0, .int 0, .int 0])), (d0, .inr (2, [.int 0, .ref d1, .ref d2, .ref d3, .ref d4, .ref d5, .ref d6, .ref d7])), (d1, .inl (cy 0, 16, .inl (fun _ => 0))), (d2, .inl (cy 0, 16, .inl (fun _ => 0))), (d3, .inl (cy 0, 16, .inl (fun _ => 0))), (d4, .inl (cy 0, 64, .inl (fun _ => 0))), (d5, .inl (cy 0, 64, .inl (fun _ => 0))), (d6, .inl (cy 0, 64, .inl (fun _ => 0))), (d7, .inl (cy 0, 64, .inl (fun _ => 0))), (k0, .inr (8, [.int 0, .ref k1, .ref k2, .ref k3])), (k1, .inl (cy 0, 401, .inl (fun _ => 0))), (k2, .inl (cy 0, 401, .inl (fun _ => 0))), (k3, .inl (cy 0, 401, .inl (fun _ => 0))), (tp, .inr (6, [.int 0, .ref tb])), (q0, .inr (2, [.int 0, .ref q1, .ref q2, .ref q3, .ref q4, .ref q5, .ref q6, .ref q7])), (q1, .inl (cy 0, 16, .inl (fun _ => 0))), (q2, .inl (cy 0, 16, .inl (fun _ => 0))), (q3, .inl (cy 0, 16, .inl (fun _ => 0))), (q4, .inl (cy 0, 64, .inl (fun _ => 0))), (q5, .inl (cy 0, 64, .inl (fun _ => 0))), (q6, .inl (cy 0, 64, .inl (fun _ => 0))), (q7, .inl (cy 0, 64, .inl (fun _ => 0)))] sz)) 0 0 (va_A [(x0, .inr (9, [.ref b0, .ref im, .ref tp, .ref rd])), (b0, .inr (0, [.int 0, .ref r0, .ref u0, .ref t0, .ref l0, .ref q0, .ref of, .ref sh, .ref nl, .ref fc])), (rd, .inr (3, [.int 0, .int (-1), .ref d0, .ref k0, .int 0, .int 0])), (d0, .inr (2, [.int 0, .ref d1, .ref d2, .ref d3, .ref d4, .ref d5, .ref d6, .ref d7])), (d1, .inl (cy 0, 16, .inl (fun _ => 0))), (d2, .inl (cy 0, 16, .inl (fun _ => 0))), (d3, .inl (cy 0, 16, .inl (fun _ => 0))), (d4, .inl (cy 0, 64, .inl (fun _ => 0))), (d5, .inl (cy 0, 64, .inl (fun _ => 0))), (d6, .inl (cy 0, 64, .inl (fun _ => 0))), (d7, .inl (cy 0, 64, .inl (fun _ => 0))), (k0, .inr (8, [.int 0, .ref k1, .ref k2, .ref k3])), (k1, .inl (cy 0, 401, .inl (fun _ => 0))), (k2, .inl (cy 0, 401, .inl (fun _ => 0))), (k3, .inl (cy 0, 401, .inl (fun _ => 0))), (tp, .inr (6, [.int 0, .ref tb])), (q0, .inr (2, [.int 0, .ref q1, .ref q2, .ref q3, .ref q4, .ref q5, .ref q6, .ref q7])), (q1, .inl (cy 0, 16, .inl (fun _ => 0))), (q2, .inl (cy 0, 16, .inl (fun _ => 0))), (q3, .inl (cy 0, 16, .inl (fun _ => 0))), (q4, .inl (cy 0, 64, .inl (fun _ => 0))), (q5, .inl (cy 0, 64, .inl (fun _ => 0))), (q6, .inl (cy 0, 64, .inl (fun _ => 0))), (q7, .inl (cy 0, 64, .inl (fun _ => 0)))] sz) := by
  refine Met.go (Qc := Q_c_X9_contract D cy x0 b0 im tp rd r0 u0 t0 l0 q0 of sh nl fc d0 k0 d1 d2 d3 d4 d5 d6 d7 k1 k2 k3 tb q1 q2 q3 q4 q5 q6 q7) (cc := cX9_contract) (maxL := 1) (ret := (some .int)) (by decide) rfl (Nat.le_of_ble_eq_true rfl) ?_
  intro p e s m below meth c hx hb hr hts hown hlocks hin hml hK hN A hA hD hP hS ls hl hsz
  have hl : lv_has ls 1 [(0, .ref x0)] := hl
  have in_X9 : ∀ w ∈ wsX90, w ∈ wsX9_contract := fun _ h => List.mem_cons_of_mem _ (List.mem_append_left _ (List.mem_append_left _ (List.mem_append_left _ (List.mem_append_left _ (List.mem_append_left _ ((List.mem_append_right _ h)))))))
  have w_1 := hts (.fieldLink RX9 30 "SleepingCars" "reader" "LSleepingCars$Reader;") (by decide +kernel)
  have w_2 := hts (.fieldLink RX9 23 "SleepingCars" "tape" "LSleepingCars$Tape;") (by decide +kernel)
  have w_3 := hts (.instanceMethod yX3_read) (by decide +kernel)
  have in_X6 : ∀ w ∈ wsX60, w ∈ wsX9_contract := fun _ h => List.mem_cons_of_mem _ (List.mem_append_left _ (List.mem_append_left _ (List.mem_append_left _ (List.mem_append_left _ ((List.mem_append_right _ h))))))
  have w_5 := hts (.fieldLink RX9 196 "SleepingCars$Tape" "size" "I") (by decide +kernel)
  have in_X3 : ∀ w ∈ wsX30, w ∈ wsX9_contract := fun _ h => List.mem_cons_of_mem _ (List.mem_append_left _ (List.mem_append_left _ (List.mem_append_left _ ((List.mem_append_right _ h)))))
  have w_7 := hts (.fieldLink RX9 204 "SleepingCars$Reader" "faultKind" "I") (by decide +kernel)
  have w_8 := hts (.fieldLink RX9 10 "SleepingCars" "book" "LSleepingCars$Book;") (by decide +kernel)
  have in_X0 : ∀ w ∈ wsX00, w ∈ wsX9_contract := fun _ h => List.mem_cons_of_mem _ (List.mem_append_left _ (List.mem_append_left _ ((List.mem_append_right _ h))))
  have w_10 := hts (.fieldLink RX9 207 "SleepingCars$Book" "rates" "LSleepingCars$Rates;") (by decide +kernel)
  have w_11 := hts (.fieldLink RX9 211 "SleepingCars$Reader" "draft" "LSleepingCars$Rates;") (by decide +kernel)
  have w_12 := hts (.instanceMethod yX2_copyFrom) (by decide +kernel)
  have in_X2 : ∀ w ∈ wsX20, w ∈ wsX9_contract := fun _ h => List.mem_cons_of_mem _ (List.mem_append_left _ ((List.mem_append_right _ h)))
  have w_14 := hts (.fieldLink RX9 220 "SleepingCars$Rates" "lines" "I") (by decide +kernel)
  obtain ⟨H, eH⟩ : ∃ H : Heap, H = s.heap := ⟨_, rfl⟩
  obtain ⟨locs, eL⟩ : ∃ L : List Loc, L = [] := ⟨_, rfl⟩
  rw [← eL]
  rw [← eL] at hS
  have hP : va_P D vwCl [(x0, .inr (9, [.ref b0, .ref im, .ref tp, .ref rd])), (b0, .inr (0, [.int 0, .ref r0, .ref u0, .ref t0, .ref l0, .ref q0, .ref of, .ref sh, .ref nl, .ref fc])), (rd, .inr (3, [.int 0, .int (-1), .ref d0, .ref k0, .int 0, .int 0])), (d0, .inr (2, [.int 0, .ref d1, .ref d2, .ref d3, .ref d4, .ref d5, .ref d6, .ref d7])), (d1, .inl (cy 0, 16, .inl (fun _ => 0))), (d2, .inl (cy 0, 16, .inl (fun _ => 0))), (d3, .inl (cy 0, 16, .inl (fun _ => 0))), (d4, .inl (cy 0, 64, .inl (fun _ => 0))), (d5, .inl (cy 0, 64, .inl (fun _ => 0))), (d6, .inl (cy 0, 64, .inl (fun _ => 0))), (d7, .inl (cy 0, 64, .inl (fun _ => 0))), (k0, .inr (8, [.int 0, .ref k1, .ref k2, .ref k3])), (k1, .inl (cy 0, 401, .inl (fun _ => 0))), (k2, .inl (cy 0, 401, .inl (fun _ => 0))), (k3, .inl (cy 0, 401, .inl (fun _ => 0))), (tp, .inr (6, [.int 0, .ref tb])), (q0, .inr (2, [.int 0, .ref q1, .ref q2, .ref q3, .ref q4, .ref q5, .ref q6, .ref q7])), (q1, .inl (cy 0, 16, .inl (fun _ => 0))), (q2, .inl (cy 0, 16, .inl (fun _ => 0))), (q3, .inl (cy 0, 16, .inl (fun _ => 0))), (q4, .inl (cy 0, 64, .inl (fun _ => 0))), (q5, .inl (cy 0, 64, .inl (fun _ => 0))), (q6, .inl (cy 0, 64, .inl (fun _ => 0))), (q7, .inl (cy 0, 64, .inl (fun _ => 0)))] H := by rw [eH]; exact hP
  have hS : va_S A s.heap H locs := by rw [eH]; exact hS
  refine W.heapEq eH ?_
  clear eH eL
  refine lv_aload_n hx hb dX9_contract_0 rfl (lv_at hl 0 rfl) ?_
  refine va_get (D := D) (ci := 9) (v := .ref rd) (C := RX9) (T := TX9) (N := 4) hx hb hts in_X9 hown hK hP 0 rfl rfl 3 (by decide) w_1 (fun _ h9 => h9) rfl dX9_contract_1 ?_
  refine lv_aload_n hx hb dX9_contract_4 rfl (lv_at hl 0 rfl) ?_
  refine va_get (D := D) (ci := 9) (v := .ref tp) (C := RX9) (T := TX9) (N := 4) hx hb hts in_X9 hown hK hP 0 rfl rfl 2 (by decide) w_2 (fun _ h9 => h9) rfl dX9_contract_5 ?_
  refine k_v (va_runV (As := [.ref tp]) (rest := []) ⟨hx, hb, hml, hown, hts⟩ (c_read0 l D cy rd tp tb d0 d1 d2 d3 d4 d5 d6 d7 k0 k1 k2 k3 H.size ) (cwV 1 hts gX9_contract_X3_read rfl rfl rfl (by decide +kernel) ⟨Nat.le_of_ble_eq_true rfl, Nat.le_of_ble_eq_true rfl⟩) (cp_v hK hN hP hD [2, 3, 6, 11, 12, 13, 14, 15] rfl (by decide) (ci := 3) rfl rfl rfl) rfl rfl hl.1 rfl (lv_room (Nat.le_of_ble_eq_true rfl)) dX9_contract_8 ⟨Nat.le_of_ble_eq_true rfl, Nat.le_of_ble_eq_true rfl⟩) hP hD hS hA [2, 3, 6, 11, 12, 13, 14, 15] [0, 1, 4, 5, 7, 8, 9, 10, 16, 17, 18, 19, 20, 21, 22, 23] (wr := [(x0, .inr (9, [.ref b0, .ref im, .ref tp, .ref rd])), (b0, .inr (0, [.int 0, .ref r0, .ref u0, .ref t0, .ref l0, .ref q0, .ref of, .ref sh, .ref nl, .ref fc])), (d1, .inl (cy 0, 16, .inl (fun _ => 0))), (d2, .inl (cy 0, 16, .inl (fun _ => 0))), (d4, .inl (cy 0, 64, .inl (fun _ => 0))), (d5, .inl (cy 0, 64, .inl (fun _ => 0))), (d6, .inl (cy 0, 64, .inl (fun _ => 0))), (d7, .inl (cy 0, 64, .inl (fun _ => 0))), (q0, .inr (2, [.int 0, .ref q1, .ref q2, .ref q3, .ref q4, .ref q5, .ref q6, .ref q7])), (q1, .inl (cy 0, 16, .inl (fun _ => 0))), (q2, .inl (cy 0, 16, .inl (fun _ => 0))), (q3, .inl (cy 0, 16, .inl (fun _ => 0))), (q4, .inl (cy 0, 64, .inl (fun _ => 0))), (q5, .inl (cy 0, 64, .inl (fun _ => 0))), (q6, .inl (cy 0, 64, .inl (fun _ => 0))), (q7, .inl (cy 0, 64, .inl (fun _ => 0)))]) rfl rfl (by decide) (by decide) (fun u_r8 H locs hw8 hP hD hS => ?_)
  obtain ⟨o8, o8_1, o8_2, o8_3⟩ := u_r8
  try dsimp only at hw8
  have hP : va_P D vwCl [(x0, .inr (9, [.ref b0, .ref im, .ref tp, .ref rd])), (b0, .inr (0, [.int 0, .ref r0, .ref u0, .ref t0, .ref l0, .ref q0, .ref of, .ref sh, .ref nl, .ref fc])), (d1, .inl (cy 0, 16, .inl (fun _ => 0))), (d2, .inl (cy 0, 16, .inl (fun _ => 0))), (d4, .inl (cy 0, 64, .inl (fun _ => 0))), (d5, .inl (cy 0, 64, .inl (fun _ => 0))), (d6, .inl (cy 0, 64, .inl (fun _ => 0))), (d7, .inl (cy 0, 64, .inl (fun _ => 0))), (q0, .inr (2, [.int 0, .ref q1, .ref q2, .ref q3, .ref q4, .ref q5, .ref q6, .ref q7])), (q1, .inl (cy 0, 16, .inl (fun _ => 0))), (q2, .inl (cy 0, 16, .inl (fun _ => 0))), (q3, .inl (cy 0, 16, .inl (fun _ => 0))), (q4, .inl (cy 0, 64, .inl (fun _ => 0))), (q5, .inl (cy 0, 64, .inl (fun _ => 0))), (q6, .inl (cy 0, 64, .inl (fun _ => 0))), (q7, .inl (cy 0, 64, .inl (fun _ => 0))), (rd, .inr (3, [.int 0, .int (-1), .ref d0, .ref k0, .int 0, .int (-1)])), (d0, .inr (2, [.int 0, .ref d1, .ref d2, .ref d3, .ref d4, .ref d5, .ref d6, .ref d7])), (d3, .inl (cy 0, 16, .inl o8)), (k0, .inr (8, [.int 1, .ref k1, .ref k2, .ref k3])), (k1, .inl (cy 0, 401, .inl o8_1)), (k2, .inl (cy 0, 401, .inl o8_2)), (k3, .inl (cy 0, 401, .inl o8_3)), (tp, .inr (6, [.int 0, .ref tb]))] H := hP
  have hD : va_D A [(x0, .inr (9, [.ref b0, .ref im, .ref tp, .ref rd])), (b0, .inr (0, [.int 0, .ref r0, .ref u0, .ref t0, .ref l0, .ref q0, .ref of, .ref sh, .ref nl, .ref fc])), (d1, .inl (cy 0, 16, .inl (fun _ => 0))), (d2, .inl (cy 0, 16, .inl (fun _ => 0))), (d4, .inl (cy 0, 64, .inl (fun _ => 0))), (d5, .inl (cy 0, 64, .inl (fun _ => 0))), (d6, .inl (cy 0, 64, .inl (fun _ => 0))), (d7, .inl (cy 0, 64, .inl (fun _ => 0))), (q0, .inr (2, [.int 0, .ref q1, .ref q2, .ref q3, .ref q4, .ref q5, .ref q6, .ref q7])), (q1, .inl (cy 0, 16, .inl (fun _ => 0))), (q2, .inl (cy 0, 16, .inl (fun _ => 0))), (q3, .inl (cy 0, 16, .inl (fun _ => 0))), (q4, .inl (cy 0, 64, .inl (fun _ => 0))), (q5, .inl (cy 0, 64, .inl (fun _ => 0))), (q6, .inl (cy 0, 64, .inl (fun _ => 0))), (q7, .inl (cy 0, 64, .inl (fun _ => 0))), (rd, .inr (3, [.int 0, .int (-1), .ref d0, .ref k0, .int 0, .int (-1)])), (d0, .inr (2, [.int 0, .ref d1, .ref d2, .ref d3, .ref d4, .ref d5, .ref d6, .ref d7])), (d3, .inl (cy 0, 16, .inl o8)), (k0, .inr (8, [.int 1, .ref k1, .ref k2, .ref k3])), (k1, .inl (cy 0, 401, .inl o8_1)), (k2, .inl (cy 0, 401, .inl o8_2)), (k3, .inl (cy 0, 401, .inl o8_3)), (tp, .inr (6, [.int 0, .ref tb]))] := hD
  refine lv_aload_n hx hb dX9_contract_11 rfl (lv_at hl 0 rfl) ?_
  refine va_get (D := D) (ci := 9) (v := .ref tp) (C := RX9) (T := TX9) (N := 4) hx hb hts in_X9 hown hK hP 0 rfl rfl 2 (by decide) w_2 (fun _ h9 => h9) rfl dX9_contract_12 ?_
  refine lv_iconst (v := 0) hx hb dX9_contract_15 (by decide) ?_
  refine va_put (D := D) (ci := 6) (v := .int 0) (ty := .int) (C := RX6) (T := TX6) (N := 2) hx hb hts in_X6 tyX6 tyX6_ok nmX6 hown hK hP hD hS 23 rfl rfl 0 (by decide) w_5 (fun _ h9 => h9) rfl (by decide +kernel) rfl rfl (Nat.le_of_ble_eq_true rfl) dX9_contract_16 (fun H locs hP hD hS => ?_)
  have hP : va_P D vwCl [(x0, .inr (9, [.ref b0, .ref im, .ref tp, .ref rd])), (b0, .inr (0, [.int 0, .ref r0, .ref u0, .ref t0, .ref l0, .ref q0, .ref of, .ref sh, .ref nl, .ref fc])), (d1, .inl (cy 0, 16, .inl (fun _ => 0))), (d2, .inl (cy 0, 16, .inl (fun _ => 0))), (d4, .inl (cy 0, 64, .inl (fun _ => 0))), (d5, .inl (cy 0, 64, .inl (fun _ => 0))), (d6, .inl (cy 0, 64, .inl (fun _ => 0))), (d7, .inl (cy 0, 64, .inl (fun _ => 0))), (q0, .inr (2, [.int 0, .ref q1, .ref q2, .ref q3, .ref q4, .ref q5, .ref q6, .ref q7])), (q1, .inl (cy 0, 16, .inl (fun _ => 0))), (q2, .inl (cy 0, 16, .inl (fun _ => 0))), (q3, .inl (cy 0, 16, .inl (fun _ => 0))), (q4, .inl (cy 0, 64, .inl (fun _ => 0))), (q5, .inl (cy 0, 64, .inl (fun _ => 0))), (q6, .inl (cy 0, 64, .inl (fun _ => 0))), (q7, .inl (cy 0, 64, .inl (fun _ => 0))), (rd, .inr (3, [.int 0, .int (-1), .ref d0, .ref k0, .int 0, .int (-1)])), (d0, .inr (2, [.int 0, .ref d1, .ref d2, .ref d3, .ref d4, .ref d5, .ref d6, .ref d7])), (d3, .inl (cy 0, 16, .inl o8)), (k0, .inr (8, [.int 1, .ref k1, .ref k2, .ref k3])), (k1, .inl (cy 0, 401, .inl o8_1)), (k2, .inl (cy 0, 401, .inl o8_2)), (k3, .inl (cy 0, 401, .inl o8_3)), (tp, .inr (6, [.int 0, .ref tb]))] H := hP
  have hD : va_D A [(x0, .inr (9, [.ref b0, .ref im, .ref tp, .ref rd])), (b0, .inr (0, [.int 0, .ref r0, .ref u0, .ref t0, .ref l0, .ref q0, .ref of, .ref sh, .ref nl, .ref fc])), (d1, .inl (cy 0, 16, .inl (fun _ => 0))), (d2, .inl (cy 0, 16, .inl (fun _ => 0))), (d4, .inl (cy 0, 64, .inl (fun _ => 0))), (d5, .inl (cy 0, 64, .inl (fun _ => 0))), (d6, .inl (cy 0, 64, .inl (fun _ => 0))), (d7, .inl (cy 0, 64, .inl (fun _ => 0))), (q0, .inr (2, [.int 0, .ref q1, .ref q2, .ref q3, .ref q4, .ref q5, .ref q6, .ref q7])), (q1, .inl (cy 0, 16, .inl (fun _ => 0))), (q2, .inl (cy 0, 16, .inl (fun _ => 0))), (q3, .inl (cy 0, 16, .inl (fun _ => 0))), (q4, .inl (cy 0, 64, .inl (fun _ => 0))), (q5, .inl (cy 0, 64, .inl (fun _ => 0))), (q6, .inl (cy 0, 64, .inl (fun _ => 0))), (q7, .inl (cy 0, 64, .inl (fun _ => 0))), (rd, .inr (3, [.int 0, .int (-1), .ref d0, .ref k0, .int 0, .int (-1)])), (d0, .inr (2, [.int 0, .ref d1, .ref d2, .ref d3, .ref d4, .ref d5, .ref d6, .ref d7])), (d3, .inl (cy 0, 16, .inl o8)), (k0, .inr (8, [.int 1, .ref k1, .ref k2, .ref k3])), (k1, .inl (cy 0, 401, .inl o8_1)), (k2, .inl (cy 0, 401, .inl o8_2)), (k3, .inl (cy 0, 401, .inl o8_3)), (tp, .inr (6, [.int 0, .ref tb]))] := hD
  refine lv_aload_n hx hb dX9_contract_19 rfl (lv_at hl 0 rfl) ?_
  refine va_get (D := D) (ci := 9) (v := .ref rd) (C := RX9) (T := TX9) (N := 4) hx hb hts in_X9 hown hK hP 0 rfl rfl 3 (by decide) w_1 (fun _ h9 => h9) rfl dX9_contract_20 ?_
  refine va_get (D := D) (ci := 3) (v := .int 0) (C := RX3) (T := TX3) (N := 6) hx hb hts in_X3 hown hK hP 16 rfl rfl 0 (by decide) w_7 (fun _ h9 => h9) rfl dX9_contract_23 ?_
  refine lv_if_eq (tgt := 31) hx hb dX9_contract_26 (by decide) (fun c26 => ?_) (fun c26 => ?_)
  · skip
    refine lv_aload_n hx hb dX9_contract_31 rfl (lv_at hl 0 rfl) ?_
    refine va_get (D := D) (ci := 9) (v := .ref b0) (C := RX9) (T := TX9) (N := 4) hx hb hts in_X9 hown hK hP 0 rfl rfl 0 (by decide) w_8 (fun _ h9 => h9) rfl dX9_contract_32 ?_
    refine va_get (D := D) (ci := 0) (v := .ref q0) (C := RX0) (T := TX0) (N := 10) hx hb hts in_X0 hown hK hP 1 rfl rfl 5 (by decide) w_10 (fun _ h9 => h9) rfl dX9_contract_35 ?_
    refine lv_aload_n hx hb dX9_contract_38 rfl (lv_at hl 0 rfl) ?_
    refine va_get (D := D) (ci := 9) (v := .ref rd) (C := RX9) (T := TX9) (N := 4) hx hb hts in_X9 hown hK hP 0 rfl rfl 3 (by decide) w_1 (fun _ h9 => h9) rfl dX9_contract_39 ?_
    refine va_get (D := D) (ci := 3) (v := .ref d0) (C := RX3) (T := TX3) (N := 6) hx hb hts in_X3 hown hK hP 16 rfl rfl 2 (by decide) w_11 (fun _ h9 => h9) rfl dX9_contract_42 ?_
    refine k_v (va_runV (As := [.ref d0]) (rest := []) ⟨hx, hb, hml, hown, hts⟩ (c_X2_copyFrom l D cy q0 q1 q2 q3 q4 q5 q6 q7 d0 d1 d2 d3 d4 d5 d6 d7 0 0 (fun _ => 0) (fun _ => 0) (fun _ => 0) (fun _ => 0) (fun _ => 0) (fun _ => 0) (fun _ => 0) (fun _ => 0) (fun _ => 0) o8 (fun _ => 0) (fun _ => 0) (fun _ => 0) (fun _ => 0) H.size ) (cwV 1 hts gX9_contract_X2_copyFrom rfl rfl rfl (by decide +kernel) ⟨Nat.le_of_ble_eq_true rfl, Nat.le_of_ble_eq_true rfl⟩) (cp_v hK hN hP hD [8, 9, 10, 11, 12, 13, 14, 15, 17, 2, 3, 18, 4, 5, 6, 7] rfl (by decide) (ci := 2) rfl rfl rfl) rfl rfl hl.1 rfl (lv_room (Nat.le_of_ble_eq_true rfl)) dX9_contract_45 ⟨Nat.le_of_ble_eq_true rfl, Nat.le_of_ble_eq_true rfl⟩) hP hD hS hA [8, 9, 10, 11, 12, 13, 14, 15, 17, 2, 3, 18, 4, 5, 6, 7] [0, 1, 16, 19, 20, 21, 22, 23] (wr := [(x0, .inr (9, [.ref b0, .ref im, .ref tp, .ref rd])), (b0, .inr (0, [.int 0, .ref r0, .ref u0, .ref t0, .ref l0, .ref q0, .ref of, .ref sh, .ref nl, .ref fc])), (rd, .inr (3, [.int 0, .int (-1), .ref d0, .ref k0, .int 0, .int (-1)])), (k0, .inr (8, [.int 1, .ref k1, .ref k2, .ref k3])), (k1, .inl (cy 0, 401, .inl o8_1)), (k2, .inl (cy 0, 401, .inl o8_2)), (k3, .inl (cy 0, 401, .inl o8_3)), (tp, .inr (6, [.int 0, .ref tb]))]) rfl rfl (by decide) (by decide) (fun u_r45 H locs hw45 hP hD hS => ?_)
    obtain ⟨o45, o45_1, o45_2, o45_3, o45_4, o45_5, o45_6⟩ := u_r45
    try dsimp only at hw45
    have hP : va_P D vwCl [(x0, .inr (9, [.ref b0, .ref im, .ref tp, .ref rd])), (b0, .inr (0, [.int 0, .ref r0, .ref u0, .ref t0, .ref l0, .ref q0, .ref of, .ref sh, .ref nl, .ref fc])), (rd, .inr (3, [.int 0, .int (-1), .ref d0, .ref k0, .int 0, .int (-1)])), (k0, .inr (8, [.int 1, .ref k1, .ref k2, .ref k3])), (k1, .inl (cy 0, 401, .inl o8_1)), (k2, .inl (cy 0, 401, .inl o8_2)), (k3, .inl (cy 0, 401, .inl o8_3)), (tp, .inr (6, [.int 0, .ref tb])), (q0, .inr (2, [.int 0, .ref q1, .ref q2, .ref q3, .ref q4, .ref q5, .ref q6, .ref q7])), (q1, .inl (cy 0, 16, .inl o45)), (q2, .inl (cy 0, 16, .inl o45_1)), (q3, .inl (cy 0, 16, .inl o45_2)), (q4, .inl (cy 0, 64, .inl o45_3)), (q5, .inl (cy 0, 64, .inl o45_4)), (q6, .inl (cy 0, 64, .inl o45_5)), (q7, .inl (cy 0, 64, .inl o45_6)), (d0, .inr (2, [.int 0, .ref d1, .ref d2, .ref d3, .ref d4, .ref d5, .ref d6, .ref d7])), (d1, .inl (cy 0, 16, .inl (fun _ => 0))), (d2, .inl (cy 0, 16, .inl (fun _ => 0))), (d3, .inl (cy 0, 16, .inl o8)), (d4, .inl (cy 0, 64, .inl (fun _ => 0))), (d5, .inl (cy 0, 64, .inl (fun _ => 0))), (d6, .inl (cy 0, 64, .inl (fun _ => 0))), (d7, .inl (cy 0, 64, .inl (fun _ => 0)))] H := hP
    have hD : va_D A [(x0, .inr (9, [.ref b0, .ref im, .ref tp, .ref rd])), (b0, .inr (0, [.int 0, .ref r0, .ref u0, .ref t0, .ref l0, .ref q0, .ref of, .ref sh, .ref nl, .ref fc])), (rd, .inr (3, [.int 0, .int (-1), .ref d0, .ref k0, .int 0, .int (-1)])), (k0, .inr (8, [.int 1, .ref k1, .ref k2, .ref k3])), (k1, .inl (cy 0, 401, .inl o8_1)), (k2, .inl (cy 0, 401, .inl o8_2)), (k3, .inl (cy 0, 401, .inl o8_3)), (tp, .inr (6, [.int 0, .ref tb])), (q0, .inr (2, [.int 0, .ref q1, .ref q2, .ref q3, .ref q4, .ref q5, .ref q6, .ref q7])), (q1, .inl (cy 0, 16, .inl o45)), (q2, .inl (cy 0, 16, .inl o45_1)), (q3, .inl (cy 0, 16, .inl o45_2)), (q4, .inl (cy 0, 64, .inl o45_3)), (q5, .inl (cy 0, 64, .inl o45_4)), (q6, .inl (cy 0, 64, .inl o45_5)), (q7, .inl (cy 0, 64, .inl o45_6)), (d0, .inr (2, [.int 0, .ref d1, .ref d2, .ref d3, .ref d4, .ref d5, .ref d6, .ref d7])), (d1, .inl (cy 0, 16, .inl (fun _ => 0))), (d2, .inl (cy 0, 16, .inl (fun _ => 0))), (d3, .inl (cy 0, 16, .inl o8)), (d4, .inl (cy 0, 64, .inl (fun _ => 0))), (d5, .inl (cy 0, 64, .inl (fun _ => 0))), (d6, .inl (cy 0, 64, .inl (fun _ => 0))), (d7, .inl (cy 0, 64, .inl (fun _ => 0)))] := hD
    refine lv_aload_n hx hb dX9_contract_48 rfl (lv_at hl 0 rfl) ?_
    refine va_get (D := D) (ci := 9) (v := .ref b0) (C := RX9) (T := TX9) (N := 4) hx hb hts in_X9 hown hK hP 0 rfl rfl 0 (by decide) w_8 (fun _ h9 => h9) rfl dX9_contract_49 ?_
    refine va_get (D := D) (ci := 0) (v := .ref q0) (C := RX0) (T := TX0) (N := 10) hx hb hts in_X0 hown hK hP 1 rfl rfl 5 (by decide) w_10 (fun _ h9 => h9) rfl dX9_contract_52 ?_
    refine va_get (D := D) (ci := 2) (v := .int 0) (C := RX2) (T := TX2) (N := 8) hx hb hts in_X2 hown hK hP 8 rfl rfl 0 (by decide) w_14 (fun _ h9 => h9) rfl dX9_contract_55 ?_
    exact r_i hx hb hr hlocks hK hS dX9_contract_58 (u := ()) (hP.sub (ws' := []) [] rfl) (hD.sub (ws' := []) [] (by decide) rfl) (by decide)
  · skip
    exact absurd c26 (by decide)
