abbrev Q_c_X10_in (D : va_G) (cy : Nat → ClassId) (E : EN) (v : Int32) (lo : Int32) (hi : Int32) (a : Int) (b : Int) : (Nat → Prop) → Array Value → State → Outcome → State → Prop := QI D cy (fun (r : Int32) (_ : Unit) => (r.toInt = 1 ∧ (a ≤ v.toInt ∧ v.toInt ≤ b)) ∨ (r.toInt = 0 ∧ ¬ (a ≤ v.toInt ∧ v.toInt ≤ b))) (fun _ : Unit => [])
set_option maxHeartbeats 4000000 in
set_option maxRecDepth 100000 in
theorem c_X10_in (l : Launch) (D : va_G) (cy : Nat → ClassId) (E : EN) (v : Int32) (lo : Int32) (hi : Int32) (a : Int) (b : Int) (sz : Nat) (ha : lo.toInt = a) (hb9 : hi.toInt = b) : Met l yX10_in wsX10_in ({ frames := 0, cells := 0, slots := 0, locals := 0 } : Room) (CP D cy E [.int v, .int lo, .int hi] [] sz) (Q_c_X10_in D cy E v lo hi a b (va_A [] sz)) 0 0 (va_A [] sz) := by
  refine Met.go (Qc := Q_c_X10_in D cy E v lo hi a b) (cc := cX10_in) (maxL := 3) (ret := (some .boolean)) (by decide) rfl (Nat.le_of_ble_eq_true rfl) ?_
  intro p e s m below meth c hx hb hr hts hown hlocks hin hml hK hN A hA hAB hD hP hS ls hl hsz
  have hl : lv_has ls 3 [(0, .int v), (1, .int lo), (2, .int hi)] := hl
  obtain ⟨H, eH⟩ : ∃ H : Heap, H = s.heap := ⟨_, rfl⟩
  obtain ⟨locs, eL⟩ : ∃ L : List Loc, L = [] := ⟨_, rfl⟩
  rw [← eL]
  rw [← eL] at hS
  have hP : va_P D vwCl [] H := by rw [eH]; exact hP
  have hS : va_S A s.heap H locs := by rw [eH]; exact hS
  refine W.heapEq eH ?_
  clear eH eL
  refine lv_iload_n hx hb dX10_in_0 rfl (lv_at hl 0 rfl) ?_
  refine lv_iload_n hx hb dX10_in_1 rfl (lv_at hl 1 rfl) ?_
  refine lv_icmp_lt (tgt := 14) hx hb dX10_in_2 (by decide) (fun c2 => ?_) (fun c2 => ?_)
  · skip
    have fc2 := q_lt (a := v.toInt) (b := lo.toInt) c2 rfl rfl
    refine lv_iconst (v := 0) hx hb dX10_in_14 (by decide) ?_
    exact r_z hx hb hr hlocks hK hS dX10_in_15 (by decide) (u := ()) hP hD (by first | exact Or.inl ⟨by decide, by omega⟩ | exact Or.inr ⟨by decide, by omega⟩)
  · skip
    have fc2 := q_nlt (a := v.toInt) (b := lo.toInt) c2 rfl rfl
    refine lv_iload_n hx hb dX10_in_5 rfl (lv_at hl 0 rfl) ?_
    refine lv_iload_n hx hb dX10_in_6 rfl (lv_at hl 2 rfl) ?_
    refine lv_icmp_gt (tgt := 14) hx hb dX10_in_7 (by decide) (fun c7 => ?_) (fun c7 => ?_)
    · skip
      have fc7 := q_lt (a := hi.toInt) (b := v.toInt) c7 rfl rfl
      refine lv_iconst (v := 0) hx hb dX10_in_14 (by decide) ?_
      exact r_z hx hb hr hlocks hK hS dX10_in_15 (by decide) (u := ()) hP hD (by first | exact Or.inl ⟨by decide, by omega⟩ | exact Or.inr ⟨by decide, by omega⟩)
    · skip
      have fc7 := q_nlt (a := hi.toInt) (b := v.toInt) c7 rfl rfl
      refine lv_iconst (v := 1) hx hb dX10_in_10 (by decide) ?_
      refine lv_goto (tgt := 15) hx hb dX10_in_11 (by decide) ?_
      exact r_z hx hb hr hlocks hK hS dX10_in_15 (by decide) (u := ()) hP hD (by first | exact Or.inl ⟨by decide, by omega⟩ | exact Or.inr ⟨by decide, by omega⟩)

abbrev Q_c_move_stops (D : va_G) (cy : Nat → ClassId) (E : EN) (h0 : Nat) (f : Nat → Int32) (fr : Int32) (to : Int32) (a : Int) (b : Int) : (Nat → Prop) → Array Value → State → Outcome → State → Prop := QV D cy (fun (g : (Nat → Int32)) => ((∀ j : Nat, j < 1 → g (1 * b.toNat + j) = f (1 * a.toNat + j)) ∧ (∀ j : Nat, (j < 1 * b.toNat ∨ 1 * b.toNat + 1 ≤ j) → g j = f j)) ∧ AllI g 4 0 10) (fun g : (Nat → Int32) => [Prod.mk h0 (Sum.inl (Prod.mk (cy 0) (Prod.mk 4 (Sum.inl g))))])
set_option maxHeartbeats 4000000 in
set_option maxRecDepth 100000 in
theorem c_move_stops (l : Launch) (D : va_G) (cy : Nat → ClassId) (E : EN) (h0 : Nat) (f : Nat → Int32) (fr : Int32) (to : Int32) (a : Int) (b : Int) (sz : Nat) (ha : fr.toInt = a) (hb9 : to.toInt = b) (hfr : 0 ≤ a ∧ a ≤ 3) (hto : 0 ≤ b ∧ b ≤ 3) (hab : a ≠ b) (hv_f : AllI f 4 0 10) : Met l yX10_move wsX10_move ({ frames := 0, cells := 0, slots := 0, locals := 0 } : Room) (CP D cy E [.ref h0, .int 1, .int fr, .int to] [Prod.mk h0 (Sum.inl (Prod.mk (cy 0) (Prod.mk 4 (Sum.inl f))))] sz) (Q_c_move_stops D cy E h0 f fr to a b (va_A [Prod.mk h0 (Sum.inl (Prod.mk (cy 0) (Prod.mk 4 (Sum.inl f))))] sz)) 0 0 (va_A [Prod.mk h0 (Sum.inl (Prod.mk (cy 0) (Prod.mk 4 (Sum.inl f))))] sz) := by
  refine Met.go (Qc := Q_c_move_stops D cy E h0 f fr to a b) (cc := cX10_move) (maxL := 5) (ret := none) (by decide) rfl (Nat.le_of_ble_eq_true rfl) ?_
  intro p e s m below meth c hx hb hr hts hown hlocks hin hml hK hN A hA hAB hD hP hS ls hl hsz
  have hl : lv_has ls 5 [(0, .ref h0), (1, .int 1), (2, .int fr), (3, .int to)] := hl
  obtain ⟨H, eH⟩ : ∃ H : Heap, H = s.heap := ⟨_, rfl⟩
  obtain ⟨locs, eL⟩ : ∃ L : List Loc, L = [] := ⟨_, rfl⟩
  rw [← eL]
  rw [← eL] at hS
  have hP : va_P D vwCl [Prod.mk h0 (Sum.inl (Prod.mk (cy 0) (Prod.mk 4 (Sum.inl f))))] H := by rw [eH]; exact hP
  have hS : va_S A s.heap H locs := by rw [eH]; exact hS
  refine W.heapEq eH ?_
  clear eH eL
  refine lv_iconst (v := 0) hx hb dX10_move_0 (by decide) ?_
  refine lv_istore (lv' := [(4, .int 0), (0, .ref h0), (1, .int 1), (2, .int fr), (3, .int to)]) hx hb dX10_move_1 hl (by decide) rfl (fun ls hl => ?_)
  have lp_3 : ∀ (n_3 : Nat) (k : Int32) (f1 : Nat → Int32), (0 ≤ k.toInt) → (k.toInt ≤ 1) → (∀ j : Nat, (j : Int) < k.toInt → f1 (1 * b.toNat + j) = f (1 * a.toNat + j)) → (∀ j : Nat, (j < 1 * b.toNat ∨ ((1 * b.toNat : Nat) : Int) + k.toInt ≤ j) → f1 j = f j) → (AllI f1 4 0 10) → (1 - k.toInt).toNat < n_3 → ∀ (H : Heap) (locs : List Loc), va_P D vwCl [Prod.mk h0 (Sum.inl (Prod.mk (cy 0) (Prod.mk 4 (Sum.inl f1))))] H → va_D A [Prod.mk h0 (Sum.inl (Prod.mk (cy 0) (Prod.mk 4 (Sum.inl f1))))] → va_S A s.heap H locs → ∀ ls : Array Slot, lv_has ls 5 [(4, .int k), (0, .ref h0), (1, .int 1), (2, .int fr), (3, .int to)] → W p l e (headSpec wsX10_move ({ frames := 0, cells := 0, slots := 0, locals := 0 } : Room)).room s m ([.ref h0, .int 1, .int fr, .int to] : List Value).toArray below meth c H locs 0 0 (MQ below (Q_c_move_stops D cy E h0 f fr to a b A) ([.ref h0, .int 1, .int fr, .int to] : List Value).toArray s 0 0 A) (F0 m 3 ls []) := by
    intro n_3
    induction n_3 with
    | zero => intro k f1 hk0 hk1 hI1 hI2 hl_f1 hmu; exact absurd hmu (Nat.not_lt_zero _)
    | succ n_3 ih_3 =>
      intro k f1 hk0 hk1 hI1 hI2 hl_f1 hmu_3 H locs hP hD hS ls hl
      refine lv_iload hx hb dX10_move_3 (lv_at hl 0 rfl) ?_
      refine lv_iload_n hx hb dX10_move_5 rfl (lv_at hl 2 rfl) ?_
      refine lv_icmp_ge (tgt := 31) hx hb dX10_move_6 (by decide) (fun c6 => ?_) (fun c6 => ?_)
      · skip
        have fc6 := q_le (a := 1) (b := k.toInt) c6 (by decide) rfl
        exact r_v hx hb hr hlocks hK hS dX10_move_31 (u := (f1)) hP hD (⟨⟨fun j hj => hI1 j (by omega), fun j hj => hI2 j (by omega)⟩, hl_f1⟩)
      · skip
        have fc6 := q_nle (a := 1) (b := k.toInt) c6 (by decide) rfl
        refine lv_aload_n hx hb dX10_move_9 rfl (lv_at hl 1 rfl) ?_
        refine lv_iload_n hx hb dX10_move_10 rfl (lv_at hl 2 rfl) ?_
        refine lv_iload_n hx hb dX10_move_11 rfl (lv_at hl 4 rfl) ?_
        refine lv_imul hx hb dX10_move_12 ?_
        refine lv_topi (fun x12 ex12 => ?_)
        have tx12 := q_mul (p := 1) (q := to.toInt) ex12 (by decide) rfl (by omega) (by omega)
        refine lv_iload hx hb dX10_move_13 (lv_at hl 0 rfl) ?_
        refine lv_iadd hx hb dX10_move_15 ?_
        refine lv_topi (fun x15 ex15 => ?_)
        have tx15 := q_add (p := x12.toInt) (q := k.toInt) ex15 rfl rfl (by omega) (by omega)
        refine lv_aload_n hx hb dX10_move_16 rfl (lv_at hl 1 rfl) ?_
        refine lv_iload_n hx hb dX10_move_17 rfl (lv_at hl 2 rfl) ?_
        refine lv_iload_n hx hb dX10_move_18 rfl (lv_at hl 3 rfl) ?_
        refine lv_imul hx hb dX10_move_19 ?_
        refine lv_topi (fun x19 ex19 => ?_)
        have tx19 := q_mul (p := 1) (q := fr.toInt) ex19 (by decide) rfl (by omega) (by omega)
        refine lv_iload hx hb dX10_move_20 (lv_at hl 0 rfl) ?_
        refine lv_iadd hx hb dX10_move_22 ?_
        refine lv_topi (fun x22 ex22 => ?_)
        have tx22 := q_add (p := x19.toInt) (q := k.toInt) ex22 rfl rfl (by omega) (by omega)
        refine va_iald hx hb hK hP 0 0 rfl rfl (q_in (a := x22.toInt) rfl (by omega) (by omega)) dX10_move_23 ?_
        refine lv_topi (fun x23 ex23 => ?_)
        have tx23 := congrArg Int32.toInt ex23
        have ix23 := hl_f1 x22.toNatClampNeg (cn (by omega) (by decide))
        have v24_a : AllI (upd f1 x15.toNatClampNeg x23) 4 0 10 := allI_upd hl_f1 (by omega) (by omega)
        refine va_iast hx hb hK hP hD hS 0 0 rfl rfl (q_in (a := x15.toInt) rfl (by omega) (by omega)) dX10_move_24 (fun H locs hP hD hS => ?_)
        have hP : va_P D vwCl [Prod.mk h0 (Sum.inl (Prod.mk (cy 0) (Prod.mk 4 (Sum.inl (upd f1 x15.toNatClampNeg x23)))))] H := hP
        have hD : va_D A [Prod.mk h0 (Sum.inl (Prod.mk (cy 0) (Prod.mk 4 (Sum.inl (upd f1 x15.toNatClampNeg x23)))))] := hD
        obtain ⟨x25, ex25⟩ : ∃ y : Int32, y = k + 1 := ⟨_, rfl⟩
        refine lv_iinc (v := x25) (lv' := [(4, .int x25), (0, .ref h0), (1, .int 1), (2, .int fr), (3, .int to)]) hx hb dX10_move_25 hl (k := 0) rfl (by rw [ex25]; rfl) (by decide) rfl (fun ls hl => ?_)
        have tx25 := q_add (p := k.toInt) (q := 1) ex25 rfl (by decide) (by omega) (by omega)
        refine lv_goto (tgt := 3) hx hb dX10_move_28 (by decide) ?_
        have hmv := mv_step (n := 1) (pa := 1 * a.toNat) (pb := 1 * b.toNat) hk0 (by omega) tx25 (by omega) (show x15.toInt = _ by omega) (show x22.toInt = _ by omega) ex23 hI1 hI2
        exact ih_3 x25 (upd f1 x15.toNatClampNeg x23) (by first | omega | decide | (rw [i32_0]; omega)) (by first | omega | decide | (rw [i32_0]; omega)) hmv.1 hmv.2 v24_a (by omega) H locs hP hD hS ls (lv_sub hl [0, 1, 2, 3, 4] rfl)
  exact lp_3 (1 + 1) 0 f (by first | omega | decide | (rw [i32_0]; omega) | (rw [i32_m1]; omega)) (by first | omega | decide | (rw [i32_0]; omega) | (rw [i32_m1]; omega)) (fun j hj => absurd hj (by rw [i32_0]; omega)) (fun j _ => rfl) hv_f (by first | omega | exact Nat.lt_succ_self _ | (rw [i32_0]; omega) | (rw [i32_1]; omega)) H locs hP hD hS ls (lv_sub hl [0, 1, 2, 3, 4] rfl)

abbrev Q_c_move_km (D : va_G) (cy : Nat → ClassId) (E : EN) (h0 : Nat) (f : Nat → Int32) (fr : Int32) (to : Int32) (a : Int) (b : Int) : (Nat → Prop) → Array Value → State → Outcome → State → Prop := QV D cy (fun (g : (Nat → Int32)) => (∀ j : Nat, j < 9 → g (9 * b.toNat + j) = f (9 * a.toNat + j)) ∧ (∀ j : Nat, (j < 9 * b.toNat ∨ 9 * b.toNat + 9 ≤ j) → g j = f j)) (fun g : (Nat → Int32) => [Prod.mk h0 (Sum.inl (Prod.mk (cy 0) (Prod.mk 36 (Sum.inl g))))])
set_option maxHeartbeats 4000000 in
set_option maxRecDepth 100000 in
theorem c_move_km (l : Launch) (D : va_G) (cy : Nat → ClassId) (E : EN) (h0 : Nat) (f : Nat → Int32) (fr : Int32) (to : Int32) (a : Int) (b : Int) (sz : Nat) (ha : fr.toInt = a) (hb9 : to.toInt = b) (hfr : 0 ≤ a ∧ a ≤ 3) (hto : 0 ≤ b ∧ b ≤ 3) (hab : a ≠ b) : Met l yX10_move wsX10_move ({ frames := 0, cells := 0, slots := 0, locals := 0 } : Room) (CP D cy E [.ref h0, .int 9, .int fr, .int to] [Prod.mk h0 (Sum.inl (Prod.mk (cy 0) (Prod.mk 36 (Sum.inl f))))] sz) (Q_c_move_km D cy E h0 f fr to a b (va_A [Prod.mk h0 (Sum.inl (Prod.mk (cy 0) (Prod.mk 36 (Sum.inl f))))] sz)) 0 0 (va_A [Prod.mk h0 (Sum.inl (Prod.mk (cy 0) (Prod.mk 36 (Sum.inl f))))] sz) := by
  refine Met.go (Qc := Q_c_move_km D cy E h0 f fr to a b) (cc := cX10_move) (maxL := 5) (ret := none) (by decide) rfl (Nat.le_of_ble_eq_true rfl) ?_
  intro p e s m below meth c hx hb hr hts hown hlocks hin hml hK hN A hA hAB hD hP hS ls hl hsz
  have hl : lv_has ls 5 [(0, .ref h0), (1, .int 9), (2, .int fr), (3, .int to)] := hl
  obtain ⟨H, eH⟩ : ∃ H : Heap, H = s.heap := ⟨_, rfl⟩
  obtain ⟨locs, eL⟩ : ∃ L : List Loc, L = [] := ⟨_, rfl⟩
  rw [← eL]
  rw [← eL] at hS
  have hP : va_P D vwCl [Prod.mk h0 (Sum.inl (Prod.mk (cy 0) (Prod.mk 36 (Sum.inl f))))] H := by rw [eH]; exact hP
  have hS : va_S A s.heap H locs := by rw [eH]; exact hS
  refine W.heapEq eH ?_
  clear eH eL
  refine lv_iconst (v := 0) hx hb dX10_move_0 (by decide) ?_
  refine lv_istore (lv' := [(4, .int 0), (0, .ref h0), (1, .int 9), (2, .int fr), (3, .int to)]) hx hb dX10_move_1 hl (by decide) rfl (fun ls hl => ?_)
  have lp_3 : ∀ (n_3 : Nat) (k : Int32) (f1 : Nat → Int32), (0 ≤ k.toInt) → (k.toInt ≤ 9) → (∀ j : Nat, (j : Int) < k.toInt → f1 (9 * b.toNat + j) = f (9 * a.toNat + j)) → (∀ j : Nat, (j < 9 * b.toNat ∨ ((9 * b.toNat : Nat) : Int) + k.toInt ≤ j) → f1 j = f j) → (9 - k.toInt).toNat < n_3 → ∀ (H : Heap) (locs : List Loc), va_P D vwCl [Prod.mk h0 (Sum.inl (Prod.mk (cy 0) (Prod.mk 36 (Sum.inl f1))))] H → va_D A [Prod.mk h0 (Sum.inl (Prod.mk (cy 0) (Prod.mk 36 (Sum.inl f1))))] → va_S A s.heap H locs → ∀ ls : Array Slot, lv_has ls 5 [(4, .int k), (0, .ref h0), (1, .int 9), (2, .int fr), (3, .int to)] → W p l e (headSpec wsX10_move ({ frames := 0, cells := 0, slots := 0, locals := 0 } : Room)).room s m ([.ref h0, .int 9, .int fr, .int to] : List Value).toArray below meth c H locs 0 0 (MQ below (Q_c_move_km D cy E h0 f fr to a b A) ([.ref h0, .int 9, .int fr, .int to] : List Value).toArray s 0 0 A) (F0 m 3 ls []) := by
    intro n_3
    induction n_3 with
    | zero => intro k f1 hk0 hk1 hI1 hI2 hmu; exact absurd hmu (Nat.not_lt_zero _)
    | succ n_3 ih_3 =>
      intro k f1 hk0 hk1 hI1 hI2 hmu_3 H locs hP hD hS ls hl
      refine lv_iload hx hb dX10_move_3 (lv_at hl 0 rfl) ?_
      refine lv_iload_n hx hb dX10_move_5 rfl (lv_at hl 2 rfl) ?_
      refine lv_icmp_ge (tgt := 31) hx hb dX10_move_6 (by decide) (fun c6 => ?_) (fun c6 => ?_)
      · skip
        have fc6 := q_le (a := 9) (b := k.toInt) c6 (by decide) rfl
        exact r_v hx hb hr hlocks hK hS dX10_move_31 (u := (f1)) hP hD (⟨fun j hj => hI1 j (by omega), fun j hj => hI2 j (by omega)⟩)
      · skip
        have fc6 := q_nle (a := 9) (b := k.toInt) c6 (by decide) rfl
        refine lv_aload_n hx hb dX10_move_9 rfl (lv_at hl 1 rfl) ?_
        refine lv_iload_n hx hb dX10_move_10 rfl (lv_at hl 2 rfl) ?_
        refine lv_iload_n hx hb dX10_move_11 rfl (lv_at hl 4 rfl) ?_
        refine lv_imul hx hb dX10_move_12 ?_
        refine lv_topi (fun x12 ex12 => ?_)
        have tx12 := q_mul (p := 9) (q := to.toInt) ex12 (by decide) rfl (by omega) (by omega)
        refine lv_iload hx hb dX10_move_13 (lv_at hl 0 rfl) ?_
        refine lv_iadd hx hb dX10_move_15 ?_
        refine lv_topi (fun x15 ex15 => ?_)
        have tx15 := q_add (p := x12.toInt) (q := k.toInt) ex15 rfl rfl (by omega) (by omega)
        refine lv_aload_n hx hb dX10_move_16 rfl (lv_at hl 1 rfl) ?_
        refine lv_iload_n hx hb dX10_move_17 rfl (lv_at hl 2 rfl) ?_
        refine lv_iload_n hx hb dX10_move_18 rfl (lv_at hl 3 rfl) ?_
        refine lv_imul hx hb dX10_move_19 ?_
        refine lv_topi (fun x19 ex19 => ?_)
        have tx19 := q_mul (p := 9) (q := fr.toInt) ex19 (by decide) rfl (by omega) (by omega)
        refine lv_iload hx hb dX10_move_20 (lv_at hl 0 rfl) ?_
        refine lv_iadd hx hb dX10_move_22 ?_
        refine lv_topi (fun x22 ex22 => ?_)
        have tx22 := q_add (p := x19.toInt) (q := k.toInt) ex22 rfl rfl (by omega) (by omega)
        refine va_iald hx hb hK hP 0 0 rfl rfl (q_in (a := x22.toInt) rfl (by omega) (by omega)) dX10_move_23 ?_
        refine lv_topi (fun x23 ex23 => ?_)
        have tx23 := congrArg Int32.toInt ex23
        refine va_iast hx hb hK hP hD hS 0 0 rfl rfl (q_in (a := x15.toInt) rfl (by omega) (by omega)) dX10_move_24 (fun H locs hP hD hS => ?_)
        have hP : va_P D vwCl [Prod.mk h0 (Sum.inl (Prod.mk (cy 0) (Prod.mk 36 (Sum.inl (upd f1 x15.toNatClampNeg x23)))))] H := hP
        have hD : va_D A [Prod.mk h0 (Sum.inl (Prod.mk (cy 0) (Prod.mk 36 (Sum.inl (upd f1 x15.toNatClampNeg x23)))))] := hD
        obtain ⟨x25, ex25⟩ : ∃ y : Int32, y = k + 1 := ⟨_, rfl⟩
        refine lv_iinc (v := x25) (lv' := [(4, .int x25), (0, .ref h0), (1, .int 9), (2, .int fr), (3, .int to)]) hx hb dX10_move_25 hl (k := 0) rfl (by rw [ex25]; rfl) (by decide) rfl (fun ls hl => ?_)
        have tx25 := q_add (p := k.toInt) (q := 1) ex25 rfl (by decide) (by omega) (by omega)
        refine lv_goto (tgt := 3) hx hb dX10_move_28 (by decide) ?_
        have hmv := mv_step (n := 9) (pa := 9 * a.toNat) (pb := 9 * b.toNat) hk0 (by omega) tx25 (by omega) (show x15.toInt = _ by omega) (show x22.toInt = _ by omega) ex23 hI1 hI2
        exact ih_3 x25 (upd f1 x15.toNatClampNeg x23) (by first | omega | decide | (rw [i32_0]; omega)) (by first | omega | decide | (rw [i32_0]; omega)) hmv.1 hmv.2 (by omega) H locs hP hD hS ls (lv_sub hl [0, 1, 2, 3, 4] rfl)
  exact lp_3 (9 + 1) 0 f (by first | omega | decide | (rw [i32_0]; omega) | (rw [i32_m1]; omega)) (by first | omega | decide | (rw [i32_0]; omega) | (rw [i32_m1]; omega)) (fun j hj => absurd hj (by rw [i32_0]; omega)) (fun j _ => rfl) (by first | omega | exact Nat.lt_succ_self _ | (rw [i32_0]; omega) | (rw [i32_1]; omega)) H locs hP hD hS ls (lv_sub hl [0, 1, 2, 3, 4] rfl)

abbrev Q_c_move_takes (D : va_G) (cy : Nat → ClassId) (E : EN) (h0 : Nat) (f : Nat → Int32) (fr : Int32) (to : Int32) (a : Int) (b : Int) : (Nat → Prop) → Array Value → State → Outcome → State → Prop := QV D cy (fun (g : (Nat → Int32)) => ((∀ j : Nat, j < 9 → g (9 * b.toNat + j) = f (9 * a.toNat + j)) ∧ (∀ j : Nat, (j < 9 * b.toNat ∨ 9 * b.toNat + 9 ≤ j) → g j = f j)) ∧ AllI g 36 0 24) (fun g : (Nat → Int32) => [Prod.mk h0 (Sum.inl (Prod.mk (cy 0) (Prod.mk 36 (Sum.inl g))))])
set_option maxHeartbeats 4000000 in
set_option maxRecDepth 100000 in
theorem c_move_takes (l : Launch) (D : va_G) (cy : Nat → ClassId) (E : EN) (h0 : Nat) (f : Nat → Int32) (fr : Int32) (to : Int32) (a : Int) (b : Int) (sz : Nat) (ha : fr.toInt = a) (hb9 : to.toInt = b) (hfr : 0 ≤ a ∧ a ≤ 3) (hto : 0 ≤ b ∧ b ≤ 3) (hab : a ≠ b) (hv_f : AllI f 36 0 24) : Met l yX10_move wsX10_move ({ frames := 0, cells := 0, slots := 0, locals := 0 } : Room) (CP D cy E [.ref h0, .int 9, .int fr, .int to] [Prod.mk h0 (Sum.inl (Prod.mk (cy 0) (Prod.mk 36 (Sum.inl f))))] sz) (Q_c_move_takes D cy E h0 f fr to a b (va_A [Prod.mk h0 (Sum.inl (Prod.mk (cy 0) (Prod.mk 36 (Sum.inl f))))] sz)) 0 0 (va_A [Prod.mk h0 (Sum.inl (Prod.mk (cy 0) (Prod.mk 36 (Sum.inl f))))] sz) := by
  refine Met.go (Qc := Q_c_move_takes D cy E h0 f fr to a b) (cc := cX10_move) (maxL := 5) (ret := none) (by decide) rfl (Nat.le_of_ble_eq_true rfl) ?_
  intro p e s m below meth c hx hb hr hts hown hlocks hin hml hK hN A hA hAB hD hP hS ls hl hsz
  have hl : lv_has ls 5 [(0, .ref h0), (1, .int 9), (2, .int fr), (3, .int to)] := hl
  obtain ⟨H, eH⟩ : ∃ H : Heap, H = s.heap := ⟨_, rfl⟩
  obtain ⟨locs, eL⟩ : ∃ L : List Loc, L = [] := ⟨_, rfl⟩
  rw [← eL]
  rw [← eL] at hS
  have hP : va_P D vwCl [Prod.mk h0 (Sum.inl (Prod.mk (cy 0) (Prod.mk 36 (Sum.inl f))))] H := by rw [eH]; exact hP
  have hS : va_S A s.heap H locs := by rw [eH]; exact hS
  refine W.heapEq eH ?_
  clear eH eL
  refine lv_iconst (v := 0) hx hb dX10_move_0 (by decide) ?_
  refine lv_istore (lv' := [(4, .int 0), (0, .ref h0), (1, .int 9), (2, .int fr), (3, .int to)]) hx hb dX10_move_1 hl (by decide) rfl (fun ls hl => ?_)
  have lp_3 : ∀ (n_3 : Nat) (k : Int32) (f1 : Nat → Int32), (0 ≤ k.toInt) → (k.toInt ≤ 9) → (∀ j : Nat, (j : Int) < k.toInt → f1 (9 * b.toNat + j) = f (9 * a.toNat + j)) → (∀ j : Nat, (j < 9 * b.toNat ∨ ((9 * b.toNat : Nat) : Int) + k.toInt ≤ j) → f1 j = f j) → (AllI f1 36 0 24) → (9 - k.toInt).toNat < n_3 → ∀ (H : Heap) (locs : List Loc), va_P D vwCl [Prod.mk h0 (Sum.inl (Prod.mk (cy 0) (Prod.mk 36 (Sum.inl f1))))] H → va_D A [Prod.mk h0 (Sum.inl (Prod.mk (cy 0) (Prod.mk 36 (Sum.inl f1))))] → va_S A s.heap H locs → ∀ ls : Array Slot, lv_has ls 5 [(4, .int k), (0, .ref h0), (1, .int 9), (2, .int fr), (3, .int to)] → W p l e (headSpec wsX10_move ({ frames := 0, cells := 0, slots := 0, locals := 0 } : Room)).room s m ([.ref h0, .int 9, .int fr, .int to] : List Value).toArray below meth c H locs 0 0 (MQ below (Q_c_move_takes D cy E h0 f fr to a b A) ([.ref h0, .int 9, .int fr, .int to] : List Value).toArray s 0 0 A) (F0 m 3 ls []) := by
    intro n_3
    induction n_3 with
    | zero => intro k f1 hk0 hk1 hI1 hI2 hl_f1 hmu; exact absurd hmu (Nat.not_lt_zero _)
    | succ n_3 ih_3 =>
      intro k f1 hk0 hk1 hI1 hI2 hl_f1 hmu_3 H locs hP hD hS ls hl
      refine lv_iload hx hb dX10_move_3 (lv_at hl 0 rfl) ?_
      refine lv_iload_n hx hb dX10_move_5 rfl (lv_at hl 2 rfl) ?_
      refine lv_icmp_ge (tgt := 31) hx hb dX10_move_6 (by decide) (fun c6 => ?_) (fun c6 => ?_)
      · skip
        have fc6 := q_le (a := 9) (b := k.toInt) c6 (by decide) rfl
        exact r_v hx hb hr hlocks hK hS dX10_move_31 (u := (f1)) hP hD (⟨⟨fun j hj => hI1 j (by omega), fun j hj => hI2 j (by omega)⟩, hl_f1⟩)
      · skip
        have fc6 := q_nle (a := 9) (b := k.toInt) c6 (by decide) rfl
        refine lv_aload_n hx hb dX10_move_9 rfl (lv_at hl 1 rfl) ?_
        refine lv_iload_n hx hb dX10_move_10 rfl (lv_at hl 2 rfl) ?_
        refine lv_iload_n hx hb dX10_move_11 rfl (lv_at hl 4 rfl) ?_
        refine lv_imul hx hb dX10_move_12 ?_
        refine lv_topi (fun x12 ex12 => ?_)
        have tx12 := q_mul (p := 9) (q := to.toInt) ex12 (by decide) rfl (by omega) (by omega)
        refine lv_iload hx hb dX10_move_13 (lv_at hl 0 rfl) ?_
        refine lv_iadd hx hb dX10_move_15 ?_
        refine lv_topi (fun x15 ex15 => ?_)
        have tx15 := q_add (p := x12.toInt) (q := k.toInt) ex15 rfl rfl (by omega) (by omega)
        refine lv_aload_n hx hb dX10_move_16 rfl (lv_at hl 1 rfl) ?_
        refine lv_iload_n hx hb dX10_move_17 rfl (lv_at hl 2 rfl) ?_
        refine lv_iload_n hx hb dX10_move_18 rfl (lv_at hl 3 rfl) ?_
        refine lv_imul hx hb dX10_move_19 ?_
        refine lv_topi (fun x19 ex19 => ?_)
        have tx19 := q_mul (p := 9) (q := fr.toInt) ex19 (by decide) rfl (by omega) (by omega)
        refine lv_iload hx hb dX10_move_20 (lv_at hl 0 rfl) ?_
        refine lv_iadd hx hb dX10_move_22 ?_
        refine lv_topi (fun x22 ex22 => ?_)
        have tx22 := q_add (p := x19.toInt) (q := k.toInt) ex22 rfl rfl (by omega) (by omega)
        refine va_iald hx hb hK hP 0 0 rfl rfl (q_in (a := x22.toInt) rfl (by omega) (by omega)) dX10_move_23 ?_
        refine lv_topi (fun x23 ex23 => ?_)
        have tx23 := congrArg Int32.toInt ex23
        have ix23 := hl_f1 x22.toNatClampNeg (cn (by omega) (by decide))
        have v24_a : AllI (upd f1 x15.toNatClampNeg x23) 36 0 24 := allI_upd hl_f1 (by omega) (by omega)
        refine va_iast hx hb hK hP hD hS 0 0 rfl rfl (q_in (a := x15.toInt) rfl (by omega) (by omega)) dX10_move_24 (fun H locs hP hD hS => ?_)
        have hP : va_P D vwCl [Prod.mk h0 (Sum.inl (Prod.mk (cy 0) (Prod.mk 36 (Sum.inl (upd f1 x15.toNatClampNeg x23)))))] H := hP
        have hD : va_D A [Prod.mk h0 (Sum.inl (Prod.mk (cy 0) (Prod.mk 36 (Sum.inl (upd f1 x15.toNatClampNeg x23)))))] := hD
        obtain ⟨x25, ex25⟩ : ∃ y : Int32, y = k + 1 := ⟨_, rfl⟩
        refine lv_iinc (v := x25) (lv' := [(4, .int x25), (0, .ref h0), (1, .int 9), (2, .int fr), (3, .int to)]) hx hb dX10_move_25 hl (k := 0) rfl (by rw [ex25]; rfl) (by decide) rfl (fun ls hl => ?_)
        have tx25 := q_add (p := k.toInt) (q := 1) ex25 rfl (by decide) (by omega) (by omega)
        refine lv_goto (tgt := 3) hx hb dX10_move_28 (by decide) ?_
        have hmv := mv_step (n := 9) (pa := 9 * a.toNat) (pb := 9 * b.toNat) hk0 (by omega) tx25 (by omega) (show x15.toInt = _ by omega) (show x22.toInt = _ by omega) ex23 hI1 hI2
        exact ih_3 x25 (upd f1 x15.toNatClampNeg x23) (by first | omega | decide | (rw [i32_0]; omega)) (by first | omega | decide | (rw [i32_0]; omega)) hmv.1 hmv.2 v24_a (by omega) H locs hP hD hS ls (lv_sub hl [0, 1, 2, 3, 4] rfl)
  exact lp_3 (9 + 1) 0 f (by first | omega | decide | (rw [i32_0]; omega) | (rw [i32_m1]; omega)) (by first | omega | decide | (rw [i32_0]; omega) | (rw [i32_m1]; omega)) (fun j hj => absurd hj (by rw [i32_0]; omega)) (fun j _ => rfl) hv_f (by first | omega | exact Nat.lt_succ_self _ | (rw [i32_0]; omega) | (rw [i32_1]; omega)) H locs hP hD hS ls (lv_sub hl [0, 1, 2, 3, 4] rfl)

abbrev Q_c_move_officeAt (D : va_G) (cy : Nat → ClassId) (E : EN) (h0 : Nat) (f : Nat → Int32) (fr : Int32) (to : Int32) (a : Int) (b : Int) : (Nat → Prop) → Array Value → State → Outcome → State → Prop := QV D cy (fun (g : (Nat → Int32)) => ((∀ j : Nat, j < 6 → g (6 * b.toNat + j) = f (6 * a.toNat + j)) ∧ (∀ j : Nat, (j < 6 * b.toNat ∨ 6 * b.toNat + 6 ≤ j) → g j = f j)) ∧ AllI g 24 0 9) (fun g : (Nat → Int32) => [Prod.mk h0 (Sum.inl (Prod.mk (cy 0) (Prod.mk 24 (Sum.inl g))))])
set_option maxHeartbeats 4000000 in
set_option maxRecDepth 100000 in
theorem c_move_officeAt (l : Launch) (D : va_G) (cy : Nat → ClassId) (E : EN) (h0 : Nat) (f : Nat → Int32) (fr : Int32) (to : Int32) (a : Int) (b : Int) (sz : Nat) (ha : fr.toInt = a) (hb9 : to.toInt = b) (hfr : 0 ≤ a ∧ a ≤ 3) (hto : 0 ≤ b ∧ b ≤ 3) (hab : a ≠ b) (hv_f : AllI f 24 0 9) : Met l yX10_move wsX10_move ({ frames := 0, cells := 0, slots := 0, locals := 0 } : Room) (CP D cy E [.ref h0, .int 6, .int fr, .int to] [Prod.mk h0 (Sum.inl (Prod.mk (cy 0) (Prod.mk 24 (Sum.inl f))))] sz) (Q_c_move_officeAt D cy E h0 f fr to a b (va_A [Prod.mk h0 (Sum.inl (Prod.mk (cy 0) (Prod.mk 24 (Sum.inl f))))] sz)) 0 0 (va_A [Prod.mk h0 (Sum.inl (Prod.mk (cy 0) (Prod.mk 24 (Sum.inl f))))] sz) := by
  refine Met.go (Qc := Q_c_move_officeAt D cy E h0 f fr to a b) (cc := cX10_move) (maxL := 5) (ret := none) (by decide) rfl (Nat.le_of_ble_eq_true rfl) ?_
  intro p e s m below meth c hx hb hr hts hown hlocks hin hml hK hN A hA hAB hD hP hS ls hl hsz
  have hl : lv_has ls 5 [(0, .ref h0), (1, .int 6), (2, .int fr), (3, .int to)] := hl
  obtain ⟨H, eH⟩ : ∃ H : Heap, H = s.heap := ⟨_, rfl⟩
  obtain ⟨locs, eL⟩ : ∃ L : List Loc, L = [] := ⟨_, rfl⟩
  rw [← eL]
  rw [← eL] at hS
  have hP : va_P D vwCl [Prod.mk h0 (Sum.inl (Prod.mk (cy 0) (Prod.mk 24 (Sum.inl f))))] H := by rw [eH]; exact hP
  have hS : va_S A s.heap H locs := by rw [eH]; exact hS
  refine W.heapEq eH ?_
  clear eH eL
  refine lv_iconst (v := 0) hx hb dX10_move_0 (by decide) ?_
  refine lv_istore (lv' := [(4, .int 0), (0, .ref h0), (1, .int 6), (2, .int fr), (3, .int to)]) hx hb dX10_move_1 hl (by decide) rfl (fun ls hl => ?_)
  have lp_3 : ∀ (n_3 : Nat) (k : Int32) (f1 : Nat → Int32), (0 ≤ k.toInt) → (k.toInt ≤ 6) → (∀ j : Nat, (j : Int) < k.toInt → f1 (6 * b.toNat + j) = f (6 * a.toNat + j)) → (∀ j : Nat, (j < 6 * b.toNat ∨ ((6 * b.toNat : Nat) : Int) + k.toInt ≤ j) → f1 j = f j) → (AllI f1 24 0 9) → (6 - k.toInt).toNat < n_3 → ∀ (H : Heap) (locs : List Loc), va_P D vwCl [Prod.mk h0 (Sum.inl (Prod.mk (cy 0) (Prod.mk 24 (Sum.inl f1))))] H → va_D A [Prod.mk h0 (Sum.inl (Prod.mk (cy 0) (Prod.mk 24 (Sum.inl f1))))] → va_S A s.heap H locs → ∀ ls : Array Slot, lv_has ls 5 [(4, .int k), (0, .ref h0), (1, .int 6), (2, .int fr), (3, .int to)] → W p l e (headSpec wsX10_move ({ frames := 0, cells := 0, slots := 0, locals := 0 } : Room)).room s m ([.ref h0, .int 6, .int fr, .int to] : List Value).toArray below meth c H locs 0 0 (MQ below (Q_c_move_officeAt D cy E h0 f fr to a b A) ([.ref h0, .int 6, .int fr, .int to] : List Value).toArray s 0 0 A) (F0 m 3 ls []) := by
    intro n_3
    induction n_3 with
    | zero => intro k f1 hk0 hk1 hI1 hI2 hl_f1 hmu; exact absurd hmu (Nat.not_lt_zero _)
    | succ n_3 ih_3 =>
      intro k f1 hk0 hk1 hI1 hI2 hl_f1 hmu_3 H locs hP hD hS ls hl
      refine lv_iload hx hb dX10_move_3 (lv_at hl 0 rfl) ?_
      refine lv_iload_n hx hb dX10_move_5 rfl (lv_at hl 2 rfl) ?_
      refine lv_icmp_ge (tgt := 31) hx hb dX10_move_6 (by decide) (fun c6 => ?_) (fun c6 => ?_)
      · skip
        have fc6 := q_le (a := 6) (b := k.toInt) c6 (by decide) rfl
        exact r_v hx hb hr hlocks hK hS dX10_move_31 (u := (f1)) hP hD (⟨⟨fun j hj => hI1 j (by omega), fun j hj => hI2 j (by omega)⟩, hl_f1⟩)
      · skip
        have fc6 := q_nle (a := 6) (b := k.toInt) c6 (by decide) rfl
        refine lv_aload_n hx hb dX10_move_9 rfl (lv_at hl 1 rfl) ?_
        refine lv_iload_n hx hb dX10_move_10 rfl (lv_at hl 2 rfl) ?_
        refine lv_iload_n hx hb dX10_move_11 rfl (lv_at hl 4 rfl) ?_
        refine lv_imul hx hb dX10_move_12 ?_
        refine lv_topi (fun x12 ex12 => ?_)
        have tx12 := q_mul (p := 6) (q := to.toInt) ex12 (by decide) rfl (by omega) (by omega)
        refine lv_iload hx hb dX10_move_13 (lv_at hl 0 rfl) ?_
        refine lv_iadd hx hb dX10_move_15 ?_
        refine lv_topi (fun x15 ex15 => ?_)
        have tx15 := q_add (p := x12.toInt) (q := k.toInt) ex15 rfl rfl (by omega) (by omega)
        refine lv_aload_n hx hb dX10_move_16 rfl (lv_at hl 1 rfl) ?_
        refine lv_iload_n hx hb dX10_move_17 rfl (lv_at hl 2 rfl) ?_
        refine lv_iload_n hx hb dX10_move_18 rfl (lv_at hl 3 rfl) ?_
        refine lv_imul hx hb dX10_move_19 ?_
        refine lv_topi (fun x19 ex19 => ?_)
        have tx19 := q_mul (p := 6) (q := fr.toInt) ex19 (by decide) rfl (by omega) (by omega)
        refine lv_iload hx hb dX10_move_20 (lv_at hl 0 rfl) ?_
        refine lv_iadd hx hb dX10_move_22 ?_
        refine lv_topi (fun x22 ex22 => ?_)
        have tx22 := q_add (p := x19.toInt) (q := k.toInt) ex22 rfl rfl (by omega) (by omega)
        refine va_iald hx hb hK hP 0 0 rfl rfl (q_in (a := x22.toInt) rfl (by omega) (by omega)) dX10_move_23 ?_
        refine lv_topi (fun x23 ex23 => ?_)
        have tx23 := congrArg Int32.toInt ex23
        have ix23 := hl_f1 x22.toNatClampNeg (cn (by omega) (by decide))
        have v24_a : AllI (upd f1 x15.toNatClampNeg x23) 24 0 9 := allI_upd hl_f1 (by omega) (by omega)
        refine va_iast hx hb hK hP hD hS 0 0 rfl rfl (q_in (a := x15.toInt) rfl (by omega) (by omega)) dX10_move_24 (fun H locs hP hD hS => ?_)
        have hP : va_P D vwCl [Prod.mk h0 (Sum.inl (Prod.mk (cy 0) (Prod.mk 24 (Sum.inl (upd f1 x15.toNatClampNeg x23)))))] H := hP
        have hD : va_D A [Prod.mk h0 (Sum.inl (Prod.mk (cy 0) (Prod.mk 24 (Sum.inl (upd f1 x15.toNatClampNeg x23)))))] := hD
        obtain ⟨x25, ex25⟩ : ∃ y : Int32, y = k + 1 := ⟨_, rfl⟩
        refine lv_iinc (v := x25) (lv' := [(4, .int x25), (0, .ref h0), (1, .int 6), (2, .int fr), (3, .int to)]) hx hb dX10_move_25 hl (k := 0) rfl (by rw [ex25]; rfl) (by decide) rfl (fun ls hl => ?_)
        have tx25 := q_add (p := k.toInt) (q := 1) ex25 rfl (by decide) (by omega) (by omega)
        refine lv_goto (tgt := 3) hx hb dX10_move_28 (by decide) ?_
        have hmv := mv_step (n := 6) (pa := 6 * a.toNat) (pb := 6 * b.toNat) hk0 (by omega) tx25 (by omega) (show x15.toInt = _ by omega) (show x22.toInt = _ by omega) ex23 hI1 hI2
        exact ih_3 x25 (upd f1 x15.toNatClampNeg x23) (by first | omega | decide | (rw [i32_0]; omega)) (by first | omega | decide | (rw [i32_0]; omega)) hmv.1 hmv.2 v24_a (by omega) H locs hP hD hS ls (lv_sub hl [0, 1, 2, 3, 4] rfl)
  exact lp_3 (6 + 1) 0 f (by first | omega | decide | (rw [i32_0]; omega) | (rw [i32_m1]; omega)) (by first | omega | decide | (rw [i32_0]; omega) | (rw [i32_m1]; omega)) (fun j hj => absurd hj (by rw [i32_0]; omega)) (fun j _ => rfl) hv_f (by first | omega | exact Nat.lt_succ_self _ | (rw [i32_0]; omega) | (rw [i32_1]; omega)) H locs hP hD hS ls (lv_sub hl [0, 1, 2, 3, 4] rfl)

abbrev Q_c_move_shares (D : va_G) (cy : Nat → ClassId) (E : EN) (h0 : Nat) (f : Nat → Int32) (fr : Int32) (to : Int32) (a : Int) (b : Int) : (Nat → Prop) → Array Value → State → Outcome → State → Prop := QV D cy (fun (g : (Nat → Int32)) => (∀ j : Nat, j < 10 → g (10 * b.toNat + j) = f (10 * a.toNat + j)) ∧ (∀ j : Nat, (j < 10 * b.toNat ∨ 10 * b.toNat + 10 ≤ j) → g j = f j)) (fun g : (Nat → Int32) => [Prod.mk h0 (Sum.inl (Prod.mk (cy 0) (Prod.mk 40 (Sum.inl g))))])
set_option maxHeartbeats 4000000 in
set_option maxRecDepth 100000 in
theorem c_move_shares (l : Launch) (D : va_G) (cy : Nat → ClassId) (E : EN) (h0 : Nat) (f : Nat → Int32) (fr : Int32) (to : Int32) (a : Int) (b : Int) (sz : Nat) (ha : fr.toInt = a) (hb9 : to.toInt = b) (hfr : 0 ≤ a ∧ a ≤ 3) (hto : 0 ≤ b ∧ b ≤ 3) (hab : a ≠ b) : Met l yX10_move wsX10_move ({ frames := 0, cells := 0, slots := 0, locals := 0 } : Room) (CP D cy E [.ref h0, .int 10, .int fr, .int to] [Prod.mk h0 (Sum.inl (Prod.mk (cy 0) (Prod.mk 40 (Sum.inl f))))] sz) (Q_c_move_shares D cy E h0 f fr to a b (va_A [Prod.mk h0 (Sum.inl (Prod.mk (cy 0) (Prod.mk 40 (Sum.inl f))))] sz)) 0 0 (va_A [Prod.mk h0 (Sum.inl (Prod.mk (cy 0) (Prod.mk 40 (Sum.inl f))))] sz) := by
  refine Met.go (Qc := Q_c_move_shares D cy E h0 f fr to a b) (cc := cX10_move) (maxL := 5) (ret := none) (by decide) rfl (Nat.le_of_ble_eq_true rfl) ?_
  intro p e s m below meth c hx hb hr hts hown hlocks hin hml hK hN A hA hAB hD hP hS ls hl hsz
  have hl : lv_has ls 5 [(0, .ref h0), (1, .int 10), (2, .int fr), (3, .int to)] := hl
  obtain ⟨H, eH⟩ : ∃ H : Heap, H = s.heap := ⟨_, rfl⟩
  obtain ⟨locs, eL⟩ : ∃ L : List Loc, L = [] := ⟨_, rfl⟩
  rw [← eL]
  rw [← eL] at hS
  have hP : va_P D vwCl [Prod.mk h0 (Sum.inl (Prod.mk (cy 0) (Prod.mk 40 (Sum.inl f))))] H := by rw [eH]; exact hP
  have hS : va_S A s.heap H locs := by rw [eH]; exact hS
  refine W.heapEq eH ?_
  clear eH eL
  refine lv_iconst (v := 0) hx hb dX10_move_0 (by decide) ?_
  refine lv_istore (lv' := [(4, .int 0), (0, .ref h0), (1, .int 10), (2, .int fr), (3, .int to)]) hx hb dX10_move_1 hl (by decide) rfl (fun ls hl => ?_)
  have lp_3 : ∀ (n_3 : Nat) (k : Int32) (f1 : Nat → Int32), (0 ≤ k.toInt) → (k.toInt ≤ 10) → (∀ j : Nat, (j : Int) < k.toInt → f1 (10 * b.toNat + j) = f (10 * a.toNat + j)) → (∀ j : Nat, (j < 10 * b.toNat ∨ ((10 * b.toNat : Nat) : Int) + k.toInt ≤ j) → f1 j = f j) → (10 - k.toInt).toNat < n_3 → ∀ (H : Heap) (locs : List Loc), va_P D vwCl [Prod.mk h0 (Sum.inl (Prod.mk (cy 0) (Prod.mk 40 (Sum.inl f1))))] H → va_D A [Prod.mk h0 (Sum.inl (Prod.mk (cy 0) (Prod.mk 40 (Sum.inl f1))))] → va_S A s.heap H locs → ∀ ls : Array Slot, lv_has ls 5 [(4, .int k), (0, .ref h0), (1, .int 10), (2, .int fr), (3, .int to)] → W p l e (headSpec wsX10_move ({ frames := 0, cells := 0, slots := 0, locals := 0 } : Room)).room s m ([.ref h0, .int 10, .int fr, .int to] : List Value).toArray below meth c H locs 0 0 (MQ below (Q_c_move_shares D cy E h0 f fr to a b A) ([.ref h0, .int 10, .int fr, .int to] : List Value).toArray s 0 0 A) (F0 m 3 ls []) := by
    intro n_3
    induction n_3 with
    | zero => intro k f1 hk0 hk1 hI1 hI2 hmu; exact absurd hmu (Nat.not_lt_zero _)
    | succ n_3 ih_3 =>
      intro k f1 hk0 hk1 hI1 hI2 hmu_3 H locs hP hD hS ls hl
      refine lv_iload hx hb dX10_move_3 (lv_at hl 0 rfl) ?_
      refine lv_iload_n hx hb dX10_move_5 rfl (lv_at hl 2 rfl) ?_
      refine lv_icmp_ge (tgt := 31) hx hb dX10_move_6 (by decide) (fun c6 => ?_) (fun c6 => ?_)
      · skip
        have fc6 := q_le (a := 10) (b := k.toInt) c6 (by decide) rfl
        exact r_v hx hb hr hlocks hK hS dX10_move_31 (u := (f1)) hP hD (⟨fun j hj => hI1 j (by omega), fun j hj => hI2 j (by omega)⟩)
      · skip
        have fc6 := q_nle (a := 10) (b := k.toInt) c6 (by decide) rfl
        refine lv_aload_n hx hb dX10_move_9 rfl (lv_at hl 1 rfl) ?_
        refine lv_iload_n hx hb dX10_move_10 rfl (lv_at hl 2 rfl) ?_
        refine lv_iload_n hx hb dX10_move_11 rfl (lv_at hl 4 rfl) ?_
        refine lv_imul hx hb dX10_move_12 ?_
        refine lv_topi (fun x12 ex12 => ?_)
        have tx12 := q_mul (p := 10) (q := to.toInt) ex12 (by decide) rfl (by omega) (by omega)
        refine lv_iload hx hb dX10_move_13 (lv_at hl 0 rfl) ?_
        refine lv_iadd hx hb dX10_move_15 ?_
        refine lv_topi (fun x15 ex15 => ?_)
        have tx15 := q_add (p := x12.toInt) (q := k.toInt) ex15 rfl rfl (by omega) (by omega)
        refine lv_aload_n hx hb dX10_move_16 rfl (lv_at hl 1 rfl) ?_
        refine lv_iload_n hx hb dX10_move_17 rfl (lv_at hl 2 rfl) ?_
        refine lv_iload_n hx hb dX10_move_18 rfl (lv_at hl 3 rfl) ?_
        refine lv_imul hx hb dX10_move_19 ?_
        refine lv_topi (fun x19 ex19 => ?_)
        have tx19 := q_mul (p := 10) (q := fr.toInt) ex19 (by decide) rfl (by omega) (by omega)
        refine lv_iload hx hb dX10_move_20 (lv_at hl 0 rfl) ?_
        refine lv_iadd hx hb dX10_move_22 ?_
        refine lv_topi (fun x22 ex22 => ?_)
        have tx22 := q_add (p := x19.toInt) (q := k.toInt) ex22 rfl rfl (by omega) (by omega)
        refine va_iald hx hb hK hP 0 0 rfl rfl (q_in (a := x22.toInt) rfl (by omega) (by omega)) dX10_move_23 ?_
        refine lv_topi (fun x23 ex23 => ?_)
        have tx23 := congrArg Int32.toInt ex23
        refine va_iast hx hb hK hP hD hS 0 0 rfl rfl (q_in (a := x15.toInt) rfl (by omega) (by omega)) dX10_move_24 (fun H locs hP hD hS => ?_)
        have hP : va_P D vwCl [Prod.mk h0 (Sum.inl (Prod.mk (cy 0) (Prod.mk 40 (Sum.inl (upd f1 x15.toNatClampNeg x23)))))] H := hP
        have hD : va_D A [Prod.mk h0 (Sum.inl (Prod.mk (cy 0) (Prod.mk 40 (Sum.inl (upd f1 x15.toNatClampNeg x23)))))] := hD
        obtain ⟨x25, ex25⟩ : ∃ y : Int32, y = k + 1 := ⟨_, rfl⟩
        refine lv_iinc (v := x25) (lv' := [(4, .int x25), (0, .ref h0), (1, .int 10), (2, .int fr), (3, .int to)]) hx hb dX10_move_25 hl (k := 0) rfl (by rw [ex25]; rfl) (by decide) rfl (fun ls hl => ?_)
        have tx25 := q_add (p := k.toInt) (q := 1) ex25 rfl (by decide) (by omega) (by omega)
        refine lv_goto (tgt := 3) hx hb dX10_move_28 (by decide) ?_
        have hmv := mv_step (n := 10) (pa := 10 * a.toNat) (pb := 10 * b.toNat) hk0 (by omega) tx25 (by omega) (show x15.toInt = _ by omega) (show x22.toInt = _ by omega) ex23 hI1 hI2
        exact ih_3 x25 (upd f1 x15.toNatClampNeg x23) (by first | omega | decide | (rw [i32_0]; omega)) (by first | omega | decide | (rw [i32_0]; omega)) hmv.1 hmv.2 (by omega) H locs hP hD hS ls (lv_sub hl [0, 1, 2, 3, 4] rfl)
  exact lp_3 (10 + 1) 0 f (by first | omega | decide | (rw [i32_0]; omega) | (rw [i32_m1]; omega)) (by first | omega | decide | (rw [i32_0]; omega) | (rw [i32_m1]; omega)) (fun j hj => absurd hj (by rw [i32_0]; omega)) (fun j _ => rfl) (by first | omega | exact Nat.lt_succ_self _ | (rw [i32_0]; omega) | (rw [i32_1]; omega)) H locs hP hD hS ls (lv_sub hl [0, 1, 2, 3, 4] rfl)

abbrev Q_c_move_berths (D : va_G) (cy : Nat → ClassId) (E : EN) (h0 : Nat) (f : Nat → Int32) (fr : Int32) (to : Int32) (a : Int) (b : Int) : (Nat → Prop) → Array Value → State → Outcome → State → Prop := QV D cy (fun (g : (Nat → Int32)) => ((∀ j : Nat, j < 60 → g (60 * b.toNat + j) = f (60 * a.toNat + j)) ∧ (∀ j : Nat, (j < 60 * b.toNat ∨ 60 * b.toNat + 60 ≤ j) → g j = f j)) ∧ AllI g 240 0 10) (fun g : (Nat → Int32) => [Prod.mk h0 (Sum.inl (Prod.mk (cy 0) (Prod.mk 240 (Sum.inl g))))])
set_option maxHeartbeats 4000000 in
set_option maxRecDepth 100000 in
theorem c_move_berths (l : Launch) (D : va_G) (cy : Nat → ClassId) (E : EN) (h0 : Nat) (f : Nat → Int32) (fr : Int32) (to : Int32) (a : Int) (b : Int) (sz : Nat) (ha : fr.toInt = a) (hb9 : to.toInt = b) (hfr : 0 ≤ a ∧ a ≤ 3) (hto : 0 ≤ b ∧ b ≤ 3) (hab : a ≠ b) (hv_f : AllI f 240 0 10) : Met l yX10_move wsX10_move ({ frames := 0, cells := 0, slots := 0, locals := 0 } : Room) (CP D cy E [.ref h0, .int 60, .int fr, .int to] [Prod.mk h0 (Sum.inl (Prod.mk (cy 0) (Prod.mk 240 (Sum.inl f))))] sz) (Q_c_move_berths D cy E h0 f fr to a b (va_A [Prod.mk h0 (Sum.inl (Prod.mk (cy 0) (Prod.mk 240 (Sum.inl f))))] sz)) 0 0 (va_A [Prod.mk h0 (Sum.inl (Prod.mk (cy 0) (Prod.mk 240 (Sum.inl f))))] sz) := by
  refine Met.go (Qc := Q_c_move_berths D cy E h0 f fr to a b) (cc := cX10_move) (maxL := 5) (ret := none) (by decide) rfl (Nat.le_of_ble_eq_true rfl) ?_
  intro p e s m below meth c hx hb hr hts hown hlocks hin hml hK hN A hA hAB hD hP hS ls hl hsz
  have hl : lv_has ls 5 [(0, .ref h0), (1, .int 60), (2, .int fr), (3, .int to)] := hl
  obtain ⟨H, eH⟩ : ∃ H : Heap, H = s.heap := ⟨_, rfl⟩
  obtain ⟨locs, eL⟩ : ∃ L : List Loc, L = [] := ⟨_, rfl⟩
  rw [← eL]
  rw [← eL] at hS
  have hP : va_P D vwCl [Prod.mk h0 (Sum.inl (Prod.mk (cy 0) (Prod.mk 240 (Sum.inl f))))] H := by rw [eH]; exact hP
  have hS : va_S A s.heap H locs := by rw [eH]; exact hS
  refine W.heapEq eH ?_
  clear eH eL
  refine lv_iconst (v := 0) hx hb dX10_move_0 (by decide) ?_
  refine lv_istore (lv' := [(4, .int 0), (0, .ref h0), (1, .int 60), (2, .int fr), (3, .int to)]) hx hb dX10_move_1 hl (by decide) rfl (fun ls hl => ?_)
  have lp_3 : ∀ (n_3 : Nat) (k : Int32) (f1 : Nat → Int32), (0 ≤ k.toInt) → (k.toInt ≤ 60) → (∀ j : Nat, (j : Int) < k.toInt → f1 (60 * b.toNat + j) = f (60 * a.toNat + j)) → (∀ j : Nat, (j < 60 * b.toNat ∨ ((60 * b.toNat : Nat) : Int) + k.toInt ≤ j) → f1 j = f j) → (AllI f1 240 0 10) → (60 - k.toInt).toNat < n_3 → ∀ (H : Heap) (locs : List Loc), va_P D vwCl [Prod.mk h0 (Sum.inl (Prod.mk (cy 0) (Prod.mk 240 (Sum.inl f1))))] H → va_D A [Prod.mk h0 (Sum.inl (Prod.mk (cy 0) (Prod.mk 240 (Sum.inl f1))))] → va_S A s.heap H locs → ∀ ls : Array Slot, lv_has ls 5 [(4, .int k), (0, .ref h0), (1, .int 60), (2, .int fr), (3, .int to)] → W p l e (headSpec wsX10_move ({ frames := 0, cells := 0, slots := 0, locals := 0 } : Room)).room s m ([.ref h0, .int 60, .int fr, .int to] : List Value).toArray below meth c H locs 0 0 (MQ below (Q_c_move_berths D cy E h0 f fr to a b A) ([.ref h0, .int 60, .int fr, .int to] : List Value).toArray s 0 0 A) (F0 m 3 ls []) := by
    intro n_3
    induction n_3 with
    | zero => intro k f1 hk0 hk1 hI1 hI2 hl_f1 hmu; exact absurd hmu (Nat.not_lt_zero _)
    | succ n_3 ih_3 =>
      intro k f1 hk0 hk1 hI1 hI2 hl_f1 hmu_3 H locs hP hD hS ls hl
      refine lv_iload hx hb dX10_move_3 (lv_at hl 0 rfl) ?_
      refine lv_iload_n hx hb dX10_move_5 rfl (lv_at hl 2 rfl) ?_
      refine lv_icmp_ge (tgt := 31) hx hb dX10_move_6 (by decide) (fun c6 => ?_) (fun c6 => ?_)
      · skip
        have fc6 := q_le (a := 60) (b := k.toInt) c6 (by decide) rfl
        exact r_v hx hb hr hlocks hK hS dX10_move_31 (u := (f1)) hP hD (⟨⟨fun j hj => hI1 j (by omega), fun j hj => hI2 j (by omega)⟩, hl_f1⟩)
      · skip
        have fc6 := q_nle (a := 60) (b := k.toInt) c6 (by decide) rfl
        refine lv_aload_n hx hb dX10_move_9 rfl (lv_at hl 1 rfl) ?_
        refine lv_iload_n hx hb dX10_move_10 rfl (lv_at hl 2 rfl) ?_
        refine lv_iload_n hx hb dX10_move_11 rfl (lv_at hl 4 rfl) ?_
        refine lv_imul hx hb dX10_move_12 ?_
        refine lv_topi (fun x12 ex12 => ?_)
        have tx12 := q_mul (p := 60) (q := to.toInt) ex12 (by decide) rfl (by omega) (by omega)
        refine lv_iload hx hb dX10_move_13 (lv_at hl 0 rfl) ?_
        refine lv_iadd hx hb dX10_move_15 ?_
        refine lv_topi (fun x15 ex15 => ?_)
        have tx15 := q_add (p := x12.toInt) (q := k.toInt) ex15 rfl rfl (by omega) (by omega)
        refine lv_aload_n hx hb dX10_move_16 rfl (lv_at hl 1 rfl) ?_
        refine lv_iload_n hx hb dX10_move_17 rfl (lv_at hl 2 rfl) ?_
        refine lv_iload_n hx hb dX10_move_18 rfl (lv_at hl 3 rfl) ?_
        refine lv_imul hx hb dX10_move_19 ?_
        refine lv_topi (fun x19 ex19 => ?_)
        have tx19 := q_mul (p := 60) (q := fr.toInt) ex19 (by decide) rfl (by omega) (by omega)
        refine lv_iload hx hb dX10_move_20 (lv_at hl 0 rfl) ?_
        refine lv_iadd hx hb dX10_move_22 ?_
        refine lv_topi (fun x22 ex22 => ?_)
        have tx22 := q_add (p := x19.toInt) (q := k.toInt) ex22 rfl rfl (by omega) (by omega)
        refine va_iald hx hb hK hP 0 0 rfl rfl (q_in (a := x22.toInt) rfl (by omega) (by omega)) dX10_move_23 ?_
        refine lv_topi (fun x23 ex23 => ?_)
        have tx23 := congrArg Int32.toInt ex23
        have ix23 := hl_f1 x22.toNatClampNeg (cn (by omega) (by decide))
        have v24_a : AllI (upd f1 x15.toNatClampNeg x23) 240 0 10 := allI_upd hl_f1 (by omega) (by omega)
        refine va_iast hx hb hK hP hD hS 0 0 rfl rfl (q_in (a := x15.toInt) rfl (by omega) (by omega)) dX10_move_24 (fun H locs hP hD hS => ?_)
        have hP : va_P D vwCl [Prod.mk h0 (Sum.inl (Prod.mk (cy 0) (Prod.mk 240 (Sum.inl (upd f1 x15.toNatClampNeg x23)))))] H := hP
        have hD : va_D A [Prod.mk h0 (Sum.inl (Prod.mk (cy 0) (Prod.mk 240 (Sum.inl (upd f1 x15.toNatClampNeg x23)))))] := hD
        obtain ⟨x25, ex25⟩ : ∃ y : Int32, y = k + 1 := ⟨_, rfl⟩
        refine lv_iinc (v := x25) (lv' := [(4, .int x25), (0, .ref h0), (1, .int 60), (2, .int fr), (3, .int to)]) hx hb dX10_move_25 hl (k := 0) rfl (by rw [ex25]; rfl) (by decide) rfl (fun ls hl => ?_)
        have tx25 := q_add (p := k.toInt) (q := 1) ex25 rfl (by decide) (by omega) (by omega)
        refine lv_goto (tgt := 3) hx hb dX10_move_28 (by decide) ?_
        have hmv := mv_step (n := 60) (pa := 60 * a.toNat) (pb := 60 * b.toNat) hk0 (by omega) tx25 (by omega) (show x15.toInt = _ by omega) (show x22.toInt = _ by omega) ex23 hI1 hI2
        exact ih_3 x25 (upd f1 x15.toNatClampNeg x23) (by first | omega | decide | (rw [i32_0]; omega)) (by first | omega | decide | (rw [i32_0]; omega)) hmv.1 hmv.2 v24_a (by omega) H locs hP hD hS ls (lv_sub hl [0, 1, 2, 3, 4] rfl)
  exact lp_3 (60 + 1) 0 f (by first | omega | decide | (rw [i32_0]; omega) | (rw [i32_m1]; omega)) (by first | omega | decide | (rw [i32_0]; omega) | (rw [i32_m1]; omega)) (fun j hj => absurd hj (by rw [i32_0]; omega)) (fun j _ => rfl) hv_f (by first | omega | exact Nat.lt_succ_self _ | (rw [i32_0]; omega) | (rw [i32_1]; omega)) H locs hP hD hS ls (lv_sub hl [0, 1, 2, 3, 4] rfl)

abbrev Q_c_move_owner (D : va_G) (cy : Nat → ClassId) (E : EN) (h0 : Nat) (f : Nat → Int32) (fr : Int32) (to : Int32) (a : Int) (b : Int) : (Nat → Prop) → Array Value → State → Outcome → State → Prop := QV D cy (fun (g : (Nat → Int32)) => (∀ j : Nat, j < 600 → g (600 * b.toNat + j) = f (600 * a.toNat + j)) ∧ (∀ j : Nat, (j < 600 * b.toNat ∨ 600 * b.toNat + 600 ≤ j) → g j = f j)) (fun g : (Nat → Int32) => [Prod.mk h0 (Sum.inl (Prod.mk (cy 0) (Prod.mk 2400 (Sum.inl g))))])
set_option maxHeartbeats 4000000 in
set_option maxRecDepth 100000 in
theorem c_move_owner (l : Launch) (D : va_G) (cy : Nat → ClassId) (E : EN) (h0 : Nat) (f : Nat → Int32) (fr : Int32) (to : Int32) (a : Int) (b : Int) (sz : Nat) (ha : fr.toInt = a) (hb9 : to.toInt = b) (hfr : 0 ≤ a ∧ a ≤ 3) (hto : 0 ≤ b ∧ b ≤ 3) (hab : a ≠ b) : Met l yX10_move wsX10_move ({ frames := 0, cells := 0, slots := 0, locals := 0 } : Room) (CP D cy E [.ref h0, .int 600, .int fr, .int to] [Prod.mk h0 (Sum.inl (Prod.mk (cy 0) (Prod.mk 2400 (Sum.inl f))))] sz) (Q_c_move_owner D cy E h0 f fr to a b (va_A [Prod.mk h0 (Sum.inl (Prod.mk (cy 0) (Prod.mk 2400 (Sum.inl f))))] sz)) 0 0 (va_A [Prod.mk h0 (Sum.inl (Prod.mk (cy 0) (Prod.mk 2400 (Sum.inl f))))] sz) := by
  refine Met.go (Qc := Q_c_move_owner D cy E h0 f fr to a b) (cc := cX10_move) (maxL := 5) (ret := none) (by decide) rfl (Nat.le_of_ble_eq_true rfl) ?_
  intro p e s m below meth c hx hb hr hts hown hlocks hin hml hK hN A hA hAB hD hP hS ls hl hsz
  have hl : lv_has ls 5 [(0, .ref h0), (1, .int 600), (2, .int fr), (3, .int to)] := hl
  obtain ⟨H, eH⟩ : ∃ H : Heap, H = s.heap := ⟨_, rfl⟩
  obtain ⟨locs, eL⟩ : ∃ L : List Loc, L = [] := ⟨_, rfl⟩
  rw [← eL]
  rw [← eL] at hS
  have hP : va_P D vwCl [Prod.mk h0 (Sum.inl (Prod.mk (cy 0) (Prod.mk 2400 (Sum.inl f))))] H := by rw [eH]; exact hP
  have hS : va_S A s.heap H locs := by rw [eH]; exact hS
  refine W.heapEq eH ?_
  clear eH eL
  refine lv_iconst (v := 0) hx hb dX10_move_0 (by decide) ?_
  refine lv_istore (lv' := [(4, .int 0), (0, .ref h0), (1, .int 600), (2, .int fr), (3, .int to)]) hx hb dX10_move_1 hl (by decide) rfl (fun ls hl => ?_)
  have lp_3 : ∀ (n_3 : Nat) (k : Int32) (f1 : Nat → Int32), (0 ≤ k.toInt) → (k.toInt ≤ 600) → (∀ j : Nat, (j : Int) < k.toInt → f1 (600 * b.toNat + j) = f (600 * a.toNat + j)) → (∀ j : Nat, (j < 600 * b.toNat ∨ ((600 * b.toNat : Nat) : Int) + k.toInt ≤ j) → f1 j = f j) → (600 - k.toInt).toNat < n_3 → ∀ (H : Heap) (locs : List Loc), va_P D vwCl [Prod.mk h0 (Sum.inl (Prod.mk (cy 0) (Prod.mk 2400 (Sum.inl f1))))] H → va_D A [Prod.mk h0 (Sum.inl (Prod.mk (cy 0) (Prod.mk 2400 (Sum.inl f1))))] → va_S A s.heap H locs → ∀ ls : Array Slot, lv_has ls 5 [(4, .int k), (0, .ref h0), (1, .int 600), (2, .int fr), (3, .int to)] → W p l e (headSpec wsX10_move ({ frames := 0, cells := 0, slots := 0, locals := 0 } : Room)).room s m ([.ref h0, .int 600, .int fr, .int to] : List Value).toArray below meth c H locs 0 0 (MQ below (Q_c_move_owner D cy E h0 f fr to a b A) ([.ref h0, .int 600, .int fr, .int to] : List Value).toArray s 0 0 A) (F0 m 3 ls []) := by
    intro n_3
    induction n_3 with
    | zero => intro k f1 hk0 hk1 hI1 hI2 hmu; exact absurd hmu (Nat.not_lt_zero _)
    | succ n_3 ih_3 =>
      intro k f1 hk0 hk1 hI1 hI2 hmu_3 H locs hP hD hS ls hl
      refine lv_iload hx hb dX10_move_3 (lv_at hl 0 rfl) ?_
      refine lv_iload_n hx hb dX10_move_5 rfl (lv_at hl 2 rfl) ?_
      refine lv_icmp_ge (tgt := 31) hx hb dX10_move_6 (by decide) (fun c6 => ?_) (fun c6 => ?_)
      · skip
        have fc6 := q_le (a := 600) (b := k.toInt) c6 (by decide) rfl
        exact r_v hx hb hr hlocks hK hS dX10_move_31 (u := (f1)) hP hD (⟨fun j hj => hI1 j (by omega), fun j hj => hI2 j (by omega)⟩)
      · skip
        have fc6 := q_nle (a := 600) (b := k.toInt) c6 (by decide) rfl
        refine lv_aload_n hx hb dX10_move_9 rfl (lv_at hl 1 rfl) ?_
        refine lv_iload_n hx hb dX10_move_10 rfl (lv_at hl 2 rfl) ?_
        refine lv_iload_n hx hb dX10_move_11 rfl (lv_at hl 4 rfl) ?_
        refine lv_imul hx hb dX10_move_12 ?_
        refine lv_topi (fun x12 ex12 => ?_)
        have tx12 := q_mul (p := 600) (q := to.toInt) ex12 (by decide) rfl (by omega) (by omega)
        refine lv_iload hx hb dX10_move_13 (lv_at hl 0 rfl) ?_
        refine lv_iadd hx hb dX10_move_15 ?_
        refine lv_topi (fun x15 ex15 => ?_)
        have tx15 := q_add (p := x12.toInt) (q := k.toInt) ex15 rfl rfl (by omega) (by omega)
        refine lv_aload_n hx hb dX10_move_16 rfl (lv_at hl 1 rfl) ?_
        refine lv_iload_n hx hb dX10_move_17 rfl (lv_at hl 2 rfl) ?_
        refine lv_iload_n hx hb dX10_move_18 rfl (lv_at hl 3 rfl) ?_
        refine lv_imul hx hb dX10_move_19 ?_
        refine lv_topi (fun x19 ex19 => ?_)
        have tx19 := q_mul (p := 600) (q := fr.toInt) ex19 (by decide) rfl (by omega) (by omega)
        refine lv_iload hx hb dX10_move_20 (lv_at hl 0 rfl) ?_
        refine lv_iadd hx hb dX10_move_22 ?_
        refine lv_topi (fun x22 ex22 => ?_)
        have tx22 := q_add (p := x19.toInt) (q := k.toInt) ex22 rfl rfl (by omega) (by omega)
        refine va_iald hx hb hK hP 0 0 rfl rfl (q_in (a := x22.toInt) rfl (by omega) (by omega)) dX10_move_23 ?_
        refine lv_topi (fun x23 ex23 => ?_)
        have tx23 := congrArg Int32.toInt ex23
        refine va_iast hx hb hK hP hD hS 0 0 rfl rfl (q_in (a := x15.toInt) rfl (by omega) (by omega)) dX10_move_24 (fun H locs hP hD hS => ?_)
        have hP : va_P D vwCl [Prod.mk h0 (Sum.inl (Prod.mk (cy 0) (Prod.mk 2400 (Sum.inl (upd f1 x15.toNatClampNeg x23)))))] H := hP
        have hD : va_D A [Prod.mk h0 (Sum.inl (Prod.mk (cy 0) (Prod.mk 2400 (Sum.inl (upd f1 x15.toNatClampNeg x23)))))] := hD
        obtain ⟨x25, ex25⟩ : ∃ y : Int32, y = k + 1 := ⟨_, rfl⟩
        refine lv_iinc (v := x25) (lv' := [(4, .int x25), (0, .ref h0), (1, .int 600), (2, .int fr), (3, .int to)]) hx hb dX10_move_25 hl (k := 0) rfl (by rw [ex25]; rfl) (by decide) rfl (fun ls hl => ?_)
        have tx25 := q_add (p := k.toInt) (q := 1) ex25 rfl (by decide) (by omega) (by omega)
        refine lv_goto (tgt := 3) hx hb dX10_move_28 (by decide) ?_
        have hmv := mv_step (n := 600) (pa := 600 * a.toNat) (pb := 600 * b.toNat) hk0 (by omega) tx25 (by omega) (show x15.toInt = _ by omega) (show x22.toInt = _ by omega) ex23 hI1 hI2
        exact ih_3 x25 (upd f1 x15.toNatClampNeg x23) (by first | omega | decide | (rw [i32_0]; omega)) (by first | omega | decide | (rw [i32_0]; omega)) hmv.1 hmv.2 (by omega) H locs hP hD hS ls (lv_sub hl [0, 1, 2, 3, 4] rfl)
  exact lp_3 (600 + 1) 0 f (by first | omega | decide | (rw [i32_0]; omega) | (rw [i32_m1]; omega)) (by first | omega | decide | (rw [i32_0]; omega) | (rw [i32_m1]; omega)) (fun j hj => absurd hj (by rw [i32_0]; omega)) (fun j _ => rfl) (by first | omega | exact Nat.lt_succ_self _ | (rw [i32_0]; omega) | (rw [i32_1]; omega)) H locs hP hD hS ls (lv_sub hl [0, 1, 2, 3, 4] rfl)

abbrev Q_c_move_lies (D : va_G) (cy : Nat → ClassId) (E : EN) (h0 : Nat) (f : Nat → Int32) (fr : Int32) (to : Int32) (a : Int) (b : Int) : (Nat → Prop) → Array Value → State → Outcome → State → Prop := QV D cy (fun (g : (Nat → Int32)) => (∀ j : Nat, j < 5400 → g (5400 * b.toNat + j) = f (5400 * a.toNat + j)) ∧ (∀ j : Nat, (j < 5400 * b.toNat ∨ 5400 * b.toNat + 5400 ≤ j) → g j = f j)) (fun g : (Nat → Int32) => [Prod.mk h0 (Sum.inl (Prod.mk (cy 0) (Prod.mk 21600 (Sum.inl g))))])
set_option maxHeartbeats 4000000 in
set_option maxRecDepth 100000 in
theorem c_move_lies (l : Launch) (D : va_G) (cy : Nat → ClassId) (E : EN) (h0 : Nat) (f : Nat → Int32) (fr : Int32) (to : Int32) (a : Int) (b : Int) (sz : Nat) (ha : fr.toInt = a) (hb9 : to.toInt = b) (hfr : 0 ≤ a ∧ a ≤ 3) (hto : 0 ≤ b ∧ b ≤ 3) (hab : a ≠ b) : Met l yX10_move wsX10_move ({ frames := 0, cells := 0, slots := 0, locals := 0 } : Room) (CP D cy E [.ref h0, .int 5400, .int fr, .int to] [Prod.mk h0 (Sum.inl (Prod.mk (cy 0) (Prod.mk 21600 (Sum.inl f))))] sz) (Q_c_move_lies D cy E h0 f fr to a b (va_A [Prod.mk h0 (Sum.inl (Prod.mk (cy 0) (Prod.mk 21600 (Sum.inl f))))] sz)) 0 0 (va_A [Prod.mk h0 (Sum.inl (Prod.mk (cy 0) (Prod.mk 21600 (Sum.inl f))))] sz) := by
  refine Met.go (Qc := Q_c_move_lies D cy E h0 f fr to a b) (cc := cX10_move) (maxL := 5) (ret := none) (by decide) rfl (Nat.le_of_ble_eq_true rfl) ?_
  intro p e s m below meth c hx hb hr hts hown hlocks hin hml hK hN A hA hAB hD hP hS ls hl hsz
  have hl : lv_has ls 5 [(0, .ref h0), (1, .int 5400), (2, .int fr), (3, .int to)] := hl
  obtain ⟨H, eH⟩ : ∃ H : Heap, H = s.heap := ⟨_, rfl⟩
  obtain ⟨locs, eL⟩ : ∃ L : List Loc, L = [] := ⟨_, rfl⟩
  rw [← eL]
  rw [← eL] at hS
  have hP : va_P D vwCl [Prod.mk h0 (Sum.inl (Prod.mk (cy 0) (Prod.mk 21600 (Sum.inl f))))] H := by rw [eH]; exact hP
  have hS : va_S A s.heap H locs := by rw [eH]; exact hS
  refine W.heapEq eH ?_
  clear eH eL
  refine lv_iconst (v := 0) hx hb dX10_move_0 (by decide) ?_
  refine lv_istore (lv' := [(4, .int 0), (0, .ref h0), (1, .int 5400), (2, .int fr), (3, .int to)]) hx hb dX10_move_1 hl (by decide) rfl (fun ls hl => ?_)
  have lp_3 : ∀ (n_3 : Nat) (k : Int32) (f1 : Nat → Int32), (0 ≤ k.toInt) → (k.toInt ≤ 5400) → (∀ j : Nat, (j : Int) < k.toInt → f1 (5400 * b.toNat + j) = f (5400 * a.toNat + j)) → (∀ j : Nat, (j < 5400 * b.toNat ∨ ((5400 * b.toNat : Nat) : Int) + k.toInt ≤ j) → f1 j = f j) → (5400 - k.toInt).toNat < n_3 → ∀ (H : Heap) (locs : List Loc), va_P D vwCl [Prod.mk h0 (Sum.inl (Prod.mk (cy 0) (Prod.mk 21600 (Sum.inl f1))))] H → va_D A [Prod.mk h0 (Sum.inl (Prod.mk (cy 0) (Prod.mk 21600 (Sum.inl f1))))] → va_S A s.heap H locs → ∀ ls : Array Slot, lv_has ls 5 [(4, .int k), (0, .ref h0), (1, .int 5400), (2, .int fr), (3, .int to)] → W p l e (headSpec wsX10_move ({ frames := 0, cells := 0, slots := 0, locals := 0 } : Room)).room s m ([.ref h0, .int 5400, .int fr, .int to] : List Value).toArray below meth c H locs 0 0 (MQ below (Q_c_move_lies D cy E h0 f fr to a b A) ([.ref h0, .int 5400, .int fr, .int to] : List Value).toArray s 0 0 A) (F0 m 3 ls []) := by
    intro n_3
    induction n_3 with
    | zero => intro k f1 hk0 hk1 hI1 hI2 hmu; exact absurd hmu (Nat.not_lt_zero _)
    | succ n_3 ih_3 =>
      intro k f1 hk0 hk1 hI1 hI2 hmu_3 H locs hP hD hS ls hl
      refine lv_iload hx hb dX10_move_3 (lv_at hl 0 rfl) ?_
      refine lv_iload_n hx hb dX10_move_5 rfl (lv_at hl 2 rfl) ?_
      refine lv_icmp_ge (tgt := 31) hx hb dX10_move_6 (by decide) (fun c6 => ?_) (fun c6 => ?_)
      · skip
        have fc6 := q_le (a := 5400) (b := k.toInt) c6 (by decide) rfl
        exact r_v hx hb hr hlocks hK hS dX10_move_31 (u := (f1)) hP hD (⟨fun j hj => hI1 j (by omega), fun j hj => hI2 j (by omega)⟩)
      · skip
        have fc6 := q_nle (a := 5400) (b := k.toInt) c6 (by decide) rfl
        refine lv_aload_n hx hb dX10_move_9 rfl (lv_at hl 1 rfl) ?_
        refine lv_iload_n hx hb dX10_move_10 rfl (lv_at hl 2 rfl) ?_
        refine lv_iload_n hx hb dX10_move_11 rfl (lv_at hl 4 rfl) ?_
        refine lv_imul hx hb dX10_move_12 ?_
        refine lv_topi (fun x12 ex12 => ?_)
        have tx12 := q_mul (p := 5400) (q := to.toInt) ex12 (by decide) rfl (by omega) (by omega)
        refine lv_iload hx hb dX10_move_13 (lv_at hl 0 rfl) ?_
        refine lv_iadd hx hb dX10_move_15 ?_
        refine lv_topi (fun x15 ex15 => ?_)
        have tx15 := q_add (p := x12.toInt) (q := k.toInt) ex15 rfl rfl (by omega) (by omega)
        refine lv_aload_n hx hb dX10_move_16 rfl (lv_at hl 1 rfl) ?_
        refine lv_iload_n hx hb dX10_move_17 rfl (lv_at hl 2 rfl) ?_
        refine lv_iload_n hx hb dX10_move_18 rfl (lv_at hl 3 rfl) ?_
        refine lv_imul hx hb dX10_move_19 ?_
        refine lv_topi (fun x19 ex19 => ?_)
        have tx19 := q_mul (p := 5400) (q := fr.toInt) ex19 (by decide) rfl (by omega) (by omega)
        refine lv_iload hx hb dX10_move_20 (lv_at hl 0 rfl) ?_
        refine lv_iadd hx hb dX10_move_22 ?_
        refine lv_topi (fun x22 ex22 => ?_)
        have tx22 := q_add (p := x19.toInt) (q := k.toInt) ex22 rfl rfl (by omega) (by omega)
        refine va_iald hx hb hK hP 0 0 rfl rfl (q_in (a := x22.toInt) rfl (by omega) (by omega)) dX10_move_23 ?_
        refine lv_topi (fun x23 ex23 => ?_)
        have tx23 := congrArg Int32.toInt ex23
        refine va_iast hx hb hK hP hD hS 0 0 rfl rfl (q_in (a := x15.toInt) rfl (by omega) (by omega)) dX10_move_24 (fun H locs hP hD hS => ?_)
        have hP : va_P D vwCl [Prod.mk h0 (Sum.inl (Prod.mk (cy 0) (Prod.mk 21600 (Sum.inl (upd f1 x15.toNatClampNeg x23)))))] H := hP
        have hD : va_D A [Prod.mk h0 (Sum.inl (Prod.mk (cy 0) (Prod.mk 21600 (Sum.inl (upd f1 x15.toNatClampNeg x23)))))] := hD
        obtain ⟨x25, ex25⟩ : ∃ y : Int32, y = k + 1 := ⟨_, rfl⟩
        refine lv_iinc (v := x25) (lv' := [(4, .int x25), (0, .ref h0), (1, .int 5400), (2, .int fr), (3, .int to)]) hx hb dX10_move_25 hl (k := 0) rfl (by rw [ex25]; rfl) (by decide) rfl (fun ls hl => ?_)
        have tx25 := q_add (p := k.toInt) (q := 1) ex25 rfl (by decide) (by omega) (by omega)
        refine lv_goto (tgt := 3) hx hb dX10_move_28 (by decide) ?_
        have hmv := mv_step (n := 5400) (pa := 5400 * a.toNat) (pb := 5400 * b.toNat) hk0 (by omega) tx25 (by omega) (show x15.toInt = _ by omega) (show x22.toInt = _ by omega) ex23 hI1 hI2
        exact ih_3 x25 (upd f1 x15.toNatClampNeg x23) (by first | omega | decide | (rw [i32_0]; omega)) (by first | omega | decide | (rw [i32_0]; omega)) hmv.1 hmv.2 (by omega) H locs hP hD hS ls (lv_sub hl [0, 1, 2, 3, 4] rfl)
  exact lp_3 (5400 + 1) 0 f (by first | omega | decide | (rw [i32_0]; omega) | (rw [i32_m1]; omega)) (by first | omega | decide | (rw [i32_0]; omega) | (rw [i32_m1]; omega)) (fun j hj => absurd hj (by rw [i32_0]; omega)) (fun j _ => rfl) (by first | omega | exact Nat.lt_succ_self _ | (rw [i32_0]; omega) | (rw [i32_1]; omega)) H locs hP hD hS ls (lv_sub hl [0, 1, 2, 3, 4] rfl)

abbrev Q_c_move_tickets (D : va_G) (cy : Nat → ClassId) (E : EN) (h0 : Nat) (f : Nat → Int32) (fr : Int32) (to : Int32) (a : Int) (b : Int) : (Nat → Prop) → Array Value → State → Outcome → State → Prop := QV D cy (fun (g : (Nat → Int32)) => ((∀ j : Nat, j < 1 → g (1 * b.toNat + j) = f (1 * a.toNat + j)) ∧ (∀ j : Nat, (j < 1 * b.toNat ∨ 1 * b.toNat + 1 ≤ j) → g j = f j)) ∧ AllI g 4 0 300) (fun g : (Nat → Int32) => [Prod.mk h0 (Sum.inl (Prod.mk (cy 0) (Prod.mk 4 (Sum.inl g))))])
set_option maxHeartbeats 4000000 in
set_option maxRecDepth 100000 in
theorem c_move_tickets (l : Launch) (D : va_G) (cy : Nat → ClassId) (E : EN) (h0 : Nat) (f : Nat → Int32) (fr : Int32) (to : Int32) (a : Int) (b : Int) (sz : Nat) (ha : fr.toInt = a) (hb9 : to.toInt = b) (hfr : 0 ≤ a ∧ a ≤ 3) (hto : 0 ≤ b ∧ b ≤ 3) (hab : a ≠ b) (hv_f : AllI f 4 0 300) : Met l yX10_move wsX10_move ({ frames := 0, cells := 0, slots := 0, locals := 0 } : Room) (CP D cy E [.ref h0, .int 1, .int fr, .int to] [Prod.mk h0 (Sum.inl (Prod.mk (cy 0) (Prod.mk 4 (Sum.inl f))))] sz) (Q_c_move_tickets D cy E h0 f fr to a b (va_A [Prod.mk h0 (Sum.inl (Prod.mk (cy 0) (Prod.mk 4 (Sum.inl f))))] sz)) 0 0 (va_A [Prod.mk h0 (Sum.inl (Prod.mk (cy 0) (Prod.mk 4 (Sum.inl f))))] sz) := by
  refine Met.go (Qc := Q_c_move_tickets D cy E h0 f fr to a b) (cc := cX10_move) (maxL := 5) (ret := none) (by decide) rfl (Nat.le_of_ble_eq_true rfl) ?_
  intro p e s m below meth c hx hb hr hts hown hlocks hin hml hK hN A hA hAB hD hP hS ls hl hsz
  have hl : lv_has ls 5 [(0, .ref h0), (1, .int 1), (2, .int fr), (3, .int to)] := hl
  obtain ⟨H, eH⟩ : ∃ H : Heap, H = s.heap := ⟨_, rfl⟩
  obtain ⟨locs, eL⟩ : ∃ L : List Loc, L = [] := ⟨_, rfl⟩
  rw [← eL]
  rw [← eL] at hS
  have hP : va_P D vwCl [Prod.mk h0 (Sum.inl (Prod.mk (cy 0) (Prod.mk 4 (Sum.inl f))))] H := by rw [eH]; exact hP
  have hS : va_S A s.heap H locs := by rw [eH]; exact hS
  refine W.heapEq eH ?_
  clear eH eL
  refine lv_iconst (v := 0) hx hb dX10_move_0 (by decide) ?_
  refine lv_istore (lv' := [(4, .int 0), (0, .ref h0), (1, .int 1), (2, .int fr), (3, .int to)]) hx hb dX10_move_1 hl (by decide) rfl (fun ls hl => ?_)
  have lp_3 : ∀ (n_3 : Nat) (k : Int32) (f1 : Nat → Int32), (0 ≤ k.toInt) → (k.toInt ≤ 1) → (∀ j : Nat, (j : Int) < k.toInt → f1 (1 * b.toNat + j) = f (1 * a.toNat + j)) → (∀ j : Nat, (j < 1 * b.toNat ∨ ((1 * b.toNat : Nat) : Int) + k.toInt ≤ j) → f1 j = f j) → (AllI f1 4 0 300) → (1 - k.toInt).toNat < n_3 → ∀ (H : Heap) (locs : List Loc), va_P D vwCl [Prod.mk h0 (Sum.inl (Prod.mk (cy 0) (Prod.mk 4 (Sum.inl f1))))] H → va_D A [Prod.mk h0 (Sum.inl (Prod.mk (cy 0) (Prod.mk 4 (Sum.inl f1))))] → va_S A s.heap H locs → ∀ ls : Array Slot, lv_has ls 5 [(4, .int k), (0, .ref h0), (1, .int 1), (2, .int fr), (3, .int to)] → W p l e (headSpec wsX10_move ({ frames := 0, cells := 0, slots := 0, locals := 0 } : Room)).room s m ([.ref h0, .int 1, .int fr, .int to] : List Value).toArray below meth c H locs 0 0 (MQ below (Q_c_move_tickets D cy E h0 f fr to a b A) ([.ref h0, .int 1, .int fr, .int to] : List Value).toArray s 0 0 A) (F0 m 3 ls []) := by
    intro n_3
    induction n_3 with
    | zero => intro k f1 hk0 hk1 hI1 hI2 hl_f1 hmu; exact absurd hmu (Nat.not_lt_zero _)
    | succ n_3 ih_3 =>
      intro k f1 hk0 hk1 hI1 hI2 hl_f1 hmu_3 H locs hP hD hS ls hl
      refine lv_iload hx hb dX10_move_3 (lv_at hl 0 rfl) ?_
      refine lv_iload_n hx hb dX10_move_5 rfl (lv_at hl 2 rfl) ?_
      refine lv_icmp_ge (tgt := 31) hx hb dX10_move_6 (by decide) (fun c6 => ?_) (fun c6 => ?_)
      · skip
        have fc6 := q_le (a := 1) (b := k.toInt) c6 (by decide) rfl
        exact r_v hx hb hr hlocks hK hS dX10_move_31 (u := (f1)) hP hD (⟨⟨fun j hj => hI1 j (by omega), fun j hj => hI2 j (by omega)⟩, hl_f1⟩)
      · skip
        have fc6 := q_nle (a := 1) (b := k.toInt) c6 (by decide) rfl
        refine lv_aload_n hx hb dX10_move_9 rfl (lv_at hl 1 rfl) ?_
        refine lv_iload_n hx hb dX10_move_10 rfl (lv_at hl 2 rfl) ?_
        refine lv_iload_n hx hb dX10_move_11 rfl (lv_at hl 4 rfl) ?_
        refine lv_imul hx hb dX10_move_12 ?_
        refine lv_topi (fun x12 ex12 => ?_)
        have tx12 := q_mul (p := 1) (q := to.toInt) ex12 (by decide) rfl (by omega) (by omega)
        refine lv_iload hx hb dX10_move_13 (lv_at hl 0 rfl) ?_
        refine lv_iadd hx hb dX10_move_15 ?_
        refine lv_topi (fun x15 ex15 => ?_)
        have tx15 := q_add (p := x12.toInt) (q := k.toInt) ex15 rfl rfl (by omega) (by omega)
        refine lv_aload_n hx hb dX10_move_16 rfl (lv_at hl 1 rfl) ?_
        refine lv_iload_n hx hb dX10_move_17 rfl (lv_at hl 2 rfl) ?_
        refine lv_iload_n hx hb dX10_move_18 rfl (lv_at hl 3 rfl) ?_
        refine lv_imul hx hb dX10_move_19 ?_
        refine lv_topi (fun x19 ex19 => ?_)
        have tx19 := q_mul (p := 1) (q := fr.toInt) ex19 (by decide) rfl (by omega) (by omega)
        refine lv_iload hx hb dX10_move_20 (lv_at hl 0 rfl) ?_
        refine lv_iadd hx hb dX10_move_22 ?_
        refine lv_topi (fun x22 ex22 => ?_)
        have tx22 := q_add (p := x19.toInt) (q := k.toInt) ex22 rfl rfl (by omega) (by omega)
        refine va_iald hx hb hK hP 0 0 rfl rfl (q_in (a := x22.toInt) rfl (by omega) (by omega)) dX10_move_23 ?_
        refine lv_topi (fun x23 ex23 => ?_)
        have tx23 := congrArg Int32.toInt ex23
        have ix23 := hl_f1 x22.toNatClampNeg (cn (by omega) (by decide))
        have v24_a : AllI (upd f1 x15.toNatClampNeg x23) 4 0 300 := allI_upd hl_f1 (by omega) (by omega)
        refine va_iast hx hb hK hP hD hS 0 0 rfl rfl (q_in (a := x15.toInt) rfl (by omega) (by omega)) dX10_move_24 (fun H locs hP hD hS => ?_)
        have hP : va_P D vwCl [Prod.mk h0 (Sum.inl (Prod.mk (cy 0) (Prod.mk 4 (Sum.inl (upd f1 x15.toNatClampNeg x23)))))] H := hP
        have hD : va_D A [Prod.mk h0 (Sum.inl (Prod.mk (cy 0) (Prod.mk 4 (Sum.inl (upd f1 x15.toNatClampNeg x23)))))] := hD
        obtain ⟨x25, ex25⟩ : ∃ y : Int32, y = k + 1 := ⟨_, rfl⟩
        refine lv_iinc (v := x25) (lv' := [(4, .int x25), (0, .ref h0), (1, .int 1), (2, .int fr), (3, .int to)]) hx hb dX10_move_25 hl (k := 0) rfl (by rw [ex25]; rfl) (by decide) rfl (fun ls hl => ?_)
        have tx25 := q_add (p := k.toInt) (q := 1) ex25 rfl (by decide) (by omega) (by omega)
        refine lv_goto (tgt := 3) hx hb dX10_move_28 (by decide) ?_
        have hmv := mv_step (n := 1) (pa := 1 * a.toNat) (pb := 1 * b.toNat) hk0 (by omega) tx25 (by omega) (show x15.toInt = _ by omega) (show x22.toInt = _ by omega) ex23 hI1 hI2
        exact ih_3 x25 (upd f1 x15.toNatClampNeg x23) (by first | omega | decide | (rw [i32_0]; omega)) (by first | omega | decide | (rw [i32_0]; omega)) hmv.1 hmv.2 v24_a (by omega) H locs hP hD hS ls (lv_sub hl [0, 1, 2, 3, 4] rfl)
  exact lp_3 (1 + 1) 0 f (by first | omega | decide | (rw [i32_0]; omega) | (rw [i32_m1]; omega)) (by first | omega | decide | (rw [i32_0]; omega) | (rw [i32_m1]; omega)) (fun j hj => absurd hj (by rw [i32_0]; omega)) (fun j _ => rfl) hv_f (by first | omega | exact Nat.lt_succ_self _ | (rw [i32_0]; omega) | (rw [i32_1]; omega)) H locs hP hD hS ls (lv_sub hl [0, 1, 2, 3, 4] rfl)

abbrev Q_c_move_tDay (D : va_G) (cy : Nat → ClassId) (E : EN) (h0 : Nat) (f : Nat → Int32) (fr : Int32) (to : Int32) (a : Int) (b : Int) : (Nat → Prop) → Array Value → State → Outcome → State → Prop := QV D cy (fun (g : (Nat → Int32)) => ((∀ j : Nat, j < 300 → g (300 * b.toNat + j) = f (300 * a.toNat + j)) ∧ (∀ j : Nat, (j < 300 * b.toNat ∨ 300 * b.toNat + 300 ≤ j) → g j = f j)) ∧ AllI g 1200 0 59) (fun g : (Nat → Int32) => [Prod.mk h0 (Sum.inl (Prod.mk (cy 0) (Prod.mk 1200 (Sum.inl g))))])
set_option maxHeartbeats 4000000 in
set_option maxRecDepth 100000 in
theorem c_move_tDay (l : Launch) (D : va_G) (cy : Nat → ClassId) (E : EN) (h0 : Nat) (f : Nat → Int32) (fr : Int32) (to : Int32) (a : Int) (b : Int) (sz : Nat) (ha : fr.toInt = a) (hb9 : to.toInt = b) (hfr : 0 ≤ a ∧ a ≤ 3) (hto : 0 ≤ b ∧ b ≤ 3) (hab : a ≠ b) (hv_f : AllI f 1200 0 59) : Met l yX10_move wsX10_move ({ frames := 0, cells := 0, slots := 0, locals := 0 } : Room) (CP D cy E [.ref h0, .int 300, .int fr, .int to] [Prod.mk h0 (Sum.inl (Prod.mk (cy 0) (Prod.mk 1200 (Sum.inl f))))] sz) (Q_c_move_tDay D cy E h0 f fr to a b (va_A [Prod.mk h0 (Sum.inl (Prod.mk (cy 0) (Prod.mk 1200 (Sum.inl f))))] sz)) 0 0 (va_A [Prod.mk h0 (Sum.inl (Prod.mk (cy 0) (Prod.mk 1200 (Sum.inl f))))] sz) := by
  refine Met.go (Qc := Q_c_move_tDay D cy E h0 f fr to a b) (cc := cX10_move) (maxL := 5) (ret := none) (by decide) rfl (Nat.le_of_ble_eq_true rfl) ?_
  intro p e s m below meth c hx hb hr hts hown hlocks hin hml hK hN A hA hAB hD hP hS ls hl hsz
  have hl : lv_has ls 5 [(0, .ref h0), (1, .int 300), (2, .int fr), (3, .int to)] := hl
  obtain ⟨H, eH⟩ : ∃ H : Heap, H = s.heap := ⟨_, rfl⟩
  obtain ⟨locs, eL⟩ : ∃ L : List Loc, L = [] := ⟨_, rfl⟩
  rw [← eL]
  rw [← eL] at hS
  have hP : va_P D vwCl [Prod.mk h0 (Sum.inl (Prod.mk (cy 0) (Prod.mk 1200 (Sum.inl f))))] H := by rw [eH]; exact hP
  have hS : va_S A s.heap H locs := by rw [eH]; exact hS
  refine W.heapEq eH ?_
  clear eH eL
  refine lv_iconst (v := 0) hx hb dX10_move_0 (by decide) ?_
  refine lv_istore (lv' := [(4, .int 0), (0, .ref h0), (1, .int 300), (2, .int fr), (3, .int to)]) hx hb dX10_move_1 hl (by decide) rfl (fun ls hl => ?_)
  have lp_3 : ∀ (n_3 : Nat) (k : Int32) (f1 : Nat → Int32), (0 ≤ k.toInt) → (k.toInt ≤ 300) → (∀ j : Nat, (j : Int) < k.toInt → f1 (300 * b.toNat + j) = f (300 * a.toNat + j)) → (∀ j : Nat, (j < 300 * b.toNat ∨ ((300 * b.toNat : Nat) : Int) + k.toInt ≤ j) → f1 j = f j) → (AllI f1 1200 0 59) → (300 - k.toInt).toNat < n_3 → ∀ (H : Heap) (locs : List Loc), va_P D vwCl [Prod.mk h0 (Sum.inl (Prod.mk (cy 0) (Prod.mk 1200 (Sum.inl f1))))] H → va_D A [Prod.mk h0 (Sum.inl (Prod.mk (cy 0) (Prod.mk 1200 (Sum.inl f1))))] → va_S A s.heap H locs → ∀ ls : Array Slot, lv_has ls 5 [(4, .int k), (0, .ref h0), (1, .int 300), (2, .int fr), (3, .int to)] → W p l e (headSpec wsX10_move ({ frames := 0, cells := 0, slots := 0, locals := 0 } : Room)).room s m ([.ref h0, .int 300, .int fr, .int to] : List Value).toArray below meth c H locs 0 0 (MQ below (Q_c_move_tDay D cy E h0 f fr to a b A) ([.ref h0, .int 300, .int fr, .int to] : List Value).toArray s 0 0 A) (F0 m 3 ls []) := by
    intro n_3
    induction n_3 with
    | zero => intro k f1 hk0 hk1 hI1 hI2 hl_f1 hmu; exact absurd hmu (Nat.not_lt_zero _)
    | succ n_3 ih_3 =>
      intro k f1 hk0 hk1 hI1 hI2 hl_f1 hmu_3 H locs hP hD hS ls hl
      refine lv_iload hx hb dX10_move_3 (lv_at hl 0 rfl) ?_
      refine lv_iload_n hx hb dX10_move_5 rfl (lv_at hl 2 rfl) ?_
      refine lv_icmp_ge (tgt := 31) hx hb dX10_move_6 (by decide) (fun c6 => ?_) (fun c6 => ?_)
      · skip
        have fc6 := q_le (a := 300) (b := k.toInt) c6 (by decide) rfl
        exact r_v hx hb hr hlocks hK hS dX10_move_31 (u := (f1)) hP hD (⟨⟨fun j hj => hI1 j (by omega), fun j hj => hI2 j (by omega)⟩, hl_f1⟩)
      · skip
        have fc6 := q_nle (a := 300) (b := k.toInt) c6 (by decide) rfl
        refine lv_aload_n hx hb dX10_move_9 rfl (lv_at hl 1 rfl) ?_
        refine lv_iload_n hx hb dX10_move_10 rfl (lv_at hl 2 rfl) ?_
        refine lv_iload_n hx hb dX10_move_11 rfl (lv_at hl 4 rfl) ?_
        refine lv_imul hx hb dX10_move_12 ?_
        refine lv_topi (fun x12 ex12 => ?_)
        have tx12 := q_mul (p := 300) (q := to.toInt) ex12 (by decide) rfl (by omega) (by omega)
        refine lv_iload hx hb dX10_move_13 (lv_at hl 0 rfl) ?_
        refine lv_iadd hx hb dX10_move_15 ?_
        refine lv_topi (fun x15 ex15 => ?_)
        have tx15 := q_add (p := x12.toInt) (q := k.toInt) ex15 rfl rfl (by omega) (by omega)
        refine lv_aload_n hx hb dX10_move_16 rfl (lv_at hl 1 rfl) ?_
        refine lv_iload_n hx hb dX10_move_17 rfl (lv_at hl 2 rfl) ?_
        refine lv_iload_n hx hb dX10_move_18 rfl (lv_at hl 3 rfl) ?_
        refine lv_imul hx hb dX10_move_19 ?_
        refine lv_topi (fun x19 ex19 => ?_)
        have tx19 := q_mul (p := 300) (q := fr.toInt) ex19 (by decide) rfl (by omega) (by omega)
        refine lv_iload hx hb dX10_move_20 (lv_at hl 0 rfl) ?_
        refine lv_iadd hx hb dX10_move_22 ?_
        refine lv_topi (fun x22 ex22 => ?_)
        have tx22 := q_add (p := x19.toInt) (q := k.toInt) ex22 rfl rfl (by omega) (by omega)
        refine va_iald hx hb hK hP 0 0 rfl rfl (q_in (a := x22.toInt) rfl (by omega) (by omega)) dX10_move_23 ?_
        refine lv_topi (fun x23 ex23 => ?_)
        have tx23 := congrArg Int32.toInt ex23
        have ix23 := hl_f1 x22.toNatClampNeg (cn (by omega) (by decide))
        have v24_a : AllI (upd f1 x15.toNatClampNeg x23) 1200 0 59 := allI_upd hl_f1 (by omega) (by omega)
        refine va_iast hx hb hK hP hD hS 0 0 rfl rfl (q_in (a := x15.toInt) rfl (by omega) (by omega)) dX10_move_24 (fun H locs hP hD hS => ?_)
        have hP : va_P D vwCl [Prod.mk h0 (Sum.inl (Prod.mk (cy 0) (Prod.mk 1200 (Sum.inl (upd f1 x15.toNatClampNeg x23)))))] H := hP
        have hD : va_D A [Prod.mk h0 (Sum.inl (Prod.mk (cy 0) (Prod.mk 1200 (Sum.inl (upd f1 x15.toNatClampNeg x23)))))] := hD
        obtain ⟨x25, ex25⟩ : ∃ y : Int32, y = k + 1 := ⟨_, rfl⟩
        refine lv_iinc (v := x25) (lv' := [(4, .int x25), (0, .ref h0), (1, .int 300), (2, .int fr), (3, .int to)]) hx hb dX10_move_25 hl (k := 0) rfl (by rw [ex25]; rfl) (by decide) rfl (fun ls hl => ?_)
        have tx25 := q_add (p := k.toInt) (q := 1) ex25 rfl (by decide) (by omega) (by omega)
        refine lv_goto (tgt := 3) hx hb dX10_move_28 (by decide) ?_
        have hmv := mv_step (n := 300) (pa := 300 * a.toNat) (pb := 300 * b.toNat) hk0 (by omega) tx25 (by omega) (show x15.toInt = _ by omega) (show x22.toInt = _ by omega) ex23 hI1 hI2
        exact ih_3 x25 (upd f1 x15.toNatClampNeg x23) (by first | omega | decide | (rw [i32_0]; omega)) (by first | omega | decide | (rw [i32_0]; omega)) hmv.1 hmv.2 v24_a (by omega) H locs hP hD hS ls (lv_sub hl [0, 1, 2, 3, 4] rfl)
  exact lp_3 (300 + 1) 0 f (by first | omega | decide | (rw [i32_0]; omega) | (rw [i32_m1]; omega)) (by first | omega | decide | (rw [i32_0]; omega) | (rw [i32_m1]; omega)) (fun j hj => absurd hj (by rw [i32_0]; omega)) (fun j _ => rfl) hv_f (by first | omega | exact Nat.lt_succ_self _ | (rw [i32_0]; omega) | (rw [i32_1]; omega)) H locs hP hD hS ls (lv_sub hl [0, 1, 2, 3, 4] rfl)

abbrev Q_c_move_tBerth (D : va_G) (cy : Nat → ClassId) (E : EN) (h0 : Nat) (f : Nat → Int32) (fr : Int32) (to : Int32) (a : Int) (b : Int) : (Nat → Prop) → Array Value → State → Outcome → State → Prop := QV D cy (fun (g : (Nat → Int32)) => ((∀ j : Nat, j < 300 → g (300 * b.toNat + j) = f (300 * a.toNat + j)) ∧ (∀ j : Nat, (j < 300 * b.toNat ∨ 300 * b.toNat + 300 ≤ j) → g j = f j)) ∧ AllI g 1200 0 9) (fun g : (Nat → Int32) => [Prod.mk h0 (Sum.inl (Prod.mk (cy 0) (Prod.mk 1200 (Sum.inl g))))])
set_option maxHeartbeats 4000000 in
set_option maxRecDepth 100000 in
theorem c_move_tBerth (l : Launch) (D : va_G) (cy : Nat → ClassId) (E : EN) (h0 : Nat) (f : Nat → Int32) (fr : Int32) (to : Int32) (a : Int) (b : Int) (sz : Nat) (ha : fr.toInt = a) (hb9 : to.toInt = b) (hfr : 0 ≤ a ∧ a ≤ 3) (hto : 0 ≤ b ∧ b ≤ 3) (hab : a ≠ b) (hv_f : AllI f 1200 0 9) : Met l yX10_move wsX10_move ({ frames := 0, cells := 0, slots := 0, locals := 0 } : Room) (CP D cy E [.ref h0, .int 300, .int fr, .int to] [Prod.mk h0 (Sum.inl (Prod.mk (cy 0) (Prod.mk 1200 (Sum.inl f))))] sz) (Q_c_move_tBerth D cy E h0 f fr to a b (va_A [Prod.mk h0 (Sum.inl (Prod.mk (cy 0) (Prod.mk 1200 (Sum.inl f))))] sz)) 0 0 (va_A [Prod.mk h0 (Sum.inl (Prod.mk (cy 0) (Prod.mk 1200 (Sum.inl f))))] sz) := by
  refine Met.go (Qc := Q_c_move_tBerth D cy E h0 f fr to a b) (cc := cX10_move) (maxL := 5) (ret := none) (by decide) rfl (Nat.le_of_ble_eq_true rfl) ?_
  intro p e s m below meth c hx hb hr hts hown hlocks hin hml hK hN A hA hAB hD hP hS ls hl hsz
  have hl : lv_has ls 5 [(0, .ref h0), (1, .int 300), (2, .int fr), (3, .int to)] := hl
  obtain ⟨H, eH⟩ : ∃ H : Heap, H = s.heap := ⟨_, rfl⟩
  obtain ⟨locs, eL⟩ : ∃ L : List Loc, L = [] := ⟨_, rfl⟩
  rw [← eL]
  rw [← eL] at hS
  have hP : va_P D vwCl [Prod.mk h0 (Sum.inl (Prod.mk (cy 0) (Prod.mk 1200 (Sum.inl f))))] H := by rw [eH]; exact hP
  have hS : va_S A s.heap H locs := by rw [eH]; exact hS
  refine W.heapEq eH ?_
  clear eH eL
  refine lv_iconst (v := 0) hx hb dX10_move_0 (by decide) ?_
  refine lv_istore (lv' := [(4, .int 0), (0, .ref h0), (1, .int 300), (2, .int fr), (3, .int to)]) hx hb dX10_move_1 hl (by decide) rfl (fun ls hl => ?_)
  have lp_3 : ∀ (n_3 : Nat) (k : Int32) (f1 : Nat → Int32), (0 ≤ k.toInt) → (k.toInt ≤ 300) → (∀ j : Nat, (j : Int) < k.toInt → f1 (300 * b.toNat + j) = f (300 * a.toNat + j)) → (∀ j : Nat, (j < 300 * b.toNat ∨ ((300 * b.toNat : Nat) : Int) + k.toInt ≤ j) → f1 j = f j) → (AllI f1 1200 0 9) → (300 - k.toInt).toNat < n_3 → ∀ (H : Heap) (locs : List Loc), va_P D vwCl [Prod.mk h0 (Sum.inl (Prod.mk (cy 0) (Prod.mk 1200 (Sum.inl f1))))] H → va_D A [Prod.mk h0 (Sum.inl (Prod.mk (cy 0) (Prod.mk 1200 (Sum.inl f1))))] → va_S A s.heap H locs → ∀ ls : Array Slot, lv_has ls 5 [(4, .int k), (0, .ref h0), (1, .int 300), (2, .int fr), (3, .int to)] → W p l e (headSpec wsX10_move ({ frames := 0, cells := 0, slots := 0, locals := 0 } : Room)).room s m ([.ref h0, .int 300, .int fr, .int to] : List Value).toArray below meth c H locs 0 0 (MQ below (Q_c_move_tBerth D cy E h0 f fr to a b A) ([.ref h0, .int 300, .int fr, .int to] : List Value).toArray s 0 0 A) (F0 m 3 ls []) := by
    intro n_3
    induction n_3 with
    | zero => intro k f1 hk0 hk1 hI1 hI2 hl_f1 hmu; exact absurd hmu (Nat.not_lt_zero _)
    | succ n_3 ih_3 =>
      intro k f1 hk0 hk1 hI1 hI2 hl_f1 hmu_3 H locs hP hD hS ls hl
      refine lv_iload hx hb dX10_move_3 (lv_at hl 0 rfl) ?_
      refine lv_iload_n hx hb dX10_move_5 rfl (lv_at hl 2 rfl) ?_
      refine lv_icmp_ge (tgt := 31) hx hb dX10_move_6 (by decide) (fun c6 => ?_) (fun c6 => ?_)
      · skip
        have fc6 := q_le (a := 300) (b := k.toInt) c6 (by decide) rfl
        exact r_v hx hb hr hlocks hK hS dX10_move_31 (u := (f1)) hP hD (⟨⟨fun j hj => hI1 j (by omega), fun j hj => hI2 j (by omega)⟩, hl_f1⟩)
      · skip
        have fc6 := q_nle (a := 300) (b := k.toInt) c6 (by decide) rfl
        refine lv_aload_n hx hb dX10_move_9 rfl (lv_at hl 1 rfl) ?_
        refine lv_iload_n hx hb dX10_move_10 rfl (lv_at hl 2 rfl) ?_
        refine lv_iload_n hx hb dX10_move_11 rfl (lv_at hl 4 rfl) ?_
        refine lv_imul hx hb dX10_move_12 ?_
        refine lv_topi (fun x12 ex12 => ?_)
        have tx12 := q_mul (p := 300) (q := to.toInt) ex12 (by decide) rfl (by omega) (by omega)
        refine lv_iload hx hb dX10_move_13 (lv_at hl 0 rfl) ?_
        refine lv_iadd hx hb dX10_move_15 ?_
        refine lv_topi (fun x15 ex15 => ?_)
        have tx15 := q_add (p := x12.toInt) (q := k.toInt) ex15 rfl rfl (by omega) (by omega)
        refine lv_aload_n hx hb dX10_move_16 rfl (lv_at hl 1 rfl) ?_
        refine lv_iload_n hx hb dX10_move_17 rfl (lv_at hl 2 rfl) ?_
        refine lv_iload_n hx hb dX10_move_18 rfl (lv_at hl 3 rfl) ?_
        refine lv_imul hx hb dX10_move_19 ?_
        refine lv_topi (fun x19 ex19 => ?_)
        have tx19 := q_mul (p := 300) (q := fr.toInt) ex19 (by decide) rfl (by omega) (by omega)
        refine lv_iload hx hb dX10_move_20 (lv_at hl 0 rfl) ?_
        refine lv_iadd hx hb dX10_move_22 ?_
        refine lv_topi (fun x22 ex22 => ?_)
        have tx22 := q_add (p := x19.toInt) (q := k.toInt) ex22 rfl rfl (by omega) (by omega)
        refine va_iald hx hb hK hP 0 0 rfl rfl (q_in (a := x22.toInt) rfl (by omega) (by omega)) dX10_move_23 ?_
        refine lv_topi (fun x23 ex23 => ?_)
        have tx23 := congrArg Int32.toInt ex23
        have ix23 := hl_f1 x22.toNatClampNeg (cn (by omega) (by decide))
        have v24_a : AllI (upd f1 x15.toNatClampNeg x23) 1200 0 9 := allI_upd hl_f1 (by omega) (by omega)
        refine va_iast hx hb hK hP hD hS 0 0 rfl rfl (q_in (a := x15.toInt) rfl (by omega) (by omega)) dX10_move_24 (fun H locs hP hD hS => ?_)
        have hP : va_P D vwCl [Prod.mk h0 (Sum.inl (Prod.mk (cy 0) (Prod.mk 1200 (Sum.inl (upd f1 x15.toNatClampNeg x23)))))] H := hP
        have hD : va_D A [Prod.mk h0 (Sum.inl (Prod.mk (cy 0) (Prod.mk 1200 (Sum.inl (upd f1 x15.toNatClampNeg x23)))))] := hD
        obtain ⟨x25, ex25⟩ : ∃ y : Int32, y = k + 1 := ⟨_, rfl⟩
        refine lv_iinc (v := x25) (lv' := [(4, .int x25), (0, .ref h0), (1, .int 300), (2, .int fr), (3, .int to)]) hx hb dX10_move_25 hl (k := 0) rfl (by rw [ex25]; rfl) (by decide) rfl (fun ls hl => ?_)
        have tx25 := q_add (p := k.toInt) (q := 1) ex25 rfl (by decide) (by omega) (by omega)
        refine lv_goto (tgt := 3) hx hb dX10_move_28 (by decide) ?_
        have hmv := mv_step (n := 300) (pa := 300 * a.toNat) (pb := 300 * b.toNat) hk0 (by omega) tx25 (by omega) (show x15.toInt = _ by omega) (show x22.toInt = _ by omega) ex23 hI1 hI2
        exact ih_3 x25 (upd f1 x15.toNatClampNeg x23) (by first | omega | decide | (rw [i32_0]; omega)) (by first | omega | decide | (rw [i32_0]; omega)) hmv.1 hmv.2 v24_a (by omega) H locs hP hD hS ls (lv_sub hl [0, 1, 2, 3, 4] rfl)
  exact lp_3 (300 + 1) 0 f (by first | omega | decide | (rw [i32_0]; omega) | (rw [i32_m1]; omega)) (by first | omega | decide | (rw [i32_0]; omega) | (rw [i32_m1]; omega)) (fun j hj => absurd hj (by rw [i32_0]; omega)) (fun j _ => rfl) hv_f (by first | omega | exact Nat.lt_succ_self _ | (rw [i32_0]; omega) | (rw [i32_1]; omega)) H locs hP hD hS ls (lv_sub hl [0, 1, 2, 3, 4] rfl)

abbrev Q_c_move_tOffice (D : va_G) (cy : Nat → ClassId) (E : EN) (h0 : Nat) (f : Nat → Int32) (fr : Int32) (to : Int32) (a : Int) (b : Int) : (Nat → Prop) → Array Value → State → Outcome → State → Prop := QV D cy (fun (g : (Nat → Int32)) => (∀ j : Nat, j < 300 → g (300 * b.toNat + j) = f (300 * a.toNat + j)) ∧ (∀ j : Nat, (j < 300 * b.toNat ∨ 300 * b.toNat + 300 ≤ j) → g j = f j)) (fun g : (Nat → Int32) => [Prod.mk h0 (Sum.inl (Prod.mk (cy 0) (Prod.mk 1200 (Sum.inl g))))])
set_option maxHeartbeats 4000000 in
set_option maxRecDepth 100000 in
theorem c_move_tOffice (l : Launch) (D : va_G) (cy : Nat → ClassId) (E : EN) (h0 : Nat) (f : Nat → Int32) (fr : Int32) (to : Int32) (a : Int) (b : Int) (sz : Nat) (ha : fr.toInt = a) (hb9 : to.toInt = b) (hfr : 0 ≤ a ∧ a ≤ 3) (hto : 0 ≤ b ∧ b ≤ 3) (hab : a ≠ b) : Met l yX10_move wsX10_move ({ frames := 0, cells := 0, slots := 0, locals := 0 } : Room) (CP D cy E [.ref h0, .int 300, .int fr, .int to] [Prod.mk h0 (Sum.inl (Prod.mk (cy 0) (Prod.mk 1200 (Sum.inl f))))] sz) (Q_c_move_tOffice D cy E h0 f fr to a b (va_A [Prod.mk h0 (Sum.inl (Prod.mk (cy 0) (Prod.mk 1200 (Sum.inl f))))] sz)) 0 0 (va_A [Prod.mk h0 (Sum.inl (Prod.mk (cy 0) (Prod.mk 1200 (Sum.inl f))))] sz) := by
  refine Met.go (Qc := Q_c_move_tOffice D cy E h0 f fr to a b) (cc := cX10_move) (maxL := 5) (ret := none) (by decide) rfl (Nat.le_of_ble_eq_true rfl) ?_
  intro p e s m below meth c hx hb hr hts hown hlocks hin hml hK hN A hA hAB hD hP hS ls hl hsz
  have hl : lv_has ls 5 [(0, .ref h0), (1, .int 300), (2, .int fr), (3, .int to)] := hl
  obtain ⟨H, eH⟩ : ∃ H : Heap, H = s.heap := ⟨_, rfl⟩
  obtain ⟨locs, eL⟩ : ∃ L : List Loc, L = [] := ⟨_, rfl⟩
  rw [← eL]
  rw [← eL] at hS
  have hP : va_P D vwCl [Prod.mk h0 (Sum.inl (Prod.mk (cy 0) (Prod.mk 1200 (Sum.inl f))))] H := by rw [eH]; exact hP
  have hS : va_S A s.heap H locs := by rw [eH]; exact hS
  refine W.heapEq eH ?_
  clear eH eL
  refine lv_iconst (v := 0) hx hb dX10_move_0 (by decide) ?_
  refine lv_istore (lv' := [(4, .int 0), (0, .ref h0), (1, .int 300), (2, .int fr), (3, .int to)]) hx hb dX10_move_1 hl (by decide) rfl (fun ls hl => ?_)
  have lp_3 : ∀ (n_3 : Nat) (k : Int32) (f1 : Nat → Int32), (0 ≤ k.toInt) → (k.toInt ≤ 300) → (∀ j : Nat, (j : Int) < k.toInt → f1 (300 * b.toNat + j) = f (300 * a.toNat + j)) → (∀ j : Nat, (j < 300 * b.toNat ∨ ((300 * b.toNat : Nat) : Int) + k.toInt ≤ j) → f1 j = f j) → (300 - k.toInt).toNat < n_3 → ∀ (H : Heap) (locs : List Loc), va_P D vwCl [Prod.mk h0 (Sum.inl (Prod.mk (cy 0) (Prod.mk 1200 (Sum.inl f1))))] H → va_D A [Prod.mk h0 (Sum.inl (Prod.mk (cy 0) (Prod.mk 1200 (Sum.inl f1))))] → va_S A s.heap H locs → ∀ ls : Array Slot, lv_has ls 5 [(4, .int k), (0, .ref h0), (1, .int 300), (2, .int fr), (3, .int to)] → W p l e (headSpec wsX10_move ({ frames := 0, cells := 0, slots := 0, locals := 0 } : Room)).room s m ([.ref h0, .int 300, .int fr, .int to] : List Value).toArray below meth c H locs 0 0 (MQ below (Q_c_move_tOffice D cy E h0 f fr to a b A) ([.ref h0, .int 300, .int fr, .int to] : List Value).toArray s 0 0 A) (F0 m 3 ls []) := by
    intro n_3
    induction n_3 with
    | zero => intro k f1 hk0 hk1 hI1 hI2 hmu; exact absurd hmu (Nat.not_lt_zero _)
    | succ n_3 ih_3 =>
      intro k f1 hk0 hk1 hI1 hI2 hmu_3 H locs hP hD hS ls hl
      refine lv_iload hx hb dX10_move_3 (lv_at hl 0 rfl) ?_
      refine lv_iload_n hx hb dX10_move_5 rfl (lv_at hl 2 rfl) ?_
      refine lv_icmp_ge (tgt := 31) hx hb dX10_move_6 (by decide) (fun c6 => ?_) (fun c6 => ?_)
      · skip
        have fc6 := q_le (a := 300) (b := k.toInt) c6 (by decide) rfl
        exact r_v hx hb hr hlocks hK hS dX10_move_31 (u := (f1)) hP hD (⟨fun j hj => hI1 j (by omega), fun j hj => hI2 j (by omega)⟩)
      · skip
        have fc6 := q_nle (a := 300) (b := k.toInt) c6 (by decide) rfl
        refine lv_aload_n hx hb dX10_move_9 rfl (lv_at hl 1 rfl) ?_
        refine lv_iload_n hx hb dX10_move_10 rfl (lv_at hl 2 rfl) ?_
        refine lv_iload_n hx hb dX10_move_11 rfl (lv_at hl 4 rfl) ?_
        refine lv_imul hx hb dX10_move_12 ?_
        refine lv_topi (fun x12 ex12 => ?_)
        have tx12 := q_mul (p := 300) (q := to.toInt) ex12 (by decide) rfl (by omega) (by omega)
        refine lv_iload hx hb dX10_move_13 (lv_at hl 0 rfl) ?_
        refine lv_iadd hx hb dX10_move_15 ?_
        refine lv_topi (fun x15 ex15 => ?_)
        have tx15 := q_add (p := x12.toInt) (q := k.toInt) ex15 rfl rfl (by omega) (by omega)
        refine lv_aload_n hx hb dX10_move_16 rfl (lv_at hl 1 rfl) ?_
        refine lv_iload_n hx hb dX10_move_17 rfl (lv_at hl 2 rfl) ?_
        refine lv_iload_n hx hb dX10_move_18 rfl (lv_at hl 3 rfl) ?_
        refine lv_imul hx hb dX10_move_19 ?_
        refine lv_topi (fun x19 ex19 => ?_)
        have tx19 := q_mul (p := 300) (q := fr.toInt) ex19 (by decide) rfl (by omega) (by omega)
        refine lv_iload hx hb dX10_move_20 (lv_at hl 0 rfl) ?_
        refine lv_iadd hx hb dX10_move_22 ?_
        refine lv_topi (fun x22 ex22 => ?_)
        have tx22 := q_add (p := x19.toInt) (q := k.toInt) ex22 rfl rfl (by omega) (by omega)
        refine va_iald hx hb hK hP 0 0 rfl rfl (q_in (a := x22.toInt) rfl (by omega) (by omega)) dX10_move_23 ?_
        refine lv_topi (fun x23 ex23 => ?_)
        have tx23 := congrArg Int32.toInt ex23
        refine va_iast hx hb hK hP hD hS 0 0 rfl rfl (q_in (a := x15.toInt) rfl (by omega) (by omega)) dX10_move_24 (fun H locs hP hD hS => ?_)
        have hP : va_P D vwCl [Prod.mk h0 (Sum.inl (Prod.mk (cy 0) (Prod.mk 1200 (Sum.inl (upd f1 x15.toNatClampNeg x23)))))] H := hP
        have hD : va_D A [Prod.mk h0 (Sum.inl (Prod.mk (cy 0) (Prod.mk 1200 (Sum.inl (upd f1 x15.toNatClampNeg x23)))))] := hD
        obtain ⟨x25, ex25⟩ : ∃ y : Int32, y = k + 1 := ⟨_, rfl⟩
        refine lv_iinc (v := x25) (lv' := [(4, .int x25), (0, .ref h0), (1, .int 300), (2, .int fr), (3, .int to)]) hx hb dX10_move_25 hl (k := 0) rfl (by rw [ex25]; rfl) (by decide) rfl (fun ls hl => ?_)
        have tx25 := q_add (p := k.toInt) (q := 1) ex25 rfl (by decide) (by omega) (by omega)
        refine lv_goto (tgt := 3) hx hb dX10_move_28 (by decide) ?_
        have hmv := mv_step (n := 300) (pa := 300 * a.toNat) (pb := 300 * b.toNat) hk0 (by omega) tx25 (by omega) (show x15.toInt = _ by omega) (show x22.toInt = _ by omega) ex23 hI1 hI2
        exact ih_3 x25 (upd f1 x15.toNatClampNeg x23) (by first | omega | decide | (rw [i32_0]; omega)) (by first | omega | decide | (rw [i32_0]; omega)) hmv.1 hmv.2 (by omega) H locs hP hD hS ls (lv_sub hl [0, 1, 2, 3, 4] rfl)
  exact lp_3 (300 + 1) 0 f (by first | omega | decide | (rw [i32_0]; omega) | (rw [i32_m1]; omega)) (by first | omega | decide | (rw [i32_0]; omega) | (rw [i32_m1]; omega)) (fun j hj => absurd hj (by rw [i32_0]; omega)) (fun j _ => rfl) (by first | omega | exact Nat.lt_succ_self _ | (rw [i32_0]; omega) | (rw [i32_1]; omega)) H locs hP hD hS ls (lv_sub hl [0, 1, 2, 3, 4] rfl)

abbrev Q_c_move_letters (D : va_G) (cy : Nat → ClassId) (E : EN) (h0 : Nat) (f : Nat → Int32) (fr : Int32) (to : Int32) (a : Int) (b : Int) : (Nat → Prop) → Array Value → State → Outcome → State → Prop := QV D cy (fun (g : (Nat → Int32)) => ((∀ j : Nat, j < 1 → g (1 * b.toNat + j) = f (1 * a.toNat + j)) ∧ (∀ j : Nat, (j < 1 * b.toNat ∨ 1 * b.toNat + 1 ≤ j) → g j = f j)) ∧ AllI g 4 0 100) (fun g : (Nat → Int32) => [Prod.mk h0 (Sum.inl (Prod.mk (cy 0) (Prod.mk 4 (Sum.inl g))))])
set_option maxHeartbeats 4000000 in
set_option maxRecDepth 100000 in
theorem c_move_letters (l : Launch) (D : va_G) (cy : Nat → ClassId) (E : EN) (h0 : Nat) (f : Nat → Int32) (fr : Int32) (to : Int32) (a : Int) (b : Int) (sz : Nat) (ha : fr.toInt = a) (hb9 : to.toInt = b) (hfr : 0 ≤ a ∧ a ≤ 3) (hto : 0 ≤ b ∧ b ≤ 3) (hab : a ≠ b) (hv_f : AllI f 4 0 100) : Met l yX10_move wsX10_move ({ frames := 0, cells := 0, slots := 0, locals := 0 } : Room) (CP D cy E [.ref h0, .int 1, .int fr, .int to] [Prod.mk h0 (Sum.inl (Prod.mk (cy 0) (Prod.mk 4 (Sum.inl f))))] sz) (Q_c_move_letters D cy E h0 f fr to a b (va_A [Prod.mk h0 (Sum.inl (Prod.mk (cy 0) (Prod.mk 4 (Sum.inl f))))] sz)) 0 0 (va_A [Prod.mk h0 (Sum.inl (Prod.mk (cy 0) (Prod.mk 4 (Sum.inl f))))] sz) := by
  refine Met.go (Qc := Q_c_move_letters D cy E h0 f fr to a b) (cc := cX10_move) (maxL := 5) (ret := none) (by decide) rfl (Nat.le_of_ble_eq_true rfl) ?_
  intro p e s m below meth c hx hb hr hts hown hlocks hin hml hK hN A hA hAB hD hP hS ls hl hsz
  have hl : lv_has ls 5 [(0, .ref h0), (1, .int 1), (2, .int fr), (3, .int to)] := hl
  obtain ⟨H, eH⟩ : ∃ H : Heap, H = s.heap := ⟨_, rfl⟩
  obtain ⟨locs, eL⟩ : ∃ L : List Loc, L = [] := ⟨_, rfl⟩
  rw [← eL]
  rw [← eL] at hS
  have hP : va_P D vwCl [Prod.mk h0 (Sum.inl (Prod.mk (cy 0) (Prod.mk 4 (Sum.inl f))))] H := by rw [eH]; exact hP
  have hS : va_S A s.heap H locs := by rw [eH]; exact hS
  refine W.heapEq eH ?_
  clear eH eL
  refine lv_iconst (v := 0) hx hb dX10_move_0 (by decide) ?_
  refine lv_istore (lv' := [(4, .int 0), (0, .ref h0), (1, .int 1), (2, .int fr), (3, .int to)]) hx hb dX10_move_1 hl (by decide) rfl (fun ls hl => ?_)
  have lp_3 : ∀ (n_3 : Nat) (k : Int32) (f1 : Nat → Int32), (0 ≤ k.toInt) → (k.toInt ≤ 1) → (∀ j : Nat, (j : Int) < k.toInt → f1 (1 * b.toNat + j) = f (1 * a.toNat + j)) → (∀ j : Nat, (j < 1 * b.toNat ∨ ((1 * b.toNat : Nat) : Int) + k.toInt ≤ j) → f1 j = f j) → (AllI f1 4 0 100) → (1 - k.toInt).toNat < n_3 → ∀ (H : Heap) (locs : List Loc), va_P D vwCl [Prod.mk h0 (Sum.inl (Prod.mk (cy 0) (Prod.mk 4 (Sum.inl f1))))] H → va_D A [Prod.mk h0 (Sum.inl (Prod.mk (cy 0) (Prod.mk 4 (Sum.inl f1))))] → va_S A s.heap H locs → ∀ ls : Array Slot, lv_has ls 5 [(4, .int k), (0, .ref h0), (1, .int 1), (2, .int fr), (3, .int to)] → W p l e (headSpec wsX10_move ({ frames := 0, cells := 0, slots := 0, locals := 0 } : Room)).room s m ([.ref h0, .int 1, .int fr, .int to] : List Value).toArray below meth c H locs 0 0 (MQ below (Q_c_move_letters D cy E h0 f fr to a b A) ([.ref h0, .int 1, .int fr, .int to] : List Value).toArray s 0 0 A) (F0 m 3 ls []) := by
    intro n_3
    induction n_3 with
    | zero => intro k f1 hk0 hk1 hI1 hI2 hl_f1 hmu; exact absurd hmu (Nat.not_lt_zero _)
    | succ n_3 ih_3 =>
      intro k f1 hk0 hk1 hI1 hI2 hl_f1 hmu_3 H locs hP hD hS ls hl
      refine lv_iload hx hb dX10_move_3 (lv_at hl 0 rfl) ?_
      refine lv_iload_n hx hb dX10_move_5 rfl (lv_at hl 2 rfl) ?_
      refine lv_icmp_ge (tgt := 31) hx hb dX10_move_6 (by decide) (fun c6 => ?_) (fun c6 => ?_)
      · skip
        have fc6 := q_le (a := 1) (b := k.toInt) c6 (by decide) rfl
        exact r_v hx hb hr hlocks hK hS dX10_move_31 (u := (f1)) hP hD (⟨⟨fun j hj => hI1 j (by omega), fun j hj => hI2 j (by omega)⟩, hl_f1⟩)
      · skip
        have fc6 := q_nle (a := 1) (b := k.toInt) c6 (by decide) rfl
        refine lv_aload_n hx hb dX10_move_9 rfl (lv_at hl 1 rfl) ?_
        refine lv_iload_n hx hb dX10_move_10 rfl (lv_at hl 2 rfl) ?_
        refine lv_iload_n hx hb dX10_move_11 rfl (lv_at hl 4 rfl) ?_
        refine lv_imul hx hb dX10_move_12 ?_
        refine lv_topi (fun x12 ex12 => ?_)
        have tx12 := q_mul (p := 1) (q := to.toInt) ex12 (by decide) rfl (by omega) (by omega)
        refine lv_iload hx hb dX10_move_13 (lv_at hl 0 rfl) ?_
        refine lv_iadd hx hb dX10_move_15 ?_
        refine lv_topi (fun x15 ex15 => ?_)
        have tx15 := q_add (p := x12.toInt) (q := k.toInt) ex15 rfl rfl (by omega) (by omega)
        refine lv_aload_n hx hb dX10_move_16 rfl (lv_at hl 1 rfl) ?_
        refine lv_iload_n hx hb dX10_move_17 rfl (lv_at hl 2 rfl) ?_
        refine lv_iload_n hx hb dX10_move_18 rfl (lv_at hl 3 rfl) ?_
        refine lv_imul hx hb dX10_move_19 ?_
        refine lv_topi (fun x19 ex19 => ?_)
        have tx19 := q_mul (p := 1) (q := fr.toInt) ex19 (by decide) rfl (by omega) (by omega)
        refine lv_iload hx hb dX10_move_20 (lv_at hl 0 rfl) ?_
        refine lv_iadd hx hb dX10_move_22 ?_
        refine lv_topi (fun x22 ex22 => ?_)
        have tx22 := q_add (p := x19.toInt) (q := k.toInt) ex22 rfl rfl (by omega) (by omega)
        refine va_iald hx hb hK hP 0 0 rfl rfl (q_in (a := x22.toInt) rfl (by omega) (by omega)) dX10_move_23 ?_
        refine lv_topi (fun x23 ex23 => ?_)
        have tx23 := congrArg Int32.toInt ex23
        have ix23 := hl_f1 x22.toNatClampNeg (cn (by omega) (by decide))
        have v24_a : AllI (upd f1 x15.toNatClampNeg x23) 4 0 100 := allI_upd hl_f1 (by omega) (by omega)
        refine va_iast hx hb hK hP hD hS 0 0 rfl rfl (q_in (a := x15.toInt) rfl (by omega) (by omega)) dX10_move_24 (fun H locs hP hD hS => ?_)
        have hP : va_P D vwCl [Prod.mk h0 (Sum.inl (Prod.mk (cy 0) (Prod.mk 4 (Sum.inl (upd f1 x15.toNatClampNeg x23)))))] H := hP
        have hD : va_D A [Prod.mk h0 (Sum.inl (Prod.mk (cy 0) (Prod.mk 4 (Sum.inl (upd f1 x15.toNatClampNeg x23)))))] := hD
        obtain ⟨x25, ex25⟩ : ∃ y : Int32, y = k + 1 := ⟨_, rfl⟩
        refine lv_iinc (v := x25) (lv' := [(4, .int x25), (0, .ref h0), (1, .int 1), (2, .int fr), (3, .int to)]) hx hb dX10_move_25 hl (k := 0) rfl (by rw [ex25]; rfl) (by decide) rfl (fun ls hl => ?_)
        have tx25 := q_add (p := k.toInt) (q := 1) ex25 rfl (by decide) (by omega) (by omega)
        refine lv_goto (tgt := 3) hx hb dX10_move_28 (by decide) ?_
        have hmv := mv_step (n := 1) (pa := 1 * a.toNat) (pb := 1 * b.toNat) hk0 (by omega) tx25 (by omega) (show x15.toInt = _ by omega) (show x22.toInt = _ by omega) ex23 hI1 hI2
        exact ih_3 x25 (upd f1 x15.toNatClampNeg x23) (by first | omega | decide | (rw [i32_0]; omega)) (by first | omega | decide | (rw [i32_0]; omega)) hmv.1 hmv.2 v24_a (by omega) H locs hP hD hS ls (lv_sub hl [0, 1, 2, 3, 4] rfl)
  exact lp_3 (1 + 1) 0 f (by first | omega | decide | (rw [i32_0]; omega) | (rw [i32_m1]; omega)) (by first | omega | decide | (rw [i32_0]; omega) | (rw [i32_m1]; omega)) (fun j hj => absurd hj (by rw [i32_0]; omega)) (fun j _ => rfl) hv_f (by first | omega | exact Nat.lt_succ_self _ | (rw [i32_0]; omega) | (rw [i32_1]; omega)) H locs hP hD hS ls (lv_sub hl [0, 1, 2, 3, 4] rfl)

abbrev Q_c_move_lComes (D : va_G) (cy : Nat → ClassId) (E : EN) (h0 : Nat) (f : Nat → Int32) (fr : Int32) (to : Int32) (a : Int) (b : Int) : (Nat → Prop) → Array Value → State → Outcome → State → Prop := QV D cy (fun (g : (Nat → Int32)) => (∀ j : Nat, j < 100 → g (100 * b.toNat + j) = f (100 * a.toNat + j)) ∧ (∀ j : Nat, (j < 100 * b.toNat ∨ 100 * b.toNat + 100 ≤ j) → g j = f j)) (fun g : (Nat → Int32) => [Prod.mk h0 (Sum.inl (Prod.mk (cy 0) (Prod.mk 400 (Sum.inl g))))])
set_option maxHeartbeats 4000000 in
set_option maxRecDepth 100000 in
theorem c_move_lComes (l : Launch) (D : va_G) (cy : Nat → ClassId) (E : EN) (h0 : Nat) (f : Nat → Int32) (fr : Int32) (to : Int32) (a : Int) (b : Int) (sz : Nat) (ha : fr.toInt = a) (hb9 : to.toInt = b) (hfr : 0 ≤ a ∧ a ≤ 3) (hto : 0 ≤ b ∧ b ≤ 3) (hab : a ≠ b) : Met l yX10_move wsX10_move ({ frames := 0, cells := 0, slots := 0, locals := 0 } : Room) (CP D cy E [.ref h0, .int 100, .int fr, .int to] [Prod.mk h0 (Sum.inl (Prod.mk (cy 0) (Prod.mk 400 (Sum.inl f))))] sz) (Q_c_move_lComes D cy E h0 f fr to a b (va_A [Prod.mk h0 (Sum.inl (Prod.mk (cy 0) (Prod.mk 400 (Sum.inl f))))] sz)) 0 0 (va_A [Prod.mk h0 (Sum.inl (Prod.mk (cy 0) (Prod.mk 400 (Sum.inl f))))] sz) := by
  refine Met.go (Qc := Q_c_move_lComes D cy E h0 f fr to a b) (cc := cX10_move) (maxL := 5) (ret := none) (by decide) rfl (Nat.le_of_ble_eq_true rfl) ?_
  intro p e s m below meth c hx hb hr hts hown hlocks hin hml hK hN A hA hAB hD hP hS ls hl hsz
  have hl : lv_has ls 5 [(0, .ref h0), (1, .int 100), (2, .int fr), (3, .int to)] := hl
  obtain ⟨H, eH⟩ : ∃ H : Heap, H = s.heap := ⟨_, rfl⟩
  obtain ⟨locs, eL⟩ : ∃ L : List Loc, L = [] := ⟨_, rfl⟩
  rw [← eL]
  rw [← eL] at hS
  have hP : va_P D vwCl [Prod.mk h0 (Sum.inl (Prod.mk (cy 0) (Prod.mk 400 (Sum.inl f))))] H := by rw [eH]; exact hP
  have hS : va_S A s.heap H locs := by rw [eH]; exact hS
  refine W.heapEq eH ?_
  clear eH eL
  refine lv_iconst (v := 0) hx hb dX10_move_0 (by decide) ?_
  refine lv_istore (lv' := [(4, .int 0), (0, .ref h0), (1, .int 100), (2, .int fr), (3, .int to)]) hx hb dX10_move_1 hl (by decide) rfl (fun ls hl => ?_)
  have lp_3 : ∀ (n_3 : Nat) (k : Int32) (f1 : Nat → Int32), (0 ≤ k.toInt) → (k.toInt ≤ 100) → (∀ j : Nat, (j : Int) < k.toInt → f1 (100 * b.toNat + j) = f (100 * a.toNat + j)) → (∀ j : Nat, (j < 100 * b.toNat ∨ ((100 * b.toNat : Nat) : Int) + k.toInt ≤ j) → f1 j = f j) → (100 - k.toInt).toNat < n_3 → ∀ (H : Heap) (locs : List Loc), va_P D vwCl [Prod.mk h0 (Sum.inl (Prod.mk (cy 0) (Prod.mk 400 (Sum.inl f1))))] H → va_D A [Prod.mk h0 (Sum.inl (Prod.mk (cy 0) (Prod.mk 400 (Sum.inl f1))))] → va_S A s.heap H locs → ∀ ls : Array Slot, lv_has ls 5 [(4, .int k), (0, .ref h0), (1, .int 100), (2, .int fr), (3, .int to)] → W p l e (headSpec wsX10_move ({ frames := 0, cells := 0, slots := 0, locals := 0 } : Room)).room s m ([.ref h0, .int 100, .int fr, .int to] : List Value).toArray below meth c H locs 0 0 (MQ below (Q_c_move_lComes D cy E h0 f fr to a b A) ([.ref h0, .int 100, .int fr, .int to] : List Value).toArray s 0 0 A) (F0 m 3 ls []) := by
    intro n_3
    induction n_3 with
    | zero => intro k f1 hk0 hk1 hI1 hI2 hmu; exact absurd hmu (Nat.not_lt_zero _)
    | succ n_3 ih_3 =>
      intro k f1 hk0 hk1 hI1 hI2 hmu_3 H locs hP hD hS ls hl
      refine lv_iload hx hb dX10_move_3 (lv_at hl 0 rfl) ?_
      refine lv_iload_n hx hb dX10_move_5 rfl (lv_at hl 2 rfl) ?_
      refine lv_icmp_ge (tgt := 31) hx hb dX10_move_6 (by decide) (fun c6 => ?_) (fun c6 => ?_)
      · skip
        have fc6 := q_le (a := 100) (b := k.toInt) c6 (by decide) rfl
        exact r_v hx hb hr hlocks hK hS dX10_move_31 (u := (f1)) hP hD (⟨fun j hj => hI1 j (by omega), fun j hj => hI2 j (by omega)⟩)
      · skip
        have fc6 := q_nle (a := 100) (b := k.toInt) c6 (by decide) rfl
        refine lv_aload_n hx hb dX10_move_9 rfl (lv_at hl 1 rfl) ?_
        refine lv_iload_n hx hb dX10_move_10 rfl (lv_at hl 2 rfl) ?_
        refine lv_iload_n hx hb dX10_move_11 rfl (lv_at hl 4 rfl) ?_
        refine lv_imul hx hb dX10_move_12 ?_
        refine lv_topi (fun x12 ex12 => ?_)
        have tx12 := q_mul (p := 100) (q := to.toInt) ex12 (by decide) rfl (by omega) (by omega)
        refine lv_iload hx hb dX10_move_13 (lv_at hl 0 rfl) ?_
        refine lv_iadd hx hb dX10_move_15 ?_
        refine lv_topi (fun x15 ex15 => ?_)
        have tx15 := q_add (p := x12.toInt) (q := k.toInt) ex15 rfl rfl (by omega) (by omega)
        refine lv_aload_n hx hb dX10_move_16 rfl (lv_at hl 1 rfl) ?_
        refine lv_iload_n hx hb dX10_move_17 rfl (lv_at hl 2 rfl) ?_
        refine lv_iload_n hx hb dX10_move_18 rfl (lv_at hl 3 rfl) ?_
        refine lv_imul hx hb dX10_move_19 ?_
        refine lv_topi (fun x19 ex19 => ?_)
        have tx19 := q_mul (p := 100) (q := fr.toInt) ex19 (by decide) rfl (by omega) (by omega)
        refine lv_iload hx hb dX10_move_20 (lv_at hl 0 rfl) ?_
        refine lv_iadd hx hb dX10_move_22 ?_
        refine lv_topi (fun x22 ex22 => ?_)
        have tx22 := q_add (p := x19.toInt) (q := k.toInt) ex22 rfl rfl (by omega) (by omega)
        refine va_iald hx hb hK hP 0 0 rfl rfl (q_in (a := x22.toInt) rfl (by omega) (by omega)) dX10_move_23 ?_
        refine lv_topi (fun x23 ex23 => ?_)
        have tx23 := congrArg Int32.toInt ex23
        refine va_iast hx hb hK hP hD hS 0 0 rfl rfl (q_in (a := x15.toInt) rfl (by omega) (by omega)) dX10_move_24 (fun H locs hP hD hS => ?_)
        have hP : va_P D vwCl [Prod.mk h0 (Sum.inl (Prod.mk (cy 0) (Prod.mk 400 (Sum.inl (upd f1 x15.toNatClampNeg x23)))))] H := hP
        have hD : va_D A [Prod.mk h0 (Sum.inl (Prod.mk (cy 0) (Prod.mk 400 (Sum.inl (upd f1 x15.toNatClampNeg x23)))))] := hD
        obtain ⟨x25, ex25⟩ : ∃ y : Int32, y = k + 1 := ⟨_, rfl⟩
        refine lv_iinc (v := x25) (lv' := [(4, .int x25), (0, .ref h0), (1, .int 100), (2, .int fr), (3, .int to)]) hx hb dX10_move_25 hl (k := 0) rfl (by rw [ex25]; rfl) (by decide) rfl (fun ls hl => ?_)
        have tx25 := q_add (p := k.toInt) (q := 1) ex25 rfl (by decide) (by omega) (by omega)
        refine lv_goto (tgt := 3) hx hb dX10_move_28 (by decide) ?_
        have hmv := mv_step (n := 100) (pa := 100 * a.toNat) (pb := 100 * b.toNat) hk0 (by omega) tx25 (by omega) (show x15.toInt = _ by omega) (show x22.toInt = _ by omega) ex23 hI1 hI2
        exact ih_3 x25 (upd f1 x15.toNatClampNeg x23) (by first | omega | decide | (rw [i32_0]; omega)) (by first | omega | decide | (rw [i32_0]; omega)) hmv.1 hmv.2 (by omega) H locs hP hD hS ls (lv_sub hl [0, 1, 2, 3, 4] rfl)
  exact lp_3 (100 + 1) 0 f (by first | omega | decide | (rw [i32_0]; omega) | (rw [i32_m1]; omega)) (by first | omega | decide | (rw [i32_0]; omega) | (rw [i32_m1]; omega)) (fun j hj => absurd hj (by rw [i32_0]; omega)) (fun j _ => rfl) (by first | omega | exact Nat.lt_succ_self _ | (rw [i32_0]; omega) | (rw [i32_1]; omega)) H locs hP hD hS ls (lv_sub hl [0, 1, 2, 3, 4] rfl)

abbrev Q_c_move_lDay (D : va_G) (cy : Nat → ClassId) (E : EN) (h0 : Nat) (f : Nat → Int32) (fr : Int32) (to : Int32) (a : Int) (b : Int) : (Nat → Prop) → Array Value → State → Outcome → State → Prop := QV D cy (fun (g : (Nat → Int32)) => ((∀ j : Nat, j < 100 → g (100 * b.toNat + j) = f (100 * a.toNat + j)) ∧ (∀ j : Nat, (j < 100 * b.toNat ∨ 100 * b.toNat + 100 ≤ j) → g j = f j)) ∧ AllI g 400 0 59) (fun g : (Nat → Int32) => [Prod.mk h0 (Sum.inl (Prod.mk (cy 0) (Prod.mk 400 (Sum.inl g))))])
set_option maxHeartbeats 4000000 in
set_option maxRecDepth 100000 in
theorem c_move_lDay (l : Launch) (D : va_G) (cy : Nat → ClassId) (E : EN) (h0 : Nat) (f : Nat → Int32) (fr : Int32) (to : Int32) (a : Int) (b : Int) (sz : Nat) (ha : fr.toInt = a) (hb9 : to.toInt = b) (hfr : 0 ≤ a ∧ a ≤ 3) (hto : 0 ≤ b ∧ b ≤ 3) (hab : a ≠ b) (hv_f : AllI f 400 0 59) : Met l yX10_move wsX10_move ({ frames := 0, cells := 0, slots := 0, locals := 0 } : Room) (CP D cy E [.ref h0, .int 100, .int fr, .int to] [Prod.mk h0 (Sum.inl (Prod.mk (cy 0) (Prod.mk 400 (Sum.inl f))))] sz) (Q_c_move_lDay D cy E h0 f fr to a b (va_A [Prod.mk h0 (Sum.inl (Prod.mk (cy 0) (Prod.mk 400 (Sum.inl f))))] sz)) 0 0 (va_A [Prod.mk h0 (Sum.inl (Prod.mk (cy 0) (Prod.mk 400 (Sum.inl f))))] sz) := by
  refine Met.go (Qc := Q_c_move_lDay D cy E h0 f fr to a b) (cc := cX10_move) (maxL := 5) (ret := none) (by decide) rfl (Nat.le_of_ble_eq_true rfl) ?_
  intro p e s m below meth c hx hb hr hts hown hlocks hin hml hK hN A hA hAB hD hP hS ls hl hsz
  have hl : lv_has ls 5 [(0, .ref h0), (1, .int 100), (2, .int fr), (3, .int to)] := hl
  obtain ⟨H, eH⟩ : ∃ H : Heap, H = s.heap := ⟨_, rfl⟩
  obtain ⟨locs, eL⟩ : ∃ L : List Loc, L = [] := ⟨_, rfl⟩
  rw [← eL]
  rw [← eL] at hS
  have hP : va_P D vwCl [Prod.mk h0 (Sum.inl (Prod.mk (cy 0) (Prod.mk 400 (Sum.inl f))))] H := by rw [eH]; exact hP
  have hS : va_S A s.heap H locs := by rw [eH]; exact hS
  refine W.heapEq eH ?_
  clear eH eL
  refine lv_iconst (v := 0) hx hb dX10_move_0 (by decide) ?_
  refine lv_istore (lv' := [(4, .int 0), (0, .ref h0), (1, .int 100), (2, .int fr), (3, .int to)]) hx hb dX10_move_1 hl (by decide) rfl (fun ls hl => ?_)
  have lp_3 : ∀ (n_3 : Nat) (k : Int32) (f1 : Nat → Int32), (0 ≤ k.toInt) → (k.toInt ≤ 100) → (∀ j : Nat, (j : Int) < k.toInt → f1 (100 * b.toNat + j) = f (100 * a.toNat + j)) → (∀ j : Nat, (j < 100 * b.toNat ∨ ((100 * b.toNat : Nat) : Int) + k.toInt ≤ j) → f1 j = f j) → (AllI f1 400 0 59) → (100 - k.toInt).toNat < n_3 → ∀ (H : Heap) (locs : List Loc), va_P D vwCl [Prod.mk h0 (Sum.inl (Prod.mk (cy 0) (Prod.mk 400 (Sum.inl f1))))] H → va_D A [Prod.mk h0 (Sum.inl (Prod.mk (cy 0) (Prod.mk 400 (Sum.inl f1))))] → va_S A s.heap H locs → ∀ ls : Array Slot, lv_has ls 5 [(4, .int k), (0, .ref h0), (1, .int 100), (2, .int fr), (3, .int to)] → W p l e (headSpec wsX10_move ({ frames := 0, cells := 0, slots := 0, locals := 0 } : Room)).room s m ([.ref h0, .int 100, .int fr, .int to] : List Value).toArray below meth c H locs 0 0 (MQ below (Q_c_move_lDay D cy E h0 f fr to a b A) ([.ref h0, .int 100, .int fr, .int to] : List Value).toArray s 0 0 A) (F0 m 3 ls []) := by
    intro n_3
    induction n_3 with
    | zero => intro k f1 hk0 hk1 hI1 hI2 hl_f1 hmu; exact absurd hmu (Nat.not_lt_zero _)
    | succ n_3 ih_3 =>
      intro k f1 hk0 hk1 hI1 hI2 hl_f1 hmu_3 H locs hP hD hS ls hl
      refine lv_iload hx hb dX10_move_3 (lv_at hl 0 rfl) ?_
      refine lv_iload_n hx hb dX10_move_5 rfl (lv_at hl 2 rfl) ?_
      refine lv_icmp_ge (tgt := 31) hx hb dX10_move_6 (by decide) (fun c6 => ?_) (fun c6 => ?_)
      · skip
        have fc6 := q_le (a := 100) (b := k.toInt) c6 (by decide) rfl
        exact r_v hx hb hr hlocks hK hS dX10_move_31 (u := (f1)) hP hD (⟨⟨fun j hj => hI1 j (by omega), fun j hj => hI2 j (by omega)⟩, hl_f1⟩)
      · skip
        have fc6 := q_nle (a := 100) (b := k.toInt) c6 (by decide) rfl
        refine lv_aload_n hx hb dX10_move_9 rfl (lv_at hl 1 rfl) ?_
        refine lv_iload_n hx hb dX10_move_10 rfl (lv_at hl 2 rfl) ?_
        refine lv_iload_n hx hb dX10_move_11 rfl (lv_at hl 4 rfl) ?_
        refine lv_imul hx hb dX10_move_12 ?_
        refine lv_topi (fun x12 ex12 => ?_)
        have tx12 := q_mul (p := 100) (q := to.toInt) ex12 (by decide) rfl (by omega) (by omega)
        refine lv_iload hx hb dX10_move_13 (lv_at hl 0 rfl) ?_
        refine lv_iadd hx hb dX10_move_15 ?_
        refine lv_topi (fun x15 ex15 => ?_)
        have tx15 := q_add (p := x12.toInt) (q := k.toInt) ex15 rfl rfl (by omega) (by omega)
        refine lv_aload_n hx hb dX10_move_16 rfl (lv_at hl 1 rfl) ?_
        refine lv_iload_n hx hb dX10_move_17 rfl (lv_at hl 2 rfl) ?_
        refine lv_iload_n hx hb dX10_move_18 rfl (lv_at hl 3 rfl) ?_
        refine lv_imul hx hb dX10_move_19 ?_
        refine lv_topi (fun x19 ex19 => ?_)
        have tx19 := q_mul (p := 100) (q := fr.toInt) ex19 (by decide) rfl (by omega) (by omega)
        refine lv_iload hx hb dX10_move_20 (lv_at hl 0 rfl) ?_
        refine lv_iadd hx hb dX10_move_22 ?_
        refine lv_topi (fun x22 ex22 => ?_)
        have tx22 := q_add (p := x19.toInt) (q := k.toInt) ex22 rfl rfl (by omega) (by omega)
        refine va_iald hx hb hK hP 0 0 rfl rfl (q_in (a := x22.toInt) rfl (by omega) (by omega)) dX10_move_23 ?_
        refine lv_topi (fun x23 ex23 => ?_)
        have tx23 := congrArg Int32.toInt ex23
        have ix23 := hl_f1 x22.toNatClampNeg (cn (by omega) (by decide))
        have v24_a : AllI (upd f1 x15.toNatClampNeg x23) 400 0 59 := allI_upd hl_f1 (by omega) (by omega)
        refine va_iast hx hb hK hP hD hS 0 0 rfl rfl (q_in (a := x15.toInt) rfl (by omega) (by omega)) dX10_move_24 (fun H locs hP hD hS => ?_)
        have hP : va_P D vwCl [Prod.mk h0 (Sum.inl (Prod.mk (cy 0) (Prod.mk 400 (Sum.inl (upd f1 x15.toNatClampNeg x23)))))] H := hP
        have hD : va_D A [Prod.mk h0 (Sum.inl (Prod.mk (cy 0) (Prod.mk 400 (Sum.inl (upd f1 x15.toNatClampNeg x23)))))] := hD
        obtain ⟨x25, ex25⟩ : ∃ y : Int32, y = k + 1 := ⟨_, rfl⟩
        refine lv_iinc (v := x25) (lv' := [(4, .int x25), (0, .ref h0), (1, .int 100), (2, .int fr), (3, .int to)]) hx hb dX10_move_25 hl (k := 0) rfl (by rw [ex25]; rfl) (by decide) rfl (fun ls hl => ?_)
        have tx25 := q_add (p := k.toInt) (q := 1) ex25 rfl (by decide) (by omega) (by omega)
        refine lv_goto (tgt := 3) hx hb dX10_move_28 (by decide) ?_
        have hmv := mv_step (n := 100) (pa := 100 * a.toNat) (pb := 100 * b.toNat) hk0 (by omega) tx25 (by omega) (show x15.toInt = _ by omega) (show x22.toInt = _ by omega) ex23 hI1 hI2
        exact ih_3 x25 (upd f1 x15.toNatClampNeg x23) (by first | omega | decide | (rw [i32_0]; omega)) (by first | omega | decide | (rw [i32_0]; omega)) hmv.1 hmv.2 v24_a (by omega) H locs hP hD hS ls (lv_sub hl [0, 1, 2, 3, 4] rfl)
  exact lp_3 (100 + 1) 0 f (by first | omega | decide | (rw [i32_0]; omega) | (rw [i32_m1]; omega)) (by first | omega | decide | (rw [i32_0]; omega) | (rw [i32_m1]; omega)) (fun j hj => absurd hj (by rw [i32_0]; omega)) (fun j _ => rfl) hv_f (by first | omega | exact Nat.lt_succ_self _ | (rw [i32_0]; omega) | (rw [i32_1]; omega)) H locs hP hD hS ls (lv_sub hl [0, 1, 2, 3, 4] rfl)

abbrev Q_c_move_lFrom (D : va_G) (cy : Nat → ClassId) (E : EN) (h0 : Nat) (f : Nat → Int32) (fr : Int32) (to : Int32) (a : Int) (b : Int) : (Nat → Prop) → Array Value → State → Outcome → State → Prop := QV D cy (fun (g : (Nat → Int32)) => ((∀ j : Nat, j < 100 → g (100 * b.toNat + j) = f (100 * a.toNat + j)) ∧ (∀ j : Nat, (j < 100 * b.toNat ∨ 100 * b.toNat + 100 ≤ j) → g j = f j)) ∧ AllI g 400 0 9) (fun g : (Nat → Int32) => [Prod.mk h0 (Sum.inl (Prod.mk (cy 0) (Prod.mk 400 (Sum.inl g))))])
set_option maxHeartbeats 4000000 in
set_option maxRecDepth 100000 in
theorem c_move_lFrom (l : Launch) (D : va_G) (cy : Nat → ClassId) (E : EN) (h0 : Nat) (f : Nat → Int32) (fr : Int32) (to : Int32) (a : Int) (b : Int) (sz : Nat) (ha : fr.toInt = a) (hb9 : to.toInt = b) (hfr : 0 ≤ a ∧ a ≤ 3) (hto : 0 ≤ b ∧ b ≤ 3) (hab : a ≠ b) (hv_f : AllI f 400 0 9) : Met l yX10_move wsX10_move ({ frames := 0, cells := 0, slots := 0, locals := 0 } : Room) (CP D cy E [.ref h0, .int 100, .int fr, .int to] [Prod.mk h0 (Sum.inl (Prod.mk (cy 0) (Prod.mk 400 (Sum.inl f))))] sz) (Q_c_move_lFrom D cy E h0 f fr to a b (va_A [Prod.mk h0 (Sum.inl (Prod.mk (cy 0) (Prod.mk 400 (Sum.inl f))))] sz)) 0 0 (va_A [Prod.mk h0 (Sum.inl (Prod.mk (cy 0) (Prod.mk 400 (Sum.inl f))))] sz) := by
  refine Met.go (Qc := Q_c_move_lFrom D cy E h0 f fr to a b) (cc := cX10_move) (maxL := 5) (ret := none) (by decide) rfl (Nat.le_of_ble_eq_true rfl) ?_
  intro p e s m below meth c hx hb hr hts hown hlocks hin hml hK hN A hA hAB hD hP hS ls hl hsz
  have hl : lv_has ls 5 [(0, .ref h0), (1, .int 100), (2, .int fr), (3, .int to)] := hl
  obtain ⟨H, eH⟩ : ∃ H : Heap, H = s.heap := ⟨_, rfl⟩
  obtain ⟨locs, eL⟩ : ∃ L : List Loc, L = [] := ⟨_, rfl⟩
  rw [← eL]
  rw [← eL] at hS
  have hP : va_P D vwCl [Prod.mk h0 (Sum.inl (Prod.mk (cy 0) (Prod.mk 400 (Sum.inl f))))] H := by rw [eH]; exact hP
  have hS : va_S A s.heap H locs := by rw [eH]; exact hS
  refine W.heapEq eH ?_
  clear eH eL
  refine lv_iconst (v := 0) hx hb dX10_move_0 (by decide) ?_
  refine lv_istore (lv' := [(4, .int 0), (0, .ref h0), (1, .int 100), (2, .int fr), (3, .int to)]) hx hb dX10_move_1 hl (by decide) rfl (fun ls hl => ?_)
  have lp_3 : ∀ (n_3 : Nat) (k : Int32) (f1 : Nat → Int32), (0 ≤ k.toInt) → (k.toInt ≤ 100) → (∀ j : Nat, (j : Int) < k.toInt → f1 (100 * b.toNat + j) = f (100 * a.toNat + j)) → (∀ j : Nat, (j < 100 * b.toNat ∨ ((100 * b.toNat : Nat) : Int) + k.toInt ≤ j) → f1 j = f j) → (AllI f1 400 0 9) → (100 - k.toInt).toNat < n_3 → ∀ (H : Heap) (locs : List Loc), va_P D vwCl [Prod.mk h0 (Sum.inl (Prod.mk (cy 0) (Prod.mk 400 (Sum.inl f1))))] H → va_D A [Prod.mk h0 (Sum.inl (Prod.mk (cy 0) (Prod.mk 400 (Sum.inl f1))))] → va_S A s.heap H locs → ∀ ls : Array Slot, lv_has ls 5 [(4, .int k), (0, .ref h0), (1, .int 100), (2, .int fr), (3, .int to)] → W p l e (headSpec wsX10_move ({ frames := 0, cells := 0, slots := 0, locals := 0 } : Room)).room s m ([.ref h0, .int 100, .int fr, .int to] : List Value).toArray below meth c H locs 0 0 (MQ below (Q_c_move_lFrom D cy E h0 f fr to a b A) ([.ref h0, .int 100, .int fr, .int to] : List Value).toArray s 0 0 A) (F0 m 3 ls []) := by
    intro n_3
    induction n_3 with
    | zero => intro k f1 hk0 hk1 hI1 hI2 hl_f1 hmu; exact absurd hmu (Nat.not_lt_zero _)
    | succ n_3 ih_3 =>
      intro k f1 hk0 hk1 hI1 hI2 hl_f1 hmu_3 H locs hP hD hS ls hl
      refine lv_iload hx hb dX10_move_3 (lv_at hl 0 rfl) ?_
      refine lv_iload_n hx hb dX10_move_5 rfl (lv_at hl 2 rfl) ?_
      refine lv_icmp_ge (tgt := 31) hx hb dX10_move_6 (by decide) (fun c6 => ?_) (fun c6 => ?_)
      · skip
        have fc6 := q_le (a := 100) (b := k.toInt) c6 (by decide) rfl
        exact r_v hx hb hr hlocks hK hS dX10_move_31 (u := (f1)) hP hD (⟨⟨fun j hj => hI1 j (by omega), fun j hj => hI2 j (by omega)⟩, hl_f1⟩)
      · skip
        have fc6 := q_nle (a := 100) (b := k.toInt) c6 (by decide) rfl
        refine lv_aload_n hx hb dX10_move_9 rfl (lv_at hl 1 rfl) ?_
        refine lv_iload_n hx hb dX10_move_10 rfl (lv_at hl 2 rfl) ?_
        refine lv_iload_n hx hb dX10_move_11 rfl (lv_at hl 4 rfl) ?_
        refine lv_imul hx hb dX10_move_12 ?_
        refine lv_topi (fun x12 ex12 => ?_)
        have tx12 := q_mul (p := 100) (q := to.toInt) ex12 (by decide) rfl (by omega) (by omega)
        refine lv_iload hx hb dX10_move_13 (lv_at hl 0 rfl) ?_
        refine lv_iadd hx hb dX10_move_15 ?_
        refine lv_topi (fun x15 ex15 => ?_)
        have tx15 := q_add (p := x12.toInt) (q := k.toInt) ex15 rfl rfl (by omega) (by omega)
        refine lv_aload_n hx hb dX10_move_16 rfl (lv_at hl 1 rfl) ?_
        refine lv_iload_n hx hb dX10_move_17 rfl (lv_at hl 2 rfl) ?_
        refine lv_iload_n hx hb dX10_move_18 rfl (lv_at hl 3 rfl) ?_
        refine lv_imul hx hb dX10_move_19 ?_
        refine lv_topi (fun x19 ex19 => ?_)
        have tx19 := q_mul (p := 100) (q := fr.toInt) ex19 (by decide) rfl (by omega) (by omega)
        refine lv_iload hx hb dX10_move_20 (lv_at hl 0 rfl) ?_
        refine lv_iadd hx hb dX10_move_22 ?_
        refine lv_topi (fun x22 ex22 => ?_)
        have tx22 := q_add (p := x19.toInt) (q := k.toInt) ex22 rfl rfl (by omega) (by omega)
        refine va_iald hx hb hK hP 0 0 rfl rfl (q_in (a := x22.toInt) rfl (by omega) (by omega)) dX10_move_23 ?_
        refine lv_topi (fun x23 ex23 => ?_)
        have tx23 := congrArg Int32.toInt ex23
        have ix23 := hl_f1 x22.toNatClampNeg (cn (by omega) (by decide))
        have v24_a : AllI (upd f1 x15.toNatClampNeg x23) 400 0 9 := allI_upd hl_f1 (by omega) (by omega)
        refine va_iast hx hb hK hP hD hS 0 0 rfl rfl (q_in (a := x15.toInt) rfl (by omega) (by omega)) dX10_move_24 (fun H locs hP hD hS => ?_)
        have hP : va_P D vwCl [Prod.mk h0 (Sum.inl (Prod.mk (cy 0) (Prod.mk 400 (Sum.inl (upd f1 x15.toNatClampNeg x23)))))] H := hP
        have hD : va_D A [Prod.mk h0 (Sum.inl (Prod.mk (cy 0) (Prod.mk 400 (Sum.inl (upd f1 x15.toNatClampNeg x23)))))] := hD
        obtain ⟨x25, ex25⟩ : ∃ y : Int32, y = k + 1 := ⟨_, rfl⟩
        refine lv_iinc (v := x25) (lv' := [(4, .int x25), (0, .ref h0), (1, .int 100), (2, .int fr), (3, .int to)]) hx hb dX10_move_25 hl (k := 0) rfl (by rw [ex25]; rfl) (by decide) rfl (fun ls hl => ?_)
        have tx25 := q_add (p := k.toInt) (q := 1) ex25 rfl (by decide) (by omega) (by omega)
        refine lv_goto (tgt := 3) hx hb dX10_move_28 (by decide) ?_
        have hmv := mv_step (n := 100) (pa := 100 * a.toNat) (pb := 100 * b.toNat) hk0 (by omega) tx25 (by omega) (show x15.toInt = _ by omega) (show x22.toInt = _ by omega) ex23 hI1 hI2
        exact ih_3 x25 (upd f1 x15.toNatClampNeg x23) (by first | omega | decide | (rw [i32_0]; omega)) (by first | omega | decide | (rw [i32_0]; omega)) hmv.1 hmv.2 v24_a (by omega) H locs hP hD hS ls (lv_sub hl [0, 1, 2, 3, 4] rfl)
  exact lp_3 (100 + 1) 0 f (by first | omega | decide | (rw [i32_0]; omega) | (rw [i32_m1]; omega)) (by first | omega | decide | (rw [i32_0]; omega) | (rw [i32_m1]; omega)) (fun j hj => absurd hj (by rw [i32_0]; omega)) (fun j _ => rfl) hv_f (by first | omega | exact Nat.lt_succ_self _ | (rw [i32_0]; omega) | (rw [i32_1]; omega)) H locs hP hD hS ls (lv_sub hl [0, 1, 2, 3, 4] rfl)

abbrev Q_c_move_now (D : va_G) (cy : Nat → ClassId) (E : EN) (h0 : Nat) (f : Nat → Int32) (fr : Int32) (to : Int32) (a : Int) (b : Int) : (Nat → Prop) → Array Value → State → Outcome → State → Prop := QV D cy (fun (g : (Nat → Int32)) => ((∀ j : Nat, j < 1 → g (1 * b.toNat + j) = f (1 * a.toNat + j)) ∧ (∀ j : Nat, (j < 1 * b.toNat ∨ 1 * b.toNat + 1 ≤ j) → g j = f j)) ∧ AllI g 4 0 2000) (fun g : (Nat → Int32) => [Prod.mk h0 (Sum.inl (Prod.mk (cy 0) (Prod.mk 4 (Sum.inl g))))])
set_option maxHeartbeats 4000000 in
set_option maxRecDepth 100000 in
theorem c_move_now (l : Launch) (D : va_G) (cy : Nat → ClassId) (E : EN) (h0 : Nat) (f : Nat → Int32) (fr : Int32) (to : Int32) (a : Int) (b : Int) (sz : Nat) (ha : fr.toInt = a) (hb9 : to.toInt = b) (hfr : 0 ≤ a ∧ a ≤ 3) (hto : 0 ≤ b ∧ b ≤ 3) (hab : a ≠ b) (hv_f : AllI f 4 0 2000) : Met l yX10_move wsX10_move ({ frames := 0, cells := 0, slots := 0, locals := 0 } : Room) (CP D cy E [.ref h0, .int 1, .int fr, .int to] [Prod.mk h0 (Sum.inl (Prod.mk (cy 0) (Prod.mk 4 (Sum.inl f))))] sz) (Q_c_move_now D cy E h0 f fr to a b (va_A [Prod.mk h0 (Sum.inl (Prod.mk (cy 0) (Prod.mk 4 (Sum.inl f))))] sz)) 0 0 (va_A [Prod.mk h0 (Sum.inl (Prod.mk (cy 0) (Prod.mk 4 (Sum.inl f))))] sz) := by
  refine Met.go (Qc := Q_c_move_now D cy E h0 f fr to a b) (cc := cX10_move) (maxL := 5) (ret := none) (by decide) rfl (Nat.le_of_ble_eq_true rfl) ?_
  intro p e s m below meth c hx hb hr hts hown hlocks hin hml hK hN A hA hAB hD hP hS ls hl hsz
  have hl : lv_has ls 5 [(0, .ref h0), (1, .int 1), (2, .int fr), (3, .int to)] := hl
  obtain ⟨H, eH⟩ : ∃ H : Heap, H = s.heap := ⟨_, rfl⟩
  obtain ⟨locs, eL⟩ : ∃ L : List Loc, L = [] := ⟨_, rfl⟩
  rw [← eL]
  rw [← eL] at hS
  have hP : va_P D vwCl [Prod.mk h0 (Sum.inl (Prod.mk (cy 0) (Prod.mk 4 (Sum.inl f))))] H := by rw [eH]; exact hP
  have hS : va_S A s.heap H locs := by rw [eH]; exact hS
  refine W.heapEq eH ?_
  clear eH eL
  refine lv_iconst (v := 0) hx hb dX10_move_0 (by decide) ?_
  refine lv_istore (lv' := [(4, .int 0), (0, .ref h0), (1, .int 1), (2, .int fr), (3, .int to)]) hx hb dX10_move_1 hl (by decide) rfl (fun ls hl => ?_)
  have lp_3 : ∀ (n_3 : Nat) (k : Int32) (f1 : Nat → Int32), (0 ≤ k.toInt) → (k.toInt ≤ 1) → (∀ j : Nat, (j : Int) < k.toInt → f1 (1 * b.toNat + j) = f (1 * a.toNat + j)) → (∀ j : Nat, (j < 1 * b.toNat ∨ ((1 * b.toNat : Nat) : Int) + k.toInt ≤ j) → f1 j = f j) → (AllI f1 4 0 2000) → (1 - k.toInt).toNat < n_3 → ∀ (H : Heap) (locs : List Loc), va_P D vwCl [Prod.mk h0 (Sum.inl (Prod.mk (cy 0) (Prod.mk 4 (Sum.inl f1))))] H → va_D A [Prod.mk h0 (Sum.inl (Prod.mk (cy 0) (Prod.mk 4 (Sum.inl f1))))] → va_S A s.heap H locs → ∀ ls : Array Slot, lv_has ls 5 [(4, .int k), (0, .ref h0), (1, .int 1), (2, .int fr), (3, .int to)] → W p l e (headSpec wsX10_move ({ frames := 0, cells := 0, slots := 0, locals := 0 } : Room)).room s m ([.ref h0, .int 1, .int fr, .int to] : List Value).toArray below meth c H locs 0 0 (MQ below (Q_c_move_now D cy E h0 f fr to a b A) ([.ref h0, .int 1, .int fr, .int to] : List Value).toArray s 0 0 A) (F0 m 3 ls []) := by
    intro n_3
    induction n_3 with
    | zero => intro k f1 hk0 hk1 hI1 hI2 hl_f1 hmu; exact absurd hmu (Nat.not_lt_zero _)
    | succ n_3 ih_3 =>
      intro k f1 hk0 hk1 hI1 hI2 hl_f1 hmu_3 H locs hP hD hS ls hl
      refine lv_iload hx hb dX10_move_3 (lv_at hl 0 rfl) ?_
      refine lv_iload_n hx hb dX10_move_5 rfl (lv_at hl 2 rfl) ?_
      refine lv_icmp_ge (tgt := 31) hx hb dX10_move_6 (by decide) (fun c6 => ?_) (fun c6 => ?_)
      · skip
        have fc6 := q_le (a := 1) (b := k.toInt) c6 (by decide) rfl
        exact r_v hx hb hr hlocks hK hS dX10_move_31 (u := (f1)) hP hD (⟨⟨fun j hj => hI1 j (by omega), fun j hj => hI2 j (by omega)⟩, hl_f1⟩)
      · skip
        have fc6 := q_nle (a := 1) (b := k.toInt) c6 (by decide) rfl
        refine lv_aload_n hx hb dX10_move_9 rfl (lv_at hl 1 rfl) ?_
        refine lv_iload_n hx hb dX10_move_10 rfl (lv_at hl 2 rfl) ?_
        refine lv_iload_n hx hb dX10_move_11 rfl (lv_at hl 4 rfl) ?_
        refine lv_imul hx hb dX10_move_12 ?_
        refine lv_topi (fun x12 ex12 => ?_)
        have tx12 := q_mul (p := 1) (q := to.toInt) ex12 (by decide) rfl (by omega) (by omega)
        refine lv_iload hx hb dX10_move_13 (lv_at hl 0 rfl) ?_
        refine lv_iadd hx hb dX10_move_15 ?_
        refine lv_topi (fun x15 ex15 => ?_)
        have tx15 := q_add (p := x12.toInt) (q := k.toInt) ex15 rfl rfl (by omega) (by omega)
        refine lv_aload_n hx hb dX10_move_16 rfl (lv_at hl 1 rfl) ?_
        refine lv_iload_n hx hb dX10_move_17 rfl (lv_at hl 2 rfl) ?_
        refine lv_iload_n hx hb dX10_move_18 rfl (lv_at hl 3 rfl) ?_
        refine lv_imul hx hb dX10_move_19 ?_
        refine lv_topi (fun x19 ex19 => ?_)
        have tx19 := q_mul (p := 1) (q := fr.toInt) ex19 (by decide) rfl (by omega) (by omega)
        refine lv_iload hx hb dX10_move_20 (lv_at hl 0 rfl) ?_
        refine lv_iadd hx hb dX10_move_22 ?_
        refine lv_topi (fun x22 ex22 => ?_)
        have tx22 := q_add (p := x19.toInt) (q := k.toInt) ex22 rfl rfl (by omega) (by omega)
        refine va_iald hx hb hK hP 0 0 rfl rfl (q_in (a := x22.toInt) rfl (by omega) (by omega)) dX10_move_23 ?_
        refine lv_topi (fun x23 ex23 => ?_)
        have tx23 := congrArg Int32.toInt ex23
        have ix23 := hl_f1 x22.toNatClampNeg (cn (by omega) (by decide))
        have v24_a : AllI (upd f1 x15.toNatClampNeg x23) 4 0 2000 := allI_upd hl_f1 (by omega) (by omega)
        refine va_iast hx hb hK hP hD hS 0 0 rfl rfl (q_in (a := x15.toInt) rfl (by omega) (by omega)) dX10_move_24 (fun H locs hP hD hS => ?_)
        have hP : va_P D vwCl [Prod.mk h0 (Sum.inl (Prod.mk (cy 0) (Prod.mk 4 (Sum.inl (upd f1 x15.toNatClampNeg x23)))))] H := hP
        have hD : va_D A [Prod.mk h0 (Sum.inl (Prod.mk (cy 0) (Prod.mk 4 (Sum.inl (upd f1 x15.toNatClampNeg x23)))))] := hD
        obtain ⟨x25, ex25⟩ : ∃ y : Int32, y = k + 1 := ⟨_, rfl⟩
        refine lv_iinc (v := x25) (lv' := [(4, .int x25), (0, .ref h0), (1, .int 1), (2, .int fr), (3, .int to)]) hx hb dX10_move_25 hl (k := 0) rfl (by rw [ex25]; rfl) (by decide) rfl (fun ls hl => ?_)
        have tx25 := q_add (p := k.toInt) (q := 1) ex25 rfl (by decide) (by omega) (by omega)
        refine lv_goto (tgt := 3) hx hb dX10_move_28 (by decide) ?_
        have hmv := mv_step (n := 1) (pa := 1 * a.toNat) (pb := 1 * b.toNat) hk0 (by omega) tx25 (by omega) (show x15.toInt = _ by omega) (show x22.toInt = _ by omega) ex23 hI1 hI2
        exact ih_3 x25 (upd f1 x15.toNatClampNeg x23) (by first | omega | decide | (rw [i32_0]; omega)) (by first | omega | decide | (rw [i32_0]; omega)) hmv.1 hmv.2 v24_a (by omega) H locs hP hD hS ls (lv_sub hl [0, 1, 2, 3, 4] rfl)
  exact lp_3 (1 + 1) 0 f (by first | omega | decide | (rw [i32_0]; omega) | (rw [i32_m1]; omega)) (by first | omega | decide | (rw [i32_0]; omega) | (rw [i32_m1]; omega)) (fun j hj => absurd hj (by rw [i32_0]; omega)) (fun j _ => rfl) hv_f (by first | omega | exact Nat.lt_succ_self _ | (rw [i32_0]; omega) | (rw [i32_1]; omega)) H locs hP hD hS ls (lv_sub hl [0, 1, 2, 3, 4] rfl)

abbrev Q_c_move_lines (D : va_G) (cy : Nat → ClassId) (E : EN) (h0 : Nat) (f : Nat → Int32) (fr : Int32) (to : Int32) (a : Int) (b : Int) : (Nat → Prop) → Array Value → State → Outcome → State → Prop := QV D cy (fun (g : (Nat → Int32)) => ((∀ j : Nat, j < 1 → g (1 * b.toNat + j) = f (1 * a.toNat + j)) ∧ (∀ j : Nat, (j < 1 * b.toNat ∨ 1 * b.toNat + 1 ≤ j) → g j = f j)) ∧ AllI g 4 0 16) (fun g : (Nat → Int32) => [Prod.mk h0 (Sum.inl (Prod.mk (cy 0) (Prod.mk 4 (Sum.inl g))))])
set_option maxHeartbeats 4000000 in
set_option maxRecDepth 100000 in
theorem c_move_lines (l : Launch) (D : va_G) (cy : Nat → ClassId) (E : EN) (h0 : Nat) (f : Nat → Int32) (fr : Int32) (to : Int32) (a : Int) (b : Int) (sz : Nat) (ha : fr.toInt = a) (hb9 : to.toInt = b) (hfr : 0 ≤ a ∧ a ≤ 3) (hto : 0 ≤ b ∧ b ≤ 3) (hab : a ≠ b) (hv_f : AllI f 4 0 16) : Met l yX10_move wsX10_move ({ frames := 0, cells := 0, slots := 0, locals := 0 } : Room) (CP D cy E [.ref h0, .int 1, .int fr, .int to] [Prod.mk h0 (Sum.inl (Prod.mk (cy 0) (Prod.mk 4 (Sum.inl f))))] sz) (Q_c_move_lines D cy E h0 f fr to a b (va_A [Prod.mk h0 (Sum.inl (Prod.mk (cy 0) (Prod.mk 4 (Sum.inl f))))] sz)) 0 0 (va_A [Prod.mk h0 (Sum.inl (Prod.mk (cy 0) (Prod.mk 4 (Sum.inl f))))] sz) := by
  refine Met.go (Qc := Q_c_move_lines D cy E h0 f fr to a b) (cc := cX10_move) (maxL := 5) (ret := none) (by decide) rfl (Nat.le_of_ble_eq_true rfl) ?_
  intro p e s m below meth c hx hb hr hts hown hlocks hin hml hK hN A hA hAB hD hP hS ls hl hsz
  have hl : lv_has ls 5 [(0, .ref h0), (1, .int 1), (2, .int fr), (3, .int to)] := hl
  obtain ⟨H, eH⟩ : ∃ H : Heap, H = s.heap := ⟨_, rfl⟩
  obtain ⟨locs, eL⟩ : ∃ L : List Loc, L = [] := ⟨_, rfl⟩
  rw [← eL]
  rw [← eL] at hS
  have hP : va_P D vwCl [Prod.mk h0 (Sum.inl (Prod.mk (cy 0) (Prod.mk 4 (Sum.inl f))))] H := by rw [eH]; exact hP
  have hS : va_S A s.heap H locs := by rw [eH]; exact hS
  refine W.heapEq eH ?_
  clear eH eL
  refine lv_iconst (v := 0) hx hb dX10_move_0 (by decide) ?_
  refine lv_istore (lv' := [(4, .int 0), (0, .ref h0), (1, .int 1), (2, .int fr), (3, .int to)]) hx hb dX10_move_1 hl (by decide) rfl (fun ls hl => ?_)
  have lp_3 : ∀ (n_3 : Nat) (k : Int32) (f1 : Nat → Int32), (0 ≤ k.toInt) → (k.toInt ≤ 1) → (∀ j : Nat, (j : Int) < k.toInt → f1 (1 * b.toNat + j) = f (1 * a.toNat + j)) → (∀ j : Nat, (j < 1 * b.toNat ∨ ((1 * b.toNat : Nat) : Int) + k.toInt ≤ j) → f1 j = f j) → (AllI f1 4 0 16) → (1 - k.toInt).toNat < n_3 → ∀ (H : Heap) (locs : List Loc), va_P D vwCl [Prod.mk h0 (Sum.inl (Prod.mk (cy 0) (Prod.mk 4 (Sum.inl f1))))] H → va_D A [Prod.mk h0 (Sum.inl (Prod.mk (cy 0) (Prod.mk 4 (Sum.inl f1))))] → va_S A s.heap H locs → ∀ ls : Array Slot, lv_has ls 5 [(4, .int k), (0, .ref h0), (1, .int 1), (2, .int fr), (3, .int to)] → W p l e (headSpec wsX10_move ({ frames := 0, cells := 0, slots := 0, locals := 0 } : Room)).room s m ([.ref h0, .int 1, .int fr, .int to] : List Value).toArray below meth c H locs 0 0 (MQ below (Q_c_move_lines D cy E h0 f fr to a b A) ([.ref h0, .int 1, .int fr, .int to] : List Value).toArray s 0 0 A) (F0 m 3 ls []) := by
    intro n_3
    induction n_3 with
    | zero => intro k f1 hk0 hk1 hI1 hI2 hl_f1 hmu; exact absurd hmu (Nat.not_lt_zero _)
    | succ n_3 ih_3 =>
      intro k f1 hk0 hk1 hI1 hI2 hl_f1 hmu_3 H locs hP hD hS ls hl
      refine lv_iload hx hb dX10_move_3 (lv_at hl 0 rfl) ?_
      refine lv_iload_n hx hb dX10_move_5 rfl (lv_at hl 2 rfl) ?_
      refine lv_icmp_ge (tgt := 31) hx hb dX10_move_6 (by decide) (fun c6 => ?_) (fun c6 => ?_)
      · skip
        have fc6 := q_le (a := 1) (b := k.toInt) c6 (by decide) rfl
        exact r_v hx hb hr hlocks hK hS dX10_move_31 (u := (f1)) hP hD (⟨⟨fun j hj => hI1 j (by omega), fun j hj => hI2 j (by omega)⟩, hl_f1⟩)
      · skip
        have fc6 := q_nle (a := 1) (b := k.toInt) c6 (by decide) rfl
        refine lv_aload_n hx hb dX10_move_9 rfl (lv_at hl 1 rfl) ?_
        refine lv_iload_n hx hb dX10_move_10 rfl (lv_at hl 2 rfl) ?_
        refine lv_iload_n hx hb dX10_move_11 rfl (lv_at hl 4 rfl) ?_
        refine lv_imul hx hb dX10_move_12 ?_
        refine lv_topi (fun x12 ex12 => ?_)
        have tx12 := q_mul (p := 1) (q := to.toInt) ex12 (by decide) rfl (by omega) (by omega)
        refine lv_iload hx hb dX10_move_13 (lv_at hl 0 rfl) ?_
        refine lv_iadd hx hb dX10_move_15 ?_
        refine lv_topi (fun x15 ex15 => ?_)
        have tx15 := q_add (p := x12.toInt) (q := k.toInt) ex15 rfl rfl (by omega) (by omega)
        refine lv_aload_n hx hb dX10_move_16 rfl (lv_at hl 1 rfl) ?_
        refine lv_iload_n hx hb dX10_move_17 rfl (lv_at hl 2 rfl) ?_
        refine lv_iload_n hx hb dX10_move_18 rfl (lv_at hl 3 rfl) ?_
        refine lv_imul hx hb dX10_move_19 ?_
        refine lv_topi (fun x19 ex19 => ?_)
        have tx19 := q_mul (p := 1) (q := fr.toInt) ex19 (by decide) rfl (by omega) (by omega)
        refine lv_iload hx hb dX10_move_20 (lv_at hl 0 rfl) ?_
        refine lv_iadd hx hb dX10_move_22 ?_
        refine lv_topi (fun x22 ex22 => ?_)
        have tx22 := q_add (p := x19.toInt) (q := k.toInt) ex22 rfl rfl (by omega) (by omega)
        refine va_iald hx hb hK hP 0 0 rfl rfl (q_in (a := x22.toInt) rfl (by omega) (by omega)) dX10_move_23 ?_
        refine lv_topi (fun x23 ex23 => ?_)
        have tx23 := congrArg Int32.toInt ex23
        have ix23 := hl_f1 x22.toNatClampNeg (cn (by omega) (by decide))
        have v24_a : AllI (upd f1 x15.toNatClampNeg x23) 4 0 16 := allI_upd hl_f1 (by omega) (by omega)
        refine va_iast hx hb hK hP hD hS 0 0 rfl rfl (q_in (a := x15.toInt) rfl (by omega) (by omega)) dX10_move_24 (fun H locs hP hD hS => ?_)
        have hP : va_P D vwCl [Prod.mk h0 (Sum.inl (Prod.mk (cy 0) (Prod.mk 4 (Sum.inl (upd f1 x15.toNatClampNeg x23)))))] H := hP
        have hD : va_D A [Prod.mk h0 (Sum.inl (Prod.mk (cy 0) (Prod.mk 4 (Sum.inl (upd f1 x15.toNatClampNeg x23)))))] := hD
        obtain ⟨x25, ex25⟩ : ∃ y : Int32, y = k + 1 := ⟨_, rfl⟩
        refine lv_iinc (v := x25) (lv' := [(4, .int x25), (0, .ref h0), (1, .int 1), (2, .int fr), (3, .int to)]) hx hb dX10_move_25 hl (k := 0) rfl (by rw [ex25]; rfl) (by decide) rfl (fun ls hl => ?_)
        have tx25 := q_add (p := k.toInt) (q := 1) ex25 rfl (by decide) (by omega) (by omega)
        refine lv_goto (tgt := 3) hx hb dX10_move_28 (by decide) ?_
        have hmv := mv_step (n := 1) (pa := 1 * a.toNat) (pb := 1 * b.toNat) hk0 (by omega) tx25 (by omega) (show x15.toInt = _ by omega) (show x22.toInt = _ by omega) ex23 hI1 hI2
        exact ih_3 x25 (upd f1 x15.toNatClampNeg x23) (by first | omega | decide | (rw [i32_0]; omega)) (by first | omega | decide | (rw [i32_0]; omega)) hmv.1 hmv.2 v24_a (by omega) H locs hP hD hS ls (lv_sub hl [0, 1, 2, 3, 4] rfl)
  exact lp_3 (1 + 1) 0 f (by first | omega | decide | (rw [i32_0]; omega) | (rw [i32_m1]; omega)) (by first | omega | decide | (rw [i32_0]; omega) | (rw [i32_m1]; omega)) (fun j hj => absurd hj (by rw [i32_0]; omega)) (fun j _ => rfl) hv_f (by first | omega | exact Nat.lt_succ_self _ | (rw [i32_0]; omega) | (rw [i32_1]; omega)) H locs hP hD hS ls (lv_sub hl [0, 1, 2, 3, 4] rfl)

abbrev Q_c_move_lineTests (D : va_G) (cy : Nat → ClassId) (E : EN) (h0 : Nat) (f : Nat → Int32) (fr : Int32) (to : Int32) (a : Int) (b : Int) : (Nat → Prop) → Array Value → State → Outcome → State → Prop := QV D cy (fun (g : (Nat → Int32)) => ((∀ j : Nat, j < 16 → g (16 * b.toNat + j) = f (16 * a.toNat + j)) ∧ (∀ j : Nat, (j < 16 * b.toNat ∨ 16 * b.toNat + 16 ≤ j) → g j = f j)) ∧ AllI g 64 0 4) (fun g : (Nat → Int32) => [Prod.mk h0 (Sum.inl (Prod.mk (cy 0) (Prod.mk 64 (Sum.inl g))))])
set_option maxHeartbeats 4000000 in
set_option maxRecDepth 100000 in
theorem c_move_lineTests (l : Launch) (D : va_G) (cy : Nat → ClassId) (E : EN) (h0 : Nat) (f : Nat → Int32) (fr : Int32) (to : Int32) (a : Int) (b : Int) (sz : Nat) (ha : fr.toInt = a) (hb9 : to.toInt = b) (hfr : 0 ≤ a ∧ a ≤ 3) (hto : 0 ≤ b ∧ b ≤ 3) (hab : a ≠ b) (hv_f : AllI f 64 0 4) : Met l yX10_move wsX10_move ({ frames := 0, cells := 0, slots := 0, locals := 0 } : Room) (CP D cy E [.ref h0, .int 16, .int fr, .int to] [Prod.mk h0 (Sum.inl (Prod.mk (cy 0) (Prod.mk 64 (Sum.inl f))))] sz) (Q_c_move_lineTests D cy E h0 f fr to a b (va_A [Prod.mk h0 (Sum.inl (Prod.mk (cy 0) (Prod.mk 64 (Sum.inl f))))] sz)) 0 0 (va_A [Prod.mk h0 (Sum.inl (Prod.mk (cy 0) (Prod.mk 64 (Sum.inl f))))] sz) := by
  refine Met.go (Qc := Q_c_move_lineTests D cy E h0 f fr to a b) (cc := cX10_move) (maxL := 5) (ret := none) (by decide) rfl (Nat.le_of_ble_eq_true rfl) ?_
  intro p e s m below meth c hx hb hr hts hown hlocks hin hml hK hN A hA hAB hD hP hS ls hl hsz
  have hl : lv_has ls 5 [(0, .ref h0), (1, .int 16), (2, .int fr), (3, .int to)] := hl
  obtain ⟨H, eH⟩ : ∃ H : Heap, H = s.heap := ⟨_, rfl⟩
  obtain ⟨locs, eL⟩ : ∃ L : List Loc, L = [] := ⟨_, rfl⟩
  rw [← eL]
  rw [← eL] at hS
  have hP : va_P D vwCl [Prod.mk h0 (Sum.inl (Prod.mk (cy 0) (Prod.mk 64 (Sum.inl f))))] H := by rw [eH]; exact hP
  have hS : va_S A s.heap H locs := by rw [eH]; exact hS
  refine W.heapEq eH ?_
  clear eH eL
  refine lv_iconst (v := 0) hx hb dX10_move_0 (by decide) ?_
  refine lv_istore (lv' := [(4, .int 0), (0, .ref h0), (1, .int 16), (2, .int fr), (3, .int to)]) hx hb dX10_move_1 hl (by decide) rfl (fun ls hl => ?_)
  have lp_3 : ∀ (n_3 : Nat) (k : Int32) (f1 : Nat → Int32), (0 ≤ k.toInt) → (k.toInt ≤ 16) → (∀ j : Nat, (j : Int) < k.toInt → f1 (16 * b.toNat + j) = f (16 * a.toNat + j)) → (∀ j : Nat, (j < 16 * b.toNat ∨ ((16 * b.toNat : Nat) : Int) + k.toInt ≤ j) → f1 j = f j) → (AllI f1 64 0 4) → (16 - k.toInt).toNat < n_3 → ∀ (H : Heap) (locs : List Loc), va_P D vwCl [Prod.mk h0 (Sum.inl (Prod.mk (cy 0) (Prod.mk 64 (Sum.inl f1))))] H → va_D A [Prod.mk h0 (Sum.inl (Prod.mk (cy 0) (Prod.mk 64 (Sum.inl f1))))] → va_S A s.heap H locs → ∀ ls : Array Slot, lv_has ls 5 [(4, .int k), (0, .ref h0), (1, .int 16), (2, .int fr), (3, .int to)] → W p l e (headSpec wsX10_move ({ frames := 0, cells := 0, slots := 0, locals := 0 } : Room)).room s m ([.ref h0, .int 16, .int fr, .int to] : List Value).toArray below meth c H locs 0 0 (MQ below (Q_c_move_lineTests D cy E h0 f fr to a b A) ([.ref h0, .int 16, .int fr, .int to] : List Value).toArray s 0 0 A) (F0 m 3 ls []) := by
    intro n_3
    induction n_3 with
    | zero => intro k f1 hk0 hk1 hI1 hI2 hl_f1 hmu; exact absurd hmu (Nat.not_lt_zero _)
    | succ n_3 ih_3 =>
      intro k f1 hk0 hk1 hI1 hI2 hl_f1 hmu_3 H locs hP hD hS ls hl
      refine lv_iload hx hb dX10_move_3 (lv_at hl 0 rfl) ?_
      refine lv_iload_n hx hb dX10_move_5 rfl (lv_at hl 2 rfl) ?_
      refine lv_icmp_ge (tgt := 31) hx hb dX10_move_6 (by decide) (fun c6 => ?_) (fun c6 => ?_)
      · skip
        have fc6 := q_le (a := 16) (b := k.toInt) c6 (by decide) rfl
        exact r_v hx hb hr hlocks hK hS dX10_move_31 (u := (f1)) hP hD (⟨⟨fun j hj => hI1 j (by omega), fun j hj => hI2 j (by omega)⟩, hl_f1⟩)
      · skip
        have fc6 := q_nle (a := 16) (b := k.toInt) c6 (by decide) rfl
        refine lv_aload_n hx hb dX10_move_9 rfl (lv_at hl 1 rfl) ?_
        refine lv_iload_n hx hb dX10_move_10 rfl (lv_at hl 2 rfl) ?_
        refine lv_iload_n hx hb dX10_move_11 rfl (lv_at hl 4 rfl) ?_
        refine lv_imul hx hb dX10_move_12 ?_
        refine lv_topi (fun x12 ex12 => ?_)
        have tx12 := q_mul (p := 16) (q := to.toInt) ex12 (by decide) rfl (by omega) (by omega)
        refine lv_iload hx hb dX10_move_13 (lv_at hl 0 rfl) ?_
        refine lv_iadd hx hb dX10_move_15 ?_
        refine lv_topi (fun x15 ex15 => ?_)
        have tx15 := q_add (p := x12.toInt) (q := k.toInt) ex15 rfl rfl (by omega) (by omega)
        refine lv_aload_n hx hb dX10_move_16 rfl (lv_at hl 1 rfl) ?_
        refine lv_iload_n hx hb dX10_move_17 rfl (lv_at hl 2 rfl) ?_
        refine lv_iload_n hx hb dX10_move_18 rfl (lv_at hl 3 rfl) ?_
        refine lv_imul hx hb dX10_move_19 ?_
        refine lv_topi (fun x19 ex19 => ?_)
        have tx19 := q_mul (p := 16) (q := fr.toInt) ex19 (by decide) rfl (by omega) (by omega)
        refine lv_iload hx hb dX10_move_20 (lv_at hl 0 rfl) ?_
        refine lv_iadd hx hb dX10_move_22 ?_
        refine lv_topi (fun x22 ex22 => ?_)
        have tx22 := q_add (p := x19.toInt) (q := k.toInt) ex22 rfl rfl (by omega) (by omega)
        refine va_iald hx hb hK hP 0 0 rfl rfl (q_in (a := x22.toInt) rfl (by omega) (by omega)) dX10_move_23 ?_
        refine lv_topi (fun x23 ex23 => ?_)
        have tx23 := congrArg Int32.toInt ex23
        have ix23 := hl_f1 x22.toNatClampNeg (cn (by omega) (by decide))
        have v24_a : AllI (upd f1 x15.toNatClampNeg x23) 64 0 4 := allI_upd hl_f1 (by omega) (by omega)
        refine va_iast hx hb hK hP hD hS 0 0 rfl rfl (q_in (a := x15.toInt) rfl (by omega) (by omega)) dX10_move_24 (fun H locs hP hD hS => ?_)
        have hP : va_P D vwCl [Prod.mk h0 (Sum.inl (Prod.mk (cy 0) (Prod.mk 64 (Sum.inl (upd f1 x15.toNatClampNeg x23)))))] H := hP
        have hD : va_D A [Prod.mk h0 (Sum.inl (Prod.mk (cy 0) (Prod.mk 64 (Sum.inl (upd f1 x15.toNatClampNeg x23)))))] := hD
        obtain ⟨x25, ex25⟩ : ∃ y : Int32, y = k + 1 := ⟨_, rfl⟩
        refine lv_iinc (v := x25) (lv' := [(4, .int x25), (0, .ref h0), (1, .int 16), (2, .int fr), (3, .int to)]) hx hb dX10_move_25 hl (k := 0) rfl (by rw [ex25]; rfl) (by decide) rfl (fun ls hl => ?_)
        have tx25 := q_add (p := k.toInt) (q := 1) ex25 rfl (by decide) (by omega) (by omega)
        refine lv_goto (tgt := 3) hx hb dX10_move_28 (by decide) ?_
        have hmv := mv_step (n := 16) (pa := 16 * a.toNat) (pb := 16 * b.toNat) hk0 (by omega) tx25 (by omega) (show x15.toInt = _ by omega) (show x22.toInt = _ by omega) ex23 hI1 hI2
        exact ih_3 x25 (upd f1 x15.toNatClampNeg x23) (by first | omega | decide | (rw [i32_0]; omega)) (by first | omega | decide | (rw [i32_0]; omega)) hmv.1 hmv.2 v24_a (by omega) H locs hP hD hS ls (lv_sub hl [0, 1, 2, 3, 4] rfl)
  exact lp_3 (16 + 1) 0 f (by first | omega | decide | (rw [i32_0]; omega) | (rw [i32_m1]; omega)) (by first | omega | decide | (rw [i32_0]; omega) | (rw [i32_m1]; omega)) (fun j hj => absurd hj (by rw [i32_0]; omega)) (fun j _ => rfl) hv_f (by first | omega | exact Nat.lt_succ_self _ | (rw [i32_0]; omega) | (rw [i32_1]; omega)) H locs hP hD hS ls (lv_sub hl [0, 1, 2, 3, 4] rfl)

abbrev Q_c_move_testWhat (D : va_G) (cy : Nat → ClassId) (E : EN) (h0 : Nat) (f : Nat → Int32) (fr : Int32) (to : Int32) (a : Int) (b : Int) : (Nat → Prop) → Array Value → State → Outcome → State → Prop := QV D cy (fun (g : (Nat → Int32)) => (∀ j : Nat, j < 64 → g (64 * b.toNat + j) = f (64 * a.toNat + j)) ∧ (∀ j : Nat, (j < 64 * b.toNat ∨ 64 * b.toNat + 64 ≤ j) → g j = f j)) (fun g : (Nat → Int32) => [Prod.mk h0 (Sum.inl (Prod.mk (cy 0) (Prod.mk 256 (Sum.inl g))))])
set_option maxHeartbeats 4000000 in
set_option maxRecDepth 100000 in
theorem c_move_testWhat (l : Launch) (D : va_G) (cy : Nat → ClassId) (E : EN) (h0 : Nat) (f : Nat → Int32) (fr : Int32) (to : Int32) (a : Int) (b : Int) (sz : Nat) (ha : fr.toInt = a) (hb9 : to.toInt = b) (hfr : 0 ≤ a ∧ a ≤ 3) (hto : 0 ≤ b ∧ b ≤ 3) (hab : a ≠ b) : Met l yX10_move wsX10_move ({ frames := 0, cells := 0, slots := 0, locals := 0 } : Room) (CP D cy E [.ref h0, .int 64, .int fr, .int to] [Prod.mk h0 (Sum.inl (Prod.mk (cy 0) (Prod.mk 256 (Sum.inl f))))] sz) (Q_c_move_testWhat D cy E h0 f fr to a b (va_A [Prod.mk h0 (Sum.inl (Prod.mk (cy 0) (Prod.mk 256 (Sum.inl f))))] sz)) 0 0 (va_A [Prod.mk h0 (Sum.inl (Prod.mk (cy 0) (Prod.mk 256 (Sum.inl f))))] sz) := by
  refine Met.go (Qc := Q_c_move_testWhat D cy E h0 f fr to a b) (cc := cX10_move) (maxL := 5) (ret := none) (by decide) rfl (Nat.le_of_ble_eq_true rfl) ?_
  intro p e s m below meth c hx hb hr hts hown hlocks hin hml hK hN A hA hAB hD hP hS ls hl hsz
  have hl : lv_has ls 5 [(0, .ref h0), (1, .int 64), (2, .int fr), (3, .int to)] := hl
  obtain ⟨H, eH⟩ : ∃ H : Heap, H = s.heap := ⟨_, rfl⟩
  obtain ⟨locs, eL⟩ : ∃ L : List Loc, L = [] := ⟨_, rfl⟩
  rw [← eL]
  rw [← eL] at hS
  have hP : va_P D vwCl [Prod.mk h0 (Sum.inl (Prod.mk (cy 0) (Prod.mk 256 (Sum.inl f))))] H := by rw [eH]; exact hP
  have hS : va_S A s.heap H locs := by rw [eH]; exact hS
  refine W.heapEq eH ?_
  clear eH eL
  refine lv_iconst (v := 0) hx hb dX10_move_0 (by decide) ?_
  refine lv_istore (lv' := [(4, .int 0), (0, .ref h0), (1, .int 64), (2, .int fr), (3, .int to)]) hx hb dX10_move_1 hl (by decide) rfl (fun ls hl => ?_)
  have lp_3 : ∀ (n_3 : Nat) (k : Int32) (f1 : Nat → Int32), (0 ≤ k.toInt) → (k.toInt ≤ 64) → (∀ j : Nat, (j : Int) < k.toInt → f1 (64 * b.toNat + j) = f (64 * a.toNat + j)) → (∀ j : Nat, (j < 64 * b.toNat ∨ ((64 * b.toNat : Nat) : Int) + k.toInt ≤ j) → f1 j = f j) → (64 - k.toInt).toNat < n_3 → ∀ (H : Heap) (locs : List Loc), va_P D vwCl [Prod.mk h0 (Sum.inl (Prod.mk (cy 0) (Prod.mk 256 (Sum.inl f1))))] H → va_D A [Prod.mk h0 (Sum.inl (Prod.mk (cy 0) (Prod.mk 256 (Sum.inl f1))))] → va_S A s.heap H locs → ∀ ls : Array Slot, lv_has ls 5 [(4, .int k), (0, .ref h0), (1, .int 64), (2, .int fr), (3, .int to)] → W p l e (headSpec wsX10_move ({ frames := 0, cells := 0, slots := 0, locals := 0 } : Room)).room s m ([.ref h0, .int 64, .int fr, .int to] : List Value).toArray below meth c H locs 0 0 (MQ below (Q_c_move_testWhat D cy E h0 f fr to a b A) ([.ref h0, .int 64, .int fr, .int to] : List Value).toArray s 0 0 A) (F0 m 3 ls []) := by
    intro n_3
    induction n_3 with
    | zero => intro k f1 hk0 hk1 hI1 hI2 hmu; exact absurd hmu (Nat.not_lt_zero _)
    | succ n_3 ih_3 =>
      intro k f1 hk0 hk1 hI1 hI2 hmu_3 H locs hP hD hS ls hl
      refine lv_iload hx hb dX10_move_3 (lv_at hl 0 rfl) ?_
      refine lv_iload_n hx hb dX10_move_5 rfl (lv_at hl 2 rfl) ?_
      refine lv_icmp_ge (tgt := 31) hx hb dX10_move_6 (by decide) (fun c6 => ?_) (fun c6 => ?_)
      · skip
        have fc6 := q_le (a := 64) (b := k.toInt) c6 (by decide) rfl
        exact r_v hx hb hr hlocks hK hS dX10_move_31 (u := (f1)) hP hD (⟨fun j hj => hI1 j (by omega), fun j hj => hI2 j (by omega)⟩)
      · skip
        have fc6 := q_nle (a := 64) (b := k.toInt) c6 (by decide) rfl
        refine lv_aload_n hx hb dX10_move_9 rfl (lv_at hl 1 rfl) ?_
        refine lv_iload_n hx hb dX10_move_10 rfl (lv_at hl 2 rfl) ?_
        refine lv_iload_n hx hb dX10_move_11 rfl (lv_at hl 4 rfl) ?_
        refine lv_imul hx hb dX10_move_12 ?_
        refine lv_topi (fun x12 ex12 => ?_)
        have tx12 := q_mul (p := 64) (q := to.toInt) ex12 (by decide) rfl (by omega) (by omega)
        refine lv_iload hx hb dX10_move_13 (lv_at hl 0 rfl) ?_
        refine lv_iadd hx hb dX10_move_15 ?_
        refine lv_topi (fun x15 ex15 => ?_)
        have tx15 := q_add (p := x12.toInt) (q := k.toInt) ex15 rfl rfl (by omega) (by omega)
        refine lv_aload_n hx hb dX10_move_16 rfl (lv_at hl 1 rfl) ?_
        refine lv_iload_n hx hb dX10_move_17 rfl (lv_at hl 2 rfl) ?_
        refine lv_iload_n hx hb dX10_move_18 rfl (lv_at hl 3 rfl) ?_
        refine lv_imul hx hb dX10_move_19 ?_
        refine lv_topi (fun x19 ex19 => ?_)
        have tx19 := q_mul (p := 64) (q := fr.toInt) ex19 (by decide) rfl (by omega) (by omega)
        refine lv_iload hx hb dX10_move_20 (lv_at hl 0 rfl) ?_
        refine lv_iadd hx hb dX10_move_22 ?_
        refine lv_topi (fun x22 ex22 => ?_)
        have tx22 := q_add (p := x19.toInt) (q := k.toInt) ex22 rfl rfl (by omega) (by omega)
        refine va_iald hx hb hK hP 0 0 rfl rfl (q_in (a := x22.toInt) rfl (by omega) (by omega)) dX10_move_23 ?_
        refine lv_topi (fun x23 ex23 => ?_)
        have tx23 := congrArg Int32.toInt ex23
        refine va_iast hx hb hK hP hD hS 0 0 rfl rfl (q_in (a := x15.toInt) rfl (by omega) (by omega)) dX10_move_24 (fun H locs hP hD hS => ?_)
        have hP : va_P D vwCl [Prod.mk h0 (Sum.inl (Prod.mk (cy 0) (Prod.mk 256 (Sum.inl (upd f1 x15.toNatClampNeg x23)))))] H := hP
        have hD : va_D A [Prod.mk h0 (Sum.inl (Prod.mk (cy 0) (Prod.mk 256 (Sum.inl (upd f1 x15.toNatClampNeg x23)))))] := hD
        obtain ⟨x25, ex25⟩ : ∃ y : Int32, y = k + 1 := ⟨_, rfl⟩
        refine lv_iinc (v := x25) (lv' := [(4, .int x25), (0, .ref h0), (1, .int 64), (2, .int fr), (3, .int to)]) hx hb dX10_move_25 hl (k := 0) rfl (by rw [ex25]; rfl) (by decide) rfl (fun ls hl => ?_)
        have tx25 := q_add (p := k.toInt) (q := 1) ex25 rfl (by decide) (by omega) (by omega)
        refine lv_goto (tgt := 3) hx hb dX10_move_28 (by decide) ?_
        have hmv := mv_step (n := 64) (pa := 64 * a.toNat) (pb := 64 * b.toNat) hk0 (by omega) tx25 (by omega) (show x15.toInt = _ by omega) (show x22.toInt = _ by omega) ex23 hI1 hI2
        exact ih_3 x25 (upd f1 x15.toNatClampNeg x23) (by first | omega | decide | (rw [i32_0]; omega)) (by first | omega | decide | (rw [i32_0]; omega)) hmv.1 hmv.2 (by omega) H locs hP hD hS ls (lv_sub hl [0, 1, 2, 3, 4] rfl)
  exact lp_3 (64 + 1) 0 f (by first | omega | decide | (rw [i32_0]; omega) | (rw [i32_m1]; omega)) (by first | omega | decide | (rw [i32_0]; omega) | (rw [i32_m1]; omega)) (fun j hj => absurd hj (by rw [i32_0]; omega)) (fun j _ => rfl) (by first | omega | exact Nat.lt_succ_self _ | (rw [i32_0]; omega) | (rw [i32_1]; omega)) H locs hP hD hS ls (lv_sub hl [0, 1, 2, 3, 4] rfl)

abbrev Q_c_move_lineAct (D : va_G) (cy : Nat → ClassId) (E : EN) (h0 : Nat) (f : Nat → Int32) (fr : Int32) (to : Int32) (a : Int) (b : Int) : (Nat → Prop) → Array Value → State → Outcome → State → Prop := QV D cy (fun (g : (Nat → Int32)) => (∀ j : Nat, j < 16 → g (16 * b.toNat + j) = f (16 * a.toNat + j)) ∧ (∀ j : Nat, (j < 16 * b.toNat ∨ 16 * b.toNat + 16 ≤ j) → g j = f j)) (fun g : (Nat → Int32) => [Prod.mk h0 (Sum.inl (Prod.mk (cy 0) (Prod.mk 64 (Sum.inl g))))])
set_option maxHeartbeats 4000000 in
set_option maxRecDepth 100000 in
theorem c_move_lineAct (l : Launch) (D : va_G) (cy : Nat → ClassId) (E : EN) (h0 : Nat) (f : Nat → Int32) (fr : Int32) (to : Int32) (a : Int) (b : Int) (sz : Nat) (ha : fr.toInt = a) (hb9 : to.toInt = b) (hfr : 0 ≤ a ∧ a ≤ 3) (hto : 0 ≤ b ∧ b ≤ 3) (hab : a ≠ b) : Met l yX10_move wsX10_move ({ frames := 0, cells := 0, slots := 0, locals := 0 } : Room) (CP D cy E [.ref h0, .int 16, .int fr, .int to] [Prod.mk h0 (Sum.inl (Prod.mk (cy 0) (Prod.mk 64 (Sum.inl f))))] sz) (Q_c_move_lineAct D cy E h0 f fr to a b (va_A [Prod.mk h0 (Sum.inl (Prod.mk (cy 0) (Prod.mk 64 (Sum.inl f))))] sz)) 0 0 (va_A [Prod.mk h0 (Sum.inl (Prod.mk (cy 0) (Prod.mk 64 (Sum.inl f))))] sz) := by
  refine Met.go (Qc := Q_c_move_lineAct D cy E h0 f fr to a b) (cc := cX10_move) (maxL := 5) (ret := none) (by decide) rfl (Nat.le_of_ble_eq_true rfl) ?_
  intro p e s m below meth c hx hb hr hts hown hlocks hin hml hK hN A hA hAB hD hP hS ls hl hsz
  have hl : lv_has ls 5 [(0, .ref h0), (1, .int 16), (2, .int fr), (3, .int to)] := hl
  obtain ⟨H, eH⟩ : ∃ H : Heap, H = s.heap := ⟨_, rfl⟩
  obtain ⟨locs, eL⟩ : ∃ L : List Loc, L = [] := ⟨_, rfl⟩
  rw [← eL]
  rw [← eL] at hS
  have hP : va_P D vwCl [Prod.mk h0 (Sum.inl (Prod.mk (cy 0) (Prod.mk 64 (Sum.inl f))))] H := by rw [eH]; exact hP
  have hS : va_S A s.heap H locs := by rw [eH]; exact hS
  refine W.heapEq eH ?_
  clear eH eL
  refine lv_iconst (v := 0) hx hb dX10_move_0 (by decide) ?_
  refine lv_istore (lv' := [(4, .int 0), (0, .ref h0), (1, .int 16), (2, .int fr), (3, .int to)]) hx hb dX10_move_1 hl (by decide) rfl (fun ls hl => ?_)
  have lp_3 : ∀ (n_3 : Nat) (k : Int32) (f1 : Nat → Int32), (0 ≤ k.toInt) → (k.toInt ≤ 16) → (∀ j : Nat, (j : Int) < k.toInt → f1 (16 * b.toNat + j) = f (16 * a.toNat + j)) → (∀ j : Nat, (j < 16 * b.toNat ∨ ((16 * b.toNat : Nat) : Int) + k.toInt ≤ j) → f1 j = f j) → (16 - k.toInt).toNat < n_3 → ∀ (H : Heap) (locs : List Loc), va_P D vwCl [Prod.mk h0 (Sum.inl (Prod.mk (cy 0) (Prod.mk 64 (Sum.inl f1))))] H → va_D A [Prod.mk h0 (Sum.inl (Prod.mk (cy 0) (Prod.mk 64 (Sum.inl f1))))] → va_S A s.heap H locs → ∀ ls : Array Slot, lv_has ls 5 [(4, .int k), (0, .ref h0), (1, .int 16), (2, .int fr), (3, .int to)] → W p l e (headSpec wsX10_move ({ frames := 0, cells := 0, slots := 0, locals := 0 } : Room)).room s m ([.ref h0, .int 16, .int fr, .int to] : List Value).toArray below meth c H locs 0 0 (MQ below (Q_c_move_lineAct D cy E h0 f fr to a b A) ([.ref h0, .int 16, .int fr, .int to] : List Value).toArray s 0 0 A) (F0 m 3 ls []) := by
    intro n_3
    induction n_3 with
    | zero => intro k f1 hk0 hk1 hI1 hI2 hmu; exact absurd hmu (Nat.not_lt_zero _)
    | succ n_3 ih_3 =>
      intro k f1 hk0 hk1 hI1 hI2 hmu_3 H locs hP hD hS ls hl
      refine lv_iload hx hb dX10_move_3 (lv_at hl 0 rfl) ?_
      refine lv_iload_n hx hb dX10_move_5 rfl (lv_at hl 2 rfl) ?_
      refine lv_icmp_ge (tgt := 31) hx hb dX10_move_6 (by decide) (fun c6 => ?_) (fun c6 => ?_)
      · skip
        have fc6 := q_le (a := 16) (b := k.toInt) c6 (by decide) rfl
        exact r_v hx hb hr hlocks hK hS dX10_move_31 (u := (f1)) hP hD (⟨fun j hj => hI1 j (by omega), fun j hj => hI2 j (by omega)⟩)
      · skip
        have fc6 := q_nle (a := 16) (b := k.toInt) c6 (by decide) rfl
        refine lv_aload_n hx hb dX10_move_9 rfl (lv_at hl 1 rfl) ?_
        refine lv_iload_n hx hb dX10_move_10 rfl (lv_at hl 2 rfl) ?_
        refine lv_iload_n hx hb dX10_move_11 rfl (lv_at hl 4 rfl) ?_
        refine lv_imul hx hb dX10_move_12 ?_
        refine lv_topi (fun x12 ex12 => ?_)
        have tx12 := q_mul (p := 16) (q := to.toInt) ex12 (by decide) rfl (by omega) (by omega)
        refine lv_iload hx hb dX10_move_13 (lv_at hl 0 rfl) ?_
        refine lv_iadd hx hb dX10_move_15 ?_
        refine lv_topi (fun x15 ex15 => ?_)
        have tx15 := q_add (p := x12.toInt) (q := k.toInt) ex15 rfl rfl (by omega) (by omega)
        refine lv_aload_n hx hb dX10_move_16 rfl (lv_at hl 1 rfl) ?_
        refine lv_iload_n hx hb dX10_move_17 rfl (lv_at hl 2 rfl) ?_
        refine lv_iload_n hx hb dX10_move_18 rfl (lv_at hl 3 rfl) ?_
        refine lv_imul hx hb dX10_move_19 ?_
        refine lv_topi (fun x19 ex19 => ?_)
        have tx19 := q_mul (p := 16) (q := fr.toInt) ex19 (by decide) rfl (by omega) (by omega)
        refine lv_iload hx hb dX10_move_20 (lv_at hl 0 rfl) ?_
        refine lv_iadd hx hb dX10_move_22 ?_
        refine lv_topi (fun x22 ex22 => ?_)
        have tx22 := q_add (p := x19.toInt) (q := k.toInt) ex22 rfl rfl (by omega) (by omega)
        refine va_iald hx hb hK hP 0 0 rfl rfl (q_in (a := x22.toInt) rfl (by omega) (by omega)) dX10_move_23 ?_
        refine lv_topi (fun x23 ex23 => ?_)
        have tx23 := congrArg Int32.toInt ex23
        refine va_iast hx hb hK hP hD hS 0 0 rfl rfl (q_in (a := x15.toInt) rfl (by omega) (by omega)) dX10_move_24 (fun H locs hP hD hS => ?_)
        have hP : va_P D vwCl [Prod.mk h0 (Sum.inl (Prod.mk (cy 0) (Prod.mk 64 (Sum.inl (upd f1 x15.toNatClampNeg x23)))))] H := hP
        have hD : va_D A [Prod.mk h0 (Sum.inl (Prod.mk (cy 0) (Prod.mk 64 (Sum.inl (upd f1 x15.toNatClampNeg x23)))))] := hD
        obtain ⟨x25, ex25⟩ : ∃ y : Int32, y = k + 1 := ⟨_, rfl⟩
        refine lv_iinc (v := x25) (lv' := [(4, .int x25), (0, .ref h0), (1, .int 16), (2, .int fr), (3, .int to)]) hx hb dX10_move_25 hl (k := 0) rfl (by rw [ex25]; rfl) (by decide) rfl (fun ls hl => ?_)
        have tx25 := q_add (p := k.toInt) (q := 1) ex25 rfl (by decide) (by omega) (by omega)
        refine lv_goto (tgt := 3) hx hb dX10_move_28 (by decide) ?_
        have hmv := mv_step (n := 16) (pa := 16 * a.toNat) (pb := 16 * b.toNat) hk0 (by omega) tx25 (by omega) (show x15.toInt = _ by omega) (show x22.toInt = _ by omega) ex23 hI1 hI2
        exact ih_3 x25 (upd f1 x15.toNatClampNeg x23) (by first | omega | decide | (rw [i32_0]; omega)) (by first | omega | decide | (rw [i32_0]; omega)) hmv.1 hmv.2 (by omega) H locs hP hD hS ls (lv_sub hl [0, 1, 2, 3, 4] rfl)
  exact lp_3 (16 + 1) 0 f (by first | omega | decide | (rw [i32_0]; omega) | (rw [i32_m1]; omega)) (by first | omega | decide | (rw [i32_0]; omega) | (rw [i32_m1]; omega)) (fun j hj => absurd hj (by rw [i32_0]; omega)) (fun j _ => rfl) (by first | omega | exact Nat.lt_succ_self _ | (rw [i32_0]; omega) | (rw [i32_1]; omega)) H locs hP hD hS ls (lv_sub hl [0, 1, 2, 3, 4] rfl)
