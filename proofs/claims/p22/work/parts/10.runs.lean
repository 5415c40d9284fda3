abbrev Q_c_fill_6 (D : va_G) (cy : Nat → ClassId) (E : EN) (h0 : Nat) (f : Nat → Int32) (v : Int32) : (Nat → Prop) → Array Value → State → Outcome → State → Prop := QV D cy (fun (g : (Nat → Int32)) => ∀ j : Nat, j < 6 → g j = v) (fun g : (Nat → Int32) => [Prod.mk h0 (Sum.inl (Prod.mk (cy 0) (Prod.mk 6 (Sum.inl g))))])
set_option maxHeartbeats 4000000 in
set_option maxRecDepth 100000 in
theorem c_fill_6 (l : Launch) (D : va_G) (cy : Nat → ClassId) (E : EN) (h0 : Nat) (f : Nat → Int32) (v : Int32) (sz : Nat)  : Met l yJ7_fill_53178 wsJ7_fill_53178 ({ frames := 0, cells := 0, slots := 0, locals := 0 } : Room) (CP D cy E [.ref h0, .int v] [Prod.mk h0 (Sum.inl (Prod.mk (cy 0) (Prod.mk 6 (Sum.inl f))))] sz) (Q_c_fill_6 D cy E h0 f v (va_A [Prod.mk h0 (Sum.inl (Prod.mk (cy 0) (Prod.mk 6 (Sum.inl f))))] sz)) 0 0 (va_A [Prod.mk h0 (Sum.inl (Prod.mk (cy 0) (Prod.mk 6 (Sum.inl f))))] sz) := by
  refine Met.go (Qc := Q_c_fill_6 D cy E h0 f v) (cc := cJ7_fill_53178) (maxL := 4) (ret := none) (by decide) rfl (Nat.le_of_ble_eq_true rfl) ?_
  intro p e s m below meth c hx hb hr hts hown hlocks hin hml hK hN A hA hAB hD hP hS ls hl hsz
  have hl : lv_has ls 4 [(0, .ref h0), (1, .int v)] := hl
  obtain ⟨H, eH⟩ : ∃ H : Heap, H = s.heap := ⟨_, rfl⟩
  obtain ⟨locs, eL⟩ : ∃ L : List Loc, L = [] := ⟨_, rfl⟩
  rw [← eL]
  rw [← eL] at hS
  have hP : va_P D vwCl [Prod.mk h0 (Sum.inl (Prod.mk (cy 0) (Prod.mk 6 (Sum.inl f))))] H := by rw [eH]; exact hP
  have hS : va_S A s.heap H locs := by rw [eH]; exact hS
  refine W.heapEq eH ?_
  clear eH eL
  refine lv_iconst (v := 0) hx hb dJ7_fill_53178_0 (by decide) ?_
  refine lv_istore_n (lv' := [(2, .int 0), (0, .ref h0), (1, .int v)]) hx hb dJ7_fill_53178_1 rfl hl (by decide) rfl (fun ls hl => ?_)
  refine lv_aload_n hx hb dJ7_fill_53178_2 rfl (lv_at hl 1 rfl) ?_
  refine va_alen hx hb hK hP 0 0 rfl rfl (v := 6) rfl dJ7_fill_53178_3 ?_
  refine lv_istore_n (lv' := [(3, .int 6), (2, .int 0), (0, .ref h0), (1, .int v)]) hx hb dJ7_fill_53178_4 rfl hl (by decide) rfl (fun ls hl => ?_)
  have lp_5 : ∀ (n_5 : Nat) (i : Int32) (f1 : Nat → Int32), (0 ≤ i.toInt) → (i.toInt ≤ 6) → (∀ j : Nat, (j : Int) < i.toInt → f1 j = v) → (6 - i.toInt).toNat < n_5 → ∀ (H : Heap) (locs : List Loc), va_P D vwCl [Prod.mk h0 (Sum.inl (Prod.mk (cy 0) (Prod.mk 6 (Sum.inl f1))))] H → va_D A [Prod.mk h0 (Sum.inl (Prod.mk (cy 0) (Prod.mk 6 (Sum.inl f1))))] → va_S A s.heap H locs → ∀ ls : Array Slot, lv_has ls 4 [(3, .int 6), (2, .int i), (0, .ref h0), (1, .int v)] → W p l e (headSpec wsJ7_fill_53178 ({ frames := 0, cells := 0, slots := 0, locals := 0 } : Room)).room s m ([.ref h0, .int v] : List Value).toArray below meth c H locs 0 0 (MQ below (Q_c_fill_6 D cy E h0 f v A) ([.ref h0, .int v] : List Value).toArray s 0 0 A) (F0 m 5 ls []) := by
    intro n_5
    induction n_5 with
    | zero => intro i f1 hi0 hi1 hf hmu; exact absurd hmu (Nat.not_lt_zero _)
    | succ n_5 ih_5 =>
      intro i f1 hi0 hi1 hf hmu_5 H locs hP hD hS ls hl
      refine lv_iload_n hx hb dJ7_fill_53178_5 rfl (lv_at hl 1 rfl) ?_
      refine lv_iload_n hx hb dJ7_fill_53178_6 rfl (lv_at hl 0 rfl) ?_
      refine lv_icmp_ge (tgt := 20) hx hb dJ7_fill_53178_7 (by decide) (fun c7 => ?_) (fun c7 => ?_)
      · skip
        have fc7 := q_le (a := 6) (b := i.toInt) c7 (by decide) rfl
        exact r_v hx hb hr hlocks hK hS dJ7_fill_53178_20 (u := (f1)) hP hD (fun j hj => hf j (by omega))
      · skip
        have fc7 := q_nle (a := 6) (b := i.toInt) c7 (by decide) rfl
        refine lv_aload_n hx hb dJ7_fill_53178_10 rfl (lv_at hl 2 rfl) ?_
        refine lv_iload_n hx hb dJ7_fill_53178_11 rfl (lv_at hl 1 rfl) ?_
        refine lv_iload_n hx hb dJ7_fill_53178_12 rfl (lv_at hl 3 rfl) ?_
        refine va_iast hx hb hK hP hD hS 0 0 rfl rfl (q_in (a := i.toInt) rfl (by omega) (by omega)) dJ7_fill_53178_13 (fun H locs hP hD hS => ?_)
        have hP : va_P D vwCl [Prod.mk h0 (Sum.inl (Prod.mk (cy 0) (Prod.mk 6 (Sum.inl (upd f1 i.toNatClampNeg v)))))] H := hP
        have hD : va_D A [Prod.mk h0 (Sum.inl (Prod.mk (cy 0) (Prod.mk 6 (Sum.inl (upd f1 i.toNatClampNeg v)))))] := hD
        obtain ⟨x14, ex14⟩ : ∃ y : Int32, y = i + 1 := ⟨_, rfl⟩
        refine lv_iinc (v := x14) (lv' := [(2, .int x14), (3, .int 6), (0, .ref h0), (1, .int v)]) hx hb dJ7_fill_53178_14 hl (k := 1) rfl (by rw [ex14]; rfl) (by decide) rfl (fun ls hl => ?_)
        have tx14 := q_add (p := i.toInt) (q := 1) ex14 rfl (by decide) (by omega) (by omega)
        refine lv_goto (tgt := 5) hx hb dJ7_fill_53178_17 (by decide) ?_
        exact ih_5 x14 (upd f1 i.toNatClampNeg v) (by first | omega | decide | (rw [i32_0]; omega)) (by first | omega | decide | (rw [i32_0]; omega)) (fill_step hi0 tx14 hf) (by omega) H locs hP hD hS ls (lv_sub hl [1, 0, 2, 3] rfl)
  exact lp_5 (6 + 1) 0 f (by first | omega | decide | (rw [i32_0]; omega) | (rw [i32_m1]; omega)) (by first | omega | decide | (rw [i32_0]; omega) | (rw [i32_m1]; omega)) (fun j hj => absurd hj (by rw [i32_0]; omega)) (by first | omega | exact Nat.lt_succ_self _ | (rw [i32_0]; omega) | (rw [i32_1]; omega)) H locs hP hD hS ls (lv_sub hl [0, 1, 2, 3] rfl)

abbrev Q_c_fill_9 (D : va_G) (cy : Nat → ClassId) (E : EN) (h0 : Nat) (f : Nat → Int32) (v : Int32) : (Nat → Prop) → Array Value → State → Outcome → State → Prop := QV D cy (fun (g : (Nat → Int32)) => ∀ j : Nat, j < 9 → g j = v) (fun g : (Nat → Int32) => [Prod.mk h0 (Sum.inl (Prod.mk (cy 0) (Prod.mk 9 (Sum.inl g))))])
set_option maxHeartbeats 4000000 in
set_option maxRecDepth 100000 in
theorem c_fill_9 (l : Launch) (D : va_G) (cy : Nat → ClassId) (E : EN) (h0 : Nat) (f : Nat → Int32) (v : Int32) (sz : Nat)  : Met l yJ7_fill_53178 wsJ7_fill_53178 ({ frames := 0, cells := 0, slots := 0, locals := 0 } : Room) (CP D cy E [.ref h0, .int v] [Prod.mk h0 (Sum.inl (Prod.mk (cy 0) (Prod.mk 9 (Sum.inl f))))] sz) (Q_c_fill_9 D cy E h0 f v (va_A [Prod.mk h0 (Sum.inl (Prod.mk (cy 0) (Prod.mk 9 (Sum.inl f))))] sz)) 0 0 (va_A [Prod.mk h0 (Sum.inl (Prod.mk (cy 0) (Prod.mk 9 (Sum.inl f))))] sz) := by
  refine Met.go (Qc := Q_c_fill_9 D cy E h0 f v) (cc := cJ7_fill_53178) (maxL := 4) (ret := none) (by decide) rfl (Nat.le_of_ble_eq_true rfl) ?_
  intro p e s m below meth c hx hb hr hts hown hlocks hin hml hK hN A hA hAB hD hP hS ls hl hsz
  have hl : lv_has ls 4 [(0, .ref h0), (1, .int v)] := hl
  obtain ⟨H, eH⟩ : ∃ H : Heap, H = s.heap := ⟨_, rfl⟩
  obtain ⟨locs, eL⟩ : ∃ L : List Loc, L = [] := ⟨_, rfl⟩
  rw [← eL]
  rw [← eL] at hS
  have hP : va_P D vwCl [Prod.mk h0 (Sum.inl (Prod.mk (cy 0) (Prod.mk 9 (Sum.inl f))))] H := by rw [eH]; exact hP
  have hS : va_S A s.heap H locs := by rw [eH]; exact hS
  refine W.heapEq eH ?_
  clear eH eL
  refine lv_iconst (v := 0) hx hb dJ7_fill_53178_0 (by decide) ?_
  refine lv_istore_n (lv' := [(2, .int 0), (0, .ref h0), (1, .int v)]) hx hb dJ7_fill_53178_1 rfl hl (by decide) rfl (fun ls hl => ?_)
  refine lv_aload_n hx hb dJ7_fill_53178_2 rfl (lv_at hl 1 rfl) ?_
  refine va_alen hx hb hK hP 0 0 rfl rfl (v := 9) rfl dJ7_fill_53178_3 ?_
  refine lv_istore_n (lv' := [(3, .int 9), (2, .int 0), (0, .ref h0), (1, .int v)]) hx hb dJ7_fill_53178_4 rfl hl (by decide) rfl (fun ls hl => ?_)
  have lp_5 : ∀ (n_5 : Nat) (i : Int32) (f1 : Nat → Int32), (0 ≤ i.toInt) → (i.toInt ≤ 9) → (∀ j : Nat, (j : Int) < i.toInt → f1 j = v) → (9 - i.toInt).toNat < n_5 → ∀ (H : Heap) (locs : List Loc), va_P D vwCl [Prod.mk h0 (Sum.inl (Prod.mk (cy 0) (Prod.mk 9 (Sum.inl f1))))] H → va_D A [Prod.mk h0 (Sum.inl (Prod.mk (cy 0) (Prod.mk 9 (Sum.inl f1))))] → va_S A s.heap H locs → ∀ ls : Array Slot, lv_has ls 4 [(3, .int 9), (2, .int i), (0, .ref h0), (1, .int v)] → W p l e (headSpec wsJ7_fill_53178 ({ frames := 0, cells := 0, slots := 0, locals := 0 } : Room)).room s m ([.ref h0, .int v] : List Value).toArray below meth c H locs 0 0 (MQ below (Q_c_fill_9 D cy E h0 f v A) ([.ref h0, .int v] : List Value).toArray s 0 0 A) (F0 m 5 ls []) := by
    intro n_5
    induction n_5 with
    | zero => intro i f1 hi0 hi1 hf hmu; exact absurd hmu (Nat.not_lt_zero _)
    | succ n_5 ih_5 =>
      intro i f1 hi0 hi1 hf hmu_5 H locs hP hD hS ls hl
      refine lv_iload_n hx hb dJ7_fill_53178_5 rfl (lv_at hl 1 rfl) ?_
      refine lv_iload_n hx hb dJ7_fill_53178_6 rfl (lv_at hl 0 rfl) ?_
      refine lv_icmp_ge (tgt := 20) hx hb dJ7_fill_53178_7 (by decide) (fun c7 => ?_) (fun c7 => ?_)
      · skip
        have fc7 := q_le (a := 9) (b := i.toInt) c7 (by decide) rfl
        exact r_v hx hb hr hlocks hK hS dJ7_fill_53178_20 (u := (f1)) hP hD (fun j hj => hf j (by omega))
      · skip
        have fc7 := q_nle (a := 9) (b := i.toInt) c7 (by decide) rfl
        refine lv_aload_n hx hb dJ7_fill_53178_10 rfl (lv_at hl 2 rfl) ?_
        refine lv_iload_n hx hb dJ7_fill_53178_11 rfl (lv_at hl 1 rfl) ?_
        refine lv_iload_n hx hb dJ7_fill_53178_12 rfl (lv_at hl 3 rfl) ?_
        refine va_iast hx hb hK hP hD hS 0 0 rfl rfl (q_in (a := i.toInt) rfl (by omega) (by omega)) dJ7_fill_53178_13 (fun H locs hP hD hS => ?_)
        have hP : va_P D vwCl [Prod.mk h0 (Sum.inl (Prod.mk (cy 0) (Prod.mk 9 (Sum.inl (upd f1 i.toNatClampNeg v)))))] H := hP
        have hD : va_D A [Prod.mk h0 (Sum.inl (Prod.mk (cy 0) (Prod.mk 9 (Sum.inl (upd f1 i.toNatClampNeg v)))))] := hD
        obtain ⟨x14, ex14⟩ : ∃ y : Int32, y = i + 1 := ⟨_, rfl⟩
        refine lv_iinc (v := x14) (lv' := [(2, .int x14), (3, .int 9), (0, .ref h0), (1, .int v)]) hx hb dJ7_fill_53178_14 hl (k := 1) rfl (by rw [ex14]; rfl) (by decide) rfl (fun ls hl => ?_)
        have tx14 := q_add (p := i.toInt) (q := 1) ex14 rfl (by decide) (by omega) (by omega)
        refine lv_goto (tgt := 5) hx hb dJ7_fill_53178_17 (by decide) ?_
        exact ih_5 x14 (upd f1 i.toNatClampNeg v) (by first | omega | decide | (rw [i32_0]; omega)) (by first | omega | decide | (rw [i32_0]; omega)) (fill_step hi0 tx14 hf) (by omega) H locs hP hD hS ls (lv_sub hl [1, 0, 2, 3] rfl)
  exact lp_5 (9 + 1) 0 f (by first | omega | decide | (rw [i32_0]; omega) | (rw [i32_m1]; omega)) (by first | omega | decide | (rw [i32_0]; omega) | (rw [i32_m1]; omega)) (fun j hj => absurd hj (by rw [i32_0]; omega)) (by first | omega | exact Nat.lt_succ_self _ | (rw [i32_0]; omega) | (rw [i32_1]; omega)) H locs hP hD hS ls (lv_sub hl [0, 1, 2, 3] rfl)

abbrev Q_c_fill_10 (D : va_G) (cy : Nat → ClassId) (E : EN) (h0 : Nat) (f : Nat → Int32) (v : Int32) : (Nat → Prop) → Array Value → State → Outcome → State → Prop := QV D cy (fun (g : (Nat → Int32)) => ∀ j : Nat, j < 10 → g j = v) (fun g : (Nat → Int32) => [Prod.mk h0 (Sum.inl (Prod.mk (cy 0) (Prod.mk 10 (Sum.inl g))))])
set_option maxHeartbeats 4000000 in
set_option maxRecDepth 100000 in
theorem c_fill_10 (l : Launch) (D : va_G) (cy : Nat → ClassId) (E : EN) (h0 : Nat) (f : Nat → Int32) (v : Int32) (sz : Nat)  : Met l yJ7_fill_53178 wsJ7_fill_53178 ({ frames := 0, cells := 0, slots := 0, locals := 0 } : Room) (CP D cy E [.ref h0, .int v] [Prod.mk h0 (Sum.inl (Prod.mk (cy 0) (Prod.mk 10 (Sum.inl f))))] sz) (Q_c_fill_10 D cy E h0 f v (va_A [Prod.mk h0 (Sum.inl (Prod.mk (cy 0) (Prod.mk 10 (Sum.inl f))))] sz)) 0 0 (va_A [Prod.mk h0 (Sum.inl (Prod.mk (cy 0) (Prod.mk 10 (Sum.inl f))))] sz) := by
  refine Met.go (Qc := Q_c_fill_10 D cy E h0 f v) (cc := cJ7_fill_53178) (maxL := 4) (ret := none) (by decide) rfl (Nat.le_of_ble_eq_true rfl) ?_
  intro p e s m below meth c hx hb hr hts hown hlocks hin hml hK hN A hA hAB hD hP hS ls hl hsz
  have hl : lv_has ls 4 [(0, .ref h0), (1, .int v)] := hl
  obtain ⟨H, eH⟩ : ∃ H : Heap, H = s.heap := ⟨_, rfl⟩
  obtain ⟨locs, eL⟩ : ∃ L : List Loc, L = [] := ⟨_, rfl⟩
  rw [← eL]
  rw [← eL] at hS
  have hP : va_P D vwCl [Prod.mk h0 (Sum.inl (Prod.mk (cy 0) (Prod.mk 10 (Sum.inl f))))] H := by rw [eH]; exact hP
  have hS : va_S A s.heap H locs := by rw [eH]; exact hS
  refine W.heapEq eH ?_
  clear eH eL
  refine lv_iconst (v := 0) hx hb dJ7_fill_53178_0 (by decide) ?_
  refine lv_istore_n (lv' := [(2, .int 0), (0, .ref h0), (1, .int v)]) hx hb dJ7_fill_53178_1 rfl hl (by decide) rfl (fun ls hl => ?_)
  refine lv_aload_n hx hb dJ7_fill_53178_2 rfl (lv_at hl 1 rfl) ?_
  refine va_alen hx hb hK hP 0 0 rfl rfl (v := 10) rfl dJ7_fill_53178_3 ?_
  refine lv_istore_n (lv' := [(3, .int 10), (2, .int 0), (0, .ref h0), (1, .int v)]) hx hb dJ7_fill_53178_4 rfl hl (by decide) rfl (fun ls hl => ?_)
  have lp_5 : ∀ (n_5 : Nat) (i : Int32) (f1 : Nat → Int32), (0 ≤ i.toInt) → (i.toInt ≤ 10) → (∀ j : Nat, (j : Int) < i.toInt → f1 j = v) → (10 - i.toInt).toNat < n_5 → ∀ (H : Heap) (locs : List Loc), va_P D vwCl [Prod.mk h0 (Sum.inl (Prod.mk (cy 0) (Prod.mk 10 (Sum.inl f1))))] H → va_D A [Prod.mk h0 (Sum.inl (Prod.mk (cy 0) (Prod.mk 10 (Sum.inl f1))))] → va_S A s.heap H locs → ∀ ls : Array Slot, lv_has ls 4 [(3, .int 10), (2, .int i), (0, .ref h0), (1, .int v)] → W p l e (headSpec wsJ7_fill_53178 ({ frames := 0, cells := 0, slots := 0, locals := 0 } : Room)).room s m ([.ref h0, .int v] : List Value).toArray below meth c H locs 0 0 (MQ below (Q_c_fill_10 D cy E h0 f v A) ([.ref h0, .int v] : List Value).toArray s 0 0 A) (F0 m 5 ls []) := by
    intro n_5
    induction n_5 with
    | zero => intro i f1 hi0 hi1 hf hmu; exact absurd hmu (Nat.not_lt_zero _)
    | succ n_5 ih_5 =>
      intro i f1 hi0 hi1 hf hmu_5 H locs hP hD hS ls hl
      refine lv_iload_n hx hb dJ7_fill_53178_5 rfl (lv_at hl 1 rfl) ?_
      refine lv_iload_n hx hb dJ7_fill_53178_6 rfl (lv_at hl 0 rfl) ?_
      refine lv_icmp_ge (tgt := 20) hx hb dJ7_fill_53178_7 (by decide) (fun c7 => ?_) (fun c7 => ?_)
      · skip
        have fc7 := q_le (a := 10) (b := i.toInt) c7 (by decide) rfl
        exact r_v hx hb hr hlocks hK hS dJ7_fill_53178_20 (u := (f1)) hP hD (fun j hj => hf j (by omega))
      · skip
        have fc7 := q_nle (a := 10) (b := i.toInt) c7 (by decide) rfl
        refine lv_aload_n hx hb dJ7_fill_53178_10 rfl (lv_at hl 2 rfl) ?_
        refine lv_iload_n hx hb dJ7_fill_53178_11 rfl (lv_at hl 1 rfl) ?_
        refine lv_iload_n hx hb dJ7_fill_53178_12 rfl (lv_at hl 3 rfl) ?_
        refine va_iast hx hb hK hP hD hS 0 0 rfl rfl (q_in (a := i.toInt) rfl (by omega) (by omega)) dJ7_fill_53178_13 (fun H locs hP hD hS => ?_)
        have hP : va_P D vwCl [Prod.mk h0 (Sum.inl (Prod.mk (cy 0) (Prod.mk 10 (Sum.inl (upd f1 i.toNatClampNeg v)))))] H := hP
        have hD : va_D A [Prod.mk h0 (Sum.inl (Prod.mk (cy 0) (Prod.mk 10 (Sum.inl (upd f1 i.toNatClampNeg v)))))] := hD
        obtain ⟨x14, ex14⟩ : ∃ y : Int32, y = i + 1 := ⟨_, rfl⟩
        refine lv_iinc (v := x14) (lv' := [(2, .int x14), (3, .int 10), (0, .ref h0), (1, .int v)]) hx hb dJ7_fill_53178_14 hl (k := 1) rfl (by rw [ex14]; rfl) (by decide) rfl (fun ls hl => ?_)
        have tx14 := q_add (p := i.toInt) (q := 1) ex14 rfl (by decide) (by omega) (by omega)
        refine lv_goto (tgt := 5) hx hb dJ7_fill_53178_17 (by decide) ?_
        exact ih_5 x14 (upd f1 i.toNatClampNeg v) (by first | omega | decide | (rw [i32_0]; omega)) (by first | omega | decide | (rw [i32_0]; omega)) (fill_step hi0 tx14 hf) (by omega) H locs hP hD hS ls (lv_sub hl [1, 0, 2, 3] rfl)
  exact lp_5 (10 + 1) 0 f (by first | omega | decide | (rw [i32_0]; omega) | (rw [i32_m1]; omega)) (by first | omega | decide | (rw [i32_0]; omega) | (rw [i32_m1]; omega)) (fun j hj => absurd hj (by rw [i32_0]; omega)) (by first | omega | exact Nat.lt_succ_self _ | (rw [i32_0]; omega) | (rw [i32_1]; omega)) H locs hP hD hS ls (lv_sub hl [0, 1, 2, 3] rfl)

abbrev Q_c_fill_16 (D : va_G) (cy : Nat → ClassId) (E : EN) (h0 : Nat) (f : Nat → Int32) (v : Int32) : (Nat → Prop) → Array Value → State → Outcome → State → Prop := QV D cy (fun (g : (Nat → Int32)) => ∀ j : Nat, j < 16 → g j = v) (fun g : (Nat → Int32) => [Prod.mk h0 (Sum.inl (Prod.mk (cy 0) (Prod.mk 16 (Sum.inl g))))])
set_option maxHeartbeats 4000000 in
set_option maxRecDepth 100000 in
theorem c_fill_16 (l : Launch) (D : va_G) (cy : Nat → ClassId) (E : EN) (h0 : Nat) (f : Nat → Int32) (v : Int32) (sz : Nat)  : Met l yJ7_fill_53178 wsJ7_fill_53178 ({ frames := 0, cells := 0, slots := 0, locals := 0 } : Room) (CP D cy E [.ref h0, .int v] [Prod.mk h0 (Sum.inl (Prod.mk (cy 0) (Prod.mk 16 (Sum.inl f))))] sz) (Q_c_fill_16 D cy E h0 f v (va_A [Prod.mk h0 (Sum.inl (Prod.mk (cy 0) (Prod.mk 16 (Sum.inl f))))] sz)) 0 0 (va_A [Prod.mk h0 (Sum.inl (Prod.mk (cy 0) (Prod.mk 16 (Sum.inl f))))] sz) := by
  refine Met.go (Qc := Q_c_fill_16 D cy E h0 f v) (cc := cJ7_fill_53178) (maxL := 4) (ret := none) (by decide) rfl (Nat.le_of_ble_eq_true rfl) ?_
  intro p e s m below meth c hx hb hr hts hown hlocks hin hml hK hN A hA hAB hD hP hS ls hl hsz
  have hl : lv_has ls 4 [(0, .ref h0), (1, .int v)] := hl
  obtain ⟨H, eH⟩ : ∃ H : Heap, H = s.heap := ⟨_, rfl⟩
  obtain ⟨locs, eL⟩ : ∃ L : List Loc, L = [] := ⟨_, rfl⟩
  rw [← eL]
  rw [← eL] at hS
  have hP : va_P D vwCl [Prod.mk h0 (Sum.inl (Prod.mk (cy 0) (Prod.mk 16 (Sum.inl f))))] H := by rw [eH]; exact hP
  have hS : va_S A s.heap H locs := by rw [eH]; exact hS
  refine W.heapEq eH ?_
  clear eH eL
  refine lv_iconst (v := 0) hx hb dJ7_fill_53178_0 (by decide) ?_
  refine lv_istore_n (lv' := [(2, .int 0), (0, .ref h0), (1, .int v)]) hx hb dJ7_fill_53178_1 rfl hl (by decide) rfl (fun ls hl => ?_)
  refine lv_aload_n hx hb dJ7_fill_53178_2 rfl (lv_at hl 1 rfl) ?_
  refine va_alen hx hb hK hP 0 0 rfl rfl (v := 16) rfl dJ7_fill_53178_3 ?_
  refine lv_istore_n (lv' := [(3, .int 16), (2, .int 0), (0, .ref h0), (1, .int v)]) hx hb dJ7_fill_53178_4 rfl hl (by decide) rfl (fun ls hl => ?_)
  have lp_5 : ∀ (n_5 : Nat) (i : Int32) (f1 : Nat → Int32), (0 ≤ i.toInt) → (i.toInt ≤ 16) → (∀ j : Nat, (j : Int) < i.toInt → f1 j = v) → (16 - i.toInt).toNat < n_5 → ∀ (H : Heap) (locs : List Loc), va_P D vwCl [Prod.mk h0 (Sum.inl (Prod.mk (cy 0) (Prod.mk 16 (Sum.inl f1))))] H → va_D A [Prod.mk h0 (Sum.inl (Prod.mk (cy 0) (Prod.mk 16 (Sum.inl f1))))] → va_S A s.heap H locs → ∀ ls : Array Slot, lv_has ls 4 [(3, .int 16), (2, .int i), (0, .ref h0), (1, .int v)] → W p l e (headSpec wsJ7_fill_53178 ({ frames := 0, cells := 0, slots := 0, locals := 0 } : Room)).room s m ([.ref h0, .int v] : List Value).toArray below meth c H locs 0 0 (MQ below (Q_c_fill_16 D cy E h0 f v A) ([.ref h0, .int v] : List Value).toArray s 0 0 A) (F0 m 5 ls []) := by
    intro n_5
    induction n_5 with
    | zero => intro i f1 hi0 hi1 hf hmu; exact absurd hmu (Nat.not_lt_zero _)
    | succ n_5 ih_5 =>
      intro i f1 hi0 hi1 hf hmu_5 H locs hP hD hS ls hl
      refine lv_iload_n hx hb dJ7_fill_53178_5 rfl (lv_at hl 1 rfl) ?_
      refine lv_iload_n hx hb dJ7_fill_53178_6 rfl (lv_at hl 0 rfl) ?_
      refine lv_icmp_ge (tgt := 20) hx hb dJ7_fill_53178_7 (by decide) (fun c7 => ?_) (fun c7 => ?_)
      · skip
        have fc7 := q_le (a := 16) (b := i.toInt) c7 (by decide) rfl
        exact r_v hx hb hr hlocks hK hS dJ7_fill_53178_20 (u := (f1)) hP hD (fun j hj => hf j (by omega))
      · skip
        have fc7 := q_nle (a := 16) (b := i.toInt) c7 (by decide) rfl
        refine lv_aload_n hx hb dJ7_fill_53178_10 rfl (lv_at hl 2 rfl) ?_
        refine lv_iload_n hx hb dJ7_fill_53178_11 rfl (lv_at hl 1 rfl) ?_
        refine lv_iload_n hx hb dJ7_fill_53178_12 rfl (lv_at hl 3 rfl) ?_
        refine va_iast hx hb hK hP hD hS 0 0 rfl rfl (q_in (a := i.toInt) rfl (by omega) (by omega)) dJ7_fill_53178_13 (fun H locs hP hD hS => ?_)
        have hP : va_P D vwCl [Prod.mk h0 (Sum.inl (Prod.mk (cy 0) (Prod.mk 16 (Sum.inl (upd f1 i.toNatClampNeg v)))))] H := hP
        have hD : va_D A [Prod.mk h0 (Sum.inl (Prod.mk (cy 0) (Prod.mk 16 (Sum.inl (upd f1 i.toNatClampNeg v)))))] := hD
        obtain ⟨x14, ex14⟩ : ∃ y : Int32, y = i + 1 := ⟨_, rfl⟩
        refine lv_iinc (v := x14) (lv' := [(2, .int x14), (3, .int 16), (0, .ref h0), (1, .int v)]) hx hb dJ7_fill_53178_14 hl (k := 1) rfl (by rw [ex14]; rfl) (by decide) rfl (fun ls hl => ?_)
        have tx14 := q_add (p := i.toInt) (q := 1) ex14 rfl (by decide) (by omega) (by omega)
        refine lv_goto (tgt := 5) hx hb dJ7_fill_53178_17 (by decide) ?_
        exact ih_5 x14 (upd f1 i.toNatClampNeg v) (by first | omega | decide | (rw [i32_0]; omega)) (by first | omega | decide | (rw [i32_0]; omega)) (fill_step hi0 tx14 hf) (by omega) H locs hP hD hS ls (lv_sub hl [1, 0, 2, 3] rfl)
  exact lp_5 (16 + 1) 0 f (by first | omega | decide | (rw [i32_0]; omega) | (rw [i32_m1]; omega)) (by first | omega | decide | (rw [i32_0]; omega) | (rw [i32_m1]; omega)) (fun j hj => absurd hj (by rw [i32_0]; omega)) (by first | omega | exact Nat.lt_succ_self _ | (rw [i32_0]; omega) | (rw [i32_1]; omega)) H locs hP hD hS ls (lv_sub hl [0, 1, 2, 3] rfl)

abbrev Q_c_X9_legsBetween (D : va_G) (cy : Nat → ClassId) (E : EN) (a : Int32) (b : Int32) : (Nat → Prop) → Array Value → State → Outcome → State → Prop := QI D cy (fun (r : Int32) (_ : Unit) => True) (fun _ : Unit => [])
set_option maxHeartbeats 4000000 in
set_option maxRecDepth 100000 in
theorem c_X9_legsBetween (l : Launch) (D : va_G) (cy : Nat → ClassId) (E : EN) (a : Int32) (b : Int32) (sz : Nat)  : Met l yX9_legsBetween wsX9_legsBetween ({ frames := 0, cells := 0, slots := 0, locals := 0 } : Room) (CP D cy E [.int a, .int b] [] sz) (Q_c_X9_legsBetween D cy E a b (va_A [] sz)) 0 0 (va_A [] sz) := by
  refine Met.go (Qc := Q_c_X9_legsBetween D cy E a b) (cc := cX9_legsBetween) (maxL := 2) (ret := (some .int)) (by decide) rfl (Nat.le_of_ble_eq_true rfl) ?_
  intro p e s m below meth c hx hb hr hts hown hlocks hin hml hK hN A hA hAB hD hP hS ls hl hsz
  have hl : lv_has ls 2 [(0, .int a), (1, .int b)] := hl
  obtain ⟨H, eH⟩ : ∃ H : Heap, H = s.heap := ⟨_, rfl⟩
  obtain ⟨locs, eL⟩ : ∃ L : List Loc, L = [] := ⟨_, rfl⟩
  rw [← eL]
  rw [← eL] at hS
  have hP : va_P D vwCl [] H := by rw [eH]; exact hP
  have hS : va_S A s.heap H locs := by rw [eH]; exact hS
  refine W.heapEq eH ?_
  clear eH eL
  refine lv_iconst (v := 1) hx hb dX9_legsBetween_0 (by decide) ?_
  refine lv_iload_n hx hb dX9_legsBetween_1 rfl (lv_at hl 1 rfl) ?_
  refine lv_ishl hx hb dX9_legsBetween_2 ?_
  refine lv_topi (fun x2 ex2 => ?_)
  refine lv_iconst (v := 1) hx hb dX9_legsBetween_3 (by decide) ?_
  refine lv_iload_n hx hb dX9_legsBetween_4 rfl (lv_at hl 0 rfl) ?_
  refine lv_ishl hx hb dX9_legsBetween_5 ?_
  refine lv_topi (fun x5 ex5 => ?_)
  refine lv_isub hx hb dX9_legsBetween_6 ?_
  refine lv_topi (fun x6 ex6 => ?_)
  exact r_i hx hb hr hlocks hK hS dX9_legsBetween_7 (u := ()) hP hD (trivial)

abbrev Q_c_X9_isOffice (D : va_G) (cy : Nat → ClassId) (E : EN) (o : Int32) : (Nat → Prop) → Array Value → State → Outcome → State → Prop := QI D cy (fun (r : Int32) (_ : Unit) => (r.toInt = 1 ∧ (0 ≤ o.toInt ∧ o.toInt < 6)) ∨ (r.toInt = 0 ∧ ¬ (0 ≤ o.toInt ∧ o.toInt < 6))) (fun _ : Unit => [])
set_option maxHeartbeats 4000000 in
set_option maxRecDepth 100000 in
theorem c_X9_isOffice (l : Launch) (D : va_G) (cy : Nat → ClassId) (E : EN) (o : Int32) (sz : Nat)  : Met l yX9_isOffice wsX9_isOffice ({ frames := 0, cells := 0, slots := 0, locals := 0 } : Room) (CP D cy E [.int o] [] sz) (Q_c_X9_isOffice D cy E o (va_A [] sz)) 0 0 (va_A [] sz) := by
  refine Met.go (Qc := Q_c_X9_isOffice D cy E o) (cc := cX9_isOffice) (maxL := 1) (ret := (some .boolean)) (by decide) rfl (Nat.le_of_ble_eq_true rfl) ?_
  intro p e s m below meth c hx hb hr hts hown hlocks hin hml hK hN A hA hAB hD hP hS ls hl hsz
  have hl : lv_has ls 1 [(0, .int o)] := hl
  obtain ⟨H, eH⟩ : ∃ H : Heap, H = s.heap := ⟨_, rfl⟩
  obtain ⟨locs, eL⟩ : ∃ L : List Loc, L = [] := ⟨_, rfl⟩
  rw [← eL]
  rw [← eL] at hS
  have hP : va_P D vwCl [] H := by rw [eH]; exact hP
  have hS : va_S A s.heap H locs := by rw [eH]; exact hS
  refine W.heapEq eH ?_
  clear eH eL
  refine lv_iload_n hx hb dX9_isOffice_0 rfl (lv_at hl 0 rfl) ?_
  refine lv_if_lt (tgt := 14) hx hb dX9_isOffice_1 (by decide) (fun c1 => ?_) (fun c1 => ?_)
  · skip
    have fc1 := q_lt (a := o.toInt) (b := 0) c1 rfl (by decide)
    refine lv_iconst (v := 0) hx hb dX9_isOffice_14 (by decide) ?_
    exact r_z hx hb hr hlocks hK hS dX9_isOffice_15 (by decide) (u := ()) hP hD (by first | exact Or.inl ⟨by decide, by omega⟩ | exact Or.inr ⟨by decide, by omega⟩)
  · skip
    have fc1 := q_nlt (a := o.toInt) (b := 0) c1 rfl (by decide)
    refine lv_iload_n hx hb dX9_isOffice_4 rfl (lv_at hl 0 rfl) ?_
    refine lv_bipush (v := 6) hx hb dX9_isOffice_5 (by decide) ?_
    refine lv_icmp_ge (tgt := 14) hx hb dX9_isOffice_7 (by decide) (fun c7 => ?_) (fun c7 => ?_)
    · skip
      have fc7 := q_le (a := 6) (b := o.toInt) c7 (by decide) rfl
      refine lv_iconst (v := 0) hx hb dX9_isOffice_14 (by decide) ?_
      exact r_z hx hb hr hlocks hK hS dX9_isOffice_15 (by decide) (u := ()) hP hD (by first | exact Or.inl ⟨by decide, by omega⟩ | exact Or.inr ⟨by decide, by omega⟩)
    · skip
      have fc7 := q_nle (a := 6) (b := o.toInt) c7 (by decide) rfl
      refine lv_iconst (v := 1) hx hb dX9_isOffice_10 (by decide) ?_
      refine lv_goto (tgt := 15) hx hb dX9_isOffice_11 (by decide) ?_
      exact r_z hx hb hr hlocks hK hS dX9_isOffice_15 (by decide) (u := ()) hP hD (by first | exact Or.inl ⟨by decide, by omega⟩ | exact Or.inr ⟨by decide, by omega⟩)

abbrev Q_c_X5_isTold (D : va_G) (cy : Nat → ClassId) (E : EN) (u0 : Nat) (u1 : Nat) (u2 : Nat) (u3 : Nat) (zr : Int32) (fbe : Nat → Int32) (day : Int32) : (Nat → Prop) → Array Value → State → Outcome → State → Prop := QI D cy (fun (r : Int32) (_ : Unit) => (r.toInt = 1 ∧ (0 ≤ day.toInt ∧ day.toInt < 60 ∧ 0 < (fbe day.toNatClampNeg).toInt)) ∨ (r.toInt = 0 ∧ ¬ (0 ≤ day.toInt ∧ day.toInt < 60 ∧ 0 < (fbe day.toNatClampNeg).toInt))) (fun _ : Unit => [Prod.mk u0 (Sum.inr (Prod.mk 5 [Value.int zr, Value.ref u1, Value.ref u2, Value.ref u3])), Prod.mk u1 (Sum.inl (Prod.mk (cy 0) (Prod.mk 60 (Sum.inl fbe))))])
set_option maxHeartbeats 4000000 in
set_option maxRecDepth 100000 in
theorem c_X5_isTold (l : Launch) (D : va_G) (cy : Nat → ClassId) (E : EN) (u0 : Nat) (u1 : Nat) (u2 : Nat) (u3 : Nat) (zr : Int32) (fbe : Nat → Int32) (day : Int32) (sz : Nat) (hv_fbe : AllI fbe 60 0 10) : Met l yX5_isTold wsX5_isTold ({ frames := 0, cells := 0, slots := 0, locals := 0 } : Room) (CP D cy E [.ref u0, .int day] [Prod.mk u0 (Sum.inr (Prod.mk 5 [Value.int zr, Value.ref u1, Value.ref u2, Value.ref u3])), Prod.mk u1 (Sum.inl (Prod.mk (cy 0) (Prod.mk 60 (Sum.inl fbe))))] sz) (Q_c_X5_isTold D cy E u0 u1 u2 u3 zr fbe day (va_A [Prod.mk u0 (Sum.inr (Prod.mk 5 [Value.int zr, Value.ref u1, Value.ref u2, Value.ref u3])), Prod.mk u1 (Sum.inl (Prod.mk (cy 0) (Prod.mk 60 (Sum.inl fbe))))] sz)) 0 0 (va_A [Prod.mk u0 (Sum.inr (Prod.mk 5 [Value.int zr, Value.ref u1, Value.ref u2, Value.ref u3])), Prod.mk u1 (Sum.inl (Prod.mk (cy 0) (Prod.mk 60 (Sum.inl fbe))))] sz) := by
  refine Met.go (Qc := Q_c_X5_isTold D cy E u0 u1 u2 u3 zr fbe day) (cc := cX5_isTold) (maxL := 2) (ret := (some .boolean)) (by decide) rfl (Nat.le_of_ble_eq_true rfl) ?_
  intro p e s m below meth c hx hb hr hts hown hlocks hin hml hK hN A hA hAB hD hP hS ls hl hsz
  have hl : lv_has ls 2 [(0, .ref u0), (1, .int day)] := hl
  have in_X5 : ∀ w ∈ wsX50, w ∈ wsX5_isTold := fun _ h => List.mem_cons_of_mem _ ((List.mem_append_right _ h))
  have w_1 := hts (.fieldLink RX5 9 "SleepingCars$Runs" "berths" "[I") (by decide +kernel)
  obtain ⟨H, eH⟩ : ∃ H : Heap, H = s.heap := ⟨_, rfl⟩
  obtain ⟨locs, eL⟩ : ∃ L : List Loc, L = [] := ⟨_, rfl⟩
  rw [← eL]
  rw [← eL] at hS
  have hP : va_P D vwCl [Prod.mk u0 (Sum.inr (Prod.mk 5 [Value.int zr, Value.ref u1, Value.ref u2, Value.ref u3])), Prod.mk u1 (Sum.inl (Prod.mk (cy 0) (Prod.mk 60 (Sum.inl fbe))))] H := by rw [eH]; exact hP
  have hS : va_S A s.heap H locs := by rw [eH]; exact hS
  refine W.heapEq eH ?_
  clear eH eL
  refine lv_iload_n hx hb dX5_isTold_0 rfl (lv_at hl 1 rfl) ?_
  refine lv_if_lt (tgt := 23) hx hb dX5_isTold_1 (by decide) (fun c1 => ?_) (fun c1 => ?_)
  · skip
    have fc1 := q_lt (a := day.toInt) (b := 0) c1 rfl (by decide)
    refine lv_iconst (v := 0) hx hb dX5_isTold_23 (by decide) ?_
    exact r_z hx hb hr hlocks hK hS dX5_isTold_24 (by decide) (u := ()) hP hD (by first | exact Or.inl ⟨by decide, by omega⟩ | exact Or.inr ⟨by decide, by omega⟩)
  · skip
    have fc1 := q_nlt (a := day.toInt) (b := 0) c1 rfl (by decide)
    refine lv_iload_n hx hb dX5_isTold_4 rfl (lv_at hl 1 rfl) ?_
    refine lv_bipush (v := 60) hx hb dX5_isTold_5 (by decide) ?_
    refine lv_icmp_ge (tgt := 23) hx hb dX5_isTold_7 (by decide) (fun c7 => ?_) (fun c7 => ?_)
    · skip
      have fc7 := q_le (a := 60) (b := day.toInt) c7 (by decide) rfl
      refine lv_iconst (v := 0) hx hb dX5_isTold_23 (by decide) ?_
      exact r_z hx hb hr hlocks hK hS dX5_isTold_24 (by decide) (u := ()) hP hD (by first | exact Or.inl ⟨by decide, by omega⟩ | exact Or.inr ⟨by decide, by omega⟩)
    · skip
      have fc7 := q_nle (a := 60) (b := day.toInt) c7 (by decide) rfl
      refine lv_aload_n hx hb dX5_isTold_10 rfl (lv_at hl 0 rfl) ?_
      refine va_get (D := D) (ci := 5) (v := .ref u1) (C := RX5) (T := TX5) (N := 4) hx hb hts in_X5 hown hK hP 0 rfl rfl 1 (by decide) w_1 (fun _ h9 => h9) rfl dX5_isTold_11 ?_
      refine lv_iload_n hx hb dX5_isTold_14 rfl (lv_at hl 1 rfl) ?_
      refine va_iald hx hb hK hP 1 0 rfl rfl (q_in (a := day.toInt) rfl (by omega) (by omega)) dX5_isTold_15 ?_
      refine lv_topi (fun x15 ex15 => ?_)
      have tx15 := congrArg Int32.toInt ex15
      have ix15 := hv_fbe day.toNatClampNeg (cn (by omega) (by decide))
      refine lv_if_le (tgt := 23) hx hb dX5_isTold_16 (by decide) (fun c16 => ?_) (fun c16 => ?_)
      · skip
        have fc16 := q_le (a := x15.toInt) (b := 0) c16 rfl (by decide)
        refine lv_iconst (v := 0) hx hb dX5_isTold_23 (by decide) ?_
        exact r_z hx hb hr hlocks hK hS dX5_isTold_24 (by decide) (u := ()) hP hD (by first | exact Or.inl ⟨by decide, by omega⟩ | exact Or.inr ⟨by decide, by omega⟩)
      · skip
        have fc16 := q_nle (a := x15.toInt) (b := 0) c16 rfl (by decide)
        refine lv_iconst (v := 1) hx hb dX5_isTold_19 (by decide) ?_
        refine lv_goto (tgt := 24) hx hb dX5_isTold_20 (by decide) ?_
        exact r_z hx hb hr hlocks hK hS dX5_isTold_24 (by decide) (u := ()) hP hD (by first | exact Or.inl ⟨by decide, by omega⟩ | exact Or.inr ⟨by decide, by omega⟩)

abbrev Q_c_X5_hasBerth (D : va_G) (cy : Nat → ClassId) (E : EN) (u0 : Nat) (u1 : Nat) (u2 : Nat) (u3 : Nat) (zr : Int32) (fbe : Nat → Int32) (day : Int32) (berth : Int32) : (Nat → Prop) → Array Value → State → Outcome → State → Prop := QI D cy (fun (r : Int32) (_ : Unit) => (r.toInt = 1 ∧ (0 ≤ day.toInt ∧ day.toInt < 60 ∧ 0 < (fbe day.toNatClampNeg).toInt ∧ 0 ≤ berth.toInt ∧ berth.toInt < (fbe day.toNatClampNeg).toInt)) ∨ (r.toInt = 0 ∧ ¬ (0 ≤ day.toInt ∧ day.toInt < 60 ∧ 0 < (fbe day.toNatClampNeg).toInt ∧ 0 ≤ berth.toInt ∧ berth.toInt < (fbe day.toNatClampNeg).toInt))) (fun _ : Unit => [Prod.mk u0 (Sum.inr (Prod.mk 5 [Value.int zr, Value.ref u1, Value.ref u2, Value.ref u3])), Prod.mk u1 (Sum.inl (Prod.mk (cy 0) (Prod.mk 60 (Sum.inl fbe))))])
set_option maxHeartbeats 4000000 in
set_option maxRecDepth 100000 in
theorem c_X5_hasBerth (l : Launch) (D : va_G) (cy : Nat → ClassId) (E : EN) (u0 : Nat) (u1 : Nat) (u2 : Nat) (u3 : Nat) (zr : Int32) (fbe : Nat → Int32) (day : Int32) (berth : Int32) (sz : Nat) (hv_fbe : AllI fbe 60 0 10) : Met l yX5_hasBerth wsX5_hasBerth ({ frames := 1, cells := 0, slots := 0, locals := 21 } : Room) (CP D cy E [.ref u0, .int day, .int berth] [Prod.mk u0 (Sum.inr (Prod.mk 5 [Value.int zr, Value.ref u1, Value.ref u2, Value.ref u3])), Prod.mk u1 (Sum.inl (Prod.mk (cy 0) (Prod.mk 60 (Sum.inl fbe))))] sz) (Q_c_X5_hasBerth D cy E u0 u1 u2 u3 zr fbe day berth (va_A [Prod.mk u0 (Sum.inr (Prod.mk 5 [Value.int zr, Value.ref u1, Value.ref u2, Value.ref u3])), Prod.mk u1 (Sum.inl (Prod.mk (cy 0) (Prod.mk 60 (Sum.inl fbe))))] sz)) 0 0 (va_A [Prod.mk u0 (Sum.inr (Prod.mk 5 [Value.int zr, Value.ref u1, Value.ref u2, Value.ref u3])), Prod.mk u1 (Sum.inl (Prod.mk (cy 0) (Prod.mk 60 (Sum.inl fbe))))] sz) := by
  refine Met.go (Qc := Q_c_X5_hasBerth D cy E u0 u1 u2 u3 zr fbe day berth) (cc := cX5_hasBerth) (maxL := 3) (ret := (some .boolean)) (by decide) rfl (Nat.le_of_ble_eq_true rfl) ?_
  intro p e s m below meth c hx hb hr hts hown hlocks hin hml hK hN A hA hAB hD hP hS ls hl hsz
  have hl : lv_has ls 3 [(0, .ref u0), (1, .int day), (2, .int berth)] := hl
  have w_0 := hts (.instanceMethod yX5_isTold) (by decide +kernel)
  have in_X5 : ∀ w ∈ wsX50, w ∈ wsX5_hasBerth := fun _ h => List.mem_cons_of_mem _ ((List.mem_append_right _ h))
  have w_2 := hts (.fieldLink RX5 9 "SleepingCars$Runs" "berths" "[I") (by decide +kernel)
  obtain ⟨H, eH⟩ : ∃ H : Heap, H = s.heap := ⟨_, rfl⟩
  obtain ⟨locs, eL⟩ : ∃ L : List Loc, L = [] := ⟨_, rfl⟩
  rw [← eL]
  rw [← eL] at hS
  have hP : va_P D vwCl [Prod.mk u0 (Sum.inr (Prod.mk 5 [Value.int zr, Value.ref u1, Value.ref u2, Value.ref u3])), Prod.mk u1 (Sum.inl (Prod.mk (cy 0) (Prod.mk 60 (Sum.inl fbe))))] H := by rw [eH]; exact hP
  have hS : va_S A s.heap H locs := by rw [eH]; exact hS
  refine W.heapEq eH ?_
  clear eH eL
  refine lv_aload_n hx hb dX5_hasBerth_0 rfl (lv_at hl 0 rfl) ?_
  refine lv_iload_n hx hb dX5_hasBerth_1 rfl (lv_at hl 1 rfl) ?_
  refine k_i (va_runV (As := [.int day]) (rest := []) ⟨hx, hb, hml, hown, hts⟩ (c_X5_isTold l D cy E u0 u1 u2 u3 zr fbe day H.size hv_fbe) (cwV 1 hts gX5_hasBerth_X5_isTold rfl rfl rfl (by decide +kernel) ⟨Nat.le_of_ble_eq_true rfl, Nat.le_of_ble_eq_true rfl⟩) (cp_v hK hN hS hAB hP hD [0, 1] rfl (by decide) (ci := 5) rfl rfl rfl) rfl rfl hl.1 rfl (lv_room (Nat.le_of_ble_eq_true rfl)) dX5_hasBerth_2 ⟨Nat.le_of_ble_eq_true rfl, Nat.le_of_ble_eq_true rfl⟩) hP hD hS hA [0, 1] [] (wr := []) rfl rfl (by decide) (by decide) (fun rr2 u_rr2 H locs hw2 hP hD hS => ?_)
  try dsimp only at hw2
  have hP : va_P D vwCl [Prod.mk u0 (Sum.inr (Prod.mk 5 [Value.int zr, Value.ref u1, Value.ref u2, Value.ref u3])), Prod.mk u1 (Sum.inl (Prod.mk (cy 0) (Prod.mk 60 (Sum.inl fbe))))] H := hP
  have hD : va_D A [Prod.mk u0 (Sum.inr (Prod.mk 5 [Value.int zr, Value.ref u1, Value.ref u2, Value.ref u3])), Prod.mk u1 (Sum.inl (Prod.mk (cy 0) (Prod.mk 60 (Sum.inl fbe))))] := hD
  refine lv_if_eq (tgt := 26) hx hb dX5_hasBerth_5 (by decide) (fun c5 => ?_) (fun c5 => ?_)
  · skip
    have fc5 := q_eq (a := rr2.toInt) (b := 0) c5 rfl (by decide)
    refine lv_iconst (v := 0) hx hb dX5_hasBerth_26 (by decide) ?_
    exact r_z hx hb hr hlocks hK hS dX5_hasBerth_27 (by decide) (u := ()) hP hD (by first | exact Or.inl ⟨by decide, by omega⟩ | exact Or.inr ⟨by decide, by omega⟩)
  · skip
    have fc5 := q_ne (a := rr2.toInt) (b := 0) c5 rfl (by decide)
    refine lv_iload_n hx hb dX5_hasBerth_8 rfl (lv_at hl 2 rfl) ?_
    refine lv_if_lt (tgt := 26) hx hb dX5_hasBerth_9 (by decide) (fun c9 => ?_) (fun c9 => ?_)
    · skip
      have fc9 := q_lt (a := berth.toInt) (b := 0) c9 rfl (by decide)
      refine lv_iconst (v := 0) hx hb dX5_hasBerth_26 (by decide) ?_
      exact r_z hx hb hr hlocks hK hS dX5_hasBerth_27 (by decide) (u := ()) hP hD (by first | exact Or.inl ⟨by decide, by omega⟩ | exact Or.inr ⟨by decide, by omega⟩)
    · skip
      have fc9 := q_nlt (a := berth.toInt) (b := 0) c9 rfl (by decide)
      refine lv_iload_n hx hb dX5_hasBerth_12 rfl (lv_at hl 2 rfl) ?_
      refine lv_aload_n hx hb dX5_hasBerth_13 rfl (lv_at hl 0 rfl) ?_
      refine va_get (D := D) (ci := 5) (v := .ref u1) (C := RX5) (T := TX5) (N := 4) hx hb hts in_X5 hown hK hP 0 rfl rfl 1 (by decide) w_2 (fun _ h9 => h9) rfl dX5_hasBerth_14 ?_
      refine lv_iload_n hx hb dX5_hasBerth_17 rfl (lv_at hl 1 rfl) ?_
      refine va_iald hx hb hK hP 1 0 rfl rfl (q_in (a := day.toInt) rfl (by omega) (by omega)) dX5_hasBerth_18 ?_
      refine lv_topi (fun x18 ex18 => ?_)
      have tx18 := congrArg Int32.toInt ex18
      have ix18 := hv_fbe day.toNatClampNeg (cn (by omega) (by decide))
      refine lv_icmp_ge (tgt := 26) hx hb dX5_hasBerth_19 (by decide) (fun c19 => ?_) (fun c19 => ?_)
      · skip
        have fc19 := q_le (a := x18.toInt) (b := berth.toInt) c19 rfl rfl
        refine lv_iconst (v := 0) hx hb dX5_hasBerth_26 (by decide) ?_
        exact r_z hx hb hr hlocks hK hS dX5_hasBerth_27 (by decide) (u := ()) hP hD (by first | exact Or.inl ⟨by decide, by omega⟩ | exact Or.inr ⟨by decide, by omega⟩)
      · skip
        have fc19 := q_nle (a := x18.toInt) (b := berth.toInt) c19 rfl rfl
        refine lv_iconst (v := 1) hx hb dX5_hasBerth_22 (by decide) ?_
        refine lv_goto (tgt := 27) hx hb dX5_hasBerth_23 (by decide) ?_
        exact r_z hx hb hr hlocks hK hS dX5_hasBerth_27 (by decide) (u := ()) hP hD (by first | exact Or.inl ⟨by decide, by omega⟩ | exact Or.inr ⟨by decide, by omega⟩)

abbrev Q_c_X5_owner (D : va_G) (cy : Nat → ClassId) (E : EN) (u0 : Nat) (u1 : Nat) (u2 : Nat) (u3 : Nat) (zr : Int32) (fow : Nat → Int32) (day : Int32) (berth : Int32) : (Nat → Prop) → Array Value → State → Outcome → State → Prop := QI D cy (fun (r : Int32) (_ : Unit) => True) (fun _ : Unit => [Prod.mk u0 (Sum.inr (Prod.mk 5 [Value.int zr, Value.ref u1, Value.ref u2, Value.ref u3])), Prod.mk u2 (Sum.inl (Prod.mk (cy 0) (Prod.mk 600 (Sum.inl fow))))])
set_option maxHeartbeats 4000000 in
set_option maxRecDepth 100000 in
theorem c_X5_owner (l : Launch) (D : va_G) (cy : Nat → ClassId) (E : EN) (u0 : Nat) (u1 : Nat) (u2 : Nat) (u3 : Nat) (zr : Int32) (fow : Nat → Int32) (day : Int32) (berth : Int32) (sz : Nat) (hday : 0 ≤ day.toInt ∧ day.toInt < 60) (hber : 0 ≤ berth.toInt ∧ berth.toInt < 10) : Met l yX5_owner wsX5_owner ({ frames := 0, cells := 0, slots := 0, locals := 0 } : Room) (CP D cy E [.ref u0, .int day, .int berth] [Prod.mk u0 (Sum.inr (Prod.mk 5 [Value.int zr, Value.ref u1, Value.ref u2, Value.ref u3])), Prod.mk u2 (Sum.inl (Prod.mk (cy 0) (Prod.mk 600 (Sum.inl fow))))] sz) (Q_c_X5_owner D cy E u0 u1 u2 u3 zr fow day berth (va_A [Prod.mk u0 (Sum.inr (Prod.mk 5 [Value.int zr, Value.ref u1, Value.ref u2, Value.ref u3])), Prod.mk u2 (Sum.inl (Prod.mk (cy 0) (Prod.mk 600 (Sum.inl fow))))] sz)) 0 0 (va_A [Prod.mk u0 (Sum.inr (Prod.mk 5 [Value.int zr, Value.ref u1, Value.ref u2, Value.ref u3])), Prod.mk u2 (Sum.inl (Prod.mk (cy 0) (Prod.mk 600 (Sum.inl fow))))] sz) := by
  refine Met.go (Qc := Q_c_X5_owner D cy E u0 u1 u2 u3 zr fow day berth) (cc := cX5_owner) (maxL := 3) (ret := (some .int)) (by decide) rfl (Nat.le_of_ble_eq_true rfl) ?_
  intro p e s m below meth c hx hb hr hts hown hlocks hin hml hK hN A hA hAB hD hP hS ls hl hsz
  have hl : lv_has ls 3 [(0, .ref u0), (1, .int day), (2, .int berth)] := hl
  have in_X5 : ∀ w ∈ wsX50, w ∈ wsX5_owner := fun _ h => List.mem_cons_of_mem _ ((List.mem_append_right _ h))
  have w_1 := hts (.fieldLink RX5 15 "SleepingCars$Runs" "owners" "[I") (by decide +kernel)
  obtain ⟨H, eH⟩ : ∃ H : Heap, H = s.heap := ⟨_, rfl⟩
  obtain ⟨locs, eL⟩ : ∃ L : List Loc, L = [] := ⟨_, rfl⟩
  rw [← eL]
  rw [← eL] at hS
  have hP : va_P D vwCl [Prod.mk u0 (Sum.inr (Prod.mk 5 [Value.int zr, Value.ref u1, Value.ref u2, Value.ref u3])), Prod.mk u2 (Sum.inl (Prod.mk (cy 0) (Prod.mk 600 (Sum.inl fow))))] H := by rw [eH]; exact hP
  have hS : va_S A s.heap H locs := by rw [eH]; exact hS
  refine W.heapEq eH ?_
  clear eH eL
  refine lv_aload_n hx hb dX5_owner_0 rfl (lv_at hl 0 rfl) ?_
  refine va_get (D := D) (ci := 5) (v := .ref u2) (C := RX5) (T := TX5) (N := 4) hx hb hts in_X5 hown hK hP 0 rfl rfl 2 (by decide) w_1 (fun _ h9 => h9) rfl dX5_owner_1 ?_
  refine lv_iload_n hx hb dX5_owner_4 rfl (lv_at hl 1 rfl) ?_
  refine lv_bipush (v := 10) hx hb dX5_owner_5 (by decide) ?_
  refine lv_imul hx hb dX5_owner_7 ?_
  refine lv_topi (fun x7 ex7 => ?_)
  have tx7 := q_mul (p := day.toInt) (q := 10) ex7 rfl (by decide) (by omega) (by omega)
  refine lv_iload_n hx hb dX5_owner_8 rfl (lv_at hl 2 rfl) ?_
  refine lv_iadd hx hb dX5_owner_9 ?_
  refine lv_topi (fun x9 ex9 => ?_)
  have tx9 := q_add (p := x7.toInt) (q := berth.toInt) ex9 rfl rfl (by omega) (by omega)
  refine va_iald hx hb hK hP 1 0 rfl rfl (q_in (a := x9.toInt) rfl (by omega) (by omega)) dX5_owner_10 ?_
  refine lv_topi (fun x10 ex10 => ?_)
  have tx10 := congrArg Int32.toInt ex10
  exact r_i hx hb hr hlocks hK hS dX5_owner_11 (u := ()) hP hD (trivial)

abbrev Q_c_X5_legsOf (D : va_G) (cy : Nat → ClassId) (E : EN) (u0 : Nat) (u1 : Nat) (u2 : Nat) (u3 : Nat) (zr : Int32) (fso : Nat → Int32) (day : Int32) (berth : Int32) : (Nat → Prop) → Array Value → State → Outcome → State → Prop := QI D cy (fun (r : Int32) (_ : Unit) => True) (fun _ : Unit => [Prod.mk u0 (Sum.inr (Prod.mk 5 [Value.int zr, Value.ref u1, Value.ref u2, Value.ref u3])), Prod.mk u3 (Sum.inl (Prod.mk (cy 0) (Prod.mk 600 (Sum.inl fso))))])
set_option maxHeartbeats 4000000 in
set_option maxRecDepth 100000 in
theorem c_X5_legsOf (l : Launch) (D : va_G) (cy : Nat → ClassId) (E : EN) (u0 : Nat) (u1 : Nat) (u2 : Nat) (u3 : Nat) (zr : Int32) (fso : Nat → Int32) (day : Int32) (berth : Int32) (sz : Nat) (hday : 0 ≤ day.toInt ∧ day.toInt < 60) (hber : 0 ≤ berth.toInt ∧ berth.toInt < 10) : Met l yX5_legsOf wsX5_legsOf ({ frames := 0, cells := 0, slots := 0, locals := 0 } : Room) (CP D cy E [.ref u0, .int day, .int berth] [Prod.mk u0 (Sum.inr (Prod.mk 5 [Value.int zr, Value.ref u1, Value.ref u2, Value.ref u3])), Prod.mk u3 (Sum.inl (Prod.mk (cy 0) (Prod.mk 600 (Sum.inl fso))))] sz) (Q_c_X5_legsOf D cy E u0 u1 u2 u3 zr fso day berth (va_A [Prod.mk u0 (Sum.inr (Prod.mk 5 [Value.int zr, Value.ref u1, Value.ref u2, Value.ref u3])), Prod.mk u3 (Sum.inl (Prod.mk (cy 0) (Prod.mk 600 (Sum.inl fso))))] sz)) 0 0 (va_A [Prod.mk u0 (Sum.inr (Prod.mk 5 [Value.int zr, Value.ref u1, Value.ref u2, Value.ref u3])), Prod.mk u3 (Sum.inl (Prod.mk (cy 0) (Prod.mk 600 (Sum.inl fso))))] sz) := by
  refine Met.go (Qc := Q_c_X5_legsOf D cy E u0 u1 u2 u3 zr fso day berth) (cc := cX5_legsOf) (maxL := 3) (ret := (some .int)) (by decide) rfl (Nat.le_of_ble_eq_true rfl) ?_
  intro p e s m below meth c hx hb hr hts hown hlocks hin hml hK hN A hA hAB hD hP hS ls hl hsz
  have hl : lv_has ls 3 [(0, .ref u0), (1, .int day), (2, .int berth)] := hl
  have in_X5 : ∀ w ∈ wsX50, w ∈ wsX5_legsOf := fun _ h => List.mem_cons_of_mem _ ((List.mem_append_right _ h))
  have w_1 := hts (.fieldLink RX5 18 "SleepingCars$Runs" "soldLegs" "[I") (by decide +kernel)
  obtain ⟨H, eH⟩ : ∃ H : Heap, H = s.heap := ⟨_, rfl⟩
  obtain ⟨locs, eL⟩ : ∃ L : List Loc, L = [] := ⟨_, rfl⟩
  rw [← eL]
  rw [← eL] at hS
  have hP : va_P D vwCl [Prod.mk u0 (Sum.inr (Prod.mk 5 [Value.int zr, Value.ref u1, Value.ref u2, Value.ref u3])), Prod.mk u3 (Sum.inl (Prod.mk (cy 0) (Prod.mk 600 (Sum.inl fso))))] H := by rw [eH]; exact hP
  have hS : va_S A s.heap H locs := by rw [eH]; exact hS
  refine W.heapEq eH ?_
  clear eH eL
  refine lv_aload_n hx hb dX5_legsOf_0 rfl (lv_at hl 0 rfl) ?_
  refine va_get (D := D) (ci := 5) (v := .ref u3) (C := RX5) (T := TX5) (N := 4) hx hb hts in_X5 hown hK hP 0 rfl rfl 3 (by decide) w_1 (fun _ h9 => h9) rfl dX5_legsOf_1 ?_
  refine lv_iload_n hx hb dX5_legsOf_4 rfl (lv_at hl 1 rfl) ?_
  refine lv_bipush (v := 10) hx hb dX5_legsOf_5 (by decide) ?_
  refine lv_imul hx hb dX5_legsOf_7 ?_
  refine lv_topi (fun x7 ex7 => ?_)
  have tx7 := q_mul (p := day.toInt) (q := 10) ex7 rfl (by decide) (by omega) (by omega)
  refine lv_iload_n hx hb dX5_legsOf_8 rfl (lv_at hl 2 rfl) ?_
  refine lv_iadd hx hb dX5_legsOf_9 ?_
  refine lv_topi (fun x9 ex9 => ?_)
  have tx9 := q_add (p := x7.toInt) (q := berth.toInt) ex9 rfl rfl (by omega) (by omega)
  refine va_iald hx hb hK hP 1 0 rfl rfl (q_in (a := x9.toInt) rfl (by omega) (by omega)) dX5_legsOf_10 ?_
  refine lv_topi (fun x10 ex10 => ?_)
  have tx10 := congrArg Int32.toInt ex10
  exact r_i hx hb hr hlocks hK hS dX5_legsOf_11 (u := ()) hP hD (trivial)

abbrev Q_c_X5_setLegs (D : va_G) (cy : Nat → ClassId) (E : EN) (u0 : Nat) (u1 : Nat) (u2 : Nat) (u3 : Nat) (zr : Int32) (fso : Nat → Int32) (day : Int32) (berth : Int32) (legs : Int32) : (Nat → Prop) → Array Value → State → Outcome → State → Prop := QV D cy (fun (gso : (Nat → Int32)) => True) (fun gso : (Nat → Int32) => [Prod.mk u0 (Sum.inr (Prod.mk 5 [Value.int zr, Value.ref u1, Value.ref u2, Value.ref u3])), Prod.mk u3 (Sum.inl (Prod.mk (cy 0) (Prod.mk 600 (Sum.inl gso))))])
set_option maxHeartbeats 4000000 in
set_option maxRecDepth 100000 in
theorem c_X5_setLegs (l : Launch) (D : va_G) (cy : Nat → ClassId) (E : EN) (u0 : Nat) (u1 : Nat) (u2 : Nat) (u3 : Nat) (zr : Int32) (fso : Nat → Int32) (day : Int32) (berth : Int32) (legs : Int32) (sz : Nat) (hday : 0 ≤ day.toInt ∧ day.toInt < 60) (hber : 0 ≤ berth.toInt ∧ berth.toInt < 10) : Met l yX5_setLegs wsX5_setLegs ({ frames := 0, cells := 0, slots := 0, locals := 0 } : Room) (CP D cy E [.ref u0, .int day, .int berth, .int legs] [Prod.mk u0 (Sum.inr (Prod.mk 5 [Value.int zr, Value.ref u1, Value.ref u2, Value.ref u3])), Prod.mk u3 (Sum.inl (Prod.mk (cy 0) (Prod.mk 600 (Sum.inl fso))))] sz) (Q_c_X5_setLegs D cy E u0 u1 u2 u3 zr fso day berth legs (va_A [Prod.mk u0 (Sum.inr (Prod.mk 5 [Value.int zr, Value.ref u1, Value.ref u2, Value.ref u3])), Prod.mk u3 (Sum.inl (Prod.mk (cy 0) (Prod.mk 600 (Sum.inl fso))))] sz)) 0 0 (va_A [Prod.mk u0 (Sum.inr (Prod.mk 5 [Value.int zr, Value.ref u1, Value.ref u2, Value.ref u3])), Prod.mk u3 (Sum.inl (Prod.mk (cy 0) (Prod.mk 600 (Sum.inl fso))))] sz) := by
  refine Met.go (Qc := Q_c_X5_setLegs D cy E u0 u1 u2 u3 zr fso day berth legs) (cc := cX5_setLegs) (maxL := 4) (ret := none) (by decide) rfl (Nat.le_of_ble_eq_true rfl) ?_
  intro p e s m below meth c hx hb hr hts hown hlocks hin hml hK hN A hA hAB hD hP hS ls hl hsz
  have hl : lv_has ls 4 [(0, .ref u0), (1, .int day), (2, .int berth), (3, .int legs)] := hl
  have in_X5 : ∀ w ∈ wsX50, w ∈ wsX5_setLegs := fun _ h => List.mem_cons_of_mem _ ((List.mem_append_right _ h))
  have w_1 := hts (.fieldLink RX5 18 "SleepingCars$Runs" "soldLegs" "[I") (by decide +kernel)
  obtain ⟨H, eH⟩ : ∃ H : Heap, H = s.heap := ⟨_, rfl⟩
  obtain ⟨locs, eL⟩ : ∃ L : List Loc, L = [] := ⟨_, rfl⟩
  rw [← eL]
  rw [← eL] at hS
  have hP : va_P D vwCl [Prod.mk u0 (Sum.inr (Prod.mk 5 [Value.int zr, Value.ref u1, Value.ref u2, Value.ref u3])), Prod.mk u3 (Sum.inl (Prod.mk (cy 0) (Prod.mk 600 (Sum.inl fso))))] H := by rw [eH]; exact hP
  have hS : va_S A s.heap H locs := by rw [eH]; exact hS
  refine W.heapEq eH ?_
  clear eH eL
  refine lv_aload_n hx hb dX5_setLegs_0 rfl (lv_at hl 0 rfl) ?_
  refine va_get (D := D) (ci := 5) (v := .ref u3) (C := RX5) (T := TX5) (N := 4) hx hb hts in_X5 hown hK hP 0 rfl rfl 3 (by decide) w_1 (fun _ h9 => h9) rfl dX5_setLegs_1 ?_
  refine lv_iload_n hx hb dX5_setLegs_4 rfl (lv_at hl 1 rfl) ?_
  refine lv_bipush (v := 10) hx hb dX5_setLegs_5 (by decide) ?_
  refine lv_imul hx hb dX5_setLegs_7 ?_
  refine lv_topi (fun x7 ex7 => ?_)
  have tx7 := q_mul (p := day.toInt) (q := 10) ex7 rfl (by decide) (by omega) (by omega)
  refine lv_iload_n hx hb dX5_setLegs_8 rfl (lv_at hl 2 rfl) ?_
  refine lv_iadd hx hb dX5_setLegs_9 ?_
  refine lv_topi (fun x9 ex9 => ?_)
  have tx9 := q_add (p := x7.toInt) (q := berth.toInt) ex9 rfl rfl (by omega) (by omega)
  refine lv_iload_n hx hb dX5_setLegs_10 rfl (lv_at hl 3 rfl) ?_
  refine va_iast hx hb hK hP hD hS 1 0 rfl rfl (q_in (a := x9.toInt) rfl (by omega) (by omega)) dX5_setLegs_11 (fun H locs hP hD hS => ?_)
  have hP : va_P D vwCl [Prod.mk u0 (Sum.inr (Prod.mk 5 [Value.int zr, Value.ref u1, Value.ref u2, Value.ref u3])), Prod.mk u3 (Sum.inl (Prod.mk (cy 0) (Prod.mk 600 (Sum.inl (upd fso x9.toNatClampNeg legs)))))] H := hP
  have hD : va_D A [Prod.mk u0 (Sum.inr (Prod.mk 5 [Value.int zr, Value.ref u1, Value.ref u2, Value.ref u3])), Prod.mk u3 (Sum.inl (Prod.mk (cy 0) (Prod.mk 600 (Sum.inl (upd fso x9.toNatClampNeg legs)))))] := hD
  exact r_v hx hb hr hlocks hK hS dX5_setLegs_12 (u := (upd fso x9.toNatClampNeg legs)) hP hD (trivial)

abbrev Q_c_X5_isSold (D : va_G) (cy : Nat → ClassId) (E : EN) (u0 : Nat) (u1 : Nat) (u2 : Nat) (u3 : Nat) (zr : Int32) (fso : Nat → Int32) (day : Int32) (berth : Int32) (stop : Int32) : (Nat → Prop) → Array Value → State → Outcome → State → Prop := QI D cy (fun (r : Int32) (_ : Unit) => r.toInt = 0 ∨ r.toInt = 1) (fun _ : Unit => [Prod.mk u0 (Sum.inr (Prod.mk 5 [Value.int zr, Value.ref u1, Value.ref u2, Value.ref u3])), Prod.mk u3 (Sum.inl (Prod.mk (cy 0) (Prod.mk 600 (Sum.inl fso))))])
set_option maxHeartbeats 4000000 in
set_option maxRecDepth 100000 in
theorem c_X5_isSold (l : Launch) (D : va_G) (cy : Nat → ClassId) (E : EN) (u0 : Nat) (u1 : Nat) (u2 : Nat) (u3 : Nat) (zr : Int32) (fso : Nat → Int32) (day : Int32) (berth : Int32) (stop : Int32) (sz : Nat) (hday : 0 ≤ day.toInt ∧ day.toInt < 60) (hber : 0 ≤ berth.toInt ∧ berth.toInt < 10) : Met l yX5_isSold wsX5_isSold ({ frames := 1, cells := 0, slots := 0, locals := 22 } : Room) (CP D cy E [.ref u0, .int day, .int berth, .int stop] [Prod.mk u0 (Sum.inr (Prod.mk 5 [Value.int zr, Value.ref u1, Value.ref u2, Value.ref u3])), Prod.mk u3 (Sum.inl (Prod.mk (cy 0) (Prod.mk 600 (Sum.inl fso))))] sz) (Q_c_X5_isSold D cy E u0 u1 u2 u3 zr fso day berth stop (va_A [Prod.mk u0 (Sum.inr (Prod.mk 5 [Value.int zr, Value.ref u1, Value.ref u2, Value.ref u3])), Prod.mk u3 (Sum.inl (Prod.mk (cy 0) (Prod.mk 600 (Sum.inl fso))))] sz)) 0 0 (va_A [Prod.mk u0 (Sum.inr (Prod.mk 5 [Value.int zr, Value.ref u1, Value.ref u2, Value.ref u3])), Prod.mk u3 (Sum.inl (Prod.mk (cy 0) (Prod.mk 600 (Sum.inl fso))))] sz) := by
  refine Met.go (Qc := Q_c_X5_isSold D cy E u0 u1 u2 u3 zr fso day berth stop) (cc := cX5_isSold) (maxL := 4) (ret := (some .boolean)) (by decide) rfl (Nat.le_of_ble_eq_true rfl) ?_
  intro p e s m below meth c hx hb hr hts hown hlocks hin hml hK hN A hA hAB hD hP hS ls hl hsz
  have hl : lv_has ls 4 [(0, .ref u0), (1, .int day), (2, .int berth), (3, .int stop)] := hl
  have w_0 := hts (.instanceMethod yX5_legsOf) (by decide +kernel)
  obtain ⟨H, eH⟩ : ∃ H : Heap, H = s.heap := ⟨_, rfl⟩
  obtain ⟨locs, eL⟩ : ∃ L : List Loc, L = [] := ⟨_, rfl⟩
  rw [← eL]
  rw [← eL] at hS
  have hP : va_P D vwCl [Prod.mk u0 (Sum.inr (Prod.mk 5 [Value.int zr, Value.ref u1, Value.ref u2, Value.ref u3])), Prod.mk u3 (Sum.inl (Prod.mk (cy 0) (Prod.mk 600 (Sum.inl fso))))] H := by rw [eH]; exact hP
  have hS : va_S A s.heap H locs := by rw [eH]; exact hS
  refine W.heapEq eH ?_
  clear eH eL
  refine lv_aload_n hx hb dX5_isSold_0 rfl (lv_at hl 0 rfl) ?_
  refine lv_iload_n hx hb dX5_isSold_1 rfl (lv_at hl 1 rfl) ?_
  refine lv_iload_n hx hb dX5_isSold_2 rfl (lv_at hl 2 rfl) ?_
  refine k_i (va_runV (As := [.int day, .int berth]) (rest := []) ⟨hx, hb, hml, hown, hts⟩ (c_X5_legsOf l D cy E u0 u1 u2 u3 zr fso day berth H.size (by first | omega | decide | (constructor <;> first | omega | decide)) (by first | omega | decide | (constructor <;> first | omega | decide))) (cwV 2 hts gX5_isSold_X5_legsOf rfl rfl rfl (by decide +kernel) ⟨Nat.le_of_ble_eq_true rfl, Nat.le_of_ble_eq_true rfl⟩) (cp_v hK hN hS hAB hP hD [0, 1] rfl (by decide) (ci := 5) rfl rfl rfl) rfl rfl hl.1 rfl (lv_room (Nat.le_of_ble_eq_true rfl)) dX5_isSold_3 ⟨Nat.le_of_ble_eq_true rfl, Nat.le_of_ble_eq_true rfl⟩) hP hD hS hA [0, 1] [] (wr := []) rfl rfl (by decide) (by decide) (fun rr3 u_rr3 H locs hw3 hP hD hS => ?_)
  try dsimp only at hw3
  have hP : va_P D vwCl [Prod.mk u0 (Sum.inr (Prod.mk 5 [Value.int zr, Value.ref u1, Value.ref u2, Value.ref u3])), Prod.mk u3 (Sum.inl (Prod.mk (cy 0) (Prod.mk 600 (Sum.inl fso))))] H := hP
  have hD : va_D A [Prod.mk u0 (Sum.inr (Prod.mk 5 [Value.int zr, Value.ref u1, Value.ref u2, Value.ref u3])), Prod.mk u3 (Sum.inl (Prod.mk (cy 0) (Prod.mk 600 (Sum.inl fso))))] := hD
  refine lv_iload_n hx hb dX5_isSold_6 rfl (lv_at hl 3 rfl) ?_
  refine lv_ishr hx hb dX5_isSold_7 ?_
  refine lv_topi (fun x7 ex7 => ?_)
  refine lv_iconst (v := 1) hx hb dX5_isSold_8 (by decide) ?_
  refine lv_iand hx hb dX5_isSold_9 ?_
  refine lv_topi (fun x9 ex9 => ?_)
  refine lv_iconst (v := 1) hx hb dX5_isSold_10 (by decide) ?_
  refine lv_icmp_ne (tgt := 18) hx hb dX5_isSold_11 (by decide) (fun c11 => ?_) (fun c11 => ?_)
  · skip
    have fc11 := q_ne (a := x9.toInt) (b := 1) c11 rfl (by decide)
    refine lv_iconst (v := 0) hx hb dX5_isSold_18 (by decide) ?_
    exact r_z hx hb hr hlocks hK hS dX5_isSold_19 (by decide) (u := ()) hP hD (by first | exact Or.inl (by decide) | exact Or.inr (by decide) | omega)
  · skip
    have fc11 := q_eq (a := x9.toInt) (b := 1) c11 rfl (by decide)
    refine lv_iconst (v := 1) hx hb dX5_isSold_14 (by decide) ?_
    refine lv_goto (tgt := 19) hx hb dX5_isSold_15 (by decide) ?_
    exact r_z hx hb hr hlocks hK hS dX5_isSold_19 (by decide) (u := ()) hP hD (by first | exact Or.inl (by decide) | exact Or.inr (by decide) | omega)

abbrev Q_c_X5_soldOn (D : va_G) (cy : Nat → ClassId) (E : EN) (u0 : Nat) (u1 : Nat) (u2 : Nat) (u3 : Nat) (zr : Int32) (fbe : Nat → Int32) (fso : Nat → Int32) (day : Int32) (stop : Int32) : (Nat → Prop) → Array Value → State → Outcome → State → Prop := QI D cy (fun (r : Int32) (_ : Unit) => 0 ≤ r.toInt ∧ r.toInt ≤ 10) (fun _ : Unit => [Prod.mk u0 (Sum.inr (Prod.mk 5 [Value.int zr, Value.ref u1, Value.ref u2, Value.ref u3])), Prod.mk u1 (Sum.inl (Prod.mk (cy 0) (Prod.mk 60 (Sum.inl fbe)))), Prod.mk u3 (Sum.inl (Prod.mk (cy 0) (Prod.mk 600 (Sum.inl fso))))])
set_option maxHeartbeats 4000000 in
set_option maxRecDepth 100000 in
theorem c_X5_soldOn (l : Launch) (D : va_G) (cy : Nat → ClassId) (E : EN) (u0 : Nat) (u1 : Nat) (u2 : Nat) (u3 : Nat) (zr : Int32) (fbe : Nat → Int32) (fso : Nat → Int32) (day : Int32) (stop : Int32) (sz : Nat) (hday : 0 ≤ day.toInt ∧ day.toInt < 60) (hv_fbe : AllI fbe 60 0 10) : Met l yX5_soldOn wsX5_soldOn ({ frames := 2, cells := 0, slots := 0, locals := 45 } : Room) (CP D cy E [.ref u0, .int day, .int stop] [Prod.mk u0 (Sum.inr (Prod.mk 5 [Value.int zr, Value.ref u1, Value.ref u2, Value.ref u3])), Prod.mk u1 (Sum.inl (Prod.mk (cy 0) (Prod.mk 60 (Sum.inl fbe)))), Prod.mk u3 (Sum.inl (Prod.mk (cy 0) (Prod.mk 600 (Sum.inl fso))))] sz) (Q_c_X5_soldOn D cy E u0 u1 u2 u3 zr fbe fso day stop (va_A [Prod.mk u0 (Sum.inr (Prod.mk 5 [Value.int zr, Value.ref u1, Value.ref u2, Value.ref u3])), Prod.mk u1 (Sum.inl (Prod.mk (cy 0) (Prod.mk 60 (Sum.inl fbe)))), Prod.mk u3 (Sum.inl (Prod.mk (cy 0) (Prod.mk 600 (Sum.inl fso))))] sz)) 0 0 (va_A [Prod.mk u0 (Sum.inr (Prod.mk 5 [Value.int zr, Value.ref u1, Value.ref u2, Value.ref u3])), Prod.mk u1 (Sum.inl (Prod.mk (cy 0) (Prod.mk 60 (Sum.inl fbe)))), Prod.mk u3 (Sum.inl (Prod.mk (cy 0) (Prod.mk 600 (Sum.inl fso))))] sz) := by
  refine Met.go (Qc := Q_c_X5_soldOn D cy E u0 u1 u2 u3 zr fbe fso day stop) (cc := cX5_soldOn) (maxL := 5) (ret := (some .int)) (by decide) rfl (Nat.le_of_ble_eq_true rfl) ?_
  intro p e s m below meth c hx hb hr hts hown hlocks hin hml hK hN A hA hAB hD hP hS ls hl hsz
  have hl : lv_has ls 5 [(0, .ref u0), (1, .int day), (2, .int stop)] := hl
  have in_X5 : ∀ w ∈ wsX50, w ∈ wsX5_soldOn := fun _ h => List.mem_cons_of_mem _ ((List.mem_append_right _ h))
  have w_1 := hts (.fieldLink RX5 9 "SleepingCars$Runs" "berths" "[I") (by decide +kernel)
  have w_2 := hts (.instanceMethod yX5_isSold) (by decide +kernel)
  obtain ⟨H, eH⟩ : ∃ H : Heap, H = s.heap := ⟨_, rfl⟩
  obtain ⟨locs, eL⟩ : ∃ L : List Loc, L = [] := ⟨_, rfl⟩
  rw [← eL]
  rw [← eL] at hS
  have hP : va_P D vwCl [Prod.mk u0 (Sum.inr (Prod.mk 5 [Value.int zr, Value.ref u1, Value.ref u2, Value.ref u3])), Prod.mk u1 (Sum.inl (Prod.mk (cy 0) (Prod.mk 60 (Sum.inl fbe)))), Prod.mk u3 (Sum.inl (Prod.mk (cy 0) (Prod.mk 600 (Sum.inl fso))))] H := by rw [eH]; exact hP
  have hS : va_S A s.heap H locs := by rw [eH]; exact hS
  refine W.heapEq eH ?_
  clear eH eL
  refine lv_iconst (v := 0) hx hb dX5_soldOn_0 (by decide) ?_
  refine lv_istore_n (lv' := [(3, .int 0), (0, .ref u0), (1, .int day), (2, .int stop)]) hx hb dX5_soldOn_1 rfl hl (by decide) rfl (fun ls hl => ?_)
  refine lv_iconst (v := 0) hx hb dX5_soldOn_2 (by decide) ?_
  refine lv_istore (lv' := [(4, .int 0), (3, .int 0), (0, .ref u0), (1, .int day), (2, .int stop)]) hx hb dX5_soldOn_3 hl (by decide) rfl (fun ls hl => ?_)
  have lp_5 : ∀ (n_5 : Nat) (i : Int32) (n : Int32), (0 ≤ i.toInt) → (i.toInt ≤ 10) → (0 ≤ n.toInt ∧ n.toInt ≤ i.toInt) → (10 - i.toInt).toNat < n_5 → ∀ (H : Heap) (locs : List Loc), va_P D vwCl [Prod.mk u0 (Sum.inr (Prod.mk 5 [Value.int zr, Value.ref u1, Value.ref u2, Value.ref u3])), Prod.mk u1 (Sum.inl (Prod.mk (cy 0) (Prod.mk 60 (Sum.inl fbe)))), Prod.mk u3 (Sum.inl (Prod.mk (cy 0) (Prod.mk 600 (Sum.inl fso))))] H → va_D A [Prod.mk u0 (Sum.inr (Prod.mk 5 [Value.int zr, Value.ref u1, Value.ref u2, Value.ref u3])), Prod.mk u1 (Sum.inl (Prod.mk (cy 0) (Prod.mk 60 (Sum.inl fbe)))), Prod.mk u3 (Sum.inl (Prod.mk (cy 0) (Prod.mk 600 (Sum.inl fso))))] → va_S A s.heap H locs → ∀ ls : Array Slot, lv_has ls 5 [(4, .int i), (3, .int n), (0, .ref u0), (1, .int day), (2, .int stop)] → W p l e (headSpec wsX5_soldOn ({ frames := 2, cells := 0, slots := 0, locals := 45 } : Room)).room s m ([.ref u0, .int day, .int stop] : List Value).toArray below meth c H locs 0 0 (MQ below (Q_c_X5_soldOn D cy E u0 u1 u2 u3 zr fbe fso day stop A) ([.ref u0, .int day, .int stop] : List Value).toArray s 0 0 A) (F0 m 5 ls []) := by
    intro n_5
    induction n_5 with
    | zero => intro i n hi0 hi1 hn hmu; exact absurd hmu (Nat.not_lt_zero _)
    | succ n_5 ih_5 =>
      intro i n hi0 hi1 hn hmu_5 H locs hP hD hS ls hl
      refine lv_iload hx hb dX5_soldOn_5 (lv_at hl 0 rfl) ?_
      refine lv_aload_n hx hb dX5_soldOn_7 rfl (lv_at hl 2 rfl) ?_
      refine va_get (D := D) (ci := 5) (v := .ref u1) (C := RX5) (T := TX5) (N := 4) hx hb hts in_X5 hown hK hP 0 rfl rfl 1 (by decide) w_1 (fun _ h9 => h9) rfl dX5_soldOn_8 ?_
      refine lv_iload_n hx hb dX5_soldOn_11 rfl (lv_at hl 3 rfl) ?_
      refine va_iald hx hb hK hP 1 0 rfl rfl (q_in (a := day.toInt) rfl (by omega) (by omega)) dX5_soldOn_12 ?_
      refine lv_topi (fun x12 ex12 => ?_)
      have tx12 := congrArg Int32.toInt ex12
      have ix12 := hv_fbe day.toNatClampNeg (cn (by omega) (by decide))
      refine lv_icmp_ge (tgt := 36) hx hb dX5_soldOn_13 (by decide) (fun c13 => ?_) (fun c13 => ?_)
      · skip
        have fc13 := q_le (a := x12.toInt) (b := i.toInt) c13 rfl rfl
        refine lv_iload_n hx hb dX5_soldOn_36 rfl (lv_at hl 1 rfl) ?_
        exact r_i hx hb hr hlocks hK hS dX5_soldOn_37 (u := ()) hP hD (by omega)
      · skip
        have fc13 := q_nle (a := x12.toInt) (b := i.toInt) c13 rfl rfl
        refine lv_aload_n hx hb dX5_soldOn_16 rfl (lv_at hl 2 rfl) ?_
        refine lv_iload_n hx hb dX5_soldOn_17 rfl (lv_at hl 3 rfl) ?_
        refine lv_iload hx hb dX5_soldOn_18 (lv_at hl 0 rfl) ?_
        refine lv_iload_n hx hb dX5_soldOn_20 rfl (lv_at hl 4 rfl) ?_
        refine k_i (va_runV (As := [.int day, .int i, .int stop]) (rest := []) ⟨hx, hb, hml, hown, hts⟩ (c_X5_isSold l D cy E u0 u1 u2 u3 zr fso day i stop H.size (by first | omega | decide | (constructor <;> first | omega | decide)) (by first | omega | decide | (constructor <;> first | omega | decide))) (cwV 3 hts gX5_soldOn_X5_isSold rfl rfl rfl (by decide +kernel) ⟨Nat.le_of_ble_eq_true rfl, Nat.le_of_ble_eq_true rfl⟩) (cp_v hK hN hS hAB hP hD [0, 2] rfl (by decide) (ci := 5) rfl rfl rfl) rfl rfl hl.1 rfl (lv_room (Nat.le_of_ble_eq_true rfl)) dX5_soldOn_21 ⟨Nat.le_of_ble_eq_true rfl, Nat.le_of_ble_eq_true rfl⟩) hP hD hS hA [0, 2] [1] (wr := [Prod.mk u1 (Sum.inl (Prod.mk (cy 0) (Prod.mk 60 (Sum.inl fbe))))]) rfl rfl (by decide) (by decide) (fun rr21 u_rr21 H locs hw21 hP hD hS => ?_)
        try dsimp only at hw21
        have hP : va_P D vwCl [Prod.mk u1 (Sum.inl (Prod.mk (cy 0) (Prod.mk 60 (Sum.inl fbe)))), Prod.mk u0 (Sum.inr (Prod.mk 5 [Value.int zr, Value.ref u1, Value.ref u2, Value.ref u3])), Prod.mk u3 (Sum.inl (Prod.mk (cy 0) (Prod.mk 600 (Sum.inl fso))))] H := hP
        have hD : va_D A [Prod.mk u1 (Sum.inl (Prod.mk (cy 0) (Prod.mk 60 (Sum.inl fbe)))), Prod.mk u0 (Sum.inr (Prod.mk 5 [Value.int zr, Value.ref u1, Value.ref u2, Value.ref u3])), Prod.mk u3 (Sum.inl (Prod.mk (cy 0) (Prod.mk 600 (Sum.inl fso))))] := hD
        refine lv_if_eq (tgt := 30) hx hb dX5_soldOn_24 (by decide) (fun c24 => ?_) (fun c24 => ?_)
        · skip
          have fc24 := q_eq (a := rr21.toInt) (b := 0) c24 rfl (by decide)
          obtain ⟨x30, ex30⟩ : ∃ y : Int32, y = i + 1 := ⟨_, rfl⟩
          refine lv_iinc (v := x30) (lv' := [(4, .int x30), (3, .int n), (0, .ref u0), (1, .int day), (2, .int stop)]) hx hb dX5_soldOn_30 hl (k := 0) rfl (by rw [ex30]; rfl) (by decide) rfl (fun ls hl => ?_)
          have tx30 := q_add (p := i.toInt) (q := 1) ex30 rfl (by decide) (by omega) (by omega)
          refine lv_goto (tgt := 5) hx hb dX5_soldOn_33 (by decide) ?_
          exact ih_5 x30 n (by first | omega | decide | (rw [i32_0]; omega)) (by first | omega | decide | (rw [i32_0]; omega)) (by first | omega | decide | (rw [i32_0]; omega)) (by omega) H locs (hP.sub [1, 0, 2] rfl) (hD.sub [1, 0, 2] (by decide) rfl) hS ls (lv_sub hl [0, 1, 2, 3, 4] rfl)
        · skip
          have fc24 := q_ne (a := rr21.toInt) (b := 0) c24 rfl (by decide)
          obtain ⟨x27, ex27⟩ : ∃ y : Int32, y = n + 1 := ⟨_, rfl⟩
          refine lv_iinc (v := x27) (lv' := [(3, .int x27), (4, .int i), (0, .ref u0), (1, .int day), (2, .int stop)]) hx hb dX5_soldOn_27 hl (k := 1) rfl (by rw [ex27]; rfl) (by decide) rfl (fun ls hl => ?_)
          have tx27 := q_add (p := n.toInt) (q := 1) ex27 rfl (by decide) (by omega) (by omega)
          obtain ⟨x30, ex30⟩ : ∃ y : Int32, y = i + 1 := ⟨_, rfl⟩
          refine lv_iinc (v := x30) (lv' := [(4, .int x30), (3, .int x27), (0, .ref u0), (1, .int day), (2, .int stop)]) hx hb dX5_soldOn_30 hl (k := 1) rfl (by rw [ex30]; rfl) (by decide) rfl (fun ls hl => ?_)
          have tx30 := q_add (p := i.toInt) (q := 1) ex30 rfl (by decide) (by omega) (by omega)
          refine lv_goto (tgt := 5) hx hb dX5_soldOn_33 (by decide) ?_
          exact ih_5 x30 x27 (by first | omega | decide | (rw [i32_0]; omega)) (by first | omega | decide | (rw [i32_0]; omega)) (by first | omega | decide | (rw [i32_0]; omega)) (by omega) H locs (hP.sub [1, 0, 2] rfl) (hD.sub [1, 0, 2] (by decide) rfl) hS ls (lv_sub hl [0, 1, 2, 3, 4] rfl)
  exact lp_5 ((10 - (0 : Int32).toInt).toNat + 1) 0 0 (by first | omega | decide | (rw [i32_0]; omega) | (rw [i32_m1]; omega)) (by first | omega | decide | (rw [i32_0]; omega) | (rw [i32_m1]; omega)) (by first | omega | decide | (rw [i32_0]; omega) | (rw [i32_m1]; omega)) (by first | omega | exact Nat.lt_succ_self _ | (rw [i32_0]; omega) | (rw [i32_1]; omega)) H locs hP hD hS ls (lv_sub hl [0, 1, 2, 3, 4] rfl)

abbrev Q_c_X5_gap (D : va_G) (cy : Nat → ClassId) (E : EN) (u0 : Nat) (u1 : Nat) (u2 : Nat) (u3 : Nat) (zr : Int32) (fso : Nat → Int32) (day : Int32) (berth : Int32) (from_ : Int32) (to_ : Int32) (last : Int32) : (Nat → Prop) → Array Value → State → Outcome → State → Prop := QI D cy (fun (r : Int32) (_ : Unit) => True) (fun _ : Unit => [Prod.mk u0 (Sum.inr (Prod.mk 5 [Value.int zr, Value.ref u1, Value.ref u2, Value.ref u3])), Prod.mk u3 (Sum.inl (Prod.mk (cy 0) (Prod.mk 600 (Sum.inl fso))))])
set_option maxHeartbeats 4000000 in
set_option maxRecDepth 100000 in
theorem c_X5_gap (l : Launch) (D : va_G) (cy : Nat → ClassId) (E : EN) (u0 : Nat) (u1 : Nat) (u2 : Nat) (u3 : Nat) (zr : Int32) (fso : Nat → Int32) (day : Int32) (berth : Int32) (from_ : Int32) (to_ : Int32) (last : Int32) (sz : Nat) (hday : 0 ≤ day.toInt ∧ day.toInt < 60) (hber : 0 ≤ berth.toInt ∧ berth.toInt < 10) : Met l yX5_gap wsX5_gap ({ frames := 2, cells := 0, slots := 0, locals := 45 } : Room) (CP D cy E [.ref u0, .int day, .int berth, .int from_, .int to_, .int last] [Prod.mk u0 (Sum.inr (Prod.mk 5 [Value.int zr, Value.ref u1, Value.ref u2, Value.ref u3])), Prod.mk u3 (Sum.inl (Prod.mk (cy 0) (Prod.mk 600 (Sum.inl fso))))] sz) (Q_c_X5_gap D cy E u0 u1 u2 u3 zr fso day berth from_ to_ last (va_A [Prod.mk u0 (Sum.inr (Prod.mk 5 [Value.int zr, Value.ref u1, Value.ref u2, Value.ref u3])), Prod.mk u3 (Sum.inl (Prod.mk (cy 0) (Prod.mk 600 (Sum.inl fso))))] sz)) 0 0 (va_A [Prod.mk u0 (Sum.inr (Prod.mk 5 [Value.int zr, Value.ref u1, Value.ref u2, Value.ref u3])), Prod.mk u3 (Sum.inl (Prod.mk (cy 0) (Prod.mk 600 (Sum.inl fso))))] sz) := by
  refine Met.go (Qc := Q_c_X5_gap D cy E u0 u1 u2 u3 zr fso day berth from_ to_ last) (cc := cX5_gap) (maxL := 8) (ret := (some .int)) (by decide) rfl (Nat.le_of_ble_eq_true rfl) ?_
  intro p e s m below meth c hx hb hr hts hown hlocks hin hml hK hN A hA hAB hD hP hS ls hl hsz
  have hl : lv_has ls 8 [(0, .ref u0), (1, .int day), (2, .int berth), (3, .int from_), (4, .int to_), (5, .int last)] := hl
  have w_0 := hts (.instanceMethod yX5_isSold) (by decide +kernel)
  have rl := i32r last
  obtain ⟨H, eH⟩ : ∃ H : Heap, H = s.heap := ⟨_, rfl⟩
  obtain ⟨locs, eL⟩ : ∃ L : List Loc, L = [] := ⟨_, rfl⟩
  rw [← eL]
  rw [← eL] at hS
  have hP : va_P D vwCl [Prod.mk u0 (Sum.inr (Prod.mk 5 [Value.int zr, Value.ref u1, Value.ref u2, Value.ref u3])), Prod.mk u3 (Sum.inl (Prod.mk (cy 0) (Prod.mk 600 (Sum.inl fso))))] H := by rw [eH]; exact hP
  have hS : va_S A s.heap H locs := by rw [eH]; exact hS
  refine W.heapEq eH ?_
  clear eH eL
  refine lv_iload_n hx hb dX5_gap_0 rfl (lv_at hl 3 rfl) ?_
  refine lv_istore (lv' := [(6, .int from_), (0, .ref u0), (1, .int day), (2, .int berth), (3, .int from_), (4, .int to_), (5, .int last)]) hx hb dX5_gap_1 hl (by decide) rfl (fun ls hl => ?_)
  have lp_3 : ∀ (n_3 : Nat) (bg : Int32), bg.toInt.toNat < n_3 → ∀ (H : Heap) (locs : List Loc), va_P D vwCl [Prod.mk u0 (Sum.inr (Prod.mk 5 [Value.int zr, Value.ref u1, Value.ref u2, Value.ref u3])), Prod.mk u3 (Sum.inl (Prod.mk (cy 0) (Prod.mk 600 (Sum.inl fso))))] H → va_D A [Prod.mk u0 (Sum.inr (Prod.mk 5 [Value.int zr, Value.ref u1, Value.ref u2, Value.ref u3])), Prod.mk u3 (Sum.inl (Prod.mk (cy 0) (Prod.mk 600 (Sum.inl fso))))] → va_S A s.heap H locs → ∀ ls : Array Slot, lv_has ls 8 [(6, .int bg), (0, .ref u0), (1, .int day), (2, .int berth), (3, .int from_), (4, .int to_), (5, .int last)] → W p l e (headSpec wsX5_gap ({ frames := 2, cells := 0, slots := 0, locals := 45 } : Room)).room s m ([.ref u0, .int day, .int berth, .int from_, .int to_, .int last] : List Value).toArray below meth c H locs 0 0 (MQ below (Q_c_X5_gap D cy E u0 u1 u2 u3 zr fso day berth from_ to_ last A) ([.ref u0, .int day, .int berth, .int from_, .int to_, .int last] : List Value).toArray s 0 0 A) (F0 m 3 ls []) := by
    intro n_3
    induction n_3 with
    | zero => intro bg  hmu; exact absurd hmu (Nat.not_lt_zero _)
    | succ n_3 ih_3 =>
      intro bg  hmu_3 H locs hP hD hS ls hl
      have rbg := i32r bg
      refine lv_iload hx hb dX5_gap_3 (lv_at hl 0 rfl) ?_
      refine lv_if_le (tgt := 27) hx hb dX5_gap_5 (by decide) (fun c5 => ?_) (fun c5 => ?_)
      · skip
        have fc5 := q_le (a := bg.toInt) (b := 0) c5 rfl (by decide)
        refine lv_iload hx hb dX5_gap_27 (lv_at hl 5 rfl) ?_
        refine lv_istore (lv' := [(7, .int to_), (6, .int bg), (0, .ref u0), (1, .int day), (2, .int berth), (3, .int from_), (4, .int to_), (5, .int last)]) hx hb dX5_gap_29 hl (by decide) rfl (fun ls hl => ?_)
        have lp_31 : ∀ (n_31 : Nat) (fi : Int32), (last.toInt - fi.toInt).toNat < n_31 → ∀ (H : Heap) (locs : List Loc), va_P D vwCl [Prod.mk u0 (Sum.inr (Prod.mk 5 [Value.int zr, Value.ref u1, Value.ref u2, Value.ref u3])), Prod.mk u3 (Sum.inl (Prod.mk (cy 0) (Prod.mk 600 (Sum.inl fso))))] H → va_D A [Prod.mk u0 (Sum.inr (Prod.mk 5 [Value.int zr, Value.ref u1, Value.ref u2, Value.ref u3])), Prod.mk u3 (Sum.inl (Prod.mk (cy 0) (Prod.mk 600 (Sum.inl fso))))] → va_S A s.heap H locs → ∀ ls : Array Slot, lv_has ls 8 [(7, .int fi), (6, .int bg), (0, .ref u0), (1, .int day), (2, .int berth), (3, .int from_), (4, .int to_), (5, .int last)] → W p l e (headSpec wsX5_gap ({ frames := 2, cells := 0, slots := 0, locals := 45 } : Room)).room s m ([.ref u0, .int day, .int berth, .int from_, .int to_, .int last] : List Value).toArray below meth c H locs 0 0 (MQ below (Q_c_X5_gap D cy E u0 u1 u2 u3 zr fso day berth from_ to_ last A) ([.ref u0, .int day, .int berth, .int from_, .int to_, .int last] : List Value).toArray s 0 0 A) (F0 m 31 ls []) := by
          intro n_31
          induction n_31 with
          | zero => intro fi  hmu; exact absurd hmu (Nat.not_lt_zero _)
          | succ n_31 ih_31 =>
            intro fi  hmu_31 H locs hP hD hS ls hl
            have rfi := i32r fi
            refine lv_iload hx hb dX5_gap_31 (lv_at hl 0 rfl) ?_
            refine lv_iload hx hb dX5_gap_33 (lv_at hl 7 rfl) ?_
            refine lv_icmp_ge (tgt := 55) hx hb dX5_gap_35 (by decide) (fun c35 => ?_) (fun c35 => ?_)
            · skip
              have fc35 := q_le (a := last.toInt) (b := fi.toInt) c35 rfl rfl
              refine lv_iload hx hb dX5_gap_55 (lv_at hl 0 rfl) ?_
              refine lv_iload hx hb dX5_gap_57 (lv_at hl 1 rfl) ?_
              refine lv_isub hx hb dX5_gap_59 ?_
              refine lv_topi (fun x59 ex59 => ?_)
              exact r_i hx hb hr hlocks hK hS dX5_gap_60 (u := ()) hP hD (trivial)
            · skip
              have fc35 := q_nle (a := last.toInt) (b := fi.toInt) c35 rfl rfl
              refine lv_aload_n hx hb dX5_gap_38 rfl (lv_at hl 2 rfl) ?_
              refine lv_iload_n hx hb dX5_gap_39 rfl (lv_at hl 3 rfl) ?_
              refine lv_iload_n hx hb dX5_gap_40 rfl (lv_at hl 4 rfl) ?_
              refine lv_iload hx hb dX5_gap_41 (lv_at hl 0 rfl) ?_
              refine k_i (va_runV (As := [.int day, .int berth, .int fi]) (rest := []) ⟨hx, hb, hml, hown, hts⟩ (c_X5_isSold l D cy E u0 u1 u2 u3 zr fso day berth fi H.size (by first | omega | decide | (constructor <;> first | omega | decide)) (by first | omega | decide | (constructor <;> first | omega | decide))) (cwV 3 hts gX5_gap_X5_isSold rfl rfl rfl (by decide +kernel) ⟨Nat.le_of_ble_eq_true rfl, Nat.le_of_ble_eq_true rfl⟩) (cp_v hK hN hS hAB hP hD [0, 1] rfl (by decide) (ci := 5) rfl rfl rfl) rfl rfl hl.1 rfl (lv_room (Nat.le_of_ble_eq_true rfl)) dX5_gap_43 ⟨Nat.le_of_ble_eq_true rfl, Nat.le_of_ble_eq_true rfl⟩) hP hD hS hA [0, 1] [] (wr := []) rfl rfl (by decide) (by decide) (fun rr43 u_rr43 H locs hw43 hP hD hS => ?_)
              try dsimp only at hw43
              have hP : va_P D vwCl [Prod.mk u0 (Sum.inr (Prod.mk 5 [Value.int zr, Value.ref u1, Value.ref u2, Value.ref u3])), Prod.mk u3 (Sum.inl (Prod.mk (cy 0) (Prod.mk 600 (Sum.inl fso))))] H := hP
              have hD : va_D A [Prod.mk u0 (Sum.inr (Prod.mk 5 [Value.int zr, Value.ref u1, Value.ref u2, Value.ref u3])), Prod.mk u3 (Sum.inl (Prod.mk (cy 0) (Prod.mk 600 (Sum.inl fso))))] := hD
              refine lv_if_ne (tgt := 55) hx hb dX5_gap_46 (by decide) (fun c46 => ?_) (fun c46 => ?_)
              · skip
                have fc46 := q_ne (a := rr43.toInt) (b := 0) c46 rfl (by decide)
                refine lv_iload hx hb dX5_gap_55 (lv_at hl 0 rfl) ?_
                refine lv_iload hx hb dX5_gap_57 (lv_at hl 1 rfl) ?_
                refine lv_isub hx hb dX5_gap_59 ?_
                refine lv_topi (fun x59 ex59 => ?_)
                exact r_i hx hb hr hlocks hK hS dX5_gap_60 (u := ()) hP hD (trivial)
              · skip
                have fc46 := q_eq (a := rr43.toInt) (b := 0) c46 rfl (by decide)
                obtain ⟨x49, ex49⟩ : ∃ y : Int32, y = fi + 1 := ⟨_, rfl⟩
                refine lv_iinc (v := x49) (lv' := [(7, .int x49), (6, .int bg), (0, .ref u0), (1, .int day), (2, .int berth), (3, .int from_), (4, .int to_), (5, .int last)]) hx hb dX5_gap_49 hl (k := 0) rfl (by rw [ex49]; rfl) (by decide) rfl (fun ls hl => ?_)
                have tx49 := q_add (p := fi.toInt) (q := 1) ex49 rfl (by decide) (by omega) (by omega)
                refine lv_goto (tgt := 31) hx hb dX5_gap_52 (by decide) ?_
                exact ih_31 x49  (by omega) H locs hP hD hS ls (lv_sub hl [0, 1, 2, 3, 4, 5, 6, 7] rfl)
        exact lp_31 ((last.toInt - (to_ : Int32).toInt).toNat + 1) to_  (by first | omega | exact Nat.lt_succ_self _ | (rw [i32_0]; omega) | (rw [i32_1]; omega)) H locs hP hD hS ls (lv_sub hl [0, 1, 2, 3, 4, 5, 6, 7] rfl)
      · skip
        have fc5 := q_nle (a := bg.toInt) (b := 0) c5 rfl (by decide)
        refine lv_aload_n hx hb dX5_gap_8 rfl (lv_at hl 1 rfl) ?_
        refine lv_iload_n hx hb dX5_gap_9 rfl (lv_at hl 2 rfl) ?_
        refine lv_iload_n hx hb dX5_gap_10 rfl (lv_at hl 3 rfl) ?_
        refine lv_iload hx hb dX5_gap_11 (lv_at hl 0 rfl) ?_
        refine lv_iconst (v := 1) hx hb dX5_gap_13 (by decide) ?_
        refine lv_isub hx hb dX5_gap_14 ?_
        refine lv_topi (fun x14 ex14 => ?_)
        have tx14 := q_sub (p := bg.toInt) (q := 1) ex14 rfl (by decide) (by omega) (by omega)
        refine k_i (va_runV (As := [.int day, .int berth, .int x14]) (rest := []) ⟨hx, hb, hml, hown, hts⟩ (c_X5_isSold l D cy E u0 u1 u2 u3 zr fso day berth x14 H.size (by first | omega | decide | (constructor <;> first | omega | decide)) (by first | omega | decide | (constructor <;> first | omega | decide))) (cwV 3 hts gX5_gap_X5_isSold rfl rfl rfl (by decide +kernel) ⟨Nat.le_of_ble_eq_true rfl, Nat.le_of_ble_eq_true rfl⟩) (cp_v hK hN hS hAB hP hD [0, 1] rfl (by decide) (ci := 5) rfl rfl rfl) rfl rfl hl.1 rfl (lv_room (Nat.le_of_ble_eq_true rfl)) dX5_gap_15 ⟨Nat.le_of_ble_eq_true rfl, Nat.le_of_ble_eq_true rfl⟩) hP hD hS hA [0, 1] [] (wr := []) rfl rfl (by decide) (by decide) (fun rr15 u_rr15 H locs hw15 hP hD hS => ?_)
        try dsimp only at hw15
        have hP : va_P D vwCl [Prod.mk u0 (Sum.inr (Prod.mk 5 [Value.int zr, Value.ref u1, Value.ref u2, Value.ref u3])), Prod.mk u3 (Sum.inl (Prod.mk (cy 0) (Prod.mk 600 (Sum.inl fso))))] H := hP
        have hD : va_D A [Prod.mk u0 (Sum.inr (Prod.mk 5 [Value.int zr, Value.ref u1, Value.ref u2, Value.ref u3])), Prod.mk u3 (Sum.inl (Prod.mk (cy 0) (Prod.mk 600 (Sum.inl fso))))] := hD
        refine lv_if_ne (tgt := 27) hx hb dX5_gap_18 (by decide) (fun c18 => ?_) (fun c18 => ?_)
        · skip
          have fc18 := q_ne (a := rr15.toInt) (b := 0) c18 rfl (by decide)
          refine lv_iload hx hb dX5_gap_27 (lv_at hl 5 rfl) ?_
          refine lv_istore (lv' := [(7, .int to_), (6, .int bg), (0, .ref u0), (1, .int day), (2, .int berth), (3, .int from_), (4, .int to_), (5, .int last)]) hx hb dX5_gap_29 hl (by decide) rfl (fun ls hl => ?_)
          have lp_31 : ∀ (n_31 : Nat) (fi : Int32), (last.toInt - fi.toInt).toNat < n_31 → ∀ (H : Heap) (locs : List Loc), va_P D vwCl [Prod.mk u0 (Sum.inr (Prod.mk 5 [Value.int zr, Value.ref u1, Value.ref u2, Value.ref u3])), Prod.mk u3 (Sum.inl (Prod.mk (cy 0) (Prod.mk 600 (Sum.inl fso))))] H → va_D A [Prod.mk u0 (Sum.inr (Prod.mk 5 [Value.int zr, Value.ref u1, Value.ref u2, Value.ref u3])), Prod.mk u3 (Sum.inl (Prod.mk (cy 0) (Prod.mk 600 (Sum.inl fso))))] → va_S A s.heap H locs → ∀ ls : Array Slot, lv_has ls 8 [(7, .int fi), (6, .int bg), (0, .ref u0), (1, .int day), (2, .int berth), (3, .int from_), (4, .int to_), (5, .int last)] → W p l e (headSpec wsX5_gap ({ frames := 2, cells := 0, slots := 0, locals := 45 } : Room)).room s m ([.ref u0, .int day, .int berth, .int from_, .int to_, .int last] : List Value).toArray below meth c H locs 0 0 (MQ below (Q_c_X5_gap D cy E u0 u1 u2 u3 zr fso day berth from_ to_ last A) ([.ref u0, .int day, .int berth, .int from_, .int to_, .int last] : List Value).toArray s 0 0 A) (F0 m 31 ls []) := by
            intro n_31
            induction n_31 with
            | zero => intro fi  hmu; exact absurd hmu (Nat.not_lt_zero _)
            | succ n_31 ih_31 =>
              intro fi  hmu_31 H locs hP hD hS ls hl
              have rfi := i32r fi
              refine lv_iload hx hb dX5_gap_31 (lv_at hl 0 rfl) ?_
              refine lv_iload hx hb dX5_gap_33 (lv_at hl 7 rfl) ?_
              refine lv_icmp_ge (tgt := 55) hx hb dX5_gap_35 (by decide) (fun c35 => ?_) (fun c35 => ?_)
              · skip
                have fc35 := q_le (a := last.toInt) (b := fi.toInt) c35 rfl rfl
                refine lv_iload hx hb dX5_gap_55 (lv_at hl 0 rfl) ?_
                refine lv_iload hx hb dX5_gap_57 (lv_at hl 1 rfl) ?_
                refine lv_isub hx hb dX5_gap_59 ?_
                refine lv_topi (fun x59 ex59 => ?_)
                exact r_i hx hb hr hlocks hK hS dX5_gap_60 (u := ()) hP hD (trivial)
              · skip
                have fc35 := q_nle (a := last.toInt) (b := fi.toInt) c35 rfl rfl
                refine lv_aload_n hx hb dX5_gap_38 rfl (lv_at hl 2 rfl) ?_
                refine lv_iload_n hx hb dX5_gap_39 rfl (lv_at hl 3 rfl) ?_
                refine lv_iload_n hx hb dX5_gap_40 rfl (lv_at hl 4 rfl) ?_
                refine lv_iload hx hb dX5_gap_41 (lv_at hl 0 rfl) ?_
                refine k_i (va_runV (As := [.int day, .int berth, .int fi]) (rest := []) ⟨hx, hb, hml, hown, hts⟩ (c_X5_isSold l D cy E u0 u1 u2 u3 zr fso day berth fi H.size (by first | omega | decide | (constructor <;> first | omega | decide)) (by first | omega | decide | (constructor <;> first | omega | decide))) (cwV 3 hts gX5_gap_X5_isSold rfl rfl rfl (by decide +kernel) ⟨Nat.le_of_ble_eq_true rfl, Nat.le_of_ble_eq_true rfl⟩) (cp_v hK hN hS hAB hP hD [0, 1] rfl (by decide) (ci := 5) rfl rfl rfl) rfl rfl hl.1 rfl (lv_room (Nat.le_of_ble_eq_true rfl)) dX5_gap_43 ⟨Nat.le_of_ble_eq_true rfl, Nat.le_of_ble_eq_true rfl⟩) hP hD hS hA [0, 1] [] (wr := []) rfl rfl (by decide) (by decide) (fun rr43 u_rr43 H locs hw43 hP hD hS => ?_)
                try dsimp only at hw43
                have hP : va_P D vwCl [Prod.mk u0 (Sum.inr (Prod.mk 5 [Value.int zr, Value.ref u1, Value.ref u2, Value.ref u3])), Prod.mk u3 (Sum.inl (Prod.mk (cy 0) (Prod.mk 600 (Sum.inl fso))))] H := hP
                have hD : va_D A [Prod.mk u0 (Sum.inr (Prod.mk 5 [Value.int zr, Value.ref u1, Value.ref u2, Value.ref u3])), Prod.mk u3 (Sum.inl (Prod.mk (cy 0) (Prod.mk 600 (Sum.inl fso))))] := hD
                refine lv_if_ne (tgt := 55) hx hb dX5_gap_46 (by decide) (fun c46 => ?_) (fun c46 => ?_)
                · skip
                  have fc46 := q_ne (a := rr43.toInt) (b := 0) c46 rfl (by decide)
                  refine lv_iload hx hb dX5_gap_55 (lv_at hl 0 rfl) ?_
                  refine lv_iload hx hb dX5_gap_57 (lv_at hl 1 rfl) ?_
                  refine lv_isub hx hb dX5_gap_59 ?_
                  refine lv_topi (fun x59 ex59 => ?_)
                  exact r_i hx hb hr hlocks hK hS dX5_gap_60 (u := ()) hP hD (trivial)
                · skip
                  have fc46 := q_eq (a := rr43.toInt) (b := 0) c46 rfl (by decide)
                  obtain ⟨x49, ex49⟩ : ∃ y : Int32, y = fi + 1 := ⟨_, rfl⟩
                  refine lv_iinc (v := x49) (lv' := [(7, .int x49), (6, .int bg), (0, .ref u0), (1, .int day), (2, .int berth), (3, .int from_), (4, .int to_), (5, .int last)]) hx hb dX5_gap_49 hl (k := 0) rfl (by rw [ex49]; rfl) (by decide) rfl (fun ls hl => ?_)
                  have tx49 := q_add (p := fi.toInt) (q := 1) ex49 rfl (by decide) (by omega) (by omega)
                  refine lv_goto (tgt := 31) hx hb dX5_gap_52 (by decide) ?_
                  exact ih_31 x49  (by omega) H locs hP hD hS ls (lv_sub hl [0, 1, 2, 3, 4, 5, 6, 7] rfl)
          exact lp_31 ((last.toInt - (to_ : Int32).toInt).toNat + 1) to_  (by first | omega | exact Nat.lt_succ_self _ | (rw [i32_0]; omega) | (rw [i32_1]; omega)) H locs hP hD hS ls (lv_sub hl [0, 1, 2, 3, 4, 5, 6, 7] rfl)
        · skip
          have fc18 := q_eq (a := rr15.toInt) (b := 0) c18 rfl (by decide)
          obtain ⟨x21, ex21⟩ : ∃ y : Int32, y = bg + (-1) := ⟨_, rfl⟩
          refine lv_iinc (v := x21) (lv' := [(6, .int x21), (0, .ref u0), (1, .int day), (2, .int berth), (3, .int from_), (4, .int to_), (5, .int last)]) hx hb dX5_gap_21 hl (k := 0) rfl (by rw [ex21]; rfl) (by decide) rfl (fun ls hl => ?_)
          have tx21 := q_add (p := bg.toInt) (q := -1) ex21 rfl (by decide) (by omega) (by omega)
          refine lv_goto (tgt := 3) hx hb dX5_gap_24 (by decide) ?_
          exact ih_3 x21  (by omega) H locs hP hD hS ls (lv_sub hl [0, 1, 2, 3, 4, 5, 6] rfl)
  exact lp_3 ((from_ : Int32).toInt.toNat + 1) from_  (by first | omega | exact Nat.lt_succ_self _ | (rw [i32_0]; omega) | (rw [i32_1]; omega)) H locs hP hD hS ls (lv_sub hl [0, 1, 2, 3, 4, 5, 6] rfl)

abbrev Q_c_X5_add (D : va_G) (cy : Nat → ClassId) (E : EN) (u0 : Nat) (u1 : Nat) (u2 : Nat) (u3 : Nat) (sh : Nat) (zr : Int32) (fbe : Nat → Int32) (fow : Nat → Int32) (fsh : Nat → Int32) (day : Int32) (n : Int32) : (Nat → Prop) → Array Value → State → Outcome → State → Prop := QV D cy (fun (u : Int32 × (Nat → Int32) × (Nat → Int32)) => match u with | (zz, gbe, gow) => (zz = zr + 1 ∧ gbe = upd fbe day.toNatClampNeg n) ∧ AllI gbe 60 0 10) (fun u : Int32 × (Nat → Int32) × (Nat → Int32) => match u with | (zz, gbe, gow) => [Prod.mk u0 (Sum.inr (Prod.mk 5 [Value.int zz, Value.ref u1, Value.ref u2, Value.ref u3])), Prod.mk u1 (Sum.inl (Prod.mk (cy 0) (Prod.mk 60 (Sum.inl gbe)))), Prod.mk u2 (Sum.inl (Prod.mk (cy 0) (Prod.mk 600 (Sum.inl gow)))), Prod.mk sh (Sum.inl (Prod.mk (cy 0) (Prod.mk 10 (Sum.inl fsh))))])
set_option maxHeartbeats 4000000 in
set_option maxRecDepth 100000 in
theorem c_X5_add (l : Launch) (D : va_G) (cy : Nat → ClassId) (E : EN) (u0 : Nat) (u1 : Nat) (u2 : Nat) (u3 : Nat) (sh : Nat) (zr : Int32) (fbe : Nat → Int32) (fow : Nat → Int32) (fsh : Nat → Int32) (day : Int32) (n : Int32) (sz : Nat) (hday : 0 ≤ day.toInt ∧ day.toInt < 60) (hn : 1 ≤ n.toInt ∧ n.toInt ≤ 10) (hv_fbe : AllI fbe 60 0 10) : Met l yX5_add wsX5_add ({ frames := 1, cells := 0, slots := 0, locals := 30 } : Room) (CP D cy E [.ref u0, .int day, .int n, .ref sh] [Prod.mk u0 (Sum.inr (Prod.mk 5 [Value.int zr, Value.ref u1, Value.ref u2, Value.ref u3])), Prod.mk u1 (Sum.inl (Prod.mk (cy 0) (Prod.mk 60 (Sum.inl fbe)))), Prod.mk u2 (Sum.inl (Prod.mk (cy 0) (Prod.mk 600 (Sum.inl fow)))), Prod.mk sh (Sum.inl (Prod.mk (cy 0) (Prod.mk 10 (Sum.inl fsh))))] sz) (Q_c_X5_add D cy E u0 u1 u2 u3 sh zr fbe fow fsh day n (va_A [Prod.mk u0 (Sum.inr (Prod.mk 5 [Value.int zr, Value.ref u1, Value.ref u2, Value.ref u3])), Prod.mk u1 (Sum.inl (Prod.mk (cy 0) (Prod.mk 60 (Sum.inl fbe)))), Prod.mk u2 (Sum.inl (Prod.mk (cy 0) (Prod.mk 600 (Sum.inl fow)))), Prod.mk sh (Sum.inl (Prod.mk (cy 0) (Prod.mk 10 (Sum.inl fsh))))] sz)) 0 0 (va_A [Prod.mk u0 (Sum.inr (Prod.mk 5 [Value.int zr, Value.ref u1, Value.ref u2, Value.ref u3])), Prod.mk u1 (Sum.inl (Prod.mk (cy 0) (Prod.mk 60 (Sum.inl fbe)))), Prod.mk u2 (Sum.inl (Prod.mk (cy 0) (Prod.mk 600 (Sum.inl fow)))), Prod.mk sh (Sum.inl (Prod.mk (cy 0) (Prod.mk 10 (Sum.inl fsh))))] sz) := by
  refine Met.go (Qc := Q_c_X5_add D cy E u0 u1 u2 u3 sh zr fbe fow fsh day n) (cc := cX5_add) (maxL := 4) (ret := none) (by decide) rfl (Nat.le_of_ble_eq_true rfl) ?_
  intro p e s m below meth c hx hb hr hts hown hlocks hin hml hK hN A hA hAB hD hP hS ls hl hsz
  have hl : lv_has ls 4 [(0, .ref u0), (1, .int day), (2, .int n), (3, .ref sh)] := hl
  have in_X5 : ∀ w ∈ wsX50, w ∈ wsX5_add := fun _ h => List.mem_cons_of_mem _ ((List.mem_append_right _ h))
  have w_1 := hts (.fieldLink RX5 25 "SleepingCars$Runs" "size" "I") (by decide +kernel)
  have w_2 := hts (.fieldLink RX5 9 "SleepingCars$Runs" "berths" "[I") (by decide +kernel)
  have w_3 := hts (.fieldLink RX5 15 "SleepingCars$Runs" "owners" "[I") (by decide +kernel)
  have w_4 := hts (.methodLink RX5 29 arraycopyName) (by decide +kernel)
  have w_5 := hts (.native arraycopyName) (by decide +kernel)
  have w_6 := hts (.static arraycopyName) (by decide +kernel)
  have w_7 := hts (.initialized "java/lang/System") (by decide +kernel)
  obtain ⟨H, eH⟩ : ∃ H : Heap, H = s.heap := ⟨_, rfl⟩
  obtain ⟨locs, eL⟩ : ∃ L : List Loc, L = [] := ⟨_, rfl⟩
  rw [← eL]
  rw [← eL] at hS
  have hP : va_P D vwCl [Prod.mk u0 (Sum.inr (Prod.mk 5 [Value.int zr, Value.ref u1, Value.ref u2, Value.ref u3])), Prod.mk u1 (Sum.inl (Prod.mk (cy 0) (Prod.mk 60 (Sum.inl fbe)))), Prod.mk u2 (Sum.inl (Prod.mk (cy 0) (Prod.mk 600 (Sum.inl fow)))), Prod.mk sh (Sum.inl (Prod.mk (cy 0) (Prod.mk 10 (Sum.inl fsh))))] H := by rw [eH]; exact hP
  have hS : va_S A s.heap H locs := by rw [eH]; exact hS
  refine W.heapEq eH ?_
  clear eH eL
  refine lv_aload_n hx hb dX5_add_0 rfl (lv_at hl 0 rfl) ?_
  refine lv_dup hx hb dX5_add_1 rfl ?_
  refine va_get (D := D) (ci := 5) (v := .int zr) (C := RX5) (T := TX5) (N := 4) hx hb hts in_X5 hown hK hP 0 rfl rfl 0 (by decide) w_1 (fun _ h9 => h9) rfl dX5_add_2 ?_
  refine lv_iconst (v := 1) hx hb dX5_add_5 (by decide) ?_
  refine lv_iadd hx hb dX5_add_6 ?_
  refine lv_topi (fun x6 ex6 => ?_)
  refine va_put (D := D) (ci := 5) (v := .int x6) (ty := .int) (C := RX5) (T := TX5) (N := 4) hx hb hts in_X5 tyX5 tyX5_ok nmX5 hown hK hP hD hS 0 rfl rfl 0 (by decide) w_1 (fun _ h9 => h9) rfl (by decide +kernel) rfl rfl (Nat.le_of_ble_eq_true rfl) dX5_add_7 (fun H locs hP hD hS => ?_)
  have hP : va_P D vwCl [Prod.mk u0 (Sum.inr (Prod.mk 5 [Value.int x6, Value.ref u1, Value.ref u2, Value.ref u3])), Prod.mk u1 (Sum.inl (Prod.mk (cy 0) (Prod.mk 60 (Sum.inl fbe)))), Prod.mk u2 (Sum.inl (Prod.mk (cy 0) (Prod.mk 600 (Sum.inl fow)))), Prod.mk sh (Sum.inl (Prod.mk (cy 0) (Prod.mk 10 (Sum.inl fsh))))] H := hP
  have hD : va_D A [Prod.mk u0 (Sum.inr (Prod.mk 5 [Value.int x6, Value.ref u1, Value.ref u2, Value.ref u3])), Prod.mk u1 (Sum.inl (Prod.mk (cy 0) (Prod.mk 60 (Sum.inl fbe)))), Prod.mk u2 (Sum.inl (Prod.mk (cy 0) (Prod.mk 600 (Sum.inl fow)))), Prod.mk sh (Sum.inl (Prod.mk (cy 0) (Prod.mk 10 (Sum.inl fsh))))] := hD
  refine lv_aload_n hx hb dX5_add_10 rfl (lv_at hl 0 rfl) ?_
  refine va_get (D := D) (ci := 5) (v := .ref u1) (C := RX5) (T := TX5) (N := 4) hx hb hts in_X5 hown hK hP 0 rfl rfl 1 (by decide) w_2 (fun _ h9 => h9) rfl dX5_add_11 ?_
  refine lv_iload_n hx hb dX5_add_14 rfl (lv_at hl 1 rfl) ?_
  refine lv_iload_n hx hb dX5_add_15 rfl (lv_at hl 2 rfl) ?_
  have v16_a : AllI (upd fbe day.toNatClampNeg n) 60 0 10 := allI_upd hv_fbe (by omega) (by omega)
  refine va_iast hx hb hK hP hD hS 1 0 rfl rfl (q_in (a := day.toInt) rfl (by omega) (by omega)) dX5_add_16 (fun H locs hP hD hS => ?_)
  have hP : va_P D vwCl [Prod.mk u0 (Sum.inr (Prod.mk 5 [Value.int x6, Value.ref u1, Value.ref u2, Value.ref u3])), Prod.mk u1 (Sum.inl (Prod.mk (cy 0) (Prod.mk 60 (Sum.inl (upd fbe day.toNatClampNeg n))))), Prod.mk u2 (Sum.inl (Prod.mk (cy 0) (Prod.mk 600 (Sum.inl fow)))), Prod.mk sh (Sum.inl (Prod.mk (cy 0) (Prod.mk 10 (Sum.inl fsh))))] H := hP
  have hD : va_D A [Prod.mk u0 (Sum.inr (Prod.mk 5 [Value.int x6, Value.ref u1, Value.ref u2, Value.ref u3])), Prod.mk u1 (Sum.inl (Prod.mk (cy 0) (Prod.mk 60 (Sum.inl (upd fbe day.toNatClampNeg n))))), Prod.mk u2 (Sum.inl (Prod.mk (cy 0) (Prod.mk 600 (Sum.inl fow)))), Prod.mk sh (Sum.inl (Prod.mk (cy 0) (Prod.mk 10 (Sum.inl fsh))))] := hD
  refine lv_aload_n hx hb dX5_add_17 rfl (lv_at hl 3 rfl) ?_
  refine lv_iconst (v := 0) hx hb dX5_add_18 (by decide) ?_
  refine lv_aload_n hx hb dX5_add_19 rfl (lv_at hl 0 rfl) ?_
  refine va_get (D := D) (ci := 5) (v := .ref u2) (C := RX5) (T := TX5) (N := 4) hx hb hts in_X5 hown hK hP 0 rfl rfl 2 (by decide) w_3 (fun _ h9 => h9) rfl dX5_add_20 ?_
  refine lv_iload_n hx hb dX5_add_23 rfl (lv_at hl 1 rfl) ?_
  refine lv_bipush (v := 10) hx hb dX5_add_24 (by decide) ?_
  refine lv_imul hx hb dX5_add_26 ?_
  refine lv_topi (fun x26 ex26 => ?_)
  have tx26 := q_mul (p := day.toInt) (q := 10) ex26 rfl (by decide) (by omega) (by omega)
  refine lv_bipush (v := 10) hx hb dX5_add_27 (by decide) ?_
  refine va_copyi hx hb (hml.trans hl.1.symm) hown w_4 w_5 w_6 w_7 hK hP hD hS 3 2 0 0 rfl rfl rfl rfl rfl (by decide) (q_nn (by omega)) (by decide) (by decide) (by have hq := tx26; simp only [Int32.toNatClampNeg, hq]; show _ + 10 ≤ 600; omega) (fun _ _ => rfl) (Nat.le_of_ble_eq_true rfl) (Nat.le_of_ble_eq_true rfl) dX5_add_29 (fun H locs hP hD hS => ?_)
  obtain ⟨g29, eg29⟩ : ∃ f : Nat → Int32, f = va_cpy fsh fow (0 : Int32).toNatClampNeg x26.toNatClampNeg (10 : Int32).toNatClampNeg := ⟨_, rfl⟩
  rw [← eg29] at hP hD
  have hP : va_P D vwCl [Prod.mk u0 (Sum.inr (Prod.mk 5 [Value.int x6, Value.ref u1, Value.ref u2, Value.ref u3])), Prod.mk u1 (Sum.inl (Prod.mk (cy 0) (Prod.mk 60 (Sum.inl (upd fbe day.toNatClampNeg n))))), Prod.mk u2 (Sum.inl (Prod.mk (cy 0) (Prod.mk 600 (Sum.inl g29)))), Prod.mk sh (Sum.inl (Prod.mk (cy 0) (Prod.mk 10 (Sum.inl fsh))))] H := hP
  have hD : va_D A [Prod.mk u0 (Sum.inr (Prod.mk 5 [Value.int x6, Value.ref u1, Value.ref u2, Value.ref u3])), Prod.mk u1 (Sum.inl (Prod.mk (cy 0) (Prod.mk 60 (Sum.inl (upd fbe day.toNatClampNeg n))))), Prod.mk u2 (Sum.inl (Prod.mk (cy 0) (Prod.mk 600 (Sum.inl g29)))), Prod.mk sh (Sum.inl (Prod.mk (cy 0) (Prod.mk 10 (Sum.inl fsh))))] := hD
  exact r_v hx hb hr hlocks hK hS dX5_add_32 (u := (x6, upd fbe day.toNatClampNeg n, g29)) hP hD (⟨⟨ex6, rfl⟩, v16_a⟩)
