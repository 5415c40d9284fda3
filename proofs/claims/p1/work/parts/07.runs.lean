abbrev Q_c_fill_6 (D : va_G) (cy : Nat → ClassId) (h0 : Nat) (f : Nat → Int32) (v : Int32) : (Nat → Prop) → Array Value → State → Outcome → State → Prop := QV D cy (fun (g : (Nat → Int32)) => ∀ j : Nat, j < 6 → g j = v) (fun g : (Nat → Int32) => [(h0, .inl (cy 0, 6, .inl g))])
set_option maxHeartbeats 4000000 in
set_option maxRecDepth 100000 in
theorem c_fill_6 (l : Launch) (D : va_G) (cy : Nat → ClassId) (h0 : Nat) (f : Nat → Int32) (v : Int32) (sz : Nat)  : Met l yJ7_fill_53178 wsJ7_fill_53178 ({ frames := 0, cells := 0, slots := 0, locals := 0 } : Room) (CP D cy [.ref h0, .int v] [(h0, .inl (cy 0, 6, .inl f))] sz) (Q_c_fill_6 D cy h0 f v (va_A [(h0, .inl (cy 0, 6, .inl f))] sz)) 0 0 (va_A [(h0, .inl (cy 0, 6, .inl f))] sz) := by
  refine Met.go (Qc := Q_c_fill_6 D cy h0 f v) (cc := cJ7_fill_53178) (maxL := 4) (ret := none) (by decide) rfl (Nat.le_of_ble_eq_true rfl) ?_
  intro p e s m below meth c hx hb hr hts hown hlocks hin hml hK hN A hA hD hP hS ls hl hsz
  have hl : lv_has ls 4 [(0, .ref h0), (1, .int v)] := hl
  obtain ⟨H, eH⟩ : ∃ H : Heap, H = s.heap := ⟨_, rfl⟩
  obtain ⟨locs, eL⟩ : ∃ L : List Loc, L = [] := ⟨_, rfl⟩
  rw [← eL]
  rw [← eL] at hS
  have hP : va_P D vwCl [(h0, .inl (cy 0, 6, .inl f))] H := by rw [eH]; exact hP
  have hS : va_S A s.heap H locs := by rw [eH]; exact hS
  refine W.heapEq eH ?_
  clear eH eL
  refine lv_iconst (v := 0) hx hb dJ7_fill_53178_0 (by decide) ?_
  refine lv_istore_n (lv' := [(2, .int 0), (0, .ref h0), (1, .int v)]) hx hb dJ7_fill_53178_1 rfl hl (by decide) rfl (fun ls hl => ?_)
  refine lv_aload_n hx hb dJ7_fill_53178_2 rfl (lv_at hl 1 rfl) ?_
  refine va_alen hx hb hK hP 0 0 rfl rfl (v := 6) rfl dJ7_fill_53178_3 ?_
  refine lv_istore_n (lv' := [(3, .int 6), (2, .int 0), (0, .ref h0), (1, .int v)]) hx hb dJ7_fill_53178_4 rfl hl (by decide) rfl (fun ls hl => ?_)
  have lp_5 : ∀ (n_5 : Nat) (i : Int32) (f1 : Nat → Int32), (0 ≤ i.toInt) → (i.toInt ≤ 6) → (∀ j : Nat, (j : Int) < i.toInt → f1 j = v) → (6 - i.toInt).toNat < n_5 → ∀ (H : Heap) (locs : List Loc), va_P D vwCl [(h0, .inl (cy 0, 6, .inl f1))] H → va_D A [(h0, .inl (cy 0, 6, .inl f1))] → va_S A s.heap H locs → ∀ ls : Array Slot, lv_has ls 4 [(3, .int 6), (2, .int i), (0, .ref h0), (1, .int v)] → W p l e (headSpec wsJ7_fill_53178 ({ frames := 0, cells := 0, slots := 0, locals := 0 } : Room)).room s m ([.ref h0, .int v] : List Value).toArray below meth c H locs 0 0 (MQ below (Q_c_fill_6 D cy h0 f v A) ([.ref h0, .int v] : List Value).toArray s 0 0 A) (F0 m 5 ls []) := by
    intro n_5
    induction n_5 with
    | zero => intro i f1 hi0 hi1 hf hmu; exact absurd hmu (Nat.not_lt_zero _)
    | succ n_5 ih_5 =>
      intro i f1 hi0 hi1 hf hmu_5 H locs hP hD hS ls hl
      refine lv_iload_n hx hb dJ7_fill_53178_5 rfl (lv_at hl 1 rfl) ?_
      refine lv_iload_n hx hb dJ7_fill_53178_6 rfl (lv_at hl 0 rfl) ?_
      refine lv_icmp_ge (tgt := 20) hx hb dJ7_fill_53178_7 (by decide) (fun c7 => ?_) (fun c7 => ?_)
      · skip
        have fc7 := q_le (a := 6) (b := i.toInt) c7 (by decide) rfl
        exact r_v hx hb hr hlocks hK hS dJ7_fill_53178_20 (u := (f1)) hP hD (fun j hj => hf j (by omega))
      · skip
        have fc7 := q_nle (a := 6) (b := i.toInt) c7 (by decide) rfl
        refine lv_aload_n hx hb dJ7_fill_53178_10 rfl (lv_at hl 2 rfl) ?_
        refine lv_iload_n hx hb dJ7_fill_53178_11 rfl (lv_at hl 1 rfl) ?_
        refine lv_iload_n hx hb dJ7_fill_53178_12 rfl (lv_at hl 3 rfl) ?_
        refine va_iast hx hb hK hP hD hS 0 0 rfl rfl (q_in (a := i.toInt) rfl (by omega) (by omega)) dJ7_fill_53178_13 (fun H locs hP hD hS => ?_)
        have hP : va_P D vwCl [(h0, .inl (cy 0, 6, .inl (upd f1 i.toNatClampNeg v)))] H := hP
        have hD : va_D A [(h0, .inl (cy 0, 6, .inl (upd f1 i.toNatClampNeg v)))] := hD
        obtain ⟨x14, ex14⟩ : ∃ y : Int32, y = i + 1 := ⟨_, rfl⟩
        refine lv_iinc (v := x14) (lv' := [(2, .int x14), (3, .int 6), (0, .ref h0), (1, .int v)]) hx hb dJ7_fill_53178_14 hl (k := 1) rfl (by rw [ex14]; rfl) (by decide) rfl (fun ls hl => ?_)
        have tx14 := q_add (p := i.toInt) (q := 1) ex14 rfl (by decide) (by omega) (by omega)
        refine lv_goto (tgt := 5) hx hb dJ7_fill_53178_17 (by decide) ?_
        exact ih_5 x14 (upd f1 i.toNatClampNeg v) (by omega) (by omega) (fill_step hi0 tx14 hf) (by omega) H locs hP hD hS ls (lv_sub hl [1, 0, 2, 3] rfl)
  exact lp_5 (6 + 1) 0 f (by decide) (by decide) (fun j hj => absurd hj (by rw [show (0 : Int32).toInt = 0 by decide]; omega)) (by first | omega | exact Nat.lt_succ_self _) H locs hP hD hS ls (lv_sub hl [0, 1, 2, 3] rfl)

abbrev Q_c_fill_9 (D : va_G) (cy : Nat → ClassId) (h0 : Nat) (f : Nat → Int32) (v : Int32) : (Nat → Prop) → Array Value → State → Outcome → State → Prop := QV D cy (fun (g : (Nat → Int32)) => ∀ j : Nat, j < 9 → g j = v) (fun g : (Nat → Int32) => [(h0, .inl (cy 0, 9, .inl g))])
set_option maxHeartbeats 4000000 in
set_option maxRecDepth 100000 in
theorem c_fill_9 (l : Launch) (D : va_G) (cy : Nat → ClassId) (h0 : Nat) (f : Nat → Int32) (v : Int32) (sz : Nat)  : Met l yJ7_fill_53178 wsJ7_fill_53178 ({ frames := 0, cells := 0, slots := 0, locals := 0 } : Room) (CP D cy [.ref h0, .int v] [(h0, .inl (cy 0, 9, .inl f))] sz) (Q_c_fill_9 D cy h0 f v (va_A [(h0, .inl (cy 0, 9, .inl f))] sz)) 0 0 (va_A [(h0, .inl (cy 0, 9, .inl f))] sz) := by
  refine Met.go (Qc := Q_c_fill_9 D cy h0 f v) (cc := cJ7_fill_53178) (maxL := 4) (ret := none) (by decide) rfl (Nat.le_of_ble_eq_true rfl) ?_
  intro p e s m below meth c hx hb hr hts hown hlocks hin hml hK hN A hA hD hP hS ls hl hsz
  have hl : lv_has ls 4 [(0, .ref h0), (1, .int v)] := hl
  obtain ⟨H, eH⟩ : ∃ H : Heap, H = s.heap := ⟨_, rfl⟩
  obtain ⟨locs, eL⟩ : ∃ L : List Loc, L = [] := ⟨_, rfl⟩
  rw [← eL]
  rw [← eL] at hS
  have hP : va_P D vwCl [(h0, .inl (cy 0, 9, .inl f))] H := by rw [eH]; exact hP
  have hS : va_S A s.heap H locs := by rw [eH]; exact hS
  refine W.heapEq eH ?_
  clear eH eL
  refine lv_iconst (v := 0) hx hb dJ7_fill_53178_0 (by decide) ?_
  refine lv_istore_n (lv' := [(2, .int 0), (0, .ref h0), (1, .int v)]) hx hb dJ7_fill_53178_1 rfl hl (by decide) rfl (fun ls hl => ?_)
  refine lv_aload_n hx hb dJ7_fill_53178_2 rfl (lv_at hl 1 rfl) ?_
  refine va_alen hx hb hK hP 0 0 rfl rfl (v := 9) rfl dJ7_fill_53178_3 ?_
  refine lv_istore_n (lv' := [(3, .int 9), (2, .int 0), (0, .ref h0), (1, .int v)]) hx hb dJ7_fill_53178_4 rfl hl (by decide) rfl (fun ls hl => ?_)
  have lp_5 : ∀ (n_5 : Nat) (i : Int32) (f1 : Nat → Int32), (0 ≤ i.toInt) → (i.toInt ≤ 9) → (∀ j : Nat, (j : Int) < i.toInt → f1 j = v) → (9 - i.toInt).toNat < n_5 → ∀ (H : Heap) (locs : List Loc), va_P D vwCl [(h0, .inl (cy 0, 9, .inl f1))] H → va_D A [(h0, .inl (cy 0, 9, .inl f1))] → va_S A s.heap H locs → ∀ ls : Array Slot, lv_has ls 4 [(3, .int 9), (2, .int i), (0, .ref h0), (1, .int v)] → W p l e (headSpec wsJ7_fill_53178 ({ frames := 0, cells := 0, slots := 0, locals := 0 } : Room)).room s m ([.ref h0, .int v] : List Value).toArray below meth c H locs 0 0 (MQ below (Q_c_fill_9 D cy h0 f v A) ([.ref h0, .int v] : List Value).toArray s 0 0 A) (F0 m 5 ls []) := by
    intro n_5
    induction n_5 with
    | zero => intro i f1 hi0 hi1 hf hmu; exact absurd hmu (Nat.not_lt_zero _)
    | succ n_5 ih_5 =>
      intro i f1 hi0 hi1 hf hmu_5 H locs hP hD hS ls hl
      refine lv_iload_n hx hb dJ7_fill_53178_5 rfl (lv_at hl 1 rfl) ?_
      refine lv_iload_n hx hb dJ7_fill_53178_6 rfl (lv_at hl 0 rfl) ?_
      refine lv_icmp_ge (tgt := 20) hx hb dJ7_fill_53178_7 (by decide) (fun c7 => ?_) (fun c7 => ?_)
      · skip
        have fc7 := q_le (a := 9) (b := i.toInt) c7 (by decide) rfl
        exact r_v hx hb hr hlocks hK hS dJ7_fill_53178_20 (u := (f1)) hP hD (fun j hj => hf j (by omega))
      · skip
        have fc7 := q_nle (a := 9) (b := i.toInt) c7 (by decide) rfl
        refine lv_aload_n hx hb dJ7_fill_53178_10 rfl (lv_at hl 2 rfl) ?_
        refine lv_iload_n hx hb dJ7_fill_53178_11 rfl (lv_at hl 1 rfl) ?_
        refine lv_iload_n hx hb dJ7_fill_53178_12 rfl (lv_at hl 3 rfl) ?_
        refine va_iast hx hb hK hP hD hS 0 0 rfl rfl (q_in (a := i.toInt) rfl (by omega) (by omega)) dJ7_fill_53178_13 (fun H locs hP hD hS => ?_)
        have hP : va_P D vwCl [(h0, .inl (cy 0, 9, .inl (upd f1 i.toNatClampNeg v)))] H := hP
        have hD : va_D A [(h0, .inl (cy 0, 9, .inl (upd f1 i.toNatClampNeg v)))] := hD
        obtain ⟨x14, ex14⟩ : ∃ y : Int32, y = i + 1 := ⟨_, rfl⟩
        refine lv_iinc (v := x14) (lv' := [(2, .int x14), (3, .int 9), (0, .ref h0), (1, .int v)]) hx hb dJ7_fill_53178_14 hl (k := 1) rfl (by rw [ex14]; rfl) (by decide) rfl (fun ls hl => ?_)
        have tx14 := q_add (p := i.toInt) (q := 1) ex14 rfl (by decide) (by omega) (by omega)
        refine lv_goto (tgt := 5) hx hb dJ7_fill_53178_17 (by decide) ?_
        exact ih_5 x14 (upd f1 i.toNatClampNeg v) (by omega) (by omega) (fill_step hi0 tx14 hf) (by omega) H locs hP hD hS ls (lv_sub hl [1, 0, 2, 3] rfl)
  exact lp_5 (9 + 1) 0 f (by decide) (by decide) (fun j hj => absurd hj (by rw [show (0 : Int32).toInt = 0 by decide]; omega)) (by first | omega | exact Nat.lt_succ_self _) H locs hP hD hS ls (lv_sub hl [0, 1, 2, 3] rfl)

abbrev Q_c_fill_10 (D : va_G) (cy : Nat → ClassId) (h0 : Nat) (f : Nat → Int32) (v : Int32) : (Nat → Prop) → Array Value → State → Outcome → State → Prop := QV D cy (fun (g : (Nat → Int32)) => ∀ j : Nat, j < 10 → g j = v) (fun g : (Nat → Int32) => [(h0, .inl (cy 0, 10, .inl g))])
set_option maxHeartbeats 4000000 in
set_option maxRecDepth 100000 in
theorem c_fill_10 (l : Launch) (D : va_G) (cy : Nat → ClassId) (h0 : Nat) (f : Nat → Int32) (v : Int32) (sz : Nat)  : Met l yJ7_fill_53178 wsJ7_fill_53178 ({ frames := 0, cells := 0, slots := 0, locals := 0 } : Room) (CP D cy [.ref h0, .int v] [(h0, .inl (cy 0, 10, .inl f))] sz) (Q_c_fill_10 D cy h0 f v (va_A [(h0, .inl (cy 0, 10, .inl f))] sz)) 0 0 (va_A [(h0, .inl (cy 0, 10, .inl f))] sz) := by
  refine Met.go (Qc := Q_c_fill_10 D cy h0 f v) (cc := cJ7_fill_53178) (maxL := 4) (ret := none) (by decide) rfl (Nat.le_of_ble_eq_true rfl) ?_
  intro p e s m below meth c hx hb hr hts hown hlocks hin hml hK hN A hA hD hP hS ls hl hsz
  have hl : lv_has ls 4 [(0, .ref h0), (1, .int v)] := hl
  obtain ⟨H, eH⟩ : ∃ H : Heap, H = s.heap := ⟨_, rfl⟩
  obtain ⟨locs, eL⟩ : ∃ L : List Loc, L = [] := ⟨_, rfl⟩
  rw [← eL]
  rw [← eL] at hS
  have hP : va_P D vwCl [(h0, .inl (cy 0, 10, .inl f))] H := by rw [eH]; exact hP
  have hS : va_S A s.heap H locs := by rw [eH]; exact hS
  refine W.heapEq eH ?_
  clear eH eL
  refine lv_iconst (v := 0) hx hb dJ7_fill_53178_0 (by decide) ?_
  refine lv_istore_n (lv' := [(2, .int 0), (0, .ref h0), (1, .int v)]) hx hb dJ7_fill_53178_1 rfl hl (by decide) rfl (fun ls hl => ?_)
  refine lv_aload_n hx hb dJ7_fill_53178_2 rfl (lv_at hl 1 rfl) ?_
  refine va_alen hx hb hK hP 0 0 rfl rfl (v := 10) rfl dJ7_fill_53178_3 ?_
  refine lv_istore_n (lv' := [(3, .int 10), (2, .int 0), (0, .ref h0), (1, .int v)]) hx hb dJ7_fill_53178_4 rfl hl (by decide) rfl (fun ls hl => ?_)
  have lp_5 : ∀ (n_5 : Nat) (i : Int32) (f1 : Nat → Int32), (0 ≤ i.toInt) → (i.toInt ≤ 10) → (∀ j : Nat, (j : Int) < i.toInt → f1 j = v) → (10 - i.toInt).toNat < n_5 → ∀ (H : Heap) (locs : List Loc), va_P D vwCl [(h0, .inl (cy 0, 10, .inl f1))] H → va_D A [(h0, .inl (cy 0, 10, .inl f1))] → va_S A s.heap H locs → ∀ ls : Array Slot, lv_has ls 4 [(3, .int 10), (2, .int i), (0, .ref h0), (1, .int v)] → W p l e (headSpec wsJ7_fill_53178 ({ frames := 0, cells := 0, slots := 0, locals := 0 } : Room)).room s m ([.ref h0, .int v] : List Value).toArray below meth c H locs 0 0 (MQ below (Q_c_fill_10 D cy h0 f v A) ([.ref h0, .int v] : List Value).toArray s 0 0 A) (F0 m 5 ls []) := by
    intro n_5
    induction n_5 with
    | zero => intro i f1 hi0 hi1 hf hmu; exact absurd hmu (Nat.not_lt_zero _)
    | succ n_5 ih_5 =>
      intro i f1 hi0 hi1 hf hmu_5 H locs hP hD hS ls hl
      refine lv_iload_n hx hb dJ7_fill_53178_5 rfl (lv_at hl 1 rfl) ?_
      refine lv_iload_n hx hb dJ7_fill_53178_6 rfl (lv_at hl 0 rfl) ?_
      refine lv_icmp_ge (tgt := 20) hx hb dJ7_fill_53178_7 (by decide) (fun c7 => ?_) (fun c7 => ?_)
      · skip
        have fc7 := q_le (a := 10) (b := i.toInt) c7 (by decide) rfl
        exact r_v hx hb hr hlocks hK hS dJ7_fill_53178_20 (u := (f1)) hP hD (fun j hj => hf j (by omega))
      · skip
        have fc7 := q_nle (a := 10) (b := i.toInt) c7 (by decide) rfl
        refine lv_aload_n hx hb dJ7_fill_53178_10 rfl (lv_at hl 2 rfl) ?_
        refine lv_iload_n hx hb dJ7_fill_53178_11 rfl (lv_at hl 1 rfl) ?_
        refine lv_iload_n hx hb dJ7_fill_53178_12 rfl (lv_at hl 3 rfl) ?_
        refine va_iast hx hb hK hP hD hS 0 0 rfl rfl (q_in (a := i.toInt) rfl (by omega) (by omega)) dJ7_fill_53178_13 (fun H locs hP hD hS => ?_)
        have hP : va_P D vwCl [(h0, .inl (cy 0, 10, .inl (upd f1 i.toNatClampNeg v)))] H := hP
        have hD : va_D A [(h0, .inl (cy 0, 10, .inl (upd f1 i.toNatClampNeg v)))] := hD
        obtain ⟨x14, ex14⟩ : ∃ y : Int32, y = i + 1 := ⟨_, rfl⟩
        refine lv_iinc (v := x14) (lv' := [(2, .int x14), (3, .int 10), (0, .ref h0), (1, .int v)]) hx hb dJ7_fill_53178_14 hl (k := 1) rfl (by rw [ex14]; rfl) (by decide) rfl (fun ls hl => ?_)
        have tx14 := q_add (p := i.toInt) (q := 1) ex14 rfl (by decide) (by omega) (by omega)
        refine lv_goto (tgt := 5) hx hb dJ7_fill_53178_17 (by decide) ?_
        exact ih_5 x14 (upd f1 i.toNatClampNeg v) (by omega) (by omega) (fill_step hi0 tx14 hf) (by omega) H locs hP hD hS ls (lv_sub hl [1, 0, 2, 3] rfl)
  exact lp_5 (10 + 1) 0 f (by decide) (by decide) (fun j hj => absurd hj (by rw [show (0 : Int32).toInt = 0 by decide]; omega)) (by first | omega | exact Nat.lt_succ_self _) H locs hP hD hS ls (lv_sub hl [0, 1, 2, 3] rfl)

abbrev Q_c_fill_16 (D : va_G) (cy : Nat → ClassId) (h0 : Nat) (f : Nat → Int32) (v : Int32) : (Nat → Prop) → Array Value → State → Outcome → State → Prop := QV D cy (fun (g : (Nat → Int32)) => ∀ j : Nat, j < 16 → g j = v) (fun g : (Nat → Int32) => [(h0, .inl (cy 0, 16, .inl g))])
set_option maxHeartbeats 4000000 in
set_option maxRecDepth 100000 in
theorem c_fill_16 (l : Launch) (D : va_G) (cy : Nat → ClassId) (h0 : Nat) (f : Nat → Int32) (v : Int32) (sz : Nat)  : Met l yJ7_fill_53178 wsJ7_fill_53178 ({ frames := 0, cells := 0, slots := 0, locals := 0 } : Room) (CP D cy [.ref h0, .int v] [(h0, .inl (cy 0, 16, .inl f))] sz) (Q_c_fill_16 D cy h0 f v (va_A [(h0, .inl (cy 0, 16, .inl f))] sz)) 0 0 (va_A [(h0, .inl (cy 0, 16, .inl f))] sz) := by
  refine Met.go (Qc := Q_c_fill_16 D cy h0 f v) (cc := cJ7_fill_53178) (maxL := 4) (ret := none) (by decide) rfl (Nat.le_of_ble_eq_true rfl) ?_
  intro p e s m below meth c hx hb hr hts hown hlocks hin hml hK hN A hA hD hP hS ls hl hsz
  have hl : lv_has ls 4 [(0, .ref h0), (1, .int v)] := hl
  obtain ⟨H, eH⟩ : ∃ H : Heap, H = s.heap := ⟨_, rfl⟩
  obtain ⟨locs, eL⟩ : ∃ L : List Loc, L = [] := ⟨_, rfl⟩
  rw [← eL]
  rw [← eL] at hS
  have hP : va_P D vwCl [(h0, .inl (cy 0, 16, .inl f))] H := by rw [eH]; exact hP
  have hS : va_S A s.heap H locs := by rw [eH]; exact hS
  refine W.heapEq eH ?_
  clear eH eL
  refine lv_iconst (v := 0) hx hb dJ7_fill_53178_0 (by decide) ?_
  refine lv_istore_n (lv' := [(2, .int 0), (0, .ref h0), (1, .int v)]) hx hb dJ7_fill_53178_1 rfl hl (by decide) rfl (fun ls hl => ?_)
  refine lv_aload_n hx hb dJ7_fill_53178_2 rfl (lv_at hl 1 rfl) ?_
  refine va_alen hx hb hK hP 0 0 rfl rfl (v := 16) rfl dJ7_fill_53178_3 ?_
  refine lv_istore_n (lv' := [(3, .int 16), (2, .int 0), (0, .ref h0), (1, .int v)]) hx hb dJ7_fill_53178_4 rfl hl (by decide) rfl (fun ls hl => ?_)
  have lp_5 : ∀ (n_5 : Nat) (i : Int32) (f1 : Nat → Int32), (0 ≤ i.toInt) → (i.toInt ≤ 16) → (∀ j : Nat, (j : Int) < i.toInt → f1 j = v) → (16 - i.toInt).toNat < n_5 → ∀ (H : Heap) (locs : List Loc), va_P D vwCl [(h0, .inl (cy 0, 16, .inl f1))] H → va_D A [(h0, .inl (cy 0, 16, .inl f1))] → va_S A s.heap H locs → ∀ ls : Array Slot, lv_has ls 4 [(3, .int 16), (2, .int i), (0, .ref h0), (1, .int v)] → W p l e (headSpec wsJ7_fill_53178 ({ frames := 0, cells := 0, slots := 0, locals := 0 } : Room)).room s m ([.ref h0, .int v] : List Value).toArray below meth c H locs 0 0 (MQ below (Q_c_fill_16 D cy h0 f v A) ([.ref h0, .int v] : List Value).toArray s 0 0 A) (F0 m 5 ls []) := by
    intro n_5
    induction n_5 with
    | zero => intro i f1 hi0 hi1 hf hmu; exact absurd hmu (Nat.not_lt_zero _)
    | succ n_5 ih_5 =>
      intro i f1 hi0 hi1 hf hmu_5 H locs hP hD hS ls hl
      refine lv_iload_n hx hb dJ7_fill_53178_5 rfl (lv_at hl 1 rfl) ?_
      refine lv_iload_n hx hb dJ7_fill_53178_6 rfl (lv_at hl 0 rfl) ?_
      refine lv_icmp_ge (tgt := 20) hx hb dJ7_fill_53178_7 (by decide) (fun c7 => ?_) (fun c7 => ?_)
      · skip
        have fc7 := q_le (a := 16) (b := i.toInt) c7 (by decide) rfl
        exact r_v hx hb hr hlocks hK hS dJ7_fill_53178_20 (u := (f1)) hP hD (fun j hj => hf j (by omega))
      · skip
        have fc7 := q_nle (a := 16) (b := i.toInt) c7 (by decide) rfl
        refine lv_aload_n hx hb dJ7_fill_53178_10 rfl (lv_at hl 2 rfl) ?_
        refine lv_iload_n hx hb dJ7_fill_53178_11 rfl (lv_at hl 1 rfl) ?_
        refine lv_iload_n hx hb dJ7_fill_53178_12 rfl (lv_at hl 3 rfl) ?_
        refine va_iast hx hb hK hP hD hS 0 0 rfl rfl (q_in (a := i.toInt) rfl (by omega) (by omega)) dJ7_fill_53178_13 (fun H locs hP hD hS => ?_)
        have hP : va_P D vwCl [(h0, .inl (cy 0, 16, .inl (upd f1 i.toNatClampNeg v)))] H := hP
        have hD : va_D A [(h0, .inl (cy 0, 16, .inl (upd f1 i.toNatClampNeg v)))] := hD
        obtain ⟨x14, ex14⟩ : ∃ y : Int32, y = i + 1 := ⟨_, rfl⟩
        refine lv_iinc (v := x14) (lv' := [(2, .int x14), (3, .int 16), (0, .ref h0), (1, .int v)]) hx hb dJ7_fill_53178_14 hl (k := 1) rfl (by rw [ex14]; rfl) (by decide) rfl (fun ls hl => ?_)
        have tx14 := q_add (p := i.toInt) (q := 1) ex14 rfl (by decide) (by omega) (by omega)
        refine lv_goto (tgt := 5) hx hb dJ7_fill_53178_17 (by decide) ?_
        exact ih_5 x14 (upd f1 i.toNatClampNeg v) (by omega) (by omega) (fill_step hi0 tx14 hf) (by omega) H locs hP hD hS ls (lv_sub hl [1, 0, 2, 3] rfl)
  exact lp_5 (16 + 1) 0 f (by decide) (by decide) (fun j hj => absurd hj (by rw [show (0 : Int32).toInt = 0 by decide]; omega)) (by first | omega | exact Nat.lt_succ_self _) H locs hP hD hS ls (lv_sub hl [0, 1, 2, 3] rfl)

abbrev Q_c_X5_isTold (D : va_G) (cy : Nat → ClassId) (h0 : Nat) (h1 : Nat) (h2 : Nat) (h3 : Nat) (z : Int32) (fb : Nat → Int32) (day : Int32) : (Nat → Prop) → Array Value → State → Outcome → State → Prop := QI D cy (fun (r : Int32) (_ : Unit) => (r.toInt = 1 ∧ (0 ≤ day.toInt ∧ day.toInt < 60 ∧ 0 < (fb day.toNatClampNeg).toInt)) ∨ (r.toInt = 0 ∧ ¬ (0 ≤ day.toInt ∧ day.toInt < 60 ∧ 0 < (fb day.toNatClampNeg).toInt))) (fun _ : Unit => [(h0, .inr (5, [.int z, .ref h1, .ref h2, .ref h3])), (h1, .inl (cy 0, 60, .inl fb))])
set_option maxHeartbeats 4000000 in
set_option maxRecDepth 100000 in
theorem c_X5_isTold (l : Launch) (D : va_G) (cy : Nat → ClassId) (h0 : Nat) (h1 : Nat) (h2 : Nat) (h3 : Nat) (z : Int32) (fb : Nat → Int32) (day : Int32) (sz : Nat)  : Met l yX5_isTold wsX5_isTold ({ frames := 0, cells := 0, slots := 0, locals := 0 } : Room) (CP D cy [.ref h0, .int day] [(h0, .inr (5, [.int z, .ref h1, .ref h2, .ref h3])), (h1, .inl (cy 0, 60, .inl fb))] sz) (Q_c_X5_isTold D cy h0 h1 h2 h3 z fb day (va_A [(h0, .inr (5, [.int z, .ref h1, .ref h2, .ref h3])), (h1, .inl (cy 0, 60, .inl fb))] sz)) 0 0 (va_A [(h0, .inr (5, [.int z, .ref h1, .ref h2, .ref h3])), (h1, .inl (cy 0, 60, .inl fb))] sz) := by
  refine Met.go (Qc := Q_c_X5_isTold D cy h0 h1 h2 h3 z fb day) (cc := cX5_isTold) (maxL := 2) (ret := (some .boolean)) (by decide) rfl (Nat.le_of_ble_eq_true rfl) ?_
  intro p e s m below meth c hx hb hr hts hown hlocks hin hml hK hN A hA hD hP hS ls hl hsz
  have hl : lv_has ls 2 [(0, .ref h0), (1, .int day)] := hl
  have in_X5 : ∀ w ∈ wsX50, w ∈ wsX5_isTold := fun _ h => List.mem_cons_of_mem _ ((List.mem_append_right _ h))
  have w_1 := hts (.fieldLink RX5 9 "SleepingCars$Runs" "berths" "[I") (by decide +kernel)
  obtain ⟨H, eH⟩ : ∃ H : Heap, H = s.heap := ⟨_, rfl⟩
  obtain ⟨locs, eL⟩ : ∃ L : List Loc, L = [] := ⟨_, rfl⟩
  rw [← eL]
  rw [← eL] at hS
  have hP : va_P D vwCl [(h0, .inr (5, [.int z, .ref h1, .ref h2, .ref h3])), (h1, .inl (cy 0, 60, .inl fb))] H := by rw [eH]; exact hP
  have hS : va_S A s.heap H locs := by rw [eH]; exact hS
  refine W.heapEq eH ?_
  clear eH eL
  refine lv_iload_n hx hb dX5_isTold_0 rfl (lv_at hl 1 rfl) ?_
  refine lv_if_lt (tgt := 23) hx hb dX5_isTold_1 (by decide) (fun c1 => ?_) (fun c1 => ?_)
  · skip
    have fc1 := q_lt (a := day.toInt) (b := 0) c1 rfl (by decide)
    refine lv_iconst (v := 0) hx hb dX5_isTold_23 (by decide) ?_
    exact r_z hx hb hr hlocks hK hS dX5_isTold_24 (by decide) (u := ()) hP hD (by first | exact Or.inl ⟨by decide, by omega⟩ | exact Or.inr ⟨by decide, by omega⟩)
  · skip
    have fc1 := q_nlt (a := day.toInt) (b := 0) c1 rfl (by decide)
    refine lv_iload_n hx hb dX5_isTold_4 rfl (lv_at hl 1 rfl) ?_
    refine lv_bipush (v := 60) hx hb dX5_isTold_5 (by decide) ?_
    refine lv_icmp_ge (tgt := 23) hx hb dX5_isTold_7 (by decide) (fun c7 => ?_) (fun c7 => ?_)
    · skip
      have fc7 := q_le (a := 60) (b := day.toInt) c7 (by decide) rfl
      refine lv_iconst (v := 0) hx hb dX5_isTold_23 (by decide) ?_
      exact r_z hx hb hr hlocks hK hS dX5_isTold_24 (by decide) (u := ()) hP hD (by first | exact Or.inl ⟨by decide, by omega⟩ | exact Or.inr ⟨by decide, by omega⟩)
    · skip
      have fc7 := q_nle (a := 60) (b := day.toInt) c7 (by decide) rfl
      refine lv_aload_n hx hb dX5_isTold_10 rfl (lv_at hl 0 rfl) ?_
      refine va_get (D := D) (ci := 5) (v := .ref h1) (C := RX5) (T := TX5) (N := 4) hx hb hts in_X5 hown hK hP 0 rfl rfl 1 (by decide) w_1 (fun _ h9 => h9) rfl dX5_isTold_11 ?_
      refine lv_iload_n hx hb dX5_isTold_14 rfl (lv_at hl 1 rfl) ?_
      refine va_iald hx hb hK hP 1 0 rfl rfl (q_in (a := day.toInt) rfl (by omega) (by omega)) dX5_isTold_15 ?_
      refine lv_topi (fun x15 ex15 => ?_)
      have tx15 := congrArg Int32.toInt ex15
      refine lv_if_le (tgt := 23) hx hb dX5_isTold_16 (by decide) (fun c16 => ?_) (fun c16 => ?_)
      · skip
        have fc16 := q_le (a := x15.toInt) (b := 0) c16 rfl (by decide)
        refine lv_iconst (v := 0) hx hb dX5_isTold_23 (by decide) ?_
        exact r_z hx hb hr hlocks hK hS dX5_isTold_24 (by decide) (u := ()) hP hD (by first | exact Or.inl ⟨by decide, by omega⟩ | exact Or.inr ⟨by decide, by omega⟩)
      · skip
        have fc16 := q_nle (a := x15.toInt) (b := 0) c16 rfl (by decide)
        refine lv_iconst (v := 1) hx hb dX5_isTold_19 (by decide) ?_
        refine lv_goto (tgt := 24) hx hb dX5_isTold_20 (by decide) ?_
        exact r_z hx hb hr hlocks hK hS dX5_isTold_24 (by decide) (u := ()) hP hD (by first | exact Or.inl ⟨by decide, by omega⟩ | exact Or.inr ⟨by decide, by omega⟩)

abbrev Q_c_X5_hasBerth (D : va_G) (cy : Nat → ClassId) (h0 : Nat) (h1 : Nat) (h2 : Nat) (h3 : Nat) (z : Int32) (fb : Nat → Int32) (day : Int32) (berth : Int32) : (Nat → Prop) → Array Value → State → Outcome → State → Prop := QI D cy (fun (r : Int32) (_ : Unit) => (r.toInt = 1 ∧ (0 ≤ day.toInt ∧ day.toInt < 60 ∧ 0 < (fb day.toNatClampNeg).toInt ∧ 0 ≤ berth.toInt ∧ berth.toInt < (fb day.toNatClampNeg).toInt)) ∨ (r.toInt = 0 ∧ ¬ (0 ≤ day.toInt ∧ day.toInt < 60 ∧ 0 < (fb day.toNatClampNeg).toInt ∧ 0 ≤ berth.toInt ∧ berth.toInt < (fb day.toNatClampNeg).toInt))) (fun _ : Unit => [(h0, .inr (5, [.int z, .ref h1, .ref h2, .ref h3])), (h1, .inl (cy 0, 60, .inl fb))])
set_option maxHeartbeats 4000000 in
set_option maxRecDepth 100000 in
theorem c_X5_hasBerth (l : Launch) (D : va_G) (cy : Nat → ClassId) (h0 : Nat) (h1 : Nat) (h2 : Nat) (h3 : Nat) (z : Int32) (fb : Nat → Int32) (day : Int32) (berth : Int32) (sz : Nat)  : Met l yX5_hasBerth wsX5_hasBerth ({ frames := 1, cells := 0, slots := 0, locals := 21 } : Room) (CP D cy [.ref h0, .int day, .int berth] [(h0, .inr (5, [.int z, .ref h1, .ref h2, .ref h3])), (h1, .inl (cy 0, 60, .inl fb))] sz) (Q_c_X5_hasBerth D cy h0 h1 h2 h3 z fb day berth (va_A [(h0, .inr (5, [.int z, .ref h1, .ref h2, .ref h3])), (h1, .inl (cy 0, 60, .inl fb))] sz)) 0 0 (va_A [(h0, .inr (5, [.int z, .ref h1, .ref h2, .ref h3])), (h1, .inl (cy 0, 60, .inl fb))] sz) := by
  refine Met.go (Qc := Q_c_X5_hasBerth D cy h0 h1 h2 h3 z fb day berth) (cc := cX5_hasBerth) (maxL := 3) (ret := (some .boolean)) (by decide) rfl (Nat.le_of_ble_eq_true rfl) ?_
  intro p e s m below meth c hx hb hr hts hown hlocks hin hml hK hN A hA hD hP hS ls hl hsz
  have hl : lv_has ls 3 [(0, .ref h0), (1, .int day), (2, .int berth)] := hl
  have w_0 := hts (.instanceMethod yX5_isTold) (by decide +kernel)
  have in_X5 : ∀ w ∈ wsX50, w ∈ wsX5_hasBerth := fun _ h => List.mem_cons_of_mem _ ((List.mem_append_right _ h))
  have w_2 := hts (.fieldLink RX5 9 "SleepingCars$Runs" "berths" "[I") (by decide +kernel)
  obtain ⟨H, eH⟩ : ∃ H : Heap, H = s.heap := ⟨_, rfl⟩
  obtain ⟨locs, eL⟩ : ∃ L : List Loc, L = [] := ⟨_, rfl⟩
  rw [← eL]
  rw [← eL] at hS
  have hP : va_P D vwCl [(h0, .inr (5, [.int z, .ref h1, .ref h2, .ref h3])), (h1, .inl (cy 0, 60, .inl fb))] H := by rw [eH]; exact hP
  have hS : va_S A s.heap H locs := by rw [eH]; exact hS
  refine W.heapEq eH ?_
  clear eH eL
  refine lv_aload_n hx hb dX5_hasBerth_0 rfl (lv_at hl 0 rfl) ?_
  refine lv_iload_n hx hb dX5_hasBerth_1 rfl (lv_at hl 1 rfl) ?_
  refine k_i (va_runV (As := [.int day]) (rest := []) ⟨hx, hb, hml, hown, hts⟩ (c_X5_isTold l D cy h0 h1 h2 h3 z fb day H.size ) (cwV 1 hts gX5_hasBerth_X5_isTold rfl rfl rfl (by decide +kernel) ⟨Nat.le_of_ble_eq_true rfl, Nat.le_of_ble_eq_true rfl⟩) (cp_v hK hN hP hD [0, 1] rfl (by decide) (ci := 5) rfl rfl rfl) rfl rfl hl.1 rfl (lv_room (Nat.le_of_ble_eq_true rfl)) dX5_hasBerth_2 ⟨Nat.le_of_ble_eq_true rfl, Nat.le_of_ble_eq_true rfl⟩) hP hD hS hA [0, 1] [] (wr := []) rfl rfl (by decide) (by decide) (fun r2 u_r2 H locs hw2 hP hD hS => ?_)
  try dsimp only at hw2
  have hP : va_P D vwCl [(h0, .inr (5, [.int z, .ref h1, .ref h2, .ref h3])), (h1, .inl (cy 0, 60, .inl fb))] H := hP
  have hD : va_D A [(h0, .inr (5, [.int z, .ref h1, .ref h2, .ref h3])), (h1, .inl (cy 0, 60, .inl fb))] := hD
  refine lv_if_eq (tgt := 26) hx hb dX5_hasBerth_5 (by decide) (fun c5 => ?_) (fun c5 => ?_)
  · skip
    have fc5 := q_eq (a := r2.toInt) (b := 0) c5 rfl (by decide)
    refine lv_iconst (v := 0) hx hb dX5_hasBerth_26 (by decide) ?_
    exact r_z hx hb hr hlocks hK hS dX5_hasBerth_27 (by decide) (u := ()) hP hD (by first | exact Or.inl ⟨by decide, by omega⟩ | exact Or.inr ⟨by decide, by omega⟩)
  · skip
    have fc5 := q_ne (a := r2.toInt) (b := 0) c5 rfl (by decide)
    refine lv_iload_n hx hb dX5_hasBerth_8 rfl (lv_at hl 2 rfl) ?_
    refine lv_if_lt (tgt := 26) hx hb dX5_hasBerth_9 (by decide) (fun c9 => ?_) (fun c9 => ?_)
    · skip
      have fc9 := q_lt (a := berth.toInt) (b := 0) c9 rfl (by decide)
      refine lv_iconst (v := 0) hx hb dX5_hasBerth_26 (by decide) ?_
      exact r_z hx hb hr hlocks hK hS dX5_hasBerth_27 (by decide) (u := ()) hP hD (by first | exact Or.inl ⟨by decide, by omega⟩ | exact Or.inr ⟨by decide, by omega⟩)
    · skip
      have fc9 := q_nlt (a := berth.toInt) (b := 0) c9 rfl (by decide)
      refine lv_iload_n hx hb dX5_hasBerth_12 rfl (lv_at hl 2 rfl) ?_
      refine lv_aload_n hx hb dX5_hasBerth_13 rfl (lv_at hl 0 rfl) ?_
      refine va_get (D := D) (ci := 5) (v := .ref h1) (C := RX5) (T := TX5) (N := 4) hx hb hts in_X5 hown hK hP 0 rfl rfl 1 (by decide) w_2 (fun _ h9 => h9) rfl dX5_hasBerth_14 ?_
      refine lv_iload_n hx hb dX5_hasBerth_17 rfl (lv_at hl 1 rfl) ?_
      refine va_iald hx hb hK hP 1 0 rfl rfl (q_in (a := day.toInt) rfl (by omega) (by omega)) dX5_hasBerth_18 ?_
      refine lv_topi (fun x18 ex18 => ?_)
      have tx18 := congrArg Int32.toInt ex18
      refine lv_icmp_ge (tgt := 26) hx hb dX5_hasBerth_19 (by decide) (fun c19 => ?_) (fun c19 => ?_)
      · skip
        have fc19 := q_le (a := x18.toInt) (b := berth.toInt) c19 rfl rfl
        refine lv_iconst (v := 0) hx hb dX5_hasBerth_26 (by decide) ?_
        exact r_z hx hb hr hlocks hK hS dX5_hasBerth_27 (by decide) (u := ()) hP hD (by first | exact Or.inl ⟨by decide, by omega⟩ | exact Or.inr ⟨by decide, by omega⟩)
      · skip
        have fc19 := q_nle (a := x18.toInt) (b := berth.toInt) c19 rfl rfl
        refine lv_iconst (v := 1) hx hb dX5_hasBerth_22 (by decide) ?_
        refine lv_goto (tgt := 27) hx hb dX5_hasBerth_23 (by decide) ?_
        exact r_z hx hb hr hlocks hK hS dX5_hasBerth_27 (by decide) (u := ()) hP hD (by first | exact Or.inl ⟨by decide, by omega⟩ | exact Or.inr ⟨by decide, by omega⟩)

abbrev Q_c_X5_add (D : va_G) (cy : Nat → ClassId) (h0 : Nat) (h1 : Nat) (h2 : Nat) (h3 : Nat) (k0 : Nat) (z : Int32) (fb : Nat → Int32) (fo : Nat → Int32) (fsh : Nat → Int32) (day : Int32) (n : Int32) : (Nat → Prop) → Array Value → State → Outcome → State → Prop := QV D cy (fun (u : Int32 × (Nat → Int32)) => match u with | (zz, go) => zz.toInt = z.toInt + 1) (fun u : Int32 × (Nat → Int32) => match u with | (zz, go) => [(h0, .inr (5, [.int zz, .ref h1, .ref h2, .ref h3])), (h1, .inl (cy 0, 60, .inl (upd fb day.toNatClampNeg n))), (h2, .inl (cy 0, 600, .inl go)), (k0, .inl (cy 0, 10, .inl fsh))])
set_option maxHeartbeats 4000000 in
set_option maxRecDepth 100000 in
theorem c_X5_add (l : Launch) (D : va_G) (cy : Nat → ClassId) (h0 : Nat) (h1 : Nat) (h2 : Nat) (h3 : Nat) (k0 : Nat) (z : Int32) (fb : Nat → Int32) (fo : Nat → Int32) (fsh : Nat → Int32) (day : Int32) (n : Int32) (sz : Nat) (hz : 0 ≤ z.toInt ∧ z.toInt < 60) (hd : 0 ≤ day.toInt ∧ day.toInt < 60) : Met l yX5_add wsX5_add ({ frames := 1, cells := 0, slots := 0, locals := 30 } : Room) (CP D cy [.ref h0, .int day, .int n, .ref k0] [(h0, .inr (5, [.int z, .ref h1, .ref h2, .ref h3])), (h1, .inl (cy 0, 60, .inl fb)), (h2, .inl (cy 0, 600, .inl fo)), (k0, .inl (cy 0, 10, .inl fsh))] sz) (Q_c_X5_add D cy h0 h1 h2 h3 k0 z fb fo fsh day n (va_A [(h0, .inr (5, [.int z, .ref h1, .ref h2, .ref h3])), (h1, .inl (cy 0, 60, .inl fb)), (h2, .inl (cy 0, 600, .inl fo)), (k0, .inl (cy 0, 10, .inl fsh))] sz)) 0 0 (va_A [(h0, .inr (5, [.int z, .ref h1, .ref h2, .ref h3])), (h1, .inl (cy 0, 60, .inl fb)), (h2, .inl (cy 0, 600, .inl fo)), (k0, .inl (cy 0, 10, .inl fsh))] sz) := by
  refine Met.go (Qc := Q_c_X5_add D cy h0 h1 h2 h3 k0 z fb fo fsh day n) (cc := cX5_add) (maxL := 4) (ret := none) (by decide) rfl (Nat.le_of_ble_eq_true rfl) ?_
  intro p e s m below meth c hx hb hr hts hown hlocks hin hml hK hN A hA hD hP hS ls hl hsz
  have hl : lv_has ls 4 [(0, .ref h0), (1, .int day), (2, .int n), (3, .ref k0)] := hl
  have in_X5 : ∀ w ∈ wsX50, w ∈ wsX5_add := fun _ h => List.mem_cons_of_mem _ ((List.mem_append_right _ h))
  have w_1 := hts (.fieldLink RX5 25 "SleepingCars$Runs" "size" "I") (by decide +kernel)
  have w_2 := hts (.fieldLink RX5 9 "SleepingCars$Runs" "berths" "[I") (by decide +kernel)
  have w_3 := hts (.fieldLink RX5 15 "SleepingCars$Runs" "owners" "[I") (by decide +kernel)
  have w_4 := hts (.methodLink RX5 29 arraycopyName) (by decide +kernel)
  have w_5 := hts (.native arraycopyName) (by decide +kernel)
  have w_6 := hts (.static arraycopyName) (by decide +kernel)
  have w_7 := hts (.initialized "java/lang/System") (by decide +kernel)
  obtain ⟨H, eH⟩ : ∃ H : Heap, H = s.heap := ⟨_, rfl⟩
  obtain ⟨locs, eL⟩ : ∃ L : List Loc, L = [] := ⟨_, rfl⟩
  rw [← eL]
  rw [← eL] at hS
  have hP : va_P D vwCl [(h0, .inr (5, [.int z, .ref h1, .ref h2, .ref h3])), (h1, .inl (cy 0, 60, .inl fb)), (h2, .inl (cy 0, 600, .inl fo)), (k0, .inl (cy 0, 10, .inl fsh))] H := by rw [eH]; exact hP
  have hS : va_S A s.heap H locs := by rw [eH]; exact hS
  refine W.heapEq eH ?_
  clear eH eL
  refine lv_aload_n hx hb dX5_add_0 rfl (lv_at hl 0 rfl) ?_
  refine lv_dup hx hb dX5_add_1 rfl ?_
  refine va_get (D := D) (ci := 5) (v := .int z) (C := RX5) (T := TX5) (N := 4) hx hb hts in_X5 hown hK hP 0 rfl rfl 0 (by decide) w_1 (fun _ h9 => h9) rfl dX5_add_2 ?_
  refine lv_iconst (v := 1) hx hb dX5_add_5 (by decide) ?_
  refine lv_iadd hx hb dX5_add_6 ?_
  refine lv_topi (fun x6 ex6 => ?_)
  have tx6 := q_add (p := z.toInt) (q := 1) ex6 rfl (by decide) (by omega) (by omega)
  refine va_put (D := D) (ci := 5) (v := .int x6) (ty := .int) (C := RX5) (T := TX5) (N := 4) hx hb hts in_X5 tyX5 tyX5_ok nmX5 hown hK hP hD hS 0 rfl rfl 0 (by decide) w_1 (fun _ h9 => h9) rfl (by decide +kernel) rfl rfl (Nat.le_of_ble_eq_true rfl) dX5_add_7 (fun H locs hP hD hS => ?_)
  have hP : va_P D vwCl [(h0, .inr (5, [.int x6, .ref h1, .ref h2, .ref h3])), (h1, .inl (cy 0, 60, .inl fb)), (h2, .inl (cy 0, 600, .inl fo)), (k0, .inl (cy 0, 10, .inl fsh))] H := hP
  have hD : va_D A [(h0, .inr (5, [.int x6, .ref h1, .ref h2, .ref h3])), (h1, .inl (cy 0, 60, .inl fb)), (h2, .inl (cy 0, 600, .inl fo)), (k0, .inl (cy 0, 10, .inl fsh))] := hD
  refine lv_aload_n hx hb dX5_add_10 rfl (lv_at hl 0 rfl) ?_
  refine va_get (D := D) (ci := 5) (v := .ref h1) (C := RX5) (T := TX5) (N := 4) hx hb hts in_X5 hown hK hP 0 rfl rfl 1 (by decide) w_2 (fun _ h9 => h9) rfl dX5_add_11 ?_
  refine lv_iload_n hx hb dX5_add_14 rfl (lv_at hl 1 rfl) ?_
  refine lv_iload_n hx hb dX5_add_15 rfl (lv_at hl 2 rfl) ?_
  refine va_iast hx hb hK hP hD hS 1 0 rfl rfl (q_in (a := day.toInt) rfl (by omega) (by omega)) dX5_add_16 (fun H locs hP hD hS => ?_)
  have hP : va_P D vwCl [(h0, .inr (5, [.int x6, .ref h1, .ref h2, .ref h3])), (h1, .inl (cy 0, 60, .inl (upd fb day.toNatClampNeg n))), (h2, .inl (cy 0, 600, .inl fo)), (k0, .inl (cy 0, 10, .inl fsh))] H := hP
  have hD : va_D A [(h0, .inr (5, [.int x6, .ref h1, .ref h2, .ref h3])), (h1, .inl (cy 0, 60, .inl (upd fb day.toNatClampNeg n))), (h2, .inl (cy 0, 600, .inl fo)), (k0, .inl (cy 0, 10, .inl fsh))] := hD
  refine lv_aload_n hx hb dX5_add_17 rfl (lv_at hl 3 rfl) ?_
  refine lv_iconst (v := 0) hx hb dX5_add_18 (by decide) ?_
  refine lv_aload_n hx hb dX5_add_19 rfl (lv_at hl 0 rfl) ?_
  refine va_get (D := D) (ci := 5) (v := .ref h2) (C := RX5) (T := TX5) (N := 4) hx hb hts in_X5 hown hK hP 0 rfl rfl 2 (by decide) w_3 (fun _ h9 => h9) rfl dX5_add_20 ?_
  refine lv_iload_n hx hb dX5_add_23 rfl (lv_at hl 1 rfl) ?_
  refine lv_bipush (v := 10) hx hb dX5_add_24 (by decide) ?_
  refine lv_imul hx hb dX5_add_26 ?_
  refine lv_topi (fun x26 ex26 => ?_)
  have tx26 := q_mul (p := day.toInt) (q := 10) ex26 rfl (by decide) (by omega) (by omega)
  refine lv_bipush (v := 10) hx hb dX5_add_27 (by decide) ?_
  refine va_copyi hx hb (hml.trans hl.1.symm) hown w_4 w_5 w_6 w_7 hK hP hD hS 3 2 0 0 rfl rfl rfl rfl rfl (by decide) (q_nn (by omega)) (by decide) (by decide) (by have hq := tx26; simp only [Int32.toNatClampNeg, hq]; show _ + 10 ≤ 600; omega) (fun _ _ => rfl) (Nat.le_of_ble_eq_true rfl) (Nat.le_of_ble_eq_true rfl) dX5_add_29 (fun H locs hP hD hS => ?_)
  obtain ⟨g29, eg29⟩ : ∃ f : Nat → Int32, f = va_cpy fsh fo (0 : Int32).toNatClampNeg x26.toNatClampNeg (10 : Int32).toNatClampNeg := ⟨_, rfl⟩
  rw [← eg29] at hP hD
  have hP : va_P D vwCl [(h0, .inr (5, [.int x6, .ref h1, .ref h2, .ref h3])), (h1, .inl (cy 0, 60, .inl (upd fb day.toNatClampNeg n))), (h2, .inl (cy 0, 600, .inl g29)), (k0, .inl (cy 0, 10, .inl fsh))] H := hP
  have hD : va_D A [(h0, .inr (5, [.int x6, .ref h1, .ref h2, .ref h3])), (h1, .inl (cy 0, 60, .inl (upd fb day.toNatClampNeg n))), (h2, .inl (cy 0, 600, .inl g29)), (k0, .inl (cy 0, 10, .inl fsh))] := hD
  exact r_v hx hb hr hlocks hK hS dX5_add_32 (u := (x6, g29)) hP hD (by omega)
