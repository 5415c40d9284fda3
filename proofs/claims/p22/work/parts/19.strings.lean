abbrev Q_c_J0_coder_7d493 (D : va_G) (cy : Nat → ClassId) (E : EN) (i : Nat) : (Nat → Prop) → Array Value → State → Outcome → State → Prop := QI D cy (fun (r : Int32) (_ : Unit) => r = 0) (fun _ : Unit => [])
set_option maxHeartbeats 4000000 in
set_option maxRecDepth 100000 in
theorem c_J0_coder_7d493 (l : Launch) (D : va_G) (cy : Nat → ClassId) (E : EN) (i : Nat) (sz : Nat) (hi : i < 12) : Met l yJ0_coder_7d493 wsJ0_coder_7d493 ({ frames := 0, cells := 0, slots := 0, locals := 0 } : Room) (CP D cy E [.ref (E.2.1 i)] [] sz) (Q_c_J0_coder_7d493 D cy E i (va_A [] sz)) 0 0 (va_A [] sz) := by
  refine Met.go (Qc := Q_c_J0_coder_7d493 D cy E i) (cc := cJ0_coder_7d493) (maxL := 1) (ret := (some .byte)) (by decide) rfl (Nat.le_of_ble_eq_true rfl) ?_
  intro p e s m below meth c hx hb hr hts hown hlocks hin hml hK hN A hA hAB hD hP hS ls hl hsz
  have hl : lv_has ls 1 [(0, .ref (E.2.1 i))] := hl
  have w_0 := hts (.fieldLink RJ0 38 "java/lang/String" "COMPACT_STRINGS" "Z") (by decide +kernel)
  have w_1 := hts (.fieldLink RJ0 15 "java/lang/String" "coder" "B") (by decide +kernel)
  obtain ⟨H, eH⟩ : ∃ H : Heap, H = s.heap := ⟨_, rfl⟩
  obtain ⟨locs, eL⟩ : ∃ L : List Loc, L = [] := ⟨_, rfl⟩
  rw [← eL]
  rw [← eL] at hS
  have hP : va_P D vwCl [] H := by rw [eH]; exact hP
  have hS : va_S A s.heap H locs := by rw [eH]; exact hS
  refine W.heapEq eH ?_
  clear eH eL
  refine va_gets hx hb (va_Z.narrow hN.2.2.2.2.1 hAB) hS hown w_0 (fun _ h => h) dJ0_coder_7d493_0 ?_
  refine lv_if_eq (tgt := 13) hx hb dJ0_coder_7d493_3 (by decide) (fun c3 => ?_) (fun c3 => ?_)
  · skip
    exact absurd c3 (by decide)
  · skip
    refine lv_aload_n hx hb dJ0_coder_7d493_6 rfl (lv_at hl 0 rfl) ?_
    refine vk_getf hx hb ((vk_S.narrow hN.2.2.1 hAB).1 i hi).2.1 hS hown w_1 (fun _ h => h) dJ0_coder_7d493_7 ?_
    refine lv_goto (tgt := 14) hx hb dJ0_coder_7d493_10 (by decide) ?_
    exact r_n hx hb hr hlocks hK hS dJ0_coder_7d493_14 (by decide) (u := ()) hP hD (rfl)

abbrev Q_c_J0_isLatin1_aae02 (D : va_G) (cy : Nat → ClassId) (E : EN) (i : Nat) : (Nat → Prop) → Array Value → State → Outcome → State → Prop := QI D cy (fun (r : Int32) (_ : Unit) => r.toInt = 1) (fun _ : Unit => [])
set_option maxHeartbeats 4000000 in
set_option maxRecDepth 100000 in
theorem c_J0_isLatin1_aae02 (l : Launch) (D : va_G) (cy : Nat → ClassId) (E : EN) (i : Nat) (sz : Nat) (hi : i < 12) : Met l yJ0_isLatin1_aae02 wsJ0_isLatin1_aae02 ({ frames := 0, cells := 0, slots := 0, locals := 0 } : Room) (CP D cy E [.ref (E.2.1 i)] [] sz) (Q_c_J0_isLatin1_aae02 D cy E i (va_A [] sz)) 0 0 (va_A [] sz) := by
  refine Met.go (Qc := Q_c_J0_isLatin1_aae02 D cy E i) (cc := cJ0_isLatin1_aae02) (maxL := 1) (ret := (some .boolean)) (by decide) rfl (Nat.le_of_ble_eq_true rfl) ?_
  intro p e s m below meth c hx hb hr hts hown hlocks hin hml hK hN A hA hAB hD hP hS ls hl hsz
  have hl : lv_has ls 1 [(0, .ref (E.2.1 i))] := hl
  have w_0 := hts (.fieldLink RJ0 38 "java/lang/String" "COMPACT_STRINGS" "Z") (by decide +kernel)
  have w_1 := hts (.fieldLink RJ0 15 "java/lang/String" "coder" "B") (by decide +kernel)
  obtain ⟨H, eH⟩ : ∃ H : Heap, H = s.heap := ⟨_, rfl⟩
  obtain ⟨locs, eL⟩ : ∃ L : List Loc, L = [] := ⟨_, rfl⟩
  rw [← eL]
  rw [← eL] at hS
  have hP : va_P D vwCl [] H := by rw [eH]; exact hP
  have hS : va_S A s.heap H locs := by rw [eH]; exact hS
  refine W.heapEq eH ?_
  clear eH eL
  refine va_gets hx hb (va_Z.narrow hN.2.2.2.2.1 hAB) hS hown w_0 (fun _ h => h) dJ0_isLatin1_aae02_0 ?_
  refine lv_if_eq (tgt := 17) hx hb dJ0_isLatin1_aae02_3 (by decide) (fun c3 => ?_) (fun c3 => ?_)
  · skip
    exact absurd c3 (by decide)
  · skip
    refine lv_aload_n hx hb dJ0_isLatin1_aae02_6 rfl (lv_at hl 0 rfl) ?_
    refine vk_getf hx hb ((vk_S.narrow hN.2.2.1 hAB).1 i hi).2.1 hS hown w_1 (fun _ h => h) dJ0_isLatin1_aae02_7 ?_
    refine lv_if_ne (tgt := 17) hx hb dJ0_isLatin1_aae02_10 (by decide) (fun c10 => ?_) (fun c10 => ?_)
    · skip
      exact absurd c10 (by decide)
    · skip
      refine lv_iconst (v := 1) hx hb dJ0_isLatin1_aae02_13 (by decide) ?_
      refine lv_goto (tgt := 18) hx hb dJ0_isLatin1_aae02_14 (by decide) ?_
      exact r_z hx hb hr hlocks hK hS dJ0_isLatin1_aae02_18 (by decide) (u := ()) hP hD (by decide)

abbrev Q_c_J0_length_8abf5 (D : va_G) (cy : Nat → ClassId) (E : EN) (i : Nat) : (Nat → Prop) → Array Value → State → Outcome → State → Prop := QI D cy (fun (r : Int32) (_ : Unit) => r = Int32.ofNat (strLen.getD i 0)) (fun _ : Unit => [])
set_option maxHeartbeats 4000000 in
set_option maxRecDepth 100000 in
theorem c_J0_length_8abf5 (l : Launch) (D : va_G) (cy : Nat → ClassId) (E : EN) (i : Nat) (sz : Nat) (hi : i < 12) : Met l yJ0_length_8abf5 wsJ0_length_8abf5 ({ frames := 1, cells := 0, slots := 0, locals := 20 } : Room) (CP D cy E [.ref (E.2.1 i)] [] sz) (Q_c_J0_length_8abf5 D cy E i (va_A [] sz)) 0 0 (va_A [] sz) := by
  refine Met.go (Qc := Q_c_J0_length_8abf5 D cy E i) (cc := cJ0_length_8abf5) (maxL := 1) (ret := (some .int)) (by decide) rfl (Nat.le_of_ble_eq_true rfl) ?_
  intro p e s m below meth c hx hb hr hts hown hlocks hin hml hK hN A hA hAB hD hP hS ls hl hsz
  have hl : lv_has ls 1 [(0, .ref (E.2.1 i))] := hl
  have w_0 := hts (.fieldLink RJ0 9 "java/lang/String" "value" "[B") (by decide +kernel)
  have w_1 := hts (.instanceMethod yJ0_coder_7d493) (by decide +kernel)
  obtain ⟨H, eH⟩ : ∃ H : Heap, H = s.heap := ⟨_, rfl⟩
  obtain ⟨locs, eL⟩ : ∃ L : List Loc, L = [] := ⟨_, rfl⟩
  rw [← eL]
  rw [← eL] at hS
  have hP : va_P D vwCl [] H := by rw [eH]; exact hP
  have hS : va_S A s.heap H locs := by rw [eH]; exact hS
  refine W.heapEq eH ?_
  clear eH eL
  refine lv_aload_n hx hb dJ0_length_8abf5_0 rfl (lv_at hl 0 rfl) ?_
  refine vk_getf hx hb ((vk_S.narrow hN.2.2.1 hAB).1 i hi).2.2.1 hS hown w_0 (fun _ h => h) dJ0_length_8abf5_1 ?_
  refine va_tlen hx hb ((vk_S.narrow hN.2.2.1 hAB).1 i hi).2.2.2 hS rfl dJ0_length_8abf5_4 ?_
  refine lv_topi (fun x4 ex4 => ?_)
  have tx4 := str_len hi ex4
  refine lv_aload_n hx hb dJ0_length_8abf5_5 rfl (lv_at hl 0 rfl) ?_
  refine k_i (va_runV (As := []) (rest := [.int x4]) ⟨hx, hb, hml, hown, hts⟩ (c_J0_coder_7d493 l D cy E i H.size hi) (cwV 0 hts gJ0_length_8abf5_J0_coder_7d493 rfl rfl rfl (by decide +kernel) ⟨Nat.le_of_ble_eq_true rfl, Nat.le_of_ble_eq_true rfl⟩) (cp_str hK hN hS hAB hi) rfl rfl hl.1 rfl (lv_room (Nat.le_of_ble_eq_true rfl)) dJ0_length_8abf5_6 ⟨Nat.le_of_ble_eq_true rfl, Nat.le_of_ble_eq_true rfl⟩) hP hD hS hA [] [] (wr := []) rfl rfl (by decide) (by decide) (fun rr6 u_rr6 H locs hw6 hP hD hS => ?_)
  try dsimp only at hw6
  have hP : va_P D vwCl [] H := hP
  have hD : va_D A [] := hD
  refine lv_ishr hx hb dJ0_length_8abf5_9 ?_
  refine lv_topi (fun x9 ex9 => ?_)
  exact r_i hx hb hr hlocks hK hS dJ0_length_8abf5_10 (u := ()) hP hD (by rw [ex9, hw6, sb_shr0, ex4])

abbrev Q_c_chkN (D : va_G) (cy : Nat → ClassId) (E : EN) (ix : Int32) (ln : Int32) : (Nat → Prop) → Array Value → State → Outcome → State → Prop := QI D cy (fun (r : Int32) (_ : Unit) => True) (fun _ : Unit => [])
set_option maxHeartbeats 4000000 in
set_option maxRecDepth 100000 in
theorem c_chkN (l : Launch) (D : va_G) (cy : Nat → ClassId) (E : EN) (ix : Int32) (ln : Int32) (sz : Nat) (hx9 : 0 ≤ ix.toInt ∧ ix.toInt < ln.toInt) : Met l yJ3_checkIndex_8e157 wsJ3_checkIndex_8e157 ({ frames := 0, cells := 0, slots := 0, locals := 0 } : Room) (CP D cy E [.int ix, .int ln, .null] [] sz) (Q_c_chkN D cy E ix ln (va_A [] sz)) 0 0 (va_A [] sz) := by
  refine Met.go (Qc := Q_c_chkN D cy E ix ln) (cc := cJ3_checkIndex_8e157) (maxL := 3) (ret := (some .int)) (by decide) rfl (Nat.le_of_ble_eq_true rfl) ?_
  intro p e s m below meth c hx hb hr hts hown hlocks hin hml hK hN A hA hAB hD hP hS ls hl hsz
  have hl : lv_has ls 3 [(0, .int ix), (1, .int ln), (2, .null)] := hl
  obtain ⟨H, eH⟩ : ∃ H : Heap, H = s.heap := ⟨_, rfl⟩
  obtain ⟨locs, eL⟩ : ∃ L : List Loc, L = [] := ⟨_, rfl⟩
  rw [← eL]
  rw [← eL] at hS
  have hP : va_P D vwCl [] H := by rw [eH]; exact hP
  have hS : va_S A s.heap H locs := by rw [eH]; exact hS
  refine W.heapEq eH ?_
  clear eH eL
  refine lv_iload_n hx hb dJ3_checkIndex_8e157_0 rfl (lv_at hl 0 rfl) ?_
  refine lv_if_lt (tgt := 9) hx hb dJ3_checkIndex_8e157_1 (by decide) (fun c1 => ?_) (fun c1 => ?_)
  · skip
    have fc1 := q_lt (a := ix.toInt) (b := 0) c1 rfl (by decide)
    exfalso; omega
  · skip
    have fc1 := q_nlt (a := ix.toInt) (b := 0) c1 rfl (by decide)
    refine lv_iload_n hx hb dJ3_checkIndex_8e157_4 rfl (lv_at hl 0 rfl) ?_
    refine lv_iload_n hx hb dJ3_checkIndex_8e157_5 rfl (lv_at hl 1 rfl) ?_
    refine lv_icmp_lt (tgt := 16) hx hb dJ3_checkIndex_8e157_6 (by decide) (fun c6 => ?_) (fun c6 => ?_)
    · skip
      have fc6 := q_lt (a := ix.toInt) (b := ln.toInt) c6 rfl rfl
      refine lv_iload_n hx hb dJ3_checkIndex_8e157_16 rfl (lv_at hl 0 rfl) ?_
      exact r_i hx hb hr hlocks hK hS dJ3_checkIndex_8e157_17 (u := ()) hP hD (trivial)
    · skip
      have fc6 := q_nlt (a := ix.toInt) (b := ln.toInt) c6 rfl rfl
      exfalso; omega

abbrev Q_c_chkR (D : va_G) (cy : Nat → ClassId) (E : EN) (fa : Nat) (ix : Int32) (ln : Int32) : (Nat → Prop) → Array Value → State → Outcome → State → Prop := QI D cy (fun (r : Int32) (_ : Unit) => True) (fun _ : Unit => [])
set_option maxHeartbeats 4000000 in
set_option maxRecDepth 100000 in
theorem c_chkR (l : Launch) (D : va_G) (cy : Nat → ClassId) (E : EN) (fa : Nat) (ix : Int32) (ln : Int32) (sz : Nat) (hx9 : 0 ≤ ix.toInt ∧ ix.toInt < ln.toInt) : Met l yJ3_checkIndex_8e157 wsJ3_checkIndex_8e157 ({ frames := 0, cells := 0, slots := 0, locals := 0 } : Room) (CP D cy E [.int ix, .int ln, .ref fa] [] sz) (Q_c_chkR D cy E fa ix ln (va_A [] sz)) 0 0 (va_A [] sz) := by
  refine Met.go (Qc := Q_c_chkR D cy E fa ix ln) (cc := cJ3_checkIndex_8e157) (maxL := 3) (ret := (some .int)) (by decide) rfl (Nat.le_of_ble_eq_true rfl) ?_
  intro p e s m below meth c hx hb hr hts hown hlocks hin hml hK hN A hA hAB hD hP hS ls hl hsz
  have hl : lv_has ls 3 [(0, .int ix), (1, .int ln), (2, .ref fa)] := hl
  obtain ⟨H, eH⟩ : ∃ H : Heap, H = s.heap := ⟨_, rfl⟩
  obtain ⟨locs, eL⟩ : ∃ L : List Loc, L = [] := ⟨_, rfl⟩
  rw [← eL]
  rw [← eL] at hS
  have hP : va_P D vwCl [] H := by rw [eH]; exact hP
  have hS : va_S A s.heap H locs := by rw [eH]; exact hS
  refine W.heapEq eH ?_
  clear eH eL
  refine lv_iload_n hx hb dJ3_checkIndex_8e157_0 rfl (lv_at hl 0 rfl) ?_
  refine lv_if_lt (tgt := 9) hx hb dJ3_checkIndex_8e157_1 (by decide) (fun c1 => ?_) (fun c1 => ?_)
  · skip
    have fc1 := q_lt (a := ix.toInt) (b := 0) c1 rfl (by decide)
    exfalso; omega
  · skip
    have fc1 := q_nlt (a := ix.toInt) (b := 0) c1 rfl (by decide)
    refine lv_iload_n hx hb dJ3_checkIndex_8e157_4 rfl (lv_at hl 0 rfl) ?_
    refine lv_iload_n hx hb dJ3_checkIndex_8e157_5 rfl (lv_at hl 1 rfl) ?_
    refine lv_icmp_lt (tgt := 16) hx hb dJ3_checkIndex_8e157_6 (by decide) (fun c6 => ?_) (fun c6 => ?_)
    · skip
      have fc6 := q_lt (a := ix.toInt) (b := ln.toInt) c6 rfl rfl
      refine lv_iload_n hx hb dJ3_checkIndex_8e157_16 rfl (lv_at hl 0 rfl) ?_
      exact r_i hx hb hr hlocks hK hS dJ3_checkIndex_8e157_17 (u := ()) hP hD (trivial)
    · skip
      have fc6 := q_nlt (a := ix.toInt) (b := ln.toInt) c6 rfl rfl
      exfalso; omega

abbrev Q_c_J0_checkIndex_df160 (D : va_G) (cy : Nat → ClassId) (E : EN) (ix : Int32) (ln : Int32) : (Nat → Prop) → Array Value → State → Outcome → State → Prop := QV D cy (fun (_ : Unit) => True) (fun _ : Unit => [])
set_option maxHeartbeats 4000000 in
set_option maxRecDepth 100000 in
theorem c_J0_checkIndex_df160 (l : Launch) (D : va_G) (cy : Nat → ClassId) (E : EN) (ix : Int32) (ln : Int32) (sz : Nat) (hx9 : 0 ≤ ix.toInt ∧ ix.toInt < ln.toInt) : Met l yJ0_checkIndex_df160 wsJ0_checkIndex_df160 ({ frames := 1, cells := 0, slots := 0, locals := 22 } : Room) (CP D cy E [.int ix, .int ln] [] sz) (Q_c_J0_checkIndex_df160 D cy E ix ln (va_A [] sz)) 0 0 (va_A [] sz) := by
  refine Met.go (Qc := Q_c_J0_checkIndex_df160 D cy E ix ln) (cc := cJ0_checkIndex_df160) (maxL := 2) (ret := none) (by decide) rfl (Nat.le_of_ble_eq_true rfl) ?_
  intro p e s m below meth c hx hb hr hts hown hlocks hin hml hK hN A hA hAB hD hP hS ls hl hsz
  have hl : lv_has ls 2 [(0, .int ix), (1, .int ln)] := hl
  have w_0 := hts (.fieldLink RJ0 1053 "jdk/internal/util/Preconditions" "SIOOBE_FORMATTER" "Ljava/util/function/BiFunction;") (by decide +kernel)
  obtain ⟨H, eH⟩ : ∃ H : Heap, H = s.heap := ⟨_, rfl⟩
  obtain ⟨locs, eL⟩ : ∃ L : List Loc, L = [] := ⟨_, rfl⟩
  rw [← eL]
  rw [← eL] at hS
  have hP : va_P D vwCl [] H := by rw [eH]; exact hP
  have hS : va_S A s.heap H locs := by rw [eH]; exact hS
  refine W.heapEq eH ?_
  clear eH eL
  refine lv_iload_n hx hb dJ0_checkIndex_df160_0 rfl (lv_at hl 0 rfl) ?_
  refine lv_iload_n hx hb dJ0_checkIndex_df160_1 rfl (lv_at hl 1 rfl) ?_
  obtain ⟨fv, hfv, hfz⟩ := hN.2.2.2.2.2.2
  refine va_gets hx hb (va_Z.narrow hfz hAB) hS hown w_0 (fun _ h => h) dJ0_checkIndex_df160_2 ?_
  rcases hfv with rfl | ⟨fa, rfl⟩
  · skip
    refine k_i (va_runS (As := [.int ix, .int ln, .null]) (rest := []) ⟨hx, hb, hml, hown, hts⟩ (c_chkN l D cy E ix ln H.size (by first | omega | decide | (constructor <;> first | omega | decide))) (va_cwS 3 hts gJ0_checkIndex_df160_J3_checkIndex_8e157 rfl rfl rfl (by decide +kernel) ⟨Nat.le_of_ble_eq_true rfl, Nat.le_of_ble_eq_true rfl⟩) (cp_s hK hN hS hAB hP hD [] rfl (by decide)) rfl rfl hl.1 rfl (lv_room (Nat.le_of_ble_eq_true rfl)) dJ0_checkIndex_df160_5 ⟨Nat.le_of_ble_eq_true rfl, Nat.le_of_ble_eq_true rfl⟩) hP hD hS hA [] [] (wr := []) rfl rfl (by decide) (by decide) (fun rr5 u_rr5 H locs hw5 hP hD hS => ?_)
    try dsimp only at hw5
    have hP : va_P D vwCl [] H := hP
    have hD : va_D A [] := hD
    refine lv_pop hx hb dJ0_checkIndex_df160_8 rfl ?_
    exact r_v hx hb hr hlocks hK hS dJ0_checkIndex_df160_9 (u := ()) hP hD (trivial)
  · skip
    refine k_i (va_runS (As := [.int ix, .int ln, .ref fa]) (rest := []) ⟨hx, hb, hml, hown, hts⟩ (c_chkR l D cy E fa ix ln H.size (by first | omega | decide | (constructor <;> first | omega | decide))) (va_cwS 3 hts gJ0_checkIndex_df160_J3_checkIndex_8e157 rfl rfl rfl (by decide +kernel) ⟨Nat.le_of_ble_eq_true rfl, Nat.le_of_ble_eq_true rfl⟩) (cp_s hK hN hS hAB hP hD [] rfl (by decide)) rfl rfl hl.1 rfl (lv_room (Nat.le_of_ble_eq_true rfl)) dJ0_checkIndex_df160_5 ⟨Nat.le_of_ble_eq_true rfl, Nat.le_of_ble_eq_true rfl⟩) hP hD hS hA [] [] (wr := []) rfl rfl (by decide) (by decide) (fun rr5 u_rr5 H locs hw5 hP hD hS => ?_)
    try dsimp only at hw5
    have hP : va_P D vwCl [] H := hP
    have hD : va_D A [] := hD
    refine lv_pop hx hb dJ0_checkIndex_df160_8 rfl ?_
    exact r_v hx hb hr hlocks hK hS dJ0_checkIndex_df160_9 (u := ()) hP hD (trivial)

abbrev Q_c_J1_charAt_3b067 (D : va_G) (cy : Nat → ClassId) (E : EN) (i : Nat) (ix : Int32) : (Nat → Prop) → Array Value → State → Outcome → State → Prop := QI D cy (fun (r : Int32) (_ : Unit) => narrow .char (.int r) = .int r) (fun _ : Unit => [])
set_option maxHeartbeats 4000000 in
set_option maxRecDepth 100000 in
theorem c_J1_charAt_3b067 (l : Launch) (D : va_G) (cy : Nat → ClassId) (E : EN) (i : Nat) (ix : Int32) (sz : Nat) (hi : i < 12) (hx9 : 0 ≤ ix.toInt ∧ ix.toInt < ((strLen.getD i 0 : Nat) : Int)) : Met l yJ1_charAt_3b067 wsJ1_charAt_3b067 ({ frames := 2, cells := 0, slots := 0, locals := 43 } : Room) (CP D cy E [.ref (E.2.2 i), .int ix] [] sz) (Q_c_J1_charAt_3b067 D cy E i ix (va_A [] sz)) 0 0 (va_A [] sz) := by
  refine Met.go (Qc := Q_c_J1_charAt_3b067 D cy E i ix) (cc := cJ1_charAt_3b067) (maxL := 2) (ret := (some .char)) (by decide) rfl (Nat.le_of_ble_eq_true rfl) ?_
  intro p e s m below meth c hx hb hr hts hown hlocks hin hml hK hN A hA hAB hD hP hS ls hl hsz
  have hl : lv_has ls 2 [(0, .ref (E.2.2 i)), (1, .int ix)] := hl
  obtain ⟨H, eH⟩ : ∃ H : Heap, H = s.heap := ⟨_, rfl⟩
  obtain ⟨locs, eL⟩ : ∃ L : List Loc, L = [] := ⟨_, rfl⟩
  rw [← eL]
  rw [← eL] at hS
  have hP : va_P D vwCl [] H := by rw [eH]; exact hP
  have hS : va_S A s.heap H locs := by rw [eH]; exact hS
  refine W.heapEq eH ?_
  clear eH eL
  refine lv_iload_n hx hb dJ1_charAt_3b067_0 rfl (lv_at hl 1 rfl) ?_
  refine lv_aload_n hx hb dJ1_charAt_3b067_1 rfl (lv_at hl 0 rfl) ?_
  refine va_tlen hx hb ((vk_S.narrow hN.2.2.1 hAB).1 i hi).2.2.2 hS rfl dJ1_charAt_3b067_2 ?_
  refine lv_topi (fun x2 ex2 => ?_)
  have tx2 := str_len hi ex2
  refine k_v (va_runS (As := [.int ix, .int x2]) (rest := []) ⟨hx, hb, hml, hown, hts⟩ (c_J0_checkIndex_df160 l D cy E ix x2 H.size (by omega)) (va_cwS 2 hts gJ1_charAt_3b067_J0_checkIndex_df160 rfl rfl rfl (by decide +kernel) ⟨Nat.le_of_ble_eq_true rfl, Nat.le_of_ble_eq_true rfl⟩) (cp_s hK hN hS hAB hP hD [] rfl (by decide)) rfl rfl hl.1 rfl (lv_room (Nat.le_of_ble_eq_true rfl)) dJ1_charAt_3b067_3 ⟨Nat.le_of_ble_eq_true rfl, Nat.le_of_ble_eq_true rfl⟩) hP hD hS hA [] [] (wr := []) rfl rfl (by decide) (by decide) (fun u_rr3 H locs hw3 hP hD hS => ?_)
  try dsimp only at hw3
  have hP : va_P D vwCl [] H := hP
  have hD : va_D A [] := hD
  refine lv_aload_n hx hb dJ1_charAt_3b067_6 rfl (lv_at hl 0 rfl) ?_
  refine lv_iload_n hx hb dJ1_charAt_3b067_7 rfl (lv_at hl 1 rfl) ?_
  refine va_tb hx hb ((vk_S.narrow hN.2.2.1 hAB).1 i hi).2.2.2 hS (q_in (a := ix.toInt) rfl (by omega) (by omega)) rfl dJ1_charAt_3b067_8 ?_
  refine lv_topi (fun x8 ex8 => ?_)
  refine lv_sipush (v := 255) hx hb dJ1_charAt_3b067_9 (by decide) ?_
  refine lv_iand hx hb dJ1_charAt_3b067_12 ?_
  refine lv_topi (fun x12 ex12 => ?_)
  obtain ⟨x13, ex13⟩ : ∃ y : Int32, (x12.toUInt32 % 65536).toInt32 = y := ⟨_, rfl⟩
  refine lv_i2c hx hb dJ1_charAt_3b067_13 ex13 ?_
  exact r_n hx hb hr hlocks hK hS dJ1_charAt_3b067_14 (by rw [← ex13]; exact pk_nc _) (u := ()) hP hD (by rw [← ex13]; exact pk_nc _)

abbrev Q_c_J0_charAt_5068e (D : va_G) (cy : Nat → ClassId) (E : EN) (i : Nat) (ix : Int32) : (Nat → Prop) → Array Value → State → Outcome → State → Prop := QI D cy (fun (r : Int32) (_ : Unit) => True) (fun _ : Unit => [])
set_option maxHeartbeats 4000000 in
set_option maxRecDepth 100000 in
theorem c_J0_charAt_5068e (l : Launch) (D : va_G) (cy : Nat → ClassId) (E : EN) (i : Nat) (ix : Int32) (sz : Nat) (hi : i < 12) (hx9 : 0 ≤ ix.toInt ∧ ix.toInt < ((strLen.getD i 0 : Nat) : Int)) : Met l yJ0_charAt_5068e wsJ0_charAt_5068e ({ frames := 3, cells := 0, slots := 0, locals := 64 } : Room) (CP D cy E [.ref (E.2.1 i), .int ix] [] sz) (Q_c_J0_charAt_5068e D cy E i ix (va_A [] sz)) 0 0 (va_A [] sz) := by
  refine Met.go (Qc := Q_c_J0_charAt_5068e D cy E i ix) (cc := cJ0_charAt_5068e) (maxL := 2) (ret := (some .char)) (by decide) rfl (Nat.le_of_ble_eq_true rfl) ?_
  intro p e s m below meth c hx hb hr hts hown hlocks hin hml hK hN A hA hAB hD hP hS ls hl hsz
  have hl : lv_has ls 2 [(0, .ref (E.2.1 i)), (1, .int ix)] := hl
  have w_0 := hts (.instanceMethod yJ0_isLatin1_aae02) (by decide +kernel)
  have w_1 := hts (.fieldLink RJ0 9 "java/lang/String" "value" "[B") (by decide +kernel)
  obtain ⟨H, eH⟩ : ∃ H : Heap, H = s.heap := ⟨_, rfl⟩
  obtain ⟨locs, eL⟩ : ∃ L : List Loc, L = [] := ⟨_, rfl⟩
  rw [← eL]
  rw [← eL] at hS
  have hP : va_P D vwCl [] H := by rw [eH]; exact hP
  have hS : va_S A s.heap H locs := by rw [eH]; exact hS
  refine W.heapEq eH ?_
  clear eH eL
  refine lv_aload_n hx hb dJ0_charAt_5068e_0 rfl (lv_at hl 0 rfl) ?_
  refine k_i (va_runV (As := []) (rest := []) ⟨hx, hb, hml, hown, hts⟩ (c_J0_isLatin1_aae02 l D cy E i H.size hi) (cwV 0 hts gJ0_charAt_5068e_J0_isLatin1_aae02 rfl rfl rfl (by decide +kernel) ⟨Nat.le_of_ble_eq_true rfl, Nat.le_of_ble_eq_true rfl⟩) (cp_str hK hN hS hAB hi) rfl rfl hl.1 rfl (lv_room (Nat.le_of_ble_eq_true rfl)) dJ0_charAt_5068e_1 ⟨Nat.le_of_ble_eq_true rfl, Nat.le_of_ble_eq_true rfl⟩) hP hD hS hA [] [] (wr := []) rfl rfl (by decide) (by decide) (fun rr1 u_rr1 H locs hw1 hP hD hS => ?_)
  try dsimp only at hw1
  have hP : va_P D vwCl [] H := hP
  have hD : va_D A [] := hD
  refine lv_if_eq (tgt := 16) hx hb dJ0_charAt_5068e_4 (by decide) (fun c4 => ?_) (fun c4 => ?_)
  · skip
    have fc4 := q_eq (a := rr1.toInt) (b := 0) c4 rfl (by decide)
    exfalso; omega
  · skip
    have fc4 := q_ne (a := rr1.toInt) (b := 0) c4 rfl (by decide)
    refine lv_aload_n hx hb dJ0_charAt_5068e_7 rfl (lv_at hl 0 rfl) ?_
    refine vk_getf hx hb ((vk_S.narrow hN.2.2.1 hAB).1 i hi).2.2.1 hS hown w_1 (fun _ h => h) dJ0_charAt_5068e_8 ?_
    refine lv_iload_n hx hb dJ0_charAt_5068e_11 rfl (lv_at hl 1 rfl) ?_
    refine k_i (va_runS (As := [.ref (E.2.2 i), .int ix]) (rest := []) ⟨hx, hb, hml, hown, hts⟩ (c_J1_charAt_3b067 l D cy E i ix H.size hi (by first | omega | decide | (constructor <;> first | omega | decide))) (va_cwS 2 hts gJ0_charAt_5068e_J1_charAt_3b067 rfl rfl rfl (by decide +kernel) ⟨Nat.le_of_ble_eq_true rfl, Nat.le_of_ble_eq_true rfl⟩) (cp_s hK hN hS hAB hP hD [] rfl (by decide)) rfl rfl hl.1 rfl (lv_room (Nat.le_of_ble_eq_true rfl)) dJ0_charAt_5068e_12 ⟨Nat.le_of_ble_eq_true rfl, Nat.le_of_ble_eq_true rfl⟩) hP hD hS hA [] [] (wr := []) rfl rfl (by decide) (by decide) (fun rr12 u_rr12 H locs hw12 hP hD hS => ?_)
    try dsimp only at hw12
    have hP : va_P D vwCl [] H := hP
    have hD : va_D A [] := hD
    exact r_n hx hb hr hlocks hK hS dJ0_charAt_5068e_15 (hw12) (u := ()) hP hD (trivial)
