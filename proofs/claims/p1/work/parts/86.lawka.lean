set_option maxHeartbeats 4000000 in
set_option maxRecDepth 100000 in
theorem law_tail {p : Program} {e : Env} {s : State} {m : MethodId} {below : List Frame} {meth : Method} {c : Code} {l : Launch} {b : Nat} {xs : Nat → Int32} {A : Nat → Prop} {H : Heap} {locs : List Loc} {k n : Nat} (C0 : lw_At p s m meth c b 6 xs) (hA : ∀ q : Nat, s.heap.size ≤ q → A q) (hAA : ∀ q : Nat, A q → s.heap.size ≤ q) (hk : k ≤ 600000) (hn : n ≤ 7302250) (hS : va_S A s.heap H locs) (ls : Array Slot) (hl : lv_has ls 4 [(3, .int 0), (0, .ref b)]) : W p l e room_1 s m #[Value.ref b] below meth c H locs k n (lw_Z below #[Value.ref b] s) (F0 m 947 ls []) := by
  obtain ⟨hx, hb, hr, hml, hown, hts0, hX, hbl, hlocks, hgv⟩ := id C0
  have hown : s.vm.findClass RL = some m.cls := hown
  have hts : ∀ w ∈ wsL_law, w.before #[Value.ref b] s = true := fun w h => hts0 w (wsL_law_in w h)
  have hbA : ¬ A b := fun h => absurd (hAA b h) (Nat.not_le.mpr hbl)
  obtain ⟨x947, ex947⟩ : ∃ y : Int32, y = 0 + 6 := ⟨_, rfl⟩
  refine lv_iinc (v := x947) (lv' := [(3, .int x947), (0, .ref b)]) hx hb dL_law_947 hl (k := 0) rfl (by rw [ex947]; rfl) (by decide) rfl (fun ls hl => ?_)
  have tx947 := q_add (p := 0) (q := 6) ex947 (by decide) (by decide) (by omega) (by omega)
  refine lv_goto (tgt := 18) hx hb dL_law_950 (by decide) ?_
  refine lv_iload_n hx hb dL_law_18 rfl (lv_at hl 0 rfl) ?_
  refine lv_aload_n hx hb dL_law_19 rfl (lv_at hl 1 rfl) ?_
  refine va_slen hx hb hX hbl hbA hS dL_law_20 ?_
  refine lv_topi (fun x20 ex20 => ?_)
  obtain rfl : x20 = 6 := ex20
  refine lv_bipush (v := 6) hx hb dL_law_21 (by decide) ?_
  refine lv_isub hx hb dL_law_23 ?_
  refine lv_topi (fun x23 ex23 => ?_)
  obtain rfl : x23 = 0 := ex23.trans (by decide)
  refine lv_icmp_gt (tgt := 953) hx hb dL_law_24 (by decide) (fun c24 => ?_) (fun c24 => ?_)
  · skip
    have fc24 := q_lt (a := 0) (b := x947.toInt) c24 (by decide) rfl
    refine lv_iconst (v := 1) hx hb dL_law_953 (by decide) ?_
    refine va_forget (fun q hq => hAA _ (hS.2.2 q hq)) ?_
    refine W.widen (k := 600000) (n := 7302250) hk hn ?_
    exact lw_ret hx hb hr hlocks dL_law_954
  · skip
    have fc24 := q_nlt (a := 0) (b := x947.toInt) c24 (by decide) rfl
    exfalso; omega
set_option maxHeartbeats 4000000 in
set_option maxRecDepth 100000 in
theorem law_0 {p : Program} {e : Env} {s : State} {m : MethodId} {below : List Frame} {meth : Method} {c : Code} {l : Launch} {b : Nat} {xs : Nat → Int32} {A : Nat → Prop} {H : Heap} {locs : List Loc} {D : va_G} {cy : Nat → ClassId} (C0 : lw_At p s m meth c b 6 xs) (hA : ∀ q : Nat, s.heap.size ≤ q → A q) (hAA : ∀ q : Nat, A q → s.heap.size ≤ q) (hK : va_K D vwCl (tyL cy) s) (hN : NW s) (x0 b0 im tp rd r0 u0 t0 l0 q0 of sh nl fc u1 u2 u3 r1 r2 m0 m_tape m_stops m_km m_takes m_officeAt m_shares m_berths m_owner m_lies m_tickets m_tDay m_tBerth m_tFrom m_tTo m_tOffice m_tBack m_letters m_lComes m_lAnswer m_lOffice m_lDay m_lFrom m_lTo m_lTicket m_now m_lines m_lineTests m_testWhat m_testSign m_testThan m_lineAct m_lineNumber m_free m_newBerth m_newTests m_newWhat m_newSign m_newThan m_newAct m_newNumber m_has : Nat) (g1 g2 fst fkm ftk fli : Nat → Int32) (hg1 : ∀ j : Nat, j < 9 → g1 j = 1) (hg2 : ∀ j : Nat, j < 9 → g2 j = 1) (hst : fst 0 = 2) (hkm : ∀ j : Nat, j < 9 → fkm j = 1) (htk : ∀ j : Nat, j < 9 → ftk j = 1) (hP : va_P D vwCl [(x0, .inr (9, [.ref b0, .ref im, .ref tp, .ref rd])), (b0, .inr (0, [.int 0, .ref r0, .ref u0, .ref t0, .ref l0, .ref q0, .ref of, .ref sh, .ref nl, .ref fc])), (u0, .inr (5, [.int 0, .ref u1, .ref u2, .ref u3])), (r0, .inr (4, [.int 2, .ref r1, .ref r2])), (r1, .inl (cy 0, 9, .inl g1)), (r2, .inl (cy 0, 9, .inl g2)), (of, .inl (cy 0, 6, .inl (fun _ => 0))), (m0, .inr (10, [.int 0, .ref m_tape, .int 0, .ref m_stops, .ref m_km, .ref m_takes, .ref m_officeAt, .ref m_shares, .ref m_berths, .ref m_owner, .ref m_lies, .ref m_tickets, .ref m_tDay, .ref m_tBerth, .ref m_tFrom, .ref m_tTo, .ref m_tOffice, .ref m_tBack, .ref m_letters, .ref m_lComes, .ref m_lAnswer, .ref m_lOffice, .ref m_lDay, .ref m_lFrom, .ref m_lTo, .ref m_lTicket, .ref m_now, .ref m_lines, .ref m_lineTests, .ref m_testWhat, .ref m_testSign, .ref m_testThan, .ref m_lineAct, .ref m_lineNumber, .ref m_free, .ref m_newBerth, .int 0, .int 0, .int 0, .int 0, .int 0, .long 0, .int 0, .int (-1), .int 0, .int 0, .ref m_newTests, .ref m_newWhat, .ref m_newSign, .ref m_newThan, .ref m_newAct, .ref m_newNumber, .ref m_has])), (m_berths, .inl (cy 0, 240, .inl (fun _ => 0))), (m_stops, .inl (cy 0, 4, .inl fst)), (m_km, .inl (cy 0, 36, .inl fkm)), (m_takes, .inl (cy 0, 36, .inl ftk)), (m_officeAt, .inl (cy 0, 24, .inl (fun _ => 0)))] H) (hD : va_D A [(x0, .inr (9, [.ref b0, .ref im, .ref tp, .ref rd])), (b0, .inr (0, [.int 0, .ref r0, .ref u0, .ref t0, .ref l0, .ref q0, .ref of, .ref sh, .ref nl, .ref fc])), (u0, .inr (5, [.int 0, .ref u1, .ref u2, .ref u3])), (r0, .inr (4, [.int 2, .ref r1, .ref r2])), (r1, .inl (cy 0, 9, .inl g1)), (r2, .inl (cy 0, 9, .inl g2)), (of, .inl (cy 0, 6, .inl (fun _ => 0))), (m0, .inr (10, [.int 0, .ref m_tape, .int 0, .ref m_stops, .ref m_km, .ref m_takes, .ref m_officeAt, .ref m_shares, .ref m_berths, .ref m_owner, .ref m_lies, .ref m_tickets, .ref m_tDay, .ref m_tBerth, .ref m_tFrom, .ref m_tTo, .ref m_tOffice, .ref m_tBack, .ref m_letters, .ref m_lComes, .ref m_lAnswer, .ref m_lOffice, .ref m_lDay, .ref m_lFrom, .ref m_lTo, .ref m_lTicket, .ref m_now, .ref m_lines, .ref m_lineTests, .ref m_testWhat, .ref m_testSign, .ref m_testThan, .ref m_lineAct, .ref m_lineNumber, .ref m_free, .ref m_newBerth, .int 0, .int 0, .int 0, .int 0, .int 0, .long 0, .int 0, .int (-1), .int 0, .int 0, .ref m_newTests, .ref m_newWhat, .ref m_newSign, .ref m_newThan, .ref m_newAct, .ref m_newNumber, .ref m_has])), (m_berths, .inl (cy 0, 240, .inl (fun _ => 0))), (m_stops, .inl (cy 0, 4, .inl fst)), (m_km, .inl (cy 0, 36, .inl fkm)), (m_takes, .inl (cy 0, 36, .inl ftk)), (m_officeAt, .inl (cy 0, 24, .inl (fun _ => 0)))]) (hS : va_S A s.heap H locs) (ls : Array Slot) (hl : lv_has ls 4 [(3, .int 0), (2, .ref m0), (1, .ref x0), (0, .ref b)]) : W p l e room_1 s m #[Value.ref b] below meth c H locs 94 42452 (lw_Z below #[Value.ref b] s) (F0 m 144 ls []) := by
  obtain ⟨hx, hb, hr, hml, hown, hts0, hX, hbl, hlocks, hgv⟩ := id C0
  have hown : s.vm.findClass RL = some m.cls := hown
  have hts : ∀ w ∈ wsL_law, w.before #[Value.ref b] s = true := fun w h => hts0 w (wsL_law_in w h)
  have hbA : ¬ A b := fun h => absurd (hAA b h) (Nat.not_le.mpr hbl)
  obtain ⟨v1, ev1⟩ : ∃ v : Int32, v = xs (1 : Int32).toNatClampNeg := ⟨_, rfl⟩
  obtain ⟨v2, ev2⟩ : ∃ v : Int32, v = xs (2 : Int32).toNatClampNeg := ⟨_, rfl⟩
  obtain ⟨v3, ev3⟩ : ∃ v : Int32, v = xs (3 : Int32).toNatClampNeg := ⟨_, rfl⟩
  obtain ⟨v4, ev4⟩ : ∃ v : Int32, v = xs (4 : Int32).toNatClampNeg := ⟨_, rfl⟩
  obtain ⟨v5, ev5⟩ : ∃ v : Int32, v = xs (5 : Int32).toNatClampNeg := ⟨_, rfl⟩
  have w_0 := hts0 (.instanceMethod yX9_line) (List.mem_of_getElem? (i := 364) (by decide +kernel))
  have w_1 := hts0 (.instanceMethod yX10_line) (List.mem_of_getElem? (i := 1039) (by decide +kernel))
  refine lv_aload_n hx hb dL_law_144 rfl (lv_at hl 2 rfl) ?_
  refine lv_aload_n hx hb dL_law_145 rfl (lv_at hl 3 rfl) ?_
  refine lv_iload_n hx hb dL_law_146 rfl (lv_at hl 0 rfl) ?_
  refine lv_iconst (v := 1) hx hb dL_law_147 (by decide) ?_
  refine lv_iadd hx hb dL_law_148 ?_
  refine lv_topi (fun x148 ex148 => ?_)
  obtain rfl : x148 = 1 := ex148.trans (by decide)
  refine va_sld hx hb hX hbl hbA hS (q_in (a := 1) (by decide) (by decide) (by decide)) dL_law_149 ?_
  refine lv_topi (fun x149 ex149 => ?_)
  obtain rfl : v1 = x149 := ev1.trans ex149.symm
  refine k_i (va_runV (As := [.int v1]) (rest := []) ⟨hx, hb, hml, hown, hts⟩ (c_X9_line l D cy x0 b0 im tp rd r0 u0 t0 l0 q0 of sh nl fc u1 u2 u3 r1 r2 g1 g2 v1 H.size ) (cwV 1 hts gL_law_X9_line rfl rfl rfl (by decide +kernel) ⟨Nat.le_of_ble_eq_true rfl, Nat.le_of_ble_eq_true rfl⟩) (cp_v hK hN hP hD [0, 1, 2, 3, 4, 5, 6] rfl (by decide) (ci := 9) rfl rfl rfl) rfl rfl hl.1 rfl (lv_room (Nat.le_of_ble_eq_true rfl)) dL_law_150 ⟨Nat.le_of_ble_eq_true rfl, Nat.le_of_ble_eq_true rfl⟩) hP hD hS hA [0, 1, 2, 3, 4, 5, 6] [7, 8, 9, 10, 11, 12] (wr := [(m0, .inr (10, [.int 0, .ref m_tape, .int 0, .ref m_stops, .ref m_km, .ref m_takes, .ref m_officeAt, .ref m_shares, .ref m_berths, .ref m_owner, .ref m_lies, .ref m_tickets, .ref m_tDay, .ref m_tBerth, .ref m_tFrom, .ref m_tTo, .ref m_tOffice, .ref m_tBack, .ref m_letters, .ref m_lComes, .ref m_lAnswer, .ref m_lOffice, .ref m_lDay, .ref m_lFrom, .ref m_lTo, .ref m_lTicket, .ref m_now, .ref m_lines, .ref m_lineTests, .ref m_testWhat, .ref m_testSign, .ref m_testThan, .ref m_lineAct, .ref m_lineNumber, .ref m_free, .ref m_newBerth, .int 0, .int 0, .int 0, .int 0, .int 0, .long 0, .int 0, .int (-1), .int 0, .int 0, .ref m_newTests, .ref m_newWhat, .ref m_newSign, .ref m_newThan, .ref m_newAct, .ref m_newNumber, .ref m_has])), (m_berths, .inl (cy 0, 240, .inl (fun _ => 0))), (m_stops, .inl (cy 0, 4, .inl fst)), (m_km, .inl (cy 0, 36, .inl fkm)), (m_takes, .inl (cy 0, 36, .inl ftk)), (m_officeAt, .inl (cy 0, 24, .inl (fun _ => 0)))]) rfl rfl (by decide) (by decide) (fun r150 u_r150 H locs hw150 hP hD hS => ?_)
  try dsimp only at hw150
  have hP : va_P D vwCl [(m0, .inr (10, [.int 0, .ref m_tape, .int 0, .ref m_stops, .ref m_km, .ref m_takes, .ref m_officeAt, .ref m_shares, .ref m_berths, .ref m_owner, .ref m_lies, .ref m_tickets, .ref m_tDay, .ref m_tBerth, .ref m_tFrom, .ref m_tTo, .ref m_tOffice, .ref m_tBack, .ref m_letters, .ref m_lComes, .ref m_lAnswer, .ref m_lOffice, .ref m_lDay, .ref m_lFrom, .ref m_lTo, .ref m_lTicket, .ref m_now, .ref m_lines, .ref m_lineTests, .ref m_testWhat, .ref m_testSign, .ref m_testThan, .ref m_lineAct, .ref m_lineNumber, .ref m_free, .ref m_newBerth, .int 0, .int 0, .int 0, .int 0, .int 0, .long 0, .int 0, .int (-1), .int 0, .int 0, .ref m_newTests, .ref m_newWhat, .ref m_newSign, .ref m_newThan, .ref m_newAct, .ref m_newNumber, .ref m_has])), (m_berths, .inl (cy 0, 240, .inl (fun _ => 0))), (m_stops, .inl (cy 0, 4, .inl fst)), (m_km, .inl (cy 0, 36, .inl fkm)), (m_takes, .inl (cy 0, 36, .inl ftk)), (m_officeAt, .inl (cy 0, 24, .inl (fun _ => 0)))] H := hP
  have hD : va_D A [(m0, .inr (10, [.int 0, .ref m_tape, .int 0, .ref m_stops, .ref m_km, .ref m_takes, .ref m_officeAt, .ref m_shares, .ref m_berths, .ref m_owner, .ref m_lies, .ref m_tickets, .ref m_tDay, .ref m_tBerth, .ref m_tFrom, .ref m_tTo, .ref m_tOffice, .ref m_tBack, .ref m_letters, .ref m_lComes, .ref m_lAnswer, .ref m_lOffice, .ref m_lDay, .ref m_lFrom, .ref m_lTo, .ref m_lTicket, .ref m_now, .ref m_lines, .ref m_lineTests, .ref m_testWhat, .ref m_testSign, .ref m_testThan, .ref m_lineAct, .ref m_lineNumber, .ref m_free, .ref m_newBerth, .int 0, .int 0, .int 0, .int 0, .int 0, .long 0, .int 0, .int (-1), .int 0, .int 0, .ref m_newTests, .ref m_newWhat, .ref m_newSign, .ref m_newThan, .ref m_newAct, .ref m_newNumber, .ref m_has])), (m_berths, .inl (cy 0, 240, .inl (fun _ => 0))), (m_stops, .inl (cy 0, 4, .inl fst)), (m_km, .inl (cy 0, 36, .inl fkm)), (m_takes, .inl (cy 0, 36, .inl ftk)), (m_officeAt, .inl (cy 0, 24, .inl (fun _ => 0)))] := hD
  refine lv_aload_n hx hb dL_law_153 rfl (lv_at hl 1 rfl) ?_
  refine lv_aload_n hx hb dL_law_154 rfl (lv_at hl 3 rfl) ?_
  refine lv_iload_n hx hb dL_law_155 rfl (lv_at hl 0 rfl) ?_
  refine lv_iconst (v := 1) hx hb dL_law_156 (by decide) ?_
  refine lv_iadd hx hb dL_law_157 ?_
  refine lv_topi (fun x157 ex157 => ?_)
  obtain rfl : x157 = 1 := ex157.trans (by decide)
  refine va_sld hx hb hX hbl hbA hS (q_in (a := 1) (by decide) (by decide) (by decide)) dL_law_158 ?_
  refine lv_topi (fun x158 ex158 => ?_)
  obtain rfl : v1 = x158 := ev1.trans ex158.symm
  refine k_i (va_runV (As := [.int v1]) (rest := [.int r150]) ⟨hx, hb, hml, hown, hts⟩ (c_X10_line l D cy m0 m_tape m_stops m_km m_takes m_officeAt m_shares m_berths m_owner m_lies m_tickets m_tDay m_tBerth m_tFrom m_tTo m_tOffice m_tBack m_letters m_lComes m_lAnswer m_lOffice m_lDay m_lFrom m_lTo m_lTicket m_now m_lines m_lineTests m_testWhat m_testSign m_testThan m_lineAct m_lineNumber m_free m_newBerth m_newTests m_newWhat m_newSign m_newThan m_newAct m_newNumber m_has fst fkm ftk v1 H.size hst) (cwV 1 hts gL_law_X10_line rfl rfl rfl (by decide +kernel) ⟨Nat.le_of_ble_eq_true rfl, Nat.le_of_ble_eq_true rfl⟩) (cp_v hK hN hP hD [0, 1, 2, 3, 4, 5] rfl (by decide) (ci := 10) rfl rfl rfl) rfl rfl hl.1 rfl (lv_room (Nat.le_of_ble_eq_true rfl)) dL_law_159 ⟨Nat.le_of_ble_eq_true rfl, Nat.le_of_ble_eq_true rfl⟩) hP hD hS hA [0, 1, 2, 3, 4, 5] [] (wr := []) rfl rfl (by decide) (by decide) (fun r159 u_r159 H locs hw159 hP hD hS => ?_)
  try dsimp only at hw159
  have hP : va_P D vwCl [] H := hP
  have hD : va_D A [] := hD
  refine lv_icmp_eq (tgt := 947) hx hb dL_law_162 (by decide) (fun c162 => ?_) (fun c162 => ?_)
  · skip
    have fc162 := q_eq (a := r150.toInt) (b := r159.toInt) c162 rfl rfl
    exact law_tail C0 hA hAA (by decide) (by decide) hS ls (lv_sub hl [0, 3] rfl)
  · skip
    have fc162 := q_ne (a := r150.toInt) (b := r159.toInt) c162 rfl rfl
    exfalso; omega
set_option maxHeartbeats 4000000 in
set_option maxRecDepth 100000 in
theorem law_1 {p : Program} {e : Env} {s : State} {m : MethodId} {below : List Frame} {meth : Method} {c : Code} {l : Launch} {b : Nat} {xs : Nat → Int32} {A : Nat → Prop} {H : Heap} {locs : List Loc} {D : va_G} {cy : Nat → ClassId} (C0 : lw_At p s m meth c b 6 xs) (hA : ∀ q : Nat, s.heap.size ≤ q → A q) (hAA : ∀ q : Nat, A q → s.heap.size ≤ q) (hK : va_K D vwCl (tyL cy) s) (hN : NW s) (x0 b0 im tp rd r0 u0 t0 l0 q0 of sh nl fc u1 u2 u3 r1 r2 m0 m_tape m_stops m_km m_takes m_officeAt m_shares m_berths m_owner m_lies m_tickets m_tDay m_tBerth m_tFrom m_tTo m_tOffice m_tBack m_letters m_lComes m_lAnswer m_lOffice m_lDay m_lFrom m_lTo m_lTicket m_now m_lines m_lineTests m_testWhat m_testSign m_testThan m_lineAct m_lineNumber m_free m_newBerth m_newTests m_newWhat m_newSign m_newThan m_newAct m_newNumber m_has : Nat) (g1 g2 fst fkm ftk fli : Nat → Int32) (hg1 : ∀ j : Nat, j < 9 → g1 j = 1) (hg2 : ∀ j : Nat, j < 9 → g2 j = 1) (hst : fst 0 = 2) (hkm : ∀ j : Nat, j < 9 → fkm j = 1) (htk : ∀ j : Nat, j < 9 → ftk j = 1) (hP : va_P D vwCl [(x0, .inr (9, [.ref b0, .ref im, .ref tp, .ref rd])), (b0, .inr (0, [.int 0, .ref r0, .ref u0, .ref t0, .ref l0, .ref q0, .ref of, .ref sh, .ref nl, .ref fc])), (u0, .inr (5, [.int 0, .ref u1, .ref u2, .ref u3])), (r0, .inr (4, [.int 2, .ref r1, .ref r2])), (r1, .inl (cy 0, 9, .inl g1)), (r2, .inl (cy 0, 9, .inl g2)), (m0, .inr (10, [.int 0, .ref m_tape, .int 0, .ref m_stops, .ref m_km, .ref m_takes, .ref m_officeAt, .ref m_shares, .ref m_berths, .ref m_owner, .ref m_lies, .ref m_tickets, .ref m_tDay, .ref m_tBerth, .ref m_tFrom, .ref m_tTo, .ref m_tOffice, .ref m_tBack, .ref m_letters, .ref m_lComes, .ref m_lAnswer, .ref m_lOffice, .ref m_lDay, .ref m_lFrom, .ref m_lTo, .ref m_lTicket, .ref m_now, .ref m_lines, .ref m_lineTests, .ref m_testWhat, .ref m_testSign, .ref m_testThan, .ref m_lineAct, .ref m_lineNumber, .ref m_free, .ref m_newBerth, .int 0, .int 0, .int 0, .int 0, .int 0, .long 0, .int 0, .int (-1), .int 0, .int 0, .ref m_newTests, .ref m_newWhat, .ref m_newSign, .ref m_newThan, .ref m_newAct, .ref m_newNumber, .ref m_has])), (m_berths, .inl (cy 0, 240, .inl (fun _ => 0))), (m_stops, .inl (cy 0, 4, .inl fst)), (m_km, .inl (cy 0, 36, .inl fkm)), (m_takes, .inl (cy 0, 36, .inl ftk))] H) (hD : va_D A [(x0, .inr (9, [.ref b0, .ref im, .ref tp, .ref rd])), (b0, .inr (0, [.int 0, .ref r0, .ref u0, .ref t0, .ref l0, .ref q0, .ref of, .ref sh, .ref nl, .ref fc])), (u0, .inr (5, [.int 0, .ref u1, .ref u2, .ref u3])), (r0, .inr (4, [.int 2, .ref r1, .ref r2])), (r1, .inl (cy 0, 9, .inl g1)), (r2, .inl (cy 0, 9, .inl g2)), (m0, .inr (10, [.int 0, .ref m_tape, .int 0, .ref m_stops, .ref m_km, .ref m_takes, .ref m_officeAt, .ref m_shares, .ref m_berths, .ref m_owner, .ref m_lies, .ref m_tickets, .ref m_tDay, .ref m_tBerth, .ref m_tFrom, .ref m_tTo, .ref m_tOffice, .ref m_tBack, .ref m_letters, .ref m_lComes, .ref m_lAnswer, .ref m_lOffice, .ref m_lDay, .ref m_lFrom, .ref m_lTo, .ref m_lTicket, .ref m_now, .ref m_lines, .ref m_lineTests, .ref m_testWhat, .ref m_testSign, .ref m_testThan, .ref m_lineAct, .ref m_lineNumber, .ref m_free, .ref m_newBerth, .int 0, .int 0, .int 0, .int 0, .int 0, .long 0, .int 0, .int (-1), .int 0, .int 0, .ref m_newTests, .ref m_newWhat, .ref m_newSign, .ref m_newThan, .ref m_newAct, .ref m_newNumber, .ref m_has])), (m_berths, .inl (cy 0, 240, .inl (fun _ => 0))), (m_stops, .inl (cy 0, 4, .inl fst)), (m_km, .inl (cy 0, 36, .inl fkm)), (m_takes, .inl (cy 0, 36, .inl ftk))]) (hS : va_S A s.heap H locs) (ls : Array Slot) (hl : lv_has ls 4 [(3, .int 0), (2, .ref m0), (1, .ref x0), (0, .ref b)]) : W p l e room_1 s m #[Value.ref b] below meth c H locs 94 42452 (lw_Z below #[Value.ref b] s) (F0 m 167 ls []) := by
  obtain ⟨hx, hb, hr, hml, hown, hts0, hX, hbl, hlocks, hgv⟩ := id C0
  have hown : s.vm.findClass RL = some m.cls := hown
  have hts : ∀ w ∈ wsL_law, w.before #[Value.ref b] s = true := fun w h => hts0 w (wsL_law_in w h)
  have hbA : ¬ A b := fun h => absurd (hAA b h) (Nat.not_le.mpr hbl)
  obtain ⟨v1, ev1⟩ : ∃ v : Int32, v = xs (1 : Int32).toNatClampNeg := ⟨_, rfl⟩
  obtain ⟨v2, ev2⟩ : ∃ v : Int32, v = xs (2 : Int32).toNatClampNeg := ⟨_, rfl⟩
  obtain ⟨v3, ev3⟩ : ∃ v : Int32, v = xs (3 : Int32).toNatClampNeg := ⟨_, rfl⟩
  obtain ⟨v4, ev4⟩ : ∃ v : Int32, v = xs (4 : Int32).toNatClampNeg := ⟨_, rfl⟩
  obtain ⟨v5, ev5⟩ : ∃ v : Int32, v = xs (5 : Int32).toNatClampNeg := ⟨_, rfl⟩
  have w_0 := hts0 (.instanceMethod yX9_stretch) (List.mem_of_getElem? (i := 370) (by decide +kernel))
  have w_1 := hts0 (.instanceMethod yX10_stretch) (List.mem_of_getElem? (i := 1050) (by decide +kernel))
  refine lv_aload_n hx hb dL_law_167 rfl (lv_at hl 2 rfl) ?_
  refine lv_aload_n hx hb dL_law_168 rfl (lv_at hl 3 rfl) ?_
  refine lv_iload_n hx hb dL_law_169 rfl (lv_at hl 0 rfl) ?_
  refine lv_iconst (v := 1) hx hb dL_law_170 (by decide) ?_
  refine lv_iadd hx hb dL_law_171 ?_
  refine lv_topi (fun x171 ex171 => ?_)
  obtain rfl : x171 = 1 := ex171.trans (by decide)
  refine va_sld hx hb hX hbl hbA hS (q_in (a := 1) (by decide) (by decide) (by decide)) dL_law_172 ?_
  refine lv_topi (fun x172 ex172 => ?_)
  obtain rfl : v1 = x172 := ev1.trans ex172.symm
  refine lv_aload_n hx hb dL_law_173 rfl (lv_at hl 3 rfl) ?_
  refine lv_iload_n hx hb dL_law_174 rfl (lv_at hl 0 rfl) ?_
  refine lv_iconst (v := 2) hx hb dL_law_175 (by decide) ?_
  refine lv_iadd hx hb dL_law_176 ?_
  refine lv_topi (fun x176 ex176 => ?_)
  obtain rfl : x176 = 2 := ex176.trans (by decide)
  refine va_sld hx hb hX hbl hbA hS (q_in (a := 2) (by decide) (by decide) (by decide)) dL_law_177 ?_
  refine lv_topi (fun x177 ex177 => ?_)
  obtain rfl : v2 = x177 := ev2.trans ex177.symm
  refine lv_aload_n hx hb dL_law_178 rfl (lv_at hl 3 rfl) ?_
  refine lv_iload_n hx hb dL_law_179 rfl (lv_at hl 0 rfl) ?_
  refine lv_iconst (v := 3) hx hb dL_law_180 (by decide) ?_
  refine lv_iadd hx hb dL_law_181 ?_
  refine lv_topi (fun x181 ex181 => ?_)
  obtain rfl : x181 = 3 := ex181.trans (by decide)
  refine va_sld hx hb hX hbl hbA hS (q_in (a := 3) (by decide) (by decide) (by decide)) dL_law_182 ?_
  refine lv_topi (fun x182 ex182 => ?_)
  obtain rfl : v3 = x182 := ev3.trans ex182.symm
  refine k_i (va_runV (As := [.int v1, .int v2, .int v3]) (rest := []) ⟨hx, hb, hml, hown, hts⟩ (c_X9_stretch l D cy x0 b0 im tp rd r0 u0 t0 l0 q0 of sh nl fc u1 u2 u3 r1 r2 g1 g2 v1 v2 v3 H.size ) (cwV 3 hts gL_law_X9_stretch rfl rfl rfl (by decide +kernel) ⟨Nat.le_of_ble_eq_true rfl, Nat.le_of_ble_eq_true rfl⟩) (cp_v hK hN hP hD [0, 1, 2, 3, 4, 5] rfl (by decide) (ci := 9) rfl rfl rfl) rfl rfl hl.1 rfl (lv_room (Nat.le_of_ble_eq_true rfl)) dL_law_183 ⟨Nat.le_of_ble_eq_true rfl, Nat.le_of_ble_eq_true rfl⟩) hP hD hS hA [0, 1, 2, 3, 4, 5] [6, 7, 8, 9, 10] (wr := [(m0, .inr (10, [.int 0, .ref m_tape, .int 0, .ref m_stops, .ref m_km, .ref m_takes, .ref m_officeAt, .ref m_shares, .ref m_berths, .ref m_owner, .ref m_lies, .ref m_tickets, .ref m_tDay, .ref m_tBerth, .ref m_tFrom, .ref m_tTo, .ref m_tOffice, .ref m_tBack, .ref m_letters, .ref m_lComes, .ref m_lAnswer, .ref m_lOffice, .ref m_lDay, .ref m_lFrom, .ref m_lTo, .ref m_lTicket, .ref m_now, .ref m_lines, .ref m_lineTests, .ref m_testWhat, .ref m_testSign, .ref m_testThan, .ref m_lineAct, .ref m_lineNumber, .ref m_free, .ref m_newBerth, .int 0, .int 0, .int 0, .int 0, .int 0, .long 0, .int 0, .int (-1), .int 0, .int 0, .ref m_newTests, .ref m_newWhat, .ref m_newSign, .ref m_newThan, .ref m_newAct, .ref m_newNumber, .ref m_has])), (m_berths, .inl (cy 0, 240, .inl (fun _ => 0))), (m_stops, .inl (cy 0, 4, .inl fst)), (m_km, .inl (cy 0, 36, .inl fkm)), (m_takes, .inl (cy 0, 36, .inl ftk))]) rfl rfl (by decide) (by decide) (fun r183 u_r183 H locs hw183 hP hD hS => ?_)
  try dsimp only at hw183
  have hP : va_P D vwCl [(m0, .inr (10, [.int 0, .ref m_tape, .int 0, .ref m_stops, .ref m_km, .ref m_takes, .ref m_officeAt, .ref m_shares, .ref m_berths, .ref m_owner, .ref m_lies, .ref m_tickets, .ref m_tDay, .ref m_tBerth, .ref m_tFrom, .ref m_tTo, .ref m_tOffice, .ref m_tBack, .ref m_letters, .ref m_lComes, .ref m_lAnswer, .ref m_lOffice, .ref m_lDay, .ref m_lFrom, .ref m_lTo, .ref m_lTicket, .ref m_now, .ref m_lines, .ref m_lineTests, .ref m_testWhat, .ref m_testSign, .ref m_testThan, .ref m_lineAct, .ref m_lineNumber, .ref m_free, .ref m_newBerth, .int 0, .int 0, .int 0, .int 0, .int 0, .long 0, .int 0, .int (-1), .int 0, .int 0, .ref m_newTests, .ref m_newWhat, .ref m_newSign, .ref m_newThan, .ref m_newAct, .ref m_newNumber, .ref m_has])), (m_berths, .inl (cy 0, 240, .inl (fun _ => 0))), (m_stops, .inl (cy 0, 4, .inl fst)), (m_km, .inl (cy 0, 36, .inl fkm)), (m_takes, .inl (cy 0, 36, .inl ftk))] H := hP
  have hD : va_D A [(m0, .inr (10, [.int 0, .ref m_tape, .int 0, .ref m_stops, .ref m_km, .ref m_takes, .ref m_officeAt, .ref m_shares, .ref m_berths, .ref m_owner, .ref m_lies, .ref m_tickets, .ref m_tDay, .ref m_tBerth, .ref m_tFrom, .ref m_tTo, .ref m_tOffice, .ref m_tBack, .ref m_letters, .ref m_lComes, .ref m_lAnswer, .ref m_lOffice, .ref m_lDay, .ref m_lFrom, .ref m_lTo, .ref m_lTicket, .ref m_now, .ref m_lines, .ref m_lineTests, .ref m_testWhat, .ref m_testSign, .ref m_testThan, .ref m_lineAct, .ref m_lineNumber, .ref m_free, .ref m_newBerth, .int 0, .int 0, .int 0, .int 0, .int 0, .long 0, .int 0, .int (-1), .int 0, .int 0, .ref m_newTests, .ref m_newWhat, .ref m_newSign, .ref m_newThan, .ref m_newAct, .ref m_newNumber, .ref m_has])), (m_berths, .inl (cy 0, 240, .inl (fun _ => 0))), (m_stops, .inl (cy 0, 4, .inl fst)), (m_km, .inl (cy 0, 36, .inl fkm)), (m_takes, .inl (cy 0, 36, .inl ftk))] := hD
  refine lv_aload_n hx hb dL_law_186 rfl (lv_at hl 1 rfl) ?_
  refine lv_aload_n hx hb dL_law_187 rfl (lv_at hl 3 rfl) ?_
  refine lv_iload_n hx hb dL_law_188 rfl (lv_at hl 0 rfl) ?_
  refine lv_iconst (v := 1) hx hb dL_law_189 (by decide) ?_
  refine lv_iadd hx hb dL_law_190 ?_
  refine lv_topi (fun x190 ex190 => ?_)
  obtain rfl : x190 = 1 := ex190.trans (by decide)
  refine va_sld hx hb hX hbl hbA hS (q_in (a := 1) (by decide) (by decide) (by decide)) dL_law_191 ?_
  refine lv_topi (fun x191 ex191 => ?_)
  obtain rfl : v1 = x191 := ev1.trans ex191.symm
  refine lv_aload_n hx hb dL_law_192 rfl (lv_at hl 3 rfl) ?_
  refine lv_iload_n hx hb dL_law_193 rfl (lv_at hl 0 rfl) ?_
  refine lv_iconst (v := 2) hx hb dL_law_194 (by decide) ?_
  refine lv_iadd hx hb dL_law_195 ?_
  refine lv_topi (fun x195 ex195 => ?_)
  obtain rfl : x195 = 2 := ex195.trans (by decide)
  refine va_sld hx hb hX hbl hbA hS (q_in (a := 2) (by decide) (by decide) (by decide)) dL_law_196 ?_
  refine lv_topi (fun x196 ex196 => ?_)
  obtain rfl : v2 = x196 := ev2.trans ex196.symm
  refine lv_aload_n hx hb dL_law_197 rfl (lv_at hl 3 rfl) ?_
  refine lv_iload_n hx hb dL_law_198 rfl (lv_at hl 0 rfl) ?_
  refine lv_iconst (v := 3) hx hb dL_law_199 (by decide) ?_
  refine lv_iadd hx hb dL_law_200 ?_
  refine lv_topi (fun x200 ex200 => ?_)
  obtain rfl : x200 = 3 := ex200.trans (by decide)
  refine va_sld hx hb hX hbl hbA hS (q_in (a := 3) (by decide) (by decide) (by decide)) dL_law_201 ?_
  refine lv_topi (fun x201 ex201 => ?_)
  obtain rfl : v3 = x201 := ev3.trans ex201.symm
  refine k_i (va_runV (As := [.int v1, .int v2, .int v3]) (rest := [.int r183]) ⟨hx, hb, hml, hown, hts⟩ (c_X10_stretch l D cy m0 m_tape m_stops m_km m_takes m_officeAt m_shares m_berths m_owner m_lies m_tickets m_tDay m_tBerth m_tFrom m_tTo m_tOffice m_tBack m_letters m_lComes m_lAnswer m_lOffice m_lDay m_lFrom m_lTo m_lTicket m_now m_lines m_lineTests m_testWhat m_testSign m_testThan m_lineAct m_lineNumber m_free m_newBerth m_newTests m_newWhat m_newSign m_newThan m_newAct m_newNumber m_has fst fkm ftk v1 v2 v3 H.size hst) (cwV 3 hts gL_law_X10_stretch rfl rfl rfl (by decide +kernel) ⟨Nat.le_of_ble_eq_true rfl, Nat.le_of_ble_eq_true rfl⟩) (cp_v hK hN hP hD [0, 1, 2, 3, 4] rfl (by decide) (ci := 10) rfl rfl rfl) rfl rfl hl.1 rfl (lv_room (Nat.le_of_ble_eq_true rfl)) dL_law_202 ⟨Nat.le_of_ble_eq_true rfl, Nat.le_of_ble_eq_true rfl⟩) hP hD hS hA [0, 1, 2, 3, 4] [] (wr := []) rfl rfl (by decide) (by decide) (fun r202 u_r202 H locs hw202 hP hD hS => ?_)
  try dsimp only at hw202
  have hP : va_P D vwCl [] H := hP
  have hD : va_D A [] := hD
  refine lv_icmp_eq (tgt := 947) hx hb dL_law_205 (by decide) (fun c205 => ?_) (fun c205 => ?_)
  · skip
    have fc205 := q_eq (a := r183.toInt) (b := r202.toInt) c205 rfl rfl
    exact law_tail C0 hA hAA (by decide) (by decide) hS ls (lv_sub hl [0, 3] rfl)
  · skip
    have fc205 := q_ne (a := r183.toInt) (b := r202.toInt) c205 rfl rfl
    exfalso; omega
set_option maxHeartbeats 4000000 in
set_option maxRecDepth 100000 in
theorem law_2 {p : Program} {e : Env} {s : State} {m : MethodId} {below : List Frame} {meth : Method} {c : Code} {l : Launch} {b : Nat} {xs : Nat → Int32} {A : Nat → Prop} {H : Heap} {locs : List Loc} {D : va_G} {cy : Nat → ClassId} (C0 : lw_At p s m meth c b 6 xs) (hA : ∀ q : Nat, s.heap.size ≤ q → A q) (hAA : ∀ q : Nat, A q → s.heap.size ≤ q) (hK : va_K D vwCl (tyL cy) s) (hN : NW s) (x0 b0 im tp rd r0 u0 t0 l0 q0 of sh nl fc u1 u2 u3 r1 r2 m0 m_tape m_stops m_km m_takes m_officeAt m_shares m_berths m_owner m_lies m_tickets m_tDay m_tBerth m_tFrom m_tTo m_tOffice m_tBack m_letters m_lComes m_lAnswer m_lOffice m_lDay m_lFrom m_lTo m_lTicket m_now m_lines m_lineTests m_testWhat m_testSign m_testThan m_lineAct m_lineNumber m_free m_newBerth m_newTests m_newWhat m_newSign m_newThan m_newAct m_newNumber m_has : Nat) (g1 g2 fst fkm ftk fli : Nat → Int32) (hg1 : ∀ j : Nat, j < 9 → g1 j = 1) (hg2 : ∀ j : Nat, j < 9 → g2 j = 1) (hst : fst 0 = 2) (hkm : ∀ j : Nat, j < 9 → fkm j = 1) (htk : ∀ j : Nat, j < 9 → ftk j = 1) (hP : va_P D vwCl [(x0, .inr (9, [.ref b0, .ref im, .ref tp, .ref rd])), (b0, .inr (0, [.int 0, .ref r0, .ref u0, .ref t0, .ref l0, .ref q0, .ref of, .ref sh, .ref nl, .ref fc])), (u0, .inr (5, [.int 0, .ref u1, .ref u2, .ref u3])), (r0, .inr (4, [.int 2, .ref r1, .ref r2])), (of, .inl (cy 0, 6, .inl (fun _ => 0))), (m0, .inr (10, [.int 0, .ref m_tape, .int 0, .ref m_stops, .ref m_km, .ref m_takes, .ref m_officeAt, .ref m_shares, .ref m_berths, .ref m_owner, .ref m_lies, .ref m_tickets, .ref m_tDay, .ref m_tBerth, .ref m_tFrom, .ref m_tTo, .ref m_tOffice, .ref m_tBack, .ref m_letters, .ref m_lComes, .ref m_lAnswer, .ref m_lOffice, .ref m_lDay, .ref m_lFrom, .ref m_lTo, .ref m_lTicket, .ref m_now, .ref m_lines, .ref m_lineTests, .ref m_testWhat, .ref m_testSign, .ref m_testThan, .ref m_lineAct, .ref m_lineNumber, .ref m_free, .ref m_newBerth, .int 0, .int 0, .int 0, .int 0, .int 0, .long 0, .int 0, .int (-1), .int 0, .int 0, .ref m_newTests, .ref m_newWhat, .ref m_newSign, .ref m_newThan, .ref m_newAct, .ref m_newNumber, .ref m_has])), (m_berths, .inl (cy 0, 240, .inl (fun _ => 0))), (m_stops, .inl (cy 0, 4, .inl fst)), (m_officeAt, .inl (cy 0, 24, .inl (fun _ => 0)))] H) (hD : va_D A [(x0, .inr (9, [.ref b0, .ref im, .ref tp, .ref rd])), (b0, .inr (0, [.int 0, .ref r0, .ref u0, .ref t0, .ref l0, .ref q0, .ref of, .ref sh, .ref nl, .ref fc])), (u0, .inr (5, [.int 0, .ref u1, .ref u2, .ref u3])), (r0, .inr (4, [.int 2, .ref r1, .ref r2])), (of, .inl (cy 0, 6, .inl (fun _ => 0))), (m0, .inr (10, [.int 0, .ref m_tape, .int 0, .ref m_stops, .ref m_km, .ref m_takes, .ref m_officeAt, .ref m_shares, .ref m_berths, .ref m_owner, .ref m_lies, .ref m_tickets, .ref m_tDay, .ref m_tBerth, .ref m_tFrom, .ref m_tTo, .ref m_tOffice, .ref m_tBack, .ref m_letters, .ref m_lComes, .ref m_lAnswer, .ref m_lOffice, .ref m_lDay, .ref m_lFrom, .ref m_lTo, .ref m_lTicket, .ref m_now, .ref m_lines, .ref m_lineTests, .ref m_testWhat, .ref m_testSign, .ref m_testThan, .ref m_lineAct, .ref m_lineNumber, .ref m_free, .ref m_newBerth, .int 0, .int 0, .int 0, .int 0, .int 0, .long 0, .int 0, .int (-1), .int 0, .int 0, .ref m_newTests, .ref m_newWhat, .ref m_newSign, .ref m_newThan, .ref m_newAct, .ref m_newNumber, .ref m_has])), (m_berths, .inl (cy 0, 240, .inl (fun _ => 0))), (m_stops, .inl (cy 0, 4, .inl fst)), (m_officeAt, .inl (cy 0, 24, .inl (fun _ => 0)))]) (hS : va_S A s.heap H locs) (ls : Array Slot) (hl : lv_has ls 4 [(3, .int 0), (2, .ref m0), (1, .ref x0), (0, .ref b)]) : W p l e room_1 s m #[Value.ref b] below meth c H locs 94 42452 (lw_Z below #[Value.ref b] s) (F0 m 210 ls []) := by
  obtain ⟨hx, hb, hr, hml, hown, hts0, hX, hbl, hlocks, hgv⟩ := id C0
  have hown : s.vm.findClass RL = some m.cls := hown
  have hts : ∀ w ∈ wsL_law, w.before #[Value.ref b] s = true := fun w h => hts0 w (wsL_law_in w h)
  have hbA : ¬ A b := fun h => absurd (hAA b h) (Nat.not_le.mpr hbl)
  obtain ⟨v1, ev1⟩ : ∃ v : Int32, v = xs (1 : Int32).toNatClampNeg := ⟨_, rfl⟩
  obtain ⟨v2, ev2⟩ : ∃ v : Int32, v = xs (2 : Int32).toNatClampNeg := ⟨_, rfl⟩
  obtain ⟨v3, ev3⟩ : ∃ v : Int32, v = xs (3 : Int32).toNatClampNeg := ⟨_, rfl⟩
  obtain ⟨v4, ev4⟩ : ∃ v : Int32, v = xs (4 : Int32).toNatClampNeg := ⟨_, rfl⟩
  obtain ⟨v5, ev5⟩ : ∃ v : Int32, v = xs (5 : Int32).toNatClampNeg := ⟨_, rfl⟩
  have w_0 := hts0 (.instanceMethod yX9_office) (List.mem_of_getElem? (i := 378) (by decide +kernel))
  have w_1 := hts0 (.instanceMethod yX10_office) (List.mem_of_getElem? (i := 1054) (by decide +kernel))
  refine lv_aload_n hx hb dL_law_210 rfl (lv_at hl 2 rfl) ?_
  refine lv_aload_n hx hb dL_law_211 rfl (lv_at hl 3 rfl) ?_
  refine lv_iload_n hx hb dL_law_212 rfl (lv_at hl 0 rfl) ?_
  refine lv_iconst (v := 1) hx hb dL_law_213 (by decide) ?_
  refine lv_iadd hx hb dL_law_214 ?_
  refine lv_topi (fun x214 ex214 => ?_)
  obtain rfl : x214 = 1 := ex214.trans (by decide)
  refine va_sld hx hb hX hbl hbA hS (q_in (a := 1) (by decide) (by decide) (by decide)) dL_law_215 ?_
  refine lv_topi (fun x215 ex215 => ?_)
  obtain rfl : v1 = x215 := ev1.trans ex215.symm
  refine lv_aload_n hx hb dL_law_216 rfl (lv_at hl 3 rfl) ?_
  refine lv_iload_n hx hb dL_law_217 rfl (lv_at hl 0 rfl) ?_
  refine lv_iconst (v := 2) hx hb dL_law_218 (by decide) ?_
  refine lv_iadd hx hb dL_law_219 ?_
  refine lv_topi (fun x219 ex219 => ?_)
  obtain rfl : x219 = 2 := ex219.trans (by decide)
  refine va_sld hx hb hX hbl hbA hS (q_in (a := 2) (by decide) (by decide) (by decide)) dL_law_220 ?_
  refine lv_topi (fun x220 ex220 => ?_)
  obtain rfl : v2 = x220 := ev2.trans ex220.symm
  refine k_i (va_runV (As := [.int v1, .int v2]) (rest := []) ⟨hx, hb, hml, hown, hts⟩ (c_X9_office l D cy x0 b0 im tp rd r0 u0 t0 l0 q0 of sh nl fc u1 u2 u3 r1 r2 v1 v2 H.size ) (cwV 2 hts gL_law_X9_office rfl rfl rfl (by decide +kernel) ⟨Nat.le_of_ble_eq_true rfl, Nat.le_of_ble_eq_true rfl⟩) (cp_v hK hN hP hD [0, 1, 2, 3, 4] rfl (by decide) (ci := 9) rfl rfl rfl) rfl rfl hl.1 rfl (lv_room (Nat.le_of_ble_eq_true rfl)) dL_law_221 ⟨Nat.le_of_ble_eq_true rfl, Nat.le_of_ble_eq_true rfl⟩) hP hD hS hA [0, 1, 2, 3, 4] [5, 6, 7, 8] (wr := [(m0, .inr (10, [.int 0, .ref m_tape, .int 0, .ref m_stops, .ref m_km, .ref m_takes, .ref m_officeAt, .ref m_shares, .ref m_berths, .ref m_owner, .ref m_lies, .ref m_tickets, .ref m_tDay, .ref m_tBerth, .ref m_tFrom, .ref m_tTo, .ref m_tOffice, .ref m_tBack, .ref m_letters, .ref m_lComes, .ref m_lAnswer, .ref m_lOffice, .ref m_lDay, .ref m_lFrom, .ref m_lTo, .ref m_lTicket, .ref m_now, .ref m_lines, .ref m_lineTests, .ref m_testWhat, .ref m_testSign, .ref m_testThan, .ref m_lineAct, .ref m_lineNumber, .ref m_free, .ref m_newBerth, .int 0, .int 0, .int 0, .int 0, .int 0, .long 0, .int 0, .int (-1), .int 0, .int 0, .ref m_newTests, .ref m_newWhat, .ref m_newSign, .ref m_newThan, .ref m_newAct, .ref m_newNumber, .ref m_has])), (m_berths, .inl (cy 0, 240, .inl (fun _ => 0))), (m_stops, .inl (cy 0, 4, .inl fst)), (m_officeAt, .inl (cy 0, 24, .inl (fun _ => 0)))]) rfl rfl (by decide) (by decide) (fun r221 u_r221 H locs hw221 hP hD hS => ?_)
  try dsimp only at hw221
  have hP : va_P D vwCl [(m0, .inr (10, [.int 0, .ref m_tape, .int 0, .ref m_stops, .ref m_km, .ref m_takes, .ref m_officeAt, .ref m_shares, .ref m_berths, .ref m_owner, .ref m_lies, .ref m_tickets, .ref m_tDay, .ref m_tBerth, .ref m_tFrom, .ref m_tTo, .ref m_tOffice, .ref m_tBack, .ref m_letters, .ref m_lComes, .ref m_lAnswer, .ref m_lOffice, .ref m_lDay, .ref m_lFrom, .ref m_lTo, .ref m_lTicket, .ref m_now, .ref m_lines, .ref m_lineTests, .ref m_testWhat, .ref m_testSign, .ref m_testThan, .ref m_lineAct, .ref m_lineNumber, .ref m_free, .ref m_newBerth, .int 0, .int 0, .int 0, .int 0, .int 0, .long 0, .int 0, .int (-1), .int 0, .int 0, .ref m_newTests, .ref m_newWhat, .ref m_newSign, .ref m_newThan, .ref m_newAct, .ref m_newNumber, .ref m_has])), (m_berths, .inl (cy 0, 240, .inl (fun _ => 0))), (m_stops, .inl (cy 0, 4, .inl fst)), (m_officeAt, .inl (cy 0, 24, .inl (fun _ => 0)))] H := hP
  have hD : va_D A [(m0, .inr (10, [.int 0, .ref m_tape, .int 0, .ref m_stops, .ref m_km, .ref m_takes, .ref m_officeAt, .ref m_shares, .ref m_berths, .ref m_owner, .ref m_lies, .ref m_tickets, .ref m_tDay, .ref m_tBerth, .ref m_tFrom, .ref m_tTo, .ref m_tOffice, .ref m_tBack, .ref m_letters, .ref m_lComes, .ref m_lAnswer, .ref m_lOffice, .ref m_lDay, .ref m_lFrom, .ref m_lTo, .ref m_lTicket, .ref m_now, .ref m_lines, .ref m_lineTests, .ref m_testWhat, .ref m_testSign, .ref m_testThan, .ref m_lineAct, .ref m_lineNumber, .ref m_free, .ref m_newBerth, .int 0, .int 0, .int 0, .int 0, .int 0, .long 0, .int 0, .int (-1), .int 0, .int 0, .ref m_newTests, .ref m_newWhat, .ref m_newSign, .ref m_newThan, .ref m_newAct, .ref m_newNumber, .ref m_has])), (m_berths, .inl (cy 0, 240, .inl (fun _ => 0))), (m_stops, .inl (cy 0, 4, .inl fst)), (m_officeAt, .inl (cy 0, 24, .inl (fun _ => 0)))] := hD
  refine lv_aload_n hx hb dL_law_224 rfl (lv_at hl 1 rfl) ?_
  refine lv_aload_n hx hb dL_law_225 rfl (lv_at hl 3 rfl) ?_
  refine lv_iload_n hx hb dL_law_226 rfl (lv_at hl 0 rfl) ?_
  refine lv_iconst (v := 1) hx hb dL_law_227 (by decide) ?_
  refine lv_iadd hx hb dL_law_228 ?_
  refine lv_topi (fun x228 ex228 => ?_)
  obtain rfl : x228 = 1 := ex228.trans (by decide)
  refine va_sld hx hb hX hbl hbA hS (q_in (a := 1) (by decide) (by decide) (by decide)) dL_law_229 ?_
  refine lv_topi (fun x229 ex229 => ?_)
  obtain rfl : v1 = x229 := ev1.trans ex229.symm
  refine lv_aload_n hx hb dL_law_230 rfl (lv_at hl 3 rfl) ?_
  refine lv_iload_n hx hb dL_law_231 rfl (lv_at hl 0 rfl) ?_
  refine lv_iconst (v := 2) hx hb dL_law_232 (by decide) ?_
  refine lv_iadd hx hb dL_law_233 ?_
  refine lv_topi (fun x233 ex233 => ?_)
  obtain rfl : x233 = 2 := ex233.trans (by decide)
  refine va_sld hx hb hX hbl hbA hS (q_in (a := 2) (by decide) (by decide) (by decide)) dL_law_234 ?_
  refine lv_topi (fun x234 ex234 => ?_)
  obtain rfl : v2 = x234 := ev2.trans ex234.symm
  refine k_i (va_runV (As := [.int v1, .int v2]) (rest := [.int r221]) ⟨hx, hb, hml, hown, hts⟩ (c_X10_office l D cy m0 m_tape m_stops m_km m_takes m_officeAt m_shares m_berths m_owner m_lies m_tickets m_tDay m_tBerth m_tFrom m_tTo m_tOffice m_tBack m_letters m_lComes m_lAnswer m_lOffice m_lDay m_lFrom m_lTo m_lTicket m_now m_lines m_lineTests m_testWhat m_testSign m_testThan m_lineAct m_lineNumber m_free m_newBerth m_newTests m_newWhat m_newSign m_newThan m_newAct m_newNumber m_has fst v1 v2 H.size hst) (cwV 2 hts gL_law_X10_office rfl rfl rfl (by decide +kernel) ⟨Nat.le_of_ble_eq_true rfl, Nat.le_of_ble_eq_true rfl⟩) (cp_v hK hN hP hD [0, 1, 2, 3] rfl (by decide) (ci := 10) rfl rfl rfl) rfl rfl hl.1 rfl (lv_room (Nat.le_of_ble_eq_true rfl)) dL_law_235 ⟨Nat.le_of_ble_eq_true rfl, Nat.le_of_ble_eq_true rfl⟩) hP hD hS hA [0, 1, 2, 3] [] (wr := []) rfl rfl (by decide) (by decide) (fun r235 u_r235 H locs hw235 hP hD hS => ?_)
  try dsimp only at hw235
  have hP : va_P D vwCl [] H := hP
  have hD : va_D A [] := hD
  refine lv_icmp_eq (tgt := 947) hx hb dL_law_238 (by decide) (fun c238 => ?_) (fun c238 => ?_)
  · skip
    have fc238 := q_eq (a := r221.toInt) (b := r235.toInt) c238 rfl rfl
    exact law_tail C0 hA hAA (by decide) (by decide) hS ls (lv_sub hl [0, 3] rfl)
  · skip
    have fc238 := q_ne (a := r221.toInt) (b := r235.toInt) c238 rfl rfl
    exfalso; omega
set_option maxHeartbeats 4000000 in
set_option maxRecDepth 100000 in
theorem law_3 {p : Program} {e : Env} {s : State} {m : MethodId} {below : List Frame} {meth : Method} {c : Code} {l : Launch} {b : Nat} {xs : Nat → Int32} {A : Nat → Prop} {H : Heap} {locs : List Loc} {D : va_G} {cy : Nat → ClassId} (C0 : lw_At p s m meth c b 6 xs) (hA : ∀ q : Nat, s.heap.size ≤ q → A q) (hAA : ∀ q : Nat, A q → s.heap.size ≤ q) (hK : va_K D vwCl (tyL cy) s) (hN : NW s) (x0 b0 im tp rd r0 u0 t0 l0 q0 of sh nl fc m0 m_tape m_stops m_km m_takes m_officeAt m_shares m_berths m_owner m_lies m_tickets m_tDay m_tBerth m_tFrom m_tTo m_tOffice m_tBack m_letters m_lComes m_lAnswer m_lOffice m_lDay m_lFrom m_lTo m_lTicket m_now m_lines m_lineTests m_testWhat m_testSign m_testThan m_lineAct m_lineNumber m_free m_newBerth m_newTests m_newWhat m_newSign m_newThan m_newAct m_newNumber m_has : Nat) (g1 g2 fst fkm ftk fli : Nat → Int32) (hg1 : ∀ j : Nat, j < 9 → g1 j = 1) (hg2 : ∀ j : Nat, j < 9 → g2 j = 1) (hst : fst 0 = 2) (hkm : ∀ j : Nat, j < 9 → fkm j = 1) (htk : ∀ j : Nat, j < 9 → ftk j = 1) (hP : va_P D vwCl [(x0, .inr (9, [.ref b0, .ref im, .ref tp, .ref rd])), (b0, .inr (0, [.int 0, .ref r0, .ref u0, .ref t0, .ref l0, .ref q0, .ref of, .ref sh, .ref nl, .ref fc])), (sh, .inl (cy 0, 10, .inl (fun _ => 0))), (m0, .inr (10, [.int 0, .ref m_tape, .int 0, .ref m_stops, .ref m_km, .ref m_takes, .ref m_officeAt, .ref m_shares, .ref m_berths, .ref m_owner, .ref m_lies, .ref m_tickets, .ref m_tDay, .ref m_tBerth, .ref m_tFrom, .ref m_tTo, .ref m_tOffice, .ref m_tBack, .ref m_letters, .ref m_lComes, .ref m_lAnswer, .ref m_lOffice, .ref m_lDay, .ref m_lFrom, .ref m_lTo, .ref m_lTicket, .ref m_now, .ref m_lines, .ref m_lineTests, .ref m_testWhat, .ref m_testSign, .ref m_testThan, .ref m_lineAct, .ref m_lineNumber, .ref m_free, .ref m_newBerth, .int 0, .int 0, .int 0, .int 0, .int 0, .long 0, .int 0, .int (-1), .int 0, .int 0, .ref m_newTests, .ref m_newWhat, .ref m_newSign, .ref m_newThan, .ref m_newAct, .ref m_newNumber, .ref m_has])), (m_shares, .inl (cy 0, 40, .inl (fun _ => 0)))] H) (hD : va_D A [(x0, .inr (9, [.ref b0, .ref im, .ref tp, .ref rd])), (b0, .inr (0, [.int 0, .ref r0, .ref u0, .ref t0, .ref l0, .ref q0, .ref of, .ref sh, .ref nl, .ref fc])), (sh, .inl (cy 0, 10, .inl (fun _ => 0))), (m0, .inr (10, [.int 0, .ref m_tape, .int 0, .ref m_stops, .ref m_km, .ref m_takes, .ref m_officeAt, .ref m_shares, .ref m_berths, .ref m_owner, .ref m_lies, .ref m_tickets, .ref m_tDay, .ref m_tBerth, .ref m_tFrom, .ref m_tTo, .ref m_tOffice, .ref m_tBack, .ref m_letters, .ref m_lComes, .ref m_lAnswer, .ref m_lOffice, .ref m_lDay, .ref m_lFrom, .ref m_lTo, .ref m_lTicket, .ref m_now, .ref m_lines, .ref m_lineTests, .ref m_testWhat, .ref m_testSign, .ref m_testThan, .ref m_lineAct, .ref m_lineNumber, .ref m_free, .ref m_newBerth, .int 0, .int 0, .int 0, .int 0, .int 0, .long 0, .int 0, .int (-1), .int 0, .int 0, .ref m_newTests, .ref m_newWhat, .ref m_newSign, .ref m_newThan, .ref m_newAct, .ref m_newNumber, .ref m_has])), (m_shares, .inl (cy 0, 40, .inl (fun _ => 0)))]) (hS : va_S A s.heap H locs) (ls : Array Slot) (hl : lv_has ls 4 [(3, .int 0), (2, .ref m0), (1, .ref x0), (0, .ref b)]) : W p l e room_1 s m #[Value.ref b] below meth c H locs 94 42452 (lw_Z below #[Value.ref b] s) (F0 m 243 ls []) := by
  obtain ⟨hx, hb, hr, hml, hown, hts0, hX, hbl, hlocks, hgv⟩ := id C0
  have hown : s.vm.findClass RL = some m.cls := hown
  have hts : ∀ w ∈ wsL_law, w.before #[Value.ref b] s = true := fun w h => hts0 w (wsL_law_in w h)
  have hbA : ¬ A b := fun h => absurd (hAA b h) (Nat.not_le.mpr hbl)
  obtain ⟨v1, ev1⟩ : ∃ v : Int32, v = xs (1 : Int32).toNatClampNeg := ⟨_, rfl⟩
  obtain ⟨v2, ev2⟩ : ∃ v : Int32, v = xs (2 : Int32).toNatClampNeg := ⟨_, rfl⟩
  obtain ⟨v3, ev3⟩ : ∃ v : Int32, v = xs (3 : Int32).toNatClampNeg := ⟨_, rfl⟩
  obtain ⟨v4, ev4⟩ : ∃ v : Int32, v = xs (4 : Int32).toNatClampNeg := ⟨_, rfl⟩
  obtain ⟨v5, ev5⟩ : ∃ v : Int32, v = xs (5 : Int32).toNatClampNeg := ⟨_, rfl⟩
  have w_0 := hts0 (.instanceMethod yX9_share) (List.mem_of_getElem? (i := 389) (by decide +kernel))
  have w_1 := hts0 (.instanceMethod yX10_share) (List.mem_of_getElem? (i := 1062) (by decide +kernel))
  refine lv_aload_n hx hb dL_law_243 rfl (lv_at hl 2 rfl) ?_
  refine lv_aload_n hx hb dL_law_244 rfl (lv_at hl 3 rfl) ?_
  refine lv_iload_n hx hb dL_law_245 rfl (lv_at hl 0 rfl) ?_
  refine lv_iconst (v := 1) hx hb dL_law_246 (by decide) ?_
  refine lv_iadd hx hb dL_law_247 ?_
  refine lv_topi (fun x247 ex247 => ?_)
  obtain rfl : x247 = 1 := ex247.trans (by decide)
  refine va_sld hx hb hX hbl hbA hS (q_in (a := 1) (by decide) (by decide) (by decide)) dL_law_248 ?_
  refine lv_topi (fun x248 ex248 => ?_)
  obtain rfl : v1 = x248 := ev1.trans ex248.symm
  refine lv_aload_n hx hb dL_law_249 rfl (lv_at hl 3 rfl) ?_
  refine lv_iload_n hx hb dL_law_250 rfl (lv_at hl 0 rfl) ?_
  refine lv_iconst (v := 2) hx hb dL_law_251 (by decide) ?_
  refine lv_iadd hx hb dL_law_252 ?_
  refine lv_topi (fun x252 ex252 => ?_)
  obtain rfl : x252 = 2 := ex252.trans (by decide)
  refine va_sld hx hb hX hbl hbA hS (q_in (a := 2) (by decide) (by decide) (by decide)) dL_law_253 ?_
  refine lv_topi (fun x253 ex253 => ?_)
  obtain rfl : v2 = x253 := ev2.trans ex253.symm
  refine k_i (va_runV (As := [.int v1, .int v2]) (rest := []) ⟨hx, hb, hml, hown, hts⟩ (c_X9_share l D cy x0 b0 im tp rd r0 u0 t0 l0 q0 of sh nl fc v1 v2 H.size ) (cwV 2 hts gL_law_X9_share rfl rfl rfl (by decide +kernel) ⟨Nat.le_of_ble_eq_true rfl, Nat.le_of_ble_eq_true rfl⟩) (cp_v hK hN hP hD [0, 1, 2] rfl (by decide) (ci := 9) rfl rfl rfl) rfl rfl hl.1 rfl (lv_room (Nat.le_of_ble_eq_true rfl)) dL_law_254 ⟨Nat.le_of_ble_eq_true rfl, Nat.le_of_ble_eq_true rfl⟩) hP hD hS hA [0, 1, 2] [3, 4] (wr := [(m0, .inr (10, [.int 0, .ref m_tape, .int 0, .ref m_stops, .ref m_km, .ref m_takes, .ref m_officeAt, .ref m_shares, .ref m_berths, .ref m_owner, .ref m_lies, .ref m_tickets, .ref m_tDay, .ref m_tBerth, .ref m_tFrom, .ref m_tTo, .ref m_tOffice, .ref m_tBack, .ref m_letters, .ref m_lComes, .ref m_lAnswer, .ref m_lOffice, .ref m_lDay, .ref m_lFrom, .ref m_lTo, .ref m_lTicket, .ref m_now, .ref m_lines, .ref m_lineTests, .ref m_testWhat, .ref m_testSign, .ref m_testThan, .ref m_lineAct, .ref m_lineNumber, .ref m_free, .ref m_newBerth, .int 0, .int 0, .int 0, .int 0, .int 0, .long 0, .int 0, .int (-1), .int 0, .int 0, .ref m_newTests, .ref m_newWhat, .ref m_newSign, .ref m_newThan, .ref m_newAct, .ref m_newNumber, .ref m_has])), (m_shares, .inl (cy 0, 40, .inl (fun _ => 0)))]) rfl rfl (by decide) (by decide) (fun r254 u_r254 H locs hw254 hP hD hS => ?_)
  try dsimp only at hw254
  have hP : va_P D vwCl [(m0, .inr (10, [.int 0, .ref m_tape, .int 0, .ref m_stops, .ref m_km, .ref m_takes, .ref m_officeAt, .ref m_shares, .ref m_berths, .ref m_owner, .ref m_lies, .ref m_tickets, .ref m_tDay, .ref m_tBerth, .ref m_tFrom, .ref m_tTo, .ref m_tOffice, .ref m_tBack, .ref m_letters, .ref m_lComes, .ref m_lAnswer, .ref m_lOffice, .ref m_lDay, .ref m_lFrom, .ref m_lTo, .ref m_lTicket, .ref m_now, .ref m_lines, .ref m_lineTests, .ref m_testWhat, .ref m_testSign, .ref m_testThan, .ref m_lineAct, .ref m_lineNumber, .ref m_free, .ref m_newBerth, .int 0, .int 0, .int 0, .int 0, .int 0, .long 0, .int 0, .int (-1), .int 0, .int 0, .ref m_newTests, .ref m_newWhat, .ref m_newSign, .ref m_newThan, .ref m_newAct, .ref m_newNumber, .ref m_has])), (m_shares, .inl (cy 0, 40, .inl (fun _ => 0)))] H := hP
  have hD : va_D A [(m0, .inr (10, [.int 0, .ref m_tape, .int 0, .ref m_stops, .ref m_km, .ref m_takes, .ref m_officeAt, .ref m_shares, .ref m_berths, .ref m_owner, .ref m_lies, .ref m_tickets, .ref m_tDay, .ref m_tBerth, .ref m_tFrom, .ref m_tTo, .ref m_tOffice, .ref m_tBack, .ref m_letters, .ref m_lComes, .ref m_lAnswer, .ref m_lOffice, .ref m_lDay, .ref m_lFrom, .ref m_lTo, .ref m_lTicket, .ref m_now, .ref m_lines, .ref m_lineTests, .ref m_testWhat, .ref m_testSign, .ref m_testThan, .ref m_lineAct, .ref m_lineNumber, .ref m_free, .ref m_newBerth, .int 0, .int 0, .int 0, .int 0, .int 0, .long 0, .int 0, .int (-1), .int 0, .int 0, .ref m_newTests, .ref m_newWhat, .ref m_newSign, .ref m_newThan, .ref m_newAct, .ref m_newNumber, .ref m_has])), (m_shares, .inl (cy 0, 40, .inl (fun _ => 0)))] := hD
  refine lv_aload_n hx hb dL_law_257 rfl (lv_at hl 1 rfl) ?_
  refine lv_aload_n hx hb dL_law_258 rfl (lv_at hl 3 rfl) ?_
  refine lv_iload_n hx hb dL_law_259 rfl (lv_at hl 0 rfl) ?_
  refine lv_iconst (v := 1) hx hb dL_law_260 (by decide) ?_
  refine lv_iadd hx hb dL_law_261 ?_
  refine lv_topi (fun x261 ex261 => ?_)
  obtain rfl : x261 = 1 := ex261.trans (by decide)
  refine va_sld hx hb hX hbl hbA hS (q_in (a := 1) (by decide) (by decide) (by decide)) dL_law_262 ?_
  refine lv_topi (fun x262 ex262 => ?_)
  obtain rfl : v1 = x262 := ev1.trans ex262.symm
  refine lv_aload_n hx hb dL_law_263 rfl (lv_at hl 3 rfl) ?_
  refine lv_iload_n hx hb dL_law_264 rfl (lv_at hl 0 rfl) ?_
  refine lv_iconst (v := 2) hx hb dL_law_265 (by decide) ?_
  refine lv_iadd hx hb dL_law_266 ?_
  refine lv_topi (fun x266 ex266 => ?_)
  obtain rfl : x266 = 2 := ex266.trans (by decide)
  refine va_sld hx hb hX hbl hbA hS (q_in (a := 2) (by decide) (by decide) (by decide)) dL_law_267 ?_
  refine lv_topi (fun x267 ex267 => ?_)
  obtain rfl : v2 = x267 := ev2.trans ex267.symm
  refine k_i (va_runV (As := [.int v1, .int v2]) (rest := [.int r254]) ⟨hx, hb, hml, hown, hts⟩ (c_X10_share l D cy m0 m_tape m_stops m_km m_takes m_officeAt m_shares m_berths m_owner m_lies m_tickets m_tDay m_tBerth m_tFrom m_tTo m_tOffice m_tBack m_letters m_lComes m_lAnswer m_lOffice m_lDay m_lFrom m_lTo m_lTicket m_now m_lines m_lineTests m_testWhat m_testSign m_testThan m_lineAct m_lineNumber m_free m_newBerth m_newTests m_newWhat m_newSign m_newThan m_newAct m_newNumber m_has v1 v2 H.size ) (cwV 2 hts gL_law_X10_share rfl rfl rfl (by decide +kernel) ⟨Nat.le_of_ble_eq_true rfl, Nat.le_of_ble_eq_true rfl⟩) (cp_v hK hN hP hD [0, 1] rfl (by decide) (ci := 10) rfl rfl rfl) rfl rfl hl.1 rfl (lv_room (Nat.le_of_ble_eq_true rfl)) dL_law_268 ⟨Nat.le_of_ble_eq_true rfl, Nat.le_of_ble_eq_true rfl⟩) hP hD hS hA [0, 1] [] (wr := []) rfl rfl (by decide) (by decide) (fun r268 u_r268 H locs hw268 hP hD hS => ?_)
  try dsimp only at hw268
  have hP : va_P D vwCl [] H := hP
  have hD : va_D A [] := hD
  refine lv_icmp_eq (tgt := 947) hx hb dL_law_271 (by decide) (fun c271 => ?_) (fun c271 => ?_)
  · skip
    have fc271 := q_eq (a := r254.toInt) (b := r268.toInt) c271 rfl rfl
    exact law_tail C0 hA hAA (by decide) (by decide) hS ls (lv_sub hl [0, 3] rfl)
  · skip
    have fc271 := q_ne (a := r254.toInt) (b := r268.toInt) c271 rfl rfl
    exfalso; omega
set_option maxHeartbeats 4000000 in
set_option maxRecDepth 100000 in
theorem law_4 {p : Program} {e : Env} {s : State} {m : MethodId} {below : List Frame} {meth : Method} {c : Code} {l : Launch} {b : Nat} {xs : Nat → Int32} {A : Nat → Prop} {H : Heap} {locs : List Loc} {D : va_G} {cy : Nat → ClassId} (C0 : lw_At p s m meth c b 6 xs) (hA : ∀ q : Nat, s.heap.size ≤ q → A q) (hAA : ∀ q : Nat, A q → s.heap.size ≤ q) (hK : va_K D vwCl (tyL cy) s) (hN : NW s) (x0 b0 im tp rd r0 u0 t0 l0 q0 of sh nl fc u1 u2 u3 r1 r2 m0 m_tape m_stops m_km m_takes m_officeAt m_shares m_berths m_owner m_lies m_tickets m_tDay m_tBerth m_tFrom m_tTo m_tOffice m_tBack m_letters m_lComes m_lAnswer m_lOffice m_lDay m_lFrom m_lTo m_lTicket m_now m_lines m_lineTests m_testWhat m_testSign m_testThan m_lineAct m_lineNumber m_free m_newBerth m_newTests m_newWhat m_newSign m_newThan m_newAct m_newNumber m_has : Nat) (g1 g2 fst fkm ftk fli : Nat → Int32) (hg1 : ∀ j : Nat, j < 9 → g1 j = 1) (hg2 : ∀ j : Nat, j < 9 → g2 j = 1) (hst : fst 0 = 2) (hkm : ∀ j : Nat, j < 9 → fkm j = 1) (htk : ∀ j : Nat, j < 9 → ftk j = 1) (hP : va_P D vwCl [(x0, .inr (9, [.ref b0, .ref im, .ref tp, .ref rd])), (b0, .inr (0, [.int 0, .ref r0, .ref u0, .ref t0, .ref l0, .ref q0, .ref of, .ref sh, .ref nl, .ref fc])), (u0, .inr (5, [.int 0, .ref u1, .ref u2, .ref u3])), (u1, .inl (cy 0, 60, .inl (fun _ => 0))), (u2, .inl (cy 0, 600, .inl (fun _ => 0))), (r0, .inr (4, [.int 2, .ref r1, .ref r2])), (r2, .inl (cy 0, 9, .inl g2)), (sh, .inl (cy 0, 10, .inl (fun _ => 0))), (m0, .inr (10, [.int 0, .ref m_tape, .int 0, .ref m_stops, .ref m_km, .ref m_takes, .ref m_officeAt, .ref m_shares, .ref m_berths, .ref m_owner, .ref m_lies, .ref m_tickets, .ref m_tDay, .ref m_tBerth, .ref m_tFrom, .ref m_tTo, .ref m_tOffice, .ref m_tBack, .ref m_letters, .ref m_lComes, .ref m_lAnswer, .ref m_lOffice, .ref m_lDay, .ref m_lFrom, .ref m_lTo, .ref m_lTicket, .ref m_now, .ref m_lines, .ref m_lineTests, .ref m_testWhat, .ref m_testSign, .ref m_testThan, .ref m_lineAct, .ref m_lineNumber, .ref m_free, .ref m_newBerth, .int 0, .int 0, .int 0, .int 0, .int 0, .long 0, .int 0, .int (-1), .int 0, .int 0, .ref m_newTests, .ref m_newWhat, .ref m_newSign, .ref m_newThan, .ref m_newAct, .ref m_newNumber, .ref m_has])), (m_berths, .inl (cy 0, 240, .inl (fun _ => 0))), (m_now, .inl (cy 0, 4, .inl (fun _ => 0))), (m_owner, .inl (cy 0, 2400, .inl (fun _ => 0))), (m_shares, .inl (cy 0, 40, .inl (fun _ => 0)))] H) (hD : va_D A [(x0, .inr (9, [.ref b0, .ref im, .ref tp, .ref rd])), (b0, .inr (0, [.int 0, .ref r0, .ref u0, .ref t0, .ref l0, .ref q0, .ref of, .ref sh, .ref nl, .ref fc])), (u0, .inr (5, [.int 0, .ref u1, .ref u2, .ref u3])), (u1, .inl (cy 0, 60, .inl (fun _ => 0))), (u2, .inl (cy 0, 600, .inl (fun _ => 0))), (r0, .inr (4, [.int 2, .ref r1, .ref r2])), (r2, .inl (cy 0, 9, .inl g2)), (sh, .inl (cy 0, 10, .inl (fun _ => 0))), (m0, .inr (10, [.int 0, .ref m_tape, .int 0, .ref m_stops, .ref m_km, .ref m_takes, .ref m_officeAt, .ref m_shares, .ref m_berths, .ref m_owner, .ref m_lies, .ref m_tickets, .ref m_tDay, .ref m_tBerth, .ref m_tFrom, .ref m_tTo, .ref m_tOffice, .ref m_tBack, .ref m_letters, .ref m_lComes, .ref m_lAnswer, .ref m_lOffice, .ref m_lDay, .ref m_lFrom, .ref m_lTo, .ref m_lTicket, .ref m_now, .ref m_lines, .ref m_lineTests, .ref m_testWhat, .ref m_testSign, .ref m_testThan, .ref m_lineAct, .ref m_lineNumber, .ref m_free, .ref m_newBerth, .int 0, .int 0, .int 0, .int 0, .int 0, .long 0, .int 0, .int (-1), .int 0, .int 0, .ref m_newTests, .ref m_newWhat, .ref m_newSign, .ref m_newThan, .ref m_newAct, .ref m_newNumber, .ref m_has])), (m_berths, .inl (cy 0, 240, .inl (fun _ => 0))), (m_now, .inl (cy 0, 4, .inl (fun _ => 0))), (m_owner, .inl (cy 0, 2400, .inl (fun _ => 0))), (m_shares, .inl (cy 0, 40, .inl (fun _ => 0)))]) (hS : va_S A s.heap H locs) (ls : Array Slot) (hl : lv_has ls 4 [(3, .int 0), (2, .ref m0), (1, .ref x0), (0, .ref b)]) : W p l e room_1 s m #[Value.ref b] below meth c H locs 94 42452 (lw_Z below #[Value.ref b] s) (F0 m 276 ls []) := by
  obtain ⟨hx, hb, hr, hml, hown, hts0, hX, hbl, hlocks, hgv⟩ := id C0
  have hown : s.vm.findClass RL = some m.cls := hown
  have hts : ∀ w ∈ wsL_law, w.before #[Value.ref b] s = true := fun w h => hts0 w (wsL_law_in w h)
  have hbA : ¬ A b := fun h => absurd (hAA b h) (Nat.not_le.mpr hbl)
  obtain ⟨v1, ev1⟩ : ∃ v : Int32, v = xs (1 : Int32).toNatClampNeg := ⟨_, rfl⟩
  obtain ⟨v2, ev2⟩ : ∃ v : Int32, v = xs (2 : Int32).toNatClampNeg := ⟨_, rfl⟩
  obtain ⟨v3, ev3⟩ : ∃ v : Int32, v = xs (3 : Int32).toNatClampNeg := ⟨_, rfl⟩
  obtain ⟨v4, ev4⟩ : ∃ v : Int32, v = xs (4 : Int32).toNatClampNeg := ⟨_, rfl⟩
  obtain ⟨v5, ev5⟩ : ∃ v : Int32, v = xs (5 : Int32).toNatClampNeg := ⟨_, rfl⟩
  have w_0 := hts0 (.instanceMethod yX9_run) (List.mem_of_getElem? (i := 393) (by decide +kernel))
  have w_1 := hts0 (.instanceMethod yX10_run) (List.mem_of_getElem? (i := 1066) (by decide +kernel))
  refine lv_aload_n hx hb dL_law_276 rfl (lv_at hl 2 rfl) ?_
  refine lv_aload_n hx hb dL_law_277 rfl (lv_at hl 3 rfl) ?_
  refine lv_iload_n hx hb dL_law_278 rfl (lv_at hl 0 rfl) ?_
  refine lv_iconst (v := 1) hx hb dL_law_279 (by decide) ?_
  refine lv_iadd hx hb dL_law_280 ?_
  refine lv_topi (fun x280 ex280 => ?_)
  obtain rfl : x280 = 1 := ex280.trans (by decide)
  refine va_sld hx hb hX hbl hbA hS (q_in (a := 1) (by decide) (by decide) (by decide)) dL_law_281 ?_
  refine lv_topi (fun x281 ex281 => ?_)
  obtain rfl : v1 = x281 := ev1.trans ex281.symm
  refine lv_aload_n hx hb dL_law_282 rfl (lv_at hl 3 rfl) ?_
  refine lv_iload_n hx hb dL_law_283 rfl (lv_at hl 0 rfl) ?_
  refine lv_iconst (v := 2) hx hb dL_law_284 (by decide) ?_
  refine lv_iadd hx hb dL_law_285 ?_
  refine lv_topi (fun x285 ex285 => ?_)
  obtain rfl : x285 = 2 := ex285.trans (by decide)
  refine va_sld hx hb hX hbl hbA hS (q_in (a := 2) (by decide) (by decide) (by decide)) dL_law_286 ?_
  refine lv_topi (fun x286 ex286 => ?_)
  obtain rfl : v2 = x286 := ev2.trans ex286.symm
  refine k_i (va_runV (As := [.int v1, .int v2]) (rest := []) ⟨hx, hb, hml, hown, hts⟩ (c_X9_run l D cy x0 b0 im tp rd r0 u0 t0 l0 q0 of sh nl fc u1 u2 u3 r1 r2 g2 v1 v2 H.size ) (cwV 2 hts gL_law_X9_run rfl rfl rfl (by decide +kernel) ⟨Nat.le_of_ble_eq_true rfl, Nat.le_of_ble_eq_true rfl⟩) (cp_v hK hN hP hD [0, 1, 2, 3, 4, 5, 6, 7] rfl (by decide) (ci := 9) rfl rfl rfl) rfl rfl hl.1 rfl (lv_room (Nat.le_of_ble_eq_true rfl)) dL_law_287 ⟨Nat.le_of_ble_eq_true rfl, Nat.le_of_ble_eq_true rfl⟩) hP hD hS hA [0, 1, 2, 3, 4, 5, 6, 7] [8, 9, 10, 11, 12] (wr := [(m0, .inr (10, [.int 0, .ref m_tape, .int 0, .ref m_stops, .ref m_km, .ref m_takes, .ref m_officeAt, .ref m_shares, .ref m_berths, .ref m_owner, .ref m_lies, .ref m_tickets, .ref m_tDay, .ref m_tBerth, .ref m_tFrom, .ref m_tTo, .ref m_tOffice, .ref m_tBack, .ref m_letters, .ref m_lComes, .ref m_lAnswer, .ref m_lOffice, .ref m_lDay, .ref m_lFrom, .ref m_lTo, .ref m_lTicket, .ref m_now, .ref m_lines, .ref m_lineTests, .ref m_testWhat, .ref m_testSign, .ref m_testThan, .ref m_lineAct, .ref m_lineNumber, .ref m_free, .ref m_newBerth, .int 0, .int 0, .int 0, .int 0, .int 0, .long 0, .int 0, .int (-1), .int 0, .int 0, .ref m_newTests, .ref m_newWhat, .ref m_newSign, .ref m_newThan, .ref m_newAct, .ref m_newNumber, .ref m_has])), (m_berths, .inl (cy 0, 240, .inl (fun _ => 0))), (m_now, .inl (cy 0, 4, .inl (fun _ => 0))), (m_owner, .inl (cy 0, 2400, .inl (fun _ => 0))), (m_shares, .inl (cy 0, 40, .inl (fun _ => 0)))]) rfl rfl (by decide) (by decide) (fun r287 u_r287 H locs hw287 hP hD hS => ?_)
  try dsimp only at hw287
  have hP : va_P D vwCl [(m0, .inr (10, [.int 0, .ref m_tape, .int 0, .ref m_stops, .ref m_km, .ref m_takes, .ref m_officeAt, .ref m_shares, .ref m_berths, .ref m_owner, .ref m_lies, .ref m_tickets, .ref m_tDay, .ref m_tBerth, .ref m_tFrom, .ref m_tTo, .ref m_tOffice, .ref m_tBack, .ref m_letters, .ref m_lComes, .ref m_lAnswer, .ref m_lOffice, .ref m_lDay, .ref m_lFrom, .ref m_lTo, .ref m_lTicket, .ref m_now, .ref m_lines, .ref m_lineTests, .ref m_testWhat, .ref m_testSign, .ref m_testThan, .ref m_lineAct, .ref m_lineNumber, .ref m_free, .ref m_newBerth, .int 0, .int 0, .int 0, .int 0, .int 0, .long 0, .int 0, .int (-1), .int 0, .int 0, .ref m_newTests, .ref m_newWhat, .ref m_newSign, .ref m_newThan, .ref m_newAct, .ref m_newNumber, .ref m_has])), (m_berths, .inl (cy 0, 240, .inl (fun _ => 0))), (m_now, .inl (cy 0, 4, .inl (fun _ => 0))), (m_owner, .inl (cy 0, 2400, .inl (fun _ => 0))), (m_shares, .inl (cy 0, 40, .inl (fun _ => 0)))] H := hP
  have hD : va_D A [(m0, .inr (10, [.int 0, .ref m_tape, .int 0, .ref m_stops, .ref m_km, .ref m_takes, .ref m_officeAt, .ref m_shares, .ref m_berths, .ref m_owner, .ref m_lies, .ref m_tickets, .ref m_tDay, .ref m_tBerth, .ref m_tFrom, .ref m_tTo, .ref m_tOffice, .ref m_tBack, .ref m_letters, .ref m_lComes, .ref m_lAnswer, .ref m_lOffice, .ref m_lDay, .ref m_lFrom, .ref m_lTo, .ref m_lTicket, .ref m_now, .ref m_lines, .ref m_lineTests, .ref m_testWhat, .ref m_testSign, .ref m_testThan, .ref m_lineAct, .ref m_lineNumber, .ref m_free, .ref m_newBerth, .int 0, .int 0, .int 0, .int 0, .int 0, .long 0, .int 0, .int (-1), .int 0, .int 0, .ref m_newTests, .ref m_newWhat, .ref m_newSign, .ref m_newThan, .ref m_newAct, .ref m_newNumber, .ref m_has])), (m_berths, .inl (cy 0, 240, .inl (fun _ => 0))), (m_now, .inl (cy 0, 4, .inl (fun _ => 0))), (m_owner, .inl (cy 0, 2400, .inl (fun _ => 0))), (m_shares, .inl (cy 0, 40, .inl (fun _ => 0)))] := hD
  refine lv_aload_n hx hb dL_law_290 rfl (lv_at hl 1 rfl) ?_
  refine lv_aload_n hx hb dL_law_291 rfl (lv_at hl 3 rfl) ?_
  refine lv_iload_n hx hb dL_law_292 rfl (lv_at hl 0 rfl) ?_
  refine lv_iconst (v := 1) hx hb dL_law_293 (by decide) ?_
  refine lv_iadd hx hb dL_law_294 ?_
  refine lv_topi (fun x294 ex294 => ?_)
  obtain rfl : x294 = 1 := ex294.trans (by decide)
  refine va_sld hx hb hX hbl hbA hS (q_in (a := 1) (by decide) (by decide) (by decide)) dL_law_295 ?_
  refine lv_topi (fun x295 ex295 => ?_)
  obtain rfl : v1 = x295 := ev1.trans ex295.symm
  refine lv_aload_n hx hb dL_law_296 rfl (lv_at hl 3 rfl) ?_
  refine lv_iload_n hx hb dL_law_297 rfl (lv_at hl 0 rfl) ?_
  refine lv_iconst (v := 2) hx hb dL_law_298 (by decide) ?_
  refine lv_iadd hx hb dL_law_299 ?_
  refine lv_topi (fun x299 ex299 => ?_)
  obtain rfl : x299 = 2 := ex299.trans (by decide)
  refine va_sld hx hb hX hbl hbA hS (q_in (a := 2) (by decide) (by decide) (by decide)) dL_law_300 ?_
  refine lv_topi (fun x300 ex300 => ?_)
  obtain rfl : v2 = x300 := ev2.trans ex300.symm
  refine k_i (va_runV (As := [.int v1, .int v2]) (rest := [.int r287]) ⟨hx, hb, hml, hown, hts⟩ (c_X10_run l D cy m0 m_tape m_stops m_km m_takes m_officeAt m_shares m_berths m_owner m_lies m_tickets m_tDay m_tBerth m_tFrom m_tTo m_tOffice m_tBack m_letters m_lComes m_lAnswer m_lOffice m_lDay m_lFrom m_lTo m_lTicket m_now m_lines m_lineTests m_testWhat m_testSign m_testThan m_lineAct m_lineNumber m_free m_newBerth m_newTests m_newWhat m_newSign m_newThan m_newAct m_newNumber m_has v1 v2 H.size ) (cwV 2 hts gL_law_X10_run rfl rfl rfl (by decide +kernel) ⟨Nat.le_of_ble_eq_true rfl, Nat.le_of_ble_eq_true rfl⟩) (cp_v hK hN hP hD [0, 1, 2, 3, 4] rfl (by decide) (ci := 10) rfl rfl rfl) rfl rfl hl.1 rfl (lv_room (Nat.le_of_ble_eq_true rfl)) dL_law_301 ⟨Nat.le_of_ble_eq_true rfl, Nat.le_of_ble_eq_true rfl⟩) hP hD hS hA [0, 1, 2, 3, 4] [] (wr := []) rfl rfl (by decide) (by decide) (fun r301 u_r301 H locs hw301 hP hD hS => ?_)
  try dsimp only at hw301
  have hP : va_P D vwCl [] H := hP
  have hD : va_D A [] := hD
  refine lv_icmp_eq (tgt := 947) hx hb dL_law_304 (by decide) (fun c304 => ?_) (fun c304 => ?_)
  · skip
    have fc304 := q_eq (a := r287.toInt) (b := r301.toInt) c304 rfl rfl
    exact law_tail C0 hA hAA (by decide) (by decide) hS ls (lv_sub hl [0, 3] rfl)
  · skip
    have fc304 := q_ne (a := r287.toInt) (b := r301.toInt) c304 rfl rfl
    exfalso; omega
set_option maxHeartbeats 4000000 in
set_option maxRecDepth 100000 in
theorem law_5 {p : Program} {e : Env} {s : State} {m : MethodId} {below : List Frame} {meth : Method} {c : Code} {l : Launch} {b : Nat} {xs : Nat → Int32} {A : Nat → Prop} {H : Heap} {locs : List Loc} {D : va_G} {cy : Nat → ClassId} (C0 : lw_At p s m meth c b 6 xs) (hA : ∀ q : Nat, s.heap.size ≤ q → A q) (hAA : ∀ q : Nat, A q → s.heap.size ≤ q) (hK : va_K D vwCl (tyL cy) s) (hN : NW s) (x0 b0 im tp rd r0 u0 t0 l0 q0 of sh nl fc u1 u2 u3 m0 m_tape m_stops m_km m_takes m_officeAt m_shares m_berths m_owner m_lies m_tickets m_tDay m_tBerth m_tFrom m_tTo m_tOffice m_tBack m_letters m_lComes m_lAnswer m_lOffice m_lDay m_lFrom m_lTo m_lTicket m_now m_lines m_lineTests m_testWhat m_testSign m_testThan m_lineAct m_lineNumber m_free m_newBerth m_newTests m_newWhat m_newSign m_newThan m_newAct m_newNumber m_has : Nat) (g1 g2 fst fkm ftk fli : Nat → Int32) (hg1 : ∀ j : Nat, j < 9 → g1 j = 1) (hg2 : ∀ j : Nat, j < 9 → g2 j = 1) (hst : fst 0 = 2) (hkm : ∀ j : Nat, j < 9 → fkm j = 1) (htk : ∀ j : Nat, j < 9 → ftk j = 1) (hP : va_P D vwCl [(x0, .inr (9, [.ref b0, .ref im, .ref tp, .ref rd])), (b0, .inr (0, [.int 0, .ref r0, .ref u0, .ref t0, .ref l0, .ref q0, .ref of, .ref sh, .ref nl, .ref fc])), (u0, .inr (5, [.int 0, .ref u1, .ref u2, .ref u3])), (u1, .inl (cy 0, 60, .inl (fun _ => 0))), (m0, .inr (10, [.int 0, .ref m_tape, .int 0, .ref m_stops, .ref m_km, .ref m_takes, .ref m_officeAt, .ref m_shares, .ref m_berths, .ref m_owner, .ref m_lies, .ref m_tickets, .ref m_tDay, .ref m_tBerth, .ref m_tFrom, .ref m_tTo, .ref m_tOffice, .ref m_tBack, .ref m_letters, .ref m_lComes, .ref m_lAnswer, .ref m_lOffice, .ref m_lDay, .ref m_lFrom, .ref m_lTo, .ref m_lTicket, .ref m_now, .ref m_lines, .ref m_lineTests, .ref m_testWhat, .ref m_testSign, .ref m_testThan, .ref m_lineAct, .ref m_lineNumber, .ref m_free, .ref m_newBerth, .int 0, .int 0, .int 0, .int 0, .int 0, .long 0, .int 0, .int (-1), .int 0, .int 0, .ref m_newTests, .ref m_newWhat, .ref m_newSign, .ref m_newThan, .ref m_newAct, .ref m_newNumber, .ref m_has])), (m_berths, .inl (cy 0, 240, .inl (fun _ => 0)))] H) (hD : va_D A [(x0, .inr (9, [.ref b0, .ref im, .ref tp, .ref rd])), (b0, .inr (0, [.int 0, .ref r0, .ref u0, .ref t0, .ref l0, .ref q0, .ref of, .ref sh, .ref nl, .ref fc])), (u0, .inr (5, [.int 0, .ref u1, .ref u2, .ref u3])), (u1, .inl (cy 0, 60, .inl (fun _ => 0))), (m0, .inr (10, [.int 0, .ref m_tape, .int 0, .ref m_stops, .ref m_km, .ref m_takes, .ref m_officeAt, .ref m_shares, .ref m_berths, .ref m_owner, .ref m_lies, .ref m_tickets, .ref m_tDay, .ref m_tBerth, .ref m_tFrom, .ref m_tTo, .ref m_tOffice, .ref m_tBack, .ref m_letters, .ref m_lComes, .ref m_lAnswer, .ref m_lOffice, .ref m_lDay, .ref m_lFrom, .ref m_lTo, .ref m_lTicket, .ref m_now, .ref m_lines, .ref m_lineTests, .ref m_testWhat, .ref m_testSign, .ref m_testThan, .ref m_lineAct, .ref m_lineNumber, .ref m_free, .ref m_newBerth, .int 0, .int 0, .int 0, .int 0, .int 0, .long 0, .int 0, .int (-1), .int 0, .int 0, .ref m_newTests, .ref m_newWhat, .ref m_newSign, .ref m_newThan, .ref m_newAct, .ref m_newNumber, .ref m_has])), (m_berths, .inl (cy 0, 240, .inl (fun _ => 0)))]) (hS : va_S A s.heap H locs) (ls : Array Slot) (hl : lv_has ls 4 [(3, .int 0), (2, .ref m0), (1, .ref x0), (0, .ref b)]) : W p l e room_1 s m #[Value.ref b] below meth c H locs 94 42452 (lw_Z below #[Value.ref b] s) (F0 m 309 ls []) := by
  obtain ⟨hx, hb, hr, hml, hown, hts0, hX, hbl, hlocks, hgv⟩ := id C0
  have hown : s.vm.findClass RL = some m.cls := hown
  have hts : ∀ w ∈ wsL_law, w.before #[Value.ref b] s = true := fun w h => hts0 w (wsL_law_in w h)
  have hbA : ¬ A b := fun h => absurd (hAA b h) (Nat.not_le.mpr hbl)
  obtain ⟨v1, ev1⟩ : ∃ v : Int32, v = xs (1 : Int32).toNatClampNeg := ⟨_, rfl⟩
  obtain ⟨v2, ev2⟩ : ∃ v : Int32, v = xs (2 : Int32).toNatClampNeg := ⟨_, rfl⟩
  obtain ⟨v3, ev3⟩ : ∃ v : Int32, v = xs (3 : Int32).toNatClampNeg := ⟨_, rfl⟩
  obtain ⟨v4, ev4⟩ : ∃ v : Int32, v = xs (4 : Int32).toNatClampNeg := ⟨_, rfl⟩
  obtain ⟨v5, ev5⟩ : ∃ v : Int32, v = xs (5 : Int32).toNatClampNeg := ⟨_, rfl⟩
  have w_0 := hts0 (.instanceMethod yX9_sell) (List.mem_of_getElem? (i := 416) (by decide +kernel))
  have w_1 := hts0 (.instanceMethod yX10_sell) (List.mem_of_getElem? (i := 1070) (by decide +kernel))
  refine lv_aload_n hx hb dL_law_309 rfl (lv_at hl 2 rfl) ?_
  refine lv_aload_n hx hb dL_law_310 rfl (lv_at hl 3 rfl) ?_
  refine lv_iload_n hx hb dL_law_311 rfl (lv_at hl 0 rfl) ?_
  refine lv_iconst (v := 1) hx hb dL_law_312 (by decide) ?_
  refine lv_iadd hx hb dL_law_313 ?_
  refine lv_topi (fun x313 ex313 => ?_)
  obtain rfl : x313 = 1 := ex313.trans (by decide)
  refine va_sld hx hb hX hbl hbA hS (q_in (a := 1) (by decide) (by decide) (by decide)) dL_law_314 ?_
  refine lv_topi (fun x314 ex314 => ?_)
  obtain rfl : v1 = x314 := ev1.trans ex314.symm
  refine lv_aload_n hx hb dL_law_315 rfl (lv_at hl 3 rfl) ?_
  refine lv_iload_n hx hb dL_law_316 rfl (lv_at hl 0 rfl) ?_
  refine lv_iconst (v := 2) hx hb dL_law_317 (by decide) ?_
  refine lv_iadd hx hb dL_law_318 ?_
  refine lv_topi (fun x318 ex318 => ?_)
  obtain rfl : x318 = 2 := ex318.trans (by decide)
  refine va_sld hx hb hX hbl hbA hS (q_in (a := 2) (by decide) (by decide) (by decide)) dL_law_319 ?_
  refine lv_topi (fun x319 ex319 => ?_)
  obtain rfl : v2 = x319 := ev2.trans ex319.symm
  refine lv_aload_n hx hb dL_law_320 rfl (lv_at hl 3 rfl) ?_
  refine lv_iload_n hx hb dL_law_321 rfl (lv_at hl 0 rfl) ?_
  refine lv_iconst (v := 3) hx hb dL_law_322 (by decide) ?_
  refine lv_iadd hx hb dL_law_323 ?_
  refine lv_topi (fun x323 ex323 => ?_)
  obtain rfl : x323 = 3 := ex323.trans (by decide)
  refine va_sld hx hb hX hbl hbA hS (q_in (a := 3) (by decide) (by decide) (by decide)) dL_law_324 ?_
  refine lv_topi (fun x324 ex324 => ?_)
  obtain rfl : v3 = x324 := ev3.trans ex324.symm
  refine lv_aload_n hx hb dL_law_325 rfl (lv_at hl 3 rfl) ?_
  refine lv_iload_n hx hb dL_law_326 rfl (lv_at hl 0 rfl) ?_
  refine lv_iconst (v := 4) hx hb dL_law_327 (by decide) ?_
  refine lv_iadd hx hb dL_law_328 ?_
  refine lv_topi (fun x328 ex328 => ?_)
  obtain rfl : x328 = 4 := ex328.trans (by decide)
  refine va_sld hx hb hX hbl hbA hS (q_in (a := 4) (by decide) (by decide) (by decide)) dL_law_329 ?_
  refine lv_topi (fun x329 ex329 => ?_)
  obtain rfl : v4 = x329 := ev4.trans ex329.symm
  refine k_i (va_runV (As := [.int v1, .int v2, .int v3, .int v4]) (rest := []) ⟨hx, hb, hml, hown, hts⟩ (c_X9_sell l D cy x0 b0 im tp rd r0 u0 t0 l0 q0 of sh nl fc u1 u2 u3 v1 v2 v3 v4 H.size ) (cwV 4 hts gL_law_X9_sell rfl rfl rfl (by decide +kernel) ⟨Nat.le_of_ble_eq_true rfl, Nat.le_of_ble_eq_true rfl⟩) (cp_v hK hN hP hD [0, 1, 2, 3] rfl (by decide) (ci := 9) rfl rfl rfl) rfl rfl hl.1 rfl (lv_room (Nat.le_of_ble_eq_true rfl)) dL_law_330 ⟨Nat.le_of_ble_eq_true rfl, Nat.le_of_ble_eq_true rfl⟩) hP hD hS hA [0, 1, 2, 3] [4, 5] (wr := [(m0, .inr (10, [.int 0, .ref m_tape, .int 0, .ref m_stops, .ref m_km, .ref m_takes, .ref m_officeAt, .ref m_shares, .ref m_berths, .ref m_owner, .ref m_lies, .ref m_tickets, .ref m_tDay, .ref m_tBerth, .ref m_tFrom, .ref m_tTo, .ref m_tOffice, .ref m_tBack, .ref m_letters, .ref m_lComes, .ref m_lAnswer, .ref m_lOffice, .ref m_lDay, .ref m_lFrom, .ref m_lTo, .ref m_lTicket, .ref m_now, .ref m_lines, .ref m_lineTests, .ref m_testWhat, .ref m_testSign, .ref m_testThan, .ref m_lineAct, .ref m_lineNumber, .ref m_free, .ref m_newBerth, .int 0, .int 0, .int 0, .int 0, .int 0, .long 0, .int 0, .int (-1), .int 0, .int 0, .ref m_newTests, .ref m_newWhat, .ref m_newSign, .ref m_newThan, .ref m_newAct, .ref m_newNumber, .ref m_has])), (m_berths, .inl (cy 0, 240, .inl (fun _ => 0)))]) rfl rfl (by decide) (by decide) (fun r330 u_r330 H locs hw330 hP hD hS => ?_)
  try dsimp only at hw330
  have hP : va_P D vwCl [(m0, .inr (10, [.int 0, .ref m_tape, .int 0, .ref m_stops, .ref m_km, .ref m_takes, .ref m_officeAt, .ref m_shares, .ref m_berths, .ref m_owner, .ref m_lies, .ref m_tickets, .ref m_tDay, .ref m_tBerth, .ref m_tFrom, .ref m_tTo, .ref m_tOffice, .ref m_tBack, .ref m_letters, .ref m_lComes, .ref m_lAnswer, .ref m_lOffice, .ref m_lDay, .ref m_lFrom, .ref m_lTo, .ref m_lTicket, .ref m_now, .ref m_lines, .ref m_lineTests, .ref m_testWhat, .ref m_testSign, .ref m_testThan, .ref m_lineAct, .ref m_lineNumber, .ref m_free, .ref m_newBerth, .int 0, .int 0, .int 0, .int 0, .int 0, .long 0, .int 0, .int (-1), .int 0, .int 0, .ref m_newTests, .ref m_newWhat, .ref m_newSign, .ref m_newThan, .ref m_newAct, .ref m_newNumber, .ref m_has])), (m_berths, .inl (cy 0, 240, .inl (fun _ => 0)))] H := hP
  have hD : va_D A [(m0, .inr (10, [.int 0, .ref m_tape, .int 0, .ref m_stops, .ref m_km, .ref m_takes, .ref m_officeAt, .ref m_shares, .ref m_berths, .ref m_owner, .ref m_lies, .ref m_tickets, .ref m_tDay, .ref m_tBerth, .ref m_tFrom, .ref m_tTo, .ref m_tOffice, .ref m_tBack, .ref m_letters, .ref m_lComes, .ref m_lAnswer, .ref m_lOffice, .ref m_lDay, .ref m_lFrom, .ref m_lTo, .ref m_lTicket, .ref m_now, .ref m_lines, .ref m_lineTests, .ref m_testWhat, .ref m_testSign, .ref m_testThan, .ref m_lineAct, .ref m_lineNumber, .ref m_free, .ref m_newBerth, .int 0, .int 0, .int 0, .int 0, .int 0, .long 0, .int 0, .int (-1), .int 0, .int 0, .ref m_newTests, .ref m_newWhat, .ref m_newSign, .ref m_newThan, .ref m_newAct, .ref m_newNumber, .ref m_has])), (m_berths, .inl (cy 0, 240, .inl (fun _ => 0)))] := hD
  refine lv_aload_n hx hb dL_law_333 rfl (lv_at hl 1 rfl) ?_
  refine lv_aload_n hx hb dL_law_334 rfl (lv_at hl 3 rfl) ?_
  refine lv_iload_n hx hb dL_law_335 rfl (lv_at hl 0 rfl) ?_
  refine lv_iconst (v := 1) hx hb dL_law_336 (by decide) ?_
  refine lv_iadd hx hb dL_law_337 ?_
  refine lv_topi (fun x337 ex337 => ?_)
  obtain rfl : x337 = 1 := ex337.trans (by decide)
  refine va_sld hx hb hX hbl hbA hS (q_in (a := 1) (by decide) (by decide) (by decide)) dL_law_338 ?_
  refine lv_topi (fun x338 ex338 => ?_)
  obtain rfl : v1 = x338 := ev1.trans ex338.symm
  refine lv_aload_n hx hb dL_law_339 rfl (lv_at hl 3 rfl) ?_
  refine lv_iload_n hx hb dL_law_340 rfl (lv_at hl 0 rfl) ?_
  refine lv_iconst (v := 2) hx hb dL_law_341 (by decide) ?_
  refine lv_iadd hx hb dL_law_342 ?_
  refine lv_topi (fun x342 ex342 => ?_)
  obtain rfl : x342 = 2 := ex342.trans (by decide)
  refine va_sld hx hb hX hbl hbA hS (q_in (a := 2) (by decide) (by decide) (by decide)) dL_law_343 ?_
  refine lv_topi (fun x343 ex343 => ?_)
  obtain rfl : v2 = x343 := ev2.trans ex343.symm
  refine lv_aload_n hx hb dL_law_344 rfl (lv_at hl 3 rfl) ?_
  refine lv_iload_n hx hb dL_law_345 rfl (lv_at hl 0 rfl) ?_
  refine lv_iconst (v := 3) hx hb dL_law_346 (by decide) ?_
  refine lv_iadd hx hb dL_law_347 ?_
  refine lv_topi (fun x347 ex347 => ?_)
  obtain rfl : x347 = 3 := ex347.trans (by decide)
  refine va_sld hx hb hX hbl hbA hS (q_in (a := 3) (by decide) (by decide) (by decide)) dL_law_348 ?_
  refine lv_topi (fun x348 ex348 => ?_)
  obtain rfl : v3 = x348 := ev3.trans ex348.symm
  refine lv_aload_n hx hb dL_law_349 rfl (lv_at hl 3 rfl) ?_
  refine lv_iload_n hx hb dL_law_350 rfl (lv_at hl 0 rfl) ?_
  refine lv_iconst (v := 4) hx hb dL_law_351 (by decide) ?_
  refine lv_iadd hx hb dL_law_352 ?_
  refine lv_topi (fun x352 ex352 => ?_)
  obtain rfl : x352 = 4 := ex352.trans (by decide)
  refine va_sld hx hb hX hbl hbA hS (q_in (a := 4) (by decide) (by decide) (by decide)) dL_law_353 ?_
  refine lv_topi (fun x353 ex353 => ?_)
  obtain rfl : v4 = x353 := ev4.trans ex353.symm
  refine k_i (va_runV (As := [.int v1, .int v2, .int v3, .int v4]) (rest := [.int r330]) ⟨hx, hb, hml, hown, hts⟩ (c_X10_sell l D cy m0 m_tape m_stops m_km m_takes m_officeAt m_shares m_berths m_owner m_lies m_tickets m_tDay m_tBerth m_tFrom m_tTo m_tOffice m_tBack m_letters m_lComes m_lAnswer m_lOffice m_lDay m_lFrom m_lTo m_lTicket m_now m_lines m_lineTests m_testWhat m_testSign m_testThan m_lineAct m_lineNumber m_free m_newBerth m_newTests m_newWhat m_newSign m_newThan m_newAct m_newNumber m_has v1 v2 v3 v4 H.size ) (cwV 4 hts gL_law_X10_sell rfl rfl rfl (by decide +kernel) ⟨Nat.le_of_ble_eq_true rfl, Nat.le_of_ble_eq_true rfl⟩) (cp_v hK hN hP hD [0, 1] rfl (by decide) (ci := 10) rfl rfl rfl) rfl rfl hl.1 rfl (lv_room (Nat.le_of_ble_eq_true rfl)) dL_law_354 ⟨Nat.le_of_ble_eq_true rfl, Nat.le_of_ble_eq_true rfl⟩) hP hD hS hA [0, 1] [] (wr := []) rfl rfl (by decide) (by decide) (fun r354 u_r354 H locs hw354 hP hD hS => ?_)
  try dsimp only at hw354
  have hP : va_P D vwCl [] H := hP
  have hD : va_D A [] := hD
  refine lv_icmp_eq (tgt := 947) hx hb dL_law_357 (by decide) (fun c357 => ?_) (fun c357 => ?_)
  · skip
    have fc357 := q_eq (a := r330.toInt) (b := r354.toInt) c357 rfl rfl
    exact law_tail C0 hA hAA (by decide) (by decide) hS ls (lv_sub hl [0, 3] rfl)
  · skip
    have fc357 := q_ne (a := r330.toInt) (b := r354.toInt) c357 rfl rfl
    exfalso; omega
set_option maxHeartbeats 4000000 in
set_option maxRecDepth 100000 in
theorem law_6 {p : Program} {e : Env} {s : State} {m : MethodId} {below : List Frame} {meth : Method} {c : Code} {l : Launch} {b : Nat} {xs : Nat → Int32} {A : Nat → Prop} {H : Heap} {locs : List Loc} {D : va_G} {cy : Nat → ClassId} (C0 : lw_At p s m meth c b 6 xs) (hA : ∀ q : Nat, s.heap.size ≤ q → A q) (hAA : ∀ q : Nat, A q → s.heap.size ≤ q) (hK : va_K D vwCl (tyL cy) s) (hN : NW s) (x0 b0 im tp rd r0 u0 t0 l0 q0 of sh nl fc t1 t2 t3 t4 t5 t6 m0 m_tape m_stops m_km m_takes m_officeAt m_shares m_berths m_owner m_lies m_tickets m_tDay m_tBerth m_tFrom m_tTo m_tOffice m_tBack m_letters m_lComes m_lAnswer m_lOffice m_lDay m_lFrom m_lTo m_lTicket m_now m_lines m_lineTests m_testWhat m_testSign m_testThan m_lineAct m_lineNumber m_free m_newBerth m_newTests m_newWhat m_newSign m_newThan m_newAct m_newNumber m_has : Nat) (g1 g2 fst fkm ftk fli : Nat → Int32) (hg1 : ∀ j : Nat, j < 9 → g1 j = 1) (hg2 : ∀ j : Nat, j < 9 → g2 j = 1) (hst : fst 0 = 2) (hkm : ∀ j : Nat, j < 9 → fkm j = 1) (htk : ∀ j : Nat, j < 9 → ftk j = 1) (hP : va_P D vwCl [(x0, .inr (9, [.ref b0, .ref im, .ref tp, .ref rd])), (b0, .inr (0, [.int 0, .ref r0, .ref u0, .ref t0, .ref l0, .ref q0, .ref of, .ref sh, .ref nl, .ref fc])), (t0, .inr (7, [.int 0, .ref t1, .ref t2, .ref t3, .ref t4, .ref t5, .ref t6])), (m0, .inr (10, [.int 0, .ref m_tape, .int 0, .ref m_stops, .ref m_km, .ref m_takes, .ref m_officeAt, .ref m_shares, .ref m_berths, .ref m_owner, .ref m_lies, .ref m_tickets, .ref m_tDay, .ref m_tBerth, .ref m_tFrom, .ref m_tTo, .ref m_tOffice, .ref m_tBack, .ref m_letters, .ref m_lComes, .ref m_lAnswer, .ref m_lOffice, .ref m_lDay, .ref m_lFrom, .ref m_lTo, .ref m_lTicket, .ref m_now, .ref m_lines, .ref m_lineTests, .ref m_testWhat, .ref m_testSign, .ref m_testThan, .ref m_lineAct, .ref m_lineNumber, .ref m_free, .ref m_newBerth, .int 0, .int 0, .int 0, .int 0, .int 0, .long 0, .int 0, .int (-1), .int 0, .int 0, .ref m_newTests, .ref m_newWhat, .ref m_newSign, .ref m_newThan, .ref m_newAct, .ref m_newNumber, .ref m_has])), (m_tickets, .inl (cy 0, 4, .inl (fun _ => 0)))] H) (hD : va_D A [(x0, .inr (9, [.ref b0, .ref im, .ref tp, .ref rd])), (b0, .inr (0, [.int 0, .ref r0, .ref u0, .ref t0, .ref l0, .ref q0, .ref of, .ref sh, .ref nl, .ref fc])), (t0, .inr (7, [.int 0, .ref t1, .ref t2, .ref t3, .ref t4, .ref t5, .ref t6])), (m0, .inr (10, [.int 0, .ref m_tape, .int 0, .ref m_stops, .ref m_km, .ref m_takes, .ref m_officeAt, .ref m_shares, .ref m_berths, .ref m_owner, .ref m_lies, .ref m_tickets, .ref m_tDay, .ref m_tBerth, .ref m_tFrom, .ref m_tTo, .ref m_tOffice, .ref m_tBack, .ref m_letters, .ref m_lComes, .ref m_lAnswer, .ref m_lOffice, .ref m_lDay, .ref m_lFrom, .ref m_lTo, .ref m_lTicket, .ref m_now, .ref m_lines, .ref m_lineTests, .ref m_testWhat, .ref m_testSign, .ref m_testThan, .ref m_lineAct, .ref m_lineNumber, .ref m_free, .ref m_newBerth, .int 0, .int 0, .int 0, .int 0, .int 0, .long 0, .int 0, .int (-1), .int 0, .int 0, .ref m_newTests, .ref m_newWhat, .ref m_newSign, .ref m_newThan, .ref m_newAct, .ref m_newNumber, .ref m_has])), (m_tickets, .inl (cy 0, 4, .inl (fun _ => 0)))]) (hS : va_S A s.heap H locs) (ls : Array Slot) (hl : lv_has ls 4 [(3, .int 0), (2, .ref m0), (1, .ref x0), (0, .ref b)]) : W p l e room_1 s m #[Value.ref b] below meth c H locs 94 42452 (lw_Z below #[Value.ref b] s) (F0 m 362 ls []) := by
  obtain ⟨hx, hb, hr, hml, hown, hts0, hX, hbl, hlocks, hgv⟩ := id C0
  have hown : s.vm.findClass RL = some m.cls := hown
  have hts : ∀ w ∈ wsL_law, w.before #[Value.ref b] s = true := fun w h => hts0 w (wsL_law_in w h)
  have hbA : ¬ A b := fun h => absurd (hAA b h) (Nat.not_le.mpr hbl)
  obtain ⟨v1, ev1⟩ : ∃ v : Int32, v = xs (1 : Int32).toNatClampNeg := ⟨_, rfl⟩
  obtain ⟨v2, ev2⟩ : ∃ v : Int32, v = xs (2 : Int32).toNatClampNeg := ⟨_, rfl⟩
  obtain ⟨v3, ev3⟩ : ∃ v : Int32, v = xs (3 : Int32).toNatClampNeg := ⟨_, rfl⟩
  obtain ⟨v4, ev4⟩ : ∃ v : Int32, v = xs (4 : Int32).toNatClampNeg := ⟨_, rfl⟩
  obtain ⟨v5, ev5⟩ : ∃ v : Int32, v = xs (5 : Int32).toNatClampNeg := ⟨_, rfl⟩
  have w_0 := hts0 (.instanceMethod yX9_back) (List.mem_of_getElem? (i := 475) (by decide +kernel))
  have w_1 := hts0 (.instanceMethod yX10_back) (List.mem_of_getElem? (i := 1110) (by decide +kernel))
  refine lv_aload_n hx hb dL_law_362 rfl (lv_at hl 2 rfl) ?_
  refine lv_aload_n hx hb dL_law_363 rfl (lv_at hl 3 rfl) ?_
  refine lv_iload_n hx hb dL_law_364 rfl (lv_at hl 0 rfl) ?_
  refine lv_iconst (v := 1) hx hb dL_law_365 (by decide) ?_
  refine lv_iadd hx hb dL_law_366 ?_
  refine lv_topi (fun x366 ex366 => ?_)
  obtain rfl : x366 = 1 := ex366.trans (by decide)
  refine va_sld hx hb hX hbl hbA hS (q_in (a := 1) (by decide) (by decide) (by decide)) dL_law_367 ?_
  refine lv_topi (fun x367 ex367 => ?_)
  obtain rfl : v1 = x367 := ev1.trans ex367.symm
  refine k_i (va_runV (As := [.int v1]) (rest := []) ⟨hx, hb, hml, hown, hts⟩ (c_X9_back l D cy x0 b0 im tp rd r0 u0 t0 l0 q0 of sh nl fc t1 t2 t3 t4 t5 t6 v1 H.size ) (cwV 1 hts gL_law_X9_back rfl rfl rfl (by decide +kernel) ⟨Nat.le_of_ble_eq_true rfl, Nat.le_of_ble_eq_true rfl⟩) (cp_v hK hN hP hD [0, 1, 2] rfl (by decide) (ci := 9) rfl rfl rfl) rfl rfl hl.1 rfl (lv_room (Nat.le_of_ble_eq_true rfl)) dL_law_368 ⟨Nat.le_of_ble_eq_true rfl, Nat.le_of_ble_eq_true rfl⟩) hP hD hS hA [0, 1, 2] [3, 4] (wr := [(m0, .inr (10, [.int 0, .ref m_tape, .int 0, .ref m_stops, .ref m_km, .ref m_takes, .ref m_officeAt, .ref m_shares, .ref m_berths, .ref m_owner, .ref m_lies, .ref m_tickets, .ref m_tDay, .ref m_tBerth, .ref m_tFrom, .ref m_tTo, .ref m_tOffice, .ref m_tBack, .ref m_letters, .ref m_lComes, .ref m_lAnswer, .ref m_lOffice, .ref m_lDay, .ref m_lFrom, .ref m_lTo, .ref m_lTicket, .ref m_now, .ref m_lines, .ref m_lineTests, .ref m_testWhat, .ref m_testSign, .ref m_testThan, .ref m_lineAct, .ref m_lineNumber, .ref m_free, .ref m_newBerth, .int 0, .int 0, .int 0, .int 0, .int 0, .long 0, .int 0, .int (-1), .int 0, .int 0, .ref m_newTests, .ref m_newWhat, .ref m_newSign, .ref m_newThan, .ref m_newAct, .ref m_newNumber, .ref m_has])), (m_tickets, .inl (cy 0, 4, .inl (fun _ => 0)))]) rfl rfl (by decide) (by decide) (fun r368 u_r368 H locs hw368 hP hD hS => ?_)
  try dsimp only at hw368
  have hP : va_P D vwCl [(m0, .inr (10, [.int 0, .ref m_tape, .int 0, .ref m_stops, .ref m_km, .ref m_takes, .ref m_officeAt, .ref m_shares, .ref m_berths, .ref m_owner, .ref m_lies, .ref m_tickets, .ref m_tDay, .ref m_tBerth, .ref m_tFrom, .ref m_tTo, .ref m_tOffice, .ref m_tBack, .ref m_letters, .ref m_lComes, .ref m_lAnswer, .ref m_lOffice, .ref m_lDay, .ref m_lFrom, .ref m_lTo, .ref m_lTicket, .ref m_now, .ref m_lines, .ref m_lineTests, .ref m_testWhat, .ref m_testSign, .ref m_testThan, .ref m_lineAct, .ref m_lineNumber, .ref m_free, .ref m_newBerth, .int 0, .int 0, .int 0, .int 0, .int 0, .long 0, .int 0, .int (-1), .int 0, .int 0, .ref m_newTests, .ref m_newWhat, .ref m_newSign, .ref m_newThan, .ref m_newAct, .ref m_newNumber, .ref m_has])), (m_tickets, .inl (cy 0, 4, .inl (fun _ => 0)))] H := hP
  have hD : va_D A [(m0, .inr (10, [.int 0, .ref m_tape, .int 0, .ref m_stops, .ref m_km, .ref m_takes, .ref m_officeAt, .ref m_shares, .ref m_berths, .ref m_owner, .ref m_lies, .ref m_tickets, .ref m_tDay, .ref m_tBerth, .ref m_tFrom, .ref m_tTo, .ref m_tOffice, .ref m_tBack, .ref m_letters, .ref m_lComes, .ref m_lAnswer, .ref m_lOffice, .ref m_lDay, .ref m_lFrom, .ref m_lTo, .ref m_lTicket, .ref m_now, .ref m_lines, .ref m_lineTests, .ref m_testWhat, .ref m_testSign, .ref m_testThan, .ref m_lineAct, .ref m_lineNumber, .ref m_free, .ref m_newBerth, .int 0, .int 0, .int 0, .int 0, .int 0, .long 0, .int 0, .int (-1), .int 0, .int 0, .ref m_newTests, .ref m_newWhat, .ref m_newSign, .ref m_newThan, .ref m_newAct, .ref m_newNumber, .ref m_has])), (m_tickets, .inl (cy 0, 4, .inl (fun _ => 0)))] := hD
  refine lv_aload_n hx hb dL_law_371 rfl (lv_at hl 1 rfl) ?_
  refine lv_aload_n hx hb dL_law_372 rfl (lv_at hl 3 rfl) ?_
  refine lv_iload_n hx hb dL_law_373 rfl (lv_at hl 0 rfl) ?_
  refine lv_iconst (v := 1) hx hb dL_law_374 (by decide) ?_
  refine lv_iadd hx hb dL_law_375 ?_
  refine lv_topi (fun x375 ex375 => ?_)
  obtain rfl : x375 = 1 := ex375.trans (by decide)
  refine va_sld hx hb hX hbl hbA hS (q_in (a := 1) (by decide) (by decide) (by decide)) dL_law_376 ?_
  refine lv_topi (fun x376 ex376 => ?_)
  obtain rfl : v1 = x376 := ev1.trans ex376.symm
  refine k_i (va_runV (As := [.int v1]) (rest := [.int r368]) ⟨hx, hb, hml, hown, hts⟩ (c_X10_back l D cy m0 m_tape m_stops m_km m_takes m_officeAt m_shares m_berths m_owner m_lies m_tickets m_tDay m_tBerth m_tFrom m_tTo m_tOffice m_tBack m_letters m_lComes m_lAnswer m_lOffice m_lDay m_lFrom m_lTo m_lTicket m_now m_lines m_lineTests m_testWhat m_testSign m_testThan m_lineAct m_lineNumber m_free m_newBerth m_newTests m_newWhat m_newSign m_newThan m_newAct m_newNumber m_has v1 H.size ) (cwV 1 hts gL_law_X10_back rfl rfl rfl (by decide +kernel) ⟨Nat.le_of_ble_eq_true rfl, Nat.le_of_ble_eq_true rfl⟩) (cp_v hK hN hP hD [0, 1] rfl (by decide) (ci := 10) rfl rfl rfl) rfl rfl hl.1 rfl (lv_room (Nat.le_of_ble_eq_true rfl)) dL_law_377 ⟨Nat.le_of_ble_eq_true rfl, Nat.le_of_ble_eq_true rfl⟩) hP hD hS hA [0, 1] [] (wr := []) rfl rfl (by decide) (by decide) (fun r377 u_r377 H locs hw377 hP hD hS => ?_)
  try dsimp only at hw377
  have hP : va_P D vwCl [] H := hP
  have hD : va_D A [] := hD
  refine lv_icmp_eq (tgt := 947) hx hb dL_law_380 (by decide) (fun c380 => ?_) (fun c380 => ?_)
  · skip
    have fc380 := q_eq (a := r368.toInt) (b := r377.toInt) c380 rfl rfl
    exact law_tail C0 hA hAA (by decide) (by decide) hS ls (lv_sub hl [0, 3] rfl)
  · skip
    have fc380 := q_ne (a := r368.toInt) (b := r377.toInt) c380 rfl rfl
    exfalso; omega
set_option maxHeartbeats 4000000 in
set_option maxRecDepth 100000 in
theorem law_7 {p : Program} {e : Env} {s : State} {m : MethodId} {below : List Frame} {meth : Method} {c : Code} {l : Launch} {b : Nat} {xs : Nat → Int32} {A : Nat → Prop} {H : Heap} {locs : List Loc} {D : va_G} {cy : Nat → ClassId} (C0 : lw_At p s m meth c b 6 xs) (hA : ∀ q : Nat, s.heap.size ≤ q → A q) (hAA : ∀ q : Nat, A q → s.heap.size ≤ q) (hK : va_K D vwCl (tyL cy) s) (hN : NW s) (x0 b0 im tp rd r0 u0 t0 l0 q0 of sh nl fc u1 u2 u3 m0 m_tape m_stops m_km m_takes m_officeAt m_shares m_berths m_owner m_lies m_tickets m_tDay m_tBerth m_tFrom m_tTo m_tOffice m_tBack m_letters m_lComes m_lAnswer m_lOffice m_lDay m_lFrom m_lTo m_lTicket m_now m_lines m_lineTests m_testWhat m_testSign m_testThan m_lineAct m_lineNumber m_free m_newBerth m_newTests m_newWhat m_newSign m_newThan m_newAct m_newNumber m_has : Nat) (g1 g2 fst fkm ftk fli : Nat → Int32) (hg1 : ∀ j : Nat, j < 9 → g1 j = 1) (hg2 : ∀ j : Nat, j < 9 → g2 j = 1) (hst : fst 0 = 2) (hkm : ∀ j : Nat, j < 9 → fkm j = 1) (htk : ∀ j : Nat, j < 9 → ftk j = 1) (hP : va_P D vwCl [(x0, .inr (9, [.ref b0, .ref im, .ref tp, .ref rd])), (b0, .inr (0, [.int 0, .ref r0, .ref u0, .ref t0, .ref l0, .ref q0, .ref of, .ref sh, .ref nl, .ref fc])), (u0, .inr (5, [.int 0, .ref u1, .ref u2, .ref u3])), (u1, .inl (cy 0, 60, .inl (fun _ => 0))), (m0, .inr (10, [.int 0, .ref m_tape, .int 0, .ref m_stops, .ref m_km, .ref m_takes, .ref m_officeAt, .ref m_shares, .ref m_berths, .ref m_owner, .ref m_lies, .ref m_tickets, .ref m_tDay, .ref m_tBerth, .ref m_tFrom, .ref m_tTo, .ref m_tOffice, .ref m_tBack, .ref m_letters, .ref m_lComes, .ref m_lAnswer, .ref m_lOffice, .ref m_lDay, .ref m_lFrom, .ref m_lTo, .ref m_lTicket, .ref m_now, .ref m_lines, .ref m_lineTests, .ref m_testWhat, .ref m_testSign, .ref m_testThan, .ref m_lineAct, .ref m_lineNumber, .ref m_free, .ref m_newBerth, .int 0, .int 0, .int 0, .int 0, .int 0, .long 0, .int 0, .int (-1), .int 0, .int 0, .ref m_newTests, .ref m_newWhat, .ref m_newSign, .ref m_newThan, .ref m_newAct, .ref m_newNumber, .ref m_has])), (m_berths, .inl (cy 0, 240, .inl (fun _ => 0)))] H) (hD : va_D A [(x0, .inr (9, [.ref b0, .ref im, .ref tp, .ref rd])), (b0, .inr (0, [.int 0, .ref r0, .ref u0, .ref t0, .ref l0, .ref q0, .ref of, .ref sh, .ref nl, .ref fc])), (u0, .inr (5, [.int 0, .ref u1, .ref u2, .ref u3])), (u1, .inl (cy 0, 60, .inl (fun _ => 0))), (m0, .inr (10, [.int 0, .ref m_tape, .int 0, .ref m_stops, .ref m_km, .ref m_takes, .ref m_officeAt, .ref m_shares, .ref m_berths, .ref m_owner, .ref m_lies, .ref m_tickets, .ref m_tDay, .ref m_tBerth, .ref m_tFrom, .ref m_tTo, .ref m_tOffice, .ref m_tBack, .ref m_letters, .ref m_lComes, .ref m_lAnswer, .ref m_lOffice, .ref m_lDay, .ref m_lFrom, .ref m_lTo, .ref m_lTicket, .ref m_now, .ref m_lines, .ref m_lineTests, .ref m_testWhat, .ref m_testSign, .ref m_testThan, .ref m_lineAct, .ref m_lineNumber, .ref m_free, .ref m_newBerth, .int 0, .int 0, .int 0, .int 0, .int 0, .long 0, .int 0, .int (-1), .int 0, .int 0, .ref m_newTests, .ref m_newWhat, .ref m_newSign, .ref m_newThan, .ref m_newAct, .ref m_newNumber, .ref m_has])), (m_berths, .inl (cy 0, 240, .inl (fun _ => 0)))]) (hS : va_S A s.heap H locs) (ls : Array Slot) (hl : lv_has ls 4 [(3, .int 0), (2, .ref m0), (1, .ref x0), (0, .ref b)]) : W p l e room_1 s m #[Value.ref b] below meth c H locs 94 42452 (lw_Z below #[Value.ref b] s) (F0 m 385 ls []) := by
  obtain ⟨hx, hb, hr, hml, hown, hts0, hX, hbl, hlocks, hgv⟩ := id C0
  have hown : s.vm.findClass RL = some m.cls := hown
  have hts : ∀ w ∈ wsL_law, w.before #[Value.ref b] s = true := fun w h => hts0 w (wsL_law_in w h)
  have hbA : ¬ A b := fun h => absurd (hAA b h) (Nat.not_le.mpr hbl)
  obtain ⟨v1, ev1⟩ : ∃ v : Int32, v = xs (1 : Int32).toNatClampNeg := ⟨_, rfl⟩
  obtain ⟨v2, ev2⟩ : ∃ v : Int32, v = xs (2 : Int32).toNatClampNeg := ⟨_, rfl⟩
  obtain ⟨v3, ev3⟩ : ∃ v : Int32, v = xs (3 : Int32).toNatClampNeg := ⟨_, rfl⟩
  obtain ⟨v4, ev4⟩ : ∃ v : Int32, v = xs (4 : Int32).toNatClampNeg := ⟨_, rfl⟩
  obtain ⟨v5, ev5⟩ : ∃ v : Int32, v = xs (5 : Int32).toNatClampNeg := ⟨_, rfl⟩
  have w_0 := hts0 (.instanceMethod yX9_letter) (List.mem_of_getElem? (i := 492) (by decide +kernel))
  have w_1 := hts0 (.instanceMethod yX10_letter) (List.mem_of_getElem? (i := 1114) (by decide +kernel))
  refine lv_aload_n hx hb dL_law_385 rfl (lv_at hl 2 rfl) ?_
  refine lv_aload_n hx hb dL_law_386 rfl (lv_at hl 3 rfl) ?_
  refine lv_iload_n hx hb dL_law_387 rfl (lv_at hl 0 rfl) ?_
  refine lv_iconst (v := 1) hx hb dL_law_388 (by decide) ?_
  refine lv_iadd hx hb dL_law_389 ?_
  refine lv_topi (fun x389 ex389 => ?_)
  obtain rfl : x389 = 1 := ex389.trans (by decide)
  refine va_sld hx hb hX hbl hbA hS (q_in (a := 1) (by decide) (by decide) (by decide)) dL_law_390 ?_
  refine lv_topi (fun x390 ex390 => ?_)
  obtain rfl : v1 = x390 := ev1.trans ex390.symm
  refine lv_aload_n hx hb dL_law_391 rfl (lv_at hl 3 rfl) ?_
  refine lv_iload_n hx hb dL_law_392 rfl (lv_at hl 0 rfl) ?_
  refine lv_iconst (v := 2) hx hb dL_law_393 (by decide) ?_
  refine lv_iadd hx hb dL_law_394 ?_
  refine lv_topi (fun x394 ex394 => ?_)
  obtain rfl : x394 = 2 := ex394.trans (by decide)
  refine va_sld hx hb hX hbl hbA hS (q_in (a := 2) (by decide) (by decide) (by decide)) dL_law_395 ?_
  refine lv_topi (fun x395 ex395 => ?_)
  obtain rfl : v2 = x395 := ev2.trans ex395.symm
  refine lv_aload_n hx hb dL_law_396 rfl (lv_at hl 3 rfl) ?_
  refine lv_iload_n hx hb dL_law_397 rfl (lv_at hl 0 rfl) ?_
  refine lv_iconst (v := 3) hx hb dL_law_398 (by decide) ?_
  refine lv_iadd hx hb dL_law_399 ?_
  refine lv_topi (fun x399 ex399 => ?_)
  obtain rfl : x399 = 3 := ex399.trans (by decide)
  refine va_sld hx hb hX hbl hbA hS (q_in (a := 3) (by decide) (by decide) (by decide)) dL_law_400 ?_
  refine lv_topi (fun x400 ex400 => ?_)
  obtain rfl : v3 = x400 := ev3.trans ex400.symm
  refine lv_aload_n hx hb dL_law_401 rfl (lv_at hl 3 rfl) ?_
  refine lv_iload_n hx hb dL_law_402 rfl (lv_at hl 0 rfl) ?_
  refine lv_iconst (v := 4) hx hb dL_law_403 (by decide) ?_
  refine lv_iadd hx hb dL_law_404 ?_
  refine lv_topi (fun x404 ex404 => ?_)
  obtain rfl : x404 = 4 := ex404.trans (by decide)
  refine va_sld hx hb hX hbl hbA hS (q_in (a := 4) (by decide) (by decide) (by decide)) dL_law_405 ?_
  refine lv_topi (fun x405 ex405 => ?_)
  obtain rfl : v4 = x405 := ev4.trans ex405.symm
  refine lv_aload_n hx hb dL_law_406 rfl (lv_at hl 3 rfl) ?_
  refine lv_iload_n hx hb dL_law_407 rfl (lv_at hl 0 rfl) ?_
  refine lv_iconst (v := 5) hx hb dL_law_408 (by decide) ?_
  refine lv_iadd hx hb dL_law_409 ?_
  refine lv_topi (fun x409 ex409 => ?_)
  obtain rfl : x409 = 5 := ex409.trans (by decide)
  refine va_sld hx hb hX hbl hbA hS (q_in (a := 5) (by decide) (by decide) (by decide)) dL_law_410 ?_
  refine lv_topi (fun x410 ex410 => ?_)
  obtain rfl : v5 = x410 := ev5.trans ex410.symm
  refine k_i (va_runV (As := [.int v1, .int v2, .int v3, .int v4, .int v5]) (rest := []) ⟨hx, hb, hml, hown, hts⟩ (c_X9_letter l D cy x0 b0 im tp rd r0 u0 t0 l0 q0 of sh nl fc u1 u2 u3 v1 v2 v3 v4 v5 H.size ) (cwV 5 hts gL_law_X9_letter rfl rfl rfl (by decide +kernel) ⟨Nat.le_of_ble_eq_true rfl, Nat.le_of_ble_eq_true rfl⟩) (cp_v hK hN hP hD [0, 1, 2, 3] rfl (by decide) (ci := 9) rfl rfl rfl) rfl rfl hl.1 rfl (lv_room (Nat.le_of_ble_eq_true rfl)) dL_law_411 ⟨Nat.le_of_ble_eq_true rfl, Nat.le_of_ble_eq_true rfl⟩) hP hD hS hA [0, 1, 2, 3] [4, 5] (wr := [(m0, .inr (10, [.int 0, .ref m_tape, .int 0, .ref m_stops, .ref m_km, .ref m_takes, .ref m_officeAt, .ref m_shares, .ref m_berths, .ref m_owner, .ref m_lies, .ref m_tickets, .ref m_tDay, .ref m_tBerth, .ref m_tFrom, .ref m_tTo, .ref m_tOffice, .ref m_tBack, .ref m_letters, .ref m_lComes, .ref m_lAnswer, .ref m_lOffice, .ref m_lDay, .ref m_lFrom, .ref m_lTo, .ref m_lTicket, .ref m_now, .ref m_lines, .ref m_lineTests, .ref m_testWhat, .ref m_testSign, .ref m_testThan, .ref m_lineAct, .ref m_lineNumber, .ref m_free, .ref m_newBerth, .int 0, .int 0, .int 0, .int 0, .int 0, .long 0, .int 0, .int (-1), .int 0, .int 0, .ref m_newTests, .ref m_newWhat, .ref m_newSign, .ref m_newThan, .ref m_newAct, .ref m_newNumber, .ref m_has])), (m_berths, .inl (cy 0, 240, .inl (fun _ => 0)))]) rfl rfl (by decide) (by decide) (fun r411 u_r411 H locs hw411 hP hD hS => ?_)
  try dsimp only at hw411
  have hP : va_P D vwCl [(m0, .inr (10, [.int 0, .ref m_tape, .int 0, .ref m_stops, .ref m_km, .ref m_takes, .ref m_officeAt, .ref m_shares, .ref m_berths, .ref m_owner, .ref m_lies, .ref m_tickets, .ref m_tDay, .ref m_tBerth, .ref m_tFrom, .ref m_tTo, .ref m_tOffice, .ref m_tBack, .ref m_letters, .ref m_lComes, .ref m_lAnswer, .ref m_lOffice, .ref m_lDay, .ref m_lFrom, .ref m_lTo, .ref m_lTicket, .ref m_now, .ref m_lines, .ref m_lineTests, .ref m_testWhat, .ref m_testSign, .ref m_testThan, .ref m_lineAct, .ref m_lineNumber, .ref m_free, .ref m_newBerth, .int 0, .int 0, .int 0, .int 0, .int 0, .long 0, .int 0, .int (-1), .int 0, .int 0, .ref m_newTests, .ref m_newWhat, .ref m_newSign, .ref m_newThan, .ref m_newAct, .ref m_newNumber, .ref m_has])), (m_berths, .inl (cy 0, 240, .inl (fun _ => 0)))] H := hP
  have hD : va_D A [(m0, .inr (10, [.int 0, .ref m_tape, .int 0, .ref m_stops, .ref m_km, .ref m_takes, .ref m_officeAt, .ref m_shares, .ref m_berths, .ref m_owner, .ref m_lies, .ref m_tickets, .ref m_tDay, .ref m_tBerth, .ref m_tFrom, .ref m_tTo, .ref m_tOffice, .ref m_tBack, .ref m_letters, .ref m_lComes, .ref m_lAnswer, .ref m_lOffice, .ref m_lDay, .ref m_lFrom, .ref m_lTo, .ref m_lTicket, .ref m_now, .ref m_lines, .ref m_lineTests, .ref m_testWhat, .ref m_testSign, .ref m_testThan, .ref m_lineAct, .ref m_lineNumber, .ref m_free, .ref m_newBerth, .int 0, .int 0, .int 0, .int 0, .int 0, .long 0, .int 0, .int (-1), .int 0, .int 0, .ref m_newTests, .ref m_newWhat, .ref m_newSign, .ref m_newThan, .ref m_newAct, .ref m_newNumber, .ref m_has])), (m_berths, .inl (cy 0, 240, .inl (fun _ => 0)))] := hD
  refine lv_aload_n hx hb dL_law_414 rfl (lv_at hl 1 rfl) ?_
  refine lv_aload_n hx hb dL_law_415 rfl (lv_at hl 3 rfl) ?_
  refine lv_iload_n hx hb dL_law_416 rfl (lv_at hl 0 rfl) ?_
  refine lv_iconst (v := 1) hx hb dL_law_417 (by decide) ?_
  refine lv_iadd hx hb dL_law_418 ?_
  refine lv_topi (fun x418 ex418 => ?_)
  obtain rfl : x418 = 1 := ex418.trans (by decide)
  refine va_sld hx hb hX hbl hbA hS (q_in (a := 1) (by decide) (by decide) (by decide)) dL_law_419 ?_
  refine lv_topi (fun x419 ex419 => ?_)
  obtain rfl : v1 = x419 := ev1.trans ex419.symm
  refine lv_aload_n hx hb dL_law_420 rfl (lv_at hl 3 rfl) ?_
  refine lv_iload_n hx hb dL_law_421 rfl (lv_at hl 0 rfl) ?_
  refine lv_iconst (v := 2) hx hb dL_law_422 (by decide) ?_
  refine lv_iadd hx hb dL_law_423 ?_
  refine lv_topi (fun x423 ex423 => ?_)
  obtain rfl : x423 = 2 := ex423.trans (by decide)
  refine va_sld hx hb hX hbl hbA hS (q_in (a := 2) (by decide) (by decide) (by decide)) dL_law_424 ?_
  refine lv_topi (fun x424 ex424 => ?_)
  obtain rfl : v2 = x424 := ev2.trans ex424.symm
  refine lv_aload_n hx hb dL_law_425 rfl (lv_at hl 3 rfl) ?_
  refine lv_iload_n hx hb dL_law_426 rfl (lv_at hl 0 rfl) ?_
  refine lv_iconst (v := 3) hx hb dL_law_427 (by decide) ?_
  refine lv_iadd hx hb dL_law_428 ?_
  refine lv_topi (fun x428 ex428 => ?_)
  obtain rfl : x428 = 3 := ex428.trans (by decide)
  refine va_sld hx hb hX hbl hbA hS (q_in (a := 3) (by decide) (by decide) (by decide)) dL_law_429 ?_
  refine lv_topi (fun x429 ex429 => ?_)
  obtain rfl : v3 = x429 := ev3.trans ex429.symm
  refine lv_aload_n hx hb dL_law_430 rfl (lv_at hl 3 rfl) ?_
  refine lv_iload_n hx hb dL_law_431 rfl (lv_at hl 0 rfl) ?_
  refine lv_iconst (v := 4) hx hb dL_law_432 (by decide) ?_
  refine lv_iadd hx hb dL_law_433 ?_
  refine lv_topi (fun x433 ex433 => ?_)
  obtain rfl : x433 = 4 := ex433.trans (by decide)
  refine va_sld hx hb hX hbl hbA hS (q_in (a := 4) (by decide) (by decide) (by decide)) dL_law_434 ?_
  refine lv_topi (fun x434 ex434 => ?_)
  obtain rfl : v4 = x434 := ev4.trans ex434.symm
  refine lv_aload_n hx hb dL_law_435 rfl (lv_at hl 3 rfl) ?_
  refine lv_iload_n hx hb dL_law_436 rfl (lv_at hl 0 rfl) ?_
  refine lv_iconst (v := 5) hx hb dL_law_437 (by decide) ?_
  refine lv_iadd hx hb dL_law_438 ?_
  refine lv_topi (fun x438 ex438 => ?_)
  obtain rfl : x438 = 5 := ex438.trans (by decide)
  refine va_sld hx hb hX hbl hbA hS (q_in (a := 5) (by decide) (by decide) (by decide)) dL_law_439 ?_
  refine lv_topi (fun x439 ex439 => ?_)
  obtain rfl : v5 = x439 := ev5.trans ex439.symm
  refine k_i (va_runV (As := [.int v1, .int v2, .int v3, .int v4, .int v5]) (rest := [.int r411]) ⟨hx, hb, hml, hown, hts⟩ (c_X10_letter l D cy m0 m_tape m_stops m_km m_takes m_officeAt m_shares m_berths m_owner m_lies m_tickets m_tDay m_tBerth m_tFrom m_tTo m_tOffice m_tBack m_letters m_lComes m_lAnswer m_lOffice m_lDay m_lFrom m_lTo m_lTicket m_now m_lines m_lineTests m_testWhat m_testSign m_testThan m_lineAct m_lineNumber m_free m_newBerth m_newTests m_newWhat m_newSign m_newThan m_newAct m_newNumber m_has v1 v2 v3 v4 v5 H.size ) (cwV 5 hts gL_law_X10_letter rfl rfl rfl (by decide +kernel) ⟨Nat.le_of_ble_eq_true rfl, Nat.le_of_ble_eq_true rfl⟩) (cp_v hK hN hP hD [0, 1] rfl (by decide) (ci := 10) rfl rfl rfl) rfl rfl hl.1 rfl (lv_room (Nat.le_of_ble_eq_true rfl)) dL_law_440 ⟨Nat.le_of_ble_eq_true rfl, Nat.le_of_ble_eq_true rfl⟩) hP hD hS hA [0, 1] [] (wr := []) rfl rfl (by decide) (by decide) (fun r440 u_r440 H locs hw440 hP hD hS => ?_)
  try dsimp only at hw440
  have hP : va_P D vwCl [] H := hP
  have hD : va_D A [] := hD
  refine lv_icmp_eq (tgt := 947) hx hb dL_law_443 (by decide) (fun c443 => ?_) (fun c443 => ?_)
  · skip
    have fc443 := q_eq (a := r411.toInt) (b := r440.toInt) c443 rfl rfl
    exact law_tail C0 hA hAA (by decide) (by decide) hS ls (lv_sub hl [0, 3] rfl)
  · skip
    have fc443 := q_ne (a := r411.toInt) (b := r440.toInt) c443 rfl rfl
    exfalso; omega
set_option maxHeartbeats 4000000 in
set_option maxRecDepth 100000 in
theorem law_8 {p : Program} {e : Env} {s : State} {m : MethodId} {below : List Frame} {meth : Method} {c : Code} {l : Launch} {b : Nat} {xs : Nat → Int32} {A : Nat → Prop} {H : Heap} {locs : List Loc} {D : va_G} {cy : Nat → ClassId} (C0 : lw_At p s m meth c b 6 xs) (hA : ∀ q : Nat, s.heap.size ≤ q → A q) (hAA : ∀ q : Nat, A q → s.heap.size ≤ q) (hK : va_K D vwCl (tyL cy) s) (hN : NW s) (x0 b0 im tp rd r0 u0 t0 l0 q0 of sh nl fc l1 l2 l3 l4 l5 l6 l7 m0 m_tape m_stops m_km m_takes m_officeAt m_shares m_berths m_owner m_lies m_tickets m_tDay m_tBerth m_tFrom m_tTo m_tOffice m_tBack m_letters m_lComes m_lAnswer m_lOffice m_lDay m_lFrom m_lTo m_lTicket m_now m_lines m_lineTests m_testWhat m_testSign m_testThan m_lineAct m_lineNumber m_free m_newBerth m_newTests m_newWhat m_newSign m_newThan m_newAct m_newNumber m_has : Nat) (g1 g2 fst fkm ftk fli : Nat → Int32) (hg1 : ∀ j : Nat, j < 9 → g1 j = 1) (hg2 : ∀ j : Nat, j < 9 → g2 j = 1) (hst : fst 0 = 2) (hkm : ∀ j : Nat, j < 9 → fkm j = 1) (htk : ∀ j : Nat, j < 9 → ftk j = 1) (hP : va_P D vwCl [(x0, .inr (9, [.ref b0, .ref im, .ref tp, .ref rd])), (b0, .inr (0, [.int 0, .ref r0, .ref u0, .ref t0, .ref l0, .ref q0, .ref of, .ref sh, .ref nl, .ref fc])), (l0, .inr (1, [.int 0, .ref l1, .ref l2, .ref l3, .ref l4, .ref l5, .ref l6, .ref l7])), (m0, .inr (10, [.int 0, .ref m_tape, .int 0, .ref m_stops, .ref m_km, .ref m_takes, .ref m_officeAt, .ref m_shares, .ref m_berths, .ref m_owner, .ref m_lies, .ref m_tickets, .ref m_tDay, .ref m_tBerth, .ref m_tFrom, .ref m_tTo, .ref m_tOffice, .ref m_tBack, .ref m_letters, .ref m_lComes, .ref m_lAnswer, .ref m_lOffice, .ref m_lDay, .ref m_lFrom, .ref m_lTo, .ref m_lTicket, .ref m_now, .ref m_lines, .ref m_lineTests, .ref m_testWhat, .ref m_testSign, .ref m_testThan, .ref m_lineAct, .ref m_lineNumber, .ref m_free, .ref m_newBerth, .int 0, .int 0, .int 0, .int 0, .int 0, .long 0, .int 0, .int (-1), .int 0, .int 0, .ref m_newTests, .ref m_newWhat, .ref m_newSign, .ref m_newThan, .ref m_newAct, .ref m_newNumber, .ref m_has])), (m_letters, .inl (cy 0, 4, .inl (fun _ => 0)))] H) (hD : va_D A [(x0, .inr (9, [.ref b0, .ref im, .ref tp, .ref rd])), (b0, .inr (0, [.int 0, .ref r0, .ref u0, .ref t0, .ref l0, .ref q0, .ref of, .ref sh, .ref nl, .ref fc])), (l0, .inr (1, [.int 0, .ref l1, .ref l2, .ref l3, .ref l4, .ref l5, .ref l6, .ref l7])), (m0, .inr (10, [.int 0, .ref m_tape, .int 0, .ref m_stops, .ref m_km, .ref m_takes, .ref m_officeAt, .ref m_shares, .ref m_berths, .ref m_owner, .ref m_lies, .ref m_tickets, .ref m_tDay, .ref m_tBerth, .ref m_tFrom, .ref m_tTo, .ref m_tOffice, .ref m_tBack, .ref m_letters, .ref m_lComes, .ref m_lAnswer, .ref m_lOffice, .ref m_lDay, .ref m_lFrom, .ref m_lTo, .ref m_lTicket, .ref m_now, .ref m_lines, .ref m_lineTests, .ref m_testWhat, .ref m_testSign, .ref m_testThan, .ref m_lineAct, .ref m_lineNumber, .ref m_free, .ref m_newBerth, .int 0, .int 0, .int 0, .int 0, .int 0, .long 0, .int 0, .int (-1), .int 0, .int 0, .ref m_newTests, .ref m_newWhat, .ref m_newSign, .ref m_newThan, .ref m_newAct, .ref m_newNumber, .ref m_has])), (m_letters, .inl (cy 0, 4, .inl (fun _ => 0)))]) (hS : va_S A s.heap H locs) (ls : Array Slot) (hl : lv_has ls 4 [(3, .int 0), (2, .ref m0), (1, .ref x0), (0, .ref b)]) : W p l e room_1 s m #[Value.ref b] below meth c H locs 94 42452 (lw_Z below #[Value.ref b] s) (F0 m 448 ls []) := by
  obtain ⟨hx, hb, hr, hml, hown, hts0, hX, hbl, hlocks, hgv⟩ := id C0
  have hown : s.vm.findClass RL = some m.cls := hown
  have hts : ∀ w ∈ wsL_law, w.before #[Value.ref b] s = true := fun w h => hts0 w (wsL_law_in w h)
  have hbA : ¬ A b := fun h => absurd (hAA b h) (Nat.not_le.mpr hbl)
  obtain ⟨v1, ev1⟩ : ∃ v : Int32, v = xs (1 : Int32).toNatClampNeg := ⟨_, rfl⟩
  obtain ⟨v2, ev2⟩ : ∃ v : Int32, v = xs (2 : Int32).toNatClampNeg := ⟨_, rfl⟩
  obtain ⟨v3, ev3⟩ : ∃ v : Int32, v = xs (3 : Int32).toNatClampNeg := ⟨_, rfl⟩
  obtain ⟨v4, ev4⟩ : ∃ v : Int32, v = xs (4 : Int32).toNatClampNeg := ⟨_, rfl⟩
  obtain ⟨v5, ev5⟩ : ∃ v : Int32, v = xs (5 : Int32).toNatClampNeg := ⟨_, rfl⟩
  have w_0 := hts0 (.instanceMethod yX9_post) (List.mem_of_getElem? (i := 508) (by decide +kernel))
  have w_1 := hts0 (.instanceMethod yX10_post) (List.mem_of_getElem? (i := 1122) (by decide +kernel))
  refine lv_aload_n hx hb dL_law_448 rfl (lv_at hl 2 rfl) ?_
  refine lv_aload_n hx hb dL_law_449 rfl (lv_at hl 3 rfl) ?_
  refine lv_iload_n hx hb dL_law_450 rfl (lv_at hl 0 rfl) ?_
  refine lv_iconst (v := 1) hx hb dL_law_451 (by decide) ?_
  refine lv_iadd hx hb dL_law_452 ?_
  refine lv_topi (fun x452 ex452 => ?_)
  obtain rfl : x452 = 1 := ex452.trans (by decide)
  refine va_sld hx hb hX hbl hbA hS (q_in (a := 1) (by decide) (by decide) (by decide)) dL_law_453 ?_
  refine lv_topi (fun x453 ex453 => ?_)
  obtain rfl : v1 = x453 := ev1.trans ex453.symm
  refine lv_aload_n hx hb dL_law_454 rfl (lv_at hl 3 rfl) ?_
  refine lv_iload_n hx hb dL_law_455 rfl (lv_at hl 0 rfl) ?_
  refine lv_iconst (v := 2) hx hb dL_law_456 (by decide) ?_
  refine lv_iadd hx hb dL_law_457 ?_
  refine lv_topi (fun x457 ex457 => ?_)
  obtain rfl : x457 = 2 := ex457.trans (by decide)
  refine va_sld hx hb hX hbl hbA hS (q_in (a := 2) (by decide) (by decide) (by decide)) dL_law_458 ?_
  refine lv_topi (fun x458 ex458 => ?_)
  obtain rfl : v2 = x458 := ev2.trans ex458.symm
  refine k_i (va_runV (As := [.int v1, .int v2]) (rest := []) ⟨hx, hb, hml, hown, hts⟩ (c_X9_post l D cy x0 b0 im tp rd r0 u0 t0 l0 q0 of sh nl fc l1 l2 l3 l4 l5 l6 l7 v1 v2 H.size ) (cwV 2 hts gL_law_X9_post rfl rfl rfl (by decide +kernel) ⟨Nat.le_of_ble_eq_true rfl, Nat.le_of_ble_eq_true rfl⟩) (cp_v hK hN hP hD [0, 1, 2] rfl (by decide) (ci := 9) rfl rfl rfl) rfl rfl hl.1 rfl (lv_room (Nat.le_of_ble_eq_true rfl)) dL_law_459 ⟨Nat.le_of_ble_eq_true rfl, Nat.le_of_ble_eq_true rfl⟩) hP hD hS hA [0, 1, 2] [3, 4] (wr := [(m0, .inr (10, [.int 0, .ref m_tape, .int 0, .ref m_stops, .ref m_km, .ref m_takes, .ref m_officeAt, .ref m_shares, .ref m_berths, .ref m_owner, .ref m_lies, .ref m_tickets, .ref m_tDay, .ref m_tBerth, .ref m_tFrom, .ref m_tTo, .ref m_tOffice, .ref m_tBack, .ref m_letters, .ref m_lComes, .ref m_lAnswer, .ref m_lOffice, .ref m_lDay, .ref m_lFrom, .ref m_lTo, .ref m_lTicket, .ref m_now, .ref m_lines, .ref m_lineTests, .ref m_testWhat, .ref m_testSign, .ref m_testThan, .ref m_lineAct, .ref m_lineNumber, .ref m_free, .ref m_newBerth, .int 0, .int 0, .int 0, .int 0, .int 0, .long 0, .int 0, .int (-1), .int 0, .int 0, .ref m_newTests, .ref m_newWhat, .ref m_newSign, .ref m_newThan, .ref m_newAct, .ref m_newNumber, .ref m_has])), (m_letters, .inl (cy 0, 4, .inl (fun _ => 0)))]) rfl rfl (by decide) (by decide) (fun r459 u_r459 H locs hw459 hP hD hS => ?_)
  try dsimp only at hw459
  have hP : va_P D vwCl [(m0, .inr (10, [.int 0, .ref m_tape, .int 0, .ref m_stops, .ref m_km, .ref m_takes, .ref m_officeAt, .ref m_shares, .ref m_berths, .ref m_owner, .ref m_lies, .ref m_tickets, .ref m_tDay, .ref m_tBerth, .ref m_tFrom, .ref m_tTo, .ref m_tOffice, .ref m_tBack, .ref m_letters, .ref m_lComes, .ref m_lAnswer, .ref m_lOffice, .ref m_lDay, .ref m_lFrom, .ref m_lTo, .ref m_lTicket, .ref m_now, .ref m_lines, .ref m_lineTests, .ref m_testWhat, .ref m_testSign, .ref m_testThan, .ref m_lineAct, .ref m_lineNumber, .ref m_free, .ref m_newBerth, .int 0, .int 0, .int 0, .int 0, .int 0, .long 0, .int 0, .int (-1), .int 0, .int 0, .ref m_newTests, .ref m_newWhat, .ref m_newSign, .ref m_newThan, .ref m_newAct, .ref m_newNumber, .ref m_has])), (m_letters, .inl (cy 0, 4, .inl (fun _ => 0)))] H := hP
  have hD : va_D A [(m0, .inr (10, [.int 0, .ref m_tape, .int 0, .ref m_stops, .ref m_km, .ref m_takes, .ref m_officeAt, .ref m_shares, .ref m_berths, .ref m_owner, .ref m_lies, .ref m_tickets, .ref m_tDay, .ref m_tBerth, .ref m_tFrom, .ref m_tTo, .ref m_tOffice, .ref m_tBack, .ref m_letters, .ref m_lComes, .ref m_lAnswer, .ref m_lOffice, .ref m_lDay, .ref m_lFrom, .ref m_lTo, .ref m_lTicket, .ref m_now, .ref m_lines, .ref m_lineTests, .ref m_testWhat, .ref m_testSign, .ref m_testThan, .ref m_lineAct, .ref m_lineNumber, .ref m_free, .ref m_newBerth, .int 0, .int 0, .int 0, .int 0, .int 0, .long 0, .int 0, .int (-1), .int 0, .int 0, .ref m_newTests, .ref m_newWhat, .ref m_newSign, .ref m_newThan, .ref m_newAct, .ref m_newNumber, .ref m_has])), (m_letters, .inl (cy 0, 4, .inl (fun _ => 0)))] := hD
  refine lv_aload_n hx hb dL_law_462 rfl (lv_at hl 1 rfl) ?_
  refine lv_aload_n hx hb dL_law_463 rfl (lv_at hl 3 rfl) ?_
  refine lv_iload_n hx hb dL_law_464 rfl (lv_at hl 0 rfl) ?_
  refine lv_iconst (v := 1) hx hb dL_law_465 (by decide) ?_
  refine lv_iadd hx hb dL_law_466 ?_
  refine lv_topi (fun x466 ex466 => ?_)
  obtain rfl : x466 = 1 := ex466.trans (by decide)
  refine va_sld hx hb hX hbl hbA hS (q_in (a := 1) (by decide) (by decide) (by decide)) dL_law_467 ?_
  refine lv_topi (fun x467 ex467 => ?_)
  obtain rfl : v1 = x467 := ev1.trans ex467.symm
  refine lv_aload_n hx hb dL_law_468 rfl (lv_at hl 3 rfl) ?_
  refine lv_iload_n hx hb dL_law_469 rfl (lv_at hl 0 rfl) ?_
  refine lv_iconst (v := 2) hx hb dL_law_470 (by decide) ?_
  refine lv_iadd hx hb dL_law_471 ?_
  refine lv_topi (fun x471 ex471 => ?_)
  obtain rfl : x471 = 2 := ex471.trans (by decide)
  refine va_sld hx hb hX hbl hbA hS (q_in (a := 2) (by decide) (by decide) (by decide)) dL_law_472 ?_
  refine lv_topi (fun x472 ex472 => ?_)
  obtain rfl : v2 = x472 := ev2.trans ex472.symm
  refine k_i (va_runV (As := [.int v1, .int v2]) (rest := [.int r459]) ⟨hx, hb, hml, hown, hts⟩ (c_X10_post l D cy m0 m_tape m_stops m_km m_takes m_officeAt m_shares m_berths m_owner m_lies m_tickets m_tDay m_tBerth m_tFrom m_tTo m_tOffice m_tBack m_letters m_lComes m_lAnswer m_lOffice m_lDay m_lFrom m_lTo m_lTicket m_now m_lines m_lineTests m_testWhat m_testSign m_testThan m_lineAct m_lineNumber m_free m_newBerth m_newTests m_newWhat m_newSign m_newThan m_newAct m_newNumber m_has v1 v2 H.size ) (cwV 2 hts gL_law_X10_post rfl rfl rfl (by decide +kernel) ⟨Nat.le_of_ble_eq_true rfl, Nat.le_of_ble_eq_true rfl⟩) (cp_v hK hN hP hD [0, 1] rfl (by decide) (ci := 10) rfl rfl rfl) rfl rfl hl.1 rfl (lv_room (Nat.le_of_ble_eq_true rfl)) dL_law_473 ⟨Nat.le_of_ble_eq_true rfl, Nat.le_of_ble_eq_true rfl⟩) hP hD hS hA [0, 1] [] (wr := []) rfl rfl (by decide) (by decide) (fun r473 u_r473 H locs hw473 hP hD hS => ?_)
  try dsimp only at hw473
  have hP : va_P D vwCl [] H := hP
  have hD : va_D A [] := hD
  refine lv_icmp_eq (tgt := 947) hx hb dL_law_476 (by decide) (fun c476 => ?_) (fun c476 => ?_)
  · skip
    have fc476 := q_eq (a := r459.toInt) (b := r473.toInt) c476 rfl rfl
    exact law_tail C0 hA hAA (by decide) (by decide) hS ls (lv_sub hl [0, 3] rfl)
  · skip
    have fc476 := q_ne (a := r459.toInt) (b := r473.toInt) c476 rfl rfl
    exfalso; omega
set_option maxHeartbeats 4000000 in
set_option maxRecDepth 100000 in
theorem law_9 {p : Program} {e : Env} {s : State} {m : MethodId} {below : List Frame} {meth : Method} {c : Code} {l : Launch} {b : Nat} {xs : Nat → Int32} {A : Nat → Prop} {H : Heap} {locs : List Loc} {D : va_G} {cy : Nat → ClassId} (C0 : lw_At p s m meth c b 6 xs) (hA : ∀ q : Nat, s.heap.size ≤ q → A q) (hAA : ∀ q : Nat, A q → s.heap.size ≤ q) (hK : va_K D vwCl (tyL cy) s) (hN : NW s) (x0 b0 im tp rd r0 u0 t0 l0 q0 of sh nl fc l1 l2 l3 l4 l5 l6 l7 m0 m_tape m_stops m_km m_takes m_officeAt m_shares m_berths m_owner m_lies m_tickets m_tDay m_tBerth m_tFrom m_tTo m_tOffice m_tBack m_letters m_lComes m_lAnswer m_lOffice m_lDay m_lFrom m_lTo m_lTicket m_now m_lines m_lineTests m_testWhat m_testSign m_testThan m_lineAct m_lineNumber m_free m_newBerth m_newTests m_newWhat m_newSign m_newThan m_newAct m_newNumber m_has : Nat) (g1 g2 fst fkm ftk fli : Nat → Int32) (hg1 : ∀ j : Nat, j < 9 → g1 j = 1) (hg2 : ∀ j : Nat, j < 9 → g2 j = 1) (hst : fst 0 = 2) (hkm : ∀ j : Nat, j < 9 → fkm j = 1) (htk : ∀ j : Nat, j < 9 → ftk j = 1) (hP : va_P D vwCl [(x0, .inr (9, [.ref b0, .ref im, .ref tp, .ref rd])), (b0, .inr (0, [.int 0, .ref r0, .ref u0, .ref t0, .ref l0, .ref q0, .ref of, .ref sh, .ref nl, .ref fc])), (l0, .inr (1, [.int 0, .ref l1, .ref l2, .ref l3, .ref l4, .ref l5, .ref l6, .ref l7])), (m0, .inr (10, [.int 0, .ref m_tape, .int 0, .ref m_stops, .ref m_km, .ref m_takes, .ref m_officeAt, .ref m_shares, .ref m_berths, .ref m_owner, .ref m_lies, .ref m_tickets, .ref m_tDay, .ref m_tBerth, .ref m_tFrom, .ref m_tTo, .ref m_tOffice, .ref m_tBack, .ref m_letters, .ref m_lComes, .ref m_lAnswer, .ref m_lOffice, .ref m_lDay, .ref m_lFrom, .ref m_lTo, .ref m_lTicket, .ref m_now, .ref m_lines, .ref m_lineTests, .ref m_testWhat, .ref m_testSign, .ref m_testThan, .ref m_lineAct, .ref m_lineNumber, .ref m_free, .ref m_newBerth, .int 0, .int 0, .int 0, .int 0, .int 0, .long 0, .int 0, .int (-1), .int 0, .int 0, .ref m_newTests, .ref m_newWhat, .ref m_newSign, .ref m_newThan, .ref m_newAct, .ref m_newNumber, .ref m_has])), (m_now, .inl (cy 0, 4, .inl (fun _ => 0))), (m_letters, .inl (cy 0, 4, .inl (fun _ => 0)))] H) (hD : va_D A [(x0, .inr (9, [.ref b0, .ref im, .ref tp, .ref rd])), (b0, .inr (0, [.int 0, .ref r0, .ref u0, .ref t0, .ref l0, .ref q0, .ref of, .ref sh, .ref nl, .ref fc])), (l0, .inr (1, [.int 0, .ref l1, .ref l2, .ref l3, .ref l4, .ref l5, .ref l6, .ref l7])), (m0, .inr (10, [.int 0, .ref m_tape, .int 0, .ref m_stops, .ref m_km, .ref m_takes, .ref m_officeAt, .ref m_shares, .ref m_berths, .ref m_owner, .ref m_lies, .ref m_tickets, .ref m_tDay, .ref m_tBerth, .ref m_tFrom, .ref m_tTo, .ref m_tOffice, .ref m_tBack, .ref m_letters, .ref m_lComes, .ref m_lAnswer, .ref m_lOffice, .ref m_lDay, .ref m_lFrom, .ref m_lTo, .ref m_lTicket, .ref m_now, .ref m_lines, .ref m_lineTests, .ref m_testWhat, .ref m_testSign, .ref m_testThan, .ref m_lineAct, .ref m_lineNumber, .ref m_free, .ref m_newBerth, .int 0, .int 0, .int 0, .int 0, .int 0, .long 0, .int 0, .int (-1), .int 0, .int 0, .ref m_newTests, .ref m_newWhat, .ref m_newSign, .ref m_newThan, .ref m_newAct, .ref m_newNumber, .ref m_has])), (m_now, .inl (cy 0, 4, .inl (fun _ => 0))), (m_letters, .inl (cy 0, 4, .inl (fun _ => 0)))]) (hS : va_S A s.heap H locs) (ls : Array Slot) (hl : lv_has ls 4 [(3, .int 0), (2, .ref m0), (1, .ref x0), (0, .ref b)]) : W p l e room_1 s m #[Value.ref b] below meth c H locs 94 42452 (lw_Z below #[Value.ref b] s) (F0 m 481 ls []) := by
  obtain ⟨hx, hb, hr, hml, hown, hts0, hX, hbl, hlocks, hgv⟩ := id C0
  have hown : s.vm.findClass RL = some m.cls := hown
  have hts : ∀ w ∈ wsL_law, w.before #[Value.ref b] s = true := fun w h => hts0 w (wsL_law_in w h)
  have hbA : ¬ A b := fun h => absurd (hAA b h) (Nat.not_le.mpr hbl)
  obtain ⟨v1, ev1⟩ : ∃ v : Int32, v = xs (1 : Int32).toNatClampNeg := ⟨_, rfl⟩
  obtain ⟨v2, ev2⟩ : ∃ v : Int32, v = xs (2 : Int32).toNatClampNeg := ⟨_, rfl⟩
  obtain ⟨v3, ev3⟩ : ∃ v : Int32, v = xs (3 : Int32).toNatClampNeg := ⟨_, rfl⟩
  obtain ⟨v4, ev4⟩ : ∃ v : Int32, v = xs (4 : Int32).toNatClampNeg := ⟨_, rfl⟩
  obtain ⟨v5, ev5⟩ : ∃ v : Int32, v = xs (5 : Int32).toNatClampNeg := ⟨_, rfl⟩
  have w_0 := hts0 (.instanceMethod yX9_hours) (List.mem_of_getElem? (i := 520) (by decide +kernel))
  have w_1 := hts0 (.instanceMethod yX10_hours) (List.mem_of_getElem? (i := 1126) (by decide +kernel))
  refine lv_aload_n hx hb dL_law_481 rfl (lv_at hl 2 rfl) ?_
  refine lv_aload_n hx hb dL_law_482 rfl (lv_at hl 3 rfl) ?_
  refine lv_iload_n hx hb dL_law_483 rfl (lv_at hl 0 rfl) ?_
  refine lv_iconst (v := 1) hx hb dL_law_484 (by decide) ?_
  refine lv_iadd hx hb dL_law_485 ?_
  refine lv_topi (fun x485 ex485 => ?_)
  obtain rfl : x485 = 1 := ex485.trans (by decide)
  refine va_sld hx hb hX hbl hbA hS (q_in (a := 1) (by decide) (by decide) (by decide)) dL_law_486 ?_
  refine lv_topi (fun x486 ex486 => ?_)
  obtain rfl : v1 = x486 := ev1.trans ex486.symm
  refine k_i (va_runV (As := [.int v1]) (rest := []) ⟨hx, hb, hml, hown, hts⟩ (c_X9_hours l D cy x0 b0 im tp rd r0 u0 t0 l0 q0 of sh nl fc l1 l2 l3 l4 l5 l6 l7 v1 H.size ) (cwV 1 hts gL_law_X9_hours rfl rfl rfl (by decide +kernel) ⟨Nat.le_of_ble_eq_true rfl, Nat.le_of_ble_eq_true rfl⟩) (cp_v hK hN hP hD [0, 1, 2] rfl (by decide) (ci := 9) rfl rfl rfl) rfl rfl hl.1 rfl (lv_room (Nat.le_of_ble_eq_true rfl)) dL_law_487 ⟨Nat.le_of_ble_eq_true rfl, Nat.le_of_ble_eq_true rfl⟩) hP hD hS hA [0, 1, 2] [3, 4, 5] (wr := [(m0, .inr (10, [.int 0, .ref m_tape, .int 0, .ref m_stops, .ref m_km, .ref m_takes, .ref m_officeAt, .ref m_shares, .ref m_berths, .ref m_owner, .ref m_lies, .ref m_tickets, .ref m_tDay, .ref m_tBerth, .ref m_tFrom, .ref m_tTo, .ref m_tOffice, .ref m_tBack, .ref m_letters, .ref m_lComes, .ref m_lAnswer, .ref m_lOffice, .ref m_lDay, .ref m_lFrom, .ref m_lTo, .ref m_lTicket, .ref m_now, .ref m_lines, .ref m_lineTests, .ref m_testWhat, .ref m_testSign, .ref m_testThan, .ref m_lineAct, .ref m_lineNumber, .ref m_free, .ref m_newBerth, .int 0, .int 0, .int 0, .int 0, .int 0, .long 0, .int 0, .int (-1), .int 0, .int 0, .ref m_newTests, .ref m_newWhat, .ref m_newSign, .ref m_newThan, .ref m_newAct, .ref m_newNumber, .ref m_has])), (m_now, .inl (cy 0, 4, .inl (fun _ => 0))), (m_letters, .inl (cy 0, 4, .inl (fun _ => 0)))]) rfl rfl (by decide) (by decide) (fun r487 u_r487 H locs hw487 hP hD hS => ?_)
  try dsimp only at hw487
  have hP : va_P D vwCl [(m0, .inr (10, [.int 0, .ref m_tape, .int 0, .ref m_stops, .ref m_km, .ref m_takes, .ref m_officeAt, .ref m_shares, .ref m_berths, .ref m_owner, .ref m_lies, .ref m_tickets, .ref m_tDay, .ref m_tBerth, .ref m_tFrom, .ref m_tTo, .ref m_tOffice, .ref m_tBack, .ref m_letters, .ref m_lComes, .ref m_lAnswer, .ref m_lOffice, .ref m_lDay, .ref m_lFrom, .ref m_lTo, .ref m_lTicket, .ref m_now, .ref m_lines, .ref m_lineTests, .ref m_testWhat, .ref m_testSign, .ref m_testThan, .ref m_lineAct, .ref m_lineNumber, .ref m_free, .ref m_newBerth, .int 0, .int 0, .int 0, .int 0, .int 0, .long 0, .int 0, .int (-1), .int 0, .int 0, .ref m_newTests, .ref m_newWhat, .ref m_newSign, .ref m_newThan, .ref m_newAct, .ref m_newNumber, .ref m_has])), (m_now, .inl (cy 0, 4, .inl (fun _ => 0))), (m_letters, .inl (cy 0, 4, .inl (fun _ => 0)))] H := hP
  have hD : va_D A [(m0, .inr (10, [.int 0, .ref m_tape, .int 0, .ref m_stops, .ref m_km, .ref m_takes, .ref m_officeAt, .ref m_shares, .ref m_berths, .ref m_owner, .ref m_lies, .ref m_tickets, .ref m_tDay, .ref m_tBerth, .ref m_tFrom, .ref m_tTo, .ref m_tOffice, .ref m_tBack, .ref m_letters, .ref m_lComes, .ref m_lAnswer, .ref m_lOffice, .ref m_lDay, .ref m_lFrom, .ref m_lTo, .ref m_lTicket, .ref m_now, .ref m_lines, .ref m_lineTests, .ref m_testWhat, .ref m_testSign, .ref m_testThan, .ref m_lineAct, .ref m_lineNumber, .ref m_free, .ref m_newBerth, .int 0, .int 0, .int 0, .int 0, .int 0, .long 0, .int 0, .int (-1), .int 0, .int 0, .ref m_newTests, .ref m_newWhat, .ref m_newSign, .ref m_newThan, .ref m_newAct, .ref m_newNumber, .ref m_has])), (m_now, .inl (cy 0, 4, .inl (fun _ => 0))), (m_letters, .inl (cy 0, 4, .inl (fun _ => 0)))] := hD
  refine lv_aload_n hx hb dL_law_490 rfl (lv_at hl 1 rfl) ?_
  refine lv_aload_n hx hb dL_law_491 rfl (lv_at hl 3 rfl) ?_
  refine lv_iload_n hx hb dL_law_492 rfl (lv_at hl 0 rfl) ?_
  refine lv_iconst (v := 1) hx hb dL_law_493 (by decide) ?_
  refine lv_iadd hx hb dL_law_494 ?_
  refine lv_topi (fun x494 ex494 => ?_)
  obtain rfl : x494 = 1 := ex494.trans (by decide)
  refine va_sld hx hb hX hbl hbA hS (q_in (a := 1) (by decide) (by decide) (by decide)) dL_law_495 ?_
  refine lv_topi (fun x495 ex495 => ?_)
  obtain rfl : v1 = x495 := ev1.trans ex495.symm
  refine k_i (va_runV (As := [.int v1]) (rest := [.int r487]) ⟨hx, hb, hml, hown, hts⟩ (c_X10_hours l D cy m0 m_tape m_stops m_km m_takes m_officeAt m_shares m_berths m_owner m_lies m_tickets m_tDay m_tBerth m_tFrom m_tTo m_tOffice m_tBack m_letters m_lComes m_lAnswer m_lOffice m_lDay m_lFrom m_lTo m_lTicket m_now m_lines m_lineTests m_testWhat m_testSign m_testThan m_lineAct m_lineNumber m_free m_newBerth m_newTests m_newWhat m_newSign m_newThan m_newAct m_newNumber m_has v1 H.size ) (cwV 1 hts gL_law_X10_hours rfl rfl rfl (by decide +kernel) ⟨Nat.le_of_ble_eq_true rfl, Nat.le_of_ble_eq_true rfl⟩) (cp_v hK hN hP hD [0, 1, 2] rfl (by decide) (ci := 10) rfl rfl rfl) rfl rfl hl.1 rfl (lv_room (Nat.le_of_ble_eq_true rfl)) dL_law_496 ⟨Nat.le_of_ble_eq_true rfl, Nat.le_of_ble_eq_true rfl⟩) hP hD hS hA [0, 1, 2] [] (wr := []) rfl rfl (by decide) (by decide) (fun r496 u_r496 H locs hw496 hP hD hS => ?_)
  try dsimp only at hw496
  have hP : va_P D vwCl [] H := hP
  have hD : va_D A [] := hD
  refine lv_icmp_eq (tgt := 947) hx hb dL_law_499 (by decide) (fun c499 => ?_) (fun c499 => ?_)
  · skip
    have fc499 := q_eq (a := r487.toInt) (b := r496.toInt) c499 rfl rfl
    exact law_tail C0 hA hAA (by decide) (by decide) hS ls (lv_sub hl [0, 3] rfl)
  · skip
    have fc499 := q_ne (a := r487.toInt) (b := r496.toInt) c499 rfl rfl
    exfalso; omega
set_option maxHeartbeats 4000000 in
set_option maxRecDepth 100000 in
theorem law_10 {p : Program} {e : Env} {s : State} {m : MethodId} {below : List Frame} {meth : Method} {c : Code} {l : Launch} {b : Nat} {xs : Nat → Int32} {A : Nat → Prop} {H : Heap} {locs : List Loc} {D : va_G} {cy : Nat → ClassId} (C0 : lw_At p s m meth c b 6 xs) (hA : ∀ q : Nat, s.heap.size ≤ q → A q) (hAA : ∀ q : Nat, A q → s.heap.size ≤ q) (hK : va_K D vwCl (tyL cy) s) (hN : NW s) (x0 b0 im tp rd r0 u0 t0 l0 q0 of sh nl fc u1 u2 u3 m0 m_tape m_stops m_km m_takes m_officeAt m_shares m_berths m_owner m_lies m_tickets m_tDay m_tBerth m_tFrom m_tTo m_tOffice m_tBack m_letters m_lComes m_lAnswer m_lOffice m_lDay m_lFrom m_lTo m_lTicket m_now m_lines m_lineTests m_testWhat m_testSign m_testThan m_lineAct m_lineNumber m_free m_newBerth m_newTests m_newWhat m_newSign m_newThan m_newAct m_newNumber m_has : Nat) (g1 g2 fst fkm ftk fli : Nat → Int32) (hg1 : ∀ j : Nat, j < 9 → g1 j = 1) (hg2 : ∀ j : Nat, j < 9 → g2 j = 1) (hst : fst 0 = 2) (hkm : ∀ j : Nat, j < 9 → fkm j = 1) (htk : ∀ j : Nat, j < 9 → ftk j = 1) (hP : va_P D vwCl [(x0, .inr (9, [.ref b0, .ref im, .ref tp, .ref rd])), (b0, .inr (0, [.int 0, .ref r0, .ref u0, .ref t0, .ref l0, .ref q0, .ref of, .ref sh, .ref nl, .ref fc])), (u0, .inr (5, [.int 0, .ref u1, .ref u2, .ref u3])), (u1, .inl (cy 0, 60, .inl (fun _ => 0))), (m0, .inr (10, [.int 0, .ref m_tape, .int 0, .ref m_stops, .ref m_km, .ref m_takes, .ref m_officeAt, .ref m_shares, .ref m_berths, .ref m_owner, .ref m_lies, .ref m_tickets, .ref m_tDay, .ref m_tBerth, .ref m_tFrom, .ref m_tTo, .ref m_tOffice, .ref m_tBack, .ref m_letters, .ref m_lComes, .ref m_lAnswer, .ref m_lOffice, .ref m_lDay, .ref m_lFrom, .ref m_lTo, .ref m_lTicket, .ref m_now, .ref m_lines, .ref m_lineTests, .ref m_testWhat, .ref m_testSign, .ref m_testThan, .ref m_lineAct, .ref m_lineNumber, .ref m_free, .ref m_newBerth, .int 0, .int 0, .int 0, .int 0, .int 0, .long 0, .int 0, .int (-1), .int 0, .int 0, .ref m_newTests, .ref m_newWhat, .ref m_newSign, .ref m_newThan, .ref m_newAct, .ref m_newNumber, .ref m_has])), (m_berths, .inl (cy 0, 240, .inl (fun _ => 0)))] H) (hD : va_D A [(x0, .inr (9, [.ref b0, .ref im, .ref tp, .ref rd])), (b0, .inr (0, [.int 0, .ref r0, .ref u0, .ref t0, .ref l0, .ref q0, .ref of, .ref sh, .ref nl, .ref fc])), (u0, .inr (5, [.int 0, .ref u1, .ref u2, .ref u3])), (u1, .inl (cy 0, 60, .inl (fun _ => 0))), (m0, .inr (10, [.int 0, .ref m_tape, .int 0, .ref m_stops, .ref m_km, .ref m_takes, .ref m_officeAt, .ref m_shares, .ref m_berths, .ref m_owner, .ref m_lies, .ref m_tickets, .ref m_tDay, .ref m_tBerth, .ref m_tFrom, .ref m_tTo, .ref m_tOffice, .ref m_tBack, .ref m_letters, .ref m_lComes, .ref m_lAnswer, .ref m_lOffice, .ref m_lDay, .ref m_lFrom, .ref m_lTo, .ref m_lTicket, .ref m_now, .ref m_lines, .ref m_lineTests, .ref m_testWhat, .ref m_testSign, .ref m_testThan, .ref m_lineAct, .ref m_lineNumber, .ref m_free, .ref m_newBerth, .int 0, .int 0, .int 0, .int 0, .int 0, .long 0, .int 0, .int (-1), .int 0, .int 0, .ref m_newTests, .ref m_newWhat, .ref m_newSign, .ref m_newThan, .ref m_newAct, .ref m_newNumber, .ref m_has])), (m_berths, .inl (cy 0, 240, .inl (fun _ => 0)))]) (hS : va_S A s.heap H locs) (ls : Array Slot) (hl : lv_has ls 4 [(3, .int 0), (2, .ref m0), (1, .ref x0), (0, .ref b)]) : W p l e room_1 s m #[Value.ref b] below meth c H locs 94 42452 (lw_Z below #[Value.ref b] s) (F0 m 504 ls []) := by
  obtain ⟨hx, hb, hr, hml, hown, hts0, hX, hbl, hlocks, hgv⟩ := id C0
  have hown : s.vm.findClass RL = some m.cls := hown
  have hts : ∀ w ∈ wsL_law, w.before #[Value.ref b] s = true := fun w h => hts0 w (wsL_law_in w h)
  have hbA : ¬ A b := fun h => absurd (hAA b h) (Nat.not_le.mpr hbl)
  obtain ⟨v1, ev1⟩ : ∃ v : Int32, v = xs (1 : Int32).toNatClampNeg := ⟨_, rfl⟩
  obtain ⟨v2, ev2⟩ : ∃ v : Int32, v = xs (2 : Int32).toNatClampNeg := ⟨_, rfl⟩
  obtain ⟨v3, ev3⟩ : ∃ v : Int32, v = xs (3 : Int32).toNatClampNeg := ⟨_, rfl⟩
  obtain ⟨v4, ev4⟩ : ∃ v : Int32, v = xs (4 : Int32).toNatClampNeg := ⟨_, rfl⟩
  obtain ⟨v5, ev5⟩ : ∃ v : Int32, v = xs (5 : Int32).toNatClampNeg := ⟨_, rfl⟩
  have w_0 := hts0 (.instanceMethod yX9_moved) (List.mem_of_getElem? (i := 529) (by decide +kernel))
  have w_1 := hts0 (.instanceMethod yX10_moved) (List.mem_of_getElem? (i := 1130) (by decide +kernel))
  refine lv_aload_n hx hb dL_law_504 rfl (lv_at hl 2 rfl) ?_
  refine lv_aload_n hx hb dL_law_505 rfl (lv_at hl 3 rfl) ?_
  refine lv_iload_n hx hb dL_law_506 rfl (lv_at hl 0 rfl) ?_
  refine lv_iconst (v := 1) hx hb dL_law_507 (by decide) ?_
  refine lv_iadd hx hb dL_law_508 ?_
  refine lv_topi (fun x508 ex508 => ?_)
  obtain rfl : x508 = 1 := ex508.trans (by decide)
  refine va_sld hx hb hX hbl hbA hS (q_in (a := 1) (by decide) (by decide) (by decide)) dL_law_509 ?_
  refine lv_topi (fun x509 ex509 => ?_)
  obtain rfl : v1 = x509 := ev1.trans ex509.symm
  refine k_i (va_runV (As := [.int v1]) (rest := []) ⟨hx, hb, hml, hown, hts⟩ (c_X9_moved l D cy x0 b0 im tp rd r0 u0 t0 l0 q0 of sh nl fc u1 u2 u3 v1 H.size ) (cwV 1 hts gL_law_X9_moved rfl rfl rfl (by decide +kernel) ⟨Nat.le_of_ble_eq_true rfl, Nat.le_of_ble_eq_true rfl⟩) (cp_v hK hN hP hD [0, 1, 2, 3] rfl (by decide) (ci := 9) rfl rfl rfl) rfl rfl hl.1 rfl (lv_room (Nat.le_of_ble_eq_true rfl)) dL_law_510 ⟨Nat.le_of_ble_eq_true rfl, Nat.le_of_ble_eq_true rfl⟩) hP hD hS hA [0, 1, 2, 3] [4, 5] (wr := [(m0, .inr (10, [.int 0, .ref m_tape, .int 0, .ref m_stops, .ref m_km, .ref m_takes, .ref m_officeAt, .ref m_shares, .ref m_berths, .ref m_owner, .ref m_lies, .ref m_tickets, .ref m_tDay, .ref m_tBerth, .ref m_tFrom, .ref m_tTo, .ref m_tOffice, .ref m_tBack, .ref m_letters, .ref m_lComes, .ref m_lAnswer, .ref m_lOffice, .ref m_lDay, .ref m_lFrom, .ref m_lTo, .ref m_lTicket, .ref m_now, .ref m_lines, .ref m_lineTests, .ref m_testWhat, .ref m_testSign, .ref m_testThan, .ref m_lineAct, .ref m_lineNumber, .ref m_free, .ref m_newBerth, .int 0, .int 0, .int 0, .int 0, .int 0, .long 0, .int 0, .int (-1), .int 0, .int 0, .ref m_newTests, .ref m_newWhat, .ref m_newSign, .ref m_newThan, .ref m_newAct, .ref m_newNumber, .ref m_has])), (m_berths, .inl (cy 0, 240, .inl (fun _ => 0)))]) rfl rfl (by decide) (by decide) (fun r510 u_r510 H locs hw510 hP hD hS => ?_)
  try dsimp only at hw510
  have hP : va_P D vwCl [(m0, .inr (10, [.int 0, .ref m_tape, .int 0, .ref m_stops, .ref m_km, .ref m_takes, .ref m_officeAt, .ref m_shares, .ref m_berths, .ref m_owner, .ref m_lies, .ref m_tickets, .ref m_tDay, .ref m_tBerth, .ref m_tFrom, .ref m_tTo, .ref m_tOffice, .ref m_tBack, .ref m_letters, .ref m_lComes, .ref m_lAnswer, .ref m_lOffice, .ref m_lDay, .ref m_lFrom, .ref m_lTo, .ref m_lTicket, .ref m_now, .ref m_lines, .ref m_lineTests, .ref m_testWhat, .ref m_testSign, .ref m_testThan, .ref m_lineAct, .ref m_lineNumber, .ref m_free, .ref m_newBerth, .int 0, .int 0, .int 0, .int 0, .int 0, .long 0, .int 0, .int (-1), .int 0, .int 0, .ref m_newTests, .ref m_newWhat, .ref m_newSign, .ref m_newThan, .ref m_newAct, .ref m_newNumber, .ref m_has])), (m_berths, .inl (cy 0, 240, .inl (fun _ => 0)))] H := hP
  have hD : va_D A [(m0, .inr (10, [.int 0, .ref m_tape, .int 0, .ref m_stops, .ref m_km, .ref m_takes, .ref m_officeAt, .ref m_shares, .ref m_berths, .ref m_owner, .ref m_lies, .ref m_tickets, .ref m_tDay, .ref m_tBerth, .ref m_tFrom, .ref m_tTo, .ref m_tOffice, .ref m_tBack, .ref m_letters, .ref m_lComes, .ref m_lAnswer, .ref m_lOffice, .ref m_lDay, .ref m_lFrom, .ref m_lTo, .ref m_lTicket, .ref m_now, .ref m_lines, .ref m_lineTests, .ref m_testWhat, .ref m_testSign, .ref m_testThan, .ref m_lineAct, .ref m_lineNumber, .ref m_free, .ref m_newBerth, .int 0, .int 0, .int 0, .int 0, .int 0, .long 0, .int 0, .int (-1), .int 0, .int 0, .ref m_newTests, .ref m_newWhat, .ref m_newSign, .ref m_newThan, .ref m_newAct, .ref m_newNumber, .ref m_has])), (m_berths, .inl (cy 0, 240, .inl (fun _ => 0)))] := hD
  refine lv_aload_n hx hb dL_law_513 rfl (lv_at hl 1 rfl) ?_
  refine lv_aload_n hx hb dL_law_514 rfl (lv_at hl 3 rfl) ?_
  refine lv_iload_n hx hb dL_law_515 rfl (lv_at hl 0 rfl) ?_
  refine lv_iconst (v := 1) hx hb dL_law_516 (by decide) ?_
  refine lv_iadd hx hb dL_law_517 ?_
  refine lv_topi (fun x517 ex517 => ?_)
  obtain rfl : x517 = 1 := ex517.trans (by decide)
  refine va_sld hx hb hX hbl hbA hS (q_in (a := 1) (by decide) (by decide) (by decide)) dL_law_518 ?_
  refine lv_topi (fun x518 ex518 => ?_)
  obtain rfl : v1 = x518 := ev1.trans ex518.symm
  refine k_i (va_runV (As := [.int v1]) (rest := [.int r510]) ⟨hx, hb, hml, hown, hts⟩ (c_X10_moved l D cy m0 m_tape m_stops m_km m_takes m_officeAt m_shares m_berths m_owner m_lies m_tickets m_tDay m_tBerth m_tFrom m_tTo m_tOffice m_tBack m_letters m_lComes m_lAnswer m_lOffice m_lDay m_lFrom m_lTo m_lTicket m_now m_lines m_lineTests m_testWhat m_testSign m_testThan m_lineAct m_lineNumber m_free m_newBerth m_newTests m_newWhat m_newSign m_newThan m_newAct m_newNumber m_has v1 H.size ) (cwV 1 hts gL_law_X10_moved rfl rfl rfl (by decide +kernel) ⟨Nat.le_of_ble_eq_true rfl, Nat.le_of_ble_eq_true rfl⟩) (cp_v hK hN hP hD [0, 1] rfl (by decide) (ci := 10) rfl rfl rfl) rfl rfl hl.1 rfl (lv_room (Nat.le_of_ble_eq_true rfl)) dL_law_519 ⟨Nat.le_of_ble_eq_true rfl, Nat.le_of_ble_eq_true rfl⟩) hP hD hS hA [0, 1] [] (wr := []) rfl rfl (by decide) (by decide) (fun r519 u_r519 H locs hw519 hP hD hS => ?_)
  try dsimp only at hw519
  have hP : va_P D vwCl [] H := hP
  have hD : va_D A [] := hD
  refine lv_icmp_eq (tgt := 947) hx hb dL_law_522 (by decide) (fun c522 => ?_) (fun c522 => ?_)
  · skip
    have fc522 := q_eq (a := r510.toInt) (b := r519.toInt) c522 rfl rfl
    exact law_tail C0 hA hAA (by decide) (by decide) hS ls (lv_sub hl [0, 3] rfl)
  · skip
    have fc522 := q_ne (a := r510.toInt) (b := r519.toInt) c522 rfl rfl
    exfalso; omega
set_option maxHeartbeats 4000000 in
set_option maxRecDepth 100000 in
theorem law_11 {p : Program} {e : Env} {s : State} {m : MethodId} {below : List Frame} {meth : Method} {c : Code} {l : Launch} {b : Nat} {xs : Nat → Int32} {A : Nat → Prop} {H : Heap} {locs : List Loc} {D : va_G} {cy : Nat → ClassId} (C0 : lw_At p s m meth c b 6 xs) (hA : ∀ q : Nat, s.heap.size ≤ q → A q) (hAA : ∀ q : Nat, A q → s.heap.size ≤ q) (hK : va_K D vwCl (tyL cy) s) (hN : NW s) (x0 b0 im tp rd r0 u0 t0 l0 q0 of sh nl fc u1 u2 u3 m0 m_tape m_stops m_km m_takes m_officeAt m_shares m_berths m_owner m_lies m_tickets m_tDay m_tBerth m_tFrom m_tTo m_tOffice m_tBack m_letters m_lComes m_lAnswer m_lOffice m_lDay m_lFrom m_lTo m_lTicket m_now m_lines m_lineTests m_testWhat m_testSign m_testThan m_lineAct m_lineNumber m_free m_newBerth m_newTests m_newWhat m_newSign m_newThan m_newAct m_newNumber m_has : Nat) (g1 g2 fst fkm ftk fli : Nat → Int32) (hg1 : ∀ j : Nat, j < 9 → g1 j = 1) (hg2 : ∀ j : Nat, j < 9 → g2 j = 1) (hst : fst 0 = 2) (hkm : ∀ j : Nat, j < 9 → fkm j = 1) (htk : ∀ j : Nat, j < 9 → ftk j = 1) (hP : va_P D vwCl [(x0, .inr (9, [.ref b0, .ref im, .ref tp, .ref rd])), (b0, .inr (0, [.int 0, .ref r0, .ref u0, .ref t0, .ref l0, .ref q0, .ref of, .ref sh, .ref nl, .ref fc])), (u0, .inr (5, [.int 0, .ref u1, .ref u2, .ref u3])), (u1, .inl (cy 0, 60, .inl (fun _ => 0))), (m0, .inr (10, [.int 0, .ref m_tape, .int 0, .ref m_stops, .ref m_km, .ref m_takes, .ref m_officeAt, .ref m_shares, .ref m_berths, .ref m_owner, .ref m_lies, .ref m_tickets, .ref m_tDay, .ref m_tBerth, .ref m_tFrom, .ref m_tTo, .ref m_tOffice, .ref m_tBack, .ref m_letters, .ref m_lComes, .ref m_lAnswer, .ref m_lOffice, .ref m_lDay, .ref m_lFrom, .ref m_lTo, .ref m_lTicket, .ref m_now, .ref m_lines, .ref m_lineTests, .ref m_testWhat, .ref m_testSign, .ref m_testThan, .ref m_lineAct, .ref m_lineNumber, .ref m_free, .ref m_newBerth, .int 0, .int 0, .int 0, .int 0, .int 0, .long 0, .int 0, .int (-1), .int 0, .int 0, .ref m_newTests, .ref m_newWhat, .ref m_newSign, .ref m_newThan, .ref m_newAct, .ref m_newNumber, .ref m_has])), (m_berths, .inl (cy 0, 240, .inl (fun _ => 0)))] H) (hD : va_D A [(x0, .inr (9, [.ref b0, .ref im, .ref tp, .ref rd])), (b0, .inr (0, [.int 0, .ref r0, .ref u0, .ref t0, .ref l0, .ref q0, .ref of, .ref sh, .ref nl, .ref fc])), (u0, .inr (5, [.int 0, .ref u1, .ref u2, .ref u3])), (u1, .inl (cy 0, 60, .inl (fun _ => 0))), (m0, .inr (10, [.int 0, .ref m_tape, .int 0, .ref m_stops, .ref m_km, .ref m_takes, .ref m_officeAt, .ref m_shares, .ref m_berths, .ref m_owner, .ref m_lies, .ref m_tickets, .ref m_tDay, .ref m_tBerth, .ref m_tFrom, .ref m_tTo, .ref m_tOffice, .ref m_tBack, .ref m_letters, .ref m_lComes, .ref m_lAnswer, .ref m_lOffice, .ref m_lDay, .ref m_lFrom, .ref m_lTo, .ref m_lTicket, .ref m_now, .ref m_lines, .ref m_lineTests, .ref m_testWhat, .ref m_testSign, .ref m_testThan, .ref m_lineAct, .ref m_lineNumber, .ref m_free, .ref m_newBerth, .int 0, .int 0, .int 0, .int 0, .int 0, .long 0, .int 0, .int (-1), .int 0, .int 0, .ref m_newTests, .ref m_newWhat, .ref m_newSign, .ref m_newThan, .ref m_newAct, .ref m_newNumber, .ref m_has])), (m_berths, .inl (cy 0, 240, .inl (fun _ => 0)))]) (hS : va_S A s.heap H locs) (ls : Array Slot) (hl : lv_has ls 4 [(3, .int 0), (2, .ref m0), (1, .ref x0), (0, .ref b)]) : W p l e room_1 s m #[Value.ref b] below meth c H locs 94 42452 (lw_Z below #[Value.ref b] s) (F0 m 527 ls []) := by
  obtain ⟨hx, hb, hr, hml, hown, hts0, hX, hbl, hlocks, hgv⟩ := id C0
  have hown : s.vm.findClass RL = some m.cls := hown
  have hts : ∀ w ∈ wsL_law, w.before #[Value.ref b] s = true := fun w h => hts0 w (wsL_law_in w h)
  have hbA : ¬ A b := fun h => absurd (hAA b h) (Nat.not_le.mpr hbl)
  obtain ⟨v1, ev1⟩ : ∃ v : Int32, v = xs (1 : Int32).toNatClampNeg := ⟨_, rfl⟩
  obtain ⟨v2, ev2⟩ : ∃ v : Int32, v = xs (2 : Int32).toNatClampNeg := ⟨_, rfl⟩
  obtain ⟨v3, ev3⟩ : ∃ v : Int32, v = xs (3 : Int32).toNatClampNeg := ⟨_, rfl⟩
  obtain ⟨v4, ev4⟩ : ∃ v : Int32, v = xs (4 : Int32).toNatClampNeg := ⟨_, rfl⟩
  obtain ⟨v5, ev5⟩ : ∃ v : Int32, v = xs (5 : Int32).toNatClampNeg := ⟨_, rfl⟩
  have w_0 := hts0 (.instanceMethod yX9_wouldFit) (List.mem_of_getElem? (i := 546) (by decide +kernel))
  have w_1 := hts0 (.instanceMethod yX10_wouldFit) (List.mem_of_getElem? (i := 1150) (by decide +kernel))
  refine lv_aload_n hx hb dL_law_527 rfl (lv_at hl 2 rfl) ?_
  refine lv_aload_n hx hb dL_law_528 rfl (lv_at hl 3 rfl) ?_
  refine lv_iload_n hx hb dL_law_529 rfl (lv_at hl 0 rfl) ?_
  refine lv_iconst (v := 1) hx hb dL_law_530 (by decide) ?_
  refine lv_iadd hx hb dL_law_531 ?_
  refine lv_topi (fun x531 ex531 => ?_)
  obtain rfl : x531 = 1 := ex531.trans (by decide)
  refine va_sld hx hb hX hbl hbA hS (q_in (a := 1) (by decide) (by decide) (by decide)) dL_law_532 ?_
  refine lv_topi (fun x532 ex532 => ?_)
  obtain rfl : v1 = x532 := ev1.trans ex532.symm
  refine lv_aload_n hx hb dL_law_533 rfl (lv_at hl 3 rfl) ?_
  refine lv_iload_n hx hb dL_law_534 rfl (lv_at hl 0 rfl) ?_
  refine lv_iconst (v := 2) hx hb dL_law_535 (by decide) ?_
  refine lv_iadd hx hb dL_law_536 ?_
  refine lv_topi (fun x536 ex536 => ?_)
  obtain rfl : x536 = 2 := ex536.trans (by decide)
  refine va_sld hx hb hX hbl hbA hS (q_in (a := 2) (by decide) (by decide) (by decide)) dL_law_537 ?_
  refine lv_topi (fun x537 ex537 => ?_)
  obtain rfl : v2 = x537 := ev2.trans ex537.symm
  refine lv_aload_n hx hb dL_law_538 rfl (lv_at hl 3 rfl) ?_
  refine lv_iload_n hx hb dL_law_539 rfl (lv_at hl 0 rfl) ?_
  refine lv_iconst (v := 3) hx hb dL_law_540 (by decide) ?_
  refine lv_iadd hx hb dL_law_541 ?_
  refine lv_topi (fun x541 ex541 => ?_)
  obtain rfl : x541 = 3 := ex541.trans (by decide)
  refine va_sld hx hb hX hbl hbA hS (q_in (a := 3) (by decide) (by decide) (by decide)) dL_law_542 ?_
  refine lv_topi (fun x542 ex542 => ?_)
  obtain rfl : v3 = x542 := ev3.trans ex542.symm
  refine lv_aload_n hx hb dL_law_543 rfl (lv_at hl 3 rfl) ?_
  refine lv_iload_n hx hb dL_law_544 rfl (lv_at hl 0 rfl) ?_
  refine lv_iconst (v := 4) hx hb dL_law_545 (by decide) ?_
  refine lv_iadd hx hb dL_law_546 ?_
  refine lv_topi (fun x546 ex546 => ?_)
  obtain rfl : x546 = 4 := ex546.trans (by decide)
  refine va_sld hx hb hX hbl hbA hS (q_in (a := 4) (by decide) (by decide) (by decide)) dL_law_547 ?_
  refine lv_topi (fun x547 ex547 => ?_)
  obtain rfl : v4 = x547 := ev4.trans ex547.symm
  refine k_i (va_runV (As := [.int v1, .int v2, .int v3, .int v4]) (rest := []) ⟨hx, hb, hml, hown, hts⟩ (c_X9_wouldFit l D cy x0 b0 im tp rd r0 u0 t0 l0 q0 of sh nl fc u1 u2 u3 v1 v2 v3 v4 H.size ) (cwV 4 hts gL_law_X9_wouldFit rfl rfl rfl (by decide +kernel) ⟨Nat.le_of_ble_eq_true rfl, Nat.le_of_ble_eq_true rfl⟩) (cp_v hK hN hP hD [0, 1, 2, 3] rfl (by decide) (ci := 9) rfl rfl rfl) rfl rfl hl.1 rfl (lv_room (Nat.le_of_ble_eq_true rfl)) dL_law_548 ⟨Nat.le_of_ble_eq_true rfl, Nat.le_of_ble_eq_true rfl⟩) hP hD hS hA [0, 1, 2, 3] [4, 5] (wr := [(m0, .inr (10, [.int 0, .ref m_tape, .int 0, .ref m_stops, .ref m_km, .ref m_takes, .ref m_officeAt, .ref m_shares, .ref m_berths, .ref m_owner, .ref m_lies, .ref m_tickets, .ref m_tDay, .ref m_tBerth, .ref m_tFrom, .ref m_tTo, .ref m_tOffice, .ref m_tBack, .ref m_letters, .ref m_lComes, .ref m_lAnswer, .ref m_lOffice, .ref m_lDay, .ref m_lFrom, .ref m_lTo, .ref m_lTicket, .ref m_now, .ref m_lines, .ref m_lineTests, .ref m_testWhat, .ref m_testSign, .ref m_testThan, .ref m_lineAct, .ref m_lineNumber, .ref m_free, .ref m_newBerth, .int 0, .int 0, .int 0, .int 0, .int 0, .long 0, .int 0, .int (-1), .int 0, .int 0, .ref m_newTests, .ref m_newWhat, .ref m_newSign, .ref m_newThan, .ref m_newAct, .ref m_newNumber, .ref m_has])), (m_berths, .inl (cy 0, 240, .inl (fun _ => 0)))]) rfl rfl (by decide) (by decide) (fun r548 u_r548 H locs hw548 hP hD hS => ?_)
  try dsimp only at hw548
  have hP : va_P D vwCl [(m0, .inr (10, [.int 0, .ref m_tape, .int 0, .ref m_stops, .ref m_km, .ref m_takes, .ref m_officeAt, .ref m_shares, .ref m_berths, .ref m_owner, .ref m_lies, .ref m_tickets, .ref m_tDay, .ref m_tBerth, .ref m_tFrom, .ref m_tTo, .ref m_tOffice, .ref m_tBack, .ref m_letters, .ref m_lComes, .ref m_lAnswer, .ref m_lOffice, .ref m_lDay, .ref m_lFrom, .ref m_lTo, .ref m_lTicket, .ref m_now, .ref m_lines, .ref m_lineTests, .ref m_testWhat, .ref m_testSign, .ref m_testThan, .ref m_lineAct, .ref m_lineNumber, .ref m_free, .ref m_newBerth, .int 0, .int 0, .int 0, .int 0, .int 0, .long 0, .int 0, .int (-1), .int 0, .int 0, .ref m_newTests, .ref m_newWhat, .ref m_newSign, .ref m_newThan, .ref m_newAct, .ref m_newNumber, .ref m_has])), (m_berths, .inl (cy 0, 240, .inl (fun _ => 0)))] H := hP
  have hD : va_D A [(m0, .inr (10, [.int 0, .ref m_tape, .int 0, .ref m_stops, .ref m_km, .ref m_takes, .ref m_officeAt, .ref m_shares, .ref m_berths, .ref m_owner, .ref m_lies, .ref m_tickets, .ref m_tDay, .ref m_tBerth, .ref m_tFrom, .ref m_tTo, .ref m_tOffice, .ref m_tBack, .ref m_letters, .ref m_lComes, .ref m_lAnswer, .ref m_lOffice, .ref m_lDay, .ref m_lFrom, .ref m_lTo, .ref m_lTicket, .ref m_now, .ref m_lines, .ref m_lineTests, .ref m_testWhat, .ref m_testSign, .ref m_testThan, .ref m_lineAct, .ref m_lineNumber, .ref m_free, .ref m_newBerth, .int 0, .int 0, .int 0, .int 0, .int 0, .long 0, .int 0, .int (-1), .int 0, .int 0, .ref m_newTests, .ref m_newWhat, .ref m_newSign, .ref m_newThan, .ref m_newAct, .ref m_newNumber, .ref m_has])), (m_berths, .inl (cy 0, 240, .inl (fun _ => 0)))] := hD
  refine lv_aload_n hx hb dL_law_551 rfl (lv_at hl 1 rfl) ?_
  refine lv_aload_n hx hb dL_law_552 rfl (lv_at hl 3 rfl) ?_
  refine lv_iload_n hx hb dL_law_553 rfl (lv_at hl 0 rfl) ?_
  refine lv_iconst (v := 1) hx hb dL_law_554 (by decide) ?_
  refine lv_iadd hx hb dL_law_555 ?_
  refine lv_topi (fun x555 ex555 => ?_)
  obtain rfl : x555 = 1 := ex555.trans (by decide)
  refine va_sld hx hb hX hbl hbA hS (q_in (a := 1) (by decide) (by decide) (by decide)) dL_law_556 ?_
  refine lv_topi (fun x556 ex556 => ?_)
  obtain rfl : v1 = x556 := ev1.trans ex556.symm
  refine lv_aload_n hx hb dL_law_557 rfl (lv_at hl 3 rfl) ?_
  refine lv_iload_n hx hb dL_law_558 rfl (lv_at hl 0 rfl) ?_
  refine lv_iconst (v := 2) hx hb dL_law_559 (by decide) ?_
  refine lv_iadd hx hb dL_law_560 ?_
  refine lv_topi (fun x560 ex560 => ?_)
  obtain rfl : x560 = 2 := ex560.trans (by decide)
  refine va_sld hx hb hX hbl hbA hS (q_in (a := 2) (by decide) (by decide) (by decide)) dL_law_561 ?_
  refine lv_topi (fun x561 ex561 => ?_)
  obtain rfl : v2 = x561 := ev2.trans ex561.symm
  refine lv_aload_n hx hb dL_law_562 rfl (lv_at hl 3 rfl) ?_
  refine lv_iload_n hx hb dL_law_563 rfl (lv_at hl 0 rfl) ?_
  refine lv_iconst (v := 3) hx hb dL_law_564 (by decide) ?_
  refine lv_iadd hx hb dL_law_565 ?_
  refine lv_topi (fun x565 ex565 => ?_)
  obtain rfl : x565 = 3 := ex565.trans (by decide)
  refine va_sld hx hb hX hbl hbA hS (q_in (a := 3) (by decide) (by decide) (by decide)) dL_law_566 ?_
  refine lv_topi (fun x566 ex566 => ?_)
  obtain rfl : v3 = x566 := ev3.trans ex566.symm
  refine lv_aload_n hx hb dL_law_567 rfl (lv_at hl 3 rfl) ?_
  refine lv_iload_n hx hb dL_law_568 rfl (lv_at hl 0 rfl) ?_
  refine lv_iconst (v := 4) hx hb dL_law_569 (by decide) ?_
  refine lv_iadd hx hb dL_law_570 ?_
  refine lv_topi (fun x570 ex570 => ?_)
  obtain rfl : x570 = 4 := ex570.trans (by decide)
  refine va_sld hx hb hX hbl hbA hS (q_in (a := 4) (by decide) (by decide) (by decide)) dL_law_571 ?_
  refine lv_topi (fun x571 ex571 => ?_)
  obtain rfl : v4 = x571 := ev4.trans ex571.symm
  refine k_i (va_runV (As := [.int v1, .int v2, .int v3, .int v4]) (rest := [.int r548]) ⟨hx, hb, hml, hown, hts⟩ (c_X10_wouldFit l D cy m0 m_tape m_stops m_km m_takes m_officeAt m_shares m_berths m_owner m_lies m_tickets m_tDay m_tBerth m_tFrom m_tTo m_tOffice m_tBack m_letters m_lComes m_lAnswer m_lOffice m_lDay m_lFrom m_lTo m_lTicket m_now m_lines m_lineTests m_testWhat m_testSign m_testThan m_lineAct m_lineNumber m_free m_newBerth m_newTests m_newWhat m_newSign m_newThan m_newAct m_newNumber m_has v1 v2 v3 v4 H.size ) (cwV 4 hts gL_law_X10_wouldFit rfl rfl rfl (by decide +kernel) ⟨Nat.le_of_ble_eq_true rfl, Nat.le_of_ble_eq_true rfl⟩) (cp_v hK hN hP hD [0, 1] rfl (by decide) (ci := 10) rfl rfl rfl) rfl rfl hl.1 rfl (lv_room (Nat.le_of_ble_eq_true rfl)) dL_law_572 ⟨Nat.le_of_ble_eq_true rfl, Nat.le_of_ble_eq_true rfl⟩) hP hD hS hA [0, 1] [] (wr := []) rfl rfl (by decide) (by decide) (fun r572 u_r572 H locs hw572 hP hD hS => ?_)
  try dsimp only at hw572
  have hP : va_P D vwCl [] H := hP
  have hD : va_D A [] := hD
  refine lv_icmp_eq (tgt := 947) hx hb dL_law_575 (by decide) (fun c575 => ?_) (fun c575 => ?_)
  · skip
    have fc575 := q_eq (a := r548.toInt) (b := r572.toInt) c575 rfl rfl
    exact law_tail C0 hA hAA (by decide) (by decide) hS ls (lv_sub hl [0, 3] rfl)
  · skip
    have fc575 := q_ne (a := r548.toInt) (b := r572.toInt) c575 rfl rfl
    exfalso; omega