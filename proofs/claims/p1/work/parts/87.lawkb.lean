set_option maxHeartbeats 4000000 in
set_option maxRecDepth 100000 in
theorem law_12 {p : Program} {e : Env} {s : State} {m : MethodId} {below : List Frame} {meth : Method} {c : Code} {l : Launch} {b : Nat} {xs : Nat → Int32} {A : Nat → Prop} {H : Heap} {locs : List Loc} {D : va_G} {cy : Nat → ClassId} (C0 : lw_At p s m meth c b 6 xs) (hA : ∀ q : Nat, s.heap.size ≤ q → A q) (hAA : ∀ q : Nat, A q → s.heap.size ≤ q) (hK : va_K D vwCl (tyL cy) s) (hN : NW s) (x0 b0 im tp rd r0 u0 t0 l0 q0 of sh nl fc t1 t2 t3 t4 t5 t6 m0 m_tape m_stops m_km m_takes m_officeAt m_shares m_berths m_owner m_lies m_tickets m_tDay m_tBerth m_tFrom m_tTo m_tOffice m_tBack m_letters m_lComes m_lAnswer m_lOffice m_lDay m_lFrom m_lTo m_lTicket m_now m_lines m_lineTests m_testWhat m_testSign m_testThan m_lineAct m_lineNumber m_free m_newBerth m_newTests m_newWhat m_newSign m_newThan m_newAct m_newNumber m_has : Nat) (g1 g2 fst fkm ftk fli : Nat → Int32) (hg1 : ∀ j : Nat, j < 9 → g1 j = 1) (hg2 : ∀ j : Nat, j < 9 → g2 j = 1) (hst : fst 0 = 2) (hkm : ∀ j : Nat, j < 9 → fkm j = 1) (htk : ∀ j : Nat, j < 9 → ftk j = 1) (hP : va_P D vwCl [(x0, .inr (9, [.ref b0, .ref im, .ref tp, .ref rd])), (b0, .inr (0, [.int 0, .ref r0, .ref u0, .ref t0, .ref l0, .ref q0, .ref of, .ref sh, .ref nl, .ref fc])), (t0, .inr (7, [.int 0, .ref t1, .ref t2, .ref t3, .ref t4, .ref t5, .ref t6])), (m0, .inr (10, [.int 0, .ref m_tape, .int 0, .ref m_stops, .ref m_km, .ref m_takes, .ref m_officeAt, .ref m_shares, .ref m_berths, .ref m_owner, .ref m_lies, .ref m_tickets, .ref m_tDay, .ref m_tBerth, .ref m_tFrom, .ref m_tTo, .ref m_tOffice, .ref m_tBack, .ref m_letters, .ref m_lComes, .ref m_lAnswer, .ref m_lOffice, .ref m_lDay, .ref m_lFrom, .ref m_lTo, .ref m_lTicket, .ref m_now, .ref m_lines, .ref m_lineTests, .ref m_testWhat, .ref m_testSign, .ref m_testThan, .ref m_lineAct, .ref m_lineNumber, .ref m_free, .ref m_newBerth, .int 0, .int 0, .int 0, .int 0, .int 0, .long 0, .int 0, .int (-1), .int 0, .int 0, .ref m_newTests, .ref m_newWhat, .ref m_newSign, .ref m_newThan, .ref m_newAct, .ref m_newNumber, .ref m_has])), (m_tickets, .inl (cy 0, 4, .inl (fun _ => 0)))] H) (hD : va_D A [(x0, .inr (9, [.ref b0, .ref im, .ref tp, .ref rd])), (b0, .inr (0, [.int 0, .ref r0, .ref u0, .ref t0, .ref l0, .ref q0, .ref of, .ref sh, .ref nl, .ref fc])), (t0, .inr (7, [.int 0, .ref t1, .ref t2, .ref t3, .ref t4, .ref t5, .ref t6])), (m0, .inr (10, [.int 0, .ref m_tape, .int 0, .ref m_stops, .ref m_km, .ref m_takes, .ref m_officeAt, .ref m_shares, .ref m_berths, .ref m_owner, .ref m_lies, .ref m_tickets, .ref m_tDay, .ref m_tBerth, .ref m_tFrom, .ref m_tTo, .ref m_tOffice, .ref m_tBack, .ref m_letters, .ref m_lComes, .ref m_lAnswer, .ref m_lOffice, .ref m_lDay, .ref m_lFrom, .ref m_lTo, .ref m_lTicket, .ref m_now, .ref m_lines, .ref m_lineTests, .ref m_testWhat, .ref m_testSign, .ref m_testThan, .ref m_lineAct, .ref m_lineNumber, .ref m_free, .ref m_newBerth, .int 0, .int 0, .int 0, .int 0, .int 0, .long 0, .int 0, .int (-1), .int 0, .int 0, .ref m_newTests, .ref m_newWhat, .ref m_newSign, .ref m_newThan, .ref m_newAct, .ref m_newNumber, .ref m_has])), (m_tickets, .inl (cy 0, 4, .inl (fun _ => 0)))]) (hS : va_S A s.heap H locs) (ls : Array Slot) (hl : lv_has ls 4 [(3, .int 0), (2, .ref m0), (1, .ref x0), (0, .ref b)]) : W p l e room_1 s m #[Value.ref b] below meth c H locs 94 42452 (lw_Z below #[Value.ref b] s) (F0 m 580 ls []) := by
  obtain ⟨hx, hb, hr, hml, hown, hts0, hX, hbl, hlocks, hgv⟩ := id C0
  have hown : s.vm.findClass RL = some m.cls := hown
  have hts : ∀ w ∈ wsL_law, w.before #[Value.ref b] s = true := fun w h => hts0 w (wsL_law_in w h)
  have hbA : ¬ A b := fun h => absurd (hAA b h) (Nat.not_le.mpr hbl)
  obtain ⟨v1, ev1⟩ : ∃ v : Int32, v = xs (1 : Int32).toNatClampNeg := ⟨_, rfl⟩
  obtain ⟨v2, ev2⟩ : ∃ v : Int32, v = xs (2 : Int32).toNatClampNeg := ⟨_, rfl⟩
  obtain ⟨v3, ev3⟩ : ∃ v : Int32, v = xs (3 : Int32).toNatClampNeg := ⟨_, rfl⟩
  obtain ⟨v4, ev4⟩ : ∃ v : Int32, v = xs (4 : Int32).toNatClampNeg := ⟨_, rfl⟩
  obtain ⟨v5, ev5⟩ : ∃ v : Int32, v = xs (5 : Int32).toNatClampNeg := ⟨_, rfl⟩
  have w_0 := hts0 (.instanceMethod yX9_ticket) (List.mem_of_getElem? (i := 559) (by decide +kernel))
  have w_1 := hts0 (.instanceMethod yX10_ticket) (List.mem_of_getElem? (i := 1154) (by decide +kernel))
  refine lv_aload_n hx hb dL_law_580 rfl (lv_at hl 2 rfl) ?_
  refine lv_aload_n hx hb dL_law_581 rfl (lv_at hl 3 rfl) ?_
  refine lv_iload_n hx hb dL_law_582 rfl (lv_at hl 0 rfl) ?_
  refine lv_iconst (v := 1) hx hb dL_law_583 (by decide) ?_
  refine lv_iadd hx hb dL_law_584 ?_
  refine lv_topi (fun x584 ex584 => ?_)
  obtain rfl : x584 = 1 := ex584.trans (by decide)
  refine va_sld hx hb hX hbl hbA hS (q_in (a := 1) (by decide) (by decide) (by decide)) dL_law_585 ?_
  refine lv_topi (fun x585 ex585 => ?_)
  obtain rfl : v1 = x585 := ev1.trans ex585.symm
  refine lv_aload_n hx hb dL_law_586 rfl (lv_at hl 3 rfl) ?_
  refine lv_iload_n hx hb dL_law_587 rfl (lv_at hl 0 rfl) ?_
  refine lv_iconst (v := 2) hx hb dL_law_588 (by decide) ?_
  refine lv_iadd hx hb dL_law_589 ?_
  refine lv_topi (fun x589 ex589 => ?_)
  obtain rfl : x589 = 2 := ex589.trans (by decide)
  refine va_sld hx hb hX hbl hbA hS (q_in (a := 2) (by decide) (by decide) (by decide)) dL_law_590 ?_
  refine lv_topi (fun x590 ex590 => ?_)
  obtain rfl : v2 = x590 := ev2.trans ex590.symm
  refine k_i (va_runV (As := [.int v1, .int v2]) (rest := []) ⟨hx, hb, hml, hown, hts⟩ (c_X9_ticket l D cy x0 b0 im tp rd r0 u0 t0 l0 q0 of sh nl fc t1 t2 t3 t4 t5 t6 v1 v2 H.size ) (cwV 2 hts gL_law_X9_ticket rfl rfl rfl (by decide +kernel) ⟨Nat.le_of_ble_eq_true rfl, Nat.le_of_ble_eq_true rfl⟩) (cp_v hK hN hP hD [0, 1, 2] rfl (by decide) (ci := 9) rfl rfl rfl) rfl rfl hl.1 rfl (lv_room (Nat.le_of_ble_eq_true rfl)) dL_law_591 ⟨Nat.le_of_ble_eq_true rfl, Nat.le_of_ble_eq_true rfl⟩) hP hD hS hA [0, 1, 2] [3, 4] (wr := [(m0, .inr (10, [.int 0, .ref m_tape, .int 0, .ref m_stops, .ref m_km, .ref m_takes, .ref m_officeAt, .ref m_shares, .ref m_berths, .ref m_owner, .ref m_lies, .ref m_tickets, .ref m_tDay, .ref m_tBerth, .ref m_tFrom, .ref m_tTo, .ref m_tOffice, .ref m_tBack, .ref m_letters, .ref m_lComes, .ref m_lAnswer, .ref m_lOffice, .ref m_lDay, .ref m_lFrom, .ref m_lTo, .ref m_lTicket, .ref m_now, .ref m_lines, .ref m_lineTests, .ref m_testWhat, .ref m_testSign, .ref m_testThan, .ref m_lineAct, .ref m_lineNumber, .ref m_free, .ref m_newBerth, .int 0, .int 0, .int 0, .int 0, .int 0, .long 0, .int 0, .int (-1), .int 0, .int 0, .ref m_newTests, .ref m_newWhat, .ref m_newSign, .ref m_newThan, .ref m_newAct, .ref m_newNumber, .ref m_has])), (m_tickets, .inl (cy 0, 4, .inl (fun _ => 0)))]) rfl rfl (by decide) (by decide) (fun r591 u_r591 H locs hw591 hP hD hS => ?_)
  try dsimp only at hw591
  have hP : va_P D vwCl [(m0, .inr (10, [.int 0, .ref m_tape, .int 0, .ref m_stops, .ref m_km, .ref m_takes, .ref m_officeAt, .ref m_shares, .ref m_berths, .ref m_owner, .ref m_lies, .ref m_tickets, .ref m_tDay, .ref m_tBerth, .ref m_tFrom, .ref m_tTo, .ref m_tOffice, .ref m_tBack, .ref m_letters, .ref m_lComes, .ref m_lAnswer, .ref m_lOffice, .ref m_lDay, .ref m_lFrom, .ref m_lTo, .ref m_lTicket, .ref m_now, .ref m_lines, .ref m_lineTests, .ref m_testWhat, .ref m_testSign, .ref m_testThan, .ref m_lineAct, .ref m_lineNumber, .ref m_free, .ref m_newBerth, .int 0, .int 0, .int 0, .int 0, .int 0, .long 0, .int 0, .int (-1), .int 0, .int 0, .ref m_newTests, .ref m_newWhat, .ref m_newSign, .ref m_newThan, .ref m_newAct, .ref m_newNumber, .ref m_has])), (m_tickets, .inl (cy 0, 4, .inl (fun _ => 0)))] H := hP
  have hD : va_D A [(m0, .inr (10, [.int 0, .ref m_tape, .int 0, .ref m_stops, .ref m_km, .ref m_takes, .ref m_officeAt, .ref m_shares, .ref m_berths, .ref m_owner, .ref m_lies, .ref m_tickets, .ref m_tDay, .ref m_tBerth, .ref m_tFrom, .ref m_tTo, .ref m_tOffice, .ref m_tBack, .ref m_letters, .ref m_lComes, .ref m_lAnswer, .ref m_lOffice, .ref m_lDay, .ref m_lFrom, .ref m_lTo, .ref m_lTicket, .ref m_now, .ref m_lines, .ref m_lineTests, .ref m_testWhat, .ref m_testSign, .ref m_testThan, .ref m_lineAct, .ref m_lineNumber, .ref m_free, .ref m_newBerth, .int 0, .int 0, .int 0, .int 0, .int 0, .long 0, .int 0, .int (-1), .int 0, .int 0, .ref m_newTests, .ref m_newWhat, .ref m_newSign, .ref m_newThan, .ref m_newAct, .ref m_newNumber, .ref m_has])), (m_tickets, .inl (cy 0, 4, .inl (fun _ => 0)))] := hD
  refine lv_aload_n hx hb dL_law_594 rfl (lv_at hl 1 rfl) ?_
  refine lv_aload_n hx hb dL_law_595 rfl (lv_at hl 3 rfl) ?_
  refine lv_iload_n hx hb dL_law_596 rfl (lv_at hl 0 rfl) ?_
  refine lv_iconst (v := 1) hx hb dL_law_597 (by decide) ?_
  refine lv_iadd hx hb dL_law_598 ?_
  refine lv_topi (fun x598 ex598 => ?_)
  obtain rfl : x598 = 1 := ex598.trans (by decide)
  refine va_sld hx hb hX hbl hbA hS (q_in (a := 1) (by decide) (by decide) (by decide)) dL_law_599 ?_
  refine lv_topi (fun x599 ex599 => ?_)
  obtain rfl : v1 = x599 := ev1.trans ex599.symm
  refine lv_aload_n hx hb dL_law_600 rfl (lv_at hl 3 rfl) ?_
  refine lv_iload_n hx hb dL_law_601 rfl (lv_at hl 0 rfl) ?_
  refine lv_iconst (v := 2) hx hb dL_law_602 (by decide) ?_
  refine lv_iadd hx hb dL_law_603 ?_
  refine lv_topi (fun x603 ex603 => ?_)
  obtain rfl : x603 = 2 := ex603.trans (by decide)
  refine va_sld hx hb hX hbl hbA hS (q_in (a := 2) (by decide) (by decide) (by decide)) dL_law_604 ?_
  refine lv_topi (fun x604 ex604 => ?_)
  obtain rfl : v2 = x604 := ev2.trans ex604.symm
  refine k_i (va_runV (As := [.int v1, .int v2]) (rest := [.int r591]) ⟨hx, hb, hml, hown, hts⟩ (c_X10_ticket l D cy m0 m_tape m_stops m_km m_takes m_officeAt m_shares m_berths m_owner m_lies m_tickets m_tDay m_tBerth m_tFrom m_tTo m_tOffice m_tBack m_letters m_lComes m_lAnswer m_lOffice m_lDay m_lFrom m_lTo m_lTicket m_now m_lines m_lineTests m_testWhat m_testSign m_testThan m_lineAct m_lineNumber m_free m_newBerth m_newTests m_newWhat m_newSign m_newThan m_newAct m_newNumber m_has v1 v2 H.size ) (cwV 2 hts gL_law_X10_ticket rfl rfl rfl (by decide +kernel) ⟨Nat.le_of_ble_eq_true rfl, Nat.le_of_ble_eq_true rfl⟩) (cp_v hK hN hP hD [0, 1] rfl (by decide) (ci := 10) rfl rfl rfl) rfl rfl hl.1 rfl (lv_room (Nat.le_of_ble_eq_true rfl)) dL_law_605 ⟨Nat.le_of_ble_eq_true rfl, Nat.le_of_ble_eq_true rfl⟩) hP hD hS hA [0, 1] [] (wr := []) rfl rfl (by decide) (by decide) (fun r605 u_r605 H locs hw605 hP hD hS => ?_)
  try dsimp only at hw605
  have hP : va_P D vwCl [] H := hP
  have hD : va_D A [] := hD
  refine lv_icmp_eq (tgt := 947) hx hb dL_law_608 (by decide) (fun c608 => ?_) (fun c608 => ?_)
  · skip
    have fc608 := q_eq (a := r591.toInt) (b := r605.toInt) c608 rfl rfl
    exact law_tail C0 hA hAA (by decide) (by decide) hS ls (lv_sub hl [0, 3] rfl)
  · skip
    have fc608 := q_ne (a := r591.toInt) (b := r605.toInt) c608 rfl rfl
    exfalso; omega
set_option maxHeartbeats 4000000 in
set_option maxRecDepth 100000 in
theorem law_13 {p : Program} {e : Env} {s : State} {m : MethodId} {below : List Frame} {meth : Method} {c : Code} {l : Launch} {b : Nat} {xs : Nat → Int32} {A : Nat → Prop} {H : Heap} {locs : List Loc} {D : va_G} {cy : Nat → ClassId} (C0 : lw_At p s m meth c b 6 xs) (hA : ∀ q : Nat, s.heap.size ≤ q → A q) (hAA : ∀ q : Nat, A q → s.heap.size ≤ q) (hK : va_K D vwCl (tyL cy) s) (hN : NW s) (x0 b0 im tp rd r0 u0 t0 l0 q0 of sh nl fc u1 u2 u3 m0 m_tape m_stops m_km m_takes m_officeAt m_shares m_berths m_owner m_lies m_tickets m_tDay m_tBerth m_tFrom m_tTo m_tOffice m_tBack m_letters m_lComes m_lAnswer m_lOffice m_lDay m_lFrom m_lTo m_lTicket m_now m_lines m_lineTests m_testWhat m_testSign m_testThan m_lineAct m_lineNumber m_free m_newBerth m_newTests m_newWhat m_newSign m_newThan m_newAct m_newNumber m_has : Nat) (g1 g2 fst fkm ftk fli : Nat → Int32) (hg1 : ∀ j : Nat, j < 9 → g1 j = 1) (hg2 : ∀ j : Nat, j < 9 → g2 j = 1) (hst : fst 0 = 2) (hkm : ∀ j : Nat, j < 9 → fkm j = 1) (htk : ∀ j : Nat, j < 9 → ftk j = 1) (hP : va_P D vwCl [(x0, .inr (9, [.ref b0, .ref im, .ref tp, .ref rd])), (b0, .inr (0, [.int 0, .ref r0, .ref u0, .ref t0, .ref l0, .ref q0, .ref of, .ref sh, .ref nl, .ref fc])), (u0, .inr (5, [.int 0, .ref u1, .ref u2, .ref u3])), (u1, .inl (cy 0, 60, .inl (fun _ => 0))), (m0, .inr (10, [.int 0, .ref m_tape, .int 0, .ref m_stops, .ref m_km, .ref m_takes, .ref m_officeAt, .ref m_shares, .ref m_berths, .ref m_owner, .ref m_lies, .ref m_tickets, .ref m_tDay, .ref m_tBerth, .ref m_tFrom, .ref m_tTo, .ref m_tOffice, .ref m_tBack, .ref m_letters, .ref m_lComes, .ref m_lAnswer, .ref m_lOffice, .ref m_lDay, .ref m_lFrom, .ref m_lTo, .ref m_lTicket, .ref m_now, .ref m_lines, .ref m_lineTests, .ref m_testWhat, .ref m_testSign, .ref m_testThan, .ref m_lineAct, .ref m_lineNumber, .ref m_free, .ref m_newBerth, .int 0, .int 0, .int 0, .int 0, .int 0, .long 0, .int 0, .int (-1), .int 0, .int 0, .ref m_newTests, .ref m_newWhat, .ref m_newSign, .ref m_newThan, .ref m_newAct, .ref m_newNumber, .ref m_has])), (m_berths, .inl (cy 0, 240, .inl (fun _ => 0)))] H) (hD : va_D A [(x0, .inr (9, [.ref b0, .ref im, .ref tp, .ref rd])), (b0, .inr (0, [.int 0, .ref r0, .ref u0, .ref t0, .ref l0, .ref q0, .ref of, .ref sh, .ref nl, .ref fc])), (u0, .inr (5, [.int 0, .ref u1, .ref u2, .ref u3])), (u1, .inl (cy 0, 60, .inl (fun _ => 0))), (m0, .inr (10, [.int 0, .ref m_tape, .int 0, .ref m_stops, .ref m_km, .ref m_takes, .ref m_officeAt, .ref m_shares, .ref m_berths, .ref m_owner, .ref m_lies, .ref m_tickets, .ref m_tDay, .ref m_tBerth, .ref m_tFrom, .ref m_tTo, .ref m_tOffice, .ref m_tBack, .ref m_letters, .ref m_lComes, .ref m_lAnswer, .ref m_lOffice, .ref m_lDay, .ref m_lFrom, .ref m_lTo, .ref m_lTicket, .ref m_now, .ref m_lines, .ref m_lineTests, .ref m_testWhat, .ref m_testSign, .ref m_testThan, .ref m_lineAct, .ref m_lineNumber, .ref m_free, .ref m_newBerth, .int 0, .int 0, .int 0, .int 0, .int 0, .long 0, .int 0, .int (-1), .int 0, .int 0, .ref m_newTests, .ref m_newWhat, .ref m_newSign, .ref m_newThan, .ref m_newAct, .ref m_newNumber, .ref m_has])), (m_berths, .inl (cy 0, 240, .inl (fun _ => 0)))]) (hS : va_S A s.heap H locs) (ls : Array Slot) (hl : lv_has ls 4 [(3, .int 0), (2, .ref m0), (1, .ref x0), (0, .ref b)]) : W p l e room_1 s m #[Value.ref b] below meth c H locs 94 42452 (lw_Z below #[Value.ref b] s) (F0 m 613 ls []) := by
  obtain ⟨hx, hb, hr, hml, hown, hts0, hX, hbl, hlocks, hgv⟩ := id C0
  have hown : s.vm.findClass RL = some m.cls := hown
  have hts : ∀ w ∈ wsL_law, w.before #[Value.ref b] s = true := fun w h => hts0 w (wsL_law_in w h)
  have hbA : ¬ A b := fun h => absurd (hAA b h) (Nat.not_le.mpr hbl)
  obtain ⟨v1, ev1⟩ : ∃ v : Int32, v = xs (1 : Int32).toNatClampNeg := ⟨_, rfl⟩
  obtain ⟨v2, ev2⟩ : ∃ v : Int32, v = xs (2 : Int32).toNatClampNeg := ⟨_, rfl⟩
  obtain ⟨v3, ev3⟩ : ∃ v : Int32, v = xs (3 : Int32).toNatClampNeg := ⟨_, rfl⟩
  obtain ⟨v4, ev4⟩ : ∃ v : Int32, v = xs (4 : Int32).toNatClampNeg := ⟨_, rfl⟩
  obtain ⟨v5, ev5⟩ : ∃ v : Int32, v = xs (5 : Int32).toNatClampNeg := ⟨_, rfl⟩
  have w_0 := hts0 (.instanceMethod yX9_lies) (List.mem_of_getElem? (i := 563) (by decide +kernel))
  have w_1 := hts0 (.instanceMethod yX10_lies) (List.mem_of_getElem? (i := 1158) (by decide +kernel))
  refine lv_aload_n hx hb dL_law_613 rfl (lv_at hl 2 rfl) ?_
  refine lv_aload_n hx hb dL_law_614 rfl (lv_at hl 3 rfl) ?_
  refine lv_iload_n hx hb dL_law_615 rfl (lv_at hl 0 rfl) ?_
  refine lv_iconst (v := 1) hx hb dL_law_616 (by decide) ?_
  refine lv_iadd hx hb dL_law_617 ?_
  refine lv_topi (fun x617 ex617 => ?_)
  obtain rfl : x617 = 1 := ex617.trans (by decide)
  refine va_sld hx hb hX hbl hbA hS (q_in (a := 1) (by decide) (by decide) (by decide)) dL_law_618 ?_
  refine lv_topi (fun x618 ex618 => ?_)
  obtain rfl : v1 = x618 := ev1.trans ex618.symm
  refine lv_aload_n hx hb dL_law_619 rfl (lv_at hl 3 rfl) ?_
  refine lv_iload_n hx hb dL_law_620 rfl (lv_at hl 0 rfl) ?_
  refine lv_iconst (v := 2) hx hb dL_law_621 (by decide) ?_
  refine lv_iadd hx hb dL_law_622 ?_
  refine lv_topi (fun x622 ex622 => ?_)
  obtain rfl : x622 = 2 := ex622.trans (by decide)
  refine va_sld hx hb hX hbl hbA hS (q_in (a := 2) (by decide) (by decide) (by decide)) dL_law_623 ?_
  refine lv_topi (fun x623 ex623 => ?_)
  obtain rfl : v2 = x623 := ev2.trans ex623.symm
  refine lv_aload_n hx hb dL_law_624 rfl (lv_at hl 3 rfl) ?_
  refine lv_iload_n hx hb dL_law_625 rfl (lv_at hl 0 rfl) ?_
  refine lv_iconst (v := 3) hx hb dL_law_626 (by decide) ?_
  refine lv_iadd hx hb dL_law_627 ?_
  refine lv_topi (fun x627 ex627 => ?_)
  obtain rfl : x627 = 3 := ex627.trans (by decide)
  refine va_sld hx hb hX hbl hbA hS (q_in (a := 3) (by decide) (by decide) (by decide)) dL_law_628 ?_
  refine lv_topi (fun x628 ex628 => ?_)
  obtain rfl : v3 = x628 := ev3.trans ex628.symm
  refine k_i (va_runV (As := [.int v1, .int v2, .int v3]) (rest := []) ⟨hx, hb, hml, hown, hts⟩ (c_X9_lies l D cy x0 b0 im tp rd r0 u0 t0 l0 q0 of sh nl fc u1 u2 u3 v1 v2 v3 H.size ) (cwV 3 hts gL_law_X9_lies rfl rfl rfl (by decide +kernel) ⟨Nat.le_of_ble_eq_true rfl, Nat.le_of_ble_eq_true rfl⟩) (cp_v hK hN hP hD [0, 1, 2, 3] rfl (by decide) (ci := 9) rfl rfl rfl) rfl rfl hl.1 rfl (lv_room (Nat.le_of_ble_eq_true rfl)) dL_law_629 ⟨Nat.le_of_ble_eq_true rfl, Nat.le_of_ble_eq_true rfl⟩) hP hD hS hA [0, 1, 2, 3] [4, 5] (wr := [(m0, .inr (10, [.int 0, .ref m_tape, .int 0, .ref m_stops, .ref m_km, .ref m_takes, .ref m_officeAt, .ref m_shares, .ref m_berths, .ref m_owner, .ref m_lies, .ref m_tickets, .ref m_tDay, .ref m_tBerth, .ref m_tFrom, .ref m_tTo, .ref m_tOffice, .ref m_tBack, .ref m_letters, .ref m_lComes, .ref m_lAnswer, .ref m_lOffice, .ref m_lDay, .ref m_lFrom, .ref m_lTo, .ref m_lTicket, .ref m_now, .ref m_lines, .ref m_lineTests, .ref m_testWhat, .ref m_testSign, .ref m_testThan, .ref m_lineAct, .ref m_lineNumber, .ref m_free, .ref m_newBerth, .int 0, .int 0, .int 0, .int 0, .int 0, .long 0, .int 0, .int (-1), .int 0, .int 0, .ref m_newTests, .ref m_newWhat, .ref m_newSign, .ref m_newThan, .ref m_newAct, .ref m_newNumber, .ref m_has])), (m_berths, .inl (cy 0, 240, .inl (fun _ => 0)))]) rfl rfl (by decide) (by decide) (fun r629 u_r629 H locs hw629 hP hD hS => ?_)
  try dsimp only at hw629
  have hP : va_P D vwCl [(m0, .inr (10, [.int 0, .ref m_tape, .int 0, .ref m_stops, .ref m_km, .ref m_takes, .ref m_officeAt, .ref m_shares, .ref m_berths, .ref m_owner, .ref m_lies, .ref m_tickets, .ref m_tDay, .ref m_tBerth, .ref m_tFrom, .ref m_tTo, .ref m_tOffice, .ref m_tBack, .ref m_letters, .ref m_lComes, .ref m_lAnswer, .ref m_lOffice, .ref m_lDay, .ref m_lFrom, .ref m_lTo, .ref m_lTicket, .ref m_now, .ref m_lines, .ref m_lineTests, .ref m_testWhat, .ref m_testSign, .ref m_testThan, .ref m_lineAct, .ref m_lineNumber, .ref m_free, .ref m_newBerth, .int 0, .int 0, .int 0, .int 0, .int 0, .long 0, .int 0, .int (-1), .int 0, .int 0, .ref m_newTests, .ref m_newWhat, .ref m_newSign, .ref m_newThan, .ref m_newAct, .ref m_newNumber, .ref m_has])), (m_berths, .inl (cy 0, 240, .inl (fun _ => 0)))] H := hP
  have hD : va_D A [(m0, .inr (10, [.int 0, .ref m_tape, .int 0, .ref m_stops, .ref m_km, .ref m_takes, .ref m_officeAt, .ref m_shares, .ref m_berths, .ref m_owner, .ref m_lies, .ref m_tickets, .ref m_tDay, .ref m_tBerth, .ref m_tFrom, .ref m_tTo, .ref m_tOffice, .ref m_tBack, .ref m_letters, .ref m_lComes, .ref m_lAnswer, .ref m_lOffice, .ref m_lDay, .ref m_lFrom, .ref m_lTo, .ref m_lTicket, .ref m_now, .ref m_lines, .ref m_lineTests, .ref m_testWhat, .ref m_testSign, .ref m_testThan, .ref m_lineAct, .ref m_lineNumber, .ref m_free, .ref m_newBerth, .int 0, .int 0, .int 0, .int 0, .int 0, .long 0, .int 0, .int (-1), .int 0, .int 0, .ref m_newTests, .ref m_newWhat, .ref m_newSign, .ref m_newThan, .ref m_newAct, .ref m_newNumber, .ref m_has])), (m_berths, .inl (cy 0, 240, .inl (fun _ => 0)))] := hD
  refine lv_aload_n hx hb dL_law_632 rfl (lv_at hl 1 rfl) ?_
  refine lv_aload_n hx hb dL_law_633 rfl (lv_at hl 3 rfl) ?_
  refine lv_iload_n hx hb dL_law_634 rfl (lv_at hl 0 rfl) ?_
  refine lv_iconst (v := 1) hx hb dL_law_635 (by decide) ?_
  refine lv_iadd hx hb dL_law_636 ?_
  refine lv_topi (fun x636 ex636 => ?_)
  obtain rfl : x636 = 1 := ex636.trans (by decide)
  refine va_sld hx hb hX hbl hbA hS (q_in (a := 1) (by decide) (by decide) (by decide)) dL_law_637 ?_
  refine lv_topi (fun x637 ex637 => ?_)
  obtain rfl : v1 = x637 := ev1.trans ex637.symm
  refine lv_aload_n hx hb dL_law_638 rfl (lv_at hl 3 rfl) ?_
  refine lv_iload_n hx hb dL_law_639 rfl (lv_at hl 0 rfl) ?_
  refine lv_iconst (v := 2) hx hb dL_law_640 (by decide) ?_
  refine lv_iadd hx hb dL_law_641 ?_
  refine lv_topi (fun x641 ex641 => ?_)
  obtain rfl : x641 = 2 := ex641.trans (by decide)
  refine va_sld hx hb hX hbl hbA hS (q_in (a := 2) (by decide) (by decide) (by decide)) dL_law_642 ?_
  refine lv_topi (fun x642 ex642 => ?_)
  obtain rfl : v2 = x642 := ev2.trans ex642.symm
  refine lv_aload_n hx hb dL_law_643 rfl (lv_at hl 3 rfl) ?_
  refine lv_iload_n hx hb dL_law_644 rfl (lv_at hl 0 rfl) ?_
  refine lv_iconst (v := 3) hx hb dL_law_645 (by decide) ?_
  refine lv_iadd hx hb dL_law_646 ?_
  refine lv_topi (fun x646 ex646 => ?_)
  obtain rfl : x646 = 3 := ex646.trans (by decide)
  refine va_sld hx hb hX hbl hbA hS (q_in (a := 3) (by decide) (by decide) (by decide)) dL_law_647 ?_
  refine lv_topi (fun x647 ex647 => ?_)
  obtain rfl : v3 = x647 := ev3.trans ex647.symm
  refine k_i (va_runV (As := [.int v1, .int v2, .int v3]) (rest := [.int r629]) ⟨hx, hb, hml, hown, hts⟩ (c_X10_lies l D cy m0 m_tape m_stops m_km m_takes m_officeAt m_shares m_berths m_owner m_lies m_tickets m_tDay m_tBerth m_tFrom m_tTo m_tOffice m_tBack m_letters m_lComes m_lAnswer m_lOffice m_lDay m_lFrom m_lTo m_lTicket m_now m_lines m_lineTests m_testWhat m_testSign m_testThan m_lineAct m_lineNumber m_free m_newBerth m_newTests m_newWhat m_newSign m_newThan m_newAct m_newNumber m_has v1 v2 v3 H.size ) (cwV 3 hts gL_law_X10_lies rfl rfl rfl (by decide +kernel) ⟨Nat.le_of_ble_eq_true rfl, Nat.le_of_ble_eq_true rfl⟩) (cp_v hK hN hP hD [0, 1] rfl (by decide) (ci := 10) rfl rfl rfl) rfl rfl hl.1 rfl (lv_room (Nat.le_of_ble_eq_true rfl)) dL_law_648 ⟨Nat.le_of_ble_eq_true rfl, Nat.le_of_ble_eq_true rfl⟩) hP hD hS hA [0, 1] [] (wr := []) rfl rfl (by decide) (by decide) (fun r648 u_r648 H locs hw648 hP hD hS => ?_)
  try dsimp only at hw648
  have hP : va_P D vwCl [] H := hP
  have hD : va_D A [] := hD
  refine lv_icmp_eq (tgt := 947) hx hb dL_law_651 (by decide) (fun c651 => ?_) (fun c651 => ?_)
  · skip
    have fc651 := q_eq (a := r629.toInt) (b := r648.toInt) c651 rfl rfl
    exact law_tail C0 hA hAA (by decide) (by decide) hS ls (lv_sub hl [0, 3] rfl)
  · skip
    have fc651 := q_ne (a := r629.toInt) (b := r648.toInt) c651 rfl rfl
    exfalso; omega
set_option maxHeartbeats 4000000 in
set_option maxRecDepth 100000 in
theorem law_14 {p : Program} {e : Env} {s : State} {m : MethodId} {below : List Frame} {meth : Method} {c : Code} {l : Launch} {b : Nat} {xs : Nat → Int32} {A : Nat → Prop} {H : Heap} {locs : List Loc} {D : va_G} {cy : Nat → ClassId} (C0 : lw_At p s m meth c b 6 xs) (hA : ∀ q : Nat, s.heap.size ≤ q → A q) (hAA : ∀ q : Nat, A q → s.heap.size ≤ q) (hK : va_K D vwCl (tyL cy) s) (hN : NW s) (x0 b0 im tp rd r0 u0 t0 l0 q0 of sh nl fc u1 u2 u3 m0 m_tape m_stops m_km m_takes m_officeAt m_shares m_berths m_owner m_lies m_tickets m_tDay m_tBerth m_tFrom m_tTo m_tOffice m_tBack m_letters m_lComes m_lAnswer m_lOffice m_lDay m_lFrom m_lTo m_lTicket m_now m_lines m_lineTests m_testWhat m_testSign m_testThan m_lineAct m_lineNumber m_free m_newBerth m_newTests m_newWhat m_newSign m_newThan m_newAct m_newNumber m_has : Nat) (g1 g2 fst fkm ftk fli : Nat → Int32) (hg1 : ∀ j : Nat, j < 9 → g1 j = 1) (hg2 : ∀ j : Nat, j < 9 → g2 j = 1) (hst : fst 0 = 2) (hkm : ∀ j : Nat, j < 9 → fkm j = 1) (htk : ∀ j : Nat, j < 9 → ftk j = 1) (hP : va_P D vwCl [(x0, .inr (9, [.ref b0, .ref im, .ref tp, .ref rd])), (b0, .inr (0, [.int 0, .ref r0, .ref u0, .ref t0, .ref l0, .ref q0, .ref of, .ref sh, .ref nl, .ref fc])), (u0, .inr (5, [.int 0, .ref u1, .ref u2, .ref u3])), (u1, .inl (cy 0, 60, .inl (fun _ => 0))), (m0, .inr (10, [.int 0, .ref m_tape, .int 0, .ref m_stops, .ref m_km, .ref m_takes, .ref m_officeAt, .ref m_shares, .ref m_berths, .ref m_owner, .ref m_lies, .ref m_tickets, .ref m_tDay, .ref m_tBerth, .ref m_tFrom, .ref m_tTo, .ref m_tOffice, .ref m_tBack, .ref m_letters, .ref m_lComes, .ref m_lAnswer, .ref m_lOffice, .ref m_lDay, .ref m_lFrom, .ref m_lTo, .ref m_lTicket, .ref m_now, .ref m_lines, .ref m_lineTests, .ref m_testWhat, .ref m_testSign, .ref m_testThan, .ref m_lineAct, .ref m_lineNumber, .ref m_free, .ref m_newBerth, .int 0, .int 0, .int 0, .int 0, .int 0, .long 0, .int 0, .int (-1), .int 0, .int 0, .ref m_newTests, .ref m_newWhat, .ref m_newSign, .ref m_newThan, .ref m_newAct, .ref m_newNumber, .ref m_has])), (m_berths, .inl (cy 0, 240, .inl (fun _ => 0)))] H) (hD : va_D A [(x0, .inr (9, [.ref b0, .ref im, .ref tp, .ref rd])), (b0, .inr (0, [.int 0, .ref r0, .ref u0, .ref t0, .ref l0, .ref q0, .ref of, .ref sh, .ref nl, .ref fc])), (u0, .inr (5, [.int 0, .ref u1, .ref u2, .ref u3])), (u1, .inl (cy 0, 60, .inl (fun _ => 0))), (m0, .inr (10, [.int 0, .ref m_tape, .int 0, .ref m_stops, .ref m_km, .ref m_takes, .ref m_officeAt, .ref m_shares, .ref m_berths, .ref m_owner, .ref m_lies, .ref m_tickets, .ref m_tDay, .ref m_tBerth, .ref m_tFrom, .ref m_tTo, .ref m_tOffice, .ref m_tBack, .ref m_letters, .ref m_lComes, .ref m_lAnswer, .ref m_lOffice, .ref m_lDay, .ref m_lFrom, .ref m_lTo, .ref m_lTicket, .ref m_now, .ref m_lines, .ref m_lineTests, .ref m_testWhat, .ref m_testSign, .ref m_testThan, .ref m_lineAct, .ref m_lineNumber, .ref m_free, .ref m_newBerth, .int 0, .int 0, .int 0, .int 0, .int 0, .long 0, .int 0, .int (-1), .int 0, .int 0, .ref m_newTests, .ref m_newWhat, .ref m_newSign, .ref m_newThan, .ref m_newAct, .ref m_newNumber, .ref m_has])), (m_berths, .inl (cy 0, 240, .inl (fun _ => 0)))]) (hS : va_S A s.heap H locs) (ls : Array Slot) (hl : lv_has ls 4 [(3, .int 0), (2, .ref m0), (1, .ref x0), (0, .ref b)]) : W p l e room_1 s m #[Value.ref b] below meth c H locs 94 42452 (lw_Z below #[Value.ref b] s) (F0 m 656 ls []) := by
  obtain ⟨hx, hb, hr, hml, hown, hts0, hX, hbl, hlocks, hgv⟩ := id C0
  have hown : s.vm.findClass RL = some m.cls := hown
  have hts : ∀ w ∈ wsL_law, w.before #[Value.ref b] s = true := fun w h => hts0 w (wsL_law_in w h)
  have hbA : ¬ A b := fun h => absurd (hAA b h) (Nat.not_le.mpr hbl)
  obtain ⟨v1, ev1⟩ : ∃ v : Int32, v = xs (1 : Int32).toNatClampNeg := ⟨_, rfl⟩
  obtain ⟨v2, ev2⟩ : ∃ v : Int32, v = xs (2 : Int32).toNatClampNeg := ⟨_, rfl⟩
  obtain ⟨v3, ev3⟩ : ∃ v : Int32, v = xs (3 : Int32).toNatClampNeg := ⟨_, rfl⟩
  obtain ⟨v4, ev4⟩ : ∃ v : Int32, v = xs (4 : Int32).toNatClampNeg := ⟨_, rfl⟩
  obtain ⟨v5, ev5⟩ : ∃ v : Int32, v = xs (5 : Int32).toNatClampNeg := ⟨_, rfl⟩
  have w_0 := hts0 (.instanceMethod yX9_told) (List.mem_of_getElem? (i := 577) (by decide +kernel))
  have w_1 := hts0 (.instanceMethod yX10_told) (List.mem_of_getElem? (i := 1162) (by decide +kernel))
  refine lv_aload_n hx hb dL_law_656 rfl (lv_at hl 2 rfl) ?_
  refine lv_aload_n hx hb dL_law_657 rfl (lv_at hl 3 rfl) ?_
  refine lv_iload_n hx hb dL_law_658 rfl (lv_at hl 0 rfl) ?_
  refine lv_iconst (v := 1) hx hb dL_law_659 (by decide) ?_
  refine lv_iadd hx hb dL_law_660 ?_
  refine lv_topi (fun x660 ex660 => ?_)
  obtain rfl : x660 = 1 := ex660.trans (by decide)
  refine va_sld hx hb hX hbl hbA hS (q_in (a := 1) (by decide) (by decide) (by decide)) dL_law_661 ?_
  refine lv_topi (fun x661 ex661 => ?_)
  obtain rfl : v1 = x661 := ev1.trans ex661.symm
  refine lv_aload_n hx hb dL_law_662 rfl (lv_at hl 3 rfl) ?_
  refine lv_iload_n hx hb dL_law_663 rfl (lv_at hl 0 rfl) ?_
  refine lv_iconst (v := 2) hx hb dL_law_664 (by decide) ?_
  refine lv_iadd hx hb dL_law_665 ?_
  refine lv_topi (fun x665 ex665 => ?_)
  obtain rfl : x665 = 2 := ex665.trans (by decide)
  refine va_sld hx hb hX hbl hbA hS (q_in (a := 2) (by decide) (by decide) (by decide)) dL_law_666 ?_
  refine lv_topi (fun x666 ex666 => ?_)
  obtain rfl : v2 = x666 := ev2.trans ex666.symm
  refine k_i (va_runV (As := [.int v1, .int v2]) (rest := []) ⟨hx, hb, hml, hown, hts⟩ (c_X9_told l D cy x0 b0 im tp rd r0 u0 t0 l0 q0 of sh nl fc u1 u2 u3 v1 v2 H.size ) (cwV 2 hts gL_law_X9_told rfl rfl rfl (by decide +kernel) ⟨Nat.le_of_ble_eq_true rfl, Nat.le_of_ble_eq_true rfl⟩) (cp_v hK hN hP hD [0, 1, 2, 3] rfl (by decide) (ci := 9) rfl rfl rfl) rfl rfl hl.1 rfl (lv_room (Nat.le_of_ble_eq_true rfl)) dL_law_667 ⟨Nat.le_of_ble_eq_true rfl, Nat.le_of_ble_eq_true rfl⟩) hP hD hS hA [0, 1, 2, 3] [4, 5] (wr := [(m0, .inr (10, [.int 0, .ref m_tape, .int 0, .ref m_stops, .ref m_km, .ref m_takes, .ref m_officeAt, .ref m_shares, .ref m_berths, .ref m_owner, .ref m_lies, .ref m_tickets, .ref m_tDay, .ref m_tBerth, .ref m_tFrom, .ref m_tTo, .ref m_tOffice, .ref m_tBack, .ref m_letters, .ref m_lComes, .ref m_lAnswer, .ref m_lOffice, .ref m_lDay, .ref m_lFrom, .ref m_lTo, .ref m_lTicket, .ref m_now, .ref m_lines, .ref m_lineTests, .ref m_testWhat, .ref m_testSign, .ref m_testThan, .ref m_lineAct, .ref m_lineNumber, .ref m_free, .ref m_newBerth, .int 0, .int 0, .int 0, .int 0, .int 0, .long 0, .int 0, .int (-1), .int 0, .int 0, .ref m_newTests, .ref m_newWhat, .ref m_newSign, .ref m_newThan, .ref m_newAct, .ref m_newNumber, .ref m_has])), (m_berths, .inl (cy 0, 240, .inl (fun _ => 0)))]) rfl rfl (by decide) (by decide) (fun r667 u_r667 H locs hw667 hP hD hS => ?_)
  try dsimp only at hw667
  have hP : va_P D vwCl [(m0, .inr (10, [.int 0, .ref m_tape, .int 0, .ref m_stops, .ref m_km, .ref m_takes, .ref m_officeAt, .ref m_shares, .ref m_berths, .ref m_owner, .ref m_lies, .ref m_tickets, .ref m_tDay, .ref m_tBerth, .ref m_tFrom, .ref m_tTo, .ref m_tOffice, .ref m_tBack, .ref m_letters, .ref m_lComes, .ref m_lAnswer, .ref m_lOffice, .ref m_lDay, .ref m_lFrom, .ref m_lTo, .ref m_lTicket, .ref m_now, .ref m_lines, .ref m_lineTests, .ref m_testWhat, .ref m_testSign, .ref m_testThan, .ref m_lineAct, .ref m_lineNumber, .ref m_free, .ref m_newBerth, .int 0, .int 0, .int 0, .int 0, .int 0, .long 0, .int 0, .int (-1), .int 0, .int 0, .ref m_newTests, .ref m_newWhat, .ref m_newSign, .ref m_newThan, .ref m_newAct, .ref m_newNumber, .ref m_has])), (m_berths, .inl (cy 0, 240, .inl (fun _ => 0)))] H := hP
  have hD : va_D A [(m0, .inr (10, [.int 0, .ref m_tape, .int 0, .ref m_stops, .ref m_km, .ref m_takes, .ref m_officeAt, .ref m_shares, .ref m_berths, .ref m_owner, .ref m_lies, .ref m_tickets, .ref m_tDay, .ref m_tBerth, .ref m_tFrom, .ref m_tTo, .ref m_tOffice, .ref m_tBack, .ref m_letters, .ref m_lComes, .ref m_lAnswer, .ref m_lOffice, .ref m_lDay, .ref m_lFrom, .ref m_lTo, .ref m_lTicket, .ref m_now, .ref m_lines, .ref m_lineTests, .ref m_testWhat, .ref m_testSign, .ref m_testThan, .ref m_lineAct, .ref m_lineNumber, .ref m_free, .ref m_newBerth, .int 0, .int 0, .int 0, .int 0, .int 0, .long 0, .int 0, .int (-1), .int 0, .int 0, .ref m_newTests, .ref m_newWhat, .ref m_newSign, .ref m_newThan, .ref m_newAct, .ref m_newNumber, .ref m_has])), (m_berths, .inl (cy 0, 240, .inl (fun _ => 0)))] := hD
  refine lv_aload_n hx hb dL_law_670 rfl (lv_at hl 1 rfl) ?_
  refine lv_aload_n hx hb dL_law_671 rfl (lv_at hl 3 rfl) ?_
  refine lv_iload_n hx hb dL_law_672 rfl (lv_at hl 0 rfl) ?_
  refine lv_iconst (v := 1) hx hb dL_law_673 (by decide) ?_
  refine lv_iadd hx hb dL_law_674 ?_
  refine lv_topi (fun x674 ex674 => ?_)
  obtain rfl : x674 = 1 := ex674.trans (by decide)
  refine va_sld hx hb hX hbl hbA hS (q_in (a := 1) (by decide) (by decide) (by decide)) dL_law_675 ?_
  refine lv_topi (fun x675 ex675 => ?_)
  obtain rfl : v1 = x675 := ev1.trans ex675.symm
  refine lv_aload_n hx hb dL_law_676 rfl (lv_at hl 3 rfl) ?_
  refine lv_iload_n hx hb dL_law_677 rfl (lv_at hl 0 rfl) ?_
  refine lv_iconst (v := 2) hx hb dL_law_678 (by decide) ?_
  refine lv_iadd hx hb dL_law_679 ?_
  refine lv_topi (fun x679 ex679 => ?_)
  obtain rfl : x679 = 2 := ex679.trans (by decide)
  refine va_sld hx hb hX hbl hbA hS (q_in (a := 2) (by decide) (by decide) (by decide)) dL_law_680 ?_
  refine lv_topi (fun x680 ex680 => ?_)
  obtain rfl : v2 = x680 := ev2.trans ex680.symm
  refine k_i (va_runV (As := [.int v1, .int v2]) (rest := [.int r667]) ⟨hx, hb, hml, hown, hts⟩ (c_X10_told l D cy m0 m_tape m_stops m_km m_takes m_officeAt m_shares m_berths m_owner m_lies m_tickets m_tDay m_tBerth m_tFrom m_tTo m_tOffice m_tBack m_letters m_lComes m_lAnswer m_lOffice m_lDay m_lFrom m_lTo m_lTicket m_now m_lines m_lineTests m_testWhat m_testSign m_testThan m_lineAct m_lineNumber m_free m_newBerth m_newTests m_newWhat m_newSign m_newThan m_newAct m_newNumber m_has v1 v2 H.size ) (cwV 2 hts gL_law_X10_told rfl rfl rfl (by decide +kernel) ⟨Nat.le_of_ble_eq_true rfl, Nat.le_of_ble_eq_true rfl⟩) (cp_v hK hN hP hD [0, 1] rfl (by decide) (ci := 10) rfl rfl rfl) rfl rfl hl.1 rfl (lv_room (Nat.le_of_ble_eq_true rfl)) dL_law_681 ⟨Nat.le_of_ble_eq_true rfl, Nat.le_of_ble_eq_true rfl⟩) hP hD hS hA [0, 1] [] (wr := []) rfl rfl (by decide) (by decide) (fun r681 u_r681 H locs hw681 hP hD hS => ?_)
  try dsimp only at hw681
  have hP : va_P D vwCl [] H := hP
  have hD : va_D A [] := hD
  refine lv_icmp_eq (tgt := 947) hx hb dL_law_684 (by decide) (fun c684 => ?_) (fun c684 => ?_)
  · skip
    have fc684 := q_eq (a := r667.toInt) (b := r681.toInt) c684 rfl rfl
    exact law_tail C0 hA hAA (by decide) (by decide) hS ls (lv_sub hl [0, 3] rfl)
  · skip
    have fc684 := q_ne (a := r667.toInt) (b := r681.toInt) c684 rfl rfl
    exfalso; omega
set_option maxHeartbeats 4000000 in
set_option maxRecDepth 100000 in
theorem law_15 {p : Program} {e : Env} {s : State} {m : MethodId} {below : List Frame} {meth : Method} {c : Code} {l : Launch} {b : Nat} {xs : Nat → Int32} {A : Nat → Prop} {H : Heap} {locs : List Loc} {D : va_G} {cy : Nat → ClassId} (C0 : lw_At p s m meth c b 6 xs) (hA : ∀ q : Nat, s.heap.size ≤ q → A q) (hAA : ∀ q : Nat, A q → s.heap.size ≤ q) (hK : va_K D vwCl (tyL cy) s) (hN : NW s) (x0 b0 im tp rd tb m0 m_tape m_stops m_km m_takes m_officeAt m_shares m_berths m_owner m_lies m_tickets m_tDay m_tBerth m_tFrom m_tTo m_tOffice m_tBack m_letters m_lComes m_lAnswer m_lOffice m_lDay m_lFrom m_lTo m_lTicket m_now m_lines m_lineTests m_testWhat m_testSign m_testThan m_lineAct m_lineNumber m_free m_newBerth m_newTests m_newWhat m_newSign m_newThan m_newAct m_newNumber m_has : Nat) (g1 g2 fst fkm ftk fli : Nat → Int32) (hg1 : ∀ j : Nat, j < 9 → g1 j = 1) (hg2 : ∀ j : Nat, j < 9 → g2 j = 1) (hst : fst 0 = 2) (hkm : ∀ j : Nat, j < 9 → fkm j = 1) (htk : ∀ j : Nat, j < 9 → ftk j = 1) (hP : va_P D vwCl [(x0, .inr (9, [.ref b0, .ref im, .ref tp, .ref rd])), (tp, .inr (6, [.int 0, .ref tb])), (tb, .inl (cy 0, 400, .inl (fun _ => 0))), (m0, .inr (10, [.int 0, .ref m_tape, .int 0, .ref m_stops, .ref m_km, .ref m_takes, .ref m_officeAt, .ref m_shares, .ref m_berths, .ref m_owner, .ref m_lies, .ref m_tickets, .ref m_tDay, .ref m_tBerth, .ref m_tFrom, .ref m_tTo, .ref m_tOffice, .ref m_tBack, .ref m_letters, .ref m_lComes, .ref m_lAnswer, .ref m_lOffice, .ref m_lDay, .ref m_lFrom, .ref m_lTo, .ref m_lTicket, .ref m_now, .ref m_lines, .ref m_lineTests, .ref m_testWhat, .ref m_testSign, .ref m_testThan, .ref m_lineAct, .ref m_lineNumber, .ref m_free, .ref m_newBerth, .int 0, .int 0, .int 0, .int 0, .int 0, .long 0, .int 0, .int (-1), .int 0, .int 0, .ref m_newTests, .ref m_newWhat, .ref m_newSign, .ref m_newThan, .ref m_newAct, .ref m_newNumber, .ref m_has])), (m_tape, .inl (cy 1, 400, .inl (fun _ => 0)))] H) (hD : va_D A [(x0, .inr (9, [.ref b0, .ref im, .ref tp, .ref rd])), (tp, .inr (6, [.int 0, .ref tb])), (tb, .inl (cy 0, 400, .inl (fun _ => 0))), (m0, .inr (10, [.int 0, .ref m_tape, .int 0, .ref m_stops, .ref m_km, .ref m_takes, .ref m_officeAt, .ref m_shares, .ref m_berths, .ref m_owner, .ref m_lies, .ref m_tickets, .ref m_tDay, .ref m_tBerth, .ref m_tFrom, .ref m_tTo, .ref m_tOffice, .ref m_tBack, .ref m_letters, .ref m_lComes, .ref m_lAnswer, .ref m_lOffice, .ref m_lDay, .ref m_lFrom, .ref m_lTo, .ref m_lTicket, .ref m_now, .ref m_lines, .ref m_lineTests, .ref m_testWhat, .ref m_testSign, .ref m_testThan, .ref m_lineAct, .ref m_lineNumber, .ref m_free, .ref m_newBerth, .int 0, .int 0, .int 0, .int 0, .int 0, .long 0, .int 0, .int (-1), .int 0, .int 0, .ref m_newTests, .ref m_newWhat, .ref m_newSign, .ref m_newThan, .ref m_newAct, .ref m_newNumber, .ref m_has])), (m_tape, .inl (cy 1, 400, .inl (fun _ => 0)))]) (hS : va_S A s.heap H locs) (ls : Array Slot) (hl : lv_has ls 4 [(3, .int 0), (2, .ref m0), (1, .ref x0), (0, .ref b)]) : W p l e room_1 s m #[Value.ref b] below meth c H locs 94 42452 (lw_Z below #[Value.ref b] s) (F0 m 689 ls []) := by
  obtain ⟨hx, hb, hr, hml, hown, hts0, hX, hbl, hlocks, hgv⟩ := id C0
  have hown : s.vm.findClass RL = some m.cls := hown
  have hts : ∀ w ∈ wsL_law, w.before #[Value.ref b] s = true := fun w h => hts0 w (wsL_law_in w h)
  have hbA : ¬ A b := fun h => absurd (hAA b h) (Nat.not_le.mpr hbl)
  obtain ⟨v1, ev1⟩ : ∃ v : Int32, v = xs (1 : Int32).toNatClampNeg := ⟨_, rfl⟩
  obtain ⟨v2, ev2⟩ : ∃ v : Int32, v = xs (2 : Int32).toNatClampNeg := ⟨_, rfl⟩
  obtain ⟨v3, ev3⟩ : ∃ v : Int32, v = xs (3 : Int32).toNatClampNeg := ⟨_, rfl⟩
  obtain ⟨v4, ev4⟩ : ∃ v : Int32, v = xs (4 : Int32).toNatClampNeg := ⟨_, rfl⟩
  obtain ⟨v5, ev5⟩ : ∃ v : Int32, v = xs (5 : Int32).toNatClampNeg := ⟨_, rfl⟩
  have w_0 := hts0 (.instanceMethod yX9_feed) (List.mem_of_getElem? (i := 605) (by decide +kernel))
  have w_1 := hts0 (.instanceMethod yX10_feed) (List.mem_of_getElem? (i := 1170) (by decide +kernel))
  refine lv_aload_n hx hb dL_law_689 rfl (lv_at hl 2 rfl) ?_
  refine lv_aload_n hx hb dL_law_690 rfl (lv_at hl 3 rfl) ?_
  refine lv_iload_n hx hb dL_law_691 rfl (lv_at hl 0 rfl) ?_
  refine lv_iconst (v := 1) hx hb dL_law_692 (by decide) ?_
  refine lv_iadd hx hb dL_law_693 ?_
  refine lv_topi (fun x693 ex693 => ?_)
  obtain rfl : x693 = 1 := ex693.trans (by decide)
  refine va_sld hx hb hX hbl hbA hS (q_in (a := 1) (by decide) (by decide) (by decide)) dL_law_694 ?_
  refine lv_topi (fun x694 ex694 => ?_)
  obtain rfl : v1 = x694 := ev1.trans ex694.symm
  refine lv_aload_n hx hb dL_law_695 rfl (lv_at hl 3 rfl) ?_
  refine lv_iload_n hx hb dL_law_696 rfl (lv_at hl 0 rfl) ?_
  refine lv_iconst (v := 2) hx hb dL_law_697 (by decide) ?_
  refine lv_iadd hx hb dL_law_698 ?_
  refine lv_topi (fun x698 ex698 => ?_)
  obtain rfl : x698 = 2 := ex698.trans (by decide)
  refine va_sld hx hb hX hbl hbA hS (q_in (a := 2) (by decide) (by decide) (by decide)) dL_law_699 ?_
  refine lv_topi (fun x699 ex699 => ?_)
  obtain rfl : v2 = x699 := ev2.trans ex699.symm
  refine lv_aload_n hx hb dL_law_700 rfl (lv_at hl 3 rfl) ?_
  refine lv_iload_n hx hb dL_law_701 rfl (lv_at hl 0 rfl) ?_
  refine lv_iconst (v := 3) hx hb dL_law_702 (by decide) ?_
  refine lv_iadd hx hb dL_law_703 ?_
  refine lv_topi (fun x703 ex703 => ?_)
  obtain rfl : x703 = 3 := ex703.trans (by decide)
  refine va_sld hx hb hX hbl hbA hS (q_in (a := 3) (by decide) (by decide) (by decide)) dL_law_704 ?_
  refine lv_topi (fun x704 ex704 => ?_)
  obtain rfl : v3 = x704 := ev3.trans ex704.symm
  refine lv_aload_n hx hb dL_law_705 rfl (lv_at hl 3 rfl) ?_
  refine lv_iload_n hx hb dL_law_706 rfl (lv_at hl 0 rfl) ?_
  refine lv_iconst (v := 4) hx hb dL_law_707 (by decide) ?_
  refine lv_iadd hx hb dL_law_708 ?_
  refine lv_topi (fun x708 ex708 => ?_)
  obtain rfl : x708 = 4 := ex708.trans (by decide)
  refine va_sld hx hb hX hbl hbA hS (q_in (a := 4) (by decide) (by decide) (by decide)) dL_law_709 ?_
  refine lv_topi (fun x709 ex709 => ?_)
  obtain rfl : v4 = x709 := ev4.trans ex709.symm
  refine lv_aload_n hx hb dL_law_710 rfl (lv_at hl 3 rfl) ?_
  refine lv_iload_n hx hb dL_law_711 rfl (lv_at hl 0 rfl) ?_
  refine lv_iconst (v := 5) hx hb dL_law_712 (by decide) ?_
  refine lv_iadd hx hb dL_law_713 ?_
  refine lv_topi (fun x713 ex713 => ?_)
  obtain rfl : x713 = 5 := ex713.trans (by decide)
  refine va_sld hx hb hX hbl hbA hS (q_in (a := 5) (by decide) (by decide) (by decide)) dL_law_714 ?_
  refine lv_topi (fun x714 ex714 => ?_)
  obtain rfl : v5 = x714 := ev5.trans ex714.symm
  refine k_i (va_runV (As := [.int v1, .int v2, .int v3, .int v4, .int v5]) (rest := []) ⟨hx, hb, hml, hown, hts⟩ (c_X9_feed l D cy x0 b0 im tp rd tb v1 v2 v3 v4 v5 H.size ) (cwV 5 hts gL_law_X9_feed rfl rfl rfl (by decide +kernel) ⟨Nat.le_of_ble_eq_true rfl, Nat.le_of_ble_eq_true rfl⟩) (cp_v hK hN hP hD [0, 1, 2] rfl (by decide) (ci := 9) rfl rfl rfl) rfl rfl hl.1 rfl (lv_room (Nat.le_of_ble_eq_true rfl)) dL_law_715 ⟨Nat.le_of_ble_eq_true rfl, Nat.le_of_ble_eq_true rfl⟩) hP hD hS hA [0, 1, 2] [3, 4] (wr := [(m0, .inr (10, [.int 0, .ref m_tape, .int 0, .ref m_stops, .ref m_km, .ref m_takes, .ref m_officeAt, .ref m_shares, .ref m_berths, .ref m_owner, .ref m_lies, .ref m_tickets, .ref m_tDay, .ref m_tBerth, .ref m_tFrom, .ref m_tTo, .ref m_tOffice, .ref m_tBack, .ref m_letters, .ref m_lComes, .ref m_lAnswer, .ref m_lOffice, .ref m_lDay, .ref m_lFrom, .ref m_lTo, .ref m_lTicket, .ref m_now, .ref m_lines, .ref m_lineTests, .ref m_testWhat, .ref m_testSign, .ref m_testThan, .ref m_lineAct, .ref m_lineNumber, .ref m_free, .ref m_newBerth, .int 0, .int 0, .int 0, .int 0, .int 0, .long 0, .int 0, .int (-1), .int 0, .int 0, .ref m_newTests, .ref m_newWhat, .ref m_newSign, .ref m_newThan, .ref m_newAct, .ref m_newNumber, .ref m_has])), (m_tape, .inl (cy 1, 400, .inl (fun _ => 0)))]) rfl rfl (by decide) (by decide) (fun r715 u_r715 H locs hw715 hP hD hS => ?_)
  try dsimp only at hw715
  have hP : va_P D vwCl [(m0, .inr (10, [.int 0, .ref m_tape, .int 0, .ref m_stops, .ref m_km, .ref m_takes, .ref m_officeAt, .ref m_shares, .ref m_berths, .ref m_owner, .ref m_lies, .ref m_tickets, .ref m_tDay, .ref m_tBerth, .ref m_tFrom, .ref m_tTo, .ref m_tOffice, .ref m_tBack, .ref m_letters, .ref m_lComes, .ref m_lAnswer, .ref m_lOffice, .ref m_lDay, .ref m_lFrom, .ref m_lTo, .ref m_lTicket, .ref m_now, .ref m_lines, .ref m_lineTests, .ref m_testWhat, .ref m_testSign, .ref m_testThan, .ref m_lineAct, .ref m_lineNumber, .ref m_free, .ref m_newBerth, .int 0, .int 0, .int 0, .int 0, .int 0, .long 0, .int 0, .int (-1), .int 0, .int 0, .ref m_newTests, .ref m_newWhat, .ref m_newSign, .ref m_newThan, .ref m_newAct, .ref m_newNumber, .ref m_has])), (m_tape, .inl (cy 1, 400, .inl (fun _ => 0)))] H := hP
  have hD : va_D A [(m0, .inr (10, [.int 0, .ref m_tape, .int 0, .ref m_stops, .ref m_km, .ref m_takes, .ref m_officeAt, .ref m_shares, .ref m_berths, .ref m_owner, .ref m_lies, .ref m_tickets, .ref m_tDay, .ref m_tBerth, .ref m_tFrom, .ref m_tTo, .ref m_tOffice, .ref m_tBack, .ref m_letters, .ref m_lComes, .ref m_lAnswer, .ref m_lOffice, .ref m_lDay, .ref m_lFrom, .ref m_lTo, .ref m_lTicket, .ref m_now, .ref m_lines, .ref m_lineTests, .ref m_testWhat, .ref m_testSign, .ref m_testThan, .ref m_lineAct, .ref m_lineNumber, .ref m_free, .ref m_newBerth, .int 0, .int 0, .int 0, .int 0, .int 0, .long 0, .int 0, .int (-1), .int 0, .int 0, .ref m_newTests, .ref m_newWhat, .ref m_newSign, .ref m_newThan, .ref m_newAct, .ref m_newNumber, .ref m_has])), (m_tape, .inl (cy 1, 400, .inl (fun _ => 0)))] := hD
  refine lv_aload_n hx hb dL_law_718 rfl (lv_at hl 1 rfl) ?_
  refine lv_aload_n hx hb dL_law_719 rfl (lv_at hl 3 rfl) ?_
  refine lv_iload_n hx hb dL_law_720 rfl (lv_at hl 0 rfl) ?_
  refine lv_iconst (v := 1) hx hb dL_law_721 (by decide) ?_
  refine lv_iadd hx hb dL_law_722 ?_
  refine lv_topi (fun x722 ex722 => ?_)
  obtain rfl : x722 = 1 := ex722.trans (by decide)
  refine va_sld hx hb hX hbl hbA hS (q_in (a := 1) (by decide) (by decide) (by decide)) dL_law_723 ?_
  refine lv_topi (fun x723 ex723 => ?_)
  obtain rfl : v1 = x723 := ev1.trans ex723.symm
  refine lv_aload_n hx hb dL_law_724 rfl (lv_at hl 3 rfl) ?_
  refine lv_iload_n hx hb dL_law_725 rfl (lv_at hl 0 rfl) ?_
  refine lv_iconst (v := 2) hx hb dL_law_726 (by decide) ?_
  refine lv_iadd hx hb dL_law_727 ?_
  refine lv_topi (fun x727 ex727 => ?_)
  obtain rfl : x727 = 2 := ex727.trans (by decide)
  refine va_sld hx hb hX hbl hbA hS (q_in (a := 2) (by decide) (by decide) (by decide)) dL_law_728 ?_
  refine lv_topi (fun x728 ex728 => ?_)
  obtain rfl : v2 = x728 := ev2.trans ex728.symm
  refine lv_aload_n hx hb dL_law_729 rfl (lv_at hl 3 rfl) ?_
  refine lv_iload_n hx hb dL_law_730 rfl (lv_at hl 0 rfl) ?_
  refine lv_iconst (v := 3) hx hb dL_law_731 (by decide) ?_
  refine lv_iadd hx hb dL_law_732 ?_
  refine lv_topi (fun x732 ex732 => ?_)
  obtain rfl : x732 = 3 := ex732.trans (by decide)
  refine va_sld hx hb hX hbl hbA hS (q_in (a := 3) (by decide) (by decide) (by decide)) dL_law_733 ?_
  refine lv_topi (fun x733 ex733 => ?_)
  obtain rfl : v3 = x733 := ev3.trans ex733.symm
  refine lv_aload_n hx hb dL_law_734 rfl (lv_at hl 3 rfl) ?_
  refine lv_iload_n hx hb dL_law_735 rfl (lv_at hl 0 rfl) ?_
  refine lv_iconst (v := 4) hx hb dL_law_736 (by decide) ?_
  refine lv_iadd hx hb dL_law_737 ?_
  refine lv_topi (fun x737 ex737 => ?_)
  obtain rfl : x737 = 4 := ex737.trans (by decide)
  refine va_sld hx hb hX hbl hbA hS (q_in (a := 4) (by decide) (by decide) (by decide)) dL_law_738 ?_
  refine lv_topi (fun x738 ex738 => ?_)
  obtain rfl : v4 = x738 := ev4.trans ex738.symm
  refine lv_aload_n hx hb dL_law_739 rfl (lv_at hl 3 rfl) ?_
  refine lv_iload_n hx hb dL_law_740 rfl (lv_at hl 0 rfl) ?_
  refine lv_iconst (v := 5) hx hb dL_law_741 (by decide) ?_
  refine lv_iadd hx hb dL_law_742 ?_
  refine lv_topi (fun x742 ex742 => ?_)
  obtain rfl : x742 = 5 := ex742.trans (by decide)
  refine va_sld hx hb hX hbl hbA hS (q_in (a := 5) (by decide) (by decide) (by decide)) dL_law_743 ?_
  refine lv_topi (fun x743 ex743 => ?_)
  obtain rfl : v5 = x743 := ev5.trans ex743.symm
  refine k_i (va_runV (As := [.int v1, .int v2, .int v3, .int v4, .int v5]) (rest := [.int r715]) ⟨hx, hb, hml, hown, hts⟩ (c_X10_feed l D cy m0 m_tape m_stops m_km m_takes m_officeAt m_shares m_berths m_owner m_lies m_tickets m_tDay m_tBerth m_tFrom m_tTo m_tOffice m_tBack m_letters m_lComes m_lAnswer m_lOffice m_lDay m_lFrom m_lTo m_lTicket m_now m_lines m_lineTests m_testWhat m_testSign m_testThan m_lineAct m_lineNumber m_free m_newBerth m_newTests m_newWhat m_newSign m_newThan m_newAct m_newNumber m_has v1 v2 v3 v4 v5 H.size ) (cwV 5 hts gL_law_X10_feed rfl rfl rfl (by decide +kernel) ⟨Nat.le_of_ble_eq_true rfl, Nat.le_of_ble_eq_true rfl⟩) (cp_v hK hN hP hD [0, 1] rfl (by decide) (ci := 10) rfl rfl rfl) rfl rfl hl.1 rfl (lv_room (Nat.le_of_ble_eq_true rfl)) dL_law_744 ⟨Nat.le_of_ble_eq_true rfl, Nat.le_of_ble_eq_true rfl⟩) hP hD hS hA [0, 1] [] (wr := []) rfl rfl (by decide) (by decide) (fun r744 u_r744 H locs hw744 hP hD hS => ?_)
  try dsimp only at hw744
  have hP : va_P D vwCl [] H := hP
  have hD : va_D A [] := hD
  refine lv_icmp_eq (tgt := 947) hx hb dL_law_747 (by decide) (fun c747 => ?_) (fun c747 => ?_)
  · skip
    have fc747 := q_eq (a := r715.toInt) (b := r744.toInt) c747 rfl rfl
    exact law_tail C0 hA hAA (by decide) (by decide) hS ls (lv_sub hl [0, 3] rfl)
  · skip
    have fc747 := q_ne (a := r715.toInt) (b := r744.toInt) c747 rfl rfl
    exfalso; omega
set_option maxHeartbeats 4000000 in
set_option maxRecDepth 100000 in
theorem law_16 {p : Program} {e : Env} {s : State} {m : MethodId} {below : List Frame} {meth : Method} {c : Code} {l : Launch} {b : Nat} {xs : Nat → Int32} {A : Nat → Prop} {H : Heap} {locs : List Loc} {D : va_G} {cy : Nat → ClassId} (C0 : lw_At p s m meth c b 6 xs) (hA : ∀ q : Nat, s.heap.size ≤ q → A q) (hAA : ∀ q : Nat, A q → s.heap.size ≤ q) (hK : va_K D vwCl (tyL cy) s) (hN : NW s) (x0 b0 im tp rd tb m0 m_tape m_stops m_km m_takes m_officeAt m_shares m_berths m_owner m_lies m_tickets m_tDay m_tBerth m_tFrom m_tTo m_tOffice m_tBack m_letters m_lComes m_lAnswer m_lOffice m_lDay m_lFrom m_lTo m_lTicket m_now m_lines m_lineTests m_testWhat m_testSign m_testThan m_lineAct m_lineNumber m_free m_newBerth m_newTests m_newWhat m_newSign m_newThan m_newAct m_newNumber m_has : Nat) (g1 g2 fst fkm ftk fli : Nat → Int32) (hg1 : ∀ j : Nat, j < 9 → g1 j = 1) (hg2 : ∀ j : Nat, j < 9 → g2 j = 1) (hst : fst 0 = 2) (hkm : ∀ j : Nat, j < 9 → fkm j = 1) (htk : ∀ j : Nat, j < 9 → ftk j = 1) (hP : va_P D vwCl [(x0, .inr (9, [.ref b0, .ref im, .ref tp, .ref rd])), (tp, .inr (6, [.int 0, .ref tb])), (m0, .inr (10, [.int 0, .ref m_tape, .int 0, .ref m_stops, .ref m_km, .ref m_takes, .ref m_officeAt, .ref m_shares, .ref m_berths, .ref m_owner, .ref m_lies, .ref m_tickets, .ref m_tDay, .ref m_tBerth, .ref m_tFrom, .ref m_tTo, .ref m_tOffice, .ref m_tBack, .ref m_letters, .ref m_lComes, .ref m_lAnswer, .ref m_lOffice, .ref m_lDay, .ref m_lFrom, .ref m_lTo, .ref m_lTicket, .ref m_now, .ref m_lines, .ref m_lineTests, .ref m_testWhat, .ref m_testSign, .ref m_testThan, .ref m_lineAct, .ref m_lineNumber, .ref m_free, .ref m_newBerth, .int 0, .int 0, .int 0, .int 0, .int 0, .long 0, .int 0, .int (-1), .int 0, .int 0, .ref m_newTests, .ref m_newWhat, .ref m_newSign, .ref m_newThan, .ref m_newAct, .ref m_newNumber, .ref m_has]))] H) (hD : va_D A [(x0, .inr (9, [.ref b0, .ref im, .ref tp, .ref rd])), (tp, .inr (6, [.int 0, .ref tb])), (m0, .inr (10, [.int 0, .ref m_tape, .int 0, .ref m_stops, .ref m_km, .ref m_takes, .ref m_officeAt, .ref m_shares, .ref m_berths, .ref m_owner, .ref m_lies, .ref m_tickets, .ref m_tDay, .ref m_tBerth, .ref m_tFrom, .ref m_tTo, .ref m_tOffice, .ref m_tBack, .ref m_letters, .ref m_lComes, .ref m_lAnswer, .ref m_lOffice, .ref m_lDay, .ref m_lFrom, .ref m_lTo, .ref m_lTicket, .ref m_now, .ref m_lines, .ref m_lineTests, .ref m_testWhat, .ref m_testSign, .ref m_testThan, .ref m_lineAct, .ref m_lineNumber, .ref m_free, .ref m_newBerth, .int 0, .int 0, .int 0, .int 0, .int 0, .long 0, .int 0, .int (-1), .int 0, .int 0, .ref m_newTests, .ref m_newWhat, .ref m_newSign, .ref m_newThan, .ref m_newAct, .ref m_newNumber, .ref m_has]))]) (hS : va_S A s.heap H locs) (ls : Array Slot) (hl : lv_has ls 4 [(3, .int 0), (2, .ref m0), (1, .ref x0), (0, .ref b)]) : W p l e room_1 s m #[Value.ref b] below meth c H locs 94 42452 (lw_Z below #[Value.ref b] s) (F0 m 752 ls []) := by
  obtain ⟨hx, hb, hr, hml, hown, hts0, hX, hbl, hlocks, hgv⟩ := id C0
  have hown : s.vm.findClass RL = some m.cls := hown
  have hts : ∀ w ∈ wsL_law, w.before #[Value.ref b] s = true := fun w h => hts0 w (wsL_law_in w h)
  have hbA : ¬ A b := fun h => absurd (hAA b h) (Nat.not_le.mpr hbl)
  obtain ⟨v1, ev1⟩ : ∃ v : Int32, v = xs (1 : Int32).toNatClampNeg := ⟨_, rfl⟩
  obtain ⟨v2, ev2⟩ : ∃ v : Int32, v = xs (2 : Int32).toNatClampNeg := ⟨_, rfl⟩
  obtain ⟨v3, ev3⟩ : ∃ v : Int32, v = xs (3 : Int32).toNatClampNeg := ⟨_, rfl⟩
  obtain ⟨v4, ev4⟩ : ∃ v : Int32, v = xs (4 : Int32).toNatClampNeg := ⟨_, rfl⟩
  obtain ⟨v5, ev5⟩ : ∃ v : Int32, v = xs (5 : Int32).toNatClampNeg := ⟨_, rfl⟩
  have w_0 := hts0 (.instanceMethod yX9_end) (List.mem_of_getElem? (i := 613) (by decide +kernel))
  have w_1 := hts0 (.instanceMethod yX10_end) (List.mem_of_getElem? (i := 1178) (by decide +kernel))
  refine lv_aload_n hx hb dL_law_752 rfl (lv_at hl 2 rfl) ?_
  refine lv_aload_n hx hb dL_law_753 rfl (lv_at hl 3 rfl) ?_
  refine lv_iload_n hx hb dL_law_754 rfl (lv_at hl 0 rfl) ?_
  refine lv_iconst (v := 1) hx hb dL_law_755 (by decide) ?_
  refine lv_iadd hx hb dL_law_756 ?_
  refine lv_topi (fun x756 ex756 => ?_)
  obtain rfl : x756 = 1 := ex756.trans (by decide)
  refine va_sld hx hb hX hbl hbA hS (q_in (a := 1) (by decide) (by decide) (by decide)) dL_law_757 ?_
  refine lv_topi (fun x757 ex757 => ?_)
  obtain rfl : v1 = x757 := ev1.trans ex757.symm
  refine k_i (va_runV (As := [.int v1]) (rest := []) ⟨hx, hb, hml, hown, hts⟩ (c_X9_end l D cy x0 b0 im tp rd tb v1 H.size ) (cwV 1 hts gL_law_X9_end rfl rfl rfl (by decide +kernel) ⟨Nat.le_of_ble_eq_true rfl, Nat.le_of_ble_eq_true rfl⟩) (cp_v hK hN hP hD [0, 1] rfl (by decide) (ci := 9) rfl rfl rfl) rfl rfl hl.1 rfl (lv_room (Nat.le_of_ble_eq_true rfl)) dL_law_758 ⟨Nat.le_of_ble_eq_true rfl, Nat.le_of_ble_eq_true rfl⟩) hP hD hS hA [0, 1] [2] (wr := [(m0, .inr (10, [.int 0, .ref m_tape, .int 0, .ref m_stops, .ref m_km, .ref m_takes, .ref m_officeAt, .ref m_shares, .ref m_berths, .ref m_owner, .ref m_lies, .ref m_tickets, .ref m_tDay, .ref m_tBerth, .ref m_tFrom, .ref m_tTo, .ref m_tOffice, .ref m_tBack, .ref m_letters, .ref m_lComes, .ref m_lAnswer, .ref m_lOffice, .ref m_lDay, .ref m_lFrom, .ref m_lTo, .ref m_lTicket, .ref m_now, .ref m_lines, .ref m_lineTests, .ref m_testWhat, .ref m_testSign, .ref m_testThan, .ref m_lineAct, .ref m_lineNumber, .ref m_free, .ref m_newBerth, .int 0, .int 0, .int 0, .int 0, .int 0, .long 0, .int 0, .int (-1), .int 0, .int 0, .ref m_newTests, .ref m_newWhat, .ref m_newSign, .ref m_newThan, .ref m_newAct, .ref m_newNumber, .ref m_has]))]) rfl rfl (by decide) (by decide) (fun r758 u_r758 H locs hw758 hP hD hS => ?_)
  try dsimp only at hw758
  have hP : va_P D vwCl [(m0, .inr (10, [.int 0, .ref m_tape, .int 0, .ref m_stops, .ref m_km, .ref m_takes, .ref m_officeAt, .ref m_shares, .ref m_berths, .ref m_owner, .ref m_lies, .ref m_tickets, .ref m_tDay, .ref m_tBerth, .ref m_tFrom, .ref m_tTo, .ref m_tOffice, .ref m_tBack, .ref m_letters, .ref m_lComes, .ref m_lAnswer, .ref m_lOffice, .ref m_lDay, .ref m_lFrom, .ref m_lTo, .ref m_lTicket, .ref m_now, .ref m_lines, .ref m_lineTests, .ref m_testWhat, .ref m_testSign, .ref m_testThan, .ref m_lineAct, .ref m_lineNumber, .ref m_free, .ref m_newBerth, .int 0, .int 0, .int 0, .int 0, .int 0, .long 0, .int 0, .int (-1), .int 0, .int 0, .ref m_newTests, .ref m_newWhat, .ref m_newSign, .ref m_newThan, .ref m_newAct, .ref m_newNumber, .ref m_has]))] H := hP
  have hD : va_D A [(m0, .inr (10, [.int 0, .ref m_tape, .int 0, .ref m_stops, .ref m_km, .ref m_takes, .ref m_officeAt, .ref m_shares, .ref m_berths, .ref m_owner, .ref m_lies, .ref m_tickets, .ref m_tDay, .ref m_tBerth, .ref m_tFrom, .ref m_tTo, .ref m_tOffice, .ref m_tBack, .ref m_letters, .ref m_lComes, .ref m_lAnswer, .ref m_lOffice, .ref m_lDay, .ref m_lFrom, .ref m_lTo, .ref m_lTicket, .ref m_now, .ref m_lines, .ref m_lineTests, .ref m_testWhat, .ref m_testSign, .ref m_testThan, .ref m_lineAct, .ref m_lineNumber, .ref m_free, .ref m_newBerth, .int 0, .int 0, .int 0, .int 0, .int 0, .long 0, .int 0, .int (-1), .int 0, .int 0, .ref m_newTests, .ref m_newWhat, .ref m_newSign, .ref m_newThan, .ref m_newAct, .ref m_newNumber, .ref m_has]))] := hD
  refine lv_aload_n hx hb dL_law_761 rfl (lv_at hl 1 rfl) ?_
  refine lv_aload_n hx hb dL_law_762 rfl (lv_at hl 3 rfl) ?_
  refine lv_iload_n hx hb dL_law_763 rfl (lv_at hl 0 rfl) ?_
  refine lv_iconst (v := 1) hx hb dL_law_764 (by decide) ?_
  refine lv_iadd hx hb dL_law_765 ?_
  refine lv_topi (fun x765 ex765 => ?_)
  obtain rfl : x765 = 1 := ex765.trans (by decide)
  refine va_sld hx hb hX hbl hbA hS (q_in (a := 1) (by decide) (by decide) (by decide)) dL_law_766 ?_
  refine lv_topi (fun x766 ex766 => ?_)
  obtain rfl : v1 = x766 := ev1.trans ex766.symm
  refine k_i (va_runV (As := [.int v1]) (rest := [.int r758]) ⟨hx, hb, hml, hown, hts⟩ (c_X10_end l D cy m0 m_tape m_stops m_km m_takes m_officeAt m_shares m_berths m_owner m_lies m_tickets m_tDay m_tBerth m_tFrom m_tTo m_tOffice m_tBack m_letters m_lComes m_lAnswer m_lOffice m_lDay m_lFrom m_lTo m_lTicket m_now m_lines m_lineTests m_testWhat m_testSign m_testThan m_lineAct m_lineNumber m_free m_newBerth m_newTests m_newWhat m_newSign m_newThan m_newAct m_newNumber m_has v1 H.size ) (cwV 1 hts gL_law_X10_end rfl rfl rfl (by decide +kernel) ⟨Nat.le_of_ble_eq_true rfl, Nat.le_of_ble_eq_true rfl⟩) (cp_v hK hN hP hD [0] rfl (by decide) (ci := 10) rfl rfl rfl) rfl rfl hl.1 rfl (lv_room (Nat.le_of_ble_eq_true rfl)) dL_law_767 ⟨Nat.le_of_ble_eq_true rfl, Nat.le_of_ble_eq_true rfl⟩) hP hD hS hA [0] [] (wr := []) rfl rfl (by decide) (by decide) (fun r767 u_r767 H locs hw767 hP hD hS => ?_)
  try dsimp only at hw767
  have hP : va_P D vwCl [] H := hP
  have hD : va_D A [] := hD
  refine lv_icmp_eq (tgt := 947) hx hb dL_law_770 (by decide) (fun c770 => ?_) (fun c770 => ?_)
  · skip
    have fc770 := q_eq (a := r758.toInt) (b := r767.toInt) c770 rfl rfl
    exact law_tail C0 hA hAA (by decide) (by decide) hS ls (lv_sub hl [0, 3] rfl)
  · skip
    have fc770 := q_ne (a := r758.toInt) (b := r767.toInt) c770 rfl rfl
    exfalso; omega
set_option maxHeartbeats 4000000 in
set_option maxRecDepth 100000 in
theorem law_17 {p : Program} {e : Env} {s : State} {m : MethodId} {below : List Frame} {meth : Method} {c : Code} {l : Launch} {b : Nat} {xs : Nat → Int32} {A : Nat → Prop} {H : Heap} {locs : List Loc} {D : va_G} {cy : Nat → ClassId} (C0 : lw_At p s m meth c b 6 xs) (hA : ∀ q : Nat, s.heap.size ≤ q → A q) (hAA : ∀ q : Nat, A q → s.heap.size ≤ q) (hK : va_K D vwCl (tyL cy) s) (hN : NW s) (x0 b0 im tp rd r0 u0 t0 l0 q0 of sh nl fc d0 k0 d1 d2 d3 d4 d5 d6 d7 k1 k2 k3 tb q1 q2 q3 q4 q5 q6 q7 m0 m_tape m_stops m_km m_takes m_officeAt m_shares m_berths m_owner m_lies m_tickets m_tDay m_tBerth m_tFrom m_tTo m_tOffice m_tBack m_letters m_lComes m_lAnswer m_lOffice m_lDay m_lFrom m_lTo m_lTicket m_now m_lines m_lineTests m_testWhat m_testSign m_testThan m_lineAct m_lineNumber m_free m_newBerth m_newTests m_newWhat m_newSign m_newThan m_newAct m_newNumber m_has : Nat) (g1 g2 fst fkm ftk fli : Nat → Int32) (hg1 : ∀ j : Nat, j < 9 → g1 j = 1) (hg2 : ∀ j : Nat, j < 9 → g2 j = 1) (hst : fst 0 = 2) (hkm : ∀ j : Nat, j < 9 → fkm j = 1) (htk : ∀ j : Nat, j < 9 → ftk j = 1) (hP : va_P D vwCl [(x0, .inr (9, [.ref b0, .ref im, .ref tp, .ref rd])), (b0, .inr (0, [.int 0, .ref r0, .ref u0, .ref t0, .ref l0, .ref q0, .ref of, .ref sh, .ref nl, .ref fc])), (rd, .inr (3, [.int 0, .int (-1), .ref d0, .ref k0, .int 0, .int 0])), (d0, .inr (2, [.int 0, .ref d1, .ref d2, .ref d3, .ref d4, .ref d5, .ref d6, .ref d7])), (d1, .inl (cy 0, 16, .inl (fun _ => 0))), (d2, .inl (cy 0, 16, .inl (fun _ => 0))), (d3, .inl (cy 0, 16, .inl (fun _ => 0))), (d4, .inl (cy 0, 64, .inl (fun _ => 0))), (d5, .inl (cy 0, 64, .inl (fun _ => 0))), (d6, .inl (cy 0, 64, .inl (fun _ => 0))), (d7, .inl (cy 0, 64, .inl (fun _ => 0))), (k0, .inr (8, [.int 0, .ref k1, .ref k2, .ref k3])), (k1, .inl (cy 0, 401, .inl (fun _ => 0))), (k2, .inl (cy 0, 401, .inl (fun _ => 0))), (k3, .inl (cy 0, 401, .inl (fun _ => 0))), (tp, .inr (6, [.int 0, .ref tb])), (q0, .inr (2, [.int 0, .ref q1, .ref q2, .ref q3, .ref q4, .ref q5, .ref q6, .ref q7])), (q1, .inl (cy 0, 16, .inl (fun _ => 0))), (q2, .inl (cy 0, 16, .inl (fun _ => 0))), (q3, .inl (cy 0, 16, .inl (fun _ => 0))), (q4, .inl (cy 0, 64, .inl (fun _ => 0))), (q5, .inl (cy 0, 64, .inl (fun _ => 0))), (q6, .inl (cy 0, 64, .inl (fun _ => 0))), (q7, .inl (cy 0, 64, .inl (fun _ => 0))), (m0, .inr (10, [.int 0, .ref m_tape, .int 0, .ref m_stops, .ref m_km, .ref m_takes, .ref m_officeAt, .ref m_shares, .ref m_berths, .ref m_owner, .ref m_lies, .ref m_tickets, .ref m_tDay, .ref m_tBerth, .ref m_tFrom, .ref m_tTo, .ref m_tOffice, .ref m_tBack, .ref m_letters, .ref m_lComes, .ref m_lAnswer, .ref m_lOffice, .ref m_lDay, .ref m_lFrom, .ref m_lTo, .ref m_lTicket, .ref m_now, .ref m_lines, .ref m_lineTests, .ref m_testWhat, .ref m_testSign, .ref m_testThan, .ref m_lineAct, .ref m_lineNumber, .ref m_free, .ref m_newBerth, .int 0, .int 0, .int 0, .int 0, .int 0, .long 0, .int 0, .int (-1), .int 0, .int 0, .ref m_newTests, .ref m_newWhat, .ref m_newSign, .ref m_newThan, .ref m_newAct, .ref m_newNumber, .ref m_has])), (m_lines, .inl (cy 0, 4, .inl (fun _ => 0)))] H) (hD : va_D A [(x0, .inr (9, [.ref b0, .ref im, .ref tp, .ref rd])), (b0, .inr (0, [.int 0, .ref r0, .ref u0, .ref t0, .ref l0, .ref q0, .ref of, .ref sh, .ref nl, .ref fc])), (rd, .inr (3, [.int 0, .int (-1), .ref d0, .ref k0, .int 0, .int 0])), (d0, .inr (2, [.int 0, .ref d1, .ref d2, .ref d3, .ref d4, .ref d5, .ref d6, .ref d7])), (d1, .inl (cy 0, 16, .inl (fun _ => 0))), (d2, .inl (cy 0, 16, .inl (fun _ => 0))), (d3, .inl (cy 0, 16, .inl (fun _ => 0))), (d4, .inl (cy 0, 64, .inl (fun _ => 0))), (d5, .inl (cy 0, 64, .inl (fun _ => 0))), (d6, .inl (cy 0, 64, .inl (fun _ => 0))), (d7, .inl (cy 0, 64, .inl (fun _ => 0))), (k0, .inr (8, [.int 0, .ref k1, .ref k2, .ref k3])), (k1, .inl (cy 0, 401, .inl (fun _ => 0))), (k2, .inl (cy 0, 401, .inl (fun _ => 0))), (k3, .inl (cy 0, 401, .inl (fun _ => 0))), (tp, .inr (6, [.int 0, .ref tb])), (q0, .inr (2, [.int 0, .ref q1, .ref q2, .ref q3, .ref q4, .ref q5, .ref q6, .ref q7])), (q1, .inl (cy 0, 16, .inl (fun _ => 0))), (q2, .inl (cy 0, 16, .inl (fun _ => 0))), (q3, .inl (cy 0, 16, .inl (fun _ => 0))), (q4, .inl (cy 0, 64, .inl (fun _ => 0))), (q5, .inl (cy 0, 64, .inl (fun _ => 0))), (q6, .inl (cy 0, 64, .inl (fun _ => 0))), (q7, .inl (cy 0, 64, .inl (fun _ => 0))), (m0, .inr (10, [.int 0, .ref m_tape, .int 0, .ref m_stops, .ref m_km, .ref m_takes, .ref m_officeAt, .ref m_shares, .ref m_berths, .ref m_owner, .ref m_lies, .ref m_tickets, .ref m_tDay, .ref m_tBerth, .ref m_tFrom, .ref m_tTo, .ref m_tOffice, .ref m_tBack, .ref m_letters, .ref m_lComes, .ref m_lAnswer, .ref m_lOffice, .ref m_lDay, .ref m_lFrom, .ref m_lTo, .ref m_lTicket, .ref m_now, .ref m_lines, .ref m_lineTests, .ref m_testWhat, .ref m_testSign, .ref m_testThan, .ref m_lineAct, .ref m_lineNumber, .ref m_free, .ref m_newBerth, .int 0, .int 0, .int 0, .int 0, .int 0, .long 0, .int 0, .int (-1), .int 0, .int 0, .ref m_newTests, .ref m_newWhat, .ref m_newSign, .ref m_newThan, .ref m_newAct, .ref m_newNumber, .ref m_has])), (m_lines, .inl (cy 0, 4, .inl (fun _ => 0)))]) (hS : va_S A s.heap H locs) (ls : Array Slot) (hl : lv_has ls 4 [(3, .int 0), (2, .ref m0), (1, .ref x0), (0, .ref b)]) : W p l e room_1 s m #[Value.ref b] below meth c H locs 94 42452 (lw_Z below #[Value.ref b] s) (F0 m 775 ls []) := by
  obtain ⟨hx, hb, hr, hml, hown, hts0, hX, hbl, hlocks, hgv⟩ := id C0
  have hown : s.vm.findClass RL = some m.cls := hown
  have hts : ∀ w ∈ wsL_law, w.before #[Value.ref b] s = true := fun w h => hts0 w (wsL_law_in w h)
  have hbA : ¬ A b := fun h => absurd (hAA b h) (Nat.not_le.mpr hbl)
  obtain ⟨v1, ev1⟩ : ∃ v : Int32, v = xs (1 : Int32).toNatClampNeg := ⟨_, rfl⟩
  obtain ⟨v2, ev2⟩ : ∃ v : Int32, v = xs (2 : Int32).toNatClampNeg := ⟨_, rfl⟩
  obtain ⟨v3, ev3⟩ : ∃ v : Int32, v = xs (3 : Int32).toNatClampNeg := ⟨_, rfl⟩
  obtain ⟨v4, ev4⟩ : ∃ v : Int32, v = xs (4 : Int32).toNatClampNeg := ⟨_, rfl⟩
  obtain ⟨v5, ev5⟩ : ∃ v : Int32, v = xs (5 : Int32).toNatClampNeg := ⟨_, rfl⟩
  have w_0 := hts0 (.instanceMethod yX9_contract) (List.mem_of_getElem? (i := 617) (by decide +kernel))
  have w_1 := hts0 (.instanceMethod yX10_contract) (List.mem_of_getElem? (i := 1182) (by decide +kernel))
  refine lv_aload_n hx hb dL_law_775 rfl (lv_at hl 2 rfl) ?_
  refine k_i (va_runV (As := []) (rest := []) ⟨hx, hb, hml, hown, hts⟩ (c_X9_contract l D cy x0 b0 im tp rd r0 u0 t0 l0 q0 of sh nl fc d0 k0 d1 d2 d3 d4 d5 d6 d7 k1 k2 k3 tb q1 q2 q3 q4 q5 q6 q7 H.size ) (cwV 0 hts gL_law_X9_contract rfl rfl rfl (by decide +kernel) ⟨Nat.le_of_ble_eq_true rfl, Nat.le_of_ble_eq_true rfl⟩) (cp_v hK hN hP hD [0, 1, 2, 3, 4, 5, 6, 7, 8, 9, 10, 11, 12, 13, 14, 15, 16, 17, 18, 19, 20, 21, 22, 23] rfl (by decide) (ci := 9) rfl rfl rfl) rfl rfl hl.1 rfl (lv_room (Nat.le_of_ble_eq_true rfl)) dL_law_776 ⟨Nat.le_of_ble_eq_true rfl, Nat.le_of_ble_eq_true rfl⟩) hP hD hS hA [0, 1, 2, 3, 4, 5, 6, 7, 8, 9, 10, 11, 12, 13, 14, 15, 16, 17, 18, 19, 20, 21, 22, 23] [24, 25] (wr := [(m0, .inr (10, [.int 0, .ref m_tape, .int 0, .ref m_stops, .ref m_km, .ref m_takes, .ref m_officeAt, .ref m_shares, .ref m_berths, .ref m_owner, .ref m_lies, .ref m_tickets, .ref m_tDay, .ref m_tBerth, .ref m_tFrom, .ref m_tTo, .ref m_tOffice, .ref m_tBack, .ref m_letters, .ref m_lComes, .ref m_lAnswer, .ref m_lOffice, .ref m_lDay, .ref m_lFrom, .ref m_lTo, .ref m_lTicket, .ref m_now, .ref m_lines, .ref m_lineTests, .ref m_testWhat, .ref m_testSign, .ref m_testThan, .ref m_lineAct, .ref m_lineNumber, .ref m_free, .ref m_newBerth, .int 0, .int 0, .int 0, .int 0, .int 0, .long 0, .int 0, .int (-1), .int 0, .int 0, .ref m_newTests, .ref m_newWhat, .ref m_newSign, .ref m_newThan, .ref m_newAct, .ref m_newNumber, .ref m_has])), (m_lines, .inl (cy 0, 4, .inl (fun _ => 0)))]) rfl rfl (by decide) (by decide) (fun r776 u_r776 H locs hw776 hP hD hS => ?_)
  try dsimp only at hw776
  have hP : va_P D vwCl [(m0, .inr (10, [.int 0, .ref m_tape, .int 0, .ref m_stops, .ref m_km, .ref m_takes, .ref m_officeAt, .ref m_shares, .ref m_berths, .ref m_owner, .ref m_lies, .ref m_tickets, .ref m_tDay, .ref m_tBerth, .ref m_tFrom, .ref m_tTo, .ref m_tOffice, .ref m_tBack, .ref m_letters, .ref m_lComes, .ref m_lAnswer, .ref m_lOffice, .ref m_lDay, .ref m_lFrom, .ref m_lTo, .ref m_lTicket, .ref m_now, .ref m_lines, .ref m_lineTests, .ref m_testWhat, .ref m_testSign, .ref m_testThan, .ref m_lineAct, .ref m_lineNumber, .ref m_free, .ref m_newBerth, .int 0, .int 0, .int 0, .int 0, .int 0, .long 0, .int 0, .int (-1), .int 0, .int 0, .ref m_newTests, .ref m_newWhat, .ref m_newSign, .ref m_newThan, .ref m_newAct, .ref m_newNumber, .ref m_has])), (m_lines, .inl (cy 0, 4, .inl (fun _ => 0)))] H := hP
  have hD : va_D A [(m0, .inr (10, [.int 0, .ref m_tape, .int 0, .ref m_stops, .ref m_km, .ref m_takes, .ref m_officeAt, .ref m_shares, .ref m_berths, .ref m_owner, .ref m_lies, .ref m_tickets, .ref m_tDay, .ref m_tBerth, .ref m_tFrom, .ref m_tTo, .ref m_tOffice, .ref m_tBack, .ref m_letters, .ref m_lComes, .ref m_lAnswer, .ref m_lOffice, .ref m_lDay, .ref m_lFrom, .ref m_lTo, .ref m_lTicket, .ref m_now, .ref m_lines, .ref m_lineTests, .ref m_testWhat, .ref m_testSign, .ref m_testThan, .ref m_lineAct, .ref m_lineNumber, .ref m_free, .ref m_newBerth, .int 0, .int 0, .int 0, .int 0, .int 0, .long 0, .int 0, .int (-1), .int 0, .int 0, .ref m_newTests, .ref m_newWhat, .ref m_newSign, .ref m_newThan, .ref m_newAct, .ref m_newNumber, .ref m_has])), (m_lines, .inl (cy 0, 4, .inl (fun _ => 0)))] := hD
  refine lv_aload_n hx hb dL_law_779 rfl (lv_at hl 1 rfl) ?_
  refine k_i (va_runV (As := []) (rest := [.int r776]) ⟨hx, hb, hml, hown, hts⟩ (c_X10_contract l D cy m0 m_tape m_stops m_km m_takes m_officeAt m_shares m_berths m_owner m_lies m_tickets m_tDay m_tBerth m_tFrom m_tTo m_tOffice m_tBack m_letters m_lComes m_lAnswer m_lOffice m_lDay m_lFrom m_lTo m_lTicket m_now m_lines m_lineTests m_testWhat m_testSign m_testThan m_lineAct m_lineNumber m_free m_newBerth m_newTests m_newWhat m_newSign m_newThan m_newAct m_newNumber m_has H.size ) (cwV 0 hts gL_law_X10_contract rfl rfl rfl (by decide +kernel) ⟨Nat.le_of_ble_eq_true rfl, Nat.le_of_ble_eq_true rfl⟩) (cp_v hK hN hP hD [0, 1] rfl (by decide) (ci := 10) rfl rfl rfl) rfl rfl hl.1 rfl (lv_room (Nat.le_of_ble_eq_true rfl)) dL_law_780 ⟨Nat.le_of_ble_eq_true rfl, Nat.le_of_ble_eq_true rfl⟩) hP hD hS hA [0, 1] [] (wr := []) rfl rfl (by decide) (by decide) (fun r780 u_r780 H locs hw780 hP hD hS => ?_)
  try dsimp only at hw780
  have hP : va_P D vwCl [] H := hP
  have hD : va_D A [] := hD
  refine lv_icmp_eq (tgt := 947) hx hb dL_law_783 (by decide) (fun c783 => ?_) (fun c783 => ?_)
  · skip
    have fc783 := q_eq (a := r776.toInt) (b := r780.toInt) c783 rfl rfl
    exact law_tail C0 hA hAA (by decide) (by decide) hS ls (lv_sub hl [0, 3] rfl)
  · skip
    have fc783 := q_ne (a := r776.toInt) (b := r780.toInt) c783 rfl rfl
    exfalso; omega
set_option maxHeartbeats 4000000 in
set_option maxRecDepth 100000 in
theorem law_18 {p : Program} {e : Env} {s : State} {m : MethodId} {below : List Frame} {meth : Method} {c : Code} {l : Launch} {b : Nat} {xs : Nat → Int32} {A : Nat → Prop} {H : Heap} {locs : List Loc} {D : va_G} {cy : Nat → ClassId} (C0 : lw_At p s m meth c b 6 xs) (hA : ∀ q : Nat, s.heap.size ≤ q → A q) (hAA : ∀ q : Nat, A q → s.heap.size ≤ q) (hK : va_K D vwCl (tyL cy) s) (hN : NW s) (x0 b0 im tp rd d0 k0 m0 m_tape m_stops m_km m_takes m_officeAt m_shares m_berths m_owner m_lies m_tickets m_tDay m_tBerth m_tFrom m_tTo m_tOffice m_tBack m_letters m_lComes m_lAnswer m_lOffice m_lDay m_lFrom m_lTo m_lTicket m_now m_lines m_lineTests m_testWhat m_testSign m_testThan m_lineAct m_lineNumber m_free m_newBerth m_newTests m_newWhat m_newSign m_newThan m_newAct m_newNumber m_has : Nat) (g1 g2 fst fkm ftk fli : Nat → Int32) (hg1 : ∀ j : Nat, j < 9 → g1 j = 1) (hg2 : ∀ j : Nat, j < 9 → g2 j = 1) (hst : fst 0 = 2) (hkm : ∀ j : Nat, j < 9 → fkm j = 1) (htk : ∀ j : Nat, j < 9 → ftk j = 1) (hP : va_P D vwCl [(x0, .inr (9, [.ref b0, .ref im, .ref tp, .ref rd])), (rd, .inr (3, [.int 0, .int (-1), .ref d0, .ref k0, .int 0, .int 0])), (m0, .inr (10, [.int 0, .ref m_tape, .int 0, .ref m_stops, .ref m_km, .ref m_takes, .ref m_officeAt, .ref m_shares, .ref m_berths, .ref m_owner, .ref m_lies, .ref m_tickets, .ref m_tDay, .ref m_tBerth, .ref m_tFrom, .ref m_tTo, .ref m_tOffice, .ref m_tBack, .ref m_letters, .ref m_lComes, .ref m_lAnswer, .ref m_lOffice, .ref m_lDay, .ref m_lFrom, .ref m_lTo, .ref m_lTicket, .ref m_now, .ref m_lines, .ref m_lineTests, .ref m_testWhat, .ref m_testSign, .ref m_testThan, .ref m_lineAct, .ref m_lineNumber, .ref m_free, .ref m_newBerth, .int 0, .int 0, .int 0, .int 0, .int 0, .long 0, .int 0, .int (-1), .int 0, .int 0, .ref m_newTests, .ref m_newWhat, .ref m_newSign, .ref m_newThan, .ref m_newAct, .ref m_newNumber, .ref m_has]))] H) (hD : va_D A [(x0, .inr (9, [.ref b0, .ref im, .ref tp, .ref rd])), (rd, .inr (3, [.int 0, .int (-1), .ref d0, .ref k0, .int 0, .int 0])), (m0, .inr (10, [.int 0, .ref m_tape, .int 0, .ref m_stops, .ref m_km, .ref m_takes, .ref m_officeAt, .ref m_shares, .ref m_berths, .ref m_owner, .ref m_lies, .ref m_tickets, .ref m_tDay, .ref m_tBerth, .ref m_tFrom, .ref m_tTo, .ref m_tOffice, .ref m_tBack, .ref m_letters, .ref m_lComes, .ref m_lAnswer, .ref m_lOffice, .ref m_lDay, .ref m_lFrom, .ref m_lTo, .ref m_lTicket, .ref m_now, .ref m_lines, .ref m_lineTests, .ref m_testWhat, .ref m_testSign, .ref m_testThan, .ref m_lineAct, .ref m_lineNumber, .ref m_free, .ref m_newBerth, .int 0, .int 0, .int 0, .int 0, .int 0, .long 0, .int 0, .int (-1), .int 0, .int 0, .ref m_newTests, .ref m_newWhat, .ref m_newSign, .ref m_newThan, .ref m_newAct, .ref m_newNumber, .ref m_has]))]) (hS : va_S A s.heap H locs) (ls : Array Slot) (hl : lv_has ls 4 [(3, .int 0), (2, .ref m0), (1, .ref x0), (0, .ref b)]) : W p l e room_1 s m #[Value.ref b] below meth c H locs 94 42452 (lw_Z below #[Value.ref b] s) (F0 m 788 ls []) := by
  obtain ⟨hx, hb, hr, hml, hown, hts0, hX, hbl, hlocks, hgv⟩ := id C0
  have hown : s.vm.findClass RL = some m.cls := hown
  have hts : ∀ w ∈ wsL_law, w.before #[Value.ref b] s = true := fun w h => hts0 w (wsL_law_in w h)
  have hbA : ¬ A b := fun h => absurd (hAA b h) (Nat.not_le.mpr hbl)
  obtain ⟨v1, ev1⟩ : ∃ v : Int32, v = xs (1 : Int32).toNatClampNeg := ⟨_, rfl⟩
  obtain ⟨v2, ev2⟩ : ∃ v : Int32, v = xs (2 : Int32).toNatClampNeg := ⟨_, rfl⟩
  obtain ⟨v3, ev3⟩ : ∃ v : Int32, v = xs (3 : Int32).toNatClampNeg := ⟨_, rfl⟩
  obtain ⟨v4, ev4⟩ : ∃ v : Int32, v = xs (4 : Int32).toNatClampNeg := ⟨_, rfl⟩
  obtain ⟨v5, ev5⟩ : ∃ v : Int32, v = xs (5 : Int32).toNatClampNeg := ⟨_, rfl⟩
  have w_0 := hts0 (.instanceMethod yX9_fault) (List.mem_of_getElem? (i := 778) (by decide +kernel))
  have w_1 := hts0 (.instanceMethod yX10_fault) (List.mem_of_getElem? (i := 1234) (by decide +kernel))
  refine lv_aload_n hx hb dL_law_788 rfl (lv_at hl 2 rfl) ?_
  refine lv_aload_n hx hb dL_law_789 rfl (lv_at hl 3 rfl) ?_
  refine lv_iload_n hx hb dL_law_790 rfl (lv_at hl 0 rfl) ?_
  refine lv_iconst (v := 1) hx hb dL_law_791 (by decide) ?_
  refine lv_iadd hx hb dL_law_792 ?_
  refine lv_topi (fun x792 ex792 => ?_)
  obtain rfl : x792 = 1 := ex792.trans (by decide)
  refine va_sld hx hb hX hbl hbA hS (q_in (a := 1) (by decide) (by decide) (by decide)) dL_law_793 ?_
  refine lv_topi (fun x793 ex793 => ?_)
  obtain rfl : v1 = x793 := ev1.trans ex793.symm
  refine k_i (va_runV (As := [.int v1]) (rest := []) ⟨hx, hb, hml, hown, hts⟩ (c_X9_fault l D cy x0 b0 im tp rd d0 k0 v1 H.size ) (cwV 1 hts gL_law_X9_fault rfl rfl rfl (by decide +kernel) ⟨Nat.le_of_ble_eq_true rfl, Nat.le_of_ble_eq_true rfl⟩) (cp_v hK hN hP hD [0, 1] rfl (by decide) (ci := 9) rfl rfl rfl) rfl rfl hl.1 rfl (lv_room (Nat.le_of_ble_eq_true rfl)) dL_law_794 ⟨Nat.le_of_ble_eq_true rfl, Nat.le_of_ble_eq_true rfl⟩) hP hD hS hA [0, 1] [2] (wr := [(m0, .inr (10, [.int 0, .ref m_tape, .int 0, .ref m_stops, .ref m_km, .ref m_takes, .ref m_officeAt, .ref m_shares, .ref m_berths, .ref m_owner, .ref m_lies, .ref m_tickets, .ref m_tDay, .ref m_tBerth, .ref m_tFrom, .ref m_tTo, .ref m_tOffice, .ref m_tBack, .ref m_letters, .ref m_lComes, .ref m_lAnswer, .ref m_lOffice, .ref m_lDay, .ref m_lFrom, .ref m_lTo, .ref m_lTicket, .ref m_now, .ref m_lines, .ref m_lineTests, .ref m_testWhat, .ref m_testSign, .ref m_testThan, .ref m_lineAct, .ref m_lineNumber, .ref m_free, .ref m_newBerth, .int 0, .int 0, .int 0, .int 0, .int 0, .long 0, .int 0, .int (-1), .int 0, .int 0, .ref m_newTests, .ref m_newWhat, .ref m_newSign, .ref m_newThan, .ref m_newAct, .ref m_newNumber, .ref m_has]))]) rfl rfl (by decide) (by decide) (fun r794 u_r794 H locs hw794 hP hD hS => ?_)
  try dsimp only at hw794
  have hP : va_P D vwCl [(m0, .inr (10, [.int 0, .ref m_tape, .int 0, .ref m_stops, .ref m_km, .ref m_takes, .ref m_officeAt, .ref m_shares, .ref m_berths, .ref m_owner, .ref m_lies, .ref m_tickets, .ref m_tDay, .ref m_tBerth, .ref m_tFrom, .ref m_tTo, .ref m_tOffice, .ref m_tBack, .ref m_letters, .ref m_lComes, .ref m_lAnswer, .ref m_lOffice, .ref m_lDay, .ref m_lFrom, .ref m_lTo, .ref m_lTicket, .ref m_now, .ref m_lines, .ref m_lineTests, .ref m_testWhat, .ref m_testSign, .ref m_testThan, .ref m_lineAct, .ref m_lineNumber, .ref m_free, .ref m_newBerth, .int 0, .int 0, .int 0, .int 0, .int 0, .long 0, .int 0, .int (-1), .int 0, .int 0, .ref m_newTests, .ref m_newWhat, .ref m_newSign, .ref m_newThan, .ref m_newAct, .ref m_newNumber, .ref m_has]))] H := hP
  have hD : va_D A [(m0, .inr (10, [.int 0, .ref m_tape, .int 0, .ref m_stops, .ref m_km, .ref m_takes, .ref m_officeAt, .ref m_shares, .ref m_berths, .ref m_owner, .ref m_lies, .ref m_tickets, .ref m_tDay, .ref m_tBerth, .ref m_tFrom, .ref m_tTo, .ref m_tOffice, .ref m_tBack, .ref m_letters, .ref m_lComes, .ref m_lAnswer, .ref m_lOffice, .ref m_lDay, .ref m_lFrom, .ref m_lTo, .ref m_lTicket, .ref m_now, .ref m_lines, .ref m_lineTests, .ref m_testWhat, .ref m_testSign, .ref m_testThan, .ref m_lineAct, .ref m_lineNumber, .ref m_free, .ref m_newBerth, .int 0, .int 0, .int 0, .int 0, .int 0, .long 0, .int 0, .int (-1), .int 0, .int 0, .ref m_newTests, .ref m_newWhat, .ref m_newSign, .ref m_newThan, .ref m_newAct, .ref m_newNumber, .ref m_has]))] := hD
  refine lv_aload_n hx hb dL_law_797 rfl (lv_at hl 1 rfl) ?_
  refine lv_aload_n hx hb dL_law_798 rfl (lv_at hl 3 rfl) ?_
  refine lv_iload_n hx hb dL_law_799 rfl (lv_at hl 0 rfl) ?_
  refine lv_iconst (v := 1) hx hb dL_law_800 (by decide) ?_
  refine lv_iadd hx hb dL_law_801 ?_
  refine lv_topi (fun x801 ex801 => ?_)
  obtain rfl : x801 = 1 := ex801.trans (by decide)
  refine va_sld hx hb hX hbl hbA hS (q_in (a := 1) (by decide) (by decide) (by decide)) dL_law_802 ?_
  refine lv_topi (fun x802 ex802 => ?_)
  obtain rfl : v1 = x802 := ev1.trans ex802.symm
  refine k_i (va_runV (As := [.int v1]) (rest := [.int r794]) ⟨hx, hb, hml, hown, hts⟩ (c_X10_fault l D cy m0 m_tape m_stops m_km m_takes m_officeAt m_shares m_berths m_owner m_lies m_tickets m_tDay m_tBerth m_tFrom m_tTo m_tOffice m_tBack m_letters m_lComes m_lAnswer m_lOffice m_lDay m_lFrom m_lTo m_lTicket m_now m_lines m_lineTests m_testWhat m_testSign m_testThan m_lineAct m_lineNumber m_free m_newBerth m_newTests m_newWhat m_newSign m_newThan m_newAct m_newNumber m_has v1 H.size ) (cwV 1 hts gL_law_X10_fault rfl rfl rfl (by decide +kernel) ⟨Nat.le_of_ble_eq_true rfl, Nat.le_of_ble_eq_true rfl⟩) (cp_v hK hN hP hD [0] rfl (by decide) (ci := 10) rfl rfl rfl) rfl rfl hl.1 rfl (lv_room (Nat.le_of_ble_eq_true rfl)) dL_law_803 ⟨Nat.le_of_ble_eq_true rfl, Nat.le_of_ble_eq_true rfl⟩) hP hD hS hA [0] [] (wr := []) rfl rfl (by decide) (by decide) (fun r803 u_r803 H locs hw803 hP hD hS => ?_)
  try dsimp only at hw803
  have hP : va_P D vwCl [] H := hP
  have hD : va_D A [] := hD
  refine lv_icmp_eq (tgt := 947) hx hb dL_law_806 (by decide) (fun c806 => ?_) (fun c806 => ?_)
  · skip
    have fc806 := q_eq (a := r794.toInt) (b := r803.toInt) c806 rfl rfl
    exact law_tail C0 hA hAA (by decide) (by decide) hS ls (lv_sub hl [0, 3] rfl)
  · skip
    have fc806 := q_ne (a := r794.toInt) (b := r803.toInt) c806 rfl rfl
    exfalso; omega
set_option maxHeartbeats 4000000 in
set_option maxRecDepth 100000 in
theorem law_19 {p : Program} {e : Env} {s : State} {m : MethodId} {below : List Frame} {meth : Method} {c : Code} {l : Launch} {b : Nat} {xs : Nat → Int32} {A : Nat → Prop} {H : Heap} {locs : List Loc} {D : va_G} {cy : Nat → ClassId} (C0 : lw_At p s m meth c b 6 xs) (hA : ∀ q : Nat, s.heap.size ≤ q → A q) (hAA : ∀ q : Nat, A q → s.heap.size ≤ q) (hK : va_K D vwCl (tyL cy) s) (hN : NW s) (x0 b0 im tp rd r0 u0 t0 l0 q0 of sh nl fc u1 u2 u3 m0 m_tape m_stops m_km m_takes m_officeAt m_shares m_berths m_owner m_lies m_tickets m_tDay m_tBerth m_tFrom m_tTo m_tOffice m_tBack m_letters m_lComes m_lAnswer m_lOffice m_lDay m_lFrom m_lTo m_lTicket m_now m_lines m_lineTests m_testWhat m_testSign m_testThan m_lineAct m_lineNumber m_free m_newBerth m_newTests m_newWhat m_newSign m_newThan m_newAct m_newNumber m_has : Nat) (g1 g2 fst fkm ftk fli : Nat → Int32) (hg1 : ∀ j : Nat, j < 9 → g1 j = 1) (hg2 : ∀ j : Nat, j < 9 → g2 j = 1) (hst : fst 0 = 2) (hkm : ∀ j : Nat, j < 9 → fkm j = 1) (htk : ∀ j : Nat, j < 9 → ftk j = 1) (hP : va_P D vwCl [(x0, .inr (9, [.ref b0, .ref im, .ref tp, .ref rd])), (b0, .inr (0, [.int 0, .ref r0, .ref u0, .ref t0, .ref l0, .ref q0, .ref of, .ref sh, .ref nl, .ref fc])), (u0, .inr (5, [.int 0, .ref u1, .ref u2, .ref u3])), (u1, .inl (cy 0, 60, .inl (fun _ => 0))), (m0, .inr (10, [.int 0, .ref m_tape, .int 0, .ref m_stops, .ref m_km, .ref m_takes, .ref m_officeAt, .ref m_shares, .ref m_berths, .ref m_owner, .ref m_lies, .ref m_tickets, .ref m_tDay, .ref m_tBerth, .ref m_tFrom, .ref m_tTo, .ref m_tOffice, .ref m_tBack, .ref m_letters, .ref m_lComes, .ref m_lAnswer, .ref m_lOffice, .ref m_lDay, .ref m_lFrom, .ref m_lTo, .ref m_lTicket, .ref m_now, .ref m_lines, .ref m_lineTests, .ref m_testWhat, .ref m_testSign, .ref m_testThan, .ref m_lineAct, .ref m_lineNumber, .ref m_free, .ref m_newBerth, .int 0, .int 0, .int 0, .int 0, .int 0, .long 0, .int 0, .int (-1), .int 0, .int 0, .ref m_newTests, .ref m_newWhat, .ref m_newSign, .ref m_newThan, .ref m_newAct, .ref m_newNumber, .ref m_has])), (m_berths, .inl (cy 0, 240, .inl (fun _ => 0)))] H) (hD : va_D A [(x0, .inr (9, [.ref b0, .ref im, .ref tp, .ref rd])), (b0, .inr (0, [.int 0, .ref r0, .ref u0, .ref t0, .ref l0, .ref q0, .ref of, .ref sh, .ref nl, .ref fc])), (u0, .inr (5, [.int 0, .ref u1, .ref u2, .ref u3])), (u1, .inl (cy 0, 60, .inl (fun _ => 0))), (m0, .inr (10, [.int 0, .ref m_tape, .int 0, .ref m_stops, .ref m_km, .ref m_takes, .ref m_officeAt, .ref m_shares, .ref m_berths, .ref m_owner, .ref m_lies, .ref m_tickets, .ref m_tDay, .ref m_tBerth, .ref m_tFrom, .ref m_tTo, .ref m_tOffice, .ref m_tBack, .ref m_letters, .ref m_lComes, .ref m_lAnswer, .ref m_lOffice, .ref m_lDay, .ref m_lFrom, .ref m_lTo, .ref m_lTicket, .ref m_now, .ref m_lines, .ref m_lineTests, .ref m_testWhat, .ref m_testSign, .ref m_testThan, .ref m_lineAct, .ref m_lineNumber, .ref m_free, .ref m_newBerth, .int 0, .int 0, .int 0, .int 0, .int 0, .long 0, .int 0, .int (-1), .int 0, .int 0, .ref m_newTests, .ref m_newWhat, .ref m_newSign, .ref m_newThan, .ref m_newAct, .ref m_newNumber, .ref m_has])), (m_berths, .inl (cy 0, 240, .inl (fun _ => 0)))]) (hS : va_S A s.heap H locs) (ls : Array Slot) (hl : lv_has ls 4 [(3, .int 0), (2, .ref m0), (1, .ref x0), (0, .ref b)]) : W p l e room_1 s m #[Value.ref b] below meth c H locs 94 42452 (lw_Z below #[Value.ref b] s) (F0 m 811 ls []) := by
  obtain ⟨hx, hb, hr, hml, hown, hts0, hX, hbl, hlocks, hgv⟩ := id C0
  have hown : s.vm.findClass RL = some m.cls := hown
  have hts : ∀ w ∈ wsL_law, w.before #[Value.ref b] s = true := fun w h => hts0 w (wsL_law_in w h)
  have hbA : ¬ A b := fun h => absurd (hAA b h) (Nat.not_le.mpr hbl)
  obtain ⟨v1, ev1⟩ : ∃ v : Int32, v = xs (1 : Int32).toNatClampNeg := ⟨_, rfl⟩
  obtain ⟨v2, ev2⟩ : ∃ v : Int32, v = xs (2 : Int32).toNatClampNeg := ⟨_, rfl⟩
  obtain ⟨v3, ev3⟩ : ∃ v : Int32, v = xs (3 : Int32).toNatClampNeg := ⟨_, rfl⟩
  obtain ⟨v4, ev4⟩ : ∃ v : Int32, v = xs (4 : Int32).toNatClampNeg := ⟨_, rfl⟩
  obtain ⟨v5, ev5⟩ : ∃ v : Int32, v = xs (5 : Int32).toNatClampNeg := ⟨_, rfl⟩
  have w_0 := hts0 (.instanceMethod yX9_cost) (List.mem_of_getElem? (i := 782) (by decide +kernel))
  have w_1 := hts0 (.instanceMethod yX10_cost) (List.mem_of_getElem? (i := 1238) (by decide +kernel))
  refine lv_aload_n hx hb dL_law_811 rfl (lv_at hl 2 rfl) ?_
  refine lv_aload_n hx hb dL_law_812 rfl (lv_at hl 3 rfl) ?_
  refine lv_iload_n hx hb dL_law_813 rfl (lv_at hl 0 rfl) ?_
  refine lv_iconst (v := 1) hx hb dL_law_814 (by decide) ?_
  refine lv_iadd hx hb dL_law_815 ?_
  refine lv_topi (fun x815 ex815 => ?_)
  obtain rfl : x815 = 1 := ex815.trans (by decide)
  refine va_sld hx hb hX hbl hbA hS (q_in (a := 1) (by decide) (by decide) (by decide)) dL_law_816 ?_
  refine lv_topi (fun x816 ex816 => ?_)
  obtain rfl : v1 = x816 := ev1.trans ex816.symm
  refine lv_aload_n hx hb dL_law_817 rfl (lv_at hl 3 rfl) ?_
  refine lv_iload_n hx hb dL_law_818 rfl (lv_at hl 0 rfl) ?_
  refine lv_iconst (v := 2) hx hb dL_law_819 (by decide) ?_
  refine lv_iadd hx hb dL_law_820 ?_
  refine lv_topi (fun x820 ex820 => ?_)
  obtain rfl : x820 = 2 := ex820.trans (by decide)
  refine va_sld hx hb hX hbl hbA hS (q_in (a := 2) (by decide) (by decide) (by decide)) dL_law_821 ?_
  refine lv_topi (fun x821 ex821 => ?_)
  obtain rfl : v2 = x821 := ev2.trans ex821.symm
  refine k_l (va_runV (As := [.int v1, .int v2]) (rest := []) ⟨hx, hb, hml, hown, hts⟩ (c_X9_cost l D cy x0 b0 im tp rd r0 u0 t0 l0 q0 of sh nl fc u1 u2 u3 v1 v2 H.size ) (cwV 2 hts gL_law_X9_cost rfl rfl rfl (by decide +kernel) ⟨Nat.le_of_ble_eq_true rfl, Nat.le_of_ble_eq_true rfl⟩) (cp_v hK hN hP hD [0, 1, 2, 3] rfl (by decide) (ci := 9) rfl rfl rfl) rfl rfl hl.1 rfl (lv_room (Nat.le_of_ble_eq_true rfl)) dL_law_822 ⟨Nat.le_of_ble_eq_true rfl, Nat.le_of_ble_eq_true rfl⟩) hP hD hS hA [0, 1, 2, 3] [4, 5] (wr := [(m0, .inr (10, [.int 0, .ref m_tape, .int 0, .ref m_stops, .ref m_km, .ref m_takes, .ref m_officeAt, .ref m_shares, .ref m_berths, .ref m_owner, .ref m_lies, .ref m_tickets, .ref m_tDay, .ref m_tBerth, .ref m_tFrom, .ref m_tTo, .ref m_tOffice, .ref m_tBack, .ref m_letters, .ref m_lComes, .ref m_lAnswer, .ref m_lOffice, .ref m_lDay, .ref m_lFrom, .ref m_lTo, .ref m_lTicket, .ref m_now, .ref m_lines, .ref m_lineTests, .ref m_testWhat, .ref m_testSign, .ref m_testThan, .ref m_lineAct, .ref m_lineNumber, .ref m_free, .ref m_newBerth, .int 0, .int 0, .int 0, .int 0, .int 0, .long 0, .int 0, .int (-1), .int 0, .int 0, .ref m_newTests, .ref m_newWhat, .ref m_newSign, .ref m_newThan, .ref m_newAct, .ref m_newNumber, .ref m_has])), (m_berths, .inl (cy 0, 240, .inl (fun _ => 0)))]) rfl rfl (by decide) (by decide) (fun r822 u_r822 H locs hw822 hP hD hS => ?_)
  try dsimp only at hw822
  have hP : va_P D vwCl [(m0, .inr (10, [.int 0, .ref m_tape, .int 0, .ref m_stops, .ref m_km, .ref m_takes, .ref m_officeAt, .ref m_shares, .ref m_berths, .ref m_owner, .ref m_lies, .ref m_tickets, .ref m_tDay, .ref m_tBerth, .ref m_tFrom, .ref m_tTo, .ref m_tOffice, .ref m_tBack, .ref m_letters, .ref m_lComes, .ref m_lAnswer, .ref m_lOffice, .ref m_lDay, .ref m_lFrom, .ref m_lTo, .ref m_lTicket, .ref m_now, .ref m_lines, .ref m_lineTests, .ref m_testWhat, .ref m_testSign, .ref m_testThan, .ref m_lineAct, .ref m_lineNumber, .ref m_free, .ref m_newBerth, .int 0, .int 0, .int 0, .int 0, .int 0, .long 0, .int 0, .int (-1), .int 0, .int 0, .ref m_newTests, .ref m_newWhat, .ref m_newSign, .ref m_newThan, .ref m_newAct, .ref m_newNumber, .ref m_has])), (m_berths, .inl (cy 0, 240, .inl (fun _ => 0)))] H := hP
  have hD : va_D A [(m0, .inr (10, [.int 0, .ref m_tape, .int 0, .ref m_stops, .ref m_km, .ref m_takes, .ref m_officeAt, .ref m_shares, .ref m_berths, .ref m_owner, .ref m_lies, .ref m_tickets, .ref m_tDay, .ref m_tBerth, .ref m_tFrom, .ref m_tTo, .ref m_tOffice, .ref m_tBack, .ref m_letters, .ref m_lComes, .ref m_lAnswer, .ref m_lOffice, .ref m_lDay, .ref m_lFrom, .ref m_lTo, .ref m_lTicket, .ref m_now, .ref m_lines, .ref m_lineTests, .ref m_testWhat, .ref m_testSign, .ref m_testThan, .ref m_lineAct, .ref m_lineNumber, .ref m_free, .ref m_newBerth, .int 0, .int 0, .int 0, .int 0, .int 0, .long 0, .int 0, .int (-1), .int 0, .int 0, .ref m_newTests, .ref m_newWhat, .ref m_newSign, .ref m_newThan, .ref m_newAct, .ref m_newNumber, .ref m_has])), (m_berths, .inl (cy 0, 240, .inl (fun _ => 0)))] := hD
  refine lv_aload_n hx hb dL_law_825 rfl (lv_at hl 1 rfl) ?_
  refine lv_aload_n hx hb dL_law_826 rfl (lv_at hl 3 rfl) ?_
  refine lv_iload_n hx hb dL_law_827 rfl (lv_at hl 0 rfl) ?_
  refine lv_iconst (v := 1) hx hb dL_law_828 (by decide) ?_
  refine lv_iadd hx hb dL_law_829 ?_
  refine lv_topi (fun x829 ex829 => ?_)
  obtain rfl : x829 = 1 := ex829.trans (by decide)
  refine va_sld hx hb hX hbl hbA hS (q_in (a := 1) (by decide) (by decide) (by decide)) dL_law_830 ?_
  refine lv_topi (fun x830 ex830 => ?_)
  obtain rfl : v1 = x830 := ev1.trans ex830.symm
  refine lv_aload_n hx hb dL_law_831 rfl (lv_at hl 3 rfl) ?_
  refine lv_iload_n hx hb dL_law_832 rfl (lv_at hl 0 rfl) ?_
  refine lv_iconst (v := 2) hx hb dL_law_833 (by decide) ?_
  refine lv_iadd hx hb dL_law_834 ?_
  refine lv_topi (fun x834 ex834 => ?_)
  obtain rfl : x834 = 2 := ex834.trans (by decide)
  refine va_sld hx hb hX hbl hbA hS (q_in (a := 2) (by decide) (by decide) (by decide)) dL_law_835 ?_
  refine lv_topi (fun x835 ex835 => ?_)
  obtain rfl : v2 = x835 := ev2.trans ex835.symm
  refine k_l (va_runV (As := [.int v1, .int v2]) (rest := [.long r822]) ⟨hx, hb, hml, hown, hts⟩ (c_X10_cost l D cy m0 m_tape m_stops m_km m_takes m_officeAt m_shares m_berths m_owner m_lies m_tickets m_tDay m_tBerth m_tFrom m_tTo m_tOffice m_tBack m_letters m_lComes m_lAnswer m_lOffice m_lDay m_lFrom m_lTo m_lTicket m_now m_lines m_lineTests m_testWhat m_testSign m_testThan m_lineAct m_lineNumber m_free m_newBerth m_newTests m_newWhat m_newSign m_newThan m_newAct m_newNumber m_has v1 v2 H.size ) (cwV 2 hts gL_law_X10_cost rfl rfl rfl (by decide +kernel) ⟨Nat.le_of_ble_eq_true rfl, Nat.le_of_ble_eq_true rfl⟩) (cp_v hK hN hP hD [0, 1] rfl (by decide) (ci := 10) rfl rfl rfl) rfl rfl hl.1 rfl (lv_room (Nat.le_of_ble_eq_true rfl)) dL_law_836 ⟨Nat.le_of_ble_eq_true rfl, Nat.le_of_ble_eq_true rfl⟩) hP hD hS hA [0, 1] [] (wr := []) rfl rfl (by decide) (by decide) (fun r836 u_r836 H locs hw836 hP hD hS => ?_)
  try dsimp only at hw836
  have hP : va_P D vwCl [] H := hP
  have hD : va_D A [] := hD
  refine W.lcmp hx hb dL_law_839 ?_
  refine lv_topi (fun x839 ex839 => ?_)
  obtain rfl : x839 = 0 := by rw [ex839, hw822, hw836]; decide
  refine lv_if_eq (tgt := 947) hx hb dL_law_840 (by decide) (fun c840 => ?_) (fun c840 => ?_)
  · skip
    exact law_tail C0 hA hAA (by decide) (by decide) hS ls (lv_sub hl [0, 3] rfl)
  · skip
    exact absurd c840 (by decide)
set_option maxHeartbeats 4000000 in
set_option maxRecDepth 100000 in
theorem law_20 {p : Program} {e : Env} {s : State} {m : MethodId} {below : List Frame} {meth : Method} {c : Code} {l : Launch} {b : Nat} {xs : Nat → Int32} {A : Nat → Prop} {H : Heap} {locs : List Loc} {D : va_G} {cy : Nat → ClassId} (C0 : lw_At p s m meth c b 6 xs) (hA : ∀ q : Nat, s.heap.size ≤ q → A q) (hAA : ∀ q : Nat, A q → s.heap.size ≤ q) (hK : va_K D vwCl (tyL cy) s) (hN : NW s) (x0 b0 im tp rd r0 u0 t0 l0 q0 of sh nl fc r1 r2 m0 m_tape m_stops m_km m_takes m_officeAt m_shares m_berths m_owner m_lies m_tickets m_tDay m_tBerth m_tFrom m_tTo m_tOffice m_tBack m_letters m_lComes m_lAnswer m_lOffice m_lDay m_lFrom m_lTo m_lTicket m_now m_lines m_lineTests m_testWhat m_testSign m_testThan m_lineAct m_lineNumber m_free m_newBerth m_newTests m_newWhat m_newSign m_newThan m_newAct m_newNumber m_has : Nat) (g1 g2 fst fkm ftk fli : Nat → Int32) (hg1 : ∀ j : Nat, j < 9 → g1 j = 1) (hg2 : ∀ j : Nat, j < 9 → g2 j = 1) (hst : fst 0 = 2) (hkm : ∀ j : Nat, j < 9 → fkm j = 1) (htk : ∀ j : Nat, j < 9 → ftk j = 1) (hP : va_P D vwCl [(x0, .inr (9, [.ref b0, .ref im, .ref tp, .ref rd])), (b0, .inr (0, [.int 0, .ref r0, .ref u0, .ref t0, .ref l0, .ref q0, .ref of, .ref sh, .ref nl, .ref fc])), (r0, .inr (4, [.int 2, .ref r1, .ref r2])), (r2, .inl (cy 0, 9, .inl g2)), (m0, .inr (10, [.int 0, .ref m_tape, .int 0, .ref m_stops, .ref m_km, .ref m_takes, .ref m_officeAt, .ref m_shares, .ref m_berths, .ref m_owner, .ref m_lies, .ref m_tickets, .ref m_tDay, .ref m_tBerth, .ref m_tFrom, .ref m_tTo, .ref m_tOffice, .ref m_tBack, .ref m_letters, .ref m_lComes, .ref m_lAnswer, .ref m_lOffice, .ref m_lDay, .ref m_lFrom, .ref m_lTo, .ref m_lTicket, .ref m_now, .ref m_lines, .ref m_lineTests, .ref m_testWhat, .ref m_testSign, .ref m_testThan, .ref m_lineAct, .ref m_lineNumber, .ref m_free, .ref m_newBerth, .int 0, .int 0, .int 0, .int 0, .int 0, .long 0, .int 0, .int (-1), .int 0, .int 0, .ref m_newTests, .ref m_newWhat, .ref m_newSign, .ref m_newThan, .ref m_newAct, .ref m_newNumber, .ref m_has])), (m_stops, .inl (cy 0, 4, .inl fst)), (m_takes, .inl (cy 0, 36, .inl ftk))] H) (hD : va_D A [(x0, .inr (9, [.ref b0, .ref im, .ref tp, .ref rd])), (b0, .inr (0, [.int 0, .ref r0, .ref u0, .ref t0, .ref l0, .ref q0, .ref of, .ref sh, .ref nl, .ref fc])), (r0, .inr (4, [.int 2, .ref r1, .ref r2])), (r2, .inl (cy 0, 9, .inl g2)), (m0, .inr (10, [.int 0, .ref m_tape, .int 0, .ref m_stops, .ref m_km, .ref m_takes, .ref m_officeAt, .ref m_shares, .ref m_berths, .ref m_owner, .ref m_lies, .ref m_tickets, .ref m_tDay, .ref m_tBerth, .ref m_tFrom, .ref m_tTo, .ref m_tOffice, .ref m_tBack, .ref m_letters, .ref m_lComes, .ref m_lAnswer, .ref m_lOffice, .ref m_lDay, .ref m_lFrom, .ref m_lTo, .ref m_lTicket, .ref m_now, .ref m_lines, .ref m_lineTests, .ref m_testWhat, .ref m_testSign, .ref m_testThan, .ref m_lineAct, .ref m_lineNumber, .ref m_free, .ref m_newBerth, .int 0, .int 0, .int 0, .int 0, .int 0, .long 0, .int 0, .int (-1), .int 0, .int 0, .ref m_newTests, .ref m_newWhat, .ref m_newSign, .ref m_newThan, .ref m_newAct, .ref m_newNumber, .ref m_has])), (m_stops, .inl (cy 0, 4, .inl fst)), (m_takes, .inl (cy 0, 36, .inl ftk))]) (hS : va_S A s.heap H locs) (ls : Array Slot) (hl : lv_has ls 4 [(3, .int 0), (2, .ref m0), (1, .ref x0), (0, .ref b)]) : W p l e room_1 s m #[Value.ref b] below meth c H locs 94 42452 (lw_Z below #[Value.ref b] s) (F0 m 845 ls []) := by
  obtain ⟨hx, hb, hr, hml, hown, hts0, hX, hbl, hlocks, hgv⟩ := id C0
  have hown : s.vm.findClass RL = some m.cls := hown
  have hts : ∀ w ∈ wsL_law, w.before #[Value.ref b] s = true := fun w h => hts0 w (wsL_law_in w h)
  have hbA : ¬ A b := fun h => absurd (hAA b h) (Nat.not_le.mpr hbl)
  obtain ⟨v1, ev1⟩ : ∃ v : Int32, v = xs (1 : Int32).toNatClampNeg := ⟨_, rfl⟩
  obtain ⟨v2, ev2⟩ : ∃ v : Int32, v = xs (2 : Int32).toNatClampNeg := ⟨_, rfl⟩
  obtain ⟨v3, ev3⟩ : ∃ v : Int32, v = xs (3 : Int32).toNatClampNeg := ⟨_, rfl⟩
  obtain ⟨v4, ev4⟩ : ∃ v : Int32, v = xs (4 : Int32).toNatClampNeg := ⟨_, rfl⟩
  obtain ⟨v5, ev5⟩ : ∃ v : Int32, v = xs (5 : Int32).toNatClampNeg := ⟨_, rfl⟩
  have w_0 := hts0 (.instanceMethod yX9_cars) (List.mem_of_getElem? (i := 815) (by decide +kernel))
  have w_1 := hts0 (.instanceMethod yX10_cars) (List.mem_of_getElem? (i := 1255) (by decide +kernel))
  refine lv_aload_n hx hb dL_law_845 rfl (lv_at hl 2 rfl) ?_
  refine lv_aload_n hx hb dL_law_846 rfl (lv_at hl 3 rfl) ?_
  refine lv_iload_n hx hb dL_law_847 rfl (lv_at hl 0 rfl) ?_
  refine lv_iconst (v := 1) hx hb dL_law_848 (by decide) ?_
  refine lv_iadd hx hb dL_law_849 ?_
  refine lv_topi (fun x849 ex849 => ?_)
  obtain rfl : x849 = 1 := ex849.trans (by decide)
  refine va_sld hx hb hX hbl hbA hS (q_in (a := 1) (by decide) (by decide) (by decide)) dL_law_850 ?_
  refine lv_topi (fun x850 ex850 => ?_)
  obtain rfl : v1 = x850 := ev1.trans ex850.symm
  refine lv_aload_n hx hb dL_law_851 rfl (lv_at hl 3 rfl) ?_
  refine lv_iload_n hx hb dL_law_852 rfl (lv_at hl 0 rfl) ?_
  refine lv_iconst (v := 2) hx hb dL_law_853 (by decide) ?_
  refine lv_iadd hx hb dL_law_854 ?_
  refine lv_topi (fun x854 ex854 => ?_)
  obtain rfl : x854 = 2 := ex854.trans (by decide)
  refine va_sld hx hb hX hbl hbA hS (q_in (a := 2) (by decide) (by decide) (by decide)) dL_law_855 ?_
  refine lv_topi (fun x855 ex855 => ?_)
  obtain rfl : v2 = x855 := ev2.trans ex855.symm
  refine k_i (va_runV (As := [.int v1, .int v2]) (rest := []) ⟨hx, hb, hml, hown, hts⟩ (c_X9_cars l D cy x0 b0 im tp rd r0 u0 t0 l0 q0 of sh nl fc r1 r2 g2 v1 v2 H.size hg2) (cwV 2 hts gL_law_X9_cars rfl rfl rfl (by decide +kernel) ⟨Nat.le_of_ble_eq_true rfl, Nat.le_of_ble_eq_true rfl⟩) (cp_v hK hN hP hD [0, 1, 2, 3] rfl (by decide) (ci := 9) rfl rfl rfl) rfl rfl hl.1 rfl (lv_room (Nat.le_of_ble_eq_true rfl)) dL_law_856 ⟨Nat.le_of_ble_eq_true rfl, Nat.le_of_ble_eq_true rfl⟩) hP hD hS hA [0, 1, 2, 3] [4, 5, 6] (wr := [(m0, .inr (10, [.int 0, .ref m_tape, .int 0, .ref m_stops, .ref m_km, .ref m_takes, .ref m_officeAt, .ref m_shares, .ref m_berths, .ref m_owner, .ref m_lies, .ref m_tickets, .ref m_tDay, .ref m_tBerth, .ref m_tFrom, .ref m_tTo, .ref m_tOffice, .ref m_tBack, .ref m_letters, .ref m_lComes, .ref m_lAnswer, .ref m_lOffice, .ref m_lDay, .ref m_lFrom, .ref m_lTo, .ref m_lTicket, .ref m_now, .ref m_lines, .ref m_lineTests, .ref m_testWhat, .ref m_testSign, .ref m_testThan, .ref m_lineAct, .ref m_lineNumber, .ref m_free, .ref m_newBerth, .int 0, .int 0, .int 0, .int 0, .int 0, .long 0, .int 0, .int (-1), .int 0, .int 0, .ref m_newTests, .ref m_newWhat, .ref m_newSign, .ref m_newThan, .ref m_newAct, .ref m_newNumber, .ref m_has])), (m_stops, .inl (cy 0, 4, .inl fst)), (m_takes, .inl (cy 0, 36, .inl ftk))]) rfl rfl (by decide) (by decide) (fun r856 u_r856 H locs hw856 hP hD hS => ?_)
  try dsimp only at hw856
  have hP : va_P D vwCl [(m0, .inr (10, [.int 0, .ref m_tape, .int 0, .ref m_stops, .ref m_km, .ref m_takes, .ref m_officeAt, .ref m_shares, .ref m_berths, .ref m_owner, .ref m_lies, .ref m_tickets, .ref m_tDay, .ref m_tBerth, .ref m_tFrom, .ref m_tTo, .ref m_tOffice, .ref m_tBack, .ref m_letters, .ref m_lComes, .ref m_lAnswer, .ref m_lOffice, .ref m_lDay, .ref m_lFrom, .ref m_lTo, .ref m_lTicket, .ref m_now, .ref m_lines, .ref m_lineTests, .ref m_testWhat, .ref m_testSign, .ref m_testThan, .ref m_lineAct, .ref m_lineNumber, .ref m_free, .ref m_newBerth, .int 0, .int 0, .int 0, .int 0, .int 0, .long 0, .int 0, .int (-1), .int 0, .int 0, .ref m_newTests, .ref m_newWhat, .ref m_newSign, .ref m_newThan, .ref m_newAct, .ref m_newNumber, .ref m_has])), (m_stops, .inl (cy 0, 4, .inl fst)), (m_takes, .inl (cy 0, 36, .inl ftk))] H := hP
  have hD : va_D A [(m0, .inr (10, [.int 0, .ref m_tape, .int 0, .ref m_stops, .ref m_km, .ref m_takes, .ref m_officeAt, .ref m_shares, .ref m_berths, .ref m_owner, .ref m_lies, .ref m_tickets, .ref m_tDay, .ref m_tBerth, .ref m_tFrom, .ref m_tTo, .ref m_tOffice, .ref m_tBack, .ref m_letters, .ref m_lComes, .ref m_lAnswer, .ref m_lOffice, .ref m_lDay, .ref m_lFrom, .ref m_lTo, .ref m_lTicket, .ref m_now, .ref m_lines, .ref m_lineTests, .ref m_testWhat, .ref m_testSign, .ref m_testThan, .ref m_lineAct, .ref m_lineNumber, .ref m_free, .ref m_newBerth, .int 0, .int 0, .int 0, .int 0, .int 0, .long 0, .int 0, .int (-1), .int 0, .int 0, .ref m_newTests, .ref m_newWhat, .ref m_newSign, .ref m_newThan, .ref m_newAct, .ref m_newNumber, .ref m_has])), (m_stops, .inl (cy 0, 4, .inl fst)), (m_takes, .inl (cy 0, 36, .inl ftk))] := hD
  refine lv_aload_n hx hb dL_law_859 rfl (lv_at hl 1 rfl) ?_
  refine lv_aload_n hx hb dL_law_860 rfl (lv_at hl 3 rfl) ?_
  refine lv_iload_n hx hb dL_law_861 rfl (lv_at hl 0 rfl) ?_
  refine lv_iconst (v := 1) hx hb dL_law_862 (by decide) ?_
  refine lv_iadd hx hb dL_law_863 ?_
  refine lv_topi (fun x863 ex863 => ?_)
  obtain rfl : x863 = 1 := ex863.trans (by decide)
  refine va_sld hx hb hX hbl hbA hS (q_in (a := 1) (by decide) (by decide) (by decide)) dL_law_864 ?_
  refine lv_topi (fun x864 ex864 => ?_)
  obtain rfl : v1 = x864 := ev1.trans ex864.symm
  refine lv_aload_n hx hb dL_law_865 rfl (lv_at hl 3 rfl) ?_
  refine lv_iload_n hx hb dL_law_866 rfl (lv_at hl 0 rfl) ?_
  refine lv_iconst (v := 2) hx hb dL_law_867 (by decide) ?_
  refine lv_iadd hx hb dL_law_868 ?_
  refine lv_topi (fun x868 ex868 => ?_)
  obtain rfl : x868 = 2 := ex868.trans (by decide)
  refine va_sld hx hb hX hbl hbA hS (q_in (a := 2) (by decide) (by decide) (by decide)) dL_law_869 ?_
  refine lv_topi (fun x869 ex869 => ?_)
  obtain rfl : v2 = x869 := ev2.trans ex869.symm
  refine k_i (va_runV (As := [.int v1, .int v2]) (rest := [.int r856]) ⟨hx, hb, hml, hown, hts⟩ (c_X10_cars l D cy m0 m_tape m_stops m_km m_takes m_officeAt m_shares m_berths m_owner m_lies m_tickets m_tDay m_tBerth m_tFrom m_tTo m_tOffice m_tBack m_letters m_lComes m_lAnswer m_lOffice m_lDay m_lFrom m_lTo m_lTicket m_now m_lines m_lineTests m_testWhat m_testSign m_testThan m_lineAct m_lineNumber m_free m_newBerth m_newTests m_newWhat m_newSign m_newThan m_newAct m_newNumber m_has fst ftk v1 v2 H.size hst htk) (cwV 2 hts gL_law_X10_cars rfl rfl rfl (by decide +kernel) ⟨Nat.le_of_ble_eq_true rfl, Nat.le_of_ble_eq_true rfl⟩) (cp_v hK hN hP hD [0, 1, 2] rfl (by decide) (ci := 10) rfl rfl rfl) rfl rfl hl.1 rfl (lv_room (Nat.le_of_ble_eq_true rfl)) dL_law_870 ⟨Nat.le_of_ble_eq_true rfl, Nat.le_of_ble_eq_true rfl⟩) hP hD hS hA [0, 1, 2] [] (wr := []) rfl rfl (by decide) (by decide) (fun r870 u_r870 H locs hw870 hP hD hS => ?_)
  try dsimp only at hw870
  have hP : va_P D vwCl [] H := hP
  have hD : va_D A [] := hD
  refine lv_icmp_eq (tgt := 947) hx hb dL_law_873 (by decide) (fun c873 => ?_) (fun c873 => ?_)
  · skip
    have fc873 := q_eq (a := r856.toInt) (b := r870.toInt) c873 rfl rfl
    exact law_tail C0 hA hAA (by decide) (by decide) hS ls (lv_sub hl [0, 3] rfl)
  · skip
    have fc873 := q_ne (a := r856.toInt) (b := r870.toInt) c873 rfl rfl
    exfalso; omega
set_option maxHeartbeats 4000000 in
set_option maxRecDepth 100000 in
theorem law_21 {p : Program} {e : Env} {s : State} {m : MethodId} {below : List Frame} {meth : Method} {c : Code} {l : Launch} {b : Nat} {xs : Nat → Int32} {A : Nat → Prop} {H : Heap} {locs : List Loc} {D : va_G} {cy : Nat → ClassId} (C0 : lw_At p s m meth c b 6 xs) (hA : ∀ q : Nat, s.heap.size ≤ q → A q) (hAA : ∀ q : Nat, A q → s.heap.size ≤ q) (hK : va_K D vwCl (tyL cy) s) (hN : NW s) (x0 b0 im tp rd r0 u0 t0 l0 q0 of sh nl fc r1 r2 u1 u2 u3 t1 t2 t3 t4 t5 t6 l1 l2 l3 l4 l5 l6 l7 q1 q2 q3 q4 q5 q6 q7 m0 m_tape m_stops m_km m_takes m_officeAt m_shares m_berths m_owner m_lies m_tickets m_tDay m_tBerth m_tFrom m_tTo m_tOffice m_tBack m_letters m_lComes m_lAnswer m_lOffice m_lDay m_lFrom m_lTo m_lTicket m_now m_lines m_lineTests m_testWhat m_testSign m_testThan m_lineAct m_lineNumber m_free m_newBerth m_newTests m_newWhat m_newSign m_newThan m_newAct m_newNumber m_has : Nat) (g1 g2 fst fkm ftk fli : Nat → Int32) (hg1 : ∀ j : Nat, j < 9 → g1 j = 1) (hg2 : ∀ j : Nat, j < 9 → g2 j = 1) (hst : fst 0 = 2) (hkm : ∀ j : Nat, j < 9 → fkm j = 1) (htk : ∀ j : Nat, j < 9 → ftk j = 1) (hP : va_P D vwCl [(x0, .inr (9, [.ref b0, .ref im, .ref tp, .ref rd])), (b0, .inr (0, [.int 0, .ref r0, .ref u0, .ref t0, .ref l0, .ref q0, .ref of, .ref sh, .ref nl, .ref fc])), (r0, .inr (4, [.int 2, .ref r1, .ref r2])), (r1, .inl (cy 0, 9, .inl g1)), (r2, .inl (cy 0, 9, .inl g2)), (u0, .inr (5, [.int 0, .ref u1, .ref u2, .ref u3])), (t0, .inr (7, [.int 0, .ref t1, .ref t2, .ref t3, .ref t4, .ref t5, .ref t6])), (l0, .inr (1, [.int 0, .ref l1, .ref l2, .ref l3, .ref l4, .ref l5, .ref l6, .ref l7])), (q0, .inr (2, [.int 0, .ref q1, .ref q2, .ref q3, .ref q4, .ref q5, .ref q6, .ref q7])), (m0, .inr (10, [.int 0, .ref m_tape, .int 0, .ref m_stops, .ref m_km, .ref m_takes, .ref m_officeAt, .ref m_shares, .ref m_berths, .ref m_owner, .ref m_lies, .ref m_tickets, .ref m_tDay, .ref m_tBerth, .ref m_tFrom, .ref m_tTo, .ref m_tOffice, .ref m_tBack, .ref m_letters, .ref m_lComes, .ref m_lAnswer, .ref m_lOffice, .ref m_lDay, .ref m_lFrom, .ref m_lTo, .ref m_lTicket, .ref m_now, .ref m_lines, .ref m_lineTests, .ref m_testWhat, .ref m_testSign, .ref m_testThan, .ref m_lineAct, .ref m_lineNumber, .ref m_free, .ref m_newBerth, .int 0, .int 0, .int 0, .int 0, .int 0, .long 0, .int 0, .int (-1), .int 0, .int 0, .ref m_newTests, .ref m_newWhat, .ref m_newSign, .ref m_newThan, .ref m_newAct, .ref m_newNumber, .ref m_has])), (m_stops, .inl (cy 0, 4, .inl fst)), (m_berths, .inl (cy 0, 240, .inl (fun _ => 0))), (m_tickets, .inl (cy 0, 4, .inl (fun _ => 0))), (m_letters, .inl (cy 0, 4, .inl (fun _ => 0))), (m_now, .inl (cy 0, 4, .inl (fun _ => 0))), (m_lines, .inl (cy 0, 4, .inl (fun _ => 0))), (m_takes, .inl (cy 0, 36, .inl ftk)), (m_km, .inl (cy 0, 36, .inl fkm))] H) (hD : va_D A [(x0, .inr (9, [.ref b0, .ref im, .ref tp, .ref rd])), (b0, .inr (0, [.int 0, .ref r0, .ref u0, .ref t0, .ref l0, .ref q0, .ref of, .ref sh, .ref nl, .ref fc])), (r0, .inr (4, [.int 2, .ref r1, .ref r2])), (r1, .inl (cy 0, 9, .inl g1)), (r2, .inl (cy 0, 9, .inl g2)), (u0, .inr (5, [.int 0, .ref u1, .ref u2, .ref u3])), (t0, .inr (7, [.int 0, .ref t1, .ref t2, .ref t3, .ref t4, .ref t5, .ref t6])), (l0, .inr (1, [.int 0, .ref l1, .ref l2, .ref l3, .ref l4, .ref l5, .ref l6, .ref l7])), (q0, .inr (2, [.int 0, .ref q1, .ref q2, .ref q3, .ref q4, .ref q5, .ref q6, .ref q7])), (m0, .inr (10, [.int 0, .ref m_tape, .int 0, .ref m_stops, .ref m_km, .ref m_takes, .ref m_officeAt, .ref m_shares, .ref m_berths, .ref m_owner, .ref m_lies, .ref m_tickets, .ref m_tDay, .ref m_tBerth, .ref m_tFrom, .ref m_tTo, .ref m_tOffice, .ref m_tBack, .ref m_letters, .ref m_lComes, .ref m_lAnswer, .ref m_lOffice, .ref m_lDay, .ref m_lFrom, .ref m_lTo, .ref m_lTicket, .ref m_now, .ref m_lines, .ref m_lineTests, .ref m_testWhat, .ref m_testSign, .ref m_testThan, .ref m_lineAct, .ref m_lineNumber, .ref m_free, .ref m_newBerth, .int 0, .int 0, .int 0, .int 0, .int 0, .long 0, .int 0, .int (-1), .int 0, .int 0, .ref m_newTests, .ref m_newWhat, .ref m_newSign, .ref m_newThan, .ref m_newAct, .ref m_newNumber, .ref m_has])), (m_stops, .inl (cy 0, 4, .inl fst)), (m_berths, .inl (cy 0, 240, .inl (fun _ => 0))), (m_tickets, .inl (cy 0, 4, .inl (fun _ => 0))), (m_letters, .inl (cy 0, 4, .inl (fun _ => 0))), (m_now, .inl (cy 0, 4, .inl (fun _ => 0))), (m_lines, .inl (cy 0, 4, .inl (fun _ => 0))), (m_takes, .inl (cy 0, 36, .inl ftk)), (m_km, .inl (cy 0, 36, .inl fkm))]) (hS : va_S A s.heap H locs) (ls : Array Slot) (hl : lv_has ls 4 [(3, .int 0), (2, .ref m0), (1, .ref x0), (0, .ref b)]) : W p l e room_1 s m #[Value.ref b] below meth c H locs 94 42452 (lw_Z below #[Value.ref b] s) (F0 m 878 ls []) := by
  obtain ⟨hx, hb, hr, hml, hown, hts0, hX, hbl, hlocks, hgv⟩ := id C0
  have hown : s.vm.findClass RL = some m.cls := hown
  have hts : ∀ w ∈ wsL_law, w.before #[Value.ref b] s = true := fun w h => hts0 w (wsL_law_in w h)
  have hbA : ¬ A b := fun h => absurd (hAA b h) (Nat.not_le.mpr hbl)
  obtain ⟨v1, ev1⟩ : ∃ v : Int32, v = xs (1 : Int32).toNatClampNeg := ⟨_, rfl⟩
  obtain ⟨v2, ev2⟩ : ∃ v : Int32, v = xs (2 : Int32).toNatClampNeg := ⟨_, rfl⟩
  obtain ⟨v3, ev3⟩ : ∃ v : Int32, v = xs (3 : Int32).toNatClampNeg := ⟨_, rfl⟩
  obtain ⟨v4, ev4⟩ : ∃ v : Int32, v = xs (4 : Int32).toNatClampNeg := ⟨_, rfl⟩
  obtain ⟨v5, ev5⟩ : ∃ v : Int32, v = xs (5 : Int32).toNatClampNeg := ⟨_, rfl⟩
  have w_0 := hts0 (.instanceMethod yX9_count) (List.mem_of_getElem? (i := 831) (by decide +kernel))
  have w_1 := hts0 (.instanceMethod yX10_count) (List.mem_of_getElem? (i := 1259) (by decide +kernel))
  refine lv_aload_n hx hb dL_law_878 rfl (lv_at hl 2 rfl) ?_
  refine lv_aload_n hx hb dL_law_879 rfl (lv_at hl 3 rfl) ?_
  refine lv_iload_n hx hb dL_law_880 rfl (lv_at hl 0 rfl) ?_
  refine lv_iconst (v := 1) hx hb dL_law_881 (by decide) ?_
  refine lv_iadd hx hb dL_law_882 ?_
  refine lv_topi (fun x882 ex882 => ?_)
  obtain rfl : x882 = 1 := ex882.trans (by decide)
  refine va_sld hx hb hX hbl hbA hS (q_in (a := 1) (by decide) (by decide) (by decide)) dL_law_883 ?_
  refine lv_topi (fun x883 ex883 => ?_)
  obtain rfl : v1 = x883 := ev1.trans ex883.symm
  refine k_i (va_runV (As := [.int v1]) (rest := []) ⟨hx, hb, hml, hown, hts⟩ (c_X9_count l D cy x0 b0 im tp rd r0 u0 t0 l0 q0 of sh nl fc r1 r2 u1 u2 u3 t1 t2 t3 t4 t5 t6 l1 l2 l3 l4 l5 l6 l7 q1 q2 q3 q4 q5 q6 q7 g1 g2 v1 H.size hg1 hg2) (cwV 1 hts gL_law_X9_count rfl rfl rfl (by decide +kernel) ⟨Nat.le_of_ble_eq_true rfl, Nat.le_of_ble_eq_true rfl⟩) (cp_v hK hN hP hD [0, 1, 2, 3, 4, 5, 6, 7, 8] rfl (by decide) (ci := 9) rfl rfl rfl) rfl rfl hl.1 rfl (lv_room (Nat.le_of_ble_eq_true rfl)) dL_law_884 ⟨Nat.le_of_ble_eq_true rfl, Nat.le_of_ble_eq_true rfl⟩) hP hD hS hA [0, 1, 2, 3, 4, 5, 6, 7, 8] [9, 10, 11, 12, 13, 14, 15, 16, 17] (wr := [(m0, .inr (10, [.int 0, .ref m_tape, .int 0, .ref m_stops, .ref m_km, .ref m_takes, .ref m_officeAt, .ref m_shares, .ref m_berths, .ref m_owner, .ref m_lies, .ref m_tickets, .ref m_tDay, .ref m_tBerth, .ref m_tFrom, .ref m_tTo, .ref m_tOffice, .ref m_tBack, .ref m_letters, .ref m_lComes, .ref m_lAnswer, .ref m_lOffice, .ref m_lDay, .ref m_lFrom, .ref m_lTo, .ref m_lTicket, .ref m_now, .ref m_lines, .ref m_lineTests, .ref m_testWhat, .ref m_testSign, .ref m_testThan, .ref m_lineAct, .ref m_lineNumber, .ref m_free, .ref m_newBerth, .int 0, .int 0, .int 0, .int 0, .int 0, .long 0, .int 0, .int (-1), .int 0, .int 0, .ref m_newTests, .ref m_newWhat, .ref m_newSign, .ref m_newThan, .ref m_newAct, .ref m_newNumber, .ref m_has])), (m_stops, .inl (cy 0, 4, .inl fst)), (m_berths, .inl (cy 0, 240, .inl (fun _ => 0))), (m_tickets, .inl (cy 0, 4, .inl (fun _ => 0))), (m_letters, .inl (cy 0, 4, .inl (fun _ => 0))), (m_now, .inl (cy 0, 4, .inl (fun _ => 0))), (m_lines, .inl (cy 0, 4, .inl (fun _ => 0))), (m_takes, .inl (cy 0, 36, .inl ftk)), (m_km, .inl (cy 0, 36, .inl fkm))]) rfl rfl (by decide) (by decide) (fun r884 u_r884 H locs hw884 hP hD hS => ?_)
  try dsimp only at hw884
  have hP : va_P D vwCl [(m0, .inr (10, [.int 0, .ref m_tape, .int 0, .ref m_stops, .ref m_km, .ref m_takes, .ref m_officeAt, .ref m_shares, .ref m_berths, .ref m_owner, .ref m_lies, .ref m_tickets, .ref m_tDay, .ref m_tBerth, .ref m_tFrom, .ref m_tTo, .ref m_tOffice, .ref m_tBack, .ref m_letters, .ref m_lComes, .ref m_lAnswer, .ref m_lOffice, .ref m_lDay, .ref m_lFrom, .ref m_lTo, .ref m_lTicket, .ref m_now, .ref m_lines, .ref m_lineTests, .ref m_testWhat, .ref m_testSign, .ref m_testThan, .ref m_lineAct, .ref m_lineNumber, .ref m_free, .ref m_newBerth, .int 0, .int 0, .int 0, .int 0, .int 0, .long 0, .int 0, .int (-1), .int 0, .int 0, .ref m_newTests, .ref m_newWhat, .ref m_newSign, .ref m_newThan, .ref m_newAct, .ref m_newNumber, .ref m_has])), (m_stops, .inl (cy 0, 4, .inl fst)), (m_berths, .inl (cy 0, 240, .inl (fun _ => 0))), (m_tickets, .inl (cy 0, 4, .inl (fun _ => 0))), (m_letters, .inl (cy 0, 4, .inl (fun _ => 0))), (m_now, .inl (cy 0, 4, .inl (fun _ => 0))), (m_lines, .inl (cy 0, 4, .inl (fun _ => 0))), (m_takes, .inl (cy 0, 36, .inl ftk)), (m_km, .inl (cy 0, 36, .inl fkm))] H := hP
  have hD : va_D A [(m0, .inr (10, [.int 0, .ref m_tape, .int 0, .ref m_stops, .ref m_km, .ref m_takes, .ref m_officeAt, .ref m_shares, .ref m_berths, .ref m_owner, .ref m_lies, .ref m_tickets, .ref m_tDay, .ref m_tBerth, .ref m_tFrom, .ref m_tTo, .ref m_tOffice, .ref m_tBack, .ref m_letters, .ref m_lComes, .ref m_lAnswer, .ref m_lOffice, .ref m_lDay, .ref m_lFrom, .ref m_lTo, .ref m_lTicket, .ref m_now, .ref m_lines, .ref m_lineTests, .ref m_testWhat, .ref m_testSign, .ref m_testThan, .ref m_lineAct, .ref m_lineNumber, .ref m_free, .ref m_newBerth, .int 0, .int 0, .int 0, .int 0, .int 0, .long 0, .int 0, .int (-1), .int 0, .int 0, .ref m_newTests, .ref m_newWhat, .ref m_newSign, .ref m_newThan, .ref m_newAct, .ref m_newNumber, .ref m_has])), (m_stops, .inl (cy 0, 4, .inl fst)), (m_berths, .inl (cy 0, 240, .inl (fun _ => 0))), (m_tickets, .inl (cy 0, 4, .inl (fun _ => 0))), (m_letters, .inl (cy 0, 4, .inl (fun _ => 0))), (m_now, .inl (cy 0, 4, .inl (fun _ => 0))), (m_lines, .inl (cy 0, 4, .inl (fun _ => 0))), (m_takes, .inl (cy 0, 36, .inl ftk)), (m_km, .inl (cy 0, 36, .inl fkm))] := hD
  refine lv_aload_n hx hb dL_law_887 rfl (lv_at hl 1 rfl) ?_
  refine lv_aload_n hx hb dL_law_888 rfl (lv_at hl 3 rfl) ?_
  refine lv_iload_n hx hb dL_law_889 rfl (lv_at hl 0 rfl) ?_
  refine lv_iconst (v := 1) hx hb dL_law_890 (by decide) ?_
  refine lv_iadd hx hb dL_law_891 ?_
  refine lv_topi (fun x891 ex891 => ?_)
  obtain rfl : x891 = 1 := ex891.trans (by decide)
  refine va_sld hx hb hX hbl hbA hS (q_in (a := 1) (by decide) (by decide) (by decide)) dL_law_892 ?_
  refine lv_topi (fun x892 ex892 => ?_)
  obtain rfl : v1 = x892 := ev1.trans ex892.symm
  refine k_i (va_runV (As := [.int v1]) (rest := [.int r884]) ⟨hx, hb, hml, hown, hts⟩ (c_X10_count l D cy m0 m_tape m_stops m_km m_takes m_officeAt m_shares m_berths m_owner m_lies m_tickets m_tDay m_tBerth m_tFrom m_tTo m_tOffice m_tBack m_letters m_lComes m_lAnswer m_lOffice m_lDay m_lFrom m_lTo m_lTicket m_now m_lines m_lineTests m_testWhat m_testSign m_testThan m_lineAct m_lineNumber m_free m_newBerth m_newTests m_newWhat m_newSign m_newThan m_newAct m_newNumber m_has fst ftk fkm v1 H.size hst hkm htk) (cwV 1 hts gL_law_X10_count rfl rfl rfl (by decide +kernel) ⟨Nat.le_of_ble_eq_true rfl, Nat.le_of_ble_eq_true rfl⟩) (cp_v hK hN hP hD [0, 1, 2, 3, 4, 5, 6, 7, 8] rfl (by decide) (ci := 10) rfl rfl rfl) rfl rfl hl.1 rfl (lv_room (Nat.le_of_ble_eq_true rfl)) dL_law_893 ⟨Nat.le_of_ble_eq_true rfl, Nat.le_of_ble_eq_true rfl⟩) hP hD hS hA [0, 1, 2, 3, 4, 5, 6, 7, 8] [] (wr := []) rfl rfl (by decide) (by decide) (fun r893 u_r893 H locs hw893 hP hD hS => ?_)
  try dsimp only at hw893
  have hP : va_P D vwCl [] H := hP
  have hD : va_D A [] := hD
  refine lv_icmp_eq (tgt := 947) hx hb dL_law_896 (by decide) (fun c896 => ?_) (fun c896 => ?_)
  · skip
    have fc896 := q_eq (a := r884.toInt) (b := r893.toInt) c896 rfl rfl
    exact law_tail C0 hA hAA (by decide) (by decide) hS ls (lv_sub hl [0, 3] rfl)
  · skip
    have fc896 := q_ne (a := r884.toInt) (b := r893.toInt) c896 rfl rfl
    exfalso; omega
set_option maxHeartbeats 4000000 in
set_option maxRecDepth 100000 in
theorem law_22 {p : Program} {e : Env} {s : State} {m : MethodId} {below : List Frame} {meth : Method} {c : Code} {l : Launch} {b : Nat} {xs : Nat → Int32} {A : Nat → Prop} {H : Heap} {locs : List Loc} {D : va_G} {cy : Nat → ClassId} (C0 : lw_At p s m meth c b 6 xs) (hA : ∀ q : Nat, s.heap.size ≤ q → A q) (hAA : ∀ q : Nat, A q → s.heap.size ≤ q) (hK : va_K D vwCl (tyL cy) s) (hN : NW s) (x0 b0 im tp rd r0 u0 t0 l0 q0 of sh nl fc r1 r2 u1 u2 u3 t1 t2 t3 t4 t5 t6 l1 l2 l3 l4 l5 l6 l7 q1 q2 q3 q4 q5 q6 q7 m0 m_tape m_stops m_km m_takes m_officeAt m_shares m_berths m_owner m_lies m_tickets m_tDay m_tBerth m_tFrom m_tTo m_tOffice m_tBack m_letters m_lComes m_lAnswer m_lOffice m_lDay m_lFrom m_lTo m_lTicket m_now m_lines m_lineTests m_testWhat m_testSign m_testThan m_lineAct m_lineNumber m_free m_newBerth m_newTests m_newWhat m_newSign m_newThan m_newAct m_newNumber m_has : Nat) (g1 g2 fst fkm ftk fli : Nat → Int32) (hg1 : ∀ j : Nat, j < 9 → g1 j = 1) (hg2 : ∀ j : Nat, j < 9 → g2 j = 1) (hst : fst 0 = 2) (hkm : ∀ j : Nat, j < 9 → fkm j = 1) (htk : ∀ j : Nat, j < 9 → ftk j = 1) (hP : va_P D vwCl [(x0, .inr (9, [.ref b0, .ref im, .ref tp, .ref rd])), (im, .inl (cy 3, 3, .inr (.inr (.inr (.inr (fun _ => none)))))), (b0, .inr (0, [.int 0, .ref r0, .ref u0, .ref t0, .ref l0, .ref q0, .ref of, .ref sh, .ref nl, .ref fc])), (r0, .inr (4, [.int 2, .ref r1, .ref r2])), (r1, .inl (cy 0, 9, .inl g1)), (r2, .inl (cy 0, 9, .inl g2)), (u0, .inr (5, [.int 0, .ref u1, .ref u2, .ref u3])), (u1, .inl (cy 0, 60, .inl (fun _ => 0))), (u2, .inl (cy 0, 600, .inl (fun _ => 0))), (u3, .inl (cy 0, 600, .inl (fun _ => 0))), (t0, .inr (7, [.int 0, .ref t1, .ref t2, .ref t3, .ref t4, .ref t5, .ref t6])), (t1, .inl (cy 0, 300, .inl (fun _ => 0))), (t2, .inl (cy 0, 300, .inl (fun _ => 0))), (t3, .inl (cy 0, 300, .inl (fun _ => 0))), (t4, .inl (cy 0, 300, .inl (fun _ => 0))), (t5, .inl (cy 0, 300, .inl (fun _ => 0))), (t6, .inl (cy 0, 300, .inl (fun _ => 0))), (l0, .inr (1, [.int 0, .ref l1, .ref l2, .ref l3, .ref l4, .ref l5, .ref l6, .ref l7])), (l1, .inl (cy 0, 100, .inl (fun _ => 0))), (l2, .inl (cy 0, 100, .inl (fun _ => 0))), (l3, .inl (cy 0, 100, .inl (fun _ => 0))), (l4, .inl (cy 0, 100, .inl (fun _ => 0))), (l5, .inl (cy 0, 100, .inl (fun _ => 0))), (l6, .inl (cy 0, 100, .inl (fun _ => 0))), (l7, .inl (cy 0, 100, .inl (fun _ => 0))), (q0, .inr (2, [.int 0, .ref q1, .ref q2, .ref q3, .ref q4, .ref q5, .ref q6, .ref q7])), (q1, .inl (cy 0, 16, .inl (fun _ => 0))), (q2, .inl (cy 0, 16, .inl (fun _ => 0))), (q3, .inl (cy 0, 16, .inl (fun _ => 0))), (q4, .inl (cy 0, 64, .inl (fun _ => 0))), (q5, .inl (cy 0, 64, .inl (fun _ => 0))), (q6, .inl (cy 0, 64, .inl (fun _ => 0))), (q7, .inl (cy 0, 64, .inl (fun _ => 0))), (of, .inl (cy 0, 6, .inl (fun _ => 0))), (sh, .inl (cy 0, 10, .inl (fun _ => 0))), (nl, .inl (cy 0, 10, .inl (fun _ => 0))), (fc, .inl (cy 0, 5, .inl (fun _ => 0))), (m0, .inr (10, [.int 0, .ref m_tape, .int 0, .ref m_stops, .ref m_km, .ref m_takes, .ref m_officeAt, .ref m_shares, .ref m_berths, .ref m_owner, .ref m_lies, .ref m_tickets, .ref m_tDay, .ref m_tBerth, .ref m_tFrom, .ref m_tTo, .ref m_tOffice, .ref m_tBack, .ref m_letters, .ref m_lComes, .ref m_lAnswer, .ref m_lOffice, .ref m_lDay, .ref m_lFrom, .ref m_lTo, .ref m_lTicket, .ref m_now, .ref m_lines, .ref m_lineTests, .ref m_testWhat, .ref m_testSign, .ref m_testThan, .ref m_lineAct, .ref m_lineNumber, .ref m_free, .ref m_newBerth, .int 0, .int 0, .int 0, .int 0, .int 0, .long 0, .int 0, .int (-1), .int 0, .int 0, .ref m_newTests, .ref m_newWhat, .ref m_newSign, .ref m_newThan, .ref m_newAct, .ref m_newNumber, .ref m_has])), (m_stops, .inl (cy 0, 4, .inl fst)), (m_km, .inl (cy 0, 36, .inl fkm)), (m_takes, .inl (cy 0, 36, .inl ftk)), (m_officeAt, .inl (cy 0, 24, .inl (fun _ => 0))), (m_shares, .inl (cy 0, 40, .inl (fun _ => 0))), (m_berths, .inl (cy 0, 240, .inl (fun _ => 0))), (m_owner, .inl (cy 0, 2400, .inl (fun _ => 0))), (m_lies, .inl (cy 0, 21600, .inl fli)), (m_tickets, .inl (cy 0, 4, .inl (fun _ => 0))), (m_tDay, .inl (cy 0, 1200, .inl (fun _ => 0))), (m_tBerth, .inl (cy 0, 1200, .inl (fun _ => 0))), (m_tFrom, .inl (cy 0, 1200, .inl (fun _ => 0))), (m_tTo, .inl (cy 0, 1200, .inl (fun _ => 0))), (m_tOffice, .inl (cy 0, 1200, .inl (fun _ => 0))), (m_tBack, .inl (cy 0, 1200, .inl (fun _ => 0))), (m_letters, .inl (cy 0, 4, .inl (fun _ => 0))), (m_lComes, .inl (cy 0, 400, .inl (fun _ => 0))), (m_lAnswer, .inl (cy 0, 400, .inl (fun _ => 0))), (m_lOffice, .inl (cy 0, 400, .inl (fun _ => 0))), (m_lDay, .inl (cy 0, 400, .inl (fun _ => 0))), (m_lFrom, .inl (cy 0, 400, .inl (fun _ => 0))), (m_lTo, .inl (cy 0, 400, .inl (fun _ => 0))), (m_lTicket, .inl (cy 0, 400, .inl (fun _ => 0))), (m_now, .inl (cy 0, 4, .inl (fun _ => 0))), (m_lines, .inl (cy 0, 4, .inl (fun _ => 0))), (m_lineTests, .inl (cy 0, 64, .inl (fun _ => 0))), (m_testWhat, .inl (cy 0, 256, .inl (fun _ => 0))), (m_testSign, .inl (cy 0, 256, .inl (fun _ => 0))), (m_testThan, .inl (cy 0, 256, .inl (fun _ => 0))), (m_lineAct, .inl (cy 0, 64, .inl (fun _ => 0))), (m_lineNumber, .inl (cy 0, 64, .inl (fun _ => 0))), (m_has, .inl (cy 2, 3, .inl (fun _ => 0)))] H) (hD : va_D A [(x0, .inr (9, [.ref b0, .ref im, .ref tp, .ref rd])), (im, .inl (cy 3, 3, .inr (.inr (.inr (.inr (fun _ => none)))))), (b0, .inr (0, [.int 0, .ref r0, .ref u0, .ref t0, .ref l0, .ref q0, .ref of, .ref sh, .ref nl, .ref fc])), (r0, .inr (4, [.int 2, .ref r1, .ref r2])), (r1, .inl (cy 0, 9, .inl g1)), (r2, .inl (cy 0, 9, .inl g2)), (u0, .inr (5, [.int 0, .ref u1, .ref u2, .ref u3])), (u1, .inl (cy 0, 60, .inl (fun _ => 0))), (u2, .inl (cy 0, 600, .inl (fun _ => 0))), (u3, .inl (cy 0, 600, .inl (fun _ => 0))), (t0, .inr (7, [.int 0, .ref t1, .ref t2, .ref t3, .ref t4, .ref t5, .ref t6])), (t1, .inl (cy 0, 300, .inl (fun _ => 0))), (t2, .inl (cy 0, 300, .inl (fun _ => 0))), (t3, .inl (cy 0, 300, .inl (fun _ => 0))), (t4, .inl (cy 0, 300, .inl (fun _ => 0))), (t5, .inl (cy 0, 300, .inl (fun _ => 0))), (t6, .inl (cy 0, 300, .inl (fun _ => 0))), (l0, .inr (1, [.int 0, .ref l1, .ref l2, .ref l3, .ref l4, .ref l5, .ref l6, .ref l7])), (l1, .inl (cy 0, 100, .inl (fun _ => 0))), (l2, .inl (cy 0, 100, .inl (fun _ => 0))), (l3, .inl (cy 0, 100, .inl (fun _ => 0))), (l4, .inl (cy 0, 100, .inl (fun _ => 0))), (l5, .inl (cy 0, 100, .inl (fun _ => 0))), (l6, .inl (cy 0, 100, .inl (fun _ => 0))), (l7, .inl (cy 0, 100, .inl (fun _ => 0))), (q0, .inr (2, [.int 0, .ref q1, .ref q2, .ref q3, .ref q4, .ref q5, .ref q6, .ref q7])), (q1, .inl (cy 0, 16, .inl (fun _ => 0))), (q2, .inl (cy 0, 16, .inl (fun _ => 0))), (q3, .inl (cy 0, 16, .inl (fun _ => 0))), (q4, .inl (cy 0, 64, .inl (fun _ => 0))), (q5, .inl (cy 0, 64, .inl (fun _ => 0))), (q6, .inl (cy 0, 64, .inl (fun _ => 0))), (q7, .inl (cy 0, 64, .inl (fun _ => 0))), (of, .inl (cy 0, 6, .inl (fun _ => 0))), (sh, .inl (cy 0, 10, .inl (fun _ => 0))), (nl, .inl (cy 0, 10, .inl (fun _ => 0))), (fc, .inl (cy 0, 5, .inl (fun _ => 0))), (m0, .inr (10, [.int 0, .ref m_tape, .int 0, .ref m_stops, .ref m_km, .ref m_takes, .ref m_officeAt, .ref m_shares, .ref m_berths, .ref m_owner, .ref m_lies, .ref m_tickets, .ref m_tDay, .ref m_tBerth, .ref m_tFrom, .ref m_tTo, .ref m_tOffice, .ref m_tBack, .ref m_letters, .ref m_lComes, .ref m_lAnswer, .ref m_lOffice, .ref m_lDay, .ref m_lFrom, .ref m_lTo, .ref m_lTicket, .ref m_now, .ref m_lines, .ref m_lineTests, .ref m_testWhat, .ref m_testSign, .ref m_testThan, .ref m_lineAct, .ref m_lineNumber, .ref m_free, .ref m_newBerth, .int 0, .int 0, .int 0, .int 0, .int 0, .long 0, .int 0, .int (-1), .int 0, .int 0, .ref m_newTests, .ref m_newWhat, .ref m_newSign, .ref m_newThan, .ref m_newAct, .ref m_newNumber, .ref m_has])), (m_stops, .inl (cy 0, 4, .inl fst)), (m_km, .inl (cy 0, 36, .inl fkm)), (m_takes, .inl (cy 0, 36, .inl ftk)), (m_officeAt, .inl (cy 0, 24, .inl (fun _ => 0))), (m_shares, .inl (cy 0, 40, .inl (fun _ => 0))), (m_berths, .inl (cy 0, 240, .inl (fun _ => 0))), (m_owner, .inl (cy 0, 2400, .inl (fun _ => 0))), (m_lies, .inl (cy 0, 21600, .inl fli)), (m_tickets, .inl (cy 0, 4, .inl (fun _ => 0))), (m_tDay, .inl (cy 0, 1200, .inl (fun _ => 0))), (m_tBerth, .inl (cy 0, 1200, .inl (fun _ => 0))), (m_tFrom, .inl (cy 0, 1200, .inl (fun _ => 0))), (m_tTo, .inl (cy 0, 1200, .inl (fun _ => 0))), (m_tOffice, .inl (cy 0, 1200, .inl (fun _ => 0))), (m_tBack, .inl (cy 0, 1200, .inl (fun _ => 0))), (m_letters, .inl (cy 0, 4, .inl (fun _ => 0))), (m_lComes, .inl (cy 0, 400, .inl (fun _ => 0))), (m_lAnswer, .inl (cy 0, 400, .inl (fun _ => 0))), (m_lOffice, .inl (cy 0, 400, .inl (fun _ => 0))), (m_lDay, .inl (cy 0, 400, .inl (fun _ => 0))), (m_lFrom, .inl (cy 0, 400, .inl (fun _ => 0))), (m_lTo, .inl (cy 0, 400, .inl (fun _ => 0))), (m_lTicket, .inl (cy 0, 400, .inl (fun _ => 0))), (m_now, .inl (cy 0, 4, .inl (fun _ => 0))), (m_lines, .inl (cy 0, 4, .inl (fun _ => 0))), (m_lineTests, .inl (cy 0, 64, .inl (fun _ => 0))), (m_testWhat, .inl (cy 0, 256, .inl (fun _ => 0))), (m_testSign, .inl (cy 0, 256, .inl (fun _ => 0))), (m_testThan, .inl (cy 0, 256, .inl (fun _ => 0))), (m_lineAct, .inl (cy 0, 64, .inl (fun _ => 0))), (m_lineNumber, .inl (cy 0, 64, .inl (fun _ => 0))), (m_has, .inl (cy 2, 3, .inl (fun _ => 0)))]) (hS : va_S A s.heap H locs) (ls : Array Slot) (hl : lv_has ls 4 [(3, .int 0), (2, .ref m0), (1, .ref x0), (0, .ref b)]) : W p l e room_1 s m #[Value.ref b] below meth c H locs 94 42452 (lw_Z below #[Value.ref b] s) (F0 m 901 ls []) := by
  obtain ⟨hx, hb, hr, hml, hown, hts0, hX, hbl, hlocks, hgv⟩ := id C0
  have hown : s.vm.findClass RL = some m.cls := hown
  have hts : ∀ w ∈ wsL_law, w.before #[Value.ref b] s = true := fun w h => hts0 w (wsL_law_in w h)
  have hbA : ¬ A b := fun h => absurd (hAA b h) (Nat.not_le.mpr hbl)
  obtain ⟨v1, ev1⟩ : ∃ v : Int32, v = xs (1 : Int32).toNatClampNeg := ⟨_, rfl⟩
  obtain ⟨v2, ev2⟩ : ∃ v : Int32, v = xs (2 : Int32).toNatClampNeg := ⟨_, rfl⟩
  obtain ⟨v3, ev3⟩ : ∃ v : Int32, v = xs (3 : Int32).toNatClampNeg := ⟨_, rfl⟩
  obtain ⟨v4, ev4⟩ : ∃ v : Int32, v = xs (4 : Int32).toNatClampNeg := ⟨_, rfl⟩
  obtain ⟨v5, ev5⟩ : ∃ v : Int32, v = xs (5 : Int32).toNatClampNeg := ⟨_, rfl⟩
  have w_0 := hts0 (.instanceMethod yX9_image) (List.mem_of_getElem? (i := 839) (by decide +kernel))
  have w_1 := hts0 (.instanceMethod yX10_image) (List.mem_of_getElem? (i := 1263) (by decide +kernel))
  refine lv_aload_n hx hb dL_law_901 rfl (lv_at hl 2 rfl) ?_
  refine lv_aload_n hx hb dL_law_902 rfl (lv_at hl 3 rfl) ?_
  refine lv_iload_n hx hb dL_law_903 rfl (lv_at hl 0 rfl) ?_
  refine lv_iconst (v := 1) hx hb dL_law_904 (by decide) ?_
  refine lv_iadd hx hb dL_law_905 ?_
  refine lv_topi (fun x905 ex905 => ?_)
  obtain rfl : x905 = 1 := ex905.trans (by decide)
  refine va_sld hx hb hX hbl hbA hS (q_in (a := 1) (by decide) (by decide) (by decide)) dL_law_906 ?_
  refine lv_topi (fun x906 ex906 => ?_)
  obtain rfl : v1 = x906 := ev1.trans ex906.symm
  refine k_i (va_runV (As := [.int v1]) (rest := []) ⟨hx, hb, hml, hown, hts⟩ (c_X9_image l D cy x0 b0 im tp rd r0 u0 t0 l0 q0 of sh nl fc r1 r2 u1 u2 u3 t1 t2 t3 t4 t5 t6 l1 l2 l3 l4 l5 l6 l7 q1 q2 q3 q4 q5 q6 q7 g1 g2 v1 H.size ) (cwV 1 hts gL_law_X9_image rfl rfl rfl (by decide +kernel) ⟨Nat.le_of_ble_eq_true rfl, Nat.le_of_ble_eq_true rfl⟩) (cp_v hK hN hP hD [0, 1, 2, 3, 4, 5, 6, 7, 8, 9, 10, 11, 12, 13, 14, 15, 16, 17, 18, 19, 20, 21, 22, 23, 24, 25, 26, 27, 28, 29, 30, 31, 32, 33, 34, 35, 36] rfl (by decide) (ci := 9) rfl rfl rfl) rfl rfl hl.1 rfl (lv_room (Nat.le_of_ble_eq_true rfl)) dL_law_907 ⟨Nat.le_of_ble_eq_true rfl, Nat.le_of_ble_eq_true rfl⟩) hP hD hS hA [0, 1, 2, 3, 4, 5, 6, 7, 8, 9, 10, 11, 12, 13, 14, 15, 16, 17, 18, 19, 20, 21, 22, 23, 24, 25, 26, 27, 28, 29, 30, 31, 32, 33, 34, 35, 36] [37, 38, 39, 40, 41, 42, 43, 44, 45, 46, 47, 48, 49, 50, 51, 52, 53, 54, 55, 56, 57, 58, 59, 60, 61, 62, 63, 64, 65, 66, 67, 68, 69] (wr := [(m0, .inr (10, [.int 0, .ref m_tape, .int 0, .ref m_stops, .ref m_km, .ref m_takes, .ref m_officeAt, .ref m_shares, .ref m_berths, .ref m_owner, .ref m_lies, .ref m_tickets, .ref m_tDay, .ref m_tBerth, .ref m_tFrom, .ref m_tTo, .ref m_tOffice, .ref m_tBack, .ref m_letters, .ref m_lComes, .ref m_lAnswer, .ref m_lOffice, .ref m_lDay, .ref m_lFrom, .ref m_lTo, .ref m_lTicket, .ref m_now, .ref m_lines, .ref m_lineTests, .ref m_testWhat, .ref m_testSign, .ref m_testThan, .ref m_lineAct, .ref m_lineNumber, .ref m_free, .ref m_newBerth, .int 0, .int 0, .int 0, .int 0, .int 0, .long 0, .int 0, .int (-1), .int 0, .int 0, .ref m_newTests, .ref m_newWhat, .ref m_newSign, .ref m_newThan, .ref m_newAct, .ref m_newNumber, .ref m_has])), (m_stops, .inl (cy 0, 4, .inl fst)), (m_km, .inl (cy 0, 36, .inl fkm)), (m_takes, .inl (cy 0, 36, .inl ftk)), (m_officeAt, .inl (cy 0, 24, .inl (fun _ => 0))), (m_shares, .inl (cy 0, 40, .inl (fun _ => 0))), (m_berths, .inl (cy 0, 240, .inl (fun _ => 0))), (m_owner, .inl (cy 0, 2400, .inl (fun _ => 0))), (m_lies, .inl (cy 0, 21600, .inl fli)), (m_tickets, .inl (cy 0, 4, .inl (fun _ => 0))), (m_tDay, .inl (cy 0, 1200, .inl (fun _ => 0))), (m_tBerth, .inl (cy 0, 1200, .inl (fun _ => 0))), (m_tFrom, .inl (cy 0, 1200, .inl (fun _ => 0))), (m_tTo, .inl (cy 0, 1200, .inl (fun _ => 0))), (m_tOffice, .inl (cy 0, 1200, .inl (fun _ => 0))), (m_tBack, .inl (cy 0, 1200, .inl (fun _ => 0))), (m_letters, .inl (cy 0, 4, .inl (fun _ => 0))), (m_lComes, .inl (cy 0, 400, .inl (fun _ => 0))), (m_lAnswer, .inl (cy 0, 400, .inl (fun _ => 0))), (m_lOffice, .inl (cy 0, 400, .inl (fun _ => 0))), (m_lDay, .inl (cy 0, 400, .inl (fun _ => 0))), (m_lFrom, .inl (cy 0, 400, .inl (fun _ => 0))), (m_lTo, .inl (cy 0, 400, .inl (fun _ => 0))), (m_lTicket, .inl (cy 0, 400, .inl (fun _ => 0))), (m_now, .inl (cy 0, 4, .inl (fun _ => 0))), (m_lines, .inl (cy 0, 4, .inl (fun _ => 0))), (m_lineTests, .inl (cy 0, 64, .inl (fun _ => 0))), (m_testWhat, .inl (cy 0, 256, .inl (fun _ => 0))), (m_testSign, .inl (cy 0, 256, .inl (fun _ => 0))), (m_testThan, .inl (cy 0, 256, .inl (fun _ => 0))), (m_lineAct, .inl (cy 0, 64, .inl (fun _ => 0))), (m_lineNumber, .inl (cy 0, 64, .inl (fun _ => 0))), (m_has, .inl (cy 2, 3, .inl (fun _ => 0)))]) rfl rfl (by decide) (by decide) (fun r907 u_r907 H locs hw907 hP hD hS => ?_)
  try dsimp only at hw907
  have hP : va_P D vwCl [(m0, .inr (10, [.int 0, .ref m_tape, .int 0, .ref m_stops, .ref m_km, .ref m_takes, .ref m_officeAt, .ref m_shares, .ref m_berths, .ref m_owner, .ref m_lies, .ref m_tickets, .ref m_tDay, .ref m_tBerth, .ref m_tFrom, .ref m_tTo, .ref m_tOffice, .ref m_tBack, .ref m_letters, .ref m_lComes, .ref m_lAnswer, .ref m_lOffice, .ref m_lDay, .ref m_lFrom, .ref m_lTo, .ref m_lTicket, .ref m_now, .ref m_lines, .ref m_lineTests, .ref m_testWhat, .ref m_testSign, .ref m_testThan, .ref m_lineAct, .ref m_lineNumber, .ref m_free, .ref m_newBerth, .int 0, .int 0, .int 0, .int 0, .int 0, .long 0, .int 0, .int (-1), .int 0, .int 0, .ref m_newTests, .ref m_newWhat, .ref m_newSign, .ref m_newThan, .ref m_newAct, .ref m_newNumber, .ref m_has])), (m_stops, .inl (cy 0, 4, .inl fst)), (m_km, .inl (cy 0, 36, .inl fkm)), (m_takes, .inl (cy 0, 36, .inl ftk)), (m_officeAt, .inl (cy 0, 24, .inl (fun _ => 0))), (m_shares, .inl (cy 0, 40, .inl (fun _ => 0))), (m_berths, .inl (cy 0, 240, .inl (fun _ => 0))), (m_owner, .inl (cy 0, 2400, .inl (fun _ => 0))), (m_lies, .inl (cy 0, 21600, .inl fli)), (m_tickets, .inl (cy 0, 4, .inl (fun _ => 0))), (m_tDay, .inl (cy 0, 1200, .inl (fun _ => 0))), (m_tBerth, .inl (cy 0, 1200, .inl (fun _ => 0))), (m_tFrom, .inl (cy 0, 1200, .inl (fun _ => 0))), (m_tTo, .inl (cy 0, 1200, .inl (fun _ => 0))), (m_tOffice, .inl (cy 0, 1200, .inl (fun _ => 0))), (m_tBack, .inl (cy 0, 1200, .inl (fun _ => 0))), (m_letters, .inl (cy 0, 4, .inl (fun _ => 0))), (m_lComes, .inl (cy 0, 400, .inl (fun _ => 0))), (m_lAnswer, .inl (cy 0, 400, .inl (fun _ => 0))), (m_lOffice, .inl (cy 0, 400, .inl (fun _ => 0))), (m_lDay, .inl (cy 0, 400, .inl (fun _ => 0))), (m_lFrom, .inl (cy 0, 400, .inl (fun _ => 0))), (m_lTo, .inl (cy 0, 400, .inl (fun _ => 0))), (m_lTicket, .inl (cy 0, 400, .inl (fun _ => 0))), (m_now, .inl (cy 0, 4, .inl (fun _ => 0))), (m_lines, .inl (cy 0, 4, .inl (fun _ => 0))), (m_lineTests, .inl (cy 0, 64, .inl (fun _ => 0))), (m_testWhat, .inl (cy 0, 256, .inl (fun _ => 0))), (m_testSign, .inl (cy 0, 256, .inl (fun _ => 0))), (m_testThan, .inl (cy 0, 256, .inl (fun _ => 0))), (m_lineAct, .inl (cy 0, 64, .inl (fun _ => 0))), (m_lineNumber, .inl (cy 0, 64, .inl (fun _ => 0))), (m_has, .inl (cy 2, 3, .inl (fun _ => 0)))] H := hP
  have hD : va_D A [(m0, .inr (10, [.int 0, .ref m_tape, .int 0, .ref m_stops, .ref m_km, .ref m_takes, .ref m_officeAt, .ref m_shares, .ref m_berths, .ref m_owner, .ref m_lies, .ref m_tickets, .ref m_tDay, .ref m_tBerth, .ref m_tFrom, .ref m_tTo, .ref m_tOffice, .ref m_tBack, .ref m_letters, .ref m_lComes, .ref m_lAnswer, .ref m_lOffice, .ref m_lDay, .ref m_lFrom, .ref m_lTo, .ref m_lTicket, .ref m_now, .ref m_lines, .ref m_lineTests, .ref m_testWhat, .ref m_testSign, .ref m_testThan, .ref m_lineAct, .ref m_lineNumber, .ref m_free, .ref m_newBerth, .int 0, .int 0, .int 0, .int 0, .int 0, .long 0, .int 0, .int (-1), .int 0, .int 0, .ref m_newTests, .ref m_newWhat, .ref m_newSign, .ref m_newThan, .ref m_newAct, .ref m_newNumber, .ref m_has])), (m_stops, .inl (cy 0, 4, .inl fst)), (m_km, .inl (cy 0, 36, .inl fkm)), (m_takes, .inl (cy 0, 36, .inl ftk)), (m_officeAt, .inl (cy 0, 24, .inl (fun _ => 0))), (m_shares, .inl (cy 0, 40, .inl (fun _ => 0))), (m_berths, .inl (cy 0, 240, .inl (fun _ => 0))), (m_owner, .inl (cy 0, 2400, .inl (fun _ => 0))), (m_lies, .inl (cy 0, 21600, .inl fli)), (m_tickets, .inl (cy 0, 4, .inl (fun _ => 0))), (m_tDay, .inl (cy 0, 1200, .inl (fun _ => 0))), (m_tBerth, .inl (cy 0, 1200, .inl (fun _ => 0))), (m_tFrom, .inl (cy 0, 1200, .inl (fun _ => 0))), (m_tTo, .inl (cy 0, 1200, .inl (fun _ => 0))), (m_tOffice, .inl (cy 0, 1200, .inl (fun _ => 0))), (m_tBack, .inl (cy 0, 1200, .inl (fun _ => 0))), (m_letters, .inl (cy 0, 4, .inl (fun _ => 0))), (m_lComes, .inl (cy 0, 400, .inl (fun _ => 0))), (m_lAnswer, .inl (cy 0, 400, .inl (fun _ => 0))), (m_lOffice, .inl (cy 0, 400, .inl (fun _ => 0))), (m_lDay, .inl (cy 0, 400, .inl (fun _ => 0))), (m_lFrom, .inl (cy 0, 400, .inl (fun _ => 0))), (m_lTo, .inl (cy 0, 400, .inl (fun _ => 0))), (m_lTicket, .inl (cy 0, 400, .inl (fun _ => 0))), (m_now, .inl (cy 0, 4, .inl (fun _ => 0))), (m_lines, .inl (cy 0, 4, .inl (fun _ => 0))), (m_lineTests, .inl (cy 0, 64, .inl (fun _ => 0))), (m_testWhat, .inl (cy 0, 256, .inl (fun _ => 0))), (m_testSign, .inl (cy 0, 256, .inl (fun _ => 0))), (m_testThan, .inl (cy 0, 256, .inl (fun _ => 0))), (m_lineAct, .inl (cy 0, 64, .inl (fun _ => 0))), (m_lineNumber, .inl (cy 0, 64, .inl (fun _ => 0))), (m_has, .inl (cy 2, 3, .inl (fun _ => 0)))] := hD
  refine W.widen (k := 129) (n := 46605) (by omega) (by omega) ?_
  refine lv_aload_n hx hb dL_law_910 rfl (lv_at hl 1 rfl) ?_
  refine lv_aload_n hx hb dL_law_911 rfl (lv_at hl 3 rfl) ?_
  refine lv_iload_n hx hb dL_law_912 rfl (lv_at hl 0 rfl) ?_
  refine lv_iconst (v := 1) hx hb dL_law_913 (by decide) ?_
  refine lv_iadd hx hb dL_law_914 ?_
  refine lv_topi (fun x914 ex914 => ?_)
  obtain rfl : x914 = 1 := ex914.trans (by decide)
  refine va_sld hx hb hX hbl hbA hS (q_in (a := 1) (by decide) (by decide) (by decide)) dL_law_915 ?_
  refine lv_topi (fun x915 ex915 => ?_)
  obtain rfl : v1 = x915 := ev1.trans ex915.symm
  refine k_i (va_runV (As := [.int v1]) (rest := [.int r907]) ⟨hx, hb, hml, hown, hts⟩ (c_X10_image l D cy m0 m_tape m_stops m_km m_takes m_officeAt m_shares m_berths m_owner m_lies m_tickets m_tDay m_tBerth m_tFrom m_tTo m_tOffice m_tBack m_letters m_lComes m_lAnswer m_lOffice m_lDay m_lFrom m_lTo m_lTicket m_now m_lines m_lineTests m_testWhat m_testSign m_testThan m_lineAct m_lineNumber m_free m_newBerth m_newTests m_newWhat m_newSign m_newThan m_newAct m_newNumber m_has fst fkm ftk (fun _ => 0) (fun _ => 0) (fun _ => 0) (fun _ => 0) fli (fun _ => 0) (fun _ => 0) (fun _ => 0) (fun _ => 0) (fun _ => 0) (fun _ => 0) (fun _ => 0) (fun _ => 0) (fun _ => 0) (fun _ => 0) (fun _ => 0) (fun _ => 0) (fun _ => 0) (fun _ => 0) (fun _ => 0) (fun _ => 0) (fun _ => 0) (fun _ => 0) (fun _ => 0) (fun _ => 0) (fun _ => 0) (fun _ => 0) (fun _ => 0) v1 H.size ) (cwV 1 hts gL_law_X10_image rfl rfl rfl (by decide +kernel) ⟨Nat.le_of_ble_eq_true rfl, Nat.le_of_ble_eq_true rfl⟩) (cp_v hK hN hP hD [0, 1, 2, 3, 4, 5, 6, 7, 8, 9, 10, 11, 12, 13, 14, 15, 16, 17, 18, 19, 20, 21, 22, 23, 24, 25, 26, 27, 28, 29, 30, 31, 32] rfl (by decide) (ci := 10) rfl rfl rfl) rfl rfl hl.1 rfl (lv_room (Nat.le_of_ble_eq_true rfl)) dL_law_916 ⟨Nat.le_of_ble_eq_true rfl, Nat.le_of_ble_eq_true rfl⟩) hP hD hS hA [0, 1, 2, 3, 4, 5, 6, 7, 8, 9, 10, 11, 12, 13, 14, 15, 16, 17, 18, 19, 20, 21, 22, 23, 24, 25, 26, 27, 28, 29, 30, 31, 32] [] (wr := []) rfl rfl (by decide) (by decide) (fun r916 u_r916 H locs hw916 hP hD hS => ?_)
  try dsimp only at hw916
  have hP : va_P D vwCl [] H := hP
  have hD : va_D A [] := hD
  refine lv_icmp_eq (tgt := 947) hx hb dL_law_919 (by decide) (fun c919 => ?_) (fun c919 => ?_)
  · skip
    have fc919 := q_eq (a := r907.toInt) (b := r916.toInt) c919 rfl rfl
    exact law_tail C0 hA hAA (by decide) (by decide) hS ls (lv_sub hl [0, 3] rfl)
  · skip
    have fc919 := q_ne (a := r907.toInt) (b := r916.toInt) c919 rfl rfl
    exfalso; omega
set_option maxHeartbeats 4000000 in
set_option maxRecDepth 100000 in
theorem law_23 {p : Program} {e : Env} {s : State} {m : MethodId} {below : List Frame} {meth : Method} {c : Code} {l : Launch} {b : Nat} {xs : Nat → Int32} {A : Nat → Prop} {H : Heap} {locs : List Loc} {D : va_G} {cy : Nat → ClassId} (C0 : lw_At p s m meth c b 6 xs) (hA : ∀ q : Nat, s.heap.size ≤ q → A q) (hAA : ∀ q : Nat, A q → s.heap.size ≤ q) (hK : va_K D vwCl (tyL cy) s) (hN : NW s) (x0 b0 im tp rd m0 m_tape m_stops m_km m_takes m_officeAt m_shares m_berths m_owner m_lies m_tickets m_tDay m_tBerth m_tFrom m_tTo m_tOffice m_tBack m_letters m_lComes m_lAnswer m_lOffice m_lDay m_lFrom m_lTo m_lTicket m_now m_lines m_lineTests m_testWhat m_testSign m_testThan m_lineAct m_lineNumber m_free m_newBerth m_newTests m_newWhat m_newSign m_newThan m_newAct m_newNumber m_has : Nat) (g1 g2 fst fkm ftk fli : Nat → Int32) (hg1 : ∀ j : Nat, j < 9 → g1 j = 1) (hg2 : ∀ j : Nat, j < 9 → g2 j = 1) (hst : fst 0 = 2) (hkm : ∀ j : Nat, j < 9 → fkm j = 1) (htk : ∀ j : Nat, j < 9 → ftk j = 1) (hP : va_P D vwCl [(x0, .inr (9, [.ref b0, .ref im, .ref tp, .ref rd])), (im, .inl (cy 3, 3, .inr (.inr (.inr (.inr (fun _ => none)))))), (m0, .inr (10, [.int 0, .ref m_tape, .int 0, .ref m_stops, .ref m_km, .ref m_takes, .ref m_officeAt, .ref m_shares, .ref m_berths, .ref m_owner, .ref m_lies, .ref m_tickets, .ref m_tDay, .ref m_tBerth, .ref m_tFrom, .ref m_tTo, .ref m_tOffice, .ref m_tBack, .ref m_letters, .ref m_lComes, .ref m_lAnswer, .ref m_lOffice, .ref m_lDay, .ref m_lFrom, .ref m_lTo, .ref m_lTicket, .ref m_now, .ref m_lines, .ref m_lineTests, .ref m_testWhat, .ref m_testSign, .ref m_testThan, .ref m_lineAct, .ref m_lineNumber, .ref m_free, .ref m_newBerth, .int 0, .int 0, .int 0, .int 0, .int 0, .long 0, .int 0, .int (-1), .int 0, .int 0, .ref m_newTests, .ref m_newWhat, .ref m_newSign, .ref m_newThan, .ref m_newAct, .ref m_newNumber, .ref m_has])), (m_has, .inl (cy 2, 3, .inl (fun _ => 0)))] H) (hD : va_D A [(x0, .inr (9, [.ref b0, .ref im, .ref tp, .ref rd])), (im, .inl (cy 3, 3, .inr (.inr (.inr (.inr (fun _ => none)))))), (m0, .inr (10, [.int 0, .ref m_tape, .int 0, .ref m_stops, .ref m_km, .ref m_takes, .ref m_officeAt, .ref m_shares, .ref m_berths, .ref m_owner, .ref m_lies, .ref m_tickets, .ref m_tDay, .ref m_tBerth, .ref m_tFrom, .ref m_tTo, .ref m_tOffice, .ref m_tBack, .ref m_letters, .ref m_lComes, .ref m_lAnswer, .ref m_lOffice, .ref m_lDay, .ref m_lFrom, .ref m_lTo, .ref m_lTicket, .ref m_now, .ref m_lines, .ref m_lineTests, .ref m_testWhat, .ref m_testSign, .ref m_testThan, .ref m_lineAct, .ref m_lineNumber, .ref m_free, .ref m_newBerth, .int 0, .int 0, .int 0, .int 0, .int 0, .long 0, .int 0, .int (-1), .int 0, .int 0, .ref m_newTests, .ref m_newWhat, .ref m_newSign, .ref m_newThan, .ref m_newAct, .ref m_newNumber, .ref m_has])), (m_has, .inl (cy 2, 3, .inl (fun _ => 0)))]) (hS : va_S A s.heap H locs) (ls : Array Slot) (hl : lv_has ls 4 [(3, .int 0), (2, .ref m0), (1, .ref x0), (0, .ref b)]) : W p l e room_1 s m #[Value.ref b] below meth c H locs 94 42452 (lw_Z below #[Value.ref b] s) (F0 m 924 ls []) := by
  obtain ⟨hx, hb, hr, hml, hown, hts0, hX, hbl, hlocks, hgv⟩ := id C0
  have hown : s.vm.findClass RL = some m.cls := hown
  have hts : ∀ w ∈ wsL_law, w.before #[Value.ref b] s = true := fun w h => hts0 w (wsL_law_in w h)
  have hbA : ¬ A b := fun h => absurd (hAA b h) (Nat.not_le.mpr hbl)
  obtain ⟨v1, ev1⟩ : ∃ v : Int32, v = xs (1 : Int32).toNatClampNeg := ⟨_, rfl⟩
  obtain ⟨v2, ev2⟩ : ∃ v : Int32, v = xs (2 : Int32).toNatClampNeg := ⟨_, rfl⟩
  obtain ⟨v3, ev3⟩ : ∃ v : Int32, v = xs (3 : Int32).toNatClampNeg := ⟨_, rfl⟩
  obtain ⟨v4, ev4⟩ : ∃ v : Int32, v = xs (4 : Int32).toNatClampNeg := ⟨_, rfl⟩
  obtain ⟨v5, ev5⟩ : ∃ v : Int32, v = xs (5 : Int32).toNatClampNeg := ⟨_, rfl⟩
  have w_0 := hts0 (.instanceMethod yX9_again) (List.mem_of_getElem? (i := 868) (by decide +kernel))
  have w_1 := hts0 (.instanceMethod yX10_again) (List.mem_of_getElem? (i := 1274) (by decide +kernel))
  refine lv_aload_n hx hb dL_law_924 rfl (lv_at hl 2 rfl) ?_
  refine lv_aload_n hx hb dL_law_925 rfl (lv_at hl 3 rfl) ?_
  refine lv_iload_n hx hb dL_law_926 rfl (lv_at hl 0 rfl) ?_
  refine lv_iconst (v := 1) hx hb dL_law_927 (by decide) ?_
  refine lv_iadd hx hb dL_law_928 ?_
  refine lv_topi (fun x928 ex928 => ?_)
  obtain rfl : x928 = 1 := ex928.trans (by decide)
  refine va_sld hx hb hX hbl hbA hS (q_in (a := 1) (by decide) (by decide) (by decide)) dL_law_929 ?_
  refine lv_topi (fun x929 ex929 => ?_)
  obtain rfl : v1 = x929 := ev1.trans ex929.symm
  refine k_i (va_runV (As := [.int v1]) (rest := []) ⟨hx, hb, hml, hown, hts⟩ (c_X9_again l D cy x0 b0 im tp rd v1 H.size ) (cwV 1 hts gL_law_X9_again rfl rfl rfl (by decide +kernel) ⟨Nat.le_of_ble_eq_true rfl, Nat.le_of_ble_eq_true rfl⟩) (cp_v hK hN hP hD [0, 1] rfl (by decide) (ci := 9) rfl rfl rfl) rfl rfl hl.1 rfl (lv_room (Nat.le_of_ble_eq_true rfl)) dL_law_930 ⟨Nat.le_of_ble_eq_true rfl, Nat.le_of_ble_eq_true rfl⟩) hP hD hS hA [0, 1] [2, 3] (wr := [(m0, .inr (10, [.int 0, .ref m_tape, .int 0, .ref m_stops, .ref m_km, .ref m_takes, .ref m_officeAt, .ref m_shares, .ref m_berths, .ref m_owner, .ref m_lies, .ref m_tickets, .ref m_tDay, .ref m_tBerth, .ref m_tFrom, .ref m_tTo, .ref m_tOffice, .ref m_tBack, .ref m_letters, .ref m_lComes, .ref m_lAnswer, .ref m_lOffice, .ref m_lDay, .ref m_lFrom, .ref m_lTo, .ref m_lTicket, .ref m_now, .ref m_lines, .ref m_lineTests, .ref m_testWhat, .ref m_testSign, .ref m_testThan, .ref m_lineAct, .ref m_lineNumber, .ref m_free, .ref m_newBerth, .int 0, .int 0, .int 0, .int 0, .int 0, .long 0, .int 0, .int (-1), .int 0, .int 0, .ref m_newTests, .ref m_newWhat, .ref m_newSign, .ref m_newThan, .ref m_newAct, .ref m_newNumber, .ref m_has])), (m_has, .inl (cy 2, 3, .inl (fun _ => 0)))]) rfl rfl (by decide) (by decide) (fun r930 u_r930 H locs hw930 hP hD hS => ?_)
  try dsimp only at hw930
  have hP : va_P D vwCl [(m0, .inr (10, [.int 0, .ref m_tape, .int 0, .ref m_stops, .ref m_km, .ref m_takes, .ref m_officeAt, .ref m_shares, .ref m_berths, .ref m_owner, .ref m_lies, .ref m_tickets, .ref m_tDay, .ref m_tBerth, .ref m_tFrom, .ref m_tTo, .ref m_tOffice, .ref m_tBack, .ref m_letters, .ref m_lComes, .ref m_lAnswer, .ref m_lOffice, .ref m_lDay, .ref m_lFrom, .ref m_lTo, .ref m_lTicket, .ref m_now, .ref m_lines, .ref m_lineTests, .ref m_testWhat, .ref m_testSign, .ref m_testThan, .ref m_lineAct, .ref m_lineNumber, .ref m_free, .ref m_newBerth, .int 0, .int 0, .int 0, .int 0, .int 0, .long 0, .int 0, .int (-1), .int 0, .int 0, .ref m_newTests, .ref m_newWhat, .ref m_newSign, .ref m_newThan, .ref m_newAct, .ref m_newNumber, .ref m_has])), (m_has, .inl (cy 2, 3, .inl (fun _ => 0)))] H := hP
  have hD : va_D A [(m0, .inr (10, [.int 0, .ref m_tape, .int 0, .ref m_stops, .ref m_km, .ref m_takes, .ref m_officeAt, .ref m_shares, .ref m_berths, .ref m_owner, .ref m_lies, .ref m_tickets, .ref m_tDay, .ref m_tBerth, .ref m_tFrom, .ref m_tTo, .ref m_tOffice, .ref m_tBack, .ref m_letters, .ref m_lComes, .ref m_lAnswer, .ref m_lOffice, .ref m_lDay, .ref m_lFrom, .ref m_lTo, .ref m_lTicket, .ref m_now, .ref m_lines, .ref m_lineTests, .ref m_testWhat, .ref m_testSign, .ref m_testThan, .ref m_lineAct, .ref m_lineNumber, .ref m_free, .ref m_newBerth, .int 0, .int 0, .int 0, .int 0, .int 0, .long 0, .int 0, .int (-1), .int 0, .int 0, .ref m_newTests, .ref m_newWhat, .ref m_newSign, .ref m_newThan, .ref m_newAct, .ref m_newNumber, .ref m_has])), (m_has, .inl (cy 2, 3, .inl (fun _ => 0)))] := hD
  refine lv_aload_n hx hb dL_law_933 rfl (lv_at hl 1 rfl) ?_
  refine lv_aload_n hx hb dL_law_934 rfl (lv_at hl 3 rfl) ?_
  refine lv_iload_n hx hb dL_law_935 rfl (lv_at hl 0 rfl) ?_
  refine lv_iconst (v := 1) hx hb dL_law_936 (by decide) ?_
  refine lv_iadd hx hb dL_law_937 ?_
  refine lv_topi (fun x937 ex937 => ?_)
  obtain rfl : x937 = 1 := ex937.trans (by decide)
  refine va_sld hx hb hX hbl hbA hS (q_in (a := 1) (by decide) (by decide) (by decide)) dL_law_938 ?_
  refine lv_topi (fun x938 ex938 => ?_)
  obtain rfl : v1 = x938 := ev1.trans ex938.symm
  refine k_i (va_runV (As := [.int v1]) (rest := [.int r930]) ⟨hx, hb, hml, hown, hts⟩ (c_X10_again l D cy m0 m_tape m_stops m_km m_takes m_officeAt m_shares m_berths m_owner m_lies m_tickets m_tDay m_tBerth m_tFrom m_tTo m_tOffice m_tBack m_letters m_lComes m_lAnswer m_lOffice m_lDay m_lFrom m_lTo m_lTicket m_now m_lines m_lineTests m_testWhat m_testSign m_testThan m_lineAct m_lineNumber m_free m_newBerth m_newTests m_newWhat m_newSign m_newThan m_newAct m_newNumber m_has v1 H.size ) (cwV 1 hts gL_law_X10_again rfl rfl rfl (by decide +kernel) ⟨Nat.le_of_ble_eq_true rfl, Nat.le_of_ble_eq_true rfl⟩) (cp_v hK hN hP hD [0, 1] rfl (by decide) (ci := 10) rfl rfl rfl) rfl rfl hl.1 rfl (lv_room (Nat.le_of_ble_eq_true rfl)) dL_law_939 ⟨Nat.le_of_ble_eq_true rfl, Nat.le_of_ble_eq_true rfl⟩) hP hD hS hA [0, 1] [] (wr := []) rfl rfl (by decide) (by decide) (fun r939 u_r939 H locs hw939 hP hD hS => ?_)
  try dsimp only at hw939
  have hP : va_P D vwCl [] H := hP
  have hD : va_D A [] := hD
  refine lv_icmp_eq (tgt := 947) hx hb dL_law_942 (by decide) (fun c942 => ?_) (fun c942 => ?_)
  · skip
    have fc942 := q_eq (a := r930.toInt) (b := r939.toInt) c942 rfl rfl
    exact law_tail C0 hA hAA (by decide) (by decide) hS ls (lv_sub hl [0, 3] rfl)
  · skip
    have fc942 := q_ne (a := r930.toInt) (b := r939.toInt) c942 rfl rfl
    exfalso; omega