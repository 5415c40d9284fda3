abbrev Q_c_X10_cars (D : va_G) (cy : Nat → ClassId) (m0 : Nat) (m_tape : Nat) (m_stops : Nat) (m_km : Nat) (m_takes : Nat) (m_officeAt : Nat) (m_shares : Nat) (m_berths : Nat) (m_owner : Nat) (m_lies : Nat) (m_tickets : Nat) (m_tDay : Nat) (m_tBerth : Nat) (m_tFrom : Nat) (m_tTo : Nat) (m_tOffice : Nat) (m_tBack : Nat) (m_letters : Nat) (m_lComes : Nat) (m_lAnswer : Nat) (m_lOffice : Nat) (m_lDay : Nat) (m_lFrom : Nat) (m_lTo : Nat) (m_lTicket : Nat) (m_now : Nat) (m_lines : Nat) (m_lineTests : Nat) (m_testWhat : Nat) (m_testSign : Nat) (m_testThan : Nat) (m_lineAct : Nat) (m_lineNumber : Nat) (m_free : Nat) (m_newBerth : Nat) (m_newTests : Nat) (m_newWhat : Nat) (m_newSign : Nat) (m_newThan : Nat) (m_newAct : Nat) (m_newNumber : Nat) (m_has : Nat) (fst : Nat → Int32) (ftk : Nat → Int32) (days : Int32) (rest : Int32) : (Nat → Prop) → Array Value → State → Outcome → State → Prop := QI D cy (fun (r : Int32) (_ : Unit) => (0 ≤ days.toInt ∧ 0 ≤ rest.toInt ∧ rest.toInt ≤ 48 ∧ r.toInt = moF days (2 * (1 + rest.toInt)) 30) ∨ (¬ (0 ≤ days.toInt ∧ 0 ≤ rest.toInt ∧ rest.toInt ≤ 48) ∧ r.toInt = -1)) (fun _ : Unit => [])
set_option maxHeartbeats 4000000 in
set_option maxRecDepth 100000 in
theorem c_X10_cars (l : Launch) (D : va_G) (cy : Nat → ClassId) (m0 : Nat) (m_tape : Nat) (m_stops : Nat) (m_km : Nat) (m_takes : Nat) (m_officeAt : Nat) (m_shares : Nat) (m_berths : Nat) (m_owner : Nat) (m_lies : Nat) (m_tickets : Nat) (m_tDay : Nat) (m_tBerth : Nat) (m_tFrom : Nat) (m_tTo : Nat) (m_tOffice : Nat) (m_tBack : Nat) (m_letters : Nat) (m_lComes : Nat) (m_lAnswer : Nat) (m_lOffice : Nat) (m_lDay : Nat) (m_lFrom : Nat) (m_lTo : Nat) (m_lTicket : Nat) (m_now : Nat) (m_lines : Nat) (m_lineTests : Nat) (m_testWhat : Nat) (m_testSign : Nat) (m_testThan : Nat) (m_lineAct : Nat) (m_lineNumber : Nat) (m_free : Nat) (m_newBerth : Nat) (m_newTests : Nat) (m_newWhat : Nat) (m_newSign : Nat) (m_newThan : Nat) (m_newAct : Nat) (m_newNumber : Nat) (m_has : Nat) (fst : Nat → Int32) (ftk : Nat → Int32) (days : Int32) (rest : Int32) (sz : Nat) (hst : fst 0 = 2) (htk : ∀ j : Nat, j < 9 → ftk j = 1) : Met l yX10_cars wsX10_cars ({ frames := 1, cells := 0, slots := 0, locals := 23 } : Room) (CP D cy [.ref m0, .int days, .int rest] [(m0, .inr (10, [.int 0, .ref m_tape, .int 0, .ref m_stops, .ref m_km, .ref m_takes, .ref m_officeAt, .ref m_shares, .ref m_berths, .ref m_owner, .ref m_lies, .ref m_tickets, .ref m_tDay, .ref m_tBerth, .ref m_tFrom, .ref m_tTo, .ref m_tOffice, .ref m_tBack, .ref m_letters, .ref m_lComes, .ref m_lAnswer, .ref m_lOffice, .ref m_lDay, .ref m_lFrom, .ref m_lTo, .ref m_lTicket, .ref m_now, .ref m_lines, .ref m_lineTests, .ref m_testWhat, .ref m_testSign, .ref m_testThan, .ref m_lineAct, .ref m_lineNumber, .ref m_free, .ref m_newBerth, .int 0, .int 0, .int 0, .int 0, .int 0, .long 0, .int 0, .int (-1), .int 0, .int 0, .ref m_newTests, .ref m_newWhat, .ref m_newSign, .ref m_newThan, .ref m_newAct, .ref m_newNumber, .ref m_has])), (m_stops, .inl (cy 0, 4, .inl fst)), (m_takes, .inl (cy 0, 36, .inl ftk))] sz) (Q_c_X10_cars D cy m0 m_tape m_stops m_km m_takes m_officeAt m_shares m_berths m_owner m_lies m_tickets m_tDay m_tBerth m_tFrom m_tTo m_tOffice m_tBack m_letters m_lComes m_lAnswer m_lOffice m_lDay m_lFrom m_lTo m_lTicket m_now m_lines m_lineTests m_testWhat m_testSign m_testThan m_lineAct m_lineNumber m_free m_newBerth m_newTests m_newWhat m_newSign m_newThan m_newAct m_newNumber m_has fst ftk days rest (va_A [(m0, .inr (10, [.int 0, .ref m_tape, .int 0, .ref m_stops, .ref m_km, .ref m_takes, .ref m_officeAt, .ref m_shares, .ref m_berths, .ref m_owner, .ref m_lies, .ref m_tickets, .ref m_tDay, .ref m_tBerth, .ref m_tFrom, .ref m_tTo, .ref m_tOffice, .ref m_tBack, .ref m_letters, .ref m_lComes, .ref m_lAnswer, .ref m_lOffice, .ref m_lDay, .ref m_lFrom, .ref m_lTo, .ref m_lTicket, .ref m_now, .ref m_lines, .ref m_lineTests, .ref m_testWhat, .ref m_testSign, .ref m_testThan, .ref m_lineAct, .ref m_lineNumber, .ref m_free, .ref m_newBerth, .int 0, .int 0, .int 0, .int 0, .int 0, .long 0, .int 0, .int (-1), .int 0, .int 0, .ref m_newTests, .ref m_newWhat, .ref m_newSign, .ref m_newThan, .ref m_newAct, .ref m_newNumber, .ref m_has])), (m_stops, .inl (cy 0, 4, .inl fst)), (m_takes, .inl (cy 0, 36, .inl ftk))] sz)) 0 0 (va_A [(m0, .inr (10, [.int 0, .ref m_tape, .int 0, .ref m_stops, .ref m_km, .ref m_takes, .ref m_officeAt, .ref m_shares, .ref m_berths, .ref m_owner, .ref m_lies, .ref m_tickets, .ref m_tDay, .ref m_tBerth, .ref m_tFrom, .ref m_tTo, .ref m_tOffice, .ref m_tBack, .ref m_letters, .ref m_lComes, .ref m_lAnswer, .ref m_lOffice, .ref m_lDay, .ref m_lFrom, .ref m_lTo, .ref m_lTicket, .ref m_now, .ref m_lines, .ref m_lineTests, .ref m_testWhat, .ref m_testSign, .ref m_testThan, .ref m_lineAct, .ref m_lineNumber, .ref m_free, .ref m_newBerth, .int 0, .int 0, .int 0, .int 0, .int 0, .long 0, .int 0, .int (-1), .int 0, .int 0, .ref m_newTests, .ref m_newWhat, .ref m_newSign, .ref m_newThan, .ref m_newAct, .ref m_newNumber, .ref m_has])), (m_stops, .inl (cy 0, 4, .inl fst)), (m_takes, .inl (cy 0, 36, .inl ftk))] sz) := by
  refine Met.go (Qc := Q_c_X10_cars D cy m0 m_tape m_stops m_km m_takes m_officeAt m_shares m_berths m_owner m_lies m_tickets m_tDay m_tBerth m_tFrom m_tTo m_tOffice m_tBack m_letters m_lComes m_lAnswer m_lOffice m_lDay m_lFrom m_lTo m_lTicket m_now m_lines m_lineTests m_testWhat m_testSign m_testThan m_lineAct m_lineNumber m_free m_newBerth m_newTests m_newWhat m_newSign m_newThan m_newAct m_newNumber m_has fst ftk days rest) (cc := cX10_cars) (maxL := 8) (ret := (some .int)) (by decide) rfl (Nat.le_of_ble_eq_true rfl) ?_
  intro p e s m below meth c hx hb hr hts hown hlocks hin hml hK hN A hA hD hP hS ls hl hsz
  have hl : lv_has ls 8 [(0, .ref m0), (1, .int days), (2, .int rest)] := hl
  have in_X10 : ∀ w ∈ wsX100, w ∈ wsX10_cars := fun _ h => List.mem_cons_of_mem _ ((List.mem_append_right _ h))
  have w_1 := hts (.fieldLink RX10 139 "SleepingCarsModel" "code" "I") (by decide +kernel)
  have w_2 := hts (.fieldLink RX10 13 "SleepingCarsModel" "stops" "[I") (by decide +kernel)
  have w_3 := hts (.instanceMethod yX10_upTo) (by decide +kernel)
  obtain ⟨H, eH⟩ : ∃ H : Heap, H = s.heap := ⟨_, rfl⟩
  obtain ⟨locs, eL⟩ : ∃ L : List Loc, L = [] := ⟨_, rfl⟩
  rw [← eL]
  rw [← eL] at hS
  have hP : va_P D vwCl [(m0, .inr (10, [.int 0, .ref m_tape, .int 0, .ref m_stops, .ref m_km, .ref m_takes, .ref m_officeAt, .ref m_shares, .ref m_berths, .ref m_owner, .ref m_lies, .ref m_tickets, .ref m_tDay, .ref m_tBerth, .ref m_tFrom, .ref m_tTo, .ref m_tOffice, .ref m_tBack, .ref m_letters, .ref m_lComes, .ref m_lAnswer, .ref m_lOffice, .ref m_lDay, .ref m_lFrom, .ref m_lTo, .ref m_lTicket, .ref m_now, .ref m_lines, .ref m_lineTests, .ref m_testWhat, .ref m_testSign, .ref m_testThan, .ref m_lineAct, .ref m_lineNumber, .ref m_free, .ref m_newBerth, .int 0, .int 0, .int 0, .int 0, .int 0, .long 0, .int 0, .int (-1), .int 0, .int 0, .ref m_newTests, .ref m_newWhat, .ref m_newSign, .ref m_newThan, .ref m_newAct, .ref m_newNumber, .ref m_has])), (m_stops, .inl (cy 0, 4, .inl fst)), (m_takes, .inl (cy 0, 36, .inl ftk))] H := by rw [eH]; exact hP
  have hS : va_S A s.heap H locs := by rw [eH]; exact hS
  refine W.heapEq eH ?_
  clear eH eL
  refine lv_aload_n hx hb dX10_cars_0 rfl (lv_at hl 0 rfl) ?_
  refine lv_iconst (v := 0) hx hb dX10_cars_1 (by decide) ?_
  refine va_put (D := D) (ci := 10) (v := .int 0) (ty := .int) (C := RX10) (T := TX10) (N := 53) hx hb hts in_X10 tyX10 tyX10_ok nmX10 hown hK hP hD hS 0 rfl rfl 0 (by decide) w_1 (fun _ h9 => h9) rfl (by decide +kernel) rfl rfl (Nat.le_of_ble_eq_true rfl) dX10_cars_2 (fun H locs hP hD hS => ?_)
  have hP : va_P D vwCl [(m0, .inr (10, [.int 0, .ref m_tape, .int 0, .ref m_stops, .ref m_km, .ref m_takes, .ref m_officeAt, .ref m_shares, .ref m_berths, .ref m_owner, .ref m_lies, .ref m_tickets, .ref m_tDay, .ref m_tBerth, .ref m_tFrom, .ref m_tTo, .ref m_tOffice, .ref m_tBack, .ref m_letters, .ref m_lComes, .ref m_lAnswer, .ref m_lOffice, .ref m_lDay, .ref m_lFrom, .ref m_lTo, .ref m_lTicket, .ref m_now, .ref m_lines, .ref m_lineTests, .ref m_testWhat, .ref m_testSign, .ref m_testThan, .ref m_lineAct, .ref m_lineNumber, .ref m_free, .ref m_newBerth, .int 0, .int 0, .int 0, .int 0, .int 0, .long 0, .int 0, .int (-1), .int 0, .int 0, .ref m_newTests, .ref m_newWhat, .ref m_newSign, .ref m_newThan, .ref m_newAct, .ref m_newNumber, .ref m_has])), (m_stops, .inl (cy 0, 4, .inl fst)), (m_takes, .inl (cy 0, 36, .inl ftk))] H := hP
  have hD : va_D A [(m0, .inr (10, [.int 0, .ref m_tape, .int 0, .ref m_stops, .ref m_km, .ref m_takes, .ref m_officeAt, .ref m_shares, .ref m_berths, .ref m_owner, .ref m_lies, .ref m_tickets, .ref m_tDay, .ref m_tBerth, .ref m_tFrom, .ref m_tTo, .ref m_tOffice, .ref m_tBack, .ref m_letters, .ref m_lComes, .ref m_lAnswer, .ref m_lOffice, .ref m_lDay, .ref m_lFrom, .ref m_lTo, .ref m_lTicket, .ref m_now, .ref m_lines, .ref m_lineTests, .ref m_testWhat, .ref m_testSign, .ref m_testThan, .ref m_lineAct, .ref m_lineNumber, .ref m_free, .ref m_newBerth, .int 0, .int 0, .int 0, .int 0, .int 0, .long 0, .int 0, .int (-1), .int 0, .int 0, .ref m_newTests, .ref m_newWhat, .ref m_newSign, .ref m_newThan, .ref m_newAct, .ref m_newNumber, .ref m_has])), (m_stops, .inl (cy 0, 4, .inl fst)), (m_takes, .inl (cy 0, 36, .inl ftk))] := hD
  refine lv_iload_n hx hb dX10_cars_5 rfl (lv_at hl 2 rfl) ?_
  refine lv_iconst (v := 0) hx hb dX10_cars_6 (by decide) ?_
  refine lv_bipush (v := 48) hx hb dX10_cars_7 (by decide) ?_
  refine k_i (va_runS (As := [.int rest, .int 0, .int 48]) (rest := []) ⟨hx, hb, hml, hown, hts⟩ (c_X10_in l D cy rest 0 48 0 48 H.size (by decide) (by decide)) (va_cwS 3 hts gX10_cars_X10_in rfl rfl rfl (by decide +kernel) ⟨Nat.le_of_ble_eq_true rfl, Nat.le_of_ble_eq_true rfl⟩) (cp_s hK hN hP hD [] rfl (by decide)) rfl rfl hl.1 rfl (lv_room (Nat.le_of_ble_eq_true rfl)) dX10_cars_9 ⟨Nat.le_of_ble_eq_true rfl, Nat.le_of_ble_eq_true rfl⟩) hP hD hS hA [] [0, 1, 2] (wr := [(m0, .inr (10, [.int 0, .ref m_tape, .int 0, .ref m_stops, .ref m_km, .ref m_takes, .ref m_officeAt, .ref m_shares, .ref m_berths, .ref m_owner, .ref m_lies, .ref m_tickets, .ref m_tDay, .ref m_tBerth, .ref m_tFrom, .ref m_tTo, .ref m_tOffice, .ref m_tBack, .ref m_letters, .ref m_lComes, .ref m_lAnswer, .ref m_lOffice, .ref m_lDay, .ref m_lFrom, .ref m_lTo, .ref m_lTicket, .ref m_now, .ref m_lines, .ref m_lineTests, .ref m_testWhat, .ref m_testSign, .ref m_testThan, .ref m_lineAct, .ref m_lineNumber, .ref m_free, .ref m_newBerth, .int 0, .int 0, .int 0, .int 0, .int 0, .long 0, .int 0, .int (-1), .int 0, .int 0, .ref m_newTests, .ref m_newWhat, .ref m_newSign, .ref m_newThan, .ref m_newAct, .ref m_newNumber, .ref m_has])), (m_stops, .inl (cy 0, 4, .inl fst)), (m_takes, .inl (cy 0, 36, .inl ftk))]) rfl rfl (by decide) (by decide) (fun r9 u_r9 H locs hw9 hP hD hS => ?_)
  try dsimp only at hw9
  have hP : va_P D vwCl [(m0, .inr (10, [.int 0, .ref m_tape, .int 0, .ref m_stops, .ref m_km, .ref m_takes, .ref m_officeAt, .ref m_shares, .ref m_berths, .ref m_owner, .ref m_lies, .ref m_tickets, .ref m_tDay, .ref m_tBerth, .ref m_tFrom, .ref m_tTo, .ref m_tOffice, .ref m_tBack, .ref m_letters, .ref m_lComes, .ref m_lAnswer, .ref m_lOffice, .ref m_lDay, .ref m_lFrom, .ref m_lTo, .ref m_lTicket, .ref m_now, .ref m_lines, .ref m_lineTests, .ref m_testWhat, .ref m_testSign, .ref m_testThan, .ref m_lineAct, .ref m_lineNumber, .ref m_free, .ref m_newBerth, .int 0, .int 0, .int 0, .int 0, .int 0, .long 0, .int 0, .int (-1), .int 0, .int 0, .ref m_newTests, .ref m_newWhat, .ref m_newSign, .ref m_newThan, .ref m_newAct, .ref m_newNumber, .ref m_has])), (m_stops, .inl (cy 0, 4, .inl fst)), (m_takes, .inl (cy 0, 36, .inl ftk))] H := hP
  have hD : va_D A [(m0, .inr (10, [.int 0, .ref m_tape, .int 0, .ref m_stops, .ref m_km, .ref m_takes, .ref m_officeAt, .ref m_shares, .ref m_berths, .ref m_owner, .ref m_lies, .ref m_tickets, .ref m_tDay, .ref m_tBerth, .ref m_tFrom, .ref m_tTo, .ref m_tOffice, .ref m_tBack, .ref m_letters, .ref m_lComes, .ref m_lAnswer, .ref m_lOffice, .ref m_lDay, .ref m_lFrom, .ref m_lTo, .ref m_lTicket, .ref m_now, .ref m_lines, .ref m_lineTests, .ref m_testWhat, .ref m_testSign, .ref m_testThan, .ref m_lineAct, .ref m_lineNumber, .ref m_free, .ref m_newBerth, .int 0, .int 0, .int 0, .int 0, .int 0, .long 0, .int 0, .int (-1), .int 0, .int 0, .ref m_newTests, .ref m_newWhat, .ref m_newSign, .ref m_newThan, .ref m_newAct, .ref m_newNumber, .ref m_has])), (m_stops, .inl (cy 0, 4, .inl fst)), (m_takes, .inl (cy 0, 36, .inl ftk))] := hD
  refine lv_if_eq (tgt := 19) hx hb dX10_cars_12 (by decide) (fun c12 => ?_) (fun c12 => ?_)
  · skip
    have fc12 := q_eq (a := r9.toInt) (b := 0) c12 rfl (by decide)
    refine lv_iconst (v := (-1)) hx hb dX10_cars_19 (by decide) ?_
    exact r_i hx hb hr hlocks hK hS dX10_cars_20 (u := ()) (hP.sub (ws' := []) [] rfl) (hD.sub (ws' := []) [] (by decide) rfl) (by first | exact Or.inl ⟨by omega, by omega, by omega, by rw [hm, show d.toInt.toNat = 30 by omega]; congr 1; omega⟩ | exact Or.inr ⟨by omega, by decide⟩)
  · skip
    have fc12 := q_ne (a := r9.toInt) (b := 0) c12 rfl (by decide)
    refine lv_iload_n hx hb dX10_cars_15 rfl (lv_at hl 1 rfl) ?_
    refine lv_if_ge (tgt := 21) hx hb dX10_cars_16 (by decide) (fun c16 => ?_) (fun c16 => ?_)
    · skip
      have fc16 := q_le (a := 0) (b := days.toInt) c16 (by decide) rfl
      refine lv_iconst (v := 2) hx hb dX10_cars_21 (by decide) ?_
      refine lv_aload_n hx hb dX10_cars_22 rfl (lv_at hl 0 rfl) ?_
      refine lv_aload_n hx hb dX10_cars_23 rfl (lv_at hl 0 rfl) ?_
      refine va_get (D := D) (ci := 10) (v := .ref m_stops) (C := RX10) (T := TX10) (N := 53) hx hb hts in_X10 hown hK hP 0 rfl rfl 3 (by decide) w_2 (fun _ h9 => h9) rfl dX10_cars_24 ?_
      refine lv_iconst (v := 0) hx hb dX10_cars_27 (by decide) ?_
      refine va_iald hx hb hK hP 1 0 rfl rfl (q_in (a := 0) (by decide) (by decide) (by decide)) dX10_cars_28 ?_
      refine lv_topi (fun x28 ex28 => ?_)
      obtain rfl : x28 = 2 := ex28.trans (at0 hst)
      refine lv_iconst (v := 1) hx hb dX10_cars_29 (by decide) ?_
      refine lv_isub hx hb dX10_cars_30 ?_
      refine lv_topi (fun x30 ex30 => ?_)
      obtain rfl : x30 = 1 := ex30.trans (by decide)
      refine k_i (va_runV (As := [.int 1]) (rest := [.int 2]) ⟨hx, hb, hml, hown, hts⟩ (c_mupTo0 l D cy m0 m_tape m_stops m_km m_takes m_officeAt m_shares m_berths m_owner m_lies m_tickets m_tDay m_tBerth m_tFrom m_tTo m_tOffice m_tBack m_letters m_lComes m_lAnswer m_lOffice m_lDay m_lFrom m_lTo m_lTicket m_now m_lines m_lineTests m_testWhat m_testSign m_testThan m_lineAct m_lineNumber m_free m_newBerth m_newTests m_newWhat m_newSign m_newThan m_newAct m_newNumber m_has ftk 1 H.size (by decide)) (cwV 1 hts gX10_cars_X10_upTo rfl rfl rfl (by decide +kernel) ⟨Nat.le_of_ble_eq_true rfl, Nat.le_of_ble_eq_true rfl⟩) (cp_v hK hN hP hD [0, 2] rfl (by decide) (ci := 10) rfl rfl rfl) rfl rfl hl.1 rfl (lv_room (Nat.le_of_ble_eq_true rfl)) dX10_cars_31 ⟨Nat.le_of_ble_eq_true rfl, Nat.le_of_ble_eq_true rfl⟩) hP hD hS hA [0, 2] [1] (wr := [(m_stops, .inl (cy 0, 4, .inl fst))]) rfl rfl (by decide) (by decide) (fun r31 u_r31 H locs hw31 hP hD hS => ?_)
      try dsimp only at hw31
      have hP : va_P D vwCl [(m_stops, .inl (cy 0, 4, .inl fst)), (m0, .inr (10, [.int 0, .ref m_tape, .int 0, .ref m_stops, .ref m_km, .ref m_takes, .ref m_officeAt, .ref m_shares, .ref m_berths, .ref m_owner, .ref m_lies, .ref m_tickets, .ref m_tDay, .ref m_tBerth, .ref m_tFrom, .ref m_tTo, .ref m_tOffice, .ref m_tBack, .ref m_letters, .ref m_lComes, .ref m_lAnswer, .ref m_lOffice, .ref m_lDay, .ref m_lFrom, .ref m_lTo, .ref m_lTicket, .ref m_now, .ref m_lines, .ref m_lineTests, .ref m_testWhat, .ref m_testSign, .ref m_testThan, .ref m_lineAct, .ref m_lineNumber, .ref m_free, .ref m_newBerth, .int 0, .int 0, .int 0, .int 0, .int 0, .long 0, .int 0, .int (-1), .int 0, .int 0, .ref m_newTests, .ref m_newWhat, .ref m_newSign, .ref m_newThan, .ref m_newAct, .ref m_newNumber, .ref m_has])), (m_takes, .inl (cy 0, 36, .inl ftk))] H := hP
      have hD : va_D A [(m_stops, .inl (cy 0, 4, .inl fst)), (m0, .inr (10, [.int 0, .ref m_tape, .int 0, .ref m_stops, .ref m_km, .ref m_takes, .ref m_officeAt, .ref m_shares, .ref m_berths, .ref m_owner, .ref m_lies, .ref m_tickets, .ref m_tDay, .ref m_tBerth, .ref m_tFrom, .ref m_tTo, .ref m_tOffice, .ref m_tBack, .ref m_letters, .ref m_lComes, .ref m_lAnswer, .ref m_lOffice, .ref m_lDay, .ref m_lFrom, .ref m_lTo, .ref m_lTicket, .ref m_now, .ref m_lines, .ref m_lineTests, .ref m_testWhat, .ref m_testSign, .ref m_testThan, .ref m_lineAct, .ref m_lineNumber, .ref m_free, .ref m_newBerth, .int 0, .int 0, .int 0, .int 0, .int 0, .long 0, .int 0, .int (-1), .int 0, .int 0, .ref m_newTests, .ref m_newWhat, .ref m_newSign, .ref m_newThan, .ref m_newAct, .ref m_newNumber, .ref m_has])), (m_takes, .inl (cy 0, 36, .inl ftk))] := hD
      have hr31 : r31.toInt = 1 := by rw [hw31, show (1 : Int32).toInt.toNat = 1 by decide]; exact sum_one htk
      refine lv_imul hx hb dX10_cars_34 ?_
      refine lv_topi (fun x34 ex34 => ?_)
      have tx34 := q_mul (p := 2) (q := r31.toInt) ex34 (by decide) rfl (by omega) (by omega)
      refine lv_iconst (v := 2) hx hb dX10_cars_35 (by decide) ?_
      refine lv_iload_n hx hb dX10_cars_36 rfl (lv_at hl 2 rfl) ?_
      refine lv_imul hx hb dX10_cars_37 ?_
      refine lv_topi (fun x37 ex37 => ?_)
      have tx37 := q_mul (p := 2) (q := rest.toInt) ex37 (by decide) rfl (by omega) (by omega)
      refine lv_iadd hx hb dX10_cars_38 ?_
      refine lv_topi (fun x38 ex38 => ?_)
      have tx38 := q_add (p := x34.toInt) (q := x37.toInt) ex38 rfl rfl (by omega) (by omega)
      refine lv_istore_n (lv' := [(3, .int x38), (0, .ref m0), (1, .int days), (2, .int rest)]) hx hb dX10_cars_39 rfl hl (by decide) rfl (fun ls hl => ?_)
      refine lv_iconst (v := 0) hx hb dX10_cars_40 (by decide) ?_
      refine lv_istore (lv' := [(4, .int 0), (3, .int x38), (0, .ref m0), (1, .int days), (2, .int rest)]) hx hb dX10_cars_41 hl (by decide) rfl (fun ls hl => ?_)
      refine lv_iconst (v := 0) hx hb dX10_cars_43 (by decide) ?_
      refine lv_istore (lv' := [(5, .int 0), (4, .int 0), (3, .int x38), (0, .ref m0), (1, .int days), (2, .int rest)]) hx hb dX10_cars_44 hl (by decide) rfl (fun ls hl => ?_)
      have lp_46 : ∀ (n_46 : Nat) (d : Int32) (mo : Int32), (0 ≤ d.toInt) → (d.toInt ≤ 30) → (mo.toInt = moF days x38.toInt d.toInt.toNat) → (0 ≤ mo.toInt ∧ mo.toInt ≤ 30) → (30 - d.toInt).toNat < n_46 → ∀ (H : Heap) (locs : List Loc), va_P D vwCl [(m_stops, .inl (cy 0, 4, .inl fst)), (m0, .inr (10, [.int 0, .ref m_tape, .int 0, .ref m_stops, .ref m_km, .ref m_takes, .ref m_officeAt, .ref m_shares, .ref m_berths, .ref m_owner, .ref m_lies, .ref m_tickets, .ref m_tDay, .ref m_tBerth, .ref m_tFrom, .ref m_tTo, .ref m_tOffice, .ref m_tBack, .ref m_letters, .ref m_lComes, .ref m_lAnswer, .ref m_lOffice, .ref m_lDay, .ref m_lFrom, .ref m_lTo, .ref m_lTicket, .ref m_now, .ref m_lines, .ref m_lineTests, .ref m_testWhat, .ref m_testSign, .ref m_testThan, .ref m_lineAct, .ref m_lineNumber, .ref m_free, .ref m_newBerth, .int 0, .int 0, .int 0, .int 0, .int 0, .long 0, .int 0, .int (-1), .int 0, .int 0, .ref m_newTests, .ref m_newWhat, .ref m_newSign, .ref m_newThan, .ref m_newAct, .ref m_newNumber, .ref m_has])), (m_takes, .inl (cy 0, 36, .inl ftk))] H → va_D A [(m_stops, .inl (cy 0, 4, .inl fst)), (m0, .inr (10, [.int 0, .ref m_tape, .int 0, .ref m_stops, .ref m_km, .ref m_takes, .ref m_officeAt, .ref m_shares, .ref m_berths, .ref m_owner, .ref m_lies, .ref m_tickets, .ref m_tDay, .ref m_tBerth, .ref m_tFrom, .ref m_tTo, .ref m_tOffice, .ref m_tBack, .ref m_letters, .ref m_lComes, .ref m_lAnswer, .ref m_lOffice, .ref m_lDay, .ref m_lFrom, .ref m_lTo, .ref m_lTicket, .ref m_now, .ref m_lines, .ref m_lineTests, .ref m_testWhat, .ref m_testSign, .ref m_testThan, .ref m_lineAct, .ref m_lineNumber, .ref m_free, .ref m_newBerth, .int 0, .int 0, .int 0, .int 0, .int 0, .long 0, .int 0, .int (-1), .int 0, .int 0, .ref m_newTests, .ref m_newWhat, .ref m_newSign, .ref m_newThan, .ref m_newAct, .ref m_newNumber, .ref m_has])), (m_takes, .inl (cy 0, 36, .inl ftk))] → va_S A s.heap H locs → ∀ ls : Array Slot, lv_has ls 8 [(5, .int d), (4, .int mo), (3, .int x38), (0, .ref m0), (1, .int days), (2, .int rest)] → W p l e (headSpec wsX10_cars ({ frames := 1, cells := 0, slots := 0, locals := 23 } : Room)).room s m ([.ref m0, .int days, .int rest] : List Value).toArray below meth c H locs 0 0 (MQ below (Q_c_X10_cars D cy m0 m_tape m_stops m_km m_takes m_officeAt m_shares m_berths m_owner m_lies m_tickets m_tDay m_tBerth m_tFrom m_tTo m_tOffice m_tBack m_letters m_lComes m_lAnswer m_lOffice m_lDay m_lFrom m_lTo m_lTicket m_now m_lines m_lineTests m_testWhat m_testSign m_testThan m_lineAct m_lineNumber m_free m_newBerth m_newTests m_newWhat m_newSign m_newThan m_newAct m_newNumber m_has fst ftk days rest A) ([.ref m0, .int days, .int rest] : List Value).toArray s 0 0 A) (F0 m 46 ls []) := by
        intro n_46
        induction n_46 with
        | zero => intro d mo hd0 hd1 hm hm0 hmu; exact absurd hmu (Nat.not_lt_zero _)
        | succ n_46 ih_46 =>
          intro d mo hd0 hd1 hm hm0 hmu_46 H locs hP hD hS ls hl
          refine lv_iload hx hb dX10_cars_46 (lv_at hl 0 rfl) ?_
          refine lv_bipush (v := 30) hx hb dX10_cars_48 (by decide) ?_
          refine lv_icmp_ge (tgt := 137) hx hb dX10_cars_50 (by decide) (fun c50 => ?_) (fun c50 => ?_)
          · skip
            have fc50 := q_le (a := 30) (b := d.toInt) c50 (by decide) rfl
            refine lv_iload hx hb dX10_cars_137 (lv_at hl 1 rfl) ?_
            exact r_i hx hb hr hlocks hK hS dX10_cars_139 (u := ()) (hP.sub (ws' := []) [] rfl) (hD.sub (ws' := []) [] (by decide) rfl) (by first | exact Or.inl ⟨by omega, by omega, by omega, by rw [hm, show d.toInt.toNat = 30 by omega]; congr 1; omega⟩ | exact Or.inr ⟨by omega, by decide⟩)
          · skip
            have fc50 := q_nle (a := 30) (b := d.toInt) c50 (by decide) rfl
            refine lv_iconst (v := 0) hx hb dX10_cars_53 (by decide) ?_
            refine lv_istore (lv' := [(6, .int 0), (5, .int d), (4, .int mo), (3, .int x38), (0, .ref m0), (1, .int days), (2, .int rest)]) hx hb dX10_cars_54 hl (by decide) rfl (fun ls hl => ?_)
            refine lv_iconst (v := 0) hx hb dX10_cars_56 (by decide) ?_
            refine lv_istore (lv' := [(7, .int 0), (6, .int 0), (5, .int d), (4, .int mo), (3, .int x38), (0, .ref m0), (1, .int days), (2, .int rest)]) hx hb dX10_cars_57 hl (by decide) rfl (fun ls hl => ?_)
            have lp_59 : ∀ (n_59 : Nat) (i : Int32) (ot : Int32), (0 ≤ i.toInt) → (i.toInt ≤ d.toInt + 1) → (ot.toInt = coF days x38.toInt d.toInt i.toInt.toNat) → (0 ≤ ot.toInt ∧ ot.toInt ≤ i.toInt) → (i.toInt = 0 ∨ (bitAt days d).toInt = 1) → (31 - i.toInt).toNat < n_59 → ∀ (H : Heap) (locs : List Loc), va_P D vwCl [(m_stops, .inl (cy 0, 4, .inl fst)), (m0, .inr (10, [.int 0, .ref m_tape, .int 0, .ref m_stops, .ref m_km, .ref m_takes, .ref m_officeAt, .ref m_shares, .ref m_berths, .ref m_owner, .ref m_lies, .ref m_tickets, .ref m_tDay, .ref m_tBerth, .ref m_tFrom, .ref m_tTo, .ref m_tOffice, .ref m_tBack, .ref m_letters, .ref m_lComes, .ref m_lAnswer, .ref m_lOffice, .ref m_lDay, .ref m_lFrom, .ref m_lTo, .ref m_lTicket, .ref m_now, .ref m_lines, .ref m_lineTests, .ref m_testWhat, .ref m_testSign, .ref m_testThan, .ref m_lineAct, .ref m_lineNumber, .ref m_free, .ref m_newBerth, .int 0, .int 0, .int 0, .int 0, .int 0, .long 0, .int 0, .int (-1), .int 0, .int 0, .ref m_newTests, .ref m_newWhat, .ref m_newSign, .ref m_newThan, .ref m_newAct, .ref m_newNumber, .ref m_has])), (m_takes, .inl (cy 0, 36, .inl ftk))] H → va_D A [(m_stops, .inl (cy 0, 4, .inl fst)), (m0, .inr (10, [.int 0, .ref m_tape, .int 0, .ref m_stops, .ref m_km, .ref m_takes, .ref m_officeAt, .ref m_shares, .ref m_berths, .ref m_owner, .ref m_lies, .ref m_tickets, .ref m_tDay, .ref m_tBerth, .ref m_tFrom, .ref m_tTo, .ref m_tOffice, .ref m_tBack, .ref m_letters, .ref m_lComes, .ref m_lAnswer, .ref m_lOffice, .ref m_lDay, .ref m_lFrom, .ref m_lTo, .ref m_lTicket, .ref m_now, .ref m_lines, .ref m_lineTests, .ref m_testWhat, .ref m_testSign, .ref m_testThan, .ref m_lineAct, .ref m_lineNumber, .ref m_free, .ref m_newBerth, .int 0, .int 0, .int 0, .int 0, .int 0, .long 0, .int 0, .int (-1), .int 0, .int 0, .ref m_newTests, .ref m_newWhat, .ref m_newSign, .ref m_newThan, .ref m_newAct, .ref m_newNumber, .ref m_has])), (m_takes, .inl (cy 0, 36, .inl ftk))] → va_S A s.heap H locs → ∀ ls : Array Slot, lv_has ls 8 [(7, .int i), (6, .int ot), (5, .int d), (4, .int mo), (3, .int x38), (0, .ref m0), (1, .int days), (2, .int rest)] → W p l e (headSpec wsX10_cars ({ frames := 1, cells := 0, slots := 0, locals := 23 } : Room)).room s m ([.ref m0, .int days, .int rest] : List Value).toArray below meth c H locs 0 0 (MQ below (Q_c_X10_cars D cy m0 m_tape m_stops m_km m_takes m_officeAt m_shares m_berths m_owner m_lies m_tickets m_tDay m_tBerth m_tFrom m_tTo m_tOffice m_tBack m_letters m_lComes m_lAnswer m_lOffice m_lDay m_lFrom m_lTo m_lTicket m_now m_lines m_lineTests m_testWhat m_testSign m_testThan m_lineAct m_lineNumber m_free m_newBerth m_newTests m_newWhat m_newSign m_newThan m_newAct m_newNumber m_has fst ftk days rest A) ([.ref m0, .int days, .int rest] : List Value).toArray s 0 0 A) (F0 m 59 ls []) := by
              intro n_59
              induction n_59 with
              | zero => intro i ot hi0 hi1 ho ho0 hbt hmu; exact absurd hmu (Nat.not_lt_zero _)
              | succ n_59 ih_59 =>
                intro i ot hi0 hi1 ho ho0 hbt hmu_59 H locs hP hD hS ls hl
                refine lv_iload hx hb dX10_cars_59 (lv_at hl 0 rfl) ?_
                refine lv_iload hx hb dX10_cars_61 (lv_at hl 2 rfl) ?_
                refine lv_icmp_gt (tgt := 115) hx hb dX10_cars_63 (by decide) (fun c63 => ?_) (fun c63 => ?_)
                · skip
                  have fc63 := q_lt (a := d.toInt) (b := i.toInt) c63 rfl rfl
                  refine lv_iload hx hb dX10_cars_115 (lv_at hl 1 rfl) ?_
                  refine lv_iload hx hb dX10_cars_117 (lv_at hl 3 rfl) ?_
                  refine lv_icmp_le (tgt := 127) hx hb dX10_cars_119 (by decide) (fun c119 => ?_) (fun c119 => ?_)
                  · skip
                    have fc119 := q_le (a := ot.toInt) (b := mo.toInt) c119 rfl rfl
                    refine lv_iload hx hb dX10_cars_127 (lv_at hl 3 rfl) ?_
                    refine lv_istore (lv' := [(4, .int mo), (7, .int i), (6, .int ot), (5, .int d), (3, .int x38), (0, .ref m0), (1, .int days), (2, .int rest)]) hx hb dX10_cars_129 hl (by decide) rfl (fun ls hl => ?_)
                    obtain ⟨x131, ex131⟩ : ∃ y : Int32, y = d + 1 := ⟨_, rfl⟩
                    refine lv_iinc (v := x131) (lv' := [(5, .int x131), (4, .int mo), (7, .int i), (6, .int ot), (3, .int x38), (0, .ref m0), (1, .int days), (2, .int rest)]) hx hb dX10_cars_131 hl (k := 3) rfl (by rw [ex131]; rfl) (by decide) rfl (fun ls hl => ?_)
                    have tx131 := q_add (p := d.toInt) (q := 1) ex131 rfl (by decide) (by omega) (by omega)
                    refine lv_goto (tgt := 46) hx hb dX10_cars_134 (by decide) ?_
                    exact ih_46 x131 mo (by omega) (by omega) (by first | exact mo_step (c := ot) hd0 tx131 hm (by omega) (by rw [ho, show i.toInt.toNat = (d.toInt + 1).toNat by omega]) (by omega) | exact mo_skip hd0 tx131 hm (by omega)) (by omega) (by omega) H locs hP hD hS ls (lv_sub hl [0, 1, 4, 5, 6, 7] rfl)
                  · skip
                    have fc119 := q_nle (a := ot.toInt) (b := mo.toInt) c119 rfl rfl
                    refine lv_iload hx hb dX10_cars_122 (lv_at hl 1 rfl) ?_
                    refine lv_goto (tgt := 129) hx hb dX10_cars_124 (by decide) ?_
                    refine lv_istore (lv' := [(4, .int ot), (7, .int i), (6, .int ot), (5, .int d), (3, .int x38), (0, .ref m0), (1, .int days), (2, .int rest)]) hx hb dX10_cars_129 hl (by decide) rfl (fun ls hl => ?_)
                    obtain ⟨x131, ex131⟩ : ∃ y : Int32, y = d + 1 := ⟨_, rfl⟩
                    refine lv_iinc (v := x131) (lv' := [(5, .int x131), (4, .int ot), (7, .int i), (6, .int ot), (3, .int x38), (0, .ref m0), (1, .int days), (2, .int rest)]) hx hb dX10_cars_131 hl (k := 3) rfl (by rw [ex131]; rfl) (by decide) rfl (fun ls hl => ?_)
                    have tx131 := q_add (p := d.toInt) (q := 1) ex131 rfl (by decide) (by omega) (by omega)
                    refine lv_goto (tgt := 46) hx hb dX10_cars_134 (by decide) ?_
                    exact ih_46 x131 ot (by omega) (by omega) (by first | exact mo_step (c := ot) hd0 tx131 hm (by omega) (by rw [ho, show i.toInt.toNat = (d.toInt + 1).toNat by omega]) (by omega) | exact mo_skip hd0 tx131 hm (by omega)) (by omega) (by omega) H locs hP hD hS ls (lv_sub hl [0, 1, 4, 5, 6, 7] rfl)
                · skip
                  have fc63 := q_nlt (a := d.toInt) (b := i.toInt) c63 rfl rfl
                  refine lv_iload_n hx hb dX10_cars_66 rfl (lv_at hl 6 rfl) ?_
                  refine lv_iload hx hb dX10_cars_67 (lv_at hl 2 rfl) ?_
                  refine lv_ishr hx hb dX10_cars_69 ?_
                  refine lv_topi (fun x69 ex69 => ?_)
                  refine lv_iconst (v := 1) hx hb dX10_cars_70 (by decide) ?_
                  refine lv_iand hx hb dX10_cars_71 ?_
                  refine lv_topi (fun x71 ex71 => ?_)
                  have tx71 : x71.toInt = (bitAt days d).toInt := by rw [ex71, ex69]; rfl
                  have yx71 := bit01 days d
                  refine lv_if_eq (tgt := 115) hx hb dX10_cars_72 (by decide) (fun c72 => ?_) (fun c72 => ?_)
                  · skip
                    have fc72 := q_eq (a := x71.toInt) (b := 0) c72 rfl (by decide)
                    refine lv_iload hx hb dX10_cars_115 (lv_at hl 1 rfl) ?_
                    refine lv_iload hx hb dX10_cars_117 (lv_at hl 3 rfl) ?_
                    refine lv_icmp_le (tgt := 127) hx hb dX10_cars_119 (by decide) (fun c119 => ?_) (fun c119 => ?_)
                    · skip
                      have fc119 := q_le (a := ot.toInt) (b := mo.toInt) c119 rfl rfl
                      refine lv_iload hx hb dX10_cars_127 (lv_at hl 3 rfl) ?_
                      refine lv_istore (lv' := [(4, .int mo), (7, .int i), (6, .int ot), (5, .int d), (3, .int x38), (0, .ref m0), (1, .int days), (2, .int rest)]) hx hb dX10_cars_129 hl (by decide) rfl (fun ls hl => ?_)
                      obtain ⟨x131, ex131⟩ : ∃ y : Int32, y = d + 1 := ⟨_, rfl⟩
                      refine lv_iinc (v := x131) (lv' := [(5, .int x131), (4, .int mo), (7, .int i), (6, .int ot), (3, .int x38), (0, .ref m0), (1, .int days), (2, .int rest)]) hx hb dX10_cars_131 hl (k := 3) rfl (by rw [ex131]; rfl) (by decide) rfl (fun ls hl => ?_)
                      have tx131 := q_add (p := d.toInt) (q := 1) ex131 rfl (by decide) (by omega) (by omega)
                      refine lv_goto (tgt := 46) hx hb dX10_cars_134 (by decide) ?_
                      exact ih_46 x131 mo (by omega) (by omega) (by first | exact mo_step (c := ot) hd0 tx131 hm (by omega) (by rw [ho, show i.toInt.toNat = (d.toInt + 1).toNat by omega]) (by omega) | exact mo_skip hd0 tx131 hm (by omega)) (by omega) (by omega) H locs hP hD hS ls (lv_sub hl [0, 1, 4, 5, 6, 7] rfl)
                    · skip
                      have fc119 := q_nle (a := ot.toInt) (b := mo.toInt) c119 rfl rfl
                      refine lv_iload hx hb dX10_cars_122 (lv_at hl 1 rfl) ?_
                      refine lv_goto (tgt := 129) hx hb dX10_cars_124 (by decide) ?_
                      refine lv_istore (lv' := [(4, .int ot), (7, .int i), (6, .int ot), (5, .int d), (3, .int x38), (0, .ref m0), (1, .int days), (2, .int rest)]) hx hb dX10_cars_129 hl (by decide) rfl (fun ls hl => ?_)
                      obtain ⟨x131, ex131⟩ : ∃ y : Int32, y = d + 1 := ⟨_, rfl⟩
                      refine lv_iinc (v := x131) (lv' := [(5, .int x131), (4, .int ot), (7, .int i), (6, .int ot), (3, .int x38), (0, .ref m0), (1, .int days), (2, .int rest)]) hx hb dX10_cars_131 hl (k := 3) rfl (by rw [ex131]; rfl) (by decide) rfl (fun ls hl => ?_)
                      have tx131 := q_add (p := d.toInt) (q := 1) ex131 rfl (by decide) (by omega) (by omega)
                      refine lv_goto (tgt := 46) hx hb dX10_cars_134 (by decide) ?_
                      exact ih_46 x131 ot (by omega) (by omega) (by first | exact mo_step (c := ot) hd0 tx131 hm (by omega) (by rw [ho, show i.toInt.toNat = (d.toInt + 1).toNat by omega]) (by omega) | exact mo_skip hd0 tx131 hm (by omega)) (by omega) (by omega) H locs hP hD hS ls (lv_sub hl [0, 1, 4, 5, 6, 7] rfl)
                  · skip
                    have fc72 := q_ne (a := x71.toInt) (b := 0) c72 rfl (by decide)
                    refine lv_iload hx hb dX10_cars_75 (lv_at hl 1 rfl) ?_
                    refine lv_iload_n hx hb dX10_cars_77 rfl (lv_at hl 6 rfl) ?_
                    refine lv_iload hx hb dX10_cars_78 (lv_at hl 0 rfl) ?_
                    refine lv_ishr hx hb dX10_cars_80 ?_
                    refine lv_topi (fun x80 ex80 => ?_)
                    refine lv_iconst (v := 1) hx hb dX10_cars_81 (by decide) ?_
                    refine lv_iand hx hb dX10_cars_82 ?_
                    refine lv_topi (fun x82 ex82 => ?_)
                    have tx82 : x82.toInt = (bitAt days i).toInt := by rw [ex82, ex80]; rfl
                    have yx82 := bit01 days i
                    refine lv_if_eq (tgt := 105) hx hb dX10_cars_83 (by decide) (fun c83 => ?_) (fun c83 => ?_)
                    · skip
                      have fc83 := q_eq (a := x82.toInt) (b := 0) c83 rfl (by decide)
                      refine lv_iconst (v := 0) hx hb dX10_cars_105 (by decide) ?_
                      refine lv_iadd hx hb dX10_cars_106 ?_
                      refine lv_topi (fun x106 ex106 => ?_)
                      have tx106 := q_add (p := ot.toInt) (q := 0) ex106 rfl (by decide) (by omega) (by omega)
                      refine lv_istore (lv' := [(6, .int x106), (7, .int i), (5, .int d), (4, .int mo), (3, .int x38), (0, .ref m0), (1, .int days), (2, .int rest)]) hx hb dX10_cars_107 hl (by decide) rfl (fun ls hl => ?_)
                      obtain ⟨x109, ex109⟩ : ∃ y : Int32, y = i + 1 := ⟨_, rfl⟩
                      refine lv_iinc (v := x109) (lv' := [(7, .int x109), (6, .int x106), (5, .int d), (4, .int mo), (3, .int x38), (0, .ref m0), (1, .int days), (2, .int rest)]) hx hb dX10_cars_109 hl (k := 1) rfl (by rw [ex109]; rfl) (by decide) rfl (fun ls hl => ?_)
                      have tx109 := q_add (p := i.toInt) (q := 1) ex109 rfl (by decide) (by omega) (by omega)
                      refine lv_goto (tgt := 59) hx hb dX10_cars_112 (by decide) ?_
                      exact ih_59 x109 x106 (by omega) (by omega) (by first | exact co_step hi0 tx109 ho (by omega) (by omega) (by omega) | exact co_skip hi0 tx109 ho (by omega) (by omega)) (by omega) (by omega) (by omega) H locs hP hD hS ls (lv_sub hl [0, 1, 2, 3, 4, 5, 6, 7] rfl)
                    · skip
                      have fc83 := q_ne (a := x82.toInt) (b := 0) c83 rfl (by decide)
                      refine lv_bipush (v := 24) hx hb dX10_cars_86 (by decide) ?_
                      refine lv_iload hx hb dX10_cars_88 (lv_at hl 0 rfl) ?_
                      refine lv_imul hx hb dX10_cars_90 ?_
                      refine lv_topi (fun x90 ex90 => ?_)
                      have tx90 := q_mul (p := 24) (q := i.toInt) ex90 (by decide) rfl (by omega) (by omega)
                      refine lv_iload_n hx hb dX10_cars_91 rfl (lv_at hl 4 rfl) ?_
                      refine lv_iadd hx hb dX10_cars_92 ?_
                      refine lv_topi (fun x92 ex92 => ?_)
                      have tx92 := q_add (p := x90.toInt) (q := x38.toInt) ex92 rfl rfl (by omega) (by omega)
                      refine lv_bipush (v := 24) hx hb dX10_cars_93 (by decide) ?_
                      refine lv_iload hx hb dX10_cars_95 (lv_at hl 2 rfl) ?_
                      refine lv_imul hx hb dX10_cars_97 ?_
                      refine lv_topi (fun x97 ex97 => ?_)
                      have tx97 := q_mul (p := 24) (q := d.toInt) ex97 (by decide) rfl (by omega) (by omega)
                      refine lv_icmp_le (tgt := 105) hx hb dX10_cars_98 (by decide) (fun c98 => ?_) (fun c98 => ?_)
                      · skip
                        have fc98 := q_le (a := x92.toInt) (b := x97.toInt) c98 rfl rfl
                        refine lv_iconst (v := 0) hx hb dX10_cars_105 (by decide) ?_
                        refine lv_iadd hx hb dX10_cars_106 ?_
                        refine lv_topi (fun x106 ex106 => ?_)
                        have tx106 := q_add (p := ot.toInt) (q := 0) ex106 rfl (by decide) (by omega) (by omega)
                        refine lv_istore (lv' := [(6, .int x106), (7, .int i), (5, .int d), (4, .int mo), (3, .int x38), (0, .ref m0), (1, .int days), (2, .int rest)]) hx hb dX10_cars_107 hl (by decide) rfl (fun ls hl => ?_)
                        obtain ⟨x109, ex109⟩ : ∃ y : Int32, y = i + 1 := ⟨_, rfl⟩
                        refine lv_iinc (v := x109) (lv' := [(7, .int x109), (6, .int x106), (5, .int d), (4, .int mo), (3, .int x38), (0, .ref m0), (1, .int days), (2, .int rest)]) hx hb dX10_cars_109 hl (k := 1) rfl (by rw [ex109]; rfl) (by decide) rfl (fun ls hl => ?_)
                        have tx109 := q_add (p := i.toInt) (q := 1) ex109 rfl (by decide) (by omega) (by omega)
                        refine lv_goto (tgt := 59) hx hb dX10_cars_112 (by decide) ?_
                        exact ih_59 x109 x106 (by omega) (by omega) (by first | exact co_step hi0 tx109 ho (by omega) (by omega) (by omega) | exact co_skip hi0 tx109 ho (by omega) (by omega)) (by omega) (by omega) (by omega) H locs hP hD hS ls (lv_sub hl [0, 1, 2, 3, 4, 5, 6, 7] rfl)
                      · skip
                        have fc98 := q_nle (a := x92.toInt) (b := x97.toInt) c98 rfl rfl
                        refine lv_iconst (v := 1) hx hb dX10_cars_101 (by decide) ?_
                        refine lv_goto (tgt := 106) hx hb dX10_cars_102 (by decide) ?_
                        refine lv_iadd hx hb dX10_cars_106 ?_
                        refine lv_topi (fun x106 ex106 => ?_)
                        have tx106 := q_add (p := ot.toInt) (q := 1) ex106 rfl (by decide) (by omega) (by omega)
                        refine lv_istore (lv' := [(6, .int x106), (7, .int i), (5, .int d), (4, .int mo), (3, .int x38), (0, .ref m0), (1, .int days), (2, .int rest)]) hx hb dX10_cars_107 hl (by decide) rfl (fun ls hl => ?_)
                        obtain ⟨x109, ex109⟩ : ∃ y : Int32, y = i + 1 := ⟨_, rfl⟩
                        refine lv_iinc (v := x109) (lv' := [(7, .int x109), (6, .int x106), (5, .int d), (4, .int mo), (3, .int x38), (0, .ref m0), (1, .int days), (2, .int rest)]) hx hb dX10_cars_109 hl (k := 1) rfl (by rw [ex109]; rfl) (by decide) rfl (fun ls hl => ?_)
                        have tx109 := q_add (p := i.toInt) (q := 1) ex109 rfl (by decide) (by omega) (by omega)
                        refine lv_goto (tgt := 59) hx hb dX10_cars_112 (by decide) ?_
                        exact ih_59 x109 x106 (by omega) (by omega) (by first | exact co_step hi0 tx109 ho (by omega) (by omega) (by omega) | exact co_skip hi0 tx109 ho (by omega) (by omega)) (by omega) (by omega) (by omega) H locs hP hD hS ls (lv_sub hl [0, 1, 2, 3, 4, 5, 6, 7] rfl)
            exact lp_59 (31 + 1) 0 0 (by decide) (by rw [show (0 : Int32).toInt = 0 by decide]; omega) rfl (by decide) (Or.inl (by decide)) (by first | omega | exact Nat.lt_succ_self _) H locs hP hD hS ls (lv_sub hl [0, 1, 2, 3, 4, 5, 6, 7] rfl)
      exact lp_46 (30 + 1) 0 0 (by decide) (by decide) rfl (by decide) (by first | omega | exact Nat.lt_succ_self _) H locs hP hD hS ls (lv_sub hl [0, 1, 2, 3, 4, 5] rfl)
    · skip
      have fc16 := q_nle (a := 0) (b := days.toInt) c16 (by decide) rfl
      refine lv_iconst (v := (-1)) hx hb dX10_cars_19 (by decide) ?_
      exact r_i hx hb hr hlocks hK hS dX10_cars_20 (u := ()) (hP.sub (ws' := []) [] rfl) (hD.sub (ws' := []) [] (by decide) rfl) (by first | exact Or.inl ⟨by omega, by omega, by omega, by rw [hm, show d.toInt.toNat = 30 by omega]; congr 1; omega⟩ | exact Or.inr ⟨by omega, by decide⟩)
