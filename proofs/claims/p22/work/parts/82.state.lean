abbrev BA : Type := Nat × Nat × Nat × Nat × Nat × Nat × Nat × Nat × Nat × Nat × Nat × Nat × Nat × Nat × Nat × Nat × Nat × Nat × Nat × Nat × Nat × Nat × Nat × Nat × Nat × Nat × Nat × Nat × Nat × Nat × Nat × Nat × Nat × Nat × Nat
abbrev BA.b0 (a : BA) : Nat := a.1
abbrev BA.r0 (a : BA) : Nat := a.2.1
abbrev BA.r1 (a : BA) : Nat := a.2.2.1
abbrev BA.r2 (a : BA) : Nat := a.2.2.2.1
abbrev BA.u0 (a : BA) : Nat := a.2.2.2.2.1
abbrev BA.u1 (a : BA) : Nat := a.2.2.2.2.2.1
abbrev BA.u2 (a : BA) : Nat := a.2.2.2.2.2.2.1
abbrev BA.u3 (a : BA) : Nat := a.2.2.2.2.2.2.2.1
abbrev BA.t0 (a : BA) : Nat := a.2.2.2.2.2.2.2.2.1
abbrev BA.t1 (a : BA) : Nat := a.2.2.2.2.2.2.2.2.2.1
abbrev BA.t2 (a : BA) : Nat := a.2.2.2.2.2.2.2.2.2.2.1
abbrev BA.t3 (a : BA) : Nat := a.2.2.2.2.2.2.2.2.2.2.2.1
abbrev BA.t4 (a : BA) : Nat := a.2.2.2.2.2.2.2.2.2.2.2.2.1
abbrev BA.t5 (a : BA) : Nat := a.2.2.2.2.2.2.2.2.2.2.2.2.2.1
abbrev BA.t6 (a : BA) : Nat := a.2.2.2.2.2.2.2.2.2.2.2.2.2.2.1
abbrev BA.l0 (a : BA) : Nat := a.2.2.2.2.2.2.2.2.2.2.2.2.2.2.2.1
abbrev BA.l1 (a : BA) : Nat := a.2.2.2.2.2.2.2.2.2.2.2.2.2.2.2.2.1
abbrev BA.l2 (a : BA) : Nat := a.2.2.2.2.2.2.2.2.2.2.2.2.2.2.2.2.2.1
abbrev BA.l3 (a : BA) : Nat := a.2.2.2.2.2.2.2.2.2.2.2.2.2.2.2.2.2.2.1
abbrev BA.l4 (a : BA) : Nat := a.2.2.2.2.2.2.2.2.2.2.2.2.2.2.2.2.2.2.2.1
abbrev BA.l5 (a : BA) : Nat := a.2.2.2.2.2.2.2.2.2.2.2.2.2.2.2.2.2.2.2.2.1
abbrev BA.l6 (a : BA) : Nat := a.2.2.2.2.2.2.2.2.2.2.2.2.2.2.2.2.2.2.2.2.2.1
abbrev BA.l7 (a : BA) : Nat := a.2.2.2.2.2.2.2.2.2.2.2.2.2.2.2.2.2.2.2.2.2.2.1
abbrev BA.q0 (a : BA) : Nat := a.2.2.2.2.2.2.2.2.2.2.2.2.2.2.2.2.2.2.2.2.2.2.2.1
abbrev BA.q1 (a : BA) : Nat := a.2.2.2.2.2.2.2.2.2.2.2.2.2.2.2.2.2.2.2.2.2.2.2.2.1
abbrev BA.q2 (a : BA) : Nat := a.2.2.2.2.2.2.2.2.2.2.2.2.2.2.2.2.2.2.2.2.2.2.2.2.2.1
abbrev BA.q3 (a : BA) : Nat := a.2.2.2.2.2.2.2.2.2.2.2.2.2.2.2.2.2.2.2.2.2.2.2.2.2.2.1
abbrev BA.q4 (a : BA) : Nat := a.2.2.2.2.2.2.2.2.2.2.2.2.2.2.2.2.2.2.2.2.2.2.2.2.2.2.2.1
abbrev BA.q5 (a : BA) : Nat := a.2.2.2.2.2.2.2.2.2.2.2.2.2.2.2.2.2.2.2.2.2.2.2.2.2.2.2.2.1
abbrev BA.q6 (a : BA) : Nat := a.2.2.2.2.2.2.2.2.2.2.2.2.2.2.2.2.2.2.2.2.2.2.2.2.2.2.2.2.2.1
abbrev BA.q7 (a : BA) : Nat := a.2.2.2.2.2.2.2.2.2.2.2.2.2.2.2.2.2.2.2.2.2.2.2.2.2.2.2.2.2.2.1
abbrev BA.of (a : BA) : Nat := a.2.2.2.2.2.2.2.2.2.2.2.2.2.2.2.2.2.2.2.2.2.2.2.2.2.2.2.2.2.2.2.1
abbrev BA.sh (a : BA) : Nat := a.2.2.2.2.2.2.2.2.2.2.2.2.2.2.2.2.2.2.2.2.2.2.2.2.2.2.2.2.2.2.2.2.1
abbrev BA.nl (a : BA) : Nat := a.2.2.2.2.2.2.2.2.2.2.2.2.2.2.2.2.2.2.2.2.2.2.2.2.2.2.2.2.2.2.2.2.2.1
abbrev BA.fc (a : BA) : Nat := a.2.2.2.2.2.2.2.2.2.2.2.2.2.2.2.2.2.2.2.2.2.2.2.2.2.2.2.2.2.2.2.2.2.2
abbrev BS : Type := Int32 × Int32 × Int32 × Int32 × Int32 × Int32 × (Nat → Int32) × (Nat → Int32) × (Nat → Int32) × (Nat → Int32) × (Nat → Int32) × (Nat → Int32) × (Nat → Int32) × (Nat → Int32) × (Nat → Int32) × (Nat → Int32) × (Nat → Int32) × (Nat → Int32) × (Nat → Int32) × (Nat → Int32) × (Nat → Int32) × (Nat → Int32) × (Nat → Int32) × (Nat → Int32) × (Nat → Int32) × (Nat → Int32) × (Nat → Int32) × (Nat → Int32) × (Nat → Int32) × (Nat → Int32) × (Nat → Int32) × (Nat → Int32) × (Nat → Int32) × (Nat → Int32) × (Nat → Int32)
abbrev BS.now (a : BS) : Int32 := a.1
abbrev BS.zs (a : BS) : Int32 := a.2.1
abbrev BS.zr (a : BS) : Int32 := a.2.2.1
abbrev BS.zt (a : BS) : Int32 := a.2.2.2.1
abbrev BS.zl (a : BS) : Int32 := a.2.2.2.2.1
abbrev BS.zq (a : BS) : Int32 := a.2.2.2.2.2.1
abbrev BS.fkm (a : BS) : Nat → Int32 := a.2.2.2.2.2.2.1
abbrev BS.fhr (a : BS) : Nat → Int32 := a.2.2.2.2.2.2.2.1
abbrev BS.fbe (a : BS) : Nat → Int32 := a.2.2.2.2.2.2.2.2.1
abbrev BS.fow (a : BS) : Nat → Int32 := a.2.2.2.2.2.2.2.2.2.1
abbrev BS.fso (a : BS) : Nat → Int32 := a.2.2.2.2.2.2.2.2.2.2.1
abbrev BS.fda (a : BS) : Nat → Int32 := a.2.2.2.2.2.2.2.2.2.2.2.1
abbrev BS.fbt (a : BS) : Nat → Int32 := a.2.2.2.2.2.2.2.2.2.2.2.2.1
abbrev BS.ffr (a : BS) : Nat → Int32 := a.2.2.2.2.2.2.2.2.2.2.2.2.2.1
abbrev BS.fto (a : BS) : Nat → Int32 := a.2.2.2.2.2.2.2.2.2.2.2.2.2.2.1
abbrev BS.foc (a : BS) : Nat → Int32 := a.2.2.2.2.2.2.2.2.2.2.2.2.2.2.2.1
abbrev BS.fgi (a : BS) : Nat → Int32 := a.2.2.2.2.2.2.2.2.2.2.2.2.2.2.2.2.1
abbrev BS.lof (a : BS) : Nat → Int32 := a.2.2.2.2.2.2.2.2.2.2.2.2.2.2.2.2.2.1
abbrev BS.lda (a : BS) : Nat → Int32 := a.2.2.2.2.2.2.2.2.2.2.2.2.2.2.2.2.2.2.1
abbrev BS.lfr (a : BS) : Nat → Int32 := a.2.2.2.2.2.2.2.2.2.2.2.2.2.2.2.2.2.2.2.1
abbrev BS.lto (a : BS) : Nat → Int32 := a.2.2.2.2.2.2.2.2.2.2.2.2.2.2.2.2.2.2.2.2.1
abbrev BS.lco (a : BS) : Nat → Int32 := a.2.2.2.2.2.2.2.2.2.2.2.2.2.2.2.2.2.2.2.2.2.1
abbrev BS.lan (a : BS) : Nat → Int32 := a.2.2.2.2.2.2.2.2.2.2.2.2.2.2.2.2.2.2.2.2.2.2.1
abbrev BS.lso (a : BS) : Nat → Int32 := a.2.2.2.2.2.2.2.2.2.2.2.2.2.2.2.2.2.2.2.2.2.2.2.1
abbrev BS.qch (a : BS) : Nat → Int32 := a.2.2.2.2.2.2.2.2.2.2.2.2.2.2.2.2.2.2.2.2.2.2.2.2.1
abbrev BS.qam (a : BS) : Nat → Int32 := a.2.2.2.2.2.2.2.2.2.2.2.2.2.2.2.2.2.2.2.2.2.2.2.2.2.1
abbrev BS.qte (a : BS) : Nat → Int32 := a.2.2.2.2.2.2.2.2.2.2.2.2.2.2.2.2.2.2.2.2.2.2.2.2.2.2.1
abbrev BS.qsu (a : BS) : Nat → Int32 := a.2.2.2.2.2.2.2.2.2.2.2.2.2.2.2.2.2.2.2.2.2.2.2.2.2.2.2.1
abbrev BS.qsi (a : BS) : Nat → Int32 := a.2.2.2.2.2.2.2.2.2.2.2.2.2.2.2.2.2.2.2.2.2.2.2.2.2.2.2.2.1
abbrev BS.qbo (a : BS) : Nat → Int32 := a.2.2.2.2.2.2.2.2.2.2.2.2.2.2.2.2.2.2.2.2.2.2.2.2.2.2.2.2.2.1
abbrev BS.qne (a : BS) : Nat → Int32 := a.2.2.2.2.2.2.2.2.2.2.2.2.2.2.2.2.2.2.2.2.2.2.2.2.2.2.2.2.2.2.1
abbrev BS.fof (a : BS) : Nat → Int32 := a.2.2.2.2.2.2.2.2.2.2.2.2.2.2.2.2.2.2.2.2.2.2.2.2.2.2.2.2.2.2.2.1
abbrev BS.fsh (a : BS) : Nat → Int32 := a.2.2.2.2.2.2.2.2.2.2.2.2.2.2.2.2.2.2.2.2.2.2.2.2.2.2.2.2.2.2.2.2.1
abbrev BS.fnl (a : BS) : Nat → Int32 := a.2.2.2.2.2.2.2.2.2.2.2.2.2.2.2.2.2.2.2.2.2.2.2.2.2.2.2.2.2.2.2.2.2.1
abbrev BS.ffc (a : BS) : Nat → Int32 := a.2.2.2.2.2.2.2.2.2.2.2.2.2.2.2.2.2.2.2.2.2.2.2.2.2.2.2.2.2.2.2.2.2.2
abbrev XA : Type := Nat × BA × Nat × Nat × Nat × Nat × Nat × Nat × Nat × Nat × Nat × Nat × Nat × Nat × Nat × Nat × Nat × Nat
abbrev XA.x0 (a : XA) : Nat := a.1
abbrev XA.bk (a : XA) : BA := a.2.1
abbrev XA.im (a : XA) : Nat := a.2.2.1
abbrev XA.tp (a : XA) : Nat := a.2.2.2.1
abbrev XA.tb (a : XA) : Nat := a.2.2.2.2.1
abbrev XA.rd (a : XA) : Nat := a.2.2.2.2.2.1
abbrev XA.d0 (a : XA) : Nat := a.2.2.2.2.2.2.1
abbrev XA.d1 (a : XA) : Nat := a.2.2.2.2.2.2.2.1
abbrev XA.d2 (a : XA) : Nat := a.2.2.2.2.2.2.2.2.1
abbrev XA.d3 (a : XA) : Nat := a.2.2.2.2.2.2.2.2.2.1
abbrev XA.d4 (a : XA) : Nat := a.2.2.2.2.2.2.2.2.2.2.1
abbrev XA.d5 (a : XA) : Nat := a.2.2.2.2.2.2.2.2.2.2.2.1
abbrev XA.d6 (a : XA) : Nat := a.2.2.2.2.2.2.2.2.2.2.2.2.1
abbrev XA.d7 (a : XA) : Nat := a.2.2.2.2.2.2.2.2.2.2.2.2.2.1
abbrev XA.k0 (a : XA) : Nat := a.2.2.2.2.2.2.2.2.2.2.2.2.2.2.1
abbrev XA.k1 (a : XA) : Nat := a.2.2.2.2.2.2.2.2.2.2.2.2.2.2.2.1
abbrev XA.k2 (a : XA) : Nat := a.2.2.2.2.2.2.2.2.2.2.2.2.2.2.2.2.1
abbrev XA.k3 (a : XA) : Nat := a.2.2.2.2.2.2.2.2.2.2.2.2.2.2.2.2.2
abbrev XS : Type := BS × Int32 × Int32 × Int32 × Int32 × Int32 × Int32 × Int32 × (Nat → Int32) × (Nat → Int32) × (Nat → Int32) × (Nat → Int32) × (Nat → Int32) × (Nat → Int32) × (Nat → Int32) × (Nat → Int32) × (Nat → Int32) × (Nat → Int32) × (Nat → Int32) × (Nat → Option Nat)
abbrev XS.bk (a : XS) : BS := a.1
abbrev XS.ztp (a : XS) : Int32 := a.2.1
abbrev XS.zfk (a : XS) : Int32 := a.2.2.1
abbrev XS.zfp2 (a : XS) : Int32 := a.2.2.2.1
abbrev XS.zat (a : XS) : Int32 := a.2.2.2.2.1
abbrev XS.zsu (a : XS) : Int32 := a.2.2.2.2.2.1
abbrev XS.zd (a : XS) : Int32 := a.2.2.2.2.2.2.1
abbrev XS.zk (a : XS) : Int32 := a.2.2.2.2.2.2.2.1
abbrev XS.ftb (a : XS) : Nat → Int32 := a.2.2.2.2.2.2.2.2.1
abbrev XS.dch (a : XS) : Nat → Int32 := a.2.2.2.2.2.2.2.2.2.1
abbrev XS.dam (a : XS) : Nat → Int32 := a.2.2.2.2.2.2.2.2.2.2.1
abbrev XS.dte (a : XS) : Nat → Int32 := a.2.2.2.2.2.2.2.2.2.2.2.1
abbrev XS.dsu (a : XS) : Nat → Int32 := a.2.2.2.2.2.2.2.2.2.2.2.2.1
abbrev XS.dsi (a : XS) : Nat → Int32 := a.2.2.2.2.2.2.2.2.2.2.2.2.2.1
abbrev XS.dbo (a : XS) : Nat → Int32 := a.2.2.2.2.2.2.2.2.2.2.2.2.2.2.1
abbrev XS.dne (a : XS) : Nat → Int32 := a.2.2.2.2.2.2.2.2.2.2.2.2.2.2.2.1
abbrev XS.tq1 (a : XS) : Nat → Int32 := a.2.2.2.2.2.2.2.2.2.2.2.2.2.2.2.2.1
abbrev XS.tq2 (a : XS) : Nat → Int32 := a.2.2.2.2.2.2.2.2.2.2.2.2.2.2.2.2.2.1
abbrev XS.tq3 (a : XS) : Nat → Int32 := a.2.2.2.2.2.2.2.2.2.2.2.2.2.2.2.2.2.2.1
abbrev XS.fim (a : XS) : Nat → Option Nat := a.2.2.2.2.2.2.2.2.2.2.2.2.2.2.2.2.2.2.2
abbrev MA : Type := Nat × Nat × Nat × Nat × Nat × Nat × Nat × Nat × Nat × Nat × Nat × Nat × Nat × Nat × Nat × Nat × Nat × Nat × Nat × Nat × Nat × Nat × Nat × Nat × Nat × Nat × Nat × Nat × Nat × Nat × Nat × Nat × Nat × Nat × Nat × Nat × Nat × Nat × Nat × Nat × Nat × Nat
abbrev MA.m0 (a : MA) : Nat := a.1
abbrev MA.m_tape (a : MA) : Nat := a.2.1
abbrev MA.m_stops (a : MA) : Nat := a.2.2.1
abbrev MA.m_km (a : MA) : Nat := a.2.2.2.1
abbrev MA.m_takes (a : MA) : Nat := a.2.2.2.2.1
abbrev MA.m_officeAt (a : MA) : Nat := a.2.2.2.2.2.1
abbrev MA.m_shares (a : MA) : Nat := a.2.2.2.2.2.2.1
abbrev MA.m_berths (a : MA) : Nat := a.2.2.2.2.2.2.2.1
abbrev MA.m_owner (a : MA) : Nat := a.2.2.2.2.2.2.2.2.1
abbrev MA.m_lies (a : MA) : Nat := a.2.2.2.2.2.2.2.2.2.1
abbrev MA.m_tickets (a : MA) : Nat := a.2.2.2.2.2.2.2.2.2.2.1
abbrev MA.m_tDay (a : MA) : Nat := a.2.2.2.2.2.2.2.2.2.2.2.1
abbrev MA.m_tBerth (a : MA) : Nat := a.2.2.2.2.2.2.2.2.2.2.2.2.1
abbrev MA.m_tFrom (a : MA) : Nat := a.2.2.2.2.2.2.2.2.2.2.2.2.2.1
abbrev MA.m_tTo (a : MA) : Nat := a.2.2.2.2.2.2.2.2.2.2.2.2.2.2.1
abbrev MA.m_tOffice (a : MA) : Nat := a.2.2.2.2.2.2.2.2.2.2.2.2.2.2.2.1
abbrev MA.m_tBack (a : MA) : Nat := a.2.2.2.2.2.2.2.2.2.2.2.2.2.2.2.2.1
abbrev MA.m_letters (a : MA) : Nat := a.2.2.2.2.2.2.2.2.2.2.2.2.2.2.2.2.2.1
abbrev MA.m_lComes (a : MA) : Nat := a.2.2.2.2.2.2.2.2.2.2.2.2.2.2.2.2.2.2.1
abbrev MA.m_lAnswer (a : MA) : Nat := a.2.2.2.2.2.2.2.2.2.2.2.2.2.2.2.2.2.2.2.1
abbrev MA.m_lOffice (a : MA) : Nat := a.2.2.2.2.2.2.2.2.2.2.2.2.2.2.2.2.2.2.2.2.1
abbrev MA.m_lDay (a : MA) : Nat := a.2.2.2.2.2.2.2.2.2.2.2.2.2.2.2.2.2.2.2.2.2.1
abbrev MA.m_lFrom (a : MA) : Nat := a.2.2.2.2.2.2.2.2.2.2.2.2.2.2.2.2.2.2.2.2.2.2.1
abbrev MA.m_lTo (a : MA) : Nat := a.2.2.2.2.2.2.2.2.2.2.2.2.2.2.2.2.2.2.2.2.2.2.2.1
abbrev MA.m_lTicket (a : MA) : Nat := a.2.2.2.2.2.2.2.2.2.2.2.2.2.2.2.2.2.2.2.2.2.2.2.2.1
abbrev MA.m_now (a : MA) : Nat := a.2.2.2.2.2.2.2.2.2.2.2.2.2.2.2.2.2.2.2.2.2.2.2.2.2.1
abbrev MA.m_lines (a : MA) : Nat := a.2.2.2.2.2.2.2.2.2.2.2.2.2.2.2.2.2.2.2.2.2.2.2.2.2.2.1
abbrev MA.m_lineTests (a : MA) : Nat := a.2.2.2.2.2.2.2.2.2.2.2.2.2.2.2.2.2.2.2.2.2.2.2.2.2.2.2.1
abbrev MA.m_testWhat (a : MA) : Nat := a.2.2.2.2.2.2.2.2.2.2.2.2.2.2.2.2.2.2.2.2.2.2.2.2.2.2.2.2.1
abbrev MA.m_testSign (a : MA) : Nat := a.2.2.2.2.2.2.2.2.2.2.2.2.2.2.2.2.2.2.2.2.2.2.2.2.2.2.2.2.2.1
abbrev MA.m_testThan (a : MA) : Nat := a.2.2.2.2.2.2.2.2.2.2.2.2.2.2.2.2.2.2.2.2.2.2.2.2.2.2.2.2.2.2.1
abbrev MA.m_lineAct (a : MA) : Nat := a.2.2.2.2.2.2.2.2.2.2.2.2.2.2.2.2.2.2.2.2.2.2.2.2.2.2.2.2.2.2.2.1
abbrev MA.m_lineNumber (a : MA) : Nat := a.2.2.2.2.2.2.2.2.2.2.2.2.2.2.2.2.2.2.2.2.2.2.2.2.2.2.2.2.2.2.2.2.1
abbrev MA.m_free (a : MA) : Nat := a.2.2.2.2.2.2.2.2.2.2.2.2.2.2.2.2.2.2.2.2.2.2.2.2.2.2.2.2.2.2.2.2.2.1
abbrev MA.m_newBerth (a : MA) : Nat := a.2.2.2.2.2.2.2.2.2.2.2.2.2.2.2.2.2.2.2.2.2.2.2.2.2.2.2.2.2.2.2.2.2.2.1
abbrev MA.m_newTests (a : MA) : Nat := a.2.2.2.2.2.2.2.2.2.2.2.2.2.2.2.2.2.2.2.2.2.2.2.2.2.2.2.2.2.2.2.2.2.2.2.1
abbrev MA.m_newWhat (a : MA) : Nat := a.2.2.2.2.2.2.2.2.2.2.2.2.2.2.2.2.2.2.2.2.2.2.2.2.2.2.2.2.2.2.2.2.2.2.2.2.1
abbrev MA.m_newSign (a : MA) : Nat := a.2.2.2.2.2.2.2.2.2.2.2.2.2.2.2.2.2.2.2.2.2.2.2.2.2.2.2.2.2.2.2.2.2.2.2.2.2.1
abbrev MA.m_newThan (a : MA) : Nat := a.2.2.2.2.2.2.2.2.2.2.2.2.2.2.2.2.2.2.2.2.2.2.2.2.2.2.2.2.2.2.2.2.2.2.2.2.2.2.1
abbrev MA.m_newAct (a : MA) : Nat := a.2.2.2.2.2.2.2.2.2.2.2.2.2.2.2.2.2.2.2.2.2.2.2.2.2.2.2.2.2.2.2.2.2.2.2.2.2.2.2.1
abbrev MA.m_newNumber (a : MA) : Nat := a.2.2.2.2.2.2.2.2.2.2.2.2.2.2.2.2.2.2.2.2.2.2.2.2.2.2.2.2.2.2.2.2.2.2.2.2.2.2.2.2.1
abbrev MA.m_has (a : MA) : Nat := a.2.2.2.2.2.2.2.2.2.2.2.2.2.2.2.2.2.2.2.2.2.2.2.2.2.2.2.2.2.2.2.2.2.2.2.2.2.2.2.2.2
abbrev MS : Type := Int32 × Int32 × Int32 × Int32 × Int32 × Int32 × Int32 × Int32 × Int32 × Int32 × Int32 × Int64 × (Nat → Int32) × (Nat → Int32) × (Nat → Int32) × (Nat → Int32) × (Nat → Int32) × (Nat → Int32) × (Nat → Int32) × (Nat → Int32) × (Nat → Int32) × (Nat → Int32) × (Nat → Int32) × (Nat → Int32) × (Nat → Int32) × (Nat → Int32) × (Nat → Int32) × (Nat → Int32) × (Nat → Int32) × (Nat → Int32) × (Nat → Int32) × (Nat → Int32) × (Nat → Int32) × (Nat → Int32) × (Nat → Int32) × (Nat → Int32) × (Nat → Int32) × (Nat → Int32) × (Nat → Int32) × (Nat → Int32) × (Nat → Int32) × (Nat → Int32) × (Nat → Int32) × (Nat → Int32) × (Nat → Int32) × (Nat → Int32) × (Nat → Int32) × (Nat → Int32) × (Nat → Int32) × (Nat → Int32) × (Nat → Int32) × (Nat → Int32) × (Nat → Int32)
abbrev MS.zco (a : MS) : Int32 := a.1
abbrev MS.zsz (a : MS) : Int32 := a.2.1
abbrev MS.zah (a : MS) : Int32 := a.2.2.1
abbrev MS.zle (a : MS) : Int32 := a.2.2.2.1
abbrev MS.zbe (a : MS) : Int32 := a.2.2.2.2.1
abbrev MS.zso (a : MS) : Int32 := a.2.2.2.2.2.1
abbrev MS.zva (a : MS) : Int32 := a.2.2.2.2.2.2.1
abbrev MS.zfa (a : MS) : Int32 := a.2.2.2.2.2.2.2.1
abbrev MS.zfp (a : MS) : Int32 := a.2.2.2.2.2.2.2.2.1
abbrev MS.zlp (a : MS) : Int32 := a.2.2.2.2.2.2.2.2.2.1
abbrev MS.znl (a : MS) : Int32 := a.2.2.2.2.2.2.2.2.2.2.1
abbrev MS.zwo (a : MS) : Int64 := a.2.2.2.2.2.2.2.2.2.2.2.1
abbrev MS.f_tape (a : MS) : Nat → Int32 := a.2.2.2.2.2.2.2.2.2.2.2.2.1
abbrev MS.f_stops (a : MS) : Nat → Int32 := a.2.2.2.2.2.2.2.2.2.2.2.2.2.1
abbrev MS.f_km (a : MS) : Nat → Int32 := a.2.2.2.2.2.2.2.2.2.2.2.2.2.2.1
abbrev MS.f_takes (a : MS) : Nat → Int32 := a.2.2.2.2.2.2.2.2.2.2.2.2.2.2.2.1
abbrev MS.f_officeAt (a : MS) : Nat → Int32 := a.2.2.2.2.2.2.2.2.2.2.2.2.2.2.2.2.1
abbrev MS.f_shares (a : MS) : Nat → Int32 := a.2.2.2.2.2.2.2.2.2.2.2.2.2.2.2.2.2.1
abbrev MS.f_berths (a : MS) : Nat → Int32 := a.2.2.2.2.2.2.2.2.2.2.2.2.2.2.2.2.2.2.1
abbrev MS.f_owner (a : MS) : Nat → Int32 := a.2.2.2.2.2.2.2.2.2.2.2.2.2.2.2.2.2.2.2.1
abbrev MS.f_lies (a : MS) : Nat → Int32 := a.2.2.2.2.2.2.2.2.2.2.2.2.2.2.2.2.2.2.2.2.1
abbrev MS.f_tickets (a : MS) : Nat → Int32 := a.2.2.2.2.2.2.2.2.2.2.2.2.2.2.2.2.2.2.2.2.2.1
abbrev MS.f_tDay (a : MS) : Nat → Int32 := a.2.2.2.2.2.2.2.2.2.2.2.2.2.2.2.2.2.2.2.2.2.2.1
abbrev MS.f_tBerth (a : MS) : Nat → Int32 := a.2.2.2.2.2.2.2.2.2.2.2.2.2.2.2.2.2.2.2.2.2.2.2.1
abbrev MS.f_tFrom (a : MS) : Nat → Int32 := a.2.2.2.2.2.2.2.2.2.2.2.2.2.2.2.2.2.2.2.2.2.2.2.2.1
abbrev MS.f_tTo (a : MS) : Nat → Int32 := a.2.2.2.2.2.2.2.2.2.2.2.2.2.2.2.2.2.2.2.2.2.2.2.2.2.1
abbrev MS.f_tOffice (a : MS) : Nat → Int32 := a.2.2.2.2.2.2.2.2.2.2.2.2.2.2.2.2.2.2.2.2.2.2.2.2.2.2.1
abbrev MS.f_tBack (a : MS) : Nat → Int32 := a.2.2.2.2.2.2.2.2.2.2.2.2.2.2.2.2.2.2.2.2.2.2.2.2.2.2.2.1
abbrev MS.f_letters (a : MS) : Nat → Int32 := a.2.2.2.2.2.2.2.2.2.2.2.2.2.2.2.2.2.2.2.2.2.2.2.2.2.2.2.2.1
abbrev MS.f_lComes (a : MS) : Nat → Int32 := a.2.2.2.2.2.2.2.2.2.2.2.2.2.2.2.2.2.2.2.2.2.2.2.2.2.2.2.2.2.1
abbrev MS.f_lAnswer (a : MS) : Nat → Int32 := a.2.2.2.2.2.2.2.2.2.2.2.2.2.2.2.2.2.2.2.2.2.2.2.2.2.2.2.2.2.2.1
abbrev MS.f_lOffice (a : MS) : Nat → Int32 := a.2.2.2.2.2.2.2.2.2.2.2.2.2.2.2.2.2.2.2.2.2.2.2.2.2.2.2.2.2.2.2.1
abbrev MS.f_lDay (a : MS) : Nat → Int32 := a.2.2.2.2.2.2.2.2.2.2.2.2.2.2.2.2.2.2.2.2.2.2.2.2.2.2.2.2.2.2.2.2.1
abbrev MS.f_lFrom (a : MS) : Nat → Int32 := a.2.2.2.2.2.2.2.2.2.2.2.2.2.2.2.2.2.2.2.2.2.2.2.2.2.2.2.2.2.2.2.2.2.1
abbrev MS.f_lTo (a : MS) : Nat → Int32 := a.2.2.2.2.2.2.2.2.2.2.2.2.2.2.2.2.2.2.2.2.2.2.2.2.2.2.2.2.2.2.2.2.2.2.1
abbrev MS.f_lTicket (a : MS) : Nat → Int32 := a.2.2.2.2.2.2.2.2.2.2.2.2.2.2.2.2.2.2.2.2.2.2.2.2.2.2.2.2.2.2.2.2.2.2.2.1
abbrev MS.f_now (a : MS) : Nat → Int32 := a.2.2.2.2.2.2.2.2.2.2.2.2.2.2.2.2.2.2.2.2.2.2.2.2.2.2.2.2.2.2.2.2.2.2.2.2.1
abbrev MS.f_lines (a : MS) : Nat → Int32 := a.2.2.2.2.2.2.2.2.2.2.2.2.2.2.2.2.2.2.2.2.2.2.2.2.2.2.2.2.2.2.2.2.2.2.2.2.2.1
abbrev MS.f_lineTests (a : MS) : Nat → Int32 := a.2.2.2.2.2.2.2.2.2.2.2.2.2.2.2.2.2.2.2.2.2.2.2.2.2.2.2.2.2.2.2.2.2.2.2.2.2.2.1
abbrev MS.f_testWhat (a : MS) : Nat → Int32 := a.2.2.2.2.2.2.2.2.2.2.2.2.2.2.2.2.2.2.2.2.2.2.2.2.2.2.2.2.2.2.2.2.2.2.2.2.2.2.2.1
abbrev MS.f_testSign (a : MS) : Nat → Int32 := a.2.2.2.2.2.2.2.2.2.2.2.2.2.2.2.2.2.2.2.2.2.2.2.2.2.2.2.2.2.2.2.2.2.2.2.2.2.2.2.2.1
abbrev MS.f_testThan (a : MS) : Nat → Int32 := a.2.2.2.2.2.2.2.2.2.2.2.2.2.2.2.2.2.2.2.2.2.2.2.2.2.2.2.2.2.2.2.2.2.2.2.2.2.2.2.2.2.1
abbrev MS.f_lineAct (a : MS) : Nat → Int32 := a.2.2.2.2.2.2.2.2.2.2.2.2.2.2.2.2.2.2.2.2.2.2.2.2.2.2.2.2.2.2.2.2.2.2.2.2.2.2.2.2.2.2.1
abbrev MS.f_lineNumber (a : MS) : Nat → Int32 := a.2.2.2.2.2.2.2.2.2.2.2.2.2.2.2.2.2.2.2.2.2.2.2.2.2.2.2.2.2.2.2.2.2.2.2.2.2.2.2.2.2.2.2.1
abbrev MS.f_free (a : MS) : Nat → Int32 := a.2.2.2.2.2.2.2.2.2.2.2.2.2.2.2.2.2.2.2.2.2.2.2.2.2.2.2.2.2.2.2.2.2.2.2.2.2.2.2.2.2.2.2.2.1
abbrev MS.f_newBerth (a : MS) : Nat → Int32 := a.2.2.2.2.2.2.2.2.2.2.2.2.2.2.2.2.2.2.2.2.2.2.2.2.2.2.2.2.2.2.2.2.2.2.2.2.2.2.2.2.2.2.2.2.2.1
abbrev MS.f_newTests (a : MS) : Nat → Int32 := a.2.2.2.2.2.2.2.2.2.2.2.2.2.2.2.2.2.2.2.2.2.2.2.2.2.2.2.2.2.2.2.2.2.2.2.2.2.2.2.2.2.2.2.2.2.2.1
abbrev MS.f_newWhat (a : MS) : Nat → Int32 := a.2.2.2.2.2.2.2.2.2.2.2.2.2.2.2.2.2.2.2.2.2.2.2.2.2.2.2.2.2.2.2.2.2.2.2.2.2.2.2.2.2.2.2.2.2.2.2.1
abbrev MS.f_newSign (a : MS) : Nat → Int32 := a.2.2.2.2.2.2.2.2.2.2.2.2.2.2.2.2.2.2.2.2.2.2.2.2.2.2.2.2.2.2.2.2.2.2.2.2.2.2.2.2.2.2.2.2.2.2.2.2.1
abbrev MS.f_newThan (a : MS) : Nat → Int32 := a.2.2.2.2.2.2.2.2.2.2.2.2.2.2.2.2.2.2.2.2.2.2.2.2.2.2.2.2.2.2.2.2.2.2.2.2.2.2.2.2.2.2.2.2.2.2.2.2.2.1
abbrev MS.f_newAct (a : MS) : Nat → Int32 := a.2.2.2.2.2.2.2.2.2.2.2.2.2.2.2.2.2.2.2.2.2.2.2.2.2.2.2.2.2.2.2.2.2.2.2.2.2.2.2.2.2.2.2.2.2.2.2.2.2.2.1
abbrev MS.f_newNumber (a : MS) : Nat → Int32 := a.2.2.2.2.2.2.2.2.2.2.2.2.2.2.2.2.2.2.2.2.2.2.2.2.2.2.2.2.2.2.2.2.2.2.2.2.2.2.2.2.2.2.2.2.2.2.2.2.2.2.2.1
abbrev MS.f_has (a : MS) : Nat → Int32 := a.2.2.2.2.2.2.2.2.2.2.2.2.2.2.2.2.2.2.2.2.2.2.2.2.2.2.2.2.2.2.2.2.2.2.2.2.2.2.2.2.2.2.2.2.2.2.2.2.2.2.2.2
def wB (cy : Nat → ClassId) (a : BA) (x : BS) : va_W := [Prod.mk a.b0 (Sum.inr (Prod.mk 0 [Value.int x.now, Value.ref a.r0, Value.ref a.u0, Value.ref a.t0, Value.ref a.l0, Value.ref a.q0, Value.ref a.of, Value.ref a.sh, Value.ref a.nl, Value.ref a.fc])), Prod.mk a.r0 (Sum.inr (Prod.mk 4 [Value.int x.zs, Value.ref a.r1, Value.ref a.r2])), Prod.mk a.r1 (Sum.inl (Prod.mk (cy 0) (Prod.mk 9 (Sum.inl x.fkm)))), Prod.mk a.r2 (Sum.inl (Prod.mk (cy 0) (Prod.mk 9 (Sum.inl x.fhr)))), Prod.mk a.u0 (Sum.inr (Prod.mk 5 [Value.int x.zr, Value.ref a.u1, Value.ref a.u2, Value.ref a.u3])), Prod.mk a.u1 (Sum.inl (Prod.mk (cy 0) (Prod.mk 60 (Sum.inl x.fbe)))), Prod.mk a.u2 (Sum.inl (Prod.mk (cy 0) (Prod.mk 600 (Sum.inl x.fow)))), Prod.mk a.u3 (Sum.inl (Prod.mk (cy 0) (Prod.mk 600 (Sum.inl x.fso)))), Prod.mk a.t0 (Sum.inr (Prod.mk 7 [Value.int x.zt, Value.ref a.t1, Value.ref a.t2, Value.ref a.t3, Value.ref a.t4, Value.ref a.t5, Value.ref a.t6])), Prod.mk a.t1 (Sum.inl (Prod.mk (cy 0) (Prod.mk 300 (Sum.inl x.fda)))), Prod.mk a.t2 (Sum.inl (Prod.mk (cy 0) (Prod.mk 300 (Sum.inl x.fbt)))), Prod.mk a.t3 (Sum.inl (Prod.mk (cy 0) (Prod.mk 300 (Sum.inl x.ffr)))), Prod.mk a.t4 (Sum.inl (Prod.mk (cy 0) (Prod.mk 300 (Sum.inl x.fto)))), Prod.mk a.t5 (Sum.inl (Prod.mk (cy 0) (Prod.mk 300 (Sum.inl x.foc)))), Prod.mk a.t6 (Sum.inl (Prod.mk (cy 0) (Prod.mk 300 (Sum.inl x.fgi)))), Prod.mk a.l0 (Sum.inr (Prod.mk 1 [Value.int x.zl, Value.ref a.l1, Value.ref a.l2, Value.ref a.l3, Value.ref a.l4, Value.ref a.l5, Value.ref a.l6, Value.ref a.l7])), Prod.mk a.l1 (Sum.inl (Prod.mk (cy 0) (Prod.mk 100 (Sum.inl x.lof)))), Prod.mk a.l2 (Sum.inl (Prod.mk (cy 0) (Prod.mk 100 (Sum.inl x.lda)))), Prod.mk a.l3 (Sum.inl (Prod.mk (cy 0) (Prod.mk 100 (Sum.inl x.lfr)))), Prod.mk a.l4 (Sum.inl (Prod.mk (cy 0) (Prod.mk 100 (Sum.inl x.lto)))), Prod.mk a.l5 (Sum.inl (Prod.mk (cy 0) (Prod.mk 100 (Sum.inl x.lco)))), Prod.mk a.l6 (Sum.inl (Prod.mk (cy 0) (Prod.mk 100 (Sum.inl x.lan)))), Prod.mk a.l7 (Sum.inl (Prod.mk (cy 0) (Prod.mk 100 (Sum.inl x.lso)))), Prod.mk a.q0 (Sum.inr (Prod.mk 2 [Value.int x.zq, Value.ref a.q1, Value.ref a.q2, Value.ref a.q3, Value.ref a.q4, Value.ref a.q5, Value.ref a.q6, Value.ref a.q7])), Prod.mk a.q1 (Sum.inl (Prod.mk (cy 0) (Prod.mk 16 (Sum.inl x.qch)))), Prod.mk a.q2 (Sum.inl (Prod.mk (cy 0) (Prod.mk 16 (Sum.inl x.qam)))), Prod.mk a.q3 (Sum.inl (Prod.mk (cy 0) (Prod.mk 16 (Sum.inl x.qte)))), Prod.mk a.q4 (Sum.inl (Prod.mk (cy 0) (Prod.mk 64 (Sum.inl x.qsu)))), Prod.mk a.q5 (Sum.inl (Prod.mk (cy 0) (Prod.mk 64 (Sum.inl x.qsi)))), Prod.mk a.q6 (Sum.inl (Prod.mk (cy 0) (Prod.mk 64 (Sum.inl x.qbo)))), Prod.mk a.q7 (Sum.inl (Prod.mk (cy 0) (Prod.mk 64 (Sum.inl x.qne)))), Prod.mk a.of (Sum.inl (Prod.mk (cy 0) (Prod.mk 6 (Sum.inl x.fof)))), Prod.mk a.sh (Sum.inl (Prod.mk (cy 0) (Prod.mk 10 (Sum.inl x.fsh)))), Prod.mk a.nl (Sum.inl (Prod.mk (cy 0) (Prod.mk 10 (Sum.inl x.fnl)))), Prod.mk a.fc (Sum.inl (Prod.mk (cy 0) (Prod.mk 5 (Sum.inl x.ffc))))]
def wA (cy : Nat → ClassId) (a : XA) (n : MA) (x : XS) (y : MS) : va_W := [Prod.mk a.x0 (Sum.inr (Prod.mk 9 [Value.ref a.bk.b0, Value.ref a.im, Value.ref a.tp, Value.ref a.rd])), Prod.mk a.bk.b0 (Sum.inr (Prod.mk 0 [Value.int x.bk.now, Value.ref a.bk.r0, Value.ref a.bk.u0, Value.ref a.bk.t0, Value.ref a.bk.l0, Value.ref a.bk.q0, Value.ref a.bk.of, Value.ref a.bk.sh, Value.ref a.bk.nl, Value.ref a.bk.fc])), Prod.mk a.bk.r0 (Sum.inr (Prod.mk 4 [Value.int x.bk.zs, Value.ref a.bk.r1, Value.ref a.bk.r2])), Prod.mk a.bk.r1 (Sum.inl (Prod.mk (cy 0) (Prod.mk 9 (Sum.inl x.bk.fkm)))), Prod.mk a.bk.r2 (Sum.inl (Prod.mk (cy 0) (Prod.mk 9 (Sum.inl x.bk.fhr)))), Prod.mk a.bk.u0 (Sum.inr (Prod.mk 5 [Value.int x.bk.zr, Value.ref a.bk.u1, Value.ref a.bk.u2, Value.ref a.bk.u3])), Prod.mk a.bk.u1 (Sum.inl (Prod.mk (cy 0) (Prod.mk 60 (Sum.inl x.bk.fbe)))), Prod.mk a.bk.u2 (Sum.inl (Prod.mk (cy 0) (Prod.mk 600 (Sum.inl x.bk.fow)))), Prod.mk a.bk.u3 (Sum.inl (Prod.mk (cy 0) (Prod.mk 600 (Sum.inl x.bk.fso)))), Prod.mk a.bk.t0 (Sum.inr (Prod.mk 7 [Value.int x.bk.zt, Value.ref a.bk.t1, Value.ref a.bk.t2, Value.ref a.bk.t3, Value.ref a.bk.t4, Value.ref a.bk.t5, Value.ref a.bk.t6])), Prod.mk a.bk.t1 (Sum.inl (Prod.mk (cy 0) (Prod.mk 300 (Sum.inl x.bk.fda)))), Prod.mk a.bk.t2 (Sum.inl (Prod.mk (cy 0) (Prod.mk 300 (Sum.inl x.bk.fbt)))), Prod.mk a.bk.t3 (Sum.inl (Prod.mk (cy 0) (Prod.mk 300 (Sum.inl x.bk.ffr)))), Prod.mk a.bk.t4 (Sum.inl (Prod.mk (cy 0) (Prod.mk 300 (Sum.inl x.bk.fto)))), Prod.mk a.bk.t5 (Sum.inl (Prod.mk (cy 0) (Prod.mk 300 (Sum.inl x.bk.foc)))), Prod.mk a.bk.t6 (Sum.inl (Prod.mk (cy 0) (Prod.mk 300 (Sum.inl x.bk.fgi)))), Prod.mk a.bk.l0 (Sum.inr (Prod.mk 1 [Value.int x.bk.zl, Value.ref a.bk.l1, Value.ref a.bk.l2, Value.ref a.bk.l3, Value.ref a.bk.l4, Value.ref a.bk.l5, Value.ref a.bk.l6, Value.ref a.bk.l7])), Prod.mk a.bk.l1 (Sum.inl (Prod.mk (cy 0) (Prod.mk 100 (Sum.inl x.bk.lof)))), Prod.mk a.bk.l2 (Sum.inl (Prod.mk (cy 0) (Prod.mk 100 (Sum.inl x.bk.lda)))), Prod.mk a.bk.l3 (Sum.inl (Prod.mk (cy 0) (Prod.mk 100 (Sum.inl x.bk.lfr)))), Prod.mk a.bk.l4 (Sum.inl (Prod.mk (cy 0) (Prod.mk 100 (Sum.inl x.bk.lto)))), Prod.mk a.bk.l5 (Sum.inl (Prod.mk (cy 0) (Prod.mk 100 (Sum.inl x.bk.lco)))), Prod.mk a.bk.l6 (Sum.inl (Prod.mk (cy 0) (Prod.mk 100 (Sum.inl x.bk.lan)))), Prod.mk a.bk.l7 (Sum.inl (Prod.mk (cy 0) (Prod.mk 100 (Sum.inl x.bk.lso)))), Prod.mk a.bk.q0 (Sum.inr (Prod.mk 2 [Value.int x.bk.zq, Value.ref a.bk.q1, Value.ref a.bk.q2, Value.ref a.bk.q3, Value.ref a.bk.q4, Value.ref a.bk.q5, Value.ref a.bk.q6, Value.ref a.bk.q7])), Prod.mk a.bk.q1 (Sum.inl (Prod.mk (cy 0) (Prod.mk 16 (Sum.inl x.bk.qch)))), Prod.mk a.bk.q2 (Sum.inl (Prod.mk (cy 0) (Prod.mk 16 (Sum.inl x.bk.qam)))), Prod.mk a.bk.q3 (Sum.inl (Prod.mk (cy 0) (Prod.mk 16 (Sum.inl x.bk.qte)))), Prod.mk a.bk.q4 (Sum.inl (Prod.mk (cy 0) (Prod.mk 64 (Sum.inl x.bk.qsu)))), Prod.mk a.bk.q5 (Sum.inl (Prod.mk (cy 0) (Prod.mk 64 (Sum.inl x.bk.qsi)))), Prod.mk a.bk.q6 (Sum.inl (Prod.mk (cy 0) (Prod.mk 64 (Sum.inl x.bk.qbo)))), Prod.mk a.bk.q7 (Sum.inl (Prod.mk (cy 0) (Prod.mk 64 (Sum.inl x.bk.qne)))), Prod.mk a.bk.of (Sum.inl (Prod.mk (cy 0) (Prod.mk 6 (Sum.inl x.bk.fof)))), Prod.mk a.bk.sh (Sum.inl (Prod.mk (cy 0) (Prod.mk 10 (Sum.inl x.bk.fsh)))), Prod.mk a.bk.nl (Sum.inl (Prod.mk (cy 0) (Prod.mk 10 (Sum.inl x.bk.fnl)))), Prod.mk a.bk.fc (Sum.inl (Prod.mk (cy 0) (Prod.mk 5 (Sum.inl x.bk.ffc)))), Prod.mk a.im (Sum.inl (Prod.mk (cy 3) (Prod.mk 3 (Sum.inr (Sum.inr (Sum.inr (Sum.inr x.fim))))))), Prod.mk a.tp (Sum.inr (Prod.mk 6 [Value.int x.ztp, Value.ref a.tb])), Prod.mk a.tb (Sum.inl (Prod.mk (cy 0) (Prod.mk 400 (Sum.inl x.ftb)))), Prod.mk a.rd (Sum.inr (Prod.mk 3 [Value.int x.zfk, Value.int x.zfp2, Value.ref a.d0, Value.ref a.k0, Value.int x.zat, Value.int x.zsu])), Prod.mk a.d0 (Sum.inr (Prod.mk 2 [Value.int x.zd, Value.ref a.d1, Value.ref a.d2, Value.ref a.d3, Value.ref a.d4, Value.ref a.d5, Value.ref a.d6, Value.ref a.d7])), Prod.mk a.d1 (Sum.inl (Prod.mk (cy 0) (Prod.mk 16 (Sum.inl x.dch)))), Prod.mk a.d2 (Sum.inl (Prod.mk (cy 0) (Prod.mk 16 (Sum.inl x.dam)))), Prod.mk a.d3 (Sum.inl (Prod.mk (cy 0) (Prod.mk 16 (Sum.inl x.dte)))), Prod.mk a.d4 (Sum.inl (Prod.mk (cy 0) (Prod.mk 64 (Sum.inl x.dsu)))), Prod.mk a.d5 (Sum.inl (Prod.mk (cy 0) (Prod.mk 64 (Sum.inl x.dsi)))), Prod.mk a.d6 (Sum.inl (Prod.mk (cy 0) (Prod.mk 64 (Sum.inl x.dbo)))), Prod.mk a.d7 (Sum.inl (Prod.mk (cy 0) (Prod.mk 64 (Sum.inl x.dne)))), Prod.mk a.k0 (Sum.inr (Prod.mk 8 [Value.int x.zk, Value.ref a.k1, Value.ref a.k2, Value.ref a.k3])), Prod.mk a.k1 (Sum.inl (Prod.mk (cy 0) (Prod.mk 401 (Sum.inl x.tq1)))), Prod.mk a.k2 (Sum.inl (Prod.mk (cy 0) (Prod.mk 401 (Sum.inl x.tq2)))), Prod.mk a.k3 (Sum.inl (Prod.mk (cy 0) (Prod.mk 401 (Sum.inl x.tq3)))), Prod.mk n.m0 (Sum.inr (Prod.mk 10 [Value.int y.zco, Value.ref n.m_tape, Value.int y.zsz, Value.ref n.m_stops, Value.ref n.m_km, Value.ref n.m_takes, Value.ref n.m_officeAt, Value.ref n.m_shares, Value.ref n.m_berths, Value.ref n.m_owner, Value.ref n.m_lies, Value.ref n.m_tickets, Value.ref n.m_tDay, Value.ref n.m_tBerth, Value.ref n.m_tFrom, Value.ref n.m_tTo, Value.ref n.m_tOffice, Value.ref n.m_tBack, Value.ref n.m_letters, Value.ref n.m_lComes, Value.ref n.m_lAnswer, Value.ref n.m_lOffice, Value.ref n.m_lDay, Value.ref n.m_lFrom, Value.ref n.m_lTo, Value.ref n.m_lTicket, Value.ref n.m_now, Value.ref n.m_lines, Value.ref n.m_lineTests, Value.ref n.m_testWhat, Value.ref n.m_testSign, Value.ref n.m_testThan, Value.ref n.m_lineAct, Value.ref n.m_lineNumber, Value.ref n.m_free, Value.ref n.m_newBerth, Value.int y.zah, Value.int y.zle, Value.int y.zbe, Value.int y.zso, Value.int y.zva, Value.long y.zwo, Value.int y.zfa, Value.int y.zfp, Value.int y.zlp, Value.int y.znl, Value.ref n.m_newTests, Value.ref n.m_newWhat, Value.ref n.m_newSign, Value.ref n.m_newThan, Value.ref n.m_newAct, Value.ref n.m_newNumber, Value.ref n.m_has])), Prod.mk n.m_tape (Sum.inl (Prod.mk (cy 1) (Prod.mk 400 (Sum.inl y.f_tape)))), Prod.mk n.m_stops (Sum.inl (Prod.mk (cy 0) (Prod.mk 4 (Sum.inl y.f_stops)))), Prod.mk n.m_km (Sum.inl (Prod.mk (cy 0) (Prod.mk 36 (Sum.inl y.f_km)))), Prod.mk n.m_takes (Sum.inl (Prod.mk (cy 0) (Prod.mk 36 (Sum.inl y.f_takes)))), Prod.mk n.m_officeAt (Sum.inl (Prod.mk (cy 0) (Prod.mk 24 (Sum.inl y.f_officeAt)))), Prod.mk n.m_shares (Sum.inl (Prod.mk (cy 0) (Prod.mk 40 (Sum.inl y.f_shares)))), Prod.mk n.m_berths (Sum.inl (Prod.mk (cy 0) (Prod.mk 240 (Sum.inl y.f_berths)))), Prod.mk n.m_owner (Sum.inl (Prod.mk (cy 0) (Prod.mk 2400 (Sum.inl y.f_owner)))), Prod.mk n.m_lies (Sum.inl (Prod.mk (cy 0) (Prod.mk 21600 (Sum.inl y.f_lies)))), Prod.mk n.m_tickets (Sum.inl (Prod.mk (cy 0) (Prod.mk 4 (Sum.inl y.f_tickets)))), Prod.mk n.m_tDay (Sum.inl (Prod.mk (cy 0) (Prod.mk 1200 (Sum.inl y.f_tDay)))), Prod.mk n.m_tBerth (Sum.inl (Prod.mk (cy 0) (Prod.mk 1200 (Sum.inl y.f_tBerth)))), Prod.mk n.m_tFrom (Sum.inl (Prod.mk (cy 0) (Prod.mk 1200 (Sum.inl y.f_tFrom)))), Prod.mk n.m_tTo (Sum.inl (Prod.mk (cy 0) (Prod.mk 1200 (Sum.inl y.f_tTo)))), Prod.mk n.m_tOffice (Sum.inl (Prod.mk (cy 0) (Prod.mk 1200 (Sum.inl y.f_tOffice)))), Prod.mk n.m_tBack (Sum.inl (Prod.mk (cy 0) (Prod.mk 1200 (Sum.inl y.f_tBack)))), Prod.mk n.m_letters (Sum.inl (Prod.mk (cy 0) (Prod.mk 4 (Sum.inl y.f_letters)))), Prod.mk n.m_lComes (Sum.inl (Prod.mk (cy 0) (Prod.mk 400 (Sum.inl y.f_lComes)))), Prod.mk n.m_lAnswer (Sum.inl (Prod.mk (cy 0) (Prod.mk 400 (Sum.inl y.f_lAnswer)))), Prod.mk n.m_lOffice (Sum.inl (Prod.mk (cy 0) (Prod.mk 400 (Sum.inl y.f_lOffice)))), Prod.mk n.m_lDay (Sum.inl (Prod.mk (cy 0) (Prod.mk 400 (Sum.inl y.f_lDay)))), Prod.mk n.m_lFrom (Sum.inl (Prod.mk (cy 0) (Prod.mk 400 (Sum.inl y.f_lFrom)))), Prod.mk n.m_lTo (Sum.inl (Prod.mk (cy 0) (Prod.mk 400 (Sum.inl y.f_lTo)))), Prod.mk n.m_lTicket (Sum.inl (Prod.mk (cy 0) (Prod.mk 400 (Sum.inl y.f_lTicket)))), Prod.mk n.m_now (Sum.inl (Prod.mk (cy 0) (Prod.mk 4 (Sum.inl y.f_now)))), Prod.mk n.m_lines (Sum.inl (Prod.mk (cy 0) (Prod.mk 4 (Sum.inl y.f_lines)))), Prod.mk n.m_lineTests (Sum.inl (Prod.mk (cy 0) (Prod.mk 64 (Sum.inl y.f_lineTests)))), Prod.mk n.m_testWhat (Sum.inl (Prod.mk (cy 0) (Prod.mk 256 (Sum.inl y.f_testWhat)))), Prod.mk n.m_testSign (Sum.inl (Prod.mk (cy 0) (Prod.mk 256 (Sum.inl y.f_testSign)))), Prod.mk n.m_testThan (Sum.inl (Prod.mk (cy 0) (Prod.mk 256 (Sum.inl y.f_testThan)))), Prod.mk n.m_lineAct (Sum.inl (Prod.mk (cy 0) (Prod.mk 64 (Sum.inl y.f_lineAct)))), Prod.mk n.m_lineNumber (Sum.inl (Prod.mk (cy 0) (Prod.mk 64 (Sum.inl y.f_lineNumber)))), Prod.mk n.m_free (Sum.inl (Prod.mk (cy 0) (Prod.mk 10 (Sum.inl y.f_free)))), Prod.mk n.m_newBerth (Sum.inl (Prod.mk (cy 0) (Prod.mk 300 (Sum.inl y.f_newBerth)))), Prod.mk n.m_newTests (Sum.inl (Prod.mk (cy 0) (Prod.mk 17 (Sum.inl y.f_newTests)))), Prod.mk n.m_newWhat (Sum.inl (Prod.mk (cy 0) (Prod.mk 64 (Sum.inl y.f_newWhat)))), Prod.mk n.m_newSign (Sum.inl (Prod.mk (cy 0) (Prod.mk 64 (Sum.inl y.f_newSign)))), Prod.mk n.m_newThan (Sum.inl (Prod.mk (cy 0) (Prod.mk 64 (Sum.inl y.f_newThan)))), Prod.mk n.m_newAct (Sum.inl (Prod.mk (cy 0) (Prod.mk 17 (Sum.inl y.f_newAct)))), Prod.mk n.m_newNumber (Sum.inl (Prod.mk (cy 0) (Prod.mk 17 (Sum.inl y.f_newNumber)))), Prod.mk n.m_has (Sum.inl (Prod.mk (cy 2) (Prod.mk 3 (Sum.inl y.f_has))))]
def BInv (x : BS) : Prop := AllI x.fhr 9 0 24 ∧ AllI x.fbe 60 0 10 ∧ AllI x.fda 300 0 59 ∧ AllI x.fbt 300 0 9 ∧ AllI x.lda 100 0 59 ∧ AllI x.qte 16 0 4 ∧ AllI x.qsu 64 0 4 ∧ (0 ≤ x.now.toInt ∧ x.now.toInt ≤ 2000) ∧ (2 ≤ x.zs.toInt ∧ x.zs.toInt ≤ 10) ∧ (0 ≤ x.zt.toInt ∧ x.zt.toInt ≤ 300) ∧ (0 ≤ x.zl.toInt ∧ x.zl.toInt ≤ 100) ∧ (0 ≤ x.zq.toInt ∧ x.zq.toInt ≤ 16) ∧ x.zr.toInt = cntP x.fbe 60
def XInv (x : XS) : Prop := BInv x.bk ∧ AllI x.dte 16 0 4 ∧ AllI x.dsu 64 0 4 ∧ (0 ≤ x.ztp.toInt ∧ x.ztp.toInt ≤ 400) ∧ (0 ≤ x.zd.toInt ∧ x.zd.toInt ≤ 16) ∧ (0 ≤ x.zk.toInt ∧ x.zk.toInt ≤ 401)
def MInv (y : MS) : Prop := AllI y.f_stops 4 0 10 ∧ AllI y.f_takes 36 0 24 ∧ AllI y.f_officeAt 24 0 9 ∧ AllI y.f_berths 240 0 10 ∧ AllI y.f_tickets 4 0 300 ∧ AllI y.f_tDay 1200 0 59 ∧ AllI y.f_tBerth 1200 0 9 ∧ AllI y.f_tFrom 1200 0 9 ∧ AllI y.f_tTo 1200 0 9 ∧ AllI y.f_letters 4 0 100 ∧ AllI y.f_lDay 400 0 59 ∧ AllI y.f_lFrom 400 0 9 ∧ AllI y.f_lTo 400 0 9 ∧ AllI y.f_now 4 0 2000 ∧ AllI y.f_lines 4 0 16 ∧ AllI y.f_lineTests 64 0 4 ∧ AllI y.f_newBerth 300 0 9 ∧ AllI y.f_newTests 17 0 4
/-- a slot of the reference's rows has what a book has -/
def Cpl (i : Nat) (zs now : Int32) (fhr fbe st tk be nw : Nat → Int32) : Prop := st i = zs ∧ (∀ j : Nat, j < 9 → tk (9 * i + j) = fhr j) ∧ (∀ j : Nat, j < 60 → be (60 * i + j) = fbe j) ∧ nw i = now
abbrev IM : Type := Nat → Option (BA × BS)
def ImAt (k : Nat) (o : Option (BA × BS)) (a : Option Nat) (st tk be nw hs : Nat → Int32) : Prop := match o with
  | none => a = none ∧ (hs k).toInt = 0
  | some q => a = some q.1.b0 ∧ (hs k).toInt ≠ 0 ∧ BInv q.2 ∧ Cpl (k + 1) q.2.zs q.2.now q.2.fhr q.2.fbe st tk be nw
def ImOK (im : IM) (fim : Nat → Option Nat) (st tk be nw hs : Nat → Int32) : Prop := ∀ k : Nat, k < 3 → ImAt k (im k) (fim k) st tk be nw hs
def Inv (im : IM) (x : XS) (y : MS) : Prop := XInv x ∧ MInv y ∧ Cpl 0 x.bk.zs x.bk.now x.bk.fhr x.bk.fbe y.f_stops y.f_takes y.f_berths y.f_now ∧ y.zsz.toInt = x.ztp.toInt ∧ ImOK im x.fim y.f_stops y.f_takes y.f_berths y.f_now y.f_has
def wI (cy : Nat → ClassId) (o : Option (BA × BS)) : va_W := match o with
  | none => []
  | some q => wB cy q.1 q.2
def wT (cy : Nat → ClassId) (im : IM) : va_W := wI cy (im 0) ++ (wI cy (im 1) ++ wI cy (im 2))
def wR (cy : Nat → ClassId) (im : IM) (k : Nat) : va_W := wI cy (im ((k + 1) % 3)) ++ wI cy (im ((k + 2) % 3))
theorem wR_up {cy : Nat → ClassId} {im : IM} {k : Nat} {v : Option (BA × BS)} (hk : k < 3) : wR cy (va_up im k v) k = wR cy im k := by
  unfold wR
  rw [va_up_ne im v (show (k + 1) % 3 ≠ k by omega), va_up_ne im v (show (k + 2) % 3 ≠ k by omega)]
theorem tl_P {D : va_G} {cy : Nat → ClassId} {cl : List vw_C} {X : va_W} {im : IM} {k : Nat} {H : Heap} (hk : k < 3) (h : va_P D cl (X ++ wT cy im) H) : va_P D cl ((X ++ wI cy (im k)) ++ wR cy im k) H := by
  unfold wT at h
  unfold wR
  rcases (show k = 0 ∨ k = 1 ∨ k = 2 by omega) with rfl | rfl | rfl
  · simpa only [List.append_assoc] using h
  · rw [← List.append_assoc] at h
    have h2 := h.swap
    simpa only [List.append_assoc] using h2
  · rw [← List.append_assoc (wI cy (im 0)), ← List.append_assoc] at h
    exact h.swap
theorem tl_D {A : Nat → Prop} {cy : Nat → ClassId} {X : va_W} {im : IM} {k : Nat} (hk : k < 3) (h : va_D A (X ++ wT cy im)) : va_D A ((X ++ wI cy (im k)) ++ wR cy im k) := by
  unfold wT at h
  unfold wR
  rcases (show k = 0 ∨ k = 1 ∨ k = 2 by omega) with rfl | rfl | rfl
  · simpa only [List.append_assoc] using h
  · rw [← List.append_assoc] at h
    have h2 := h.swap
    simpa only [List.append_assoc] using h2
  · rw [← List.append_assoc (wI cy (im 0)), ← List.append_assoc] at h
    exact h.swap
theorem tl_Pb {D : va_G} {cy : Nat → ClassId} {cl : List vw_C} {X : va_W} {im : IM} {k : Nat} {H : Heap} (hk : k < 3) (h : va_P D cl ((X ++ wI cy (im k)) ++ wR cy im k) H) : va_P D cl (X ++ wT cy im) H := by
  unfold wR at h
  unfold wT
  rcases (show k = 0 ∨ k = 1 ∨ k = 2 by omega) with rfl | rfl | rfl
  · simpa only [List.append_assoc] using h
  · rw [← List.append_assoc] at h
    have h2 := va_P.swap (a := X) (b := wI cy (im 1) ++ wI cy (im 2)) (c := wI cy (im 0)) (by simpa only [List.append_assoc] using h)
    simpa only [List.append_assoc] using h2
  · have h2 := va_P.swap (a := X) (b := wI cy (im 2)) (c := wI cy (im 0) ++ wI cy (im 1)) h
    simpa only [List.append_assoc] using h2
theorem tl_Db {A : Nat → Prop} {cy : Nat → ClassId} {X : va_W} {im : IM} {k : Nat} (hk : k < 3) (h : va_D A ((X ++ wI cy (im k)) ++ wR cy im k)) : va_D A (X ++ wT cy im) := by
  unfold wR at h
  unfold wT
  rcases (show k = 0 ∨ k = 1 ∨ k = 2 by omega) with rfl | rfl | rfl
  · simpa only [List.append_assoc] using h
  · rw [← List.append_assoc] at h
    have h2 := va_D.swap (a := X) (b := wI cy (im 1) ++ wI cy (im 2)) (c := wI cy (im 0)) (by simpa only [List.append_assoc] using h)
    simpa only [List.append_assoc] using h2
  · have h2 := va_D.swap (a := X) (b := wI cy (im 2)) (c := wI cy (im 0) ++ wI cy (im 1)) h
    simpa only [List.append_assoc] using h2
theorem va_lP {D : va_G} {cl : List vw_C} {X pl : va_W} {H : Heap} (h : va_P D cl (X ++ pl) H) : va_P D cl X H := fun k q hk => h k q (by rw [List.getElem?_append_left (List.getElem?_eq_some_iff.mp hk).1]; exact hk)
theorem va_lD {A : Nat → Prop} {X pl : va_W} (h : va_D A (X ++ pl)) : va_D A X := ⟨fun i j p q hi hj => h.1 i j p q (by rw [List.getElem?_append_left (List.getElem?_eq_some_iff.mp hi).1]; exact hi) (by rw [List.getElem?_append_left (List.getElem?_eq_some_iff.mp hj).1]; exact hj), fun k q hk => h.2 k q (by rw [List.getElem?_append_left (List.getElem?_eq_some_iff.mp hk).1]; exact hk)⟩
theorem va_sP {D : va_G} {cl : List vw_C} {X cx pl : va_W} {H : Heap} (is : List Nat) (hs : is.map (fun i => X[i]?) = cx.map some) (h : va_P D cl (X ++ pl) H) : va_P D cl (cx ++ pl) H := h.by _ (va_part is hs)
section KT
variable {p : Program} {l : Launch} {e : Env} {R : Room} {s : State} {m : MethodId} {args : Array Value} {below : List Frame} {meth : Method} {c : Code} {H : Heap} {locs : List Loc} {cells slots mc ms pc : Nat} {Q : State → Prop} {ls : Array Slot} {st0 rest : List Value} {D : va_G} {cy : Nat → ClassId} {A : Nat → Prop} {H0 : Heap} {ws wc wr wt : va_W} {a : Array Value}
theorem kt_i {S : Type} {post : Int32 → S → Prop} {wo : S → va_W} (hr : va_Run p l e R s m args below meth c H locs cells slots mc ms (F0 m pc ls st0) rest (QI D cy post wo (va_A wc H.size) a) (va_A wc H.size)) (hP : va_P D vwCl (ws ++ wt) H) (hD : va_D A (ws ++ wt)) (hS : va_S A H0 H locs) (hA : ∀ q : Nat, H0.size ≤ q → A q) (isC isR : List Nat) (hC : isC.map (fun i => ws[i]?) = wc.map some) (hR : isR.map (fun i => ws[i]?) = wr.map some) (hn : va_nd isR = true) (hdis : ∀ i ∈ isR, i ∉ isC)
    (kk : ∀ (r : Int32) (u : S) (H1 : Heap) (locs1 : List Loc), post r u → va_P D vwCl ((wr ++ wo u) ++ wt) H1 → va_D A ((wr ++ wo u) ++ wt) → va_S A H0 H1 locs1 → W p l e R s m args below meth c H1 locs1 (cells + mc) (slots + ms) Q (F0 m (pc + 3) ls (.int r :: rest))) : W p l e R s m args below meth c H locs cells slots Q (F0 m pc ls st0) := by
  have hF := va_free (va_lD hD) hS hA isC hC
  refine va_calli hr hS (fun q _ h => hF q h) hF (fun r u t H1 locs1 ht hvm hw hB hz hk hS1 => ?_)
  obtain ⟨hP1, -, hD1⟩ := hB
  rw [ht] at hP1
  obtain ⟨hP2, hD2⟩ := va_joinQ hP hD isC isR hC hR hn hdis hk hF hP1 hD1
  exact kk r u H1 locs1 hw hP2 hD2 hS1
theorem kt_l {S : Type} {post : Int64 → S → Prop} {wo : S → va_W} (hr : va_Run p l e R s m args below meth c H locs cells slots mc ms (F0 m pc ls st0) rest (QL D cy post wo (va_A wc H.size) a) (va_A wc H.size)) (hP : va_P D vwCl (ws ++ wt) H) (hD : va_D A (ws ++ wt)) (hS : va_S A H0 H locs) (hA : ∀ q : Nat, H0.size ≤ q → A q) (isC isR : List Nat) (hC : isC.map (fun i => ws[i]?) = wc.map some) (hR : isR.map (fun i => ws[i]?) = wr.map some) (hn : va_nd isR = true) (hdis : ∀ i ∈ isR, i ∉ isC)
    (kk : ∀ (r : Int64) (u : S) (H1 : Heap) (locs1 : List Loc), post r u → va_P D vwCl ((wr ++ wo u) ++ wt) H1 → va_D A ((wr ++ wo u) ++ wt) → va_S A H0 H1 locs1 → W p l e R s m args below meth c H1 locs1 (cells + mc) (slots + ms) Q (F0 m (pc + 3) ls (.long r :: rest))) : W p l e R s m args below meth c H locs cells slots Q (F0 m pc ls st0) := by
  have hF := va_free (va_lD hD) hS hA isC hC
  refine va_calll hr hS (fun q _ h => hF q h) hF (fun r u t H1 locs1 ht hvm hw hB hz hk hS1 => ?_)
  obtain ⟨hP1, -, hD1⟩ := hB
  rw [ht] at hP1
  obtain ⟨hP2, hD2⟩ := va_joinQ hP hD isC isR hC hR hn hdis hk hF hP1 hD1
  exact kk r u H1 locs1 hw hP2 hD2 hS1
end KT
/-! the coupling, call by call -/
theorem cnt_congr {f g : Nat → Int32} : ∀ (n : Nat), (∀ j : Nat, j < n → f j = g j) → cntP f n = cntP g n
  | 0, _ => rfl
  | n + 1, h => by
    show cntP f n + _ = cntP g n + _
    rw [cnt_congr n (fun j hj => h j (by omega)), h n (by omega)]
theorem sum_congr {f g : Nat → Int32} : ∀ (n : Nat), (∀ j : Nat, j < n → f j = g j) → sumI f n = sumI g n
  | 0, _ => rfl
  | n + 1, h => by
    show sumI f n + _ = sumI g n + _
    rw [sum_congr n (fun j hj => h j (by omega)), h n (by omega)]
theorem cnt_upd_ge {f : Nat → Int32} {d : Nat} {x : Int32} : ∀ (n : Nat), n ≤ d → cntP (upd f d x) n = cntP f n
  | 0, _ => rfl
  | n + 1, h => by
    show cntP (upd f d x) n + _ = cntP f n + _
    rw [cnt_upd_ge n (by omega), pk_un (by omega)]
theorem cnt_upd {f : Nat → Int32} {d : Nat} {x : Int32} (h0 : (f d).toInt ≤ 0) (h1 : 0 < x.toInt) : ∀ (n : Nat), d < n → cntP (upd f d x) n = cntP f n + 1
  | 0, h => absurd h (Nat.not_lt_zero _)
  | n + 1, h => by
    show cntP (upd f d x) n + _ = cntP f n + _ + 1
    by_cases hd : d = n
    · subst hd
      rw [cnt_upd_ge d (Nat.le_refl _), pk_us, if_pos h1, if_neg (by omega)]
      omega
    · rw [cnt_upd h0 h1 n (by omega), pk_un (by omega)]
      omega
theorem cnt_bd {f : Nat → Int32} : ∀ (n : Nat), 0 ≤ cntP f n ∧ cntP f n ≤ n
  | 0 => ⟨by show (0 : Int) ≤ 0; decide, by show (0 : Int) ≤ ((0 : Nat) : Int); decide⟩
  | n + 1 => by
    have := cnt_bd (f := f) n
    have e : cntP f (n + 1) = cntP f n + (if 0 < (f n).toInt then 1 else 0) := rfl
    rw [e]
    split <;> omega
theorem Cpl.cnt {zs now : Int32} {fhr fbe st tk be nw : Nat → Int32} (h : Cpl 0 zs now fhr fbe st tk be nw) : cntP be 60 = cntP fbe 60 := cnt_congr 60 (fun j hj => by have := h.2.2.1 j hj; rwa [show 60 * 0 + j = j by omega] at this)
theorem Cpl.tk0 {zs now : Int32} {fhr fbe st tk be nw : Nat → Int32} (h : Cpl 0 zs now fhr fbe st tk be nw) {j : Nat} (hj : j < 9) : tk j = fhr j := by have := h.2.1 j hj; rwa [show 9 * 0 + j = j by omega] at this
theorem Cpl.be0 {zs now : Int32} {fhr fbe st tk be nw : Nat → Int32} (h : Cpl 0 zs now fhr fbe st tk be nw) {j : Nat} (hj : j < 60) : be j = fbe j := by have := h.2.2.1 j hj; rwa [show 60 * 0 + j = j by omega] at this
theorem Cpl.mk0 {zs now : Int32} {fhr fbe st tk be nw : Nat → Int32} (h1 : st 0 = zs) (h2 : ∀ j : Nat, j < 9 → tk j = fhr j) (h3 : ∀ j : Nat, j < 60 → be j = fbe j) (h4 : nw 0 = now) : Cpl 0 zs now fhr fbe st tk be nw := ⟨h1, fun j hj => by rw [show 9 * 0 + j = j by omega]; exact h2 j hj, fun j hj => by rw [show 60 * 0 + j = j by omega]; exact h3 j hj, h4⟩
theorem ImOK.congr {im : IM} {fim : Nat → Option Nat} {st tk be nw hs st' tk' be' nw' : Nat → Int32} (h : ImOK im fim st tk be nw hs) (h1 : ∀ j : Nat, 1 ≤ j → st' j = st j) (h2 : ∀ j : Nat, 9 ≤ j → tk' j = tk j) (h3 : ∀ j : Nat, 60 ≤ j → be' j = be j) (h4 : ∀ j : Nat, 1 ≤ j → nw' j = nw j) : ImOK im fim st' tk' be' nw' hs := by
  intro k hk
  have h9 := h k hk
  revert h9
  cases im k with
  | none => exact fun h9 => h9
  | some q =>
    rintro ⟨a1, a2, a3, c1, c2, c3, c4⟩
    exact ⟨a1, a2, a3, by rw [h1 _ (by omega)]; exact c1, fun j hj => by rw [h2 _ (by omega)]; exact c2 j hj, fun j hj => by rw [h3 _ (by omega)]; exact c3 j hj, by rw [h4 _ (by omega)]; exact c4⟩
theorem rf_ge {f : Nat → Int32} {n : Nat} : ∀ j : Nat, n ≤ j → f j = f j := fun _ _ => rfl
theorem upd_ge {f g : Nat → Int32} {i x : Int32} {n : Nat} (h : f = upd g i.toNatClampNeg x) (h1 : i.toInt < n) (h0 : 0 < n := by decide) : ∀ j : Nat, n ≤ j → f j = g j := fun j hj => by rw [h]; exact upd_hi h1 hj h0
theorem eq_ge {f g : Nat → Int32} {n : Nat} (h : f = g) : ∀ j : Nat, n ≤ j → f j = g j := fun _ _ => by rw [h]
theorem upd_cpl {f g f' g' : Nat → Int32} {i x : Int32} {n : Nat} (h : ∀ j : Nat, j < n → f j = g j) (hf : f' = upd f i.toNatClampNeg x) (hg : g' = upd g i.toNatClampNeg x) : ∀ j : Nat, j < n → f' j = g' j := by
  intro j hj
  rw [hf, hg]
  by_cases hq : j = i.toNatClampNeg
  · subst hq; rw [pk_us, pk_us]
  · rw [pk_un hq, pk_un hq]; exact h j hj
theorem nc_eq {x : Int32} (h : 0 ≤ x.toInt) : x.toNatClampNeg = x.toInt.toNat := rfl