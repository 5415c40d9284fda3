abbrev BA : Type := Nat × Nat × Nat × Nat × Nat × Nat × Nat × Nat × Nat × Nat × Nat × Nat × Nat × Nat × Nat × Nat × Nat × Nat × Nat × Nat × Nat × Nat × Nat × Nat × Nat × Nat × Nat × Nat × Nat × Nat × Nat × Nat × Nat × Nat × Nat
abbrev BA.b0 (a : BA) : Nat := a.1
abbrev BA.r0 (a : BA) : Nat := a.2.1
abbrev BA.r1 (a : BA) : Nat := a.2.2.1
abbrev BA.r2 (a : BA) : Nat := a.2.2.2.1
abbrev BA.u0 (a : BA) : Nat := a.2.2.2.2.1
abbrev BA.u1 (a : BA) : Nat := a.2.2.2.2.2.1
abbrev BA.u2 (a : BA) : Nat := a.2.2.2.2.2.2.1
abbrev BA.u3 (a : BA) : Nat := a.2.2.2.2.2.2.2.1
abbrev BA.t0 (a : BA) : Nat := a.2.2.2.2.2.2.2.2.1
abbrev BA.t1 (a : BA) : Nat := a.2.2.2.2.2.2.2.2.2.1
abbrev BA.t2 (a : BA) : Nat := a.2.2.2.2.2.2.2.2.2.2.1
abbrev BA.t3 (a : BA) : Nat := a.2.2.2.2.2.2.2.2.2.2.2.1
abbrev BA.t4 (a : BA) : Nat := a.2.2.2.2.2.2.2.2.2.2.2.2.1
abbrev BA.t5 (a : BA) : Nat := a.2.2.2.2.2.2.2.2.2.2.2.2.2.1
abbrev BA.t6 (a : BA) : Nat := a.2.2.2.2.2.2.2.2.2.2.2.2.2.2.1
abbrev BA.l0 (a : BA) : Nat := a.2.2.2.2.2.2.2.2.2.2.2.2.2.2.2.1
abbrev BA.l1 (a : BA) : Nat := a.2.2.2.2.2.2.2.2.2.2.2.2.2.2.2.2.1
abbrev BA.l2 (a : BA) : Nat := a.2.2.2.2.2.2.2.2.2.2.2.2.2.2.2.2.2.1
abbrev BA.l3 (a : BA) : Nat := a.2.2.2.2.2.2.2.2.2.2.2.2.2.2.2.2.2.2.1
abbrev BA.l4 (a : BA) : Nat := a.2.2.2.2.2.2.2.2.2.2.2.2.2.2.2.2.2.2.2.1
abbrev BA.l5 (a : BA) : Nat := a.2.2.2.2.2.2.2.2.2.2.2.2.2.2.2.2.2.2.2.2.1
abbrev BA.l6 (a : BA) : Nat := a.2.2.2.2.2.2.2.2.2.2.2.2.2.2.2.2.2.2.2.2.2.1
abbrev BA.l7 (a : BA) : Nat := a.2.2.2.2.2.2.2.2.2.2.2.2.2.2.2.2.2.2.2.2.2.2.1
abbrev BA.q0 (a : BA) : Nat := a.2.2.2.2.2.2.2.2.2.2.2.2.2.2.2.2.2.2.2.2.2.2.2.1
abbrev BA.q1 (a : BA) : Nat := a.2.2.2.2.2.2.2.2.2.2.2.2.2.2.2.2.2.2.2.2.2.2.2.2.1
abbrev BA.q2 (a : BA) : Nat := a.2.2.2.2.2.2.2.2.2.2.2.2.2.2.2.2.2.2.2.2.2.2.2.2.2.1
abbrev BA.q3 (a : BA) : Nat := a.2.2.2.2.2.2.2.2.2.2.2.2.2.2.2.2.2.2.2.2.2.2.2.2.2.2.1
abbrev BA.q4 (a : BA) : Nat := a.2.2.2.2.2.2.2.2.2.2.2.2.2.2.2.2.2.2.2.2.2.2.2.2.2.2.2.1
abbrev BA.q5 (a : BA) : Nat := a.2.2.2.2.2.2.2.2.2.2.2.2.2.2.2.2.2.2.2.2.2.2.2.2.2.2.2.2.1
abbrev BA.q6 (a : BA) : Nat := a.2.2.2.2.2.2.2.2.2.2.2.2.2.2.2.2.2.2.2.2.2.2.2.2.2.2.2.2.2.1
abbrev BA.q7 (a : BA) : Nat := a.2.2.2.2.2.2.2.2.2.2.2.2.2.2.2.2.2.2.2.2.2.2.2.2.2.2.2.2.2.2.1
abbrev BA.of (a : BA) : Nat := a.2.2.2.2.2.2.2.2.2.2.2.2.2.2.2.2.2.2.2.2.2.2.2.2.2.2.2.2.2.2.2.1
abbrev BA.sh (a : BA) : Nat := a.2.2.2.2.2.2.2.2.2.2.2.2.2.2.2.2.2.2.2.2.2.2.2.2.2.2.2.2.2.2.2.2.1
abbrev BA.nl (a : BA) : Nat := a.2.2.2.2.2.2.2.2.2.2.2.2.2.2.2.2.2.2.2.2.2.2.2.2.2.2.2.2.2.2.2.2.2.1
abbrev BA.fc (a : BA) : Nat := a.2.2.2.2.2.2.2.2.2.2.2.2.2.2.2.2.2.2.2.2.2.2.2.2.2.2.2.2.2.2.2.2.2.2
abbrev BS : Type := Int32 × Int32 × Int32 × Int32 × Int32 × Int32 × (Nat → Int32) × (Nat → Int32) × (Nat → Int32) × (Nat → Int32) × (Nat → Int32) × (Nat → Int32) × (Nat → Int32) × (Nat → Int32) × (Nat → Int32) × (Nat → Int32) × (Nat → Int32) × (Nat → Int32) × (Nat → Int32) × (Nat → Int32) × (Nat → Int32) × (Nat → Int32) × (Nat → Int32) × (Nat → Int32) × (Nat → Int32) × (Nat → Int32) × (Nat → Int32) × (Nat → Int32) × (Nat → Int32) × (Nat → Int32) × (Nat → Int32) × (Nat → Int32) × (Nat → Int32) × (Nat → Int32) × (Nat → Int32)
abbrev BS.now (a : BS) : Int32 := a.1
abbrev BS.zs (a : BS) : Int32 := a.2.1
abbrev BS.zr (a : BS) : Int32 := a.2.2.1
abbrev BS.zt (a : BS) : Int32 := a.2.2.2.1
abbrev BS.zl (a : BS) : Int32 := a.2.2.2.2.1
abbrev BS.zq (a : BS) : Int32 := a.2.2.2.2.2.1
abbrev BS.fkm (a : BS) : Nat → Int32 := a.2.2.2.2.2.2.1
abbrev BS.fhr (a : BS) : Nat → Int32 := a.2.2.2.2.2.2.2.1
abbrev BS.fbe (a : BS) : Nat → Int32 := a.2.2.2.2.2.2.2.2.1
abbrev BS.fow (a : BS) : Nat → Int32 := a.2.2.2.2.2.2.2.2.2.1
abbrev BS.fso (a : BS) : Nat → Int32 := a.2.2.2.2.2.2.2.2.2.2.1
abbrev BS.fda (a : BS) : Nat → Int32 := a.2.2.2.2.2.2.2.2.2.2.2.1
abbrev BS.fbt (a : BS) : Nat → Int32 := a.2.2.2.2.2.2.2.2.2.2.2.2.1
abbrev BS.ffr (a : BS) : Nat → Int32 := a.2.2.2.2.2.2.2.2.2.2.2.2.2.1
abbrev BS.fto (a : BS) : Nat → Int32 := a.2.2.2.2.2.2.2.2.2.2.2.2.2.2.1
abbrev BS.foc (a : BS) : Nat → Int32 := a.2.2.2.2.2.2.2.2.2.2.2.2.2.2.2.1
abbrev BS.fgi (a : BS) : Nat → Int32 := a.2.2.2.2.2.2.2.2.2.2.2.2.2.2.2.2.1
abbrev BS.lof (a : BS) : Nat → Int32 := a.2.2.2.2.2.2.2.2.2.2.2.2.2.2.2.2.2.1
abbrev BS.lda (a : BS) : Nat → Int32 := a.2.2.2.2.2.2.2.2.2.2.2.2.2.2.2.2.2.2.1
abbrev BS.lfr (a : BS) : Nat → Int32 := a.2.2.2.2.2.2.2.2.2.2.2.2.2.2.2.2.2.2.2.1
abbrev BS.lto (a : BS) : Nat → Int32 := a.2.2.2.2.2.2.2.2.2.2.2.2.2.2.2.2.2.2.2.2.1
abbrev BS.lco (a : BS) : Nat → Int32 := a.2.2.2.2.2.2.2.2.2.2.2.2.2.2.2.2.2.2.2.2.2.1
abbrev BS.lan (a : BS) : Nat → Int32 := a.2.2.2.2.2.2.2.2.2.2.2.2.2.2.2.2.2.2.2.2.2.2.1
abbrev BS.lso (a : BS) : Nat → Int32 := a.2.2.2.2.2.2.2.2.2.2.2.2.2.2.2.2.2.2.2.2.2.2.2.1
abbrev BS.qch (a : BS) : Nat → Int32 := a.2.2.2.2.2.2.2.2.2.2.2.2.2.2.2.2.2.2.2.2.2.2.2.2.1
abbrev BS.qam (a : BS) : Nat → Int32 := a.2.2.2.2.2.2.2.2.2.2.2.2.2.2.2.2.2.2.2.2.2.2.2.2.2.1
abbrev BS.qte (a : BS) : Nat → Int32 := a.2.2.2.2.2.2.2.2.2.2.2.2.2.2.2.2.2.2.2.2.2.2.2.2.2.2.1
abbrev BS.qsu (a : BS) : Nat → Int32 := a.2.2.2.2.2.2.2.2.2.2.2.2.2.2.2.2.2.2.2.2.2.2.2.2.2.2.2.1
abbrev BS.qsi (a : BS) : Nat → Int32 := a.2.2.2.2.2.2.2.2.2.2.2.2.2.2.2.2.2.2.2.2.2.2.2.2.2.2.2.2.1
abbrev BS.qbo (a : BS) : Nat → Int32 := a.2.2.2.2.2.2.2.2.2.2.2.2.2.2.2.2.2.2.2.2.2.2.2.2.2.2.2.2.2.1
abbrev BS.qne (a : BS) : Nat → Int32 := a.2.2.2.2.2.2.2.2.2.2.2.2.2.2.2.2.2.2.2.2.2.2.2.2.2.2.2.2.2.2.1
abbrev BS.fof (a : BS) : Nat → Int32 := a.2.2.2.2.2.2.2.2.2.2.2.2.2.2.2.2.2.2.2.2.2.2.2.2.2.2.2.2.2.2.2.1
abbrev BS.fsh (a : BS) : Nat → Int32 := a.2.2.2.2.2.2.2.2.2.2.2.2.2.2.2.2.2.2.2.2.2.2.2.2.2.2.2.2.2.2.2.2.1
abbrev BS.fnl (a : BS) : Nat → Int32 := a.2.2.2.2.2.2.2.2.2.2.2.2.2.2.2.2.2.2.2.2.2.2.2.2.2.2.2.2.2.2.2.2.2.1
abbrev BS.ffc (a : BS) : Nat → Int32 := a.2.2.2.2.2.2.2.2.2.2.2.2.2.2.2.2.2.2.2.2.2.2.2.2.2.2.2.2.2.2.2.2.2.2
abbrev XA : Type := Nat × BA × Nat × Nat × Nat × Nat × Nat × Nat × Nat × Nat × Nat × Nat × Nat × Nat × Nat × Nat × Nat × Nat
abbrev XA.x0 (a : XA) : Nat := a.1
abbrev XA.bk (a : XA) : BA := a.2.1
abbrev XA.im (a : XA) : Nat := a.2.2.1
abbrev XA.tp (a : XA) : Nat := a.2.2.2.1
abbrev XA.tb (a : XA) : Nat := a.2.2.2.2.1
abbrev XA.rd (a : XA) : Nat := a.2.2.2.2.2.1
abbrev XA.d0 (a : XA) : Nat := a.2.2.2.2.2.2.1
abbrev XA.d1 (a : XA) : Nat := a.2.2.2.2.2.2.2.1
abbrev XA.d2 (a : XA) : Nat := a.2.2.2.2.2.2.2.2.1
abbrev XA.d3 (a : XA) : Nat := a.2.2.2.2.2.2.2.2.2.1
abbrev XA.d4 (a : XA) : Nat := a.2.2.2.2.2.2.2.2.2.2.1
abbrev XA.d5 (a : XA) : Nat := a.2.2.2.2.2.2.2.2.2.2.2.1
abbrev XA.d6 (a : XA) : Nat := a.2.2.2.2.2.2.2.2.2.2.2.2.1
abbrev XA.d7 (a : XA) : Nat := a.2.2.2.2.2.2.2.2.2.2.2.2.2.1
abbrev XA.k0 (a : XA) : Nat := a.2.2.2.2.2.2.2.2.2.2.2.2.2.2.1
abbrev XA.k1 (a : XA) : Nat := a.2.2.2.2.2.2.2.2.2.2.2.2.2.2.2.1
abbrev XA.k2 (a : XA) : Nat := a.2.2.2.2.2.2.2.2.2.2.2.2.2.2.2.2.1
abbrev XA.k3 (a : XA) : Nat := a.2.2.2.2.2.2.2.2.2.2.2.2.2.2.2.2.2
abbrev XS : Type := BS × Int32 × Int32 × Int32 × Int32 × Int32 × Int32 × Int32 × (Nat → Int32) × (Nat → Int32) × (Nat → Int32) × (Nat → Int32) × (Nat → Int32) × (Nat → Int32) × (Nat → Int32) × (Nat → Int32) × (Nat → Int32) × (Nat → Int32) × (Nat → Int32) × (Nat → Option Nat)
abbrev XS.bk (a : XS) : BS := a.1
abbrev XS.ztp (a : XS) : Int32 := a.2.1
abbrev XS.zfk (a : XS) : Int32 := a.2.2.1
abbrev XS.zfp2 (a : XS) : Int32 := a.2.2.2.1
abbrev XS.zat (a : XS) : Int32 := a.2.2.2.2.1
abbrev XS.zsu (a : XS) : Int32 := a.2.2.2.2.2.1
abbrev XS.zd (a : XS) : Int32 := a.2.2.2.2.2.2.1
abbrev XS.zk (a : XS) : Int32 := a.2.2.2.2.2.2.2.1
abbrev XS.ftb (a : XS) : Nat → Int32 := a.2.2.2.2.2.2.2.2.1
abbrev XS.dch (a : XS) : Nat → Int32 := a.2.2.2.2.2.2.2.2.2.1
abbrev XS.dam (a : XS) : Nat → Int32 := a.2.2.2.2.2.2.2.2.2.2.1
abbrev XS.dte (a : XS) : Nat → Int32 := a.2.2.2.2.2.2.2.2.2.2.2.1
abbrev XS.dsu (a : XS) : Nat → Int32 := a.2.2.2.2.2.2.2.2.2.2.2.2.1
abbrev XS.dsi (a : XS) : Nat → Int32 := a.2.2.2.2.2.2.2.2.2.2.2.2.2.1
abbrev XS.dbo (a : XS) : Nat → Int32 := a.2.2.2.2.2.2.2.2.2.2.2.2.2.2.1
abbrev XS.dne (a : XS) : Nat → Int32 := a.2.2.2.2.2.2.2.2.2.2.2.2.2.2.2.1
abbrev XS.tq1 (a : XS) : Nat → Int32 := a.2.2.2.2.2.2.2.2.2.2.2.2.2.2.2.2.1
abbrev XS.tq2 (a : XS) : Nat → Int32 := a.2.2.2.2.2.2.2.2.2.2.2.2.2.2.2.2.2.1
abbrev XS.tq3 (a : XS) : Nat → Int32 := a.2.2.2.2.2.2.2.2.2.2.2.2.2.2.2.2.2.2.1
abbrev XS.fim (a : XS) : Nat → Option Nat := a.2.2.2.2.2.2.2.2.2.2.2.2.2.2.2.2.2.2.2
abbrev MA : Type := Nat × Nat × Nat × Nat × Nat × Nat × Nat × Nat × Nat × Nat × Nat × Nat × Nat × Nat × Nat × Nat × Nat × Nat × Nat × Nat × Nat × Nat × Nat × Nat × Nat × Nat × Nat × Nat × Nat × Nat × Nat × Nat × Nat × Nat × Nat × Nat × Nat × Nat × Nat × Nat × Nat × Nat
abbrev MA.m0 (a : MA) : Nat := a.1
abbrev MA.m_tape (a : MA) : Nat := a.2.1
abbrev MA.m_stops (a : MA) : Nat := a.2.2.1
abbrev MA.m_km (a : MA) : Nat := a.2.2.2.1
abbrev MA.m_takes (a : MA) : Nat := a.2.2.2.2.1
abbrev MA.m_officeAt (a : MA) : Nat := a.2.2.2.2.2.1
abbrev MA.m_shares (a : MA) : Nat := a.2.2.2.2.2.2.1
abbrev MA.m_berths (a : MA) : Nat := a.2.2.2.2.2.2.2.1
abbrev MA.m_owner (a : MA) : Nat := a.2.2.2.2.2.2.2.2.1
abbrev MA.m_lies (a : MA) : Nat := a.2.2.2.2.2.2.2.2.2.1
abbrev MA.m_tickets (a : MA) : Nat := a.2.2.2.2.2.2.2.2.2.2.1
abbrev MA.m_tDay (a : MA) : Nat := a.2.2.2.2.2.2.2.2.2.2.2.1
abbrev MA.m_tBerth (a : MA) : Nat := a.2.2.2.2.2.2.2.2.2.2.2.2.1
abbrev MA.m_tFrom (a : MA) : Nat := a.2.2.2.2.2.2.2.2.2.2.2.2.2.1
abbrev MA.m_tTo (a : MA) : Nat := a.2.2.2.2.2.2.2.2.2.2.2.2.2.2.1
abbrev MA.m_tOffice (a : MA) : Nat := a.2.2.2.2.2.2.2.2.2.2.2.2.2.2.2.1
abbrev MA.m_tBack (a : MA) : Nat := a.2.2.2.2.2.2.2.2.2.2.2.2.2.2.2.2.1
abbrev MA.m_letters (a : MA) : Nat := a.2.2.2.2.2.2.2.2.2.2.2.2.2.2.2.2.2.1
abbrev MA.m_lComes (a : MA) : Nat := a.2.2.2.2.2.2.2.2.2.2.2.2.2.2.2.2.2.2.1
abbrev MA.m_lAnswer (a : MA) : Nat := a.2.2.2.2.2.2.2.2.2.2.2.2.2.2.2.2.2.2.2.1
abbrev MA.m_lOffice (a : MA) : Nat := a.2.2.2.2.2.2.2.2.2.2.2.2.2.2.2.2.2.2.2.2.1
abbrev MA.m_lDay (a : MA) : Nat := a.2.2.2.2.2.2.2.2.2.2.2.2.2.2.2.2.2.2.2.2.2.1
abbrev MA.m_lFrom (a : MA) : Nat := a.2.2.2.2.2.2.2.2.2.2.2.2.2.2.2.2.2.2.2.2.2.2.1
abbrev MA.m_lTo (a : MA) : Nat := a.2.2.2.2.2.2.2.2.2.2.2.2.2.2.2.2.2.2.2.2.2.2.2.1
abbrev MA.m_lTicket (a : MA) : Nat := a.2.2.2.2.2.2.2.2.2.2.2.2.2.2.2.2.2.2.2.2.2.2.2.2.1
abbrev MA.m_now (a : MA) : Nat := a.2.2.2.2.2.2.2.2.2.2.2.2.2.2.2.2.2.2.2.2.2.2.2.2.2.1
abbrev MA.m_lines (a : MA) : Nat := a.2.2.2.2.2.2.2.2.2.2.2.2.2.2.2.2.2.2.2.2.2.2.2.2.2.2.1
abbrev MA.m_lineTests (a : MA) : Nat := a.2.2.2.2.2.2.2.2.2.2.2.2.2.2.2.2.2.2.2.2.2.2.2.2.2.2.2.1
abbrev MA.m_testWhat (a : MA) : Nat := a.2.2.2.2.2.2.2.2.2.2.2.2.2.2.2.2.2.2.2.2.2.2.2.2.2.2.2.2.1
abbrev MA.m_testSign (a : MA) : Nat := a.2.2.2.2.2.2.2.2.2.2.2.2.2.2.2.2.2.2.2.2.2.2.2.2.2.2.2.2.2.1
abbrev MA.m_testThan (a : MA) : Nat := a.2.2.2.2.2.2.2.2.2.2.2.2.2.2.2.2.2.2.2.2.2.2.2.2.2.2.2.2.2.2.1
abbrev MA.m_lineAct (a : MA) : Nat := a.2.2.2.2.2.2.2.2.2.2.2.2.2.2.2.2.2.2.2.2.2.2.2.2.2.2.2.2.2.2.2.1
abbrev MA.m_lineNumber (a : MA) : Nat := a.2.2.2.2.2.2.2.2.2.2.2.2.2.2.2.2.2.2.2.2.2.2.2.2.2.2.2.2.2.2.2.2.1
abbrev MA.m_free (a : MA) : Nat := a.2.2.2.2.2.2.2.2.2.2.2.2.2.2.2.2.2.2.2.2.2.2.2.2.2.2.2.2.2.2.2.2.2.1
abbrev MA.m_newBerth (a : MA) : Nat := a.2.2.2.2.2.2.2.2.2.2.2.2.2.2.2.2.2.2.2.2.2.2.2.2.2.2.2.2.2.2.2.2.2.2.1
abbrev MA.m_newTests (a : MA) : Nat := a.2.2.2.2.2.2.2.2.2.2.2.2.2.2.2.2.2.2.2.2.2.2.2.2.2.2.2.2.2.2.2.2.2.2.2.1
abbrev MA.m_newWhat (a : MA) : Nat := a.2.2.2.2.2.2.2.2.2.2.2.2.2.2.2.2.2.2.2.2.2.2.2.2.2.2.2.2.2.2.2.2.2.2.2.2.1
abbrev MA.m_newSign (a : MA) : Nat := a.2.2.2.2.2.2.2.2.2.2.2.2.2.2.2.2.2.2.2.2.2.2.2.2.2.2.2.2.2.2.2.2.2.2.2.2.2.1
abbrev MA.m_newThan (a : MA) : Nat := a.2.2.2.2.2.2.2.2.2.2.2.2.2.2.2.2.2.2.2.2.2.2.2.2.2.2.2.2.2.2.2.2.2.2.2.2.2.2.1
abbrev MA.m_newAct (a : MA) : Nat := a.2.2.2.2.2.2.2.2.2.2.2.2.2.2.2.2.2.2.2.2.2.2.2.2.2.2.2.2.2.2.2.2.2.2.2.2.2.2.2.1
abbrev MA.m_newNumber (a : MA) : Nat := a.2.2.2.2.2.2.2.2.2.2.2.2.2.2.2.2.2.2.2.2.2.2.2.2.2.2.2.2.2.2.2.2.2.2.2.2.2.2.2.2.1
abbrev MA.m_has (a : MA) : Nat := a.2.2.2.2.2.2.2.2.2.2.2.2.2.2.2.2.2.2.2.2.2.2.2.2.2.2.2.2.2.2.2.2.2.2.2.2.2.2.2.2.2
abbrev MS : Type := Int32 × Int32 × Int32 × Int32 × Int32 × Int32 × Int32 × Int32 × Int32 × Int32 × Int32 × Int64 × (Nat → Int32) × (Nat → Int32) × (Nat → Int32) × (Nat → Int32) × (Nat → Int32) × (Nat → Int32) × (Nat → Int32) × (Nat → Int32) × (Nat → Int32) × (Nat → Int32) × (Nat → Int32) × (Nat → Int32) × (Nat → Int32) × (Nat → Int32) × (Nat → Int32) × (Nat → Int32) × (Nat → Int32) × (Nat → Int32) × (Nat → Int32) × (Nat → Int32) × (Nat → Int32) × (Nat → Int32) × (Nat → Int32) × (Nat → Int32) × (Nat → Int32) × (Nat → Int32) × (Nat → Int32) × (Nat → Int32) × (Nat → Int32) × (Nat → Int32) × (Nat → Int32) × (Nat → Int32) × (Nat → Int32) × (Nat → Int32) × (Nat → Int32) × (Nat → Int32) × (Nat → Int32) × (Nat → Int32) × (Nat → Int32) × (Nat → Int32) × (Nat → Int32)
abbrev MS.zco (a : MS) : Int32 := a.1
abbrev MS.zsz (a : MS) : Int32 := a.2.1
abbrev MS.zah (a : MS) : Int32 := a.2.2.1
abbrev MS.zle (a : MS) : Int32 := a.2.2.2.1
abbrev MS.zbe (a : MS) : Int32 := a.2.2.2.2.1
abbrev MS.zso (a : MS) : Int32 := a.2.2.2.2.2.1
abbrev MS.zva (a : MS) : Int32 := a.2.2.2.2.2.2.1
abbrev MS.zfa (a : MS) : Int32 := a.2.2.2.2.2.2.2.1
abbrev MS.zfp (a : MS) : Int32 := a.2.2.2.2.2.2.2.2.1
abbrev MS.zlp (a : MS) : Int32 := a.2.2.2.2.2.2.2.2.2.1
abbrev MS.znl (a : MS) : Int32 := a.2.2.2.2.2.2.2.2.2.2.1
abbrev MS.zwo (a : MS) : Int64 := a.2.2.2.2.2.2.2.2.2.2.2.1
abbrev MS.f_tape (a : MS) : Nat → Int32 := a.2.2.2.2.2.2.2.2.2.2.2.2.1
abbrev MS.f_stops (a : MS) : Nat → Int32 := a.2.2.2.2.2.2.2.2.2.2.2.2.2.1
abbrev MS.f_km (a : MS) : Nat → Int32 := a.2.2.2.2.2.2.2.2.2.2.2.2.2.2.1
abbrev MS.f_takes (a : MS) : Nat → Int32 := a.2.2.2.2.2.2.2.2.2.2.2.2.2.2.2.1
abbrev MS.f_officeAt (a : MS) : Nat → Int32 := a.2.2.2.2.2.2.2.2.2.2.2.2.2.2.2.2.1
abbrev MS.f_shares (a : MS) : Nat → Int32 := a.2.2.2.2.2.2.2.2.2.2.2.2.2.2.2.2.2.1
abbrev MS.f_berths (a : MS) : Nat → Int32 := a.2.2.2.2.2.2.2.2.2.2.2.2.2.2.2.2.2.2.1
abbrev MS.f_owner (a : MS) : Nat → Int32 := a.2.2.2.2.2.2.2.2.2.2.2.2.2.2.2.2.2.2.2.1
abbrev MS.f_lies (a : MS) : Nat → Int32 := a.2.2.2.2.2.2.2.2.2.2.2.2.2.2.2.2.2.2.2.2.1
abbrev MS.f_tickets (a : MS) : Nat → Int32 := a.2.2.2.2.2.2.2.2.2.2.2.2.2.2.2.2.2.2.2.2.2.1
abbrev MS.f_tDay (a : MS) : Nat → Int32 := a.2.2.2.2.2.2.2.2.2.2.2.2.2.2.2.2.2.2.2.2.2.2.1
abbrev MS.f_tBerth (a : MS) : Nat → Int32 := a.2.2.2.2.2.2.2.2.2.2.2.2.2.2.2.2.2.2.2.2.2.2.2.1
abbrev MS.f_tFrom (a : MS) : Nat → Int32 := a.2.2.2.2.2.2.2.2.2.2.2.2.2.2.2.2.2.2.2.2.2.2.2.2.1
abbrev MS.f_tTo (a : MS) : Nat → Int32 := a.2.2.2.2.2.2.2.2.2.2.2.2.2.2.2.2.2.2.2.2.2.2.2.2.2.1
abbrev MS.f_tOffice (a : MS) : Nat → Int32 := a.2.2.2.2.2.2.2.2.2.2.2.2.2.2.2.2.2.2.2.2.2.2.2.2.2.2.1
abbrev MS.f_tBack (a : MS) : Nat → Int32 := a.2.2.2.2.2.2.2.2.2.2.2.2.2.2.2.2.2.2.2.2.2.2.2.2.2.2.2.1
abbrev MS.f_letters (a : MS) : Nat → Int32 := a.2.2.2.2.2.2.2.2.2.2.2.2.2.2.2.2.2.2.2.2.2.2.2.2.2.2.2.2.1
abbrev MS.f_lComes (a : MS) : Nat → Int32 := a.2.2.2.2.2.2.2.2.2.2.2.2.2.2.2.2.2.2.2.2.2.2.2.2.2.2.2.2.2.1
abbrev MS.f_lAnswer (a : MS) : Nat → Int32 := a.2.2.2.2.2.2.2.2.2.2.2.2.2.2.2.2.2.2.2.2.2.2.2.2.2.2.2.2.2.2.1
abbrev MS.f_lOffice (a : MS) : Nat → Int32 := a.2.2.2.2.2.2.2.2.2.2.2.2.2.2.2.2.2.2.2.2.2.2.2.2.2.2.2.2.2.2.2.1
abbrev MS.f_lDay (a : MS) : Nat → Int32 := a.2.2.2.2.2.2.2.2.2.2.2.2.2.2.2.2.2.2.2.2.2.2.2.2.2.2.2.2.2.2.2.2.1
abbrev MS.f_lFrom (a : MS) : Nat → Int32 := a.2.2.2.2.2.2.2.2.2.2.2.2.2.2.2.2.2.2.2.2.2.2.2.2.2.2.2.2.2.2.2.2.2.1
abbrev MS.f_lTo (a : MS) : Nat → Int32 := a.2.2.2.2.2.2.2.2.2.2.2.2.2.2.2.2.2.2.2.2.2.2.2.2.2.2.2.2.2.2.2.2.2.2.1
abbrev MS.f_lTicket (a : MS) : Nat → Int32 := a.2.2.2.2.2.2.2.2.2.2.2.2.2.2.2.2.2.2.2.2.2.2.2.2.2.2.2.2.2.2.2.2.2.2.2.1
abbrev MS.f_now (a : MS) : Nat → Int32 := a.2.2.2.2.2.2.2.2.2.2.2.2.2.2.2.2.2.2.2.2.2.2.2.2.2.2.2.2.2.2.2.2.2.2.2.2.1
abbrev MS.f_lines (a : MS) : Nat → Int32 := a.2.2.2.2.2.2.2.2.2.2.2.2.2.2.2.2.2.2.2.2.2.2.2.2.2.2.2.2.2.2.2.2.2.2.2.2.2.1
abbrev MS.f_lineTests (a : MS) : Nat → Int32 := a.2.2.2.2.2.2.2.2.2.2.2.2.2.2.2.2.2.2.2.2.2.2.2.2.2.2.2.2.2.2.2.2.2.2.2.2.2.2.1
abbrev MS.f_testWhat (a : MS) : Nat → Int32 := a.2.2.2.2.2.2.2.2.2.2.2.2.2.2.2.2.2.2.2.2.2.2.2.2.2.2.2.2.2.2.2.2.2.2.2.2.2.2.2.1
abbrev MS.f_testSign (a : MS) : Nat → Int32 := a.2.2.2.2.2.2.2.2.2.2.2.2.2.2.2.2.2.2.2.2.2.2.2.2.2.2.2.2.2.2.2.2.2.2.2.2.2.2.2.2.1
abbrev MS.f_testThan (a : MS) : Nat → Int32 := a.2.2.2.2.2.2.2.2.2.2.2.2.2.2.2.2.2.2.2.2.2.2.2.2.2.2.2.2.2.2.2.2.2.2.2.2.2.2.2.2.2.1
abbrev MS.f_lineAct (a : MS) : Nat → Int32 := a.2.2.2.2.2.2.2.2.2.2.2.2.2.2.2.2.2.2.2.2.2.2.2.2.2.2.2.2.2.2.2.2.2.2.2.2.2.2.2.2.2.2.1
abbrev MS.f_lineNumber (a : MS) : Nat → Int32 := a.2.2.2.2.2.2.2.2.2.2.2.2.2.2.2.2.2.2.2.2.2.2.2.2.2.2.2.2.2.2.2.2.2.2.2.2.2.2.2.2.2.2.2.1
abbrev MS.f_free (a : MS) : Nat → Int32 := a.2.2.2.2.2.2.2.2.2.2.2.2.2.2.2.2.2.2.2.2.2.2.2.2.2.2.2.2.2.2.2.2.2.2.2.2.2.2.2.2.2.2.2.2.1
abbrev MS.f_newBerth (a : MS) : Nat → Int32 := a.2.2.2.2.2.2.2.2.2.2.2.2.2.2.2.2.2.2.2.2.2.2.2.2.2.2.2.2.2.2.2.2.2.2.2.2.2.2.2.2.2.2.2.2.2.1
abbrev MS.f_newTests (a : MS) : Nat → Int32 := a.2.2.2.2.2.2.2.2.2.2.2.2.2.2.2.2.2.2.2.2.2.2.2.2.2.2.2.2.2.2.2.2.2.2.2.2.2.2.2.2.2.2.2.2.2.2.1
abbrev MS.f_newWhat (a : MS) : Nat → Int32 := a.2.2.2.2.2.2.2.2.2.2.2.2.2.2.2.2.2.2.2.2.2.2.2.2.2.2.2.2.2.2.2.2.2.2.2.2.2.2.2.2.2.2.2.2.2.2.2.1
abbrev MS.f_newSign (a : MS) : Nat → Int32 := a.2.2.2.2.2.2.2.2.2.2.2.2.2.2.2.2.2.2.2.2.2.2.2.2.2.2.2.2.2.2.2.2.2.2.2.2.2.2.2.2.2.2.2.2.2.2.2.2.1
abbrev MS.f_newThan (a : MS) : Nat → Int32 := a.2.2.2.2.2.2.2.2.2.2.2.2.2.2.2.2.2.2.2.2.2.2.2.2.2.2.2.2.2.2.2.2.2.2.2.2.2.2.2.2.2.2.2.2.2.2.2.2.2.1
abbrev MS.f_newAct (a : MS) : Nat → Int32 := a.2.2.2.2.2.2.2.2.2.2.2.2.2.2.2.2.2.2.2.2.2.2.2.2.2.2.2.2.2.2.2.2.2.2.2.2.2.2.2.2.2.2.2.2.2.2.2.2.2.2.1
abbrev MS.f_newNumber (a : MS) : Nat → Int32 := a.2.2.2.2.2.2.2.2.2.2.2.2.2.2.2.2.2.2.2.2.2.2.2.2.2.2.2.2.2.2.2.2.2.2.2.2.2.2.2.2.2.2.2.2.2.2.2.2.2.2.2.1
abbrev MS.f_has (a : MS) : Nat → Int32 := a.2.2.2.2.2.2.2.2.2.2.2.2.2.2.2.2.2.2.2.2.2.2.2.2.2.2.2.2.2.2.2.2.2.2.2.2.2.2.2.2.2.2.2.2.2.2.2.2.2.2.2.2
def wB (cy : Nat → ClassId) (a : BA) (x : BS) : va_W := [(a.b0, .inr (0, [.int x.now, .ref a.r0, .ref a.u0, .ref a.t0, .ref a.l0, .ref a.q0, .ref a.of, .ref a.sh, .ref a.nl, .ref a.fc])), (a.r0, .inr (4, [.int x.zs, .ref a.r1, .ref a.r2])), (a.r1, .inl (cy 0, 9, .inl x.fkm)), (a.r2, .inl (cy 0, 9, .inl x.fhr)), (a.u0, .inr (5, [.int x.zr, .ref a.u1, .ref a.u2, .ref a.u3])), (a.u1, .inl (cy 0, 60, .inl x.fbe)), (a.u2, .inl (cy 0, 600, .inl x.fow)), (a.u3, .inl (cy 0, 600, .inl x.fso)), (a.t0, .inr (7, [.int x.zt, .ref a.t1, .ref a.t2, .ref a.t3, .ref a.t4, .ref a.t5, .ref a.t6])), (a.t1, .inl (cy 0, 300, .inl x.fda)), (a.t2, .inl (cy 0, 300, .inl x.fbt)), (a.t3, .inl (cy 0, 300, .inl x.ffr)), (a.t4, .inl (cy 0, 300, .inl x.fto)), (a.t5, .inl (cy 0, 300, .inl x.foc)), (a.t6, .inl (cy 0, 300, .inl x.fgi)), (a.l0, .inr (1, [.int x.zl, .ref a.l1, .ref a.l2, .ref a.l3, .ref a.l4, .ref a.l5, .ref a.l6, .ref a.l7])), (a.l1, .inl (cy 0, 100, .inl x.lof)), (a.l2, .inl (cy 0, 100, .inl x.lda)), (a.l3, .inl (cy 0, 100, .inl x.lfr)), (a.l4, .inl (cy 0, 100, .inl x.lto)), (a.l5, .inl (cy 0, 100, .inl x.lco)), (a.l6, .inl (cy 0, 100, .inl x.lan)), (a.l7, .inl (cy 0, 100, .inl x.lso)), (a.q0, .inr (2, [.int x.zq, .ref a.q1, .ref a.q2, .ref a.q3, .ref a.q4, .ref a.q5, .ref a.q6, .ref a.q7])), (a.q1, .inl (cy 0, 16, .inl x.qch)), (a.q2, .inl (cy 0, 16, .inl x.qam)), (a.q3, .inl (cy 0, 16, .inl x.qte)), (a.q4, .inl (cy 0, 64, .inl x.qsu)), (a.q5, .inl (cy 0, 64, .inl x.qsi)), (a.q6, .inl (cy 0, 64, .inl x.qbo)), (a.q7, .inl (cy 0, 64, .inl x.qne)), (a.of, .inl (cy 0, 6, .inl x.fof)), (a.sh, .inl (cy 0, 10, .inl x.fsh)), (a.nl, .inl (cy 0, 10, .inl x.fnl)), (a.fc, .inl (cy 0, 5, .inl x.ffc))]
def wA (cy : Nat → ClassId) (a : XA) (n : MA) (x : XS) (y : MS) : va_W := [(a.x0, .inr (9, [.ref a.bk.b0, .ref a.im, .ref a.tp, .ref a.rd])), (a.bk.b0, .inr (0, [.int x.bk.now, .ref a.bk.r0, .ref a.bk.u0, .ref a.bk.t0, .ref a.bk.l0, .ref a.bk.q0, .ref a.bk.of, .ref a.bk.sh, .ref a.bk.nl, .ref a.bk.fc])), (a.bk.r0, .inr (4, [.int x.bk.zs, .ref a.bk.r1, .ref a.bk.r2])), (a.bk.r1, .inl (cy 0, 9, .inl x.bk.fkm)), (a.bk.r2, .inl (cy 0, 9, .inl x.bk.fhr)), (a.bk.u0, .inr (5, [.int x.bk.zr, .ref a.bk.u1, .ref a.bk.u2, .ref a.bk.u3])), (a.bk.u1, .inl (cy 0, 60, .inl x.bk.fbe)), (a.bk.u2, .inl (cy 0, 600, .inl x.bk.fow)), (a.bk.u3, .inl (cy 0, 600, .inl x.bk.fso)), (a.bk.t0, .inr (7, [.int x.bk.zt, .ref a.bk.t1, .ref a.bk.t2, .ref a.bk.t3, .ref a.bk.t4, .ref a.bk.t5, .ref a.bk.t6])), (a.bk.t1, .inl (cy 0, 300, .inl x.bk.fda)), (a.bk.t2, .inl (cy 0, 300, .inl x.bk.fbt)), (a.bk.t3, .inl (cy 0, 300, .inl x.bk.ffr)), (a.bk.t4, .inl (cy 0, 300, .inl x.bk.fto)), (a.bk.t5, .inl (cy 0, 300, .inl x.bk.foc)), (a.bk.t6, .inl (cy 0, 300, .inl x.bk.fgi)), (a.bk.l0, .inr (1, [.int x.bk.zl, .ref a.bk.l1, .ref a.bk.l2, .ref a.bk.l3, .ref a.bk.l4, .ref a.bk.l5, .ref a.bk.l6, .ref a.bk.l7])), (a.bk.l1, .inl (cy 0, 100, .inl x.bk.lof)), (a.bk.l2, .inl (cy 0, 100, .inl x.bk.lda)), (a.bk.l3, .inl (cy 0, 100, .inl x.bk.lfr)), (a.bk.l4, .inl (cy 0, 100, .inl x.bk.lto)), (a.bk.l5, .inl (cy 0, 100, .inl x.bk.lco)), (a.bk.l6, .inl (cy 0, 100, .inl x.bk.lan)), (a.bk.l7, .inl (cy 0, 100, .inl x.bk.lso)), (a.bk.q0, .inr (2, [.int x.bk.zq, .ref a.bk.q1, .ref a.bk.q2, .ref a.bk.q3, .ref a.bk.q4, .ref a.bk.q5, .ref a.bk.q6, .ref a.bk.q7])), (a.bk.q1, .inl (cy 0, 16, .inl x.bk.qch)), (a.bk.q2, .inl (cy 0, 16, .inl x.bk.qam)), (a.bk.q3, .inl (cy 0, 16, .inl x.bk.qte)), (a.bk.q4, .inl (cy 0, 64, .inl x.bk.qsu)), (a.bk.q5, .inl (cy 0, 64, .inl x.bk.qsi)), (a.bk.q6, .inl (cy 0, 64, .inl x.bk.qbo)), (a.bk.q7, .inl (cy 0, 64, .inl x.bk.qne)), (a.bk.of, .inl (cy 0, 6, .inl x.bk.fof)), (a.bk.sh, .inl (cy 0, 10, .inl x.bk.fsh)), (a.bk.nl, .inl (cy 0, 10, .inl x.bk.fnl)), (a.bk.fc, .inl (cy 0, 5, .inl x.bk.ffc)), (a.im, .inl (cy 3, 3, .inr (.inr (.inr (.inr x.fim))))), (a.tp, .inr (6, [.int x.ztp, .ref a.tb])), (a.tb, .inl (cy 0, 400, .inl x.ftb)), (a.rd, .inr (3, [.int x.zfk, .int x.zfp2, .ref a.d0, .ref a.k0, .int x.zat, .int x.zsu])), (a.d0, .inr (2, [.int x.zd, .ref a.d1, .ref a.d2, .ref a.d3, .ref a.d4, .ref a.d5, .ref a.d6, .ref a.d7])), (a.d1, .inl (cy 0, 16, .inl x.dch)), (a.d2, .inl (cy 0, 16, .inl x.dam)), (a.d3, .inl (cy 0, 16, .inl x.dte)), (a.d4, .inl (cy 0, 64, .inl x.dsu)), (a.d5, .inl (cy 0, 64, .inl x.dsi)), (a.d6, .inl (cy 0, 64, .inl x.dbo)), (a.d7, .inl (cy 0, 64, .inl x.dne)), (a.k0, .inr (8, [.int x.zk, .ref a.k1, .ref a.k2, .ref a.k3])), (a.k1, .inl (cy 0, 401, .inl x.tq1)), (a.k2, .inl (cy 0, 401, .inl x.tq2)), (a.k3, .inl (cy 0, 401, .inl x.tq3)), (n.m0, .inr (10, [.int y.zco, .ref n.m_tape, .int y.zsz, .ref n.m_stops, .ref n.m_km, .ref n.m_takes, .ref n.m_officeAt, .ref n.m_shares, .ref n.m_berths, .ref n.m_owner, .ref n.m_lies, .ref n.m_tickets, .ref n.m_tDay, .ref n.m_tBerth, .ref n.m_tFrom, .ref n.m_tTo, .ref n.m_tOffice, .ref n.m_tBack, .ref n.m_letters, .ref n.m_lComes, .ref n.m_lAnswer, .ref n.m_lOffice, .ref n.m_lDay, .ref n.m_lFrom, .ref n.m_lTo, .ref n.m_lTicket, .ref n.m_now, .ref n.m_lines, .ref n.m_lineTests, .ref n.m_testWhat, .ref n.m_testSign, .ref n.m_testThan, .ref n.m_lineAct, .ref n.m_lineNumber, .ref n.m_free, .ref n.m_newBerth, .int y.zah, .int y.zle, .int y.zbe, .int y.zso, .int y.zva, .long y.zwo, .int y.zfa, .int y.zfp, .int y.zlp, .int y.znl, .ref n.m_newTests, .ref n.m_newWhat, .ref n.m_newSign, .ref n.m_newThan, .ref n.m_newAct, .ref n.m_newNumber, .ref n.m_has])), (n.m_tape, .inl (cy 1, 400, .inl y.f_tape)), (n.m_stops, .inl (cy 0, 4, .inl y.f_stops)), (n.m_km, .inl (cy 0, 36, .inl y.f_km)), (n.m_takes, .inl (cy 0, 36, .inl y.f_takes)), (n.m_officeAt, .inl (cy 0, 24, .inl y.f_officeAt)), (n.m_shares, .inl (cy 0, 40, .inl y.f_shares)), (n.m_berths, .inl (cy 0, 240, .inl y.f_berths)), (n.m_owner, .inl (cy 0, 2400, .inl y.f_owner)), (n.m_lies, .inl (cy 0, 21600, .inl y.f_lies)), (n.m_tickets, .inl (cy 0, 4, .inl y.f_tickets)), (n.m_tDay, .inl (cy 0, 1200, .inl y.f_tDay)), (n.m_tBerth, .inl (cy 0, 1200, .inl y.f_tBerth)), (n.m_tFrom, .inl (cy 0, 1200, .inl y.f_tFrom)), (n.m_tTo, .inl (cy 0, 1200, .inl y.f_tTo)), (n.m_tOffice, .inl (cy 0, 1200, .inl y.f_tOffice)), (n.m_tBack, .inl (cy 0, 1200, .inl y.f_tBack)), (n.m_letters, .inl (cy 0, 4, .inl y.f_letters)), (n.m_lComes, .inl (cy 0, 400, .inl y.f_lComes)), (n.m_lAnswer, .inl (cy 0, 400, .inl y.f_lAnswer)), (n.m_lOffice, .inl (cy 0, 400, .inl y.f_lOffice)), (n.m_lDay, .inl (cy 0, 400, .inl y.f_lDay)), (n.m_lFrom, .inl (cy 0, 400, .inl y.f_lFrom)), (n.m_lTo, .inl (cy 0, 400, .inl y.f_lTo)), (n.m_lTicket, .inl (cy 0, 400, .inl y.f_lTicket)), (n.m_now, .inl (cy 0, 4, .inl y.f_now)), (n.m_lines, .inl (cy 0, 4, .inl y.f_lines)), (n.m_lineTests, .inl (cy 0, 64, .inl y.f_lineTests)), (n.m_testWhat, .inl (cy 0, 256, .inl y.f_testWhat)), (n.m_testSign, .inl (cy 0, 256, .inl y.f_testSign)), (n.m_testThan, .inl (cy 0, 256, .inl y.f_testThan)), (n.m_lineAct, .inl (cy 0, 64, .inl y.f_lineAct)), (n.m_lineNumber, .inl (cy 0, 64, .inl y.f_lineNumber)), (n.m_free, .inl (cy 0, 10, .inl y.f_free)), (n.m_newBerth, .inl (cy 0, 300, .inl y.f_newBerth)), (n.m_newTests, .inl (cy 0, 17, .inl y.f_newTests)), (n.m_newWhat, .inl (cy 0, 64, .inl y.f_newWhat)), (n.m_newSign, .inl (cy 0, 64, .inl y.f_newSign)), (n.m_newThan, .inl (cy 0, 64, .inl y.f_newThan)), (n.m_newAct, .inl (cy 0, 17, .inl y.f_newAct)), (n.m_newNumber, .inl (cy 0, 17, .inl y.f_newNumber)), (n.m_has, .inl (cy 2, 3, .inl y.f_has))]
def BInv (x : BS) : Prop := AllI x.fhr 9 0 24 ∧ AllI x.fbe 60 0 10 ∧ AllI x.fda 300 0 59 ∧ AllI x.fbt 300 0 9 ∧ AllI x.lda 100 0 59 ∧ AllI x.qte 16 0 4 ∧ AllI x.qsu 64 0 4 ∧ (0 ≤ x.now.toInt ∧ x.now.toInt ≤ 2000) ∧ (2 ≤ x.zs.toInt ∧ x.zs.toInt ≤ 10) ∧ (0 ≤ x.zt.toInt ∧ x.zt.toInt ≤ 300) ∧ (0 ≤ x.zl.toInt ∧ x.zl.toInt ≤ 100) ∧ (0 ≤ x.zq.toInt ∧ x.zq.toInt ≤ 16) ∧ x.zr.toInt = cntP x.fbe 60
def XInv (x : XS) : Prop := BInv x.bk ∧ AllI x.dte 16 0 4 ∧ AllI x.dsu 64 0 4 ∧ (0 ≤ x.ztp.toInt ∧ x.ztp.toInt ≤ 400) ∧ (0 ≤ x.zd.toInt ∧ x.zd.toInt ≤ 16) ∧ (0 ≤ x.zk.toInt ∧ x.zk.toInt ≤ 401)
def MInv (y : MS) : Prop := AllI y.f_stops 4 0 10 ∧ AllI y.f_takes 36 0 24 ∧ AllI y.f_officeAt 24 0 9 ∧ AllI y.f_berths 240 0 10 ∧ AllI y.f_tickets 4 0 300 ∧ AllI y.f_tDay 1200 0 59 ∧ AllI y.f_tBerth 1200 0 9 ∧ AllI y.f_tFrom 1200 0 9 ∧ AllI y.f_tTo 1200 0 9 ∧ AllI y.f_letters 4 0 100 ∧ AllI y.f_lDay 400 0 59 ∧ AllI y.f_lFrom 400 0 9 ∧ AllI y.f_lTo 400 0 9 ∧ AllI y.f_now 4 0 2000 ∧ AllI y.f_lines 4 0 16 ∧ AllI y.f_lineTests 64 0 4 ∧ AllI y.f_newBerth 300 0 9 ∧ AllI y.f_newTests 17 0 4
/-- a slot of the reference's rows has what a book has -/
def Cpl (i : Nat) (zs now : Int32) (fhr fbe st tk be nw : Nat → Int32) : Prop := st i = zs ∧ (∀ j : Nat, j < 9 → tk (9 * i + j) = fhr j) ∧ (∀ j : Nat, j < 60 → be (60 * i + j) = fbe j) ∧ nw i = now
abbrev IM : Type := Nat → Option (BA × BS)
def ImAt (k : Nat) (o : Option (BA × BS)) (a : Option Nat) (st tk be nw hs : Nat → Int32) : Prop := match o with
  | none => a = none ∧ (hs k).toInt = 0
  | some q => a = some q.1.b0 ∧ (hs k).toInt ≠ 0 ∧ BInv q.2 ∧ Cpl (k + 1) q.2.zs q.2.now q.2.fhr q.2.fbe st tk be nw
def ImOK (im : IM) (fim : Nat → Option Nat) (st tk be nw hs : Nat → Int32) : Prop := ∀ k : Nat, k < 3 → ImAt k (im k) (fim k) st tk be nw hs
def Inv (im : IM) (x : XS) (y : MS) : Prop := XInv x ∧ MInv y ∧ Cpl 0 x.bk.zs x.bk.now x.bk.fhr x.bk.fbe y.f_stops y.f_takes y.f_berths y.f_now ∧ y.zsz.toInt = x.ztp.toInt ∧ ImOK im x.fim y.f_stops y.f_takes y.f_berths y.f_now y.f_has
def wI (cy : Nat → ClassId) (o : Option (BA × BS)) : va_W := match o with
  | none => []
  | some q => wB cy q.1 q.2
def wT (cy : Nat → ClassId) (im : IM) : va_W := wI cy (im 0) ++ (wI cy (im 1) ++ wI cy (im 2))
def wR (cy : Nat → ClassId) (im : IM) (k : Nat) : va_W := wI cy (im ((k + 1) % 3)) ++ wI cy (im ((k + 2) % 3))
theorem wR_up {cy : Nat → ClassId} {im : IM} {k : Nat} {v : Option (BA × BS)} (hk : k < 3) : wR cy (va_up im k v) k = wR cy im k := by
  unfold wR
  rw [va_up_ne im v (show (k + 1) % 3 ≠ k by omega), va_up_ne im v (show (k + 2) % 3 ≠ k by omega)]
theorem tl_P {D : va_G} {cy : Nat → ClassId} {cl : List vw_C} {X : va_W} {im : IM} {k : Nat} {H : Heap} (hk : k < 3) (h : va_P D cl (X ++ wT cy im) H) : va_P D cl ((X ++ wI cy (im k)) ++ wR cy im k) H := by
  unfold wT at h
  unfold wR
  rcases (show k = 0 ∨ k = 1 ∨ k = 2 by omega) with rfl | rfl | rfl
  · simpa only [List.append_assoc] using h
  · rw [← List.append_assoc] at h
    have h2 := h.swap
    simpa only [List.append_assoc] using h2
  · rw [← List.append_assoc (wI cy (im 0)), ← List.append_assoc] at h
    exact h.swap
theorem tl_D {A : Nat → Prop} {cy : Nat → ClassId} {X : va_W} {im : IM} {k : Nat} (hk : k < 3) (h : va_D A (X ++ wT cy im)) : va_D A ((X ++ wI cy (im k)) ++ wR cy im k) := by
  unfold wT at h
  unfold wR
  rcases (show k = 0 ∨ k = 1 ∨ k = 2 by omega) with rfl | rfl | rfl
  · simpa only [List.append_assoc] using h
  · rw [← List.append_assoc] at h
    have h2 := h.swap
    simpa only [List.append_assoc] using h2
  · rw [← List.append_assoc (wI cy (im 0)), ← List.append_assoc] at h
    exact h.swap
theorem tl_Pb {D : va_G} {cy : Nat → ClassId} {cl : List vw_C} {X : va_W} {im : IM} {k : Nat} {H : Heap} (hk : k < 3) (h : va_P D cl ((X ++ wI cy (im k)) ++ wR cy im k) H) : va_P D cl (X ++ wT cy im) H := by
  unfold wR at h
  unfold wT
  rcases (show k = 0 ∨ k = 1 ∨ k = 2 by omega) with rfl | rfl | rfl
  · simpa only [List.append_assoc] using h
  · rw [← List.append_assoc] at h
    have h2 := va_P.swap (a := X) (b := wI cy (im 1) ++ wI cy (im 2)) (c := wI cy (im 0)) (by simpa only [List.append_assoc] using h)
    simpa only [List.append_assoc] using h2
  · have h2 := va_P.swap (a := X) (b := wI cy (im 2)) (c := wI cy (im 0) ++ wI cy (im 1)) h
    simpa only [List.append_assoc] using h2
theorem tl_Db {A : Nat → Prop} {cy : Nat → ClassId} {X : va_W} {im : IM} {k : Nat} (hk : k < 3) (h : va_D A ((X ++ wI cy (im k)) ++ wR cy im k)) : va_D A (X ++ wT cy im) := by
  unfold wR at h
  unfold wT
  rcases (show k = 0 ∨ k = 1 ∨ k = 2 by omega) with rfl | rfl | rfl
  · simpa only [List.append_assoc] using h
  · rw [← List.append_assoc] at h
    have h2 := va_D.swap (a := X) (b := wI cy (im 1) ++ wI cy (im 2)) (c := wI cy (im 0)) (by simpa only [List.append_assoc] using h)
    simpa only [List.append_assoc] using h2
  · have h2 := va_D.swap (a := X) (b := wI cy (im 2)) (c := wI cy (im 0) ++ wI cy (im 1)) h
    simpa only [List.append_assoc] using h2
theorem va_lP {D : va_G} {cl : List vw_C} {X pl : va_W} {H : Heap} (h : va_P D cl (X ++ pl) H) : va_P D cl X H := fun k q hk => h k q (by rw [List.getElem?_append_left (List.getElem?_eq_some_iff.mp hk).1]; exact hk)
theorem va_lD {A : Nat → Prop} {X pl : va_W} (h : va_D A (X ++ pl)) : va_D A X := ⟨fun i j p q hi hj => h.1 i j p q (by rw [List.getElem?_append_left (List.getElem?_eq_some_iff.mp hi).1]; exact hi) (by rw [List.getElem?_append_left (List.getElem?_eq_some_iff.mp hj).1]; exact hj), fun k q hk => h.2 k q (by rw [List.getElem?_append_left (List.getElem?_eq_some_iff.mp hk).1]; exact hk)⟩
theorem va_sP {D : va_G} {cl : List vw_C} {X cx pl : va_W} {H : Heap} (is : List Nat) (hs : is.map (fun i => X[i]?) = cx.map some) (h : va_P D cl (X ++ pl) H) : va_P D cl (cx ++ pl) H := h.by _ (va_part is hs)
section KT
variable {p : Program} {l : Launch} {e : Env} {R : Room} {s : State} {m : MethodId} {args : Array Value} {below : List Frame} {meth : Method} {c : Code} {H : Heap} {locs : List Loc} {cells slots mc ms pc : Nat} {Q : State → Prop} {ls : Array Slot} {st0 rest : List Value} {D : va_G} {cy : Nat → ClassId} {A : Nat → Prop} {H0 : Heap} {ws wc wr wt : va_W} {a : Array Value}
theorem kt_i {S : Type} {post : Int32 → S → Prop} {wo : S → va_W} (hr : va_Run p l e R s m args below meth c H locs cells slots mc ms (F0 m pc ls st0) rest (QI D cy post wo (va_A wc H.size) a) (va_A wc H.size)) (hP : va_P D vwCl (ws ++ wt) H) (hD : va_D A (ws ++ wt)) (hS : va_S A H0 H locs) (hA : ∀ q : Nat, H0.size ≤ q → A q) (isC isR : List Nat) (hC : isC.map (fun i => ws[i]?) = wc.map some) (hR : isR.map (fun i => ws[i]?) = wr.map some) (hn : va_nd isR = true) (hdis : ∀ i ∈ isR, i ∉ isC)
    (kk : ∀ (r : Int32) (u : S) (H1 : Heap) (locs1 : List Loc), post r u → va_P D vwCl ((wr ++ wo u) ++ wt) H1 → va_D A ((wr ++ wo u) ++ wt) → va_S A H0 H1 locs1 → W p l e R s m args below meth c H1 locs1 (cells + mc) (slots + ms) Q (F0 m (pc + 3) ls (.int r :: rest))) : W p l e R s m args below meth c H locs cells slots Q (F0 m pc ls st0) := by
  have hF := va_free (va_lD hD) hS hA isC hC
  refine va_calli hr hS (fun q _ h => hF q h) hF (fun r u t H1 locs1 ht hvm hw hB hz hk hS1 => ?_)
  obtain ⟨hP1, -, hD1⟩ := hB
  rw [ht] at hP1
  obtain ⟨hP2, hD2⟩ := va_joinQ hP hD isC isR hC hR hn hdis hk hF hP1 hD1
  exact kk r u H1 locs1 hw hP2 hD2 hS1
theorem kt_l {S : Type} {post : Int64 → S → Prop} {wo : S → va_W} (hr : va_Run p l e R s m args below meth c H locs cells slots mc ms (F0 m pc ls st0) rest (QL D cy post wo (va_A wc H.size) a) (va_A wc H.size)) (hP : va_P D vwCl (ws ++ wt) H) (hD : va_D A (ws ++ wt)) (hS : va_S A H0 H locs) (hA : ∀ q : Nat, H0.size ≤ q → A q) (isC isR : List Nat) (hC : isC.map (fun i => ws[i]?) = wc.map some) (hR : isR.map (fun i => ws[i]?) = wr.map some) (hn : va_nd isR = true) (hdis : ∀ i ∈ isR, i ∉ isC)
    (kk : ∀ (r : Int64) (u : S) (H1 : Heap) (locs1 : List Loc), post r u → va_P D vwCl ((wr ++ wo u) ++ wt) H1 → va_D A ((wr ++ wo u) ++ wt) → va_S A H0 H1 locs1 → W p l e R s m args below meth c H1 locs1 (cells + mc) (slots + ms) Q (F0 m (pc + 3) ls (.long r :: rest))) : W p l e R s m args below meth c H locs cells slots Q (F0 m pc ls st0) := by
  have hF := va_free (va_lD hD) hS hA isC hC
  refine va_calll hr hS (fun q _ h => hF q h) hF (fun r u t H1 locs1 ht hvm hw hB hz hk hS1 => ?_)
  obtain ⟨hP1, -, hD1⟩ := hB
  rw [ht] at hP1
  obtain ⟨hP2, hD2⟩ := va_joinQ hP hD isC isR hC hR hn hdis hk hF hP1 hD1
  exact kk r u H1 locs1 hw hP2 hD2 hS1
end KT
/-! the coupling, call by call -/
theorem cnt_congr {f g : Nat → Int32} : ∀ (n : Nat), (∀ j : Nat, j < n → f j = g j) → cntP f n = cntP g n
  | 0, _ => rfl
  | n + 1, h => by
    show cntP f n + _ = cntP g n + _
    rw [cnt_congr n (fun j hj => h j (by omega)), h n (by omega)]
theorem sum_congr {f g : Nat → Int32} : ∀ (n : Nat), (∀ j : Nat, j < n → f j = g j) → sumI f n = sumI g n
  | 0, _ => rfl
  | n + 1, h => by
    show sumI f n + _ = sumI g n + _
    rw [sum_congr n (fun j hj => h j (by omega)), h n (by omega)]
theorem cnt_upd_ge {f : Nat → Int32} {d : Nat} {x : Int32} : ∀ (n : Nat), n ≤ d → cntP (upd f d x) n = cntP f n
  | 0, _ => rfl
  | n + 1, h => by
    show cntP (upd f d x) n + _ = cntP f n + _
    rw [cnt_upd_ge n (by omega), pk_un (by omega)]
theorem cnt_upd {f : Nat → Int32} {d : Nat} {x : Int32} (h0 : (f d).toInt ≤ 0) (h1 : 0 < x.toInt) : ∀ (n : Nat), d < n → cntP (upd f d x) n = cntP f n + 1
  | 0, h => absurd h (Nat.not_lt_zero _)
  | n + 1, h => by
    show cntP (upd f d x) n + _ = cntP f n + _ + 1
    by_cases hd : d = n
    · subst hd
      rw [cnt_upd_ge d (Nat.le_refl _), pk_us, if_pos h1, if_neg (by omega)]
      omega
    · rw [cnt_upd h0 h1 n (by omega), pk_un (by omega)]
      omega
theorem cnt_bd {f : Nat → Int32} : ∀ (n : Nat), 0 ≤ cntP f n ∧ cntP f n ≤ n
  | 0 => ⟨by decide, by decide⟩
  | n + 1 => by
    have := cnt_bd (f := f) n
    have e : cntP f (n + 1) = cntP f n + (if 0 < (f n).toInt then 1 else 0) := rfl
    rw [e]
    split <;> omega
theorem Cpl.cnt {zs now : Int32} {fhr fbe st tk be nw : Nat → Int32} (h : Cpl 0 zs now fhr fbe st tk be nw) : cntP be 60 = cntP fbe 60 := cnt_congr 60 (fun j hj => by have := h.2.2.1 j hj; rwa [show 60 * 0 + j = j by omega] at this)
theorem Cpl.tk0 {zs now : Int32} {fhr fbe st tk be nw : Nat → Int32} (h : Cpl 0 zs now fhr fbe st tk be nw) {j : Nat} (hj : j < 9) : tk j = fhr j := by have := h.2.1 j hj; rwa [show 9 * 0 + j = j by omega] at this
theorem Cpl.be0 {zs now : Int32} {fhr fbe st tk be nw : Nat → Int32} (h : Cpl 0 zs now fhr fbe st tk be nw) {j : Nat} (hj : j < 60) : be j = fbe j := by have := h.2.2.1 j hj; rwa [show 60 * 0 + j = j by omega] at this
theorem Cpl.mk0 {zs now : Int32} {fhr fbe st tk be nw : Nat → Int32} (h1 : st 0 = zs) (h2 : ∀ j : Nat, j < 9 → tk j = fhr j) (h3 : ∀ j : Nat, j < 60 → be j = fbe j) (h4 : nw 0 = now) : Cpl 0 zs now fhr fbe st tk be nw := ⟨h1, fun j hj => by rw [show 9 * 0 + j = j by omega]; exact h2 j hj, fun j hj => by rw [show 60 * 0 + j = j by omega]; exact h3 j hj, h4⟩
theorem ImOK.congr {im : IM} {fim : Nat → Option Nat} {st tk be nw hs st' tk' be' nw' : Nat → Int32} (h : ImOK im fim st tk be nw hs) (h1 : ∀ j : Nat, 1 ≤ j → st' j = st j) (h2 : ∀ j : Nat, 9 ≤ j → tk' j = tk j) (h3 : ∀ j : Nat, 60 ≤ j → be' j = be j) (h4 : ∀ j : Nat, 1 ≤ j → nw' j = nw j) : ImOK im fim st' tk' be' nw' hs := by
  intro k hk
  have h9 := h k hk
  revert h9
  cases im k with
  | none => exact fun h9 => h9
  | some q =>
    rintro ⟨a1, a2, a3, c1, c2, c3, c4⟩
    exact ⟨a1, a2, a3, by rw [h1 _ (by omega)]; exact c1, fun j hj => by rw [h2 _ (by omega)]; exact c2 j hj, fun j hj => by rw [h3 _ (by omega)]; exact c3 j hj, by rw [h4 _ (by omega)]; exact c4⟩
theorem rf_ge {f : Nat → Int32} {n : Nat} : ∀ j : Nat, n ≤ j → f j = f j := fun _ _ => rfl
theorem upd_ge {f g : Nat → Int32} {i x : Int32} {n : Nat} (h : f = upd g i.toNatClampNeg x) (h1 : i.toInt < n) (h0 : 0 < n := by decide) : ∀ j : Nat, n ≤ j → f j = g j := fun j hj => by rw [h]; exact upd_hi h1 hj h0
theorem eq_ge {f g : Nat → Int32} {n : Nat} (h : f = g) : ∀ j : Nat, n ≤ j → f j = g j := fun _ _ => by rw [h]
theorem upd_cpl {f g f' g' : Nat → Int32} {i x : Int32} {n : Nat} (h : ∀ j : Nat, j < n → f j = g j) (hf : f' = upd f i.toNatClampNeg x) (hg : g' = upd g i.toNatClampNeg x) : ∀ j : Nat, j < n → f' j = g' j := by
  intro j hj
  rw [hf, hg]
  by_cases hq : j = i.toNatClampNeg
  · subst hq; rw [pk_us, pk_us]
  · rw [pk_un hq, pk_un hq]; exact h j hj
theorem nc_eq {x : Int32} (h : 0 ≤ x.toInt) : x.toNatClampNeg = x.toInt.toNat := rfl