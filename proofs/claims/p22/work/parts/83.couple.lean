theorem line_cpl {ims : IM} {fim : Nat → Option Nat} {zs now zr : Int32} {fhr fbe st tk be nw hs : Nat → Int32} {rA rB zs2 n : Int32} {g2 g_stops g_takes : Nat → Int32} (hc : Cpl 0 zs now fhr fbe st tk be nw) (him : ImOK ims fim st tk be nw hs) (hzr : zr.toInt = cntP fbe 60) (hzs : 2 ≤ zs.toInt ∧ zs.toInt ≤ 10) (hA : (rA.toInt = 1 ∧ (zr.toInt ≤ 0 ∧ 2 ≤ n.toInt ∧ n.toInt ≤ 10) ∧ zs2 = n ∧ (∀ j : Nat, j < 9 → g2 j = 1)) ∨ (rA.toInt = 0 ∧ ¬ (zr.toInt ≤ 0 ∧ 2 ≤ n.toInt ∧ n.toInt ≤ 10) ∧ zs2 = zs ∧ g2 = fhr)) (hB : (rB.toInt = 1 ∧ (cntP be 60 ≤ 0 ∧ 2 ≤ n.toInt ∧ n.toInt ≤ 10) ∧ g_stops 0 = n ∧ (∀ j : Nat, j < 9 → g_takes j = 1) ∧ (∀ j : Nat, 1 ≤ j → g_stops j = st j) ∧ (∀ j : Nat, 9 ≤ j → g_takes j = tk j)) ∨ (rB.toInt = 0 ∧ ¬ (cntP be 60 ≤ 0 ∧ 2 ≤ n.toInt ∧ n.toInt ≤ 10) ∧ g_stops = st ∧ g_takes = tk)) : Cpl 0 zs2 now g2 fbe g_stops g_takes be nw ∧ ImOK ims fim g_stops g_takes be nw hs ∧ (2 ≤ zs2.toInt ∧ zs2.toInt ≤ 10) ∧ rA.toInt = rB.toInt := by
  have hcn := hc.cnt
  rcases hA with ⟨a0, a1, a2, a3⟩ | ⟨a0, a1, a2, a3⟩
  · rcases hB with ⟨b0, b1, b2, b3, b4, b5⟩ | ⟨b0, b1, b2, b3⟩
    · exact ⟨Cpl.mk0 (by rw [b2, a2]) (fun j hj => by rw [b3 j hj, a3 j hj]) (fun j hj => hc.be0 hj) hc.2.2.2, him.congr b4 b5 rf_ge rf_ge, by rw [a2]; omega, by omega⟩
    · exact absurd (show cntP be 60 ≤ 0 ∧ 2 ≤ n.toInt ∧ n.toInt ≤ 10 by omega) b1
  · rcases hB with ⟨b0, b1, b2, b3, b4, b5⟩ | ⟨b0, b1, b2, b3⟩
    · exact absurd (show zr.toInt ≤ 0 ∧ 2 ≤ n.toInt ∧ n.toInt ≤ 10 by omega) a1
    · subst a2; subst a3; subst b2; subst b3
      exact ⟨hc, him, hzs, by omega⟩
theorem stretch_cpl {ims : IM} {fim : Nat → Option Nat} {zs now zr : Int32} {fhr fbe st tk be nw hs : Nat → Int32} {rA rB stop km hr : Int32} {g2 g_takes : Nat → Int32} (hc : Cpl 0 zs now fhr fbe st tk be nw) (him : ImOK ims fim st tk be nw hs) (hzr : zr.toInt = cntP fbe 60) (hzs : 2 ≤ zs.toInt ∧ zs.toInt ≤ 10) (hA : (rA.toInt = 1 ∧ (zr.toInt ≤ 0 ∧ 0 ≤ stop.toInt ∧ stop.toInt < zs.toInt - 1 ∧ 1 ≤ km.toInt ∧ km.toInt ≤ 500 ∧ 1 ≤ hr.toInt ∧ hr.toInt ≤ 24) ∧ g2 = upd fhr stop.toNatClampNeg hr) ∨ (rA.toInt = 0 ∧ ¬ (zr.toInt ≤ 0 ∧ 0 ≤ stop.toInt ∧ stop.toInt < zs.toInt - 1 ∧ 1 ≤ km.toInt ∧ km.toInt ≤ 500 ∧ 1 ≤ hr.toInt ∧ hr.toInt ≤ 24) ∧ g2 = fhr)) (hB : (rB.toInt = 1 ∧ (cntP be 60 ≤ 0 ∧ 0 ≤ stop.toInt ∧ stop.toInt < (st 0).toInt - 1 ∧ 1 ≤ km.toInt ∧ km.toInt ≤ 500 ∧ 1 ≤ hr.toInt ∧ hr.toInt ≤ 24) ∧ g_takes = upd tk stop.toNatClampNeg hr) ∨ (rB.toInt = 0 ∧ ¬ (cntP be 60 ≤ 0 ∧ 0 ≤ stop.toInt ∧ stop.toInt < (st 0).toInt - 1 ∧ 1 ≤ km.toInt ∧ km.toInt ≤ 500 ∧ 1 ≤ hr.toInt ∧ hr.toInt ≤ 24) ∧ g_takes = tk)) : Cpl 0 zs now g2 fbe st g_takes be nw ∧ ImOK ims fim st g_takes be nw hs ∧ rA.toInt = rB.toInt := by
  have hcn := hc.cnt
  have hst := congrArg Int32.toInt hc.1
  rcases hA with ⟨a0, a1, a2⟩ | ⟨a0, a1, a2⟩
  · rcases hB with ⟨b0, b1, b2⟩ | ⟨b0, b1, b2⟩
    · exact ⟨Cpl.mk0 hc.1 (upd_cpl (fun j hj => hc.tk0 hj) b2 a2) (fun j hj => hc.be0 hj) hc.2.2.2, him.congr rf_ge (upd_ge b2 (by omega)) rf_ge rf_ge, by omega⟩
    · exact absurd (show cntP be 60 ≤ 0 ∧ 0 ≤ stop.toInt ∧ stop.toInt < (st 0).toInt - 1 ∧ 1 ≤ km.toInt ∧ km.toInt ≤ 500 ∧ 1 ≤ hr.toInt ∧ hr.toInt ≤ 24 by omega) b1
  · rcases hB with ⟨b0, b1, b2⟩ | ⟨b0, b1, b2⟩
    · exact absurd (show zr.toInt ≤ 0 ∧ 0 ≤ stop.toInt ∧ stop.toInt < zs.toInt - 1 ∧ 1 ≤ km.toInt ∧ km.toInt ≤ 500 ∧ 1 ≤ hr.toInt ∧ hr.toInt ≤ 24 by omega) a1
    · subst a2; subst b2
      exact ⟨hc, him, by omega⟩
theorem run_cpl {ims : IM} {fim : Nat → Option Nat} {zs now zr : Int32} {fhr fbe st tk be nw hs : Nat → Int32} {rA rB zr2 day n : Int32} {gbe g_berths : Nat → Int32} (hc : Cpl 0 zs now fhr fbe st tk be nw) (him : ImOK ims fim st tk be nw hs) (hzr : zr.toInt = cntP fbe 60) (hA : (rA.toInt = 1 ∧ (0 ≤ day.toInt ∧ day.toInt < 60 ∧ (fbe day.toNatClampNeg).toInt ≤ 0 ∧ now.toInt < 24 * day.toInt ∧ 1 ≤ n.toInt ∧ n.toInt ≤ 10) ∧ zr2 = zr + 1 ∧ gbe = upd fbe day.toNatClampNeg n) ∨ (rA.toInt = 0 ∧ ¬ (0 ≤ day.toInt ∧ day.toInt < 60 ∧ (fbe day.toNatClampNeg).toInt ≤ 0 ∧ now.toInt < 24 * day.toInt ∧ 1 ≤ n.toInt ∧ n.toInt ≤ 10) ∧ zr2 = zr ∧ gbe = fbe)) (hB : (rB.toInt = 1 ∧ (0 ≤ day.toInt ∧ day.toInt < 60 ∧ (be day.toNatClampNeg).toInt ≤ 0 ∧ (nw 0).toInt < 24 * day.toInt ∧ 1 ≤ n.toInt ∧ n.toInt ≤ 10) ∧ g_berths = upd be day.toNatClampNeg n) ∨ (rB.toInt = 0 ∧ ¬ (0 ≤ day.toInt ∧ day.toInt < 60 ∧ (be day.toNatClampNeg).toInt ≤ 0 ∧ (nw 0).toInt < 24 * day.toInt ∧ 1 ≤ n.toInt ∧ n.toInt ≤ 10) ∧ g_berths = be)) : Cpl 0 zs now fhr gbe st tk g_berths nw ∧ ImOK ims fim st tk g_berths nw hs ∧ zr2.toInt = cntP gbe 60 ∧ rA.toInt = rB.toInt := by
  have hnw := congrArg Int32.toInt hc.2.2.2
  have hbd := cnt_bd (f := fbe) 60
  have hday : (0 ≤ day.toInt ∧ day.toInt < 60) → be day.toNatClampNeg = fbe day.toNatClampNeg := fun h => hc.be0 (cn (n := 60) (by omega) (by decide))
  rcases hA with ⟨a0, a1, a2, a3⟩ | ⟨a0, a1, a2, a3⟩
  · have hd := hday (by omega)
    have he := congrArg Int32.toInt hd
    rcases hB with ⟨b0, b1, b2⟩ | ⟨b0, b1, b2⟩
    · refine ⟨Cpl.mk0 hc.1 (fun j hj => hc.tk0 hj) (upd_cpl (fun j hj => hc.be0 hj) b2 a3) hc.2.2.2, him.congr rf_ge rf_ge (upd_ge b2 (by omega)) rf_ge, ?_, by omega⟩
      rw [a3, cnt_upd (by omega) (by omega) 60 (cn (n := 60) (by omega) (by decide)), q_add (p := zr.toInt) (q := 1) a2 rfl (by decide) (by omega) (by omega)]
      omega
    · exact absurd (show 0 ≤ day.toInt ∧ day.toInt < 60 ∧ (be day.toNatClampNeg).toInt ≤ 0 ∧ (nw 0).toInt < 24 * day.toInt ∧ 1 ≤ n.toInt ∧ n.toInt ≤ 10 by omega) b1
  · rcases hB with ⟨b0, b1, b2⟩ | ⟨b0, b1, b2⟩
    · have hd := hday (by omega)
      have he := congrArg Int32.toInt hd
      exact absurd (show 0 ≤ day.toInt ∧ day.toInt < 60 ∧ (fbe day.toNatClampNeg).toInt ≤ 0 ∧ now.toInt < 24 * day.toInt ∧ 1 ≤ n.toInt ∧ n.toInt ≤ 10 by omega) a1
    · subst a2; subst a3; subst b2
      exact ⟨hc, him, hzr, by omega⟩
theorem hours_cpl {ims : IM} {fim : Nat → Option Nat} {zs now : Int32} {fhr fbe st tk be nw hs : Nat → Int32} {rA rB now2 n : Int32} {g_now : Nat → Int32} (hc : Cpl 0 zs now fhr fbe st tk be nw) (him : ImOK ims fim st tk be nw hs) (hno : 0 ≤ now.toInt ∧ now.toInt ≤ 2000) (hA : (1 ≤ n.toInt ∧ n.toInt ≤ 100 ∧ now.toInt + n.toInt ≤ 2000 ∧ rA = now2 ∧ now2.toInt = now.toInt + n.toInt) ∨ (¬ (1 ≤ n.toInt ∧ n.toInt ≤ 100 ∧ now.toInt + n.toInt ≤ 2000) ∧ rA.toInt = -1 ∧ now2 = now)) (hB : ((1 ≤ n.toInt ∧ n.toInt ≤ 100 ∧ (nw 0).toInt + n.toInt ≤ 2000 ∧ rB = g_now 0 ∧ (g_now 0).toInt = (nw 0).toInt + n.toInt) ∨ (¬ (1 ≤ n.toInt ∧ n.toInt ≤ 100 ∧ (nw 0).toInt + n.toInt ≤ 2000) ∧ rB.toInt = -1 ∧ g_now = nw)) ∧ (∀ j : Nat, 1 ≤ j → g_now j = nw j)) : Cpl 0 zs now2 fhr fbe st tk be g_now ∧ ImOK ims fim st tk be g_now hs ∧ (0 ≤ now2.toInt ∧ now2.toInt ≤ 2000) ∧ rA.toInt = rB.toInt := by
  have hnw := congrArg Int32.toInt hc.2.2.2
  obtain ⟨hB, hge⟩ := hB
  rcases hA with ⟨a1, a1b, a1c, a2, a3⟩ | ⟨a1, a2, a3⟩
  · rcases hB with ⟨b1, b1b, b1c, b2, b3⟩ | ⟨b1, b2, b3⟩
    · have e : g_now 0 = now2 := Int32.toInt_inj.mp (by omega)
      exact ⟨Cpl.mk0 hc.1 (fun j hj => hc.tk0 hj) (fun j hj => hc.be0 hj) e, him.congr rf_ge rf_ge rf_ge hge, by omega, by rw [a2, b2, e]⟩
    · exact absurd (show 1 ≤ n.toInt ∧ n.toInt ≤ 100 ∧ (nw 0).toInt + n.toInt ≤ 2000 by omega) b1
  · rcases hB with ⟨b1, b1b, b1c, b2, b3⟩ | ⟨b1, b2, b3⟩
    · exact absurd (show 1 ≤ n.toInt ∧ n.toInt ≤ 100 ∧ now.toInt + n.toInt ≤ 2000 by omega) a1
    · subst a3; subst b3
      exact ⟨hc, him, hno, by omega⟩
theorem cars_cpl {zs now : Int32} {fhr fbe st tk be nw : Nat → Int32} {rA rB days rest : Int32} (hc : Cpl 0 zs now fhr fbe st tk be nw) (hzs : 2 ≤ zs.toInt ∧ zs.toInt ≤ 10) (hA : (0 ≤ days.toInt ∧ 0 ≤ rest.toInt ∧ rest.toInt ≤ 48 ∧ rA.toInt = moF days (2 * ((sumI fhr (zs.toInt - 1).toNat).toInt + rest.toInt)) 30) ∨ (¬ (0 ≤ days.toInt ∧ 0 ≤ rest.toInt ∧ rest.toInt ≤ 48) ∧ rA.toInt = -1)) (hB : (0 ≤ days.toInt ∧ 0 ≤ rest.toInt ∧ rest.toInt ≤ 48 ∧ rB.toInt = moF days (2 * ((sumI tk ((st 0).toInt - 1).toNat).toInt + rest.toInt)) 30) ∨ (¬ (0 ≤ days.toInt ∧ 0 ≤ rest.toInt ∧ rest.toInt ≤ 48) ∧ rB.toInt = -1)) : rA.toInt = rB.toInt := by
  rw [hc.1, sum_congr (g := fhr) (zs.toInt - 1).toNat (fun j hj => hc.tk0 (by omega))] at hB
  rcases hA with ⟨a1, a2, a3, a4⟩ | ⟨a1, a2⟩
  · rcases hB with ⟨b1, b2, b3, b4⟩ | ⟨b1, b2⟩
    · rw [a4, b4]
    · exact absurd ⟨a1, a2, a3⟩ b1
  · rcases hB with ⟨b1, b2, b3, b4⟩ | ⟨b1, b2⟩
    · exact absurd ⟨b1, b2, b3⟩ a1
    · rw [a2, b2]
theorem imgO_cpl {ims : IM} {fim : Nat → Option Nat} {zs now : Int32} {fhr fbe st tk be nw hs : Nat → Int32} {g_stops g_takes g_berths g_now g_has : Nat → Int32} {rB k : Int32} (hc : Cpl 0 zs now fhr fbe st tk be nw) (him : ImOK ims fim st tk be nw hs) (hko : ¬ (0 ≤ k.toInt ∧ k.toInt < 3)) (hB : (rB.toInt = 1 ∧ (0 ≤ k.toInt ∧ k.toInt < 3) ∧ g_has = upd hs k.toNatClampNeg 1 ∧ ((∀ j : Nat, j < 1 → g_stops (1 * (k.toInt + 1).toNat + j) = st (1 * 0 + j)) ∧ (∀ j : Nat, (j < 1 * (k.toInt + 1).toNat ∨ 1 * (k.toInt + 1).toNat + 1 ≤ j) → g_stops j = st j)) ∧ ((∀ j : Nat, j < 9 → g_takes (9 * (k.toInt + 1).toNat + j) = tk (9 * 0 + j)) ∧ (∀ j : Nat, (j < 9 * (k.toInt + 1).toNat ∨ 9 * (k.toInt + 1).toNat + 9 ≤ j) → g_takes j = tk j)) ∧ ((∀ j : Nat, j < 60 → g_berths (60 * (k.toInt + 1).toNat + j) = be (60 * 0 + j)) ∧ (∀ j : Nat, (j < 60 * (k.toInt + 1).toNat ∨ 60 * (k.toInt + 1).toNat + 60 ≤ j) → g_berths j = be j)) ∧ ((∀ j : Nat, j < 1 → g_now (1 * (k.toInt + 1).toNat + j) = nw (1 * 0 + j)) ∧ (∀ j : Nat, (j < 1 * (k.toInt + 1).toNat ∨ 1 * (k.toInt + 1).toNat + 1 ≤ j) → g_now j = nw j))) ∨ (rB.toInt = 0 ∧ ¬ (0 ≤ k.toInt ∧ k.toInt < 3) ∧ g_has = hs ∧ g_stops = st ∧ g_takes = tk ∧ g_berths = be ∧ g_now = nw)) : Cpl 0 zs now fhr fbe g_stops g_takes g_berths g_now ∧ ImOK ims fim g_stops g_takes g_berths g_now g_has ∧ rB.toInt = 0 := by
  rcases hB with ⟨b0, b1, b2⟩ | ⟨b0, b1, b2, b3, b4, b5, b6⟩
  · exact absurd b1 hko
  · subst b2; subst b3; subst b4; subst b5; subst b6
    exact ⟨hc, him, b0⟩
theorem img_cpl {ims : IM} {fim : Nat → Option Nat} {zs now : Int32} {fhr fbe st tk be nw hs : Nat → Int32} {g_stops g_takes g_berths g_now g_has : Nat → Int32} {rB k : Int32} {gim : Nat → Option Nat} (hc : Cpl 0 zs now fhr fbe st tk be nw) (him : ImOK ims fim st tk be nw hs) (hki : 0 ≤ k.toInt ∧ k.toInt < 3) (hB : (rB.toInt = 1 ∧ (0 ≤ k.toInt ∧ k.toInt < 3) ∧ g_has = upd hs k.toNatClampNeg 1 ∧ ((∀ j : Nat, j < 1 → g_stops (1 * (k.toInt + 1).toNat + j) = st (1 * 0 + j)) ∧ (∀ j : Nat, (j < 1 * (k.toInt + 1).toNat ∨ 1 * (k.toInt + 1).toNat + 1 ≤ j) → g_stops j = st j)) ∧ ((∀ j : Nat, j < 9 → g_takes (9 * (k.toInt + 1).toNat + j) = tk (9 * 0 + j)) ∧ (∀ j : Nat, (j < 9 * (k.toInt + 1).toNat ∨ 9 * (k.toInt + 1).toNat + 9 ≤ j) → g_takes j = tk j)) ∧ ((∀ j : Nat, j < 60 → g_berths (60 * (k.toInt + 1).toNat + j) = be (60 * 0 + j)) ∧ (∀ j : Nat, (j < 60 * (k.toInt + 1).toNat ∨ 60 * (k.toInt + 1).toNat + 60 ≤ j) → g_berths j = be j)) ∧ ((∀ j : Nat, j < 1 → g_now (1 * (k.toInt + 1).toNat + j) = nw (1 * 0 + j)) ∧ (∀ j : Nat, (j < 1 * (k.toInt + 1).toNat ∨ 1 * (k.toInt + 1).toNat + 1 ≤ j) → g_now j = nw j))) ∨ (rB.toInt = 0 ∧ ¬ (0 ≤ k.toInt ∧ k.toInt < 3) ∧ g_has = hs ∧ g_stops = st ∧ g_takes = tk ∧ g_berths = be ∧ g_now = nw)) (q : BA × BS) (hq : BInv q.2) (h1 : q.2.zs = zs) (h2 : q.2.now = now) (h3 : ∀ j : Nat, j < 9 → q.2.fhr j = fhr j) (h4 : ∀ j : Nat, j < 60 → q.2.fbe j = fbe j) (hf : gim k.toNatClampNeg = some q.1.b0) (hf2 : ∀ j : Nat, j ≠ k.toNatClampNeg → gim j = fim j) : Cpl 0 zs now fhr fbe g_stops g_takes g_berths g_now ∧ ImOK (va_up ims k.toNatClampNeg (some q)) gim g_stops g_takes g_berths g_now g_has ∧ rB.toInt = 1 := by
  rcases hB with ⟨b0, b1, b2, ⟨s1, s2⟩, ⟨t1, t2⟩, ⟨e1, e2⟩, ⟨n1, n2⟩⟩ | ⟨b0, b1, b2⟩
  · have ek : k.toNatClampNeg = k.toInt.toNat := rfl
    have ek1 : (k.toInt + 1).toNat = k.toNatClampNeg + 1 := by omega
    rw [ek1] at s1 s2 t1 t2 e1 e2 n1 n2
    refine ⟨Cpl.mk0 (by rw [s2 0 (by omega)]; exact hc.1) (fun j hj => by rw [t2 j (by omega)]; exact hc.tk0 hj) (fun j hj => by rw [e2 j (by omega)]; exact hc.be0 hj) (by rw [n2 0 (by omega)]; exact hc.2.2.2), fun i hi => ?_, b0⟩
    by_cases hik : i = k.toNatClampNeg
    · subst hik
      rw [va_up_self]
      refine ⟨hf, by rw [b2, pk_us]; decide, hq, ?_, fun j hj => ?_, fun j hj => ?_, ?_⟩
      · have := s1 0 (by omega)
        simp only [Nat.one_mul, Nat.add_zero, Nat.mul_zero] at this
        rw [this, hc.1, h1]
      · rw [t1 j hj, h3 j hj]; exact hc.2.1 j hj
      · rw [e1 j hj, h4 j hj]; exact hc.2.2.1 j hj
      · have := n1 0 (by omega)
        simp only [Nat.one_mul, Nat.add_zero, Nat.mul_zero] at this
        rw [this, hc.2.2.2, h2]
    · rw [va_up_ne _ _ hik, hf2 i hik]
      have h9 := him i hi
      have hne : ¬ i = k.toNatClampNeg := hik
      revert h9
      cases ims i with
      | none => rintro ⟨a1, a2⟩; exact ⟨a1, by rw [b2, pk_un hik]; exact a2⟩
      | some w =>
        rintro ⟨a1, a2, a3, c1, c2, c3, c4⟩
        exact ⟨a1, by rw [b2, pk_un hik]; exact a2, a3, by rw [s2 _ (by omega)]; exact c1, fun j hj => by rw [t2 _ (by omega)]; exact c2 j hj, fun j hj => by rw [e2 _ (by omega)]; exact c3 j hj, by rw [n2 _ (by omega)]; exact c4⟩
  · exact absurd hki b1
theorem agnO_cpl {ims : IM} {fim : Nat → Option Nat} {zs now : Int32} {fhr fbe st tk be nw hs : Nat → Int32} {g_stops g_takes g_berths g_now : Nat → Int32} {rB k : Int32} (hc : Cpl 0 zs now fhr fbe st tk be nw) (him : ImOK ims fim st tk be nw hs) (hko : ¬ (0 ≤ k.toInt ∧ k.toInt < 3 ∧ (hs k.toNatClampNeg).toInt ≠ 0)) (hB : (rB.toInt = 1 ∧ (0 ≤ k.toInt ∧ k.toInt < 3 ∧ (hs k.toNatClampNeg).toInt ≠ 0) ∧ ((∀ j : Nat, j < 1 → g_stops (1 * 0 + j) = st (1 * (k.toInt + 1).toNat + j)) ∧ (∀ j : Nat, (j < 1 * 0 ∨ 1 * 0 + 1 ≤ j) → g_stops j = st j)) ∧ ((∀ j : Nat, j < 9 → g_takes (9 * 0 + j) = tk (9 * (k.toInt + 1).toNat + j)) ∧ (∀ j : Nat, (j < 9 * 0 ∨ 9 * 0 + 9 ≤ j) → g_takes j = tk j)) ∧ ((∀ j : Nat, j < 60 → g_berths (60 * 0 + j) = be (60 * (k.toInt + 1).toNat + j)) ∧ (∀ j : Nat, (j < 60 * 0 ∨ 60 * 0 + 60 ≤ j) → g_berths j = be j)) ∧ ((∀ j : Nat, j < 1 → g_now (1 * 0 + j) = nw (1 * (k.toInt + 1).toNat + j)) ∧ (∀ j : Nat, (j < 1 * 0 ∨ 1 * 0 + 1 ≤ j) → g_now j = nw j))) ∨ (rB.toInt = 0 ∧ ¬ (0 ≤ k.toInt ∧ k.toInt < 3 ∧ (hs k.toNatClampNeg).toInt ≠ 0) ∧ g_stops = st ∧ g_takes = tk ∧ g_berths = be ∧ g_now = nw)) : Cpl 0 zs now fhr fbe g_stops g_takes g_berths g_now ∧ ImOK ims fim g_stops g_takes g_berths g_now hs ∧ rB.toInt = 0 := by
  rcases hB with ⟨b0, b1, b2⟩ | ⟨b0, b1, b3, b4, b5, b6⟩
  · exact absurd b1 hko
  · subst b3; subst b4; subst b5; subst b6
    exact ⟨hc, him, b0⟩
theorem agn_cpl {ims : IM} {fim : Nat → Option Nat} {zs now : Int32} {fhr fbe st tk be nw hs : Nat → Int32} {g_stops g_takes g_berths g_now : Nat → Int32} {rB k : Int32} {q : BA × BS} {nhr nbe : Nat → Int32} (hc : Cpl 0 zs now fhr fbe st tk be nw) (him : ImOK ims fim st tk be nw hs) (hki : 0 ≤ k.toInt ∧ k.toInt < 3) (hq : ims k.toNatClampNeg = some q) (hB : (rB.toInt = 1 ∧ (0 ≤ k.toInt ∧ k.toInt < 3 ∧ (hs k.toNatClampNeg).toInt ≠ 0) ∧ ((∀ j : Nat, j < 1 → g_stops (1 * 0 + j) = st (1 * (k.toInt + 1).toNat + j)) ∧ (∀ j : Nat, (j < 1 * 0 ∨ 1 * 0 + 1 ≤ j) → g_stops j = st j)) ∧ ((∀ j : Nat, j < 9 → g_takes (9 * 0 + j) = tk (9 * (k.toInt + 1).toNat + j)) ∧ (∀ j : Nat, (j < 9 * 0 ∨ 9 * 0 + 9 ≤ j) → g_takes j = tk j)) ∧ ((∀ j : Nat, j < 60 → g_berths (60 * 0 + j) = be (60 * (k.toInt + 1).toNat + j)) ∧ (∀ j : Nat, (j < 60 * 0 ∨ 60 * 0 + 60 ≤ j) → g_berths j = be j)) ∧ ((∀ j : Nat, j < 1 → g_now (1 * 0 + j) = nw (1 * (k.toInt + 1).toNat + j)) ∧ (∀ j : Nat, (j < 1 * 0 ∨ 1 * 0 + 1 ≤ j) → g_now j = nw j))) ∨ (rB.toInt = 0 ∧ ¬ (0 ≤ k.toInt ∧ k.toInt < 3 ∧ (hs k.toNatClampNeg).toInt ≠ 0) ∧ g_stops = st ∧ g_takes = tk ∧ g_berths = be ∧ g_now = nw)) (h3 : ∀ j : Nat, j < 9 → nhr j = q.2.fhr j) (h4 : ∀ j : Nat, j < 60 → nbe j = q.2.fbe j) : Cpl 0 q.2.zs q.2.now nhr nbe g_stops g_takes g_berths g_now ∧ ImOK ims fim g_stops g_takes g_berths g_now hs ∧ rB.toInt = 1 ∧ BInv q.2 := by
  have ek : k.toNatClampNeg = k.toInt.toNat := rfl
  have h9 := him k.toNatClampNeg (by omega)
  rw [hq] at h9
  obtain ⟨a1, a2, a3, c1, c2, c3, c4⟩ := h9
  rcases hB with ⟨b0, b1, ⟨s1, s2⟩, ⟨t1, t2⟩, ⟨e1, e2⟩, ⟨n1, n2⟩⟩ | ⟨b0, b1, b2⟩
  · have ek1 : (k.toInt + 1).toNat = k.toNatClampNeg + 1 := by omega
    rw [ek1] at s1 t1 e1 n1
    refine ⟨⟨?_, fun j hj => ?_, fun j hj => ?_, ?_⟩, him.congr (fun j hj => s2 j (by omega)) (fun j hj => t2 j (by omega)) (fun j hj => e2 j (by omega)) (fun j hj => n2 j (by omega)), b0, a3⟩
    · have := s1 0 (by omega)
      simp only [Nat.one_mul, Nat.add_zero, Nat.mul_zero] at this
      rw [this]; exact c1
    · rw [t1 j hj, h3 j hj]; exact c2 j hj
    · rw [e1 j hj, h4 j hj]; exact c3 j hj
    · have := n1 0 (by omega)
      simp only [Nat.one_mul, Nat.add_zero, Nat.mul_zero] at this
      rw [this]; exact c4
  · exact absurd ⟨hki.1, hki.2, a2⟩ b1