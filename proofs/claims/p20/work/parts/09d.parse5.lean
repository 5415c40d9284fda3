/-! the class's reader, line by line -/
theorem tst_bd {K : Int → Int} {z k j : Int} {ok : Bool} (hK : ∀ i : Int, K i ≠ 20 → i < z) (hk : k ≤ z) (h : tstF K k = (j, ok)) : k ≤ j ∧ j ≤ z ∧ (ok = true → k < j) := by
  obtain ⟨a, ha, h3⟩ : ∃ a : Int, (a = if K k = 7 then k + 1 else k) ∧ k ≤ a ∧ a ≤ z := by
    by_cases hq : K k = 7
    · have h1 := hK k (by omega)
      exact ⟨k + 1, by rw [if_pos hq], by omega, by omega⟩
    · exact ⟨k, by rw [if_neg hq], by omega, by omega⟩
  by_cases h1 : 0 ≤ K a ∧ K a ≤ 3
  · have a1 := hK a (by omega)
    by_cases h2 : 15 ≤ K (a + 1) ∧ K (a + 1) ≤ 17
    · have a2 := hK (a + 1) (by omega)
      by_cases h4 : K (a + 2) = 12
      · have a3 := hK (a + 2) (by omega)
        rw [tst_y h1 h2 h4 ha] at h
        injection h with e1 e2
        exact ⟨by omega, by omega, fun _ => by omega⟩
      · rw [tst_v h1 h2 h4 ha] at h
        injection h with e1 e2
        exact ⟨by omega, by omega, fun _ => by omega⟩
    · rw [tst_s h1 h2 ha] at h
      injection h with e1 e2
      exact ⟨by omega, by omega, fun _ => by omega⟩
  · by_cases h2 : K a = 4
    · have a1 := hK a (by omega)
      rw [tst_n h2 ha] at h
      injection h with e1 e2
      exact ⟨by omega, by omega, fun _ => by omega⟩
    · rw [tst_x (by omega) ha] at h
      injection h with e1 e2
      refine ⟨by omega, by omega, fun q => ?_⟩
      rw [← e2] at q
      cases q
theorem tst_up {K : Int → Int} {k j : Int} (h : tstF K k = (j, true)) : k < j := by
  obtain ⟨a, ha, h3⟩ : ∃ a : Int, (a = if K k = 7 then k + 1 else k) ∧ k ≤ a := by
    by_cases hq : K k = 7
    · exact ⟨k + 1, by rw [if_pos hq], by omega⟩
    · exact ⟨k, by rw [if_neg hq], by omega⟩
  by_cases h1 : 0 ≤ K a ∧ K a ≤ 3
  · by_cases h2 : 15 ≤ K (a + 1) ∧ K (a + 1) ≤ 17
    · by_cases h4 : K (a + 2) = 12
      · rw [tst_y h1 h2 h4 ha] at h
        injection h with e1 e2
        omega
      · rw [tst_v h1 h2 h4 ha] at h
        injection h with e1 e2
        cases e2
    · rw [tst_s h1 h2 ha] at h
      injection h with e1 e2
      cases e2
  · by_cases h2 : K a = 4
    · rw [tst_n h2 ha] at h
      injection h with e1 e2
      omega
    · rw [tst_x (by omega) ha] at h
      injection h with e1 e2
      cases e2
theorem rt_bd {K P : Int → Int} {z k j fk fp : Int} (hK : ∀ i : Int, K i ≠ 20 → i < z) (hk : k ≤ z) (h : (tstF K k = (j, true) ∧ fk = 0) ∨ (tstF K k = (j, false) ∧ fk = 1 ∧ fp = P j)) : k ≤ j ∧ j ≤ z ∧ (fk = 0 → k < j) := by
  rcases h with ⟨h1, h2⟩ | ⟨h1, h2, _⟩
  · have h3 := tst_bd hK hk h1
    exact ⟨h3.1, h3.2.1, fun _ => h3.2.2 rfl⟩
  · have h3 := tst_bd hK hk h1
    exact ⟨h3.1, h3.2.1, fun _ => by omega⟩
/-- the place of one too many, as both write it down -/
def Sur (n m sp s k : Int) (P : Int → Int) : Prop := s = if m ≤ n ∧ sp = -1 then P k else sp
theorem sur_of {n m sp s k bi : Int} {P : Int → Int} (hb : bi ≠ 0 ↔ m ≤ n) (h : (bi ≠ 0 ∧ sp = -1 ∧ s = P k) ∨ ((bi = 0 ∨ sp ≠ -1) ∧ s = sp)) : Sur n m sp s k P := by
  unfold Sur
  rcases h with ⟨h1, h2, h3⟩ | ⟨h1, h2⟩
  · rw [if_pos ⟨hb.mp h1, h2⟩]; exact h3
  · rw [if_neg (fun q => h1.elim (fun h1 => absurd h1 (hb.mpr q.1)) (fun h1 => h1 q.2))]; exact h2
theorem fu {t : Int} (h0 : 0 ≤ t) (h1 : t < 500) : (500 - t).toNat = (500 - (t + 1)).toNat + 1 := by omega
theorem tsx_bad {K P : Int → Int} {t a s x j s2 : Int} {tot : Int × Bool × Int} (hT : tsF K P (500 - t).toNat a t s = tot) (h0 : 0 ≤ t) (h1 : t < 500) (hx : x = a + 1) (h : tstF K x = (j, false)) (hs : Sur t 4 s s2 x P) : tot = (j, false, s2) := by
  rw [← hT, fu h0 h1]
  subst hx
  exact ts_bad h hs
theorem tsx_end {K P : Int → Int} {t a s x j s2 : Int} {tot : Int × Bool × Int} (hT : tsF K P (500 - t).toNat a t s = tot) (h0 : 0 ≤ t) (h1 : t < 500) (hx : x = a + 1) (h : tstF K x = (j, true)) (hj : ¬ K j = 6) (hs : Sur t 4 s s2 x P) : tot = (j, true, s2) := by
  rw [← hT, fu h0 h1]
  subst hx
  exact ts_end h hj hs
theorem tsx_and {K P : Int → Int} {t t' a s x j s2 : Int} {tot : Int × Bool × Int} (hT : tsF K P (500 - t).toNat a t s = tot) (h0 : 0 ≤ t) (h1 : t < 500) (hx : x = a + 1) (h : tstF K x = (j, true)) (hj : K j = 6) (hs : Sur t 4 s s2 x P) (ht : t' = t + 1) : tsF K P (500 - t').toNat j t' s2 = tot := by
  rw [← hT, fu h0 h1]
  subst hx
  subst ht
  exact (ts_and h hj hs).symm
/-- ahead of the charge: the reader's marks against the walk -/
def HdP (K P : Int → Int) (k ln sp a s fk fp : Int) : Prop := (hdF K P k ln sp = (a, true, s) ∧ fk = 0) ∨ (hdF K P k ln sp = (a, false, s) ∧ fk = 1 ∧ fp = P a)
theorem hd_n {K P : Int → Int} {k ln sp s : Int} (h : ¬ K k = 5) (hs : Sur ln 16 sp s k P) {fk fp : Int} (hf : fk = 0) : HdP K P k ln sp k s fk fp := Or.inl ⟨hd_no h hs, hf⟩
theorem hd_w {K P : Int → Int} {k ln sp s a s1 a2 fk fp fk2 fp2 r : Int} (h : K k = 5) (hs : Sur ln 16 sp s k P) (ht : (tsF K P 500 k 0 s = (a, true, s1) ∧ fk = 0) ∨ (tsF K P 500 k 0 s = (a, false, s1) ∧ fk = 1 ∧ fp = P a)) (hn : (r = 1 ∧ K a = 13) ∨ (r = 0 ∧ ¬ K a = 13))
    (h6 : (fk ≠ 0 ∧ fk2 = fk ∧ fp2 = fp ∧ a2 = a) ∨ (fk = 0 ∧ r ≠ 0 ∧ fk2 = fk ∧ fp2 = fp ∧ a2 = a + 1) ∨ (fk = 0 ∧ r = 0 ∧ fk2 = 1 ∧ fp2 = P a ∧ a2 = a)) : HdP K P k ln sp a2 s1 fk2 fp2 := by
  rcases ht with ⟨t1, t2⟩ | ⟨t1, t2, t3⟩
  · rcases h6 with ⟨q, _⟩ | ⟨_, q, f, _, e⟩ | ⟨_, q, f, p, e⟩
    · exact absurd t2 q
    · refine Or.inl ⟨?_, by omega⟩
      rw [e]
      exact hd_yes h hs t1 (by omega)
    · refine Or.inr ⟨?_, f, by rw [p, e]⟩
      rw [e]
      exact hd_col h hs t1 (by omega)
  · have h7 : fk2 = 1 ∧ fp2 = fp ∧ a2 = a := by omega
    exact Or.inr ⟨by rw [h7.2.2]; exact hd_bad h hs t1, h7.1, by rw [h7.2.1, h7.2.2]; exact t3⟩
/-- a line: the reader's marks against the walk -/
def LnP (K P : Int → Int) (k ln sp a s fk fp : Int) : Prop := (lnF K P k ln sp = (a, true, s) ∧ fk = 0) ∨ (lnF K P k ln sp = (a, false, s) ∧ fk = 1 ∧ fp = P a)
theorem ln_p {K P : Int → Int} {k ln sp a3 s f3 g3 r38 a5 f5 g5 r79 a6 f6 g6 r89 a7 f7 g7 : Int} (h : HdP K P k ln sp a3 s f3 g3) (h38 : r38 = K a3)
    (h5 : (f3 ≠ 0 ∧ f5 = f3 ∧ g5 = g3 ∧ a5 = a3) ∨ (f3 = 0 ∧ (8 ≤ r38 ∧ r38 ≤ 11) ∧ f5 = f3 ∧ g5 = g3 ∧ a5 = a3 + 1) ∨ (f3 = 0 ∧ ¬ (8 ≤ r38 ∧ r38 ≤ 11) ∧ f5 = 1 ∧ g5 = P a3 ∧ a5 = a3)) (h79 : (r79 = 1 ∧ K a5 = 12) ∨ (r79 = 0 ∧ ¬ K a5 = 12))
    (h6 : (f5 ≠ 0 ∧ f6 = f5 ∧ g6 = g5 ∧ a6 = a5) ∨ (f5 = 0 ∧ r79 ≠ 0 ∧ f6 = f5 ∧ g6 = g5 ∧ a6 = a5 + 1) ∨ (f5 = 0 ∧ r79 = 0 ∧ f6 = 1 ∧ g6 = P a5 ∧ a6 = a5)) (h89 : (r89 = 1 ∧ K a6 = 14) ∨ (r89 = 0 ∧ ¬ K a6 = 14))
    (h7 : (f6 ≠ 0 ∧ f7 = f6 ∧ g7 = g6 ∧ a7 = a6) ∨ (f6 = 0 ∧ r89 ≠ 0 ∧ f7 = f6 ∧ g7 = g6 ∧ a7 = a6 + 1) ∨ (f6 = 0 ∧ r89 = 0 ∧ f7 = 1 ∧ g7 = P a6 ∧ a7 = a6)) : LnP K P k ln sp a7 s f7 g7 := by
  rcases h with ⟨t1, t2⟩ | ⟨t1, t2, t3⟩
  · rcases h5 with ⟨q, _⟩ | ⟨_, q5, f5', _, e5⟩ | ⟨_, q5, f5', p5, e5⟩
    · exact absurd t2 q
    · rcases h6 with ⟨q, _⟩ | ⟨_, q6, f6', _, e6⟩ | ⟨_, q6, f6', p6, e6⟩
      · omega
      · rcases h7 with ⟨q, _⟩ | ⟨_, q7, f7', _, e7⟩ | ⟨_, q7, f7', p7, e7⟩
        · omega
        · refine Or.inl ⟨?_, by omega⟩
          rw [show a7 = a3 + 3 by omega]
          exact ln_y t1 (by omega) (by rw [← e5]; omega) (by rw [show a3 + 2 = a6 by omega]; omega)
        · refine Or.inr ⟨?_, f7', by rw [p7, e7]⟩
          rw [show a7 = a3 + 2 by omega]
          exact ln_s t1 (by omega) (by rw [← e5]; omega) (by rw [show a3 + 2 = a6 by omega]; omega)
      · have h9 : f7 = 1 ∧ g7 = g6 ∧ a7 = a6 := by omega
        refine Or.inr ⟨?_, h9.1, by rw [h9.2.1, h9.2.2, p6, e6]⟩
        rw [show a7 = a3 + 1 by omega]
        exact ln_n t1 (by omega) (by rw [← e5]; omega)
    · have h8 : f6 = 1 ∧ g6 = g5 ∧ a6 = a5 := by omega
      have h9 : f7 = 1 ∧ g7 = g6 ∧ a7 = a6 := by omega
      refine Or.inr ⟨?_, h9.1, by rw [h9.2.1, h8.2.1, p5, show a7 = a3 by omega]⟩
      rw [show a7 = a3 by omega]
      exact ln_a t1 (by omega)
  · have h0 : f5 = 1 ∧ g5 = g3 ∧ a5 = a3 := by omega
    have h8 : f6 = 1 ∧ g6 = g5 ∧ a6 = a5 := by omega
    have h9 : f7 = 1 ∧ g7 = g6 ∧ a7 = a6 := by omega
    refine Or.inr ⟨?_, h9.1, by rw [h9.2.1, h8.2.1, h0.2.1, show a7 = a3 by omega]; exact t3⟩
    rw [show a7 = a3 by omega]
    exact ln_h t1
/-! what holds of the walk by itself -/
theorem ts_sp {K P : Int → Int} : ∀ (f : Nat) (k n sp : Int) (j s : Int) (ok : Bool), tsF K P f k n sp = (j, ok, s) → sp ≠ -1 → s ≠ -1
  | 0, k, n, sp, j, s, ok, h, hs => by
    have h9 : (k, false, sp) = (j, ok, s) := h
    injection h9 with e1 e2
    injection e2 with e2 e3
    omega
  | f + 1, k, n, sp, j, s, ok, h, hs => by
    obtain ⟨s1, hs1⟩ : ∃ s1 : Int, s1 = if 4 ≤ n ∧ sp = -1 then P (k + 1) else sp := ⟨_, rfl⟩
    have hs2 : s1 = sp := by rw [hs1, if_neg (by omega)]
    obtain ⟨⟨a, b⟩, hab⟩ : ∃ q : Int × Bool, tstF K (k + 1) = q := ⟨_, rfl⟩
    cases b with
    | false =>
      rw [ts_bad hab hs1] at h
      injection h with e1 e2
      injection e2 with e2 e3
      omega
    | true =>
      by_cases h6 : K a = 6
      · rw [ts_and hab h6 hs1] at h
        exact ts_sp f a (n + 1) s1 j s ok h (by omega)
      · rw [ts_end hab h6 hs1] at h
        injection h with e1 e2
        injection e2 with e2 e3
        omega
theorem hd_sp {K P : Int → Int} {k ln sp a s : Int} {b : Bool} (h : hdF K P k ln sp = (a, b, s)) (hs : sp ≠ -1 ∨ (16 ≤ ln ∧ P k ≠ -1)) : s ≠ -1 := by
  obtain ⟨s0, h0⟩ : ∃ s0 : Int, s0 = if 16 ≤ ln ∧ sp = -1 then P k else sp := ⟨_, rfl⟩
  have hs0 : s0 ≠ -1 := by
    by_cases hq : 16 ≤ ln ∧ sp = -1
    · rw [if_pos hq] at h0
      rcases hs with h9 | h9
      · exact absurd hq.2 h9
      · rw [h0]; exact h9.2
    · rw [if_neg hq] at h0
      rcases hs with h9 | h9
      · rw [h0]; exact h9
      · rw [h0]; exact fun h8 => hq ⟨h9.1, h8⟩
  by_cases h5 : K k = 5
  · obtain ⟨⟨j, b2, s1⟩, ht⟩ : ∃ q : Int × Bool × Int, tsF K P 500 k 0 s0 = q := ⟨_, rfl⟩
    have hs1 := ts_sp 500 k 0 s0 j s1 b2 ht hs0
    cases b2 with
    | false =>
      rw [hd_bad h5 h0 ht] at h
      injection h with e1 e2
      injection e2 with e2 e3
      omega
    | true =>
      by_cases hj : K j = 13
      · rw [hd_yes h5 h0 ht hj] at h
        injection h with e1 e2
        injection e2 with e2 e3
        omega
      · rw [hd_col h5 h0 ht hj] at h
        injection h with e1 e2
        injection e2 with e2 e3
        omega
  · rw [hd_no h5 h0] at h
    injection h with e1 e2
    injection e2 with e2 e3
    omega
theorem ln_sp {K P : Int → Int} {k ln sp j s : Int} {ok : Bool} (h : lnF K P k ln sp = (j, ok, s)) (hs : sp ≠ -1 ∨ (16 ≤ ln ∧ P k ≠ -1)) : s ≠ -1 := by
  obtain ⟨⟨a, b, s1⟩, hh⟩ : ∃ q : Int × Bool × Int, hdF K P k ln sp = q := ⟨_, rfl⟩
  have hs1 := hd_sp hh hs
  have he : s = s1 := by
    cases b with
    | false =>
      rw [ln_h hh] at h
      injection h with e1 e2
      injection e2 with e2 e3
      exact e3.symm
    | true =>
      by_cases h1 : 8 ≤ K a ∧ K a ≤ 11
      · by_cases h2 : K (a + 1) = 12
        · by_cases h3 : K (a + 2) = 14
          · rw [ln_y hh h1 h2 h3] at h
            injection h with e1 e2
            injection e2 with e2 e3
            exact e3.symm
          · rw [ln_s hh h1 h2 h3] at h
            injection h with e1 e2
            injection e2 with e2 e3
            exact e3.symm
        · rw [ln_n hh h1 h2] at h
          injection h with e1 e2
          injection e2 with e2 e3
          exact e3.symm
      · rw [ln_a hh h1] at h
        injection h with e1 e2
        injection e2 with e2 e3
        exact e3.symm
  rw [he]
  exact hs1
theorem txx_end {K P : Int → Int} {t a s : Int} {tot : Int × Bool × Int × Int} (hT : txF K P (500 - t).toNat a t s = tot) (h0 : 0 ≤ t) (h1 : t < 500) (h : K a = 20) : tot = (a, true, s, t) := by
  rw [← hT, fu h0 h1]
  exact tx_end h
theorem txx_bad {K P : Int → Int} {t a s j s2 : Int} {tot : Int × Bool × Int × Int} (hT : txF K P (500 - t).toNat a t s = tot) (h0 : 0 ≤ t) (h1 : t < 500) (h : ¬ K a = 20) (hl : lnF K P a t s = (j, false, s2)) : tot = (j, false, s2, t) := by
  rw [← hT, fu h0 h1]
  exact tx_bad h hl
theorem txx_go {K P : Int → Int} {t t' a s j s2 : Int} {tot : Int × Bool × Int × Int} (hT : txF K P (500 - t).toNat a t s = tot) (h0 : 0 ≤ t) (h1 : t < 500) (h : ¬ K a = 20) (hl : lnF K P a t s = (j, true, s2)) (ht : t' = t + 1) : txF K P (500 - t').toNat j t' s2 = tot := by
  rw [← hT, fu h0 h1]
  subst ht
  exact (tx_go h hl).symm
/-- the reader between two lines -/
def RdI (K P : Int → Int) (z t fk fp a s zd : Int) : Prop := (fk = 0 ∧ txF K P (500 - t).toNat a t s = txF K P 500 0 0 (-1) ∧ 3 * t ≤ a ∧ a ≤ z ∧ ((t ≤ 16 ∧ zd = t) ∨ (16 < t ∧ zd = 16 ∧ s ≠ -1))) ∨ (fk = 1 ∧ 0 ≤ a ∧ a ≤ z ∧ ∃ ln : Int, txF K P 500 0 0 (-1) = (a, false, s, ln) ∧ fp = P a)
theorem rdi_0 {K P : Int → Int} {z fp zd : Int} (hz : 0 ≤ z) (hd : zd = 0) : RdI K P z 0 0 fp 0 (-1) zd := Or.inl ⟨rfl, rfl, by omega, hz, Or.inl ⟨by omega, by omega⟩⟩
theorem rdi_go {K P : Int → Int} {z t t' fk fp a s zd fk2 fp2 a2 s2 zd2 : Int} (h : RdI K P z t fk fp a s zd) (h0 : 0 ≤ t) (h1 : t < 400) (hf : fk = 0) (hk : ¬ K a = 20) (hp : P a ≠ -1) (hl : LnP K P a t s a2 s2 fk2 fp2) (hb : a ≤ a2 ∧ a2 ≤ z ∧ (fk2 = 0 → a + 3 ≤ a2)) (hd : (fk2 = 0 ∧ ((zd < 16 ∧ zd2 = zd + 1) ∨ (16 ≤ zd ∧ zd2 = zd))) ∨ fk2 ≠ 0) (ht : t' = t + 1) : RdI K P z t' fk2 fp2 a2 s2 zd2 := by
  rcases h with ⟨a1, b1, c1, d1, e1⟩ | ⟨a1, _⟩
  · rcases hl with ⟨l1, l2⟩ | ⟨l1, l2, l3⟩
    · have h9 := hb.2.2 l2
      refine Or.inl ⟨l2, txx_go b1 h0 (by omega) hk l1 ht, by omega, hb.2.1, ?_⟩
      by_cases h16 : t' ≤ 16
      · exact Or.inl ⟨h16, by omega⟩
      · refine Or.inr ⟨by omega, by omega, ln_sp l1 ?_⟩
        by_cases h17 : 16 < t
        · exact Or.inl (by omega)
        · exact Or.inr ⟨by omega, hp⟩
    · exact Or.inr ⟨l2, by omega, hb.2.1, t, txx_bad b1 h0 (by omega) hk l1, l3⟩
  · omega
/-- what read() leaves -/
def RdO (K P : Int → Int) (fk fp zd : Int) : Prop := ∃ (j : Int) (ok : Bool) (sp ln : Int), txF K P 500 0 0 (-1) = (j, ok, sp, ln) ∧ ((ok = true ∧ sp = -1 ∧ fk = 0 ∧ fp = -1 ∧ zd = ln) ∨ (ok = true ∧ sp ≠ -1 ∧ fk = 3 ∧ fp = sp) ∨ (ok = false ∧ fk = 1 ∧ fp = P j))
theorem rdo_bad {K P : Int → Int} {z t fk fp a s zd : Int} (h : RdI K P z t fk fp a s zd) (hf : fk ≠ 0) : RdO K P fk fp zd := by
  rcases h with ⟨a1, _⟩ | ⟨a1, _, _, ln, e, p⟩
  · exact absurd a1 hf
  · exact ⟨a, false, s, ln, e, Or.inr (Or.inr ⟨rfl, a1, p⟩)⟩
theorem rdo_end {K P : Int → Int} {z t fk fp a s zd fk2 fp2 : Int} (h : RdI K P z t fk fp a s zd) (h0 : 0 ≤ t) (h1 : t < 400) (hf : fk = 0) (hk : K a = 20) (hfp : fp = -1) (h2 : (s ≠ -1 ∧ fk2 = 3 ∧ fp2 = s) ∨ (s = -1 ∧ fk2 = fk ∧ fp2 = fp)) : RdO K P fk2 fp2 zd := by
  rcases h with ⟨a1, b1, c1, d1, e1⟩ | ⟨a1, _⟩
  · refine ⟨a, true, s, t, txx_end b1 h0 (by omega) hk, ?_⟩
    rcases h2 with ⟨q1, q2, q3⟩ | ⟨q1, q2, q3⟩
    · exact Or.inr (Or.inl ⟨rfl, q1, q2, q3⟩)
    · exact Or.inl ⟨rfl, q1, by omega, by omega, by omega⟩
  · omega
theorem tt_pl {B : Int → Int} {n z k : Int} {K P Po : Int → Int} (h : TT B n K P Po z) (h0 : 0 ≤ k) (h1 : k < z) : 0 ≤ P k := by
  obtain ⟨_, _, _, _, h4, _⟩ := h
  have h9 := h4 k h0 h1
  have h8 := h9.2.bd
  omega
theorem rt_f {K P : Int → Int} {k j fk fp : Int} (h : (tstF K k = (j, true) ∧ fk = 0) ∨ (tstF K k = (j, false) ∧ fk = 1 ∧ fp = P j)) (hf : fk ≠ 0) : tstF K k = (j, false) ∧ fp = P j := by
  rcases h with ⟨_, h⟩ | ⟨h1, _, h2⟩
  · exact absurd h hf
  · exact ⟨h1, h2⟩
theorem rt_t {K P : Int → Int} {k j fk fp : Int} (h : (tstF K k = (j, true) ∧ fk = 0) ∨ (tstF K k = (j, false) ∧ fk = 1 ∧ fp = P j)) (hf : fk = 0) : tstF K k = (j, true) := by
  rcases h with ⟨h, _⟩ | ⟨_, h, _⟩
  · exact h
  · omega
theorem rdi_bd {K P : Int → Int} {z t fk fp a s zd : Int} (h : RdI K P z t fk fp a s zd) : (fk = 0 ∨ fk = 1) ∧ a ≤ z ∧ (fk = 0 → 3 * t ≤ a) := by
  rcases h with ⟨a1, b1, c1, d1, e1⟩ | ⟨a1, b1, c1, _⟩
  · exact ⟨Or.inl a1, d1, fun _ => c1⟩
  · exact ⟨Or.inr a1, c1, fun _ => by omega⟩
theorem res_bad {K P : Int → Int} {fk fp zd : Int} (h : RdO K P fk fp zd) (hf : fk ≠ 0) : RES K P fk fp (-1 : Int32).toInt := by
  rw [i32_m1]
  obtain ⟨j, ok, sp, ln, e, h⟩ := h
  refine ⟨j, ok, sp, ln, e, ?_⟩
  rcases h with ⟨_, _, h3, _⟩ | ⟨h1, h2, h3, h4⟩ | ⟨h1, h2, h3⟩
  · exact absurd h3 hf
  · exact Or.inr (Or.inl ⟨h1, h2, h3, h4, rfl⟩)
  · exact Or.inr (Or.inr ⟨h1, h2, h3, rfl⟩)
theorem res_ok {K P : Int → Int} {fk fp zd : Int} (h : RdO K P fk fp zd) (hf : fk = 0) : RES K P fk fp zd := by
  obtain ⟨j, ok, sp, ln, e, h⟩ := h
  refine ⟨j, ok, sp, ln, e, ?_⟩
  rcases h with ⟨h1, h2, h3, h4, h5⟩ | ⟨_, _, h3, _⟩ | ⟨_, h3, _⟩
  · exact Or.inl ⟨h1, h2, h3, h4, h5⟩
  · omega
  · omega
