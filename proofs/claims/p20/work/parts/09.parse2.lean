/-! bytes: what feed() lays behind the tape -/
theorem bp_b (x : Int32) : x.toInt8.toInt32 &&& 255 = x &&& 255 := by
  apply Int32.toBitVec_inj.mp
  rw [Int32.toBitVec_and, Int32.toBitVec_and, Int8.toBitVec_toInt32, Int32.toBitVec_toInt8]
  apply BitVec.eq_of_getLsbD_eq
  intro i hi
  rw [BitVec.getLsbD_and, BitVec.getLsbD_and]
  have hm : ∀ i < 32, 8 ≤ i → (255 : Int32).toBitVec.getLsbD i = false := by decide
  rcases Nat.lt_or_ge i 8 with z | z
  · rw [BitVec.getLsbD_signExtend, BitVec.getLsbD_signExtend, if_pos z, if_pos hi]
    simp only [z, hi, decide_true, Bool.true_and]
  · rw [hm i hi z]; simp
theorem nar_b {x y : Int32} (h : x.toInt8.toInt32 = y) : vp_nar .byte y &&& 255 = x &&& 255 := by
  show y.toInt8.toInt32 &&& 255 = x &&& 255
  rw [bp_b, ← h, bp_b]
def bytS (v sh : Int32) : Int32 := (v >>> (sh &&& 31)) &&& 255
def App (f g : Nat → Int32) (z : Int) (v : Int32) : Prop := (∀ j : Nat, (j : Int) < z → g j = f j) ∧ (∀ (k : Nat) (sh : Int32), k < 4 → sh.toInt = 24 - 8 * k → g (z.toNat + k) = bytS v sh)
def AppM (f g : Nat → Int32) (z : Int) (v : Int32) : Prop := (∀ j : Nat, (j : Int) < z → g j = f j) ∧ (∀ (k : Nat) (sh : Int32), k < 4 → sh.toInt = 24 - 8 * k → g (z.toNat + k) &&& 255 = bytS v sh)
def TapeEq (f g : Nat → Int32) (n : Int) : Prop := ∀ j : Nat, (j : Int) < n → f j = g j &&& 255
theorem sh_of {k : Nat} (hk : k < 4) : ∃ sh : Int32, sh.toInt = 24 - 8 * (k : Int) := by
  rcases (show k = 0 ∨ k = 1 ∨ k = 2 ∨ k = 3 by omega) with rfl | rfl | rfl | rfl
  · exact ⟨24, by decide⟩
  · exact ⟨16, by decide⟩
  · exact ⟨8, by decide⟩
  · exact ⟨0, by decide⟩
theorem app_eq {f f' g g' : Nat → Int32} {z : Int} {v : Int32} (hz : 0 ≤ z) (h : TapeEq f g z) (a : App f f' z v) (b : AppM g g' z v) : TapeEq f' g' (z + 4) := by
  intro j hj
  by_cases hq : (j : Int) < z
  · rw [a.1 j hq, b.1 j hq]; exact h j hq
  · obtain ⟨k, rfl⟩ : ∃ k : Nat, j = z.toNat + k := ⟨j - z.toNat, by omega⟩
    have hk : k < 4 := by omega
    obtain ⟨sh, hs⟩ := sh_of hk
    rw [a.2 k sh hk hs, b.2 k sh hk hs]
theorem app_stO {f f1 : Nat → Int32} {z1 z x : Int32} (h0 : 0 ≤ z.toInt) (hle : z.toInt ≤ z1.toInt) (hO : ∀ j : Nat, (j : Int) < z.toInt → f1 j = f j) : ∀ j : Nat, (j : Int) < z.toInt → upd f1 z1.toNatClampNeg x j = f j := by
  intro j hj
  rw [pk_un (show j ≠ z1.toNatClampNeg from (show j ≠ z1.toInt.toNat by omega))]
  exact hO j hj
theorem app_stW {f1 : Nat → Int32} {z1 z1' z x v sh_ : Int32} (h0 : 0 ≤ z.toInt) (hle : z.toInt ≤ z1.toInt) (hz : 8 * (z1.toInt - z.toInt) = 24 - sh_.toInt) (hz' : z1'.toInt = z1.toInt + 1) (hx : x = bytS v sh_) (hW : ∀ (k : Nat) (sh : Int32), (k : Int) < z1.toInt - z.toInt → sh.toInt = 24 - 8 * k → f1 (z.toInt.toNat + k) = bytS v sh) : ∀ (k : Nat) (sh : Int32), (k : Int) < z1'.toInt - z.toInt → sh.toInt = 24 - 8 * k → upd f1 z1.toNatClampNeg x (z.toInt.toNat + k) = bytS v sh := by
  intro k sh hk hs
  by_cases hq : (k : Int) = z1.toInt - z.toInt
  · obtain rfl : sh = sh_ := Int32.toInt_inj.mp (by omega)
    rw [show z.toInt.toNat + k = z1.toNatClampNeg from (show _ = z1.toInt.toNat by omega), pk_us, hx]
  · rw [pk_un (show z.toInt.toNat + k ≠ z1.toNatClampNeg from (show z.toInt.toNat + k ≠ z1.toInt.toNat by omega))]
    exact hW k sh (by omega) hs
theorem app_stM {f1 : Nat → Int32} {z1 z1' z x v sh_ : Int32} (h0 : 0 ≤ z.toInt) (hle : z.toInt ≤ z1.toInt) (hz : 8 * (z1.toInt - z.toInt) = 24 - sh_.toInt) (hz' : z1'.toInt = z1.toInt + 1) (hx : x &&& 255 = bytS v sh_) (hW : ∀ (k : Nat) (sh : Int32), (k : Int) < z1.toInt - z.toInt → sh.toInt = 24 - 8 * k → f1 (z.toInt.toNat + k) &&& 255 = bytS v sh) : ∀ (k : Nat) (sh : Int32), (k : Int) < z1'.toInt - z.toInt → sh.toInt = 24 - 8 * k → upd f1 z1.toNatClampNeg x (z.toInt.toNat + k) &&& 255 = bytS v sh := by
  intro k sh hk hs
  by_cases hq : (k : Int) = z1.toInt - z.toInt
  · obtain rfl : sh = sh_ := Int32.toInt_inj.mp (by omega)
    rw [show z.toInt.toNat + k = z1.toNatClampNeg from (show _ = z1.toInt.toNat by omega), pk_us, hx]
  · rw [pk_un (show z.toInt.toNat + k ≠ z1.toNatClampNeg from (show z.toInt.toNat + k ≠ z1.toInt.toNat by omega))]
    exact hW k sh (by omega) hs
/-! the bytes as whole numbers, tokens in rows -/
def bI (f : Nat → Int32) (j : Int) : Int := (f j.toNat).toInt
def bM (f : Nat → Int32) (j : Int) : Int := (f j.toNat &&& 255).toInt
def kn (f : Nat → Int32) (z i : Int) : Int := if 0 ≤ i ∧ i < z then (f i.toNat).toInt else 20
def pn (f : Nat → Int32) (z i : Int) : Int := if 0 ≤ i ∧ i < z then (f i.toNat).toInt else -1
theorem kn_lt {f : Nat → Int32} {z i : Int} (h : kn f z i ≠ 20) : 0 ≤ i ∧ i < z := by
  unfold kn at h
  by_cases hq : 0 ≤ i ∧ i < z
  · exact hq
  · rw [if_neg hq] at h
    exact absurd rfl h
theorem tp_B {f g : Nat → Int32} {n : Int} (h : TapeEq f g n) : ∀ j : Int, 0 ≤ j → j < n → bI f j = bM g j := by
  intro j h0 h1
  unfold bI bM
  rw [h j.toNat (by omega)]
theorem RowR.congr {P : Int → Prop} {B B' : Int → Int} {n p q : Int} (hB : ∀ j : Int, 0 ≤ j → j < n → B j = B' j) (h0 : 0 ≤ p) (h : RowR P B n p q) : RowR P B' n p q := by
  obtain ⟨h1, h2, h3, h4⟩ := h
  exact ⟨h1, h2, fun j a b => by rw [← hB j (by omega) (by omega)]; exact h3 j a b, fun a => by rw [← hB q (by omega) a]; exact h4 a⟩
theorem WordIs.congr {B B' : Int → Int} {n b e : Int} {i : Nat} (hB : ∀ j : Int, 0 ≤ j → j < n → B j = B' j) (h0 : 0 ≤ b) (he : e ≤ n) : WordIs B b e i ↔ WordIs B' b e i := by
  constructor
  · intro h
    have h1 := h.1
    exact ⟨h.1, fun j hj => by rw [← hB _ (by omega) (by omega)]; exact h.2 j hj⟩
  · intro h
    have h1 := h.1
    exact ⟨h.1, fun j hj => by rw [hB _ (by omega) (by omega)]; exact h.2 j hj⟩
theorem TokR.congr {B B' : Int → Int} {n p k b e : Int} (hB : ∀ j : Int, 0 ≤ j → j < n → B j = B' j) (h0 : 0 ≤ p) (h : TokR B n p k b e) : TokR B' n p k b e := by
  have hbd := h.bd
  obtain ⟨hb, h⟩ := h
  refine ⟨hb.congr hB h0, ?_⟩
  rcases h with h | ⟨a1, a2, a3, a4⟩ | ⟨a1, a2, a3, a4⟩ | ⟨a1, a2, a3, a4, a5⟩
  · exact Or.inl h
  · refine Or.inr (Or.inl ⟨a1, by rw [← hB b (by omega) a1]; exact a2, a3.congr hB (by omega), ?_⟩)
    rcases a4 with ⟨i, hi, hk, hw⟩ | ⟨hk, hn⟩
    · exact Or.inl ⟨i, hi, hk, (WordIs.congr hB (by omega) (by omega)).mp hw⟩
    · exact Or.inr ⟨hk, fun i hi hw => hn i hi ((WordIs.congr hB (by omega) (by omega)).mpr hw)⟩
  · exact Or.inr (Or.inr (Or.inl ⟨a1, by rw [← hB b (by omega) a1]; exact a2, a3.congr hB (by omega), a4⟩))
  · exact Or.inr (Or.inr (Or.inr ⟨a1, by rw [← hB b (by omega) a1]; exact a2, by rw [← hB b (by omega) a1]; exact a3, a4, by rw [← hB b (by omega) a1]; exact a5⟩))
/-- all tokens of a tape: kinds, places, where each ends; the last one, and it alone, is the end -/
def TT (B : Int → Int) (n : Int) (K Pl Po : Int → Int) (z : Int) : Prop := 0 ≤ n ∧ 1 ≤ z ∧ z ≤ n + 1 ∧ Po 0 = 0 ∧ (∀ c : Int, 0 ≤ c → c < z → 0 ≤ Po c ∧ TokR B n (Po c) (K c) (Pl c) (Po (c + 1))) ∧ K (z - 1) = 20 ∧ (∀ c : Int, 0 ≤ c → c < z - 1 → K c ≠ 20)
theorem TT.congr {B B' : Int → Int} {n z : Int} {K Pl Po : Int → Int} (hB : ∀ j : Int, 0 ≤ j → j < n → B j = B' j) (h : TT B n K Pl Po z) : TT B' n K Pl Po z := by
  obtain ⟨h0, h1, h2, h3, h4, h5, h6⟩ := h
  exact ⟨h0, h1, h2, h3, fun c a b => ⟨(h4 c a b).1, (h4 c a b).2.congr hB (h4 c a b).1⟩, h5, h6⟩
/-- what split() has laid so far -/
def SplitI (B : Int → Int) (n : Int) (e1 e3 : Nat → Int32) (z at_ : Int) : Prop := ∃ Po : Int → Int, Po 0 = 0 ∧ (∀ c : Int, 0 ≤ c → c < z → 0 ≤ Po c ∧ TokR B n (Po c) (e1 c.toNat).toInt (e3 c.toNat).toInt (Po (c + 1)) ∧ (e1 c.toNat).toInt ≠ 20) ∧ z ≤ Po z ∧ Po z ≤ at_ ∧ at_ ≤ n ∧ (∀ j : Int, Po z ≤ j → j < at_ → blk (B j))
theorem split_0 {B : Int → Int} {n : Int} {e1 e3 : Nat → Int32} (h : 0 ≤ n) : SplitI B n e1 e3 0 0 := ⟨fun _ => 0, rfl, fun c h0 h1 => by omega, Int.le_refl 0, Int.le_refl 0, h, fun j h0 h1 => absurd (show (0 : Int) ≤ j from h0) (by omega)⟩
theorem split_le {B : Int → Int} {n z at_ : Int} {e1 e3 : Nat → Int32} (h : SplitI B n e1 e3 z at_) : z ≤ at_ ∧ at_ ≤ n := by
  obtain ⟨Po, _, _, h1, h2, h3, _⟩ := h
  omega
theorem split_blk {B : Int → Int} {n z at_ a' : Int} {e1 e3 : Nat → Int32} (h : SplitI B n e1 e3 z at_) (hn : at_ < n) (hb : blk (B at_)) (ha : a' = at_ + 1) : SplitI B n e1 e3 z a' := by
  obtain ⟨Po, h0, h1, h2, h3, h4, h5⟩ := h
  refine ⟨Po, h0, h1, h2, by omega, by omega, fun j a b => ?_⟩
  by_cases hq : j = at_
  · rw [hq]; exact hb
  · exact h5 j a (by omega)
theorem split_tok {B : Int → Int} {n z at_ k e z' : Int} {e1 e3 g1 g3 : Nat → Int32} {zi kd pl : Int32} (h : SplitI B n e1 e3 z at_) (hzi : zi.toInt = z) (hz : 0 ≤ z) (hn : at_ < n) (hb : ¬ blk (B at_)) (ht : TokR B n at_ k at_ e) (hk : k ≠ 20) (hkd : kd.toInt = k) (hpl : pl.toInt = at_) (hg1 : g1 = upd e1 zi.toNatClampNeg kd) (hg3 : g3 = upd e3 zi.toNatClampNeg pl) (hz' : z' = z + 1) : SplitI B n g1 g3 z' e := by
  obtain ⟨Po, h0, h1, h2, h3, h4, h5⟩ := h
  have hbd := ht.bd
  have hzn : zi.toNatClampNeg = z.toNat := by show zi.toInt.toNat = z.toNat; rw [hzi]
  have htt : TokR B n (Po z) k at_ e := ⟨⟨h3, by omega, h5, fun _ => hb⟩, ht.2⟩
  subst hz'
  refine ⟨fun c => if c = z + 1 then e else Po c, ?_, fun c a b => ?_, ?_, ?_, by omega, ?_⟩
  · show (if (0 : Int) = z + 1 then e else Po 0) = 0
    rw [if_neg (by omega)]; exact h0
  · show 0 ≤ (if c = z + 1 then e else Po c) ∧ TokR B n (if c = z + 1 then e else Po c) _ _ (if c + 1 = z + 1 then e else Po (c + 1)) ∧ _
    rw [if_neg (show ¬ c = z + 1 by omega)]
    by_cases hq : c = z
    · subst hq
      rw [if_pos rfl, hg1, hg3, hzn, pk_us, pk_us, hkd, hpl]
      exact ⟨by omega, htt, hk⟩
    · rw [if_neg (by omega), hg1, hg3, hzn, pk_un (show c.toNat ≠ z.toNat by omega), pk_un (show c.toNat ≠ z.toNat by omega)]
      exact h1 c a (by omega)
  · show z + 1 ≤ (if z + 1 = z + 1 then e else _)
    rw [if_pos rfl]; omega
  · show (if z + 1 = z + 1 then e else _) ≤ e
    rw [if_pos rfl]; exact Int.le_refl e
  · intro j a b
    have a' : (if z + 1 = z + 1 then e else Po (z + 1)) ≤ j := a
    rw [if_pos rfl] at a'
    omega
theorem split_end {B : Int → Int} {n z : Int} {e1 e3 g1 g3 : Nat → Int32} {zi kd pl : Int32} {z' : Int} (h : SplitI B n e1 e3 z n) (hzi : zi.toInt = z) (hz : 0 ≤ z) (hkd : kd.toInt = 20) (hpl : pl.toInt = n) (hg1 : g1 = upd e1 zi.toNatClampNeg kd) (hg3 : g3 = upd e3 zi.toNatClampNeg pl) (hz' : z' = z + 1) : ∃ Po : Int → Int, TT B n (kn g1 z') (pn g3 z') Po z' := by
  obtain ⟨Po, h0, h1, h2, h3, h4, h5⟩ := h
  have hzn : zi.toNatClampNeg = z.toNat := by show zi.toInt.toNat = z.toNat; rw [hzi]
  subst hz'
  have hkc : ∀ c : Int, 0 ≤ c → c < z → kn g1 (z + 1) c = (e1 c.toNat).toInt := fun c a b => by
    unfold kn
    rw [if_pos ⟨a, by omega⟩, hg1, hzn, pk_un (show c.toNat ≠ z.toNat by omega)]
  have hpc : ∀ c : Int, 0 ≤ c → c < z → pn g3 (z + 1) c = (e3 c.toNat).toInt := fun c a b => by
    unfold pn
    rw [if_pos ⟨a, by omega⟩, hg3, hzn, pk_un (show c.toNat ≠ z.toNat by omega)]
  have hkz : kn g1 (z + 1) z = 20 := by
    unfold kn
    rw [if_pos ⟨hz, by omega⟩, hg1, hzn, pk_us, hkd]
  have hpz : pn g3 (z + 1) z = n := by
    unfold pn
    rw [if_pos ⟨hz, by omega⟩, hg3, hzn, pk_us, hpl]
  refine ⟨fun c => if c = z + 1 then n else Po c, by omega, by omega, by omega, ?_, fun c a b => ?_, ?_, fun c a b => ?_⟩
  · show (if (0 : Int) = z + 1 then n else Po 0) = 0
    rw [if_neg (by omega)]; exact h0
  · show 0 ≤ (if c = z + 1 then n else Po c) ∧ TokR B n (if c = z + 1 then n else Po c) _ _ (if c + 1 = z + 1 then n else Po (c + 1))
    rw [if_neg (show ¬ c = z + 1 by omega)]
    by_cases hq : c = z
    · subst hq
      rw [if_pos rfl, hkz, hpz]
      exact ⟨by omega, ⟨h3, Int.le_refl n, h5, fun a => absurd a (by omega)⟩, Or.inl ⟨rfl, rfl, rfl⟩⟩
    · rw [if_neg (by omega), hkc c a (by omega), hpc c a (by omega)]
      have h9 := h1 c a (by omega)
      exact ⟨h9.1, h9.2.1⟩
  · rw [show z + 1 - 1 = z by omega]; exact hkz
  · rw [hkc c a (by omega)]
    exact (h1 c a (by omega)).2.2
/-! the class's reader, as numbers -/
theorem tst_ite {K : Int → Int} {k a : Int} (h : (K k = 7 ∧ a = k + 1) ∨ (K k ≠ 7 ∧ a = k)) : a = if K k = 7 then k + 1 else k := by
  rcases h with ⟨h1, h2⟩ | ⟨h1, h2⟩
  · rw [if_pos h1]; exact h2
  · rw [if_neg h1]; exact h2
theorem rt_night {K : Int → Int} {k a3 a4 r37 fk4 : Int} (h3 : (K k = 7 ∧ a3 = k + 1) ∨ (K k ≠ 7 ∧ a3 = k)) (h37 : r37 = K a3) (h4 : (fk4 = 0 ∧ a4 = a3 + 1 ∧ 0 ≤ r37 ∧ r37 ≤ 4) ∨ (fk4 = 1 ∧ a4 = a3 ∧ ¬ (0 ≤ r37 ∧ r37 ≤ 4))) (hn : r37 = 4) : tstF K k = (a4, true) ∧ fk4 = 0 := by
  rcases h4 with ⟨f, e, _⟩ | ⟨f, e, h9⟩
  · subst e
    exact ⟨tst_n (by omega) (tst_ite h3), f⟩
  · exact absurd (show 0 ≤ r37 ∧ r37 ≤ 4 by omega) h9
theorem rt_post {K P : Int → Int} {k a3 a4 a5 a6 r37 r85 r130 fk4 fk5 fk6 fp4 fp5 fp6 : Int} (h3 : (K k = 7 ∧ a3 = k + 1) ∨ (K k ≠ 7 ∧ a3 = k)) (h37 : r37 = K a3) (h4 : (fk4 = 0 ∧ a4 = a3 + 1 ∧ 0 ≤ r37 ∧ r37 ≤ 4) ∨ (fk4 = 1 ∧ a4 = a3 ∧ ¬ (0 ≤ r37 ∧ r37 ≤ 4))) (hp4 : fk4 = 0 ∨ fp4 = P a3) (hn : r37 ≠ 4) (h85 : r85 = K a4)
    (h5 : (fk4 = 0 ∧ fk5 = 0 ∧ a5 = a4 + 1 ∧ 15 ≤ r85 ∧ r85 ≤ 17) ∨ (fk4 = 0 ∧ fk5 = 1 ∧ a5 = a4 ∧ ¬ (15 ≤ r85 ∧ r85 ≤ 17)) ∨ (fk4 = 1 ∧ fk5 = 1 ∧ a5 = a4)) (hp5 : fk5 = 0 ∨ (fk4 = 0 ∧ fp5 = P a4) ∨ (fk4 = 1 ∧ fp5 = fp4)) (h130 : (r130 = 1 ∧ K a5 = 12) ∨ (r130 = 0 ∧ ¬ K a5 = 12))
    (h6 : (fk5 ≠ 0 ∧ fk6 = fk5 ∧ fp6 = fp5 ∧ a6 = a5) ∨ (fk5 = 0 ∧ r130 ≠ 0 ∧ fk6 = fk5 ∧ fp6 = fp5 ∧ a6 = a5 + 1) ∨ (fk5 = 0 ∧ r130 = 0 ∧ fk6 = 1 ∧ fp6 = P a5 ∧ a6 = a5)) : (tstF K k = (a6, true) ∧ fk6 = 0) ∨ (tstF K k = (a6, false) ∧ fk6 = 1 ∧ fp6 = P a6) := by
  rcases h4 with ⟨f4, e4, b4⟩ | ⟨f4, e4, b4⟩
  · rcases h5 with ⟨g5, f5, e5, b5⟩ | ⟨g5, f5, e5, b5⟩ | ⟨g5, f5, e5⟩
    · rcases h6 with ⟨q6, _⟩ | ⟨q6, r6, f6, p6, e6⟩ | ⟨q6, r6, f6, p6, e6⟩
      · exact absurd f5 q6
      · refine Or.inl ⟨?_, by omega⟩
        rw [show a6 = a3 + 3 by omega]
        exact tst_y (by omega) (by rw [← e4, ← h85]; exact b5) (by rw [show a3 + 2 = a5 by omega]; omega) (tst_ite h3)
      · refine Or.inr ⟨?_, f6, by rw [p6, e6]⟩
        rw [show a6 = a3 + 2 by omega]
        exact tst_v (by omega) (by rw [← e4, ← h85]; exact b5) (by rw [show a3 + 2 = a5 by omega]; omega) (tst_ite h3)
    · have hf6 : fk6 = 1 ∧ fp6 = fp5 ∧ a6 = a5 := by omega
      refine Or.inr ⟨?_, hf6.1, ?_⟩
      · rw [show a6 = a3 + 1 by omega]
        exact tst_s (by omega) (by rw [← e4, ← h85]; exact b5) (tst_ite h3)
      · rw [hf6.2.1, hf6.2.2, e5]
        rcases hp5 with h | ⟨_, h⟩ | ⟨h, _⟩
        · omega
        · exact h
        · omega
    · omega
  · have hf5 : fk5 = 1 ∧ a5 = a4 := by omega
    have hf6 : fk6 = 1 ∧ fp6 = fp5 ∧ a6 = a5 := by omega
    refine Or.inr ⟨?_, hf6.1, ?_⟩
    · rw [show a6 = a3 by omega]
      exact tst_x (by omega) (tst_ite h3)
    · rw [hf6.2.1, show a6 = a3 by omega]
      rcases hp5 with h | ⟨h, _⟩ | ⟨_, h⟩
      · omega
      · omega
      · rw [h]
        rcases hp4 with h' | h'
        · omega
        · exact h'
