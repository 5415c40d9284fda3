/-! a word as one number -/
theorem u_tn {n : Nat} (h : n < 2 ^ 64) : (UInt64.ofNat n).toNat = n := Nat.mod_eq_of_lt h
theorem g_or {k p a b : Nat} (hp : 2 ^ k = p) (ha : a < p) (h : b * p + a < 2 ^ 64) : lN (b * p) ||| lN a = lN (b * p + a) := by
  subst hp
  have h1 : b * 2 ^ k ||| a = b * 2 ^ k + a := by rw [← Nat.shiftLeft_eq, Nat.shiftLeft_add_eq_or_of_lt ha]
  have h3 : UInt64.ofNat (b * 2 ^ k) ||| UInt64.ofNat a = UInt64.ofNat (b * 2 ^ k + a) := UInt64.toNat_inj.mp (by rw [UInt64.toNat_or, u_tn (by omega), u_tn (by omega), u_tn h, h1])
  have h2 := congrArg UInt64.toInt64 h3
  exact h2
theorem g_shl {a k p : Nat} {y : Int64} (hy : y.toBitVec.smod 64 = BitVec.ofNat 64 k) (hk : k < 64) (hp : 2 ^ k = p) (ha : a < 2 ^ 64) : lN a <<< y = lN (a * p) := by
  subst hp
  apply Int64.toBitVec_inj.mp
  rw [Int64.toBitVec_shiftLeft, hy]
  apply BitVec.eq_of_toNat_eq
  have hb : (lN a).toBitVec.toNat = a := Nat.mod_eq_of_lt ha
  have hk' : (BitVec.ofNat 64 k).toNat = k := Nat.mod_eq_of_lt (by omega)
  have h : ((lN a).toBitVec <<< BitVec.ofNat 64 k).toNat = (a * 2 ^ k) % 2 ^ 64 := by simp only [BitVec.shiftLeft_eq', BitVec.toNat_shiftLeft, hb, hk', Nat.shiftLeft_eq]
  exact h
def pkD (d : Nat → Nat) : Nat → Nat
  | 0 => 0
  | k + 1 => pkD d k * 256 + d k
theorem pkD_lt {d : Nat → Nat} : ∀ (L : Nat), (∀ j : Nat, j < L → d j < 256) → pkD d L < 256 ^ L
  | 0, _ => Nat.lt_succ_self 0
  | L + 1, h => by
    have h1 := pkD_lt L (fun j hj => h j (by omega))
    have h2 := h L (by omega)
    rw [Nat.pow_succ]
    show pkD d L * 256 + d L < _
    omega
theorem pkD_congr {d d' : Nat → Nat} : ∀ (L : Nat), (∀ j : Nat, j < L → d j = d' j) → pkD d L = pkD d' L
  | 0, _ => rfl
  | L + 1, h => by
    show pkD d L * 256 + d L = pkD d' L * 256 + d' L
    rw [pkD_congr L (fun j hj => h j (by omega)), h L (by omega)]
theorem pkD_inj {d d' : Nat → Nat} : ∀ (L L' : Nat), (∀ j : Nat, j < L → 1 ≤ d j ∧ d j < 256) → (∀ j : Nat, j < L' → 1 ≤ d' j ∧ d' j < 256) → pkD d L = pkD d' L' → L = L' ∧ ∀ j : Nat, j < L → d j = d' j
  | 0, 0, _, _, _ => ⟨rfl, fun j hj => absurd hj (Nat.not_lt_zero j)⟩
  | 0, m + 1, _, h', e => by
    have h1 := h' m (by omega)
    have e2 : 0 = pkD d' m * 256 + d' m := e
    omega
  | l + 1, 0, h, _, e => by
    have h1 := h l (by omega)
    have e2 : pkD d l * 256 + d l = 0 := e
    omega
  | l + 1, m + 1, h, h', e => by
    have a := h l (by omega)
    have b := h' m (by omega)
    have e2 : pkD d l * 256 + d l = pkD d' m * 256 + d' m := e
    obtain ⟨hlm, ih⟩ := pkD_inj l m (fun j hj => h j (by omega)) (fun j hj => h' j (by omega)) (by omega)
    subst hlm
    refine ⟨rfl, fun j hj => ?_⟩
    by_cases hq : j = l
    · subst hq; omega
    · exact ih j (by omega)
def wNum (i : Nat) : Nat := pkD (fun j => (wCh i j).toNat) (wLn i)
def wCon (i : Nat) : Int64 := lN (wNum i)
theorem wch_bd : ∀ (i : Fin 12) (j : Fin 5), j.val < wLn i.val → 97 ≤ wCh i.val j.val ∧ wCh i.val j.val ≤ 122 := by decide +kernel
theorem wln_bd : ∀ i : Fin 12, 2 ≤ wLn i.val ∧ wLn i.val ≤ 5 := by decide +kernel
theorem wcon_ne0 : ∀ i : Fin 12, wCon i.val ≠ 0 := by decide +kernel
theorem lN_inj {a b : Nat} (ha : a < 2 ^ 64) (hb : b < 2 ^ 64) (h : lN a = lN b) : a = b := by
  have h2 : (lN a).toBitVec.toNat = a := Nat.mod_eq_of_lt ha
  have h3 : (lN b).toBitVec.toNat = b := Nat.mod_eq_of_lt hb
  rw [← h2, ← h3, h]
abbrev dB (B : Int → Int) (b : Int) : Nat → Nat := fun j => (B (b + (j : Int))).toNat
theorem word_iff {B : Int → Int} {b e : Int} {i : Nat} {wo : Int64} (hi : i < 12) (hr : ∀ j : Int, b ≤ j → j < e → ltr (B j)) (hbe : b < e) (hwo : (e - b ≤ 8 ∧ wo = lN (pkD (dB B b) (e - b).toNat)) ∨ (8 < e - b ∧ wo = 0)) : WordIs B b e i ↔ wo = wCon i := by
  have hln : 2 ≤ wLn i ∧ wLn i ≤ 5 := wln_bd ⟨i, hi⟩
  have hch : ∀ j : Nat, j < wLn i → 97 ≤ wCh i j ∧ wCh i j ≤ 122 := fun j hj => wch_bd ⟨i, hi⟩ ⟨j, by omega⟩ hj
  have hd : ∀ j : Nat, j < (e - b).toNat → 97 ≤ B (b + j) ∧ B (b + j) ≤ 122 := fun j hj => hr (b + j) (by omega) (by omega)
  have h64 : (256 : Nat) ^ 8 = 2 ^ 64 := by decide
  have hwl : wNum i < 2 ^ 64 := by
    have h1 := pkD_lt (d := fun j => (wCh i j).toNat) (wLn i) (fun j hj => by have h2 := hch j hj; show (wCh i j).toNat < 256; omega)
    have h3 : 256 ^ wLn i ≤ 256 ^ 8 := Nat.pow_le_pow_right (by decide) (by omega)
    rw [h64] at h3
    exact Nat.lt_of_lt_of_le h1 h3
  constructor
  · intro h
    have h1 := h.1
    rcases hwo with ⟨h8, hwo⟩ | ⟨h8, hwo⟩
    · rw [hwo, show (e - b).toNat = wLn i by omega]
      unfold wCon wNum
      rw [pkD_congr (d := dB B b) (d' := fun j => (wCh i j).toNat) (wLn i) (fun j hj => by show (B (b + j)).toNat = (wCh i j).toNat; rw [h.2 j hj])]
    · omega
  · intro h
    rcases hwo with ⟨h8, hwo⟩ | ⟨h8, hwo⟩
    · rw [hwo] at h
      have hp := pkD_lt (d := dB B b) (e - b).toNat (fun j hj => by have h2 := hd j hj; show (B (b + j)).toNat < 256; omega)
      have hp8 : 256 ^ (e - b).toNat ≤ 256 ^ 8 := Nat.pow_le_pow_right (by decide) (by omega)
      rw [h64] at hp8
      obtain ⟨hL, hj⟩ := pkD_inj (d := dB B b) (d' := fun j => (wCh i j).toNat) (e - b).toNat (wLn i) (fun j hj => by have h2 := hd j hj; show 1 ≤ (B (b + j)).toNat ∧ (B (b + j)).toNat < 256; omega) (fun j hj => by have h2 := hch j hj; show 1 ≤ (wCh i j).toNat ∧ (wCh i j).toNat < 256; omega) (lN_inj (Nat.lt_of_lt_of_le hp hp8) hwl h)
      refine ⟨by omega, fun j hj2 => ?_⟩
      have a : (B (b + j)).toNat = (wCh i j).toNat := hj j (by omega)
      have c := hd j (by omega)
      have d := hch j hj2
      omega
    · exact absurd (h.symm.trans hwo) (wcon_ne0 ⟨i, hi⟩)
theorem word_km {B : Int → Int} {b e : Int} {wo : Int64} (hr : ∀ j : Int, b ≤ j → j < e → ltr (B j)) (hbe : b < e) (hwo : (e - b ≤ 8 ∧ wo = lN (pkD (dB B b) (e - b).toNat)) ∨ (8 < e - b ∧ wo = 0)) : ∃ k : Int, KindW B b e k ∧ ((0 ≤ k ∧ k ≤ 11) ∨ k = 18) ∧ ∀ i : Nat, i < 12 → (k = i ↔ wo = wCon i) := by
  by_cases hx : ∃ i : Nat, i < 12 ∧ WordIs B b e i
  · obtain ⟨i, hi, hw⟩ := hx
    refine ⟨i, Or.inl ⟨i, hi, rfl, hw⟩, Or.inl ⟨by omega, by omega⟩, fun i' hi' => ⟨fun h => ?_, fun h => ?_⟩⟩
    · have h9 : i = i' := by omega
      subst h9
      exact (word_iff hi hr hbe hwo).mp hw
    · have h9 := WordIs.uniq hi hi' hw ((word_iff hi' hr hbe hwo).mpr h)
      omega
  · exact ⟨18, Or.inr ⟨rfl, fun i hi hw => hx ⟨i, hi, hw⟩⟩, Or.inr rfl, fun i hi => ⟨fun h => by omega, fun h => absurd ⟨i, hi, (word_iff hi hr hbe hwo).mpr h⟩ hx⟩⟩
theorem pk_lor {wo x y z : Int64} {r : Int32} {a c : Nat} (hw : wo = lN a) (ha : a < 72057594037927936) (hx : wo <<< ((8 : Int32).toInt64 &&& 63) = x) (hr : r.toInt = c) (hc : c < 256) (hy : r.toInt64 = y) (hz : z = x ||| y) : z = lN (a * 256 + c) := by
  have e1 : x = lN (a * 256) := by
    rw [← hx, hw]
    exact g_shl (k := 8) (by decide) (by decide) (by decide) (by omega)
  have e2 : y = lN c := by
    rw [← hy]
    apply Int64.toInt_inj.mp
    rw [Int32.toInt_toInt64, hr]
    exact (lg_ofNat_toInt (by omega)).symm
  rw [hz, e1, e2]
  exact g_or (k := 8) (by decide) hc (by omega)
theorem pk_next {B : Int → Int} {b a a' n : Int} {wo x y z : Int64} {r : Int32} (hn : n = a - b) (hb : b ≤ a) (ha' : a' = a + 1) (hall : ∀ j : Int, b ≤ j → j < a → ltr (B j)) (hB : r.toInt = B a) (hl : 97 ≤ r.toInt ∧ r.toInt ≤ 122) (hw : n ≤ 8 → wo = lN (pkD (dB B b) (a - b).toNat)) (hx : wo <<< ((8 : Int32).toInt64 &&& 63) = x) (hy : r.toInt64 = y) (hz : z = x ||| y) : n + 1 ≤ 8 → z = lN (pkD (dB B b) (a' - b).toNat) := by
  intro h8
  have hL := pkD_lt (d := dB B b) (a - b).toNat (fun j hj => by have h2 := hall (b + j) (by omega) (by omega); unfold ltr at h2; show (B (b + j)).toNat < 256; omega)
  have hp7 : 256 ^ (a - b).toNat ≤ 256 ^ 7 := Nat.pow_le_pow_right (by decide) (by omega)
  have h7 : (256 : Nat) ^ 7 = 72057594037927936 := by decide
  have e := pk_lor (c := (B a).toNat) (hw (by omega)) (by omega) hx (by omega) (by omega) hy hz
  rw [e, show (a' - b).toNat = (a - b).toNat + 1 by omega]
  show lN (_ * 256 + _) = lN (pkD (dB B b) (a - b).toNat * 256 + (B (b + (((a - b).toNat : Nat) : Int))).toNat)
  rw [show b + (((a - b).toNat : Nat) : Int) = a by omega]
/-! what next() says of a token, and the tokens one by one -/
def KMr (k so va : Int) (wo : Int64) : Prop := (k = 20 ∧ so = 0) ∨ (k = 19 ∧ so = 1) ∨ (so = 2 ∧ ((0 ≤ k ∧ k ≤ 11) ∨ k = 18) ∧ ∀ i : Nat, i < 12 → (k = i ↔ wo = wCon i)) ∨ (k = 12 ∧ so = 3) ∨ (so = 4 ∧ ((k = 13 ∧ va = 58) ∨ (k = 14 ∧ va = 59) ∨ (k = 15 ∧ va = 60) ∨ (k = 16 ∧ va = 62) ∨ (k = 17 ∧ va = 61)))
theorem km_w {k so va r : Int} {wo w : Int64} (i : Nat) (h : KMr k so va wo) (hw : w = wCon i) (hr : (r = 1 ∧ so = 2 ∧ wo = w) ∨ (r = 0 ∧ ¬ (so = 2 ∧ wo = w))) (hi : i < 12 := by decide) : (r = 1 ∧ k = i) ∨ (r = 0 ∧ k ≠ i) := by
  subst hw
  have key : (so = 2 ∧ wo = wCon i) ↔ k = i := by
    rcases h with ⟨a, b⟩ | ⟨a, b⟩ | ⟨a, b, c⟩ | ⟨a, b⟩ | ⟨a, b⟩
    · constructor
      · intro q; omega
      · intro q; omega
    · constructor
      · intro q; omega
      · intro q; omega
    · constructor
      · intro q; exact (c i hi).mpr q.2
      · intro q; exact ⟨a, (c i hi).mp q⟩
    · constructor
      · intro q; omega
      · intro q; omega
    · constructor
      · intro q; omega
      · intro q; omega
  rcases hr with ⟨a, b⟩ | ⟨a, b⟩
  · exact Or.inl ⟨a, key.mp b⟩
  · exact Or.inr ⟨a, fun q => b (key.mpr q)⟩
theorem km_e {k so va : Int} {wo : Int64} (h : KMr k so va wo) : so = 0 ↔ k = 20 := by
  rcases h with ⟨a, b⟩ | ⟨a, b⟩ | ⟨a, b, _⟩ | ⟨a, b⟩ | ⟨a, b⟩ <;> omega
theorem km_n {k so va : Int} {wo : Int64} (h : KMr k so va wo) : so = 3 ↔ k = 12 := by
  rcases h with ⟨a, b⟩ | ⟨a, b⟩ | ⟨a, b, _⟩ | ⟨a, b⟩ | ⟨a, b⟩ <;> omega
theorem km_s {k so va : Int} {wo : Int64} (h : KMr k so va wo) : ((so = 4 ∧ va = 58) ↔ k = 13) ∧ ((so = 4 ∧ va = 59) ↔ k = 14) ∧ ((so = 4 ∧ (va = 60 ∨ va = 62 ∨ va = 61)) ↔ (15 ≤ k ∧ k ≤ 17)) := by
  rcases h with ⟨a, b⟩ | ⟨a, b⟩ | ⟨a, b, _⟩ | ⟨a, b⟩ | ⟨a, b⟩ <;> omega
/-- the reference stands at token k -/
def Cur (K Pl Po : Int → Int) (z k ah be so va : Int) (wo : Int64) : Prop := 0 ≤ k ∧ k < z ∧ ah = Po (k + 1) ∧ be = Pl k ∧ KMr (K k) so va wo
theorem cur_next {B : Int → Int} {n z k ah be so va ah2 be2 so2 va2 : Int} {wo wo2 : Int64} {K Pl Po : Int → Int} (hT : TT B n K Pl Po z) (hC : Cur K Pl Po z k ah be so va wo) (hk : K k ≠ 20) (hN : ∃ kd : Int, TokR B n ah kd be2 ah2 ∧ KMr kd so2 va2 wo2) : Cur K Pl Po z (k + 1) ah2 be2 so2 va2 wo2 := by
  obtain ⟨h0, h1, h2, h3, h4, h5, h6⟩ := hT
  obtain ⟨c0, c1, c2, c3, c4⟩ := hC
  obtain ⟨kd, t1, t2⟩ := hN
  have hkz : k + 1 < z := by
    by_cases hq : k = z - 1
    · rw [hq] at hk; exact absurd h5 hk
    · omega
  have h9 := (h4 (k + 1) (by omega) hkz).2
  rw [← c2] at h9
  obtain ⟨e1, e2, e3⟩ := TokR.uniq t1 h9
  exact ⟨by omega, hkz, e3, e2, by rw [← e1]; exact t2⟩
theorem cur_first {B : Int → Int} {n z be2 ah2 so2 va2 : Int} {wo2 : Int64} {K Pl Po : Int → Int} (hT : TT B n K Pl Po z) (hN : ∃ kd : Int, TokR B n 0 kd be2 ah2 ∧ KMr kd so2 va2 wo2) : Cur K Pl Po z 0 ah2 be2 so2 va2 wo2 := by
  obtain ⟨h0, h1, h2, h3, h4, h5, h6⟩ := hT
  obtain ⟨kd, t1, t2⟩ := hN
  have h9 := (h4 0 (by omega) (by omega)).2
  rw [h3] at h9
  obtain ⟨e1, e2, e3⟩ := TokR.uniq t1 h9
  exact ⟨by omega, by omega, e3, e2, by rw [← e1]; exact t2⟩
theorem cur_bd {B : Int → Int} {n z k ah be so va : Int} {wo : Int64} {K Pl Po : Int → Int} (hT : TT B n K Pl Po z) (hC : Cur K Pl Po z k ah be so va wo) : 0 ≤ ah ∧ ah ≤ n ∧ 0 ≤ be ∧ k ≤ n ∧ (K k = 20 → k = z - 1) := by
  obtain ⟨h0, h1, h2, h3, h4, h5, h6⟩ := hT
  obtain ⟨c0, c1, c2, c3, c4⟩ := hC
  have h9 := h4 k c0 c1
  have h8 := h9.2.bd
  refine ⟨by omega, by omega, by omega, by omega, fun h => ?_⟩
  by_cases hq : k < z - 1
  · exact absurd h (h6 k c0 hq)
  · omega
/-- what a contract answers, out of the text -/
def RES (K Pl : Int → Int) (fk fp r : Int) : Prop := ∃ (j : Int) (ok : Bool) (sp ln : Int), txF K Pl 500 0 0 (-1) = (j, ok, sp, ln) ∧ ((ok = true ∧ sp = -1 ∧ fk = 0 ∧ fp = -1 ∧ r = ln) ∨ (ok = true ∧ sp ≠ -1 ∧ fk = 3 ∧ fp = sp ∧ r = -1) ∨ (ok = false ∧ fk = 1 ∧ fp = Pl j ∧ r = -1))
theorem RES.uniq {K Pl : Int → Int} {fk fp r fk' fp' r' : Int} (h : RES K Pl fk fp r) (h' : RES K Pl fk' fp' r') : fk = fk' ∧ fp = fp' ∧ r = r' := by
  obtain ⟨j, ok, sp, ln, e, h⟩ := h
  obtain ⟨j', ok', sp', ln', e', h'⟩ := h'
  have e9 := e.symm.trans e'
  injection e9 with a1 a2
  injection a2 with a2 a3
  injection a3 with a3 a4
  subst a1
  subst a2
  subst a3
  subst a4
  rcases h with ⟨b1, b2, b3, b4, b5⟩ | ⟨b1, b2, b3, b4, b5⟩ | ⟨b1, b3, b4, b5⟩
  · rcases h' with ⟨c1, c2, c3, c4, c5⟩ | ⟨c1, c2, c3, c4, c5⟩ | ⟨c1, c3, c4, c5⟩
    · omega
    · omega
    · rw [b1] at c1; cases c1
  · rcases h' with ⟨c1, c2, c3, c4, c5⟩ | ⟨c1, c2, c3, c4, c5⟩ | ⟨c1, c3, c4, c5⟩
    · omega
    · omega
    · rw [b1] at c1; cases c1
  · rcases h' with ⟨c1, c2, c3, c4, c5⟩ | ⟨c1, c2, c3, c4, c5⟩ | ⟨c1, c3, c4, c5⟩
    · rw [b1] at c1; cases c1
    · rw [b1] at c1; cases c1
    · exact ⟨by omega, by rw [b4, c4], by omega⟩
