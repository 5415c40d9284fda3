/-! the tape as numbers, its tokens, the text of a contract as a walk over their kinds -/
def RowR (P : Int → Prop) (B : Int → Int) (n p q : Int) : Prop := p ≤ q ∧ q ≤ n ∧ (∀ j : Int, p ≤ j → j < q → P (B j)) ∧ (q < n → ¬ P (B q))
theorem RowR.uniq {P : Int → Prop} {B : Int → Int} {n p q q' : Int} (h : RowR P B n p q) (h' : RowR P B n p q') : q = q' := by
  have h1 := h.2.1
  have h2 := h'.2.1
  rcases Int.lt_trichotomy q q' with hl | he | hg
  · exact absurd (h'.2.2.1 q h.1 hl) (h.2.2.2 (by omega))
  · exact he
  · exact absurd (h.2.2.1 q' h'.1 hg) (h'.2.2.2 (by omega))
def blk (c : Int) : Prop := c = 10 ∨ c = 32
def ltr (c : Int) : Prop := 97 ≤ c ∧ c ≤ 122
def dgt (c : Int) : Prop := 48 ≤ c ∧ c ≤ 57
def wLen : List Nat := [4, 2, 4, 4, 5, 4, 3, 3, 4, 5, 4, 4]
def wByt : List (List Int) := [[115, 116, 111, 112], [107, 109], [104, 111, 117, 114], [115, 111, 108, 100], [110, 105, 103, 104, 116], [119, 104, 101, 110], [97, 110, 100], [110, 111, 116], [97, 120, 108, 101], [98, 101, 114, 116, 104], [102, 108, 97, 116], [102, 114, 101, 101]]
def wLn (i : Nat) : Nat := wLen.getD i 0
def wCh (i j : Nat) : Int := (wByt.getD i []).getD j 0
def WordIs (B : Int → Int) (b e : Int) (i : Nat) : Prop := e - b = wLn i ∧ ∀ j : Nat, j < wLn i → B (b + j) = wCh i j
theorem word_ne : ∀ i i' : Fin 12, i ≠ i' → wLn i.val = wLn i'.val → ∃ j : Fin 5, j.val < wLn i.val ∧ wCh i.val j.val ≠ wCh i'.val j.val := by decide +kernel
theorem WordIs.uniq {B : Int → Int} {b e : Int} {i i' : Nat} (hi : i < 12) (hi' : i' < 12) (h : WordIs B b e i) (h' : WordIs B b e i') : i = i' := by
  by_cases hq : i = i'
  · exact hq
  · exfalso
    have hl : wLn i = wLn i' := by
      have h1 := h.1
      have h2 := h'.1
      omega
    obtain ⟨j, hj, hne⟩ := word_ne ⟨i, hi⟩ ⟨i', hi'⟩ (fun h9 => hq (congrArg Fin.val h9)) hl
    exact hne ((h.2 j.val hj).symm.trans (h'.2 j.val (hl ▸ hj)))
def KindW (B : Int → Int) (b e k : Int) : Prop := (∃ i : Nat, i < 12 ∧ k = i ∧ WordIs B b e i) ∨ (k = 18 ∧ ∀ i : Nat, i < 12 → ¬ WordIs B b e i)
theorem KindW.uniq {B : Int → Int} {b e k k' : Int} (h : KindW B b e k) (h' : KindW B b e k') : k = k' := by
  rcases h with ⟨i, hi, rfl, hw⟩ | ⟨rfl, hn⟩
  · rcases h' with ⟨i', hi', rfl, hw'⟩ | ⟨rfl, hn'⟩
    · rw [WordIs.uniq hi hi' hw hw']
    · exact absurd hw (hn' i hi)
  · rcases h' with ⟨i', hi', rfl, hw'⟩ | ⟨rfl, hn'⟩
    · exact absurd hw' (hn i' hi')
    · rfl
def sgnK (c : Int) : Int := if c = 58 then 13 else if c = 59 then 14 else if c = 60 then 15 else if c = 62 then 16 else if c = 61 then 17 else 19
/-- from place p on: blanks up to b, then a token of kind k up to e -/
def TokR (B : Int → Int) (n p k b e : Int) : Prop := RowR blk B n p b ∧ ((b = n ∧ k = 20 ∧ e = n) ∨ (b < n ∧ ltr (B b) ∧ RowR ltr B n b e ∧ KindW B b e k) ∨ (b < n ∧ dgt (B b) ∧ RowR dgt B n b e ∧ ((e - b ≤ 4 ∧ k = 12) ∨ (4 < e - b ∧ k = 19))) ∨ (b < n ∧ ¬ ltr (B b) ∧ ¬ dgt (B b) ∧ e = b + 1 ∧ k = sgnK (B b)))
theorem ltr_dgt {c : Int} (h : ltr c) (h' : dgt c) : False := by
  unfold ltr at h
  unfold dgt at h'
  omega
theorem TokR.uniq {B : Int → Int} {n p k b e k' b' e' : Int} (h : TokR B n p k b e) (h' : TokR B n p k' b' e') : k = k' ∧ b = b' ∧ e = e' := by
  obtain ⟨hb, h⟩ := h
  obtain ⟨hb', h'⟩ := h'
  obtain rfl := RowR.uniq hb hb'
  rcases h with ⟨a1, a2, a3⟩ | ⟨a1, a2, a3, a4⟩ | ⟨a1, a2, a3, a4⟩ | ⟨a1, a2, a3, a4, a5⟩
  · rcases h' with ⟨c1, c2, c3⟩ | ⟨c1, _⟩ | ⟨c1, _⟩ | ⟨c1, _⟩
    · exact ⟨by omega, rfl, by omega⟩
    · omega
    · omega
    · omega
  · rcases h' with ⟨c1, c2, c3⟩ | ⟨c1, c2, c3, c4⟩ | ⟨c1, c2, _⟩ | ⟨c1, c2, _⟩
    · omega
    · obtain rfl := RowR.uniq a3 c3
      exact ⟨KindW.uniq a4 c4, rfl, rfl⟩
    · exact (ltr_dgt a2 c2).elim
    · exact absurd a2 c2
  · rcases h' with ⟨c1, c2, c3⟩ | ⟨c1, c2, c3, c4⟩ | ⟨c1, c2, c3, c4⟩ | ⟨c1, c2, c3, _⟩
    · omega
    · exact (ltr_dgt c2 a2).elim
    · obtain rfl := RowR.uniq a3 c3
      exact ⟨by omega, rfl, rfl⟩
    · exact absurd a2 c3
  · rcases h' with ⟨c1, c2, c3⟩ | ⟨c1, c2, c3, c4⟩ | ⟨c1, c2, c3, c4⟩ | ⟨c1, c2, c3, c4, c5⟩
    · omega
    · exact absurd c2 a2
    · exact absurd c2 a3
    · exact ⟨by rw [a5, c5], rfl, by omega⟩
theorem RowR.grow {P : Int → Prop} {B : Int → Int} {n p q : Int} (h : RowR P B n p q) (hp : p < n) (hP : P (B p)) : p < q := by
  rcases Int.lt_or_le p q with h1 | h1
  · exact h1
  · have h2 := h.1
    obtain rfl : p = q := by omega
    exact absurd hP (h.2.2.2 hp)
theorem sgnK_bd (c : Int) : 13 ≤ sgnK c ∧ sgnK c ≤ 19 := by
  unfold sgnK
  repeat' split
  all_goals omega
theorem TokR.bd {B : Int → Int} {n p k b e : Int} (h : TokR B n p k b e) : p ≤ b ∧ b ≤ e ∧ e ≤ n ∧ 0 ≤ k ∧ k ≤ 20 ∧ (k = 20 ∨ b < e) ∧ (k = 20 ↔ b = n) := by
  obtain ⟨hb, h⟩ := h
  have hb1 := hb.1
  have hb2 := hb.2.1
  rcases h with ⟨a1, a2, a3⟩ | ⟨a1, a2, a3, a4⟩ | ⟨a1, a2, a3, a4⟩ | ⟨a1, a2, a3, a4, a5⟩
  · omega
  · have h1 := a3.grow a1 a2
    have h2 := a3.2.1
    have h3 : 0 ≤ k ∧ k < 20 := by
      rcases a4 with ⟨i, hi, rfl, _⟩ | ⟨rfl, _⟩ <;> omega
    omega
  · have h1 := a3.grow a1 a2
    have h2 := a3.2.1
    omega
  · have := sgnK_bd (B b)
    omega
/-! the text -/
def tstF (K : Int → Int) (k : Int) : Int × Bool :=
  if 0 ≤ K (if K k = 7 then k + 1 else k) ∧ K (if K k = 7 then k + 1 else k) ≤ 3 then
    (if 15 ≤ K ((if K k = 7 then k + 1 else k) + 1) ∧ K ((if K k = 7 then k + 1 else k) + 1) ≤ 17 then
      (if K ((if K k = 7 then k + 1 else k) + 2) = 12 then ((if K k = 7 then k + 1 else k) + 3, true) else ((if K k = 7 then k + 1 else k) + 2, false))
      else ((if K k = 7 then k + 1 else k) + 1, false))
  else if K (if K k = 7 then k + 1 else k) = 4 then ((if K k = 7 then k + 1 else k) + 1, true) else (if K k = 7 then k + 1 else k, false)
section TST
variable {K : Int → Int} {k a : Int}
theorem tst_x (h1 : ¬ (0 ≤ K a ∧ K a ≤ 4)) (ha : a = if K k = 7 then k + 1 else k) : tstF K k = (a, false) := by
  unfold tstF
  rw [← ha, if_neg (by omega), if_neg (by omega)]
theorem tst_n (h1 : K a = 4) (ha : a = if K k = 7 then k + 1 else k) : tstF K k = (a + 1, true) := by
  unfold tstF
  rw [← ha, if_neg (by omega), if_pos h1]
theorem tst_s (h1 : 0 ≤ K a ∧ K a ≤ 3) (h2 : ¬ (15 ≤ K (a + 1) ∧ K (a + 1) ≤ 17)) (ha : a = if K k = 7 then k + 1 else k) : tstF K k = (a + 1, false) := by
  unfold tstF
  rw [← ha, if_pos h1, if_neg h2]
theorem tst_v (h1 : 0 ≤ K a ∧ K a ≤ 3) (h2 : 15 ≤ K (a + 1) ∧ K (a + 1) ≤ 17) (h3 : ¬ K (a + 2) = 12) (ha : a = if K k = 7 then k + 1 else k) : tstF K k = (a + 2, false) := by
  unfold tstF
  rw [← ha, if_pos h1, if_pos h2, if_neg h3]
theorem tst_y (h1 : 0 ≤ K a ∧ K a ≤ 3) (h2 : 15 ≤ K (a + 1) ∧ K (a + 1) ≤ 17) (h3 : K (a + 2) = 12) (ha : a = if K k = 7 then k + 1 else k) : tstF K k = (a + 3, true) := by
  unfold tstF
  rw [← ha, if_pos h1, if_pos h2, if_pos h3]
end TST
/-- the tests of a line, from the word ahead of one on: where they end, whether they are right, the first place that is one too many -/
def tsF (K Pl : Int → Int) : Nat → Int → Int → Int → Int × Bool × Int
  | 0, k, _, sp => (k, false, sp)
  | f + 1, k, n, sp => if (tstF K (k + 1)).2 = true then (if K (tstF K (k + 1)).1 = 6 then tsF K Pl f (tstF K (k + 1)).1 (n + 1) (if 4 ≤ n ∧ sp = -1 then Pl (k + 1) else sp) else ((tstF K (k + 1)).1, true, if 4 ≤ n ∧ sp = -1 then Pl (k + 1) else sp)) else ((tstF K (k + 1)).1, false, if 4 ≤ n ∧ sp = -1 then Pl (k + 1) else sp)
theorem ts_bad {K Pl : Int → Int} {f : Nat} {k n sp j s1 : Int} (h : tstF K (k + 1) = (j, false)) (hs : s1 = if 4 ≤ n ∧ sp = -1 then Pl (k + 1) else sp) : tsF K Pl (f + 1) k n sp = (j, false, s1) := by
  unfold tsF
  rw [h, ← hs]
  rfl
theorem ts_end {K Pl : Int → Int} {f : Nat} {k n sp j s1 : Int} (h : tstF K (k + 1) = (j, true)) (hj : ¬ K j = 6) (hs : s1 = if 4 ≤ n ∧ sp = -1 then Pl (k + 1) else sp) : tsF K Pl (f + 1) k n sp = (j, true, s1) := by
  unfold tsF
  rw [h, ← hs]
  show (if true = true then (if K j = 6 then _ else _) else _) = _
  rw [if_pos rfl, if_neg hj]
theorem ts_and {K Pl : Int → Int} {f : Nat} {k n sp j s1 : Int} (h : tstF K (k + 1) = (j, true)) (hj : K j = 6) (hs : s1 = if 4 ≤ n ∧ sp = -1 then Pl (k + 1) else sp) : tsF K Pl (f + 1) k n sp = tsF K Pl f j (n + 1) s1 := by
  rw [show tsF K Pl (f + 1) k n sp = (if (tstF K (k + 1)).2 = true then (if K (tstF K (k + 1)).1 = 6 then tsF K Pl f (tstF K (k + 1)).1 (n + 1) (if 4 ≤ n ∧ sp = -1 then Pl (k + 1) else sp) else ((tstF K (k + 1)).1, true, if 4 ≤ n ∧ sp = -1 then Pl (k + 1) else sp)) else ((tstF K (k + 1)).1, false, if 4 ≤ n ∧ sp = -1 then Pl (k + 1) else sp)) from rfl, h, ← hs]
  show (if true = true then (if K j = 6 then _ else _) else _) = _
  rw [if_pos rfl, if_pos hj]
/-- what stands ahead of a line's charge -/
def hdF (K Pl : Int → Int) (k ln sp : Int) : Int × Bool × Int :=
  if K k = 5 then (if (tsF K Pl 500 k 0 (if 16 ≤ ln ∧ sp = -1 then Pl k else sp)).2.1 = true then (if K (tsF K Pl 500 k 0 (if 16 ≤ ln ∧ sp = -1 then Pl k else sp)).1 = 13 then ((tsF K Pl 500 k 0 (if 16 ≤ ln ∧ sp = -1 then Pl k else sp)).1 + 1, true, (tsF K Pl 500 k 0 (if 16 ≤ ln ∧ sp = -1 then Pl k else sp)).2.2) else ((tsF K Pl 500 k 0 (if 16 ≤ ln ∧ sp = -1 then Pl k else sp)).1, false, (tsF K Pl 500 k 0 (if 16 ≤ ln ∧ sp = -1 then Pl k else sp)).2.2)) else ((tsF K Pl 500 k 0 (if 16 ≤ ln ∧ sp = -1 then Pl k else sp)).1, false, (tsF K Pl 500 k 0 (if 16 ≤ ln ∧ sp = -1 then Pl k else sp)).2.2))
  else (k, true, if 16 ≤ ln ∧ sp = -1 then Pl k else sp)
theorem hd_no {K Pl : Int → Int} {k ln sp s0 : Int} (h : ¬ K k = 5) (hs : s0 = if 16 ≤ ln ∧ sp = -1 then Pl k else sp) : hdF K Pl k ln sp = (k, true, s0) := by
  unfold hdF
  rw [if_neg h, ← hs]
theorem hd_bad {K Pl : Int → Int} {k ln sp s0 j s1 : Int} (h : K k = 5) (hs : s0 = if 16 ≤ ln ∧ sp = -1 then Pl k else sp) (ht : tsF K Pl 500 k 0 s0 = (j, false, s1)) : hdF K Pl k ln sp = (j, false, s1) := by
  unfold hdF
  rw [if_pos h, ← hs, ht]
  rfl
theorem hd_col {K Pl : Int → Int} {k ln sp s0 j s1 : Int} (h : K k = 5) (hs : s0 = if 16 ≤ ln ∧ sp = -1 then Pl k else sp) (ht : tsF K Pl 500 k 0 s0 = (j, true, s1)) (hj : ¬ K j = 13) : hdF K Pl k ln sp = (j, false, s1) := by
  unfold hdF
  rw [if_pos h, ← hs, ht]
  show (if true = true then (if K j = 13 then _ else _) else _) = _
  rw [if_pos rfl, if_neg hj]
theorem hd_yes {K Pl : Int → Int} {k ln sp s0 j s1 : Int} (h : K k = 5) (hs : s0 = if 16 ≤ ln ∧ sp = -1 then Pl k else sp) (ht : tsF K Pl 500 k 0 s0 = (j, true, s1)) (hj : K j = 13) : hdF K Pl k ln sp = (j + 1, true, s1) := by
  unfold hdF
  rw [if_pos h, ← hs, ht]
  show (if true = true then (if K j = 13 then _ else _) else _) = _
  rw [if_pos rfl, if_pos hj]
def lnF (K Pl : Int → Int) (k ln sp : Int) : Int × Bool × Int :=
  if (hdF K Pl k ln sp).2.1 = true then (if 8 ≤ K (hdF K Pl k ln sp).1 ∧ K (hdF K Pl k ln sp).1 ≤ 11 then (if K ((hdF K Pl k ln sp).1 + 1) = 12 then (if K ((hdF K Pl k ln sp).1 + 2) = 14 then ((hdF K Pl k ln sp).1 + 3, true, (hdF K Pl k ln sp).2.2) else ((hdF K Pl k ln sp).1 + 2, false, (hdF K Pl k ln sp).2.2)) else ((hdF K Pl k ln sp).1 + 1, false, (hdF K Pl k ln sp).2.2)) else ((hdF K Pl k ln sp).1, false, (hdF K Pl k ln sp).2.2))
  else ((hdF K Pl k ln sp).1, false, (hdF K Pl k ln sp).2.2)
section LN
variable {K Pl : Int → Int} {k ln sp a s : Int}
theorem ln_h (h : hdF K Pl k ln sp = (a, false, s)) : lnF K Pl k ln sp = (a, false, s) := by
  unfold lnF
  rw [h]
  rfl
theorem ln_a (h : hdF K Pl k ln sp = (a, true, s)) (h1 : ¬ (8 ≤ K a ∧ K a ≤ 11)) : lnF K Pl k ln sp = (a, false, s) := by
  unfold lnF
  rw [h]
  show (if true = true then (if 8 ≤ K a ∧ K a ≤ 11 then _ else _) else _) = _
  rw [if_pos rfl, if_neg h1]
theorem ln_n (h : hdF K Pl k ln sp = (a, true, s)) (h1 : 8 ≤ K a ∧ K a ≤ 11) (h2 : ¬ K (a + 1) = 12) : lnF K Pl k ln sp = (a + 1, false, s) := by
  unfold lnF
  rw [h]
  show (if true = true then (if 8 ≤ K a ∧ K a ≤ 11 then (if K (a + 1) = 12 then _ else _) else _) else _) = _
  rw [if_pos rfl, if_pos h1, if_neg h2]
theorem ln_s (h : hdF K Pl k ln sp = (a, true, s)) (h1 : 8 ≤ K a ∧ K a ≤ 11) (h2 : K (a + 1) = 12) (h3 : ¬ K (a + 2) = 14) : lnF K Pl k ln sp = (a + 2, false, s) := by
  unfold lnF
  rw [h]
  show (if true = true then (if 8 ≤ K a ∧ K a ≤ 11 then (if K (a + 1) = 12 then (if K (a + 2) = 14 then _ else _) else _) else _) else _) = _
  rw [if_pos rfl, if_pos h1, if_pos h2, if_neg h3]
theorem ln_y (h : hdF K Pl k ln sp = (a, true, s)) (h1 : 8 ≤ K a ∧ K a ≤ 11) (h2 : K (a + 1) = 12) (h3 : K (a + 2) = 14) : lnF K Pl k ln sp = (a + 3, true, s) := by
  unfold lnF
  rw [h]
  show (if true = true then (if 8 ≤ K a ∧ K a ≤ 11 then (if K (a + 1) = 12 then (if K (a + 2) = 14 then _ else _) else _) else _) else _) = _
  rw [if_pos rfl, if_pos h1, if_pos h2, if_pos h3]
end LN
/-- the text from a line on: where it ends, whether it is right, the first place that is one too many, how many lines -/
def txF (K Pl : Int → Int) : Nat → Int → Int → Int → Int × Bool × Int × Int
  | 0, k, ln, sp => (k, false, sp, ln)
  | f + 1, k, ln, sp => if K k = 20 then (k, true, sp, ln) else if (lnF K Pl k ln sp).2.1 = true then txF K Pl f (lnF K Pl k ln sp).1 (ln + 1) (lnF K Pl k ln sp).2.2 else ((lnF K Pl k ln sp).1, false, (lnF K Pl k ln sp).2.2, ln)
theorem tx_end {K Pl : Int → Int} {f : Nat} {k ln sp : Int} (h : K k = 20) : txF K Pl (f + 1) k ln sp = (k, true, sp, ln) := by
  unfold txF
  rw [if_pos h]
theorem tx_bad {K Pl : Int → Int} {f : Nat} {k ln sp j s1 : Int} (h : ¬ K k = 20) (hl : lnF K Pl k ln sp = (j, false, s1)) : txF K Pl (f + 1) k ln sp = (j, false, s1, ln) := by
  unfold txF
  rw [if_neg h, hl]
  rfl
theorem tx_go {K Pl : Int → Int} {f : Nat} {k ln sp j s1 : Int} (h : ¬ K k = 20) (hl : lnF K Pl k ln sp = (j, true, s1)) : txF K Pl (f + 1) k ln sp = txF K Pl f j (ln + 1) s1 := by
  rw [show txF K Pl (f + 1) k ln sp = (if K k = 20 then (k, true, sp, ln) else if (lnF K Pl k ln sp).2.1 = true then txF K Pl f (lnF K Pl k ln sp).1 (ln + 1) (lnF K Pl k ln sp).2.2 else ((lnF K Pl k ln sp).1, false, (lnF K Pl k ln sp).2.2, ln)) from rfl, if_neg h, hl]
  rfl
