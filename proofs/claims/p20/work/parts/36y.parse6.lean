/-! the reference's reading of the tape, as numbers -/
theorem row_stepP {P : Int → Prop} {B : Int → Int} {p : Int} {q q' : Int32} (h : ∀ j : Int, p ≤ j → j < q.toInt → P (B j)) (e : q'.toInt = q.toInt + 1) (hq : P (B q.toInt)) : ∀ j : Int, p ≤ j → j < q'.toInt → P (B j) := by
  intro j h0 h1
  by_cases hj : j = q.toInt
  · rw [hj]; exact hq
  · exact h j h0 (by omega)
abbrev NxP (B : Int → Int) (n p b e so va : Int) (wo : Int64) : Prop := p ≤ b ∧ b ≤ e ∧ e ≤ n ∧ ∃ kd : Int, TokR B n p kd b e ∧ KMr kd so va wo
theorem nx_end {B : Int → Int} {n p b so va : Int} {wo : Int64} (hR : RowR blk B n p b) (hn : b = n) (hs : so = 0) : NxP B n p b b so va wo := ⟨hR.1, Int.le_refl b, hR.2.1, 20, ⟨hR, Or.inl ⟨hn, rfl, hn⟩⟩, Or.inl ⟨rfl, hs⟩⟩
theorem nx_word {B : Int → Int} {n p b e so va : Int} {wo : Int64} (hR : RowR blk B n p b) (hl : ∀ j : Int, b ≤ j → j < e → ltr (B j)) (hbe : b < e) (he : e ≤ n) (hend : e < n → ¬ ltr (B e)) (hwo : (e - b ≤ 8 ∧ wo = lN (pkD (dB B b) (e - b).toNat)) ∨ (8 < e - b ∧ wo = 0)) (hs : so = 2) : NxP B n p b e so va wo := by
  obtain ⟨k, h1, h2, h3⟩ := word_km hl hbe hwo
  exact ⟨hR.1, by omega, he, k, ⟨hR, Or.inr (Or.inl ⟨by omega, hl b (Int.le_refl b) hbe, ⟨by omega, he, hl, hend⟩, h1⟩)⟩, Or.inr (Or.inr (Or.inl ⟨hs, h2, h3⟩))⟩
theorem nx_num {B : Int → Int} {n p b e so va : Int} {wo : Int64} (hR : RowR blk B n p b) (hl : ∀ j : Int, b ≤ j → j < e → dgt (B j)) (hbe : b < e) (he : e ≤ n) (hend : e < n → ¬ dgt (B e)) (hs : (e - b ≤ 4 ∧ so = 3) ∨ (4 < e - b ∧ so = 1)) : NxP B n p b e so va wo := by
  rcases hs with ⟨h1, h2⟩ | ⟨h1, h2⟩
  · exact ⟨hR.1, by omega, he, 12, ⟨hR, Or.inr (Or.inr (Or.inl ⟨by omega, hl b (Int.le_refl b) hbe, ⟨by omega, he, hl, hend⟩, Or.inl ⟨h1, rfl⟩⟩))⟩, Or.inr (Or.inr (Or.inr (Or.inl ⟨rfl, h2⟩)))⟩
  · exact ⟨hR.1, by omega, he, 19, ⟨hR, Or.inr (Or.inr (Or.inl ⟨by omega, hl b (Int.le_refl b) hbe, ⟨by omega, he, hl, hend⟩, Or.inr ⟨h1, rfl⟩⟩))⟩, Or.inr (Or.inl ⟨rfl, h2⟩)⟩
theorem sgn_km {va so : Int} {wo : Int64} (h : (so = 4 ∧ (va = 58 ∨ va = 59 ∨ va = 60 ∨ va = 62 ∨ va = 61)) ∨ (so = 1 ∧ va ≠ 58 ∧ va ≠ 59 ∧ va ≠ 60 ∧ va ≠ 62 ∧ va ≠ 61)) : KMr (sgnK va) so va wo := by
  rcases h with ⟨hs, h⟩ | ⟨hs, h1, h2, h3, h4, h5⟩
  · refine Or.inr (Or.inr (Or.inr (Or.inr ⟨hs, ?_⟩)))
    rcases h with rfl | rfl | rfl | rfl | rfl <;> decide
  · refine Or.inr (Or.inl ⟨?_, hs⟩)
    unfold sgnK
    rw [if_neg h1, if_neg h2, if_neg h3, if_neg h4, if_neg h5]
theorem nx_sign {B : Int → Int} {n p b e so va : Int} {wo : Int64} (hR : RowR blk B n p b) (hn : b < n) (he : e = b + 1) (hv : va = B b) (hl : ¬ ltr (B b)) (hd : ¬ dgt (B b)) (hs : (so = 4 ∧ (va = 58 ∨ va = 59 ∨ va = 60 ∨ va = 62 ∨ va = 61)) ∨ (so = 1 ∧ va ≠ 58 ∧ va ≠ 59 ∧ va ≠ 60 ∧ va ≠ 62 ∧ va ≠ 61)) : NxP B n p b e so va wo := ⟨hR.1, by omega, by omega, sgnK va, ⟨hR, Or.inr (Or.inr (Or.inr ⟨hn, hl, hd, he, by rw [hv]⟩))⟩, sgn_km hs⟩
theorem sur_m {n m sp s k be : Int} {P : Int → Int} (hb : be = P k) (hm : m < n → sp ≠ -1) (h : (n = m ∧ sp = -1 ∧ s = be) ∨ ((n ≠ m ∨ sp ≠ -1) ∧ s = sp)) : Sur n m sp s k P := by
  unfold Sur
  rcases h with ⟨h1, h2, h3⟩ | ⟨h1, h2⟩
  · rw [if_pos ⟨by omega, h2⟩, h3, hb]
  · rw [if_neg (fun q => h1.elim (fun h1 => hm (by omega) q.2) (fun h1 => h1 q.2))]; exact h2
/-- one more test is read -/
theorem ts_back {K P : Int → Int} {t t' a s x j s2 r : Int} {tot : Int × Bool × Int} (hT : tsF K P (500 - t).toNat a t s = tot) (h0 : 0 ≤ t) (h1 : t < 500) (hx : x = a + 1) (h : tstF K x = (j, true)) (hm : (r = 1 ∧ K j = ((6 : Nat) : Int)) ∨ (r = 0 ∧ K j ≠ ((6 : Nat) : Int))) (hs : Sur t 4 s s2 x P) (ht : t' = t + 1) : (r = 1 ∧ K j ≠ 20 ∧ tsF K P (500 - t').toNat j t' s2 = tot) ∨ (r = 0 ∧ tot = (j, true, s2)) := by
  rcases hm with ⟨h2, h3⟩ | ⟨h2, h3⟩
  · exact Or.inl ⟨h2, by omega, tsx_and hT h0 h1 hx h (by omega) hs ht⟩
  · exact Or.inr ⟨h2, tsx_end hT h0 h1 hx h (by omega) hs⟩
/-- the reference between two lines -/
def MdI (K Pl Po : Int → Int) (z k is fa fp nl lp ah be so va : Int) (wo : Int64) : Prop := (is = 1 ∧ fa = 0 ∧ fp = -1 ∧ Cur K Pl Po z k ah be so va wo ∧ txF K Pl (500 - nl).toNat k nl lp = txF K Pl 500 0 0 (-1) ∧ 3 * nl ≤ k ∧ 0 ≤ nl ∧ (16 < nl → lp ≠ -1)) ∨ (is = 0 ∧ fa = 1 ∧ 0 ≤ k ∧ k ≤ z ∧ ∃ j ln : Int, txF K Pl 500 0 0 (-1) = (j, false, lp, ln) ∧ fp = Pl j)
def LnM (K Pl Po : Int → Int) (z k nl lp r fa fp fa2 fp2 nl2 lp2 ah2 be2 so2 va2 : Int) (wo2 : Int64) : Prop := (r = 1 ∧ ∃ j : Int, lnF K Pl k nl lp = (j, true, lp2) ∧ Cur K Pl Po z j ah2 be2 so2 va2 wo2 ∧ fa2 = fa ∧ fp2 = fp ∧ nl2 = nl + 1 ∧ k + 3 ≤ j) ∨ (r = 0 ∧ ∃ j : Int, lnF K Pl k nl lp = (j, false, lp2) ∧ fa2 = 1 ∧ fp2 = Pl j)
theorem md_step {B : Int → Int} {n : Int} {K Pl Po : Int → Int} {z k is fa fp nl lp ah be so va r fa2 fp2 nl2 lp2 ah2 be2 so2 va2 : Int} {wo wo2 : Int64} (hT : TT B n K Pl Po z) (hn : n ≤ 400) (h : MdI K Pl Po z k is fa fp nl lp ah be so va wo) (hi : is ≠ 0) (hk : K k ≠ 20) (hL : LnM K Pl Po z k nl lp r fa fp fa2 fp2 nl2 lp2 ah2 be2 so2 va2 wo2) : ∃ k2 : Int, MdI K Pl Po z k2 r fa2 fp2 nl2 lp2 ah2 be2 so2 va2 wo2 ∧ k2 ≤ z ∧ k ≤ k2 ∧ (r = 0 ∨ k < k2) ∧ (r = 0 ∨ r = 1) := by
  rcases h with ⟨a1, a2, a3, a4, a5, a6, a7, a8⟩ | ⟨a1, _⟩
  · have hb := cur_bd hT a4
    rcases hL with ⟨l1, j, l2, l3, l4, l5, l6, l7⟩ | ⟨l1, j, l2, l3, l4⟩
    · refine ⟨j, Or.inl ⟨l1, by omega, by omega, l3, ?_, by omega, by omega, fun h16 => ?_⟩, by have := l3.2.1; omega, by omega, Or.inr (by omega), Or.inr l1⟩
      · exact txx_go a5 a7 (by omega) hk l2 l6
      · refine ln_sp l2 ?_
        by_cases h17 : 16 < nl
        · exact Or.inl (a8 h17)
        · exact Or.inr ⟨by omega, by have h9 := a4.2.2.2.1; omega⟩
    · refine ⟨k, Or.inr ⟨l1, l3, a4.1, by have := a4.2.1; omega, j, nl, txx_bad a5 a7 (by omega) hk l2, l4⟩, by have := a4.2.1; omega, Int.le_refl k, Or.inl l1, Or.inl l1⟩
  · exact absurd a1 hi
theorem md_res {B : Int → Int} {n : Int} {K Pl Po : Int → Int} {z k is fa fp nl lp ah be so va fa2 fp2 r : Int} {wo : Int64} (hT : TT B n K Pl Po z) (hn : n ≤ 400) (h : MdI K Pl Po z k is fa fp nl lp ah be so va wo) (hx : is = 0 ∨ so = 0) (h2 : (fa = 0 ∧ lp ≠ -1 ∧ fa2 = 3 ∧ fp2 = lp) ∨ ((fa ≠ 0 ∨ lp = -1) ∧ fa2 = fa ∧ fp2 = fp)) (hr : (0 < fa2 ∧ r = -1) ∨ (fa2 ≤ 0 ∧ r = nl)) : RES K Pl fa2 fp2 r := by
  rcases h with ⟨a1, a2, a3, a4, a5, a6, a7, a8⟩ | ⟨a1, a2, _, _, j, ln, e, p⟩
  · have hb := cur_bd hT a4
    have hK : K k = 20 := (km_e a4.2.2.2.2).mp (by omega)
    refine ⟨k, true, lp, nl, txx_end a5 a7 (by omega) hK, ?_⟩
    by_cases hl : lp = -1
    · exact Or.inl ⟨rfl, hl, by omega, by omega, by omega⟩
    · exact Or.inr (Or.inl ⟨rfl, hl, by omega, by omega, by omega⟩)
  · refine ⟨j, false, lp, ln, e, Or.inr (Or.inr ⟨rfl, by omega, by omega, by omega⟩)⟩
theorem md_bd {B : Int → Int} {n : Int} {K Pl Po : Int → Int} {z k is fa fp nl lp ah be so va : Int} {wo : Int64} (hT : TT B n K Pl Po z) (h : MdI K Pl Po z k is fa fp nl lp ah be so va wo) : (is = 0 ∨ is = 1) ∧ (is = 0 → fa = 1) ∧ (is = 1 → fa = 0 ∧ 0 ≤ ah ∧ ah ≤ n ∧ 0 ≤ be ∧ 0 ≤ nl ∧ 3 * nl ≤ k ∧ k ≤ n ∧ (16 < nl → lp ≠ -1) ∧ (so = 0 ↔ K k = 20)) ∧ 0 ≤ k ∧ k ≤ z := by
  rcases h with ⟨a1, a2, a3, a4, a5, a6, a7, a8⟩ | ⟨a1, a2, a3, a4, _⟩
  · have hb := cur_bd hT a4
    have h0 := a4.1
    have h1 := a4.2.1
    exact ⟨Or.inr a1, fun h => by omega, fun _ => ⟨a2, hb.1, hb.2.1, hb.2.2.1, a7, a6, hb.2.2.2.1, a8, km_e a4.2.2.2.2⟩, h0, by omega⟩
  · exact ⟨Or.inl a1, fun _ => a2, fun h => by omega, a3, a4⟩
theorem md_cur {K Pl Po : Int → Int} {z k is fa fp nl lp ah be so va : Int} {wo : Int64} (h : MdI K Pl Po z k is fa fp nl lp ah be so va wo) (hi : is ≠ 0) : Cur K Pl Po z k ah be so va wo := by
  rcases h with ⟨_, _, _, h, _⟩ | ⟨h, _⟩
  · exact h
  · exact absurd h hi
theorem md_ts {m k : Int} {K : Int → Int} {a b : Int × Bool × Int} {p : Prop} (h : (m = 1 ∧ K k ≠ 20 ∧ a = b) ∨ (m = 0 ∧ p)) (hm : m ≠ 0) : a = b := by
  rcases h with ⟨_, _, h⟩ | ⟨h, _⟩
  · exact h
  · exact absurd h hm
theorem md_te {m k : Int} {K : Int → Int} {p q : Prop} (h : (m = 1 ∧ K k ≠ 20 ∧ p) ∨ (m = 0 ∧ q)) (hm : m = 0) : q := by
  rcases h with ⟨h, _⟩ | ⟨_, h⟩
  · omega
  · exact h
/-- what test() answers -/
def TstM (K Pl Po : Int → Int) (z k r fa fp fa2 fp2 ah2 be2 so2 va2 : Int) (wo2 : Int64) : Prop := (r = 1 ∧ ∃ j : Int, tstF K k = (j, true) ∧ Cur K Pl Po z j ah2 be2 so2 va2 wo2 ∧ fa2 = fa ∧ fp2 = fp) ∨ (r = 0 ∧ ∃ j : Int, tstF K k = (j, false) ∧ fa2 = 1 ∧ fp2 = Pl j)
theorem md_tf {K Pl Po : Int → Int} {z k r fa fp fa2 fp2 ah2 be2 so2 va2 : Int} {wo2 : Int64} (h : TstM K Pl Po z k r fa fp fa2 fp2 ah2 be2 so2 va2 wo2) (hr : r = 0) : ∃ j : Int, tstF K k = (j, false) ∧ fa2 = 1 ∧ fp2 = Pl j := by
  rcases h with ⟨h, _⟩ | ⟨_, h⟩
  · omega
  · exact h
theorem md_tt {K Pl Po : Int → Int} {z k r fa fp fa2 fp2 ah2 be2 so2 va2 : Int} {wo2 : Int64} (h : TstM K Pl Po z k r fa fp fa2 fp2 ah2 be2 so2 va2 wo2) (hr : r ≠ 0) : ∃ j : Int, tstF K k = (j, true) ∧ Cur K Pl Po z j ah2 be2 so2 va2 wo2 ∧ fa2 = fa ∧ fp2 = fp := by
  rcases h with ⟨_, h⟩ | ⟨h, _⟩
  · exact h
  · exact absurd h hr
theorem sur_ne {n m sp s k : Int} {P : Int → Int} (h : Sur n m sp s k P) (h1 : sp ≠ -1 ∨ m ≤ n) (h2 : P k ≠ -1) : s ≠ -1 := by
  unfold Sur at h
  by_cases hq : m ≤ n ∧ sp = -1
  · rw [if_pos hq] at h; rw [h]; exact h2
  · rw [if_neg hq] at h
    rw [h]
    intro h9
    rcases h1 with h1 | h1
    · exact h1 h9
    · exact hq ⟨h1, h9⟩
