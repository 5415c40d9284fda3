/-! what the class's tokens say, as numbers -/
theorem row_step {a b : Int} {B : Int → Int} {p : Int} {q q' : Int32} (h : ∀ j : Int, p ≤ j → j < q.toInt → (a ≤ B j ∧ B j ≤ b)) (e : q'.toInt = q.toInt + 1) (hq : a ≤ B q.toInt ∧ B q.toInt ≤ b) : ∀ j : Int, p ≤ j → j < q'.toInt → (a ≤ B j ∧ B j ≤ b) := by
  intro j h0 h1
  by_cases hj : j = q.toInt
  · rw [hj]; exact hq
  · exact h j h0 (by omega)
theorem row_end {a b n p q r : Int} {B : Int → Int} (h : ∀ j : Int, p ≤ j → j < q → (a ≤ B j ∧ B j ≤ b)) (hr : p + r = q) (h1 : p ≤ q) (h2 : q ≤ n) (hq : q < n → ¬ (a ≤ B q ∧ B q ≤ b)) : RowR (fun c => a ≤ c ∧ c ≤ b) B n p (p + r) := by
  rw [hr]
  exact ⟨h1, h2, h, hq⟩
theorem sgn_out {c : Int} (h : c < 58 ∨ 62 < c) : (19 : Int32).toInt = sgnK c := by
  unfold sgnK
  rw [if_neg (by omega), if_neg (by omega), if_neg (by omega), if_neg (by omega), if_neg (by omega)]
  decide
theorem chr_of : ∀ (i : Fin 12) (j : Fin 5), j.val < strLen.getD i.val 0 → ((((strByt.getD i.val []).getD j.val 0) &&& 255).toUInt32 % 65536).toInt32.toInt = wCh i.val j.val := by decide +kernel
theorem chr_at {i : Nat} {ix : Int32} (hi : i < 12) (h : 0 ≤ ix.toInt ∧ ix.toInt < ((strLen.getD i 0 : Nat) : Int)) : ((((strByt.getD i []).getD ix.toNatClampNeg 0) &&& 255).toUInt32 % 65536).toInt32.toInt = wCh i ix.toInt.toNat := by
  have h5 : strLen.getD i 0 ≤ 5 := (wln_bd ⟨i, hi⟩).2
  exact chr_of ⟨i, hi⟩ ⟨ix.toInt.toNat, by omega⟩ (show ix.toInt.toNat < strLen.getD i 0 by omega)
theorem sp_len {B : Int → Int} {b l : Int} {i : Nat} (hi : i < 12) (h : l ≠ ((strLen.getD i 0 : Nat) : Int)) : ¬ WordIs B b (b + l) i := by
  intro hw
  have h1 : b + l - b = ((strLen.getD i 0 : Nat) : Int) := hw.1
  omega
theorem sp_no {B : Int → Int} {b l : Int} {i : Nat} {j : Int32} (hi : i < 12) (h0 : 0 ≤ j.toInt) (h1 : j.toInt < ((strLen.getD i 0 : Nat) : Int)) (h : B (b + j.toInt) ≠ wCh i j.toInt.toNat) : ¬ WordIs B b (b + l) i := by
  intro hw
  have h2 := hw.2 j.toInt.toNat (show j.toInt.toNat < strLen.getD i 0 by omega)
  rw [show b + ((j.toInt.toNat : Nat) : Int) = b + j.toInt by omega] at h2
  exact h h2
theorem sp_yes {B : Int → Int} {b l : Int} {i : Nat} {j : Int32} (hi : i < 12) (hl : l = ((strLen.getD i 0 : Nat) : Int)) (h : ∀ q : Nat, (q : Int) < j.toInt → B (b + q) = wCh i q) (hj : l ≤ j.toInt) : WordIs B b (b + l) i := by
  refine ⟨show b + l - b = ((strLen.getD i 0 : Nat) : Int) by omega, fun q hq => h q ?_⟩
  have hq2 : q < strLen.getD i 0 := hq
  omega
theorem sp_step {B : Int → Int} {b : Int} {i : Nat} {j j' : Int32} (h0 : 0 ≤ j.toInt) (e : j'.toInt = j.toInt + 1) (h : ∀ q : Nat, (q : Int) < j.toInt → B (b + q) = wCh i q) (hj : B (b + j.toInt) = wCh i j.toInt.toNat) : ∀ q : Nat, (q : Int) < j'.toInt → B (b + q) = wCh i q := by
  intro q hq
  by_cases hj2 : (q : Int) = j.toInt
  · rw [hj2, hj, show j.toInt.toNat = q by omega]
  · exact h q (by omega)
theorem wk_yes {B : Int → Int} {b e : Int} {kd r : Int32} (h0 : 0 ≤ kd.toInt) (h1 : kd.toInt < 12) (hw : (r.toInt = 1 ∧ WordIs B b e kd.toNatClampNeg) ∨ (r.toInt = 0 ∧ ¬ WordIs B b e kd.toNatClampNeg)) (hr : r.toInt ≠ 0) : KindW B b e kd.toInt ∧ kd.toInt ≠ 20 := by
  rcases hw with ⟨_, h⟩ | ⟨h, _⟩
  · exact ⟨Or.inl ⟨kd.toInt.toNat, by omega, by omega, h⟩, by omega⟩
  · exact absurd h hr
theorem wk_no {B : Int → Int} {b e : Int} {kd : Int32} (h : ∀ i : Nat, (i : Int) < kd.toInt → ¬ WordIs B b e i) (h1 : 12 ≤ kd.toInt) : KindW B b e (18 : Int32).toInt ∧ (18 : Int32).toInt ≠ 20 := by
  rw [show (18 : Int32).toInt = 18 by decide]
  exact ⟨Or.inr ⟨rfl, fun i hi => h i (by omega)⟩, by omega⟩
theorem wk_step {B : Int → Int} {b e : Int} {kd kd' r : Int32} (h0 : 0 ≤ kd.toInt) (e1 : kd'.toInt = kd.toInt + 1) (h : ∀ i : Nat, (i : Int) < kd.toInt → ¬ WordIs B b e i) (hw : (r.toInt = 1 ∧ WordIs B b e kd.toNatClampNeg) ∨ (r.toInt = 0 ∧ ¬ WordIs B b e kd.toNatClampNeg)) (hr : r.toInt = 0) : ∀ i : Nat, (i : Int) < kd'.toInt → ¬ WordIs B b e i := by
  intro i hi
  by_cases hj : (i : Int) = kd.toInt
  · rcases hw with ⟨h9, _⟩ | ⟨_, h9⟩
    · omega
    · rw [show i = kd.toNatClampNeg from (show i = kd.toInt.toNat by omega)]; exact h9
  · exact h i (by omega)
theorem kn_in {f : Nat → Int32} {z : Int} {i x : Int32} (h : 0 ≤ i.toInt ∧ i.toInt < z) (e : x.toInt = (f i.toNatClampNeg).toInt) : x.toInt = kn f z i.toInt := by
  unfold kn
  rw [if_pos h]
  exact e
theorem kn_out {f : Nat → Int32} {z i : Int} (h : ¬ (0 ≤ i ∧ i < z)) : (20 : Int32).toInt = kn f z i := by
  unfold kn
  rw [if_neg h]
  decide
theorem pn_in {f : Nat → Int32} {z : Int} {i x : Int32} (h : 0 ≤ i.toInt ∧ i.toInt < z) (e : x.toInt = (f i.toNatClampNeg).toInt) : x.toInt = pn f z i.toInt := by
  unfold pn
  rw [if_pos h]
  exact e
theorem pn_out {f : Nat → Int32} {z i : Int} (h : ¬ (0 ≤ i ∧ i < z)) : (-1 : Int32).toInt = pn f z i := by
  unfold pn
  rw [if_neg h]
  decide
theorem blk_self {P : Int → Prop} {B : Int → Int} {n b : Int} (hn : b < n) (h : ¬ P (B b)) : RowR P B n b b := ⟨Int.le_refl b, by omega, fun j h0 h1 => absurd h1 (by omega), fun _ => h⟩
theorem tk_word {B : Int → Int} {n b l k : Int} (hr : RowR (fun c => 97 ≤ c ∧ c ≤ 122) B n b (b + l)) (hk : KindW B b (b + l) k) (hn : b < n) (hl : ltr (B b)) : TokR B n b k b (b + l) := ⟨blk_self hn (fun h => by unfold blk at h; unfold ltr at hl; omega), Or.inr (Or.inl ⟨hn, hl, hr, hk⟩)⟩
theorem tk_num {B : Int → Int} {n b l k : Int} (hr : RowR (fun c => 48 ≤ c ∧ c ≤ 57) B n b (b + l)) (hn : b < n) (hl : dgt (B b)) (hk : (l ≤ 4 ∧ k = 12) ∨ (4 < l ∧ k = 19)) : TokR B n b k b (b + l) := ⟨blk_self hn (fun h => by unfold blk at h; unfold dgt at hl; omega), Or.inr (Or.inr (Or.inl ⟨hn, hl, hr, by omega⟩))⟩
theorem tk_sign {B : Int → Int} {n b : Int} {k x : Int32} (hk : k.toInt = sgnK x.toInt) (hn : b < n) (hb : ¬ blk (B b)) (hl : ¬ ltr (B b)) (hd : ¬ dgt (B b)) (hx : B b = x.toInt) : TokR B n b k.toInt b (b + (1 : Int32).toInt) := ⟨blk_self hn hb, Or.inr (Or.inr (Or.inr ⟨hn, hl, hd, by rw [i32_1], by rw [hx]; exact hk⟩))⟩
theorem sg_20 {k : Int32} {c : Int} (h : k.toInt = sgnK c) : k.toInt ≠ 20 := by
  have h1 := sgnK_bd c
  omega
theorem tk_len {P : Int → Prop} {B : Int → Int} {n b l : Int} (hr : RowR P B n b (b + l)) (hn : b < n) (hp : P (B b)) : 1 ≤ l := by
  have h1 := hr.grow hn hp
  omega
theorem split_go {B : Int → Int} {n a' : Int} {e1 e3 g1 g3 : Nat → Int32} {zk zz at1 r : Int32} (h : SplitI B n e1 e3 zk.toInt at1.toInt) (hn : at1.toInt < n) (hz : 0 ≤ zk.toInt) (hw : (r.toInt = 1 ∧ blk (B at1.toInt) ∧ zz.toInt = zk.toInt ∧ g1 = e1 ∧ g3 = e3) ∨ (∃ (kd pl : Int32), ¬ blk (B at1.toInt) ∧ TokR B n at1.toInt kd.toInt at1.toInt (at1.toInt + r.toInt) ∧ kd.toInt ≠ 20 ∧ pl.toInt = at1.toInt ∧ zz.toInt = zk.toInt + 1 ∧ g1 = upd e1 zk.toNatClampNeg kd ∧ g3 = upd e3 zk.toNatClampNeg pl ∧ 1 ≤ r.toInt ∧ at1.toInt + r.toInt ≤ n)) (ha : a' = at1.toInt + max 1 r.toInt) : SplitI B n g1 g3 zz.toInt a' := by
  rcases hw with ⟨h1, h2, h3, h4, h5⟩ | ⟨kd, pl, h1, h2, h3, h4, h5, h6, h7, h8, h9⟩
  · rw [h3, h4, h5]
    exact split_blk h hn h2 (by omega)
  · rw [ha, show max 1 r.toInt = r.toInt by omega]
    exact split_tok h rfl hz hn h1 h2 h3 rfl h4 h6 h7 h5
