/-! rows whose places hold numbers in bounds -/
def AllI (f : Nat → Int32) (n : Nat) (lo hi : Int) : Prop := ∀ j : Nat, j < n → lo ≤ (f j).toInt ∧ (f j).toInt ≤ hi
theorem i32r (x : Int32) : -2147483648 ≤ x.toInt ∧ x.toInt < 2147483648 := by
  have h1 := x.toInt_lt
  have h2 := x.le_toInt
  omega
theorem zz_uses : True := by
  have h1 := @va_tb; have h2 := @va_tlen; have h3 := @vk_getf; have h4 := @va_gets; have h5 := @va_ldcS; have h6 := @vk_recv; have h7 := @W.aret; have h8 := @vk_Sof; have h9 := @va_Zof; have h10 := @va_eqi; have h11 := @va_callr; have h12 := @va_aldq; have h13 := @va_astq; have h14 := @va_newq; have h15 := @W.lcmp; have h16 := @lv_lookup; have h17 := @va_copyi; have h18 := @va_mabs; have h19 := @lv_ldc2; have h20 := @va_sld; have h21 := @va_slen
  trivial
theorem i32_0 : (0 : Int32).toInt = 0 := by decide
theorem i32_1 : (1 : Int32).toInt = 1 := by decide
theorem i32_m1 : (-1 : Int32).toInt = -1 := by decide
theorem cn {x : Int32} {n : Nat} (h : x.toInt < n) (h0 : 0 < n) : x.toNatClampNeg < n := by
  show x.toInt.toNat < n
  omega
theorem allI_upd {f : Nat → Int32} {n k : Nat} {lo hi : Int} {x : Int32} (h : AllI f n lo hi) (h1 : lo ≤ x.toInt) (h2 : x.toInt ≤ hi) : AllI (upd f k x) n lo hi := by
  intro j hj
  by_cases hq : j = k
  · subst hq; rw [pk_us]; exact ⟨h1, h2⟩
  · rw [pk_un hq]; exact h j hj
theorem allI_0 {n : Nat} {lo hi : Int} (h1 : lo ≤ 0) (h2 : 0 ≤ hi) : AllI (fun _ => 0) n lo hi := fun _ _ => ⟨by rw [i32_0]; exact h1, by rw [i32_0]; exact h2⟩
theorem allI_cpy {f g : Nat → Int32} {n0 n1 sp dp n : Nat} {lo hi : Int} (hf : AllI f n0 lo hi) (hg : AllI g n1 lo hi) (h4 : sp + n ≤ n0) : AllI (va_cpy f g sp dp n) n1 lo hi := by
  intro j hj
  by_cases hq : dp ≤ j ∧ j < dp + n
  · rw [pk_cpy_in hq.1 hq.2]; exact hf _ (by omega)
  · rw [pk_cpy_out (by omega)]; exact hg j hj
theorem allI_eq {g : Nat → Int32} {n : Nat} {v : Int32} {lo hi : Int} (h : ∀ j : Nat, j < n → g j = v) (h1 : lo ≤ v.toInt) (h2 : v.toInt ≤ hi) : AllI g n lo hi := fun j hj => by rw [h j hj]; exact ⟨h1, h2⟩
theorem at0e {f : Nat → Int32} : (f (0 : Int32).toNatClampNeg).toInt = (f 0).toInt := by
  rw [show (0 : Int32).toNatClampNeg = 0 by decide]
/-- how many of the first places are above 0 -/
def cntP (f : Nat → Int32) : Nat → Int
  | 0 => 0
  | n + 1 => cntP f n + (if 0 < (f n).toInt then 1 else 0)
theorem cnt_one {f : Nat → Int32} {i i' n n' x : Int32} (h0 : 0 ≤ i.toInt) (e : i'.toInt = i.toInt + 1) (hx : x = f i.toNatClampNeg) (hp : 0 < x.toInt) (hn : n.toInt = cntP f i.toInt.toNat) (hn' : n'.toInt = n.toInt + 1) : n'.toInt = cntP f i'.toInt.toNat := by
  rw [e, show (i.toInt + 1).toNat = i.toInt.toNat + 1 by omega, hn', hn]
  show _ = cntP f i.toInt.toNat + _
  rw [if_pos (by rw [hx] at hp; exact hp)]
theorem cnt_no {f : Nat → Int32} {i i' n n' x : Int32} (h0 : 0 ≤ i.toInt) (e : i'.toInt = i.toInt + 1) (hx : x = f i.toNatClampNeg) (hp : ¬ 0 < x.toInt) (hn : n.toInt = cntP f i.toInt.toNat) (hn' : n'.toInt = n.toInt) : n'.toInt = cntP f i'.toInt.toNat := by
  rw [e, show (i.toInt + 1).toNat = i.toInt.toNat + 1 by omega, hn', hn]
  show _ = cntP f i.toInt.toNat + _
  rw [if_neg (by rw [hx] at hp; exact hp)]
  omega
/-- a stretch of a row is copied to another one, place by place -/
theorem mv_step {f f1 : Nat → Int32} {n pa pb : Nat} {k k' xd xs v : Int32} (h0 : 0 ≤ k.toInt) (hk : k.toInt < n) (e : k'.toInt = k.toInt + 1) (hdis : pa + n ≤ pb ∨ pb + n ≤ pa) (hd : xd.toInt = pb + k.toInt) (hs : xs.toInt = pa + k.toInt) (hv : v = f1 xs.toNatClampNeg)
    (I1 : ∀ j : Nat, (j : Int) < k.toInt → f1 (pb + j) = f (pa + j)) (I2 : ∀ j : Nat, (j < pb ∨ (pb : Int) + k.toInt ≤ j) → f1 j = f j) :
    (∀ j : Nat, (j : Int) < k'.toInt → upd f1 xd.toNatClampNeg v (pb + j) = f (pa + j)) ∧ (∀ j : Nat, (j < pb ∨ (pb : Int) + k'.toInt ≤ j) → upd f1 xd.toNatClampNeg v j = f j) := by
  have ed : xd.toNatClampNeg = pb + k.toInt.toNat := by show xd.toInt.toNat = _; omega
  have es : xs.toNatClampNeg = pa + k.toInt.toNat := by show xs.toInt.toNat = _; omega
  refine ⟨fun j hj => ?_, fun j hj => ?_⟩
  · by_cases hq : j = k.toInt.toNat
    · subst hq
      rw [ed, pk_us, hv, es]
      exact I2 _ (by omega)
    · rw [ed, pk_un (by omega)]
      exact I1 j (by omega)
  · rw [ed, pk_un (by omega)]
    exact I2 j (by omega)
theorem sum_bd {f : Nat → Int32} {n : Nat} (h : AllI f n 0 24) (hn : n ≤ 1000 := by decide) : ∀ {k : Nat}, k ≤ n → 0 ≤ (sumI f k).toInt ∧ (sumI f k).toInt ≤ 24 * k := by
  intro k
  induction k with
  | zero => intro _; exact ⟨show (0 : Int) ≤ (0 : Int32).toInt by decide, show (0 : Int32).toInt ≤ 24 * ((0 : Nat) : Int) by decide⟩
  | succ k ih =>
    intro hk
    have h1 := ih (by omega)
    have h2 := h k (by omega)
    have h3 := q_add (x := sumI f (k + 1)) (a := sumI f k) (b := f k) rfl rfl rfl (by omega) (by omega)
    omega
theorem upd0n {f : Nat → Int32} {x : Int32} {j : Nat} (h : 1 ≤ j) : upd f (0 : Int32).toNatClampNeg x j = f j := by
  rw [show (0 : Int32).toNatClampNeg = 0 by decide]; exact pk_un (by omega)
theorem upd_hi {f : Nat → Int32} {x i : Int32} {j n : Nat} (h : i.toInt < n) (hj : n ≤ j) (h0 : 0 < n := by decide) : upd f i.toNatClampNeg x j = f j := by
  refine pk_un ?_
  have : i.toNatClampNeg = i.toInt.toNat := rfl
  omega
theorem nar_z1 : vp_nar .boolean 1 = 1 := by decide
/-- how far a ticket is from the last one, by where it begins and by its number -/
def rk (f : Nat → Int32) (t : Int32) : Nat := if t.toInt = -1 then 0 else ((9 - (f t.toNatClampNeg).toInt) * 300 + (300 - t.toInt)).toNat
theorem rk_lt {f : Nat → Int32} {n : Nat} {t r : Int32} (hf : AllI f n 0 9) (ht : 0 ≤ t.toInt ∧ t.toInt < 300) (h : r.toInt = -1 ∨ (0 ≤ r.toInt ∧ r.toInt < 300 ∧ (t.toInt = -1 ∨ (f t.toNatClampNeg).toInt < (f r.toNatClampNeg).toInt ∨ ((f t.toNatClampNeg).toInt = (f r.toNatClampNeg).toInt ∧ t.toInt < r.toInt)))) (hn : 300 ≤ n := by decide) : rk f r < rk f t := by
  have h1 := hf t.toNatClampNeg (Nat.lt_of_lt_of_le (cn (n := 300) (by omega) (by decide)) hn)
  unfold rk
  rw [if_neg (show ¬ t.toInt = -1 by omega)]
  by_cases hr : r.toInt = -1
  · rw [if_pos hr]; omega
  · rw [if_neg hr]
    have h2 := hf r.toNatClampNeg (Nat.lt_of_lt_of_le (cn (n := 300) (by omega) (by decide)) hn)
    omega
theorem rk_bd {f : Nat → Int32} {n : Nat} {t : Int32} (hf : AllI f n 0 9) (ht : t.toInt = -1 ∨ (0 ≤ t.toInt ∧ t.toInt < 300)) (hn : 300 ≤ n := by decide) : rk f t ≤ 3000 := by
  unfold rk
  by_cases hr : t.toInt = -1
  · rw [if_pos hr]; omega
  · rw [if_neg hr]
    have h2 := hf t.toNatClampNeg (Nat.lt_of_lt_of_le (cn (n := 300) (by omega) (by decide)) hn)
    omega
theorem str_len {i : Nat} {x : Int32} (hi : i < 12) (e : x = Int32.ofNat (strLen.getD i 0)) : x.toInt = ((strLen.getD i 0 : Nat) : Int) ∧ x.toInt ≤ 5 ∧ 2 ≤ x.toInt := by
  rw [e]
  have h : ∀ k : Fin 12, (Int32.ofNat (strLen.getD k.val 0)).toInt = ((strLen.getD k.val 0 : Nat) : Int) ∧ (Int32.ofNat (strLen.getD k.val 0)).toInt ≤ 5 ∧ 2 ≤ (Int32.ofNat (strLen.getD k.val 0)).toInt := by decide
  exact h ⟨i, hi⟩
theorem and255 {x a : Int32} (h : x = a &&& 255) : 0 ≤ x.toInt ∧ x.toInt ≤ 255 := by
  obtain ⟨j, hj, he⟩ := pk_andE a (m := 255) 8 (by decide)
  rw [h, he, nI_toInt (by omega)]
  omega
