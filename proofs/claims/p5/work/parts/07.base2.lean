/-! rows whose places hold numbers in bounds -/
def AllI (f : Nat → Int32) (n : Nat) (lo hi : Int) : Prop := ∀ j : Nat, j < n → lo ≤ (f j).toInt ∧ (f j).toInt ≤ hi
theorem i32_0 : (0 : Int32).toInt = 0 := by decide
theorem i32_1 : (1 : Int32).toInt = 1 := by decide
theorem i32_m1 : (-1 : Int32).toInt = -1 := by decide
theorem cn {x : Int32} {n : Nat} (h : x.toInt < n) (h0 : 0 < n) : x.toNatClampNeg < n := by
  show x.toInt.toNat < n
  omega
theorem allI_upd {f : Nat → Int32} {n k : Nat} {lo hi : Int} {x : Int32} (h : AllI f n lo hi) (h1 : lo ≤ x.toInt) (h2 : x.toInt ≤ hi) : AllI (upd f k x) n lo hi := by
  intro j hj
  by_cases hq : j = k
  · subst hq; rw [pk_us]; exact ⟨h1, h2⟩
  · rw [pk_un hq]; exact h j hj
theorem allI_0 {n : Nat} {lo hi : Int} (h1 : lo ≤ 0) (h2 : 0 ≤ hi) : AllI (fun _ => 0) n lo hi := fun _ _ => ⟨by rw [i32_0]; exact h1, by rw [i32_0]; exact h2⟩
theorem allI_cpy {f g : Nat → Int32} {n0 n1 sp dp n : Nat} {lo hi : Int} (hf : AllI f n0 lo hi) (hg : AllI g n1 lo hi) (h4 : sp + n ≤ n0) : AllI (va_cpy f g sp dp n) n1 lo hi := by
  intro j hj
  by_cases hq : dp ≤ j ∧ j < dp + n
  · rw [pk_cpy_in hq.1 hq.2]; exact hf _ (by omega)
  · rw [pk_cpy_out (by omega)]; exact hg j hj
theorem allI_eq {g : Nat → Int32} {n : Nat} {v : Int32} {lo hi : Int} (h : ∀ j : Nat, j < n → g j = v) (h1 : lo ≤ v.toInt) (h2 : v.toInt ≤ hi) : AllI g n lo hi := fun j hj => by rw [h j hj]; exact ⟨h1, h2⟩
