/-- the same place read twice is the same byte -/
theorem see_eq {f : Nat → Int32} {a b x y zle : Int32} (h : a = b) (hx : (a.toInt < zle.toInt ∧ 0 ≤ x.toInt ∧ x.toInt ≤ 255 ∧ x = f a.toNatClampNeg &&& 255) ∨ (zle.toInt ≤ a.toInt ∧ x.toInt = -1)) (hy : (b.toInt < zle.toInt ∧ 0 ≤ y.toInt ∧ y.toInt ≤ 255 ∧ y = f b.toNatClampNeg &&& 255) ∨ (zle.toInt ≤ b.toInt ∧ y.toInt = -1)) (hy0 : 0 ≤ y.toInt) : x.toInt = y.toInt := by
  subst h
  rcases hx with ⟨_, _, _, ex⟩ | ⟨h1, _⟩
  · rcases hy with ⟨_, _, _, ey⟩ | ⟨_, h2⟩
    · rw [ex, ey]
    · omega
  · rcases hy with ⟨h3, _⟩ | ⟨_, h2⟩
    · omega
    · omega
