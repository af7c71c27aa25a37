/-! of whole: single rows wanted below -/
theorem r_isBl01 {S : Nat → Nat → Int32} (x : Int32) : fX5_isBlocked S x = 0 ∨ fX5_isBlocked S x = 1 := by
  unfold fX5_isBlocked
  rw [lt_eq]
  split
  · exact Or.inr rfl
  · rw [lt_eq]
    split
    · exact Or.inl rfl
    · exact Or.inr rfl
theorem thr {z : Int32} (h : goodZ z) : fX12_isThrough z = fX10_letsThrough z := by
  rcases h with rfl | rfl | rfl | rfl | rfl | rfl | rfl | rfl <;> decide
theorem m_in (x lo hi : Int32) (l h : Int64) (el : lo.toInt64 = l) (eh : hi.toInt64 = h) : fX12_in x.toInt64 l h = if x < lo then 0 else if hi < x then 0 else 1 := by
  subst el eh
  exact in_le x lo hi
theorem nm1 (d : Nat) (h : d < 2 ^ 31) : ¬ nI d = -1 := fun e => by
  have := congrArg Int32.toInt e
  rw [nI_toInt h, m_m1] at this
  omega
