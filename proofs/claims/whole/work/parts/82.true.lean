/-! the law's pure function answers true, from the entry's world on -/
theorem V0_WR : WR 120 150000 V0 := by
  have hR : Rel 0 0 (clr (fun _ _ => 0)) (beginR (fun _ => 0)) := r_begin (fun _ _ => 0) (fun _ => 0)
  refine ⟨hR.mono (by omega) (by omega), ⟨0, 0, by omega, by omega, ?_, ?_, ?_, fun k hk => absurd hk (Nat.not_lt_zero k)⟩, ⟨⟨rfl, rfl⟩, Or.inl rfl, Or.inl rfl, fun q => absurd (show (0 : Int32) = 1 from q) (by decide), fun q => absurd (show (0 : Int32) = 1 from q) (by decide)⟩, 0, by omega, ?_, ?_, fun i hi => absurd hi (Nat.not_lt_zero i)⟩
  · rw [nI_0]; rfl
  · rw [nI_0]; rfl
  · rw [nI_0]; rfl
  · rw [nI_0]; rfl
  · rw [nI_0]; rfl
theorem law_true {L : Nat} (hL : L ≤ 2048) (xs : Nat → Int32) : fLaw xs L 513 V0 0 = some 1 := by
  have h := law_L (xs := xs) hL (L / 4) 513 0 V0 (by omega) (by omega) (V0_WR.mono (by omega) (by omega))
  rw [Nat.mul_zero, nI_0] at h
  exact h
