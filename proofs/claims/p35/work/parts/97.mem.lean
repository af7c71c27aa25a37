
/-! what holds of the model's whole memory: now, the diary, the slots -/
def rowD (M : Mem) (k : Nat) : Nat → Int32 := va_cpy (M 5) (fun _ => 0) (1272 * k) 0 1272
def rowK (M : Mem) (k : Nat) : Nat → Int32 := va_cpy (M 6) (fun _ => 0) (1272 * k) 0 1272
abbrev JD (b : Nat) (M : Mem) : Prop := ∃ (z : Nat) (cnt : Nat → Nat), z ≤ 14 ∧ M 0 7 = nI z ∧ (∀ k, k < z → JJ b (rowD M k) ∧ rowD M k 0 = nI (cnt k)) ∧ M 2 0 = nI (cnt z) ∧ (∀ k, k < z → cnt (k + 1) ≤ cnt k + 1) ∧ ∀ k, k ≤ z → cnt k ≤ 10
abbrev JK (b : Nat) (M : Mem) : Prop := ∀ s, s < 2 → M 7 s = 1 → JJ b (rowK M s) ∧ ∃ C, 1 ≤ C ∧ C ≤ 10 ∧ rowK M s 0 = nI C
abbrev JM (n : Nat) (M : Mem) : Prop := JJ (1000 * n) (M 2) ∧ JD (1000 * n) M ∧ JK (1000 * n) M
/-- there is a card -/
def Pos (M : Mem) : Prop := ∃ C, 1 ≤ C ∧ C ≤ 10 ∧ M 2 0 = nI C
theorem cpy0 {f g : Nat → Int32} {a j : Nat} (h : j < 1272) : va_cpy f g a 0 1272 j = f (a + j) := by
  have := cpy_in (f := f) (g := g) (a := a) (b := 0) h
  rwa [Nat.zero_add] at this
theorem cpy1 {f g : Nat → Int32} {a j : Nat} (h : 1272 ≤ j) : va_cpy f g a 0 1272 j = g j := cpy_out (by omega)
theorem rowD_eq {M M' : Mem} {k k' : Nat} (h : ∀ j, j < 1272 → M' 5 (1272 * k' + j) = M 5 (1272 * k + j)) : rowD M' k' = rowD M k := by
  funext j
  unfold rowD
  by_cases c : j < 1272
  · rw [cpy0 c, cpy0 c, h j c]
  · rw [cpy1 (by omega), cpy1 (by omega)]
theorem row_now {f r : Nat → Int32} {a : Nat} (ht : JT r) (h : ∀ j, j < 1272 → f (a + j) = r j) : va_cpy f (fun _ => 0) a 0 1272 = r := by
  funext j
  by_cases c : j < 1272
  · rw [cpy0 c, h j c]
  · rw [cpy1 (by omega), ht j (by omega)]
theorem row_back {f r : Nat → Int32} {a : Nat} (ht : JT r) : va_cpy f r a 0 1272 = va_cpy f (fun _ => 0) a 0 1272 := by
  funext j
  by_cases c : j < 1272
  · rw [cpy0 c, cpy0 c]
  · rw [cpy1 (by omega), cpy1 (by omega), ht j (by omega)]
section JMEM
variable {n : Nat} {M : Mem}
theorem JM.mono {n' : Nat} (h : JM n M) (hn : n ≤ n') : JM n' M := by
  obtain ⟨h1, ⟨z, cnt, a1, a2, a3, a4, a5, a6⟩, h3⟩ := h
  exact ⟨h1.mono (by omega), ⟨z, cnt, a1, a2, fun k hk => ⟨(a3 k hk).1.mono (by omega), (a3 k hk).2⟩, a4, a5, a6⟩, fun s hs q => ⟨(h3 s hs q).1.mono (by omega), (h3 s hs q).2⟩⟩
theorem jm_core (h : JM n M) : ∃ S1, fX12_remember (mRef M 0) = some S1 ∧ S1 2 = M 2 ∧ S1 0 0 = 0 ∧ ∀ (r' : Nat → Int32) (C' : Nat), JJ (1000 * (n + 1)) r' → r' 0 = nI C' → C' ≤ 10 → (∀ C, C ≤ 10 → M 2 0 = nI C → C' ≤ C + 1) → JM (n + 1) (norm (va_up S1 2 r')) ∧ norm (va_up S1 2 r') 2 = r' ∧ ∃ zz, zz < 14 ∧ norm (va_up S1 2 r') 0 7 = nI (zz + 1) ∧ rowD (norm (va_up S1 2 r')) zz = M 2 := by
  obtain ⟨h1, ⟨z, cnt, a1, a2, a3, a4, a5, a6⟩, h3⟩ := h
  have e7 : mRef M 0 0 7 = nI z := (show upd (M 0) 0 0 7 = M 0 7 from upd_ne (by decide)).trans a2
  obtain ⟨s, S1, b1, b2, b3, b4, b5, b6, b7, b8, b9, b10, b11, b12⟩ := rem_m (mRef M 0) a1 e7
  refine ⟨S1, b3, b5, (b9 0 (by decide)).trans (mRef_0 M 0), fun r' C' j1 j2 j3 j4 => ?_⟩
  have n2 : norm (va_up S1 2 r') 2 = r' := by rw [norm_k _ (by decide) (by decide) (by decide), va_up_s]
  have n5 : norm (va_up S1 2 r') 5 = S1 5 := by rw [norm_k _ (by decide) (by decide) (by decide), va_up_n (by decide)]
  have n6 : norm (va_up S1 2 r') 6 = M 6 := by rw [norm_k _ (by decide) (by decide) (by decide), va_up_n (by decide), b7]; rfl
  have n7 : norm (va_up S1 2 r') 7 = M 7 := by rw [norm_k _ (by decide) (by decide) (by decide), va_up_n (by decide), b8]; rfl
  have n07 : norm (va_up S1 2 r') 0 7 = nI (z - s + 1) := by rw [norm_0 _ (by decide), va_up_n (by decide), b10]
  have rk : ∀ k, k < z - s → rowD (norm (va_up S1 2 r')) k = rowD M (k + s) := fun k hk => rowD_eq (fun j hj => by rw [n5, b11 k j hk hj]; rfl)
  have rz : rowD (norm (va_up S1 2 r')) (z - s) = M 2 := by
    unfold rowD
    rw [n5]
    exact row_now h1.t (fun j hj => b12 j hj)
  have hC := j4 (cnt z) (a6 z (Nat.le_refl z)) a4
  obtain ⟨cn, hcn⟩ : ∃ cn : Nat → Nat, ∀ k, cn k = if k ≤ z - s then cnt (k + s) else C' := ⟨_, fun _ => rfl⟩
  refine ⟨⟨by rw [n2]; exact j1, ⟨z - s + 1, cn, by omega, n07, fun k hk => ?_, ?_, fun k hk => ?_, fun k hk => ?_⟩, fun i hi q => ?_⟩, n2, z - s, by omega, n07, rz⟩
  · by_cases c : k < z - s
    · rw [rk k c, hcn, if_pos (by omega)]
      exact ⟨(a3 (k + s) (by omega)).1.mono (by omega), (a3 (k + s) (by omega)).2⟩
    · obtain rfl : k = z - s := by omega
      rw [rz, hcn, if_pos (by omega), show z - s + s = z by omega]
      exact ⟨h1.mono (by omega), a4⟩
  · rw [n2, hcn, if_neg (show ¬ z - s + 1 ≤ z - s by omega)]
    exact j2
  · rw [hcn, hcn]
    by_cases c : k + 1 ≤ z - s
    · rw [if_pos c, if_pos (by omega), show k + 1 + s = k + s + 1 by omega]
      exact a5 (k + s) (by omega)
    · rw [if_neg c, if_pos (by omega)]
      obtain rfl : k = z - s := by omega
      rw [show z - s + s = z by omega]
      exact hC
  · rw [hcn]
    by_cases c : k ≤ z - s
    · rw [if_pos c]; exact a6 _ (by omega)
    · rw [if_neg c]; exact j3
  · have e : rowK (norm (va_up S1 2 r')) i = rowK M i := by unfold rowK; rw [n6]
    rw [n7] at q
    rw [e]
    exact ⟨(h3 i hi q).1.mono (by omega), (h3 i hi q).2⟩
/-- what an action's call comes to: done, or refused -/
abbrev Done (n : Nat) (M : Mem) (m : Option (Int32 × Mem)) : Prop := ∃ x M', m = some (x, M') ∧ JM (n + 1) M' ∧ norm M' = M' ∧ (Pos M → Pos M')
theorem rc2_ok {m : Option (Int32 × Mem)} {c1 c2 x : Int32} {S1 : Mem} {r' : Nat → Int32} (h : m = some (x, va_up S1 2 r')) (h0 : S1 0 0 = 0) : rc2 m c1 c2 = some (x, norm (va_up S1 2 r')) := by
  unfold rc2
  rw [h, m_bd2, if_pos (by rw [va_up_n (by decide)]; exact h0)]
theorem rc1_ok {m : Option (Int32 × Mem)} {c1 x : Int32} {S1 : Mem} {r' : Nat → Int32} (h : m = some (x, va_up S1 2 r')) (h0 : S1 0 0 = 0) : rc1 m c1 = some (x, norm (va_up S1 2 r')) := by
  unfold rc1
  rw [h, m_bd2, if_pos (by rw [va_up_n (by decide)]; exact h0)]
theorem pos_of {r' : Nat → Int32} {M' : Mem} {C C' : Nat} (h2 : M' 2 = r') (e : r' 0 = nI C') (eC : M 2 0 = nI C) (hC : C ≤ 10) (hC' : C' ≤ 10) (hc : C ≤ C') (p : Pos M) : Pos M' := by
  obtain ⟨D, d1, d2, d3⟩ := p
  have : D = C := (nI_eq (by omega) (by omega)).mp (d3.symm.trans eC)
  exact ⟨C', by omega, hC', by rw [h2]; exact e⟩
end JMEM
