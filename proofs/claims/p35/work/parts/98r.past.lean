
/-! undo, save and restore over the model's memory -/
section PAST
variable {n B T : Nat} {M : Mem} {S : Mem}
theorem rc1_of {m : Option (Int32 × Mem)} {c1 x : Int32} (h : m = some (x, S)) (h0 : S 0 0 = 0) : rc1 m c1 = some (x, norm S) := by
  unfold rc1
  rw [h, m_bd2, if_pos h0]
theorem rc2_of {m : Option (Int32 × Mem)} {c1 c2 x : Int32} (h : m = some (x, S)) (h0 : S 0 0 = 0) : rc2 m c1 c2 = some (x, norm S) := by
  unfold rc2
  rw [h, m_bd2, if_pos h0]
theorem a_undo (jm : JM n M) {z : Nat} (hz : z < 14) (e7 : M 0 7 = nI (z + 1)) (a b c : Int32) : ∃ M', rcall M 19 a b c = some (nI z, M') ∧ M' 2 = rowD M z ∧ JM n M' ∧ norm M' = M' ∧ (∀ C C', C ≤ 10 → C' ≤ 10 → M 2 0 = nI C → M' 2 0 = nI C' → C ≤ C' + 1) := by
  obtain ⟨h1, ⟨z', cnt, a1, a2, a3, a4, a5, a6⟩, h3⟩ := jm
  have : z' = z + 1 := (nI_eq (by omega) (by omega)).mp (a2.symm.trans e7)
  subst this
  have hr : fX12_undo M = some (nI z, va_up (va_up (mRef M 0) 0 (upd (mRef M 0 0) 7 (nI z))) 2 (va_cpy (M 5) (M 2) (1272 * z) 0 1272)) := by
    unfold fX12_undo
    rw [lt_eq, e7, if_neg (nI_ne0 (by omega) (by omega)), ref0, m_bd2, if_pos rfl, lt_eq, show mRef M 0 0 7 = nI (z + 1) from e7, nI_pred, lt_eq, lt_eq, show va_up (mRef M 0) 0 (upd (mRef M 0 0) 7 (nI z)) 0 7 = nI z from rfl, fcp_of hz, m_bd, lt_eq]
    rfl
  have hrow : va_cpy (M 5) (M 2) (1272 * z) 0 1272 = rowD M z := row_back h1.t
  rw [hrow] at hr
  obtain ⟨M', hM'⟩ : ∃ M', M' = norm (va_up (va_up (mRef M 0) 0 (upd (mRef M 0 0) 7 (nI z))) 2 (rowD M z)) := ⟨_, rfl⟩
  have n2 : M' 2 = rowD M z := by rw [hM', norm_k _ (by decide) (by decide) (by decide), va_up_s]
  have n5 : M' 5 = M 5 := by rw [hM', norm_k _ (by decide) (by decide) (by decide)]; rfl
  have n6 : M' 6 = M 6 := by rw [hM', norm_k _ (by decide) (by decide) (by decide)]; rfl
  have n7 : M' 7 = M 7 := by rw [hM', norm_k _ (by decide) (by decide) (by decide)]; rfl
  have n07 : M' 0 7 = nI z := by rw [hM', norm_0 _ (by decide)]; rfl
  have rk : ∀ k, rowD M' k = rowD M k := fun k => by unfold rowD; rw [n5]
  refine ⟨M', ?_, n2, ⟨?_, ⟨z, cnt, by omega, n07, fun k hk => ?_, ?_, fun k hk => a5 k (by omega), fun k hk => a6 k (by omega)⟩, fun s hs q => ?_⟩, by rw [hM']; exact norm_norm _, fun C C' hC hC' q q' => ?_⟩
  · rw [rc_19, hM']
    exact rc1_of hr rfl
  · rw [n2]; exact (a3 z (by omega)).1
  · rw [rk]; exact a3 k (by omega)
  · rw [n2]; exact (a3 z (by omega)).2
  · have : rowK M' s = rowK M s := by unfold rowK; rw [n6]
    rw [this]
    exact h3 s hs (by rw [← n7]; exact q)
  · have x1 : C = cnt (z + 1) := (nI_eq (by omega) (by have := a6 (z + 1) (by omega); omega)).mp (q.symm.trans a4)
    have x2 : C' = cnt z := (nI_eq (by omega) (by have := a6 z (by omega); omega)).mp (q'.symm.trans (by rw [n2]; exact (a3 z (by omega)).2))
    have := a5 z (by omega)
    omega
theorem a_undo0 (jm : JM n M) (hM : norm M = M) (e7 : M 0 7 = 0) (a b c : Int32) : Done n M (rcall M 19 a b c) := by
  rw [rc_19]
  refine dn3 jm hM ?_
  unfold fX12_undo
  rw [lt_eq, e7, if_pos rfl, ref1, m_bd2, if_neg n10]
theorem a_undo2 (R : Rel B T S (M 2)) (jm : JM n M) (hM : norm M = M) (h2 : 2 ≤ M 2 0) (a b c : Int32) : Done n M (rcall M 19 a b c) := by
  obtain ⟨z, -, hz, e7, -⟩ := jm.2.1
  rcases Nat.eq_zero_or_pos z with z0 | z0
  · subst z0; exact a_undo0 jm hM (e7.trans nI_0) a b c
  obtain ⟨C, hC, e0⟩ := R.cC
  obtain ⟨M', u1, u2, u3, u4, u5⟩ := a_undo (z := z - 1) jm (by omega) (by rw [e7]; congr 1; omega) a b c
  refine ⟨_, M', u1, u3.mono (by omega), u4, fun _ => ?_⟩
  obtain ⟨z', cnt, b1, b2, b3, b4, b5, b6⟩ := u3.2.1
  have := u5 C (cnt z') hC (b6 z' (Nat.le_refl _)) e0 b4
  have h2' : 2 ≤ C := by
    rw [e0] at h2
    apply Classical.byContradiction
    intro q
    exact nI_ge (a := C) (b := 2) (by omega) (by decide) h2
  exact ⟨cnt z', by omega, b6 z' (Nat.le_refl _), b4⟩
theorem sl2 {a : Nat} (h : a < 2) : fX12_in (nI a).toInt64 0 1 = 1 := in1 (lo := 0) (hi := 1) (by decide) (by decide) ⟨nI_le (a := 0) (Nat.zero_le _) (by omega), nI_le (b := 1) (by omega) (by decide)⟩
theorem a_save (jm : JM n M) (hp : Pos M) {a : Nat} (ha : a < 2) (b c : Int32) : Done n M (rcall M 24 (nI a) b c) := by
  obtain ⟨h1, ⟨z, cnt, a1, a2, a3, a4, a5, a6⟩, h3⟩ := jm
  have ia := mx (n := 2) (rfl : nI a = nI a) ha (by decide)
  have hr : fX12_save M (nI a) = some (M 2 2, va_up (va_up (mRef M 0) 6 (va_cpy (M 2) (M 6) 0 (1272 * a) 1272)) 7 (upd (M 7) a 1)) := by
    unfold fX12_save
    rw [lt_eq, sl2 ha, if_neg n10, ref0, m_bd2, if_pos rfl, fcp_ks ha, m_bd, lt_eq, m_gd ia.1, ia.2, lt_eq, gN2, lt_eq, kN2]
    rfl
  obtain ⟨M', hM'⟩ : ∃ M', M' = norm (va_up (va_up (mRef M 0) 6 (va_cpy (M 2) (M 6) 0 (1272 * a) 1272)) 7 (upd (M 7) a 1)) := ⟨_, rfl⟩
  have n2 : M' 2 = M 2 := by rw [hM', norm_k _ (by decide) (by decide) (by decide)]; rfl
  have n5 : M' 5 = M 5 := by rw [hM', norm_k _ (by decide) (by decide) (by decide)]; rfl
  have n6 : M' 6 = va_cpy (M 2) (M 6) 0 (1272 * a) 1272 := by rw [hM', norm_k _ (by decide) (by decide) (by decide)]; rfl
  have n7 : M' 7 = upd (M 7) a 1 := by rw [hM', norm_k _ (by decide) (by decide) (by decide)]; rfl
  have n07 : M' 0 7 = M 0 7 := by rw [hM', norm_0 _ (by decide)]; rfl
  refine ⟨_, M', by rw [rc_24, hM']; exact rc1_of hr rfl, ⟨?_, ⟨z, cnt, a1, n07.trans a2, fun k hk => ?_, ?_, a5, a6⟩, fun s hs q => ?_⟩, by rw [hM']; exact norm_norm _, fun p => ?_⟩
  · rw [n2]; exact h1.mono (by omega)
  · have : rowD M' k = rowD M k := by unfold rowD; rw [n5]
    rw [this]
    exact ⟨(a3 k hk).1.mono (by omega), (a3 k hk).2⟩
  · rw [n2]; exact a4
  · by_cases e : s = a
    · subst e
      have : rowK M' s = M 2 := by
        unfold rowK
        rw [n6]
        exact row_now h1.t (fun j hj => by rw [cpy_in hj, Nat.zero_add])
      rw [this]
      exact ⟨h1.mono (by omega), hp⟩
    · have : rowK M' s = rowK M s := by
        funext j
        unfold rowK
        by_cases cj : j < 1272
        · rw [cpy0 cj, cpy0 cj, n6, cpy_out (by omega)]
        · rw [cpy1 (by omega), cpy1 (by omega)]
      rw [this]
      have := h3 s hs (by rw [← q, n7, upd_ne e])
      exact ⟨this.1.mono (by omega), this.2⟩
  · obtain ⟨C, c1, c2, c3⟩ := p
    exact ⟨C, c1, c2, by rw [n2]; exact c3⟩
theorem a_restore (jm : JM n M) (hM : norm M = M) {a : Nat} (ha : a < 2) (f : M 7 a = 0 ∨ M 7 a = 1) (b c : Int32) : Done n M (rcall M 25 (nI a) b c) := by
  have ia := mx (n := 2) (rfl : nI a = nI a) ha (by decide)
  rw [rc_25]
  rcases f with f | f
  · refine dn2 jm hM ?_
    unfold fX12_restore
    rw [lt_eq, sl2 ha, if_neg n10, m_gd ia.1, ia.2, lt_eq, f, if_pos rfl, ref2, m_bd2, if_neg n10]
  obtain ⟨h1, -, h3⟩ := jm
  obtain ⟨k1, C, c1, c2, c3⟩ := h3 a ha f
  have hrow : va_cpy (M 6) (M 2) (1272 * a) 0 1272 = rowK M a := row_back h1.t
  have hr : fX12_restore M (nI a) = some (rowK M a 2, va_up (va_up (mRef M 0) 2 (rowK M a)) 0 (upd (mRef M 0 0) 7 0)) := by
    unfold fX12_restore
    rw [lt_eq, sl2 ha, if_neg n10, m_gd ia.1, ia.2, lt_eq, f, if_neg n10, ref0, m_bd2, if_pos rfl, fcp_kr ha, m_bd, lt_eq, lt_eq, gN2, lt_eq, kN2, show mRef M 0 6 = M 6 from rfl, show mRef M 0 2 = M 2 from rfl, hrow]
    rfl
  obtain ⟨M', hM'⟩ : ∃ M', M' = norm (va_up (va_up (mRef M 0) 2 (rowK M a)) 0 (upd (mRef M 0 0) 7 0)) := ⟨_, rfl⟩
  have n2 : M' 2 = rowK M a := by rw [hM', norm_k _ (by decide) (by decide) (by decide)]; rfl
  have n6 : M' 6 = M 6 := by rw [hM', norm_k _ (by decide) (by decide) (by decide)]; rfl
  have n7 : M' 7 = M 7 := by rw [hM', norm_k _ (by decide) (by decide) (by decide)]; rfl
  have n07 : M' 0 7 = nI 0 := by rw [hM', norm_0 _ (by decide), nI_0]; rfl
  refine ⟨_, M', by rw [hM']; exact rc2_of hr rfl, ⟨?_, ⟨0, fun _ => C, by omega, n07, fun k hk => absurd hk (Nat.not_lt_zero k), ?_, fun k hk => absurd hk (Nat.not_lt_zero k), fun k hk => c2⟩, fun s hs q => ?_⟩, by rw [hM']; exact norm_norm _, fun p => ⟨C, c1, c2, by rw [n2]; exact c3⟩⟩
  · rw [n2]; exact k1.mono (by omega)
  · rw [n2]; exact c3
  · have : rowK M' s = rowK M s := by unfold rowK; rw [n6]
    rw [this]
    have := h3 s hs (by rw [← q, n7])
    exact ⟨this.1.mono (by omega), this.2⟩
end PAST
