/-! the calls in pairs: undo, slots -/
section PAIRU
variable {B T : Nat} {V : uV}
theorem cpy_at {f g : Nat → Int32} {a j : Nat} (hj : j < 1272) : va_cpy f g a 0 1272 j = f (a + j) := by
  have h := cpy_in (f := f) (g := g) (a := a) (b := 0) hj
  rwa [Nat.zero_add] at h
theorem q_undo (W : WR B T V) : Pair1 B T V (fX11_undo V) (fX12_undo (V 19)) 2 := by
  have W0 := W
  obtain ⟨R, ⟨o, z, ho, hz, e1, e2, e3, e4⟩, Sl, Tx⟩ := W
  unfold fX11_undo fX12_undo fX4_isEmpty
  simp only [lt_eq]
  rw [e2, e3]
  rcases Nat.eq_zero_or_pos z with z0 | z0
  · subst z0
    rw [if_pos (c := nI 0 = 0) rfl, if_pos (c := nI 0 = 0) rfl, if_neg n10, th_n (dec_f (by decide)), ref1, m_bd2, if_neg n10]
    exact p1_1 W0 rfl rfl
  · have hp : (o + (z - 1)) % 14 < 14 := Nat.mod_lt _ (by decide)
    have hx : inb (nI ((o + (z - 1)) % 14)) 14 = true ∧ (nI ((o + (z - 1)) % 14)).toNatClampNeg = (o + (z - 1)) % 14 := mx rfl hp (by decide)
    have ez : nI z - 1 = nI (z - 1) := by
      have h := nI_pred (z - 1)
      rwa [show z - 1 + 1 = z by omega] at h
    rw [if_neg (nI_ne0 z0 (by omega)), if_neg (nI_ne0 z0 (by omega)), if_pos rfl, th_y (dec_t n10), ref0, m_bd2, if_pos rfl]
    have e07 : mRef (V 19) 0 0 7 = nI z := e3
    rw [e07, ez]
    have e07' : va_up (mRef (V 19) 0) 0 (upd (mRef (V 19) 0 0) 7 (nI (z - 1))) 0 7 = nI (z - 1) := rfl
    rw [e07', fcp_of (show z - 1 < 14 by omega), m_bd]
    have hpop : fX4_pop V = some (nI (z - 1), va_up (va_up V 18 (va_up (V 18) 4 (upd (V 18 4) 2 (nI (z - 1))))) 0 (V (2 + (o + (z - 1)) % 14))) := by
      unfold fX4_pop
      simp only [lt_eq]
      rw [e2, if_neg (nI_nle z0 (by omega)), ez]
      have q1 : va_up V 18 (va_up (V 18) 4 (upd (V 18 4) 2 (nI (z - 1)))) 18 4 1 = nI o := e1
      have q2 : va_up V 18 (va_up (V 18) 4 (upd (V 18 4) 2 (nI (z - 1)))) 18 4 2 = nI (z - 1) := rfl
      rw [q1, q2, nI_add, r14 (by omega), if_neg (c := nI ((o + (z - 1)) % 14) < 0) (nI_pos (by omega)), if_neg (c := 14 ≤ nI ((o + (z - 1)) % 14)) (nI_ge (b := 14) hp (by decide)), m_gd hx.1, hx.2, va_up_n (show (o + (z - 1)) % 14 + 2 ≠ 18 by omega), Nat.add_comm ((o + (z - 1)) % 14) 2]
      rfl
    rw [hpop, m_bd2]
    refine ⟨0, _, _, _, _, rfl, rfl, rfl, Or.inl ⟨rfl, rfl, rfl⟩, ?_, ⟨o, z - 1, ho, by omega, e1, rfl, rfl, fun k hk => ?_⟩, Sl.cg rfl rfl rfl rfl rfl, Tx.cg rfl rfl rfl rfl⟩
    · exact (e4 (z - 1) (by omega)).ext (fun j hj => cpy_at hj)
    · have hq : (o + k) % 14 < 14 := Nat.mod_lt _ (by decide)
      rw [va_up_n (show 2 + (o + k) % 14 ≠ 19 by omega), va_up_n (show 2 + (o + k) % 14 ≠ 0 by omega), va_up_n (show 2 + (o + k) % 14 ≠ 18 by omega)]
      exact e4 k (by omega)
theorem slot_or (a : Int32) : (a = 0 ∧ fX9_has (V 18) a = 1 ∧ fX12_in a.toInt64 0 1 = 1) ∨ (a = 1 ∧ fX9_has (V 18) a = 1 ∧ fX12_in a.toInt64 0 1 = 1) ∨ (fX9_has (V 18) a = 0 ∧ fX12_in a.toInt64 0 1 = 0) := by
  unfold fX9_has
  by_cases c : 0 ≤ a ∧ a ≤ 1
  · obtain ⟨k, hk, rfl⟩ := nI_r (n := 1) (by decide) c
    rw [in1 (lo := 0) (hi := 1) (by decide) (by decide) c]
    rcases (show k = 0 ∨ k = 1 by omega) with rfl | rfl
    · exact Or.inl ⟨rfl, rfl, rfl⟩
    · exact Or.inr (Or.inl ⟨rfl, rfl, rfl⟩)
  · rw [in0 (lo := 0) (hi := 1) (by decide) (by decide) c, if_neg (fun q => c (by rw [q]; decide)), if_neg (fun q => c (by rw [q]; decide))]
    exact Or.inr (Or.inr ⟨rfl, rfl⟩)
theorem q_save (W : WR B T V) (a : Int32) : Pair1 B T V (fX11_save V a) (fX12_save (V 19) a) 3 := by
  have W0 := W
  obtain ⟨R, H, ⟨⟨s1, s2⟩, f0, f1, g0, g1⟩, Tx⟩ := W
  unfold fX11_save fX12_save
  simp only [lt_eq]
  have row : ∀ z, z < 2 → Rel B T (V 0) (fun j => va_cpy (V 19 2) (V 19 6) 0 (1272 * z) 1272 (1272 * z + j)) := fun z hz => by
    refine R.ext (fun j hj => ?_)
    show va_cpy (V 19 2) (V 19 6) 0 (1272 * z) 1272 (1272 * z + j) = _
    rw [cpy_in hj, Nat.zero_add]
  rcases slot_or (V := V) a with ⟨rfl, h1, h2⟩ | ⟨rfl, h1, h2⟩ | ⟨h1, h2⟩
  · have hf : fcp 1272 (mRef (V 19) 0 2) 0 2544 (mRef (V 19) 0 6) (1272 * 0) = some (va_cpy (V 19 2) (V 19 6) 0 (1272 * 0) 1272) := fcp_ks (z := 0) (by omega) (V 19 2) (V 19 6)
    have hs : fX9_store V 0 = some (va_up (va_up V 16 (V 0)) 18 (va_up (V 18) 6 (upd (V 18 6) 2 1))) := by
      unfold fX9_store
      rw [if_pos rfl]
      rfl
    rw [h1, h2, th_y (dec_t n10), if_neg n10, ref0, m_bd2, if_pos rfl, hf, m_bd, hs, m_bd, m_gd (b := inb 0 2) (by decide), kN0, gN2, kN2]
    refine ⟨0, _, _, _, _, rfl, rfl, rfl, Or.inl ⟨rfl, rfl, (R.eN 0 (by decide)).symm⟩, R, H.cg (fun t h1 h2 => ?_) rfl rfl rfl, ⟨⟨rfl, s2⟩, Or.inr rfl, f1, fun _ => ?_, fun q => ?_⟩, Tx.cg rfl rfl rfl rfl⟩
    · rw [va_up_n (by omega), va_up_n (by omega), va_up_n (by omega)]
    · refine (row 0 (by omega)).ext (fun j hj => ?_)
      show va_cpy (V 19 2) (V 19 6) 0 (1272 * 0) 1272 j = va_cpy (V 19 2) (V 19 6) 0 (1272 * 0) 1272 (1272 * 0 + j)
      rw [Nat.mul_zero, Nat.zero_add]
    · refine (g1 q).ext (fun j hj => ?_)
      show va_cpy (V 19 2) (V 19 6) 0 (1272 * 0) 1272 (1272 + j) = V 19 6 (1272 + j)
      rw [cpy_out (by omega)]
  · have hf : fcp 1272 (mRef (V 19) 0 2) 0 2544 (mRef (V 19) 0 6) (1272 * 1) = some (va_cpy (V 19 2) (V 19 6) 0 (1272 * 1) 1272) := fcp_ks (z := 1) (by omega) (V 19 2) (V 19 6)
    have hs : fX9_store V 1 = some (va_up (va_up V 17 (V 0)) 18 (va_up (V 18) 6 (upd (V 18 6) 3 1))) := by
      unfold fX9_store
      rw [if_neg n10]
      rfl
    rw [h1, h2, th_y (dec_t n10), if_neg n10, ref0, m_bd2, if_pos rfl, hf, m_bd, hs, m_bd, m_gd (b := inb 1 2) (by decide), kN1, gN2, kN2]
    refine ⟨0, _, _, _, _, rfl, rfl, rfl, Or.inl ⟨rfl, rfl, (R.eN 0 (by decide)).symm⟩, R, H.cg (fun t h1 h2 => ?_) rfl rfl rfl, ⟨⟨s1, rfl⟩, f0, Or.inr rfl, fun q => ?_, fun _ => ?_⟩, Tx.cg rfl rfl rfl rfl⟩
    · rw [va_up_n (by omega), va_up_n (by omega), va_up_n (by omega)]
    · refine (g0 q).ext (fun j hj => ?_)
      show va_cpy (V 19 2) (V 19 6) 0 (1272 * 1) 1272 j = V 19 6 j
      rw [cpy_out (by omega)]
    · exact row 1 (by omega)
  · rw [h1, h2, th_n (dec_f (by decide)), if_pos rfl, ref1, m_bd2, if_neg n10]
    exact p1_1 W0 rfl rfl
theorem isz01 {x : Int32} (h : x = 0 ∨ x = 1) : isz x = true := by
  rcases h with rfl | rfl <;> decide
theorem q_restore (W : WR B T V) (a : Int32) : Pair2 B T V (fX11_restore V a) (fX12_restore (V 19) a) 3 2 := by
  have W0 := W
  obtain ⟨R, H, ⟨⟨s1, s2⟩, f0, f1, g0, g1⟩, Tx⟩ := W
  unfold fX11_restore fX12_restore fX9_isFilled
  simp only [lt_eq]
  rcases slot_or (V := V) a with ⟨rfl, h1, h2⟩ | ⟨rfl, h1, h2⟩ | ⟨h1, h2⟩
  · have hf : fcp 2544 (mRef (V 19) 0 6) (1272 * 0) 1272 (mRef (V 19) 0 2) 0 = some (va_cpy (V 19 6) (V 19 2) (1272 * 0) 0 1272) := fcp_kr (z := 0) (by omega) (V 19 6) (V 19 2)
    rw [h1, h2, th_y (dec_t n10), if_neg n10, if_pos rfl, m_gd (b := inb 0 2) (by decide), kN0, s1, m_gd (isz01 f0), m_bd]
    rcases f0 with f | f
    · rw [f, th_n (dec_f (by decide)), if_pos rfl, ref2, m_bd2, if_neg n10]
      exact p2_2 W0 rfl rfl
    · rw [f, th_y (dec_t n10), if_neg n10, ref0, m_bd2, if_pos rfl, hf, m_bd, gN2, kN2]
      unfold fX9_fetch fX4_clear
      simp only [lt_eq, if_true]
      rw [m_bd, m_bd]
      refine ⟨0, _, _, _, _, rfl, rfl, rfl, Or.inl ⟨rfl, rfl, ?_⟩, ?_, ⟨0, 0, by omega, by omega, ?_, ?_, ?_, fun k hk => absurd hk (Nat.not_lt_zero k)⟩, ⟨⟨s1, s2⟩, Or.inr f, f1, g0, g1⟩, Tx.cg rfl rfl rfl rfl⟩
      · have e := (g0 f).eN 0 (by decide)
        exact e.symm
      · exact (g0 f).ext (fun j hj => by
          show va_cpy (V 19 6) (V 19 2) (1272 * 0) 0 1272 j = V 19 6 j
          rw [cpy_at hj, Nat.mul_zero, Nat.zero_add])
      · rw [nI_0]; rfl
      · rw [nI_0]; rfl
      · rw [nI_0]; rfl
  · have hf : fcp 2544 (mRef (V 19) 0 6) (1272 * 1) 1272 (mRef (V 19) 0 2) 0 = some (va_cpy (V 19 6) (V 19 2) (1272 * 1) 0 1272) := fcp_kr (z := 1) (by omega) (V 19 6) (V 19 2)
    rw [h1, h2, th_y (dec_t n10), if_neg n10, if_neg n10, m_gd (b := inb 1 2) (by decide), kN1, s2, m_gd (isz01 f1), m_bd]
    rcases f1 with f | f
    · rw [f, th_n (dec_f (by decide)), if_pos rfl, ref2, m_bd2, if_neg n10]
      exact p2_2 W0 rfl rfl
    · rw [f, th_y (dec_t n10), if_neg n10, ref0, m_bd2, if_pos rfl, hf, m_bd, gN2, kN2]
      unfold fX9_fetch fX4_clear
      simp only [lt_eq, m_10, if_false]
      rw [m_bd, m_bd]
      refine ⟨0, _, _, _, _, rfl, rfl, rfl, Or.inl ⟨rfl, rfl, ?_⟩, ?_, ⟨0, 0, by omega, by omega, ?_, ?_, ?_, fun k hk => absurd hk (Nat.not_lt_zero k)⟩, ⟨⟨s1, s2⟩, f0, Or.inr f, g0, g1⟩, Tx.cg rfl rfl rfl rfl⟩
      · have e := (g1 f).eN 0 (by decide)
        exact e.symm
      · exact (g1 f).ext (fun j hj => by
          show va_cpy (V 19 6) (V 19 2) (1272 * 1) 0 1272 j = V 19 6 (1272 + j)
          rw [cpy_at hj])
      · rw [nI_0]; rfl
      · rw [nI_0]; rfl
      · rw [nI_0]; rfl
  · rw [h1, h2, th_n (dec_f (by decide)), if_pos rfl, ref1, m_bd2, if_neg n10]
    exact p2_1 W0 rfl rfl
end PAIRU
