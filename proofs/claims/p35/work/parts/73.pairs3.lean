/-! the calls in pairs: actions -/
section PAIRA
variable {B T : Nat} {V : uV}
theorem w_act (W : WR B T V) : ∃ V1 S1, fX11_remember V = some V1 ∧ V1 0 = V 0 ∧ fX12_remember (mRef (V 19) 0) = some S1 ∧ S1 2 = V 19 2 ∧ ∀ {B' T' : Nat} (S' : Nat → Nat → Int32) (r' : Nat → Int32), B ≤ B' → T ≤ T' → Rel B' T' S' r' → va_up V1 0 S' 19 = V 19 ∧ va_up S1 2 r' 0 0 = 0 ∧ WR B' T' (va_up (va_up V1 0 S') 19 (va_up S1 2 r')) := by
  obtain ⟨V1, h1, h2, h3, h4⟩ := w_rem W
  obtain ⟨S1, k1, k2, k3, k4⟩ := h4 (mRef (V 19) 0) (fun k hk => mRef_k _ _ hk) (fun k hk => upd_ne hk)
  refine ⟨V1, S1, h1, h2, k1, k3, fun S' r' hB hT R' => ⟨(va_up_n (by decide)).trans h3, ?_, ?_⟩⟩
  · rw [va_up_n (by decide), k2, mRef_0]
  · obtain ⟨a, b, c⟩ := k4 (va_up (va_up V1 0 S') 19 (va_up S1 2 r')) (fun t h0 h19 => by rw [va_up_n h19, va_up_n h0]) (fun k hk => by rw [va_up_s, va_up_n hk])
    exact ⟨R', a.mono hB hT, b.mono hB hT, c⟩
theorem q_issue (W : WR B T V) (a : Int32) : Pair2 (B + 1) (T + 150000) V (fX11_issue V a) (fX12_issue (V 19) a) 1 2 := by
  have R := W.1
  have W' := W.mono (show B ≤ B + 1 by omega) (show T ≤ T + 150000 by omega)
  unfold fX11_issue fX12_issue
  simp only [lt_eq]
  by_cases c : 0 ≤ a ∧ a ≤ 99
  · obtain ⟨k, hk, rfl⟩ := nI_r (n := 99) (by decide) c
    rw [th_y (dec_t c), in1 (lo := 0) (hi := 99) (by decide) (by decide) c, if_neg n10, r_canIssue R, m_bd]
    rcases hr01 (V 0) with e | e
    · rw [e, th_n (dec_f (by decide)), if_pos rfl, ref2, m_bd2, if_neg n10]
      exact p2_2 W' rfl rfl
    · obtain ⟨V1, S1, h1, h2, h3, h4, h5⟩ := w_act W
      obtain ⟨c, r', S', hc, k1, k2, k3⟩ := r_issue R (by rw [e]; exact n10) (in99_nI hk)
      rw [e, th_y (dec_t n10), if_neg n10, ref0, m_bd2, if_pos rfl, h1, h3, m_bd, m_bd, h2, h4, k1, k2, m_bd2, m_bd2]
      obtain ⟨u1, u2, u3⟩ := h5 (B' := B + 1) (T' := T + 150000) S' r' (by omega) (by omega) (k3.mono (by omega) (by omega))
      exact ⟨0, _, _, _, _, rfl, u1, rfl, Or.inl ⟨rfl, u2, rfl⟩, u3⟩
  · rw [th_n (dec_f c), in0 (lo := 0) (hi := 99) (by decide) (by decide) c, if_pos rfl, ref1, m_bd2, if_neg n10]
    exact p2_1 W' rfl rfl
theorem q_copy (W : WR B T V) (x : Int32) : Pair2 (B + 1) (T + 150000) V (fX11_copy V x) (fX12_copy (V 19) x) 3 2 := by
  have R := W.1
  have W' := W.mono (show B ≤ B + 1 by omega) (show T ≤ T + 150000 by omega)
  unfold fX11_copy fX12_copy
  simp only [lt_eq]
  rw [t_canCopy R, r_isCard R, m_bd]
  rcases hc01 (V 0) x with e | e
  · rw [e, th_n (dec_f (by decide)), if_pos rfl, ref1, m_bd2, if_neg n10]
    exact p2_1 W' rfl rfl
  · rw [e, th_y (dec_t n10), if_neg n10, if_neg n10, m_bd]
    rcases hf01 (V 0) with f | f
    · obtain ⟨V1, S1, h1, h2, h3, h4, h5⟩ := w_act W
      obtain ⟨c, hc, rfl, hC⟩ := has_c R (x := x) (by rw [e]; exact n10)
      obtain ⟨q, r', S', hq, hq2, k1, k2, k3⟩ := r_copy R hc hC f
      rw [f, if_pos rfl, if_pos rfl, th_y (dec_t n10), if_neg n10, ref0, m_bd2, if_pos rfl, h1, h3, m_bd, m_bd, h2, h4, k1, k2, m_bd2, m_bd2]
      obtain ⟨u1, u2, u3⟩ := h5 (B' := B + 1) (T' := T + 150000) S' r' (by omega) (by omega) (k3.mono (by omega) (by omega))
      exact ⟨0, _, _, _, _, rfl, u1, rfl, Or.inl ⟨rfl, u2, rfl⟩, u3⟩
    · rw [f, if_neg n10, if_neg n10, th_n (dec_f (by decide)), if_pos rfl, ref2, m_bd2, if_neg n10]
      exact p2_2 W' rfl rfl
theorem q_ride (W : WR B T V) (hB : B + 1 < 1024) (hT : T + 150000 < 2 ^ 30) (x y : Int32) : Pair1 (B + 1) (T + 150000) V (fX11_ride V x y) (fX12_ride (V 19) x y) 3 := by
  have R := W.1
  have W' := W.mono (show B ≤ B + 1 by omega) (show T ≤ T + 150000 by omega)
  unfold fX11_ride fX12_ride
  simp only [lt_eq]
  rw [r_isCard R, m_bd, r_isGate (V 0)]
  rcases hc01 (V 0) x with e | e
  · rw [e, if_pos rfl, if_pos rfl, th_n (dec_f (by decide)), ref1, m_bd2, if_neg n10]
    exact p1_1 W' rfl rfl
  · rw [e, if_neg n10, if_neg n10]
    rcases hg01 (V 0) y with f | f
    · rw [f, if_pos rfl, if_pos rfl, th_n (dec_f (by decide)), ref1, m_bd2, if_neg n10]
      exact p1_1 W' rfl rfl
    · rw [f, if_neg n10, if_neg n10, th_y (dec_t n10), ref0, m_bd2, if_pos rfl]
      obtain ⟨V1, S1, h1, h2, h3, h4, h5⟩ := w_act W
      obtain ⟨c, hc, rfl, hC⟩ := has_c R (x := x) (by rw [e]; exact n10)
      obtain ⟨g, hg, rfl⟩ := has_g (S := V 0) (x := y) (by rw [f]; exact n10)
      obtain ⟨z, r', S', k1, k2, k3, -⟩ := r_ride R hB (by omega) hc hC hg
      rw [h1, h3, m_bd, m_bd, h2, h4, k1, k2, m_bd2, m_bd2]
      obtain ⟨u1, u2, u3⟩ := h5 (B' := B + 1) (T' := T + 150000) S' r' (by omega) (by omega) (k3.mono (by omega) (by omega))
      exact ⟨0, _, _, _, _, rfl, u1, rfl, Or.inl ⟨rfl, u2, rfl⟩, u3⟩
theorem i_199 {x : Int32} (c : 1 ≤ x ∧ x ≤ 99) : ∃ k : Nat, 1 ≤ k ∧ k ≤ 99 ∧ x = nI k := by
  have h0 : ¬ x < 0 := fun h => by
    have := Int32.lt_iff_toInt_lt.mp h
    have h1 := Int32.le_iff_toInt_le.mp c.1
    rw [show (1 : Int32).toInt = 1 from by decide] at h1
    rw [show (0 : Int32).toInt = 0 from by decide] at this
    omega
  obtain ⟨k, hk, rfl⟩ := nI_of2 (n := 99) (by decide) h0 c.2
  refine ⟨k, ?_, hk, rfl⟩
  rcases Nat.eq_zero_or_pos k with q | q
  · subst q; exact absurd c.1 (by decide)
  · exact q
theorem q_pay (W : WR B T V) (hT : T + 150000 < 2 ^ 30) (x a : Int32) : Pair2 (B + 1) (T + 150000) V (fX11_pay V x a) (fX12_pay (V 19) x a) 3 1 := by
  have R := W.1
  have W' := W.mono (show B ≤ B + 1 by omega) (show T ≤ T + 150000 by omega)
  unfold fX11_pay fX12_pay
  simp only [lt_eq]
  rw [r_isAcc R, m_bd]
  rcases ha01 (V 0) x with e | e
  · rw [e, th_n (dec_f (by decide)), if_pos rfl, ref1, m_bd2, if_neg n10]
    exact p2_1 W' rfl rfl
  · rw [e, th_y (dec_t n10), if_neg n10]
    by_cases c : 1 ≤ a ∧ a ≤ 99
    · rw [th_y (dec_t c), in1 (lo := 1) (hi := 99) (by decide) (by decide) c, if_neg n10, ref0, m_bd2, if_pos rfl]
      obtain ⟨k, hk, hk2, rfl⟩ := i_199 c
      obtain ⟨V1, S1, h1, h2, h3, h4, h5⟩ := w_act W
      obtain ⟨b, hb, rfl, hA⟩ := has_a R (x := x) (by rw [e]; exact n10)
      obtain ⟨z, r', S', k1, k2, k3⟩ := r_pay R (by omega) hb (in99_nI hk2)
      rw [h1, h3, m_bd, m_bd, h2, h4, k1, k2, m_bd2, m_bd2]
      obtain ⟨u1, u2, u3⟩ := h5 (B' := B + 1) (T' := T + 150000) S' r' (by omega) (by omega) (k3.mono (by omega) (by omega))
      exact ⟨0, _, _, _, _, rfl, u1, rfl, Or.inl ⟨rfl, u2, rfl⟩, u3⟩
    · rw [th_n (dec_f c), in0 (lo := 1) (hi := 99) (by decide) (by decide) c, if_pos rfl, ref2, m_bd2, if_neg n10]
      exact p2_2 W' rfl rfl
theorem q_pardon (W : WR B T V) (x : Int32) : Pair2 (B + 1) (T + 150000) V (fX11_pardon V x) (fX12_pardon (V 19) x) 3 2 := by
  have R := W.1
  have W' := W.mono (show B ≤ B + 1 by omega) (show T ≤ T + 150000 by omega)
  unfold fX11_pardon fX12_pardon fX12_canPardon
  simp only [lt_eq]
  rw [r_isAcc R, m_bd, m_bd]
  rcases ha01 (V 0) x with e | e
  · rw [e, th_n (dec_f (by decide)), if_pos rfl, ref1, m_bd2, if_neg n10]
    exact p2_1 W' rfl rfl
  · rw [e, th_y (dec_t n10), if_neg n10, if_neg n10]
    obtain ⟨b, hb, rfl, hA⟩ := has_a R (x := x) (by rw [e]; exact n10)
    rw [gA2 hb, kA2 hb]
    rcases mark01 R hb with ⟨f1, f2⟩ | ⟨f1, f2⟩
    · rw [f1, f2, if_neg (c := (0 : Int32) = 1) (by decide), m_bd, th_n (dec_f (by decide)), if_pos rfl, ref2, m_bd2, if_neg n10]
      exact p2_2 W' rfl rfl
    · obtain ⟨V1, S1, h1, h2, h3, h4, h5⟩ := w_act W
      rw [f1, f2, if_pos (c := (1 : Int32) = 1) rfl, m_bd, th_y (dec_t n10), if_neg n10, ref0, m_bd2, if_pos rfl, h1, h3, m_bd, m_bd, h2, s_unmark (V 0) hb, m_bd2, gA2 hb, gA0 hb, kA0 hb, h4]
      obtain ⟨u1, u2, u3⟩ := h5 (B' := B + 1) (T' := T + 150000) _ _ (by omega) (by omega) ((R.mMark hb 0 (Or.inl rfl)).mono (by omega) (by omega))
      refine ⟨0, _, _, _, _, rfl, u1, rfl, Or.inl ⟨rfl, u2, ?_⟩, u3⟩
      rw [va_up_s, upd_ne (by omega), (R.acc b hb).1]
theorem q_down (W : WR B T V) (x : Int32) : Pair2 (B + 1) (T + 150000) V (fX11_down V x) (fX12_down (V 19) x) 3 2 := by
  have R := W.1
  have W' := W.mono (show B ≤ B + 1 by omega) (show T ≤ T + 150000 by omega)
  unfold fX11_down fX12_down
  simp only [lt_eq]
  rw [r_isGate (V 0)]
  rcases hg01 (V 0) x with e | e
  · rw [e, th_n (dec_f (by decide)), if_pos rfl, ref1, m_bd2, if_neg n10]
    exact p2_1 W' rfl rfl
  · rw [e, th_y (dec_t n10), if_neg n10]
    obtain ⟨g, hg, rfl⟩ := has_g (S := V 0) (x := x) (by rw [e]; exact n10)
    rw [r_isUp R hg, m_bd]
    rcases up01 R hg with ⟨f, -⟩ | ⟨f, -⟩
    · rw [f, th_n (dec_f (by decide)), if_pos rfl, ref2, m_bd2, if_neg n10]
      exact p2_2 W' rfl rfl
    · obtain ⟨V1, S1, h1, h2, h3, h4, h5⟩ := w_act W
      obtain ⟨z, r', S', k1, k2, k3, -⟩ := r_down R hg
      rw [f, th_y (dec_t n10), if_neg n10, ref0, m_bd2, if_pos rfl, h1, h3, m_bd, m_bd, h2, h4, k1, k2, m_bd2, m_bd2]
      obtain ⟨u1, u2, u3⟩ := h5 (B' := B + 1) (T' := T + 150000) S' r' (by omega) (by omega) (k3.mono (by omega) (by omega))
      exact ⟨0, _, _, _, _, rfl, u1, rfl, Or.inl ⟨rfl, u2, rfl⟩, u3⟩
theorem q_up (W : WR B T V) (hB : B < 1024) (hT : T + 150000 < 2 ^ 30) (x : Int32) : Pair2 (B + 1) (T + 150000) V (fX11_up V x) (fX12_up (V 19) x) 3 2 := by
  have R := W.1
  have W' := W.mono (show B ≤ B + 1 by omega) (show T ≤ T + 150000 by omega)
  unfold fX11_up fX12_up
  simp only [lt_eq]
  rw [r_isGate (V 0)]
  rcases hg01 (V 0) x with e | e
  · rw [e, th_n (dec_f (by decide)), if_pos rfl, ref1, m_bd2, if_neg n10]
    exact p2_1 W' rfl rfl
  · rw [e, th_y (dec_t n10), if_neg n10]
    obtain ⟨g, hg, rfl⟩ := has_g (S := V 0) (x := x) (by rw [e]; exact n10)
    rw [r_isUp R hg, m_bd]
    rcases up01 R hg with ⟨f, -⟩ | ⟨f, -⟩
    · obtain ⟨V1, S1, h1, h2, h3, h4, h5⟩ := w_act W
      obtain ⟨j, r', S', hj, k1, k2, k3, -⟩ := r_up R hB (by omega) hg
      rw [f, if_pos rfl, if_pos rfl, th_y (dec_t n10), ref0, m_bd2, if_pos rfl, h1, h3, m_bd, m_bd, h2, h4, k1, k2, m_bd2, m_bd2]
      obtain ⟨u1, u2, u3⟩ := h5 (B' := B + 1) (T' := T + 150000) S' r' (by omega) (by omega) (k3.mono (by omega) (by omega))
      exact ⟨0, _, _, _, _, rfl, u1, rfl, Or.inl ⟨rfl, u2, rfl⟩, u3⟩
    · rw [f, if_neg n10, if_neg n10, th_n (dec_f (by decide)), ref2, m_bd2, if_neg n10]
      exact p2_2 W' rfl rfl
theorem q_open (W : WR B T V) (x : Int32) : Pair1 (B + 1) (T + 150000) V (fX11_open V x) (fX12_open (V 19) x) 3 := by
  have R := W.1
  have W' := W.mono (show B ≤ B + 1 by omega) (show T ≤ T + 150000 by omega)
  unfold fX11_open fX12_open
  simp only [lt_eq]
  rw [r_isGate (V 0)]
  rcases hg01 (V 0) x with e | e
  · rw [e, th_n (dec_f (by decide)), if_pos rfl, ref1, m_bd2, if_neg n10]
    exact p1_1 W' rfl rfl
  · obtain ⟨g, hg, rfl⟩ := has_g (S := V 0) (x := x) (by rw [e]; exact n10)
    obtain ⟨V1, S1, h1, h2, h3, h4, h5⟩ := w_act W
    obtain ⟨z, r', S', k1, k2, k3, -⟩ := r_open R hg
    rw [e, th_y (dec_t n10), if_neg n10, ref0, m_bd2, if_pos rfl, h1, h3, m_bd, m_bd, h2, h4, k1, k2, m_bd2, m_bd2]
    obtain ⟨u1, u2, u3⟩ := h5 (B' := B + 1) (T' := T + 150000) S' r' (by omega) (by omega) (k3.mono (by omega) (by omega))
    exact ⟨0, _, _, _, _, rfl, u1, rfl, Or.inl ⟨rfl, u2, rfl⟩, u3⟩
theorem q_fare (W : WR B T V) (x a : Int32) : Pair2 (B + 1) (T + 150000) V (fX11_fare V x a) (fX12_fare (V 19) x a) 3 1 := by
  have R := W.1
  have W' := W.mono (show B ≤ B + 1 by omega) (show T ≤ T + 150000 by omega)
  unfold fX11_fare fX12_fare
  simp only [lt_eq]
  rw [r_isGate (V 0)]
  rcases hg01 (V 0) x with e | e
  · rw [e, th_n (dec_f (by decide)), if_pos rfl, ref1, m_bd2, if_neg n10]
    exact p2_1 W' rfl rfl
  · rw [e, th_y (dec_t n10), if_neg n10]
    obtain ⟨g, hg, rfl⟩ := has_g (S := V 0) (x := x) (by rw [e]; exact n10)
    by_cases c : 1 ≤ a ∧ a ≤ 9
    · obtain ⟨V1, S1, h1, h2, h3, h4, h5⟩ := w_act W
      have hv : in99 a := by
        have c1 := Int32.le_iff_toInt_le.mp c.1
        have c2 := Int32.le_iff_toInt_le.mp c.2
        rw [show (1 : Int32).toInt = 1 from by decide] at c1
        rw [show (9 : Int32).toInt = 9 from by decide] at c2
        exact ⟨by omega, by omega⟩
      rw [th_y (dec_t c), in1 (lo := 1) (hi := 9) (by decide) (by decide) c, if_neg n10, ref0, m_bd2, if_pos rfl, h1, h3, m_bd, m_bd, h2, m_fput _ _ hg (by decide), m_fget _ hg (by decide), gG0 hg, kG0 hg, gG0 hg, h4]
      obtain ⟨u1, u2, u3⟩ := h5 (B' := B + 1) (T' := T + 150000) _ _ (by omega) (by omega) ((R.mFare hg a hv).mono (by omega) (by omega))
      exact ⟨0, _, _, _, _, rfl, u1, rfl, Or.inl ⟨rfl, u2, ((R.gate g hg).1).symm⟩, u3⟩
    · rw [th_n (dec_f c), in0 (lo := 1) (hi := 9) (by decide) (by decide) c, if_pos rfl, ref2, m_bd2, if_neg n10]
      exact p2_2 W' rfl rfl
theorem q_run (W : WR B T V) (hT : T + 150000 < 2 ^ 30) (a : Int32) : Pair1 (B + 1) (T + 150000) V (fX11_run V a) (fX12_run (V 19) a) 1 := by
  have R := W.1
  have W' := W.mono (show B ≤ B + 1 by omega) (show T ≤ T + 150000 by omega)
  unfold fX11_run fX12_run
  simp only [lt_eq]
  by_cases c : 1 ≤ a ∧ a ≤ 60
  · obtain ⟨V1, S1, h1, h2, h3, h4, h5⟩ := w_act W
    obtain ⟨k, hk, hk2, rfl⟩ := i_199 (x := a) ⟨c.1, Int32.le_trans c.2 (by decide)⟩
    have h60 : k ≤ 60 := by
      rcases Nat.lt_or_ge 60 k with q | q
      · exact absurd c.2 (nI_ge (a := 60) q (by omega))
      · exact q
    obtain ⟨z, r', k1, k2, k3, k4, k5, k6, k7⟩ := r_run R (by omega) h60
    rw [th_y (dec_t c), in1 (lo := 1) (hi := 60) (by decide) (by decide) c, if_neg n10, ref0, m_bd2, if_pos rfl, h1, h3, m_bd, m_bd, h2, h4, k1, m_bd2, k4]
    obtain ⟨u1, u2, u3⟩ := h5 (B' := B + 1) (T' := T + 150000) _ r' (by omega) (by omega) (k6.mono (by omega) (by omega))
    exact ⟨0, _, _, _, _, rfl, u1, rfl, Or.inl ⟨rfl, u2, rfl⟩, u3⟩
  · rw [th_n (dec_f c), in0 (lo := 1) (hi := 60) (by decide) (by decide) c, if_pos rfl, ref1, m_bd2, if_neg n10]
    exact p1_1 W' rfl rfl
theorem q_set (W : WR B T V) (x a : Int32) : Pair1 (B + 1) (T + 150000) V (fX11_set V x a) (fX12_set (V 19) x a) 1 := by
  have R := W.1
  have W' := W.mono (show B ≤ B + 1 by omega) (show T ≤ T + 150000 by omega)
  have key : (0 ≤ x ∧ x ≤ 3) ∧ (0 ≤ a ∧ a ≤ fX10_mostOfSetting x) ∧ fX12_isSetting x a = 1 ∨ ¬ (0 ≤ x ∧ x ≤ 3) ∧ fX12_isSetting x a = 0 ∨ (0 ≤ x ∧ x ≤ 3) ∧ ¬ (0 ≤ a ∧ a ≤ fX10_mostOfSetting x) ∧ fX12_isSetting x a = 0 := by
    unfold fX12_isSetting
    simp only [lt_eq]
    by_cases c : 0 ≤ x ∧ x ≤ 3
    · rw [in1 (lo := 0) (hi := 3) (by decide) (by decide) c, if_neg n10]
      obtain ⟨k, hk, rfl⟩ := nI_r (n := 3) (by decide) c
      rcases (show k = 0 ∨ k = 1 ∨ k = 2 ∨ k = 3 by omega) with rfl | rfl | rfl | rfl
      · rw [if_pos (c := nI 0 = 0) rfl, show fX10_mostOfSetting (nI 0) = 50 from rfl]
        by_cases d : 0 ≤ a ∧ a ≤ 50
        · rw [in1 (lo := 0) (hi := 50) (by decide) (by decide) d, if_neg n10]
          exact Or.inl ⟨c, d, rfl⟩
        · rw [in0 (lo := 0) (hi := 50) (by decide) (by decide) d, if_pos rfl]
          exact Or.inr (Or.inr ⟨c, d, rfl⟩)
      · rw [if_neg (c := nI 1 = 0) (by decide), if_pos (c := nI 1 = 1) rfl, show fX10_mostOfSetting (nI 1) = 30 from rfl]
        by_cases d : 0 ≤ a ∧ a ≤ 30
        · rw [in1 (lo := 0) (hi := 30) (by decide) (by decide) d, if_neg n10]
          exact Or.inl ⟨c, d, rfl⟩
        · rw [in0 (lo := 0) (hi := 30) (by decide) (by decide) d, if_pos rfl]
          exact Or.inr (Or.inr ⟨c, d, rfl⟩)
      · rw [if_neg (c := nI 2 = 0) (by decide), if_neg (c := nI 2 = 1) (by decide), if_pos (c := nI 2 = 2) rfl, show fX10_mostOfSetting (nI 2) = 1 from rfl]
        by_cases d : 0 ≤ a ∧ a ≤ 1
        · rw [in1 (lo := 0) (hi := 1) (by decide) (by decide) d, if_neg n10]
          exact Or.inl ⟨c, d, rfl⟩
        · rw [in0 (lo := 0) (hi := 1) (by decide) (by decide) d, if_pos rfl]
          exact Or.inr (Or.inr ⟨c, d, rfl⟩)
      · rw [if_neg (c := nI 3 = 0) (by decide), if_neg (c := nI 3 = 1) (by decide), if_neg (c := nI 3 = 2) (by decide), show fX10_mostOfSetting (nI 3) = 99 from rfl]
        by_cases d : 0 ≤ a ∧ a ≤ 99
        · rw [in1 (lo := 0) (hi := 99) (by decide) (by decide) d, if_neg n10]
          exact Or.inl ⟨c, d, rfl⟩
        · rw [in0 (lo := 0) (hi := 99) (by decide) (by decide) d, if_pos rfl]
          exact Or.inr (Or.inr ⟨c, d, rfl⟩)
    · rw [in0 (lo := 0) (hi := 3) (by decide) (by decide) c, if_pos rfl]
      exact Or.inr (Or.inl ⟨c, rfl⟩)
  unfold fX11_set fX12_set
  simp only [lt_eq]
  rcases key with ⟨c, d, f⟩ | ⟨c, f⟩ | ⟨c, d, f⟩
  · rw [th_y (dec_t c), th_y (dec_t d), f, if_neg n10, ref0, m_bd2, if_pos rfl]
    obtain ⟨k, hk, rfl⟩ := nI_r (n := 3) (by decide) c
    obtain ⟨V1, S1, h1, h2, h3, h4, h5⟩ := w_act W
    have hx : inb (8 + nI k) 1272 = true ∧ (8 + nI k).toNatClampNeg = 8 + k := mx (nI_add 8 k) (by omega) (by decide)
    have q1 : k = 1 → ∃ p, p ≤ 30 ∧ a = nI p := fun e => by
      subst e
      exact nI_r (hi := 30) (n := 30) (by decide) d
    have q2 : k = 2 → a = 0 ∨ a = 1 := fun e => by
      subst e
      obtain ⟨j, hj, rfl⟩ := nI_r (hi := 1) (n := 1) (by decide) d
      rcases (show j = 0 ∨ j = 1 by omega) with rfl | rfl
      · exact Or.inl rfl
      · exact Or.inr rfl
    have q3 : k = 3 → in99 a := fun e => by
      subst e
      obtain ⟨j, hj, rfl⟩ := nI_r (hi := 99) (n := 99) (by decide) d
      exact in99_nI hj
    rw [h1, h3, m_bd, m_bd, h2, m_fget _ (show k < 4 by omega) (by decide), m_fput _ _ (show k < 4 by omega) (by decide), m_gd hx.1, hx.2, h4]
    obtain ⟨u1, u2, u3⟩ := h5 (B' := B + 1) (T' := T + 150000) _ _ (by omega) (by omega) ((R.mSetg (show k < 4 by omega) a q1 q2 q3).mono (by omega) (by omega))
    exact ⟨0, _, _, _, _, rfl, u1, rfl, Or.inl ⟨rfl, u2, (R.eS k (by omega)).symm⟩, u3⟩
  · rw [th_n (dec_f c), f, if_pos rfl, ref1, m_bd2, if_neg n10]
    exact p1_1 W' rfl rfl
  · rw [th_y (dec_t c), th_n (dec_f d), f, if_pos rfl, ref1, m_bd2, if_neg n10]
    exact p1_1 W' rfl rfl
end PAIRA
