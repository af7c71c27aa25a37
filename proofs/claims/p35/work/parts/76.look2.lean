/-! the calls in pairs: what a line that comes up would bring; the worst; what is owed -/
section LOOK2
variable {B T : Nat} {V : uV}
theorem r_brings {M : Nat → Nat → Int32} (R : Rel B T (V 0) (M 2)) (hB : B < 1024) (hT : T + 1188 < 2 ^ 30) {g j : Nat} (hg : g < 4) (hj : j ≤ 3) : ∃ y V' M', fX11_numberIfUp V (nI g) (nI j) = some (y, V') ∧ fX12_brings M (nI g) (nI j) = some (y, M') ∧ KeepV V V' ∧ ∀ k, k ≠ 4 → M' k = M k := by
  have RC := r_cpy (f := M 4) R
  have key : ∃ z S' r', fX10_tryUp (V 0) (nI g) = some (z, S') ∧ Rel B (T + 1188) S' r' ∧ ((fX3_isUp (V 0) (nI g) = 0 ∧ ∃ i, fX12_upOn (va_cpy (M 2) (M 4) 0 0 1272) (nI g) = some (i, r')) ∨ (fX3_isUp (V 0) (nI g) = 1 ∧ r' = va_cpy (M 2) (M 4) 0 0 1272)) := by
    unfold fX10_tryUp
    rw [lt_eq, lt_eq, hasG (V 0) hg, if_neg n10]
    rcases up01 R hg with ⟨u, -⟩ | ⟨u, -⟩
    · obtain ⟨i, r', S', hi, w1, w2, R', -⟩ := r_up RC hB hT hg
      exact ⟨1, S', r', by rw [u, if_pos rfl, w2, m_bd2], R', Or.inl ⟨u, _, w1⟩⟩
    · exact ⟨0, V 0, _, by rw [u, if_neg n10], RC.mono (Nat.le_refl _) (by omega), Or.inr ⟨u, rfl⟩⟩
  obtain ⟨z, S', r', h1, R', h2⟩ := key
  obtain ⟨v, s1, s2, -⟩ := r_set2 R'
  have f3 : S' 0 5 = r' 3 := R'.eN 1 (by decide)
  have f5 : S' 0 7 = r' 5 := R'.eN 3 (by decide)
  have f4 : S' 0 6 = r' 4 := R'.eN 2 (by decide)
  have g3 : V 0 0 5 = M 2 3 := R.eN 1 (by decide)
  have g5 : V 0 0 7 = M 2 5 := R.eN 3 (by decide)
  have g4 : V 0 0 6 = M 2 4 := R.eN 2 (by decide)
  have hc : ∃ V', KeepV V V' ∧ (j = 0 → fX11_numberIfUp V (nI g) (nI j) = some (r' 3 - M 2 3, V')) ∧ (j = 1 → fX11_numberIfUp V (nI g) (nI j) = some (r' 5 - M 2 5, V')) ∧ (j = 2 → fX11_numberIfUp V (nI g) (nI j) = some (v, V')) ∧ (j = 3 → fX11_numberIfUp V (nI g) (nI j) = some (r' 4 - M 2 4, V')) := by
    refine ⟨va_up (va_up V 1 (V 0)) 1 S', fun t h => by rw [va_up_n h, va_up_n h], ?_⟩
    have e0 : fX11_numberIfUp V (nI g) (nI j) = if nI j = 0 then some (r' 3 - M 2 3, va_up (va_up V 1 (V 0)) 1 S') else if nI j = 1 then some (r' 5 - M 2 5, va_up (va_up V 1 (V 0)) 1 S') else if nI j = 2 then some (v, va_up (va_up V 1 (V 0)) 1 S') else some (r' 4 - M 2 4, va_up (va_up V 1 (V 0)) 1 S') := by
      unfold fX11_numberIfUp
      rw [lt_eq, va_up_s, h1, m_bd2]
      simp only [lt_eq]
      have p1 : va_up (va_up V 1 (V 0)) 1 S' 1 = S' := va_up_s _ _ _
      have p0 : va_up (va_up V 1 (V 0)) 1 S' 0 = V 0 := rfl
      rw [p1, p0, f3, f5, f4, g3, g5, g4, s1, m_bd]
    refine ⟨fun q => ?_, fun q => ?_, fun q => ?_, fun q => ?_⟩
    · subst q; rw [e0, if_pos (c := nI 0 = 0) rfl]
    · subst q; rw [e0, if_neg (c := nI 1 = 0) (by decide), if_pos (c := nI 1 = 1) rfl]
    · subst q; rw [e0, if_neg (c := nI 2 = 0) (by decide), if_neg (c := nI 2 = 1) (by decide), if_pos (c := nI 2 = 2) rfl]
    · subst q; rw [e0, if_neg (c := nI 3 = 0) (by decide), if_neg (c := nI 3 = 1) (by decide), if_neg (c := nI 3 = 2) (by decide)]
  have hm : ∃ M', (∀ k, k ≠ 4 → M' k = M k) ∧ (j = 0 → fX12_brings M (nI g) (nI j) = some (r' 3 - M 2 3, M')) ∧ (j = 1 → fX12_brings M (nI g) (nI j) = some (r' 5 - M 2 5, M')) ∧ (j = 2 → fX12_brings M (nI g) (nI j) = some (v, M')) ∧ (j = 3 → fX12_brings M (nI g) (nI j) = some (r' 4 - M 2 4, M')) := by
    have e0 : ∃ M', (∀ k, k ≠ 4 → M' k = M k) ∧ fX12_brings M (nI g) (nI j) = if nI j = 0 then some (r' 3 - M 2 3, M') else if nI j = 1 then some (r' 5 - M 2 5, M') else if nI j = 2 then some (v, M') else some (r' 4 - M 2 4, M') := by
      have hU : fX12_isUp (va_cpy (M 2) (M 4) 0 0 1272) (nI g) = some (fX3_isUp (V 0) (nI g)) := r_isUp RC hg
      rcases h2 with ⟨u, i, w⟩ | ⟨u, w⟩
      · refine ⟨va_up (va_up M 4 (va_cpy (M 2) (M 4) 0 0 1272)) 4 r', fun k h => by rw [va_up_n h, va_up_n h], ?_⟩
        unfold fX12_brings
        rw [fcp00, m_bd, lt_eq, va_up_s, hU, m_bd, u, if_pos rfl, w, m_bd2, lt_eq]
        simp only [lt_eq]
        have p4 : va_up (va_up M 4 (va_cpy (M 2) (M 4) 0 0 1272)) 4 r' 4 = r' := va_up_s _ _ _
        have p2 : va_up (va_up M 4 (va_cpy (M 2) (M 4) 0 0 1272)) 4 r' 2 = M 2 := rfl
        rw [p4, p2, gN3, kN3, gN5, kN5, gN4, kN4, s2, m_bd]
      · refine ⟨va_up M 4 (va_cpy (M 2) (M 4) 0 0 1272), fun k h => va_up_n h, ?_⟩
        unfold fX12_brings
        rw [fcp00, m_bd, lt_eq, va_up_s, hU, m_bd, u, if_neg n10]
        simp only [lt_eq]
        have p4 : va_up M 4 (va_cpy (M 2) (M 4) 0 0 1272) 4 = r' := (va_up_s _ _ _).trans w.symm
        have p2 : va_up M 4 (va_cpy (M 2) (M 4) 0 0 1272) 2 = M 2 := rfl
        rw [p2, ← w, gN3, kN3, gN5, kN5, gN4, kN4, s2, m_bd]
    obtain ⟨M', k, e0⟩ := e0
    refine ⟨M', k, fun q => ?_, fun q => ?_, fun q => ?_, fun q => ?_⟩
    · subst q; rw [e0, if_pos (c := nI 0 = 0) rfl]
    · subst q; rw [e0, if_neg (c := nI 1 = 0) (by decide), if_pos (c := nI 1 = 1) rfl]
    · subst q; rw [e0, if_neg (c := nI 2 = 0) (by decide), if_neg (c := nI 2 = 1) (by decide), if_pos (c := nI 2 = 2) rfl]
    · subst q; rw [e0, if_neg (c := nI 3 = 0) (by decide), if_neg (c := nI 3 = 1) (by decide), if_neg (c := nI 3 = 2) (by decide)]
  obtain ⟨V', kv, c0, c1, c2, c3⟩ := hc
  obtain ⟨M', km, m0, m1, m2, m3⟩ := hm
  rcases (show j = 0 ∨ j = 1 ∨ j = 2 ∨ j = 3 by omega) with q | q | q | q
  · exact ⟨_, V', M', c0 q, m0 q, kv, km⟩
  · exact ⟨_, V', M', c1 q, m1 q, kv, km⟩
  · exact ⟨_, V', M', c2 q, m2 q, kv, km⟩
  · exact ⟨_, V', M', c3 q, m3 q, kv, km⟩
theorem q_ifUp (W : WR B T V) (hB : B < 1024) (hT : T + 1188 < 2 ^ 30) (x a : Int32) : Pair2 B T V (fX11_ifUp V x a) (fX12_ifUp (V 19) x a) 3 1 := by
  have R := W.1
  unfold fX11_ifUp fX12_ifUp
  simp only [lt_eq]
  rw [r_isGate (V 0)]
  rcases hg01 (V 0) x with e | e
  · rw [e, th_n (dec_f (by decide)), if_pos rfl, ref1, m_bd2, if_neg n10]
    exact p2_1 W rfl rfl
  · rw [e, th_y (dec_t n10), if_neg n10]
    obtain ⟨g, hg, rfl⟩ := has_g (S := V 0) (x := x) (by rw [e]; exact n10)
    by_cases q : 0 ≤ a ∧ a ≤ 3
    · rw [th_y (dec_t q), in1 (lo := 0) (hi := 3) (by decide) (by decide) q, if_neg n10, ref0, m_bd2, if_pos rfl]
      obtain ⟨j, hj, rfl⟩ := nI_r (n := 3) (by decide) q
      obtain ⟨y, V', M', u1, u2, u3, u4⟩ := r_brings (V := V) (M := mRef (V 19) 0) R hB hT hg hj
      rw [u1, u2, m_bd2, m_bd2]
      obtain ⟨v1, v2, v3⟩ := look4 W u3 u4
      exact ⟨0, y, V', y, M', rfl, v1, rfl, Or.inl ⟨rfl, v2, rfl⟩, v3⟩
    · rw [th_n (dec_f q), in0 (lo := 0) (hi := 3) (by decide) (by decide) q, if_pos rfl, ref2, m_bd2, if_neg n10]
      exact p2_2 W rfl rfl
theorem best_L (hB : B < 1024) (hT : T + 1188 < 2 ^ 30) : ∀ (m g n n' : Nat) (V : uV) (M : Nat → Nat → Int32) (y1 y2 : Int32), g + m = 4 → m < n → m < n' → Rel B T (V 0) (M 2) → ∃ y V' M', fX11_bestUp_L6 n V y1 y2 (nI g) = some (y, V') ∧ fX12_bestUp_L11 n' M y1 y2 (nI g) = some (y, M') ∧ KeepV V V' ∧ ∀ k, k ≠ 4 → M' k = M k := by
  intro m
  induction m with
  | zero =>
    intro g n n' V M y1 y2 hg hn hn' R
    obtain ⟨n, rfl⟩ : ∃ m, n = m + 1 := ⟨n - 1, by omega⟩
    obtain ⟨n', rfl⟩ : ∃ m, n' = m + 1 := ⟨n' - 1, by omega⟩
    have h4 : g = 4 := by omega
    subst h4
    rw [fX11_bestUp_L6, fX12_bestUp_L11, if_pos (c := 4 ≤ nI 4) (by decide), if_pos (c := 4 ≤ nI 4) (by decide)]
    exact ⟨y1, V, M, rfl, rfl, fun _ _ => rfl, fun _ _ => rfl⟩
  | succ m ih =>
    intro g n n' V M y1 y2 hg hn hn' R
    obtain ⟨n, rfl⟩ : ∃ m, n = m + 1 := ⟨n - 1, by omega⟩
    obtain ⟨n', rfl⟩ : ∃ m, n' = m + 1 := ⟨n' - 1, by omega⟩
    have hg4 : g < 4 := by omega
    obtain ⟨y, V1, M1, u1, u2, u3, u4⟩ := r_brings R hB hT hg4 (show 3 ≤ 3 by omega)
    have e2 : M1 2 = M 2 := u4 2 (by decide)
    rw [fX11_bestUp_L6, fX12_bestUp_L11, if_neg (c := 4 ≤ nI g) (nI_ge (b := 4) hg4 (by decide)), if_neg (c := 4 ≤ nI g) (nI_ge (b := 4) hg4 (by decide))]
    simp only [lt_eq]
    have u1' : fX11_numberIfUp V (nI g) 3 = some (y, V1) := u1
    have u2' : fX12_brings M (nI g) 3 = some (y, M1) := u2
    rw [u1', u2', m_bd2, m_bd2, e2, r_isUp R hg4, m_bd, nI_1]
    rcases up01 R hg4 with ⟨u, -⟩ | ⟨u, -⟩
    · rw [u, if_pos rfl, if_pos rfl]
      by_cases c : y ≤ y2
      · rw [if_pos c, if_pos c]
        obtain ⟨w, V', M', a1, a2, a3, a4⟩ := ih (g + 1) n n' V1 M1 y1 y2 (by omega) (by omega) (by omega) (by rw [u3 0 (by decide), e2]; exact R)
        exact ⟨w, V', M', a1, a2, fun t h => (a3 t h).trans (u3 t h), fun k h => (a4 k h).trans (u4 k h)⟩
      · rw [if_neg c, if_neg c]
        obtain ⟨w, V', M', a1, a2, a3, a4⟩ := ih (g + 1) n n' V1 M1 (nI g) y (by omega) (by omega) (by omega) (by rw [u3 0 (by decide), e2]; exact R)
        exact ⟨w, V', M', a1, a2, fun t h => (a3 t h).trans (u3 t h), fun k h => (a4 k h).trans (u4 k h)⟩
    · rw [u, if_neg n10, if_neg n10]
      obtain ⟨w, V', M', a1, a2, a3, a4⟩ := ih (g + 1) n n' V M1 y1 y2 (by omega) (by omega) (by omega) (by rw [e2]; exact R)
      exact ⟨w, V', M', a1, a2, a3, fun k h => (a4 k h).trans (u4 k h)⟩
theorem q_bestUp (W : WR B T V) (hB : B < 1024) (hT : T + 1188 < 2 ^ 30) : Pair0 B T V (fX11_bestUp V) (fX12_bestUp (V 19)) := by
  obtain ⟨y, V', M', u1, u2, u3, u4⟩ := best_L hB hT 4 0 3000 3000 V (mRef (V 19) 0) (-1) (-1) (by omega) (by omega) (by omega) W.1
  rw [nI_0] at u1 u2
  obtain ⟨v1, v2, v3⟩ := look4 W u3 u4
  refine ⟨y, V', M', u1, v1, ?_, v3⟩
  unfold fX12_bestUp
  rw [lt_eq]
  exact u2
theorem worst_L {A : Nat} {M : Nat → Nat → Int32} (R : Rel B T (V 0) (M 2)) (hA : A ≤ 8) (eA : M 2 1 = nI A) : ∀ (m a n n' : Nat) (y1 y2 : Int32), a + m = A → m < n → m < n' → (y1 = -1 ∨ ¬ y1 = -1 ∧ fX12_standing (M 2) y1 = some y2) → ∃ y, fX11_worst_L6 n V y1 y2 (nI a) = some (y, V) ∧ fX12_worst_L9 n' M y1 (nI a) = some (y, M) := by
  have e10 : V 0 10 0 = nI A := R.eA.trans eA
  intro m
  induction m with
  | zero =>
    intro a n n' y1 y2 ha hn hn' hy
    obtain ⟨n, rfl⟩ : ∃ m, n = m + 1 := ⟨n - 1, by omega⟩
    obtain ⟨n', rfl⟩ : ∃ m, n' = m + 1 := ⟨n' - 1, by omega⟩
    have h4 : a = A := by omega
    subst h4
    rw [fX11_worst_L6, fX12_worst_L9]
    simp only [lt_eq]
    rw [e10, gN1, kN1, eA, if_pos (nI_le (Nat.le_refl a) (by omega)), if_pos (nI_le (Nat.le_refl a) (by omega))]
    exact ⟨y1, rfl, rfl⟩
  | succ m ih =>
    intro a n n' y1 y2 ha hn hn' hy
    obtain ⟨n, rfl⟩ : ∃ m, n = m + 1 := ⟨n - 1, by omega⟩
    obtain ⟨n', rfl⟩ : ∃ m, n' = m + 1 := ⟨n' - 1, by omega⟩
    have ha8 : a < 8 := by omega
    obtain ⟨w, s1, s2⟩ := r_standing R ha8
    rw [fX11_worst_L6, fX12_worst_L9]
    simp only [lt_eq]
    rw [e10, gN1, kN1, eA, if_neg (nI_ge (show a < A by omega) (by omega)), if_neg (nI_ge (show a < A by omega) (by omega)), m_fget _ ha8 (by decide), (R.acc a ha8).1, s1, m_bd, s2, m_bd, nI_1]
    rcases hy with hy | ⟨hy, hs⟩
    · rw [if_pos hy, if_pos hy]
      exact ih (a + 1) n n' (nI a) _ (by omega) (by omega) (by omega) (Or.inr ⟨nm1 a (by omega), s2⟩)
    · rw [if_neg hy, if_neg hy, hs, m_bd]
      by_cases c : y2 ≤ M 2 (52 + 4 * a) - w
      · rw [if_pos c, if_pos c]
        exact ih (a + 1) n n' y1 y2 (by omega) (by omega) (by omega) (Or.inr ⟨hy, hs⟩)
      · rw [if_neg c, if_neg c]
        exact ih (a + 1) n n' (nI a) _ (by omega) (by omega) (by omega) (Or.inr ⟨nm1 a (by omega), s2⟩)
theorem q_worst (W : WR B T V) : Pair0 B T V (fX11_worst V) (fX12_worst (V 19)) := by
  obtain ⟨A, hA, eA⟩ := W.1.cA
  obtain ⟨y, u1, u2⟩ := worst_L (V := V) (M := mRef (V 19) 0) W.1 hA eA A 0 3000 3000 (-1) 0 (by omega) (by omega) (by omega) (Or.inl rfl)
  rw [nI_0] at u1 u2
  refine ⟨y, V, mRef (V 19) 0, u1, rfl, ?_, w_ref W 0⟩
  unfold fX12_worst
  rw [lt_eq]
  exact u2
set_option maxRecDepth 20000 in
theorem owes_L (hB : B < 1024) {a : Nat} (ha : a < 8) : ∀ (m g n n' T : Nat) (V : uV) (M : Nat → Nat → Int32), g + m = 4 → m < n → m < n' → T + 1188 * m < 2 ^ 29 → Rel B T (V 1) (M 3) → ∃ y V' M', fX11_owes_L27 n V (nI a) (nI g) = some (0, y, V') ∧ fX12_owes_L40 n' M (nI a) (nI g) = some (y, M') ∧ KeepV V V' ∧ Keep3 M M' := by
  intro m
  induction m with
  | zero =>
    intro g n n' T V M hg hn hn' hT R
    obtain ⟨n, rfl⟩ : ∃ m, n = m + 1 := ⟨n - 1, by omega⟩
    obtain ⟨n', rfl⟩ : ∃ m, n' = m + 1 := ⟨n' - 1, by omega⟩
    have h4 : g = 4 := by omega
    subst h4
    rw [fX11_owes_L27, fX12_owes_L40, if_pos (c := 4 ≤ nI 4) (by decide), if_pos (c := 4 ≤ nI 4) (by decide)]
    simp only [lt_eq]
    rw [gA0 ha, kA0 ha, m_fget _ ha (by decide), (R.acc a ha).1]
    have hb := R.mbal a ha
    generalize M 3 (52 + 4 * a) = b at hb ⊢
    have e0 : (0 : Int32).toInt = 0 := by decide
    have en : (-b).toInt = -b.toInt := by
      rw [← Int32.zero_sub, my_sub (by rw [e0]; have := hb.1; have := hb.2; omega) (by rw [e0]; have := hb.1; have := hb.2; omega), e0]
      omega
    by_cases c : 0 ≤ b
    · rw [if_pos c, if_neg (fun h => by
        have h1 := Int32.lt_iff_toInt_lt.mp h
        have h2 := Int32.le_iff_toInt_le.mp c
        omega)]
      exact ⟨0, V, M, rfl, rfl, fun _ _ => rfl, fun _ _ => rfl⟩
    · rw [if_neg c, if_pos (Int32.lt_iff_toInt_lt.mpr (by
        have h2 : ¬ (0 : Int32).toInt ≤ b.toInt := fun h => c (Int32.le_iff_toInt_le.mpr h)
        rw [e0] at h2 ⊢
        omega))]
      exact ⟨-b, V, M, rfl, rfl, fun _ _ => rfl, fun _ _ => rfl⟩
  | succ m ih =>
    intro g n n' T V M hg hn hn' hT R
    obtain ⟨n, rfl⟩ : ∃ m, n = m + 1 := ⟨n - 1, by omega⟩
    obtain ⟨n', rfl⟩ : ∃ m, n' = m + 1 := ⟨n' - 1, by omega⟩
    have hg4 : g < 4 := by omega
    obtain ⟨z, r', S', h1, h2, R', -⟩ := r_tryUp R hB (by omega) hg4
    rw [fX11_owes_L27, fX12_owes_L40, if_neg (c := 4 ≤ nI g) (nI_ge (b := 4) hg4 (by decide)), if_neg (c := 4 ≤ nI g) (nI_ge (b := 4) hg4 (by decide)), h1, h2, m_bd2, m_bd2]
    simp only [lt_eq]
    rw [nI_1]
    obtain ⟨y, V', M', a1, a2, a3, a4⟩ := ih (g + 1) n n' (T + 1188) (va_up V 1 S') (va_up M 3 r') (by omega) (by omega) (by omega) (by omega) (by rw [va_up_s, va_up_s]; exact R')
    exact ⟨y, V', M', a1, a2, fun t h => by rw [a3 t h, va_up_n h], fun k h => by rw [a4 k h, va_up_n h]⟩
theorem q_owes (W : WR B T V) (hB : B < 1024) (hT : T + 150000 < 2 ^ 29) (x : Int32) : Pair1 B T V (fX11_owes V x) (fX12_owes (V 19) x) 3 := by
  have R := W.1
  unfold fX11_owes fX12_owes
  simp only [lt_eq]
  rw [r_isAcc R, m_bd]
  rcases ha01 (V 0) x with e | e
  · rw [e, th_n (dec_f (by decide)), if_pos rfl, ref1, m_bd2, if_neg n10]
    exact p1_1 W rfl rfl
  · rw [e, th_y (dec_t n10), if_neg n10, ref0, m_bd2, if_pos rfl, fcp00, m_bd]
    obtain ⟨a, ha, rfl, hA⟩ := has_a R (x := x) (by rw [e]; exact n10)
    obtain ⟨z, V', M', u1, u2, u3, u4⟩ := owes_L hB ha 4 0 3000 3000 T (va_up V 1 (V 0)) (va_up (mRef (V 19) 0) 3 (va_cpy (mRef (V 19) 0 2) (mRef (V 19) 0 3) 0 0 1272)) (by omega) (by omega) (by omega) (by omega) (by rw [va_up_s, va_up_s, mRef_2]; exact r_cpy R)
    rw [nI_0] at u1 u2
    rw [u1, u2]
    obtain ⟨v1, v2, v3⟩ := look3 W (V' := V') (M' := M') (fun t h => by rw [u3 t h, va_up_n h]) (fun k h => by rw [u4 k h, va_up_n h])
    exact ⟨0, z, _, z, _, rfl, v1, rfl, Or.inl ⟨rfl, v2, rfl⟩, v3⟩
end LOOK2
