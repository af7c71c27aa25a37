/-! the calls in pairs: simulations -/
section SCR
variable {B T : Nat} {V : uV}
set_option maxRecDepth 20000 in
set_option maxRecDepth 20000 in
theorem sim_L {tot : Nat} (ht : tot ≤ 80) (y1 : Int64) : ∀ (d i n n' B T : Nat) (V : uV) (M : Nat → Nat → Int32) (x : Int64), i + d = tot → d < n → d < n' → B + d < 1023 → T + 1188 * d < 2 ^ 29 → Rel B T (V 1) (M 3) → V 0 0 5 = M 2 3 → V 0 0 7 = M 2 5 → ∃ y V' M', fX11_simulate_L24 n V y1 (nI tot) x (nI i) = some (0, y, V') ∧ fX12_simulate_L45 n' M y1 (nI tot) x (nI i) = some (y, M') ∧ KeepV V V' ∧ Keep3 M M' := by
  intro d
  induction d with
  | zero =>
    intro i n n' B T V M x hd hn hn' hB hT R e5 e7
    obtain ⟨n, rfl⟩ : ∃ m, n = m + 1 := ⟨n - 1, by omega⟩
    obtain ⟨n', rfl⟩ : ∃ m, n' = m + 1 := ⟨n' - 1, by omega⟩
    rw [fX11_simulate_L24, fX12_simulate_L45, if_pos (nI_le (show tot ≤ i by omega) (by omega)), if_pos (nI_le (show tot ≤ i by omega) (by omega))]
    simp only [lt_eq]
    rw [gN3, kN3, gN5, kN5, e5, e7, show V 1 0 5 = M 3 3 from R.eN 1 (by decide), show V 1 0 7 = M 3 5 from R.eN 3 (by decide)]
    refine ⟨_, V, M, rfl, ?_, fun _ _ => rfl, fun _ _ => rfl⟩
    rw [Int32.sub_eq_add_neg (M 3 5) (M 2 5), ← Int32.add_assoc, ← Int32.sub_eq_add_neg]
  | succ d ih =>
    intro i n n' B T V M x hd hn hn' hB hT R e5 e7
    obtain ⟨n, rfl⟩ : ∃ m, n = m + 1 := ⟨n - 1, by omega⟩
    obtain ⟨n', rfl⟩ : ∃ m, n' = m + 1 := ⟨n' - 1, by omega⟩
    obtain ⟨w, hw, ew⟩ := sh33 (x * 6364136223846793005 + 1442695040888963407)
    obtain ⟨r', S', h1, h2, R'⟩ := r_turn R (by omega) (by omega) hw
    rw [fX11_simulate_L24, fX12_simulate_L45, if_neg (nI_ge (show i < tot by omega) (by omega)), if_neg (nI_ge (show i < tot by omega) (by omega))]
    simp only [lt_eq]
    rw [ew, h1, h2, m_bd, m_bd, nI_1]
    obtain ⟨y, V', M', a1, a2, a3, a4⟩ := ih (i + 1) n n' (B + 1) (T + 1188) (va_up V 1 S') (va_up M 3 r') _ (by omega) (by omega) (by omega) (by omega) (by omega) (by rw [va_up_s, va_up_s]; exact R') e5 e7
    exact ⟨y, V', M', a1, a2, fun t h => by rw [a3 t h, va_up_n h], fun t h => by rw [a4 t h, va_up_n h]⟩
theorem q_simulate (W : WR B T V) (hB : B + 81 < 1023) (hT : T + 150000 < 2 ^ 29) (s : Int64) (a : Int32) : Pair1 B T V (fX11_simulate V s a) (fX12_simulate (V 19) s a) 1 := by
  have R := W.1
  unfold fX11_simulate fX12_simulate
  by_cases c : 1 ≤ a ∧ a ≤ 80
  · obtain ⟨k, hk1, hk2, rfl⟩ := i_199 (x := a) ⟨c.1, Int32.le_trans c.2 (by decide)⟩
    have hk3 : k ≤ 80 := by
      rcases Nat.lt_or_ge 80 k with q | q
      · exact absurd c.2 (nI_ge (a := 80) q (by omega))
      · exact q
    rw [th_y (dec_t c), lt_eq, lt_eq, in1 (lo := 1) (hi := 80) (by decide) (by decide) c, if_neg n10, ref0, m_bd2, if_pos rfl, fcp00, m_bd, lt_eq]
    obtain ⟨z, V', M', u1, u2, u3, u4⟩ := sim_L hk3 s k 0 3000 3000 B T (va_up V 1 (V 0)) (va_up (mRef (V 19) 0) 3 (va_cpy (mRef (V 19) 0 2) (mRef (V 19) 0 3) 0 0 1272)) s (by omega) (by omega) (by omega) (by omega) (by omega) (by rw [va_up_s, va_up_s, mRef_2]; exact r_cpy R) (R.eN 1 (by decide)) (R.eN 3 (by decide))
    rw [nI_0] at u1 u2
    rw [u1, u2]
    obtain ⟨v1, v2, v3⟩ := look3 W (V' := V') (M' := M') (fun t h => by rw [u3 t h, va_up_n h]) (fun k h => by rw [u4 k h, va_up_n h])
    exact ⟨0, z, _, z, _, rfl, v1, rfl, Or.inl ⟨rfl, v2, rfl⟩, v3⟩
  · rw [th_n (dec_f c), lt_eq, in0 (lo := 1) (hi := 80) (by decide) (by decide) c, if_pos rfl, ref1, m_bd2, if_neg n10]
    exact p1_1 W rfl rfl
end SCR
