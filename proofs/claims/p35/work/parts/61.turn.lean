/-! the turns of a simulation -/
theorem n_div {m : Nat} (h : m < 2 ^ 31) (d : Nat) (h0 : 0 < d) (hd : d < 2 ^ 31) : nI m / nI d = nI (m / d) := pk_div h h0 hd
theorem d16 {m : Nat} (h : m < 2 ^ 31) : nI m / 16 = nI (m / 16) := pk_div (d := 16) h (by decide) (by decide)
theorem d128 {m : Nat} (h : m < 2 ^ 31) : nI m / 128 = nI (m / 128) := pk_div (d := 128) h (by decide) (by decide)
theorem d256 {m : Nat} (h : m < 2 ^ 31) : nI m / 256 = nI (m / 256) := pk_div (d := 256) h (by decide) (by decide)
theorem d10 {m : Nat} (h : m < 2 ^ 31) : nI m / 10 = nI (m / 10) := pk_div (d := 10) h (by decide) (by decide)
theorem d100 {m : Nat} (h : m < 2 ^ 31) : nI m / 100 = nI (m / 100) := pk_div (d := 100) h (by decide) (by decide)
theorem d1000 {m : Nat} (h : m < 2 ^ 31) : nI m / 1000 = nI (m / 1000) := pk_div (d := 1000) h (by decide) (by decide)
theorem q4 {m : Nat} (h : m < 2 ^ 31) : nI m - nI m / 4 * 4 = nI (m % 4) := pk_rem (d := 4) h (by decide) (by decide)
theorem q8 {m : Nat} (h : m < 2 ^ 31) : nI m - nI m / 8 * 8 = nI (m % 8) := pk_rem (d := 8) h (by decide) (by decide)
theorem q10 {m : Nat} (h : m < 2 ^ 31) : nI m - nI m / 10 * 10 = nI (m % 10) := pk_rem (d := 10) h (by decide) (by decide)
theorem q16 {m : Nat} (h : m < 2 ^ 31) : nI m - nI m / 16 * 16 = nI (m % 16) := pk_rem (d := 16) h (by decide) (by decide)
theorem q20 {m : Nat} (h : m < 2 ^ 31) : nI m - nI m / 20 * 20 = nI (m % 20) := pk_rem (d := 20) h (by decide) (by decide)
theorem q30 {m : Nat} (h : m < 2 ^ 31) : nI m - nI m / 30 * 30 = nI (m % 30) := pk_rem (d := 30) h (by decide) (by decide)
theorem q40 {m : Nat} (h : m < 2 ^ 31) : nI m - nI m / 40 * 40 = nI (m % 40) := pk_rem (d := 40) h (by decide) (by decide)
theorem q100 {m : Nat} (h : m < 2 ^ 31) : nI m - nI m / 100 * 100 = nI (m % 100) := pk_rem (d := 100) h (by decide) (by decide)
theorem r_turn {B T : Nat} {S : Nat → Nat → Int32} {r : Nat → Int32} (R : Rel B T S r) (hB : B + 1 < 1024) (hT : T + 1188 < 2 ^ 30) {m : Nat} (hm : m < 2 ^ 31) : ∃ r' S', fX12_turn r (nI m) = some r' ∧ fX8_turn S (nI m) = some S' ∧ Rel (B + 1) (T + 1188) S' r' := by
  have hv : m / 16 < 2 ^ 31 := Nat.lt_of_le_of_lt (Nat.div_le_self _ _) hm
  have hv2 : m / 128 < 2 ^ 31 := Nat.lt_of_le_of_lt (Nat.div_le_self _ _) hm
  have hv3 : m / 256 < 2 ^ 31 := Nat.lt_of_le_of_lt (Nat.div_le_self _ _) hm
  have up : B ≤ B + 1 := by omega
  have i4 : m / 16 % 4 < 4 := Nat.mod_lt _ (by decide)
  have i8 : m / 16 % 8 < 8 := Nat.mod_lt _ (by decide)
  have i20 : m / 16 % 20 < 20 := Nat.mod_lt _ (by decide)
  have i30 : m / 128 % 30 < 30 := Nat.mod_lt _ (by decide)
  have i40 : m / 16 % 40 < 40 := Nat.mod_lt _ (by decide)
  unfold fX12_turn fX8_turn
  simp only [lt_eq]
  rw [q16 hm, d16 hm, d128 hm, d256 hm, q4 hv, q8 hv, q10 hv, q20 hv, q40 hv, q30 hv2, q4 hv3]
  have p30 : (1 : Int32) + nI (m / 128 % 30) = nI (1 + m / 128 % 30) := nI_add 1 _
  have p20 : (1 : Int32) + nI (m / 16 % 20) = nI (1 + m / 16 % 20) := nI_add 1 _
  rw [p30, p20]
  have hk : m % 16 < 16 := Nat.mod_lt _ (by decide)
  generalize m % 16 = k at hk ⊢
  rcases (show k = 0 ∨ k = 1 ∨ k = 2 ∨ k = 3 ∨ k = 4 ∨ k = 5 ∨ k = 6 ∨ k = 7 ∨ k = 8 ∨ k = 9 ∨ k = 10 ∨ k = 11 ∨ k = 12 ∨ k = 13 ∨ k = 14 ∨ k = 15 by omega) with rfl | rfl | rfl | rfl | rfl | rfl | rfl | rfl | rfl | rfl | rfl | rfl | rfl | rfl | rfl | rfl
  · rw [if_pos (by decide), if_pos (by decide)]
    rcases t_issue R (w := m / 16 % 40) (by omega) with ⟨h1, h2⟩ | ⟨c, r', S', hc, h1, h2, h3, h4⟩
    · exact ⟨r, S, by rw [h1, m_bd, if_pos rfl], by rw [h2, m_bd2], R.mono up (by omega)⟩
    · exact ⟨r', S', by rw [h1, m_bd, if_neg n10, h2, m_bd2], by rw [h3, m_bd2], h4.mono up (by omega)⟩
  · rw [if_neg (by decide), if_pos (by decide), if_neg (by decide), if_pos (by decide)]
    rcases t_copy R (nI (m / 16 % 10)) with ⟨h1, h2⟩ | ⟨q, r', S', hq, hq2, h1, h2, h3, h4⟩
    · exact ⟨r, S, by rw [h1, m_bd, if_pos rfl], by rw [h2, m_bd2], R.mono up (by omega)⟩
    · exact ⟨r', S', by rw [h1, m_bd, if_neg n10, h2, m_bd2], by rw [h3, m_bd2], h4.mono up (by omega)⟩
  · rw [if_neg (by decide), if_neg (by decide), if_neg (by decide), if_neg (by decide), if_neg (by decide), if_neg (by decide), if_pos (by decide)]
    obtain ⟨z, r', S', h1, h2, h3, -⟩ := r_tryDown R i4
    exact ⟨r', S', by rw [h1, m_bd2], by rw [h2, m_bd2], h3.mono up (by omega)⟩
  · rw [if_neg (by decide), if_neg (by decide), if_neg (by decide), if_pos (by decide), if_neg (by decide), if_neg (by decide), if_neg (by decide), if_pos (by decide)]
    obtain ⟨z, r', S', h1, h2, h3, -⟩ := r_tryUp R (by omega) hT i4
    exact ⟨r', S', by rw [h1, m_bd2], by rw [h2, m_bd2], h3.mono up (by omega)⟩
  · rw [if_neg (by decide), if_neg (by decide), if_pos (by decide), if_pos (by decide), if_neg (by decide), if_neg (by decide), if_neg (by decide), if_neg (by decide), if_pos (by decide)]
    rcases t_pay R (by omega) (nI (m / 16 % 8)) (w := 1 + m / 128 % 30) (by omega) (by omega) with ⟨h1, h2⟩ | ⟨z, r', S', h1, -, h2, h3, h4⟩
    · exact ⟨r, S, by rw [h1, m_bd, if_pos rfl], by rw [h2, m_bd2], R.mono up (by omega)⟩
    · exact ⟨r', S', by rw [h1, m_bd, if_neg n10, h2, m_bd2], by rw [h3, m_bd2], h4.mono up (by omega)⟩
  · rw [if_neg (by decide), if_neg (by decide), if_pos (by decide), if_neg (by decide), if_pos (by decide), if_neg (by decide), if_neg (by decide), if_neg (by decide), if_neg (by decide), if_neg (by decide), if_pos (by decide)]
    obtain ⟨z, r', S', h1, h2, h3, -⟩ := t_open R i4
    exact ⟨r', S', by rw [h1, m_bd2], by rw [h2, m_bd2], h3.mono up (by omega)⟩
  · rw [if_neg (by decide), if_neg (by decide), if_pos (by decide), if_neg (by decide), if_neg (by decide), if_pos (by decide), if_neg (by decide), if_neg (by decide), if_neg (by decide), if_neg (by decide), if_neg (by decide), if_neg (by decide), if_pos (by decide)]
    rcases t_pardon R (nI (m / 16 % 8)) with ⟨h1, h2⟩ | ⟨a, ha, ea, h1, h2, h3⟩
    · exact ⟨r, S, by rw [h1, m_bd, if_pos rfl], by rw [h2, m_bd2], R.mono up (by omega)⟩
    · exact ⟨_, _, by rw [h1, m_bd, if_neg n10, ea, gA2 ha, kA2 ha], by rw [h2, m_bd2], h3.mono up (by omega)⟩
  · rw [if_neg (by decide), if_neg (by decide), if_pos (by decide), if_neg (by decide), if_neg (by decide), if_neg (by decide), if_neg (by decide), if_neg (by decide), if_neg (by decide), if_neg (by decide), if_neg (by decide), if_neg (by decide), if_neg (by decide), if_neg (by decide), if_pos (by decide)]
    obtain ⟨z, r', S', h1, h2, h3, h4, h5⟩ := t_run R (by omega) (w := 1 + m / 16 % 20) (by omega) (by omega)
    exact ⟨r', S', by rw [h3, m_bd2], by rw [h4, m_bd2], h5.mono up (by omega)⟩
  · rw [if_neg (by decide), if_neg (by decide), if_pos (by decide), if_neg (by decide), if_neg (by decide), if_neg (by decide), if_neg (by decide), if_neg (by decide), if_neg (by decide), if_neg (by decide), if_neg (by decide), if_neg (by decide), if_neg (by decide), if_neg (by decide), if_neg (by decide), if_pos (by decide)]
    obtain ⟨z, r', S', h1, h2, h3, h4, h5⟩ := t_run R (by omega) (w := 1 + m / 16 % 20) (by omega) (by omega)
    exact ⟨r', S', by rw [h3, m_bd2], by rw [h4, m_bd2], h5.mono up (by omega)⟩
  · rw [if_neg (by decide), if_neg (by decide), if_pos (by decide), if_neg (by decide), if_neg (by decide), if_neg (by decide), if_pos (by decide), if_neg (by decide), if_neg (by decide), if_neg (by decide), if_neg (by decide), if_neg (by decide), if_neg (by decide), if_neg (by decide), if_neg (by decide), if_neg (by decide)]
    rcases t_ride R hB (by omega) (nI (m / 16 % 10)) (nI (m / 256 % 4)) with ⟨h1, h2⟩ | ⟨h1, h0, h2⟩ | ⟨z, r', S', h1, h0, h2, h3, h4, -⟩
    · exact ⟨r, S, by rw [h1, m_bd, if_pos rfl], by rw [h2, m_bd2], R.mono up (by omega)⟩
    · rw [r_isGate S, hasG S (Nat.mod_lt _ (by decide))] at h0; exact absurd h0 n10
    · exact ⟨r', S', by rw [h1, m_bd, if_neg n10, h2, m_bd2], by rw [h3, m_bd2], h4.mono (Nat.le_refl _) (by omega)⟩
  · rw [if_neg (by decide), if_neg (by decide), if_pos (by decide), if_neg (by decide), if_neg (by decide), if_neg (by decide), if_pos (by decide), if_neg (by decide), if_neg (by decide), if_neg (by decide), if_neg (by decide), if_neg (by decide), if_neg (by decide), if_neg (by decide), if_neg (by decide), if_neg (by decide)]
    rcases t_ride R hB (by omega) (nI (m / 16 % 10)) (nI (m / 256 % 4)) with ⟨h1, h2⟩ | ⟨h1, h0, h2⟩ | ⟨z, r', S', h1, h0, h2, h3, h4, -⟩
    · exact ⟨r, S, by rw [h1, m_bd, if_pos rfl], by rw [h2, m_bd2], R.mono up (by omega)⟩
    · rw [r_isGate S, hasG S (Nat.mod_lt _ (by decide))] at h0; exact absurd h0 n10
    · exact ⟨r', S', by rw [h1, m_bd, if_neg n10, h2, m_bd2], by rw [h3, m_bd2], h4.mono (Nat.le_refl _) (by omega)⟩
  · rw [if_neg (by decide), if_neg (by decide), if_pos (by decide), if_neg (by decide), if_neg (by decide), if_neg (by decide), if_pos (by decide), if_neg (by decide), if_neg (by decide), if_neg (by decide), if_neg (by decide), if_neg (by decide), if_neg (by decide), if_neg (by decide), if_neg (by decide), if_neg (by decide)]
    rcases t_ride R hB (by omega) (nI (m / 16 % 10)) (nI (m / 256 % 4)) with ⟨h1, h2⟩ | ⟨h1, h0, h2⟩ | ⟨z, r', S', h1, h0, h2, h3, h4, -⟩
    · exact ⟨r, S, by rw [h1, m_bd, if_pos rfl], by rw [h2, m_bd2], R.mono up (by omega)⟩
    · rw [r_isGate S, hasG S (Nat.mod_lt _ (by decide))] at h0; exact absurd h0 n10
    · exact ⟨r', S', by rw [h1, m_bd, if_neg n10, h2, m_bd2], by rw [h3, m_bd2], h4.mono (Nat.le_refl _) (by omega)⟩
  · rw [if_neg (by decide), if_neg (by decide), if_pos (by decide), if_neg (by decide), if_neg (by decide), if_neg (by decide), if_pos (by decide), if_neg (by decide), if_neg (by decide), if_neg (by decide), if_neg (by decide), if_neg (by decide), if_neg (by decide), if_neg (by decide), if_neg (by decide), if_neg (by decide)]
    rcases t_ride R hB (by omega) (nI (m / 16 % 10)) (nI (m / 256 % 4)) with ⟨h1, h2⟩ | ⟨h1, h0, h2⟩ | ⟨z, r', S', h1, h0, h2, h3, h4, -⟩
    · exact ⟨r, S, by rw [h1, m_bd, if_pos rfl], by rw [h2, m_bd2], R.mono up (by omega)⟩
    · rw [r_isGate S, hasG S (Nat.mod_lt _ (by decide))] at h0; exact absurd h0 n10
    · exact ⟨r', S', by rw [h1, m_bd, if_neg n10, h2, m_bd2], by rw [h3, m_bd2], h4.mono (Nat.le_refl _) (by omega)⟩
  · rw [if_neg (by decide), if_neg (by decide), if_pos (by decide), if_neg (by decide), if_neg (by decide), if_neg (by decide), if_pos (by decide), if_neg (by decide), if_neg (by decide), if_neg (by decide), if_neg (by decide), if_neg (by decide), if_neg (by decide), if_neg (by decide), if_neg (by decide), if_neg (by decide)]
    rcases t_ride R hB (by omega) (nI (m / 16 % 10)) (nI (m / 256 % 4)) with ⟨h1, h2⟩ | ⟨h1, h0, h2⟩ | ⟨z, r', S', h1, h0, h2, h3, h4, -⟩
    · exact ⟨r, S, by rw [h1, m_bd, if_pos rfl], by rw [h2, m_bd2], R.mono up (by omega)⟩
    · rw [r_isGate S, hasG S (Nat.mod_lt _ (by decide))] at h0; exact absurd h0 n10
    · exact ⟨r', S', by rw [h1, m_bd, if_neg n10, h2, m_bd2], by rw [h3, m_bd2], h4.mono (Nat.le_refl _) (by omega)⟩
  · rw [if_neg (by decide), if_neg (by decide), if_pos (by decide), if_neg (by decide), if_neg (by decide), if_neg (by decide), if_pos (by decide), if_neg (by decide), if_neg (by decide), if_neg (by decide), if_neg (by decide), if_neg (by decide), if_neg (by decide), if_neg (by decide), if_neg (by decide), if_neg (by decide)]
    rcases t_ride R hB (by omega) (nI (m / 16 % 10)) (nI (m / 256 % 4)) with ⟨h1, h2⟩ | ⟨h1, h0, h2⟩ | ⟨z, r', S', h1, h0, h2, h3, h4, -⟩
    · exact ⟨r, S, by rw [h1, m_bd, if_pos rfl], by rw [h2, m_bd2], R.mono up (by omega)⟩
    · rw [r_isGate S, hasG S (Nat.mod_lt _ (by decide))] at h0; exact absurd h0 n10
    · exact ⟨r', S', by rw [h1, m_bd, if_neg n10, h2, m_bd2], by rw [h3, m_bd2], h4.mono (Nat.le_refl _) (by omega)⟩
  · rw [if_neg (by decide), if_neg (by decide), if_pos (by decide), if_neg (by decide), if_neg (by decide), if_neg (by decide), if_pos (by decide), if_neg (by decide), if_neg (by decide), if_neg (by decide), if_neg (by decide), if_neg (by decide), if_neg (by decide), if_neg (by decide), if_neg (by decide), if_neg (by decide)]
    rcases t_ride R hB (by omega) (nI (m / 16 % 10)) (nI (m / 256 % 4)) with ⟨h1, h2⟩ | ⟨h1, h0, h2⟩ | ⟨z, r', S', h1, h0, h2, h3, h4, -⟩
    · exact ⟨r, S, by rw [h1, m_bd, if_pos rfl], by rw [h2, m_bd2], R.mono up (by omega)⟩
    · rw [r_isGate S, hasG S (Nat.mod_lt _ (by decide))] at h0; exact absurd h0 n10
    · exact ⟨r', S', by rw [h1, m_bd, if_neg n10, h2, m_bd2], by rw [h3, m_bd2], h4.mono (Nat.le_refl _) (by omega)⟩
