
/-! the law's pure function answers true: a turn, the turns, the start -/
section LAWT
variable {n L : Nat} {M : Mem} {xs : Nat → Int32}
theorem cell_v (hL : L ≤ 260) (k : Nat) (hk : k < 2 ^ 30) : ∃ m, m < 2 ^ 31 ∧ fL_cell xs L (nI k) = some (nI m) := by
  unfold fL_cell
  by_cases c : Int32.ofNat L ≤ nI k
  · rw [if_pos c]
    obtain ⟨j, h1, h2⟩ := pk_andE (15518677 * (nI k + 3) + 10889) (m := 2147483647) 31 (by decide)
    exact ⟨j, h1, by rw [h2]⟩
  · rw [if_neg c]
    have hkL : k < L := by
      apply Classical.byContradiction
      intro q
      exact c (nI_le (a := L) (b := k) (by omega) (by omega))
    rw [m_gd (mx (n := L) (rfl : nI k = nI k) hkL (by omega)).1]
    obtain ⟨j, h1, h2⟩ := pk_andE (xs (nI k).toNatClampNeg) (m := 2147483647) 31 (by decide)
    exact ⟨j, h1, by rw [h2]⟩
theorem thr0 : ∀ z, z < 14 → fL_thrown (nI z) = 0 := by decide +kernel
/-- the accounts behind a card -/
theorem accs (h : Re n M) (p : Pos M) : ∃ C A S, 1 ≤ C ∧ C ≤ 10 ∧ M 2 0 = nI C ∧ 1 ≤ A ∧ A ≤ 8 ∧ M 2 1 = nI A ∧ Rel n (150000 * n) S (M 2) := by
  obtain ⟨S, R⟩ := h.rel
  obtain ⟨C, c1, c2, c3⟩ := p
  obtain ⟨A, hA, eA⟩ := R.cA
  obtain ⟨o, ho, hoA, -⟩ := R.cown 0 (by decide) (by rw [c3]; exact nI_lt (by omega) (by omega))
  rw [eA] at hoA
  refine ⟨C, A, S, c1, c2, c3, ?_, hA, eA, R⟩
  apply Classical.byContradiction
  intro q
  exact nI_nlt (a := o) (b := A) (by omega) (by omega) hoA
theorem ref_v (h : Re n M) (p : Pos M) {m : Nat} (hm : m < 2 ^ 20) : fL_refuses M (nI m) = some 1 := by
  obtain ⟨C, A, S, h1, h2, h3, h4, h5, h6, R⟩ := accs h p
  exact refuses_true R h.2 h3 h6 h2 h1 h5 h4 hm
set_option maxRecDepth 20000 in
set_option maxHeartbeats 4000000 in
theorem turn_v (h : Re n M) (jm : JM n M) (p : Pos M) (hn : n ≤ 840) (hL : L ≤ 260) {k K : Nat} (hk : k < K) (hK : K ≤ 30) (N : Nat) (y3 : Int32) : ∃ M', Re (n + 3) M' ∧ JM (n + 3) M' ∧ Pos M' ∧ fL_law_L180 xs L (N + 1) M y3 1 (nI K) (nI k) = fL_law_L180 xs L N M' y3 1 (nI K) (nI (k + 1)) := by
  obtain ⟨m, hm, ec⟩ := cell_v (xs := xs) hL (2 + k) (by omega)
  obtain ⟨r, M1, ea, j1, h1, p1⟩ := act_true h jm p (by omega) hm
  have hM1 := h1.2
  obtain ⟨S, R⟩ := h1.rel
  have e2 : (2 : Int32) + nI k = nI (2 + k) := nI_add 2 k
  have q5 : nI m - nI m / 100000 * 100000 = nI (m % 100000) := qd hm 100000 (by decide) (by decide)
  have q3 : nI m - nI m / 1000 * 1000 = nI (m % 1000) := qd hm 1000 (by decide) (by decide)
  have d3 : nI m / 3 = nI (m / 3) := pk_div (d := 3) hm (by decide) (by decide)
  have d5 : nI m / 5 = nI (m / 5) := pk_div (d := 5) hm (by decide) (by decide)
  have d7 : nI m / 7 = nI (m / 7) := pk_div (d := 7) hm (by decide) (by decide)
  have q4 : nI (m / 7) - nI (m / 7) / 4 * 4 = nI (m / 7 % 4) := qd (show m / 7 < 2 ^ 31 by omega) 4 (by decide) (by decide)
  have hg : m / 7 % 4 < 4 := Nat.mod_lt _ (by decide)
  generalize m / 7 % 4 = g at hg q4
  obtain ⟨ms, hb, -⟩ := bl_set R
  have a3 := l2_3 hM1
  have a4 := l2_4 hM1
  have a10 := l2_10 hM1 hb 0 0
  have a5 := l5_1 hg hM1 0
  rw [fL_law_L180, if_neg (nI_ge hk (by omega)), gdt n10, e2, ec, m_bd, ea, m_bd2, gdp_i h.2, q5, ref_v h p (m := m % 100000) (by omega), m_bd, gdt n10, m_bd2, gdp_i rfl, gdt rfl, gdp_i hM1, q3, ref_v h1 p1 (m := m % 1000) (by omega), m_bd, gdt n10, alike_true h1 (by omega), m_bd, gdt n10, d3, holds_true h1 j1 p1 (by omega) (x := m / 3) (by omega), m_bd, gdt n10, d5, holds_true h1 j1 p1 (by omega) (x := m / 5) (by omega), m_bd, gdt n10, d7, q4, lt_eq]
  rcases R.gup g hg with u | u
  · obtain ⟨r', d, ed, hd, w1, w2, ⟨pp, qq, F, hpq, hpF, hF9, x3, x5, x4, x87, x85, -, -⟩, M2, k1, k2, k3, k4, k5, zz, hz, z7, zr⟩ := a_upOk R (by omega) j1 hg u 0 0
    have h2 : Re (n + 2) M2 := h1.step (by omega) k1 k3
    obtain ⟨S2, R2⟩ := h2.rel
    rw [k5] at R2
    obtain ⟨ms', hb', -⟩ := bl_set R2
    obtain ⟨b0, b1, b2, b3⟩ := br_v h1 j1 (by omega) hg (Or.inr ⟨u, _, w1⟩) hb'
    obtain ⟨M3, v1, v2, v3, v4, -⟩ := a_undo k2 hz z7 0 0 0
    have h3 : Re (n + 3) M3 := h2.step (by omega) v1 v4
    rw [zr] at v2
    have p3 : Pos M3 := by
      obtain ⟨C, c1, c2, c3⟩ := p1
      exact ⟨C, c1, c2, by rw [v2]; exact c3⟩
    have c10 := l2_10 k3 (m := ms') (by rw [k5]; exact hb') 0 0
    have c3 := l2_3 k3
    have c4 := l2_4 k3
    have c87 := l5_3 hg k3 0
    rw [k5] at c3 c4 c87
    have f3 := l2_3 v4
    have f10 := l2_10 v4 (m := ms) (by rw [v2]; exact hb) 0 0
    have f5 := l5_1 hg v4 0
    rw [v2] at f3 f5
    refine ⟨M3, h3, v3.mono (by omega), p3, ?_⟩
    rw [b1, m_bd, b2, m_bd, b0, m_bd, b3, m_bd, a3, m_bd, a10, m_bd, a4, m_bd, a5, m_bd, if_pos u, k1, m_bd2, gdt rfl, m_bd2, gdp_i rfl, gdt rfl, c10, m_bd, gdt rfl, c3, m_bd, gdt (p := r' 3 = M1 2 3 + (r' 3 - M1 2 3)) (by rw [x3, asub]), c4, m_bd, gdt (p := r' 4 = M1 2 4 + (r' 4 - M1 2 4)) (by rw [x4, asub]), c87, m_bd, gdt x87, v1, m_bd2, lt_eq, thr0 zz hz, gdt rfl, m_bd2, gdp_i rfl, lt_eq, thr0 zz hz, gdt rfl, f3, m_bd, gdt rfl, f10, m_bd, gdt rfl, f5, m_bd, gdt u, lt_eq, nI_1]
  · obtain ⟨b0, b1, b2, b3⟩ := br_v h1 j1 (by omega) hg (Or.inl ⟨u, rfl⟩) hb
    rw [Int32.sub_self] at b0 b1 b3
    refine ⟨M1, h1.up (by omega), j1.mono (by omega), p1, ?_⟩
    rw [b1, m_bd, b2, m_bd, b0, m_bd, b3, m_bd, a3, m_bd, a10, m_bd, a4, m_bd, a5, m_bd, if_neg (by rw [u]; decide), gdt rfl, gdt rfl, gdt rfl, gdt rfl, lt_eq, nI_1]
theorem turns_v (hL : L ≤ 260) {K : Nat} (hK : K ≤ 30) (y3 : Int32) : ∀ (d k N n : Nat) (M : Mem), k + d = K → d < N → n + 3 * d ≤ 840 → Re n M → JM n M → Pos M → fL_law_L180 xs L N M y3 1 (nI K) (nI k) = some 1 := by
  intro d
  induction d with
  | zero =>
    intro k N n M hk hN hn h jm p
    obtain ⟨N, rfl⟩ : ∃ m, N = m + 1 := ⟨N - 1, by omega⟩
    rw [fL_law_L180, if_pos (nI_le (by omega) (by omega)), gdt rfl]
  | succ d ih =>
    intro k N n M hk hN hn h jm p
    obtain ⟨N, rfl⟩ : ∃ m, N = m + 1 := ⟨N - 1, by omega⟩
    obtain ⟨M', h', j', p', e⟩ := turn_v (xs := xs) h jm p (by omega) hL (show k < K by omega) hK N y3
    rw [e]
    exact ih (k + 1) N (n + 3) M' (by omega) (by omega) (by omega) h' j' p'
end LAWT
