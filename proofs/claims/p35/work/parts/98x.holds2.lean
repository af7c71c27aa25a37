
/-! the law's sums hold, gate by gate -/
section HOL2
variable {n B T : Nat} {M : Mem} {S : Mem} {A C : Nat}
theorem asub (x y : Int32) : x + y - x = y := by rw [Int32.add_comm, Int32.add_sub_cancel]
set_option maxRecDepth 20000 in
set_option maxHeartbeats 4000000 in
theorem h_tail (h : Re n M) (jm : JM n M) (hn : n ≤ 850) (R : Rel n (150000 * n) S (M 2)) (e0 : M 2 0 = nI C) (hC : C ≤ 10) (hC1 : 1 ≤ C) (e1 : M 2 1 = nI A) (hA : A ≤ 8) {d : Nat → Nat} (hd : Sz (M 2) d) {x : Nat} (hx : x < 2 ^ 31) (ms : Int32) (N : Nat) : fL_holds_L292 M (N + 1) (nI x) (nI C) (nI A) ms (nI C) (M 2 3) (lgS (M 2) d (-1) 0) (lgS (M 2) d (-1) 1) (wI (M 2) d A) 1 (sumI (fun g => nI (d g)) 4) (nI 4) = some 1 := by
  have hM := h.2
  have hcC : x % C < C := Nat.mod_lt _ (by omega)
  have hg : x / 16 % 4 < 4 := Nat.mod_lt _ (by decide)
  obtain ⟨w, q, v20, v21, hw, hq, g1, g0, g3⟩ := look_v h jm hn (c := x % C) (g := x / 16 % 4) e0 hC hcC hg
  have v26 := l2_6 hM hd 0 0
  have v27 := l2_7 hM hd 0 0
  have vw := wo_v h hd hA e1
  have v52 := l5_2 hg hM 0
  have c0 := l3_0 R e0 hC hcC hM 0
  have c2 := l3_2 R e0 hC hcC hM 0
  have c3 := l3_3 R e0 hC hcC hM 0
  obtain ⟨t0, t1, t2⟩ := h_card jm R hn e0 hC e1 hA hcC
  obtain ⟨s, F, hsF, hF, e3, e4, -⟩ := jm.1.s
  have hT : gd (decide (¬ nI A ≤ M 2 (12 + 4 * (x % C)))) (gd (decide (¬ M 2 2 < M 2 (15 + 4 * (x % C)) - 1)) (if M 2 (15 + 4 * (x % C)) - 1 = -1 then (if M 2 (14 + 4 * (x % C)) = 0 then some (1 : Int32) else none) else (if M 2 (14 + 4 * (x % C)) = 0 then none else some 1))) = some 1 := by
    rw [gdt t0, gdt t1, h_end t2]
  have ex : nI x - nI x / nI C * nI C = nI (x % C) := qd hx C (by omega) (by omega)
  have e16 : nI x / 16 = nI (x / 16) := pk_div (d := 16) hx (by decide) (by decide)
  have eg : nI (x / 16) - nI (x / 16) / 4 * 4 = nI (x / 16 % 4) := qd (show x / 16 < 2 ^ 31 by omega) 4 (by decide) (by decide)
  rw [fL_holds_L292, if_pos (c := 4 ≤ nI 4) (by decide), gdt n10, gdt rfl, l2_3 hM, m_bd, gdt rfl, v26, m_bd, gdt rfl, gdt lgS_n.symm, v27, m_bd, gdt rfl, vw, m_bd, gdt rfl, l2_4 hM, m_bd, gdt (p := ¬ M 2 4 < M 2 3) (by rw [e3, e4]; exact nI_nlt hsF (by omega)), if_neg (nI_ne0 (by omega) (by omega)), gdt (nI_ne0 (n := C) (by omega) (by omega)), ex, e16, eg, lt_eq, lt_eq, v21, m_bd, v20, m_bd, gdt (nI_pos (n := q) (by omega)), gdt (p := ¬ 100 < nI q) (nI_nlt (a := 100) hq (by decide)), gdt (nI_pos (n := w) (by omega)), gdt (p := ¬ 8 ≤ nI w) (nI_ge (b := 8) (by omega) (by decide))]
  simp only [v52, c0, c2, c3, l2_2 hM, m_bd, hT]
  exact h_br hw hq (R.gopen _ hg) g1 g0 g3
set_option maxRecDepth 20000 in
theorem h_292 (h : Re n M) (jm : JM n M) (hn : n ≤ 850) (R : Rel n (150000 * n) S (M 2)) (e0 : M 2 0 = nI C) (hC : C ≤ 10) (hC1 : 1 ≤ C) (e1 : M 2 1 = nI A) (hA : A ≤ 8) {d : Nat → Nat} (hd : Sz (M 2) d) {x : Nat} (hx : x < 2 ^ 31) {ms : Int32} (hb : fX12_blocked (M 2) = some ms) : ∀ (m g N : Nat), g + m = 4 → m < N → fL_holds_L292 M N (nI x) (nI C) (nI A) ms (nI C) (M 2 3) (lgS (M 2) d (-1) 0) (lgS (M 2) d (-1) 1) (wI (M 2) d A) 1 (sumI (fun g => nI (d g)) g) (nI g) = some 1 := by
  have hM := h.2
  intro m
  induction m with
  | zero =>
    intro g N hg hN
    obtain ⟨N, rfl⟩ : ∃ m, N = m + 1 := ⟨N - 1, by omega⟩
    obtain rfl : g = 4 := by omega
    exact h_tail h jm hn R e0 hC hC1 e1 hA hd hx ms N
  | succ m ih =>
    intro g N hg hN
    obtain ⟨N, rfl⟩ : ∃ m, N = m + 1 := ⟨N - 1, by omega⟩
    have hg4 : g < 4 := by omega
    obtain ⟨hd12, ed⟩ := hd g hg4
    have i := ih (g + 1) N (by omega) (by omega)
    have es : sumI (fun g => nI (d g)) (g + 1) = sumI (fun g => nI (d g)) g + nI (d g) := rfl
    rw [es] at i
    have v3 := l5_3 hg4 hM 0
    rw [ed] at v3
    have hl : ∀ k, k < d g → ∃ a m f, a < A ∧ 0 < m ∧ m < 2 ^ 30 ∧ 1 ≤ f ∧ f ≤ 9 ∧ M 2 (104 + 36 * g + 3 * k) = nI a ∧ M 2 (105 + 36 * g + 3 * k) = nI m ∧ M 2 (106 + 36 * g + 3 * k) = nI f := fun k hk => by
      obtain ⟨a, m', f, ha, haA, hm', hf1, hf9, ea, em, ef⟩ := log_all R jm.1 (by omega) hg4 hd12 ed k hk
      have hz := (jm.1.l g k hg4 (by omega) (by rw [ed]; exact nI_lt hk (by omega))).1
      refine ⟨a, m', f, ?_, ?_, by omega, hf1, hf9, ea, em, ef⟩
      · rw [e1] at haA
        apply Classical.byContradiction
        intro q
        exact nI_nlt (a := a) (b := A) (by omega) (by omega) haA
      · apply Classical.byContradiction
        intro q
        have : m' = 0 := by omega
        subst this
        exact hz (em.trans nI_0)
    have hin := fun K => h_434 hM hg4 hd12 ed hA hl K (nI x) (nI C) ms (nI C) (M 2 3) (lgS (M 2) d (-1) 0) (lgS (M 2) d (-1) 1) (wI (M 2) d A) (sumI (fun g => nI (d g)) g + nI (d g)) (d g) 0 13 (by omega) (by omega)
    rw [nI_0] at hin
    have vo := l6_out hg4 hM hd12 ed 0
    rw [fL_holds_L292, if_neg (c := 4 ≤ nI g) (nI_ge (b := 4) hg4 (by decide)), gdt n10, v3, m_bd, lt_eq, gdt (p := ¬ 12 < nI (d g)) (nI_nlt (a := 12) hd12 (by decide)), l5_1 hg4 hM 0, m_bd]
    rcases R.gup g hg4 with u | u
    · obtain ⟨r', d', ed', hd', w1, -, p, q, F, hpq, hpF, hF9, x3, x5, x4, -⟩ := j_up R jm.1 (by omega) hg4
      have edd : d' = d g := (nI_eq (by omega) (by omega)).mp (ed'.symm.trans ed)
      obtain ⟨i', r'', S', -, w1', -, R', -⟩ := r_up R (by omega) (by omega) hg4
      rw [w1] at w1'
      obtain rfl : r' = r'' := (Prod.mk.inj (Option.some.inj w1')).2
      obtain ⟨ms', hb', -⟩ := bl_set R'
      obtain ⟨b0, b1, -, b3⟩ := br_v h jm hn hg4 (Or.inr ⟨u, _, w1⟩) hb'
      rw [x3, asub] at b0
      rw [x5, asub] at b1
      rw [x4, asub] at b3
      rw [if_pos u, vo, m_bd, gdt rfl, b0, m_bd, b1, m_bd, gdt (p := nI p + nI q = nI (d g)) (by rw [nI_add, hpq, edd]), b3, m_bd, m_bd, gdt (nI_nlt hpF (by omega)), hin, lt_eq, nI_1]
      exact i
    · have hz := jm.1.u g hg4 u
      have hd0 : nI (d g) = 0 := ed.symm.trans hz
      obtain ⟨b0, b1, -, b3⟩ := br_v h jm hn hg4 (Or.inl ⟨u, rfl⟩) hb
      rw [Int32.sub_self] at b0 b1 b3
      have hin2 := fun K => hin K
      rw [hd0] at hin2 i
      rw [hd0] at vo
      rw [hd0, if_neg (by rw [u]; decide), gdt rfl, l5_4 hg4 hM u hb 0, m_bd, gdt rfl, vo, m_bd, gdt rfl, b0, m_bd, b1, m_bd, gdt (p := (0 : Int32) + 0 = 0) (by decide), b3, m_bd, m_bd, gdt (by decide), hin2, lt_eq, nI_1]
      exact i
theorem holds_true (h : Re n M) (jm : JM n M) (p : Pos M) (hn : n ≤ 850) {x : Nat} (hx : x < 2 ^ 31) : fL_holds M (nI x) = some 1 := by
  have hM := h.2
  obtain ⟨S, R⟩ := h.rel
  obtain ⟨C, hC1, hC, e0⟩ := p
  obtain ⟨A, hA, e1⟩ := R.cA
  obtain ⟨d, hd⟩ := sz_of R
  obtain ⟨ms, hb, hms⟩ := bl_set R
  have ownA : ∀ c, c < C → ∃ o, o < A ∧ M 2 (12 + 4 * c) = nI o := fun c hc => by
    obtain ⟨o, ho, hoA, eo⟩ := R.cown c (by omega) (by rw [e0]; exact nI_lt hc (by omega))
    refine ⟨o, ?_, eo⟩
    rw [e1] at hoA
    apply Classical.byContradiction
    intro q
    exact nI_nlt (a := o) (b := A) (by omega) (by omega) hoA
  have logA : ∀ g k, g < 4 → k < d g → ∃ a, a < A ∧ M 2 (104 + 36 * g + 3 * k) = nI a := fun g k hg hk => by
    obtain ⟨hd12, ed⟩ := hd g hg
    obtain ⟨o, ho, hoA, eo⟩ := R.lacc g k hg (by omega) (by rw [ed]; exact nI_lt hk (by omega))
    refine ⟨o, ?_, eo⟩
    rw [e1] at hoA
    apply Classical.byContradiction
    intro q
    exact nI_nlt (a := o) (b := A) (by omega) (by omega) hoA
  have s6 : sumI (fun a => M 2 (55 + 4 * a)) A = M 2 3 := by
    obtain ⟨s, F, -, -, -, -, e5⟩ := jm.1.s
    rw [← e5]
    have t := sumI_tail (f := fun a => M 2 (55 + 4 * a)) (A := A) (8 - A) (fun a h1 h2 => jm.1.z a (by omega) (by rw [e1]; exact nI_le h1 (by omega)))
    rw [show A + (8 - A) = 8 by omega] at t
    exact t.symm
  have e := h_50 h jm hn R e0 hC e1 hA hd hms (nI x) A 0 9 (by omega) (by omega)
  rw [nI_0, CO_all hA ownA, s6, lgS_all hd hA logA, lgS_all hd hA logA] at e
  have e2 := h_292 h jm hn R e0 hC hC1 e1 hA hd hx hb 4 0 5 (by omega) (by omega)
  rw [nI_0] at e2
  unfold fL_holds
  rw [l2_0 hM, m_bd, l2_1 hM, m_bd, l2_10 hM hb, m_bd, e0, e1]
  exact e.trans e2
end HOL2
