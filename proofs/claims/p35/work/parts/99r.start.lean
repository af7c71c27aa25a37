
/-! the law's start: three accounts, a fourth card, the pause -/
section LAWS
variable {n B T L : Nat} {M : Mem} {S : Mem} {xs : Nat → Int32}
theorem issueOn_9 {r : Nat → Int32} {C A : Nat} (hC : C < 10) (hA : A < 8) (e0 : r 0 = nI C) (e1 : r 1 = nI A) (v : Int32) : ∃ r', fX12_issueOn r v = some (nI C, r') ∧ r' 9 = r 9 := by
  refine ⟨upd (upd (upd (upd (upd r (52 + 4 * A) v) (12 + 4 * C) (nI A)) (13 + 4 * C) v) 0 (nI (C + 1))) 1 (nI (A + 1)), ?_, by rw [upd_ne (by omega), upd_ne (by omega), upd_ne (by omega), upd_ne (by omega), upd_ne (by omega)]⟩
  unfold fX12_issueOn
  simp only [lt_]
  rw [gN0, gN1, kN0, kN1, e0, e1, gA0 hA, kA0 hA, gC0 hC, kC0 hC, gC1 hC, kC1 hC, upd_ne (show 0 ≠ 13 + 4 * C by omega), upd_ne (show 0 ≠ 12 + 4 * C by omega), upd_ne (show 0 ≠ 52 + 4 * A by omega), e0, nI_1, upd_ne (show 1 ≠ 0 by omega), upd_ne (show 1 ≠ 13 + 4 * C by omega), upd_ne (show 1 ≠ 12 + 4 * C by omega), upd_ne (show 1 ≠ 52 + 4 * A by omega), e1, nI_1]
theorem copyOn_9 {r : Nat → Int32} {C c : Nat} (hC : C < 10) (hc : c < C) (e0 : r 0 = nI C) : ∃ r', fX12_copyOn r (nI c) = some (nI C, r') ∧ r' 9 = r 9 := by
  refine ⟨upd (upd (upd (upd (upd r (12 + 4 * C) (r (12 + 4 * c))) (13 + 4 * C) (r (13 + 4 * c))) (14 + 4 * C) (r (14 + 4 * c))) (15 + 4 * C) (r (15 + 4 * c))) 0 (nI (C + 1)), ?_, by rw [upd_ne (by omega), upd_ne (by omega), upd_ne (by omega), upd_ne (by omega), upd_ne (by omega)]⟩
  unfold fX12_copyOn
  rw [gN0, kN0, lt_eq, e0]
  have k : ∀ n', fX12_copyOn_L6 (n' + 5) r (nI c) (nI C) (nI 0) = some (nI C, upd (upd (upd (upd (upd r (12 + 4 * C) (r (12 + 4 * c))) (13 + 4 * C) (r (13 + 4 * c))) (14 + 4 * C) (r (14 + 4 * c))) (15 + 4 * C) (r (15 + 4 * c))) 0 (nI (C + 1))) := by
    intro n'
    rw [cp_step (n' + 4) c C 0 (12 + 4 * C) (r (12 + 4 * c)) r (by omega) hC (by omega) (by omega) rfl]
    rw [cp_step (n' + 3) c C 1 (13 + 4 * C) (r (13 + 4 * c)) _ (by omega) hC (by omega) (by omega) (by rw [show 12 + 4 * c + 1 = 13 + 4 * c by omega, upd_ne (by omega)])]
    rw [cp_step (n' + 2) c C 2 (14 + 4 * C) (r (14 + 4 * c)) _ (by omega) hC (by omega) (by omega) (by rw [show 12 + 4 * c + 2 = 14 + 4 * c by omega, upd_ne (by omega), upd_ne (by omega)])]
    rw [cp_step (n' + 1) c C 3 (15 + 4 * C) (r (15 + 4 * c)) _ (by omega) hC (by omega) (by omega) (by rw [show 12 + 4 * c + 3 = 15 + 4 * c by omega, upd_ne (by omega), upd_ne (by omega), upd_ne (by omega)])]
    rw [fX12_copyOn_L6]
    simp only [lt_]
    rw [if_pos (c := 4 ≤ nI (3 + 1)) (nI_le (a := 4) (Nat.le_refl 4) (by decide)), gN0, kN0, upd_ne (show 0 ≠ 15 + 4 * C by omega), upd_ne (show 0 ≠ 14 + 4 * C by omega), upd_ne (show 0 ≠ 13 + 4 * C by omega), upd_ne (show 0 ≠ 12 + 4 * C by omega), e0, nI_1]
  have k2 := k 2995
  rw [nI_0] at k2
  exact k2
theorem b_issue (h : Re n M) (jm : JM n M) (hn : n ≤ 850) {v : Nat} (hv : v ≤ 99) {C A : Nat} (hC : C < 10) (hA : A < 8) (e0 : M 2 0 = nI C) (e1 : M 2 1 = nI A) : ∃ M', rcall M 8 (nI v) 0 0 = some (nI C, M') ∧ JM (n + 1) M' ∧ Re (n + 1) M' ∧ M' 2 0 = nI (C + 1) ∧ M' 2 1 = nI (A + 1) ∧ M' 2 9 = M 2 9 := by
  obtain ⟨S, R⟩ := h.rel
  have q : (0 : Int32) ≤ nI v ∧ nI v ≤ 99 := ⟨nI_le (a := 0) (Nat.zero_le _) (by omega), nI_le (b := 99) hv (by decide)⟩
  obtain ⟨r', w1, w2, w3, w4⟩ := j_issue R jm.1 (by omega) hC hA e0 e1 (nI v)
  obtain ⟨r'', x1, x9⟩ := issueOn_9 hC hA e0 e1 (nI v)
  rw [w1] at x1
  obtain rfl : r' = r'' := (Prod.mk.inj (Option.some.inj x1)).2
  obtain ⟨M', u1, u2, u3, u4, u5, -⟩ := ok2 (c1 := -9999002) (c2 := -9999003) (m := fX12_issue M (nI v)) (x := nI C) (r' := r') R jm (fun S1 s1 s2 => by
    unfold fX12_issue
    rw [lt_eq, in1 (lo := 0) (hi := 99) (by decide) (by decide) q, if_neg n10, ci1 e0 e1 hC hA, m_bd, if_neg n10, ref0, m_bd2, if_pos rfl, s1, m_bd, s2, w1, m_bd2, lt_eq]) (w2.mono (by omega)) e0 (by omega) w3 (by omega) (by omega) (by omega)
  exact ⟨M', u1, u2, h.step hn (w := 8) (a := nI v) (b := 0) (c := 0) u1 u3, by rw [u5]; exact w3, by rw [u5]; exact w4, by rw [u5]; exact x9⟩
theorem b_copy (h : Re n M) (jm : JM n M) (hn : n ≤ 850) {k C : Nat} (hkC : k < C) (hC : C < 10) (e0 : M 2 0 = nI C) : ∃ M', rcall M 9 (nI k) 0 0 = some (nI C, M') ∧ JM (n + 1) M' ∧ Re (n + 1) M' ∧ M' 2 0 = nI (C + 1) ∧ M' 2 9 = M 2 9 := by
  obtain ⟨S, R⟩ := h.rel
  obtain ⟨r', w1, w2, w3, w4⟩ := j_copy jm.1 hC hkC e0
  obtain ⟨r'', x1, x9⟩ := copyOn_9 hC hkC e0
  rw [w1] at x1
  obtain rfl : r' = r'' := (Prod.mk.inj (Option.some.inj x1)).2
  obtain ⟨M', u1, u2, u3, u4, u5, -⟩ := ok2 (c1 := -9999001) (c2 := -9999003) (m := fX12_copy M (nI k)) (x := nI C) (r' := r') R jm (fun S1 s1 s2 => by
    unfold fX12_copy
    rw [cY R e0 (by omega) hkC, m_bd, if_neg n10, cc1 R e0 hkC hC, m_bd, if_neg n10, ref0, m_bd2, if_pos rfl, s1, m_bd, s2, w1, m_bd2, lt_eq]) (w2.mono (by omega)) e0 (by omega) w3 (by omega) (by omega) (by omega)
  exact ⟨M', u1, u2, h.step hn (w := 9) (a := nI k) (b := 0) (c := 0) u1 u3, by rw [u5]; exact w3, by rw [u5]; exact x9⟩
theorem set_ok {v : Nat} (hv : v ≤ 30) : fX12_isSetting (nI 1) (nI v) = 1 := by
  unfold fX12_isSetting
  rw [lt_eq, in1 (x := nI 1) (lo := 0) (hi := 3) (by decide) (by decide) (by decide), if_neg n10, if_neg (c := nI 1 = 0) (by decide), if_pos (c := nI 1 = 1) rfl, lt_eq, in1 (lo := 0) (hi := 30) (by decide) (by decide) ⟨nI_le (a := 0) (Nat.zero_le _) (by omega), nI_le (b := 30) hv (by decide)⟩, if_neg n10]
theorem l28_v (hL : L ≤ 260) {m : Nat} (hm : m < 2 ^ 31) : ∀ (d k N : Nat) (M : Mem), k + d = 3 → d < N → Re k M → JM k M → M 2 0 = nI k → M 2 1 = nI k → M 2 9 = 5 → fL_law_L28 xs L N M (nI m) 1 (nI k) = some 1 := by
  intro d
  induction d with
  | zero =>
    intro k N M hk hN h jm e0 e1 e9
    obtain ⟨N, rfl⟩ : ∃ m, N = m + 1 := ⟨N - 1, by omega⟩
    obtain rfl : k = 3 := by omega
    obtain ⟨M1, u1, u2, u3, u4, u5⟩ := b_copy h jm (by omega) (k := 0) (C := 3) (by omega) (by omega) e0
    rw [nI_0] at u1
    obtain ⟨S1, R1⟩ := u3.rel
    have q3 : nI m - nI m / 3 * 3 = nI (m % 3) := qd hm 3 (by decide) (by decide)
    have hm3 : m % 3 < 3 := Nat.mod_lt _ (by decide)
    obtain ⟨M2, v1, v2, v3, v4, v5⟩ := a_setOk R1 u2 (w := 1) (by decide) (set_ok (v := m % 3) (by omega)) 0
    have v1' : rcall M1 18 1 (nI (m % 3)) 0 = some (5, M2) := by
      rw [← e9, ← u5]
      exact v1
    have p1 : Pos M1 := ⟨4, by omega, by omega, u4⟩
    have h2 : Re 5 M2 := u3.step (by omega) v1' v3
    obtain ⟨j, hj, ec⟩ := cell_v (xs := xs) hL 1 (by omega)
    have hj21 : j % 21 < 21 := Nat.mod_lt _ (by decide)
    have q21 : nI j - nI j / 21 * 21 = nI (j % 21) := qd hj 21 (by decide) (by decide)
    have e10 : (10 : Int32) + nI (j % 21) = nI (10 + j % 21) := nI_add 10 _
    have ec' : fL_cell xs L 1 = some (nI j) := ec
    rw [fL_law_L28, if_pos (c := 3 ≤ nI 3) (by decide), gdt n10, u1, m_bd2, gdt (p := nI 3 = 3) rfl, m_bd2, gdp_i rfl, gdt (p := nI 3 = 3) rfl, q3, v1', m_bd2, gdt rfl, m_bd2, gdp_i rfl, gdt rfl, ec', m_bd, q21, e10, lt_eq]
    have t := turns_v (xs := xs) hL (K := 10 + j % 21) (by omega) (nI m) (10 + j % 21) 0 31 5 M2 (by omega) (by omega) (by omega) h2 v2 (v4 p1)
    rw [nI_0] at t
    exact t
  | succ d ih =>
    intro k N M hk hN h jm e0 e1 e9
    obtain ⟨N, rfl⟩ : ∃ m, N = m + 1 := ⟨N - 1, by omega⟩
    have hk3 : k < 3 := by omega
    have e19 : (1 : Int32) + 9 * nI k = nI (1 + 9 * k) := by
      show nI 1 + nI 9 * nI k = _
      rw [nI_mul, nI_add]
    have ed : nI m / nI (1 + 9 * k) = nI (m / (1 + 9 * k)) := pk_div hm (by omega) (by omega)
    have hq : m / (1 + 9 * k) < 2 ^ 31 := Nat.lt_of_le_of_lt (Nat.div_le_self _ _) hm
    have q60 : nI (m / (1 + 9 * k)) - nI (m / (1 + 9 * k)) / 60 * 60 = nI (m / (1 + 9 * k) % 60) := qd hq 60 (by decide) (by decide)
    have h60 : m / (1 + 9 * k) % 60 < 60 := Nat.mod_lt _ (by decide)
    generalize m / (1 + 9 * k) % 60 = v at q60 h60
    obtain ⟨M1, u1, u2, u3, u4, u5, u6⟩ := b_issue h jm (by omega) (v := v) (by omega) (show k < 10 by omega) (show k < 8 by omega) e0 e1
    rw [fL_law_L28, if_neg (c := 3 ≤ nI k) (nI_ge (b := 3) hk3 (by decide)), gdt n10, e19, gdt (nI_ne0 (n := 1 + 9 * k) (by omega) (by omega)), ed, q60, lt_eq, u1, m_bd2, gdt rfl, m_bd2, gdp_i rfl, gdt rfl, lt_eq, nI_1]
    exact ih (k + 1) N M1 (by omega) (by omega) u3 u2 u4 u5 (u6.trans e9)
theorem V0_ok : OKV 0 m0 V0 := by
  have hR : Rel 0 0 (clr (fun _ _ => 0)) (beginR (fun _ => 0)) := r_begin (fun _ _ => 0) (fun _ => 0)
  refine ⟨⟨hR.mono (by omega) (by omega), ⟨0, 0, by omega, by omega, ?_, ?_, ?_, fun k hk => absurd hk (Nat.not_lt_zero k)⟩, ⟨⟨rfl, rfl⟩, Or.inl rfl, Or.inl rfl, fun q => absurd (show (0 : Int32) = 1 from q) (by decide), fun q => absurd (show (0 : Int32) = 1 from q) (by decide)⟩, 0, by omega, ?_, ?_, fun i hi => absurd hi (Nat.not_lt_zero i)⟩, rfl⟩
  · rw [nI_0]; rfl
  · rw [nI_0]; rfl
  · rw [nI_0]; rfl
  · rw [nI_0]; rfl
  · rw [nI_0]; rfl
theorem norm_m0 : norm m0 = m0 := by
  funext k
  by_cases c4 : k = 4
  · subst c4; rw [norm_4]; rfl
  by_cases c3 : k = 3
  · subst c3; rw [norm_3]; rfl
  by_cases c0 : k = 0
  · subst c0
    funext j
    by_cases cj : j = 0
    · subst cj; rw [norm_00]; rfl
    · rw [norm_0 _ cj]
  · rw [norm_k _ c0 c3 c4]
theorem JM_0 : JM 0 m0 := by
  have e2 : m0 2 = beginR (fun _ => 0) := rfl
  have no0 : ∀ c : Nat, c < 10 → nI c < m0 2 0 → False := fun c hc h => by
    rw [e2, ini _ (by omega), ini_N 0 (by omega)] at h
    exact nI_pos (by omega) h
  refine ⟨⟨⟨0, 0, Nat.le_refl _, by omega, ?_, ?_, ?_⟩, fun a ha => ⟨0, by omega, ?_⟩, fun a ha _ => ?_, fun c hc h => (no0 c hc h).elim, fun g hg => ⟨2, by omega, by omega, ?_⟩, fun g k hg hk h => ?_, fun g hg _ => ?_, fun j hj => ?_⟩, ⟨0, fun _ => 0, by omega, ?_, fun k hk => absurd hk (Nat.not_lt_zero k), ?_, fun k hk => absurd hk (Nat.not_lt_zero k), fun k _ => Nat.zero_le 10⟩, fun s hs q => absurd (show (0 : Int32) = 1 from q) (by decide)⟩
  · rw [e2, ini _ (by omega), ini_N 3 (by omega), nI_0]
  · rw [e2, ini _ (by omega), ini_N 4 (by omega), nI_0]
  · rw [e2, ini _ (by omega), ini_N 3 (by omega)]
    rw [sumI_cg (g := fun _ => 0) 8 (fun a ha => by rw [ini _ (by omega), (ini_A a ha).2.2.2])]
    exact sumI_0 8
  · rw [e2, ini _ (by omega), (ini_A a ha).2.1, nI_0]
  · rw [e2, ini _ (by omega), (ini_A a ha).2.2.2]
  · rw [e2, ini _ (by omega), (ini_G g hg).1]; rfl
  · rw [e2, ini _ (by omega), (ini_G g hg).2.2.2] at h
    exact (nI_pos (by omega) h).elim
  · rw [e2, ini _ (by omega), (ini_G g hg).2.2.2]
  · exact if_neg (by omega)
  · rw [nI_0]; rfl
  · rw [e2, ini _ (by omega), ini_N 0 (by omega), nI_0]
theorem law_true (hL : L ≤ 260) (xs : Nat → Int32) : fLaw xs L = some 1 := by
  obtain ⟨m, hm, ec⟩ := cell_v (xs := xs) hL 0 (by omega)
  rw [nI_0] at ec
  unfold fLaw
  rw [ec, m_bd]
  have t := l28_v (xs := xs) hL hm 3 0 4 m0 (by omega) (by omega) ⟨⟨V0, V0_ok⟩, norm_m0⟩ JM_0 (by rw [show m0 2 = beginR (fun _ => 0) from rfl, ini _ (by omega), ini_N 0 (by omega), nI_0]) (by rw [show m0 2 = beginR (fun _ => 0) from rfl, ini _ (by omega), ini_N 1 (by omega), nI_0]) (by rw [show m0 2 = beginR (fun _ => 0) from rfl, ini _ (by omega)]; exact ini_S.2.1)
  rw [nI_0] at t
  exact t
end LAWS
