
/-! what the actions on a row come to -/
section JRES
variable {b B T : Nat} {r : Nat → Int32} {S : Nat → Nat → Int32}
theorem j_issue (R : Rel B T S r) (h : JJ b r) (hT : T < 2 ^ 30) {C A : Nat} (hC : C < 10) (hA : A < 8) (e0 : r 0 = nI C) (e1 : r 1 = nI A) (v : Int32) : ∃ r', fX12_issueOn r v = some (nI C, r') ∧ JJ b r' ∧ r' 0 = nI (C + 1) ∧ r' 1 = nI (A + 1) := by
  obtain ⟨t, ht, et⟩ := R.cT
  have hz := R.toRZ C hC (by rw [e0]; exact nI_le (Nat.le_refl _) (by omega))
  refine ⟨_, ?_, h.issue hC hA e0 e1 hz et (by omega) v (nI A) v, by rw [upd_ne (by omega), upd_at], upd_at _ _ _⟩
  unfold fX12_issueOn
  simp only [lt_]
  rw [gN0, gN1, kN0, kN1, e0, e1, gA0 hA, kA0 hA, gC0 hC, kC0 hC, gC1 hC, kC1 hC, upd_ne (show 0 ≠ 13 + 4 * C by omega), upd_ne (show 0 ≠ 12 + 4 * C by omega), upd_ne (show 0 ≠ 52 + 4 * A by omega), e0, nI_1, upd_ne (show 1 ≠ 0 by omega), upd_ne (show 1 ≠ 13 + 4 * C by omega), upd_ne (show 1 ≠ 12 + 4 * C by omega), upd_ne (show 1 ≠ 52 + 4 * A by omega), e1, nI_1]
theorem j_copy (h : JJ b r) {C c : Nat} (hC : C < 10) (hc : c < C) (e0 : r 0 = nI C) : ∃ r', fX12_copyOn r (nI c) = some (nI C, r') ∧ JJ b r' ∧ r' 0 = nI (C + 1) ∧ r' 1 = r 1 := by
  refine ⟨_, ?_, h.copy hC hc e0, upd_at _ _ _, by rw [upd_ne (by omega), upd_ne (by omega), upd_ne (by omega), upd_ne (by omega), upd_ne (by omega)]⟩
  unfold fX12_copyOn
  rw [gN0, kN0, lt_eq, e0]
  have k : ∀ n', fX12_copyOn_L6 (n' + 5) r (nI c) (nI C) (nI 0) = some (nI C, upd (upd (upd (upd (upd r (12 + 4 * C) (r (12 + 4 * c))) (13 + 4 * C) (r (13 + 4 * c))) (14 + 4 * C) (r (14 + 4 * c))) (15 + 4 * C) (r (15 + 4 * c))) 0 (nI (C + 1))) := by
    intro n'
    rw [cp_step (n' + 4) c C 0 (12 + 4 * C) (r (12 + 4 * c)) r (by omega) hC (by omega) (by omega) rfl]
    rw [cp_step (n' + 3) c C 1 (13 + 4 * C) (r (13 + 4 * c)) _ (by omega) hC (by omega) (by omega) (by rw [show 12 + 4 * c + 1 = 13 + 4 * c by omega, upd_ne (by omega)])]
    rw [cp_step (n' + 2) c C 2 (14 + 4 * C) (r (14 + 4 * c)) _ (by omega) hC (by omega) (by omega) (by rw [show 12 + 4 * c + 2 = 14 + 4 * c by omega, upd_ne (by omega), upd_ne (by omega)])]
    rw [cp_step (n' + 1) c C 3 (15 + 4 * C) (r (15 + 4 * c)) _ (by omega) hC (by omega) (by omega) (by rw [show 12 + 4 * c + 3 = 15 + 4 * c by omega, upd_ne (by omega), upd_ne (by omega), upd_ne (by omega)])]
    rw [fX12_copyOn_L6]
    simp only [lt_]
    rw [if_pos (c := 4 ≤ nI (3 + 1)) (nI_le (a := 4) (Nat.le_refl 4) (by decide)), gN0, kN0, upd_ne (show 0 ≠ 15 + 4 * C by omega), upd_ne (show 0 ≠ 14 + 4 * C by omega), upd_ne (show 0 ≠ 13 + 4 * C by omega), upd_ne (show 0 ≠ 12 + 4 * C by omega), e0, nI_1]
  have k2 := k 2995
  rw [nI_0] at k2
  exact k2
theorem j_pay (h : JJ b r) {a v : Nat} (ha : a < 8) (hv : v ≤ 99) : ∃ z r', fX12_payOn r (nI a) (nI v) = some (z, r') ∧ JJ (b + 99) r' ∧ r' 0 = r 0 ∧ r' 1 = r 1 := by
  obtain ⟨w, hw, ew⟩ := h.w a ha
  have h2 := (h.nk (nk52 ha) (r (52 + 4 * a) + nI v)).wait (show b ≤ b + 99 by omega) ha (show w + v ≤ b + 99 by omega)
  refine ⟨r (52 + 4 * a) + nI v, _, ?_, h2, by rw [upd_ne (by omega), upd_ne (by omega)], by rw [upd_ne (by omega), upd_ne (by omega)]⟩
  unfold fX12_payOn
  simp only [lt_]
  rw [gA0 ha, kA0 ha, gA1 ha, kA1 ha, gA0 ha, upd_ne (show 53 + 4 * a ≠ 52 + 4 * a by omega), ew, nI_add, upd_ne (show 52 + 4 * a ≠ 53 + 4 * a by omega), upd_at]
theorem j_open (R : Rel B T S r) (h : JJ b r) {g : Nat} (hg : g < 4) : ∃ z r', fX12_openOn r (nI g) = some (z, r') ∧ JJ b r' ∧ r' 0 = r 0 ∧ r' 1 = r 1 := by
  refine ⟨1 - r (86 + 5 * g), _, ?_, h.nk (nk86 hg) (1 - r (86 + 5 * g)), upd_ne (by omega), upd_ne (by omega)⟩
  unfold fX12_openOn
  simp only [lt_]
  rw [gG2 hg, kG2 hg, gG2 hg, gG2 hg, upd_at]
theorem j_run (R : Rel B T S r) (h : JJ b r) (hT : T + 60 < 2 ^ 30) {m : Nat} (hm : m ≤ 60) : ∃ z r', fX12_runOn r (nI m) = some (z, r') ∧ JJ b r' ∧ r' 0 = r 0 ∧ r' 1 = r 1 := by
  obtain ⟨t, ht, et⟩ := R.cT
  refine ⟨nI (t + m), upd r 2 (nI (t + m)), ?_, h.run et (by omega) (by omega) (by omega), upd_ne (by omega), upd_ne (by omega)⟩
  unfold fX12_runOn
  simp only [lt_]
  rw [gN2, kN2, et, nI_add, upd_at]
theorem j_down (R : Rel B T S r) (h : JJ b r) {g : Nat} (hg : g < 4) : ∃ z r', fX12_downOn r (nI g) = some (z, r') ∧ JJ b r' ∧ r' 0 = r 0 ∧ r' 1 = r 1 := by
  obtain ⟨m, h1, h2, h3⟩ := r_set2 R
  refine ⟨m, _, ?_, h.lineDn hg m, by rw [upd_ne (by omega), upd_ne (by omega)], by rw [upd_ne (by omega), upd_ne (by omega)]⟩
  unfold fX12_downOn
  simp only [lt_]
  rw [h2, m_bd, gG4 hg, kG4 hg, gG1 hg, kG1 hg, gG4 hg, upd_ne (show 88 + 5 * g ≠ 85 + 5 * g by omega), upd_at]
/-- a line that comes up: what its log brings -/
abbrev UpE (r r' : Nat → Int32) (g m : Nat) : Prop := ∃ p q F, p + q = m ∧ p ≤ F ∧ F ≤ 9 * p ∧ r' 3 = r 3 + nI p ∧ r' 5 = r 5 + nI q ∧ r' 4 = r 4 + nI F ∧ r' (87 + 5 * g) = 0 ∧ r' (85 + 5 * g) = 1 ∧ r' 0 = r 0 ∧ r' 1 = r 1
theorem j_upL {r0 : Nat → Int32} {g d : Nat} (hg : g < 4) (hd : d ≤ 12) (e87 : r0 (87 + 5 * g) = nI d) (hlog : ∀ k, k < d → ∃ a n f, a < 8 ∧ nI a < r0 1 ∧ n < 1024 ∧ 1 ≤ f ∧ f ≤ 9 ∧ r0 (104 + 36 * g + 3 * k) = nI a ∧ r0 (105 + 36 * g + 3 * k) = nI n ∧ r0 (106 + 36 * g + 3 * k) = nI f) (y : Int32) :
    ∀ (m k N b : Nat) (r : Nat → Int32), k + m = d → m < N → JJ b r → (∀ j, 84 ≤ j → j < 248 → r j = r0 j) → r 1 = r0 1 → ∃ r', fX12_upOn_L6 N r (nI g) y (nI k) = some (r' 5 - y, r') ∧ JJ (b + 9 * m) r' ∧ UpE r r' g m := by
  intro m
  induction m with
  | zero =>
    intro k N b r hk hN h hr h1
    obtain ⟨N, rfl⟩ : ∃ m, N = m + 1 := ⟨N - 1, by omega⟩
    obtain rfl : k = d := by omega
    refine ⟨_, ?_, h.lineUp hg, 0, 0, 0, rfl, Nat.le_refl _, by omega, ?_, ?_, ?_, ?_, ?_, ?_, ?_⟩
    · rw [fX12_upOn_L6]
      simp only [lt_]
      rw [gG3 hg, kG3 hg, hr _ (by omega) (by omega), e87, if_pos (nI_le (Nat.le_refl k) (by omega))]
      rw [gG3 hg, gG1 hg, kG1 hg, gG4 hg, kG4 hg, gN5, kN5]
    · rw [upd_ne (by omega), upd_ne (by omega), upd_ne (by omega)]; exact (Int32.add_zero _).symm
    · rw [upd_ne (by omega), upd_ne (by omega), upd_ne (by omega)]; exact (Int32.add_zero _).symm
    · rw [upd_ne (by omega), upd_ne (by omega), upd_ne (by omega)]; exact (Int32.add_zero _).symm
    · rw [upd_ne (by omega), upd_ne (by omega), upd_at]
    · rw [upd_ne (by omega), upd_at]
    · rw [upd_ne (by omega), upd_ne (by omega), upd_ne (by omega)]
    · rw [upd_ne (by omega), upd_ne (by omega), upd_ne (by omega)]
  | succ m ih =>
    intro k N b r hk hN h hr h1
    obtain ⟨N, rfl⟩ : ∃ m, N = m + 1 := ⟨N - 1, by omega⟩
    have hk12 : k < 12 := by omega
    obtain ⟨a, n, f, ha, haA, hn, hf1, hf9, ea, en, ef⟩ := hlog k (by omega)
    obtain ⟨z, r1, e, q1, E⟩ := e_settle ha hn r (nI f)
    have E' := E
    obtain ⟨e1, e3, e5, e4, e55, kk⟩ := E'
    obtain ⟨r', w1, w2, p, q, F, u1, u2, u3, u4, u5, u6, u7, u8, u9, u10⟩ := ih (k + 1) N (b + 9) r1 (by omega) (by omega) (h.settle ha (h1 ▸ haA) hf1 hf9 E) (fun j j1 j2 => (kk j (by omega) (by omega) (by omega) (by omega) (by omega) (by omega) (Or.inl j2)).trans (hr j j1 j2)) ((kk 1 (by omega) (by omega) (by omega) (by omega) (by omega) (by omega) (Or.inl (by omega))).trans h1)
    have k0 := kk 0 (by omega) (by omega) (by omega) (by omega) (by omega) (by omega) (Or.inl (by omega))
    have k1 := kk 1 (by omega) (by omega) (by omega) (by omega) (by omega) (by omega) (Or.inl (by omega))
    refine ⟨r', ?_, by rwa [show b + 9 * (m + 1) = b + 9 + 9 * m by omega], p + (1 - e), q + e, F + (if e = 0 then f else 0), by omega, ?_, ?_, ?_, ?_, ?_, u7, u8, u9.trans k0, u10.trans k1⟩
    · rw [fX12_upOn_L6]
      simp only [lt_]
      rw [gG3 hg, kG3 hg, hr _ (by omega) (by omega), e87, if_neg (nI_ge (show k < d by omega) (by omega)), gL0 hg hk12, kL0 hg hk12, gL1 hg hk12, kL1 hg hk12, gL2 hg hk12, kL2 hg hk12, hr _ (by omega) (by omega), hr _ (by omega) (by omega), hr _ (by omega) (by omega), ea, en, ef, q1, m_bd2, nI_1]
      exact w1
    · by_cases z : e = 0
      · rw [if_pos z]; omega
      · rw [if_neg z]; omega
    · by_cases z : e = 0
      · rw [if_pos z]; omega
      · rw [if_neg z]; omega
    · rw [u4, e3, Int32.add_assoc, nI_add, Nat.add_comm]
    · rw [u5, e5, Int32.add_assoc, nI_add, Nat.add_comm]
    · rw [u6, e4, Int32.add_assoc, Nat.add_comm F]
      by_cases z : e = 0
      · rw [if_pos z, if_pos z, nI_add]
      · rw [if_neg z, if_neg z, Int32.zero_add, Nat.zero_add]
theorem log_all (R : Rel B T S r) (h : JJ b r) (hB : B < 1024) {g d : Nat} (hg : g < 4) (hd : d ≤ 12) (ed : r (87 + 5 * g) = nI d) : ∀ k, k < d → ∃ a n f, a < 8 ∧ nI a < r 1 ∧ n < 1024 ∧ 1 ≤ f ∧ f ≤ 9 ∧ r (104 + 36 * g + 3 * k) = nI a ∧ r (105 + 36 * g + 3 * k) = nI n ∧ r (106 + 36 * g + 3 * k) = nI f := fun k hk => by
  have hlt : nI k < r (87 + 5 * g) := by rw [ed]; exact nI_lt hk (by omega)
  obtain ⟨a, ha, haA, ea⟩ := R.lacc g k hg (by omega) hlt
  obtain ⟨n, hn, en⟩ := R.lcnt g k hg (by omega) hlt
  obtain ⟨-, f, h1, h9, ef⟩ := h.l g k hg (by omega) hlt
  exact ⟨a, n, f, ha, haA, by omega, h1, h9, ea, en, ef⟩
theorem j_up (R : Rel B T S r) (h : JJ b r) (hB : B < 1024) {g : Nat} (hg : g < 4) : ∃ r' d, r (87 + 5 * g) = nI d ∧ d ≤ 12 ∧ fX12_upOn r (nI g) = some (r' 5 - r 5, r') ∧ JJ (b + 108) r' ∧ UpE r r' g d := by
  obtain ⟨d, hd, ed⟩ := R.glog g hg
  obtain ⟨r', w1, w2, w3⟩ := j_upL hg hd ed (log_all R h hB hg hd ed) (r 5) d 0 3000 b r (by omega) (by omega) h (fun _ _ _ => rfl) rfl
  refine ⟨r', d, ed, hd, ?_, w2.mono (by omega), w3⟩
  rw [nI_0] at w1
  unfold fX12_upOn
  rw [gN5, kN5, lt_eq]
  exact w1
end JRES
