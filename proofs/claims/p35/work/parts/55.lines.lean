/-! lines that go down and come up -/
theorem lt_eq {α β : Type} (a : α) (f : α → β) : lt_ a f = f a := (fun h : lt_ a f = f a => h) rfl
theorem m_idx48 (g k : Nat) : nI g * 12 + nI k = nI (12 * g + k) := by
  show nI g * nI 12 + nI k = _
  rw [nI_mul, nI_add, Nat.mul_comm]
theorem m_20 : ((2 : Int32) = 0) = False := eq_false (by decide)
theorem m_21 : ((2 : Int32) = 1) = False := eq_false (by decide)
theorem lgN0 (S : Nat → Nat → Int32) {g k : Nat} (hg : g < 4) (hk : k < 12) : fX3_loggedNumber S (nI g) (nI k) 0 = S 33 (12 * g + k) := by
  unfold fX3_loggedNumber
  simp only [lt_]
  rw [if_true, m_idx48, m_fget _ (by omega) (by decide)]
theorem lgN1 (S : Nat → Nat → Int32) {g k : Nat} (hg : g < 4) (hk : k < 12) : fX3_loggedNumber S (nI g) (nI k) 1 = S 35 (12 * g + k) := by
  unfold fX3_loggedNumber
  simp only [lt_]
  rw [if_neg (by decide), if_true, m_idx48, m_fget _ (by omega) (by decide)]
theorem lgN2 (S : Nat → Nat → Int32) {g k : Nat} (hg : g < 4) (hk : k < 12) : fX3_loggedNumber S (nI g) (nI k) 2 = S 37 (12 * g + k) := by
  unfold fX3_loggedNumber
  simp only [lt_]
  rw [if_neg (by decide), if_neg (by decide), m_idx48, m_fget _ (by omega) (by decide)]
theorem upd_comm {f : Nat → Int32} {i j : Nat} {x y : Int32} (h : i ≠ j) : upd (upd f i x) j y = upd (upd f j y) i x := by
  funext k
  by_cases e : k = j
  · subst e; rw [upd_at, upd_ne (fun q => h q.symm), upd_at]
  · rw [upd_ne e]
    by_cases e2 : k = i
    · subst e2; rw [upd_at, upd_at]
    · rw [upd_ne e2, upd_ne e2, upd_ne e]
theorem r_upL {B : Nat} (hB : B < 1024) {g d : Nat} (hg : g < 4) (hd : d ≤ 12) (y : Int32) : ∀ (m k n j T : Nat) (S : Nat → Nat → Int32) (r : Nat → Int32), k + m = d → m < n → T + 99 * m < 2 ^ 30 → Rel B T S r → r (87 + 5 * g) = nI d → r 5 = nI j + y → ∃ j' r' S', j' ≤ j + m ∧ fX12_upOn_L6 n r (nI g) y (nI k) = some (nI j', r') ∧ fX10_bringUp_L17 n S (nI g) y (nI d) (nI k) = some (nI j', S') ∧ Rel B (T + 99 * m) S' r' ∧ r' 0 = r 0 ∧ r' 1 = r 1 := by
  intro m
  induction m with
  | zero =>
    intro k n j T S r hk hn hT R ed e5
    obtain ⟨n, rfl⟩ : ∃ m, n = m + 1 := ⟨n - 1, by omega⟩
    have hkd : k = d := by omega
    subst hkd
    have R3 := ((R.mSize0 hg).mUp hg 1 (Or.inr rfl) (fun h => absurd h (by decide))).mForget hg (upd_at _ _ _) 0
    have e2 : S 0 7 = nI j + y := (R.eN 3 (by decide)).trans e5
    refine ⟨j, _, _, by omega, ?_, ?_, R3, ?_, ?_⟩
    · rw [fX12_upOn_L6]
      simp only [lt_]
      rw [gG3 hg, kG3 hg, ed, if_pos (nI_le (Nat.le_refl k) (by omega))]
      rw [gG3 hg, gG1 hg, kG1 hg, gG4 hg, kG4 hg, gN5, kN5, upd_ne (show 5 ≠ 88 + 5 * g by omega), upd_ne (show 5 ≠ 85 + 5 * g by omega), upd_ne (show 5 ≠ 87 + 5 * g by omega), e5, Int32.add_sub_cancel]
    · rw [fX10_bringUp_L17]
      unfold fX3_emptyLog fX3_setLine
      simp only [lt_]
      rw [if_pos (nI_le (Nat.le_refl k) (by omega)), m_bd, if_neg (by decide), m_bd, m_fput _ _ hg (by decide), m_fput _ _ hg (by decide)]
      show some (S 0 7 - y, _) = _
      rw [e2, Int32.add_sub_cancel]
    · rw [upd_ne (by omega), upd_ne (by omega), upd_ne (by omega)]
    · rw [upd_ne (by omega), upd_ne (by omega), upd_ne (by omega)]
  | succ m ih =>
    intro k n j T S r hk hn hT R ed e5
    obtain ⟨n, rfl⟩ : ∃ m, n = m + 1 := ⟨n - 1, by omega⟩
    have hk12 : k < 12 := by omega
    have hlt : nI k < r (87 + 5 * g) := by rw [ed]; exact nI_lt (by omega) (by omega)
    obtain ⟨e1, e2, e3⟩ := R.log g k hg hk12 hlt
    obtain ⟨a, ha, haA, ea⟩ := R.lacc g k hg hk12 hlt
    obtain ⟨c, hc, ec⟩ := R.lcnt g k hg hk12 hlt
    obtain ⟨z, r1, S1, q1, q2, R1, K, K0, K1, d1, hd1, e51⟩ := r_settle R hB (by omega) ha hc _ (R.mlog g k hg hk12)
    obtain ⟨j', r', S', hj, w1, w2, R', K0', K1'⟩ := ih (k + 1) n (j + d1) (T + 99) S1 r1 (by omega) (by omega) (by omega) R1 ((K _ (by omega) (by omega)).trans ed) (by rw [e51, e5, Int32.add_assoc, Int32.add_comm y, ← Int32.add_assoc, nI_add])
    refine ⟨j', r', S', by omega, ?_, ?_, by rwa [show T + 99 * (m + 1) = T + 99 + 99 * m by omega], K0'.trans K0, K1'.trans K1⟩
    · rw [fX12_upOn_L6]
      simp only [lt_]
      rw [gG3 hg, kG3 hg, ed, if_neg (nI_ge (show k < d by omega) (by omega)), gL0 hg hk12, kL0 hg hk12, gL1 hg hk12, kL1 hg hk12, gL2 hg hk12, kL2 hg hk12, ea, ec, q1, m_bd2, nI_1]
      exact w1
    · rw [fX10_bringUp_L17]
      simp only [lt_]
      rw [if_neg (nI_ge (show k < d by omega) (by omega)), lgN0 S hg hk12, lgN1 S hg hk12, lgN2 S hg hk12, e1, e2, e3, ea, ec, q2, m_bd, nI_1]
      exact w2
section LINES
variable {B T : Nat} {S : Nat → Nat → Int32} {r : Nat → Int32}
theorem r_up (R : Rel B T S r) (hB : B < 1024) (hT : T + 1188 < 2 ^ 30) {g : Nat} (hg : g < 4) : ∃ j r' S', j ≤ 12 ∧ fX12_upOn r (nI g) = some (nI j, r') ∧ fX10_bringUp S (nI g) = some (nI j, S') ∧ Rel B (T + 1188) S' r' ∧ r' 0 = r 0 ∧ r' 1 = r 1 := by
  obtain ⟨d, hd, ed⟩ := R.glog g hg
  obtain ⟨j, r', S', hj, w1, w2, R', k0, k1⟩ := r_upL hB hg hd (r 5) d 0 3000 0 T S r (by omega) (by omega) (by omega) R ed (by rw [nI_0, Int32.zero_add])
  refine ⟨j, r', S', by omega, ?_, ?_, R'.mono (Nat.le_refl _) (by omega), k0, k1⟩
  · rw [nI_0] at w1
    unfold fX12_upOn
    rw [gN5, kN5, lt_eq]
    exact w1
  · rw [nI_0] at w2
    unfold fX10_bringUp fX3_logSize
    rw [lt_eq, lt_eq, lt_eq, m_fget _ hg (by decide), show S 0 7 = r 5 from R.eN 3 (by decide), (R.gate g hg).2.2.2, ed]
    exact w2
theorem mB8p : ∀ x0 x1 x2 x3 x4 x5 x6 x7 : Bool, ¬ mB (fun i => [x0, x1, x2, x3, x4, x5, x6, x7].getD i false) 8 < 0 := by decide +kernel
theorem mB_pos (b : Nat → Bool) {A : Nat} (h : A ≤ 8) : ¬ mB b A < 0 := by
  rw [← mB_lim b A 8 h]
  have e : ∀ i, i < 8 → (fun i => decide (i < A) && b i) i = [(fun i => decide (i < A) && b i) 0, (fun i => decide (i < A) && b i) 1, (fun i => decide (i < A) && b i) 2, (fun i => decide (i < A) && b i) 3, (fun i => decide (i < A) && b i) 4, (fun i => decide (i < A) && b i) 5, (fun i => decide (i < A) && b i) 6, (fun i => decide (i < A) && b i) 7].getD i false := fun i hi => by
    rcases (show i = 0 ∨ i = 1 ∨ i = 2 ∨ i = 3 ∨ i = 4 ∨ i = 5 ∨ i = 6 ∨ i = 7 by omega) with rfl | rfl | rfl | rfl | rfl | rfl | rfl | rfl <;> rfl
  rw [mB_cg 8 e]
  exact mB8p _ _ _ _ _ _ _ _
theorem r_set2 (R : Rel B T S r) : ∃ m, fX5_blockedSet S = some m ∧ fX12_blocked r = some m ∧ ¬ m < 0 := by
  obtain ⟨A, hA, eA⟩ := R.cA
  have e : fX5_blockedSet S = some (mB (blk S) A) := blk_set A hA (R.eA.trans eA) A 0 3000 (by omega) (by omega)
  exact ⟨_, e, (r_blocked R).trans e, mB_pos _ hA⟩
theorem r_down (R : Rel B T S r) {g : Nat} (hg : g < 4) : ∃ x r' S', fX12_downOn r (nI g) = some (x, r') ∧ fX10_takeDown S (nI g) = some (x, S') ∧ Rel B T S' r' ∧ ¬ x < 0 ∧ r' 0 = r 0 ∧ r' 1 = r 1 := by
  obtain ⟨m, h1, h2, h3⟩ := r_set2 R
  have R2 := (R.mKept hg m).mUp hg 0 (Or.inl rfl) (fun _ => (upd_at _ _ _).trans (upd_at _ _ _).symm)
  refine ⟨m, _, _, ?_, ?_, R2, h3, ?_, ?_⟩
  · unfold fX12_downOn
    simp only [lt_]
    rw [h2, m_bd, gG4 hg, kG4 hg, gG1 hg, kG1 hg, gG4 hg, upd_ne (show 88 + 5 * g ≠ 85 + 5 * g by omega), upd_at]
  · unfold fX10_takeDown fX3_setLine
    simp only [lt_]
    rw [h1, m_bd, if_true, m_bd, m_fput _ _ hg (by decide), m_fput _ _ hg (by decide), m_fget _ hg (by decide)]
    show some (upd (S 25) g m g, _) = _
    rw [upd_at]
  · rw [upd_ne (by omega), upd_ne (by omega)]
  · rw [upd_ne (by omega), upd_ne (by omega)]
end LINES
