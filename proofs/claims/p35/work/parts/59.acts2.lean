section ACTS2
variable {B T : Nat} {S : Nat → Nat → Int32} {r : Nat → Int32}
theorem in99_T {v : Int32} {T' : Nat} (h : in99 v) (hT : 99 ≤ T') : inT T' v := ⟨by have := h.1; omega, by have := h.2; omega⟩
theorem r_issue (R : Rel B T S r) (hr : ¬ fX10_hasRoomForAccount S = 0) {v : Int32} (hv : in99 v) : ∃ c r' S', c < 10 ∧ fX12_issueOn r v = some (nI c, r') ∧ fX10_makeAccount S v = some (nI c, S') ∧ Rel B (T + 99) S' r' := by
  obtain ⟨A, C, hA, hC, e1, e0⟩ := room R hr
  have R1 := ((R.mono (Nat.le_refl B) (show T ≤ T + 99 by omega)).mBal hA v (in99_T hv (by omega))).mAcc hA (by rw [upd_ne (by omega)]; exact e1)
  have e10 : S 10 0 = nI A := R.eA.trans e1
  have e11 : S 1 0 = nI C := R.eC.trans e0
  refine ⟨C, _, _, hC, ?_, ?_, R1.mCard (C := C) (o := A) (n := 0) (t := 0) (m := v) (S' := va_up (va_up (va_up (va_up (va_up (va_up (va_up S 12 (upd (S 12) A v)) 10 (upd (S 10) 0 (nI (A + 1)))) 3 (upd (S 3) C (nI A))) 5 (upd (S 5) C v)) 7 (upd (S 7) C 0)) 9 (upd (S 9) C (-1))) 1 (upd (S 1) 0 (nI (C + 1)))) (r' := upd (upd (upd (upd (upd r (52 + 4 * A) v) (12 + 4 * C) (nI A)) (13 + 4 * C) v) 0 (nI (C + 1))) 1 (nI (A + 1))) hC ?_ hA ?_ (by omega) (by omega) (show upd (S 1) 0 (nI (C + 1)) 0 = _ from upd_at _ _ _) rfl rfl rfl rfl ?_ ?_ ?_ ?_ ?_ ?_ ?_⟩
  · unfold fX12_issueOn
    simp only [lt_]
    rw [gN0, gN1, kN0, kN1, e0, e1, gA0 hA, kA0 hA, gC0 hC, kC0 hC, gC1 hC, kC1 hC, upd_ne (show 0 ≠ 13 + 4 * C by omega), upd_ne (show 0 ≠ 12 + 4 * C by omega), upd_ne (show 0 ≠ 52 + 4 * A by omega), e0, nI_1, upd_ne (show 1 ≠ 0 by omega), upd_ne (show 1 ≠ 13 + 4 * C by omega), upd_ne (show 1 ≠ 12 + 4 * C by omega), upd_ne (show 1 ≠ 52 + 4 * A by omega), e1, nI_1]
  · unfold fX10_makeAccount fX5_make
    simp only [lt_]
    rw [e10, m_fput _ _ hA (by decide), m_bd2]
    show bd2 (fX0_make (va_up (va_up S 12 (upd (S 12) A v)) 10 (upd (S 10) 0 (S 10 0 + 1))) (nI A) v 0 (-1)) _ = _
    rw [e10, nI_1]
    unfold fX0_make
    simp only [lt_]
    show bd2 (some (S 1 0, va_up (va_up (va_up (va_up (va_up (va_up (va_up S 12 (upd (S 12) A v)) 10 (upd (S 10) 0 (nI (A + 1)))) 3 (fput 10 (S 3) (S 1 0) (nI A))) 5 (fput 10 (S 5) (S 1 0) v)) 7 (fput 10 (S 7) (S 1 0) 0)) 9 (fput 10 (S 9) (S 1 0) (-1))) 1 (upd (S 1) 0 (S 1 0 + 1)))) _ = _
    rw [e11, m_fput _ _ hC (by decide), m_fput _ _ hC (by decide), m_fput _ _ hC (by decide), m_fput _ _ hC (by decide), nI_1, m_bd2]
  · rw [upd_ne (by omega), upd_ne (by omega)]; exact e0
  · rw [upd_at]; exact nI_lt (by omega) (by omega)
  · intro k k1 k3 k5 k7 k9
    rw [va_up_n k1, va_up_n k9, va_up_n k7, va_up_n k5, va_up_n k3]
    rfl
  · rw [upd_ne (by omega), upd_at]
  · rw [upd_ne (by omega), upd_ne (by omega), upd_ne (by omega), upd_at]
  · rw [upd_ne (by omega), upd_ne (by omega), upd_at]
  · have z := (R.toRZ C hC (by rw [e0]; exact nI_le (Nat.le_refl _) (by omega))).1
    rw [upd_ne (by omega), upd_ne (by omega), upd_ne (by omega), upd_ne (by omega), upd_ne (by omega), z, nI_0]
  · have z := (R.toRZ C hC (by rw [e0]; exact nI_le (Nat.le_refl _) (by omega))).2
    rw [upd_ne (by omega), upd_ne (by omega), upd_ne (by omega), upd_ne (by omega), upd_ne (by omega), z, nI_0]
  · intro j h0 h12 h13 h14 h15
    by_cases e : j = 1
    · subst e; rw [upd_at, upd_at]
    · rw [upd_ne e, upd_ne h0, upd_ne h13, upd_ne h12, upd_ne e]
theorem cp_step (n c q k i : Nat) (v : Int32) (f : Nat → Int32) (hc : c < 10) (hq : q < 10) (hk : k < 4) (hi : 12 + 4 * q + k = i) (hv : f (12 + 4 * c + k) = v) : fX12_copyOn_L6 (n + 1) f (nI c) (nI q) (nI k) = fX12_copyOn_L6 n (upd f i v) (nI c) (nI q) (nI (k + 1)) := by
  have h1 := mx (aC c k) (show 12 + 4 * c + k < 1272 by omega) (by decide)
  have h2 := mx (aC q k) (show 12 + 4 * q + k < 1272 by omega) (by decide)
  rw [fX12_copyOn_L6]
  simp only [lt_]
  rw [if_neg (c := 4 ≤ nI k) (nI_ge (b := 4) hk (by decide)), m_gd h1.1, m_gd h2.1, h1.2, h2.2, nI_1, hi, hv]
theorem r_copy (R : Rel B T S r) {c : Nat} (hc : c < 10) (hC : nI c < r 0) (hf : fX0_isFull S = 0) : ∃ q r' S', 0 < q ∧ q < 10 ∧ fX12_copyOn r (nI c) = some (nI q, r') ∧ fX0_makeTwin S (nI c) = some (nI q, S') ∧ Rel B T S' r' := by
  obtain ⟨C, hC10, e0⟩ := R.cC
  have hq : C < 10 := by
    rcases Nat.lt_or_ge C 10 with q | q
    · exact q
    · rw [fullC_t (by rw [R.eC, e0]; exact nI_le (a := 10) q (by omega))] at hf; exact absurd hf (by decide)
  have hcC : c < C := by
    rw [e0] at hC
    exact (nI_ltI (show c < 2 ^ 31 by omega) (by omega)).mp hC
  obtain ⟨o, ho, hoA, eo⟩ := R.cown c hc hC
  obtain ⟨n, hn, en⟩ := R.ccnt c hc hC
  obtain ⟨t, ht, et⟩ := R.clat c hc hC
  obtain ⟨h3, h5, h7, h9⟩ := R.card c hc hC
  have e11 : S 1 0 = nI C := R.eC.trans e0
  refine ⟨C, _, _, by omega, hq, ?_, ?_, R.mCard (C := C) (o := o) (n := n) (t := t) (m := r (13 + 4 * c)) (S' := va_up (va_up (va_up (va_up (va_up S 3 (upd (S 3) C (nI o))) 5 (upd (S 5) C (r (13 + 4 * c)))) 7 (upd (S 7) C (nI n))) 9 (upd (S 9) C (nI t - 1))) 1 (upd (S 1) 0 (nI (C + 1)))) (r' := upd (upd (upd (upd (upd r (12 + 4 * C) (nI o)) (13 + 4 * C) (r (13 + 4 * c))) (14 + 4 * C) (nI n)) (15 + 4 * C) (nI t)) 0 (nI (C + 1))) hq e0 ho hoA hn ht (show upd (S 1) 0 (nI (C + 1)) 0 = _ from upd_at _ _ _) rfl rfl rfl rfl ?_ (upd_at _ _ _) ?_ ?_ ?_ ?_ ?_⟩
  · unfold fX12_copyOn
    rw [gN0, kN0, lt_eq, e0]
    have k : ∀ n', fX12_copyOn_L6 (n' + 5) r (nI c) (nI C) (nI 0) = some (nI C, upd (upd (upd (upd (upd r (12 + 4 * C) (nI o)) (13 + 4 * C) (r (13 + 4 * c))) (14 + 4 * C) (nI n)) (15 + 4 * C) (nI t)) 0 (nI (C + 1))) := by
      intro n'
      rw [cp_step (n' + 4) c C 0 (12 + 4 * C) (nI o) r hc hq (by omega) (by omega) eo]
      rw [cp_step (n' + 3) c C 1 (13 + 4 * C) (r (13 + 4 * c)) _ hc hq (by omega) (by omega) (by rw [show 12 + 4 * c + 1 = 13 + 4 * c by omega, upd_ne (by omega)])]
      rw [cp_step (n' + 2) c C 2 (14 + 4 * C) (nI n) _ hc hq (by omega) (by omega) (by rw [show 12 + 4 * c + 2 = 14 + 4 * c by omega, upd_ne (by omega), upd_ne (by omega), en])]
      rw [cp_step (n' + 1) c C 3 (15 + 4 * C) (nI t) _ hc hq (by omega) (by omega) (by rw [show 12 + 4 * c + 3 = 15 + 4 * c by omega, upd_ne (by omega), upd_ne (by omega), upd_ne (by omega), et])]
      rw [fX12_copyOn_L6]
      simp only [lt_]
      rw [if_pos (c := 4 ≤ nI (3 + 1)) (nI_le (a := 4) (Nat.le_refl 4) (by decide)), gN0, kN0, upd_ne (show 0 ≠ 15 + 4 * C by omega), upd_ne (show 0 ≠ 14 + 4 * C by omega), upd_ne (show 0 ≠ 13 + 4 * C by omega), upd_ne (show 0 ≠ 12 + 4 * C by omega), e0, nI_1]
    have k2 := k 2995
    rw [nI_0] at k2
    exact k2
  · unfold fX0_makeTwin
    simp only [lt_]
    rw [m_fget _ hc (by decide), m_fget _ hc (by decide), m_fget _ hc (by decide), m_fget _ hc (by decide), h3, h5, h7, h9, eo, en, et]
    unfold fX0_make
    simp only [lt_]
    show bd2 (some (S 1 0, va_up (va_up (va_up (va_up (va_up S 3 (fput 10 (S 3) (S 1 0) (nI o))) 5 (fput 10 (S 5) (S 1 0) (r (13 + 4 * c)))) 7 (fput 10 (S 7) (S 1 0) (nI n))) 9 (fput 10 (S 9) (S 1 0) (nI t - 1))) 1 (upd (S 1) 0 (S 1 0 + 1)))) _ = _
    rw [e11, m_fput _ _ hq (by decide), m_fput _ _ hq (by decide), m_fput _ _ hq (by decide), m_fput _ _ hq (by decide), nI_1, m_bd2]
  · intro k k1 k3 k5 k7 k9
    rw [va_up_n k1, va_up_n k9, va_up_n k7, va_up_n k5, va_up_n k3]
  · rw [upd_ne (by omega), upd_ne (by omega), upd_ne (by omega), upd_ne (by omega), upd_at]
  · rw [upd_ne (by omega), upd_ne (by omega), upd_ne (by omega), upd_at]
  · rw [upd_ne (by omega), upd_ne (by omega), upd_at]
  · rw [upd_ne (by omega), upd_at]
  · intro j h0 h12 h13 h14 h15
    rw [upd_ne h0, upd_ne h15, upd_ne h14, upd_ne h13, upd_ne h12]
theorem r_pay (R : Rel B T S r) (hT : T + 99 < 2 ^ 30) {a : Nat} (ha : a < 8) {v : Int32} (hv : in99 v) : ∃ z r' S', fX12_payOn r (nI a) v = some (z, r') ∧ fX5_payIn S (nI a) v = some (z, S') ∧ Rel B (T + 99) S' r' := by
  obtain ⟨h1, h2, h3, h4⟩ := R.acc a ha
  have R2 := ((R.mono (Nat.le_refl B) (show T ≤ T + 99 by omega)).mBal ha (r (52 + 4 * a) + v) (in_add (R.mbal a ha) hv (Nat.le_refl _) hT)).mWait ha (r (53 + 4 * a) + v)
  refine ⟨r (52 + 4 * a) + v, _, _, ?_, ?_, R2⟩
  · unfold fX12_payOn
    simp only [lt_]
    rw [gA0 ha, kA0 ha, gA1 ha, kA1 ha, gA0 ha, upd_ne (show 53 + 4 * a ≠ 52 + 4 * a by omega), upd_ne (show 52 + 4 * a ≠ 53 + 4 * a by omega), upd_at]
  · unfold fX5_payIn
    simp only [lt_]
    rw [m_finc _ _ ha (by decide), m_finc _ _ ha (by decide), m_fget _ ha (by decide)]
    show some (upd (S 12) a (S 12 a + v) a, va_up (va_up S 12 (upd (S 12) a (S 12 a + v))) 14 (upd (S 14) a (S 14 a + v))) = _
    rw [upd_at, h1, h2]
    rfl
theorem open01 (R : Rel B T S r) {g : Nat} (hg : g < 4) : fX3_isOpen S (nI g) = 0 ∧ r (86 + 5 * g) = 0 ∨ fX3_isOpen S (nI g) = 1 ∧ r (86 + 5 * g) = 1 := by
  unfold fX3_isOpen
  simp only [lt_]
  rw [m_fget _ hg (by decide), (R.gate g hg).2.2.1]
  rcases R.gopen g hg with e | e <;> rw [e]
  · exact Or.inl ⟨rfl, rfl⟩
  · exact Or.inr ⟨rfl, rfl⟩
theorem r_open (R : Rel B T S r) {g : Nat} (hg : g < 4) : ∃ z r' S', fX12_openOn r (nI g) = some (z, r') ∧ fX3_turnOpen S (nI g) = some (z, S') ∧ Rel B T S' r' ∧ ¬ z < 0 := by
  unfold fX12_openOn fX3_turnOpen
  simp only [lt_]
  rw [gG2 hg, kG2 hg, gG2 hg, gG2 hg, upd_at, m_fput _ _ hg (by decide), m_fput _ _ hg (by decide), m_fget _ hg (by decide), m_fget _ hg (by decide)]
  rcases open01 R hg with ⟨e1, e⟩ | ⟨e1, e⟩ <;> rw [e1, e]
  · rw [if_pos rfl]
    refine ⟨1, _, _, rfl, ?_, R.mOpen hg 1 (Or.inr rfl), by decide⟩
    show some (upd (S 29) g 1 g, _) = _
    rw [upd_at]
  · rw [if_neg (by decide)]
    refine ⟨0, _, _, rfl, ?_, R.mOpen hg 0 (Or.inl rfl), by decide⟩
    show some (upd (S 29) g 0 g, _) = _
    rw [upd_at]
theorem r_run (R : Rel B T S r) {m : Nat} (hT : T + 60 < 2 ^ 30) (hm : m ≤ 60) : ∃ z r', fX12_runOn r (nI m) = some (nI z, r') ∧ z < 2 ^ 30 ∧ m ≤ z ∧ S 0 4 + nI m = nI z ∧ r' 2 = nI z ∧ Rel B (T + 60) (va_up S 0 (upd (S 0) 4 (nI z))) r' ∧ (∀ j, j ≠ 2 → r' j = r j) := by
  obtain ⟨t, ht, et⟩ := R.cT
  have e : S 0 4 = nI t := (R.eN 0 (by decide)).trans et
  refine ⟨t + m, upd r 2 (nI (t + m)), ?_, by omega, by omega, by rw [e, nI_add], upd_at _ _ _, (R.mono (Nat.le_refl B) (show T ≤ T + 60 by omega)).mMin (by omega), fun j hj => upd_ne hj⟩
  unfold fX12_runOn
  simp only [lt_]
  rw [gN2, kN2, et, nI_add, upd_at]
theorem r_tryUp (R : Rel B T S r) (hB : B < 1024) (hT : T + 1188 < 2 ^ 30) {g : Nat} (hg : g < 4) : ∃ z r' S', fX12_doesLine r (nI g) 1 = some (z, r') ∧ fX10_tryUp S (nI g) = some (z, S') ∧ Rel B (T + 1188) S' r' ∧ (z = 0 ∨ z = 1) ∧ r' 0 = r 0 ∧ r' 1 = r 1 := by
  unfold fX12_doesLine fX10_tryUp
  simp only [lt_]
  rw [hasG S hg, if_neg (by decide), r_isUp R hg, m_bd]
  rcases up01 R hg with ⟨u, u2⟩ | ⟨u, u2⟩
  · obtain ⟨j, r', S', hj, w1, w2, R', k0, k1⟩ := r_up R hB hT hg
    rw [u, if_neg (by decide), if_neg (by decide), if_pos rfl, w1, w2, m_bd2, m_bd2, if_neg (nI_pos (by omega))]
    exact ⟨1, r', S', rfl, rfl, R', Or.inr rfl, k0, k1⟩
  · rw [u, if_pos rfl, if_neg (by decide)]
    exact ⟨0, r, S, rfl, rfl, R.mono (Nat.le_refl _) (by omega), Or.inl rfl, rfl, rfl⟩
theorem r_tryDown (R : Rel B T S r) {g : Nat} (hg : g < 4) : ∃ z r' S', fX12_doesLine r (nI g) 0 = some (z, r') ∧ fX10_tryDown S (nI g) = some (z, S') ∧ Rel B T S' r' ∧ (z = 0 ∨ z = 1) := by
  unfold fX12_doesLine fX10_tryDown
  simp only [lt_]
  rw [hasG S hg, if_neg (c := (1 : Int32) = 0) (by decide), r_isUp R hg, m_bd]
  rcases up01 R hg with ⟨u, u2⟩ | ⟨u, u2⟩
  · rw [u, if_pos rfl, if_pos rfl]
    exact ⟨0, r, S, rfl, rfl, R, Or.inl rfl⟩
  · obtain ⟨x, r', S', w1, w2, R', hx, -⟩ := r_down R hg
    rw [u, if_neg (c := (1 : Int32) = 0) (by decide), if_true, if_neg (c := (1 : Int32) = 0) (by decide), w1, w2, m_bd2, m_bd2, if_neg hx]
    exact ⟨1, r', S', rfl, rfl, R', Or.inr rfl⟩
end ACTS2
