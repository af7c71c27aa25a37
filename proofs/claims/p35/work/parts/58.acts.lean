/-! the other actions -/
theorem in_le (x lo hi : Int32) : fX12_in x.toInt64 lo.toInt64 hi.toInt64 = if x < lo then 0 else if hi < x then 0 else 1 := by
  have e : ∀ a b : Int32, a.toInt64 < b.toInt64 ↔ a < b := fun a b => by rw [Int64.lt_iff_toInt_lt, Int32.lt_iff_toInt_lt, Int32.toInt_toInt64, Int32.toInt_toInt64]
  unfold fX12_in
  simp only [lg_cmp_lt, lg_cmp_gt, e]
theorem in_many (x : Int32) {y : Int32} {C : Nat} (hC : C ≤ 100) (e : y = nI C) : fX12_in x.toInt64 0 (y - 1).toInt64 = if x < 0 then 0 else if y ≤ x then 0 else 1 := by
  have e1 : y.toInt = C := by rw [e]; exact nI_toInt (by omega)
  have e3 : (1 : Int32).toInt = 1 := by decide
  have e2 : (y - 1).toInt = (C : Int) - 1 := by rw [my_sub (by omega) (by omega), e1, e3]
  have h : (y - 1 < x) ↔ y ≤ x := by
    rw [Int32.lt_iff_toInt_lt, Int32.le_iff_toInt_le, e2, e1]
    omega
  show fX12_in x.toInt64 (0 : Int32).toInt64 (y - 1).toInt64 = _
  rw [in_le]
  simp only [h]
section ACTS
variable {B T : Nat} {S : Nat → Nat → Int32} {r : Nat → Int32}
theorem r_isCard (R : Rel B T S r) (x : Int32) : fX12_isCard r x = some (fX0_has S x) := by
  obtain ⟨C, hC, e⟩ := R.cC
  unfold fX12_isCard fX0_has
  simp only [lt_]
  rw [gN0, kN0, in_many x (by omega) e, R.eC]
theorem r_isAcc (R : Rel B T S r) (x : Int32) : fX12_isAccount r x = some (fX5_has S x) := by
  obtain ⟨C, hC, e⟩ := R.cA
  unfold fX12_isAccount fX5_has
  simp only [lt_]
  rw [gN1, kN1, in_many x (by omega) e, R.eA]
theorem i3_4 (x : Int32) : (3 < x) ↔ 4 ≤ x := by
  have e3 : (3 : Int32).toInt = 3 := by decide
  have e4 : (4 : Int32).toInt = 4 := by decide
  rw [Int32.lt_iff_toInt_lt, Int32.le_iff_toInt_le, e3, e4]
  omega
theorem r_isGate (S : Nat → Nat → Int32) (x : Int32) : fX12_isGate x = fX3_has S x := by
  unfold fX12_isGate fX3_has
  simp only [lt_]
  show fX12_in x.toInt64 (0 : Int32).toInt64 (3 : Int32).toInt64 = _
  rw [in_le]
  simp only [i3_4]
theorem has_c (R : Rel B T S r) {x : Int32} (h : ¬ fX0_has S x = 0) : ∃ c, c < 10 ∧ x = nI c ∧ nI c < r 0 := by
  obtain ⟨C, hC, e⟩ := R.cC
  unfold fX0_has at h
  simp only [lt_] at h
  by_cases c0 : x < 0
  · rw [if_pos c0] at h; exact absurd rfl h
  rw [if_neg c0, R.eC] at h
  by_cases c1 : r 0 ≤ x
  · rw [if_pos c1] at h; exact absurd rfl h
  obtain ⟨j, hj, rfl⟩ := nI_of c0
  have q : j < C := by
    rcases Nat.lt_or_ge j C with q | q
    · exact q
    · exact absurd (by rw [e]; exact nI_le q hj) c1
  exact ⟨j, by omega, rfl, by rw [e]; exact nI_lt q (by omega)⟩
theorem has_a (R : Rel B T S r) {x : Int32} (h : ¬ fX5_has S x = 0) : ∃ c, c < 8 ∧ x = nI c ∧ nI c < r 1 := by
  obtain ⟨C, hC, e⟩ := R.cA
  unfold fX5_has at h
  simp only [lt_] at h
  by_cases c0 : x < 0
  · rw [if_pos c0] at h; exact absurd rfl h
  rw [if_neg c0, R.eA] at h
  by_cases c1 : r 1 ≤ x
  · rw [if_pos c1] at h; exact absurd rfl h
  obtain ⟨j, hj, rfl⟩ := nI_of c0
  have q : j < C := by
    rcases Nat.lt_or_ge j C with q | q
    · exact q
    · exact absurd (by rw [e]; exact nI_le q hj) c1
  exact ⟨j, by omega, rfl, by rw [e]; exact nI_lt q (by omega)⟩
theorem has_g {S : Nat → Nat → Int32} {x : Int32} (h : ¬ fX3_has S x = 0) : ∃ g, g < 4 ∧ x = nI g := by
  unfold fX3_has at h
  by_cases c0 : x < 0
  · rw [if_pos c0] at h; exact absurd rfl h
  rw [if_neg c0] at h
  by_cases c1 : (4 : Int32) ≤ x
  · rw [if_pos c1] at h; exact absurd rfl h
  obtain ⟨j, hj, rfl⟩ := nI_of c0
  have q : j < 4 := by
    rcases Nat.lt_or_ge j 4 with q | q
    · exact q
    · exact absurd (nI_le (a := 4) q hj) c1
  exact ⟨j, q, rfl⟩
theorem hasA (R : Rel B T S r) {a : Nat} (ha : a < 8) (hA : nI a < r 1) : fX5_has S (nI a) = 1 := by
  unfold fX5_has
  simp only [lt_]
  rw [if_neg (nI_pos (by omega)), R.eA, if_neg (Int32.not_le.mpr hA)]
theorem i_nlt {a b : Int32} : (¬ a < b) ↔ b ≤ a := Int32.not_lt
theorem fullA_t {S : Nat → Nat → Int32} (h : 8 ≤ S 10 0) : fX5_isFull S = 1 := by
  unfold fX5_isFull
  rw [lt_eq, if_neg (Int32.not_lt.mpr h)]
theorem fullA_f {S : Nat → Nat → Int32} (h : ¬ 8 ≤ S 10 0) : fX5_isFull S = 0 := by
  unfold fX5_isFull
  rw [lt_eq, if_pos (Int32.not_le.mp h)]
theorem fullC_t {S : Nat → Nat → Int32} (h : 10 ≤ S 1 0) : fX0_isFull S = 1 := by
  unfold fX0_isFull
  rw [lt_eq, if_neg (Int32.not_lt.mpr h)]
theorem fullC_f {S : Nat → Nat → Int32} (h : ¬ 10 ≤ S 1 0) : fX0_isFull S = 0 := by
  unfold fX0_isFull
  rw [lt_eq, if_pos (Int32.not_le.mp h)]
theorem r_canIssue (R : Rel B T S r) : fX12_canIssue r = some (fX10_hasRoomForAccount S) := by
  unfold fX12_canIssue fX10_hasRoomForAccount
  simp only [lt_]
  rw [gN1, kN1, gN0, kN0, ← R.eC, ← R.eA]
  by_cases a : (8 : Int32) ≤ S 10 0
  · rw [if_pos a, fullA_t a, if_neg (by decide)]
  · rw [if_neg a, fullA_f a, if_pos rfl]
    by_cases b : (10 : Int32) ≤ S 1 0
    · rw [if_pos b, fullC_t b, if_neg (by decide)]
    · rw [if_neg b, fullC_f b, if_pos rfl]
theorem room (R : Rel B T S r) (h : ¬ fX10_hasRoomForAccount S = 0) : ∃ A C, A < 8 ∧ C < 10 ∧ r 1 = nI A ∧ r 0 = nI C := by
  obtain ⟨C, hC, e0⟩ := R.cC
  obtain ⟨A, hA, e1⟩ := R.cA
  unfold fX10_hasRoomForAccount at h
  simp only [lt_] at h
  by_cases a : (8 : Int32) ≤ S 10 0
  · rw [fullA_t a, if_neg (by decide)] at h; exact absurd rfl h
  by_cases b : (10 : Int32) ≤ S 1 0
  · rw [fullA_f a, if_pos rfl, fullC_t b, if_neg (by decide)] at h; exact absurd rfl h
  rw [R.eA, e1] at a
  rw [R.eC, e0] at b
  refine ⟨A, C, ?_, ?_, e1, e0⟩
  · rcases Nat.lt_or_ge A 8 with q | q
    · exact q
    · exact absurd (nI_le (a := 8) q (by omega)) a
  · rcases Nat.lt_or_ge C 10 with q | q
    · exact q
    · exact absurd (nI_le (a := 10) q (by omega)) b
/-- a new card at the end -/
theorem Rel.mCard (R : Rel B T S r) {C o n t : Nat} (hC : C < 10) (eC : r 0 = nI C) {S' : Nat → Nat → Int32} {r' : Nat → Int32} {m : Int32} (ho : o < 8) (hoA : nI o < r 1) (hn : n ≤ B) (ht : t ≤ T + 1)
    (s1 : S' 1 0 = nI (C + 1)) (s3 : S' 3 = upd (S 3) C (nI o)) (s5 : S' 5 = upd (S 5) C m) (s7 : S' 7 = upd (S 7) C (nI n)) (s9 : S' 9 = upd (S 9) C (nI t - 1)) (ss : ∀ k, k ≠ 1 → k ≠ 3 → k ≠ 5 → k ≠ 7 → k ≠ 9 → S' k = S k)
    (r0 : r' 0 = nI (C + 1)) (r12 : r' (12 + 4 * C) = nI o) (r13 : r' (13 + 4 * C) = m) (r14 : r' (14 + 4 * C) = nI n) (r15 : r' (15 + 4 * C) = nI t) (rr : ∀ j, j ≠ 0 → j ≠ 12 + 4 * C → j ≠ 13 + 4 * C → j ≠ 14 + 4 * C → j ≠ 15 + 4 * C → r' j = r j) : Rel B T S' r' := by
  have s0 := ss 0 (by omega) (by omega) (by omega) (by omega) (by omega)
  have s10 := ss 10 (by omega) (by omega) (by omega) (by omega) (by omega)
  have s39 := ss 39 (by omega) (by omega) (by omega) (by omega) (by omega)
  have old : ∀ c, c ≠ C → nI c < r' 0 → c < 10 → nI c < r 0 := fun c h1 h2 h3 => by
    rw [r0] at h2
    have := (nI_ltI (show c < 2 ^ 31 by omega) (by omega)).mp h2
    rw [eC]; exact nI_lt (by omega) (by omega)
  refine ⟨⟨by rw [s1, r0], by rw [s10, rr 1 (by omega) (by omega) (by omega) (by omega) (by omega)]; exact R.eA, fun k hk => by rw [s0, rr (2 + k) (by omega) (by omega) (by omega) (by omega) (by omega)]; exact R.eN k hk, fun k hk => by rw [s39, rr (8 + k) (by omega) (by omega) (by omega) (by omega) (by omega)]; exact R.eS k hk, by rw [rr 10 (by omega) (by omega) (by omega) (by omega) (by omega)]; exact R.s2, ⟨C + 1, by omega, r0⟩, by rw [rr 1 (by omega) (by omega) (by omega) (by omega) (by omega)]; exact R.cA, by rw [rr 2 (by omega) (by omega) (by omega) (by omega) (by omega)]; exact R.cT⟩,
    ⟨fun c hc h => ?_, fun c hc h => ?_, fun c hc h => ?_, fun c hc h => ?_⟩, R.toRA.cg (ss 12 (by omega) (by omega) (by omega) (by omega) (by omega)) (ss 14 (by omega) (by omega) (by omega) (by omega) (by omega)) (ss 16 (by omega) (by omega) (by omega) (by omega) (by omega)) (ss 18 (by omega) (by omega) (by omega) (by omega) (by omega)) (fun j h1 h2 => rr j (by omega) (by omega) (by omega) (by omega) (by omega)),
    R.toRG.cg (ss 23 (by omega) (by omega) (by omega) (by omega) (by omega)) (ss 25 (by omega) (by omega) (by omega) (by omega) (by omega)) (ss 27 (by omega) (by omega) (by omega) (by omega) (by omega)) (ss 29 (by omega) (by omega) (by omega) (by omega) (by omega)) (ss 31 (by omega) (by omega) (by omega) (by omega) (by omega)) (fun j h1 h2 => rr j (by omega) (by omega) (by omega) (by omega) (by omega)),
    R.toRLg.cg (ss 33 (by omega) (by omega) (by omega) (by omega) (by omega)) (ss 35 (by omega) (by omega) (by omega) (by omega) (by omega)) (ss 37 (by omega) (by omega) (by omega) (by omega) (by omega)) (rr 1 (by omega) (by omega) (by omega) (by omega) (by omega)) (fun g hg => rr _ (by omega) (by omega) (by omega) (by omega) (by omega)) (fun j h1 h2 => rr j (by omega) (by omega) (by omega) (by omega) (by omega)),
    R.toRBt.cg (ss 20 (by omega) (by omega) (by omega) (by omega) (by omega)) (fun j h1 h2 => rr j (by omega) (by omega) (by omega) (by omega) (by omega)), fun c hc h => ?_,
    R.toRM.cg (rr 9 (by omega) (by omega) (by omega) (by omega) (by omega)) (rr 11 (by omega) (by omega) (by omega) (by omega) (by omega)) (fun a ha => rr _ (by omega) (by omega) (by omega) (by omega) (by omega)) (fun g hg => rr _ (by omega) (by omega) (by omega) (by omega) (by omega)) (fun g k hg hk => rr _ (by omega) (by omega) (by omega) (by omega) (by omega))⟩
  · by_cases e : c = C
    · subst e
      rw [s3, s5, s7, s9, r12, r13, r14, r15, upd_at, upd_at, upd_at, upd_at]
      exact ⟨rfl, rfl, rfl, rfl⟩
    · rw [s3, s5, s7, s9, upd_ne e, upd_ne e, upd_ne e, upd_ne e, rr (12 + 4 * c) (by omega) (by omega) (by omega) (by omega) (by omega), rr (13 + 4 * c) (by omega) (by omega) (by omega) (by omega) (by omega), rr (14 + 4 * c) (by omega) (by omega) (by omega) (by omega) (by omega), rr (15 + 4 * c) (by omega) (by omega) (by omega) (by omega) (by omega)]
      exact R.card c hc (old c e h hc)
  · rw [rr 1 (by omega) (by omega) (by omega) (by omega) (by omega)]
    by_cases e : c = C
    · subst e; exact ⟨o, ho, hoA, r12⟩
    · rw [rr (12 + 4 * c) (by omega) (by omega) (by omega) (by omega) (by omega)]; exact R.cown c hc (old c e h hc)
  · by_cases e : c = C
    · subst e; exact ⟨n, hn, r14⟩
    · rw [rr (14 + 4 * c) (by omega) (by omega) (by omega) (by omega) (by omega)]; exact R.ccnt c hc (old c e h hc)
  · by_cases e : c = C
    · subst e; exact ⟨t, ht, r15⟩
    · rw [rr (15 + 4 * c) (by omega) (by omega) (by omega) (by omega) (by omega)]; exact R.clat c hc (old c e h hc)
  · rw [r0] at h
    have h2 := (nI_leI (show C + 1 < 2 ^ 31 by omega) (show c < 2 ^ 31 by omega)).mp h
    rw [rr (14 + 4 * c) (by omega) (by omega) (by omega) (by omega) (by omega), rr (15 + 4 * c) (by omega) (by omega) (by omega) (by omega) (by omega)]
    exact R.toRZ c hc (by rw [eC]; exact nI_le (by omega) (by omega))
/-- one more account -/
theorem Rel.mAcc (R : Rel B T S r) {A : Nat} (hA : A < 8) (eA : r 1 = nI A) : Rel B T (va_up S 10 (upd (S 10) 0 (nI (A + 1)))) (upd r 1 (nI (A + 1))) := by
  have lt : ∀ o : Nat, nI o < r 1 → o < 8 → nI o < upd r 1 (nI (A + 1)) 1 := fun o h ho => by
    rw [upd_at]
    rw [eA] at h
    have := (nI_ltI (show o < 2 ^ 31 by omega) (by omega)).mp h
    exact nI_lt (by omega) (by omega)
  refine ⟨⟨by rw [upd_ne (by omega)]; exact R.eC, by rw [upd_at]; exact (show upd (S 10) 0 (nI (A + 1)) 0 = nI (A + 1) from upd_at _ _ _), fun k hk => by rw [upd_ne (by omega)]; exact R.eN k hk, fun k hk => by rw [upd_ne (by omega)]; exact R.eS k hk, by rw [upd_ne (by omega)]; exact R.s2, by rw [upd_ne (by omega)]; exact R.cC, ⟨A + 1, by omega, upd_at _ _ _⟩, by rw [upd_ne (by omega)]; exact R.cT⟩,
    ⟨fun c hc h => ?_, fun c hc h => ?_, fun c hc h => ?_, fun c hc h => ?_⟩, R.toRA.cg rfl rfl rfl rfl (fun j h1 h2 => upd_ne (by omega)), R.toRG.cg rfl rfl rfl rfl rfl (fun j h1 h2 => upd_ne (by omega)),
    ⟨fun g k hg hk h => ?_, fun g k hg hk h => ?_, fun g k hg hk h => ?_⟩, R.toRBt.cg rfl (fun j h1 h2 => upd_ne (by omega)), R.toRZ.cg (upd_ne (by omega)) (fun j h1 h2 => upd_ne (by omega)), R.toRM.cg (upd_ne (by omega)) (upd_ne (by omega)) (fun a ha => upd_ne (by omega)) (fun g hg => upd_ne (by omega)) (fun g k hg hk => upd_ne (by omega))⟩
  · rw [upd_ne (by omega)] at h
    rw [upd_ne (by omega), upd_ne (by omega), upd_ne (by omega), upd_ne (by omega)]
    exact R.card c hc h
  · rw [upd_ne (by omega)] at h
    obtain ⟨o, h1, h2, h3⟩ := R.cown c hc h
    exact ⟨o, h1, lt o h2 h1, by rw [upd_ne (by omega)]; exact h3⟩
  · rw [upd_ne (by omega)] at h
    rw [upd_ne (by omega)]
    exact R.ccnt c hc h
  · rw [upd_ne (by omega)] at h
    rw [upd_ne (by omega)]
    exact R.clat c hc h
  · rw [upd_ne (by omega)] at h
    rw [upd_ne (by omega), upd_ne (by omega), upd_ne (by omega)]
    exact R.log g k hg hk h
  · rw [upd_ne (by omega)] at h
    obtain ⟨o, h1, h2, h3⟩ := R.lacc g k hg hk h
    exact ⟨o, h1, lt o h2 h1, by rw [upd_ne (by omega)]; exact h3⟩
  · rw [upd_ne (by omega)] at h
    rw [upd_ne (by omega)]
    exact R.lcnt g k hg hk h
end ACTS
