/-! the tries of the component beside the guards of the reference -/
section TRIES
variable {B T : Nat} {S : Nat → Nat → Int32} {r : Nat → Int32}
theorem hc01 (S : Nat → Nat → Int32) (x : Int32) : fX0_has S x = 0 ∨ fX0_has S x = 1 := by
  unfold fX0_has
  rw [lt_eq]
  split
  · exact Or.inl rfl
  · split
    · exact Or.inl rfl
    · exact Or.inr rfl
theorem ha01 (S : Nat → Nat → Int32) (x : Int32) : fX5_has S x = 0 ∨ fX5_has S x = 1 := by
  unfold fX5_has
  rw [lt_eq]
  split
  · exact Or.inl rfl
  · split
    · exact Or.inl rfl
    · exact Or.inr rfl
theorem hg01 (S : Nat → Nat → Int32) (x : Int32) : fX3_has S x = 0 ∨ fX3_has S x = 1 := by
  unfold fX3_has
  split
  · exact Or.inl rfl
  · split
    · exact Or.inl rfl
    · exact Or.inr rfl
theorem hr01 (S : Nat → Nat → Int32) : fX10_hasRoomForAccount S = 0 ∨ fX10_hasRoomForAccount S = 1 := by
  unfold fX10_hasRoomForAccount
  rw [lt_eq]
  split
  · rw [lt_eq]
    split
    · exact Or.inr rfl
    · exact Or.inl rfl
  · exact Or.inl rfl
theorem hf01 (S : Nat → Nat → Int32) : fX0_isFull S = 0 ∨ fX0_isFull S = 1 := by
  by_cases a : (10 : Int32) ≤ S 1 0
  · exact Or.inr (fullC_t a)
  · exact Or.inl (fullC_f a)
theorem n10 : ¬ (1 : Int32) = 0 := by decide
theorem in99_nI {w : Nat} (h : w ≤ 99) : in99 (nI w) := by
  unfold in99
  rw [nI_toInt (by omega)]
  omega
theorem t_issue (R : Rel B T S r) {w : Nat} (hw : w ≤ 99) : (fX12_canIssue r = some 0 ∧ fX10_tryIssue S (nI w) = some (0, S)) ∨ (∃ c r' S', c < 10 ∧ fX12_canIssue r = some 1 ∧ fX12_issueOn r (nI w) = some (nI c, r') ∧ fX10_tryIssue S (nI w) = some (1, S') ∧ Rel B (T + 99) S' r') := by
  rw [r_canIssue R]
  unfold fX10_tryIssue
  rw [if_neg (nI_pos (by omega)), if_neg (c := 99 < nI w) (nI_nlt (a := 99) hw (by decide)), lt_eq]
  rcases hr01 S with e | e
  · exact Or.inl ⟨by rw [e], by rw [e, if_pos rfl]⟩
  · obtain ⟨c, r', S', h1, h2, h3, h4⟩ := r_issue R (by rw [e]; exact n10) (in99_nI hw)
    exact Or.inr ⟨c, r', S', h1, by rw [e], h2, by rw [e, if_neg n10, h3, m_bd2], h4⟩
theorem t_canCopy (R : Rel B T S r) (x : Int32) : fX12_canCopy r x = some (if fX0_has S x = 0 then 0 else if fX0_isFull S = 0 then 1 else 0) := by
  unfold fX12_canCopy
  rw [r_isCard R, m_bd]
  rcases hc01 S x with e | e <;> rw [e]
  · rw [if_pos rfl, if_pos rfl]
  · rw [if_neg n10, if_neg n10, gN0, kN0, lt_eq, ← R.eC]
    by_cases a : (10 : Int32) ≤ S 1 0
    · rw [if_pos a, fullC_t a, if_neg n10]
    · rw [if_neg a, fullC_f a, if_pos rfl]
theorem t_copy (R : Rel B T S r) (x : Int32) : (fX12_canCopy r x = some 0 ∧ fX10_tryCopy S x = some (0, S)) ∨ (∃ q r' S', 0 < q ∧ q < 10 ∧ fX12_canCopy r x = some 1 ∧ fX12_copyOn r x = some (nI q, r') ∧ fX10_tryCopy S x = some (1, S') ∧ Rel B T S' r') := by
  rw [t_canCopy R]
  unfold fX10_tryCopy
  rw [lt_eq]
  rcases hc01 S x with e | e
  · exact Or.inl ⟨by rw [e, if_pos rfl], by rw [e, if_pos rfl]⟩
  · rw [e, if_neg n10, if_neg n10, lt_eq]
    obtain ⟨c, hc, rfl, hC⟩ := has_c R (x := x) (by rw [e]; exact n10)
    rcases hf01 S with f | f
    · obtain ⟨q, r', S', h0, h1, h2, h3, h4⟩ := r_copy R hc hC f
      exact Or.inr ⟨q, r', S', h0, h1, by rw [f, if_pos rfl], h2, by rw [f, if_pos rfl, h3, m_bd2], h4⟩
    · exact Or.inl ⟨by rw [f, if_neg n10], by rw [f, if_neg n10]⟩
theorem t_pay (R : Rel B T S r) (hT : T + 99 < 2 ^ 30) (x : Int32) {w : Nat} (hw : 1 ≤ w) (hw2 : w ≤ 99) : (fX12_isAccount r x = some 0 ∧ fX10_tryPay S x (nI w) = some (0, S)) ∨ (∃ z r' S', fX12_isAccount r x = some 1 ∧ fX12_isAccount r' x = some 1 ∧ fX12_payOn r x (nI w) = some (z, r') ∧ fX10_tryPay S x (nI w) = some (1, S') ∧ Rel B (T + 99) S' r') := by
  rw [r_isAcc R]
  unfold fX10_tryPay
  rw [lt_eq]
  rcases ha01 S x with e | e
  · exact Or.inl ⟨by rw [e], by rw [e, if_pos rfl]⟩
  · obtain ⟨a, ha, rfl, hA⟩ := has_a R (x := x) (by rw [e]; exact n10)
    obtain ⟨z, r', S', h1, h2, h3⟩ := r_pay R hT ha (in99_nI hw2)
    have h10 : r' 1 = r 1 := by
      unfold fX12_payOn at h1
      simp only [lt_] at h1
      rw [gA0 ha, kA0 ha, gA1 ha, kA1 ha, gA0 ha] at h1
      rw [← (Prod.mk.inj (Option.some.inj h1)).2, upd_ne (by omega), upd_ne (by omega)]
    refine Or.inr ⟨z, r', S', by rw [e], ?_, h1, ?_, h3⟩
    · rw [r_isAcc h3, hasA h3 ha (by rw [h10]; exact hA)]
    · rw [e, if_neg n10, if_neg (c := nI w < 1) (nI_nlt (b := 1) hw (by omega)), if_pos (c := nI w ≤ 99) (nI_le (b := 99) hw2 (by decide)), h2, m_bd2]
theorem mark01 (R : Rel B T S r) {a : Nat} (ha : a < 8) : fX5_isMarked S (nI a) = 0 ∧ r (54 + 4 * a) = 0 ∨ fX5_isMarked S (nI a) = 1 ∧ r (54 + 4 * a) = 1 := by
  unfold fX5_isMarked
  rw [lt_eq, m_fget _ ha (by decide), (R.acc a ha).2.2.1]
  rcases R.amark a ha with e | e <;> rw [e]
  · exact Or.inl ⟨rfl, rfl⟩
  · exact Or.inr ⟨rfl, rfl⟩
theorem s_unmark (S : Nat → Nat → Int32) {a : Nat} (ha : a < 8) : fX5_unmark S (nI a) = some (S 12 a, va_up S 16 (upd (S 16) a 0)) := by
  unfold fX5_unmark
  rw [lt_eq, lt_eq, m_fput _ _ ha (by decide), m_fget _ ha (by decide)]
  rfl
theorem t_pardon (R : Rel B T S r) (x : Int32) : (fX12_canPardon r x = some 0 ∧ fX10_tryPardon S x = some (0, S)) ∨ (∃ a, a < 8 ∧ x = nI a ∧ fX12_canPardon r x = some 1 ∧ fX10_tryPardon S x = some (1, va_up S 16 (upd (S 16) a 0)) ∧ Rel B T (va_up S 16 (upd (S 16) a 0)) (upd r (54 + 4 * a) 0)) := by
  unfold fX12_canPardon fX10_tryPardon
  rw [r_isAcc R, m_bd]
  simp only [lt_eq]
  rcases ha01 S x with e | e
  · exact Or.inl ⟨by rw [e, if_pos rfl], by rw [e, if_pos rfl]⟩
  · rw [e, if_neg n10, if_neg n10]
    obtain ⟨a, ha, rfl, hA⟩ := has_a R (x := x) (by rw [e]; exact n10)
    rw [gA2 ha, kA2 ha]
    rcases mark01 R ha with ⟨f1, f2⟩ | ⟨f1, f2⟩
    · exact Or.inl ⟨by rw [f2, if_neg (by decide)], by rw [f1, if_pos rfl]⟩
    · exact Or.inr ⟨a, ha, rfl, by rw [f2, if_pos rfl], by rw [f1, if_neg n10, s_unmark S ha, m_bd2], R.mMark ha 0 (Or.inl rfl)⟩
theorem t_ride (R : Rel B T S r) (hB : B + 1 < 1024) (hT : T + 99 < 2 ^ 30) (x y : Int32) : (fX12_isCard r x = some 0 ∧ fX10_showCard S x y = some (-1, S)) ∨ (fX12_isCard r x = some 1 ∧ fX12_isGate y = 0 ∧ fX10_showCard S x y = some (-1, S)) ∨ (∃ z r' S', fX12_isCard r x = some 1 ∧ fX12_isGate y = 1 ∧ fX12_rideOn r x y = some (z, r') ∧ fX10_showCard S x y = some (z, S') ∧ Rel (B + 1) (T + 99) S' r' ∧ r' 0 = r 0 ∧ goodZ z) := by
  rw [r_isCard R, r_isGate S]
  rcases hc01 S x with e | e
  · refine Or.inl ⟨by rw [e], ?_⟩
    unfold fX10_showCard
    rw [lt_eq, e, if_pos rfl]
  · rcases hg01 S y with f | f
    · refine Or.inr (Or.inl ⟨by rw [e], f, ?_⟩)
      unfold fX10_showCard
      rw [lt_eq, e, if_neg n10, lt_eq, f, if_pos rfl]
    · obtain ⟨c, hc, rfl, hC⟩ := has_c R (x := x) (by rw [e]; exact n10)
      obtain ⟨g, hg, rfl⟩ := has_g (S := S) (x := y) (by rw [f]; exact n10)
      obtain ⟨z, r', S', h1, h2, h3, h4, h5, h6⟩ := r_ride R hB hT hc hC hg
      exact Or.inr (Or.inr ⟨z, r', S', by rw [e], f, h1, h2, h3, h4, h6⟩)
theorem t_run (R : Rel B T S r) (hT : T + 60 < 2 ^ 30) {w : Nat} (hw : 1 ≤ w) (hw2 : w ≤ 60) : ∃ z r' S', 0 < z ∧ z < 2 ^ 30 ∧ fX12_runOn r (nI w) = some (nI z, r') ∧ fX10_tryRun S (nI w) = some (1, S') ∧ Rel B (T + 60) S' r' := by
  obtain ⟨z, r', h1, h2, h3, h4, h5, h6, -⟩ := r_run R hT hw2
  refine ⟨z, r', _, by omega, h2, h1, ?_, h6⟩
  unfold fX10_tryRun
  rw [if_neg (c := nI w < 1) (nI_nlt (b := 1) hw (by omega)), if_pos (c := nI w ≤ 60) (nI_le (b := 60) hw2 (by decide)), lt_eq, lt_eq, h4]
theorem t_open (R : Rel B T S r) {g : Nat} (hg : g < 4) : ∃ z r' S', fX12_openOn r (nI g) = some (z, r') ∧ fX10_tryOpen S (nI g) = some (1, S') ∧ Rel B T S' r' ∧ ¬ z < 0 := by
  obtain ⟨z, r', S', h1, h2, h3, h4⟩ := r_open R hg
  refine ⟨z, r', S', h1, ?_, h3, h4⟩
  unfold fX10_tryOpen
  rw [lt_eq, hasG S hg, if_neg n10, h2, m_bd2]
end TRIES
