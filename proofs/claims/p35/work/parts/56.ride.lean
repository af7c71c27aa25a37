/-! a card at a gate -/
theorem judge_up {S : Nat → Nat → Int32} {x y : Int32} (u : fX3_isUp S y = 1) : fX10_judge S x y = 0 ∨ fX10_judge S x y = 3 ∨ fX10_judge S x y = 4 ∨ fX10_judge S x y = 5 := by
  unfold fX10_judge
  simp only [lt_]
  simp only [u, m_10, if_false]
  repeat' split
  all_goals first
    | exact Or.inl rfl
    | exact Or.inr (Or.inl rfl)
    | exact Or.inr (Or.inr (Or.inl rfl))
    | exact Or.inr (Or.inr (Or.inr rfl))
theorem judge_dn {S : Nat → Nat → Int32} {x y : Int32} (u : fX3_isUp S y = 0) : (fX10_judge S x y = 1 ∧ fX3_isLogFull S y = 0) ∨ fX10_judge S x y = 3 ∨ fX10_judge S x y = 4 ∨ fX10_judge S x y = 5 ∨ fX10_judge S x y = 6 ∨ fX10_judge S x y = 7 := by
  unfold fX10_judge
  simp only [lt_]
  simp only [u, if_true]
  repeat' split
  all_goals first
    | exact Or.inl ⟨rfl, by assumption⟩
    | exact Or.inr (Or.inl rfl)
    | exact Or.inr (Or.inr (Or.inl rfl))
    | exact Or.inr (Or.inr (Or.inr (Or.inl rfl)))
    | exact Or.inr (Or.inr (Or.inr (Or.inr (Or.inl rfl))))
    | exact Or.inr (Or.inr (Or.inr (Or.inr (Or.inr rfl))))
section RIDE
variable {B T : Nat} {S : Nat → Nat → Int32} {r : Nat → Int32}
/-- the row behind a ride's first three writes -/
def rTk (r : Nat → Int32) (c g : Nat) : Nat → Int32 := upd (upd (upd r (13 + 4 * c) (r (13 + 4 * c) - r (84 + 5 * g))) (14 + 4 * c) (r (14 + 4 * c) + 1)) (15 + 4 * c) (r 2 + 1)
def sTk (S : Nat → Nat → Int32) (r : Nat → Int32) (c g : Nat) : Nat → Nat → Int32 := va_up (va_up (va_up S 5 (upd (S 5) c (r (13 + 4 * c) - r (84 + 5 * g)))) 7 (upd (S 7) c (r (14 + 4 * c) + 1))) 9 (upd (S 9) c (r 2))
theorem rTk_ne {c g j : Nat} (h : j ≠ 13 + 4 * c ∧ j ≠ 14 + 4 * c ∧ j ≠ 15 + 4 * c) : rTk r c g j = r j := by
  unfold rTk
  rw [upd_ne h.2.2, upd_ne h.2.1, upd_ne h.1]
theorem rTk_14 {c g : Nat} : rTk r c g (14 + 4 * c) = r (14 + 4 * c) + 1 := by
  unfold rTk
  rw [upd_ne (by omega), upd_at]
theorem r_tk (R : Rel B T S r) {c g : Nat} (hc : c < 10) (hC : nI c < r 0) : Rel (B + 1) T (sTk S r c g) (rTk r c g) := by
  obtain ⟨n, hn, en⟩ := R.ccnt c hc hC
  obtain ⟨t, ht, et⟩ := R.cT
  have R1 := (R.mono (show B ≤ B + 1 by omega) (Nat.le_refl T)).mMoney hc (r (13 + 4 * c) - r (84 + 5 * g))
  have R2 := R1.mCnt hc (by rw [upd_ne (by omega)]; exact hC) (n := n + 1) (by omega)
  have R3 := R2.mLat hc (by rw [upd_ne (by omega), upd_ne (by omega)]; exact hC) ht
  unfold rTk sTk
  rw [en, nI_1, et, nI_1]
  exact R3
/-- the component's side of a ride's first writes -/
theorem s_tk (R : Rel B T S r) {c g : Nat} (hc : c < 10) (hC : nI c < r 0) (hg : g < 4) : ∃ o, o < 8 ∧ nI o < r 1 ∧ r (12 + 4 * c) = nI o ∧ fX10_takeRide S (nI c) (nI g) = if fX3_isUp S (nI g) = 0 then bd (fX3_writeLog (sTk S r c g) (nI g) (nI o) (r (14 + 4 * c) + 1) (r (84 + 5 * g))) fun S26 => some S26 else bd (fX10_settle (sTk S r c g) (nI o) (r (14 + 4 * c) + 1) (r (84 + 5 * g))) fun S32 => some S32 := by
  obtain ⟨h3, h5, h7, h9⟩ := R.card c hc hC
  obtain ⟨o, ho, hoA, eo⟩ := R.cown c hc hC
  refine ⟨o, ho, hoA, eo, ?_⟩
  unfold fX10_takeRide
  simp only [lt_]
  rw [m_fget (S 23) hg (by decide), (R.gate g hg).1, m_finc _ _ hc (by decide), m_finc _ _ hc (by decide), m_fput _ _ hc (by decide), h5, neg_sub]
  have e7 : va_up S 5 (upd (S 5) c (r (13 + 4 * c) - r (84 + 5 * g))) 7 c = r (14 + 4 * c) := h7
  rw [e7]
  have e4 : va_up (va_up S 5 (upd (S 5) c (r (13 + 4 * c) - r (84 + 5 * g)))) 7 (upd (va_up S 5 (upd (S 5) c (r (13 + 4 * c) - r (84 + 5 * g))) 7) c (r (14 + 4 * c) + 1)) 0 4 = r 2 := R.eN 0 (by decide)
  rw [e4]
  show (if fX3_isUp (sTk S r c g) (nI g) = 0 then bd (fX3_writeLog (sTk S r c g) (nI g) (fget 10 (S 3) (nI c)) (fget 10 (upd (S 7) c (r (14 + 4 * c) + 1)) (nI c)) (r (84 + 5 * g))) (fun S26 => some S26) else bd (fX10_settle (sTk S r c g) (fget 10 (S 3) (nI c)) (fget 10 (upd (S 7) c (r (14 + 4 * c) + 1)) (nI c)) (r (84 + 5 * g))) (fun S32 => some S32)) = _
  rw [m_fget _ hc (by decide), m_fget _ hc (by decide), upd_at, h3, eo]
  rfl
/-- settled at once -/
theorem r_ride0 (R : Rel B T S r) (hB : B + 1 < 1024) (hT : T + 99 < 2 ^ 30) {c g : Nat} (hc : c < 10) (hC : nI c < r 0) (hg : g < 4) (u : fX3_isUp S (nI g) = 1) : ∃ z r' S', fX12_settle (rTk r c g) (r (12 + 4 * c)) (rTk r c g (14 + 4 * c)) (r (84 + 5 * g)) = some (z, r') ∧ fX10_takeRide S (nI c) (nI g) = some S' ∧ Rel (B + 1) (T + 99) S' r' ∧ r' 0 = r 0 ∧ r' 1 = r 1 := by
  obtain ⟨o, ho, hoA, eo, e⟩ := s_tk R hc hC hg
  obtain ⟨n, hn, en⟩ := R.ccnt c hc hC
  obtain ⟨z, r', S', q1, q2, R', K, K0, K1, -⟩ := r_settle (r_tk R hc hC (g := g)) (by omega) hT ho (show n + 1 ≤ B + 1 by omega) (r (84 + 5 * g)) (R.mfare g hg)
  refine ⟨z, r', S', ?_, ?_, R', K0.trans (rTk_ne (by omega)), K1.trans (rTk_ne (by omega))⟩
  · rw [rTk_14, eo, en, nI_1]
    exact q1
  · rw [e, if_neg (by rw [u]; decide), en, nI_1, q2]
    rfl
/-- kept in the log -/
theorem r_ride1 (R : Rel B T S r) {c g : Nat} (hc : c < 10) (hC : nI c < r 0) (hg : g < 4) (u : fX3_isUp S (nI g) = 0) (hf : fX3_isLogFull S (nI g) = 0) : ∃ d S', d < 12 ∧ rTk r c g (87 + 5 * g) = nI d ∧ fX10_takeRide S (nI c) (nI g) = some S' ∧ Rel (B + 1) T S' (upd (upd (upd (upd (rTk r c g) (104 + 36 * g + 3 * d) (r (12 + 4 * c))) (105 + 36 * g + 3 * d) (r (14 + 4 * c) + 1)) (106 + 36 * g + 3 * d) (r (84 + 5 * g))) (87 + 5 * g) (nI (d + 1))) := by
  obtain ⟨o, ho, hoA, eo, e⟩ := s_tk R hc hC hg
  obtain ⟨n, hn, en⟩ := R.ccnt c hc hC
  obtain ⟨d, hd, ed⟩ := R.glog g hg
  have e31 : S 31 g = nI d := (R.gate g hg).2.2.2.trans ed
  have hd12 : d < 12 := by
    unfold fX3_isLogFull at hf
    simp only [lt_] at hf
    rw [m_fget _ hg (by decide), e31] at hf
    rcases Nat.lt_or_ge d 12 with q | q
    · exact q
    · rw [if_neg (c := nI d < 12) (nI_nlt (b := 12) q (by omega))] at hf
      exact absurd hf (by decide)
  have ed2 : rTk r c g (87 + 5 * g) = nI d := (rTk_ne (by omega)).trans ed
  have R0 := r_tk R hc hC (g := g)
  have R1 := R0.mLa hg hd12 ed2 (nI o)
  have R2 := R1.mLc hg hd12 (by rw [upd_ne (by omega)]; exact ed2) (nI (n + 1))
  have R3 := R2.mLf hg hd12 (by rw [upd_ne (by omega), upd_ne (by omega)]; exact ed2) (r (84 + 5 * g)) (R.mfare g hg)
  have R4 := R3.mSize1 hg hd12 (by rw [upd_ne (by omega), upd_ne (by omega), upd_ne (by omega)]; exact ed2)
    ⟨by rw [upd_ne (by omega), upd_ne (by omega), upd_at]; exact upd_at _ _ _, by rw [upd_ne (by omega), upd_at]; exact upd_at _ _ _, by rw [upd_at]; exact upd_at _ _ _⟩
    ho (by rw [upd_ne (by omega), upd_ne (by omega), upd_ne (by omega), rTk_ne (by omega)]; exact hoA) (by rw [upd_ne (by omega), upd_ne (by omega), upd_at]) (show n + 1 ≤ B + 1 by omega) (by rw [upd_ne (by omega), upd_at])
  refine ⟨d, _, hd12, ed2, ?_, by rw [eo, en, nI_1]; exact R4⟩
  rw [e, if_pos u, en, nI_1]
  unfold fX3_writeLog
  simp only [lt_]
  have e31' : sTk S r c g 31 g = nI d := e31
  rw [m_fget _ hg (by decide), e31', m_idx48, m_fput _ _ (show 12 * g + d < 48 by omega) (by decide), m_fput _ _ (show 12 * g + d < 48 by omega) (by decide), m_fput _ _ (show 12 * g + d < 48 by omega) (by decide), m_finc _ _ hg (by decide), m_bd]
  show some (va_up _ 31 (upd _ g (sTk S r c g 31 g + 1))) = _
  rw [e31', nI_1]
end RIDE
