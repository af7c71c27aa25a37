/-! the whole ride -/
section RIDE2
variable {B T : Nat} {S : Nat → Nat → Int32} {r : Nat → Int32}
theorem m_71 : ((7 : Int32) = 0) = False := eq_false (by decide)
theorem hasC (R : Rel B T S r) {c : Nat} (hc : c < 10) (hC : nI c < r 0) : fX0_has S (nI c) = 1 := by
  unfold fX0_has
  simp only [lt_]
  rw [if_neg (nI_pos (by omega)), R.eC, if_neg (Int32.not_le.mpr hC)]
theorem hasG (S : Nat → Nat → Int32) {g : Nat} (hg : g < 4) : fX3_has S (nI g) = 1 := by
  unfold fX3_has
  rw [if_neg (nI_pos (by omega)), if_neg (c := 4 ≤ nI g) (nI_ge (b := 4) hg (by decide))]
/-- no money, no room, too soon, blocked: counted -/
theorem r_refuse (R : Rel B T S r) : Rel B T (va_up S 0 (upd (S 0) 8 (S 0 8 + 1))) (upd r 6 (r 6 + 1)) := by
  have e : S 0 8 = r 6 := R.eN 4 (by decide)
  have R1 := R.mNum (k := 4) (by decide) (by decide) (r 6 + 1)
  rw [e]
  exact R1
theorem r_unwr (R : Rel B T S r) : Rel B T (va_up S 0 (upd (S 0) 9 (S 0 9 + 1))) (upd r 7 (r 7 + 1)) := by
  have e : S 0 9 = r 7 := R.eN 5 (by decide)
  have R1 := R.mNum (k := 5) (by decide) (by decide) (r 7 + 1)
  rw [e]
  exact R1
abbrev goodZ (z : Int32) : Prop := z = 0 ∨ z = 1 ∨ z = 2 ∨ z = 3 ∨ z = 4 ∨ z = 5 ∨ z = 6 ∨ z = 7
set_option maxRecDepth 20000 in
set_option maxHeartbeats 4000000 in
theorem r_ride (R : Rel B T S r) (hB : B + 1 < 1024) (hT : T + 99 < 2 ^ 30) {c g : Nat} (hc : c < 10) (hC : nI c < r 0) (hg : g < 4) : ∃ z r' S', fX12_rideOn r (nI c) (nI g) = some (z, r') ∧ fX10_showCard S (nI c) (nI g) = some (z, S') ∧ Rel (B + 1) (T + 99) S' r' ∧ r' 0 = r 0 ∧ r' 1 = r 1 ∧ goodZ z := by
  obtain ⟨o, ho, hoA, eo⟩ := R.cown c hc hC
  obtain ⟨h3, h5, h7, h9⟩ := R.card c hc hC
  obtain ⟨q1, q2, q3, q4⟩ := R.gate g hg
  have up : B ≤ B + 1 := by omega
  have tp : T ≤ T + 99 := by omega
  have hop : fX3_isOpen S (nI g) = 0 ∧ r (86 + 5 * g) = 0 ∨ fX3_isOpen S (nI g) = 1 ∧ r (86 + 5 * g) = 1 := by
    unfold fX3_isOpen
    simp only [lt_]
    rw [m_fget _ hg (by decide), q3]
    rcases R.gopen g hg with e | e <;> rw [e]
    · exact Or.inl ⟨rfl, rfl⟩
    · exact Or.inr ⟨rfl, rfl⟩
  unfold fX12_rideOn fX10_showCard
  simp only [lt_]
  rw [hasC R hc hC, hasG S hg, gC0 hc, kC0 hc, gG2 hg, kG2 hg, if_neg (c := (1 : Int32) = 0) (by decide), if_neg (c := (1 : Int32) = 0) (by decide)]
  rcases hop with ⟨z1, z2⟩ | ⟨z1, z2⟩
  · rw [z1, z2, if_neg (by decide), if_pos rfl, r_isUp R hg, m_bd]
    rcases up01 R hg with ⟨u, u2⟩ | ⟨u, u2⟩
    · rw [u, if_pos rfl, if_pos rfl, r_comesTo R (by omega) hc hC hg, m_bd]
      rcases judge_dn (x := nI c) u with ⟨j, jf⟩ | j | j | j | j | j
      · obtain ⟨d, S', hd, ed, w, R'⟩ := r_ride1 R hc hC hg u jf
        rw [j, if_pos (by decide), if_neg (by decide), show fX10_letsThrough 1 = 1 from by decide, if_neg (by decide), if_neg (by decide), w, m_bd]
        rw [gG0 hg, kG0 hg, gC1 hc, kC1 hc, gC2 hc, kC2 hc, gN2, kN2, gC3 hc, kC3 hc, gG3 hg, kG3 hg]
        have e2 : upd (upd r (13 + 4 * c) (r (13 + 4 * c) - r (84 + 5 * g))) (14 + 4 * c) (upd r (13 + 4 * c) (r (13 + 4 * c) - r (84 + 5 * g)) (14 + 4 * c) + 1) 2 = r 2 := by rw [upd_ne (by omega), upd_ne (by omega)]
        rw [e2, upd_ne (show 14 + 4 * c ≠ 13 + 4 * c by omega)]
        have hT : upd (upd (upd r (13 + 4 * c) (r (13 + 4 * c) - r (84 + 5 * g))) (14 + 4 * c) (r (14 + 4 * c) + 1)) (15 + 4 * c) (r 2 + 1) = rTk r c g := rfl
        rw [hT]
        refine ⟨1, _, S', ?_, rfl, R'.mono (Nat.le_refl _) tp, ?_, ?_, Or.inr (Or.inl rfl)⟩
        · rw [ed, gL0 hg hd, kL0 hg hd, gL1 hg hd, kL1 hg hd, gL2 hg hd, kL2 hg hd, upd_ne (show 87 + 5 * g ≠ 106 + 36 * g + 3 * d by omega), upd_ne (show 87 + 5 * g ≠ 105 + 36 * g + 3 * d by omega), upd_ne (show 87 + 5 * g ≠ 104 + 36 * g + 3 * d by omega), upd_ne (show 14 + 4 * c ≠ 104 + 36 * g + 3 * d by omega), rTk_14, ed, nI_1]
        · rw [upd_ne (by omega), upd_ne (by omega), upd_ne (by omega), upd_ne (by omega), rTk_ne (by omega)]
        · rw [upd_ne (by omega), upd_ne (by omega), upd_ne (by omega), upd_ne (by omega), rTk_ne (by omega)]
      · rw [j, if_neg (by decide), if_neg (by decide), show fX10_letsThrough 3 = 0 from by decide, if_pos rfl, gN6, kN6]
        exact ⟨3, _, _, rfl, rfl, (r_refuse R).mono up tp, upd_ne (by omega), upd_ne (by omega), by decide⟩
      · rw [j, if_neg (by decide), if_neg (by decide), show fX10_letsThrough 4 = 0 from by decide, if_pos rfl, gN6, kN6]
        exact ⟨4, _, _, rfl, rfl, (r_refuse R).mono up tp, upd_ne (by omega), upd_ne (by omega), by decide⟩
      · rw [j, if_neg (by decide), if_neg (by decide), show fX10_letsThrough 5 = 0 from by decide, if_pos rfl, gN6, kN6]
        exact ⟨5, _, _, rfl, rfl, (r_refuse R).mono up tp, upd_ne (by omega), upd_ne (by omega), by decide⟩
      · rw [j, if_neg (by decide), if_neg (by decide), show fX10_letsThrough 6 = 0 from by decide, if_pos rfl, gN6, kN6]
        exact ⟨6, _, _, rfl, rfl, (r_refuse R).mono up tp, upd_ne (by omega), upd_ne (by omega), by decide⟩
      · rw [j, if_neg (by decide), if_pos rfl, show fX10_letsThrough 7 = 1 from by decide, if_neg (by decide), if_pos rfl, gN7, kN7]
        exact ⟨7, _, _, rfl, rfl, (r_unwr R).mono up tp, upd_ne (by omega), upd_ne (by omega), by decide⟩
    · rw [u, if_neg (by decide), if_neg (by decide), m_fget (S 3) hc (by decide), h3, eo]
      unfold fX5_takeWaiting
      simp only [lt_]
      rw [m_fget _ ho (by decide), m_fput _ _ ho (by decide), m_bd2, m_finc _ _ hc (by decide)]
      rw [gC1 hc, kC1 hc, gA1 ho, kA1 ho, gA1 ho]
      have e14 : S 14 o = r (53 + 4 * o) := (R.acc o ho).2.1
      have e5 : va_up S 14 (upd (S 14) o 0) 5 c = r (13 + 4 * c) := h5
      rw [e14, e5, upd_comm (show 13 + 4 * c ≠ 53 + 4 * o by omega)]
      have R2 := (R.mWait ho 0).mMoney hc (r (13 + 4 * c) + r (53 + 4 * o))
      have v0 : upd (upd r (53 + 4 * o) 0) (13 + 4 * c) (r (13 + 4 * c) + r (53 + 4 * o)) 0 = r 0 := by rw [upd_ne (by omega), upd_ne (by omega)]
      have v1 : upd (upd r (53 + 4 * o) 0) (13 + 4 * c) (r (13 + 4 * c) + r (53 + 4 * o)) 1 = r 1 := by rw [upd_ne (by omega), upd_ne (by omega)]
      have v12 : upd (upd r (53 + 4 * o) 0) (13 + 4 * c) (r (13 + 4 * c) + r (53 + 4 * o)) (12 + 4 * c) = nI o := by rw [upd_ne (by omega), upd_ne (by omega)]; exact eo
      have uu : fX3_isUp (va_up (va_up S 14 (upd (S 14) o 0)) 5 (upd (va_up S 14 (upd (S 14) o 0) 5) c (r (13 + 4 * c) + r (53 + 4 * o)))) (nI g) = 1 := u
      generalize upd (upd r (53 + 4 * o) 0) (13 + 4 * c) _ = r1 at R2 v0 v1 v12 ⊢
      generalize va_up (va_up S 14 (upd (S 14) o 0)) 5 _ = S1 at R2 uu ⊢
      have hC1 : nI c < r1 0 := by rw [v0]; exact hC
      rw [r_comesTo R2 (by omega) hc hC1 hg, m_bd]
      rcases judge_up (x := nI c) uu with j | j | j | j
      · obtain ⟨z, r', S', w1, w2, R', K0, K1⟩ := r_ride0 R2 hB hT hc hC1 hg uu
        rw [j, if_pos (by decide), if_pos rfl, show fX10_letsThrough 0 = 1 from by decide, if_neg (by decide), if_neg (by decide), w2, m_bd]
        rw [gG0 hg, kG0 hg, gC2 hc, kC2 hc, gN2, kN2, gC3 hc, kC3 hc]
        have e2 : upd (upd r1 (13 + 4 * c) (r1 (13 + 4 * c) - r1 (84 + 5 * g))) (14 + 4 * c) (upd r1 (13 + 4 * c) (r1 (13 + 4 * c) - r1 (84 + 5 * g)) (14 + 4 * c) + 1) 2 = r1 2 := by rw [upd_ne (by omega), upd_ne (by omega)]
        rw [e2, upd_ne (show 14 + 4 * c ≠ 13 + 4 * c by omega)]
        rw [v12] at w1
        have hT : upd (upd (upd r1 (13 + 4 * c) (r1 (13 + 4 * c) - r1 (84 + 5 * g))) (14 + 4 * c) (r1 (14 + 4 * c) + 1)) (15 + 4 * c) (r1 2 + 1) = rTk r1 c g := rfl
        rw [hT, w1, m_bd2]
        exact ⟨0, r', S', rfl, rfl, R', K0.trans v0, K1.trans v1, Or.inl rfl⟩
      · rw [j, if_neg (by decide), if_neg (by decide), show fX10_letsThrough 3 = 0 from by decide, if_pos rfl, gN6, kN6]
        exact ⟨3, _, _, rfl, rfl, (r_refuse R2).mono up tp, (upd_ne (by omega)).trans v0, (upd_ne (by omega)).trans v1, by decide⟩
      · rw [j, if_neg (by decide), if_neg (by decide), show fX10_letsThrough 4 = 0 from by decide, if_pos rfl, gN6, kN6]
        exact ⟨4, _, _, rfl, rfl, (r_refuse R2).mono up tp, (upd_ne (by omega)).trans v0, (upd_ne (by omega)).trans v1, by decide⟩
      · rw [j, if_neg (by decide), if_neg (by decide), show fX10_letsThrough 5 = 0 from by decide, if_pos rfl, gN6, kN6]
        exact ⟨5, _, _, rfl, rfl, (r_refuse R2).mono up tp, (upd_ne (by omega)).trans v0, (upd_ne (by omega)).trans v1, by decide⟩
  · rw [z1, z2, if_pos rfl, if_neg (by decide), gN7, kN7]
    exact ⟨2, _, _, rfl, rfl, (r_unwr R).mono up tp, upd_ne (by omega), upd_ne (by omega), by decide⟩
end RIDE2
