
/-! a ride: what it comes to; what a ride later would come to -/
section JRIDE
variable {b B T : Nat} {r : Nat → Int32} {S : Nat → Nat → Int32}
/-- the class's state behind what a card that is shown at an upright line takes first -/
def wtS (S : Nat → Nat → Int32) (c o : Nat) (x : Int32) : Nat → Nat → Int32 := va_up (va_up S 14 (upd (S 14) o 0)) 5 (upd (va_up S 14 (upd (S 14) o 0) 5) c x)
/-- the outcomes: open; at a line that is down; at one that is up -/
abbrev RideE (r r' : Nat → Int32) (S : Nat → Nat → Int32) (c g o : Nat) (z : Int32) : Prop :=
  (r (86 + 5 * g) = 1 ∧ z = 2 ∧ r' = upd r 7 (r 7 + 1)) ∨
  (r (86 + 5 * g) = 0 ∧ r (85 + 5 * g) = 0 ∧ z = fX10_judge S (nI c) (nI g) ∧ ((z = 1 ∧ ∃ d, d < 12 ∧ r (87 + 5 * g) = nI d ∧ r' = upd (upd (upd (upd (rTk r c g) (104 + 36 * g + 3 * d) (r (12 + 4 * c))) (105 + 36 * g + 3 * d) (r (14 + 4 * c) + 1)) (106 + 36 * g + 3 * d) (r (84 + 5 * g))) (87 + 5 * g) (nI (d + 1))) ∨ (z = 3 ∨ z = 4 ∨ z = 5 ∨ z = 6) ∧ r' = upd r 6 (r 6 + 1) ∨ z = 7 ∧ r' = upd r 7 (r 7 + 1))) ∨
  (r (86 + 5 * g) = 0 ∧ r (85 + 5 * g) = 1 ∧ z = fX10_judge (wtS S c o (r (13 + 4 * c) + r (53 + 4 * o))) (nI c) (nI g) ∧ ((z = 0 ∧ ∃ zz, fX12_settle (rTk (upd (upd r (53 + 4 * o) 0) (13 + 4 * c) (r (13 + 4 * c) + r (53 + 4 * o))) c g) (nI o) (r (14 + 4 * c) + 1) (r (84 + 5 * g)) = some (zz, r')) ∨ (z = 3 ∨ z = 4 ∨ z = 5) ∧ r' = upd (upd (upd r (53 + 4 * o) 0) (13 + 4 * c) (r (13 + 4 * c) + r (53 + 4 * o))) 6 (r 6 + 1)))
set_option maxRecDepth 20000 in
set_option maxHeartbeats 4000000 in
theorem e_ride (R : Rel B T S r) (hB : B + 1 < 1024) (hT : T + 99 < 2 ^ 30) {c g o : Nat} (hc : c < 10) (hC : nI c < r 0) (hg : g < 4) (ho : o < 8) (hoA : nI o < r 1) (eo : r (12 + 4 * c) = nI o) : ∃ z r', fX12_rideOn r (nI c) (nI g) = some (z, r') ∧ RideE r r' S c g o z := by
  unfold fX12_rideOn
  simp only [lt_]
  rw [gC0 hc, kC0 hc, gG2 hg, kG2 hg]
  rcases R.gopen g hg with z2 | z2
  · rw [z2, if_neg (by decide), r_isUp R hg, m_bd]
    rcases up01 R hg with ⟨u, u2⟩ | ⟨u, u2⟩
    · rw [u, if_pos rfl, r_comesTo R (by omega) hc hC hg, m_bd]
      rcases judge_dn (x := nI c) u with ⟨j, jf⟩ | j | j | j | j | j
      · obtain ⟨d, S', hd, ed, w, R'⟩ := r_ride1 R hc hC hg u jf
        rw [j, if_pos (by decide), if_neg (by decide)]
        rw [gG0 hg, kG0 hg, gC1 hc, kC1 hc, gC2 hc, kC2 hc, gN2, kN2, gC3 hc, kC3 hc, gG3 hg, kG3 hg]
        have e2 : upd (upd r (13 + 4 * c) (r (13 + 4 * c) - r (84 + 5 * g))) (14 + 4 * c) (upd r (13 + 4 * c) (r (13 + 4 * c) - r (84 + 5 * g)) (14 + 4 * c) + 1) 2 = r 2 := by rw [upd_ne (by omega), upd_ne (by omega)]
        rw [e2, upd_ne (show 14 + 4 * c ≠ 13 + 4 * c by omega)]
        have hT : upd (upd (upd r (13 + 4 * c) (r (13 + 4 * c) - r (84 + 5 * g))) (14 + 4 * c) (r (14 + 4 * c) + 1)) (15 + 4 * c) (r 2 + 1) = rTk r c g := rfl
        rw [hT]
        refine ⟨1, _, ?_, Or.inr (Or.inl ⟨z2, u2, j.symm, Or.inl ⟨rfl, d, hd, (rTk_ne (by omega)).symm.trans ed, rfl⟩⟩)⟩
        rw [ed, gL0 hg hd, kL0 hg hd, gL1 hg hd, kL1 hg hd, gL2 hg hd, kL2 hg hd, upd_ne (show 87 + 5 * g ≠ 106 + 36 * g + 3 * d by omega), upd_ne (show 87 + 5 * g ≠ 105 + 36 * g + 3 * d by omega), upd_ne (show 87 + 5 * g ≠ 104 + 36 * g + 3 * d by omega), upd_ne (show 14 + 4 * c ≠ 104 + 36 * g + 3 * d by omega), rTk_14, ed, nI_1]
      · rw [j, if_neg (by decide), if_neg (by decide), gN6, kN6]
        exact ⟨3, _, rfl, Or.inr (Or.inl ⟨z2, u2, j.symm, Or.inr (Or.inl ⟨by decide, rfl⟩)⟩)⟩
      · rw [j, if_neg (by decide), if_neg (by decide), gN6, kN6]
        exact ⟨4, _, rfl, Or.inr (Or.inl ⟨z2, u2, j.symm, Or.inr (Or.inl ⟨by decide, rfl⟩)⟩)⟩
      · rw [j, if_neg (by decide), if_neg (by decide), gN6, kN6]
        exact ⟨5, _, rfl, Or.inr (Or.inl ⟨z2, u2, j.symm, Or.inr (Or.inl ⟨by decide, rfl⟩)⟩)⟩
      · rw [j, if_neg (by decide), if_neg (by decide), gN6, kN6]
        exact ⟨6, _, rfl, Or.inr (Or.inl ⟨z2, u2, j.symm, Or.inr (Or.inl ⟨by decide, rfl⟩)⟩)⟩
      · rw [j, if_neg (by decide), if_pos rfl, gN7, kN7]
        exact ⟨7, _, rfl, Or.inr (Or.inl ⟨z2, u2, j.symm, Or.inr (Or.inr ⟨rfl, rfl⟩)⟩)⟩
    · rw [u, if_neg (by decide), eo]
      rw [gC1 hc, kC1 hc, gA1 ho, kA1 ho, gA1 ho, upd_comm (show 13 + 4 * c ≠ 53 + 4 * o by omega)]
      have R2 := (R.mWait ho 0).mMoney hc (r (13 + 4 * c) + r (53 + 4 * o))
      have hS : va_up (va_up S 14 (upd (S 14) o 0)) 5 (upd (va_up S 14 (upd (S 14) o 0) 5) c (r (13 + 4 * c) + r (53 + 4 * o))) = wtS S c o (r (13 + 4 * c) + r (53 + 4 * o)) := rfl
      rw [hS] at R2
      have v : ∀ j, j ≠ 53 + 4 * o → j ≠ 13 + 4 * c → upd (upd r (53 + 4 * o) 0) (13 + 4 * c) (r (13 + 4 * c) + r (53 + 4 * o)) j = r j := fun j h1 h2 => by rw [upd_ne h2, upd_ne h1]
      have uu : fX3_isUp (wtS S c o (r (13 + 4 * c) + r (53 + 4 * o))) (nI g) = 1 := u
      have hC1 : nI c < upd (upd r (53 + 4 * o) 0) (13 + 4 * c) (r (13 + 4 * c) + r (53 + 4 * o)) 0 := by rw [v 0 (by omega) (by omega)]; exact hC
      rw [r_comesTo R2 (by omega) hc hC1 hg, m_bd]
      rcases judge_up (x := nI c) uu with j | j | j | j
      · rw [j, if_pos (by decide), if_pos rfl]
        rw [gG0 hg, kG0 hg, gC2 hc, kC2 hc, gN2, kN2, gC3 hc, kC3 hc]
        obtain ⟨z, r', S', w1, w2, R', K0, K1⟩ := r_ride0 R2 hB hT hc hC1 hg uu
        have v12 := v (12 + 4 * c) (by omega) (by omega)
        have v14 := v (14 + 4 * c) (by omega) (by omega)
        have v84 := v (84 + 5 * g) (by omega) (by omega)
        have v2 := v 2 (by omega) (by omega)
        rw [v12, eo, rTk_14, v14, v84] at w1
        generalize hr1 : upd (upd r (53 + 4 * o) 0) (13 + 4 * c) (r (13 + 4 * c) + r (53 + 4 * o)) = r1 at w1 v14 v84 v2 ⊢
        have e2 : upd (upd r1 (13 + 4 * c) (r1 (13 + 4 * c) - r1 (84 + 5 * g))) (14 + 4 * c) (upd r1 (13 + 4 * c) (r1 (13 + 4 * c) - r1 (84 + 5 * g)) (14 + 4 * c) + 1) 2 = r1 2 := by rw [upd_ne (by omega), upd_ne (by omega)]
        rw [e2, upd_ne (show 14 + 4 * c ≠ 13 + 4 * c by omega)]
        have hT : upd (upd (upd r1 (13 + 4 * c) (r1 (13 + 4 * c) - r1 (84 + 5 * g))) (14 + 4 * c) (r1 (14 + 4 * c) + 1)) (15 + 4 * c) (r1 2 + 1) = rTk r1 c g := rfl
        rw [hT, rTk_14, v14, v84, w1, m_bd2]
        exact ⟨0, r', rfl, Or.inr (Or.inr ⟨z2, u2, j.symm, Or.inl ⟨rfl, z, by rw [hr1]; exact w1⟩⟩)⟩
      · rw [j, if_neg (by decide), if_neg (by decide), gN6, kN6, v 6 (by omega) (by omega)]
        exact ⟨3, _, rfl, Or.inr (Or.inr ⟨z2, u2, j.symm, Or.inr ⟨by decide, rfl⟩⟩)⟩
      · rw [j, if_neg (by decide), if_neg (by decide), gN6, kN6, v 6 (by omega) (by omega)]
        exact ⟨4, _, rfl, Or.inr (Or.inr ⟨z2, u2, j.symm, Or.inr ⟨by decide, rfl⟩⟩)⟩
      · rw [j, if_neg (by decide), if_neg (by decide), gN6, kN6, v 6 (by omega) (by omega)]
        exact ⟨5, _, rfl, Or.inr (Or.inr ⟨z2, u2, j.symm, Or.inr ⟨by decide, rfl⟩⟩)⟩
  · rw [z2, if_pos rfl, gN7, kN7]
    exact ⟨2, _, rfl, Or.inl ⟨z2, rfl, rfl⟩⟩
theorem j_ride (R : Rel B T S r) (h : JJ b r) (hB : B + 1 < 1024) (hT : T + 99 < 2 ^ 30) {c g : Nat} (hc : c < 10) (hC : nI c < r 0) (hg : g < 4) : ∃ z r', fX12_rideOn r (nI c) (nI g) = some (z, r') ∧ JJ (b + 9) r' ∧ r' 0 = r 0 ∧ r' 1 = r 1 := by
  obtain ⟨o, ho, hoA, eo⟩ := R.cown c hc hC
  obtain ⟨n, hn, en⟩ := R.ccnt c hc hC
  obtain ⟨m, hm, em⟩ := R.cT
  obtain ⟨f, hf1, hf9, ef⟩ := h.f g hg
  obtain ⟨z, r', w, E⟩ := e_ride R hB hT hc hC hg ho hoA eo
  refine ⟨z, r', w, ?_⟩
  rcases E with ⟨-, -, rfl⟩ | ⟨z2, u2, -, ⟨-, d, hd, ed, rfl⟩ | ⟨-, rfl⟩ | ⟨-, rfl⟩⟩ | ⟨z2, u2, -, ⟨-, zz, q⟩ | ⟨-, rfl⟩⟩
  · exact ⟨(h.nk (nk5 (by decide) (by decide)) _).mono (by omega), upd_ne (by omega), upd_ne (by omega)⟩
  · have h1 := h.take (g := g) hc en (by omega) em (by omega)
    have h2 := h1.log (n := n) hg hd ((rTk_ne (by omega)).trans ed) ((rTk_ne (by omega)).trans u2) hf1 hf9 (by omega) (r (12 + 4 * c))
    rw [en, nI_1, ef]
    refine ⟨h2.mono (by omega), ?_, ?_⟩
    · rw [upd_ne (by omega), upd_ne (by omega), upd_ne (by omega), upd_ne (by omega), rTk_ne (by omega)]
    · rw [upd_ne (by omega), upd_ne (by omega), upd_ne (by omega), upd_ne (by omega), rTk_ne (by omega)]
  · exact ⟨(h.nk (nk5 (by decide) (by decide)) _).mono (by omega), upd_ne (by omega), upd_ne (by omega)⟩
  · exact ⟨(h.nk (nk5 (by decide) (by decide)) _).mono (by omega), upd_ne (by omega), upd_ne (by omega)⟩
  · have h0 := h.wait (w := 0) (Nat.le_refl b) ho (Nat.zero_le _)
    have h1 := (h0.nk (nk13 hc) (r (13 + 4 * c) + r (53 + 4 * o)))
    have v : ∀ j, j ≠ 53 + 4 * o → j ≠ 13 + 4 * c → upd (upd r (53 + 4 * o) (nI 0)) (13 + 4 * c) (r (13 + 4 * c) + r (53 + 4 * o)) j = r j := fun j h1 h2 => by rw [upd_ne h2, upd_ne h1]
    rw [nI_0] at h1 v
    have h2 := h1.take (g := g) hc ((v _ (by omega) (by omega)).trans en) (by omega) ((v 2 (by omega) (by omega)).trans em) (by omega)
    obtain ⟨zz', r'', e, q', E⟩ := e_settle ho (show n + 1 < 1024 by omega) (rTk (upd (upd r (53 + 4 * o) 0) (13 + 4 * c) (r (13 + 4 * c) + r (53 + 4 * o))) c g) (nI f)
    rw [en, nI_1, ef, q'] at q
    obtain ⟨rfl, rfl⟩ := Prod.mk.inj (Option.some.inj q)
    have h3 := h2.settle ho (by rw [rTk_ne (by omega), v 1 (by omega) (by omega)]; exact hoA) hf1 hf9 E
    obtain ⟨-, -, -, -, -, kk⟩ := E
    exact ⟨h3, by rw [kk 0 (by omega) (by omega) (by omega) (by omega) (by omega) (by omega) (Or.inl (by omega)), rTk_ne (by omega), v 0 (by omega) (by omega)], by rw [kk 1 (by omega) (by omega) (by omega) (by omega) (by omega) (by omega) (Or.inl (by omega)), rTk_ne (by omega), v 1 (by omega) (by omega)]⟩
  · have h0 := h.wait (w := 0) (Nat.le_refl b) ho (Nat.zero_le _)
    rw [nI_0] at h0
    exact ⟨((h0.nk (nk13 hc) _).nk (nk5 (by decide) (by decide)) _).mono (by omega), by rw [upd_ne (by omega), upd_ne (by omega), upd_ne (by omega)], by rw [upd_ne (by omega), upd_ne (by omega), upd_ne (by omega)]⟩
end JRIDE
