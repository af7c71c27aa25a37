
/-! the actions on a row keep what holds of every row -/
section JOPS
variable {b b' B T : Nat} {r r' : Nat → Int32} {S : Nat → Nat → Int32}
theorem JJ.lineUp (h : JJ b r) {g : Nat} (hg : g < 4) : JJ b (upd (upd (upd r (87 + 5 * g) 0) (85 + 5 * g) 1) (88 + 5 * g) 0) := by
  have k : ∀ j, j ≠ 87 + 5 * g → j ≠ 85 + 5 * g → j ≠ 88 + 5 * g → upd (upd (upd r (87 + 5 * g) 0) (85 + 5 * g) 1) (88 + 5 * g) 0 j = r j := fun j h1 h2 h3 => by rw [upd_ne h3, upd_ne h2, upd_ne h1]
  have k87 : upd (upd (upd r (87 + 5 * g) 0) (85 + 5 * g) 1) (88 + 5 * g) 0 (87 + 5 * g) = 0 := by rw [upd_ne (by omega), upd_ne (by omega), upd_at]
  refine ⟨h.s.cg (k _ (by omega) (by omega) (by omega)) (k _ (by omega) (by omega) (by omega)) (fun i hi => k _ (by omega) (by omega) (by omega)), h.w.cg (fun i hi => k _ (by omega) (by omega) (by omega)), h.z.cg (k _ (by omega) (by omega) (by omega)) (fun i hi => k _ (by omega) (by omega) (by omega)), h.c.cg (k _ (by omega) (by omega) (by omega)) (k _ (by omega) (by omega) (by omega)) (fun c hc => ⟨k _ (by omega) (by omega) (by omega), k _ (by omega) (by omega) (by omega)⟩), h.f.cg (fun g' hg' => k _ (by omega) (by omega) (by omega)), fun g' k' hg' hk q => ?_, fun g' hg' q => ?_, h.t.cg (fun j hj => k _ (by omega) (by omega) (by omega))⟩
  · by_cases e : g' = g
    · subst e
      rw [k87] at q
      exact absurd q (nI_pos (by omega))
    · rw [k _ (by omega) (by omega) (by omega)] at q
      rw [k _ (by omega) (by omega) (by omega), k _ (by omega) (by omega) (by omega)]
      exact h.l g' k' hg' hk q
  · by_cases e : g' = g
    · subst e; exact k87
    · rw [k _ (by omega) (by omega) (by omega)] at q
      rw [k _ (by omega) (by omega) (by omega)]
      exact h.u g' hg' q
theorem JJ.lineDn (h : JJ b r) {g : Nat} (hg : g < 4) (m : Int32) : JJ b (upd (upd r (88 + 5 * g) m) (85 + 5 * g) 0) := by
  have h := h.nk (nk88 hg) m
  generalize upd r (88 + 5 * g) m = r at h ⊢
  refine ⟨h.s.cg (upd_ne (by omega)) (upd_ne (by omega)) (fun i hi => upd_ne (by omega)), h.w.cg (fun i hi => upd_ne (by omega)), h.z.cg (upd_ne (by omega)) (fun i hi => upd_ne (by omega)), h.c.cg (upd_ne (by omega)) (upd_ne (by omega)) (fun c hc => ⟨upd_ne (by omega), upd_ne (by omega)⟩), h.f.cg (fun g' hg' => upd_ne (by omega)), h.l.cg (fun g' hg' => upd_ne (by omega)) (fun g' k hg' hk => ⟨upd_ne (by omega), upd_ne (by omega)⟩), fun g' hg' q => ?_, h.t.cg (fun j hj => upd_ne (by omega))⟩
  by_cases e : g' = g
  · subst e
    rw [upd_at] at q
    exact absurd q (by decide)
  · rw [upd_ne (by omega)] at q ⊢
    exact h.u g' hg' q
theorem JJ.fare (h : JJ b r) {g f : Nat} (hg : g < 4) (h1 : 1 ≤ f) (h9 : f ≤ 9) : JJ b (upd r (84 + 5 * g) (nI f)) := by
  refine ⟨h.s.cg (upd_ne (by omega)) (upd_ne (by omega)) (fun i hi => upd_ne (by omega)), h.w.cg (fun i hi => upd_ne (by omega)), h.z.cg (upd_ne (by omega)) (fun i hi => upd_ne (by omega)), h.c.cg (upd_ne (by omega)) (upd_ne (by omega)) (fun c hc => ⟨upd_ne (by omega), upd_ne (by omega)⟩), fun g' hg' => ?_, h.l.cg (fun g' hg' => upd_ne (by omega)) (fun g' k hg' hk => ⟨upd_ne (by omega), upd_ne (by omega)⟩), h.u.cg (fun g' hg' => upd_ne (by omega)) (fun g' hg' => upd_ne (by omega)), h.t.cg (fun j hj => upd_ne (by omega))⟩
  by_cases e : g' = g
  · subst e; exact ⟨f, h1, h9, upd_at _ _ _⟩
  · rw [upd_ne (by omega)]; exact h.f g' hg'
theorem JJ.run (h : JJ b r) {m m' : Nat} (e : r 2 = nI m) (hm : m < 2 ^ 30) (hmm : m ≤ m') (hm' : m' < 2 ^ 30) : JJ b (upd r 2 (nI m')) := by
  refine ⟨h.s.cg (upd_ne (by omega)) (upd_ne (by omega)) (fun i hi => upd_ne (by omega)), h.w.cg (fun i hi => upd_ne (by omega)), h.z.cg (upd_ne (by omega)) (fun i hi => upd_ne (by omega)), fun c hc q => ?_, h.f.cg (fun g' hg' => upd_ne (by omega)), h.l.cg (fun g' hg' => upd_ne (by omega)) (fun g' k hg' hk => ⟨upd_ne (by omega), upd_ne (by omega)⟩), h.u.cg (fun g' hg' => upd_ne (by omega)) (fun g' hg' => upd_ne (by omega)), h.t.cg (fun j hj => upd_ne (by omega))⟩
  rw [upd_ne (by omega)] at q
  obtain ⟨h1, t, m1, h2, h3, h4, h5⟩ := h.c c hc q
  have : m1 = m := (nI_eq (by omega) (by omega)).mp (h3.symm.trans e)
  rw [upd_ne (by omega), upd_ne (by omega)]
  exact ⟨h1, t, m', h2, upd_at _ _ _, by omega, hm'⟩
/-- a ride's first writes -/
theorem JJ.take (h : JJ b r) {c g n m : Nat} (hc : c < 10) (en : r (14 + 4 * c) = nI n) (hn : n < 2 ^ 30) (em : r 2 = nI m) (hm : m < 2 ^ 30) : JJ b (rTk r c g) := by
  have h := h.nk (nk13 hc) (r (13 + 4 * c) - r (84 + 5 * g))
  unfold rTk
  have e14 : upd r (13 + 4 * c) (r (13 + 4 * c) - r (84 + 5 * g)) (14 + 4 * c) = nI n := (upd_ne (by omega)).trans en
  have e2 : upd r (13 + 4 * c) (r (13 + 4 * c) - r (84 + 5 * g)) 2 = nI m := (upd_ne (by omega)).trans em
  rw [en, em, nI_1, nI_1]
  generalize upd r (13 + 4 * c) (r (13 + 4 * c) - r (84 + 5 * g)) = r at h e14 e2 ⊢
  have k : ∀ j, j ≠ 14 + 4 * c → j ≠ 15 + 4 * c → upd (upd r (14 + 4 * c) (nI (n + 1))) (15 + 4 * c) (nI (m + 1)) j = r j := fun j h1 h2 => by rw [upd_ne h2, upd_ne h1]
  refine ⟨h.s.cg (k _ (by omega) (by omega)) (k _ (by omega) (by omega)) (fun i hi => k _ (by omega) (by omega)), h.w.cg (fun i hi => k _ (by omega) (by omega)), h.z.cg (k _ (by omega) (by omega)) (fun i hi => k _ (by omega) (by omega)), fun c' hc' q => ?_, h.f.cg (fun g' hg' => k _ (by omega) (by omega)), h.l.cg (fun g' hg' => k _ (by omega) (by omega)) (fun g' k' hg' hk => ⟨k _ (by omega) (by omega), k _ (by omega) (by omega)⟩), h.u.cg (fun g' hg' => k _ (by omega) (by omega)) (fun g' hg' => k _ (by omega) (by omega)), h.t.cg (fun j hj => k _ (by omega) (by omega))⟩
  by_cases e : c' = c
  · subst e
    refine ⟨⟨fun z => ?_, fun z => ?_⟩, m + 1, m, upd_at _ _ _, (k 2 (by omega) (by omega)).trans e2, by omega, hm⟩
    · rw [upd_at] at z
      have := (nI_eq (a := m + 1) (b := 0) (by omega) (by omega)).mp z
      omega
    · rw [upd_ne (by omega), upd_at] at z
      have := (nI_eq (a := n + 1) (b := 0) (by omega) (by omega)).mp z
      omega
  · rw [k 0 (by omega) (by omega)] at q
    rw [k _ (by omega) (by omega), k _ (by omega) (by omega), k 2 (by omega) (by omega)]
    exact h.c c' hc' q
/-- a ride kept in the log -/
theorem JJ.log (h : JJ b r) {g d f n : Nat} (hg : g < 4) (hd : d < 12) (ed : r (87 + 5 * g) = nI d) (hu : r (85 + 5 * g) = 0) (h1 : 1 ≤ f) (h9 : f ≤ 9) (hn : n < 2 ^ 30) (x : Int32) : JJ b (upd (upd (upd (upd r (104 + 36 * g + 3 * d) x) (105 + 36 * g + 3 * d) (nI (n + 1))) (106 + 36 * g + 3 * d) (nI f)) (87 + 5 * g) (nI (d + 1))) := by
  have k : ∀ j, j ≠ 104 + 36 * g + 3 * d → j ≠ 105 + 36 * g + 3 * d → j ≠ 106 + 36 * g + 3 * d → j ≠ 87 + 5 * g → upd (upd (upd (upd r (104 + 36 * g + 3 * d) x) (105 + 36 * g + 3 * d) (nI (n + 1))) (106 + 36 * g + 3 * d) (nI f)) (87 + 5 * g) (nI (d + 1)) j = r j := fun j h1 h2 h3 h4 => by rw [upd_ne h4, upd_ne h3, upd_ne h2, upd_ne h1]
  refine ⟨h.s.cg (k _ (by omega) (by omega) (by omega) (by omega)) (k _ (by omega) (by omega) (by omega) (by omega)) (fun i hi => k _ (by omega) (by omega) (by omega) (by omega)), h.w.cg (fun i hi => k _ (by omega) (by omega) (by omega) (by omega)), h.z.cg (k _ (by omega) (by omega) (by omega) (by omega)) (fun i hi => k _ (by omega) (by omega) (by omega) (by omega)), h.c.cg (k _ (by omega) (by omega) (by omega) (by omega)) (k _ (by omega) (by omega) (by omega) (by omega)) (fun c hc => ⟨k _ (by omega) (by omega) (by omega) (by omega), k _ (by omega) (by omega) (by omega) (by omega)⟩), h.f.cg (fun g' hg' => k _ (by omega) (by omega) (by omega) (by omega)), fun g' k' hg' hk q => ?_, fun g' hg' q => ?_, h.t.cg (fun j hj => k _ (by omega) (by omega) (by omega) (by omega))⟩
  · by_cases e : g' = g ∧ k' = d
    · obtain ⟨rfl, rfl⟩ := e
      refine ⟨fun z => ?_, f, h1, h9, ?_⟩
      · rw [upd_ne (by omega), upd_ne (by omega), upd_at] at z
        have := (nI_eq (a := n + 1) (b := 0) (by omega) (by omega)).mp z
        omega
      · rw [upd_ne (by omega), upd_at]
    · rw [k (105 + 36 * g' + 3 * k') (by omega) (by omega) (by omega) (by omega), k (106 + 36 * g' + 3 * k') (by omega) (by omega) (by omega) (by omega)]
      refine h.l g' k' hg' hk ?_
      by_cases e2 : g' = g
      · subst e2
        rw [upd_at] at q
        rw [ed]
        have : k' < d + 1 := by
          rcases Nat.lt_or_ge k' (d + 1) with z | z
          · exact z
          · exact absurd q (nI_nlt z (by omega))
        exact nI_lt (by omega) (by omega)
      · rw [k _ (by omega) (by omega) (by omega) (by omega)] at q
        exact q
  · by_cases e2 : g' = g
    · subst e2
      rw [k _ (by omega) (by omega) (by omega) (by omega), hu] at q
      exact absurd q (by decide)
    · rw [k _ (by omega) (by omega) (by omega) (by omega)] at q ⊢
      exact h.u g' hg' q
theorem JJ.issue (h : JJ b r) {C A : Nat} (hC : C < 10) (hA : A < 8) (eC : r 0 = nI C) (eA : r 1 = nI A) (hz : r (14 + 4 * C) = 0 ∧ r (15 + 4 * C) = 0) {m : Nat} (em : r 2 = nI m) (hm : m < 2 ^ 30) (x y z : Int32) : JJ b (upd (upd (upd (upd (upd r (52 + 4 * A) x) (12 + 4 * C) y) (13 + 4 * C) z) 0 (nI (C + 1))) 1 (nI (A + 1))) := by
  have h := ((h.nk (nk52 hA) x).nk (nk12 hC) y).nk (nk13 hC) z
  have hz2 : upd (upd (upd r (52 + 4 * A) x) (12 + 4 * C) y) (13 + 4 * C) z (14 + 4 * C) = 0 ∧ upd (upd (upd r (52 + 4 * A) x) (12 + 4 * C) y) (13 + 4 * C) z (15 + 4 * C) = 0 := ⟨by rw [upd_ne (by omega), upd_ne (by omega), upd_ne (by omega)]; exact hz.1, by rw [upd_ne (by omega), upd_ne (by omega), upd_ne (by omega)]; exact hz.2⟩
  have e2 : upd (upd (upd r (52 + 4 * A) x) (12 + 4 * C) y) (13 + 4 * C) z 2 = nI m := by rw [upd_ne (by omega), upd_ne (by omega), upd_ne (by omega)]; exact em
  have e0 : upd (upd (upd r (52 + 4 * A) x) (12 + 4 * C) y) (13 + 4 * C) z 0 = nI C := by rw [upd_ne (by omega), upd_ne (by omega), upd_ne (by omega)]; exact eC
  have e1 : upd (upd (upd r (52 + 4 * A) x) (12 + 4 * C) y) (13 + 4 * C) z 1 = nI A := by rw [upd_ne (by omega), upd_ne (by omega), upd_ne (by omega)]; exact eA
  generalize upd (upd (upd r (52 + 4 * A) x) (12 + 4 * C) y) (13 + 4 * C) z = r at h hz2 e2 e0 e1 ⊢
  have k : ∀ j, j ≠ 0 → j ≠ 1 → upd (upd r 0 (nI (C + 1))) 1 (nI (A + 1)) j = r j := fun j h1 h2 => by rw [upd_ne h2, upd_ne h1]
  refine ⟨h.s.cg (k _ (by omega) (by omega)) (k _ (by omega) (by omega)) (fun i hi => k _ (by omega) (by omega)), h.w.cg (fun i hi => k _ (by omega) (by omega)), fun i hi q => ?_, fun c hc q => ?_, h.f.cg (fun g' hg' => k _ (by omega) (by omega)), h.l.cg (fun g' hg' => k _ (by omega) (by omega)) (fun g' k' hg' hk => ⟨k _ (by omega) (by omega), k _ (by omega) (by omega)⟩), h.u.cg (fun g' hg' => k _ (by omega) (by omega)) (fun g' hg' => k _ (by omega) (by omega)), h.t.cg (fun j hj => k _ (by omega) (by omega))⟩
  · rw [upd_at] at q
    rw [k _ (by omega) (by omega)]
    refine h.z i hi ?_
    rw [e1]
    have : A + 1 ≤ i := by
      rcases Nat.lt_or_ge i (A + 1) with z | z
      · exact absurd q (nI_ge z (by omega))
      · exact z
    exact nI_le (by omega) (by omega)
  · rw [upd_ne (by omega), upd_at] at q
    rw [k _ (by omega) (by omega), k _ (by omega) (by omega), k _ (by omega) (by omega)]
    have hcC : c < C + 1 := by
      rcases Nat.lt_or_ge c (C + 1) with z | z
      · exact z
      · exact absurd q (nI_nlt z (by omega))
    by_cases e : c = C
    · subst e
      exact ⟨by rw [hz2.1, hz2.2], 0, m, hz2.2, e2, by omega, hm⟩
    · exact h.c c hc (by rw [e0]; exact nI_lt (by omega) (by omega))
theorem JJ.copy (h : JJ b r) {C c : Nat} (hC : C < 10) (hc : c < C) (eC : r 0 = nI C) : JJ b (upd (upd (upd (upd (upd r (12 + 4 * C) (r (12 + 4 * c))) (13 + 4 * C) (r (13 + 4 * c))) (14 + 4 * C) (r (14 + 4 * c))) (15 + 4 * C) (r (15 + 4 * c))) 0 (nI (C + 1))) := by
  have k : ∀ j, j ≠ 12 + 4 * C → j ≠ 13 + 4 * C → j ≠ 14 + 4 * C → j ≠ 15 + 4 * C → j ≠ 0 → upd (upd (upd (upd (upd r (12 + 4 * C) (r (12 + 4 * c))) (13 + 4 * C) (r (13 + 4 * c))) (14 + 4 * C) (r (14 + 4 * c))) (15 + 4 * C) (r (15 + 4 * c))) 0 (nI (C + 1)) j = r j := fun j h1 h2 h3 h4 h5 => by rw [upd_ne h5, upd_ne h4, upd_ne h3, upd_ne h2, upd_ne h1]
  refine ⟨h.s.cg (k _ (by omega) (by omega) (by omega) (by omega) (by omega)) (k _ (by omega) (by omega) (by omega) (by omega) (by omega)) (fun i hi => k _ (by omega) (by omega) (by omega) (by omega) (by omega)), h.w.cg (fun i hi => k _ (by omega) (by omega) (by omega) (by omega) (by omega)), h.z.cg (k _ (by omega) (by omega) (by omega) (by omega) (by omega)) (fun i hi => k _ (by omega) (by omega) (by omega) (by omega) (by omega)), fun c' hc' q => ?_, h.f.cg (fun g' hg' => k _ (by omega) (by omega) (by omega) (by omega) (by omega)), h.l.cg (fun g' hg' => k _ (by omega) (by omega) (by omega) (by omega) (by omega)) (fun g' k' hg' hk => ⟨k _ (by omega) (by omega) (by omega) (by omega) (by omega), k _ (by omega) (by omega) (by omega) (by omega) (by omega)⟩), h.u.cg (fun g' hg' => k _ (by omega) (by omega) (by omega) (by omega) (by omega)) (fun g' hg' => k _ (by omega) (by omega) (by omega) (by omega) (by omega)), h.t.cg (fun j hj => k _ (by omega) (by omega) (by omega) (by omega) (by omega))⟩
  rw [upd_at] at q
  rw [k 2 (by omega) (by omega) (by omega) (by omega) (by omega)]
  have hcC : c' < C + 1 := by
    rcases Nat.lt_or_ge c' (C + 1) with z | z
    · exact z
    · exact absurd q (nI_nlt z (by omega))
  by_cases e : c' = C
  · subst e
    rw [upd_ne (show 15 + 4 * c' ≠ 0 by omega), upd_at, upd_ne (show 14 + 4 * c' ≠ 0 by omega), upd_ne (show 14 + 4 * c' ≠ 15 + 4 * c' by omega), upd_at]
    exact h.c c (by omega) (by rw [eC]; exact nI_lt (by omega) (by omega))
  · rw [k _ (by omega) (by omega) (by omega) (by omega) (by omega), k _ (by omega) (by omega) (by omega) (by omega) (by omega)]
    exact h.c c' hc' (by rw [eC]; exact nI_lt (by omega) (by omega))
end JOPS
