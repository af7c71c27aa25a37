
/-! what holds of every row of the model: counts, waiting money, times, fares, logs -/
def sumI (f : Nat → Int32) : Nat → Int32
  | 0 => 0
  | n + 1 => sumI f n + f n
theorem sumI_cg {f g : Nat → Int32} : ∀ n, (∀ i, i < n → f i = g i) → sumI f n = sumI g n
  | 0, _ => rfl
  | n + 1, h => by
    show sumI f n + f n = sumI g n + g n
    rw [sumI_cg n (fun i hi => h i (by omega)), h n (by omega)]
theorem sumI_one {f g : Nat → Int32} {a : Nat} {x : Int32} : ∀ n, a < n → (∀ i, i < n → i ≠ a → g i = f i) → g a = f a + x → sumI g n = sumI f n + x
  | 0, h, _, _ => absurd h (Nat.not_lt_zero a)
  | n + 1, h, h1, h2 => by
    show sumI g n + g n = (sumI f n + f n) + x
    by_cases e : a = n
    · subst e
      rw [sumI_cg a (fun i hi => h1 i (by omega) (by omega)), h2, Int32.add_assoc]
    · rw [sumI_one n (by omega) (fun i hi hne => h1 i (by omega) hne) h2, h1 n (by omega) (fun q => e q.symm), Int32.add_assoc, Int32.add_comm x, ← Int32.add_assoc]
abbrev JS (b : Nat) (r : Nat → Int32) : Prop := ∃ s F, s ≤ F ∧ F ≤ b ∧ r 3 = nI s ∧ r 4 = nI F ∧ sumI (fun a => r (55 + 4 * a)) 8 = r 3
abbrev JW (b : Nat) (r : Nat → Int32) : Prop := ∀ a, a < 8 → ∃ w, w ≤ b ∧ r (53 + 4 * a) = nI w
abbrev JZ (r : Nat → Int32) : Prop := ∀ a, a < 8 → r 1 ≤ nI a → r (55 + 4 * a) = 0
abbrev JC (r : Nat → Int32) : Prop := ∀ c, c < 10 → nI c < r 0 → (r (15 + 4 * c) = 0 ↔ r (14 + 4 * c) = 0) ∧ ∃ t m, r (15 + 4 * c) = nI t ∧ r 2 = nI m ∧ t ≤ m + 1 ∧ m < 2 ^ 30
abbrev JF (r : Nat → Int32) : Prop := ∀ g, g < 4 → ∃ f, 1 ≤ f ∧ f ≤ 9 ∧ r (84 + 5 * g) = nI f
abbrev JL (r : Nat → Int32) : Prop := ∀ g k, g < 4 → k < 12 → nI k < r (87 + 5 * g) → ¬ r (105 + 36 * g + 3 * k) = 0 ∧ ∃ f, 1 ≤ f ∧ f ≤ 9 ∧ r (106 + 36 * g + 3 * k) = nI f
abbrev JU (r : Nat → Int32) : Prop := ∀ g, g < 4 → r (85 + 5 * g) = 1 → r (87 + 5 * g) = 0
abbrev JT (r : Nat → Int32) : Prop := ∀ j, 1272 ≤ j → r j = 0
abbrev JJ (b : Nat) (r : Nat → Int32) : Prop := JS b r ∧ JW b r ∧ JZ r ∧ JC r ∧ JF r ∧ JL r ∧ JU r ∧ JT r
section JJS
variable {b b' : Nat} {r r' : Nat → Int32}
theorem JJ.s (h : JJ b r) : JS b r := h.1
theorem JJ.w (h : JJ b r) : JW b r := h.2.1
theorem JJ.z (h : JJ b r) : JZ r := h.2.2.1
theorem JJ.c (h : JJ b r) : JC r := h.2.2.2.1
theorem JJ.f (h : JJ b r) : JF r := h.2.2.2.2.1
theorem JJ.l (h : JJ b r) : JL r := h.2.2.2.2.2.1
theorem JJ.u (h : JJ b r) : JU r := h.2.2.2.2.2.2.1
theorem JJ.t (h : JJ b r) : JT r := h.2.2.2.2.2.2.2
theorem JS.mono (h : JS b r) (hb : b ≤ b') : JS b' r := by
  obtain ⟨s, F, h1, h2, h3⟩ := h
  exact ⟨s, F, h1, by omega, h3⟩
theorem JW.mono (h : JW b r) (hb : b ≤ b') : JW b' r := fun a ha => by
  obtain ⟨w, h1, h2⟩ := h a ha
  exact ⟨w, by omega, h2⟩
theorem JJ.mono (h : JJ b r) (hb : b ≤ b') : JJ b' r := ⟨h.s.mono hb, h.w.mono hb, h.2.2⟩
theorem JS.cg (h : JS b r) (h3 : r' 3 = r 3) (h4 : r' 4 = r 4) (h5 : ∀ a, a < 8 → r' (55 + 4 * a) = r (55 + 4 * a)) : JS b r' := by
  obtain ⟨s, F, e1, e2, e3, e4, e5⟩ := h
  exact ⟨s, F, e1, e2, h3.trans e3, h4.trans e4, by rw [h3, ← e5]; exact sumI_cg 8 (fun a ha => h5 a ha)⟩
theorem JW.cg (h : JW b r) (h1 : ∀ a, a < 8 → r' (53 + 4 * a) = r (53 + 4 * a)) : JW b r' := fun a ha => by rw [h1 a ha]; exact h a ha
theorem JZ.cg (h : JZ r) (h0 : r' 1 = r 1) (h1 : ∀ a, a < 8 → r' (55 + 4 * a) = r (55 + 4 * a)) : JZ r' := fun a ha q => by rw [h1 a ha]; exact h a ha (h0 ▸ q)
theorem JC.cg (h : JC r) (h0 : r' 0 = r 0) (h2 : r' 2 = r 2) (h1 : ∀ c, c < 10 → r' (14 + 4 * c) = r (14 + 4 * c) ∧ r' (15 + 4 * c) = r (15 + 4 * c)) : JC r' := fun c hc q => by rw [(h1 c hc).1, (h1 c hc).2, h2]; exact h c hc (h0 ▸ q)
theorem JF.cg (h : JF r) (h1 : ∀ g, g < 4 → r' (84 + 5 * g) = r (84 + 5 * g)) : JF r' := fun g hg => by rw [h1 g hg]; exact h g hg
theorem JL.cg (h : JL r) (h0 : ∀ g, g < 4 → r' (87 + 5 * g) = r (87 + 5 * g)) (h1 : ∀ g k, g < 4 → k < 12 → r' (105 + 36 * g + 3 * k) = r (105 + 36 * g + 3 * k) ∧ r' (106 + 36 * g + 3 * k) = r (106 + 36 * g + 3 * k)) : JL r' := fun g k hg hk q => by rw [(h1 g k hg hk).1, (h1 g k hg hk).2]; exact h g k hg hk (h0 g hg ▸ q)
theorem JU.cg (h : JU r) (h0 : ∀ g, g < 4 → r' (85 + 5 * g) = r (85 + 5 * g)) (h1 : ∀ g, g < 4 → r' (87 + 5 * g) = r (87 + 5 * g)) : JU r' := fun g hg q => by rw [h1 g hg]; exact h g hg ((h0 g hg) ▸ q)
theorem JT.cg (h : JT r) (h0 : ∀ j, 1272 ≤ j → r' j = r j) : JT r' := fun j hj => by rw [h0 j hj]; exact h j hj
/-- the places that the invariant speaks of -/
def KeyP (j : Nat) : Prop := j < 5 ∨ (53 ≤ j ∧ j < 84 ∧ j % 2 = 1) ∨ (14 ≤ j ∧ j < 52 ∧ (j % 4 = 2 ∨ j % 4 = 3)) ∨ (84 ≤ j ∧ j < 104 ∧ ((j - 84) % 5 = 0 ∨ (j - 84) % 5 = 1 ∨ (j - 84) % 5 = 3)) ∨ (104 ≤ j ∧ j < 248 ∧ ¬ (j - 104) % 3 = 0) ∨ 1272 ≤ j
theorem JJ.same (h : JJ b r) (k : ∀ j, KeyP j → r' j = r j) : JJ b r' := by
  have k1 : ∀ j, j < 5 → r' j = r j := fun j hj => k j (Or.inl hj)
  have k53 : ∀ a, a < 8 → r' (53 + 4 * a) = r (53 + 4 * a) := fun a ha => k _ (Or.inr (Or.inl ⟨by omega, by omega, by omega⟩))
  have k55 : ∀ a, a < 8 → r' (55 + 4 * a) = r (55 + 4 * a) := fun a ha => k _ (Or.inr (Or.inl ⟨by omega, by omega, by omega⟩))
  have k14 : ∀ c, c < 10 → r' (14 + 4 * c) = r (14 + 4 * c) ∧ r' (15 + 4 * c) = r (15 + 4 * c) := fun c hc => ⟨k _ (Or.inr (Or.inr (Or.inl ⟨by omega, by omega, Or.inl (by omega)⟩))), k _ (Or.inr (Or.inr (Or.inl ⟨by omega, by omega, Or.inr (by omega)⟩)))⟩
  have k84 : ∀ g, g < 4 → r' (84 + 5 * g) = r (84 + 5 * g) := fun g hg => k _ (Or.inr (Or.inr (Or.inr (Or.inl ⟨by omega, by omega, Or.inl (by omega)⟩))))
  have k85 : ∀ g, g < 4 → r' (85 + 5 * g) = r (85 + 5 * g) := fun g hg => k _ (Or.inr (Or.inr (Or.inr (Or.inl ⟨by omega, by omega, Or.inr (Or.inl (by omega))⟩))))
  have k87 : ∀ g, g < 4 → r' (87 + 5 * g) = r (87 + 5 * g) := fun g hg => k _ (Or.inr (Or.inr (Or.inr (Or.inl ⟨by omega, by omega, Or.inr (Or.inr (by omega))⟩))))
  have kl : ∀ g k', g < 4 → k' < 12 → r' (105 + 36 * g + 3 * k') = r (105 + 36 * g + 3 * k') ∧ r' (106 + 36 * g + 3 * k') = r (106 + 36 * g + 3 * k') := fun g k' hg hk => ⟨k _ (Or.inr (Or.inr (Or.inr (Or.inr (Or.inl ⟨by omega, by omega, by omega⟩))))), k _ (Or.inr (Or.inr (Or.inr (Or.inr (Or.inl ⟨by omega, by omega, by omega⟩)))))⟩
  exact ⟨h.s.cg (k1 3 (by omega)) (k1 4 (by omega)) k55, h.w.cg k53, h.z.cg (k1 1 (by omega)) k55, h.c.cg (k1 0 (by omega)) (k1 2 (by omega)) k14, h.f.cg k84, h.l.cg k87 kl, h.u.cg k85 k87, h.t.cg (fun j hj => k j (Or.inr (Or.inr (Or.inr (Or.inr (Or.inr hj))))))⟩
theorem JJ.nk (h : JJ b r) {j : Nat} (hj : ¬ KeyP j) (x : Int32) : JJ b (upd r j x) := h.same (fun i hi => upd_ne (fun e => hj (e ▸ hi)))
theorem nk5 {j : Nat} (h : 5 ≤ j) (h2 : j < 14) : ¬ KeyP j := by unfold KeyP; omega
theorem nk12 {c : Nat} (h : c < 10) : ¬ KeyP (12 + 4 * c) := by unfold KeyP; omega
theorem nk13 {c : Nat} (h : c < 10) : ¬ KeyP (13 + 4 * c) := by unfold KeyP; omega
theorem nk52 {a : Nat} (h : a < 8) : ¬ KeyP (52 + 4 * a) := by unfold KeyP; omega
theorem nk54 {a : Nat} (h : a < 8) : ¬ KeyP (54 + 4 * a) := by unfold KeyP; omega
theorem nk86 {g : Nat} (h : g < 4) : ¬ KeyP (86 + 5 * g) := by unfold KeyP; omega
theorem nk88 {g : Nat} (h : g < 4) : ¬ KeyP (88 + 5 * g) := by unfold KeyP; omega
/-- money that waits -/
theorem JJ.wait (h : JJ b r) (hb : b ≤ b') {a w : Nat} (ha : a < 8) (hw : w ≤ b') : JJ b' (upd r (53 + 4 * a) (nI w)) := by
  have h := h.mono hb
  refine ⟨h.s.cg (upd_ne (by omega)) (upd_ne (by omega)) (fun i hi => upd_ne (by omega)), fun i hi => ?_, h.z.cg (upd_ne (by omega)) (fun i hi => upd_ne (by omega)), h.c.cg (upd_ne (by omega)) (upd_ne (by omega)) (fun c hc => ⟨upd_ne (by omega), upd_ne (by omega)⟩), h.f.cg (fun g hg => upd_ne (by omega)), h.l.cg (fun g hg => upd_ne (by omega)) (fun g k hg hk => ⟨upd_ne (by omega), upd_ne (by omega)⟩), h.u.cg (fun g hg => upd_ne (by omega)) (fun g hg => upd_ne (by omega)), h.t.cg (fun j hj => upd_ne (by omega))⟩
  by_cases e : i = a
  · subst e; exact ⟨w, hw, upd_at _ _ _⟩
  · rw [upd_ne (by omega)]; exact h.w i hi
/-- a ride settled, or found a double -/
abbrev SetE (r r' : Nat → Int32) (a e : Nat) (x : Int32) : Prop := e ≤ 1 ∧ r' 3 = r 3 + nI (1 - e) ∧ r' 5 = r 5 + nI e ∧ r' 4 = r 4 + (if e = 0 then x else 0) ∧ r' (55 + 4 * a) = r (55 + 4 * a) + nI (1 - e) ∧ ∀ j, j ≠ 52 + 4 * a → j ≠ 54 + 4 * a → j ≠ 55 + 4 * a → j ≠ 3 → j ≠ 4 → j ≠ 5 → (j < 248 ∨ 1272 ≤ j) → r' j = r j
theorem e_settle {a n : Nat} (ha : a < 8) (hn : n < 1024) (r : Nat → Int32) (x : Int32) : ∃ z r' e, fX12_settle r (nI a) (nI n) x = some (z, r') ∧ SetE r r' a e x := by
  have hset : fX12_isSettled r (nI a) (nI n) = some 0 ∨ fX12_isSettled r (nI a) (nI n) = some 1 := by
    unfold fX12_isSettled
    simp only [lt_]
    rw [gBi ha hn, kBi ha hn]
    split
    · exact Or.inr rfl
    · exact Or.inl rfl
  have hn32 : n / 32 < 32 := by omega
  unfold fX12_settle
  simp only [lt_]
  rcases hset with e | e
  · rw [e, m_bd, if_pos rfl]
    simp only [gBi ha hn, kBi ha hn, gA3 ha, kA3 ha, gA0 ha, kA0 ha, gN3, kN3, gN4, kN4]
    refine ⟨0, _, 0, rfl, by omega, ?_, ?_, ?_, ?_, fun j h1 h2 h3 h4 h5 h6 h7 => ?_⟩
    · rw [upd_ne (by omega), upd_at, upd_ne (by omega), upd_ne (by omega), upd_ne (by omega)]; rfl
    · rw [upd_ne (by omega), upd_ne (by omega), upd_ne (by omega), upd_ne (by omega), upd_ne (by omega)]; exact (Int32.add_zero _).symm
    · rw [upd_at, upd_ne (by omega), upd_ne (by omega), upd_ne (by omega), upd_ne (by omega), if_pos rfl]
    · rw [upd_ne (by omega), upd_ne (by omega), upd_ne (by omega), upd_at, upd_ne (by omega)]; rfl
    · rw [upd_ne (by omega), upd_ne (by omega), upd_ne (by omega), upd_ne (by omega), upd_ne (by omega)]
  · rw [e, m_bd, if_neg n10]
    simp only [gA0 ha, kA0 ha, gA2 ha, kA2 ha, gN11, kN11, gN5, kN5]
    refine ⟨1, _, 1, rfl, by omega, ?_, ?_, ?_, ?_, fun j h1 h2 h3 h4 h5 h6 h7 => ?_⟩
    · rw [upd_ne (by omega), upd_ne (by omega), upd_ne (by omega)]; exact (Int32.add_zero _).symm
    · rw [upd_at, upd_ne (by omega), upd_ne (by omega)]; rfl
    · rw [upd_ne (by omega), upd_ne (by omega), upd_ne (by omega), if_neg (by omega), Int32.add_zero]
    · rw [upd_ne (by omega), upd_ne (by omega), upd_ne (by omega)]; exact (Int32.add_zero _).symm
    · rw [upd_ne (by omega), upd_ne (by omega), upd_ne (by omega)]
theorem JJ.settle (h : JJ b r) {a e f : Nat} (ha : a < 8) (haA : nI a < r 1) (hf : 1 ≤ f) (hf9 : f ≤ 9) (E : SetE r r' a e (nI f)) : JJ (b + 9) r' := by
  obtain ⟨e1, e3, e5, e4, e55, k⟩ := E
  have h0 := h.s
  have h := h.mono (show b ≤ b + 9 by omega)
  have kk : ∀ j, j ≠ 52 + 4 * a → j ≠ 54 + 4 * a → j ≠ 55 + 4 * a → j ≠ 3 → j ≠ 4 → j ≠ 5 → j < 248 → r' j = r j := fun j a1 a2 a3 a4 a5 a6 a7 => k j a1 a2 a3 a4 a5 a6 (Or.inl a7)
  refine ⟨?_, h.w.cg (fun i hi => kk _ (by omega) (by omega) (by omega) (by omega) (by omega) (by omega) (by omega)), fun i hi q => ?_, h.c.cg (kk 0 (by omega) (by omega) (by omega) (by omega) (by omega) (by omega) (by omega)) (kk 2 (by omega) (by omega) (by omega) (by omega) (by omega) (by omega) (by omega)) (fun c hc => ⟨kk _ (by omega) (by omega) (by omega) (by omega) (by omega) (by omega) (by omega), kk _ (by omega) (by omega) (by omega) (by omega) (by omega) (by omega) (by omega)⟩), h.f.cg (fun g hg => kk _ (by omega) (by omega) (by omega) (by omega) (by omega) (by omega) (by omega)), h.l.cg (fun g hg => kk _ (by omega) (by omega) (by omega) (by omega) (by omega) (by omega) (by omega)) (fun g k' hg hk => ⟨kk _ (by omega) (by omega) (by omega) (by omega) (by omega) (by omega) (by omega), kk _ (by omega) (by omega) (by omega) (by omega) (by omega) (by omega) (by omega)⟩), h.u.cg (fun g hg => kk _ (by omega) (by omega) (by omega) (by omega) (by omega) (by omega) (by omega)) (fun g hg => kk _ (by omega) (by omega) (by omega) (by omega) (by omega) (by omega) (by omega)), h.t.cg (fun j hj => k j (by omega) (by omega) (by omega) (by omega) (by omega) (by omega) (Or.inr hj))⟩
  · obtain ⟨s, F, h1, h2, h3, h4, h5⟩ := h0
    have hs : sumI (fun i => r' (55 + 4 * i)) 8 = sumI (fun i => r (55 + 4 * i)) 8 + nI (1 - e) := sumI_one (a := a) 8 ha (fun i hi hne => kk _ (by omega) (by omega) (by omega) (by omega) (by omega) (by omega) (by omega)) e55
    rcases (show e = 0 ∨ e = 1 by omega) with rfl | rfl
    · refine ⟨s + 1, F + f, by omega, by omega, ?_, ?_, ?_⟩
      · rw [e3, h3]; exact nI_add s 1
      · rw [e4, h4, if_pos rfl]; exact nI_add F f
      · rw [hs, h5, e3]
    · refine ⟨s, F, h1, by omega, ?_, ?_, ?_⟩
      · rw [e3, h3]; exact Int32.add_zero _
      · rw [e4, h4, if_neg (by omega)]; exact Int32.add_zero _
      · rw [hs, h5, e3]
  · have : i ≠ a := fun z => by
      subst z
      rw [kk 1 (by omega) (by omega) (by omega) (by omega) (by omega) (by omega) (by omega)] at q
      exact absurd haA (Int32.not_lt.mpr q)
    rw [kk (55 + 4 * i) (by omega) (by omega) (by omega) (by omega) (by omega) (by omega) (by omega)]
    rw [kk 1 (by omega) (by omega) (by omega) (by omega) (by omega) (by omega) (by omega)] at q
    exact h.z i hi q
end JJS
