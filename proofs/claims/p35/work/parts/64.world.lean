/-! a new object's state; the whole world's relation -/
theorem ini (f : Nat → Int32) {j : Nat} (h : j < 1272) : beginR f j = initR j := if_pos h
def clr (S : Nat → Nat → Int32) : Nat → Nat → Int32 := (fX10_clear S).getD S
theorem clr_eq (S : Nat → Nat → Int32) : fX10_clear S = some (clr S) := rfl
theorem fp0 (f : Nat → Int32) (x : Int32) : fput 4 f 0 x = upd f 0 x := m_fput (a := 0) f x (by decide) (by decide)
theorem fp1 (f : Nat → Int32) (x : Int32) : fput 4 f 1 x = upd f 1 x := m_fput (a := 1) f x (by decide) (by decide)
theorem fp2 (f : Nat → Int32) (x : Int32) : fput 4 f 2 x = upd f 2 x := m_fput (a := 2) f x (by decide) (by decide)
theorem fp3 (f : Nat → Int32) (x : Int32) : fput 4 f 3 x = upd f 3 x := m_fput (a := 3) f x (by decide) (by decide)
theorem clr_39 (S : Nat → Nat → Int32) : clr S 39 = upd (upd (upd (upd (S 39) 0 10) 1 5) 2 0) 3 20 := by
  show fput 4 (fput 4 (fput 4 (fput 4 (S 39) 0 10) 1 5) 2 0) 3 20 = _
  rw [fp0, fp1, fp2, fp3]
theorem clr_0 (S : Nat → Nat → Int32) : clr S 0 = upd (upd (upd (upd (upd (upd (S 0) 4 0) 5 0) 6 0) 7 0) 8 0) 9 0 := rfl
theorem ini_A : ∀ a, a < 8 → initR (52 + 4 * a) = 0 ∧ initR (53 + 4 * a) = 0 ∧ initR (54 + 4 * a) = 0 ∧ initR (55 + 4 * a) = 0 := by decide +kernel
theorem ini_G : ∀ g, g < 4 → initR (84 + 5 * g) = 2 ∧ initR (85 + 5 * g) = 1 ∧ initR (86 + 5 * g) = 0 ∧ initR (87 + 5 * g) = 0 := by decide +kernel
theorem ini_C : ∀ c, c < 10 → initR (14 + 4 * c) = 0 ∧ initR (15 + 4 * c) = 0 := by decide +kernel
theorem ini_L : ∀ g, g < 4 → ∀ k, k < 12 → initR (106 + 36 * g + 3 * k) = 0 := by decide +kernel
theorem ini_B {j : Nat} (h : 104 ≤ j) : initR j = 0 := by
  unfold initR
  rw [if_neg (by omega), if_neg (by omega), if_neg (by omega), if_neg (by omega), if_neg (by omega)]
theorem ini_N : ∀ k, k < 8 → initR k = 0 := by decide +kernel
theorem ini_S : initR 8 = 10 ∧ initR 9 = 5 ∧ initR 10 = 0 ∧ initR 11 = 20 := by decide +kernel
theorem r_begin (S : Nat → Nat → Int32) (f : Nat → Int32) : Rel 0 0 (clr S) (beginR f) := by
  have z0 : beginR f 0 = 0 := (ini f (by omega)).trans (ini_N 0 (by omega))
  have z1 : beginR f 1 = 0 := (ini f (by omega)).trans (ini_N 1 (by omega))
  have no : ∀ c : Nat, c < 10 → nI c < beginR f 0 → False := fun c hc h => by rw [z0] at h; exact nI_pos (by omega) h
  have nl : ∀ g k : Nat, g < 4 → k < 12 → nI k < beginR f (87 + 5 * g) → False := fun g k hg hk h => by rw [ini f (by omega), (ini_G g hg).2.2.2] at h; exact nI_pos (by omega) h
  refine ⟨⟨?_, ?_, ?_, ?_, ?_, ⟨0, by omega, by rw [z0, nI_0]⟩, ⟨0, by omega, by rw [z1, nI_0]⟩, ⟨0, by omega, by rw [ini f (by omega), ini_N 2 (by omega), nI_0]⟩⟩, ⟨fun c hc h => (no c hc h).elim, fun c hc h => (no c hc h).elim, fun c hc h => (no c hc h).elim, fun c hc h => (no c hc h).elim⟩, ⟨fun a ha => ?_, fun a ha => ?_⟩, ⟨fun g hg => ?_, fun g hg => ?_, fun g hg => ?_, fun g hg h => ?_, fun g hg => ?_⟩, ⟨fun g k hg hk h => (nl g k hg hk h).elim, fun g k hg hk h => (nl g k hg hk h).elim, fun g k hg hk h => (nl g k hg hk h).elim⟩, fun a w ha hw => ?_, fun c hc h => ?_, ⟨fun a ha => ?_, fun g hg => ?_, fun g k hg hk => ?_, ?_, ?_⟩⟩
  · rw [z0]; rfl
  · rw [z1]; rfl
  · intro k hk
    rw [ini f (by omega), ini_N (2 + k) (by omega), clr_0]
    rcases (show k = 0 ∨ k = 1 ∨ k = 2 ∨ k = 3 ∨ k = 4 ∨ k = 5 by omega) with rfl | rfl | rfl | rfl | rfl | rfl <;> rfl
  · intro k hk
    rw [ini f (by omega), clr_39]
    rcases (show k = 0 ∨ k = 1 ∨ k = 2 ∨ k = 3 by omega) with rfl | rfl | rfl | rfl <;> rfl
  · exact Or.inl ((ini f (by omega)).trans ini_S.2.2.1)
  · rw [ini f (by omega), ini f (by omega), ini f (by omega), ini f (by omega)]
    obtain ⟨h1, h2, h3, h4⟩ := ini_A a ha
    rw [h1, h2, h3, h4]
    exact ⟨rfl, rfl, rfl, rfl⟩
  · exact Or.inl ((ini f (by omega)).trans (ini_A a ha).2.2.1)
  · rw [ini f (by omega), ini f (by omega), ini f (by omega), ini f (by omega)]
    obtain ⟨h1, h2, h3, h4⟩ := ini_G g hg
    rw [h1, h2, h3, h4]
    exact ⟨rfl, rfl, rfl, rfl⟩
  · exact Or.inr ((ini f (by omega)).trans (ini_G g hg).2.1)
  · exact Or.inl ((ini f (by omega)).trans (ini_G g hg).2.2.1)
  · rw [ini f (by omega), (ini_G g hg).2.1] at h
    exact absurd h (by decide)
  · exact ⟨0, by omega, by rw [ini f (by omega), (ini_G g hg).2.2.2, nI_0]⟩
  · rw [ini f (by omega), ini_B (by omega)]; rfl
  · rw [ini f (by omega), ini f (by omega)]
    exact ini_C c hc
  · rw [ini f (by omega), (ini_A a ha).1]
    decide
  · rw [ini f (by omega), (ini_G g hg).1]
    decide
  · rw [ini f (by omega), ini_B (by omega)]
    decide
  · rw [ini f (by omega), ini_S.2.2.2]
    decide
  · exact ⟨5, by omega, by rw [ini f (by omega), ini_S.2.1]; rfl⟩
abbrev WHi (B T : Nat) (V : uV) : Prop := ∃ o z, o < 14 ∧ z ≤ 14 ∧ V 18 4 1 = nI o ∧ V 18 4 2 = nI z ∧ V 19 0 7 = nI z ∧ ∀ k, k < z → Rel B T (V (2 + (o + k) % 14)) (fun j => V 19 5 (1272 * k + j))
abbrev WSl (B T : Nat) (V : uV) : Prop := (V 18 6 2 = V 19 7 0 ∧ V 18 6 3 = V 19 7 1) ∧ (V 19 7 0 = 0 ∨ V 19 7 0 = 1) ∧ (V 19 7 1 = 0 ∨ V 19 7 1 = 1) ∧ (V 19 7 0 = 1 → Rel B T (V 16) (fun j => V 19 6 j)) ∧ (V 19 7 1 = 1 → Rel B T (V 17) (fun j => V 19 6 (1272 + j)))
abbrev WTx (V : uV) : Prop := ∃ t, t ≤ 120 ∧ V 18 1 1 = nI t ∧ V 19 0 2 = nI t ∧ ∀ i, i < t → V 18 3 i = V 19 1 i
abbrev WR (B T : Nat) (V : uV) : Prop := Rel B T (V 0) (V 19 2) ∧ WHi B T V ∧ WSl B T V ∧ WTx V
section WCG
variable {B T B' T' : Nat} {V V' : uV}
theorem WHi.cg (h : WHi B T V) (h1 : ∀ t, 2 ≤ t → t < 16 → V' t = V t) (h2 : V' 18 4 = V 18 4) (h3 : V' 19 5 = V 19 5) (h4 : V' 19 0 7 = V 19 0 7) : WHi B T V' := by
  obtain ⟨o, z, ho, hz, e1, e2, e3, e4⟩ := h
  refine ⟨o, z, ho, hz, by rw [h2, e1], by rw [h2, e2], by rw [h4, e3], fun k hk => ?_⟩
  have q : (o + k) % 14 < 14 := Nat.mod_lt _ (by decide)
  rw [h1 _ (by omega) (by omega), h3]
  exact e4 k hk
theorem WSl.cg (h : WSl B T V) (h1 : V' 16 = V 16) (h2 : V' 17 = V 17) (h3 : V' 18 6 = V 18 6) (h4 : V' 19 6 = V 19 6) (h5 : V' 19 7 = V 19 7) : WSl B T V' := by
  unfold WSl
  rw [h1, h2, h3, h4, h5]
  exact h
theorem WTx.cg (h : WTx V) (h1 : V' 18 1 = V 18 1) (h2 : V' 18 3 = V 18 3) (h3 : V' 19 1 = V 19 1) (h4 : V' 19 0 2 = V 19 0 2) : WTx V' := by
  unfold WTx
  rw [h1, h2, h3, h4]
  exact h
theorem WHi.mono (h : WHi B T V) (hB : B ≤ B') (hT : T ≤ T') : WHi B' T' V := by
  obtain ⟨o, z, ho, hz, e1, e2, e3, e4⟩ := h
  exact ⟨o, z, ho, hz, e1, e2, e3, fun k hk => (e4 k hk).mono hB hT⟩
theorem WSl.mono (h : WSl B T V) (hB : B ≤ B') (hT : T ≤ T') : WSl B' T' V :=
  ⟨h.1, h.2.1, h.2.2.1, fun q => (h.2.2.2.1 q).mono hB hT, fun q => (h.2.2.2.2 q).mono hB hT⟩
theorem WR.mono (h : WR B T V) (hB : B ≤ B') (hT : T ≤ T') : WR B' T' V :=
  ⟨h.1.mono hB hT, h.2.1.mono hB hT, h.2.2.1.mono hB hT, h.2.2.2⟩
/-- what scratch, trial, apart, the refusal and the law's own array hold doesn't matter -/
theorem WR.look (h : WR B T V) (h1 : ∀ t, t ≠ 1 → t < 19 → V' t = V t) (m1 : V' 19 1 = V 19 1) (m2 : V' 19 2 = V 19 2) (m5 : V' 19 5 = V 19 5) (m6 : V' 19 6 = V 19 6) (m7 : V' 19 7 = V 19 7) (m07 : V' 19 0 7 = V 19 0 7) (m02 : V' 19 0 2 = V 19 0 2) : WR B T V' := by
  have e18 := h1 18 (by omega) (by omega)
  refine ⟨?_, h.2.1.cg (fun t h2 h3 => h1 t (by omega) (by omega)) (by rw [e18]) m5 m07, h.2.2.1.cg (h1 16 (by omega) (by omega)) (h1 17 (by omega) (by omega)) (by rw [e18]) m6 m7, h.2.2.2.cg (by rw [e18]) (by rw [e18]) m1 m02⟩
  rw [h1 0 (by omega) (by omega), m2]
  exact h.1
end WCG
