
/-! an act of the law's: it comes to an answer, and what holds of the memory goes on -/
section ACTT
variable {n : Nat} {M : Mem}
abbrev OKa (n : Nat) (o : Option (Int32 × Mem)) : Prop := ∃ r M', o = some (r, M') ∧ JM (n + 1) M' ∧ Re (n + 1) M' ∧ Pos M'
theorem oa_if {c : Prop} [Decidable c] {a b : Option (Int32 × Mem)} (h1 : c → OKa n a) (h2 : ¬ c → OKa n b) : OKa n (if c then a else b) := by
  by_cases q : c
  · rw [if_pos q]; exact h1 q
  · rw [if_neg q]; exact h2 q
theorem Re.step (h : Re n M) (hn : n ≤ 850) {w a b c x : Int32} {M' : Mem} (e : rcall M w a b c = some (x, M')) (hM : norm M' = M') : Re (n + 1) M' := by
  obtain ⟨⟨V, hV⟩, -⟩ := h
  obtain ⟨V', -, hV'⟩ := T_call hV hn e
  exact ⟨⟨V', hV'⟩, hM⟩
theorem Re.up (h : Re n M) {n' : Nat} (hn : n ≤ n') : Re n' M := by
  obtain ⟨⟨V, hV⟩, hM⟩ := h
  exact ⟨⟨V, hV.up hn⟩, hM⟩
theorem oa_call (h : Re n M) (hn : n ≤ 850) (p : Pos M) {w a b c : Int32} (d : Done n M (rcall M w a b c)) : OKa n (bd2 (rcall M w a b c) fun x M' => some (x, M')) := by
  obtain ⟨x, M', e, j, hM, q⟩ := d
  rw [e, m_bd2]
  exact ⟨x, M', rfl, j, h.step hn e hM, q p⟩
theorem Re.rel (h : Re n M) : ∃ S, Rel n (150000 * n) S (M 2) := by
  obtain ⟨⟨V, hV, e⟩, -⟩ := h
  have R := hV.1
  rw [e] at R
  exact ⟨_, R⟩
theorem Re.fl (h : Re n M) {a : Nat} (ha : a < 2) : M 7 a = 0 ∨ M 7 a = 1 := by
  obtain ⟨⟨V, hV, e⟩, -⟩ := h
  obtain ⟨-, -, ⟨-, f0, f1, -⟩, -⟩ := hV
  rw [e] at f0 f1
  rcases (show a = 0 ∨ a = 1 by omega) with rfl | rfl
  · exact f0
  · exact f1
theorem act_true (h : Re n M) (jm : JM n M) (p : Pos M) (hn : n ≤ 850) {m : Nat} (hm : m < 2 ^ 31) : OKa n (fL_act M (nI m)) := by
  have hM := h.2
  obtain ⟨S, R⟩ := h.rel
  have D : ∀ d, 0 < d → d < 2 ^ 31 → nI m / nI d = nI (m / d) := fun d h0 hd => pk_div hm h0 hd
  have e16 : nI m / 16 = nI (m / 16) := D 16 (by decide) (by decide)
  have e128 : nI m / 128 = nI (m / 128) := D 128 (by decide) (by decide)
  have e256 : nI m / 256 = nI (m / 256) := D 256 (by decide) (by decide)
  have ex : ∃ x, x = m / 16 := ⟨_, rfl⟩
  obtain ⟨x, ex⟩ := ex
  have hx : x < 2 ^ 31 := by omega
  rw [← ex] at e16
  have Dx : ∀ d, 0 < d → d < 2 ^ 31 → nI x / nI d = nI (x / d) := fun d h0 hd => pk_div hx h0 hd
  have e2 : nI x / 2 = nI (x / 2) := Dx 2 (by decide) (by decide)
  have e3 : nI x / 3 = nI (x / 3) := Dx 3 (by decide) (by decide)
  have e4 : nI x / 4 = nI (x / 4) := Dx 4 (by decide) (by decide)
  have e8 : nI x / 8 = nI (x / 8) := Dx 8 (by decide) (by decide)
  have r60 : nI x - nI x / 60 * 60 = nI (x % 60) := qd hx 60 (by decide) (by decide)
  have r10 : nI x - nI x / 10 * 10 = nI (x % 10) := qd hx 10 (by decide) (by decide)
  have r4 : nI x - nI (x / 4) * 4 = nI (x % 4) := by rw [← e4]; exact qd hx 4 (by decide) (by decide)
  have r8 : nI x - nI (x / 8) * 8 = nI (x % 8) := by rw [← e8]; exact qd hx 8 (by decide) (by decide)
  have r20 : nI x - nI x / 20 * 20 = nI (x % 20) := qd hx 20 (by decide) (by decide)
  have r28 : nI (x / 2) - nI (x / 2) / 8 * 8 = nI (x / 2 % 8) := qd (show x / 2 < 2 ^ 31 by omega) 8 (by decide) (by decide)
  have r24 : nI (x / 2) - nI (x / 2) / 4 * 4 = nI (x / 2 % 4) := qd (show x / 2 < 2 ^ 31 by omega) 4 (by decide) (by decide)
  have r32 : nI (x / 3) - nI (x / 3) / 2 * 2 = nI (x / 3 % 2) := qd (show x / 3 < 2 ^ 31 by omega) 2 (by decide) (by decide)
  have r49 : nI (x / 4) - nI (x / 4) / 9 * 9 = nI (x / 4 % 9) := qd (show x / 4 < 2 ^ 31 by omega) 9 (by decide) (by decide)
  have r130 : nI (m / 128) - nI (m / 128) / 30 * 30 = nI (m / 128 % 30) := qd (show m / 128 < 2 ^ 31 by omega) 30 (by decide) (by decide)
  have r254 : nI (m / 256) - nI (m / 256) / 4 * 4 = nI (m / 256 % 4) := qd (show m / 256 < 2 ^ 31 by omega) 4 (by decide) (by decide)
  have p1 : ∀ k, (1 : Int32) + nI k = nI (1 + k) := fun k => nI_add 1 k
  unfold fL_act
  rw [e16]
  simp only [lt_eq]
  rw [e128, e256, e2, e3, e4, e8, r60, r10, r4, r8, r20, r28, r24, r32, r49, r130, r254, p1, p1, p1]
  refine oa_if (fun _ => ?_) (fun _ => ?_)
  · exact oa_call h hn p (a_issue R (by omega) jm hM (by omega) 0 0).1
  refine oa_if (fun _ => ?_) (fun _ => ?_)
  · exact oa_call h hn p (a_copy R jm hM (by omega) 0 0).1
  refine oa_if (fun _ => ?_) (fun _ => ?_)
  · exact oa_call h hn p (a_down R jm hM (by omega) 0 0)
  refine oa_if (fun _ => ?_) (fun _ => ?_)
  · exact oa_call h hn p (a_up R (by omega) jm hM (by omega) 0 0)
  refine oa_if (fun _ => ?_) (fun _ => ?_)
  · exact oa_call h hn p (a_pay R jm hM (by omega) (by omega) (by omega) 0)
  refine oa_if (fun _ => ?_) (fun _ => ?_)
  · refine oa_if (fun _ => ?_) (fun _ => ?_)
    · exact oa_call h hn p (a_open R jm (by omega) 0 0)
    · exact oa_call h hn p (a_fare R jm (by omega) (by omega) (by omega) 0)
  refine oa_if (fun _ => ?_) (fun _ => ?_)
  · refine oa_if (fun _ => ?_) (fun _ => ?_)
    · exact oa_call h hn p (a_pardon R jm hM (by omega) 0 0)
    · exact oa_call h hn p (a_set R jm hM (by omega) _ 0)
  refine oa_if (fun _ => ?_) (fun _ => ?_)
  · exact oa_call h hn p (a_run R (by omega) jm (by omega) (by omega) 0 0)
  refine oa_if (fun _ => ?_) (fun _ => ?_)
  · refine oa_if (fun _ => ?_) (fun _ => ?_)
    · rw [l2_0 hM, m_bd]
      refine oa_if (fun c => ?_) (fun _ => ?_)
      · exact oa_call h hn p (a_undo2 R jm hM c 0 0 0)
      · exact ⟨-1, M, rfl, jm.mono (by omega), h.up (by omega), p⟩
    · refine oa_if (fun _ => ?_) (fun _ => ?_)
      · exact oa_call h hn p (a_save jm p (by omega) 0 0)
      · exact oa_call h hn p (a_restore jm hM (by omega) (h.fl (by omega)) 0 0)
  · exact oa_call h hn p (a_ride R (by omega) (by omega) jm hM (by omega) (by omega) 0)
end ACTT
