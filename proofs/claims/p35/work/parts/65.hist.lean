/-! rows copied; states remembered, taken back, kept -/
theorem fcp_eq {n1 n2 a b : Nat} (f1 f2 : Nat → Int32) (ha : a + 1272 ≤ n1) (hb : b + 1272 ≤ n2) (h1 : n1 < 2 ^ 31) (h2 : n2 < 2 ^ 31) : fcp n1 f1 (nI a) n2 f2 (nI b) = some (va_cpy f1 f2 a b 1272) := by
  unfold fcp
  rw [nI_toInt (by omega), nI_toInt (by omega), nI_clamp (by omega), nI_clamp (by omega), if_pos ⟨by omega, by omega, by omega, by omega⟩]
theorem fcp00 (f1 f2 : Nat → Int32) : fcp 1272 f1 0 1272 f2 0 = some (va_cpy f1 f2 0 0 1272) := by
  have h := fcp_eq (n1 := 1272) (n2 := 1272) (a := 0) (b := 0) f1 f2 (by omega) (by omega) (by omega) (by omega)
  rwa [nI_0] at h
theorem cpy_in {f g : Nat → Int32} {a b j : Nat} (hj : j < 1272) : va_cpy f g a b 1272 (b + j) = f (a + j) := by
  unfold va_cpy
  rw [if_pos ⟨by omega, by omega⟩]
  exact congrArg f (by omega)
theorem cpy_out {f g : Nat → Int32} {a b j : Nat} (hj : ¬ (b ≤ j ∧ j < b + 1272)) : va_cpy f g a b 1272 j = g j := by
  unfold va_cpy
  rw [if_neg hj]
theorem cpy_row {f g : Nat → Int32} {j : Nat} (hj : j < 1272) : va_cpy f g 0 0 1272 j = f j := by
  have h := cpy_in (f := f) (g := g) (a := 0) (b := 0) hj
  rwa [Nat.zero_add] at h
theorem m1272 (z : Nat) : 1272 * nI z = nI (1272 * z) := by
  show nI 1272 * nI z = _
  rw [nI_mul]
theorem fcp_to {z : Nat} (hz : z < 14) (f1 f2 : Nat → Int32) : fcp 1272 f1 0 17808 f2 (1272 * nI z) = some (va_cpy f1 f2 0 (1272 * z) 1272) := by
  have h := fcp_eq (n1 := 1272) (n2 := 17808) (a := 0) (b := 1272 * z) f1 f2 (by omega) (by omega) (by omega) (by omega)
  rw [m1272]
  rwa [nI_0] at h
theorem fcp_of {z : Nat} (hz : z < 14) (f1 f2 : Nat → Int32) : fcp 17808 f1 (1272 * nI z) 1272 f2 0 = some (va_cpy f1 f2 (1272 * z) 0 1272) := by
  have h := fcp_eq (n1 := 17808) (n2 := 1272) (a := 1272 * z) (b := 0) f1 f2 (by omega) (by omega) (by omega) (by omega)
  rw [m1272]
  rwa [nI_0] at h
theorem fcp_ks {z : Nat} (hz : z < 2) (f1 f2 : Nat → Int32) : fcp 1272 f1 0 2544 f2 (1272 * nI z) = some (va_cpy f1 f2 0 (1272 * z) 1272) := by
  have h := fcp_eq (n1 := 1272) (n2 := 2544) (a := 0) (b := 1272 * z) f1 f2 (by omega) (by omega) (by omega) (by omega)
  rw [m1272]
  rwa [nI_0] at h
theorem fcp_kr {z : Nat} (hz : z < 2) (f1 f2 : Nat → Int32) : fcp 2544 f1 (1272 * nI z) 1272 f2 0 = some (va_cpy f1 f2 (1272 * z) 0 1272) := by
  have h := fcp_eq (n1 := 2544) (n2 := 1272) (a := 1272 * z) (b := 0) f1 f2 (by omega) (by omega) (by omega) (by omega)
  rw [m1272]
  rwa [nI_0] at h
def remEnd (S : Nat → Nat → Int32) : Option (Nat → Nat → Int32) :=
  lt_ (S 0 7) fun x15 =>
  lt_ (va_up S 0 (upd (S 0) 7 (x15 - 1))) fun S17 =>
  lt_ (S17 0 7) fun x19 =>
  bd (fcp 1272 (S17 2) 0 17808 (S17 5) (1272 * x19)) fun r21 =>
  lt_ (va_up S17 5 r21) fun S23 =>
  lt_ (S23 0 7) fun x25 =>
  lt_ (va_up S23 0 (upd (S23 0) 7 (x25 + 1))) fun S27 =>
  some S27
theorem rem_L : ∀ (m y n : Nat) (M : Nat → Nat → Int32), y + m = 16536 → m < n → fX12_remember_L11 n M (nI y) = remEnd (va_up M 5 (fun j => if y ≤ j ∧ j < 16536 then M 5 (j + 1272) else M 5 j)) := by
  intro m
  induction m with
  | zero =>
    intro y n M hy hn
    obtain ⟨n, rfl⟩ : ∃ m, n = m + 1 := ⟨n - 1, by omega⟩
    have e : (fun j => if y ≤ j ∧ j < 16536 then M 5 (j + 1272) else M 5 j) = M 5 := by
      funext j
      rw [if_neg (by omega)]
    rw [e, va_up_id, fX12_remember_L11, if_pos (c := 16536 ≤ nI y) (nI_le (a := 16536) (show 16536 ≤ y by omega) (by omega))]
    rfl
  | succ m ih =>
    intro y n M hy hn
    obtain ⟨n, rfl⟩ : ∃ m, n = m + 1 := ⟨n - 1, by omega⟩
    have h1 : inb (nI y + 1272) 17808 = true ∧ (nI y + 1272).toNatClampNeg = y + 1272 := mx (nI_add y 1272) (by omega) (by decide)
    have h2 : inb (nI y) 17808 = true ∧ (nI y).toNatClampNeg = y := mx rfl (by omega) (by decide)
    rw [fX12_remember_L11, if_neg (c := 16536 ≤ nI y) (nI_ge (b := 16536) (show y < 16536 by omega) (by decide)), m_gd h1.1, lt_eq, m_gd h2.1, lt_eq, lt_eq, h1.2, h2.2, nI_1, ih (y + 1) n _ (by omega) (by omega), bx_uu]
    refine congrArg (fun z => remEnd (va_up M 5 z)) ?_
    funext j
    show (if y + 1 ≤ j ∧ j < 16536 then upd (M 5) y (M 5 (y + 1272)) (j + 1272) else upd (M 5) y (M 5 (y + 1272)) j) = _
    by_cases c : y + 1 ≤ j ∧ j < 16536
    · rw [if_pos c, if_pos ⟨by omega, c.2⟩, upd_ne (by omega)]
    · rw [if_neg c]
      by_cases e : j = y
      · subst e
        rw [upd_at, if_pos ⟨by omega, by omega⟩]
      · rw [upd_ne e, if_neg (by omega)]
theorem rem_m (M : Nat → Nat → Int32) {z : Nat} (hz : z ≤ 14) (e : M 0 7 = nI z) : ∃ s S1, s ≤ z ∧ (z = 14 ∧ s = 1 ∨ z < 14 ∧ s = 0) ∧ fX12_remember M = some S1 ∧ S1 1 = M 1 ∧ S1 2 = M 2 ∧ S1 3 = M 3 ∧ S1 6 = M 6 ∧ S1 7 = M 7 ∧ (∀ k, k ≠ 7 → S1 0 k = M 0 k) ∧ S1 0 7 = nI (z - s + 1) ∧ (∀ k j, k < z - s → j < 1272 → S1 5 (1272 * k + j) = M 5 (1272 * (k + s) + j)) ∧ (∀ j, j < 1272 → S1 5 (1272 * (z - s) + j) = M 2 j) := by
  rcases Nat.lt_or_ge z 14 with q | q
  · refine ⟨0, va_up (va_up M 5 (va_cpy (M 2) (M 5) 0 (1272 * z) 1272)) 0 (upd (M 0) 7 (nI (z + 1))), by omega, Or.inr ⟨q, rfl⟩, ?_, rfl, rfl, rfl, rfl, rfl, fun k hk => upd_ne hk, (show upd (M 0) 7 (nI (z + 1)) 7 = _ from upd_at _ _ _), fun k j hk hj => ?_, fun j hj => ?_⟩
    · unfold fX12_remember
      rw [lt_eq, e, if_neg (c := nI z = 14) (fun h => by have := (nI_eq (b := 14) (show z < 2 ^ 31 by omega) (by decide)).mp h; omega), lt_eq, fcp_to q, m_bd, lt_eq, lt_eq, lt_eq]
      show some (va_up (va_up M 5 (va_cpy (M 2) (M 5) 0 (1272 * z) 1272)) 0 (upd (M 0) 7 (M 0 7 + 1))) = _
      rw [e, nI_1]
    · show va_cpy (M 2) (M 5) 0 (1272 * z) 1272 (1272 * k + j) = _
      rw [cpy_out (by omega)]
      rfl
    · show va_cpy (M 2) (M 5) 0 (1272 * z) 1272 (1272 * z + j) = _
      rw [cpy_in hj, Nat.zero_add]
  · have hz14 : z = 14 := by omega
    subst hz14
    have h := rem_L 16536 0 17000 M (by omega) (by omega)
    rw [nI_0] at h
    refine ⟨1, va_up (va_up (va_up (va_up M 5 (fun j => if 0 ≤ j ∧ j < 16536 then M 5 (j + 1272) else M 5 j)) 0 (upd (M 0) 7 (nI 13))) 5 (va_cpy (M 2) (fun j => if 0 ≤ j ∧ j < 16536 then M 5 (j + 1272) else M 5 j) 0 (1272 * 13) 1272)) 0 (upd (upd (M 0) 7 (nI 13)) 7 (nI 14)), by omega, Or.inl ⟨rfl, rfl⟩, ?_, rfl, rfl, rfl, rfl, rfl, fun k hk => ?_, (show upd (upd (M 0) 7 (nI 13)) 7 (nI 14) 7 = _ from upd_at _ _ _), fun k j hk hj => ?_, fun j hj => ?_⟩
    · unfold fX12_remember
      rw [lt_eq, e, if_pos (c := nI 14 = 14) rfl, h]
      unfold remEnd
      rw [lt_eq, lt_eq, lt_eq]
      show bd (fcp 1272 (M 2) 0 17808 (fun j => if 0 ≤ j ∧ j < 16536 then M 5 (j + 1272) else M 5 j) (1272 * (M 0 7 - 1))) _ = _
      rw [e, nI_pred 13, fcp_to (by omega), m_bd, lt_eq, lt_eq, lt_eq]
      show some (va_up (va_up (va_up (va_up M 5 (fun j => if 0 ≤ j ∧ j < 16536 then M 5 (j + 1272) else M 5 j)) 0 (upd (M 0) 7 (M 0 7 - 1))) 5 (va_cpy (M 2) (fun j => if 0 ≤ j ∧ j < 16536 then M 5 (j + 1272) else M 5 j) 0 (1272 * 13) 1272)) 0 (upd (upd (M 0) 7 (M 0 7 - 1)) 7 (M 0 7 - 1 + 1))) = _
      rw [e, nI_pred 13, nI_1]
    · show upd (upd (M 0) 7 (nI 13)) 7 (nI 14) k = _
      rw [upd_ne hk, upd_ne hk]
    · show va_cpy (M 2) (fun j => if 0 ≤ j ∧ j < 16536 then M 5 (j + 1272) else M 5 j) 0 (1272 * 13) 1272 (1272 * k + j) = _
      rw [cpy_out (by omega), if_pos ⟨by omega, by omega⟩]
      exact congrArg (M 5) (by omega)
    · show va_cpy (M 2) (fun j => if 0 ≤ j ∧ j < 16536 then M 5 (j + 1272) else M 5 j) 0 (1272 * 13) 1272 (1272 * 13 + j) = _
      rw [cpy_in hj, Nat.zero_add]
theorem r14 {a : Nat} (h : a < 2 ^ 31) : nI a - nI a / 14 * 14 = nI (a % 14) := pk_rem (d := 14) h (by decide) (by decide)
theorem rem_V (V : uV) {o z : Nat} (ho : o < 14) (hz : z ≤ 14) (e1 : V 18 4 1 = nI o) (e2 : V 18 4 2 = nI z) : ∃ V1, fX11_remember V = some V1 ∧ V1 (2 + (o + z) % 14) = V 0 ∧ (∀ t, t ≠ 18 → t ≠ 2 + (o + z) % 14 → V1 t = V t) ∧ (z = 14 ∧ V1 18 4 1 = nI ((o + 1) % 14) ∧ V1 18 4 2 = nI 14 ∨ z < 14 ∧ V1 18 4 1 = nI o ∧ V1 18 4 2 = nI (z + 1)) ∧ (∀ k, k ≠ 4 → V1 18 k = V 18 k) := by
  have hp : (o + z) % 14 < 14 := Nat.mod_lt _ (by decide)
  have hx : inb (nI ((o + z) % 14)) 14 = true ∧ (nI ((o + z) % 14)).toNatClampNeg = (o + z) % 14 := mx rfl hp (by decide)
  unfold fX11_remember fX4_push
  simp only [lt_eq]
  rw [e1, e2, nI_add, r14 (by omega), nI_1, r14 (by omega), nI_1]
  rw [if_neg (c := nI ((o + z) % 14) < 0) (nI_pos (by omega)), if_neg (c := 14 ≤ nI ((o + z) % 14)) (nI_ge (b := 14) hp (by decide)), m_gd hx.1, if_neg (c := nI ((o + z) % 14) < 0) (nI_pos (by omega)), if_neg (c := 14 ≤ nI ((o + z) % 14)) (nI_ge (b := 14) hp (by decide)), m_gd hx.1, hx.2]
  rcases Nat.lt_or_ge z 14 with q | q
  · rw [if_neg (c := 14 ≤ nI z) (nI_ge (b := 14) q (by decide)), m_bd]
    refine ⟨_, rfl, ?_, fun t h1 h2 => ?_, Or.inr ⟨q, ?_, ?_⟩, fun k hk => ?_⟩
    · rw [show (o + z) % 14 + 2 = 2 + (o + z) % 14 by omega, va_up_s]; rfl
    · rw [va_up_n (by omega), va_up_n h1]
    · rw [va_up_n (by omega), va_up_s, va_up_s, upd_ne (by omega), e1]
    · rw [va_up_n (by omega), va_up_s, va_up_s, upd_at]
    · rw [va_up_n (by omega), va_up_s, va_up_n hk]
  · have hz14 : z = 14 := by omega
    rw [if_pos (c := 14 ≤ nI z) (nI_le (a := 14) q (by omega)), m_bd]
    refine ⟨_, rfl, ?_, fun t h1 h2 => ?_, Or.inl ⟨hz14, ?_, ?_⟩, fun k hk => ?_⟩
    · rw [show (o + z) % 14 + 2 = 2 + (o + z) % 14 by omega, va_up_s]; rfl
    · rw [va_up_n (by omega), va_up_n h1]
    · rw [va_up_n (by omega), va_up_s, va_up_s, upd_at]
    · rw [va_up_n (by omega), va_up_s, va_up_s, upd_ne (by omega), e2, hz14]
    · rw [va_up_n (by omega), va_up_s, va_up_n hk]
section REM
variable {B T : Nat} {V : uV}
theorem w_rem (W : WR B T V) : ∃ V1, fX11_remember V = some V1 ∧ V1 0 = V 0 ∧ V1 19 = V 19 ∧ (∀ M : Nat → Nat → Int32, (∀ k, k ≠ 0 → M k = V 19 k) → (∀ k, k ≠ 0 → M 0 k = V 19 0 k) → ∃ S1, fX12_remember M = some S1 ∧ S1 0 0 = M 0 0 ∧ S1 2 = V 19 2 ∧ ∀ V' : uV, (∀ t, t ≠ 0 → t ≠ 19 → V' t = V1 t) → (∀ k, k ≠ 2 → V' 19 k = S1 k) → WHi B T V' ∧ WSl B T V' ∧ WTx V') := by
  obtain ⟨R, ⟨o, z, ho, hz, e1, e2, e3, e4⟩, Sl, Tx⟩ := W
  have hp : (o + z) % 14 < 14 := Nat.mod_lt _ (by decide)
  obtain ⟨V1, q, w1, w2, w3, w4⟩ := rem_V V ho hz e1 e2
  refine ⟨V1, q, w2 0 (by omega) (by omega), w2 19 (by omega) (by omega), fun M hM hM0 => ?_⟩
  obtain ⟨s, S1, hs, hs2, p, p1, p2, p3, p6, p7, p0, p07, p5, p5n⟩ := rem_m M hz ((hM0 7 (by omega)).trans e3)
  refine ⟨S1, p, p0 0 (by omega), p2.trans (hM 2 (by omega)), fun V' h1 h2 => ⟨?_, ?_, ?_⟩⟩
  · have row : ∀ k, k ≠ z - s → k < z - s + 1 → ∀ S, Rel B T S (fun j => V 19 5 (1272 * (k + s) + j)) → Rel B T S (fun j => V' 19 5 (1272 * k + j)) := fun k hk hk2 S h => by
      refine h.ext (fun j hj => ?_)
      show V' 19 5 (1272 * k + j) = V 19 5 (1272 * (k + s) + j)
      rw [h2 5 (by omega), p5 k j (by omega) hj, hM 5 (by omega)]
    have row2 : Rel B T (V 0) (fun j => V' 19 5 (1272 * (z - s) + j)) := by
      refine R.ext (fun j hj => ?_)
      show V' 19 5 (1272 * (z - s) + j) = V 19 2 j
      rw [h2 5 (by omega), p5n j hj, hM 2 (by omega)]
    have z07 : V' 19 0 7 = nI (z - s + 1) := by rw [h2 0 (by omega), p07]
    rcases w3 with ⟨z14, u1, u2⟩ | ⟨z14, u1, u2⟩
    · have hs1 : s = 1 := by omega
      subst hs1 z14
      refine ⟨(o + 1) % 14, 14, Nat.mod_lt _ (by decide), by omega, by rw [h1 18 (by omega) (by omega), u1], by rw [h1 18 (by omega) (by omega), u2], z07, fun k hk => ?_⟩
      have hq : ((o + 1) % 14 + k) % 14 < 14 := Nat.mod_lt _ (by decide)
      by_cases c : k = 13
      · subst c
        rw [h1 _ (by omega) (by omega), show 2 + ((o + 1) % 14 + 13) % 14 = 2 + (o + 14) % 14 by omega, w1]
        exact row2
      · rw [h1 _ (by omega) (by omega), w2 _ (by omega) (by omega), show 2 + ((o + 1) % 14 + k) % 14 = 2 + (o + (k + 1)) % 14 by omega]
        exact row k (by omega) (by omega) _ (e4 (k + 1) (by omega))
    · have hs0 : s = 0 := by omega
      subst hs0
      refine ⟨o, z + 1, ho, by omega, by rw [h1 18 (by omega) (by omega), u1], by rw [h1 18 (by omega) (by omega), u2], z07, fun k hk => ?_⟩
      have hq : (o + k) % 14 < 14 := Nat.mod_lt _ (by decide)
      by_cases c : k = z
      · subst c
        rw [h1 _ (by omega) (by omega), w1]
        exact row2
      · rw [h1 _ (by omega) (by omega), w2 _ (by omega) (by omega)]
        exact row k (by omega) (by omega) _ (e4 k (by omega))
  · refine Sl.cg ?_ ?_ ?_ ?_ ?_
    · rw [h1 16 (by omega) (by omega), w2 16 (by omega) (by omega)]
    · rw [h1 17 (by omega) (by omega), w2 17 (by omega) (by omega)]
    · rw [h1 18 (by omega) (by omega), w4 6 (by omega)]
    · rw [h2 6 (by omega), p6, hM 6 (by omega)]
    · rw [h2 7 (by omega), p7, hM 7 (by omega)]
  · refine Tx.cg ?_ ?_ ?_ ?_
    · rw [h1 18 (by omega) (by omega), w4 1 (by omega)]
    · rw [h1 18 (by omega) (by omega), w4 3 (by omega)]
    · rw [h2 1 (by omega), p1, hM 1 (by omega)]
    · rw [h2 0 (by omega), p0 2 (by omega), hM0 2 (by omega)]
end REM
