/-! one bit of an int -/
theorem sm32 : ∀ k, k < 32 → (nI k).toBitVec.smod 32#32 = BitVec.ofNat 32 k := by decide +kernel
theorem tw32 : ∀ k, k < 32 → (1#32 <<< BitVec.ofNat 32 k) = BitVec.twoPow 32 k := by decide +kernel
theorem tz32 : ∀ k, k < 32 → ¬ BitVec.twoPow 32 k = (0 : Int32).toBitVec := by decide +kernel
theorem bit_r (v : Int32) {k : Nat} (hk : k < 32) : ((v >>> nI k) &&& 1) = (if v.toBitVec.getLsbD k = true then 1 else 0) := by
  apply Int32.toBitVec_inj.mp
  have h : ((v >>> nI k) &&& 1).toBitVec = (v.toBitVec.sshiftRight' ((nI k).toBitVec.smod 32#32)) &&& 1#32 := rfl
  rw [h, sm32 k hk, BitVec.and_one_eq_setWidth_ofBool_getLsbD]
  have h2 : (v.toBitVec.sshiftRight' (BitVec.ofNat 32 k)).getLsbD 0 = v.toBitVec.getLsbD k := by
    show (v.toBitVec.sshiftRight (BitVec.ofNat 32 k).toNat).getLsbD 0 = _
    rw [BitVec.getLsbD_sshiftRight, BitVec.toNat_ofNat, Nat.mod_eq_of_lt (by omega)]
    simp [hk]
  rw [h2]
  cases v.toBitVec.getLsbD k <;> decide
theorem bit_l (v : Int32) {k : Nat} (hk : k < 32) : (v &&& (1 <<< nI k)) = 0 ↔ ¬ v.toBitVec.getLsbD k = true := by
  have h : (v &&& (1 <<< nI k)).toBitVec = v.toBitVec &&& (1#32 <<< ((nI k).toBitVec.smod 32#32)) := rfl
  rw [← Int32.toBitVec_inj, h, sm32 k hk]
  have h2 : (1#32 <<< BitVec.ofNat 32 k) = BitVec.twoPow 32 k := by
    exact tw32 k hk
  rw [h2, BitVec.and_twoPow]
  cases v.toBitVec.getLsbD k with
  | false => simp
  | true =>
    simp only [if_true]
    exact iff_of_false (tz32 k hk) (fun q => q trivial)
section SETTLE
variable {B T : Nat} {S : Nat → Nat → Int32} {r : Nat → Int32}
theorem m_bd2 {α β γ : Type} {a : α} {b : β} {f : α → β → Option γ} : bd2 (some (a, b)) f = f a b := by unfold bd2; exact Option.bind_some ..
theorem neg_sub (x y : Int32) : x + -y = x - y := (Int32.sub_eq_add_neg ..).symm
theorem r_settle (R : Rel B T S r) (hB : B < 1024) {a n : Nat} (ha : a < 8) (hn : n ≤ B) (x : Int32) : ∃ z r' S', fX12_settle r (nI a) (nI n) x = some (z, r') ∧ fX10_settle S (nI a) (nI n) x = some S' ∧ Rel B T S' r' := by
  have hn2 : n < 1024 := by omega
  have hw : n / 32 < 32 := by omega
  have hm : n % 32 < 32 := by omega
  obtain ⟨h1, h2, h3, h4⟩ := R.acc a ha
  have f3 : fget 4 (S 39) 3 = r 11 := (m_fget (a := 3) (S 39) (by decide) (by decide)).trans (R.eS 3 (by decide))
  have hb := R.bit a (n / 32) ha hw
  have hset : fX12_isSettled r (nI a) (nI n) = some (if (r (248 + 128 * a + n / 32)).toBitVec.getLsbD (n % 32) = true then 1 else 0) := by
    unfold fX12_isSettled
    simp only [lt_]
    rw [gBi ha hn2, kBi ha hn2, aB2 n hn2, bit_r _ hm]
    cases (r (248 + 128 * a + n / 32)).toBitVec.getLsbD (n % 32) <;> rfl
  unfold fX12_settle fX10_settle fX5_settleRide
  simp only [lt_]
  simp only [hset, m_bd, f3, aW a n hn2, aB2 n hn2, aB3 n hn2, m_fget (S 20) (show 32 * a + n / 32 < 256 by omega) (by decide), hb, bit_l _ hm]
  cases hbit : (r (248 + 128 * a + n / 32)).toBitVec.getLsbD (n % 32) with
  | false =>
    simp only [Bool.false_eq_true, if_false, not_false_eq_true, if_true]
    simp only [gBi ha hn2, kBi ha hn2, gA3 ha, kA3 ha, gA0 ha, kA0 ha, gN3, kN3, gN4, kN4, m_fput _ _ (show 32 * a + n / 32 < 256 by omega) (show 256 < 2 ^ 31 by decide), m_finc _ _ ha (show 8 < 2 ^ 31 by decide), m_bd2, m_10, if_false, neg_sub]
    have R1 := R.mBit ha hw (r (248 + 128 * a + n / 32) ||| 1 <<< nI (n % 32))
    rw [(R1.acc a ha).2.2.2]
    have R2 := R1.mSet ha (upd r (248 + 128 * a + n / 32) (r (248 + 128 * a + n / 32) ||| 1 <<< nI (n % 32)) (55 + 4 * a) + 1)
    rw [(R2.acc a ha).1]
    generalize upd (upd r (248 + 128 * a + n / 32) (r (248 + 128 * a + n / 32) ||| 1 <<< nI (n % 32))) (55 + 4 * a) _ = r2 at R2 ⊢
    generalize va_up (va_up S 20 _) 18 _ = S2 at R2 ⊢
    have R3 := R2.mBal ha (r2 (52 + 4 * a) - x)
    generalize upd r2 (52 + 4 * a) _ = r3 at R3 ⊢
    generalize va_up S2 12 _ = S3 at R3 ⊢
    rw [show S3 0 5 = r3 3 from R3.eN 1 (by decide)]
    have R4 := R3.mNum (k := 1) (by decide) (by decide) (r3 3 + 1)
    have e6 := R4.eN 2 (by decide)
    refine ⟨_, _, _, rfl, rfl, ?_⟩
    have R5 := R4.mNum (k := 2) (by decide) (by decide) (upd r3 3 (r3 3 + 1) 4 + x)
    rw [show va_up S3 0 (upd (S3 0) 5 (r3 3 + 1)) 0 6 = upd r3 3 (r3 3 + 1) 4 from e6]
    exact R5
  | true =>
    simp only [if_true, not_true_eq_false, if_false]
    simp only [m_10, if_false, gA0 ha, kA0 ha, gA2 ha, kA2 ha, gN11, kN11, gN5, kN5, m_fput _ _ ha (show 8 < 2 ^ 31 by decide), m_finc _ _ ha (show 8 < 2 ^ 31 by decide), m_bd2, if_true, neg_sub, h1]
    have R1 := R.mBal ha (r (52 + 4 * a) - r 11)
    have R2 := R1.mMark ha 1 (Or.inr rfl)
    have e7 := R2.eN 3 (by decide)
    have R3 := R2.mNum (k := 3) (by decide) (by decide) (upd (upd r (52 + 4 * a) (r (52 + 4 * a) - r 11)) (54 + 4 * a) 1 5 + 1)
    refine ⟨_, _, _, rfl, rfl, ?_⟩
    rw [show va_up (va_up S 12 (upd (S 12) a (r (52 + 4 * a) - r 11))) 16 (upd (va_up S 12 (upd (S 12) a (r (52 + 4 * a) - r 11)) 16) a 1) 0 7 = upd (upd r (52 + 4 * a) (r (52 + 4 * a) - r 11)) (54 + 4 * a) 1 5 from e7]
    exact R3
end SETTLE
