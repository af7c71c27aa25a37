/-! the blocked set's bits -/
theorem and1 (v : Int32) : v &&& 1 = 0 ∨ v &&& 1 = 1 := by
  have h : (v &&& 1).toBitVec = v.toBitVec &&& 1#32 := rfl
  rw [BitVec.and_one_eq_setWidth_ofBool_getLsbD] at h
  cases hb : v.toBitVec.getLsbD 0 with
  | false => rw [hb] at h; exact Or.inl (Int32.toBitVec_inj.mp (h.trans (by decide)))
  | true => rw [hb] at h; exact Or.inr (Int32.toBitVec_inj.mp (h.trans (by decide)))
def mB (b : Nat → Bool) : Nat → Int32
  | 0 => 0
  | k + 1 => if b k = true then mB b k ||| (1 <<< (nI k &&& 31)) else mB b k
theorem mB_cg {b b' : Nat → Bool} : ∀ k, (∀ i, i < k → b i = b' i) → mB b k = mB b' k
  | 0, _ => rfl
  | k + 1, h => by
    rw [mB, mB, mB_cg k (fun i hi => h i (by omega)), h k (by omega)]
theorem mB8 : ∀ x0 x1 x2 x3 x4 x5 x6 x7 : Bool, ∀ o, o < 8 → ((mB (fun i => [x0, x1, x2, x3, x4, x5, x6, x7].getD i false) 8 >>> (nI o &&& 31)) &&& 1) = (if [x0, x1, x2, x3, x4, x5, x6, x7].getD o false = true then 1 else 0) := by decide +kernel
theorem mB_bit (b : Nat → Bool) (o : Nat) (h : o < 8) : ((mB b 8 >>> (nI o &&& 31)) &&& 1) = (if b o = true then 1 else 0) := by
  have e : ∀ i, i < 8 → b i = [b 0, b 1, b 2, b 3, b 4, b 5, b 6, b 7].getD i false := fun i hi => by
    rcases (show i = 0 ∨ i = 1 ∨ i = 2 ∨ i = 3 ∨ i = 4 ∨ i = 5 ∨ i = 6 ∨ i = 7 by omega) with rfl | rfl | rfl | rfl | rfl | rfl | rfl | rfl <;> rfl
  rw [mB_cg 8 e, mB8 _ _ _ _ _ _ _ _ o h, ← e o h]
theorem mB_lim (b : Nat → Bool) (A : Nat) : ∀ k, A ≤ k → mB (fun i => decide (i < A) && b i) k = mB b A
  | 0, h => by obtain rfl : A = 0 := by omega
               rfl
  | k + 1, h => by
    rcases Nat.lt_or_ge k A with q | q
    · obtain rfl : A = k + 1 := by omega
      exact mB_cg _ (fun i hi => by simp [hi])
    · rw [mB, mB_lim b A k q, if_neg (by simp; omega)]
section REL2
variable {B T : Nat} {S : Nat → Nat → Int32} {r : Nat → Int32}
def blk (S : Nat → Nat → Int32) (o : Nat) : Bool := decide (fX5_isBlocked S (nI o) = 1)
theorem blk01 (o : Nat) : fX5_isBlocked S (nI o) = 0 ∨ fX5_isBlocked S (nI o) = 1 := by
  unfold fX5_isBlocked
  simp only [lt_]
  split
  · exact Or.inr rfl
  · split
    · exact Or.inl rfl
    · exact Or.inr rfl
theorem blk_set (A : Nat) (hA : A ≤ 8) (e : S 10 0 = nI A) : ∀ (d k n : Nat), k + d = A → d < n → fX5_blockedSet_L4 S n (mB (blk S) k) (nI k) = some (mB (blk S) A) := by
  intro d
  induction d with
  | zero =>
    intro k n hk hn
    obtain ⟨n, rfl⟩ : ∃ m, n = m + 1 := ⟨n - 1, by omega⟩
    obtain rfl : k = A := by omega
    rw [fX5_blockedSet_L4]
    simp only [lt_]
    rw [e, if_pos (nI_le (Nat.le_refl _) (by omega))]
  | succ d ih =>
    intro k n hk hn
    obtain ⟨n, rfl⟩ : ∃ m, n = m + 1 := ⟨n - 1, by omega⟩
    rw [fX5_blockedSet_L4]
    simp only [lt_]
    rw [e, if_neg (nI_ge (by omega) (by omega)), nI_1]
    have i := ih (k + 1) n (by omega) (by omega)
    rw [mB] at i
    rcases blk01 (S := S) k with q | q
    · rw [if_pos q]
      rwa [if_neg (by unfold blk; rw [q]; decide)] at i
    · rw [if_neg (by rw [q]; decide)]
      rwa [if_pos (by unfold blk; rw [q]; decide)] at i
theorem r_set (R : Rel B T S r) : ∃ m, fX5_blockedSet S = some m ∧ ∀ o, o < 8 → nI o < r 1 → ((m >>> (nI o &&& 31)) &&& 1) = fX5_isBlocked S (nI o) := by
  obtain ⟨A, hA, eA⟩ := R.cA
  refine ⟨mB (blk S) A, blk_set A hA (R.eA.trans eA) A 0 3000 (by omega) (by omega), fun o ho hlt => ?_⟩
  rw [eA] at hlt
  have hoA : o < A := by
    rcases Nat.lt_or_ge o A with q | q
    · exact q
    · exact absurd hlt (nI_nlt q (by omega))
  rw [← mB_lim (blk S) A 8 hA, mB_bit _ o ho]
  simp only [hoA, decide_true, Bool.true_and]
  rcases blk01 (S := S) o with q | q
  · rw [if_neg (by unfold blk; rw [q]; decide), q]
  · rw [if_pos (by unfold blk; rw [q]; decide), q]
theorem up01 (R : Rel B T S r) {g : Nat} (h : g < 4) : (fX3_isUp S (nI g) = 0 ∧ r (85 + 5 * g) = 0) ∨ (fX3_isUp S (nI g) = 1 ∧ r (85 + 5 * g) = 1) := by
  have h2 := (R.gate g h).2.1
  unfold fX3_isUp
  simp only [lt_]
  rw [m_fget _ h (by decide), h2]
  rcases R.gup g h with e | e <;> rw [e]
  · exact Or.inl ⟨rfl, rfl⟩
  · exact Or.inr ⟨rfl, rfl⟩
theorem r_onList (R : Rel B T S r) {g o : Nat} (h : g < 4) (ho : o < 8) (hoA : nI o < r 1) : ∃ x, fX12_list r (nI g) = some x ∧ ((x >>> (nI o &&& 31)) &&& 1) = fX10_isOnList S (nI o) (nI g) := by
  obtain ⟨m, h1, h2⟩ := r_set R
  rw [r_list R h]
  unfold fX10_listAt fX10_isOnList
  simp only [lt_]
  rcases up01 R h with ⟨q, -⟩ | ⟨q, -⟩ <;> rw [q]
  · refine ⟨_, rfl, ?_⟩
    show _ = (if _ then _ else _)
    rcases and1 (fget 4 (S 25) (nI g) >>> (nI o &&& 31)) with e | e <;> rw [e] <;> rfl
  · rw [if_neg (by decide), if_neg (by decide), h1]
    exact ⟨m, rfl, h2 o ho hoA⟩
end REL2
