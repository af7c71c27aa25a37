/-! what there is: rides in logs, cards of an account, accounts' and totals' numbers -/
section OBS
variable {B T : Nat} {S : Nat → Nat → Int32} {r : Nat → Int32}
theorem lg_of (R : Rel B T S r) {g d k : Nat} (hg : g < 4) (hk : k < 12) (ed : r (87 + 5 * g) = nI d) (hkd : k < d) (hd : d ≤ 12) (x : Int32) : fX3_isOf S (nI g) (nI k) x = if x = -1 then 1 else if r (104 + 36 * g + 3 * k) = x then 1 else 0 := by
  have e := (R.log g k hg hk (by rw [ed]; exact nI_lt hkd (by omega))).1
  unfold fX3_isOf
  rw [lt_eq, m_idx48, m_fget _ (by omega) (by decide), e]
theorem rides_in (R : Rel B T S r) {g d : Nat} (hg : g < 4) (hd : d ≤ 12) (ed : r (87 + 5 * g) = nI d) (x : Int32) {K1 K2 : Int32 → Int32 → Int32 → Int32 → Int32 → Option Int32} (hK : ∀ v, ∃ w, K1 x 0 v (nI g) (nI d) = some w ∧ K2 x v (nI g) (nI d) (nI d) = some w) : ∀ (m k n n' : Nat) (y : Int32), k + m = d → m < n → m < n' → ∃ w, fX12_inLogs_L14 K1 r n x 0 y (nI g) (nI k) = some w ∧ fX3_ridesInLogs_L22 K2 S n' x y (nI g) (nI d) (nI k) = some w := by
  intro m
  induction m with
  | zero =>
    intro k n n' y hk hn hn'
    obtain ⟨n, rfl⟩ : ∃ m, n = m + 1 := ⟨n - 1, by omega⟩
    obtain ⟨n', rfl⟩ : ∃ m, n' = m + 1 := ⟨n' - 1, by omega⟩
    have hkd : k = d := by omega
    subst hkd
    rw [fX12_inLogs_L14, fX3_ridesInLogs_L22]
    simp only [lt_eq]
    rw [gG3 hg, kG3 hg, ed, if_pos (nI_le (Nat.le_refl k) (by omega)), if_pos (nI_le (Nat.le_refl k) (by omega))]
    exact hK y
  | succ m ih =>
    intro k n n' y hk hn hn'
    obtain ⟨n, rfl⟩ : ∃ m, n = m + 1 := ⟨n - 1, by omega⟩
    obtain ⟨n', rfl⟩ : ∃ m, n' = m + 1 := ⟨n' - 1, by omega⟩
    have hk12 : k < 12 := by omega
    rw [fX12_inLogs_L14, fX3_ridesInLogs_L22]
    simp only [lt_eq, if_true]
    rw [gG3 hg, kG3 hg, ed, if_neg (nI_ge (show k < d by omega) (by omega)), if_neg (nI_ge (show k < d by omega) (by omega)), lg_of R hg hk12 ed (by omega) hd, nI_1]
    by_cases c : x = -1
    · rw [if_pos c, if_pos c, if_neg n10, if_neg n10]
      exact ih (k + 1) n n' _ (by omega) (by omega) (by omega)
    · rw [if_neg c, if_neg c, gL0 hg hk12, kL0 hg hk12]
      by_cases e : r (104 + 36 * g + 3 * k) = x
      · rw [if_pos e, if_pos e, if_neg n10, if_neg n10]
        exact ih (k + 1) n n' _ (by omega) (by omega) (by omega)
      · rw [if_neg e, if_neg e, if_pos rfl, Int32.add_zero]
        exact ih (k + 1) n n' _ (by omega) (by omega) (by omega)
theorem fares_in (R : Rel B T S r) {g d : Nat} (hg : g < 4) (hd : d ≤ 12) (ed : r (87 + 5 * g) = nI d) (x : Int32) {K1 K2 : Int32 → Int32 → Int32 → Int32 → Int32 → Option Int32} (hK : ∀ v, ∃ w, K1 x 1 v (nI g) (nI d) = some w ∧ K2 x v (nI g) (nI d) (nI d) = some w) : ∀ (m k n n' : Nat) (y : Int32), k + m = d → m < n → m < n' → ∃ w, fX12_inLogs_L14 K1 r n x 1 y (nI g) (nI k) = some w ∧ fX3_faresInLogs_L22 K2 S n' x y (nI g) (nI d) (nI k) = some w := by
  intro m
  induction m with
  | zero =>
    intro k n n' y hk hn hn'
    obtain ⟨n, rfl⟩ : ∃ m, n = m + 1 := ⟨n - 1, by omega⟩
    obtain ⟨n', rfl⟩ : ∃ m, n' = m + 1 := ⟨n' - 1, by omega⟩
    have hkd : k = d := by omega
    subst hkd
    rw [fX12_inLogs_L14, fX3_faresInLogs_L22]
    simp only [lt_eq]
    rw [gG3 hg, kG3 hg, ed, if_pos (nI_le (Nat.le_refl k) (by omega)), if_pos (nI_le (Nat.le_refl k) (by omega))]
    exact hK y
  | succ m ih =>
    intro k n n' y hk hn hn'
    obtain ⟨n, rfl⟩ : ∃ m, n = m + 1 := ⟨n - 1, by omega⟩
    obtain ⟨n', rfl⟩ : ∃ m, n' = m + 1 := ⟨n' - 1, by omega⟩
    have hk12 : k < 12 := by omega
    have e3 := (R.log g k hg hk12 (by rw [ed]; exact nI_lt (by omega) (by omega))).2.2
    rw [fX12_inLogs_L14, fX3_faresInLogs_L22]
    simp only [lt_eq, if_true]
    rw [gG3 hg, kG3 hg, ed, if_neg (nI_ge (show k < d by omega) (by omega)), if_neg (nI_ge (show k < d by omega) (by omega)), lg_of R hg hk12 ed (by omega) hd, nI_1, m_idx48, m_fget _ (show 12 * g + k < 48 by omega) (by decide), e3]
    by_cases c : x = -1
    · rw [if_pos c, if_pos c, if_neg n10, if_neg n10, if_neg n10, gL2 hg hk12, kL2 hg hk12]
      exact ih (k + 1) n n' _ (by omega) (by omega) (by omega)
    · rw [if_neg c, if_neg c, gL0 hg hk12, kL0 hg hk12]
      by_cases e : r (104 + 36 * g + 3 * k) = x
      · rw [if_pos e, if_pos e, if_neg n10, if_neg n10, if_neg n10, gL2 hg hk12, kL2 hg hk12]
        exact ih (k + 1) n n' _ (by omega) (by omega) (by omega)
      · rw [if_neg e, if_neg e, if_pos rfl, Int32.add_zero]
        exact ih (k + 1) n n' _ (by omega) (by omega) (by omega)
theorem rides_out (R : Rel B T S r) (x : Int32) : ∀ (m g n n' : Nat) (y : Int32), g + m = 4 → m < n → m < n' → ∃ w, fX12_inLogs_L5 r n x 0 y (nI g) = some w ∧ fX3_ridesInLogs_L4 S n' x y (nI g) = some w := by
  intro m
  induction m with
  | zero =>
    intro g n n' y hk hn hn'
    obtain ⟨n, rfl⟩ : ∃ m, n = m + 1 := ⟨n - 1, by omega⟩
    obtain ⟨n', rfl⟩ : ∃ m, n' = m + 1 := ⟨n' - 1, by omega⟩
    have hkd : g = 4 := by omega
    subst hkd
    rw [fX12_inLogs_L5, fX3_ridesInLogs_L4]
    rw [if_pos (c := 4 ≤ nI 4) (by decide), if_pos (c := 4 ≤ nI 4) (by decide)]
    exact ⟨y, rfl, rfl⟩
  | succ m ih =>
    intro g n n' y hk hn hn'
    obtain ⟨n, rfl⟩ : ∃ m, n = m + 1 := ⟨n - 1, by omega⟩
    obtain ⟨n', rfl⟩ : ∃ m, n' = m + 1 := ⟨n' - 1, by omega⟩
    have hg : g < 4 := by omega
    obtain ⟨d, hd, ed⟩ := R.glog g hg
    rw [fX12_inLogs_L5, fX3_ridesInLogs_L4]
    rw [if_neg (c := 4 ≤ nI g) (nI_ge (b := 4) hg (by decide)), if_neg (c := 4 ≤ nI g) (nI_ge (b := 4) hg (by decide)), lt_eq, m_fget _ hg (by decide), (R.gate g hg).2.2.2, ed]
    have k := fun (K1 K2 : Int32 → Int32 → Int32 → Int32 → Int32 → Option Int32) (hK : ∀ v, ∃ w, K1 x 0 v (nI g) (nI d) = some w ∧ K2 x v (nI g) (nI d) (nI d) = some w) => rides_in R hg hd ed x hK d 0 3000 3000 y (by omega) (by omega) (by omega)
    rw [nI_0] at k
    refine k _ _ (fun v => ?_)
    rw [lt_eq, lt_eq, nI_1]
    exact ih (g + 1) n n' v (by omega) (by omega) (by omega)
theorem fares_out (R : Rel B T S r) (x : Int32) : ∀ (m g n n' : Nat) (y : Int32), g + m = 4 → m < n → m < n' → ∃ w, fX12_inLogs_L5 r n x 1 y (nI g) = some w ∧ fX3_faresInLogs_L4 S n' x y (nI g) = some w := by
  intro m
  induction m with
  | zero =>
    intro g n n' y hk hn hn'
    obtain ⟨n, rfl⟩ : ∃ m, n = m + 1 := ⟨n - 1, by omega⟩
    obtain ⟨n', rfl⟩ : ∃ m, n' = m + 1 := ⟨n' - 1, by omega⟩
    have hkd : g = 4 := by omega
    subst hkd
    rw [fX12_inLogs_L5, fX3_faresInLogs_L4]
    rw [if_pos (c := 4 ≤ nI 4) (by decide), if_pos (c := 4 ≤ nI 4) (by decide)]
    exact ⟨y, rfl, rfl⟩
  | succ m ih =>
    intro g n n' y hk hn hn'
    obtain ⟨n, rfl⟩ : ∃ m, n = m + 1 := ⟨n - 1, by omega⟩
    obtain ⟨n', rfl⟩ : ∃ m, n' = m + 1 := ⟨n' - 1, by omega⟩
    have hg : g < 4 := by omega
    obtain ⟨d, hd, ed⟩ := R.glog g hg
    rw [fX12_inLogs_L5, fX3_faresInLogs_L4]
    rw [if_neg (c := 4 ≤ nI g) (nI_ge (b := 4) hg (by decide)), if_neg (c := 4 ≤ nI g) (nI_ge (b := 4) hg (by decide)), lt_eq, m_fget _ hg (by decide), (R.gate g hg).2.2.2, ed]
    have k := fun (K1 K2 : Int32 → Int32 → Int32 → Int32 → Int32 → Option Int32) (hK : ∀ v, ∃ w, K1 x 1 v (nI g) (nI d) = some w ∧ K2 x v (nI g) (nI d) (nI d) = some w) => fares_in R hg hd ed x hK d 0 3000 3000 y (by omega) (by omega) (by omega)
    rw [nI_0] at k
    refine k _ _ (fun v => ?_)
    rw [lt_eq, lt_eq, nI_1]
    exact ih (g + 1) n n' v (by omega) (by omega) (by omega)
theorem r_rides (R : Rel B T S r) (x : Int32) : ∃ w, fX12_inLogs r x 0 = some w ∧ fX3_ridesInLogs S x = some w := by
  have h := rides_out R x 4 0 3000 3000 0 (by omega) (by omega) (by omega)
  rw [nI_0] at h
  exact h
theorem r_fares (R : Rel B T S r) (x : Int32) : ∃ w, fX12_inLogs r x 1 = some w ∧ fX3_faresInLogs S x = some w := by
  have h := fares_out R x 4 0 3000 3000 0 (by omega) (by omega) (by omega)
  rw [nI_0] at h
  exact h
theorem cards_L (R : Rel B T S r) {C : Nat} (hC : C ≤ 10) (eC : r 0 = nI C) (x : Int32) : ∀ (m k n n' : Nat) (y : Int32), k + m = C → m < n → m < n' → ∃ w, fX12_cardsOf_L4 r n x y (nI k) = some w ∧ fX0_countOf_L4 S n' x y (nI k) = some w := by
  intro m
  induction m with
  | zero =>
    intro k n n' y hk hn hn'
    obtain ⟨n, rfl⟩ : ∃ m, n = m + 1 := ⟨n - 1, by omega⟩
    obtain ⟨n', rfl⟩ : ∃ m, n' = m + 1 := ⟨n' - 1, by omega⟩
    have hkd : k = C := by omega
    subst hkd
    rw [fX12_cardsOf_L4, fX0_countOf_L4]
    simp only [lt_eq]
    rw [gN0, kN0, R.eC, eC, if_pos (nI_le (Nat.le_refl k) (by omega)), if_pos (nI_le (Nat.le_refl k) (by omega))]
    exact ⟨y, rfl, rfl⟩
  | succ m ih =>
    intro k n n' y hk hn hn'
    obtain ⟨n, rfl⟩ : ∃ m, n = m + 1 := ⟨n - 1, by omega⟩
    obtain ⟨n', rfl⟩ : ∃ m, n' = m + 1 := ⟨n' - 1, by omega⟩
    have hk10 : k < 10 := by omega
    have e3 := (R.card k hk10 (by rw [eC]; exact nI_lt (by omega) (by omega))).1
    rw [fX12_cardsOf_L4, fX0_countOf_L4]
    simp only [lt_eq]
    rw [gN0, kN0, R.eC, eC, if_neg (nI_ge (show k < C by omega) (by omega)), if_neg (nI_ge (show k < C by omega) (by omega)), gC0 hk10, kC0 hk10, m_fget _ hk10 (by decide), e3, nI_1, Int32.add_zero]
    by_cases e : r (12 + 4 * k) = x
    · rw [if_pos e, if_pos e]
      exact ih (k + 1) n n' _ (by omega) (by omega) (by omega)
    · rw [if_neg e, if_neg e]
      exact ih (k + 1) n n' _ (by omega) (by omega) (by omega)
theorem r_cardsOf (R : Rel B T S r) (x : Int32) : ∃ w, fX12_cardsOf r x = some w ∧ fX0_countOf S x = some w := by
  obtain ⟨C, hC, eC⟩ := R.cC
  have h := cards_L R hC eC x C 0 3000 3000 0 (by omega) (by omega) (by omega)
  rw [nI_0] at h
  exact h
theorem r_standing (R : Rel B T S r) {a : Nat} (ha : a < 8) : ∃ w, fX3_faresInLogs S (nI a) = some w ∧ fX12_standing r (nI a) = some (r (52 + 4 * a) - w) := by
  obtain ⟨w, h1, h2⟩ := r_fares R (nI a)
  refine ⟨w, h2, ?_⟩
  unfold fX12_standing
  simp only [lt_eq]
  rw [gA0 ha, kA0 ha, h1, m_bd]
end OBS
