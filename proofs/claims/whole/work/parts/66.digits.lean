/-! figures that the reference reads -/
section FIG
variable {M : Nat → Nat → Int32} {t q : Nat}
abbrev noDig (M : Nat → Nat → Int32) (t q : Nat) : Prop := t ≤ q ∨ (M 1 q - 48 < 0 ∨ 9 < M 1 q - 48)
abbrev isDig (M : Nat → Nat → Int32) (t q d : Nat) : Prop := q < t ∧ M 1 q - 48 = nI d ∧ d ≤ 9
theorem dig_or (M : Nat → Nat → Int32) (t q : Nat) : noDig M t q ∨ ∃ d, isDig M t q d := by
  rcases Nat.lt_or_ge q t with h | h
  · by_cases a : M 1 q - 48 < 0
    · exact Or.inl (Or.inr (Or.inl a))
    by_cases b : 9 < M 1 q - 48
    · exact Or.inl (Or.inr (Or.inr b))
    obtain ⟨j, hj, e⟩ := nI_of a
    refine Or.inr ⟨j, h, e, ?_⟩
    rcases Nat.lt_or_ge 9 j with c | c
    · exact absurd (by rw [e]; exact nI_lt (a := 9) c hj) b
    · exact c
  · exact Or.inl (Or.inl h)
def mSpot (M : Nat → Nat → Int32) (k : Nat) : Nat → Nat → Int32 := va_up M 0 (upd (M 0) 10 (nI k))
theorem mSpot_k (k : Nat) {j : Nat} (h : j ≠ 0) : mSpot M k j = M j := va_up_n h
theorem mSpot_10 (k : Nat) : mSpot M k 0 10 = nI k := upd_at (M 0) 10 (nI k)
theorem mSpot_0 (k : Nat) {j : Nat} (h : j ≠ 10) : mSpot M k 0 j = M 0 j := upd_ne (f := M 0) h
theorem mSpot_2 (k k2 : Nat) : mSpot (mSpot M k) k2 = mSpot M k2 := by
  unfold mSpot
  rw [bx_uu]
  refine congrArg (va_up M 0) ?_
  funext j
  show upd (upd (M 0) 10 (nI k)) 10 (nI k2) j = _
  by_cases e : j = 10
  · subst e; rw [upd_at, upd_at]
  · rw [upd_ne e, upd_ne e, upd_ne e]
theorem mSpot_id (k : Nat) (h : M 0 10 = nI k) : mSpot M k = M := by
  unfold mSpot
  have e : upd (M 0) 10 (nI k) = M 0 := by
    funext j
    by_cases c : j = 10
    · subst c; rw [upd_at, h]
    · rw [upd_ne c]
  rw [e, va_up_id]
theorem figS_no (N : Nat) (ht : t ≤ 120) (hq : q < 2 ^ 20) (h10 : M 0 10 = nI q) (h2 : M 0 2 = nI t) (hno : noDig M t q) {u a0 : Int32} (hu : ¬ u ≤ 0) (ha : ¬ a0 = -1) (y2 lo hi v : Int32) : fX12_figures_L16 (N + 1) M a0 y2 lo hi v u = some (-1, M) := by
  rw [fX12_figures_L16, if_neg hu, if_neg ha]
  simp only [lt_eq]
  rw [h10, h2]
  rcases Nat.lt_or_ge q t with c | c
  · have hx : inb (nI q) 120 = true ∧ (nI q).toNatClampNeg = q := mx rfl (by omega) (by decide)
    rw [if_neg (nI_ge c (by omega)), m_gd hx.1, hx.2, m_in (M 1 q - 48) 0 9 0 9 (by decide) (by decide)]
    have hn : (if M 1 q - 48 < 0 then (0 : Int32) else if 9 < M 1 q - 48 then 0 else 1) = 0 := by
      rcases hno with k | k | k
      · omega
      · rw [if_pos k]
      · rw [if_pos k]; split <;> rfl
    rw [if_pos hn]
  · rw [if_pos (nI_le c (by omega)), if_pos (c := fX12_in (-1 : Int32).toInt64 0 9 = 0) (by decide)]
theorem figS_yes (N : Nat) (ht : t ≤ 120) (h10 : M 0 10 = nI q) (h2 : M 0 2 = nI t) {d : Nat} (hd : isDig M t q d) {u a0 : Int32} (hu : ¬ u ≤ 0) (ha : ¬ a0 = -1) (y2 lo hi v : Int32) : fX12_figures_L16 (N + 1) M a0 y2 lo hi v u = if hi < v + nI d * u then some (-1, M) else if lo ≤ v + nI d * u + u - 1 then fX12_figures_L16 N (mSpot M (q + 1)) a0 y2 lo hi (v + nI d * u) (u / 10) else some (-1, M) := by
  have hx : inb (nI q) 120 = true ∧ (nI q).toNatClampNeg = q := mx rfl (by have := hd.1; omega) (by decide)
  rw [fX12_figures_L16, if_neg hu, if_neg ha]
  simp only [lt_eq]
  rw [h10, h2, if_neg (nI_ge hd.1 (by omega)), m_gd hx.1, hx.2, hd.2.1, m_in (nI d) 0 9 0 9 (by decide) (by decide), if_neg (c := nI d < 0) (nI_pos (by have := hd.2.2; omega)), if_neg (c := 9 < nI d) (nI_nlt (a := 9) hd.2.2 (by decide)), if_neg n10, nI_1]
  rfl
theorem figS_end (N : Nat) {a0 : Int32} (ha : ¬ a0 = -1) (y2 lo hi v : Int32) : fX12_figures_L16 (N + 1) M a0 y2 lo hi v 0 = some (v, M) := by
  rw [fX12_figures_L16, if_pos (c := (0 : Int32) ≤ 0) (by decide), if_neg ha]
theorem figS_none (N : Nat) (y2 lo hi v u : Int32) : fX12_figures_L16 (N + 1) M (-1) y2 lo hi v u = some (-1, M) := by
  rw [fX12_figures_L16, if_pos rfl, if_pos rfl]
  split <;> rfl
theorem fig_none (y2 lo hi : Int32) : fX12_figures M (-1) y2 lo hi = some (-1, M) := by
  unfold fX12_figures
  split
  · exact figS_none 2999 _ _ _ _ _
  · exact figS_none 2999 _ _ _ _ _
theorem nm1 (d : Nat) (h : d < 2 ^ 31) : ¬ nI d = -1 := fun e => by
  have := congrArg Int32.toInt e
  rw [nI_toInt h, m_m1] at this
  omega
/-- one digit -/
theorem fig1 (ht : t ≤ 120) (hq : q < 2 ^ 20) (h10 : M 0 10 = nI q) (h2 : M 0 2 = nI t) {a0 : Int32} (ha : ¬ a0 = -1) {h : Nat} (hh : h ≤ 9) : (noDig M t q → fX12_figures M a0 1 0 (nI h) = some (-1, M)) ∧ (∀ d, isDig M t q d → h < d → fX12_figures M a0 1 0 (nI h) = some (-1, M)) ∧ (∀ d, isDig M t q d → d ≤ h → fX12_figures M a0 1 0 (nI h) = some (nI d, mSpot M (q + 1))) := by
  have hu : ¬ (1 : Int32) ≤ 0 := by decide
  have h1 : fX12_figures M a0 1 0 (nI h) = fX12_figures_L16 (2998 + 1 + 1) M a0 1 0 (nI h) 0 1 := by
    unfold fX12_figures
    rw [if_neg (by decide)]
  rw [h1]
  refine ⟨fun hn => figS_no _ ht hq h10 h2 hn hu ha _ _ _ _, fun d hd hlt => ?_, fun d hd hle => ?_⟩
  · have := hd.2.2
    rw [figS_yes _ ht h10 h2 hd hu ha, Int32.zero_add, Int32.mul_one, if_pos (nI_lt hlt (by omega))]
  · have := hd.2.2
    rw [figS_yes _ ht h10 h2 hd hu ha, Int32.zero_add, Int32.mul_one, if_neg (nI_nlt hle (by omega)), nI_1, nI_pred, if_pos (nI_pos' (by omega)), show (1 : Int32) / 10 = 0 from by decide, figS_end _ ha]
/-- two digits -/
theorem fig2 (ht : t ≤ 120) (hq : q < 2 ^ 20) (h10 : M 0 10 = nI q) (h2 : M 0 2 = nI t) {a0 : Int32} (ha : ¬ a0 = -1) {l h : Nat} (hl : l ≤ 1) (hh : h ≤ 99) :
    (noDig M t q → fX12_figures M a0 2 (nI l) (nI h) = some (-1, M)) ∧ (∀ a, isDig M t q a → h < 10 * a → fX12_figures M a0 2 (nI l) (nI h) = some (-1, M)) ∧
    (∀ a, isDig M t q a → 10 * a ≤ h → noDig M t (q + 1) → fX12_figures M a0 2 (nI l) (nI h) = some (-1, mSpot M (q + 1))) ∧
    (∀ a b, isDig M t q a → 10 * a ≤ h → isDig M t (q + 1) b → (h < 10 * a + b ∨ 10 * a + b < l) → fX12_figures M a0 2 (nI l) (nI h) = some (-1, mSpot M (q + 1))) ∧
    (∀ a b, isDig M t q a → 10 * a ≤ h → isDig M t (q + 1) b → 10 * a + b ≤ h → l ≤ 10 * a + b → fX12_figures M a0 2 (nI l) (nI h) = some (nI (10 * a + b), mSpot M (q + 2))) := by
  have hu : ¬ (1 : Int32) ≤ 0 := by decide
  have hu10 : ¬ (10 : Int32) ≤ 0 := by decide
  have h1 : fX12_figures M a0 2 (nI l) (nI h) = fX12_figures_L16 (2997 + 1 + 1 + 1) M a0 2 (nI l) (nI h) 0 10 := by
    unfold fX12_figures
    rw [if_pos rfl]
  have m10 : ∀ a : Nat, nI a * 10 = nI (10 * a) := fun a => by
    show nI a * nI 10 = _
    rw [nI_mul, Nat.mul_comm]
  have k10 : mSpot M (q + 1) 0 10 = nI (q + 1) := mSpot_10 _
  have k2 : mSpot M (q + 1) 0 2 = nI t := (mSpot_0 _ (by omega)).trans h2
  have step : ∀ a, isDig M t q a → 10 * a ≤ h → fX12_figures M a0 2 (nI l) (nI h) = fX12_figures_L16 (2997 + 1 + 1) (mSpot M (q + 1)) a0 2 (nI l) (nI h) (nI (10 * a)) 1 := fun a hd hle => by
    have := hd.2.2
    have e9 : nI (10 * a) + 10 - 1 = nI (10 * a + 9) := by
      show nI (10 * a) + nI 10 - 1 = _
      rw [nI_add, show 10 * a + 10 = (10 * a + 9) + 1 by omega, nI_pred]
    rw [h1, figS_yes _ ht h10 h2 hd hu10 ha, Int32.zero_add, m10, if_neg (nI_nlt hle (by omega)), e9, if_pos (nI_le (by omega) (by omega)), show (10 : Int32) / 10 = 1 from by decide]
  refine ⟨fun hn => ?_, fun a hd hlt => ?_, fun a hd hle hn => ?_, fun a b hd hle hd2 hor => ?_, fun a b hd hle hd2 h3 h4 => ?_⟩
  · rw [h1]
    exact figS_no _ ht hq h10 h2 hn hu10 ha _ _ _ _
  · have := hd.2.2
    rw [h1, figS_yes _ ht h10 h2 hd hu10 ha, Int32.zero_add, m10, if_pos (nI_lt hlt (by omega))]
  · rw [step a hd hle]
    exact figS_no _ ht (by omega) k10 k2 hn hu ha _ _ _ _
  · have := hd.2.2
    have := hd2.2.2
    rw [step a hd hle, figS_yes _ ht k10 k2 (d := b) hd2 hu ha, Int32.mul_one, nI_add]
    rcases hor with c | c
    · rw [if_pos (nI_lt c (by omega))]
    · rw [if_neg (nI_nlt (show 10 * a + b ≤ h by omega) (by omega)), nI_1, nI_pred, if_neg (nI_ge c (by omega))]
  · have := hd.2.2
    have := hd2.2.2
    rw [step a hd hle, figS_yes _ ht k10 k2 (d := b) hd2 hu ha, Int32.mul_one, nI_add, if_neg (nI_nlt h3 (by omega)), nI_1, nI_pred, if_pos (nI_le h4 (by omega)), show (1 : Int32) / 10 = 0 from by decide, figS_end _ ha, mSpot_2]
end FIG
