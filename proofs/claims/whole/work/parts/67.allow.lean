/-! which figures the component allows behind a letter; its inner loop -/
def alT (x10 a2 x7 x2 : Int32) : Int32 :=
      if x10 = 100 then
        if 4 ≤ x2 then
          0
        else
          1
      else if x10 = 101 then
        1
      else if x10 = 102 then
        1
      else if x10 = 103 then
        1
      else if x10 = 104 then
        1
      else if x10 = 105 then
        1
      else if x10 = 106 then
        1
      else if x10 = 107 then
        1
      else if x10 = 108 then
        1
      else if x10 = 109 then
        if a2 = 1 then
          if 6 < x2 then
            0
          else
            1
        else
          if x7 = 0 then
            if x2 ≤ 0 then
              0
            else
              1
          else
            if x7 < 6 then
              1
            else
              if x2 = 0 then
                1
              else
                0
      else if x10 = 110 then
        1
      else if x10 = 111 then
        if 4 ≤ x2 then
          0
        else
          1
      else if x10 = 112 then
        1
      else if x10 = 113 then
        1
      else if x10 = 114 then
        if a2 = 1 then
          1
        else
          if 4 ≤ x2 then
            0
          else
            1
      else if x10 = 115 then
        1
      else if x10 = 116 then
        if a2 = 1 then
          if 8 ≤ x2 then
            0
          else
            1
        else
          if a2 = 2 then
            1
          else
            if 0 < x7 then
              1
            else
              if x2 ≤ 0 then
                0
              else
                1
      else if x10 = 117 then
        if 4 ≤ x2 then
          0
        else
          1
      else 
      1
section ALLOW
variable {X : Nat → Nat → Int32} {t p : Nat}
theorem xdig (X : Nat → Nat → Int32) {i : Nat} (h : i < 120) : fX2_digit X (nI i) = X 3 i - 48 := by
  unfold fX2_digit
  rw [lt_eq, m_fget _ h (by decide)]
theorem xsign (X : Nat → Nat → Int32) {i : Nat} (h : i < 120) : fX2_sign X (nI i) = X 3 i := by
  unfold fX2_sign
  rw [lt_eq, m_fget _ h (by decide)]
theorem al_no {k : Nat} (hk : p + k < 120) (h : X 3 (p + k) - 48 < 0 ∨ 9 < X 3 (p + k) - 48) : fX2_isAllowed X (nI p) (nI k) = 0 := by
  unfold fX2_isAllowed
  rw [nI_add, xdig X hk, lt_eq]
  rcases h with h | h
  · rw [if_pos h]
  · by_cases c : X 3 (p + k) - 48 < 0
    · rw [if_pos c]
    · rw [if_neg c, if_neg (Int32.not_le.mpr h)]
theorem al_yes {k d : Nat} (hk : p + (k + 1) < 120) (h : X 3 (p + (k + 1)) - 48 = nI d) (hd : d ≤ 9) : fX2_isAllowed X (nI p) (nI (k + 1)) = alT (X 3 p) (nI (k + 1)) (X 3 (p + k) - 48) (nI d) := by
  unfold fX2_isAllowed
  simp only [lt_eq]
  rw [nI_add, xdig X hk, h, if_neg (nI_pos (by omega)), if_pos (c := nI d ≤ 9) (nI_le (b := 9) hd (by decide)), show nI (p + (k + 1)) - 1 = nI (p + k) from nI_pred (p + k), xdig X (by omega), xsign X (by omega)]
  rfl
abbrev gd_ (X : Nat → Nat → Int32) (t p k : Nat) : Prop := p + k < t ∧ ¬ fX2_isAllowed X (nI p) (nI k) = 0
theorem L46_bad (h11 : X 1 1 = nI t) (ht : t ≤ 120) {K : Int32 → Int32 → Int32 → Option Int32} {dg e : Nat} (hp : p < 120) (hdg : dg ≤ 3) (he : e ≤ dg) (hb : t ≤ p + e ∨ fX2_isAllowed X (nI p) (nI e) = 0) : ∀ (m k N : Nat), k + m = e → m < N → (∀ j, k ≤ j → j < e → gd_ X t p j) → fX2_firstError_L46 K X N (nI p) (nI dg) (nI k) = some (nI (p + e)) := by
  intro m
  induction m with
  | zero =>
    intro k N hk hN hg
    obtain ⟨N, rfl⟩ : ∃ m, N = m + 1 := ⟨N - 1, by omega⟩
    have hke : k = e := by omega
    subst hke
    rw [fX2_firstError_L46, if_neg (nI_nlt he (by omega))]
    simp only [lt_eq]
    rw [h11, nI_add]
    rcases hb with c | c
    · rw [if_pos (nI_le c (by omega))]
    · rw [if_pos c, ite_self]
  | succ m ih =>
    intro k N hk hN hg
    obtain ⟨N, rfl⟩ : ∃ m, N = m + 1 := ⟨N - 1, by omega⟩
    obtain ⟨g1, g2⟩ := hg k (Nat.le_refl k) (by omega)
    rw [fX2_firstError_L46, if_neg (nI_nlt (show k ≤ dg by omega) (by omega))]
    simp only [lt_eq]
    rw [h11, nI_add, if_neg (nI_ge g1 (by omega)), if_neg g2, nI_1]
    exact ih (k + 1) N (by omega) (by omega) (fun j h1 h2 => hg j (by omega) h2)
theorem L46_good (h11 : X 1 1 = nI t) (ht : t ≤ 120) {K : Int32 → Int32 → Int32 → Option Int32} {dg : Nat} (hp : p < 120) (hdg : dg ≤ 3) : ∀ (m k N : Nat), k + m = dg + 1 → m < N → (∀ j, k ≤ j → j ≤ dg → gd_ X t p j) → fX2_firstError_L46 K X N (nI p) (nI dg) (nI k) = K (nI p) (nI dg) (nI (dg + 1)) := by
  intro m
  induction m with
  | zero =>
    intro k N hk hN hg
    obtain ⟨N, rfl⟩ : ∃ m, N = m + 1 := ⟨N - 1, by omega⟩
    have hke : k = dg + 1 := by omega
    subst hke
    rw [fX2_firstError_L46, if_pos (nI_lt (by omega) (by omega))]
  | succ m ih =>
    intro k N hk hN hg
    obtain ⟨N, rfl⟩ : ∃ m, N = m + 1 := ⟨N - 1, by omega⟩
    obtain ⟨g1, g2⟩ := hg k (Nat.le_refl k) (by omega)
    rw [fX2_firstError_L46, if_neg (nI_nlt (show k ≤ dg by omega) (by omega))]
    simp only [lt_eq]
    rw [h11, nI_add, if_neg (nI_ge g1 (by omega)), if_neg g2, nI_1]
    exact ih (k + 1) N (by omega) (by omega) (fun j h1 h2 => hg j (by omega) h2)
theorem alT_c (k x y : Int32) : alT 99 k x y = 1 := rfl
theorem alT_d (k x y : Int32) : alT 100 k x y = if 4 ≤ y then 0 else 1 := rfl
theorem alT_o (k x y : Int32) : alT 111 k x y = if 4 ≤ y then 0 else 1 := rfl
theorem alT_u (k x y : Int32) : alT 117 k x y = if 4 ≤ y then 0 else 1 := rfl
theorem alT_i (k x y : Int32) : alT 105 k x y = 1 := rfl
theorem alT_r1 (x y : Int32) : alT 114 (nI 1) x y = 1 := rfl
theorem alT_r2 (x y : Int32) : alT 114 (nI 2) x y = if 4 ≤ y then 0 else 1 := rfl
theorem alT_m1 (x y : Int32) : alT 109 (nI 1) x y = if 6 < y then 0 else 1 := rfl
theorem alT_m2 (x y : Int32) : alT 109 (nI 2) x y = if x = 0 then (if y ≤ 0 then 0 else 1) else if x < 6 then 1 else if y = 0 then 1 else 0 := rfl
theorem alT_t1 (x y : Int32) : alT 116 (nI 1) x y = if 8 ≤ y then 0 else 1 := rfl
theorem alT_t2 (x y : Int32) : alT 116 (nI 2) x y = 1 := rfl
theorem alT_t3 (x y : Int32) : alT 116 (nI 3) x y = if 0 < x then 1 else if y ≤ 0 then 0 else 1 := rfl
end ALLOW
