
/-! the law's sums hold -/
section HOL
variable {n B T : Nat} {M : Mem} {S : Mem} {A C : Nat}
theorem tri {α : Type} {b bal mark : Int32} {z : Option α} (hb : b = if bal < 0 then 1 else if mark = 1 then 1 else 0) : (if b = 1 then (if bal < 0 then z else if mark = 1 then z else none) else (if bal < 0 then none else if mark = 1 then none else z)) = z := by
  by_cases c : bal < 0
  · rw [if_pos c] at hb
    rw [hb, if_pos rfl, if_pos c]
  · rw [if_neg c] at hb
    by_cases c2 : mark = 1
    · rw [if_pos c2] at hb
      rw [hb, if_pos rfl, if_neg c, if_pos c2]
    · rw [if_neg c2] at hb
      rw [hb, if_neg (by decide), if_neg c, if_neg c2]
set_option maxRecDepth 20000 in
theorem h_50 (h : Re n M) (jm : JM n M) (hn : n ≤ 850) (R : Rel n (150000 * n) S (M 2)) (e0 : M 2 0 = nI C) (hC : C ≤ 10) (e1 : M 2 1 = nI A) (hA : A ≤ 8) {d : Nat → Nat} (hd : Sz (M 2) d) {ms : Int32} (hms : ∀ a, a < 8 → nI a < M 2 1 → ((ms >>> (nI a &&& 31)) &&& 1) = blv (M 2) a) (y1 : Int32) : ∀ (m k N : Nat), k + m = A → m < N →
    fL_holds_L50 M N y1 (nI C) (nI A) ms (sumI (fun a => CO (M 2) C (nI a)) k) (sumI (fun a => M 2 (55 + 4 * a)) k) (sumI (fun a => lgS (M 2) d (nI a) 0) k) (sumI (fun a => lgS (M 2) d (nI a) 1) k) (wI (M 2) d k) 1 (nI k)
    = fL_holds_L292 M 5 y1 (nI C) (nI A) ms (sumI (fun a => CO (M 2) C (nI a)) A) (sumI (fun a => M 2 (55 + 4 * a)) A) (sumI (fun a => lgS (M 2) d (nI a) 0) A) (sumI (fun a => lgS (M 2) d (nI a) 1) A) (wI (M 2) d A) 1 0 0 := by
  have hM := h.2
  intro m
  induction m with
  | zero =>
    intro k N hk hN
    obtain ⟨N, rfl⟩ : ∃ m, N = m + 1 := ⟨N - 1, by omega⟩
    obtain rfl : k = A := by omega
    rw [fL_holds_L50, if_pos (nI_le (Nat.le_refl k) (by omega))]
  | succ m ih =>
    intro k N hk hN
    obtain ⟨N, rfl⟩ : ∃ m, N = m + 1 := ⟨N - 1, by omega⟩
    have hkA : k < A := by omega
    have hk8 : k < 8 := by omega
    have v0 := l4_0 R e1 hA hkA hM 0
    have v1 := l4_1 R e1 hA hkA hM 0
    have v2 := l4_2 R e1 hA hkA hM 0
    have v3 := l4_3 R e1 hA hkA hM 0
    have v4 := l4_4 R e1 hA hkA hM 0
    have v5 := l4_5 R e1 hA hkA hM e0 hC 0
    have v6 := l4_6 R e1 hA hkA hM hd 0
    have v7 := l4_7 R e1 hA hkA hM hd 0
    obtain ⟨o, vo, ho⟩ := ow_v h jm hn R e1 hA hkA
    obtain ⟨w, hwb, ew⟩ := jm.1.w k hk8
    have hb := hms k hk8 (by rw [e1]; exact nI_lt hkA (by omega))
    have hw : ¬ M 2 (53 + 4 * k) < 0 := by rw [ew]; exact nI_pos (by omega)
    have tb : blv (M 2) k = if M 2 (52 + 4 * k) < 0 then 1 else if M 2 (54 + 4 * k) = 1 then 1 else 0 := rfl
    rw [fL_holds_L50, if_neg (nI_ge (show k < A by omega) (by omega)), gdt n10]
    simp only [v0, v1, v2, v3, v4, v5, v6, v7, vo, m_bd, lt_eq, nI_1]
    rcases Nat.eq_zero_or_pos k with q | q
    · rw [if_pos (c := wI (M 2) d k = -1) (by rw [q]; rfl), gdt hb, tri tb, gdt hw, gdt ho]
      have i := ih (k + 1) N (by omega) (by omega)
      rw [show wI (M 2) d (k + 1) = nI k from by rw [q]; rfl] at i
      exact i
    · have hwk := wN_lt (r := M 2) d k q
      have ew : wI (M 2) d k = nI (wN (M 2) d k) := if_neg (by omega)
      have u0 := l4_0 R e1 hA (show wN (M 2) d k < A by omega) hM 0
      have u7 := l4_7 R e1 hA (show wN (M 2) d k < A by omega) hM hd 0
      have i := ih (k + 1) N (by omega) (by omega)
      rw [wI_s d q, ew] at i
      rw [ew, if_neg (nm1 _ (by omega))]
      simp only [u0, u7, m_bd]
      rw [gdt hb, tri tb, gdt hw, gdt ho]
      exact i
theorem h_434 (hM : norm M = M) {g d : Nat} (hg : g < 4) (hd : d ≤ 12) (ed : M 2 (87 + 5 * g) = nI d) (hA : A ≤ 8) (hl : ∀ k, k < d → ∃ a m f, a < A ∧ 0 < m ∧ m < 2 ^ 30 ∧ 1 ≤ f ∧ f ≤ 9 ∧ M 2 (104 + 36 * g + 3 * k) = nI a ∧ M 2 (105 + 36 * g + 3 * k) = nI m ∧ M 2 (106 + 36 * g + 3 * k) = nI f) (K : Int32 → Int32 → Int32 → Int32 → Int32 → Int32 → Int32 → Int32 → Int32 → Int32 → Int32 → Int32 → Int32 → Int32 → Option Int32) (y1 y2 y4 y5 y6 y7 y8 y9 y11 : Int32) : ∀ (m k N : Nat), k + m = d → m < N → fL_holds_L434 M K N y1 y2 (nI A) y4 y5 y6 y7 y8 y9 1 y11 (nI g) (nI d) (nI k) = K y1 y2 (nI A) y4 y5 y6 y7 y8 y9 1 y11 (nI g) (nI d) (nI d) := by
  intro m
  induction m with
  | zero =>
    intro k N hk hN
    obtain ⟨N, rfl⟩ : ∃ m, N = m + 1 := ⟨N - 1, by omega⟩
    obtain rfl : k = d := by omega
    rw [fL_holds_L434, if_pos (nI_le (Nat.le_refl k) (by omega))]
  | succ m ih =>
    intro k N hk hN
    obtain ⟨N, rfl⟩ : ∃ m, N = m + 1 := ⟨N - 1, by omega⟩
    have hkd : k < d := by omega
    obtain ⟨a, q, f, ha, hq, hq2, hf1, hf9, ea, eq, ef⟩ := hl k hkd
    have v0 : qk (rcall M 6 (nI g) (nI k) 0) M = some (nI a) := (l6_in hg hM hd hkd ed (j := 0) (by decide)).trans (by rw [← ea]; rfl)
    have v1 : qk (rcall M 6 (nI g) (nI k) 1) M = some (nI q) := (l6_in hg hM hd hkd ed (j := 1) (by decide)).trans (by rw [← eq, show 104 + 36 * g + 3 * k + 1 = 105 + 36 * g + 3 * k by omega])
    have v2 : qk (rcall M 6 (nI g) (nI k) 2) M = some (nI f) := (l6_in hg hM hd hkd ed (j := 2) (by decide)).trans (by rw [← ef, show 104 + 36 * g + 3 * k + 2 = 106 + 36 * g + 3 * k by omega])
    rw [fL_holds_L434, if_neg (nI_ge (show k < d by omega) (by omega)), gdt n10]
    simp only [v0, v1, v2, m_bd, lt_eq, nI_1]
    rw [gdt (nI_ge ha (by omega)), gdt (nI_nle hq (by omega)), gdt (nI_nle (by omega) (by omega)), gdt (p := ¬ 10 ≤ nI f) (nI_ge (b := 10) (by omega) (by decide))]
    exact ih (k + 1) N (by omega) (by omega)
/-- what holds of the card that the law looks at -/
theorem h_card (jm : JM n M) (R : Rel n (150000 * n) S (M 2)) (hn : n ≤ 850) (e0 : M 2 0 = nI C) (hC : C ≤ 10) (e1 : M 2 1 = nI A) (hA : A ≤ 8) {c : Nat} (hc : c < C) : ¬ nI A ≤ M 2 (12 + 4 * c) ∧ ¬ M 2 2 < M 2 (15 + 4 * c) - 1 ∧ (M 2 (15 + 4 * c) - 1 = -1 ↔ M 2 (14 + 4 * c) = 0) := by
  have hlt : nI c < M 2 0 := by rw [e0]; exact nI_lt hc (by omega)
  obtain ⟨o, ho, hoA, eo⟩ := R.cown c (by omega) hlt
  obtain ⟨hz, t, m, et, em, htm, hm⟩ := jm.1.c c (by omega) hlt
  refine ⟨?_, ?_, ?_⟩
  · rw [eo, ← e1]; exact Int32.not_le.mpr hoA
  · rw [et, em]
    cases t with
    | zero =>
      rw [m_l0]
      intro q
      have h1 := Int32.lt_iff_toInt_lt.mp q
      rw [nI_toInt (by omega), m_m1] at h1
      omega
    | succ t =>
      rw [nI_pred]
      exact nI_nlt (by omega) (by omega)
  · rw [← hz, et]
    cases t with
    | zero => rw [m_l0]; exact ⟨fun _ => nI_0, fun _ => rfl⟩
    | succ t => rw [nI_pred]; exact ⟨fun q => absurd q (nm1 t (by omega)), fun q => absurd q (nI_ne0 (by omega) (by omega))⟩
theorem gdN {α : Type} {p : Prop} [Decidable p] {x : Option α} (h : p) (y : Option α) (e : x = y) : gd (decide p) x = y := (gdt h).trans e
theorem h_end {α : Type} {lat cnt : Int32} {z : α} (h : lat = -1 ↔ cnt = 0) : (if lat = -1 then (if cnt = 0 then some z else none) else (if cnt = 0 then none else some z)) = some z := by
  by_cases c : lat = -1
  · rw [if_pos c, if_pos (h.mp c)]
  · rw [if_neg c, if_neg (fun q => c (h.mpr q))]
/-- the branches of the look ahead -/
theorem h_br {w q : Nat} {op : Int32} (hw : w ≤ 7) (hq : q ≤ 100) (h01 : op = 0 ∨ op = 1) (h1 : op = 1 → w = 2 ∧ q = 100) (h0 : op = 0 → ¬ w = 2) (h3 : w = 3 ∨ w = 5 ∨ w = 6 → q = 0) :
    (if nI w = 2 then (if op = 1 then (if nI w = 2 then gd (decide (nI q = 100)) (if nI w ≤ 1 then some (1 : Int32) else if nI w = 7 then some 1 else if nI w = 4 then some 1 else if nI w = 2 then some 1 else gd (decide (nI q = 0)) (some 1)) else (if nI w ≤ 1 then some (1 : Int32) else if nI w = 7 then some 1 else if nI w = 4 then some 1 else if nI w = 2 then some 1 else gd (decide (nI q = 0)) (some 1))) else none)
    else (if op = 1 then none else (if nI w = 2 then gd (decide (nI q = 100)) (if nI w ≤ 1 then some (1 : Int32) else if nI w = 7 then some 1 else if nI w = 4 then some 1 else if nI w = 2 then some 1 else gd (decide (nI q = 0)) (some 1)) else (if nI w ≤ 1 then some (1 : Int32) else if nI w = 7 then some 1 else if nI w = 4 then some 1 else if nI w = 2 then some 1 else gd (decide (nI q = 0)) (some 1))))) = some 1 := by
  rcases h01 with h | h
  · have w2 := h0 h
    have n2 : ¬ nI w = 2 := fun e => w2 ((nI_eq (a := w) (b := 2) (by omega) (by decide)).mp e)
    have nop : ¬ op = 1 := by rw [h]; decide
    rw [if_neg n2, if_neg nop, if_neg n2]
    by_cases a : nI w ≤ 1
    · rw [if_pos a]
    rw [if_neg a]
    by_cases b : nI w = 7
    · rw [if_pos b]
    rw [if_neg b]
    by_cases c : nI w = 4
    · rw [if_pos c]
    rw [if_neg c, if_neg n2]
    have hw' : w = 3 ∨ w = 5 ∨ w = 6 := by
      rcases (show w = 0 ∨ w = 1 ∨ w = 2 ∨ w = 3 ∨ w = 4 ∨ w = 5 ∨ w = 6 ∨ w = 7 by omega) with rfl | rfl | rfl | rfl | rfl | rfl | rfl | rfl
      · exact absurd (by decide) a
      · exact absurd (by decide) a
      · exact absurd rfl w2
      · exact Or.inl rfl
      · exact absurd rfl c
      · exact Or.inr (Or.inl rfl)
      · exact Or.inr (Or.inr rfl)
      · exact absurd rfl b
    rw [h3 hw']
    exact gdt rfl
  · obtain ⟨rfl, rfl⟩ := h1 h
    rw [if_pos (c := nI 2 = 2) rfl, if_pos h, if_pos (c := nI 2 = 2) rfl, gdt (p := nI 100 = 100) rfl, if_neg (c := nI 2 ≤ 1) (by decide), if_neg (c := nI 2 = 7) (by decide), if_neg (c := nI 2 = 4) (by decide), if_pos (c := nI 2 = 2) rfl]
end HOL
