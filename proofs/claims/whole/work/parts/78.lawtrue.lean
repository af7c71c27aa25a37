/-! every call of the law, and the whole law -/
abbrev PairL (B T : Nat) (c : Option (Int32 × uV)) (m : (Nat → Nat → Int32) → Option (Int32 × (Nat → Nat → Int32))) : Prop := ∃ k V5 z' S', c = some (k, V5) ∧ m (V5 19) = some (z', S') ∧ S' 0 0 = k ∧ (k = 0 → V5 20 0 0 = z') ∧ WR B T (va_up V5 19 S')
theorem m_bd3 {α β γ δ : Type} {a : α} {b : β} {c : γ} {f : α → β → γ → Option δ} : bd3 (some (a, b, c)) f = f a b c := by unfold bd3; exact Option.bind_some ..
section LAWT
variable {B T : Nat} {V : uV}
theorem uS_19 (V1 : uV) (f : Nat → Int32) : uS V1 20 0 f 19 = V1 19 := rfl
theorem uS_20 (V1 : uV) (r : Int32) : uS V1 20 0 (upd (V1 20 0) 0 r) 20 0 0 = r := rfl
theorem WR.out {V1 : uV} {S' : Nat → Nat → Int32} (h : WR B T (va_up V1 19 S')) (f : Nat → Int32) : WR B T (va_up (uS V1 20 0 f) 19 S') :=
  h.look (fun t h1 h2 => by
    rw [va_up_n (by omega), va_up_n (by omega)]
    unfold uS
    rw [va_up_n (by omega)]) rfl rfl rfl rfl rfl rfl rfl
theorem toL2 {c : Option (Int32 × Int32 × uV)} {m : (Nat → Nat → Int32) → Option (Int32 × (Nat → Nat → Int32))} {e1 e2 : Int32} (h : Pair2 B T V c (m (V 19)) e1 e2) (h1 : ¬ e1 = 0) (h2 : ¬ e2 = 0) (h12 : ¬ e2 = e1) : PairL B T (bd3 c fun E r V1 => if E = 0 then some (0, uS V1 20 0 (upd (V1 20 0) 0 r)) else if E = e1 then some (1, V1) else if E = e2 then some (2, V1) else none) m := by
  obtain ⟨E, z, V1, z', S', hc, hV, hm, hE, hW⟩ := h
  rw [hc, m_bd3]
  rcases hE with ⟨rfl, hS, rfl⟩ | ⟨rfl, hS⟩ | ⟨rfl, hS⟩
  · rw [if_pos rfl]
    exact ⟨0, _, z', S', rfl, by rw [uS_19, hV]; exact hm, hS, fun _ => uS_20 _ _, hW.out _⟩
  · rw [if_neg h1, if_pos rfl]
    exact ⟨1, V1, z', S', rfl, by rw [hV]; exact hm, hS, fun q => absurd q n10, hW⟩
  · rw [if_neg h2, if_neg h12, if_pos rfl]
    exact ⟨2, V1, z', S', rfl, by rw [hV]; exact hm, hS, fun q => absurd q (by decide), hW⟩
theorem toL1 {c : Option (Int32 × Int32 × uV)} {m : (Nat → Nat → Int32) → Option (Int32 × (Nat → Nat → Int32))} {e1 : Int32} (h : Pair1 B T V c (m (V 19)) e1) (h1 : ¬ e1 = 0) : PairL B T (bd3 c fun E r V1 => if E = 0 then some (0, uS V1 20 0 (upd (V1 20 0) 0 r)) else if E = e1 then some (1, V1) else none) m := by
  obtain ⟨E, z, V1, z', S', hc, hV, hm, hE, hW⟩ := h
  rw [hc, m_bd3]
  rcases hE with ⟨rfl, hS, rfl⟩ | ⟨rfl, hS⟩
  · rw [if_pos rfl]
    exact ⟨0, _, z', S', rfl, by rw [uS_19, hV]; exact hm, hS, fun _ => uS_20 _ _, hW.out _⟩
  · rw [if_neg h1, if_pos rfl]
    exact ⟨1, V1, z', S', rfl, by rw [hV]; exact hm, hS, fun q => absurd q n10, hW⟩
theorem l_tail {c : Option (Int32 × uV)} {m : (Nat → Nat → Int32) → Option (Int32 × (Nat → Nat → Int32))} (h : PairL B T c m) : ∃ V', (bd2 c fun x7 V8 => bd2 (m (V8 19)) fun x15 S16 => if fX12_thrown (va_up V8 19 S16 19) = x7 then if x7 = 0 then if lg_cmp (va_up V8 19 S16 20 0 0).toInt64 (x15 : Int32).toInt64 = 0 then some (va_up V8 19 S16) else none else some (va_up V8 19 S16) else none) = some V' ∧ WR B T V' := by
  obtain ⟨k, V5, z', S', h1, h2, h3, h4, h5⟩ := h
  refine ⟨va_up V5 19 S', ?_, h5⟩
  have e : fX12_thrown (va_up V5 19 S' 19) = k := by
    unfold fX12_thrown
    rw [lt_eq, va_up_s, h3]
  rw [h1, m_bd2, h2, m_bd2, e, if_pos rfl]
  by_cases q : k = 0
  · have e2 : va_up V5 19 S' 20 0 0 = z' := h4 q
    rw [if_pos q, e2, if_pos ((lg_cmp_eq _ _).mpr rfl)]
  · rw [if_neg q]
theorem l_tail0 {c : Option (Int32 × uV)} {m : (Nat → Nat → Int32) → Option (Int32 × (Nat → Nat → Int32))} (h : Pair0 B T V c (m (V 19))) : ∃ V', (bd2 c fun x7 V8 => bd2 (m (V8 19)) fun x15 S16 => if x7 = x15 then some (va_up V8 19 S16) else none) = some V' ∧ WR B T V' := by
  obtain ⟨z, V1, S', h1, h2, h3, h4⟩ := h
  refine ⟨va_up V1 19 S', ?_, h4⟩
  rw [h1, m_bd2, h2, h3, m_bd2, if_pos rfl]
end LAWT
section LAWC
variable {B T L j : Nat} {V : uV} {xs : Nat → Int32}
theorem ix (hL : L ≤ 2048) (hj : 4 * j + 4 ≤ L) (k : Nat) (hk : k < 4) : inb (nI (4 * j) + nI k) L = true := (mx (nI_add (4 * j) k) (by omega) (by omega)).1
theorem lc_0 (W : WR B T V) (hB0 : 119 ≤ B) (hB : B + 110 < 1022) (hT0 : 142560 ≤ T) (hT : T + 400000 < 2 ^ 29) (hL : L ≤ 2048) (hj : 4 * j + 4 ≤ L) : ∃ V', fLc_0 xs L V (nI (4 * j)) = some V' ∧ WR (B + 1) (T + 150000) V' := by
  have W1 := W.mono (show B ≤ B + 1 by omega) (show T ≤ T + 150000 by omega)
  unfold fLc_0
  simp only [lt_eq]
  rw [m_gd (b := inb (nI (4 * j) + 1) L) (ix hL hj 1 (by omega))]
  exact l_tail (m := fun M => fX12_append M _) (toL2 (m := fun M => fX12_append M _) (q_append W1 _) (by decide) (by decide) (by decide))
theorem lc_3 (W : WR B T V) (hB0 : 119 ≤ B) (hB : B + 110 < 1022) (hT0 : 142560 ≤ T) (hT : T + 400000 < 2 ^ 29) (hL : L ≤ 2048) (hj : 4 * j + 4 ≤ L) : ∃ V', fLc_3 xs L V (nI (4 * j)) = some V' ∧ WR (B + 1) (T + 150000) V' := by
  have W1 := W.mono (show B ≤ B + 1 by omega) (show T ≤ T + 150000 by omega)
  unfold fLc_3
  simp only [lt_eq]
  exact l_tail (m := fun M => fX12_load M) (toL1 (m := fun M => fX12_load M) (q_load W1 (by omega) (by omega)) (by decide))
theorem lc_4 (W : WR B T V) (hB0 : 119 ≤ B) (hB : B + 110 < 1022) (hT0 : 142560 ≤ T) (hT : T + 400000 < 2 ^ 29) (hL : L ≤ 2048) (hj : 4 * j + 4 ≤ L) : ∃ V', fLc_4 xs L V (nI (4 * j)) = some V' ∧ WR (B + 1) (T + 150000) V' := by
  have W1 := W.mono (show B ≤ B + 1 by omega) (show T ≤ T + 150000 by omega)
  unfold fLc_4
  simp only [lt_eq]
  rw [m_gd (b := inb (nI (4 * j) + 1) L) (ix hL hj 1 (by omega))]
  exact l_tail (m := fun M => fX12_about M _) (toL1 (m := fun M => fX12_about M _) (q_about W1 _) (by decide))
theorem lc_5 (W : WR B T V) (hB0 : 119 ≤ B) (hB : B + 110 < 1022) (hT0 : 142560 ≤ T) (hT : T + 400000 < 2 ^ 29) (hL : L ≤ 2048) (hj : 4 * j + 4 ≤ L) : ∃ V', fLc_5 xs L V (nI (4 * j)) = some V' ∧ WR (B + 1) (T + 150000) V' := by
  have W1 := W.mono (show B ≤ B + 1 by omega) (show T ≤ T + 150000 by omega)
  unfold fLc_5
  simp only [lt_eq]
  rw [m_gd (b := inb (nI (4 * j) + 1) L) (ix hL hj 1 (by omega)), m_gd (b := inb (nI (4 * j) + 2) L) (ix hL hj 2 (by omega))]
  exact l_tail (m := fun M => fX12_card M _ _) (toL2 (m := fun M => fX12_card M _ _) (q_card W1 _ _) (by decide) (by decide) (by decide))
theorem lc_6 (W : WR B T V) (hB0 : 119 ≤ B) (hB : B + 110 < 1022) (hT0 : 142560 ≤ T) (hT : T + 400000 < 2 ^ 29) (hL : L ≤ 2048) (hj : 4 * j + 4 ≤ L) : ∃ V', fLc_6 xs L V (nI (4 * j)) = some V' ∧ WR (B + 1) (T + 150000) V' := by
  have W1 := W.mono (show B ≤ B + 1 by omega) (show T ≤ T + 150000 by omega)
  unfold fLc_6
  simp only [lt_eq]
  rw [m_gd (b := inb (nI (4 * j) + 1) L) (ix hL hj 1 (by omega)), m_gd (b := inb (nI (4 * j) + 2) L) (ix hL hj 2 (by omega))]
  exact l_tail (m := fun M => fX12_account M _ _) (toL2 (m := fun M => fX12_account M _ _) (q_account W1 _ _) (by decide) (by decide) (by decide))
theorem lc_7 (W : WR B T V) (hB0 : 119 ≤ B) (hB : B + 110 < 1022) (hT0 : 142560 ≤ T) (hT : T + 400000 < 2 ^ 29) (hL : L ≤ 2048) (hj : 4 * j + 4 ≤ L) : ∃ V', fLc_7 xs L V (nI (4 * j)) = some V' ∧ WR (B + 1) (T + 150000) V' := by
  have W1 := W.mono (show B ≤ B + 1 by omega) (show T ≤ T + 150000 by omega)
  unfold fLc_7
  simp only [lt_eq]
  rw [m_gd (b := inb (nI (4 * j) + 1) L) (ix hL hj 1 (by omega)), m_gd (b := inb (nI (4 * j) + 2) L) (ix hL hj 2 (by omega))]
  exact l_tail (m := fun M => fX12_gate M _ _) (toL2 (m := fun M => fX12_gate M _ _) (q_gate W1 _ _) (by decide) (by decide) (by decide))
theorem lc_8 (W : WR B T V) (hB0 : 119 ≤ B) (hB : B + 110 < 1022) (hT0 : 142560 ≤ T) (hT : T + 400000 < 2 ^ 29) (hL : L ≤ 2048) (hj : 4 * j + 4 ≤ L) : ∃ V', fLc_8 xs L V (nI (4 * j)) = some V' ∧ WR (B + 1) (T + 150000) V' := by
  have W1 := W.mono (show B ≤ B + 1 by omega) (show T ≤ T + 150000 by omega)
  unfold fLc_8
  simp only [lt_eq]
  rw [m_gd (b := inb (nI (4 * j) + 1) L) (ix hL hj 1 (by omega)), m_gd (b := inb (nI (4 * j) + 2) L) (ix hL hj 2 (by omega)), m_gd (b := inb (nI (4 * j) + 3) L) (ix hL hj 3 (by omega))]
  exact l_tail (m := fun M => fX12_logged M _ _ _) (toL2 (m := fun M => fX12_logged M _ _ _) (q_logged W1 _ _ _) (by decide) (by decide) (by decide))
theorem lc_9 (W : WR B T V) (hB0 : 119 ≤ B) (hB : B + 110 < 1022) (hT0 : 142560 ≤ T) (hT : T + 400000 < 2 ^ 29) (hL : L ≤ 2048) (hj : 4 * j + 4 ≤ L) : ∃ V', fLc_9 xs L V (nI (4 * j)) = some V' ∧ WR (B + 1) (T + 150000) V' := by
  have W1 := W.mono (show B ≤ B + 1 by omega) (show T ≤ T + 150000 by omega)
  unfold fLc_9
  simp only [lt_eq]
  rw [m_gd (b := inb (nI (4 * j) + 1) L) (ix hL hj 1 (by omega))]
  exact l_tail (m := fun M => fX12_setting M _) (toL1 (m := fun M => fX12_setting M _) (q_setting W1 _) (by decide))
theorem lc_10 (W : WR B T V) (hB0 : 119 ≤ B) (hB : B + 110 < 1022) (hT0 : 142560 ≤ T) (hT : T + 400000 < 2 ^ 29) (hL : L ≤ 2048) (hj : 4 * j + 4 ≤ L) : ∃ V', fLc_10 xs L V (nI (4 * j)) = some V' ∧ WR (B + 1) (T + 150000) V' := by
  have W1 := W.mono (show B ≤ B + 1 by omega) (show T ≤ T + 150000 by omega)
  unfold fLc_10
  simp only [lt_eq]
  rw [m_gd (b := inb (nI (4 * j) + 1) L) (ix hL hj 1 (by omega))]
  exact l_tail (m := fun M => fX12_issue M _) (toL2 (m := fun M => fX12_issue M _) (q_issue W _) (by decide) (by decide) (by decide))
theorem lc_11 (W : WR B T V) (hB0 : 119 ≤ B) (hB : B + 110 < 1022) (hT0 : 142560 ≤ T) (hT : T + 400000 < 2 ^ 29) (hL : L ≤ 2048) (hj : 4 * j + 4 ≤ L) : ∃ V', fLc_11 xs L V (nI (4 * j)) = some V' ∧ WR (B + 1) (T + 150000) V' := by
  have W1 := W.mono (show B ≤ B + 1 by omega) (show T ≤ T + 150000 by omega)
  unfold fLc_11
  simp only [lt_eq]
  rw [m_gd (b := inb (nI (4 * j) + 1) L) (ix hL hj 1 (by omega))]
  exact l_tail (m := fun M => fX12_copy M _) (toL2 (m := fun M => fX12_copy M _) (q_copy W _) (by decide) (by decide) (by decide))
theorem lc_12 (W : WR B T V) (hB0 : 119 ≤ B) (hB : B + 110 < 1022) (hT0 : 142560 ≤ T) (hT : T + 400000 < 2 ^ 29) (hL : L ≤ 2048) (hj : 4 * j + 4 ≤ L) : ∃ V', fLc_12 xs L V (nI (4 * j)) = some V' ∧ WR (B + 1) (T + 150000) V' := by
  have W1 := W.mono (show B ≤ B + 1 by omega) (show T ≤ T + 150000 by omega)
  unfold fLc_12
  simp only [lt_eq]
  rw [m_gd (b := inb (nI (4 * j) + 1) L) (ix hL hj 1 (by omega)), m_gd (b := inb (nI (4 * j) + 2) L) (ix hL hj 2 (by omega))]
  exact l_tail (m := fun M => fX12_ride M _ _) (toL1 (m := fun M => fX12_ride M _ _) (q_ride W (by omega) (by omega) _ _) (by decide))
theorem lc_13 (W : WR B T V) (hB0 : 119 ≤ B) (hB : B + 110 < 1022) (hT0 : 142560 ≤ T) (hT : T + 400000 < 2 ^ 29) (hL : L ≤ 2048) (hj : 4 * j + 4 ≤ L) : ∃ V', fLc_13 xs L V (nI (4 * j)) = some V' ∧ WR (B + 1) (T + 150000) V' := by
  have W1 := W.mono (show B ≤ B + 1 by omega) (show T ≤ T + 150000 by omega)
  unfold fLc_13
  simp only [lt_eq]
  rw [m_gd (b := inb (nI (4 * j) + 1) L) (ix hL hj 1 (by omega)), m_gd (b := inb (nI (4 * j) + 2) L) (ix hL hj 2 (by omega))]
  exact l_tail (m := fun M => fX12_pay M _ _) (toL2 (m := fun M => fX12_pay M _ _) (q_pay W (by omega) _ _) (by decide) (by decide) (by decide))
theorem lc_14 (W : WR B T V) (hB0 : 119 ≤ B) (hB : B + 110 < 1022) (hT0 : 142560 ≤ T) (hT : T + 400000 < 2 ^ 29) (hL : L ≤ 2048) (hj : 4 * j + 4 ≤ L) : ∃ V', fLc_14 xs L V (nI (4 * j)) = some V' ∧ WR (B + 1) (T + 150000) V' := by
  have W1 := W.mono (show B ≤ B + 1 by omega) (show T ≤ T + 150000 by omega)
  unfold fLc_14
  simp only [lt_eq]
  rw [m_gd (b := inb (nI (4 * j) + 1) L) (ix hL hj 1 (by omega))]
  exact l_tail (m := fun M => fX12_pardon M _) (toL2 (m := fun M => fX12_pardon M _) (q_pardon W _) (by decide) (by decide) (by decide))
theorem lc_15 (W : WR B T V) (hB0 : 119 ≤ B) (hB : B + 110 < 1022) (hT0 : 142560 ≤ T) (hT : T + 400000 < 2 ^ 29) (hL : L ≤ 2048) (hj : 4 * j + 4 ≤ L) : ∃ V', fLc_15 xs L V (nI (4 * j)) = some V' ∧ WR (B + 1) (T + 150000) V' := by
  have W1 := W.mono (show B ≤ B + 1 by omega) (show T ≤ T + 150000 by omega)
  unfold fLc_15
  simp only [lt_eq]
  rw [m_gd (b := inb (nI (4 * j) + 1) L) (ix hL hj 1 (by omega))]
  exact l_tail (m := fun M => fX12_down M _) (toL2 (m := fun M => fX12_down M _) (q_down W _) (by decide) (by decide) (by decide))
theorem lc_16 (W : WR B T V) (hB0 : 119 ≤ B) (hB : B + 110 < 1022) (hT0 : 142560 ≤ T) (hT : T + 400000 < 2 ^ 29) (hL : L ≤ 2048) (hj : 4 * j + 4 ≤ L) : ∃ V', fLc_16 xs L V (nI (4 * j)) = some V' ∧ WR (B + 1) (T + 150000) V' := by
  have W1 := W.mono (show B ≤ B + 1 by omega) (show T ≤ T + 150000 by omega)
  unfold fLc_16
  simp only [lt_eq]
  rw [m_gd (b := inb (nI (4 * j) + 1) L) (ix hL hj 1 (by omega))]
  exact l_tail (m := fun M => fX12_up M _) (toL2 (m := fun M => fX12_up M _) (q_up W (by omega) (by omega) _) (by decide) (by decide) (by decide))
theorem lc_17 (W : WR B T V) (hB0 : 119 ≤ B) (hB : B + 110 < 1022) (hT0 : 142560 ≤ T) (hT : T + 400000 < 2 ^ 29) (hL : L ≤ 2048) (hj : 4 * j + 4 ≤ L) : ∃ V', fLc_17 xs L V (nI (4 * j)) = some V' ∧ WR (B + 1) (T + 150000) V' := by
  have W1 := W.mono (show B ≤ B + 1 by omega) (show T ≤ T + 150000 by omega)
  unfold fLc_17
  simp only [lt_eq]
  rw [m_gd (b := inb (nI (4 * j) + 1) L) (ix hL hj 1 (by omega))]
  exact l_tail (m := fun M => fX12_open M _) (toL1 (m := fun M => fX12_open M _) (q_open W _) (by decide))
theorem lc_18 (W : WR B T V) (hB0 : 119 ≤ B) (hB : B + 110 < 1022) (hT0 : 142560 ≤ T) (hT : T + 400000 < 2 ^ 29) (hL : L ≤ 2048) (hj : 4 * j + 4 ≤ L) : ∃ V', fLc_18 xs L V (nI (4 * j)) = some V' ∧ WR (B + 1) (T + 150000) V' := by
  have W1 := W.mono (show B ≤ B + 1 by omega) (show T ≤ T + 150000 by omega)
  unfold fLc_18
  simp only [lt_eq]
  rw [m_gd (b := inb (nI (4 * j) + 1) L) (ix hL hj 1 (by omega)), m_gd (b := inb (nI (4 * j) + 2) L) (ix hL hj 2 (by omega))]
  exact l_tail (m := fun M => fX12_fare M _ _) (toL2 (m := fun M => fX12_fare M _ _) (q_fare W _ _) (by decide) (by decide) (by decide))
theorem lc_19 (W : WR B T V) (hB0 : 119 ≤ B) (hB : B + 110 < 1022) (hT0 : 142560 ≤ T) (hT : T + 400000 < 2 ^ 29) (hL : L ≤ 2048) (hj : 4 * j + 4 ≤ L) : ∃ V', fLc_19 xs L V (nI (4 * j)) = some V' ∧ WR (B + 1) (T + 150000) V' := by
  have W1 := W.mono (show B ≤ B + 1 by omega) (show T ≤ T + 150000 by omega)
  unfold fLc_19
  simp only [lt_eq]
  rw [m_gd (b := inb (nI (4 * j) + 1) L) (ix hL hj 1 (by omega))]
  exact l_tail (m := fun M => fX12_run M _) (toL1 (m := fun M => fX12_run M _) (q_run W (by omega) _) (by decide))
theorem lc_20 (W : WR B T V) (hB0 : 119 ≤ B) (hB : B + 110 < 1022) (hT0 : 142560 ≤ T) (hT : T + 400000 < 2 ^ 29) (hL : L ≤ 2048) (hj : 4 * j + 4 ≤ L) : ∃ V', fLc_20 xs L V (nI (4 * j)) = some V' ∧ WR (B + 1) (T + 150000) V' := by
  have W1 := W.mono (show B ≤ B + 1 by omega) (show T ≤ T + 150000 by omega)
  unfold fLc_20
  simp only [lt_eq]
  rw [m_gd (b := inb (nI (4 * j) + 1) L) (ix hL hj 1 (by omega)), m_gd (b := inb (nI (4 * j) + 2) L) (ix hL hj 2 (by omega))]
  exact l_tail (m := fun M => fX12_set M _ _) (toL1 (m := fun M => fX12_set M _ _) (q_set W _ _) (by decide))
theorem lc_21 (W : WR B T V) (hB0 : 119 ≤ B) (hB : B + 110 < 1022) (hT0 : 142560 ≤ T) (hT : T + 400000 < 2 ^ 29) (hL : L ≤ 2048) (hj : 4 * j + 4 ≤ L) : ∃ V', fLc_21 xs L V (nI (4 * j)) = some V' ∧ WR (B + 1) (T + 150000) V' := by
  have W1 := W.mono (show B ≤ B + 1 by omega) (show T ≤ T + 150000 by omega)
  unfold fLc_21
  simp only [lt_eq]
  exact l_tail (m := fun M => fX12_undo M) (toL1 (m := fun M => fX12_undo M) (q_undo W1) (by decide))
theorem lc_22 (W : WR B T V) (hB0 : 119 ≤ B) (hB : B + 110 < 1022) (hT0 : 142560 ≤ T) (hT : T + 400000 < 2 ^ 29) (hL : L ≤ 2048) (hj : 4 * j + 4 ≤ L) : ∃ V', fLc_22 xs L V (nI (4 * j)) = some V' ∧ WR (B + 1) (T + 150000) V' := by
  have W1 := W.mono (show B ≤ B + 1 by omega) (show T ≤ T + 150000 by omega)
  unfold fLc_22
  simp only [lt_eq]
  rw [m_gd (b := inb (nI (4 * j) + 1) L) (ix hL hj 1 (by omega)), m_gd (b := inb (nI (4 * j) + 2) L) (ix hL hj 2 (by omega))]
  exact l_tail (m := fun M => fX12_would M _ _) (toL1 (m := fun M => fX12_would M _ _) (q_would W1 (by omega) (by omega) _ _) (by decide))
theorem lc_23 (W : WR B T V) (hB0 : 119 ≤ B) (hB : B + 110 < 1022) (hT0 : 142560 ≤ T) (hT : T + 400000 < 2 ^ 29) (hL : L ≤ 2048) (hj : 4 * j + 4 ≤ L) : ∃ V', fLc_23 xs L V (nI (4 * j)) = some V' ∧ WR (B + 1) (T + 150000) V' := by
  have W1 := W.mono (show B ≤ B + 1 by omega) (show T ≤ T + 150000 by omega)
  unfold fLc_23
  simp only [lt_eq]
  rw [m_gd (b := inb (nI (4 * j) + 1) L) (ix hL hj 1 (by omega)), m_gd (b := inb (nI (4 * j) + 2) L) (ix hL hj 2 (by omega))]
  exact l_tail (m := fun M => fX12_rides M _ _) (toL1 (m := fun M => fX12_rides M _ _) (q_rides W1 (by omega) (by omega) _ _) (by decide))
theorem lc_24 (W : WR B T V) (hB0 : 119 ≤ B) (hB : B + 110 < 1022) (hT0 : 142560 ≤ T) (hT : T + 400000 < 2 ^ 29) (hL : L ≤ 2048) (hj : 4 * j + 4 ≤ L) : ∃ V', fLc_24 xs L V (nI (4 * j)) = some V' ∧ WR (B + 1) (T + 150000) V' := by
  have W1 := W.mono (show B ≤ B + 1 by omega) (show T ≤ T + 150000 by omega)
  unfold fLc_24
  simp only [lt_eq]
  rw [m_gd (b := inb (nI (4 * j) + 1) L) (ix hL hj 1 (by omega)), m_gd (b := inb (nI (4 * j) + 2) L) (ix hL hj 2 (by omega))]
  exact l_tail (m := fun M => fX12_ifUp M _ _) (toL2 (m := fun M => fX12_ifUp M _ _) (q_ifUp W1 (by omega) (by omega) _ _) (by decide) (by decide) (by decide))
theorem lc_27 (W : WR B T V) (hB0 : 119 ≤ B) (hB : B + 110 < 1022) (hT0 : 142560 ≤ T) (hT : T + 400000 < 2 ^ 29) (hL : L ≤ 2048) (hj : 4 * j + 4 ≤ L) : ∃ V', fLc_27 xs L V (nI (4 * j)) = some V' ∧ WR (B + 1) (T + 150000) V' := by
  have W1 := W.mono (show B ≤ B + 1 by omega) (show T ≤ T + 150000 by omega)
  unfold fLc_27
  simp only [lt_eq]
  rw [m_gd (b := inb (nI (4 * j) + 1) L) (ix hL hj 1 (by omega))]
  exact l_tail (m := fun M => fX12_owes M _) (toL1 (m := fun M => fX12_owes M _) (q_owes W1 (by omega) (by omega) _) (by decide))
theorem lc_28 (W : WR B T V) (hB0 : 119 ≤ B) (hB : B + 110 < 1022) (hT0 : 142560 ≤ T) (hT : T + 400000 < 2 ^ 29) (hL : L ≤ 2048) (hj : 4 * j + 4 ≤ L) : ∃ V', fLc_28 xs L V (nI (4 * j)) = some V' ∧ WR (B + 1) (T + 150000) V' := by
  have W1 := W.mono (show B ≤ B + 1 by omega) (show T ≤ T + 150000 by omega)
  unfold fLc_28
  simp only [lt_eq]
  rw [m_gd (b := inb (nI (4 * j) + 1) L) (ix hL hj 1 (by omega)), m_gd (b := inb (nI (4 * j) + 2) L) (ix hL hj 2 (by omega)), m_gd (b := inb (nI (4 * j) + 3) L) (ix hL hj 3 (by omega))]
  exact l_tail (m := fun M => fX12_runScript M _ _) (toL1 (m := fun M => fX12_runScript M _ _) (q_runScript W1 (by omega) (by omega) _ _) (by decide))
theorem lc_29 (W : WR B T V) (hB0 : 119 ≤ B) (hB : B + 110 < 1022) (hT0 : 142560 ≤ T) (hT : T + 400000 < 2 ^ 29) (hL : L ≤ 2048) (hj : 4 * j + 4 ≤ L) : ∃ V', fLc_29 xs L V (nI (4 * j)) = some V' ∧ WR (B + 1) (T + 150000) V' := by
  have W1 := W.mono (show B ≤ B + 1 by omega) (show T ≤ T + 150000 by omega)
  unfold fLc_29
  simp only [lt_eq]
  rw [m_gd (b := inb (nI (4 * j) + 1) L) (ix hL hj 1 (by omega)), m_gd (b := inb (nI (4 * j) + 2) L) (ix hL hj 2 (by omega)), m_gd (b := inb (nI (4 * j) + 3) L) (ix hL hj 3 (by omega))]
  exact l_tail (m := fun M => fX12_simulate M _ _) (toL1 (m := fun M => fX12_simulate M _ _) (q_simulate W1 (by omega) (by omega) _ _) (by decide))
theorem lc_30 (W : WR B T V) (hB0 : 119 ≤ B) (hB : B + 110 < 1022) (hT0 : 142560 ≤ T) (hT : T + 400000 < 2 ^ 29) (hL : L ≤ 2048) (hj : 4 * j + 4 ≤ L) : ∃ V', fLc_30 xs L V (nI (4 * j)) = some V' ∧ WR (B + 1) (T + 150000) V' := by
  have W1 := W.mono (show B ≤ B + 1 by omega) (show T ≤ T + 150000 by omega)
  unfold fLc_30
  simp only [lt_eq]
  rw [m_gd (b := inb (nI (4 * j) + 1) L) (ix hL hj 1 (by omega))]
  exact l_tail (m := fun M => fX12_save M _) (toL1 (m := fun M => fX12_save M _) (q_save W1 _) (by decide))
theorem lc_31 (W : WR B T V) (hB0 : 119 ≤ B) (hB : B + 110 < 1022) (hT0 : 142560 ≤ T) (hT : T + 400000 < 2 ^ 29) (hL : L ≤ 2048) (hj : 4 * j + 4 ≤ L) : ∃ V', fLc_31 xs L V (nI (4 * j)) = some V' ∧ WR (B + 1) (T + 150000) V' := by
  have W1 := W.mono (show B ≤ B + 1 by omega) (show T ≤ T + 150000 by omega)
  unfold fLc_31
  simp only [lt_eq]
  rw [m_gd (b := inb (nI (4 * j) + 1) L) (ix hL hj 1 (by omega))]
  exact l_tail (m := fun M => fX12_restore M _) (toL2 (m := fun M => fX12_restore M _) (q_restore W1 _) (by decide) (by decide) (by decide))
theorem lc_1 (W : WR B T V) (hB0 : 119 ≤ B) (hB : B + 110 < 1022) (hT0 : 142560 ≤ T) (hT : T + 400000 < 2 ^ 29) (hL : L ≤ 2048) (hj : 4 * j + 4 ≤ L) : ∃ V', fLc_1 xs L V (nI (4 * j)) = some V' ∧ WR (B + 1) (T + 150000) V' := by
  have W1 := W.mono (show B ≤ B + 1 by omega) (show T ≤ T + 150000 by omega)
  unfold fLc_1
  simp only [lt_eq]
  exact l_tail0 (m := fX12_clearText) (q_clearText W1)
theorem lc_2 (W : WR B T V) (hB0 : 119 ≤ B) (hB : B + 110 < 1022) (hT0 : 142560 ≤ T) (hT : T + 400000 < 2 ^ 29) (hL : L ≤ 2048) (hj : 4 * j + 4 ≤ L) : ∃ V', fLc_2 xs L V (nI (4 * j)) = some V' ∧ WR (B + 1) (T + 150000) V' := by
  have W1 := W.mono (show B ≤ B + 1 by omega) (show T ≤ T + 150000 by omega)
  unfold fLc_2
  simp only [lt_eq]
  exact l_tail0 (m := fX12_errorPosition) (q_errorPosition W1)
theorem lc_25 (W : WR B T V) (hB0 : 119 ≤ B) (hB : B + 110 < 1022) (hT0 : 142560 ≤ T) (hT : T + 400000 < 2 ^ 29) (hL : L ≤ 2048) (hj : 4 * j + 4 ≤ L) : ∃ V', fLc_25 xs L V (nI (4 * j)) = some V' ∧ WR (B + 1) (T + 150000) V' := by
  have W1 := W.mono (show B ≤ B + 1 by omega) (show T ≤ T + 150000 by omega)
  unfold fLc_25
  simp only [lt_eq]
  exact l_tail0 (m := fX12_bestUp) (q_bestUp W1 (by omega) (by omega))
theorem lc_26 (W : WR B T V) (hB0 : 119 ≤ B) (hB : B + 110 < 1022) (hT0 : 142560 ≤ T) (hT : T + 400000 < 2 ^ 29) (hL : L ≤ 2048) (hj : 4 * j + 4 ≤ L) : ∃ V', fLc_26 xs L V (nI (4 * j)) = some V' ∧ WR (B + 1) (T + 150000) V' := by
  have W1 := W.mono (show B ≤ B + 1 by omega) (show T ≤ T + 150000 by omega)
  unfold fLc_26
  simp only [lt_eq]
  exact l_tail0 (m := fX12_worst) (q_worst W1)
theorem lc_all (W : WR B T V) (hB0 : 119 ≤ B) (hB : B + 110 < 1022) (hT0 : 142560 ≤ T) (hT : T + 400000 < 2 ^ 29) (hL : L ≤ 2048) (hj : 4 * j + 4 ≤ L) (x : Int32) : ∃ V', fLc xs L V (nI (4 * j)) x = some V' ∧ WR (B + 1) (T + 150000) V' := by
  unfold fLc
  by_cases c0 : x = 0
  · rw [if_pos c0]
    exact lc_0 W hB0 hB hT0 hT hL hj
  rw [if_neg c0]
  by_cases c1 : x = 1
  · rw [if_pos c1]
    exact lc_1 W hB0 hB hT0 hT hL hj
  rw [if_neg c1]
  by_cases c2 : x = 2
  · rw [if_pos c2]
    exact lc_2 W hB0 hB hT0 hT hL hj
  rw [if_neg c2]
  by_cases c3 : x = 3
  · rw [if_pos c3]
    exact lc_3 W hB0 hB hT0 hT hL hj
  rw [if_neg c3]
  by_cases c4 : x = 4
  · rw [if_pos c4]
    exact lc_4 W hB0 hB hT0 hT hL hj
  rw [if_neg c4]
  by_cases c5 : x = 5
  · rw [if_pos c5]
    exact lc_5 W hB0 hB hT0 hT hL hj
  rw [if_neg c5]
  by_cases c6 : x = 6
  · rw [if_pos c6]
    exact lc_6 W hB0 hB hT0 hT hL hj
  rw [if_neg c6]
  by_cases c7 : x = 7
  · rw [if_pos c7]
    exact lc_7 W hB0 hB hT0 hT hL hj
  rw [if_neg c7]
  by_cases c8 : x = 8
  · rw [if_pos c8]
    exact lc_8 W hB0 hB hT0 hT hL hj
  rw [if_neg c8]
  by_cases c9 : x = 9
  · rw [if_pos c9]
    exact lc_9 W hB0 hB hT0 hT hL hj
  rw [if_neg c9]
  by_cases c10 : x = 10
  · rw [if_pos c10]
    exact lc_10 W hB0 hB hT0 hT hL hj
  rw [if_neg c10]
  by_cases c11 : x = 11
  · rw [if_pos c11]
    exact lc_11 W hB0 hB hT0 hT hL hj
  rw [if_neg c11]
  by_cases c12 : x = 12
  · rw [if_pos c12]
    exact lc_12 W hB0 hB hT0 hT hL hj
  rw [if_neg c12]
  by_cases c13 : x = 13
  · rw [if_pos c13]
    exact lc_13 W hB0 hB hT0 hT hL hj
  rw [if_neg c13]
  by_cases c14 : x = 14
  · rw [if_pos c14]
    exact lc_14 W hB0 hB hT0 hT hL hj
  rw [if_neg c14]
  by_cases c15 : x = 15
  · rw [if_pos c15]
    exact lc_15 W hB0 hB hT0 hT hL hj
  rw [if_neg c15]
  by_cases c16 : x = 16
  · rw [if_pos c16]
    exact lc_16 W hB0 hB hT0 hT hL hj
  rw [if_neg c16]
  by_cases c17 : x = 17
  · rw [if_pos c17]
    exact lc_17 W hB0 hB hT0 hT hL hj
  rw [if_neg c17]
  by_cases c18 : x = 18
  · rw [if_pos c18]
    exact lc_18 W hB0 hB hT0 hT hL hj
  rw [if_neg c18]
  by_cases c19 : x = 19
  · rw [if_pos c19]
    exact lc_19 W hB0 hB hT0 hT hL hj
  rw [if_neg c19]
  by_cases c20 : x = 20
  · rw [if_pos c20]
    exact lc_20 W hB0 hB hT0 hT hL hj
  rw [if_neg c20]
  by_cases c21 : x = 21
  · rw [if_pos c21]
    exact lc_21 W hB0 hB hT0 hT hL hj
  rw [if_neg c21]
  by_cases c22 : x = 22
  · rw [if_pos c22]
    exact lc_22 W hB0 hB hT0 hT hL hj
  rw [if_neg c22]
  by_cases c23 : x = 23
  · rw [if_pos c23]
    exact lc_23 W hB0 hB hT0 hT hL hj
  rw [if_neg c23]
  by_cases c24 : x = 24
  · rw [if_pos c24]
    exact lc_24 W hB0 hB hT0 hT hL hj
  rw [if_neg c24]
  by_cases c25 : x = 25
  · rw [if_pos c25]
    exact lc_25 W hB0 hB hT0 hT hL hj
  rw [if_neg c25]
  by_cases c26 : x = 26
  · rw [if_pos c26]
    exact lc_26 W hB0 hB hT0 hT hL hj
  rw [if_neg c26]
  by_cases c27 : x = 27
  · rw [if_pos c27]
    exact lc_27 W hB0 hB hT0 hT hL hj
  rw [if_neg c27]
  by_cases c28 : x = 28
  · rw [if_pos c28]
    exact lc_28 W hB0 hB hT0 hT hL hj
  rw [if_neg c28]
  by_cases c29 : x = 29
  · rw [if_pos c29]
    exact lc_29 W hB0 hB hT0 hT hL hj
  rw [if_neg c29]
  by_cases c30 : x = 30
  · rw [if_pos c30]
    exact lc_30 W hB0 hB hT0 hT hL hj
  rw [if_neg c30]
  by_cases c31 : x = 31
  · rw [if_pos c31]
    exact lc_31 W hB0 hB hT0 hT hL hj
  rw [if_neg c31]
  exact ⟨V, rfl, W.mono (by omega) (by omega)⟩
theorem law_L (hL : L ≤ 2048) : ∀ (m n j : Nat) (V : uV), j + m = L / 4 → m < n → WR (120 + j) (150000 * (j + 1)) V → fLaw xs L n V (nI (4 * j)) = some 1 := by
  have e4 : (nI L - 4).toInt = (L : Int) - 4 := pk_sub_toInt (a := L) (b := 4) (by omega) (by omega)
  intro m
  induction m with
  | zero =>
    intro n j V hj hn W
    obtain ⟨n, rfl⟩ : ∃ m, n = m + 1 := ⟨n - 1, by omega⟩
    rw [fLaw, if_pos]
    rw [Int32.lt_iff_toInt_lt, nI_toInt (by omega)]
    show (nI L - 4).toInt < _
    rw [e4]
    omega
  | succ m ih =>
    intro n j V hj hn W
    obtain ⟨n, rfl⟩ : ∃ m, n = m + 1 := ⟨n - 1, by omega⟩
    have hx := mx (rfl : nI (4 * j) = nI (4 * j)) (show 4 * j < L by omega) (by omega)
    obtain ⟨V', h1, h2⟩ := lc_all (xs := xs) W (by omega) (by omega) (by omega) (by omega) hL (show 4 * j + 4 ≤ L by omega) (xs (4 * j) &&& 31)
    have h3 := ih n (j + 1) V' (by omega) (by omega) (h2.mono (by omega) (by omega))
    rw [fLaw, if_neg, m_gd hx.1, lt_eq, hx.2, h1, m_bd, lt_eq]
    · have e : nI (4 * j) + 4 = nI (4 * (j + 1)) := nI_add (4 * j) 4
      rw [e]
      exact h3
    · rw [Int32.lt_iff_toInt_lt, nI_toInt (by omega)]
      show ¬ (nI L - 4).toInt < _
      rw [e4]
      omega
end LAWC
