
/-! the law's sums: cards of the accounts, rides and fares in the logs -/
section SUMS
variable {B T b : Nat} {S : Mem} {r : Nat → Int32}
theorem sumI_0 : ∀ n, sumI (fun _ => 0) n = 0
  | 0 => rfl
  | n + 1 => by
    show sumI (fun _ => 0) n + 0 = 0
    rw [sumI_0 n]; rfl
theorem sumI_add (f g : Nat → Int32) : ∀ n, sumI (fun i => f i + g i) n = sumI f n + sumI g n
  | 0 => rfl
  | n + 1 => by
    show sumI (fun i => f i + g i) n + (f n + g n) = (sumI f n + f n) + (sumI g n + g n)
    rw [sumI_add f g n, Int32.add_assoc, ← Int32.add_assoc (sumI g n), Int32.add_comm (sumI g n) (f n), Int32.add_assoc (f n), ← Int32.add_assoc (sumI f n)]
theorem sumI_swap (f : Nat → Nat → Int32) (A : Nat) : ∀ d, sumI (fun a => sumI (f a) d) A = sumI (fun k => sumI (fun a => f a k) A) d
  | 0 => sumI_0 A
  | d + 1 => by
    show sumI (fun a => sumI (f a) d + f a d) A = sumI (fun k => sumI (fun a => f a k) A) d + sumI (fun a => f a d) A
    rw [sumI_add, sumI_swap f A d]
theorem sumI_hit (v : Int32) {o : Nat} : ∀ A, A < 2 ^ 31 → o < 2 ^ 31 → sumI (fun a => if nI o = nI a then v else 0) A = if o < A then v else 0
  | 0, _, _ => by rw [if_neg (Nat.not_lt_zero o)]; rfl
  | A + 1, hA, ho => by
    show sumI (fun a => if nI o = nI a then v else 0) A + (if nI o = nI A then v else 0) = _
    rw [sumI_hit v A (by omega) ho]
    by_cases e : o = A
    · subst e
      rw [if_neg (Nat.lt_irrefl o), if_pos rfl, if_pos (Nat.lt_succ_self o), Int32.zero_add]
    · rw [if_neg (c := nI o = nI A) (fun q => e ((nI_eq ho (by omega)).mp q)), Int32.add_zero]
      by_cases l : o < A
      · rw [if_pos l, if_pos (by omega)]
      · rw [if_neg l, if_neg (by omega)]
theorem sumI_1 : ∀ d, sumI (fun _ => 1) d = nI d
  | 0 => nI_0.symm
  | d + 1 => by
    show sumI (fun _ => 1) d + 1 = nI (d + 1)
    rw [sumI_1 d, nI_1]
theorem sumI_tail {f : Nat → Int32} {A : Nat} : ∀ m, (∀ a, A ≤ a → a < A + m → f a = 0) → sumI f (A + m) = sumI f A
  | 0, _ => rfl
  | m + 1, h => by
    show sumI f (A + m) + f (A + m) = sumI f A
    rw [sumI_tail m (fun a h1 h2 => h a h1 (by omega)), h (A + m) (by omega) (by omega), Int32.add_zero]
/-- what one place of a log counts -/
def wv (r : Nat → Int32) (x w : Int32) (g k : Nat) : Int32 := if x = -1 ∨ r (104 + 36 * g + 3 * k) = x then (if w = 0 then 1 else r (106 + 36 * g + 3 * k)) else 0
/-- rides, or fares, in the logs -/
def lgS (r : Nat → Int32) (d : Nat → Nat) (x w : Int32) : Int32 := sumI (fun g => sumI (wv r x w g) (d g)) 4
abbrev Sz (r : Nat → Int32) (d : Nat → Nat) : Prop := ∀ g, g < 4 → d g ≤ 12 ∧ r (87 + 5 * g) = nI (d g)
theorem sz_of (R : Rel B T S r) : ∃ d, Sz r d := by
  obtain ⟨d0, h0, e0⟩ := R.glog 0 (by decide)
  obtain ⟨d1, h1, e1⟩ := R.glog 1 (by decide)
  obtain ⟨d2, h2, e2⟩ := R.glog 2 (by decide)
  obtain ⟨d3, h3, e3⟩ := R.glog 3 (by decide)
  refine ⟨fun g => if g = 0 then d0 else if g = 1 then d1 else if g = 2 then d2 else d3, fun g hg => ?_⟩
  rcases (show g = 0 ∨ g = 1 ∨ g = 2 ∨ g = 3 by omega) with rfl | rfl | rfl | rfl
  · exact ⟨h0, e0⟩
  · exact ⟨h1, e1⟩
  · exact ⟨h2, e2⟩
  · exact ⟨h3, e3⟩
theorem in_L {d : Nat → Nat} (hd : Sz r d) {g : Nat} (hg : g < 4) (x w : Int32) (K : Int32 → Int32 → Int32 → Int32 → Int32 → Option Int32) (Y : Int32) : ∀ (m k N : Nat) (y : Int32), k + m = d g → m < N → y = Y + sumI (wv r x w g) k → fX12_inLogs_L14 K r N x w y (nI g) (nI k) = K x w (Y + sumI (wv r x w g) (d g)) (nI g) (nI (d g)) := by
  obtain ⟨hd12, ed⟩ := hd g hg
  intro m
  induction m with
  | zero =>
    intro k N y hk hN hy
    obtain ⟨N, rfl⟩ : ∃ m, N = m + 1 := ⟨N - 1, by omega⟩
    rw [fX12_inLogs_L14]
    simp only [lt_eq]
    rw [gG3 hg, kG3 hg, ed, if_pos (nI_le (by omega) (by omega)), hy]
    rw [show k = d g by omega]
  | succ m ih =>
    intro k N y hk hN hy
    obtain ⟨N, rfl⟩ : ∃ m, N = m + 1 := ⟨N - 1, by omega⟩
    have hk12 : k < 12 := by omega
    have hn : ∀ v, wv r x w g k = v → y + v = Y + sumI (wv r x w g) (k + 1) := fun v hv => by
      rw [hy, Int32.add_assoc, ← hv]
      rfl
    rw [fX12_inLogs_L14]
    simp only [lt_eq]
    rw [gG3 hg, kG3 hg, ed, if_neg (nI_ge (show k < d g by omega) (by omega)), gL0 hg hk12, kL0 hg hk12, gL2 hg hk12, kL2 hg hk12, nI_1]
    simp only [m_10, if_false, if_true]
    by_cases c : x = -1
    · rw [if_pos c]
      by_cases c2 : w = 0
      · rw [if_pos c2]
        exact ih (k + 1) N _ (by omega) (by omega) (hn _ (by unfold wv; rw [if_pos (Or.inl c), if_pos c2]))
      · rw [if_neg c2]
        exact ih (k + 1) N _ (by omega) (by omega) (hn _ (by unfold wv; rw [if_pos (Or.inl c), if_neg c2]))
    · rw [if_neg c]
      by_cases c3 : r (104 + 36 * g + 3 * k) = x
      · rw [if_pos c3]
        by_cases c2 : w = 0
        · rw [if_pos c2]
          exact ih (k + 1) N _ (by omega) (by omega) (hn _ (by unfold wv; rw [if_pos (Or.inr c3), if_pos c2]))
        · rw [if_neg c2]
          exact ih (k + 1) N _ (by omega) (by omega) (hn _ (by unfold wv; rw [if_pos (Or.inr c3), if_neg c2]))
      · rw [if_neg c3]
        exact ih (k + 1) N _ (by omega) (by omega) (hn _ (by unfold wv; rw [if_neg (fun q => q.elim c c3)]))
theorem in_O {d : Nat → Nat} (hd : Sz r d) (x w : Int32) : ∀ (m g N : Nat) (y : Int32), g + m = 4 → m < N → y = sumI (fun g => sumI (wv r x w g) (d g)) g → fX12_inLogs_L5 r N x w y (nI g) = some (lgS r d x w) := by
  intro m
  induction m with
  | zero =>
    intro g N y hg hN hy
    obtain ⟨N, rfl⟩ : ∃ m, N = m + 1 := ⟨N - 1, by omega⟩
    obtain rfl : g = 4 := by omega
    rw [fX12_inLogs_L5, if_pos (c := 4 ≤ nI 4) (by decide), hy]
    rfl
  | succ m ih =>
    intro g N y hg hN hy
    obtain ⟨N, rfl⟩ : ∃ m, N = m + 1 := ⟨N - 1, by omega⟩
    have hg4 : g < 4 := by omega
    have hd12 := (hd g hg4).1
    rw [fX12_inLogs_L5, if_neg (c := 4 ≤ nI g) (nI_ge (b := 4) hg4 (by decide))]
    have e := in_L hd hg4 x w (fun x77 x78 x79 x80 x81 => lt_ (x80 + 1) fun x82 => fX12_inLogs_L5 r N x77 x78 x79 x82) y (d g) 0 3000 y (by omega) (by omega) (Int32.add_zero y).symm
    rw [nI_0] at e
    rw [e, lt_eq, nI_1]
    exact ih (g + 1) N _ (by omega) (by omega) (by rw [hy]; rfl)
theorem in_v {d : Nat → Nat} (hd : Sz r d) (x w : Int32) : fX12_inLogs r x w = some (lgS r d x w) := by
  unfold fX12_inLogs
  have e := in_O hd x w 4 0 3000 0 (by omega) (by omega) rfl
  rwa [nI_0] at e
/-- each ride in a log is one account's -/
theorem lgS_all {d : Nat → Nat} (hd : Sz r d) {A : Nat} (hA : A ≤ 8) (hl : ∀ g k, g < 4 → k < d g → ∃ a, a < A ∧ r (104 + 36 * g + 3 * k) = nI a) (w : Int32) : sumI (fun a => lgS r d (nI a) w) A = lgS r d (-1) w := by
  show sumI (fun a => sumI (fun g => sumI (wv r (nI a) w g) (d g)) 4) A = _
  rw [sumI_swap (fun a g => sumI (wv r (nI a) w g) (d g)) A 4]
  refine sumI_cg 4 (fun g hg => ?_)
  show sumI (fun a => sumI (wv r (nI a) w g) (d g)) A = _
  rw [sumI_swap (fun a k => wv r (nI a) w g k) A (d g)]
  refine sumI_cg (d g) (fun k hk => ?_)
  obtain ⟨o, ho, eo⟩ := hl g k hg hk
  have e1 : wv r (-1) w g k = if w = 0 then 1 else r (106 + 36 * g + 3 * k) := by unfold wv; rw [if_pos (Or.inl rfl)]
  rw [e1, sumI_cg (g := fun a => if nI o = nI a then (if w = 0 then 1 else r (106 + 36 * g + 3 * k)) else 0) A (fun a ha => ?_), sumI_hit _ A (by omega) (by omega), if_pos ho]
  unfold wv
  rw [eo]
  by_cases c : nI o = nI a
  · rw [if_pos (Or.inr c), if_pos c]
  · rw [if_neg (fun q => q.elim (nm1 a (by omega)) c), if_neg c]
theorem lgS_n {d : Nat → Nat} : lgS r d (-1) 0 = sumI (fun g => nI (d g)) 4 :=
  sumI_cg 4 (fun g _ => (sumI_cg (d g) (fun k _ => by unfold wv; rw [if_pos (Or.inl rfl), if_pos rfl])).trans (sumI_1 (d g)))
/-- cards of an account -/
def CO (r : Nat → Int32) (C : Nat) (x : Int32) : Int32 := sumI (fun c => if r (12 + 4 * c) = x then 1 else 0) C
theorem co_L {C : Nat} (hC : C ≤ 10) (e0 : r 0 = nI C) (x : Int32) : ∀ (m k N : Nat) (y : Int32), k + m = C → m < N → y = sumI (fun c => if r (12 + 4 * c) = x then 1 else 0) k → fX12_cardsOf_L4 r N x y (nI k) = some (CO r C x) := by
  intro m
  induction m with
  | zero =>
    intro k N y hk hN hy
    obtain ⟨N, rfl⟩ : ∃ m, N = m + 1 := ⟨N - 1, by omega⟩
    obtain rfl : k = C := by omega
    rw [fX12_cardsOf_L4]
    simp only [lt_eq]
    rw [gN0, kN0, e0, if_pos (nI_le (Nat.le_refl k) (by omega)), hy]
    rfl
  | succ m ih =>
    intro k N y hk hN hy
    obtain ⟨N, rfl⟩ : ∃ m, N = m + 1 := ⟨N - 1, by omega⟩
    have hk10 : k < 10 := by omega
    rw [fX12_cardsOf_L4]
    simp only [lt_eq]
    rw [gN0, kN0, e0, if_neg (nI_ge (show k < C by omega) (by omega)), gC0 hk10, kC0 hk10, nI_1]
    by_cases e : r (12 + 4 * k) = x
    · rw [if_pos e]
      refine ih (k + 1) N _ (by omega) (by omega) ?_
      show y + 1 = sumI (fun c => if r (12 + 4 * c) = x then 1 else 0) k + (if r (12 + 4 * k) = x then 1 else 0)
      rw [if_pos e, hy]
    · rw [if_neg e]
      refine ih (k + 1) N _ (by omega) (by omega) ?_
      show y + 0 = sumI (fun c => if r (12 + 4 * c) = x then 1 else 0) k + (if r (12 + 4 * k) = x then 1 else 0)
      rw [if_neg e, hy]
theorem co_v {C : Nat} (hC : C ≤ 10) (e0 : r 0 = nI C) (x : Int32) : fX12_cardsOf r x = some (CO r C x) := by
  unfold fX12_cardsOf
  have e := co_L hC e0 x C 0 3000 0 (by omega) (by omega) rfl
  rwa [nI_0] at e
theorem CO_all {C A : Nat} (hA : A ≤ 8) (ho : ∀ c, c < C → ∃ o, o < A ∧ r (12 + 4 * c) = nI o) : sumI (fun a => CO r C (nI a)) A = nI C := by
  show sumI (fun a => sumI (fun c => if r (12 + 4 * c) = nI a then 1 else 0) C) A = _
  rw [sumI_swap (fun a c => if r (12 + 4 * c) = nI a then 1 else 0) A C, ← sumI_1 C]
  refine sumI_cg C (fun c hc => ?_)
  obtain ⟨o, hoA, eo⟩ := ho c hc
  rw [sumI_cg (g := fun a => if nI o = nI a then 1 else 0) A (fun a _ => by rw [eo]), sumI_hit 1 A (by omega) (by omega), if_pos hoA]
/-- the worst, account by account -/
def sdg (r : Nat → Int32) (d : Nat → Nat) (a : Nat) : Int32 := r (52 + 4 * a) - lgS r d (nI a) 1
def wN (r : Nat → Int32) (d : Nat → Nat) : Nat → Nat
  | 0 => 0
  | k + 1 => if k = 0 then 0 else if sdg r d (wN r d k) ≤ sdg r d k then wN r d k else k
def wI (r : Nat → Int32) (d : Nat → Nat) (k : Nat) : Int32 := if k = 0 then -1 else nI (wN r d k)
theorem wN_lt (d : Nat → Nat) : ∀ k, 0 < k → wN r d k < k
  | 0, h => absurd h (Nat.lt_irrefl 0)
  | k + 1, _ => by
    unfold wN
    by_cases c : k = 0
    · rw [if_pos c]; omega
    · rw [if_neg c]
      have := wN_lt d k (by omega)
      split <;> omega
theorem wI_s (d : Nat → Nat) {k : Nat} (h : 0 < k) : wI r d (k + 1) = if sdg r d (wN r d k) ≤ sdg r d k then wI r d k else nI k := by
  have e1 : wI r d (k + 1) = nI (wN r d (k + 1)) := if_neg (by omega)
  have e2 : wI r d k = nI (wN r d k) := if_neg (by omega)
  have e3 : wN r d (k + 1) = if sdg r d (wN r d k) ≤ sdg r d k then wN r d k else k := if_neg (by omega)
  rw [e1, e2, e3]
  by_cases c : sdg r d (wN r d k) ≤ sdg r d k
  · rw [if_pos c, if_pos c]
  · rw [if_neg c, if_neg c]
theorem sd_v {d : Nat → Nat} (hd : Sz r d) {a : Nat} (ha : a < 8) : fX12_standing r (nI a) = some (sdg r d a) := by
  unfold fX12_standing
  simp only [lt_eq]
  rw [gA0 ha, kA0 ha, in_v hd, m_bd]
  rfl
theorem wo_L {M : Mem} {d : Nat → Nat} (hd : Sz (M 2) d) {A : Nat} (hA : A ≤ 8) (e1 : M 2 1 = nI A) : ∀ (m k N : Nat), k + m = A → m < N → fX12_worst_L9 N M (wI (M 2) d k) (nI k) = some (wI (M 2) d A, M) := by
  intro m
  induction m with
  | zero =>
    intro k N hk hN
    obtain ⟨N, rfl⟩ : ∃ m, N = m + 1 := ⟨N - 1, by omega⟩
    obtain rfl : k = A := by omega
    rw [fX12_worst_L9]
    simp only [lt_eq]
    rw [gN1, kN1, e1, if_pos (nI_le (Nat.le_refl k) (by omega))]
  | succ m ih =>
    intro k N hk hN
    obtain ⟨N, rfl⟩ : ∃ m, N = m + 1 := ⟨N - 1, by omega⟩
    rw [fX12_worst_L9]
    simp only [lt_eq]
    rw [gN1, kN1, e1, if_neg (nI_ge (show k < A by omega) (by omega)), nI_1]
    rcases Nat.eq_zero_or_pos k with q | q
    · subst q
      rw [if_pos (c := wI (M 2) d 0 = -1) rfl]
      exact ih 1 N (by omega) (by omega)
    · have hw := wN_lt (r := M 2) d k q
      have ew : wI (M 2) d k = nI (wN (M 2) d k) := if_neg (by omega)
      rw [ew, if_neg (nm1 _ (by omega)), sd_v hd (show k < 8 by omega), m_bd, sd_v hd (show wN (M 2) d k < 8 by omega), m_bd]
      have i := ih (k + 1) N (by omega) (by omega)
      rw [wI_s d q, ew] at i
      by_cases c : sdg (M 2) d (wN (M 2) d k) ≤ sdg (M 2) d k
      · rw [if_pos c] at i ⊢; exact i
      · rw [if_neg c] at i ⊢; exact i
theorem wo_v {n : Nat} {M : Mem} (h : Re n M) {d : Nat → Nat} (hd : Sz (M 2) d) {A : Nat} (hA : A ≤ 8) (e1 : M 2 1 = nI A) : qk (rworst M) M = some (wI (M 2) d A) := by
  have e := wo_L (M := mRef M 0) hd hA e1 A 0 3000 (by omega) (by omega)
  rw [nI_0] at e
  have k : rworst M = some (wI (M 2) d A, M) := by
    unfold rworst rc0 fX12_worst
    rw [lt_eq]
    have e' : fX12_worst_L9 3000 (va_up M 0 (upd (M 0) 0 0)) (-1) 0 = some (wI (M 2) d A, mRef M 0) := e
    rw [e', m_bd2, norm_ref, h.2]
  exact qk_i k
end SUMS
