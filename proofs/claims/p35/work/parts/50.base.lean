/-! THE MATHEMATICS. Rows read and written at numbers -/
theorem mx {i : Int32} {k n : Nat} (h : i = nI k) (hk : k < n) (hn : n < 2 ^ 31) : inb i n = true ∧ i.toNatClampNeg = k := by
  subst h
  refine ⟨?_, nI_clamp (by omega)⟩
  simp only [inb, Bool.and_eq_true, decide_eq_true_eq, nI_toInt (show k < 2 ^ 31 by omega)]
  omega
theorem m_gd {α : Type} {b : Bool} {x : Option α} (h : b = true) : gd b x = x := by subst h; rfl
theorem nI_mul (a b : Nat) : nI a * nI b = nI (a * b) := (Int32.ofNat_mul a b).symm
theorem m_fget {n a : Nat} (f : Nat → Int32) (h : a < n) (hn : n < 2 ^ 31) : fget n f (nI a) = f a := by
  unfold fget
  rw [if_neg (nI_pos (by omega)), if_neg (c := Int32.ofNat n ≤ nI a) (nI_ge h hn), nI_clamp (by omega)]
theorem m_fput {n a : Nat} (f : Nat → Int32) (x : Int32) (h : a < n) (hn : n < 2 ^ 31) : fput n f (nI a) x = upd f a x := by
  unfold fput
  rw [if_neg (nI_pos (by omega)), if_neg (c := Int32.ofNat n ≤ nI a) (nI_ge h hn), nI_clamp (by omega)]
theorem m_finc {n a : Nat} (f : Nat → Int32) (x : Int32) (h : a < n) (hn : n < 2 ^ 31) : finc n f (nI a) x = upd f a (f a + x) := by
  unfold finc
  rw [if_neg (nI_pos (by omega)), if_neg (c := Int32.ofNat n ≤ nI a) (nI_ge h hn), nI_clamp (by omega)]
theorem aC (c j : Nat) : (fX12_cardAt (nI c) + nI j) = nI (12 + 4 * c + j) := by
  show (nI 12 + nI 4 * nI c) + nI j = _
  rw [nI_mul, nI_add, nI_add]
theorem aA (c j : Nat) : (fX12_accountAt (nI c) + nI j) = nI (52 + 4 * c + j) := by
  show (nI 52 + nI 4 * nI c) + nI j = _
  rw [nI_mul, nI_add, nI_add]
theorem aG (c j : Nat) : (fX12_gateAt (nI c) + nI j) = nI (84 + 5 * c + j) := by
  show (nI 84 + nI 5 * nI c) + nI j = _
  rw [nI_mul, nI_add, nI_add]
theorem aL (c k j : Nat) : (fX12_logAt (nI c) (nI k) + nI j) = nI (104 + 36 * c + 3 * k + j) := by
  show ((nI 104 + nI 36 * nI c) + nI 3 * nI k) + nI j = _
  rw [nI_mul, nI_add, nI_mul, nI_add, nI_add]
theorem aL0 (c k : Nat) : (fX12_logAt (nI c) (nI k)) = nI (104 + 36 * c + 3 * k) := by
  show ((nI 104 + nI 36 * nI c) + nI 3 * nI k) = _
  rw [nI_mul, nI_add, nI_mul, nI_add]
theorem aB : ∀ n : Nat, n < 1024 → ((nI n / 32) - (nI n / 32) / 128 * 128) = nI (n / 32) := by decide +kernel
theorem aB2 : ∀ n : Nat, n < 1024 → ((nI n - nI n / 32 * 32) &&& 31) = nI (n % 32) := by decide +kernel
theorem aB3 : ∀ n : Nat, n < 1024 → ((nI n &&& 31) &&& 31) = nI (n % 32) := by decide +kernel
theorem aB4 : ∀ n : Nat, n < 1024 → nI n / 32 = nI (n / 32) := by decide +kernel
theorem aW (a n : Nat) (hn : n < 1024) : fX5_wordOf (nI a) (nI n) = nI (32 * a + n / 32) := by
  unfold fX5_wordOf
  rw [if_neg (nI_pos (by omega)), if_pos (c := nI n < 1024) (nI_lt (b := 1024) hn (by omega)), aB4 n hn]
  show nI a * nI 32 + nI (n / 32) = _
  rw [nI_mul, nI_add, Nat.mul_comm]
theorem aBit (a n : Nat) (hn : n < 1024) : ((248 + (128 * nI a)) + ((nI n / 32) - (nI n / 32) / 128 * 128)) = nI (248 + 128 * a + n / 32) := by
  rw [aB n hn]
  show (nI 248 + nI 128 * nI a) + nI (n / 32) = _
  rw [nI_mul, nI_add, nI_add]
theorem gBi {a n : Nat} (h : a < 8) (hn : n < 1024) {α : Type} {x : Option α} : gd (inb ((248 + (128 * nI a)) + ((nI n / 32) - (nI n / 32) / 128 * 128)) 1272) x = x := m_gd (mx (aBit a n hn) (by omega) (by decide)).1
theorem kBi {a n : Nat} (h : a < 8) (hn : n < 1024) : ((248 + (128 * nI a)) + ((nI n / 32) - (nI n / 32) / 128 * 128)).toNatClampNeg = 248 + 128 * a + n / 32 := (mx (aBit a n hn) (show _ < 1272 by omega) (by decide)).2
theorem gC0 {a : Nat} (h : a < 10) {α : Type} {x : Option α} : gd (inb (fX12_cardAt (nI a) + 0) 1272) x = x := m_gd (mx (aC a 0) (by omega) (by decide)).1
theorem kC0 {a : Nat} (h : a < 10) : (fX12_cardAt (nI a) + 0).toNatClampNeg = 12 + 4 * a := ((mx (aC a 0) (show _ < 1272 by omega) (by decide)).2).trans (by omega)
theorem gC1 {a : Nat} (h : a < 10) {α : Type} {x : Option α} : gd (inb (fX12_cardAt (nI a) + 1) 1272) x = x := m_gd (mx (aC a 1) (by omega) (by decide)).1
theorem kC1 {a : Nat} (h : a < 10) : (fX12_cardAt (nI a) + 1).toNatClampNeg = 13 + 4 * a := ((mx (aC a 1) (show _ < 1272 by omega) (by decide)).2).trans (by omega)
theorem gC2 {a : Nat} (h : a < 10) {α : Type} {x : Option α} : gd (inb (fX12_cardAt (nI a) + 2) 1272) x = x := m_gd (mx (aC a 2) (by omega) (by decide)).1
theorem kC2 {a : Nat} (h : a < 10) : (fX12_cardAt (nI a) + 2).toNatClampNeg = 14 + 4 * a := ((mx (aC a 2) (show _ < 1272 by omega) (by decide)).2).trans (by omega)
theorem gC3 {a : Nat} (h : a < 10) {α : Type} {x : Option α} : gd (inb (fX12_cardAt (nI a) + 3) 1272) x = x := m_gd (mx (aC a 3) (by omega) (by decide)).1
theorem kC3 {a : Nat} (h : a < 10) : (fX12_cardAt (nI a) + 3).toNatClampNeg = 15 + 4 * a := ((mx (aC a 3) (show _ < 1272 by omega) (by decide)).2).trans (by omega)
theorem gA0 {a : Nat} (h : a < 8) {α : Type} {x : Option α} : gd (inb (fX12_accountAt (nI a) + 0) 1272) x = x := m_gd (mx (aA a 0) (by omega) (by decide)).1
theorem kA0 {a : Nat} (h : a < 8) : (fX12_accountAt (nI a) + 0).toNatClampNeg = 52 + 4 * a := ((mx (aA a 0) (show _ < 1272 by omega) (by decide)).2).trans (by omega)
theorem gA1 {a : Nat} (h : a < 8) {α : Type} {x : Option α} : gd (inb (fX12_accountAt (nI a) + 1) 1272) x = x := m_gd (mx (aA a 1) (by omega) (by decide)).1
theorem kA1 {a : Nat} (h : a < 8) : (fX12_accountAt (nI a) + 1).toNatClampNeg = 53 + 4 * a := ((mx (aA a 1) (show _ < 1272 by omega) (by decide)).2).trans (by omega)
theorem gA2 {a : Nat} (h : a < 8) {α : Type} {x : Option α} : gd (inb (fX12_accountAt (nI a) + 2) 1272) x = x := m_gd (mx (aA a 2) (by omega) (by decide)).1
theorem kA2 {a : Nat} (h : a < 8) : (fX12_accountAt (nI a) + 2).toNatClampNeg = 54 + 4 * a := ((mx (aA a 2) (show _ < 1272 by omega) (by decide)).2).trans (by omega)
theorem gA3 {a : Nat} (h : a < 8) {α : Type} {x : Option α} : gd (inb (fX12_accountAt (nI a) + 3) 1272) x = x := m_gd (mx (aA a 3) (by omega) (by decide)).1
theorem kA3 {a : Nat} (h : a < 8) : (fX12_accountAt (nI a) + 3).toNatClampNeg = 55 + 4 * a := ((mx (aA a 3) (show _ < 1272 by omega) (by decide)).2).trans (by omega)
theorem gG0 {a : Nat} (h : a < 4) {α : Type} {x : Option α} : gd (inb (fX12_gateAt (nI a) + 0) 1272) x = x := m_gd (mx (aG a 0) (by omega) (by decide)).1
theorem kG0 {a : Nat} (h : a < 4) : (fX12_gateAt (nI a) + 0).toNatClampNeg = 84 + 5 * a := ((mx (aG a 0) (show _ < 1272 by omega) (by decide)).2).trans (by omega)
theorem gG1 {a : Nat} (h : a < 4) {α : Type} {x : Option α} : gd (inb (fX12_gateAt (nI a) + 1) 1272) x = x := m_gd (mx (aG a 1) (by omega) (by decide)).1
theorem kG1 {a : Nat} (h : a < 4) : (fX12_gateAt (nI a) + 1).toNatClampNeg = 85 + 5 * a := ((mx (aG a 1) (show _ < 1272 by omega) (by decide)).2).trans (by omega)
theorem gG2 {a : Nat} (h : a < 4) {α : Type} {x : Option α} : gd (inb (fX12_gateAt (nI a) + 2) 1272) x = x := m_gd (mx (aG a 2) (by omega) (by decide)).1
theorem kG2 {a : Nat} (h : a < 4) : (fX12_gateAt (nI a) + 2).toNatClampNeg = 86 + 5 * a := ((mx (aG a 2) (show _ < 1272 by omega) (by decide)).2).trans (by omega)
theorem gG3 {a : Nat} (h : a < 4) {α : Type} {x : Option α} : gd (inb (fX12_gateAt (nI a) + 3) 1272) x = x := m_gd (mx (aG a 3) (by omega) (by decide)).1
theorem kG3 {a : Nat} (h : a < 4) : (fX12_gateAt (nI a) + 3).toNatClampNeg = 87 + 5 * a := ((mx (aG a 3) (show _ < 1272 by omega) (by decide)).2).trans (by omega)
theorem gG4 {a : Nat} (h : a < 4) {α : Type} {x : Option α} : gd (inb (fX12_gateAt (nI a) + 4) 1272) x = x := m_gd (mx (aG a 4) (by omega) (by decide)).1
theorem kG4 {a : Nat} (h : a < 4) : (fX12_gateAt (nI a) + 4).toNatClampNeg = 88 + 5 * a := ((mx (aG a 4) (show _ < 1272 by omega) (by decide)).2).trans (by omega)
theorem gL0 {a b : Nat} (h : a < 4) (h2 : b < 12) {α : Type} {x : Option α} : gd (inb (fX12_logAt (nI a) (nI b)) 1272) x = x := m_gd (mx (aL0 a b) (by omega) (by decide)).1
theorem kL0 {a b : Nat} (h : a < 4) (h2 : b < 12) : (fX12_logAt (nI a) (nI b)).toNatClampNeg = 104 + 36 * a + 3 * b := ((mx (aL0 a b) (show _ < 1272 by omega) (by decide)).2).trans (by omega)
theorem gL1 {a b : Nat} (h : a < 4) (h2 : b < 12) {α : Type} {x : Option α} : gd (inb (fX12_logAt (nI a) (nI b) + 1) 1272) x = x := m_gd (mx (aL a b 1) (by omega) (by decide)).1
theorem kL1 {a b : Nat} (h : a < 4) (h2 : b < 12) : (fX12_logAt (nI a) (nI b) + 1).toNatClampNeg = 105 + 36 * a + 3 * b := ((mx (aL a b 1) (show _ < 1272 by omega) (by decide)).2).trans (by omega)
theorem gL2 {a b : Nat} (h : a < 4) (h2 : b < 12) {α : Type} {x : Option α} : gd (inb (fX12_logAt (nI a) (nI b) + 2) 1272) x = x := m_gd (mx (aL a b 2) (by omega) (by decide)).1
theorem kL2 {a b : Nat} (h : a < 4) (h2 : b < 12) : (fX12_logAt (nI a) (nI b) + 2).toNatClampNeg = 106 + 36 * a + 3 * b := ((mx (aL a b 2) (show _ < 1272 by omega) (by decide)).2).trans (by omega)
theorem gN0 {α : Type} {x : Option α} : gd (inb 0 1272) x = x := m_gd (by decide)
theorem kN0 : (0 : Int32).toNatClampNeg = 0 := nI_clamp (n := 0) (by decide)
theorem gN1 {α : Type} {x : Option α} : gd (inb 1 1272) x = x := m_gd (by decide)
theorem kN1 : (1 : Int32).toNatClampNeg = 1 := nI_clamp (n := 1) (by decide)
theorem gN2 {α : Type} {x : Option α} : gd (inb 2 1272) x = x := m_gd (by decide)
theorem kN2 : (2 : Int32).toNatClampNeg = 2 := nI_clamp (n := 2) (by decide)
theorem gN3 {α : Type} {x : Option α} : gd (inb 3 1272) x = x := m_gd (by decide)
theorem kN3 : (3 : Int32).toNatClampNeg = 3 := nI_clamp (n := 3) (by decide)
theorem gN4 {α : Type} {x : Option α} : gd (inb 4 1272) x = x := m_gd (by decide)
theorem kN4 : (4 : Int32).toNatClampNeg = 4 := nI_clamp (n := 4) (by decide)
theorem gN5 {α : Type} {x : Option α} : gd (inb 5 1272) x = x := m_gd (by decide)
theorem kN5 : (5 : Int32).toNatClampNeg = 5 := nI_clamp (n := 5) (by decide)
theorem gN6 {α : Type} {x : Option α} : gd (inb 6 1272) x = x := m_gd (by decide)
theorem kN6 : (6 : Int32).toNatClampNeg = 6 := nI_clamp (n := 6) (by decide)
theorem gN7 {α : Type} {x : Option α} : gd (inb 7 1272) x = x := m_gd (by decide)
theorem kN7 : (7 : Int32).toNatClampNeg = 7 := nI_clamp (n := 7) (by decide)
theorem gN8 {α : Type} {x : Option α} : gd (inb 8 1272) x = x := m_gd (by decide)
theorem kN8 : (8 : Int32).toNatClampNeg = 8 := nI_clamp (n := 8) (by decide)
theorem gN9 {α : Type} {x : Option α} : gd (inb 9 1272) x = x := m_gd (by decide)
theorem kN9 : (9 : Int32).toNatClampNeg = 9 := nI_clamp (n := 9) (by decide)
theorem gN10 {α : Type} {x : Option α} : gd (inb 10 1272) x = x := m_gd (by decide)
theorem kN10 : (10 : Int32).toNatClampNeg = 10 := nI_clamp (n := 10) (by decide)
theorem gN11 {α : Type} {x : Option α} : gd (inb 11 1272) x = x := m_gd (by decide)
theorem kN11 : (11 : Int32).toNatClampNeg = 11 := nI_clamp (n := 11) (by decide)

theorem upd_at (f : Nat → Int32) (k : Nat) (x : Int32) : upd f k x k = x := if_pos rfl
theorem upd_ne {f : Nat → Int32} {k j : Nat} {x : Int32} (h : j ≠ k) : upd f k x j = f j := if_neg h
/-- the component's block S and the reference's row r tell the same; B bounds the counts, T the minute -/
abbrev RN (T : Nat) (S : Nat → Nat → Int32) (r : Nat → Int32) : Prop := (S 1 0 = r 0) ∧ (S 10 0 = r 1) ∧ (∀ k, k < 6 → S 0 (4 + k) = r (2 + k)) ∧ (∀ k, k < 4 → S 39 k = r (8 + k)) ∧ (r 10 = 0 ∨ r 10 = 1) ∧ (∃ C, C ≤ 10 ∧ r 0 = nI C) ∧ (∃ A, A ≤ 8 ∧ r 1 = nI A) ∧ (∃ t, t ≤ T ∧ r 2 = nI t)
theorem RN.eC {T : Nat} {S : Nat → Nat → Int32} {r : Nat → Int32} (R : RN T S r) : S 1 0 = r 0 := R.1
theorem RN.eA {T : Nat} {S : Nat → Nat → Int32} {r : Nat → Int32} (R : RN T S r) : S 10 0 = r 1 := R.2.1
theorem RN.eN {T : Nat} {S : Nat → Nat → Int32} {r : Nat → Int32} (R : RN T S r) : ∀ k, k < 6 → S 0 (4 + k) = r (2 + k) := R.2.2.1
theorem RN.eS {T : Nat} {S : Nat → Nat → Int32} {r : Nat → Int32} (R : RN T S r) : ∀ k, k < 4 → S 39 k = r (8 + k) := R.2.2.2.1
theorem RN.s2 {T : Nat} {S : Nat → Nat → Int32} {r : Nat → Int32} (R : RN T S r) : r 10 = 0 ∨ r 10 = 1 := R.2.2.2.2.1
theorem RN.cC {T : Nat} {S : Nat → Nat → Int32} {r : Nat → Int32} (R : RN T S r) : ∃ C, C ≤ 10 ∧ r 0 = nI C := R.2.2.2.2.2.1
theorem RN.cA {T : Nat} {S : Nat → Nat → Int32} {r : Nat → Int32} (R : RN T S r) : ∃ A, A ≤ 8 ∧ r 1 = nI A := R.2.2.2.2.2.2.1
theorem RN.cT {T : Nat} {S : Nat → Nat → Int32} {r : Nat → Int32} (R : RN T S r) : ∃ t, t ≤ T ∧ r 2 = nI t := R.2.2.2.2.2.2.2
abbrev RC (B T : Nat) (S : Nat → Nat → Int32) (r : Nat → Int32) : Prop := (∀ c, c < 10 → nI c < r 0 → S 3 c = r (12 + 4 * c) ∧ S 5 c = r (13 + 4 * c) ∧ S 7 c = r (14 + 4 * c) ∧ S 9 c = r (15 + 4 * c) - 1) ∧ (∀ c, c < 10 → nI c < r 0 → ∃ o, o < 8 ∧ nI o < r 1 ∧ r (12 + 4 * c) = nI o) ∧ (∀ c, c < 10 → nI c < r 0 → ∃ n, n ≤ B ∧ r (14 + 4 * c) = nI n) ∧ (∀ c, c < 10 → nI c < r 0 → ∃ t, t ≤ T + 1 ∧ r (15 + 4 * c) = nI t)
theorem RC.card {B T : Nat} {S : Nat → Nat → Int32} {r : Nat → Int32} (R : RC B T S r) : ∀ c, c < 10 → nI c < r 0 → S 3 c = r (12 + 4 * c) ∧ S 5 c = r (13 + 4 * c) ∧ S 7 c = r (14 + 4 * c) ∧ S 9 c = r (15 + 4 * c) - 1 := R.1
theorem RC.cown {B T : Nat} {S : Nat → Nat → Int32} {r : Nat → Int32} (R : RC B T S r) : ∀ c, c < 10 → nI c < r 0 → ∃ o, o < 8 ∧ nI o < r 1 ∧ r (12 + 4 * c) = nI o := R.2.1
theorem RC.ccnt {B T : Nat} {S : Nat → Nat → Int32} {r : Nat → Int32} (R : RC B T S r) : ∀ c, c < 10 → nI c < r 0 → ∃ n, n ≤ B ∧ r (14 + 4 * c) = nI n := R.2.2.1
theorem RC.clat {B T : Nat} {S : Nat → Nat → Int32} {r : Nat → Int32} (R : RC B T S r) : ∀ c, c < 10 → nI c < r 0 → ∃ t, t ≤ T + 1 ∧ r (15 + 4 * c) = nI t := R.2.2.2
abbrev RA (S : Nat → Nat → Int32) (r : Nat → Int32) : Prop := (∀ a, a < 8 → S 12 a = r (52 + 4 * a) ∧ S 14 a = r (53 + 4 * a) ∧ S 16 a = r (54 + 4 * a) ∧ S 18 a = r (55 + 4 * a)) ∧ (∀ a, a < 8 → r (54 + 4 * a) = 0 ∨ r (54 + 4 * a) = 1)
theorem RA.acc {S : Nat → Nat → Int32} {r : Nat → Int32} (R : RA S r) : ∀ a, a < 8 → S 12 a = r (52 + 4 * a) ∧ S 14 a = r (53 + 4 * a) ∧ S 16 a = r (54 + 4 * a) ∧ S 18 a = r (55 + 4 * a) := R.1
theorem RA.amark {S : Nat → Nat → Int32} {r : Nat → Int32} (R : RA S r) : ∀ a, a < 8 → r (54 + 4 * a) = 0 ∨ r (54 + 4 * a) = 1 := R.2
abbrev RG (S : Nat → Nat → Int32) (r : Nat → Int32) : Prop := (∀ g, g < 4 → S 23 g = r (84 + 5 * g) ∧ S 27 g = r (85 + 5 * g) ∧ S 29 g = r (86 + 5 * g) ∧ S 31 g = r (87 + 5 * g)) ∧ (∀ g, g < 4 → r (85 + 5 * g) = 0 ∨ r (85 + 5 * g) = 1) ∧ (∀ g, g < 4 → r (86 + 5 * g) = 0 ∨ r (86 + 5 * g) = 1) ∧ (∀ g, g < 4 → r (85 + 5 * g) = 0 → S 25 g = r (88 + 5 * g)) ∧ (∀ g, g < 4 → ∃ d, d ≤ 12 ∧ r (87 + 5 * g) = nI d)
theorem RG.gate {S : Nat → Nat → Int32} {r : Nat → Int32} (R : RG S r) : ∀ g, g < 4 → S 23 g = r (84 + 5 * g) ∧ S 27 g = r (85 + 5 * g) ∧ S 29 g = r (86 + 5 * g) ∧ S 31 g = r (87 + 5 * g) := R.1
theorem RG.gup {S : Nat → Nat → Int32} {r : Nat → Int32} (R : RG S r) : ∀ g, g < 4 → r (85 + 5 * g) = 0 ∨ r (85 + 5 * g) = 1 := R.2.1
theorem RG.gopen {S : Nat → Nat → Int32} {r : Nat → Int32} (R : RG S r) : ∀ g, g < 4 → r (86 + 5 * g) = 0 ∨ r (86 + 5 * g) = 1 := R.2.2.1
theorem RG.gkept {S : Nat → Nat → Int32} {r : Nat → Int32} (R : RG S r) : ∀ g, g < 4 → r (85 + 5 * g) = 0 → S 25 g = r (88 + 5 * g) := R.2.2.2.1
theorem RG.glog {S : Nat → Nat → Int32} {r : Nat → Int32} (R : RG S r) : ∀ g, g < 4 → ∃ d, d ≤ 12 ∧ r (87 + 5 * g) = nI d := R.2.2.2.2
abbrev RLg (B : Nat) (S : Nat → Nat → Int32) (r : Nat → Int32) : Prop := (∀ g k, g < 4 → k < 12 → nI k < r (87 + 5 * g) → S 33 (12 * g + k) = r (104 + 36 * g + 3 * k) ∧ S 35 (12 * g + k) = r (105 + 36 * g + 3 * k) ∧ S 37 (12 * g + k) = r (106 + 36 * g + 3 * k)) ∧ (∀ g k, g < 4 → k < 12 → nI k < r (87 + 5 * g) → ∃ a, a < 8 ∧ nI a < r 1 ∧ r (104 + 36 * g + 3 * k) = nI a) ∧ (∀ g k, g < 4 → k < 12 → nI k < r (87 + 5 * g) → ∃ n, n ≤ B ∧ r (105 + 36 * g + 3 * k) = nI n)
theorem RLg.log {B : Nat} {S : Nat → Nat → Int32} {r : Nat → Int32} (R : RLg B S r) : ∀ g k, g < 4 → k < 12 → nI k < r (87 + 5 * g) → S 33 (12 * g + k) = r (104 + 36 * g + 3 * k) ∧ S 35 (12 * g + k) = r (105 + 36 * g + 3 * k) ∧ S 37 (12 * g + k) = r (106 + 36 * g + 3 * k) := R.1
theorem RLg.lacc {B : Nat} {S : Nat → Nat → Int32} {r : Nat → Int32} (R : RLg B S r) : ∀ g k, g < 4 → k < 12 → nI k < r (87 + 5 * g) → ∃ a, a < 8 ∧ nI a < r 1 ∧ r (104 + 36 * g + 3 * k) = nI a := R.2.1
theorem RLg.lcnt {B : Nat} {S : Nat → Nat → Int32} {r : Nat → Int32} (R : RLg B S r) : ∀ g k, g < 4 → k < 12 → nI k < r (87 + 5 * g) → ∃ n, n ≤ B ∧ r (105 + 36 * g + 3 * k) = nI n := R.2.2
abbrev RBt (S : Nat → Nat → Int32) (r : Nat → Int32) : Prop := (∀ a w, a < 8 → w < 32 → S 20 (32 * a + w) = r (248 + 128 * a + w))
theorem RBt.bit {S : Nat → Nat → Int32} {r : Nat → Int32} (R : RBt S r) : ∀ a w, a < 8 → w < 32 → S 20 (32 * a + w) = r (248 + 128 * a + w) := R
abbrev RZ (r : Nat → Int32) : Prop := ∀ c, c < 10 → r 0 ≤ nI c → r (14 + 4 * c) = 0 ∧ r (15 + 4 * c) = 0
/-- at most T, of either sign -/
abbrev inT (T : Nat) (x : Int32) : Prop := -(T : Int) ≤ x.toInt ∧ x.toInt ≤ T
abbrev in99 (x : Int32) : Prop := 0 ≤ x.toInt ∧ x.toInt ≤ 99
abbrev RM (T : Nat) (r : Nat → Int32) : Prop := (∀ a, a < 8 → inT T (r (52 + 4 * a))) ∧ (∀ g, g < 4 → in99 (r (84 + 5 * g))) ∧ (∀ g k, g < 4 → k < 12 → in99 (r (106 + 36 * g + 3 * k))) ∧ in99 (r 11) ∧ (∃ p, p ≤ 30 ∧ r 9 = nI p)
theorem RM.mbal {T : Nat} {r : Nat → Int32} (R : RM T r) : ∀ a, a < 8 → inT T (r (52 + 4 * a)) := R.1
theorem RM.mfare {T : Nat} {r : Nat → Int32} (R : RM T r) : ∀ g, g < 4 → in99 (r (84 + 5 * g)) := R.2.1
theorem RM.mlog {T : Nat} {r : Nat → Int32} (R : RM T r) : ∀ g k, g < 4 → k < 12 → in99 (r (106 + 36 * g + 3 * k)) := R.2.2.1
theorem RM.mfine {T : Nat} {r : Nat → Int32} (R : RM T r) : in99 (r 11) := R.2.2.2.1
theorem RM.mpause {T : Nat} {r : Nat → Int32} (R : RM T r) : ∃ p, p ≤ 30 ∧ r 9 = nI p := R.2.2.2.2
abbrev Rel (B T : Nat) (S : Nat → Nat → Int32) (r : Nat → Int32) : Prop := RN T S r ∧ RC B T S r ∧ RA S r ∧ RG S r ∧ RLg B S r ∧ RBt S r ∧ RZ r ∧ RM T r
theorem Rel.toRN {B T : Nat} {S : Nat → Nat → Int32} {r : Nat → Int32} (R : Rel B T S r) : RN T S r := R.1
theorem Rel.eC {B T : Nat} {S : Nat → Nat → Int32} {r : Nat → Int32} (R : Rel B T S r) : S 1 0 = r 0 := R.toRN.eC
theorem Rel.eA {B T : Nat} {S : Nat → Nat → Int32} {r : Nat → Int32} (R : Rel B T S r) : S 10 0 = r 1 := R.toRN.eA
theorem Rel.eN {B T : Nat} {S : Nat → Nat → Int32} {r : Nat → Int32} (R : Rel B T S r) : ∀ k, k < 6 → S 0 (4 + k) = r (2 + k) := R.toRN.eN
theorem Rel.eS {B T : Nat} {S : Nat → Nat → Int32} {r : Nat → Int32} (R : Rel B T S r) : ∀ k, k < 4 → S 39 k = r (8 + k) := R.toRN.eS
theorem Rel.s2 {B T : Nat} {S : Nat → Nat → Int32} {r : Nat → Int32} (R : Rel B T S r) : r 10 = 0 ∨ r 10 = 1 := R.toRN.s2
theorem Rel.cC {B T : Nat} {S : Nat → Nat → Int32} {r : Nat → Int32} (R : Rel B T S r) : ∃ C, C ≤ 10 ∧ r 0 = nI C := R.toRN.cC
theorem Rel.cA {B T : Nat} {S : Nat → Nat → Int32} {r : Nat → Int32} (R : Rel B T S r) : ∃ A, A ≤ 8 ∧ r 1 = nI A := R.toRN.cA
theorem Rel.cT {B T : Nat} {S : Nat → Nat → Int32} {r : Nat → Int32} (R : Rel B T S r) : ∃ t, t ≤ T ∧ r 2 = nI t := R.toRN.cT
theorem Rel.toRC {B T : Nat} {S : Nat → Nat → Int32} {r : Nat → Int32} (R : Rel B T S r) : RC B T S r := R.2.1
theorem Rel.card {B T : Nat} {S : Nat → Nat → Int32} {r : Nat → Int32} (R : Rel B T S r) : ∀ c, c < 10 → nI c < r 0 → S 3 c = r (12 + 4 * c) ∧ S 5 c = r (13 + 4 * c) ∧ S 7 c = r (14 + 4 * c) ∧ S 9 c = r (15 + 4 * c) - 1 := R.toRC.card
theorem Rel.cown {B T : Nat} {S : Nat → Nat → Int32} {r : Nat → Int32} (R : Rel B T S r) : ∀ c, c < 10 → nI c < r 0 → ∃ o, o < 8 ∧ nI o < r 1 ∧ r (12 + 4 * c) = nI o := R.toRC.cown
theorem Rel.ccnt {B T : Nat} {S : Nat → Nat → Int32} {r : Nat → Int32} (R : Rel B T S r) : ∀ c, c < 10 → nI c < r 0 → ∃ n, n ≤ B ∧ r (14 + 4 * c) = nI n := R.toRC.ccnt
theorem Rel.clat {B T : Nat} {S : Nat → Nat → Int32} {r : Nat → Int32} (R : Rel B T S r) : ∀ c, c < 10 → nI c < r 0 → ∃ t, t ≤ T + 1 ∧ r (15 + 4 * c) = nI t := R.toRC.clat
theorem Rel.toRA {B T : Nat} {S : Nat → Nat → Int32} {r : Nat → Int32} (R : Rel B T S r) : RA S r := R.2.2.1
theorem Rel.acc {B T : Nat} {S : Nat → Nat → Int32} {r : Nat → Int32} (R : Rel B T S r) : ∀ a, a < 8 → S 12 a = r (52 + 4 * a) ∧ S 14 a = r (53 + 4 * a) ∧ S 16 a = r (54 + 4 * a) ∧ S 18 a = r (55 + 4 * a) := R.toRA.acc
theorem Rel.amark {B T : Nat} {S : Nat → Nat → Int32} {r : Nat → Int32} (R : Rel B T S r) : ∀ a, a < 8 → r (54 + 4 * a) = 0 ∨ r (54 + 4 * a) = 1 := R.toRA.amark
theorem Rel.toRG {B T : Nat} {S : Nat → Nat → Int32} {r : Nat → Int32} (R : Rel B T S r) : RG S r := R.2.2.2.1
theorem Rel.gate {B T : Nat} {S : Nat → Nat → Int32} {r : Nat → Int32} (R : Rel B T S r) : ∀ g, g < 4 → S 23 g = r (84 + 5 * g) ∧ S 27 g = r (85 + 5 * g) ∧ S 29 g = r (86 + 5 * g) ∧ S 31 g = r (87 + 5 * g) := R.toRG.gate
theorem Rel.gup {B T : Nat} {S : Nat → Nat → Int32} {r : Nat → Int32} (R : Rel B T S r) : ∀ g, g < 4 → r (85 + 5 * g) = 0 ∨ r (85 + 5 * g) = 1 := R.toRG.gup
theorem Rel.gopen {B T : Nat} {S : Nat → Nat → Int32} {r : Nat → Int32} (R : Rel B T S r) : ∀ g, g < 4 → r (86 + 5 * g) = 0 ∨ r (86 + 5 * g) = 1 := R.toRG.gopen
theorem Rel.gkept {B T : Nat} {S : Nat → Nat → Int32} {r : Nat → Int32} (R : Rel B T S r) : ∀ g, g < 4 → r (85 + 5 * g) = 0 → S 25 g = r (88 + 5 * g) := R.toRG.gkept
theorem Rel.glog {B T : Nat} {S : Nat → Nat → Int32} {r : Nat → Int32} (R : Rel B T S r) : ∀ g, g < 4 → ∃ d, d ≤ 12 ∧ r (87 + 5 * g) = nI d := R.toRG.glog
theorem Rel.toRLg {B T : Nat} {S : Nat → Nat → Int32} {r : Nat → Int32} (R : Rel B T S r) : RLg B S r := R.2.2.2.2.1
theorem Rel.log {B T : Nat} {S : Nat → Nat → Int32} {r : Nat → Int32} (R : Rel B T S r) : ∀ g k, g < 4 → k < 12 → nI k < r (87 + 5 * g) → S 33 (12 * g + k) = r (104 + 36 * g + 3 * k) ∧ S 35 (12 * g + k) = r (105 + 36 * g + 3 * k) ∧ S 37 (12 * g + k) = r (106 + 36 * g + 3 * k) := R.toRLg.log
theorem Rel.lacc {B T : Nat} {S : Nat → Nat → Int32} {r : Nat → Int32} (R : Rel B T S r) : ∀ g k, g < 4 → k < 12 → nI k < r (87 + 5 * g) → ∃ a, a < 8 ∧ nI a < r 1 ∧ r (104 + 36 * g + 3 * k) = nI a := R.toRLg.lacc
theorem Rel.lcnt {B T : Nat} {S : Nat → Nat → Int32} {r : Nat → Int32} (R : Rel B T S r) : ∀ g k, g < 4 → k < 12 → nI k < r (87 + 5 * g) → ∃ n, n ≤ B ∧ r (105 + 36 * g + 3 * k) = nI n := R.toRLg.lcnt
theorem Rel.toRBt {B T : Nat} {S : Nat → Nat → Int32} {r : Nat → Int32} (R : Rel B T S r) : RBt S r := R.2.2.2.2.2.1
theorem Rel.bit {B T : Nat} {S : Nat → Nat → Int32} {r : Nat → Int32} (R : Rel B T S r) : ∀ a w, a < 8 → w < 32 → S 20 (32 * a + w) = r (248 + 128 * a + w) := R.toRBt.bit
theorem Rel.toRZ {B T : Nat} {S : Nat → Nat → Int32} {r : Nat → Int32} (R : Rel B T S r) : RZ r := R.2.2.2.2.2.2.1
theorem Rel.toRM {B T : Nat} {S : Nat → Nat → Int32} {r : Nat → Int32} (R : Rel B T S r) : RM T r := R.2.2.2.2.2.2.2
theorem Rel.mbal {B T : Nat} {S : Nat → Nat → Int32} {r : Nat → Int32} (R : Rel B T S r) : ∀ a, a < 8 → inT T (r (52 + 4 * a)) := R.toRM.mbal
theorem Rel.mfare {B T : Nat} {S : Nat → Nat → Int32} {r : Nat → Int32} (R : Rel B T S r) : ∀ g, g < 4 → in99 (r (84 + 5 * g)) := R.toRM.mfare
theorem Rel.mlog {B T : Nat} {S : Nat → Nat → Int32} {r : Nat → Int32} (R : Rel B T S r) : ∀ g k, g < 4 → k < 12 → in99 (r (106 + 36 * g + 3 * k)) := R.toRM.mlog
theorem Rel.mfine {B T : Nat} {S : Nat → Nat → Int32} {r : Nat → Int32} (R : Rel B T S r) : in99 (r 11) := R.toRM.mfine
theorem Rel.mpause {B T : Nat} {S : Nat → Nat → Int32} {r : Nat → Int32} (R : Rel B T S r) : ∃ p, p ≤ 30 ∧ r 9 = nI p := R.toRM.mpause
section RELCG
variable {B T : Nat} {S S' : Nat → Nat → Int32} {r r' : Nat → Int32}
theorem RN.cg (R : RN T S r) (h0 : S' 0 = S 0) (h1 : S' 1 = S 1) (h10 : S' 10 = S 10) (h39 : S' 39 = S 39) (hr : ∀ j, j < 12 → r' j = r j) : RN T S' r' :=
  ⟨by rw [h1, hr 0 (by decide)]; exact R.eC, by rw [h10, hr 1 (by decide)]; exact R.eA, fun k hk => by rw [h0, hr (2 + k) (by omega)]; exact R.eN k hk, fun k hk => by rw [h39, hr (8 + k) (by omega)]; exact R.eS k hk, by rw [hr 10 (by decide)]; exact R.s2, by rw [hr 0 (by decide)]; exact R.cC, by rw [hr 1 (by decide)]; exact R.cA, by rw [hr 2 (by decide)]; exact R.cT⟩
theorem RC.cg (R : RC B T S r) (h3 : S' 3 = S 3) (h5 : S' 5 = S 5) (h7 : S' 7 = S 7) (h9 : S' 9 = S 9) (e0 : r' 0 = r 0) (e1 : r' 1 = r 1) (hr : ∀ j, 12 ≤ j → j < 52 → r' j = r j) : RC B T S' r' :=
  ⟨fun c hc h => by rw [h3, h5, h7, h9, hr (12 + 4 * c) (by omega) (by omega), hr (13 + 4 * c) (by omega) (by omega), hr (14 + 4 * c) (by omega) (by omega), hr (15 + 4 * c) (by omega) (by omega)]; rw [e0] at h; exact R.card c hc h,
   fun c hc h => by rw [hr (12 + 4 * c) (by omega) (by omega), e1]; rw [e0] at h; exact R.cown c hc h,
   fun c hc h => by rw [hr (14 + 4 * c) (by omega) (by omega)]; rw [e0] at h; exact R.ccnt c hc h,
   fun c hc h => by rw [hr (15 + 4 * c) (by omega) (by omega)]; rw [e0] at h; exact R.clat c hc h⟩
theorem RA.cg (R : RA S r) (h12 : S' 12 = S 12) (h14 : S' 14 = S 14) (h16 : S' 16 = S 16) (h18 : S' 18 = S 18) (hr : ∀ j, 52 ≤ j → j < 84 → r' j = r j) : RA S' r' :=
  ⟨fun a ha => by rw [h12, h14, h16, h18, hr (52 + 4 * a) (by omega) (by omega), hr (53 + 4 * a) (by omega) (by omega), hr (54 + 4 * a) (by omega) (by omega), hr (55 + 4 * a) (by omega) (by omega)]; exact R.acc a ha,
   fun a ha => by rw [hr (54 + 4 * a) (by omega) (by omega)]; exact R.amark a ha⟩
theorem RG.cg (R : RG S r) (h23 : S' 23 = S 23) (h25 : S' 25 = S 25) (h27 : S' 27 = S 27) (h29 : S' 29 = S 29) (h31 : S' 31 = S 31) (hr : ∀ j, 84 ≤ j → j < 104 → r' j = r j) : RG S' r' :=
  ⟨fun g hg => by rw [h23, h27, h29, h31, hr (84 + 5 * g) (by omega) (by omega), hr (85 + 5 * g) (by omega) (by omega), hr (86 + 5 * g) (by omega) (by omega), hr (87 + 5 * g) (by omega) (by omega)]; exact R.gate g hg,
   fun g hg => by rw [hr (85 + 5 * g) (by omega) (by omega)]; exact R.gup g hg,
   fun g hg => by rw [hr (86 + 5 * g) (by omega) (by omega)]; exact R.gopen g hg,
   fun g hg => by rw [h25, hr (85 + 5 * g) (by omega) (by omega), hr (88 + 5 * g) (by omega) (by omega)]; exact R.gkept g hg,
   fun g hg => by rw [hr (87 + 5 * g) (by omega) (by omega)]; exact R.glog g hg⟩
theorem RLg.cg (R : RLg B S r) (h33 : S' 33 = S 33) (h35 : S' 35 = S 35) (h37 : S' 37 = S 37) (e1 : r' 1 = r 1) (e87 : ∀ g, g < 4 → r' (87 + 5 * g) = r (87 + 5 * g)) (hr : ∀ j, 104 ≤ j → j < 248 → r' j = r j) : RLg B S' r' :=
  ⟨fun g k hg hk h => by rw [h33, h35, h37, hr (104 + 36 * g + 3 * k) (by omega) (by omega), hr (105 + 36 * g + 3 * k) (by omega) (by omega), hr (106 + 36 * g + 3 * k) (by omega) (by omega)]; rw [e87 g hg] at h; exact R.log g k hg hk h,
   fun g k hg hk h => by rw [hr (104 + 36 * g + 3 * k) (by omega) (by omega), e1]; rw [e87 g hg] at h; exact R.lacc g k hg hk h,
   fun g k hg hk h => by rw [hr (105 + 36 * g + 3 * k) (by omega) (by omega)]; rw [e87 g hg] at h; exact R.lcnt g k hg hk h⟩
theorem RBt.cg (R : RBt S r) (h20 : S' 20 = S 20) (hr : ∀ j, 248 ≤ j → j < 1272 → r' j = r j) : RBt S' r' :=
  fun a w ha hw => by rw [h20, hr (248 + 128 * a + w) (by omega) (by omega)]; exact R.bit a w ha hw
theorem RZ.cg (R : RZ r) (e0 : r' 0 = r 0) (hr : ∀ j, 12 ≤ j → j < 52 → r' j = r j) : RZ r' :=
  fun c hc h => by rw [hr (14 + 4 * c) (by omega) (by omega), hr (15 + 4 * c) (by omega) (by omega)]; rw [e0] at h; exact R c hc h
theorem RM.cg (R : RM T r) (h9 : r' 9 = r 9) (h11 : r' 11 = r 11) (hb : ∀ a, a < 8 → r' (52 + 4 * a) = r (52 + 4 * a)) (hf : ∀ g, g < 4 → r' (84 + 5 * g) = r (84 + 5 * g)) (hl : ∀ g k, g < 4 → k < 12 → r' (106 + 36 * g + 3 * k) = r (106 + 36 * g + 3 * k)) : RM T r' :=
  ⟨fun a ha => by rw [hb a ha]; exact R.mbal a ha, fun g hg => by rw [hf g hg]; exact R.mfare g hg, fun g k hg hk => by rw [hl g k hg hk]; exact R.mlog g k hg hk, by rw [h11]; exact R.mfine, by rw [h9]; exact R.mpause⟩
theorem inT.mono {T T' : Nat} {x : Int32} (h : inT T x) (hT : T ≤ T') : inT T' x := ⟨by have := h.1; omega, by have := h.2; omega⟩
theorem Rel.mono {B' T' : Nat} (R : Rel B T S r) (hB : B ≤ B') (hT : T ≤ T') : Rel B' T' S r :=
  ⟨⟨R.eC, R.eA, R.eN, R.eS, R.s2, R.cC, R.cA, by obtain ⟨t, h, e⟩ := R.cT; exact ⟨t, by omega, e⟩⟩,
   ⟨R.card, R.cown, fun c hc h => by obtain ⟨n, q, e⟩ := R.ccnt c hc h; exact ⟨n, by omega, e⟩, fun c hc h => by obtain ⟨n, q, e⟩ := R.clat c hc h; exact ⟨n, by omega, e⟩⟩,
   R.toRA, R.toRG, ⟨R.log, R.lacc, fun g k hg hk h => by obtain ⟨n, q, e⟩ := R.lcnt g k hg hk h; exact ⟨n, by omega, e⟩⟩, R.toRBt, R.toRZ,
   ⟨fun a ha => (R.mbal a ha).mono hT, R.mfare, R.mlog, R.mfine, R.mpause⟩⟩
/-- only the row's 1272 numbers matter -/
theorem Rel.ext (R : Rel B T S r) (h : ∀ j, j < 1272 → r' j = r j) : Rel B T S r' :=
  ⟨R.toRN.cg rfl rfl rfl rfl (fun j hj => h j (by omega)), R.toRC.cg rfl rfl rfl rfl (h 0 (by omega)) (h 1 (by omega)) (fun j _ _ => h j (by omega)), R.toRA.cg rfl rfl rfl rfl (fun j _ _ => h j (by omega)), R.toRG.cg rfl rfl rfl rfl rfl (fun j _ _ => h j (by omega)), R.toRLg.cg rfl rfl rfl (h 1 (by omega)) (fun g hg => h _ (by omega)) (fun j _ _ => h j (by omega)), R.toRBt.cg rfl (fun j _ _ => h j (by omega)), R.toRZ.cg (h 0 (by omega)) (fun j _ _ => h j (by omega)), R.toRM.cg (h 9 (by omega)) (h 11 (by omega)) (fun a _ => h _ (by omega)) (fun g _ => h _ (by omega)) (fun g k _ _ => h _ (by omega))⟩
end RELCG
section REL1
variable {B T : Nat} {S : Nat → Nat → Int32} {r : Nat → Int32}
theorem r_isBlocked (R : Rel B T S r) {a : Nat} (h : a < 8) : fX12_isBlocked r (nI a) = some (fX5_isBlocked S (nI a)) := by
  obtain ⟨h1, -, h3, -⟩ := R.acc a h
  unfold fX12_isBlocked fX5_isBlocked
  simp only [lt_]
  rw [gA0 h, kA0 h, gA2 h, kA2 h, m_fget _ h (by decide), m_fget _ h (by decide), h1, h3]
  split
  · rfl
  · rcases R.amark a h with e | e <;> rw [e] <;> rfl
theorem r_blockedL (R : Rel B T S r) : ∀ (n : Nat) (y : Int32) (k : Nat), k ≤ 8 → fX5_blockedSet_L4 S n y (nI k) = fX12_blocked_L4 r n y (nI k)
  | 0, _, _, _ => rfl
  | n + 1, y, k, hk => by
    obtain ⟨A, hA, eA⟩ := R.cA
    rw [fX5_blockedSet_L4, fX12_blocked_L4]
    simp only [lt_]
    rw [gN1, kN1, R.eA]
    split
    · rfl
    · next c =>
      have hk8 : k < 8 := by
        rw [eA] at c
        rcases Nat.lt_or_ge k A with q | q
        · omega
        · exact absurd (nI_le q (by omega)) c
      rw [r_isBlocked R hk8, nI_1]
      show _ = (if _ then _ else _)
      split
      · rw [show y ||| 0 = y from by simp]
        exact r_blockedL R n _ (k + 1) hk8
      · exact r_blockedL R n _ (k + 1) hk8
theorem r_blocked (R : Rel B T S r) : fX12_blocked r = fX5_blockedSet S := (r_blockedL R 3000 0 0 (by omega)).symm
theorem r_isUp (R : Rel B T S r) {g : Nat} (h : g < 4) : fX12_isUp r (nI g) = some (fX3_isUp S (nI g)) := by
  obtain ⟨-, h2, -, -⟩ := R.gate g h
  unfold fX12_isUp fX3_isUp
  simp only [lt_]
  rw [gG1 h, kG1 h, m_fget _ h (by decide), h2]
  rcases R.gup g h with e | e <;> rw [e] <;> rfl
theorem r_list (R : Rel B T S r) {g : Nat} (h : g < 4) : fX12_list r (nI g) = fX10_listAt S (nI g) := by
  have h2 := (R.gate g h).2.1
  unfold fX12_list fX10_listAt
  simp only [lt_]
  rw [r_isUp R h, gG4 h, kG4 h, m_fget _ h (by decide), r_blocked R]
  show (if _ then _ else _) = _
  split
  · next c =>
    have e : r (85 + 5 * g) = 0 := by
      rcases R.gup g h with e | e
      · exact e
      · unfold fX3_isUp at c
        simp only [lt_] at c
        rw [m_fget _ h (by decide), h2, e] at c
        exact absurd c (by decide)
    rw [R.gkept g h e]
  · rfl
end REL1
