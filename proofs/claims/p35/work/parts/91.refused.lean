
/-! calls that are refused by their arguments leave the memory; two offices that are told the same are alike -/
theorem gx {x : Int32} (h : x < 0) : fX12_isGate x = 0 := by
  rw [r_isGate (fun _ _ => 0)]
  unfold fX3_has
  rw [if_pos h]
theorem gx4 {k : Nat} (h : 4 ≤ k) (hk : k < 2 ^ 31) : fX12_isGate (nI k) = 0 := by
  rw [r_isGate (fun _ _ => 0)]
  unfold fX3_has
  rw [if_neg (nI_pos hk), if_pos (c := 4 ≤ nI k) (nI_le (a := 4) h hk)]
theorem gy {k : Nat} (h : k < 4) : fX12_isGate (nI k) = 1 := by
  rw [r_isGate (fun _ _ => 0)]
  unfold fX3_has
  rw [if_neg (nI_pos (by omega)), if_neg (c := 4 ≤ nI k) (nI_ge (b := 4) h (by decide))]
theorem ng {k : Nat} (h : k < 2 ^ 20) : ((-1) - nI k : Int32) < 0 := by
  rw [Int32.lt_iff_toInt_lt]
  have e : (nI k).toInt = k := nI_toInt (by omega)
  have e1 : (-1 : Int32).toInt = -1 := by decide
  rw [my_sub (by omega) (by omega), e, e1]
  show -1 - (k : Int) < 0
  omega
section XC
variable {M : Mem}
theorem x_about1 {a : Int32} (h : ¬ (0 ≤ a ∧ a ≤ 10)) : fX12_about M a = some (0, mRef M 1) := by
  unfold fX12_about
  rw [lt_eq, in0 (lo := 0) (hi := 10) (by decide) (by decide) h, if_pos rfl, ref1, m_bd2, if_neg n10]
theorem x_card1 {a b : Int32} (h : fX12_isCard (M 2) a = some 0) : fX12_card M a b = some (0, mRef M 1) := by
  unfold fX12_card
  rw [h, m_bd, if_pos rfl, ref1, m_bd2, if_neg n10]
theorem x_card2 {a b : Int32} (h : fX12_isCard (M 2) a = some 1) (hb : ¬ (0 ≤ b ∧ b ≤ 3)) : fX12_card M a b = some (0, mRef M 2) := by
  unfold fX12_card
  rw [h, m_bd, if_neg n10, lt_eq, in0 (lo := 0) (hi := 3) (by decide) (by decide) hb, if_pos rfl, ref2, m_bd2, if_neg n10]
theorem x_account1 {a b : Int32} (h : fX12_isAccount (M 2) a = some 0) : fX12_account M a b = some (0, mRef M 1) := by
  unfold fX12_account
  rw [h, m_bd, if_pos rfl, ref1, m_bd2, if_neg n10]
theorem x_account2 {a b : Int32} (h : fX12_isAccount (M 2) a = some 1) (hb : ¬ (0 ≤ b ∧ b ≤ 7)) : fX12_account M a b = some (0, mRef M 2) := by
  unfold fX12_account
  rw [h, m_bd, if_neg n10, lt_eq, in0 (lo := 0) (hi := 7) (by decide) (by decide) hb, if_pos rfl, ref2, m_bd2, if_neg n10]
theorem x_gate1 {a b : Int32} (h : fX12_isGate a = 0) : fX12_gate M a b = some (0, mRef M 1) := by
  unfold fX12_gate
  rw [lt_eq, h, if_pos rfl, ref1, m_bd2, if_neg n10]
theorem x_logged1 {a b c : Int32} (h : fX12_isGate a = 0) : fX12_logged M a b c = some (0, mRef M 1) := by
  unfold fX12_logged
  rw [lt_eq, h, if_pos rfl, ref1, m_bd2, if_neg n10]
theorem x_loggedK {g k d : Nat} (hg : g < 4) (hd : d ≤ 12) (hk : d ≤ k) (hk2 : k < 2 ^ 20) (e : M 2 (87 + 5 * g) = nI d) (c : Int32) : fX12_logged M (nI g) (nI k) c = some (0, mRef M 1) := by
  unfold fX12_logged
  have h : ¬ ((0 : Int32) ≤ nI k ∧ nI k ≤ nI d - 1) := fun q => by
    have q2 := Int32.le_iff_toInt_le.mp q.2
    have e1 : (nI k).toInt = k := nI_toInt (by omega)
    have e2 : (nI d).toInt = d := nI_toInt (by omega)
    have e3 : (1 : Int32).toInt = 1 := by decide
    rw [my_sub (by omega) (by omega), e1, e2, e3] at q2
    omega
  rw [lt_eq, gy hg, if_neg n10, lt_eq, gG3 hg, lt_eq, kG3 hg, e, lt_eq, in0 (lo := 0) (hi := nI d - 1) (by decide) rfl h, if_pos rfl, ref1, m_bd2, if_neg n10]
theorem x_setting1 {a : Int32} (h : ¬ (0 ≤ a ∧ a ≤ 3)) : fX12_setting M a = some (0, mRef M 1) := by
  unfold fX12_setting
  rw [lt_eq, in0 (lo := 0) (hi := 3) (by decide) (by decide) h, if_pos rfl, ref1, m_bd2, if_neg n10]
theorem x_issue1 {a : Int32} (h : ¬ (0 ≤ a ∧ a ≤ 99)) : fX12_issue M a = some (0, mRef M 1) := by
  unfold fX12_issue
  rw [lt_eq, in0 (lo := 0) (hi := 99) (by decide) (by decide) h, if_pos rfl, ref1, m_bd2, if_neg n10]
theorem x_copy1 {a : Int32} (h : fX12_isCard (M 2) a = some 0) : fX12_copy M a = some (0, mRef M 1) := by
  unfold fX12_copy
  rw [h, m_bd, if_pos rfl, ref1, m_bd2, if_neg n10]
theorem x_ride1 {a b : Int32} (h : fX12_isCard (M 2) a = some 0) : fX12_ride M a b = some (0, mRef M 1) := by
  unfold fX12_ride
  rw [h, m_bd, if_pos rfl, ref1, m_bd2, if_neg n10]
theorem x_would1 {a b : Int32} (h : fX12_isCard (M 2) a = some 0) : fX12_would M a b = some (0, mRef M 1) := by
  unfold fX12_would
  rw [h, m_bd, if_pos rfl, ref1, m_bd2, if_neg n10]
theorem x_rides1 {a b : Int32} (h : fX12_isCard (M 2) a = some 0) : fX12_rides M a b = some (0, mRef M 1) := by
  unfold fX12_rides
  rw [h, m_bd, if_pos rfl, ref1, m_bd2, if_neg n10]
theorem x_ride2 {a b : Int32} (h : fX12_isCard (M 2) a = some 1) (hb : fX12_isGate b = 0) : fX12_ride M a b = some (0, mRef M 1) := by
  unfold fX12_ride
  rw [h, m_bd, if_neg n10, lt_eq, hb, if_pos rfl, ref1, m_bd2, if_neg n10]
theorem x_pay1 {a b : Int32} (h : fX12_isAccount (M 2) a = some 0) : fX12_pay M a b = some (0, mRef M 1) := by
  unfold fX12_pay
  rw [h, m_bd, if_pos rfl, ref1, m_bd2, if_neg n10]
theorem x_pay2 {a b : Int32} (h : fX12_isAccount (M 2) a = some 1) (hb : ¬ (1 ≤ b ∧ b ≤ 99)) : fX12_pay M a b = some (0, mRef M 2) := by
  unfold fX12_pay
  rw [h, m_bd, if_neg n10, lt_eq, in0 (lo := 1) (hi := 99) (by decide) (by decide) hb, if_pos rfl, ref2, m_bd2, if_neg n10]
theorem x_pardon1 {a : Int32} (h : fX12_isAccount (M 2) a = some 0) : fX12_pardon M a = some (0, mRef M 1) := by
  unfold fX12_pardon
  rw [h, m_bd, if_pos rfl, ref1, m_bd2, if_neg n10]
theorem x_down1 {a : Int32} (h : fX12_isGate a = 0) : fX12_down M a = some (0, mRef M 1) := by
  unfold fX12_down
  rw [lt_eq, h, if_pos rfl, ref1, m_bd2, if_neg n10]
theorem x_up1 {a : Int32} (h : fX12_isGate a = 0) : fX12_up M a = some (0, mRef M 1) := by
  unfold fX12_up
  rw [lt_eq, h, if_pos rfl, ref1, m_bd2, if_neg n10]
theorem x_open1 {a : Int32} (h : fX12_isGate a = 0) : fX12_open M a = some (0, mRef M 1) := by
  unfold fX12_open
  rw [lt_eq, h, if_pos rfl, ref1, m_bd2, if_neg n10]
theorem x_fare1 {a b : Int32} (h : fX12_isGate a = 0) : fX12_fare M a b = some (0, mRef M 1) := by
  unfold fX12_fare
  rw [lt_eq, h, if_pos rfl, ref1, m_bd2, if_neg n10]
theorem x_fare2 {a b : Int32} (h : fX12_isGate a = 1) (hb : ¬ (1 ≤ b ∧ b ≤ 9)) : fX12_fare M a b = some (0, mRef M 2) := by
  unfold fX12_fare
  rw [lt_eq, h, if_neg n10, lt_eq, in0 (lo := 1) (hi := 9) (by decide) (by decide) hb, if_pos rfl, ref2, m_bd2, if_neg n10]
theorem x_run1 {a : Int32} (h : ¬ (1 ≤ a ∧ a ≤ 60)) : fX12_run M a = some (0, mRef M 1) := by
  unfold fX12_run
  rw [lt_eq, in0 (lo := 1) (hi := 60) (by decide) (by decide) h, if_pos rfl, ref1, m_bd2, if_neg n10]
theorem x_set1 {a b : Int32} (h : fX12_isSetting a b = 0) : fX12_set M a b = some (0, mRef M 1) := by
  unfold fX12_set
  rw [lt_eq, h, if_pos rfl, ref1, m_bd2, if_neg n10]
theorem x_ifUp1 {a b : Int32} (h : fX12_isGate a = 0) : fX12_ifUp M a b = some (0, mRef M 1) := by
  unfold fX12_ifUp
  rw [lt_eq, h, if_pos rfl, ref1, m_bd2, if_neg n10]
theorem x_owes1 {a : Int32} (h : fX12_isAccount (M 2) a = some 0) : fX12_owes M a = some (0, mRef M 1) := by
  unfold fX12_owes
  rw [h, m_bd, if_pos rfl, ref1, m_bd2, if_neg n10]
theorem x_save1 {a : Int32} (h : ¬ (0 ≤ a ∧ a ≤ 1)) : fX12_save M a = some (0, mRef M 1) := by
  unfold fX12_save
  rw [lt_eq, in0 (lo := 0) (hi := 1) (by decide) (by decide) h, if_pos rfl, ref1, m_bd2, if_neg n10]
theorem x_restore1 {a : Int32} (h : ¬ (0 ≤ a ∧ a ≤ 1)) : fX12_restore M a = some (0, mRef M 1) := by
  unfold fX12_restore
  rw [lt_eq, in0 (lo := 0) (hi := 1) (by decide) (by decide) h, if_pos rfl, ref1, m_bd2, if_neg n10]
theorem x_sim {s : Int64} {a : Int32} (h : ¬ (1 ≤ a ∧ a ≤ 80)) : fX12_simulate M s a = some (0, mRef M 1) := by
  unfold fX12_simulate
  rw [lt_eq, in0 (lo := 1) (hi := 80) (by decide) (by decide) h, if_pos rfl, ref1, m_bd2, if_neg n10]
theorem x_setting {g k : Nat} (hg : g < 4) (hk : 100 ≤ k) (hk2 : k < 2 ^ 31) : fX12_isSetting (nI g) (nI k) = 0 := by
  have z : ∀ {lo hi : Int32} {l h : Int64} (n : Nat), lo.toInt64 = l → hi.toInt64 = h → hi = nI n → n < 100 → fX12_in (nI k).toInt64 l h = 0 := fun {lo hi l h} n e1 e2 e3 e4 => in0 e1 e2 (fun q => nI_ge (a := n) (b := k) (by omega) hk2 (e3 ▸ q.2))
  unfold fX12_isSetting
  rw [lt_eq]
  rcases (show g = 0 ∨ g = 1 ∨ g = 2 ∨ g = 3 by omega) with rfl | rfl | rfl | rfl
  · rw [in1 (x := nI 0) (lo := 0) (hi := 3) (by decide) (by decide) (by decide), if_neg n10, if_pos (by decide), lt_eq, z (lo := 0) (hi := 50) 50 (by decide) (by decide) rfl (by decide), if_pos rfl]
  · rw [in1 (x := nI 1) (lo := 0) (hi := 3) (by decide) (by decide) (by decide), if_neg n10, if_neg (by decide), if_pos (by decide), lt_eq, z (lo := 0) (hi := 30) 30 (by decide) (by decide) rfl (by decide), if_pos rfl]
  · rw [in1 (x := nI 2) (lo := 0) (hi := 3) (by decide) (by decide) (by decide), if_neg n10, if_neg (by decide), if_neg (by decide), if_pos (by decide), lt_eq, z (lo := 0) (hi := 1) 1 (by decide) (by decide) rfl (by decide), if_pos rfl]
  · rw [in1 (x := nI 3) (lo := 0) (hi := 3) (by decide) (by decide) (by decide), if_neg n10, if_neg (by decide), if_neg (by decide), if_neg (by decide), lt_eq, z (lo := 0) (hi := 99) 99 (by decide) (by decide) rfl (by decide), if_pos rfl]
theorem rf1 {m : Option (Int32 × Mem)} {c1 c2 : Int32} (hM : norm M = M) (h : m = some (0, mRef M 1)) : qk (rc2 m c1 c2) M = some c1 := qk_i (by
  unfold rc2
  rw [h, m_bd2, mRef_0, if_neg n10, if_pos rfl, norm_ref, hM])
theorem rf2 {m : Option (Int32 × Mem)} {c1 c2 : Int32} (hM : norm M = M) (h : m = some (0, mRef M 2)) : qk (rc2 m c1 c2) M = some c2 := qk_i (by
  unfold rc2
  rw [h, m_bd2, mRef_0, if_neg (by decide), if_neg (by decide), if_pos rfl, norm_ref, hM])
theorem rf3 {m : Option (Int32 × Mem)} {c1 : Int32} (hM : norm M = M) (h : m = some (0, mRef M 1)) : qk (rc1 m c1) M = some c1 := qk_i (by
  unfold rc1
  rw [h, m_bd2, mRef_0, if_neg n10, if_pos rfl, norm_ref, hM])
theorem qv {m : Option (Int32 × Mem)} (h : ∃ z, m = some (z, M)) : ∃ z, qk m M = some z := by
  obtain ⟨z, h⟩ := h
  exact ⟨z, qk_i h⟩
theorem gdt {α : Type} {p : Prop} [Decidable p] {x : Option α} (h : p) : gd (decide p) x = x := m_gd (decide_eq_true h)
theorem alike_L {n : Nat} (h : Re n M) (hn : n ≤ 850) (y : Int32) : ∀ (d k N : Nat), k + d = 11 → d < N → fL_alike_L58 M N y 1 (nI k) = some 1 := by
  intro d
  induction d with
  | zero =>
    intro k N hk hN
    obtain ⟨N, rfl⟩ : ∃ m, N = m + 1 := ⟨N - 1, by omega⟩
    obtain rfl : k = 11 := by omega
    rw [fL_alike_L58, if_pos (by decide), m_gd (by decide)]
  | succ d ih =>
    intro k N hk hN
    obtain ⟨N, rfl⟩ : ∃ m, N = m + 1 := ⟨N - 1, by omega⟩
    obtain ⟨z1, e1⟩ := qv (lo_2 h (nI k) 0 0)
    obtain ⟨z2, e2⟩ := qv (lo_3 h (nI k) (y - y / 4 * 4) 0)
    obtain ⟨z3, e3⟩ := qv (lo_4 h (nI k) (y - y / 8 * 8) 0)
    obtain ⟨z4, e4⟩ := qv (lo_5 h (nI k) (y - y / 5 * 5) 0)
    obtain ⟨z5, e5⟩ := qv (lo_6 h (y - y / 4 * 4) (nI k) (y - y / 3 * 3))
    obtain ⟨z6, e6⟩ := qv (lo_7 h (nI k) 0 0)
    obtain ⟨z7, e7⟩ := qv (lo_23 h hn (nI k) 0 0)
    obtain ⟨z8, e8⟩ := qv (lo_21 h hn (nI k) (y - y / 4 * 4) 0)
    rw [fL_alike_L58, if_neg (c := 11 ≤ nI k) (nI_ge (b := 11) (show k < 11 by omega) (by decide)), gdt n10, e1, m_bd, m_bd, gdt rfl, e2, m_bd, m_bd, gdt rfl, e3, m_bd, m_bd, gdt rfl, e4, m_bd, m_bd, gdt rfl, e5, m_bd, m_bd, gdt rfl, e6, m_bd, m_bd, gdt rfl, e7, m_bd, m_bd, gdt rfl, e8, m_bd, m_bd, gdt rfl, lt_eq, nI_1]
    exact ih (k + 1) N (by omega) (by omega)
theorem alike_true {n : Nat} (h : Re n M) (hn : n ≤ 850) (x : Int32) : fL_alike M x = some 1 := by
  obtain ⟨z1, e1⟩ := qv (lo_sim h hn x.toInt64 (1 + (x - x / 40 * 40)))
  obtain ⟨z2, e2⟩ := qv (lo_best h hn)
  obtain ⟨z3, e3⟩ := qv (lo_worst h)
  unfold fL_alike
  rw [e1, m_bd, m_bd, gdt rfl, e2, m_bd, m_bd, gdt rfl, e3, m_bd, m_bd, gdt rfl]
  exact alike_L h hn x 11 0 12 (by omega) (by omega)
end XC
