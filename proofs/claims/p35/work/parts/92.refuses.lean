
/-! refuses() is true wherever there is a card -/
section RV
variable {B T : Nat} {S : Nat → Nat → Int32} {M : Mem} {C A : Nat}
theorem cY (R : Rel B T S (M 2)) (eC : M 2 0 = nI C) (hC : C ≤ 10) {c : Nat} (h : c < C) : fX12_isCard (M 2) (nI c) = some 1 := by
  rw [r_isCard R]
  unfold fX0_has
  rw [if_neg (nI_pos (by omega)), lt_eq, R.eC, eC, if_neg (nI_ge h (by omega))]
theorem cN (R : Rel B T S (M 2)) (eC : M 2 0 = nI C) {c : Nat} (h : C ≤ c) (hc : c < 2 ^ 31) : fX12_isCard (M 2) (nI c) = some 0 := by
  rw [r_isCard R]
  unfold fX0_has
  rw [if_neg (nI_pos hc), lt_eq, R.eC, eC, if_pos (nI_le h hc)]
theorem aY (R : Rel B T S (M 2)) (eA : M 2 1 = nI A) (hA : A ≤ 8) {c : Nat} (h : c < A) : fX12_isAccount (M 2) (nI c) = some 1 := by
  rw [r_isAcc R]
  unfold fX5_has
  rw [if_neg (nI_pos (by omega)), lt_eq, R.eA, eA, if_neg (nI_ge h (by omega))]
theorem aN (R : Rel B T S (M 2)) (eA : M 2 1 = nI A) {c : Nat} (h : A ≤ c) (hc : c < 2 ^ 31) : fX12_isAccount (M 2) (nI c) = some 0 := by
  rw [r_isAcc R]
  unfold fX5_has
  rw [if_neg (nI_pos hc), lt_eq, R.eA, eA, if_pos (nI_le h hc)]
theorem rv1 {m : Option (Int32 × Mem)} {c1 z : Int32} (hM : norm M = M) (h : m = some (z, mRef M 0)) : qk (rc1 m c1) M = some z := qk_i (by
  unfold rc1
  rw [h, m_bd2, mRef_0, if_pos rfl, norm_ref, hM])
theorem rv2 {m : Option (Int32 × Mem)} {c1 c2 z : Int32} (hM : norm M = M) (h : m = some (z, mRef M 0)) : qk (rc2 m c1 c2) M = some z := qk_i (by
  unfold rc2
  rw [h, m_bd2, mRef_0, if_pos rfl, norm_ref, hM])
theorem v_about (k : Nat) (hk : k < 5) : fX12_about M (nI k) = some (M 2 k, mRef M 0) := by
  unfold fX12_about
  have q : (0 : Int32) ≤ nI k ∧ nI k ≤ 10 := ⟨nI_le (a := 0) (Nat.zero_le _) (by omega), nI_le (b := 10) (by omega) (by decide)⟩
  rw [lt_eq, in1 (lo := 0) (hi := 10) (by decide) (by decide) q, if_neg n10, ref0, m_bd2, if_pos rfl]
  rcases (show k = 0 ∨ k = 1 ∨ k = 2 ∨ k = 3 ∨ k = 4 by omega) with rfl | rfl | rfl | rfl | rfl
  · rw [if_neg (c := nI 0 = 6) (by decide), if_neg (c := nI 0 = 7) (by decide), if_neg (c := nI 0 = 8) (by decide), if_neg (c := nI 0 = 9) (by decide), if_neg (c := nI 0 = 10) (by decide), m_gd (b := inb (nI 0) 1272) (by decide), lt_eq, mRef_2, nI_clamp (by omega)]
  · rw [if_neg (c := nI 1 = 6) (by decide), if_neg (c := nI 1 = 7) (by decide), if_neg (c := nI 1 = 8) (by decide), if_neg (c := nI 1 = 9) (by decide), if_neg (c := nI 1 = 10) (by decide), m_gd (b := inb (nI 1) 1272) (by decide), lt_eq, mRef_2, nI_clamp (by omega)]
  · rw [if_neg (c := nI 2 = 6) (by decide), if_neg (c := nI 2 = 7) (by decide), if_neg (c := nI 2 = 8) (by decide), if_neg (c := nI 2 = 9) (by decide), if_neg (c := nI 2 = 10) (by decide), m_gd (b := inb (nI 2) 1272) (by decide), lt_eq, mRef_2, nI_clamp (by omega)]
  · rw [if_neg (c := nI 3 = 6) (by decide), if_neg (c := nI 3 = 7) (by decide), if_neg (c := nI 3 = 8) (by decide), if_neg (c := nI 3 = 9) (by decide), if_neg (c := nI 3 = 10) (by decide), m_gd (b := inb (nI 3) 1272) (by decide), lt_eq, mRef_2, nI_clamp (by omega)]
  · rw [if_neg (c := nI 4 = 6) (by decide), if_neg (c := nI 4 = 7) (by decide), if_neg (c := nI 4 = 8) (by decide), if_neg (c := nI 4 = 9) (by decide), if_neg (c := nI 4 = 10) (by decide), m_gd (b := inb (nI 4) 1272) (by decide), lt_eq, mRef_2, nI_clamp (by omega)]
theorem rc_25 (a b c : Int32) : rcall M 25 a b c = rc2 (fX12_restore M a) (-9999001) (-9999003) := by
  unfold rcall
  rw [if_neg (c := (25 : Int32) = 0) (by decide), if_neg (c := (25 : Int32) = 1) (by decide), if_neg (c := (25 : Int32) = 2) (by decide), if_neg (c := (25 : Int32) = 3) (by decide), if_neg (c := (25 : Int32) = 4) (by decide), if_neg (c := (25 : Int32) = 5) (by decide), if_neg (c := (25 : Int32) = 6) (by decide), if_neg (c := (25 : Int32) = 7) (by decide), if_neg (c := (25 : Int32) = 8) (by decide), if_neg (c := (25 : Int32) = 9) (by decide), if_neg (c := (25 : Int32) = 10) (by decide), if_neg (c := (25 : Int32) = 11) (by decide), if_neg (c := (25 : Int32) = 12) (by decide), if_neg (c := (25 : Int32) = 13) (by decide), if_neg (c := (25 : Int32) = 14) (by decide), if_neg (c := (25 : Int32) = 15) (by decide), if_neg (c := (25 : Int32) = 16) (by decide), if_neg (c := (25 : Int32) = 17) (by decide), if_neg (c := (25 : Int32) = 18) (by decide), if_neg (c := (25 : Int32) = 19) (by decide), if_neg (c := (25 : Int32) = 20) (by decide), if_neg (c := (25 : Int32) = 21) (by decide), if_neg (c := (25 : Int32) = 22) (by decide), if_neg (c := (25 : Int32) = 23) (by decide), if_neg (c := (25 : Int32) = 24) (by decide)]
theorem l2_k (hM : norm M = M) (k : Nat) (hk : k < 5) (b c : Int32) : qk (rcall M 2 (nI k) b c) M = some (M 2 k) := by
  rw [rc_2]; exact rv1 hM (v_about k hk)
theorem l2_0 (hM : norm M = M) : qk (rcall M 2 0 0 0) M = some (M 2 0) := l2_k hM 0 (by decide) 0 0
theorem l2_1 (hM : norm M = M) : qk (rcall M 2 1 0 0) M = some (M 2 1) := l2_k hM 1 (by decide) 0 0
theorem l2_2 (hM : norm M = M) : qk (rcall M 2 2 0 0) M = some (M 2 2) := l2_k hM 2 (by decide) 0 0
theorem l2_3 (hM : norm M = M) : qk (rcall M 2 3 0 0) M = some (M 2 3) := l2_k hM 3 (by decide) 0 0
theorem l2_4 (hM : norm M = M) : qk (rcall M 2 4 0 0) M = some (M 2 4) := l2_k hM 4 (by decide) 0 0
theorem qd {m : Nat} (h : m < 2 ^ 31) (d : Nat) (h0 : 0 < d) (hd : d < 2 ^ 31) : nI m - nI m / nI d * nI d = nI (m % d) := pk_rem h h0 hd
theorem fit1 {m : Nat} (h : m < 2 ^ 31) : badS 1 (10000 + (nI m).toInt64) := by
  refine Or.inr ?_
  rw [nI_l h]
  have e : (10000 : Int64) + lN m = lN (10000 + m) := lN_add 10000 m
  rw [e]
  have e1 : ¬ lg_cmp (lN (10000 + m)) 0 < 0 := fun q => by
    have := (pk_lLT (a := 10000 + m) (b := 0) (by omega) (by decide)).mp ((lg_cmp_lt _ 0).mp q)
    omega
  have e2 : 0 ≤ lg_cmp (lN (10000 + m)) (1 * 10000) := (lg_cmp_ge _ _).mpr ((pk_lLE (a := 10000) (b := 10000 + m) (by omega) (by omega)).mpr (by omega))
  unfold fX7_fits
  rw [fX7_fits_L5, if_neg (c := (1 : Int32) ≤ 0) (by decide), lt_eq, lt_eq, fX7_fits_L5, if_pos (c := (1 : Int32) ≤ 0 + 1) (by decide), if_neg e1, if_pos e2]
theorem big {lo hi : Int32} {a k : Nat} (hh : hi = nI a) (h : a < k) (hk : k < 2 ^ 31) : ¬ (lo ≤ nI k ∧ nI k ≤ hi) := fun q => nI_ge (a := a) (b := k) h hk (hh ▸ q.2)
theorem refuses_true (R : Rel B T S (M 2)) (hM : norm M = M) (eC : M 2 0 = nI C) (eA : M 2 1 = nI A) (hC : C ≤ 10) (hC1 : 1 ≤ C) (hA : A ≤ 8) (hA1 : 1 ≤ A) {m : Nat} (hm : m < 2 ^ 20) : fL_refuses M (nI m) = some 1 := by
  have hm' : m < 2 ^ 31 := by omega
  have e50 : nI m - nI m / 50 * 50 = nI (m % 50) := qd hm' 50 (by decide) (by decide)
  have e2 : nI m - nI m / 2 * 2 = nI (m % 2) := qd hm' 2 (by decide) (by decide)
  have e99 : nI m - nI m / 99 * 99 = nI (m % 99) := qd hm' 99 (by decide) (by decide)
  have e9 : nI m - nI m / 9 * 9 = nI (m % 9) := qd hm' 9 (by decide) (by decide)
  have e4 : nI m - nI m / 4 * 4 = nI (m % 4) := qd hm' 4 (by decide) (by decide)
  have b50 : m % 50 < 50 := Nat.mod_lt _ (by decide)
  have b9 : m % 9 < 9 := Nat.mod_lt _ (by decide)
  have b99 : m % 99 < 99 := Nat.mod_lt _ (by decide)
  have b4 : m % 4 < 4 := Nat.mod_lt _ (by decide)
  have p : ∀ (a k : Nat), (nI a : Int32) + nI k = nI (a + k) := fun a k => nI_add a k
  obtain ⟨d, hd, ed⟩ := R.glog (m % 4) b4
  have c0 : fX12_isCard (M 2) 0 = some 1 := cY R eC hC (c := 0) (by omega)
  have a0 : fX12_isAccount (M 2) 0 = some 1 := aY R eA hA (c := 0) (by omega)
  have cx : fX12_isCard (M 2) (nI (C + m % 50)) = some 0 := cN R eC (by omega) (by omega)
  have ax : fX12_isAccount (M 2) (nI (A + m % 50)) = some 0 := aN R eA (by omega) (by omega)
  obtain ⟨v, hv⟩ : ∃ v : Int32, v = (if nI (m % 2) = 0 then (-1) - nI (m % 99) else 4 + nI (m % 99)) := ⟨_, rfl⟩
  have gv : fX12_isGate v = 0 := by
    rw [hv]
    by_cases q : nI (m % 2) = 0
    · rw [if_pos q]; exact gx (ng (by omega))
    · rw [if_neg q]
      have : (4 : Int32) + nI (m % 99) = nI (4 + m % 99) := p 4 _
      rw [this]; exact gx4 (by omega) (by omega)
  obtain ⟨w, hw⟩ : ∃ w : Int32, w = (if nI (m % 2) = 0 then (-1) - nI (m % 9) else 256 + nI (m % 9)) := ⟨_, rfl⟩
  have gw : ¬ (0 ≤ w ∧ w ≤ 255) := by
    rw [hw]
    by_cases q : nI (m % 2) = 0
    · rw [if_pos q]; exact fun z => absurd (ng (k := m % 9) (by omega)) (Int32.not_lt.mpr z.1)
    · rw [if_neg q]
      have : (256 : Int32) + nI (m % 9) = nI (256 + m % 9) := p 256 _
      rw [this]; exact big (a := 255) rfl (by omega) (by omega)
  have s1 : qk (rcall M 0 w 0 0) M = some (-9999002) := qk_i (by
    show (if (0 : Int32) ≤ w ∧ w ≤ 255 then none else some ((-9999002 : Int32), norm M)) = _
    rw [if_neg gw, hM])
  have p11 : (11 : Int32) + nI (m % 50) = nI (11 + m % 50) := p 11 _
  have p4 : (4 : Int32) + nI (m % 9) = nI (4 + m % 9) := p 4 _
  have p8 : (8 : Int32) + nI (m % 9) = nI (8 + m % 9) := p 8 _
  have p12 : (12 : Int32) + nI (m % 9) = nI (12 + m % 9) := p 12 _
  have p100 : (100 : Int32) + nI (m % 9) = nI (100 + m % 9) := p 100 _
  have p10 : (10 : Int32) + nI (m % 9) = nI (10 + m % 9) := p 10 _
  have p61 : (61 : Int32) + nI (m % 9) = nI (61 + m % 9) := p 61 _
  have p2 : (2 : Int32) + nI (m % 50) = nI (2 + m % 50) := p 2 _
  have p81 : (81 : Int32) + nI (m % 9) = nI (81 + m % 9) := p 81 _
  have s2 : qk (rcall M 2 (nI (11 + m % 50)) 0 0) M = some (-9999002) := rf3 hM (x_about1 (big (a := 10) rfl (by omega) (by omega)))
  have s3 : qk (rcall M 3 (nI (C + m % 50)) 9 0) M = some (-9999001) := rf1 hM (x_card1 cx)
  have s4 : qk (rcall M 3 0 (nI (4 + m % 9)) 0) M = some (-9999002) := rf2 hM (x_card2 c0 (big (a := 3) rfl (by omega) (by omega)))
  have s5 : qk (rcall M 4 (nI (A + m % 50)) 9 0) M = some (-9999001) := rf1 hM (x_account1 ax)
  have s6 : qk (rcall M 4 0 (nI (8 + m % 9)) 0) M = some (-9999002) := rf2 hM (x_account2 a0 (big (a := 7) rfl (by omega) (by omega)))
  have s7 : qk (rcall M 5 v 9 0) M = some (-9999001) := rf1 hM (x_gate1 gv)
  have s8 : qk (rcall M 6 (nI (m % 4)) (nI (12 + m % 9)) 9) M = some (-9999001) := rf1 hM (x_loggedK b4 hd (by omega) (by omega) ed 9)
  have s9 : qk (rcall M 6 v 0 9) M = some (-9999001) := rf1 hM (x_logged1 gv)
  have s10 : qk (rcall M 7 (nI (4 + m % 9)) 0 0) M = some (-9999002) := rf3 hM (x_setting1 (big (a := 3) rfl (by omega) (by omega)))
  have s11 : qk (rcall M 8 (nI (100 + m % 9)) 0 0) M = some (-9999002) := rf1 hM (x_issue1 (big (a := 99) rfl (by omega) (by omega)))
  have s12 : qk (rcall M 9 (nI (C + m % 50)) 0 0) M = some (-9999001) := rf1 hM (x_copy1 cx)
  have s13 : qk (rcall M 10 (nI (C + m % 50)) 0 0) M = some (-9999001) := rf3 hM (x_ride1 cx)
  have s14 : qk (rcall M 10 0 v 0) M = some (-9999001) := rf3 hM (x_ride2 c0 gv)
  have s15 : qk (rcall M 11 (nI (A + m % 50)) 0 0) M = some (-9999001) := rf1 hM (x_pay1 ax)
  have s16 : qk (rcall M 11 0 (nI (100 + m % 9)) 0) M = some (-9999002) := rf2 hM (x_pay2 a0 (big (a := 99) rfl (by omega) (by omega)))
  have s17 : qk (rcall M 12 (nI (A + m % 50)) 0 0) M = some (-9999001) := rf1 hM (x_pardon1 ax)
  have s18 : qk (rcall M 13 v 0 0) M = some (-9999001) := rf1 hM (x_down1 gv)
  have s19 : qk (rcall M 14 v 0 0) M = some (-9999001) := rf1 hM (x_up1 gv)
  have s20 : qk (rcall M 15 v 0 0) M = some (-9999001) := rf3 hM (x_open1 gv)
  have s21 : qk (rcall M 16 v 0 0) M = some (-9999001) := rf1 hM (x_fare1 gv)
  have s22 : qk (rcall M 16 (nI (m % 4)) (nI (10 + m % 9)) 0) M = some (-9999002) := rf2 hM (x_fare2 (gy b4) (big (a := 9) rfl (by omega) (by omega)))
  have s23 : qk (rcall M 17 (nI (61 + m % 9)) 0 0) M = some (-9999002) := rf3 hM (x_run1 (big (a := 60) rfl (by omega) (by omega)))
  have s24 : qk (rcall M 18 (nI (m % 4)) (nI (100 + m % 9)) 0) M = some (-9999002) := rf3 hM (x_set1 (x_setting b4 (by omega) (by omega)))
  have s25 : qk (rcall M 20 (nI (C + m % 50)) v 0) M = some (-9999001) := rf3 hM (x_would1 cx)
  have s26 : qk (rcall M 21 (nI (C + m % 50)) 0 0) M = some (-9999001) := rf3 hM (x_rides1 cx)
  have s27 : qk (rcall M 22 v 9 0) M = some (-9999001) := rf1 hM (x_ifUp1 gv)
  have s28 : qk (rcall M 23 (nI (A + m % 50)) 0 0) M = some (-9999001) := rf3 hM (x_owes1 ax)
  have s29 : qk (rcall M 24 (nI (2 + m % 50)) 0 0) M = some (-9999001) := rf3 hM (x_save1 (big (a := 1) rfl (by omega) (by omega)))
  have s30 : qk (rcall M 25 ((-1) - nI (m % 9)) 0 0) M = some (-9999001) := by
    rw [rc_25]
    exact rf1 hM (x_restore1 (fun z => absurd (ng (k := m % 9) (by omega)) (Int32.not_lt.mpr z.1)))
  have s31 : qk (rsim M (nI m).toInt64 (nI (81 + m % 9))) M = some (-9999002) := rf3 hM (x_sim (big (a := 80) rfl (by omega) (by omega)))
  unfold fL_refuses
  rw [e50, e2, e99, e9, e4, l2_0 hM, m_bd, eC, lt_eq, p, l2_1 hM, m_bd, eA, lt_eq, p, lt_eq, lt_eq, ← hv, ← hw, p11, p4, p8, p12, p100, p10, p61, p2, p81, s1, m_bd, gdt rfl, s2, m_bd, gdt rfl, s3, m_bd, gdt rfl, s4, m_bd, gdt rfl, s5, m_bd, gdt rfl, s6, m_bd, gdt rfl, s7, m_bd, gdt rfl, s8, m_bd, gdt rfl, s9, m_bd, gdt rfl, s10, m_bd, gdt rfl, s11, m_bd, gdt rfl, s12, m_bd, gdt rfl, s13, m_bd, gdt rfl, s14, m_bd, gdt rfl, s15, m_bd, gdt rfl, s16, m_bd, gdt rfl, s17, m_bd, gdt rfl, s18, m_bd, gdt rfl, s19, m_bd, gdt rfl, s20, m_bd, gdt rfl, s21, m_bd, gdt rfl, s22, m_bd, gdt rfl, s23, m_bd, gdt rfl, s24, m_bd, gdt rfl, s25, m_bd, gdt rfl, s26, m_bd, gdt rfl, s27, m_bd, gdt rfl, s28, m_bd, gdt rfl, s29, m_bd, gdt rfl, s30, m_bd, gdt rfl, gdp_i (show badS 0 0 from Or.inl (by decide)), gdp_i (fit1 hm'), s31, m_bd, gdt rfl]
end RV
