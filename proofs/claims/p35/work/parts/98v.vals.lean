
/-! what the calls answer that only ask, by number -/
section VALS
variable {n B T : Nat} {M : Mem} {S : Mem} {A C : Nat}
def blv (r : Nat → Int32) (a : Nat) : Int32 := if r (52 + 4 * a) < 0 then 1 else if r (54 + 4 * a) = 1 then 1 else 0
theorem bl_v (r : Nat → Int32) {a : Nat} (ha : a < 8) : fX12_isBlocked r (nI a) = some (blv r a) := by
  unfold fX12_isBlocked blv
  simp only [lt_eq]
  rw [gA0 ha, kA0 ha, gA2 ha, kA2 ha]
  by_cases c : r (52 + 4 * a) < 0
  · rw [if_pos c, if_pos c]
  · rw [if_neg c, if_neg c]
    by_cases c2 : r (54 + 4 * a) = 1
    · rw [if_pos c2, if_pos c2]
    · rw [if_neg c2, if_neg c2]
theorem bl_set {r : Nat → Int32} (R : Rel B T S r) : ∃ m, fX12_blocked r = some m ∧ ∀ a, a < 8 → nI a < r 1 → ((m >>> (nI a &&& 31)) &&& 1) = blv r a := by
  obtain ⟨m, h1, h2⟩ := r_set R
  refine ⟨m, (r_blocked R).trans h1, fun a ha hA => ?_⟩
  rw [h2 a ha hA]
  exact Option.some.inj ((r_isBlocked R ha).symm.trans (bl_v r ha))
theorem acc_pre (R : Rel B T S (M 2)) (e1 : M 2 1 = nI A) (hA : A ≤ 8) {a : Nat} (ha : a < A) {f : Int32} (q : 0 ≤ f ∧ f ≤ 7) {z : Int32} (h : (lt_ (fX12_accountAt (nI a)) fun x55 =>
        if f = 0 then
          gd (inb (x55 + f) 1272) <|
          lt_ (mRef M 0 2 ((x55 + f) : Int32).toNatClampNeg) fun x59 =>
          some (x59, mRef M 0)
        else if f = 1 then
          gd (inb (x55 + f) 1272) <|
          lt_ (mRef M 0 2 ((x55 + f) : Int32).toNatClampNeg) fun x63 =>
          some (x63, mRef M 0)
        else if f = 2 then
          gd (inb (x55 + 3) 1272) <|
          lt_ (mRef M 0 2 ((x55 + 3) : Int32).toNatClampNeg) fun x67 =>
          some (x67, mRef M 0)
        else if f = 3 then
          gd (inb (x55 + 2) 1272) <|
          lt_ (mRef M 0 2 ((x55 + 2) : Int32).toNatClampNeg) fun x71 =>
          some (x71, mRef M 0)
        else if f = 4 then
          bd (fX12_isBlocked (mRef M 0 2) (nI a)) fun x75 =>
          if x75 = 0 then
            some (0, mRef M 0)
          else
            some (1, mRef M 0)
        else if f = 5 then
          bd (fX12_cardsOf (mRef M 0 2) (nI a)) fun x80 =>
          some (x80, mRef M 0)
        else 
        if f = 7 then
          bd (fX12_inLogs (mRef M 0 2) (nI a) 1) fun x87 =>
          some (x87, mRef M 0)
        else
          bd (fX12_inLogs (mRef M 0 2) (nI a) 0) fun x84 =>
          some (x84, mRef M 0)) = some (z, mRef M 0)) (hM : norm M = M) (c : Int32) : qk (rcall M 4 (nI a) f c) M = some z := by
  rw [rc_4]
  refine rv2 hM ?_
  unfold fX12_account
  rw [aY R e1 hA ha, m_bd, if_neg n10, lt_eq, in1 (lo := 0) (hi := 7) (by decide) (by decide) q, if_neg n10, ref0, m_bd2, if_pos rfl]
  exact h
theorem l4_0 (R : Rel B T S (M 2)) (e1 : M 2 1 = nI A) (hA : A ≤ 8) {a : Nat} (ha : a < A) (hM : norm M = M) (c : Int32) : qk (rcall M 4 (nI a) 0 c) M = some (M 2 (52 + 4 * a)) := acc_pre R e1 hA ha (by decide) (by
  have ha8 : a < 8 := by omega
  rw [lt_eq, if_pos rfl, gA0 ha8, kA0 ha8, lt_eq]
  rfl) hM c
theorem l4_1 (R : Rel B T S (M 2)) (e1 : M 2 1 = nI A) (hA : A ≤ 8) {a : Nat} (ha : a < A) (hM : norm M = M) (c : Int32) : qk (rcall M 4 (nI a) 1 c) M = some (M 2 (53 + 4 * a)) := acc_pre R e1 hA ha (by decide) (by
  have ha8 : a < 8 := by omega
  rw [lt_eq, if_neg n10, if_pos rfl, gA1 ha8, kA1 ha8, lt_eq]
  rfl) hM c
theorem l4_2 (R : Rel B T S (M 2)) (e1 : M 2 1 = nI A) (hA : A ≤ 8) {a : Nat} (ha : a < A) (hM : norm M = M) (c : Int32) : qk (rcall M 4 (nI a) 2 c) M = some (M 2 (55 + 4 * a)) := acc_pre R e1 hA ha (by decide) (by
  have ha8 : a < 8 := by omega
  rw [lt_eq, if_neg (by decide), if_neg (by decide), if_pos rfl, gA3 ha8, kA3 ha8, lt_eq]
  rfl) hM c
theorem l4_3 (R : Rel B T S (M 2)) (e1 : M 2 1 = nI A) (hA : A ≤ 8) {a : Nat} (ha : a < A) (hM : norm M = M) (c : Int32) : qk (rcall M 4 (nI a) 3 c) M = some (M 2 (54 + 4 * a)) := acc_pre R e1 hA ha (by decide) (by
  have ha8 : a < 8 := by omega
  rw [lt_eq, if_neg (by decide), if_neg (by decide), if_neg (by decide), if_pos rfl, gA2 ha8, kA2 ha8, lt_eq]
  rfl) hM c
theorem l4_4 (R : Rel B T S (M 2)) (e1 : M 2 1 = nI A) (hA : A ≤ 8) {a : Nat} (ha : a < A) (hM : norm M = M) (c : Int32) : qk (rcall M 4 (nI a) 4 c) M = some (blv (M 2) a) := acc_pre R e1 hA ha (by decide) (by
  have ha8 : a < 8 := by omega
  rw [lt_eq, if_neg (by decide), if_neg (by decide), if_neg (by decide), if_neg (by decide), if_pos rfl, show mRef M 0 2 = M 2 from rfl, bl_v _ ha8, m_bd]
  unfold blv
  split
  · rfl
  · split
    · rfl
    · rfl) hM c
theorem l4_5 (R : Rel B T S (M 2)) (e1 : M 2 1 = nI A) (hA : A ≤ 8) {a : Nat} (ha : a < A) (hM : norm M = M) (e0 : M 2 0 = nI C) (hC : C ≤ 10) (c : Int32) : qk (rcall M 4 (nI a) 5 c) M = some (CO (M 2) C (nI a)) := acc_pre R e1 hA ha (by decide) (by
  rw [lt_eq, if_neg (by decide), if_neg (by decide), if_neg (by decide), if_neg (by decide), if_neg (by decide), if_pos rfl, show mRef M 0 2 = M 2 from rfl, co_v hC e0, m_bd]) hM c
theorem l4_6 (R : Rel B T S (M 2)) (e1 : M 2 1 = nI A) (hA : A ≤ 8) {a : Nat} (ha : a < A) (hM : norm M = M) {d : Nat → Nat} (hd : Sz (M 2) d) (c : Int32) : qk (rcall M 4 (nI a) 6 c) M = some (lgS (M 2) d (nI a) 0) := acc_pre R e1 hA ha (by decide) (by
  rw [lt_eq, if_neg (by decide), if_neg (by decide), if_neg (by decide), if_neg (by decide), if_neg (by decide), if_neg (by decide), if_neg (by decide), show mRef M 0 2 = M 2 from rfl, in_v hd, m_bd]) hM c
theorem l4_7 (R : Rel B T S (M 2)) (e1 : M 2 1 = nI A) (hA : A ≤ 8) {a : Nat} (ha : a < A) (hM : norm M = M) {d : Nat → Nat} (hd : Sz (M 2) d) (c : Int32) : qk (rcall M 4 (nI a) 7 c) M = some (lgS (M 2) d (nI a) 1) := acc_pre R e1 hA ha (by decide) (by
  rw [lt_eq, if_neg (by decide), if_neg (by decide), if_neg (by decide), if_neg (by decide), if_neg (by decide), if_neg (by decide), if_pos rfl, show mRef M 0 2 = M 2 from rfl, in_v hd, m_bd]) hM c
theorem l2_6 (hM : norm M = M) {d : Nat → Nat} (hd : Sz (M 2) d) (b c : Int32) : qk (rcall M 2 6 b c) M = some (lgS (M 2) d (-1) 0) := by
  rw [rc_2]
  refine rv1 hM ?_
  unfold fX12_about
  rw [lt_eq, in1 (x := 6) (lo := 0) (hi := 10) (by decide) (by decide) (by decide), if_neg n10, ref0, m_bd2, if_pos rfl, if_pos rfl, if_neg (by decide), show mRef M 0 2 = M 2 from rfl, in_v hd, m_bd]
theorem l2_7 (hM : norm M = M) {d : Nat → Nat} (hd : Sz (M 2) d) (b c : Int32) : qk (rcall M 2 7 b c) M = some (lgS (M 2) d (-1) 1) := by
  rw [rc_2]
  refine rv1 hM ?_
  unfold fX12_about
  rw [lt_eq, in1 (x := 7) (lo := 0) (hi := 10) (by decide) (by decide) (by decide), if_neg n10, ref0, m_bd2, if_pos rfl, if_neg (by decide), if_pos rfl, if_pos rfl, show mRef M 0 2 = M 2 from rfl, in_v hd, m_bd]
theorem l2_10 (hM : norm M = M) {m : Int32} (hb : fX12_blocked (M 2) = some m) (b c : Int32) : qk (rcall M 2 10 b c) M = some m := by
  rw [rc_2]
  refine rv1 hM ?_
  unfold fX12_about
  rw [lt_eq, in1 (x := 10) (lo := 0) (hi := 10) (by decide) (by decide) (by decide), if_neg n10, ref0, m_bd2, if_pos rfl, if_neg (by decide), if_neg (by decide), if_neg (by decide), if_neg (by decide), if_pos rfl, show mRef M 0 2 = M 2 from rfl, hb, m_bd]
theorem l5_1 {g : Nat} (hg : g < 4) (hM : norm M = M) (c : Int32) : qk (rcall M 5 (nI g) 1 c) M = some (M 2 (85 + 5 * g)) := by
  rw [rc_5]
  refine rv2 hM ?_
  unfold fX12_gate
  rw [lt_eq, gy hg, if_neg n10, lt_eq, in1 (x := 1) (lo := 0) (hi := 4) (by decide) (by decide) (by decide), if_neg n10, ref0, m_bd2, if_pos rfl, if_neg (by decide), lt_eq, gG1 hg, kG1 hg, lt_eq]
  rfl
theorem l5_2 {g : Nat} (hg : g < 4) (hM : norm M = M) (c : Int32) : qk (rcall M 5 (nI g) 2 c) M = some (M 2 (86 + 5 * g)) := by
  rw [rc_5]
  refine rv2 hM ?_
  unfold fX12_gate
  rw [lt_eq, gy hg, if_neg n10, lt_eq, in1 (x := 2) (lo := 0) (hi := 4) (by decide) (by decide) (by decide), if_neg n10, ref0, m_bd2, if_pos rfl, if_neg (by decide), lt_eq, gG2 hg, kG2 hg, lt_eq]
  rfl
theorem l5_3 {g : Nat} (hg : g < 4) (hM : norm M = M) (c : Int32) : qk (rcall M 5 (nI g) 3 c) M = some (M 2 (87 + 5 * g)) := by
  rw [rc_5]
  refine rv2 hM ?_
  unfold fX12_gate
  rw [lt_eq, gy hg, if_neg n10, lt_eq, in1 (x := 3) (lo := 0) (hi := 4) (by decide) (by decide) (by decide), if_neg n10, ref0, m_bd2, if_pos rfl, if_neg (by decide), lt_eq, gG3 hg, kG3 hg, lt_eq]
  rfl
theorem l5_4 {g : Nat} (hg : g < 4) (hM : norm M = M) (u : M 2 (85 + 5 * g) = 1) {m : Int32} (hb : fX12_blocked (M 2) = some m) (c : Int32) : qk (rcall M 5 (nI g) 4 c) M = some m := by
  rw [rc_5]
  refine rv2 hM ?_
  unfold fX12_gate fX12_list
  rw [lt_eq, gy hg, if_neg n10, lt_eq, in1 (x := 4) (lo := 0) (hi := 4) (by decide) (by decide) (by decide), if_neg n10, ref0, m_bd2, if_pos rfl, if_pos rfl, show mRef M 0 2 = M 2 from rfl, iu1 hg u, m_bd, if_neg n10, hb, m_bd, m_bd]
theorem l6_in {g : Nat} (hg : g < 4) (hM : norm M = M) {k d : Nat} (hd : d ≤ 12) (hk : k < d) (ed : M 2 (87 + 5 * g) = nI d) {j : Nat} (hj : j < 3) : qk (rcall M 6 (nI g) (nI k) (nI j)) M = some (M 2 (104 + 36 * g + 3 * k + j)) := by
  have i := mx (aL g k j) (show 104 + 36 * g + 3 * k + j < 1272 by omega) (by decide)
  rw [rc_6]
  refine rv2 hM ?_
  unfold fX12_logged
  rw [lt_eq, gy hg, if_neg n10, lt_eq, gG3 hg, lt_eq, kG3 hg, ed, lt_eq, in_many (C := d) _ (by omega) rfl, if_neg (nI_pos (by omega)), if_neg (nI_ge hk (by omega)), if_neg n10, lt_eq, in1 (lo := 0) (hi := 2) (by decide) (by decide) ⟨nI_le (a := 0) (Nat.zero_le _) (by omega), nI_le (b := 2) (by omega) (by decide)⟩, if_neg n10, ref0, m_bd2, if_pos rfl, lt_eq, m_gd i.1, i.2, lt_eq]
  rfl
theorem l6_out {g : Nat} (hg : g < 4) (hM : norm M = M) {d : Nat} (hd : d ≤ 12) (ed : M 2 (87 + 5 * g) = nI d) (c : Int32) : qk (rcall M 6 (nI g) (nI d) c) M = some (-9999001) := by
  rw [rc_6]
  exact rf1 hM (x_loggedK hg hd (Nat.le_refl d) (by omega) ed c)
theorem l3_0 (R : Rel B T S (M 2)) (e0 : M 2 0 = nI C) (hC : C ≤ 10) {k : Nat} (hk : k < C) (hM : norm M = M) (c : Int32) : qk (rcall M 3 (nI k) 0 c) M = some (M 2 (12 + 4 * k)) := by
  have hk10 : k < 10 := by omega
  rw [rc_3]
  refine rv2 hM ?_
  unfold fX12_card
  rw [cY R e0 hC hk, m_bd, if_neg n10, lt_eq, in1 (x := 0) (lo := 0) (hi := 3) (by decide) (by decide) (by decide), if_neg n10, ref0, m_bd2, if_pos rfl, lt_eq, gC0 hk10, kC0 hk10, lt_eq, if_neg (by decide), Int32.sub_zero]
  rfl
theorem l3_2 (R : Rel B T S (M 2)) (e0 : M 2 0 = nI C) (hC : C ≤ 10) {k : Nat} (hk : k < C) (hM : norm M = M) (c : Int32) : qk (rcall M 3 (nI k) 2 c) M = some (M 2 (14 + 4 * k)) := by
  have hk10 : k < 10 := by omega
  rw [rc_3]
  refine rv2 hM ?_
  unfold fX12_card
  rw [cY R e0 hC hk, m_bd, if_neg n10, lt_eq, in1 (x := 2) (lo := 0) (hi := 3) (by decide) (by decide) (by decide), if_neg n10, ref0, m_bd2, if_pos rfl, lt_eq, gC2 hk10, kC2 hk10, lt_eq, if_neg (by decide), Int32.sub_zero]
  rfl
theorem l3_3 (R : Rel B T S (M 2)) (e0 : M 2 0 = nI C) (hC : C ≤ 10) {k : Nat} (hk : k < C) (hM : norm M = M) (c : Int32) : qk (rcall M 3 (nI k) 3 c) M = some (M 2 (15 + 4 * k) - 1) := by
  have hk10 : k < 10 := by omega
  rw [rc_3]
  refine rv2 hM ?_
  unfold fX12_card
  rw [cY R e0 hC hk, m_bd, if_neg n10, lt_eq, in1 (x := 3) (lo := 0) (hi := 3) (by decide) (by decide) (by decide), if_neg n10, ref0, m_bd2, if_pos rfl, lt_eq, gC3 hk10, kC3 hk10, lt_eq, if_pos rfl]
  rfl
/-- what a line that comes up would bring -/
theorem br_v (h : Re n M) (jm : JM n M) (hn : n ≤ 850) {g : Nat} (hg : g < 4) {r' : Nat → Int32} {m : Int32} (hr : (M 2 (85 + 5 * g) = 1 ∧ r' = M 2) ∨ (M 2 (85 + 5 * g) = 0 ∧ ∃ z, fX12_upOn (M 2) (nI g) = some (z, r'))) (hb : fX12_blocked r' = some m) : qk (rcall M 22 (nI g) 0 0) M = some (r' 3 - M 2 3) ∧ qk (rcall M 22 (nI g) 1 0) M = some (r' 5 - M 2 5) ∧ qk (rcall M 22 (nI g) 2 0) M = some m ∧ qk (rcall M 22 (nI g) 3 0) M = some (r' 4 - M 2 4) := by
  have hM := h.2
  have key : ∃ M', M' 0 0 = 0 ∧ ∀ j, fX12_brings (mRef M 0) (nI g) j = if j = 0 then some (r' 3 - M 2 3, M') else if j = 1 then some (r' 5 - M 2 5, M') else if j = 2 then some (m, M') else some (r' 4 - M 2 4, M') := by
    rcases hr with ⟨u, rfl⟩ | ⟨u, z, e⟩
    · refine ⟨va_up (mRef M 0) 4 (M 2), rfl, fun j => ?_⟩
      unfold fX12_brings
      rw [fcp00, m_bd, lt_eq, va_up_s, show mRef M 0 2 = M 2 from rfl, show mRef M 0 4 = M 4 from rfl, row4 hM jm.1.t, iu1 hg u, m_bd, if_neg n10, hb, m_bd]
      simp only [lt_eq]
      rw [gN3, kN3, gN5, kN5, gN4, kN4]
      rfl
    · refine ⟨va_up (va_up (mRef M 0) 4 (M 2)) 4 r', rfl, fun j => ?_⟩
      unfold fX12_brings
      rw [fcp00, m_bd, lt_eq, va_up_s, show mRef M 0 2 = M 2 from rfl, show mRef M 0 4 = M 4 from rfl, row4 hM jm.1.t, iu0 hg u, m_bd, if_pos rfl, e, m_bd2, lt_eq, va_up_s, hb, m_bd]
      simp only [lt_eq]
      rw [gN3, kN3, gN5, kN5, gN4, kN4]
      rfl
  obtain ⟨M', h0, e⟩ := key
  have main : ∀ (j : Int32) (z : Int32), 0 ≤ j ∧ j ≤ 3 → fX12_brings (mRef M 0) (nI g) j = some (z, M') → qk (rcall M 22 (nI g) j 0) M = some z := fun j z q b => by
    have l := lo_22 h hn (nI g) j 0
    rw [rc_22] at l ⊢
    refine qv2 l (S' := M') ?_ h0
    unfold fX12_ifUp
    rw [lt_eq, gy hg, if_neg n10, lt_eq, in1 (lo := 0) (hi := 3) (by decide) (by decide) q, if_neg n10, ref0, m_bd2, if_pos rfl, b, m_bd2]
  refine ⟨main 0 _ (by decide) ((e 0).trans (if_pos rfl)), main 1 _ (by decide) ((e 1).trans ((if_neg (by decide)).trans (if_pos rfl))), main 2 _ (by decide) ((e 2).trans ((if_neg (by decide)).trans ((if_neg (by decide)).trans (if_pos rfl)))), main 3 _ (by decide) ((e 3).trans ((if_neg (by decide)).trans ((if_neg (by decide)).trans (if_neg (by decide)))))⟩
set_option maxRecDepth 20000 in
theorem owes_p (hB : B < 1024) {a : Nat} (ha : a < 8) : ∀ (m g N T : Nat) (S M : Mem), g + m = 4 → m < N → T + 1188 * m < 2 ^ 29 → Rel B T S (M 3) → ∃ y M', fX12_owes_L40 N M (nI a) (nI g) = some (y, M') ∧ M' 0 = M 0 ∧ ¬ y < 0 := by
  intro m
  induction m with
  | zero =>
    intro g N T S M hg hN hT R
    obtain ⟨N, rfl⟩ : ∃ m, N = m + 1 := ⟨N - 1, by omega⟩
    obtain rfl : g = 4 := by omega
    rw [fX12_owes_L40, if_pos (c := 4 ≤ nI 4) (by decide)]
    simp only [lt_eq]
    rw [gA0 ha, kA0 ha]
    have hb := R.mbal a ha
    generalize M 3 (52 + 4 * a) = b at hb ⊢
    have e0 : (0 : Int32).toInt = 0 := by decide
    have en : (-b).toInt = -b.toInt := by
      rw [← Int32.zero_sub, my_sub (by rw [e0]; have := hb.1; have := hb.2; omega) (by rw [e0]; have := hb.1; have := hb.2; omega), e0]
      omega
    by_cases c : 0 ≤ b
    · rw [if_pos c]
      exact ⟨0, M, rfl, rfl, by decide⟩
    · rw [if_neg c]
      refine ⟨-b, M, rfl, rfl, fun q => ?_⟩
      have h1 := Int32.lt_iff_toInt_lt.mp q
      have h2 : ¬ (0 : Int32).toInt ≤ b.toInt := fun h => c (Int32.le_iff_toInt_le.mpr h)
      rw [en, e0] at h1
      rw [e0] at h2
      omega
  | succ m ih =>
    intro g N T S M hg hN hT R
    obtain ⟨N, rfl⟩ : ∃ m, N = m + 1 := ⟨N - 1, by omega⟩
    have hg4 : g < 4 := by omega
    obtain ⟨z, r', S', h1, h2, R', -⟩ := r_tryUp R hB (by omega) hg4
    rw [fX12_owes_L40, if_neg (c := 4 ≤ nI g) (nI_ge (b := 4) hg4 (by decide)), h1, m_bd2]
    simp only [lt_eq]
    rw [nI_1]
    obtain ⟨y, M', a2, a3, a4⟩ := ih (g + 1) N (T + 1188) S' (va_up M 3 r') (by omega) (by omega) (by omega) (by rw [va_up_s]; exact R')
    exact ⟨y, M', a2, a3.trans rfl, a4⟩
theorem ow_v (h : Re n M) (jm : JM n M) (hn : n ≤ 850) (R : Rel n (150000 * n) S (M 2)) (e1 : M 2 1 = nI A) (hA : A ≤ 8) {a : Nat} (ha : a < A) : ∃ y, qk (rcall M 23 (nI a) 0 0) M = some y ∧ ¬ y < 0 := by
  obtain ⟨y, M', e, e2, e3⟩ := owes_p (B := n) (by omega) (show a < 8 by omega) 4 0 3000 (150000 * n) S (va_up (mRef M 0) 3 (M 2)) (by omega) (by omega) (by omega) (by rw [va_up_s]; exact R)
  rw [nI_0] at e
  have l := lo_23 h hn (nI a) 0 0
  rw [rc_23] at l ⊢
  refine ⟨y, qv1 l (S' := M') ?_ (by rw [e2]; rfl), e3⟩
  unfold fX12_owes
  rw [aY R e1 hA ha, m_bd, if_neg n10, ref0, m_bd2, if_pos rfl, fcp00, m_bd, lt_eq, show mRef M 0 2 = M 2 from rfl, show mRef M 0 3 = M 3 from rfl, row3 h.2 jm.1.t]
  exact e
end VALS
