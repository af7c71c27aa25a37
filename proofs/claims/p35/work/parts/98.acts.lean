
/-! the law's calls that act, over the model's memory -/
section ACTS
variable {n B T : Nat} {M : Mem} {S : Mem}
theorem rc_8 (a b c : Int32) : rcall M 8 a b c = rc2 (fX12_issue M a) (-9999002) (-9999003) := rfl
theorem rc_9 (a b c : Int32) : rcall M 9 a b c = rc2 (fX12_copy M a) (-9999001) (-9999003) := rfl
theorem rc_10 (a b c : Int32) : rcall M 10 a b c = rc1 (fX12_ride M a b) (-9999001) := rfl
theorem rc_11 (a b c : Int32) : rcall M 11 a b c = rc2 (fX12_pay M a b) (-9999001) (-9999002) := rfl
theorem rc_12 (a b c : Int32) : rcall M 12 a b c = rc2 (fX12_pardon M a) (-9999001) (-9999003) := rfl
theorem rc_13 (a b c : Int32) : rcall M 13 a b c = rc2 (fX12_down M a) (-9999001) (-9999003) := rfl
theorem rc_14 (a b c : Int32) : rcall M 14 a b c = rc2 (fX12_up M a) (-9999001) (-9999003) := rfl
theorem rc_15 (a b c : Int32) : rcall M 15 a b c = rc1 (fX12_open M a) (-9999001) := rfl
theorem rc_16 (a b c : Int32) : rcall M 16 a b c = rc2 (fX12_fare M a b) (-9999001) (-9999002) := rfl
theorem rc_17 (a b c : Int32) : rcall M 17 a b c = rc1 (fX12_run M a) (-9999002) := rfl
theorem rc_18 (a b c : Int32) : rcall M 18 a b c = rc1 (fX12_set M a b) (-9999002) := rfl
theorem rc_19 (a b c : Int32) : rcall M 19 a b c = rc1 (fX12_undo M) (-9999003) := rfl
theorem rc_24 (a b c : Int32) : rcall M 24 a b c = rc1 (fX12_save M a) (-9999001) := rfl
theorem dn1 (jm : JM n M) (hM : norm M = M) {m : Option (Int32 × Mem)} {c1 c2 : Int32} (h : m = some (0, mRef M 1)) : Done n M (rc2 m c1 c2) := ⟨c1, M, qk_e (rf1 hM h), jm.mono (by omega), hM, id⟩
theorem dn2 (jm : JM n M) (hM : norm M = M) {m : Option (Int32 × Mem)} {c1 c2 : Int32} (h : m = some (0, mRef M 2)) : Done n M (rc2 m c1 c2) := ⟨c2, M, qk_e (rf2 hM h), jm.mono (by omega), hM, id⟩
theorem dn3 (jm : JM n M) (hM : norm M = M) {m : Option (Int32 × Mem)} {c1 : Int32} (h : m = some (0, mRef M 1)) : Done n M (rc1 m c1) := ⟨c1, M, qk_e (rf3 hM h), jm.mono (by omega), hM, id⟩
/-- an action that is done: the row behind it -/
theorem ok2 (R : Rel B T S (M 2)) (jm : JM n M) {m : Option (Int32 × Mem)} {c1 c2 x : Int32} {r' : Nat → Int32} (hm : ∀ S1, fX12_remember (mRef M 0) = some S1 → S1 2 = M 2 → m = some (x, va_up S1 2 r')) (hj : JJ (1000 * (n + 1)) r') {C C' : Nat} (e0 : M 2 0 = nI C) (hC : C ≤ 10) (e' : r' 0 = nI C') (h1 : C ≤ C') (h2 : C' ≤ C + 1) (h3 : C' ≤ 10) : ∃ M', rc2 m c1 c2 = some (x, M') ∧ JM (n + 1) M' ∧ norm M' = M' ∧ (Pos M → Pos M') ∧ M' 2 = r' ∧ ∃ zz, zz < 14 ∧ M' 0 7 = nI (zz + 1) ∧ rowD M' zz = M 2 := by
  obtain ⟨S1, s1, s2, s3, s4⟩ := jm_core jm
  obtain ⟨u1, u2, u3⟩ := s4 r' C' hj e' h3 (fun D hD q => by
    have : D = C := (nI_eq (by omega) (by omega)).mp (q.symm.trans e0)
    omega)
  exact ⟨_, rc2_ok (hm S1 s1 s2) s3, u1, norm_norm _, pos_of u2 e' e0 hC h3 h1, u2, u3⟩
theorem ok1 (R : Rel B T S (M 2)) (jm : JM n M) {m : Option (Int32 × Mem)} {c1 x : Int32} {r' : Nat → Int32} (hm : ∀ S1, fX12_remember (mRef M 0) = some S1 → S1 2 = M 2 → m = some (x, va_up S1 2 r')) (hj : JJ (1000 * (n + 1)) r') {C C' : Nat} (e0 : M 2 0 = nI C) (hC : C ≤ 10) (e' : r' 0 = nI C') (h1 : C ≤ C') (h2 : C' ≤ C + 1) (h3 : C' ≤ 10) : ∃ M', rc1 m c1 = some (x, M') ∧ JM (n + 1) M' ∧ norm M' = M' ∧ (Pos M → Pos M') ∧ M' 2 = r' ∧ ∃ zz, zz < 14 ∧ M' 0 7 = nI (zz + 1) ∧ rowD M' zz = M 2 := by
  obtain ⟨S1, s1, s2, s3, s4⟩ := jm_core jm
  obtain ⟨u1, u2, u3⟩ := s4 r' C' hj e' h3 (fun D hD q => by
    have : D = C := (nI_eq (by omega) (by omega)).mp (q.symm.trans e0)
    omega)
  exact ⟨_, rc1_ok (hm S1 s1 s2) s3, u1, norm_norm _, pos_of u2 e' e0 hC h3 h1, u2, u3⟩
theorem ci1 {r : Nat → Int32} {C A : Nat} (e0 : r 0 = nI C) (e1 : r 1 = nI A) (hC : C < 10) (hA : A < 8) : fX12_canIssue r = some 1 := by
  unfold fX12_canIssue
  rw [gN1, lt_eq, kN1, e1, if_neg (c := 8 ≤ nI A) (nI_ge (b := 8) hA (by decide)), gN0, lt_eq, kN0, e0, if_neg (c := 10 ≤ nI C) (nI_ge (b := 10) hC (by decide))]
theorem ci0 {r : Nat → Int32} {C A : Nat} (e0 : r 0 = nI C) (e1 : r 1 = nI A) (hC : C ≤ 10) (hA : A ≤ 8) (h : ¬ (C < 10 ∧ A < 8)) : fX12_canIssue r = some 0 := by
  unfold fX12_canIssue
  rw [gN1, lt_eq, kN1, e1]
  by_cases q : A < 8
  · rw [if_neg (c := 8 ≤ nI A) (nI_ge (b := 8) q (by decide)), gN0, lt_eq, kN0, e0, if_pos (c := 10 ≤ nI C) (nI_le (a := 10) (by omega) (by omega))]
  · rw [if_pos (c := 8 ≤ nI A) (nI_le (a := 8) (by omega) (by omega))]
theorem a_issue (R : Rel B T S (M 2)) (hT : T < 2 ^ 30) (jm : JM n M) (hM : norm M = M) {v : Nat} (hv : v ≤ 99) (b c : Int32) : Done n M (rcall M 8 (nI v) b c) ∧ ∀ C A, C < 10 → A < 8 → M 2 0 = nI C → M 2 1 = nI A → ∃ M', rcall M 8 (nI v) b c = some (nI C, M') ∧ M' 2 0 = nI (C + 1) ∧ M' 2 1 = nI (A + 1) := by
  have q : (0 : Int32) ≤ nI v ∧ nI v ≤ 99 := ⟨nI_le (a := 0) (Nat.zero_le _) (by omega), nI_le (b := 99) hv (by decide)⟩
  have go : ∀ C A, C < 10 → A < 8 → M 2 0 = nI C → M 2 1 = nI A → ∃ M', rcall M 8 (nI v) b c = some (nI C, M') ∧ JM (n + 1) M' ∧ norm M' = M' ∧ (Pos M → Pos M') ∧ M' 2 0 = nI (C + 1) ∧ M' 2 1 = nI (A + 1) := fun C A hC hA e0 e1 => by
    obtain ⟨r', w1, w2, w3, w4⟩ := j_issue R jm.1 hT hC hA e0 e1 (nI v)
    obtain ⟨M', u1, u2, u3, u4, u5, -⟩ := ok2 (c1 := -9999002) (c2 := -9999003) (m := fX12_issue M (nI v)) (x := nI C) (r' := r') R jm (fun S1 s1 s2 => by
      unfold fX12_issue
      rw [lt_eq, in1 (lo := 0) (hi := 99) (by decide) (by decide) q, if_neg n10, ci1 e0 e1 hC hA, m_bd, if_neg n10, ref0, m_bd2, if_pos rfl, s1, m_bd, s2, w1, m_bd2, lt_eq]) (w2.mono (by omega)) e0 (by omega) w3 (by omega) (by omega) (by omega)
    exact ⟨M', u1, u2, u3, u4, by rw [u5]; exact w3, by rw [u5]; exact w4⟩
  refine ⟨?_, fun C A hC hA e0 e1 => by
    obtain ⟨M', u1, -, -, -, u5, u6⟩ := go C A hC hA e0 e1
    exact ⟨M', u1, u5, u6⟩⟩
  obtain ⟨C, hC, e0⟩ := R.cC
  obtain ⟨A, hA, e1⟩ := R.cA
  by_cases room : C < 10 ∧ A < 8
  · obtain ⟨M', u1, u2, u3, u4, -⟩ := go C A room.1 room.2 e0 e1
    exact ⟨_, M', u1, u2, u3, u4⟩
  · rw [rc_8]
    refine dn2 jm hM ?_
    unfold fX12_issue
    rw [lt_eq, in1 (lo := 0) (hi := 99) (by decide) (by decide) q, if_neg n10, ci0 e0 e1 hC hA room, m_bd, if_pos rfl, ref2, m_bd2, if_neg n10]
theorem cc1 (R : Rel B T S (M 2)) {C k : Nat} (e0 : M 2 0 = nI C) (hk : k < C) (hC : C < 10) : fX12_canCopy (M 2) (nI k) = some 1 := by
  unfold fX12_canCopy
  rw [cY R e0 (by omega) hk, m_bd, if_neg n10, gN0, lt_eq, kN0, e0, if_neg (c := 10 ≤ nI C) (nI_ge (b := 10) hC (by decide))]
theorem cc0 (R : Rel B T S (M 2)) {C k : Nat} (e0 : M 2 0 = nI C) (hk : k < C) (hC : C ≤ 10) (h : ¬ C < 10) : fX12_canCopy (M 2) (nI k) = some 0 := by
  unfold fX12_canCopy
  rw [cY R e0 hC hk, m_bd, if_neg n10, gN0, lt_eq, kN0, e0, if_pos (c := 10 ≤ nI C) (nI_le (a := 10) (by omega) (by omega))]
theorem a_copy (R : Rel B T S (M 2)) (jm : JM n M) (hM : norm M = M) {k : Nat} (hk : k < 2 ^ 31) (b c : Int32) : Done n M (rcall M 9 (nI k) b c) ∧ ∀ C, k < C → C < 10 → M 2 0 = nI C → ∃ M', rcall M 9 (nI k) b c = some (nI C, M') ∧ M' 2 0 = nI (C + 1) ∧ M' 2 1 = M 2 1 := by
  have go : ∀ C, k < C → C < 10 → M 2 0 = nI C → ∃ M', rcall M 9 (nI k) b c = some (nI C, M') ∧ JM (n + 1) M' ∧ norm M' = M' ∧ (Pos M → Pos M') ∧ M' 2 0 = nI (C + 1) ∧ M' 2 1 = M 2 1 := fun C hkC hC e0 => by
    obtain ⟨r', w1, w2, w3, w4⟩ := j_copy jm.1 hC hkC e0
    obtain ⟨M', u1, u2, u3, u4, u5, -⟩ := ok2 (c1 := -9999001) (c2 := -9999003) (m := fX12_copy M (nI k)) (x := nI C) (r' := r') R jm (fun S1 s1 s2 => by
      unfold fX12_copy
      rw [cY R e0 (by omega) hkC, m_bd, if_neg n10, cc1 R e0 hkC hC, m_bd, if_neg n10, ref0, m_bd2, if_pos rfl, s1, m_bd, s2, w1, m_bd2, lt_eq]) (w2.mono (by omega)) e0 (by omega) w3 (by omega) (by omega) (by omega)
    exact ⟨M', u1, u2, u3, u4, by rw [u5]; exact w3, by rw [u5]; exact w4⟩
  refine ⟨?_, fun C hkC hC e0 => by
    obtain ⟨M', u1, -, -, -, u5, u6⟩ := go C hkC hC e0
    exact ⟨M', u1, u5, u6⟩⟩
  obtain ⟨C, hC, e0⟩ := R.cC
  by_cases h1 : k < C
  · by_cases h2 : C < 10
    · obtain ⟨M', u1, u2, u3, u4, -⟩ := go C h1 h2 e0
      exact ⟨_, M', u1, u2, u3, u4⟩
    · rw [rc_9]
      refine dn2 jm hM ?_
      unfold fX12_copy
      rw [cY R e0 hC h1, m_bd, if_neg n10, cc0 R e0 h1 hC h2, m_bd, if_pos rfl, ref2, m_bd2, if_neg n10]
  · rw [rc_9]
    exact dn1 jm hM (x_copy1 (cN R e0 (by omega) hk))
theorem same0 (R : Rel B T S (M 2)) {r' : Nat → Int32} (h : r' 0 = M 2 0) : ∃ C, C ≤ 10 ∧ M 2 0 = nI C ∧ r' 0 = nI C := by
  obtain ⟨C, hC, e0⟩ := R.cC
  exact ⟨C, hC, e0, h.trans e0⟩
theorem iu1 {r : Nat → Int32} {g : Nat} (hg : g < 4) (h : r (85 + 5 * g) = 1) : fX12_isUp r (nI g) = some 1 := by
  unfold fX12_isUp
  rw [lt_eq, gG1 hg, lt_eq, kG1 hg, h, if_pos rfl]
theorem iu0 {r : Nat → Int32} {g : Nat} (hg : g < 4) (h : r (85 + 5 * g) = 0) : fX12_isUp r (nI g) = some 0 := by
  unfold fX12_isUp
  rw [lt_eq, gG1 hg, lt_eq, kG1 hg, h, if_neg (by decide)]
theorem a_down (R : Rel B T S (M 2)) (jm : JM n M) (hM : norm M = M) {g : Nat} (hg : g < 4) (b c : Int32) : Done n M (rcall M 13 (nI g) b c) := by
  rw [rc_13]
  rcases R.gup g hg with u | u
  · refine dn2 jm hM ?_
    unfold fX12_down
    rw [lt_eq, gy hg, if_neg n10, iu0 hg u, m_bd, if_pos rfl, ref2, m_bd2, if_neg n10]
  · obtain ⟨z, r', w1, w2, w3, w4⟩ := j_down R jm.1 hg
    obtain ⟨C, hC, e0, e'⟩ := same0 R w3
    obtain ⟨M', u1, u2, u3, u4, -⟩ := ok2 (c1 := -9999001) (c2 := -9999003) (m := fX12_down M (nI g)) (x := z) (r' := r') R jm (fun S1 s1 s2 => by
      unfold fX12_down
      rw [lt_eq, gy hg, if_neg n10, iu1 hg u, m_bd, if_neg n10, ref0, m_bd2, if_pos rfl, s1, m_bd, s2, w1, m_bd2, lt_eq]) (w2.mono (by omega)) e0 hC e' (by omega) (by omega) hC
    exact ⟨z, M', u1, u2, u3, u4⟩
theorem a_upOk (R : Rel B T S (M 2)) (hB : B < 1024) (jm : JM n M) {g : Nat} (hg : g < 4) (u : M 2 (85 + 5 * g) = 0) (b c : Int32) : ∃ r' d, M 2 (87 + 5 * g) = nI d ∧ d ≤ 12 ∧ fX12_upOn (M 2) (nI g) = some (r' 5 - M 2 5, r') ∧ JJ (1000 * n + 108) r' ∧ UpE (M 2) r' g d ∧ ∃ M', rcall M 14 (nI g) b c = some (r' 5 - M 2 5, M') ∧ JM (n + 1) M' ∧ norm M' = M' ∧ (Pos M → Pos M') ∧ M' 2 = r' ∧ ∃ zz, zz < 14 ∧ M' 0 7 = nI (zz + 1) ∧ rowD M' zz = M 2 := by
  obtain ⟨r', d, ed, hd, w1, w2, w3⟩ := j_up R jm.1 hB hg
  have w3' := w3
  obtain ⟨p, q, F, -, -, -, -, -, -, -, -, k0, k1⟩ := w3'
  obtain ⟨C, hC, e0, e'⟩ := same0 R k0
  refine ⟨r', d, ed, hd, w1, w2, w3, ?_⟩
  rw [rc_14]
  exact ok2 (m := fX12_up M (nI g)) (x := r' 5 - M 2 5) (r' := r') R jm (fun S1 s1 s2 => by
    unfold fX12_up
    rw [lt_eq, gy hg, if_neg n10, iu0 hg u, m_bd, if_pos rfl, ref0, m_bd2, if_pos rfl, s1, m_bd, s2, w1, m_bd2, lt_eq]) (w2.mono (by omega)) e0 hC e' (by omega) (by omega) hC
theorem a_up (R : Rel B T S (M 2)) (hB : B < 1024) (jm : JM n M) (hM : norm M = M) {g : Nat} (hg : g < 4) (b c : Int32) : Done n M (rcall M 14 (nI g) b c) := by
  rcases R.gup g hg with u | u
  · obtain ⟨r', d, -, -, -, -, -, M', u1, u2, u3, u4, -⟩ := a_upOk R hB jm hg u b c
    exact ⟨_, M', u1, u2, u3, u4⟩
  · rw [rc_14]
    refine dn2 jm hM ?_
    unfold fX12_up
    rw [lt_eq, gy hg, if_neg n10, iu1 hg u, m_bd, if_neg n10, ref2, m_bd2, if_neg n10]
theorem a_pay (R : Rel B T S (M 2)) (jm : JM n M) (hM : norm M = M) {a v : Nat} (ha : a < 2 ^ 31) (h1 : 1 ≤ v) (hv : v ≤ 99) (c : Int32) : Done n M (rcall M 11 (nI a) (nI v) c) := by
  obtain ⟨A, hA, e1⟩ := R.cA
  have q : (1 : Int32) ≤ nI v ∧ nI v ≤ 99 := ⟨nI_le (a := 1) h1 (by omega), nI_le (b := 99) hv (by decide)⟩
  rw [rc_11]
  by_cases h : a < A
  · obtain ⟨z, r', w1, w2, w3, w4⟩ := j_pay jm.1 (show a < 8 by omega) hv
    obtain ⟨C, hC, e0, e'⟩ := same0 R w3
    obtain ⟨M', u1, u2, u3, u4, -⟩ := ok2 (c1 := -9999001) (c2 := -9999002) (m := fX12_pay M (nI a) (nI v)) (x := z) (r' := r') R jm (fun S1 s1 s2 => by
      unfold fX12_pay
      rw [aY R e1 hA h, m_bd, if_neg n10, lt_eq, in1 (lo := 1) (hi := 99) (by decide) (by decide) q, if_neg n10, ref0, m_bd2, if_pos rfl, s1, m_bd, s2, w1, m_bd2, lt_eq]) (w2.mono (by omega)) e0 hC e' (by omega) (by omega) hC
    exact ⟨z, M', u1, u2, u3, u4⟩
  · exact dn1 jm hM (x_pay1 (aN R e1 (by omega) ha))
theorem a_open (R : Rel B T S (M 2)) (jm : JM n M) {g : Nat} (hg : g < 4) (b c : Int32) : Done n M (rcall M 15 (nI g) b c) := by
  rw [rc_15]
  obtain ⟨z, r', w1, w2, w3, w4⟩ := j_open R jm.1 hg
  obtain ⟨C, hC, e0, e'⟩ := same0 R w3
  obtain ⟨M', u1, u2, u3, u4, -⟩ := ok1 (c1 := -9999001) (m := fX12_open M (nI g)) (x := z) (r' := r') R jm (fun S1 s1 s2 => by
    unfold fX12_open
    rw [lt_eq, gy hg, if_neg n10, ref0, m_bd2, if_pos rfl, s1, m_bd, s2, w1, m_bd2, lt_eq]) (w2.mono (by omega)) e0 hC e' (by omega) (by omega) hC
  exact ⟨z, M', u1, u2, u3, u4⟩
theorem a_fare (R : Rel B T S (M 2)) (jm : JM n M) {g f : Nat} (hg : g < 4) (h1 : 1 ≤ f) (h9 : f ≤ 9) (c : Int32) : Done n M (rcall M 16 (nI g) (nI f) c) := by
  have q : (1 : Int32) ≤ nI f ∧ nI f ≤ 9 := ⟨nI_le (a := 1) h1 (by omega), nI_le (b := 9) h9 (by decide)⟩
  rw [rc_16]
  obtain ⟨C, hC, e0, e'⟩ := same0 R (r' := upd (M 2) (84 + 5 * g) (nI f)) (upd_ne (by omega))
  obtain ⟨M', u1, u2, u3, u4, -⟩ := ok2 (c1 := -9999001) (c2 := -9999002) (m := fX12_fare M (nI g) (nI f)) (x := M 2 (84 + 5 * g)) (r' := upd (M 2) (84 + 5 * g) (nI f)) R jm (fun S1 s1 s2 => by
    unfold fX12_fare
    rw [lt_eq, gy hg, if_neg n10, lt_eq, in1 (lo := 1) (hi := 9) (by decide) (by decide) q, if_neg n10, ref0, m_bd2, if_pos rfl, s1, m_bd, lt_eq, gG0 hg, lt_eq, lt_eq, gG0 hg, lt_eq, s2, kG0 hg]) ((jm.1.fare hg h1 h9).mono (by omega)) e0 hC e' (by omega) (by omega) hC
  exact ⟨_, M', u1, u2, u3, u4⟩
theorem a_run (R : Rel B T S (M 2)) (hT : T + 60 < 2 ^ 30) (jm : JM n M) {m : Nat} (h1 : 1 ≤ m) (h6 : m ≤ 60) (b c : Int32) : Done n M (rcall M 17 (nI m) b c) := by
  have q : (1 : Int32) ≤ nI m ∧ nI m ≤ 60 := ⟨nI_le (a := 1) h1 (by omega), nI_le (b := 60) h6 (by decide)⟩
  rw [rc_17]
  obtain ⟨z, r', w1, w2, w3, w4⟩ := j_run R jm.1 hT h6
  obtain ⟨C, hC, e0, e'⟩ := same0 R w3
  obtain ⟨M', u1, u2, u3, u4, -⟩ := ok1 (c1 := -9999002) (m := fX12_run M (nI m)) (x := z) (r' := r') R jm (fun S1 s1 s2 => by
    unfold fX12_run
    rw [lt_eq, in1 (lo := 1) (hi := 60) (by decide) (by decide) q, if_neg n10, ref0, m_bd2, if_pos rfl, s1, m_bd, s2, w1, m_bd2, lt_eq]) (w2.mono (by omega)) e0 hC e' (by omega) (by omega) hC
  exact ⟨z, M', u1, u2, u3, u4⟩
theorem a_setOk (R : Rel B T S (M 2)) (jm : JM n M) {w : Nat} (hw : w < 4) {v : Int32} (h : fX12_isSetting (nI w) v = 1) (c : Int32) : ∃ M', rcall M 18 (nI w) v c = some (M 2 (8 + w), M') ∧ JM (n + 1) M' ∧ norm M' = M' ∧ (Pos M → Pos M') ∧ M' 2 = upd (M 2) (8 + w) v := by
  have e8 : (8 : Int32) + nI w = nI (8 + w) := nI_add 8 w
  have i8 := mx (e8) (show 8 + w < 1272 by omega) (by decide)
  rw [rc_18]
  obtain ⟨C, hC, e0, e'⟩ := same0 R (r' := upd (M 2) (8 + w) v) (upd_ne (by omega))
  obtain ⟨M', u1, u2, u3, u4, u5, -⟩ := ok1 (c1 := -9999002) (m := fX12_set M (nI w) v) (x := M 2 (8 + w)) (r' := upd (M 2) (8 + w) v) R jm (fun S1 s1 s2 => by
    unfold fX12_set
    rw [lt_eq, h, if_neg n10, ref0, m_bd2, if_pos rfl, s1, m_bd, m_gd i8.1, lt_eq, i8.2, lt_eq, s2]) ((jm.1.nk (nk5 (by omega) (by omega)) v).mono (by omega)) e0 hC e' (by omega) (by omega) hC
  exact ⟨M', u1, u2, u3, u4, u5⟩
theorem set01 (a b : Int32) : fX12_isSetting a b = 0 ∨ fX12_isSetting a b = 1 := by
  unfold fX12_isSetting
  simp only [lt_]
  repeat' split
  all_goals first | exact Or.inl rfl | exact Or.inr rfl
theorem a_set (R : Rel B T S (M 2)) (jm : JM n M) (hM : norm M = M) {w : Nat} (hw : w < 4) (v c : Int32) : Done n M (rcall M 18 (nI w) v c) := by
  rcases set01 (nI w) v with h | h
  · rw [rc_18]; exact dn3 jm hM (x_set1 h)
  · obtain ⟨M', u1, u2, u3, u4, -⟩ := a_setOk R jm hw h c
    exact ⟨_, M', u1, u2, u3, u4⟩
theorem a_pardon (R : Rel B T S (M 2)) (jm : JM n M) (hM : norm M = M) {a : Nat} (ha : a < 2 ^ 31) (b c : Int32) : Done n M (rcall M 12 (nI a) b c) := by
  obtain ⟨A, hA, e1⟩ := R.cA
  rw [rc_12]
  by_cases h : a < A
  · have ha8 : a < 8 := by omega
    rcases R.amark a ha8 with q | q
    · refine dn2 jm hM ?_
      unfold fX12_pardon fX12_canPardon
      rw [aY R e1 hA h, m_bd, if_neg n10, m_bd, if_neg n10, lt_eq, gA2 ha8, lt_eq, kA2 ha8, q, if_neg (by decide), m_bd, if_pos rfl, ref2, m_bd2, if_neg n10]
    · obtain ⟨C, hC, e0, e'⟩ := same0 R (r' := upd (M 2) (54 + 4 * a) 0) (upd_ne (by omega))
      obtain ⟨M', u1, u2, u3, u4, -⟩ := ok2 (c1 := -9999001) (c2 := -9999003) (m := fX12_pardon M (nI a)) (x := M 2 (52 + 4 * a)) (r' := upd (M 2) (54 + 4 * a) 0) R jm (fun S1 s1 s2 => by
        unfold fX12_pardon fX12_canPardon
        rw [aY R e1 hA h, m_bd, if_neg n10, m_bd, if_neg n10, lt_eq, gA2 ha8, lt_eq, kA2 ha8, q, if_pos rfl, m_bd, if_neg n10, ref0, m_bd2, if_pos rfl, s1, m_bd, lt_eq, gA2 ha8, lt_eq, lt_eq, gA0 ha8, lt_eq, s2, kA2 ha8, va_up_s, kA0 ha8, upd_ne (by omega)]) ((jm.1.nk (nk54 ha8) 0).mono (by omega)) e0 hC e' (by omega) (by omega) hC
      exact ⟨_, M', u1, u2, u3, u4⟩
  · exact dn1 jm hM (x_pardon1 (aN R e1 (by omega) ha))
theorem a_ride (R : Rel B T S (M 2)) (hB : B + 1 < 1024) (hT : T + 99 < 2 ^ 30) (jm : JM n M) (hM : norm M = M) {k g : Nat} (hk : k < 10) (hg : g < 4) (c : Int32) : Done n M (rcall M 10 (nI k) (nI g) c) := by
  obtain ⟨C, hC, e0⟩ := R.cC
  rw [rc_10]
  by_cases h : k < C
  · obtain ⟨z, r', w1, w2, w3, w4⟩ := j_ride R jm.1 hB hT hk (by rw [e0]; exact nI_lt h (by omega)) hg
    obtain ⟨M', u1, u2, u3, u4, -⟩ := ok1 (c1 := -9999001) (m := fX12_ride M (nI k) (nI g)) (x := z) (r' := r') R jm (fun S1 s1 s2 => by
      unfold fX12_ride
      rw [cY R e0 hC h, m_bd, if_neg n10, lt_eq, gy hg, if_neg n10, ref0, m_bd2, if_pos rfl, s1, m_bd, s2, w1, m_bd2, lt_eq]) (w2.mono (by omega)) e0 hC (w3.trans e0) (by omega) (by omega) hC
    exact ⟨z, M', u1, u2, u3, u4⟩
  · exact dn3 jm hM (x_ride1 (cN R e0 (by omega) (by omega)))
end ACTS
