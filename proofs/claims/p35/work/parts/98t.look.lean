
/-! what would be, by number: a ride, rides in a row -/
section LKN
variable {n B T : Nat} {M : Mem} {S S' : Mem}
/-- what the judge says of money, log and room: nothing of it asks the minute -/
def tlJ (S : Mem) (x y : Int32) : Int32 := if fX3_isUp S y = 0 then (if (-fget 4 (S 39) 0) ≤ fget 10 (S 5) x - fget 4 (S 23) y then (if fX3_isLogFull S y = 0 then 1 else if fget 4 (S 39) 2 = 0 then 6 else 7) else 5) else (if (-0) ≤ fget 10 (S 5) x - fget 4 (S 23) y then 0 else 5)
theorem judge_eq (S : Mem) (x y : Int32) : fX10_judge S x y = if fX10_isOnList S (fget 10 (S 3) x) y = 0 then (if fget 10 (S 9) x = -1 then tlJ S x y else if fget 4 (S 39) 1 ≤ S 0 4 - fget 10 (S 9) x then tlJ S x y else 4) else 3 := by
  unfold fX10_judge tlJ
  simp only [lt_eq]
  by_cases u : fX3_isUp S y = 0
  · simp only [u, if_true]
  · simp only [u, if_false]
theorem judge_late {x y z : Int32} (hk : ∀ k, k ≠ 0 → S' k = S k) (h : fX10_judge S x y = z) (hz : z = 3 ∨ z = 5 ∨ z = 6) (hp : fget 4 (S 39) 1 ≤ S' 0 4 - fget 10 (S 9) x) : fX10_judge S' x y = z := by
  have k3 := hk 3 (by decide)
  have k5 := hk 5 (by decide)
  have k9 := hk 9 (by decide)
  have k12 := hk 12 (by decide)
  have k16 := hk 16 (by decide)
  have k23 := hk 23 (by decide)
  have k25 := hk 25 (by decide)
  have k27 := hk 27 (by decide)
  have k31 := hk 31 (by decide)
  have k39 := hk 39 (by decide)
  have eu : fX3_isUp S' y = fX3_isUp S y := by unfold fX3_isUp; rw [k27]
  have ef : fX3_isLogFull S' y = fX3_isLogFull S y := by unfold fX3_isLogFull; rw [k31]
  have eb : ∀ a, fX5_isBlocked S' a = fX5_isBlocked S a := fun a => by unfold fX5_isBlocked; rw [k12, k16]
  have el : ∀ a, fX10_isOnList S' a y = fX10_isOnList S a y := fun a => by unfold fX10_isOnList; rw [eu, k25, eb]
  have et : tlJ S' x y = tlJ S x y := by unfold tlJ; rw [eu, ef, k39, k5, k23]
  rw [judge_eq] at h ⊢
  rw [el, et, k3, k9, k39, if_pos hp]
  by_cases a : fX10_isOnList S (fget 10 (S 3) x) y = 0
  · rw [if_pos a] at h ⊢
    by_cases b : fget 10 (S 9) x = -1
    · rw [if_pos b] at h ⊢; exact h
    · rw [if_neg b] at h ⊢
      by_cases c : fget 4 (S 39) 1 ≤ S 0 4 - fget 10 (S 9) x
      · rw [if_pos c] at h; exact h
      · rw [if_neg c] at h
        subst h
        exact absurd hz (by decide)
  · rw [if_neg a] at h ⊢; exact h
theorem w39 {x : Int32} {o c : Nat} (v : Int32) (k : Nat) (hk : k ≠ 0) : wtS (va_up S 0 (upd (S 0) 4 v)) c o x k = wtS S c o x k := by
  unfold wtS
  by_cases k5 : k = 5
  · subst k5; rw [va_up_s, va_up_s]; rfl
  · rw [va_up_n k5, va_up_n k5]
    by_cases k14 : k = 14
    · subst k14; rw [va_up_s, va_up_s]; rfl
    · rw [va_up_n k14, va_up_n k14, va_up_n hk]
theorem late_ok {t p l : Nat} (h : l ≤ t + 1) (ht : t < 2 ^ 30) (hp : p ≤ 30) : nI p ≤ nI (t + p) - (nI l - 1) := by
  cases l with
  | zero => rw [m_l0, Int32.sub_neg, nI_1]; exact nI_le (by omega) (by omega)
  | succ l => rw [nI_pred, pk_sub (by omega)]; exact nI_le (by omega) (by omega)
theorem ride_open {r : Nat → Int32} {c g : Nat} (hc : c < 10) (hg : g < 4) (h : r (86 + 5 * g) = 1) : fX12_rideOn r (nI c) (nI g) = some (2, upd r 7 (r 7 + 1)) := by
  unfold fX12_rideOn
  simp only [lt_]
  rw [gC0 hc, kC0 hc, gG2 hg, kG2 hg, h, if_pos rfl, gN7, kN7]
theorem rides_open {c g : Nat} (hc : c < 10) (hg : g < 4) : ∀ (m k N : Nat) (S : Mem), k + m = 100 → m < N → S 3 (86 + 5 * g) = 1 → ∃ S', fX12_rides_L47 N S (nI c) (nI g) (nI k) = some (nI 100, S') ∧ S' 0 = S 0 := by
  intro m
  induction m with
  | zero =>
    intro k N S hk hN h
    obtain ⟨N, rfl⟩ : ∃ m, N = m + 1 := ⟨N - 1, by omega⟩
    obtain rfl : k = 100 := by omega
    rw [fX12_rides_L47, if_pos (c := 100 ≤ nI 100) (by decide)]
    exact ⟨S, rfl, rfl⟩
  | succ m ih =>
    intro k N S hk hN h
    obtain ⟨N, rfl⟩ : ∃ m, N = m + 1 := ⟨N - 1, by omega⟩
    rw [fX12_rides_L47, if_neg (c := 100 ≤ nI k) (nI_ge (b := 100) (by omega) (by decide)), gN9, kN9]
    simp only [lt_eq]
    have hr : ∀ x, fX12_runOn (S 3) x = some (S 3 2 + x, upd (S 3) 2 (S 3 2 + x)) := fun x => by
      unfold fX12_runOn
      simp only [lt_]
      rw [gN2, kN2, upd_at]
    rw [hr, m_bd2, va_up_s, ride_open hc hg (by rw [upd_ne (by omega)]; exact h), m_bd2, show fX12_isThrough 2 = 1 from by decide, if_neg n10, nI_1]
    obtain ⟨S', e1, e2⟩ := ih (k + 1) N (va_up (va_up S 3 (upd (S 3) 2 (S 3 2 + S 3 9))) 3 (upd (upd (S 3) 2 (S 3 2 + S 3 9)) 7 (upd (S 3) 2 (S 3 2 + S 3 9) 7 + 1))) (by omega) (by omega) (by rw [va_up_s, upd_ne (by omega), upd_ne (by omega)]; exact h)
    exact ⟨S', e1, e2.trans rfl⟩
theorem rides_le {x y : Int32} : ∀ (N k : Nat) (S : Mem) (z : Int32) (S' : Mem), k ≤ 100 → fX12_rides_L47 N S x y (nI k) = some (z, S') → ∃ j, j ≤ 100 ∧ z = nI j := by
  intro N
  induction N with
  | zero => intro k S z S' hk h; rw [fX12_rides_L47] at h; cases h
  | succ N ih =>
    intro k S z S' hk h
    rw [fX12_rides_L47] at h
    by_cases c : 100 ≤ nI k
    · rw [if_pos c] at h
      cases h
      exact ⟨100, Nat.le_refl _, rfl⟩
    · rw [if_neg c] at h
      have hk100 : k < 100 := by
        apply Classical.byContradiction
        intro q
        exact c (nI_le (a := 100) (by omega) (by omega))
      obtain ⟨-, h⟩ := gd_e h
      simp only [lt_eq] at h
      obtain ⟨a, b, e, h⟩ := bd2_e h
      obtain ⟨a2, b2, e2, h⟩ := bd2_e h
      by_cases q : fX12_isThrough a2 = 0
      · rw [if_pos q] at h
        cases h
        exact ⟨k, hk, rfl⟩
      · rw [if_neg q, nI_1] at h
        exact ih (k + 1) _ _ _ (by omega) h
theorem row3 (hM : norm M = M) (ht : JT (M 2)) : va_cpy (M 2) (M 3) 0 0 1272 = M 2 := by
  have e3 : M 3 = fun _ => 0 := by rw [← hM]; exact norm_3 M
  rw [e3]
  exact row_now ht (fun j hj => by rw [Nat.zero_add])
theorem row4 (hM : norm M = M) (ht : JT (M 2)) : va_cpy (M 2) (M 4) 0 0 1272 = M 2 := by
  have e3 : M 4 = fun _ => 0 := by rw [← hM]; exact norm_4 M
  rw [e3]
  exact row_now ht (fun j hj => by rw [Nat.zero_add])
theorem qv1 {m : Option (Int32 × Mem)} {c1 z : Int32} (h : ∃ z', rc1 m c1 = some (z', M)) (hm : m = some (z, S')) (h0 : S' 0 0 = 0) : qk (rc1 m c1) M = some z := by
  obtain ⟨z', h⟩ := h
  have e : rc1 m c1 = some (z, norm S') := rc1_of hm h0
  rw [e] at h ⊢
  cases h
  exact qk_i rfl
theorem qv2 {m : Option (Int32 × Mem)} {c1 c2 z : Int32} (h : ∃ z', rc2 m c1 c2 = some (z', M)) (hm : m = some (z, S')) (h0 : S' 0 0 = 0) : qk (rc2 m c1 c2) M = some z := by
  obtain ⟨z', h⟩ := h
  have e : rc2 m c1 c2 = some (z, norm S') := rc2_of hm h0
  rw [e] at h ⊢
  cases h
  exact qk_i rfl
theorem goodN {z : Int32} (h : goodZ z) : ∃ w, w ≤ 7 ∧ z = nI w := by
  rcases h with rfl | rfl | rfl | rfl | rfl | rfl | rfl | rfl
  · exact ⟨0, by decide, rfl⟩
  · exact ⟨1, by decide, rfl⟩
  · exact ⟨2, by decide, rfl⟩
  · exact ⟨3, by decide, rfl⟩
  · exact ⟨4, by decide, rfl⟩
  · exact ⟨5, by decide, rfl⟩
  · exact ⟨6, by decide, rfl⟩
  · exact ⟨7, by decide, rfl⟩
/-- shown again a pause later, what was blocked, without money or without room is so still -/
theorem late_ride {r : Nat → Int32} {b : Nat} (R : Rel B T S r) (h : JJ b r) (hB : B + 1 < 1024) (hT : T + 200 < 2 ^ 30) {c g : Nat} (hc : c < 10) (hC : nI c < r 0) (hg : g < 4) {z : Int32} {r' : Nat → Int32} (e : fX12_rideOn r (nI c) (nI g) = some (z, r')) (hz : z = 3 ∨ z = 5 ∨ z = 6) : ∃ z1 r1 r1', fX12_runOn r (r 9) = some (z1, r1) ∧ fX12_rideOn r1 (nI c) (nI g) = some (z, r1') := by
  obtain ⟨o, ho, hoA, eo⟩ := R.cown c hc hC
  obtain ⟨p, hp, ep⟩ := R.mpause
  obtain ⟨z0, r0', w0, E⟩ := e_ride R hB (by omega) hc hC hg ho hoA eo
  rw [e] at w0
  cases w0
  obtain ⟨-, t, m, et, em, htm, hm⟩ := h.c c hc hC
  obtain ⟨z1, r1, w1, w2, w3, w4, w5, R1, w6⟩ := r_run R (by omega) (show p ≤ 60 by omega)
  have s04 : S 0 4 = nI m := (R.eN 0 (by decide)).trans em
  have ez1 : nI z1 = nI (m + p) := by rw [← w4, s04, nI_add]
  obtain ⟨zz, r1', k1, E1⟩ := e_ride R1 hB (by omega) hc (by rw [w6 0 (by decide)]; exact hC) hg ho (by rw [w6 1 (by decide)]; exact hoA) (by rw [w6 _ (by omega)]; exact eo)
  refine ⟨nI z1, r1, r1', by rw [ep]; exact w1, ?_⟩
  rw [k1]
  have f1 : fget 4 (S 39) 1 = nI p := ((m_fget (a := 1) (S 39) (by decide) (by decide)).trans (R.eS 1 (by decide))).trans ep
  have f9 : fget 10 (S 9) (nI c) = nI t - 1 := (m_fget _ hc (by decide)).trans (((R.card c hc hC).2.2.2).trans (by rw [et]))
  have hpp : fget 4 (S 39) 1 ≤ nI z1 - fget 10 (S 9) (nI c) := by
    rw [f1, f9, ez1]
    exact late_ok htm hm hp
  have e86 : r1 (86 + 5 * g) = r (86 + 5 * g) := w6 _ (by omega)
  have e85 : r1 (85 + 5 * g) = r (85 + 5 * g) := w6 _ (by omega)
  have d01 : ¬ (0 : Int32) = 1 := by decide
  suffices hs : zz = z by rw [hs]
  rcases E with ⟨-, q, -⟩ | ⟨y1, y2, y3, -⟩ | ⟨y1, y2, y3, -⟩
  · subst q; exact absurd hz (by decide)
  · rcases E1 with ⟨q, -⟩ | ⟨-, -, x3, -⟩ | ⟨-, q, -⟩
    · exact absurd (y1.symm.trans (e86.symm.trans q)) d01
    · rw [x3]
      exact judge_late (fun k hk => va_up_n hk) y3.symm hz hpp
    · exact absurd (y2.symm.trans (e85.symm.trans q)) d01
  · rcases E1 with ⟨q, -⟩ | ⟨-, q, -⟩ | ⟨-, -, x3, -⟩
    · exact absurd (y1.symm.trans (e86.symm.trans q)) d01
    · exact absurd (q.symm.trans (e85.trans y2)) d01
    · rw [x3, w6 _ (show 13 + 4 * c ≠ 2 by omega), w6 _ (show 53 + 4 * o ≠ 2 by omega)]
      exact judge_late (fun k hk => w39 (nI z1) k hk) y3.symm hz hpp
/-- a card at a gate: what would be -/
theorem look_v (h : Re n M) (jm : JM n M) (hn : n ≤ 850) {C c g : Nat} (e0 : M 2 0 = nI C) (hC10 : C ≤ 10) (hcC : c < C) (hg : g < 4) : ∃ w q, qk (rcall M 20 (nI c) (nI g) 0) M = some (nI w) ∧ qk (rcall M 21 (nI c) (nI g) 0) M = some (nI q) ∧ w ≤ 7 ∧ q ≤ 100 ∧ (M 2 (86 + 5 * g) = 1 → w = 2 ∧ q = 100) ∧ (M 2 (86 + 5 * g) = 0 → ¬ w = 2) ∧ (w = 3 ∨ w = 5 ∨ w = 6 → q = 0) := by
  obtain ⟨S, R⟩ := h.rel
  have hM := h.2
  have hc : c < 10 := by omega
  have hC : nI c < M 2 0 := by rw [e0]; exact nI_lt hcC (by omega)
  obtain ⟨o, ho, hoA, eo⟩ := R.cown c hc hC
  obtain ⟨z, r', k1, E⟩ := e_ride R (by omega) (by omega) hc hC hg ho hoA eo
  obtain ⟨z', r'', S'', k1', -, -, -, -, gz⟩ := r_ride R (by omega) (by omega) hc hC hg
  rw [k1] at k1'
  cases k1'
  obtain ⟨w, hw, rfl⟩ := goodN gz
  have hw20 : fX12_would M (nI c) (nI g) = some (nI w, va_up (va_up (mRef M 0) 3 (M 2)) 3 r') := by
    unfold fX12_would
    rw [cY R e0 hC10 hcC, m_bd, if_neg n10, lt_eq, gy hg, if_neg n10, ref0, m_bd2, if_pos rfl, fcp00, m_bd, lt_eq, va_up_s, show mRef M 0 2 = M 2 from rfl, show mRef M 0 3 = M 3 from rfl, row3 hM jm.1.t, k1, m_bd2, lt_eq]
  have hw21 : fX12_rides M (nI c) (nI g) = fX12_rides_L47 3000 (va_up (mRef M 0) 3 (M 2)) (nI c) (nI g) (nI 0) := by
    unfold fX12_rides
    rw [cY R e0 hC10 hcC, m_bd, if_neg n10, lt_eq, gy hg, if_neg n10, ref0, m_bd2, if_pos rfl, fcp00, m_bd, lt_eq, show mRef M 0 2 = M 2 from rfl, show mRef M 0 3 = M 3 from rfl, row3 hM jm.1.t, nI_0]
  obtain ⟨y, V', M', -, u2, -, u4⟩ := rides_L hc hg 100 0 3000 3000 n (150000 * n) (fun _ => S) (va_up (mRef M 0) 3 (M 2)) (by omega) (by omega) (by omega) (by omega) (by omega) (by rw [va_up_s]; exact R) (by rw [va_up_s]; exact hC)
  obtain ⟨q, hq, rfl⟩ := rides_le 3000 0 _ _ _ (by omega) u2
  have q20 : qk (rcall M 20 (nI c) (nI g) 0) M = some (nI w) := by
    have l := lo_20 h hn (nI c) (nI g) 0
    rw [rc_20] at l ⊢
    exact qv1 l hw20 rfl
  have q21 : qk (rcall M 21 (nI c) (nI g) 0) M = some (nI q) := by
    have l := lo_21 h hn (nI c) (nI g) 0
    rw [rc_21] at l ⊢
    exact qv1 l (hw21.trans u2) (by rw [u4 0 (by decide)]; rfl)
  refine ⟨w, q, q20, q21, hw, hq, fun ho => ?_, fun ho q2 => ?_, fun hz => ?_⟩
  · constructor
    · rw [ride_open hc hg ho] at k1
      have := (Prod.mk.inj (Option.some.inj k1)).1
      exact (nI_eq (a := w) (b := 2) (by omega) (by decide)).mp this.symm
    · obtain ⟨S', v1, -⟩ := rides_open hc hg 100 0 3000 (va_up (mRef M 0) 3 (M 2)) (by omega) (by omega) (by rw [va_up_s]; exact ho)
      rw [u2] at v1
      exact (nI_eq (a := q) (b := 100) (by omega) (by decide)).mp (Prod.mk.inj (Option.some.inj v1)).1
  · subst q2
    rcases E with ⟨q, -⟩ | ⟨-, -, -, ⟨q, -⟩ | ⟨q, -⟩ | ⟨q, -⟩⟩ | ⟨-, -, -, ⟨q, -⟩ | ⟨q, -⟩⟩
    · rw [ho] at q; exact absurd q (by decide)
    · exact absurd q (by decide)
    · exact absurd q (by decide)
    · exact absurd q (by decide)
    · exact absurd q (by decide)
    · exact absurd q (by decide)
  · have hz' : nI w = 3 ∨ nI w = 5 ∨ nI w = 6 := by
      rcases hz with rfl | rfl | rfl
      · exact Or.inl rfl
      · exact Or.inr (Or.inl rfl)
      · exact Or.inr (Or.inr rfl)
    obtain ⟨z1, r1, r1', v1, v2⟩ := late_ride R jm.1 (by omega) (by omega) hc hC hg k1 hz'
    have u2' := u2
    rw [fX12_rides_L47, if_neg (c := 100 ≤ nI 0) (by decide), gN9, kN9] at u2'
    simp only [lt_eq] at u2'
    rw [va_up_s, v1, m_bd2, va_up_s, v2, m_bd2, if_pos (by rcases hz with rfl | rfl | rfl <;> decide)] at u2'
    exact ((nI_eq (a := q) (b := 0) (by omega) (by decide)).mp (Prod.mk.inj (Option.some.inj u2')).1.symm)
end LKN
