/-! the calls in pairs: scripts and simulations -/
def rsFin (S : Nat → Nat → Int32) (y1 : Int32) (y2 : Int64) (y4 : Int64) : Option (Int32 × (Nat → Nat → Int32)) :=
      lt_ (fX12_in  ((y1 : Int32).toInt64) 1 3) fun x3 =>
      if x3 = 0 then
        bd2 (fX12_refused S 1) fun x7 S8 =>
        if x7 = 0 then
          bd (fcp 1272 (S8 2) 0 1272 (S8 3) 0) fun r11 =>
          lt_ (va_up S8 3 r11) fun S13 =>
          fX12_runScript_L86 3000 S13 y1 y2 y4 0
        else
          some (0, S8)
      else
        lt_ (fX12_in  y2 0 (y4 - 1)) fun x31 =>
        if x31 = 0 then
          bd2 (fX12_refused S 1) fun x35 S36 =>
          if x35 = 0 then
            bd (fcp 1272 (S36 2) 0 1272 (S36 3) 0) fun r39 =>
            lt_ (va_up S36 3 r39) fun S41 =>
            fX12_runScript_L86 3000 S41 y1 y2 y4 0
          else
            some (0, S36)
        else
          bd2 (fX12_refused S 0) fun x44 S45 =>
          if x44 = 0 then
            bd (fcp 1272 (S45 2) 0 1272 (S45 3) 0) fun r48 =>
            lt_ (va_up S45 3 r48) fun S50 =>
            fX12_runScript_L86 3000 S50 y1 y2 y4 0
          else
            some (0, S45)
theorem rs_step (n : Nat) (S : Nat → Nat → Int32) (y1 : Int32) (y2 y4 : Int64) (y6 : Int32) : fX12_runScript_L6 (n + 1) S y1 y2 y4 y6 = if y1 ≤ y6 then rsFin S y1 y2 y4 else if 3 ≤ y6 then rsFin S y1 y2 y4 else fX12_runScript_L6 n S y1 y2 (y4 * 10000) (y6 + 1) := by
  rw [fX12_runScript_L6]
  rfl
theorem rs_any (n : Nat) (S : Nat → Nat → Int32) (y1 : Int32) (y2 : Int64) : ∃ A, fX12_runScript_L6 (n + 4) S y1 y2 1 0 = rsFin S y1 y2 A := by
  rw [rs_step]
  by_cases c0 : y1 ≤ 0
  · rw [if_pos c0]; exact ⟨_, rfl⟩
  rw [if_neg c0, if_neg (by decide), rs_step]
  by_cases c1 : y1 ≤ 0 + 1
  · rw [if_pos c1]; exact ⟨_, rfl⟩
  rw [if_neg c1, if_neg (by decide), rs_step]
  by_cases c2 : y1 ≤ 0 + 1 + 1
  · rw [if_pos c2]; exact ⟨_, rfl⟩
  rw [if_neg c2, if_neg (by decide), rs_step]
  by_cases c3 : y1 ≤ 0 + 1 + 1 + 1
  · rw [if_pos c3]; exact ⟨_, rfl⟩
  · rw [if_neg c3, if_pos (by decide)]; exact ⟨_, rfl⟩
theorem rs_k (n : Nat) (S : Nat → Nat → Int32) (y2 : Int64) {k : Nat} (h1 : 1 ≤ k) (h3 : k ≤ 3) : fX12_runScript_L6 (n + 4) S (nI k) y2 1 0 = rsFin S (nI k) y2 (lN (10000 ^ k)) := by
  rcases (show k = 1 ∨ k = 2 ∨ k = 3 by omega) with rfl | rfl | rfl
  · rw [rs_step, if_neg (by decide), if_neg (by decide), rs_step, if_pos (by decide)]
    rfl
  · rw [rs_step, if_neg (by decide), if_neg (by decide), rs_step, if_neg (by decide), if_neg (by decide), rs_step, if_pos (by decide)]
    rfl
  · rw [rs_step, if_neg (by decide), if_neg (by decide), rs_step, if_neg (by decide), if_neg (by decide), rs_step, if_neg (by decide), if_neg (by decide), rs_step, if_pos (by decide)]
    rfl
theorem fit_k (n : Nat) (y2 : Int64) {k : Nat} (h1 : 1 ≤ k) (h3 : k ≤ 3) : fX7_fits_L5 (n + 4) (nI k) y2 1 0 = if lg_cmp y2 0 < 0 then some 0 else if 0 ≤ lg_cmp y2 (lN (10000 ^ k)) then some 0 else some 1 := by
  rcases (show k = 1 ∨ k = 2 ∨ k = 3 by omega) with rfl | rfl | rfl
  · rw [fX7_fits_L5, if_neg (c := nI 1 ≤ 0) (by decide), lt_eq, lt_eq, fX7_fits_L5, if_pos (c := nI 1 ≤ 0 + 1) (by decide)]
    rfl
  · rw [fX7_fits_L5, if_neg (c := nI 2 ≤ 0) (by decide), lt_eq, lt_eq, fX7_fits_L5, if_neg (c := nI 2 ≤ 0 + 1) (by decide), lt_eq, lt_eq, fX7_fits_L5, if_pos (c := nI 2 ≤ 0 + 1 + 1) (by decide)]
    rfl
  · rw [fX7_fits_L5, if_neg (c := nI 3 ≤ 0) (by decide), lt_eq, lt_eq, fX7_fits_L5, if_neg (c := nI 3 ≤ 0 + 1) (by decide), lt_eq, lt_eq, fX7_fits_L5, if_neg (c := nI 3 ≤ 0 + 1 + 1) (by decide), lt_eq, lt_eq, fX7_fits_L5, if_pos (c := nI 3 ≤ 0 + 1 + 1 + 1) (by decide)]
    rfl
theorem l10000 {m : Nat} (h : m < 2 ^ 63) : lN m / 10000 = lN (m / 10000) := pk_lDiv (b := 10000) h (by decide) (by decide)
theorem lr10000 {m : Nat} (h : m < 2 ^ 63) : lN m - lN m / 10000 * 10000 = lN (m % 10000) := pk_lRem (b := 10000) h (by decide) (by decide)
theorem grp_L (y0 : Int32) (y1 : Int64) {i : Nat} (hi : i < 2 ^ 20) : ∀ (d m n : Nat), d < n → d < 2 ^ 20 → m < 2 ^ 63 → fX7_group_L8 n y0 y1 (nI i) (lN m) (nI (i + d)) = some (nI (m / 10000 ^ d % 10000)) := by
  intro d
  induction d with
  | zero =>
    intro m n hn hd hm
    obtain ⟨n, rfl⟩ : ∃ m, n = m + 1 := ⟨n - 1, by omega⟩
    rw [fX7_group_L8, if_pos (nI_le (by omega) (by omega)), lr10000 hm, lN_i, Nat.pow_zero, Nat.div_one]
  | succ d ih =>
    intro m n hn hd hm
    obtain ⟨n, rfl⟩ : ∃ m, n = m + 1 := ⟨n - 1, by omega⟩
    rw [fX7_group_L8, if_neg (nI_ge (show i < i + (d + 1) by omega) (by omega)), lt_eq, lt_eq, l10000 hm, sb_m1 (show 0 < i + (d + 1) by omega), show i + (d + 1) - 1 = i + d by omega, ih (m / 10000) n (by omega) (by omega) (Nat.lt_of_le_of_lt (Nat.div_le_self _ _) hm), Nat.div_div_eq_div_mul, Nat.pow_succ, Nat.mul_comm (10000 ^ d)]
theorem grp (y1 : Int64) {k i m : Nat} (hk : k ≤ 3) (hi : i < k) (hm : m < 2 ^ 63) (e : y1 = lN m) : fX7_group (nI k) y1 (nI i) = some (nI (m / 10000 ^ (k - 1 - i) % 10000)) := by
  unfold fX7_group
  have ek : nI k - 1 = nI (i + (k - 1 - i)) := by
    have h := nI_pred (k - 1)
    rw [show k - 1 + 1 = k by omega] at h
    rw [h]
    exact congrArg nI (by omega)
  have g := grp_L (nI k) y1 (show i < 2 ^ 20 by omega) (k - 1 - i) m 3000 (by omega) (by omega) hm
  rw [lt_eq, ek]
  rw [← e] at g
  exact g
section SCR
variable {B T : Nat} {V : uV}
set_option maxRecDepth 20000 in
theorem scr_L {k m : Nat} {s : Int64} (hk : k ≤ 3) (hm : m < 2 ^ 63) (es : s = lN m) : ∀ (d i n n' B T : Nat) (V : uV) (M : Nat → Nat → Int32), i + d = k → d < n → d < n' → B + d < 1023 → T + 1188 * d < 2 ^ 29 → Rel B T (V 1) (M 3) → ∃ y V' M', fX11_runScript_L28 n V (nI k) s (nI i) = some (0, y, V') ∧ fX12_runScript_L86 n' M (nI k) s (lN (10000 ^ d)) (nI i) = some (y, M') ∧ KeepV V V' ∧ Keep3 M M' := by
  intro d
  induction d with
  | zero =>
    intro i n n' B T V M hd hn hn' hB hT R
    obtain ⟨n, rfl⟩ : ∃ m, n = m + 1 := ⟨n - 1, by omega⟩
    obtain ⟨n', rfl⟩ : ∃ m, n' = m + 1 := ⟨n' - 1, by omega⟩
    rw [fX11_runScript_L28, fX12_runScript_L86, if_pos (nI_le (show k ≤ i by omega) (by omega)), if_pos (nI_le (show k ≤ i by omega) (by omega))]
    exact ⟨-1, V, M, rfl, rfl, fun _ _ => rfl, fun _ _ => rfl⟩
  | succ d ih =>
    intro i n n' B T V M hd hn hn' hB hT R
    obtain ⟨n, rfl⟩ : ∃ m, n = m + 1 := ⟨n - 1, by omega⟩
    obtain ⟨n', rfl⟩ : ∃ m, n' = m + 1 := ⟨n' - 1, by omega⟩
    have hp : 10000 ^ d < 2 ^ 60 ∧ 0 < 10000 ^ d ∧ 10000 ^ (d + 1) < 2 ^ 60 := by
      rcases (show d = 0 ∨ d = 1 ∨ d = 2 by omega) with rfl | rfl | rfl <;> decide
    have e16 : lN (10000 ^ (d + 1)) / 10000 = lN (10000 ^ d) := by
      rw [l10000 (by omega), Nat.pow_succ, Nat.mul_div_cancel _ (by decide)]
    have ne : ¬ lN (10000 ^ d) = 0 := fun h => by
      have := (pk_lEQ (b := 0) (show 10000 ^ d < 2 ^ 63 by omega) (by decide)).mp h
      omega
    have hq : m / 10000 ^ d < 2 ^ 63 := Nat.lt_of_le_of_lt (Nat.div_le_self _ _) hm
    have eg : ((s / lN (10000 ^ d) - s / lN (10000 ^ d) / 10000 * 10000) : Int64).toInt32 = nI (m / 10000 ^ d % 10000) := by
      rw [es, pk_lDiv hm hp.2.1 (by omega), lr10000 hq, lN_i]
    have hG : m / 10000 ^ d % 10000 < 10000 := Nat.mod_lt _ (by decide)
    obtain ⟨z, r', S', h1, h2, R', hz⟩ := r_cmd R (by omega) (by omega) hG
    have hg := grp s hk (show i < k by omega) hm es
    rw [show k - 1 - i = d by omega] at hg
    rw [fX11_runScript_L28, fX12_runScript_L86, if_neg (nI_ge (show i < k by omega) (by omega)), if_neg (nI_ge (show i < k by omega) (by omega))]
    simp only [lt_eq]
    rw [hg, m_bd, h2, m_bd2, e16, m_gd (dec_t ne), eg, h1, m_bd2]
    rcases hz with rfl | rfl
    · rw [if_pos rfl, if_pos rfl]
      exact ⟨nI i, _, _, rfl, rfl, fun t h => va_up_n h, fun t h => va_up_n h⟩
    · rw [if_neg n10, if_neg n10, nI_1]
      obtain ⟨y, V', M', a1, a2, a3, a4⟩ := ih (i + 1) n n' (B + 1) (T + 1188) (va_up V 1 S') (va_up M 3 r') (by omega) (by omega) (by omega) (by omega) (by omega) (by rw [va_up_s, va_up_s]; exact R')
      exact ⟨y, V', M', a1, a2, fun t h => by rw [a3 t h, va_up_n h], fun t h => by rw [a4 t h, va_up_n h]⟩
theorem q_runScript (W : WR B T V) (hB : B + 4 < 1023) (hT : T + 150000 < 2 ^ 29) (a : Int32) (s : Int64) : Pair1 B T V (fX11_runScript V a s) (fX12_runScript (V 19) a s) 1 := by
  have R := W.1
  have hr : fX12_runScript (V 19) a s = fX12_runScript_L6 (2996 + 4) (V 19) a s 1 0 := rfl
  rw [hr]
  unfold fX11_runScript
  by_cases c : 1 ≤ a ∧ a ≤ 3
  · obtain ⟨k, hk1, hk2, rfl⟩ := i_199 (x := a) ⟨c.1, Int32.le_trans c.2 (by decide)⟩
    have hk3 : k ≤ 3 := by
      rcases Nat.lt_or_ge 3 k with q | q
      · exact absurd c.2 (nI_ge (a := 3) q (by omega))
      · exact q
    have hA : 10000 ^ k < 2 ^ 60 ∧ 0 < 10000 ^ k := by
      rcases (show k = 1 ∨ k = 2 ∨ k = 3 by omega) with rfl | rfl | rfl <;> decide
    have hf : fX7_fits (nI k) s = if lg_cmp s 0 < 0 then some 0 else if 0 ≤ lg_cmp s (lN (10000 ^ k)) then some 0 else some 1 := fit_k 2996 s hk1 hk3
    have e1 : lN (10000 ^ k) - 1 = lN (10000 ^ k - 1) := lN_sub (b := 1) hA.2
    rw [rs_k 2996 (V 19) s hk1 hk3, th_y (dec_t c), hf]
    unfold rsFin
    simp only [lt_eq]
    rw [in1 (lo := 1) (hi := 3) (by decide) (by decide) c, if_neg n10, e1]
    unfold fX12_in
    by_cases s0 : lg_cmp s 0 < 0
    · rw [if_pos s0, if_pos s0, m_bd, if_pos rfl, th_n (dec_f (by decide)), ref1, m_bd2, if_neg n10]
      exact p1_1 W rfl rfl
    rw [if_neg s0, if_neg s0]
    have s0' : ¬ s < 0 := fun h => s0 ((lg_cmp_lt s 0).mpr h)
    obtain ⟨m, hm, rfl⟩ := pk_lOf s0'
    by_cases s1 : 10000 ^ k ≤ m
    · rw [if_pos ((lg_cmp_ge _ _).mpr ((pk_lLE (by omega) hm).mpr s1)), if_pos ((lg_cmp_gt _ _).mpr ((pk_lLT (by omega) hm).mpr (by omega))), m_bd, if_pos rfl, th_n (dec_f (by decide)), ref1, m_bd2, if_neg n10]
      exact p1_1 W rfl rfl
    · rw [if_neg (fun h => s1 ((pk_lLE (by omega) hm).mp ((lg_cmp_ge _ _).mp h))), if_neg (c := 0 < lg_cmp (lN m) (lN (10000 ^ k - 1))) (fun h => by
        have := (pk_lLT (show 10000 ^ k - 1 < 2 ^ 63 by omega) hm).mp ((lg_cmp_gt _ _).mp h)
        omega), m_bd, if_neg n10, th_y (dec_t n10), ref0, m_bd2, if_pos rfl, fcp00, m_bd]
      obtain ⟨z, V', M', u1, u2, u3, u4⟩ := scr_L hk3 hm rfl k 0 3000 3000 B T (va_up V 1 (V 0)) (va_up (mRef (V 19) 0) 3 (va_cpy (mRef (V 19) 0 2) (mRef (V 19) 0 3) 0 0 1272)) (by omega) (by omega) (by omega) (by omega) (by omega) (by rw [va_up_s, va_up_s, mRef_2]; exact r_cpy R)
      rw [nI_0] at u1 u2
      rw [u1, u2]
      obtain ⟨v1, v2, v3⟩ := look3 W (V' := V') (M' := M') (fun t h => by rw [u3 t h, va_up_n h]) (fun k h => by rw [u4 k h, va_up_n h])
      exact ⟨0, z, _, z, _, rfl, v1, rfl, Or.inl ⟨rfl, v2, rfl⟩, v3⟩
  · obtain ⟨A, e⟩ := rs_any 2996 (V 19) a s
    rw [e, th_n (dec_f c)]
    unfold rsFin
    rw [lt_eq, in0 (lo := 1) (hi := 3) (by decide) (by decide) c, if_pos rfl, ref1, m_bd2, if_neg n10]
    exact p1_1 W rfl rfl
set_option maxRecDepth 20000 in
theorem sim_L {tot : Nat} (ht : tot ≤ 80) (y1 : Int64) : ∀ (d i n n' B T : Nat) (V : uV) (M : Nat → Nat → Int32) (x : Int64), i + d = tot → d < n → d < n' → B + d < 1023 → T + 1188 * d < 2 ^ 29 → Rel B T (V 1) (M 3) → V 0 0 5 = M 2 3 → V 0 0 7 = M 2 5 → ∃ y V' M', fX11_simulate_L24 n V y1 (nI tot) x (nI i) = some (0, y, V') ∧ fX12_simulate_L45 n' M y1 (nI tot) x (nI i) = some (y, M') ∧ KeepV V V' ∧ Keep3 M M' := by
  intro d
  induction d with
  | zero =>
    intro i n n' B T V M x hd hn hn' hB hT R e5 e7
    obtain ⟨n, rfl⟩ : ∃ m, n = m + 1 := ⟨n - 1, by omega⟩
    obtain ⟨n', rfl⟩ : ∃ m, n' = m + 1 := ⟨n' - 1, by omega⟩
    rw [fX11_simulate_L24, fX12_simulate_L45, if_pos (nI_le (show tot ≤ i by omega) (by omega)), if_pos (nI_le (show tot ≤ i by omega) (by omega))]
    simp only [lt_eq]
    rw [gN3, kN3, gN5, kN5, e5, e7, show V 1 0 5 = M 3 3 from R.eN 1 (by decide), show V 1 0 7 = M 3 5 from R.eN 3 (by decide)]
    refine ⟨_, V, M, rfl, ?_, fun _ _ => rfl, fun _ _ => rfl⟩
    rw [Int32.sub_eq_add_neg (M 3 5) (M 2 5), ← Int32.add_assoc, ← Int32.sub_eq_add_neg]
  | succ d ih =>
    intro i n n' B T V M x hd hn hn' hB hT R e5 e7
    obtain ⟨n, rfl⟩ : ∃ m, n = m + 1 := ⟨n - 1, by omega⟩
    obtain ⟨n', rfl⟩ : ∃ m, n' = m + 1 := ⟨n' - 1, by omega⟩
    obtain ⟨w, hw, ew⟩ := sh33 (x * 6364136223846793005 + 1442695040888963407)
    obtain ⟨r', S', h1, h2, R'⟩ := r_turn R (by omega) (by omega) hw
    rw [fX11_simulate_L24, fX12_simulate_L45, if_neg (nI_ge (show i < tot by omega) (by omega)), if_neg (nI_ge (show i < tot by omega) (by omega))]
    simp only [lt_eq]
    rw [ew, h1, h2, m_bd, m_bd, nI_1]
    obtain ⟨y, V', M', a1, a2, a3, a4⟩ := ih (i + 1) n n' (B + 1) (T + 1188) (va_up V 1 S') (va_up M 3 r') _ (by omega) (by omega) (by omega) (by omega) (by omega) (by rw [va_up_s, va_up_s]; exact R') e5 e7
    exact ⟨y, V', M', a1, a2, fun t h => by rw [a3 t h, va_up_n h], fun t h => by rw [a4 t h, va_up_n h]⟩
theorem q_simulate (W : WR B T V) (hB : B + 81 < 1023) (hT : T + 150000 < 2 ^ 29) (s : Int64) (a : Int32) : Pair1 B T V (fX11_simulate V s a) (fX12_simulate (V 19) s a) 1 := by
  have R := W.1
  unfold fX11_simulate fX12_simulate
  by_cases c : 1 ≤ a ∧ a ≤ 80
  · obtain ⟨k, hk1, hk2, rfl⟩ := i_199 (x := a) ⟨c.1, Int32.le_trans c.2 (by decide)⟩
    have hk3 : k ≤ 80 := by
      rcases Nat.lt_or_ge 80 k with q | q
      · exact absurd c.2 (nI_ge (a := 80) q (by omega))
      · exact q
    rw [th_y (dec_t c), lt_eq, lt_eq, in1 (lo := 1) (hi := 80) (by decide) (by decide) c, if_neg n10, ref0, m_bd2, if_pos rfl, fcp00, m_bd, lt_eq]
    obtain ⟨z, V', M', u1, u2, u3, u4⟩ := sim_L hk3 s k 0 3000 3000 B T (va_up V 1 (V 0)) (va_up (mRef (V 19) 0) 3 (va_cpy (mRef (V 19) 0 2) (mRef (V 19) 0 3) 0 0 1272)) s (by omega) (by omega) (by omega) (by omega) (by omega) (by rw [va_up_s, va_up_s, mRef_2]; exact r_cpy R) (R.eN 1 (by decide)) (R.eN 3 (by decide))
    rw [nI_0] at u1 u2
    rw [u1, u2]
    obtain ⟨v1, v2, v3⟩ := look3 W (V' := V') (M' := M') (fun t h => by rw [u3 t h, va_up_n h]) (fun k h => by rw [u4 k h, va_up_n h])
    exact ⟨0, z, _, z, _, rfl, v1, rfl, Or.inl ⟨rfl, v2, rfl⟩, v3⟩
  · rw [th_n (dec_f c), lt_eq, in0 (lo := 1) (hi := 80) (by decide) (by decide) c, if_pos rfl, ref1, m_bd2, if_neg n10]
    exact p1_1 W rfl rfl
end SCR
