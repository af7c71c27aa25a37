/-! the commands of a script -/
theorem digit_le {d : Nat} : (10 * (d / 10 % 10) + d % 10) = d % 100 := by omega
theorem r_isBl01 {S : Nat → Nat → Int32} (x : Int32) : fX5_isBlocked S x = 0 ∨ fX5_isBlocked S x = 1 := by
  unfold fX5_isBlocked
  rw [lt_eq]
  split
  · exact Or.inr rfl
  · rw [lt_eq]
    split
    · exact Or.inl rfl
    · exact Or.inr rfl
theorem thr {z : Int32} (h : goodZ z) : fX12_isThrough z = fX10_letsThrough z := by
  rcases h with rfl | rfl | rfl | rfl | rfl | rfl | rfl | rfl <;> decide
theorem m_in (x lo hi : Int32) (l h : Int64) (el : lo.toInt64 = l) (eh : hi.toInt64 = h) : fX12_in x.toInt64 l h = if x < lo then 0 else if hi < x then 0 else 1 := by
  subst el eh
  exact in_le x lo hi
theorem r_cmd {B T : Nat} {S : Nat → Nat → Int32} {r : Nat → Int32} (R : Rel B T S r) (hB : B + 1 < 1024) (hT : T + 1188 < 2 ^ 30) {m : Nat} (hm : m < 10000) : ∃ z r' S', fX12_command r (nI m / 1000) ((nI m / 100) - (nI m / 100) / 10 * 10) ((nI m / 10) - (nI m / 10) / 10 * 10) (nI m - nI m / 10 * 10) = some (z, r') ∧ fX7_succeeds S (nI m) = some (z, S') ∧ Rel (B + 1) (T + 1188) S' r' ∧ (z = 0 ∨ z = 1) := by
  have hm1 : m < 2 ^ 31 := by omega
  have hm2 : m / 10 < 2 ^ 31 := by omega
  have hm3 : m / 100 < 2 ^ 31 := by omega
  have up : B ≤ B + 1 := by omega
  unfold fX12_command fX7_succeeds
  simp only [lt_eq]
  rw [q10 hm1, q100 hm1, d10 hm1, d100 hm1, d1000 hm1, q10 hm2, q10 hm3]
  have two : (10 : Int32) * nI (m / 10 % 10) + nI (m % 10) = nI (m % 100) := by
    show nI 10 * nI (m / 10 % 10) + nI (m % 10) = _
    rw [nI_mul, nI_add]
    exact congrArg nI (by omega)
  rw [two]
  have h100 : m % 100 = 10 * (m / 10 % 10) + m % 10 := by omega
  have hk : m / 1000 < 10 := by omega
  have ha : m / 100 % 10 < 10 := Nat.mod_lt _ (by decide)
  have hb : m / 10 % 10 < 10 := Nat.mod_lt _ (by decide)
  have hc : m % 10 < 10 := Nat.mod_lt _ (by decide)
  generalize m % 100 = t at h100 ⊢
  generalize m / 1000 = k at hk ⊢
  generalize m / 100 % 10 = a at ha ⊢
  generalize m / 10 % 10 = b at hb h100 ⊢
  generalize m % 10 = c at hc h100 ⊢
  have rid : Rel (B + 1) (T + 1188) S r := R.mono up (by omega)
  rcases (show k = 0 ∨ k = 1 ∨ k = 2 ∨ k = 3 ∨ k = 4 ∨ k = 5 ∨ k = 6 ∨ k = 7 ∨ k = 8 ∨ k = 9 by omega) with rfl | rfl | rfl | rfl | rfl | rfl | rfl | rfl | rfl | rfl
  · rw [if_neg (c := nI 0 = 1) (by decide), if_neg (c := nI 0 = 2) (by decide), if_neg (c := nI 0 = 3) (by decide), if_neg (c := nI 0 = 4) (by decide), if_neg (c := nI 0 = 5) (by decide), if_neg (c := nI 0 = 6) (by decide), if_neg (c := nI 0 = 7) (by decide), if_neg (c := nI 0 = 8) (by decide), if_neg (c := nI 0 = 9) (by decide), if_neg (c := nI 0 = 1) (by decide), if_neg (c := nI 0 = 2) (by decide), if_neg (c := nI 0 = 3) (by decide), if_neg (c := nI 0 = 4) (by decide), if_neg (c := nI 0 = 5) (by decide), if_neg (c := nI 0 = 6) (by decide), if_neg (c := nI 0 = 7) (by decide), if_neg (c := nI 0 = 8) (by decide), if_neg (c := nI 0 = 9) (by decide)]
    exact ⟨0, r, S, rfl, rfl, rid, Or.inl rfl⟩
  · rw [if_pos (c := nI 1 = 1) (by decide), if_pos (c := nI 1 = 1) (by decide)]
    by_cases c0 : nI c = 0
    · rw [if_pos c0, if_pos c0]
      rcases t_ride R hB (by omega) (nI a) (nI b) with ⟨h1, h2⟩ | ⟨h1, h0, h2⟩ | ⟨z, r', S', h1, h0, h2, h3, h4, -, h5⟩
      · rw [h1, m_bd, if_pos rfl, h2, m_bd2, show fX10_letsThrough (-1) = 0 from by decide, if_pos rfl]
        exact ⟨0, r, S, rfl, rfl, rid, Or.inl rfl⟩
      · rw [h1, m_bd, if_neg n10, h0, if_pos rfl, h2, m_bd2, show fX10_letsThrough (-1) = 0 from by decide, if_pos rfl]
        exact ⟨0, r, S, rfl, rfl, rid, Or.inl rfl⟩
      · rw [h1, m_bd, if_neg n10, h0, if_neg n10, h2, h3, m_bd2, m_bd2, thr h5]
        by_cases q : fX10_letsThrough z = 0
        · rw [if_pos q, if_pos q]
          exact ⟨0, r', S', rfl, rfl, h4.mono (Nat.le_refl _) (by omega), Or.inl rfl⟩
        · rw [if_neg q, if_neg q]
          exact ⟨1, r', S', rfl, rfl, h4.mono (Nat.le_refl _) (by omega), Or.inr rfl⟩
    · rw [if_neg c0, if_neg c0]
      exact ⟨0, r, S, rfl, rfl, rid, Or.inl rfl⟩
  · rw [if_neg (c := nI 2 = 1) (by decide), if_pos (c := nI 2 = 2) (by decide), if_neg (c := nI 2 = 1) (by decide), if_pos (c := nI 2 = 2) (by decide)]
    by_cases t0 : t = 0
    · have e0 : nI t = 0 := by rw [t0]; exact nI_0
      have hp : fX10_tryPay S (nI a) (nI t) = some (0, S) := by
        unfold fX10_tryPay
        rw [lt_eq]
        rcases ha01 S (nI a) with e | e
        · rw [e, if_pos rfl]
        · rw [e, if_neg n10, e0, if_pos (by decide)]
      rw [hp, m_bd2, r_isAcc R, m_bd]
      rcases ha01 S (nI a) with e | e
      · rw [e, if_pos rfl]
        exact ⟨0, r, S, rfl, rfl, rid, Or.inl rfl⟩
      · rw [e, if_neg n10, if_pos e0]
        exact ⟨0, r, S, rfl, rfl, rid, Or.inl rfl⟩
    · rcases t_pay R (by omega) (nI a) (w := t) (by omega) (by omega) with ⟨h1, h2⟩ | ⟨z, r', S', h1, -, h2, h3, h4⟩
      · rw [h1, m_bd, if_pos rfl, h2, m_bd2]
        exact ⟨0, r, S, rfl, rfl, rid, Or.inl rfl⟩
      · rw [h1, m_bd, if_neg n10, if_neg (nI_ne0 (by omega) (by omega)), h2, m_bd2, h3, m_bd2]
        exact ⟨1, r', S', rfl, rfl, h4.mono up (by omega), Or.inr rfl⟩
  · rw [if_neg (c := nI 3 = 1) (by decide), if_neg (c := nI 3 = 2) (by decide), if_pos (c := nI 3 = 3) (by decide), if_neg (c := nI 3 = 1) (by decide), if_neg (c := nI 3 = 2) (by decide), if_pos (c := nI 3 = 3) (by decide)]
    by_cases b0 : nI b = 0
    · rw [if_pos b0, if_pos b0, r_isGate S]
      rcases Nat.lt_or_ge c 2 with c2 | c2
      · rw [if_neg (c := 2 ≤ nI c) (nI_ge (b := 2) c2 (by decide))]
        rcases (show c = 0 ∨ c = 1 by omega) with rfl | rfl
        · rw [if_neg (c := nI 0 = 1) (by decide), if_neg (c := nI 0 = 1) (by decide), if_pos (c := nI 0 = 0) (by decide)]
          rcases hg01 S (nI a) with f | f
          · rw [f, if_pos rfl]
            unfold fX10_tryDown
            rw [lt_eq, f, if_pos rfl, m_bd2, if_pos rfl]
            exact ⟨0, r, S, rfl, rfl, rid, Or.inl rfl⟩
          · obtain ⟨g, hg, eg⟩ := has_g (S := S) (x := nI a) (by rw [f]; exact n10)
            obtain ⟨z, r', S', h1, h2, h3, h4⟩ := r_tryDown R hg
            rw [f, if_neg n10, eg, h1, h2, m_bd2, m_bd2]
            rcases h4 with rfl | rfl
            · rw [if_pos rfl]
              exact ⟨0, r', S', rfl, rfl, h3.mono up (by omega), Or.inl rfl⟩
            · rw [if_neg n10, if_neg n10]
              exact ⟨1, r', S', rfl, rfl, h3.mono up (by omega), Or.inr rfl⟩
        · rw [if_pos (c := nI 1 = 1) (by decide), if_pos (c := nI 1 = 1) (by decide)]
          rcases hg01 S (nI a) with f | f
          · rw [f, if_pos rfl]
            unfold fX10_tryUp
            rw [lt_eq, f, if_pos rfl, m_bd2, if_pos rfl]
            exact ⟨0, r, S, rfl, rfl, rid, Or.inl rfl⟩
          · obtain ⟨g, hg, eg⟩ := has_g (S := S) (x := nI a) (by rw [f]; exact n10)
            obtain ⟨z, r', S', h1, h2, h3, h4, -⟩ := r_tryUp R (by omega) hT hg
            rw [f, if_neg n10, eg, h1, h2, m_bd2, m_bd2]
            rcases h4 with rfl | rfl
            · rw [if_pos rfl]
              exact ⟨0, r', S', rfl, rfl, h3.mono up (by omega), Or.inl rfl⟩
            · rw [if_neg n10, if_neg n10]
              exact ⟨1, r', S', rfl, rfl, h3.mono up (by omega), Or.inr rfl⟩
      · rw [if_pos (c := 2 ≤ nI c) (nI_le (a := 2) c2 (by omega)), if_neg (c := nI c = 1) (fun q => by have := (nI_eq (b := 1) (show c < 2 ^ 31 by omega) (by decide)).mp q; omega), if_neg (c := nI c = 0) (nI_ne0 (by omega) (by omega))]
        exact ⟨0, r, S, rfl, rfl, rid, Or.inl rfl⟩
    · rw [if_neg b0, if_neg b0]
      exact ⟨0, r, S, rfl, rfl, rid, Or.inl rfl⟩
  · rw [if_neg (c := nI 4 = 1) (by decide), if_neg (c := nI 4 = 2) (by decide), if_neg (c := nI 4 = 3) (by decide), if_pos (c := nI 4 = 4) (by decide), if_neg (c := nI 4 = 1) (by decide), if_neg (c := nI 4 = 2) (by decide), if_neg (c := nI 4 = 3) (by decide), if_pos (c := nI 4 = 4) (by decide)]
    by_cases a0 : nI a = 0
    · rw [if_pos a0, if_pos a0, m_in (nI t) 1 60 1 60 (by decide) (by decide)]
      by_cases t1 : 1 ≤ t ∧ t ≤ 60
      · obtain ⟨z, r', S', h1, h2, h3, h4, h5⟩ := t_run R (by omega) t1.1 t1.2
        rw [if_neg (c := nI t < 1) (nI_nlt (b := 1) t1.1 (by omega)), if_neg (c := 60 < nI t) (nI_nlt (a := 60) t1.2 (by decide)), if_neg n10, h3, h4, m_bd2, m_bd2, if_neg (nI_nle h1 (by omega)), if_neg n10]
        exact ⟨1, r', S', rfl, rfl, h5.mono up (by omega), Or.inr rfl⟩
      · have hp : fX10_tryRun S (nI t) = some (0, S) := by
          unfold fX10_tryRun
          rcases Nat.eq_zero_or_pos t with q | q
          · rw [if_pos (c := nI t < 1) (nI_lt (b := 1) (by omega) (by decide))]
          · rw [if_neg (c := nI t < 1) (nI_nlt (b := 1) q (by omega)), if_neg (c := nI t ≤ 60) (nI_ge (a := 60) (by omega) (by omega))]
        have hq : (if nI t < 1 then (0 : Int32) else if 60 < nI t then 0 else 1) = 0 := by
          rcases Nat.eq_zero_or_pos t with q | q
          · rw [if_pos (c := nI t < 1) (nI_lt (b := 1) (by omega) (by decide))]
          · rw [if_neg (c := nI t < 1) (nI_nlt (b := 1) q (by omega)), if_pos (c := 60 < nI t) (nI_lt (a := 60) (by omega) (by omega))]
        rw [hq, if_pos rfl, hp, m_bd2, if_pos rfl]
        exact ⟨0, r, S, rfl, rfl, rid, Or.inl rfl⟩
    · rw [if_neg a0, if_neg a0]
      exact ⟨0, r, S, rfl, rfl, rid, Or.inl rfl⟩
  · rw [if_neg (c := nI 5 = 1) (by decide), if_neg (c := nI 5 = 2) (by decide), if_neg (c := nI 5 = 3) (by decide), if_neg (c := nI 5 = 4) (by decide), if_pos (c := nI 5 = 5) (by decide), if_neg (c := nI 5 = 1) (by decide), if_neg (c := nI 5 = 2) (by decide), if_neg (c := nI 5 = 3) (by decide), if_neg (c := nI 5 = 4) (by decide), if_pos (c := nI 5 = 5) (by decide)]
    by_cases t0 : nI t = 0
    · rw [if_pos t0, if_pos t0]
      rcases t_copy R (nI a) with ⟨h1, h2⟩ | ⟨q, r', S', hq, hq2, h1, h2, h3, h4⟩
      · rw [h1, m_bd, if_pos rfl, h2, m_bd2, if_pos rfl]
        exact ⟨0, r, S, rfl, rfl, rid, Or.inl rfl⟩
      · rw [h1, m_bd, if_neg n10, h2, h3, m_bd2, m_bd2, if_neg (nI_nle hq (by omega)), if_neg n10]
        exact ⟨1, r', S', rfl, rfl, h4.mono up (by omega), Or.inr rfl⟩
    · rw [if_neg t0, if_neg t0]
      exact ⟨0, r, S, rfl, rfl, rid, Or.inl rfl⟩
  · rw [if_neg (c := nI 6 = 1) (by decide), if_neg (c := nI 6 = 2) (by decide), if_neg (c := nI 6 = 3) (by decide), if_neg (c := nI 6 = 4) (by decide), if_neg (c := nI 6 = 5) (by decide), if_pos (c := nI 6 = 6) (by decide), if_neg (c := nI 6 = 1) (by decide), if_neg (c := nI 6 = 2) (by decide), if_neg (c := nI 6 = 3) (by decide), if_neg (c := nI 6 = 4) (by decide), if_neg (c := nI 6 = 5) (by decide), if_pos (c := nI 6 = 6) (by decide)]
    by_cases b0 : nI b = 0
    · rw [if_pos b0, if_pos b0, r_isAcc R, m_bd]
      rcases ha01 S (nI a) with e | e
      · rw [e, if_pos rfl, if_pos rfl]
        rcases Nat.lt_or_ge c 2 with c2 | c2
        · rw [if_neg (c := 2 ≤ nI c) (nI_ge (b := 2) c2 (by decide))]
          exact ⟨0, r, S, rfl, rfl, rid, Or.inl rfl⟩
        · rw [if_pos (c := 2 ≤ nI c) (nI_le (a := 2) c2 (by omega))]
          exact ⟨0, r, S, rfl, rfl, rid, Or.inl rfl⟩
      · obtain ⟨a', ha', ea, hA⟩ := has_a R (x := nI a) (by rw [e]; exact n10)
        rw [e, if_neg n10, if_neg n10, ea, r_isBlocked R ha', m_bd]
        rcases Nat.lt_or_ge c 2 with c2 | c2
        · rw [if_neg (c := 2 ≤ nI c) (nI_ge (b := 2) c2 (by decide))]
          rcases (show c = 0 ∨ c = 1 by omega) with rfl | rfl <;> rcases r_isBl01 (S := S) (nI a') with f | f <;> rw [f]
          · rw [if_neg (c := nI 0 = 1) (by decide), if_pos rfl, if_pos rfl, if_pos (c := nI 0 = 0) (by decide)]
            exact ⟨1, r, S, rfl, rfl, rid, Or.inr rfl⟩
          · rw [if_neg (c := nI 0 = 1) (by decide), if_neg n10, if_neg n10, if_neg (c := nI 0 = 1) (by decide)]
            exact ⟨0, r, S, rfl, rfl, rid, Or.inl rfl⟩
          · rw [if_pos (c := nI 1 = 1) (by decide), if_neg (by decide), if_pos rfl, if_neg (c := nI 1 = 0) (by decide)]
            exact ⟨0, r, S, rfl, rfl, rid, Or.inl rfl⟩
          · rw [if_pos (c := nI 1 = 1) (by decide), if_pos rfl, if_neg n10, if_pos (c := nI 1 = 1) (by decide)]
            exact ⟨1, r, S, rfl, rfl, rid, Or.inr rfl⟩
        · rw [if_pos (c := 2 ≤ nI c) (nI_le (a := 2) c2 (by omega)), if_neg (c := nI c = 1) (fun q => by have := (nI_eq (b := 1) (show c < 2 ^ 31 by omega) (by decide)).mp q; omega), if_neg (c := nI c = 0) (nI_ne0 (by omega) (by omega))]
          rcases r_isBl01 (S := S) (nI a') with f | f <;> rw [f]
          · rw [if_pos rfl]
            exact ⟨0, r, S, rfl, rfl, rid, Or.inl rfl⟩
          · rw [if_neg n10]
            exact ⟨0, r, S, rfl, rfl, rid, Or.inl rfl⟩
    · rw [if_neg b0, if_neg b0]
      exact ⟨0, r, S, rfl, rfl, rid, Or.inl rfl⟩
  · rw [if_neg (c := nI 7 = 1) (by decide), if_neg (c := nI 7 = 2) (by decide), if_neg (c := nI 7 = 3) (by decide), if_neg (c := nI 7 = 4) (by decide), if_neg (c := nI 7 = 5) (by decide), if_neg (c := nI 7 = 6) (by decide), if_pos (c := nI 7 = 7) (by decide), if_neg (c := nI 7 = 1) (by decide), if_neg (c := nI 7 = 2) (by decide), if_neg (c := nI 7 = 3) (by decide), if_neg (c := nI 7 = 4) (by decide), if_neg (c := nI 7 = 5) (by decide), if_neg (c := nI 7 = 6) (by decide), if_pos (c := nI 7 = 7) (by decide)]
    rw [r_isGate S]
    rcases hg01 S (nI a) with f | f
    · rw [f, if_pos rfl, if_pos rfl]
      exact ⟨0, r, S, rfl, rfl, rid, Or.inl rfl⟩
    · obtain ⟨g, hg, eg⟩ := has_g (S := S) (x := nI a) (by rw [f]; exact n10)
      have el : fX3_logSize S (nI g) = r (87 + 5 * g) := by
        unfold fX3_logSize
        rw [lt_eq, m_fget _ hg (by decide), (R.gate g hg).2.2.2]
      rw [f, if_neg n10, if_neg n10, eg, gG3 hg, kG3 hg, el]
      by_cases q : nI t < r (87 + 5 * g)
      · rw [if_pos q, if_pos q]
        exact ⟨0, r, S, rfl, rfl, rid, Or.inl rfl⟩
      · rw [if_neg q, if_neg q]
        exact ⟨1, r, S, rfl, rfl, rid, Or.inr rfl⟩
  · rw [if_neg (c := nI 8 = 1) (by decide), if_neg (c := nI 8 = 2) (by decide), if_neg (c := nI 8 = 3) (by decide), if_neg (c := nI 8 = 4) (by decide), if_neg (c := nI 8 = 5) (by decide), if_neg (c := nI 8 = 6) (by decide), if_neg (c := nI 8 = 7) (by decide), if_pos (c := nI 8 = 8) (by decide), if_neg (c := nI 8 = 1) (by decide), if_neg (c := nI 8 = 2) (by decide), if_neg (c := nI 8 = 3) (by decide), if_neg (c := nI 8 = 4) (by decide), if_neg (c := nI 8 = 5) (by decide), if_neg (c := nI 8 = 6) (by decide), if_neg (c := nI 8 = 7) (by decide), if_pos (c := nI 8 = 8) (by decide)]
    rw [r_isCard R, m_bd]
    rcases hc01 S (nI a) with e | e
    · rw [e, if_pos rfl, if_pos rfl]
      exact ⟨0, r, S, rfl, rfl, rid, Or.inl rfl⟩
    · obtain ⟨a', ha', ea, hA⟩ := has_c R (x := nI a) (by rw [e]; exact n10)
      rw [e, if_neg n10, if_neg n10, ea, gC1 ha', kC1 ha', m_fget _ ha' (by decide), (R.card a' ha' hA).2.1]
      by_cases q : r (13 + 4 * a') < nI t
      · rw [if_pos q, if_pos q]
        exact ⟨0, r, S, rfl, rfl, rid, Or.inl rfl⟩
      · rw [if_neg q, if_neg q]
        exact ⟨1, r, S, rfl, rfl, rid, Or.inr rfl⟩
  · rw [if_neg (c := nI 9 = 1) (by decide), if_neg (c := nI 9 = 2) (by decide), if_neg (c := nI 9 = 3) (by decide), if_neg (c := nI 9 = 4) (by decide), if_neg (c := nI 9 = 5) (by decide), if_neg (c := nI 9 = 6) (by decide), if_neg (c := nI 9 = 7) (by decide), if_neg (c := nI 9 = 8) (by decide), if_pos (c := nI 9 = 9) (by decide), if_neg (c := nI 9 = 1) (by decide), if_neg (c := nI 9 = 2) (by decide), if_neg (c := nI 9 = 3) (by decide), if_neg (c := nI 9 = 4) (by decide), if_neg (c := nI 9 = 5) (by decide), if_neg (c := nI 9 = 6) (by decide), if_neg (c := nI 9 = 7) (by decide), if_neg (c := nI 9 = 8) (by decide), if_pos (c := nI 9 = 9) (by decide)]
    by_cases a0 : nI a = 0
    · rw [if_pos a0, if_pos a0, gN5, kN5, show S 0 7 = r 5 from R.eN 3 (by decide)]
      by_cases q : nI t < r 5
      · rw [if_pos q, if_pos q]
        exact ⟨0, r, S, rfl, rfl, rid, Or.inl rfl⟩
      · rw [if_neg q, if_neg q]
        exact ⟨1, r, S, rfl, rfl, rid, Or.inr rfl⟩
    · rw [if_neg a0, if_neg a0]
      exact ⟨0, r, S, rfl, rfl, rid, Or.inl rfl⟩
