/-! the calls in pairs: what would be -/
theorem sh33 (x : Int64) : ∃ m : Nat, m < 2 ^ 31 ∧ ((x.toUInt64 >>> ((33 : Int32).toInt64.toUInt64 &&& Int64.toUInt64 63)).toInt64).toInt32 = nI m := by
  have e : ((x.toUInt64 >>> ((33 : Int32).toInt64.toUInt64 &&& Int64.toUInt64 63)).toInt64).toBitVec = x.toBitVec >>> 33 := by
    have hs : (((33 : Int32).toInt64.toUInt64 &&& Int64.toUInt64 63).toBitVec % 64).toNat = 33 := by decide
    rw [← hs]
    exact UInt64.toBitVec_shiftRight _ _
  refine ⟨(x.toBitVec >>> 33).toNat, ?_, ?_⟩
  · rw [BitVec.toNat_ushiftRight, Nat.shiftRight_eq_div_pow]
    have := x.toBitVec.isLt
    omega
  · have ey : ((x.toUInt64 >>> ((33 : Int32).toInt64.toUInt64 &&& Int64.toUInt64 63)).toInt64) = lN ((x.toBitVec >>> 33).toNat) := by
      apply Int64.toBitVec_inj.mp
      rw [e]
      apply BitVec.eq_of_toNat_eq
      show _ = (BitVec.ofNat 64 (x.toBitVec >>> 33).toNat).toNat
      rw [BitVec.toNat_ofNat, Nat.mod_eq_of_lt (BitVec.isLt _)]
    rw [ey, lN_i]
section LOOK
variable {B T : Nat} {V : uV}
abbrev Keep3 (M M' : Nat → Nat → Int32) : Prop := ∀ k, k ≠ 3 → M' k = M k
abbrev KeepV (V V' : uV) : Prop := ∀ t, t ≠ 1 → V' t = V t
/-- the look ahead done, nothing else has changed -/
theorem look3 (W : WR B T V) {V' : uV} {M' : Nat → Nat → Int32} (hV : KeepV V V') (hM : Keep3 (mRef (V 19) 0) M') : V' 19 = V 19 ∧ M' 0 0 = 0 ∧ WR B T (va_up V' 19 M') := by
  refine ⟨hV 19 (by decide), by rw [hM 0 (by decide), mRef_0], ?_⟩
  refine W.look (fun t h1 h2 => by rw [va_up_n (by omega)]; exact hV t h1) ?_ ?_ ?_ ?_ ?_ ?_ ?_
  · rw [va_up_s, hM 1 (by decide)]; rfl
  · rw [va_up_s, hM 2 (by decide)]; rfl
  · rw [va_up_s, hM 5 (by decide)]; rfl
  · rw [va_up_s, hM 6 (by decide)]; rfl
  · rw [va_up_s, hM 7 (by decide)]; rfl
  · rw [va_up_s, hM 0 (by decide)]; rfl
  · rw [va_up_s, hM 0 (by decide)]; rfl
theorem look4 (W : WR B T V) {V' : uV} {M' : Nat → Nat → Int32} {k0 : Int32} (hV : KeepV V V') (hM : ∀ k, k ≠ 4 → M' k = mRef (V 19) k0 k) : V' 19 = V 19 ∧ M' 0 0 = k0 ∧ WR B T (va_up V' 19 M') := by
  refine ⟨hV 19 (by decide), by rw [hM 0 (by decide), mRef_0], ?_⟩
  refine W.look (fun t h1 h2 => by rw [va_up_n (by omega)]; exact hV t h1) ?_ ?_ ?_ ?_ ?_ ?_ ?_
  · rw [va_up_s, hM 1 (by decide)]; rfl
  · rw [va_up_s, hM 2 (by decide)]; rfl
  · rw [va_up_s, hM 5 (by decide)]; rfl
  · rw [va_up_s, hM 6 (by decide)]; rfl
  · rw [va_up_s, hM 7 (by decide)]; rfl
  · rw [va_up_s, hM 0 (by decide)]; rfl
  · rw [va_up_s, hM 0 (by decide)]; rfl
/-- the row copied -/
theorem r_cpy {S : Nat → Nat → Int32} {r f : Nat → Int32} (R : Rel B T S r) : Rel B T S (va_cpy r f 0 0 1272) := R.ext (fun j hj => cpy_row hj)
theorem q_would (W : WR B T V) (hB : B + 1 < 1024) (hT : T + 150000 < 2 ^ 30) (x y : Int32) : Pair1 B T V (fX11_would V x y) (fX12_would (V 19) x y) 3 := by
  have R := W.1
  unfold fX11_would fX12_would
  simp only [lt_eq]
  rw [r_isCard R, m_bd, r_isGate (V 0)]
  rcases hc01 (V 0) x with e | e
  · rw [e, if_pos rfl, if_pos rfl, th_n (dec_f (by decide)), ref1, m_bd2, if_neg n10]
    exact p1_1 W rfl rfl
  · rw [e, if_neg n10, if_neg n10]
    rcases hg01 (V 0) y with f | f
    · rw [f, if_pos rfl, if_pos rfl, th_n (dec_f (by decide)), ref1, m_bd2, if_neg n10]
      exact p1_1 W rfl rfl
    · rw [f, if_neg n10, if_neg n10, th_y (dec_t n10), ref0, m_bd2, if_pos rfl, fcp00, m_bd, va_up_s, va_up_s]
      obtain ⟨c, hc, rfl, hC⟩ := has_c R (x := x) (by rw [e]; exact n10)
      obtain ⟨g, hg, rfl⟩ := has_g (S := V 0) (x := y) (by rw [f]; exact n10)
      have hC' : nI c < va_cpy (V 19 2) (mRef (V 19) 0 3) 0 0 1272 0 := by rw [cpy_row (by omega)]; exact hC
      obtain ⟨z, r', S', k1, k2, k3, -⟩ := r_ride (r_cpy (f := mRef (V 19) 0 3) R) hB (by omega) hc hC' hg
      rw [mRef_2, k1, k2, m_bd2, m_bd2]
      obtain ⟨u1, u2, u3⟩ := look3 W (V' := va_up (va_up V 1 (V 0)) 1 S') (M' := va_up (va_up (mRef (V 19) 0) 3 (va_cpy (V 19 2) (mRef (V 19) 0 3) 0 0 1272)) 3 r') (fun t h => by rw [va_up_n h, va_up_n h]) (fun k h => by rw [va_up_n h, va_up_n h])
      exact ⟨0, z, _, z, _, rfl, u1, rfl, Or.inl ⟨rfl, u2, rfl⟩, u3⟩
theorem rides_L {c g : Nat} (hc : c < 10) (hg : g < 4) : ∀ (m k n n' B T : Nat) (V : uV) (M : Nat → Nat → Int32), k + m = 100 → m < n → m < n' → B + m < 1023 → T + 200 * m + 200 < 2 ^ 30 → Rel B T (V 1) (M 3) → nI c < M 3 0 → ∃ y V' M', fX11_rides_L49 n V (nI c) (nI g) (nI k) = some (0, y, V') ∧ fX12_rides_L47 n' M (nI c) (nI g) (nI k) = some (y, M') ∧ KeepV V V' ∧ Keep3 M M' := by
  intro m
  induction m with
  | zero =>
    intro k n n' B T V M hk hn hn' hB hT R hC
    obtain ⟨n, rfl⟩ : ∃ m, n = m + 1 := ⟨n - 1, by omega⟩
    obtain ⟨n', rfl⟩ : ∃ m, n' = m + 1 := ⟨n' - 1, by omega⟩
    have hk100 : k = 100 := by omega
    subst hk100
    rw [fX11_rides_L49, fX12_rides_L47, if_pos (c := 100 ≤ nI 100) (by decide), if_pos (c := 100 ≤ nI 100) (by decide)]
    exact ⟨nI 100, V, M, rfl, rfl, fun _ _ => rfl, fun _ _ => rfl⟩
  | succ m ih =>
    intro k n n' B T V M hk hn hn' hB hT R hC
    obtain ⟨n, rfl⟩ : ∃ m, n = m + 1 := ⟨n - 1, by omega⟩
    obtain ⟨n', rfl⟩ : ∃ m, n' = m + 1 := ⟨n' - 1, by omega⟩
    obtain ⟨p, hp, ep⟩ := R.mpause
    have e39 : fget 4 (V 1 39) 1 = nI p := ((m_fget (a := 1) (V 1 39) (by decide) (by decide)).trans (R.eS 1 (by decide))).trans ep
    obtain ⟨z, r1, w1, w2, w3, w4, w5, R1, w6⟩ := r_run R (by omega) (show p ≤ 60 by omega)
    have hC1 : nI c < r1 0 := by rw [w6 0 (by decide)]; exact hC
    obtain ⟨y, r', S', k1, k2, k3, k4, k5, k6⟩ := r_ride R1 (by omega) (by omega) hc hC1 hg
    rw [fX11_rides_L49, fX12_rides_L47, if_neg (c := 100 ≤ nI k) (nI_ge (b := 100) (by omega) (by decide)), if_neg (c := 100 ≤ nI k) (nI_ge (b := 100) (by omega) (by decide))]
    simp only [lt_eq]
    rw [e39, w4, gN9, kN9, ep, w1, m_bd2, va_up_s, va_up_s, k1, k2, m_bd2, m_bd2, thr k6]
    by_cases q : fX10_letsThrough y = 0
    · rw [if_pos q, if_pos q]
      exact ⟨nI k, _, _, rfl, rfl, fun t h => by rw [va_up_n h, va_up_n h], fun t h => by rw [va_up_n h, va_up_n h]⟩
    · rw [if_neg q, if_neg q, nI_1]
      obtain ⟨y', V', M', u1, u2, u3, u4⟩ := ih (k + 1) n n' (B + 1) (T + 60 + 99) (va_up (va_up V 1 (va_up (V 1) 0 (upd (V 1 0) 4 (nI z)))) 1 S') (va_up (va_up M 3 r1) 3 r') (by omega) (by omega) (by omega) (by omega) (by omega) (by rw [va_up_s, va_up_s]; exact k3) (by rw [va_up_s, k4]; exact hC1)
      exact ⟨y', V', M', u1, u2, fun t h => by rw [u3 t h, va_up_n h, va_up_n h], fun t h => by rw [u4 t h, va_up_n h, va_up_n h]⟩
theorem q_rides (W : WR B T V) (hB : B + 101 < 1023) (hT : T + 150000 < 2 ^ 30) (x y : Int32) : Pair1 B T V (fX11_rides V x y) (fX12_rides (V 19) x y) 3 := by
  have R := W.1
  unfold fX11_rides fX12_rides
  simp only [lt_eq]
  rw [r_isCard R, m_bd, r_isGate (V 0)]
  rcases hc01 (V 0) x with e | e
  · rw [e, if_pos rfl, if_pos rfl, th_n (dec_f (by decide)), ref1, m_bd2, if_neg n10]
    exact p1_1 W rfl rfl
  · rw [e, if_neg n10, if_neg n10]
    rcases hg01 (V 0) y with f | f
    · rw [f, if_pos rfl, if_pos rfl, th_n (dec_f (by decide)), ref1, m_bd2, if_neg n10]
      exact p1_1 W rfl rfl
    · rw [f, if_neg n10, if_neg n10, th_y (dec_t n10), ref0, m_bd2, if_pos rfl, fcp00, m_bd]
      obtain ⟨c, hc, rfl, hC⟩ := has_c R (x := x) (by rw [e]; exact n10)
      obtain ⟨g, hg, rfl⟩ := has_g (S := V 0) (x := y) (by rw [f]; exact n10)
      obtain ⟨z, V', M', u1, u2, u3, u4⟩ := rides_L hc hg 100 0 3000 3000 B T (va_up V 1 (V 0)) (va_up (mRef (V 19) 0) 3 (va_cpy (mRef (V 19) 0 2) (mRef (V 19) 0 3) 0 0 1272)) (by omega) (by omega) (by omega) (by omega) (by omega) (by rw [va_up_s, va_up_s, mRef_2]; exact r_cpy R) (by rw [va_up_s, mRef_2, cpy_row (by omega)]; exact hC)
      rw [nI_0] at u1 u2
      rw [u1, u2]
      obtain ⟨v1, v2, v3⟩ := look3 W (V' := V') (M' := M') (fun t h => by rw [u3 t h, va_up_n h]) (fun k h => by rw [u4 k h, va_up_n h])
      exact ⟨0, z, _, z, _, rfl, v1, rfl, Or.inl ⟨rfl, v2, rfl⟩, v3⟩
end LOOK
