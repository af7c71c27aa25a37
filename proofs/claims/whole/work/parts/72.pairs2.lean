/-! the calls in pairs: the text -/
section PAIRT
variable {B T : Nat} {V : uV}
theorem m255 : (255 : Int32).toInt = 255 := by decide
theorem q_append (W : WR B T V) (a : Int32) : Pair2 B T V (fX11_append V a) (fX12_append (V 19) a) 1 2 := by
  obtain ⟨R, H, Sl, t, ht, t1, t2, t3⟩ := W
  have W : WR B T V := ⟨R, H, Sl, t, ht, t1, t2, t3⟩
  unfold fX11_append fX12_append fX2_length
  simp only [lt_eq]
  by_cases c : 0 ≤ a ∧ a ≤ 255
  · rw [th_y (dec_t c), in1 (lo := 0) (hi := 255) (by decide) (by decide) c, if_neg n10, t1, t2]
    rcases Nat.lt_or_ge t 120 with q | q
    · rw [if_neg (c := 120 ≤ nI t) (nI_ge (b := 120) q (by decide)), if_neg (c := nI t = 120) (fun h => by have := (nI_eq (b := 120) (show t < 2 ^ 31 by omega) (by decide)).mp h; omega), th_y (dec_t n10), ref0, m_bd2, if_pos rfl]
      have hx : inb (nI t) 120 = true ∧ (nI t).toNatClampNeg = t := mx rfl q (by decide)
      have e2 : mRef (V 19) 0 0 2 = nI t := t2
      rw [e2, m_gd hx.1, hx.2]
      unfold fX2_add
      simp only [lt_eq]
      rw [t1, m_fput _ _ q (by decide), m_bd2]
      refine ⟨0, nI (t + 1), va_up V 18 (va_up (va_up (V 18) 3 (upd (V 18 3) t a)) 1 (upd (V 18 1) 1 (nI (t + 1)))), nI (t + 1), va_up (va_up (mRef (V 19) 0) 1 (upd (V 19 1) t a)) 0 (upd (mRef (V 19) 0 0) 2 (nI (t + 1))), ?_, rfl, ?_, Or.inl ⟨rfl, rfl, rfl⟩, ?_⟩
      · have e1 : va_up (V 18) 3 (upd (V 18 3) t a) 1 1 = nI t := t1
        rw [e1, nI_1]
        rfl
      · have e3 : va_up (mRef (V 19) 0) 1 (upd (mRef (V 19) 0 1) t a) 0 2 = nI t := t2
        rw [e3, nI_1]
        rfl
      · refine ⟨R, H.cg (fun t h1 h2 => ?_) rfl rfl rfl, Sl.cg rfl rfl rfl rfl rfl, t + 1, by omega, rfl, rfl, fun i hi => ?_⟩
        · rw [va_up_n (by omega), va_up_n (by omega)]
        · show upd (V 18 3) t a i = upd (V 19 1) t a i
          by_cases e : i = t
          · subst e; rw [upd_at, upd_at]
          · rw [upd_ne e, upd_ne e]
            exact t3 i (by omega)
    · have h120 : t = 120 := by omega
      rw [if_pos (c := 120 ≤ nI t) (nI_le (a := 120) q (by omega)), if_pos (c := nI t = 120) (by rw [h120]; rfl), th_n (dec_f (by decide)), ref2, m_bd2, if_neg n10]
      exact p2_2 W rfl rfl
  · rw [th_n (dec_f c), in0 (lo := 0) (hi := 255) (by decide) (by decide) c, if_pos rfl, ref1, m_bd2, if_neg n10]
    exact p2_1 W rfl rfl
theorem q_clearText (W : WR B T V) : Pair0 B T V (fX11_clearText V) (fX12_clearText (V 19)) := by
  obtain ⟨R, H, Sl, t, ht, t1, t2, t3⟩ := W
  unfold fX11_clearText fX12_clearText fX2_empty
  simp only [lt_eq]
  have e2 : va_up (V 19) 0 (upd (V 19 0) 0 0) 0 2 = nI t := t2
  rw [e2, t1, m_bd2]
  refine ⟨nI t, _, _, rfl, rfl, rfl, R, H.cg (fun t h1 h2 => ?_) rfl rfl rfl, Sl.cg rfl rfl rfl rfl rfl, 0, by omega, ?_, ?_, fun i hi => absurd hi (Nat.not_lt_zero i)⟩
  · rw [va_up_n (by omega), va_up_n (by omega)]
  · rw [nI_0]; rfl
  · rw [nI_0]; rfl
theorem look_keep (W : WR B T V) {M' : Nat → Nat → Int32} (K : KeepM (V 19) M') : WR B T (va_up V 19 M') :=
  W.look (fun t h1 h2 => va_up_n (by omega)) (K.1 1 (by decide) (by decide)) (K.1 2 (by decide) (by decide)) (K.1 5 (by decide) (by decide)) (K.1 6 (by decide) (by decide)) (K.1 7 (by decide) (by decide)) (K.2 7 (by decide) (by decide)) (K.2 2 (by decide) (by decide))
theorem q_errorPosition (W : WR B T V) : Pair0 B T V (fX11_errorPosition V) (fX12_errorPosition (V 19)) := by
  obtain ⟨t, ht, t1, t2, t3⟩ := W.2.2.2
  unfold fX11_errorPosition fX12_errorPosition
  rw [lt_eq]
  obtain ⟨M', K, w⟩ := r_text (X := V 18) (M := mRef (V 19) 0) ht t1 t2 t3 (V 0)
  have hW : WR B T (va_up V 19 M') := W.look (fun t h1 h2 => va_up_n (by omega)) (K.1 1 (by decide) (by decide)) (K.1 2 (by decide) (by decide)) (K.1 5 (by decide) (by decide)) (K.1 6 (by decide) (by decide)) (K.1 7 (by decide) (by decide)) (K.2 7 (by decide) (by decide)) (K.2 2 (by decide) (by decide))
  have e : va_up (V 19) 0 (upd (V 19 0) 0 0) = mRef (V 19) 0 := rfl
  rw [e]
  rcases w with ⟨p, w1, w2, w3⟩ | ⟨w1, w2, -⟩
  · rw [w1, w3, m_bd, m_bd2]
    exact ⟨nI p, V, M', rfl, rfl, rfl, hW⟩
  · rw [w1, w2, m_bd, m_bd2]
    exact ⟨-1, V, M', rfl, rfl, rfl, hW⟩
def ldV (V : uV) : uV := va_up (va_up (va_up V 0 (clr (V 0))) 18 (va_up (va_up (V 18) 4 (upd (V 18 4) 1 0)) 4 (upd (upd (V 18 4) 1 0) 2 0))) 18 (va_up (va_up (va_up (va_up (V 18) 4 (upd (V 18 4) 1 0)) 4 (upd (upd (V 18 4) 1 0) 2 0)) 6 (upd (V 18 6) 2 0)) 6 (upd (upd (V 18 6) 2 0) 3 0))
theorem q_load (W : WR B T V) (hB : 119 ≤ B) (hT : 142560 ≤ T) : Pair1 B T V (fX11_load V) (fX12_load (V 19)) 2 := by
  obtain ⟨t, ht, t1, t2, t3⟩ := W.2.2.2
  obtain ⟨M', K, w⟩ := r_text (X := V 18) (M := V 19) ht t1 t2 t3 (V 0)
  rcases w with ⟨p, w1, w2, w3⟩ | ⟨w1, w2, -⟩
  · refine ⟨2, 0, V, 0, mRef M' 1, ?_, rfl, ?_, Or.inr ⟨rfl, mRef_0 _ _⟩, ?_⟩
    · unfold fX11_load
      rw [w3, m_bd, if_neg (nm1 p (by omega)), th_n (dec_f (by decide))]
    · unfold fX12_load
      rw [w1, m_bd2, if_neg (nm1 p (by omega)), ref1, m_bd2, if_neg n10]
    · exact W.look (fun t h1 h2 => va_up_n (by omega)) (K.1 1 (by decide) (by decide)) (K.1 2 (by decide) (by decide)) (K.1 5 (by decide) (by decide)) (K.1 6 (by decide) (by decide)) (K.1 7 (by decide) (by decide)) (K.2 7 (by decide) (by decide)) (K.2 2 (by decide) (by decide))
  · obtain ⟨M2, K2, u⟩ := r_text (X := ldV V 18) (M := V 19) ht t1 t2 t3 (V 0)
    rcases u with ⟨p, u1, u2, u3⟩ | ⟨u1, u2, S', R', u3⟩
    · rw [w1] at u1
      exact absurd (Prod.mk.inj (Option.some.inj u1)).1.symm (nm1 p (by omega))
    · have eM : M' = M2 := (Prod.mk.inj (Option.some.inj (w1.symm.trans u1))).2
      subst eM
      refine ⟨0, M' 0 11, va_up (ldV V) 0 S', M' 0 11, va_up (va_up (va_up (va_up (mRef M' 0) 2 (va_cpy (M' 3) (M' 2) 0 0 1272)) 0 (upd (mRef M' 0 0) 7 0)) 7 (upd (M' 7) 0 0)) 7 (upd (upd (M' 7) 0 0) 1 0), ?_, rfl, ?_, Or.inl ⟨rfl, rfl, rfl⟩, ?_⟩
      · unfold fX11_load
        rw [w2, m_bd, if_pos rfl, th_y (dec_t n10), clr_eq, m_bd, lt_eq]
        unfold fX4_clear
        rw [lt_eq, lt_eq, m_bd, lt_eq]
        unfold fX9_clear
        rw [lt_eq, lt_eq, m_bd, lt_eq]
        exact u3 (ldV V) rfl rfl
      · unfold fX12_load
        rw [w1, m_bd2, if_pos rfl, ref0, m_bd2, if_pos rfl, fcp00, m_bd, lt_eq, lt_eq, m_gd (b := inb 0 2) (by decide), lt_eq, m_gd (b := inb 1 2) (by decide), lt_eq, lt_eq, kN0, kN1]
        rfl
      · refine ⟨?_, ⟨0, 0, by omega, by omega, ?_, ?_, ?_, fun k hk => absurd hk (Nat.not_lt_zero k)⟩, ⟨⟨rfl, rfl⟩, Or.inl rfl, Or.inl rfl, fun q => absurd (show (0 : Int32) = 1 from q) (by decide), fun q => absurd (show (0 : Int32) = 1 from q) (by decide)⟩, t, ht, t1, (K.2 2 (by decide) (by decide)).trans t2, fun i hi => ?_⟩
        · exact (R'.ext (fun j hj => cpy_row hj)).mono (by omega) (by omega)
        · rw [nI_0]; rfl
        · rw [nI_0]; rfl
        · rw [nI_0]; rfl
        · show V 18 3 i = M' 1 i
          rw [K.1 1 (by decide) (by decide)]
          exact t3 i hi
end PAIRT
