/-! the whole text -/
theorem KeepM.trans {M M1 M2 : Nat → Nat → Int32} (h : KeepM M M1) (h2 : KeepM M1 M2) : KeepM M M2 :=
  ⟨fun k a b => (h2.1 k a b).trans (h.1 k a b), fun k a b => (h2.2 k a b).trans (h.2 k a b)⟩
theorem r_loop {X : Nat → Nat → Int32} {t : Nat} (ht : t ≤ 120) (h11 : X 1 1 = nI t) : ∀ (m p B T n n' n'' : Nat) (S M : Nat → Nat → Int32), p + m = t ∨ m = 0 ∧ t ≤ p → p < 2 ^ 20 → m < n → m < n' → m < n'' → B + m < 1023 → T + 1188 * m < 2 ^ 29 → Rel B T S (M 3) → M 0 2 = nI t → (∀ i, i < t → X 3 i = M 1 i) → M 0 10 = nI p →
    ∃ M', KeepM M M' ∧ ((∃ e, fX12_readText_L39 n M = some (nI e, M') ∧ e < 2 ^ 20 ∧ fX2_firstError_L21 X n' (nI p) = some (nI e)) ∨ (fX12_readText_L39 n M = some (-1, M') ∧ fX2_firstError_L21 X n' (nI p) = some (-1) ∧ ∃ S', Rel (B + m) (T + 1188 * m) S' (M' 3) ∧ ∀ V : uV, V 0 = S → V 18 = X → fX11_load_L44 n'' V (M 0 11) (nI p) = some (0, M' 0 11, va_up V 0 S'))) := by
  intro m
  induction m using Nat.strongRecOn with
  | ind m ih =>
    intro p B T n n' n'' S M hpm hp20 hn hn' hn'' hB hT R h2 hX h10
    obtain ⟨n, rfl⟩ : ∃ m, n = m + 1 := ⟨n - 1, by omega⟩
    obtain ⟨n', rfl⟩ : ∃ m, n' = m + 1 := ⟨n' - 1, by omega⟩
    obtain ⟨n'', rfl⟩ : ∃ m, n'' = m + 1 := ⟨n'' - 1, by omega⟩
    rcases Nat.lt_or_ge p t with hp | hp
    · have hm : p + m = t := by omega
      have C : Ctx B T S M X t p := ⟨R, by omega, by omega, ht, h11, h2, hX, hp, h10⟩
      have hL : fX12_readText_L39 (n + 1) M = bd2 (fX12_readCommand M) fun x25 S26 => if x25 = 0 then lt_ (S26 0 10) fun x29 => some (x29, S26) else fX12_readText_L39 n S26 := by
        rw [fX12_readText_L39, lt_eq, lt_eq, h10, h2, if_neg (nI_ge hp (by omega))]
      have hF : fX2_firstError_L21 X (n' + 1) (nI p) = if fX2_digitsOf (X 3 p) = 0 then some (nI p) else fX2_firstError_L46 (fun x28 x29 x30 => lt_ ((x28 + (1 + x29))) fun x31 => fX2_firstError_L21 X n' x31) X 3000 (nI p) (fX2_digitsOf (X 3 p)) 1 := by
        rw [fX2_firstError_L21, lt_eq, h11, if_neg (nI_ge hp (by omega)), lt_eq, xsign X (by omega), lt_eq]
      rcases r_read C with ⟨M1, dg, z, S1, K, q1, hd1, hd3, e10, hle, hdg, hk, hpf, R1, hz⟩ | ⟨M1, e, K, q1, e10, he, hb⟩
      · obtain ⟨M', K', w⟩ := ih (m - 1 - dg) (by omega) (p + 1 + dg) (B + 1) (T + 1188) n n' n'' S1 M1 (by omega) (by omega) (by omega) (by omega) (by omega) (by omega) (by omega) R1 ((K.2 2 (by omega) (by omega)).trans h2) (fun i hi => by rw [K.1 1 (by omega) (by omega)]; exact hX i hi) e10
        have hk' : fX2_firstError_L21 X (n' + 1) (nI p) = fX2_firstError_L21 X n' (nI (p + 1 + dg)) := by
          have k := hk 3000 (fun x28 x29 x30 => lt_ ((x28 + (1 + x29))) fun x31 => fX2_firstError_L21 X n' x31) (by omega)
          rw [hF, hdg, if_neg (nI_ne0 (by omega) (by omega))]
          refine k.trans ?_
          rw [lt_eq]
          refine congrArg (fX2_firstError_L21 X n') ?_
          show nI p + (nI 1 + nI dg) = _
          rw [nI_add, nI_add]
          exact congrArg nI (by omega)
        have hL' : fX12_readText_L39 (n + 1) M = fX12_readText_L39 n M1 := by
          rw [hL, q1, m_bd2, if_neg n10]
        refine ⟨M', K.trans K', ?_⟩
        rcases w with ⟨e, w1, w2, w3⟩ | ⟨w1, w2, S', R', w3⟩
        · exact Or.inl ⟨e, hL'.trans w1, w2, hk'.trans w3⟩
        · refine Or.inr ⟨hL'.trans w1, hk'.trans w2, S', R'.mono (by omega) (by omega), fun V v0 v18 => ?_⟩
          have hstep : ∀ y : Int32, lt_ (nI p + (1 + fX2_digitsOf (fX2_sign ((va_up V 0 S1) 18) (nI p)))) (fun x48 => fX11_load_L44 n'' (va_up V 0 S1) y x48) = fX11_load_L44 n'' (va_up V 0 S1) y (nI (p + 1 + dg)) := fun y => by
            rw [lt_eq, show (va_up V 0 S1) 18 = X from v18, xsign X (by omega), hdg]
            refine congrArg (fX11_load_L44 n'' (va_up V 0 S1) y) ?_
            show nI p + (nI 1 + nI dg) = _
            rw [nI_add, nI_add]
            exact congrArg nI (by omega)
          have w3' := w3 (va_up V 0 S1) (va_up_s _ _ _) v18
          rw [bx_uu] at w3'
          rw [fX11_load_L44, v18, v0]
          unfold fX2_length
          rw [lt_eq, lt_eq, h11, if_neg (nI_ge hp (by omega)), hpf, m_bd2, lt_eq]
          rcases hz with ⟨z0, e11⟩ | ⟨z1, e11⟩
          · rw [z0, if_pos rfl, lt_eq, lt_eq, lt_eq, hstep, ← e11]
            exact w3'
          · rw [z1, if_neg n10, lt_eq, lt_eq, hstep, ← e11]
            exact w3'
      · refine ⟨M1, K, Or.inl ⟨e, ?_, he, ?_⟩⟩
        · rw [hL, q1, m_bd2, if_pos rfl, lt_eq, e10]
        · rcases hb with ⟨hd, rfl⟩ | ⟨dg, hd1, hd3, hdg, hk⟩
          · rw [hF, if_pos hd]
          · rw [hF, hdg, if_neg (nI_ne0 (by omega) (by omega))]
            exact hk 3000 _ (by omega)
    · refine ⟨M, ⟨fun _ _ _ => rfl, fun _ _ _ => rfl⟩, Or.inr ⟨?_, ?_, S, R.mono (by omega) (by omega), fun V v0 v18 => ?_⟩⟩
      · rw [fX12_readText_L39, lt_eq, lt_eq, h10, h2, if_pos (nI_le hp (by omega))]
      · rw [fX2_firstError_L21, lt_eq, h11, if_pos (nI_le hp (by omega))]
      · rw [fX11_load_L44, v18]
        unfold fX2_length
        rw [lt_eq, lt_eq, h11, if_pos (nI_le hp (by omega)), ← v0, va_up_id]
theorem r_text {X M : Nat → Nat → Int32} {t : Nat} (ht : t ≤ 120) (h11 : X 1 1 = nI t) (h2 : M 0 2 = nI t) (hX : ∀ i, i < t → X 3 i = M 1 i) (S0 : Nat → Nat → Int32) :
    ∃ M', KeepM M M' ∧ ((∃ e, fX12_readText M = some (nI e, M') ∧ e < 2 ^ 20 ∧ fX2_firstError X = some (nI e)) ∨ (fX12_readText M = some (-1, M') ∧ fX2_firstError X = some (-1) ∧ ∃ S', Rel 119 142560 S' (M' 3) ∧ ∀ V : uV, V 0 = clr S0 → V 18 = X → fX11_load_L44 3000 V 0 1 = some (0, M' 0 11, va_up V 0 S'))) := by
  have hb := begin_eq (M 3)
  have K8 : KeepM M (va_up (va_up (va_up M 3 (beginR (M 3))) 0 (upd (M 0) 11 0)) 0 (upd (upd (M 0) 11 0) 10 0)) := ⟨fun k h0 h3 => by rw [va_up_n h0, va_up_n h0, va_up_n h3], fun k h10 h11 => by
    show upd (upd (M 0) 11 0) 10 0 k = _
    rw [upd_ne h10, upd_ne h11]⟩
  have hR : fX12_readText M = if nI t = 0 then some (0, va_up (va_up (va_up M 3 (beginR (M 3))) 0 (upd (M 0) 11 0)) 0 (upd (upd (M 0) 11 0) 10 0)) else if M 1 0 = 79 then fX12_readText_L39 3000 (va_up (va_up (va_up (va_up M 3 (beginR (M 3))) 0 (upd (M 0) 11 0)) 0 (upd (upd (M 0) 11 0) 10 0)) 0 (upd (upd (upd (M 0) 11 0) 10 0) 10 1)) else some (0, va_up (va_up (va_up M 3 (beginR (M 3))) 0 (upd (M 0) 11 0)) 0 (upd (upd (M 0) 11 0) 10 0)) := by
    unfold fX12_readText
    rw [hb, m_bd, lt_eq, lt_eq, lt_eq, lt_eq]
    have e0 : (va_up (va_up (va_up M 3 (beginR (M 3))) 0 (upd (va_up M 3 (beginR (M 3)) 0) 11 0)) 0 (upd (va_up (va_up M 3 (beginR (M 3))) 0 (upd (va_up M 3 (beginR (M 3)) 0) 11 0) 0) 10 0)) = va_up (va_up (va_up M 3 (beginR (M 3))) 0 (upd (M 0) 11 0)) 0 (upd (upd (M 0) 11 0) 10 0) := rfl
    rw [e0]
    have e2 : va_up (va_up (va_up M 3 (beginR (M 3))) 0 (upd (M 0) 11 0)) 0 (upd (upd (M 0) 11 0) 10 0) 0 2 = nI t := h2
    rw [e2, m_gd (b := inb 0 120) (by decide), lt_eq, lt_eq, kN0]
    rfl
  have hF : fX2_firstError X = if nI t = 0 then some 0 else if fX2_sign X 0 = 79 then fX2_firstError_L21 X 3000 1 else some 0 := by
    unfold fX2_firstError
    rw [lt_eq, h11, lt_eq]
  rcases Nat.eq_zero_or_pos t with t0 | t0
  · subst t0
    refine ⟨_, K8, Or.inl ⟨0, ?_, by omega, ?_⟩⟩
    · rw [hR, if_pos nI_0, nI_0]
    · rw [hF, if_pos nI_0, nI_0]
  · have s0 : fX2_sign X 0 = M 1 0 := by
      have := xsign X (i := 0) (by omega)
      rw [nI_0] at this
      rw [this, hX 0 t0]
    rw [if_neg (nI_ne0 t0 (by omega))] at hR hF
    rw [s0] at hF
    by_cases c : M 1 0 = 79
    · rw [if_pos c] at hR hF
      have KM : ∀ N : Nat → Nat → Int32, N = va_up (va_up (va_up (va_up M 3 (beginR (M 3))) 0 (upd (M 0) 11 0)) 0 (upd (upd (M 0) 11 0) 10 0)) 0 (upd (upd (upd (M 0) 11 0) 10 0) 10 1) → KeepM M N ∧ N 3 = beginR (M 3) ∧ N 0 2 = nI t ∧ N 1 = M 1 ∧ N 0 10 = nI 1 ∧ N 0 11 = 0 := by
        intro N hN
        subst hN
        refine ⟨⟨fun k h0 h3 => by rw [va_up_n h0, va_up_n h0, va_up_n h0, va_up_n h3], fun k h10 h11 => by
          show upd (upd (upd (M 0) 11 0) 10 0) 10 1 k = _
          rw [upd_ne h10, upd_ne h10, upd_ne h11]⟩, rfl, h2, rfl, rfl, rfl⟩
      generalize hN : va_up (va_up (va_up (va_up M 3 (beginR (M 3))) 0 (upd (M 0) 11 0)) 0 (upd (upd (M 0) 11 0) 10 0)) 0 (upd (upd (upd (M 0) 11 0) 10 0) 10 1) = N at hR
      obtain ⟨k1, k3, k2, k11, k10, kout⟩ := KM N hN.symm
      obtain ⟨M', K', w⟩ := r_loop ht h11 (t - 1) 1 0 0 3000 3000 3000 (clr S0) N (by omega) (by omega) (by omega) (by omega) (by omega) (by omega) (by omega) (by rw [k3]; exact r_begin S0 (M 3)) k2 (fun i hi => by rw [k11]; exact hX i hi) k10
      refine ⟨M', k1.trans K', ?_⟩
      rcases w with ⟨e, w1, w2, w3⟩ | ⟨w1, w2, S', R', w3⟩
      · exact Or.inl ⟨e, hR.trans w1, w2, hF.trans w3⟩
      · rw [kout] at w3
        exact Or.inr ⟨hR.trans w1, hF.trans w2, S', R'.mono (by omega) (by omega), w3⟩
    · rw [if_neg c] at hR hF
      exact ⟨_, K8, Or.inl ⟨0, hR.trans (by rw [nI_0]), by omega, hF.trans (by rw [nI_0])⟩⟩
