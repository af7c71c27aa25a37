/-! one command: the reference reads it just where the component allows it, and both do the same -/
abbrev KeepM (M M' : Nat → Nat → Int32) : Prop := (∀ k, k ≠ 0 → k ≠ 3 → M' k = M k) ∧ (∀ k, k ≠ 10 → k ≠ 11 → M' 0 k = M 0 k)
def mOut (M : Nat → Nat → Int32) (v : Int32) : Nat → Nat → Int32 := va_up M 0 (upd (M 0) 11 v)
def mR (M : Nat → Nat → Int32) (e : Nat) (r' : Nat → Int32) (v : Int32) : Nat → Nat → Int32 := mOut (va_up (mSpot M e) 3 r') v
abbrev Ctx (B T : Nat) (S M X : Nat → Nat → Int32) (t p : Nat) : Prop := Rel B T S (M 3) ∧ B + 1 < 1024 ∧ T + 1188 < 2 ^ 30 ∧ t ≤ 120 ∧ X 1 1 = nI t ∧ M 0 2 = nI t ∧ (∀ i, i < t → X 3 i = M 1 i) ∧ p < t ∧ M 0 10 = nI p
abbrev GoodR (B T : Nat) (S M X : Nat → Nat → Int32) (t p : Nat) : Prop := ∃ M' dg z S', KeepM M M' ∧ fX12_readCommand M = some (1, M') ∧ 1 ≤ dg ∧ dg ≤ 3 ∧ M' 0 10 = nI (p + 1 + dg) ∧ p + 1 + dg ≤ t ∧ fX2_digitsOf (X 3 p) = nI dg ∧ (∀ N K, 4 < N → fX2_firstError_L46 K X N (nI p) (nI dg) (nI 1) = K (nI p) (nI dg) (nI (dg + 1))) ∧ fX1_perform S X (nI p) = some (z, S') ∧ Rel (B + 1) (T + 1188) S' (M' 3) ∧ (z = 0 ∧ M' 0 11 = M 0 11 + 1 ∨ z = 1 ∧ M' 0 11 = M 0 11)
abbrev BadR (M X : Nat → Nat → Int32) (p : Nat) : Prop := ∃ M' e, KeepM M M' ∧ fX12_readCommand M = some (0, M') ∧ M' 0 10 = nI e ∧ e < 2 ^ 20 ∧ (fX2_digitsOf (X 3 p) = 0 ∧ e = p ∨ ∃ dg, 1 ≤ dg ∧ dg ≤ 3 ∧ fX2_digitsOf (X 3 p) = nI dg ∧ ∀ N K, 4 < N → fX2_firstError_L46 K X N (nI p) (nI dg) (nI 1) = some (nI e))
section READ2
variable {B T : Nat} {S : Nat → Nat → Int32} {M X : Nat → Nat → Int32} {t p : Nat}
theorem done_0 (M : Nat → Nat → Int32) : bd2 (fX12_done M 0) (fun x S => if x = 0 then some ((0 : Int32), S) else some (1, S)) = some (1, mOut M (M 0 11 + 1)) := by
  unfold fX12_done
  rw [lt_eq, if_pos rfl, lt_eq, m_bd2, if_neg n10]
  rfl
theorem done_1 (M : Nat → Nat → Int32) : bd2 (fX12_done M 1) (fun x S => if x = 0 then some ((0 : Int32), S) else some (1, S)) = some (1, mOut M (M 0 11)) := by
  unfold fX12_done
  rw [lt_eq, if_neg n10, lt_eq, m_bd2, if_neg n10, Int32.add_zero]
  rfl
theorem done_0s (e : Nat) : bd2 (fX12_done (mSpot M e) 0) (fun x S => if x = 0 then some ((0 : Int32), S) else some (1, S)) = some (1, mR M e (M 3) (M 0 11 + 1)) := by
  rw [done_0]
  unfold mR
  rw [show va_up (mSpot M e) 3 (M 3) = mSpot M e from va_up_id (mSpot M e) 3]
  rfl
theorem done_0r (e : Nat) (r' : Nat → Int32) : bd2 (fX12_done (va_up (mSpot M e) 3 r') 0) (fun x S => if x = 0 then some ((0 : Int32), S) else some (1, S)) = some (1, mR M e r' (M 0 11 + 1)) := by
  rw [done_0]
  rfl
theorem done_1r (e : Nat) (r' : Nat → Int32) : bd2 (fX12_done (va_up (mSpot M e) 3 r') 1) (fun x S => if x = 0 then some ((0 : Int32), S) else some (1, S)) = some (1, mR M e r' (M 0 11)) := by
  rw [done_1]
  rfl
theorem keepS (M : Nat → Nat → Int32) (e : Nat) : KeepM M (mSpot M e) := ⟨fun k h0 _ => mSpot_k e h0, fun k h _ => mSpot_0 e h⟩
theorem keepR (M : Nat → Nat → Int32) (e : Nat) (r' : Nat → Int32) (v : Int32) : KeepM M (mR M e r' v) := by
  refine ⟨fun k h0 h3 => ?_, fun k h1 h2 => ?_⟩
  · unfold mR mOut
    rw [va_up_n h0, va_up_n h3]
    exact mSpot_k e h0
  · show upd (upd (M 0) 10 (nI e)) 11 v k = _
    rw [upd_ne h2, upd_ne h1]
theorem badAt (C : Ctx B T S M X t p) {L : Int32} {dg : Nat} (hs : M 1 p = L) (hdg : fX2_digitsOf L = nI dg) (h1 : 1 ≤ dg) (h3 : dg ≤ 3) {e : Nat} (he1 : 1 ≤ e) (he : e ≤ dg) (hg : ∀ j, 1 ≤ j → j < e → gd_ X t p j) (hb : t ≤ p + e ∨ fX2_isAllowed X (nI p) (nI e) = 0) (hr : fX12_readCommand M = some (0, mSpot M (p + e))) : BadR M X p := by
  obtain ⟨R, hB, hT, ht, h11, h2, hX, hp, h10⟩ := C
  refine ⟨_, p + e, keepS M _, hr, mSpot_10 _, by omega, Or.inr ⟨dg, h1, h3, by rw [hX p hp, hs, hdg], fun N K hN => ?_⟩⟩
  exact L46_bad h11 ht (by omega) h3 he hb (e - 1) 1 N (by omega) (by omega) hg
theorem goodAt (C : Ctx B T S M X t p) {L : Int32} {dg : Nat} (hs : M 1 p = L) (hdg : fX2_digitsOf L = nI dg) (h1 : 1 ≤ dg) (h3 : dg ≤ 3) (hg : ∀ j, 1 ≤ j → j ≤ dg → gd_ X t p j) {z v : Int32} {S' : Nat → Nat → Int32} {r' : Nat → Int32} (hr : fX12_readCommand M = some (1, mR M (p + 1 + dg) r' v)) (hpf : fX1_perform S X (nI p) = some (z, S')) (R' : Rel (B + 1) (T + 1188) S' r') (hz : z = 0 ∧ v = M 0 11 + 1 ∨ z = 1 ∧ v = M 0 11) : GoodR B T S M X t p := by
  obtain ⟨R, hB, hT, ht, h11, h2, hX, hp, h10⟩ := C
  have hl := (hg dg h1 (Nat.le_refl _)).1
  refine ⟨_, dg, z, S', keepR M _ _ _, hr, h1, h3, rfl, by omega, by rw [hX p hp, hs, hdg], fun N K hN => ?_, hpf, R', hz⟩
  exact L46_good h11 ht (by omega) h3 dg 1 N (by omega) (by omega) hg
theorem xd (C : Ctx B T S M X t p) {q d : Nat} (h : isDig M t q d) : X 3 q - 48 = nI d := by
  rw [C.2.2.2.2.2.2.1 q h.1]
  exact h.2.1
theorem xn (C : Ctx B T S M X t p) {k : Nat} (h : noDig M t (p + k)) : t ≤ p + k ∨ fX2_isAllowed X (nI p) (nI k) = 0 := by
  obtain ⟨R, hB, hT, ht, h11, h2, hX, hp, h10⟩ := C
  rcases Nat.lt_or_ge (p + k) t with c | c
  · refine Or.inr (al_no (by omega) ?_)
    rw [hX _ c]
    rcases h with h | h
    · omega
    · exact h
  · exact Or.inl c
theorem xa (C : Ctx B T S M X t p) {L : Int32} (hs : M 1 p = L) {k d : Nat} (h : isDig M t (p + (k + 1)) d) : fX2_isAllowed X (nI p) (nI (k + 1)) = alT L (nI (k + 1)) (X 3 (p + k) - 48) (nI d) := by
  have hd := xd C h
  obtain ⟨R, hB, hT, ht, h11, h2, hX, hp, h10⟩ := C
  rw [al_yes (by have := h.1; omega) hd h.2.2, hX p hp, hs]
theorem Ctx.pre (C : Ctx B T S M X t p) : p < 120 ∧ mSpot M (p + 1) 0 10 = nI (p + 1) ∧ mSpot M (p + 1) 0 2 = nI t ∧ X 3 p = M 1 p ∧ Rel (B + 1) (T + 1188) S (M 3) := by
  obtain ⟨R, hB, hT, ht, h11, h2, hX, hp, h10⟩ := C
  exact ⟨by omega, mSpot_10 _, (mSpot_0 _ (by omega)).trans h2, hX p hp, R.mono (by omega) (by omega)⟩
theorem mSpot_3 (e : Nat) : mSpot M e 3 = M 3 := mSpot_k e (by decide)
theorem rd_99 (C : Ctx B T S M X t p) (hs : M 1 p = 99) : GoodR B T S M X t p ∨ BadR M X p := by
  have C0 := C
  obtain ⟨R, hB, hT, ht, h11, h2, hX, hp, h10⟩ := C
  obtain ⟨hp', e10, e2, hxp, rid⟩ := C0.pre
  have hxs := hxp.trans hs
  have F := fig1 ht (show p + 1 < 2 ^ 20 by omega) e10 e2 (a0 := 0) (by decide) (h := 9) (by omega)
  rcases dig_or M t (p + 1) with hn | ⟨d, hd⟩
  · refine Or.inr (badAt C0 hs dg_99 (by omega) (by omega) (e := 1) (by omega) (by omega) (fun j _ _ => by omega) (xn C0 hn) ?_)
    have f : fX12_figures (mSpot M (p + 1)) 0 1 0 9 = some (-1, mSpot M (p + 1)) := F.1 hn
    rw [rc_99 hp' h10 hs, f, m_bd2, if_pos rfl]
  have hd9 := hd.2.2
  have ho : d ≤ 9 := by omega
  have gg : gd_ X t p 1 := ⟨hd.1, by rw [xa C0 hs (k := 0) hd, alT_c]; exact n10⟩
  have f : fX12_figures (mSpot M (p + 1)) 0 1 0 9 = some (nI d, mSpot M (p + 2)) := by
    have k := F.2.2 d hd ho
    rw [mSpot_2] at k
    exact k
  have hg : ∀ j, 1 ≤ j → j ≤ 1 → gd_ X t p j := fun j h1 h2 => by
    have : j = 1 := by omega
    subst this
    exact gg
  have xd1 : fX2_digit X (nI (p + 1)) = nI d := by rw [xdig X (by have := hd.1; omega), xd C0 hd]
  rcases t_copy R (nI d) with ⟨h1, h3⟩ | ⟨q, r', S', hq, hq2, h1, h3, h4, h5⟩
  · refine Or.inl (goodAt C0 hs dg_99 (by omega) (by omega) hg (z := 0) (S' := S) (r' := M 3) (v := M 0 11 + 1) ?_ ?_ rid (Or.inl ⟨rfl, rfl⟩))
    · rw [rc_99 hp' h10 hs, f, m_bd2, if_neg (nm1 d (by omega)), mSpot_3, h1, m_bd, if_pos rfl, done_0s]
    · rw [pf_99 hp' hxs, xd1, h3, m_bd2]
  · refine Or.inl (goodAt C0 hs dg_99 (by omega) (by omega) hg (z := 1) (S' := S') (r' := r') (v := M 0 11) ?_ ?_ (h5.mono (by omega) (by omega)) (Or.inr ⟨rfl, rfl⟩))
    · rw [rc_99 hp' h10 hs, f, m_bd2, if_neg (nm1 d (by omega)), mSpot_3, h1, m_bd, if_neg n10, h3, m_bd2, lt_eq, if_neg (nI_nle hq (by omega)), done_1r]
    · rw [pf_99 hp' hxs, xd1, h4, m_bd2]
theorem rd_100 (C : Ctx B T S M X t p) (hs : M 1 p = 100) : GoodR B T S M X t p ∨ BadR M X p := by
  have C0 := C
  obtain ⟨R, hB, hT, ht, h11, h2, hX, hp, h10⟩ := C
  obtain ⟨hp', e10, e2, hxp, rid⟩ := C0.pre
  have hxs := hxp.trans hs
  have F := fig1 ht (show p + 1 < 2 ^ 20 by omega) e10 e2 (a0 := 0) (by decide) (h := 3) (by omega)
  rcases dig_or M t (p + 1) with hn | ⟨d, hd⟩
  · refine Or.inr (badAt C0 hs dg_100 (by omega) (by omega) (e := 1) (by omega) (by omega) (fun j _ _ => by omega) (xn C0 hn) ?_)
    have f : fX12_figures (mSpot M (p + 1)) 0 1 0 3 = some (-1, mSpot M (p + 1)) := F.1 hn
    rw [rc_100 hp' h10 hs, f, m_bd2, if_pos rfl]
  have hd9 := hd.2.2
  rcases Nat.lt_or_ge 3 d with ho | ho
  · refine Or.inr (badAt C0 hs dg_100 (by omega) (by omega) (e := 1) (by omega) (by omega) (fun j _ _ => by omega) (Or.inr ?_) ?_)
    · rw [xa C0 hs (k := 0) hd, alT_d, if_pos (c := 4 ≤ nI d) (nI_le (a := 4) (by omega) (by omega))]
    · have f : fX12_figures (mSpot M (p + 1)) 0 1 0 3 = some (-1, mSpot M (p + 1)) := F.2.1 d hd ho
      rw [rc_100 hp' h10 hs, f, m_bd2, if_pos rfl]
  have gg : gd_ X t p 1 := ⟨hd.1, by rw [xa C0 hs (k := 0) hd, alT_d, if_neg (c := 4 ≤ nI d) (nI_ge (b := 4) (by omega) (by decide))]; exact n10⟩
  have f : fX12_figures (mSpot M (p + 1)) 0 1 0 3 = some (nI d, mSpot M (p + 2)) := by
    have k := F.2.2 d hd ho
    rw [mSpot_2] at k
    exact k
  have hg : ∀ j, 1 ≤ j → j ≤ 1 → gd_ X t p j := fun j h1 h2 => by
    have : j = 1 := by omega
    subst this
    exact gg
  have xd1 : fX2_digit X (nI (p + 1)) = nI d := by rw [xdig X (by have := hd.1; omega), xd C0 hd]
  obtain ⟨z, r', S', h1, h3, h4, h5⟩ := r_tryDown R (show d < 4 by omega)
  rcases h5 with rfl | rfl
  · refine Or.inl (goodAt C0 hs dg_100 (by omega) (by omega) hg (z := 0) (S' := S') (r' := r') (v := M 0 11 + 1) ?_ ?_ (h4.mono (by omega) (by omega)) (Or.inl ⟨rfl, rfl⟩))
    · rw [rc_100 hp' h10 hs, f, m_bd2, if_neg (nm1 d (by omega)), if_neg (c := (100 : Int32) = 117) (by decide), mSpot_3, h1, m_bd2, lt_eq, done_0r]
    · rw [pf_100 hp' hxs, xd1, h3, m_bd2]
  · refine Or.inl (goodAt C0 hs dg_100 (by omega) (by omega) hg (z := 1) (S' := S') (r' := r') (v := M 0 11) ?_ ?_ (h4.mono (by omega) (by omega)) (Or.inr ⟨rfl, rfl⟩))
    · rw [rc_100 hp' h10 hs, f, m_bd2, if_neg (nm1 d (by omega)), if_neg (c := (100 : Int32) = 117) (by decide), mSpot_3, h1, m_bd2, lt_eq, done_1r]
    · rw [pf_100 hp' hxs, xd1, h3, m_bd2]
theorem rd_117 (C : Ctx B T S M X t p) (hs : M 1 p = 117) : GoodR B T S M X t p ∨ BadR M X p := by
  have C0 := C
  obtain ⟨R, hB, hT, ht, h11, h2, hX, hp, h10⟩ := C
  obtain ⟨hp', e10, e2, hxp, rid⟩ := C0.pre
  have hxs := hxp.trans hs
  have F := fig1 ht (show p + 1 < 2 ^ 20 by omega) e10 e2 (a0 := 0) (by decide) (h := 3) (by omega)
  rcases dig_or M t (p + 1) with hn | ⟨d, hd⟩
  · refine Or.inr (badAt C0 hs dg_117 (by omega) (by omega) (e := 1) (by omega) (by omega) (fun j _ _ => by omega) (xn C0 hn) ?_)
    have f : fX12_figures (mSpot M (p + 1)) 0 1 0 3 = some (-1, mSpot M (p + 1)) := F.1 hn
    rw [rc_117 hp' h10 hs, f, m_bd2, if_pos rfl]
  have hd9 := hd.2.2
  rcases Nat.lt_or_ge 3 d with ho | ho
  · refine Or.inr (badAt C0 hs dg_117 (by omega) (by omega) (e := 1) (by omega) (by omega) (fun j _ _ => by omega) (Or.inr ?_) ?_)
    · rw [xa C0 hs (k := 0) hd, alT_u, if_pos (c := 4 ≤ nI d) (nI_le (a := 4) (by omega) (by omega))]
    · have f : fX12_figures (mSpot M (p + 1)) 0 1 0 3 = some (-1, mSpot M (p + 1)) := F.2.1 d hd ho
      rw [rc_117 hp' h10 hs, f, m_bd2, if_pos rfl]
  have gg : gd_ X t p 1 := ⟨hd.1, by rw [xa C0 hs (k := 0) hd, alT_u, if_neg (c := 4 ≤ nI d) (nI_ge (b := 4) (by omega) (by decide))]; exact n10⟩
  have f : fX12_figures (mSpot M (p + 1)) 0 1 0 3 = some (nI d, mSpot M (p + 2)) := by
    have k := F.2.2 d hd ho
    rw [mSpot_2] at k
    exact k
  have hg : ∀ j, 1 ≤ j → j ≤ 1 → gd_ X t p j := fun j h1 h2 => by
    have : j = 1 := by omega
    subst this
    exact gg
  have xd1 : fX2_digit X (nI (p + 1)) = nI d := by rw [xdig X (by have := hd.1; omega), xd C0 hd]
  obtain ⟨z, r', S', h1, h3, h4, h5, -⟩ := r_tryUp R (by omega) hT (show d < 4 by omega)
  rcases h5 with rfl | rfl
  · refine Or.inl (goodAt C0 hs dg_117 (by omega) (by omega) hg (z := 0) (S' := S') (r' := r') (v := M 0 11 + 1) ?_ ?_ (h4.mono (by omega) (by omega)) (Or.inl ⟨rfl, rfl⟩))
    · rw [rc_117 hp' h10 hs, f, m_bd2, if_neg (nm1 d (by omega)), if_pos (c := (117 : Int32) = 117) rfl, mSpot_3, h1, m_bd2, lt_eq, done_0r]
    · rw [pf_117 hp' hxs, xd1, h3, m_bd2]
  · refine Or.inl (goodAt C0 hs dg_117 (by omega) (by omega) hg (z := 1) (S' := S') (r' := r') (v := M 0 11) ?_ ?_ (h4.mono (by omega) (by omega)) (Or.inr ⟨rfl, rfl⟩))
    · rw [rc_117 hp' h10 hs, f, m_bd2, if_neg (nm1 d (by omega)), if_pos (c := (117 : Int32) = 117) rfl, mSpot_3, h1, m_bd2, lt_eq, done_1r]
    · rw [pf_117 hp' hxs, xd1, h3, m_bd2]
theorem rd_111 (C : Ctx B T S M X t p) (hs : M 1 p = 111) : GoodR B T S M X t p ∨ BadR M X p := by
  have C0 := C
  obtain ⟨R, hB, hT, ht, h11, h2, hX, hp, h10⟩ := C
  obtain ⟨hp', e10, e2, hxp, rid⟩ := C0.pre
  have hxs := hxp.trans hs
  have F := fig1 ht (show p + 1 < 2 ^ 20 by omega) e10 e2 (a0 := 0) (by decide) (h := 3) (by omega)
  rcases dig_or M t (p + 1) with hn | ⟨d, hd⟩
  · refine Or.inr (badAt C0 hs dg_111 (by omega) (by omega) (e := 1) (by omega) (by omega) (fun j _ _ => by omega) (xn C0 hn) ?_)
    have f : fX12_figures (mSpot M (p + 1)) 0 1 0 3 = some (-1, mSpot M (p + 1)) := F.1 hn
    rw [rc_111 hp' h10 hs, f, m_bd2, if_pos rfl]
  have hd9 := hd.2.2
  rcases Nat.lt_or_ge 3 d with ho | ho
  · refine Or.inr (badAt C0 hs dg_111 (by omega) (by omega) (e := 1) (by omega) (by omega) (fun j _ _ => by omega) (Or.inr ?_) ?_)
    · rw [xa C0 hs (k := 0) hd, alT_o, if_pos (c := 4 ≤ nI d) (nI_le (a := 4) (by omega) (by omega))]
    · have f : fX12_figures (mSpot M (p + 1)) 0 1 0 3 = some (-1, mSpot M (p + 1)) := F.2.1 d hd ho
      rw [rc_111 hp' h10 hs, f, m_bd2, if_pos rfl]
  have gg : gd_ X t p 1 := ⟨hd.1, by rw [xa C0 hs (k := 0) hd, alT_o, if_neg (c := 4 ≤ nI d) (nI_ge (b := 4) (by omega) (by decide))]; exact n10⟩
  have f : fX12_figures (mSpot M (p + 1)) 0 1 0 3 = some (nI d, mSpot M (p + 2)) := by
    have k := F.2.2 d hd ho
    rw [mSpot_2] at k
    exact k
  have hg : ∀ j, 1 ≤ j → j ≤ 1 → gd_ X t p j := fun j h1 h2 => by
    have : j = 1 := by omega
    subst this
    exact gg
  have xd1 : fX2_digit X (nI (p + 1)) = nI d := by rw [xdig X (by have := hd.1; omega), xd C0 hd]
  obtain ⟨z, r', S', h1, h3, h4, h5⟩ := t_open R (show d < 4 by omega)
  refine Or.inl (goodAt C0 hs dg_111 (by omega) (by omega) hg (z := 1) (S' := S') (r' := r') (v := M 0 11) ?_ ?_ (h4.mono (by omega) (by omega)) (Or.inr ⟨rfl, rfl⟩))
  · rw [rc_111 hp' h10 hs, f, m_bd2, if_neg (nm1 d (by omega)), mSpot_3, h1, m_bd2, lt_eq, if_neg h5, done_1r]
  · rw [pf_111 hp' hxs, xd1, h3, m_bd2]
theorem rd_105 (C : Ctx B T S M X t p) (hs : M 1 p = 105) : GoodR B T S M X t p ∨ BadR M X p := by
  have C0 := C
  obtain ⟨R, hB, hT, ht, h11, h2, hX, hp, h10⟩ := C
  obtain ⟨hp', e10, e2, hxp, rid⟩ := C0.pre
  have hxs := hxp.trans hs
  have F := fig2 ht (show p + 1 < 2 ^ 20 by omega) e10 e2 (a0 := 0) (by decide) (l := 0) (h := 99) (by omega) (by omega)
  rcases dig_or M t (p + 1) with hn | ⟨a, ha⟩
  · refine Or.inr (badAt C0 hs dg_105 (by omega) (by omega) (e := 1) (by omega) (by omega) (fun j _ _ => by omega) (xn C0 hn) ?_)
    have f : fX12_figures (mSpot M (p + 1)) 0 2 0 99 = some (-1, mSpot M (p + 1)) := F.1 hn
    rw [rc_105 hp' h10 hs, f, m_bd2, if_pos rfl]
  have ha9 := ha.2.2
  have gg1 : gd_ X t p 1 := ⟨ha.1, by rw [xa C0 hs (k := 0) ha, alT_i]; exact n10⟩
  have g1 : ∀ j, 1 ≤ j → j < 2 → gd_ X t p j := fun j h1 h2 => by
    have : j = 1 := by omega
    subst this
    exact gg1
  rcases dig_or M t (p + 2) with hn | ⟨b, hb⟩
  · refine Or.inr (badAt C0 hs dg_105 (by omega) (by omega) (e := 2) (by omega) (by omega) g1 (xn C0 hn) ?_)
    have f : fX12_figures (mSpot M (p + 1)) 0 2 0 99 = some (-1, mSpot M (p + 2)) := by
      have k := F.2.2.1 a ha (by omega) hn
      rw [mSpot_2] at k
      exact k
    rw [rc_105 hp' h10 hs, f, m_bd2, if_pos rfl]
  have hb9 := hb.2.2
  have gg2 : gd_ X t p 2 := ⟨hb.1, by rw [xa C0 hs (k := 1) hb, alT_i]; exact n10⟩
  have f : fX12_figures (mSpot M (p + 1)) 0 2 0 99 = some (nI (10 * a + b), mSpot M (p + 3)) := by
    have k := F.2.2.2.2 a b ha (by omega) hb (by omega) (by omega)
    rw [mSpot_2] at k
    exact k
  have hg : ∀ j, 1 ≤ j → j ≤ 2 → gd_ X t p j := fun j h1 h2 => by
    rcases (show j = 1 ∨ j = 2 by omega) with rfl | rfl
    · exact gg1
    · exact gg2
  have xt : fX2_twoDigits X (nI (p + 1)) = nI (10 * a + b) := xtwo X (by have := hb.1; omega) (xd C0 ha) (xd C0 hb)
  rcases t_issue R (w := 10 * a + b) (by omega) with ⟨h1, h3⟩ | ⟨c, r', S', hc, h1, h3, h4, h5⟩
  · refine Or.inl (goodAt C0 hs dg_105 (by omega) (by omega) hg (z := 0) (S' := S) (r' := M 3) (v := M 0 11 + 1) ?_ ?_ rid (Or.inl ⟨rfl, rfl⟩))
    · rw [rc_105 hp' h10 hs, f, m_bd2, if_neg (nm1 _ (by omega)), mSpot_3, h1, m_bd, if_pos rfl, done_0s]
    · rw [pf_105 hp' hxs, xt, h3, m_bd2]
  · refine Or.inl (goodAt C0 hs dg_105 (by omega) (by omega) hg (z := 1) (S' := S') (r' := r') (v := M 0 11) ?_ ?_ (h5.mono (by omega) (by omega)) (Or.inr ⟨rfl, rfl⟩))
    · rw [rc_105 hp' h10 hs, f, m_bd2, if_neg (nm1 _ (by omega)), mSpot_3, h1, m_bd, if_neg n10, h3, m_bd2, lt_eq, if_neg (nI_pos (by omega)), done_1r]
    · rw [pf_105 hp' hxs, xt, h4, m_bd2]
theorem rd_109 (C : Ctx B T S M X t p) (hs : M 1 p = 109) : GoodR B T S M X t p ∨ BadR M X p := by
  have C0 := C
  obtain ⟨R, hB, hT, ht, h11, h2, hX, hp, h10⟩ := C
  obtain ⟨hp', e10, e2, hxp, rid⟩ := C0.pre
  have hxs := hxp.trans hs
  have F := fig2 ht (show p + 1 < 2 ^ 20 by omega) e10 e2 (a0 := 0) (by decide) (l := 1) (h := 60) (by omega) (by omega)
  rcases dig_or M t (p + 1) with hn | ⟨a, ha⟩
  · refine Or.inr (badAt C0 hs dg_109 (by omega) (by omega) (e := 1) (by omega) (by omega) (fun j _ _ => by omega) (xn C0 hn) ?_)
    have f : fX12_figures (mSpot M (p + 1)) 0 2 1 60 = some (-1, mSpot M (p + 1)) := F.1 hn
    rw [rc_109 hp' h10 hs, f, m_bd2, if_pos rfl]
  have ha9 := ha.2.2
  rcases Nat.lt_or_ge 6 a with h6 | h6
  · refine Or.inr (badAt C0 hs dg_109 (by omega) (by omega) (e := 1) (by omega) (by omega) (fun j _ _ => by omega) (Or.inr ?_) ?_)
    · rw [xa C0 hs (k := 0) ha, alT_m1, if_pos (c := 6 < nI a) (nI_lt (a := 6) h6 (by omega))]
    · have f : fX12_figures (mSpot M (p + 1)) 0 2 1 60 = some (-1, mSpot M (p + 1)) := F.2.1 a ha (by omega)
      rw [rc_109 hp' h10 hs, f, m_bd2, if_pos rfl]
  have gg1 : gd_ X t p 1 := ⟨ha.1, by rw [xa C0 hs (k := 0) ha, alT_m1, if_neg (c := 6 < nI a) (nI_nlt (a := 6) h6 (by decide))]; exact n10⟩
  have g1 : ∀ j, 1 ≤ j → j < 2 → gd_ X t p j := fun j h1 h2 => by
    have : j = 1 := by omega
    subst this
    exact gg1
  rcases dig_or M t (p + 2) with hn | ⟨b, hb⟩
  · refine Or.inr (badAt C0 hs dg_109 (by omega) (by omega) (e := 2) (by omega) (by omega) g1 (xn C0 hn) ?_)
    have f : fX12_figures (mSpot M (p + 1)) 0 2 1 60 = some (-1, mSpot M (p + 2)) := by
      have k := F.2.2.1 a ha (by omega) hn
      rw [mSpot_2] at k
      exact k
    rw [rc_109 hp' h10 hs, f, m_bd2, if_pos rfl]
  have hb9 := hb.2.2
  have hal : fX2_isAllowed X (nI p) (nI (1 + 1)) = if 60 < 10 * a + b ∨ 10 * a + b < 1 then 0 else 1 := by
    rw [xa C0 hs (k := 1) hb, alT_m2, xd C0 ha]
    by_cases c0 : a = 0
    · subst c0
      rw [if_pos (c := nI 0 = 0) rfl]
      by_cases c1 : b = 0
      · subst c1
        rw [if_pos (c := nI 0 ≤ 0) (by decide), if_pos (by omega)]
      · rw [if_neg (c := nI b ≤ 0) (nI_nle (by omega) (by omega)), if_neg (by omega)]
    · rw [if_neg (c := nI a = 0) (nI_ne0 (by omega) (by omega))]
      by_cases c2 : a < 6
      · rw [if_pos (c := nI a < 6) (nI_lt (b := 6) c2 (by decide)), if_neg (by omega)]
      · rw [if_neg (c := nI a < 6) (nI_nlt (b := 6) (by omega) (by omega))]
        by_cases c1 : b = 0
        · subst c1
          rw [if_pos (c := nI 0 = 0) rfl, if_neg (by omega)]
        · rw [if_neg (c := nI b = 0) (nI_ne0 (by omega) (by omega)), if_pos (by omega)]
  by_cases hor : 60 < 10 * a + b ∨ 10 * a + b < 1
  · refine Or.inr (badAt C0 hs dg_109 (by omega) (by omega) (e := 2) (by omega) (by omega) g1 (Or.inr (hal.trans (if_pos hor))) ?_)
    have f : fX12_figures (mSpot M (p + 1)) 0 2 1 60 = some (-1, mSpot M (p + 2)) := by
      have k := F.2.2.2.1 a b ha (by omega) hb hor
      rw [mSpot_2] at k
      exact k
    rw [rc_109 hp' h10 hs, f, m_bd2, if_pos rfl]
  have gg2 : gd_ X t p 2 := ⟨hb.1, fun q => n10 (((if_neg hor).symm.trans hal.symm).trans q)⟩
  have f : fX12_figures (mSpot M (p + 1)) 0 2 1 60 = some (nI (10 * a + b), mSpot M (p + 3)) := by
    have k := F.2.2.2.2 a b ha (by omega) hb (by omega) (by omega)
    rw [mSpot_2] at k
    exact k
  have hg : ∀ j, 1 ≤ j → j ≤ 2 → gd_ X t p j := fun j h1 h2 => by
    rcases (show j = 1 ∨ j = 2 by omega) with rfl | rfl
    · exact gg1
    · exact gg2
  have xt : fX2_twoDigits X (nI (p + 1)) = nI (10 * a + b) := xtwo X (by have := hb.1; omega) (xd C0 ha) (xd C0 hb)
  obtain ⟨z, r', S', h1, h3, h4, h5, h6⟩ := t_run R (by omega) (w := 10 * a + b) (by omega) (by omega)
  refine Or.inl (goodAt C0 hs dg_109 (by omega) (by omega) hg (z := 1) (S' := S') (r' := r') (v := M 0 11) ?_ ?_ (h6.mono (by omega) (by omega)) (Or.inr ⟨rfl, rfl⟩))
  · rw [rc_109 hp' h10 hs, f, m_bd2, if_neg (nm1 _ (by omega)), mSpot_3, h4, m_bd2, lt_eq, if_neg (nI_nle h1 (by omega)), done_1r]
  · rw [pf_109 hp' hxs, xt, h5, m_bd2]
theorem rd_114 (C : Ctx B T S M X t p) (hs : M 1 p = 114) : GoodR B T S M X t p ∨ BadR M X p := by
  have C0 := C
  obtain ⟨R, hB, hT, ht, h11, h2, hX, hp, h10⟩ := C
  obtain ⟨hp', e10, e2, hxp, rid⟩ := C0.pre
  have hxs := hxp.trans hs
  have F := fig1 ht (show p + 1 < 2 ^ 20 by omega) e10 e2 (a0 := 0) (by decide) (h := 9) (by omega)
  rcases dig_or M t (p + 1) with hn | ⟨a, ha⟩
  · refine Or.inr (badAt C0 hs dg_114 (by omega) (by omega) (e := 1) (by omega) (by omega) (fun j _ _ => by omega) (xn C0 hn) ?_)
    have f : fX12_figures (mSpot M (p + 1)) 0 1 0 9 = some (-1, mSpot M (p + 1)) := F.1 hn
    rw [rc_114 hp' h10 hs, f, m_bd2, fig_none, m_bd2, if_pos rfl]
  have ha9 := ha.2.2
  have gg1 : gd_ X t p 1 := ⟨ha.1, by rw [xa C0 hs (k := 0) ha, show nI (0 + 1) = nI 1 from rfl, alT_r1]; exact n10⟩
  have g1 : ∀ j, 1 ≤ j → j < 2 → gd_ X t p j := fun j h1 h2 => by
    have : j = 1 := by omega
    subst this
    exact gg1
  have f1 : fX12_figures (mSpot M (p + 1)) 0 1 0 9 = some (nI a, mSpot M (p + 2)) := by
    have k := F.2.2 a ha ha9
    rw [mSpot_2] at k
    exact k
  have F2 := fig1 ht (show p + 2 < 2 ^ 20 by omega) (M := mSpot M (p + 2)) (mSpot_10 _) ((mSpot_0 _ (by omega)).trans h2) (a0 := nI a) (nm1 a (by omega)) (h := 3) (by omega)
  rcases dig_or M t (p + 2) with hn | ⟨b, hb⟩
  · refine Or.inr (badAt C0 hs dg_114 (by omega) (by omega) (e := 2) (by omega) (by omega) g1 (xn C0 hn) ?_)
    have f : fX12_figures (mSpot M (p + 2)) (nI a) 1 0 3 = some (-1, mSpot M (p + 2)) := F2.1 hn
    rw [rc_114 hp' h10 hs, f1, m_bd2, f, m_bd2, if_pos rfl]
  have hb9 := hb.2.2
  rcases Nat.lt_or_ge 3 b with ho | ho
  · refine Or.inr (badAt C0 hs dg_114 (by omega) (by omega) (e := 2) (by omega) (by omega) g1 (Or.inr ?_) ?_)
    · rw [xa C0 hs (k := 1) hb, show nI (1 + 1) = nI 2 from rfl, alT_r2, if_pos (c := 4 ≤ nI b) (nI_le (a := 4) (by omega) (by omega))]
    · have f : fX12_figures (mSpot M (p + 2)) (nI a) 1 0 3 = some (-1, mSpot M (p + 2)) := F2.2.1 b hb ho
      rw [rc_114 hp' h10 hs, f1, m_bd2, f, m_bd2, if_pos rfl]
  have gg2 : gd_ X t p 2 := ⟨hb.1, by rw [xa C0 hs (k := 1) hb, show nI (1 + 1) = nI 2 from rfl, alT_r2, if_neg (c := 4 ≤ nI b) (nI_ge (b := 4) (by omega) (by decide))]; exact n10⟩
  have f : fX12_figures (mSpot M (p + 2)) (nI a) 1 0 3 = some (nI b, mSpot M (p + 3)) := by
    have k := F2.2.2 b hb ho
    rw [mSpot_2] at k
    exact k
  have hg : ∀ j, 1 ≤ j → j ≤ 2 → gd_ X t p j := fun j h1 h2 => by
    rcases (show j = 1 ∨ j = 2 by omega) with rfl | rfl
    · exact gg1
    · exact gg2
  have x1 : fX2_digit X (nI (p + 1)) = nI a := by rw [xdig X (by have := ha.1; omega), xd C0 ha]
  have x2 : fX2_digit X (nI (p + 2)) = nI b := by rw [xdig X (by have := hb.1; omega), xd C0 hb]
  rcases t_ride R hB (by omega) (nI a) (nI b) with ⟨h1, h3⟩ | ⟨h1, h0, h3⟩ | ⟨z, r', S', h1, h0, h3, h4, h5, -, h6⟩
  · refine Or.inl (goodAt C0 hs dg_114 (by omega) (by omega) hg (z := 0) (S' := S) (r' := M 3) (v := M 0 11 + 1) ?_ ?_ rid (Or.inl ⟨rfl, rfl⟩))
    · rw [rc_114 hp' h10 hs, f1, m_bd2, f, m_bd2, if_neg (nm1 b (by omega)), mSpot_3, h1, m_bd, if_pos rfl, done_0s]
    · rw [pf_114 hp' hxs, x1, x2, h3, m_bd2, if_pos rfl]
  · rw [r_isGate S, hasG S (show b < 4 by omega)] at h0
    exact absurd h0 n10
  · have zz : ¬ z < 0 ∧ ¬ z = -1 := by
      rcases h6 with rfl | rfl | rfl | rfl | rfl | rfl | rfl | rfl <;> exact ⟨by decide, by decide⟩
    refine Or.inl (goodAt C0 hs dg_114 (by omega) (by omega) hg (z := 1) (S' := S') (r' := r') (v := M 0 11) ?_ ?_ (h5.mono (by omega) (by omega)) (Or.inr ⟨rfl, rfl⟩))
    · rw [rc_114 hp' h10 hs, f1, m_bd2, f, m_bd2, if_neg (nm1 b (by omega)), mSpot_3, h1, m_bd, if_neg n10, h3, m_bd2, lt_eq, if_neg zz.1, done_1r]
    · rw [pf_114 hp' hxs, x1, x2, h4, m_bd2, if_neg zz.2]
theorem rd_116 (C : Ctx B T S M X t p) (hs : M 1 p = 116) : GoodR B T S M X t p ∨ BadR M X p := by
  have C0 := C
  obtain ⟨R, hB, hT, ht, h11, h2, hX, hp, h10⟩ := C
  obtain ⟨hp', e10, e2, hxp, rid⟩ := C0.pre
  have hxs := hxp.trans hs
  have F := fig1 ht (show p + 1 < 2 ^ 20 by omega) e10 e2 (a0 := 0) (by decide) (h := 7) (by omega)
  rcases dig_or M t (p + 1) with hn | ⟨c, hc⟩
  · refine Or.inr (badAt C0 hs dg_116 (by omega) (by omega) (e := 1) (by omega) (by omega) (fun j _ _ => by omega) (xn C0 hn) ?_)
    have f : fX12_figures (mSpot M (p + 1)) 0 1 0 7 = some (-1, mSpot M (p + 1)) := F.1 hn
    rw [rc_116 hp' h10 hs, f, m_bd2, fig_none, m_bd2, if_pos rfl, if_pos rfl]
  have hc9 := hc.2.2
  rcases Nat.lt_or_ge 7 c with ho | ho
  · refine Or.inr (badAt C0 hs dg_116 (by omega) (by omega) (e := 1) (by omega) (by omega) (fun j _ _ => by omega) (Or.inr ?_) ?_)
    · rw [xa C0 hs (k := 0) hc, show nI (0 + 1) = nI 1 from rfl, alT_t1, if_pos (c := 8 ≤ nI c) (nI_le (a := 8) (by omega) (by omega))]
    · have f : fX12_figures (mSpot M (p + 1)) 0 1 0 7 = some (-1, mSpot M (p + 1)) := F.2.1 c hc ho
      rw [rc_116 hp' h10 hs, f, m_bd2, fig_none, m_bd2, if_pos rfl, if_pos rfl]
  have gg1 : gd_ X t p 1 := ⟨hc.1, by rw [xa C0 hs (k := 0) hc, show nI (0 + 1) = nI 1 from rfl, alT_t1, if_neg (c := 8 ≤ nI c) (nI_ge (b := 8) (by omega) (by decide))]; exact n10⟩
  have g1 : ∀ j, 1 ≤ j → j < 2 → gd_ X t p j := fun j h1 h2 => by
    have : j = 1 := by omega
    subst this
    exact gg1
  have f1 : fX12_figures (mSpot M (p + 1)) 0 1 0 7 = some (nI c, mSpot M (p + 2)) := by
    have k := F.2.2 c hc ho
    rw [mSpot_2] at k
    exact k
  have F2 := fig2 ht (show p + 2 < 2 ^ 20 by omega) (M := mSpot M (p + 2)) (mSpot_10 _) ((mSpot_0 _ (by omega)).trans h2) (a0 := nI c) (nm1 c (by omega)) (l := 1) (h := 99) (by omega) (by omega)
  rcases dig_or M t (p + 2) with hn | ⟨a, ha⟩
  · refine Or.inr (badAt C0 hs dg_116 (by omega) (by omega) (e := 2) (by omega) (by omega) g1 (xn C0 hn) ?_)
    have f : fX12_figures (mSpot M (p + 2)) (nI c) 2 1 99 = some (-1, mSpot M (p + 2)) := F2.1 hn
    rw [rc_116 hp' h10 hs, f1, m_bd2, f, m_bd2, if_pos rfl, if_pos rfl]
  have ha9 := ha.2.2
  have gg2 : gd_ X t p 2 := ⟨ha.1, by rw [xa C0 hs (k := 1) ha, show nI (1 + 1) = nI 2 from rfl, alT_t2]; exact n10⟩
  have g2 : ∀ j, 1 ≤ j → j < 3 → gd_ X t p j := fun j h1 h2 => by
    rcases (show j = 1 ∨ j = 2 by omega) with rfl | rfl
    · exact gg1
    · exact gg2
  rcases dig_or M t (p + 3) with hn | ⟨b, hb⟩
  · refine Or.inr (badAt C0 hs dg_116 (by omega) (by omega) (e := 3) (by omega) (by omega) g2 (xn C0 hn) ?_)
    have f : fX12_figures (mSpot M (p + 2)) (nI c) 2 1 99 = some (-1, mSpot M (p + 3)) := by
      have k := F2.2.2.1 a ha (by omega) hn
      rw [mSpot_2] at k
      exact k
    rw [rc_116 hp' h10 hs, f1, m_bd2, f, m_bd2, if_pos rfl, if_pos rfl]
  have hb9 := hb.2.2
  have hal : fX2_isAllowed X (nI p) (nI (2 + 1)) = if 99 < 10 * a + b ∨ 10 * a + b < 1 then 0 else 1 := by
    rw [xa C0 hs (k := 2) hb, show nI (2 + 1) = nI 3 from rfl, alT_t3, xd C0 ha]
    by_cases c0 : a = 0
    · subst c0
      rw [if_neg (c := 0 < nI 0) (by decide)]
      by_cases c1 : b = 0
      · subst c1
        rw [if_pos (c := nI 0 ≤ 0) (by decide), if_pos (by omega)]
      · rw [if_neg (c := nI b ≤ 0) (nI_nle (by omega) (by omega)), if_neg (by omega)]
    · rw [if_pos (c := 0 < nI a) (nI_lt (a := 0) (by omega) (by omega)), if_neg (by omega)]
  by_cases hor : 99 < 10 * a + b ∨ 10 * a + b < 1
  · refine Or.inr (badAt C0 hs dg_116 (by omega) (by omega) (e := 3) (by omega) (by omega) g2 (Or.inr (hal.trans (if_pos hor))) ?_)
    have f : fX12_figures (mSpot M (p + 2)) (nI c) 2 1 99 = some (-1, mSpot M (p + 3)) := by
      have k := F2.2.2.2.1 a b ha (by omega) hb hor
      rw [mSpot_2] at k
      exact k
    rw [rc_116 hp' h10 hs, f1, m_bd2, f, m_bd2, if_pos rfl, if_pos rfl]
  have gg3 : gd_ X t p 3 := ⟨hb.1, fun q => n10 (((if_neg hor).symm.trans hal.symm).trans q)⟩
  have f : fX12_figures (mSpot M (p + 2)) (nI c) 2 1 99 = some (nI (10 * a + b), mSpot M (p + 4)) := by
    have k := F2.2.2.2.2 a b ha (by omega) hb (by omega) (by omega)
    rw [mSpot_2] at k
    exact k
  have hg : ∀ j, 1 ≤ j → j ≤ 3 → gd_ X t p j := fun j h1 h2 => by
    rcases (show j = 1 ∨ j = 2 ∨ j = 3 by omega) with rfl | rfl | rfl
    · exact gg1
    · exact gg2
    · exact gg3
  have x1 : fX2_digit X (nI (p + 1)) = nI c := by rw [xdig X (by have := hc.1; omega), xd C0 hc]
  have xt : fX2_twoDigits X (nI (p + 2)) = nI (10 * a + b) := xtwo X (by have := hb.1; omega) (xd C0 ha) (xd C0 hb)
  rcases t_pay R (by omega) (nI c) (w := 10 * a + b) (by omega) (by omega) with ⟨h1, h3⟩ | ⟨z, r', S', h1, h0, h3, h4, h5⟩
  · refine Or.inl (goodAt C0 hs dg_116 (by omega) (by omega) hg (z := 0) (S' := S) (r' := M 3) (v := M 0 11 + 1) ?_ ?_ rid (Or.inl ⟨rfl, rfl⟩))
    · rw [rc_116 hp' h10 hs, f1, m_bd2, f, m_bd2, if_neg (nm1 _ (by omega)), mSpot_3, h1, m_bd, if_pos rfl, if_neg (nm1 _ (by omega)), m_bd, done_0s]
    · rw [pf_116 hp' hxs, x1, xt, h3, m_bd2]
  · refine Or.inl (goodAt C0 hs dg_116 (by omega) (by omega) hg (z := 1) (S' := S') (r' := r') (v := M 0 11) ?_ ?_ (h5.mono (by omega) (by omega)) (Or.inr ⟨rfl, rfl⟩))
    · rw [rc_116 hp' h10 hs, f1, m_bd2, f, m_bd2, if_neg (nm1 _ (by omega)), mSpot_3, h1, m_bd, if_neg n10, h3, m_bd2, lt_eq, if_neg (nm1 _ (by omega)), show va_up (mSpot M (p + 4)) 3 r' 3 = r' from rfl, h0, m_bd, done_1r]
    · rw [pf_116 hp' hxs, x1, xt, h4, m_bd2]
theorem r_read (C : Ctx B T S M X t p) : GoodR B T S M X t p ∨ BadR M X p := by
  by_cases h99 : M 1 p = 99
  · exact rd_99 C h99
  by_cases h100 : M 1 p = 100
  · exact rd_100 C h100
  by_cases h105 : M 1 p = 105
  · exact rd_105 C h105
  by_cases h109 : M 1 p = 109
  · exact rd_109 C h109
  by_cases h111 : M 1 p = 111
  · exact rd_111 C h111
  by_cases h114 : M 1 p = 114
  · exact rd_114 C h114
  by_cases h116 : M 1 p = 116
  · exact rd_116 C h116
  by_cases h117 : M 1 p = 117
  · exact rd_117 C h117
  obtain ⟨hp', e10, e2, hxp, rid⟩ := C.pre
  have h10 : M 0 10 = nI p := C.2.2.2.2.2.2.2.2
  refine Or.inr ⟨mSpot M p, p, keepS M p, rc_no hp' h10 h99 h100 h105 h109 h111 h114 h116 h117, mSpot_10 p, by omega, Or.inl ⟨?_, rfl⟩⟩
  rw [hxp]
  exact dg_no h99 h100 h105 h109 h111 h114 h116 h117
end READ2
