theorem m_bd {α β : Type} {a : α} {f : α → Option β} : bd (some a) f = f a := by unfold bd; exact Option.bind_some ..
theorem m_n0 : (-0 : Int32) = 0 := by decide
theorem m_10 : ((1 : Int32) = 0) = False := eq_false (by decide)
theorem m_m1 : (-1 : Int32).toInt = -1 := by decide
theorem m_l0 : nI 0 - 1 = -1 := by decide
theorem m_lat {α : Type} {t : Nat} (ht : t < 2 ^ 31) (a b : α) : (if nI t - 1 = -1 then a else b) = (if nI t ≤ 0 then a else b) := by
  cases t with
  | zero => rw [if_pos m_l0, if_pos (c := nI 0 ≤ 0) (nI_le (b := 0) (Nat.le_refl 0) (by decide))]
  | succ t =>
    rw [nI_pred, if_neg (nI_nle (by omega) ht), if_neg]
    intro e
    have e2 := congrArg Int32.toInt e
    rw [nI_toInt (by omega), m_m1] at e2
    omega
theorem m_full {α : Type} {x : Int32} {d : Nat} (hd : d ≤ 12) (ed : x = nI d) (a b : α) : (if (if x < 12 then (0 : Int32) else 1) = 0 then a else b) = (if 12 ≤ x then b else a) := by
  rw [ed]
  by_cases c9 : d < 12
  · rw [if_pos (c := nI d < 12) (nI_lt (b := 12) c9 (by decide)), if_pos rfl, if_neg (c := 12 ≤ nI d) (nI_ge (b := 12) c9 (by decide))]
  · rw [if_neg (c := nI d < 12) (nI_nlt (b := 12) (by omega) (by omega)), if_neg (by decide), if_pos (c := 12 ≤ nI d) (nI_le (a := 12) (by omega) (by omega))]
section REL3
variable {B T : Nat} {S : Nat → Nat → Int32} {r : Nat → Int32}
set_option maxRecDepth 20000 in
theorem r_comesTo (R : Rel B T S r) (hT : T < 2 ^ 30) {c g : Nat} (hc : c < 10) (hC : nI c < r 0) (hg : g < 4) : fX12_comesTo r (nI c) (nI g) = some (fX10_judge S (nI c) (nI g)) := by
  obtain ⟨h3, h5, h7, h9⟩ := R.card c hc hC
  obtain ⟨o, ho, hoA, eo⟩ := R.cown c hc hC
  obtain ⟨t, ht, et⟩ := R.clat c hc hC
  obtain ⟨q1, q2, q3, q4⟩ := R.gate g hg
  obtain ⟨x, ex, hx⟩ := r_onList R hg ho hoA
  have s0 : S 39 0 = r 8 := R.eS 0 (by decide)
  have s1 : S 39 1 = r 9 := R.eS 1 (by decide)
  have s2 : S 39 2 = r 10 := R.eS 2 (by decide)
  have s4 : S 0 4 = r 2 := R.eN 0 (by decide)
  have f39 : ∀ k, k < 4 → fget 4 (S 39) (nI k) = S 39 k := fun k hk => m_fget _ hk (by decide)
  have f0 : fget 4 (S 39) 0 = r 8 := (f39 0 (by decide)).trans s0
  have f1 : fget 4 (S 39) 1 = r 9 := (f39 1 (by decide)).trans s1
  have f2 : fget 4 (S 39) 2 = r 10 := (f39 2 (by decide)).trans s2
  unfold fX12_comesTo fX10_judge fX3_isLogFull
  simp only [lt_]
  simp only [gC0 hc, kC0 hc, gC1 hc, kC1 hc, gC3 hc, kC3 hc, gG0 hg, kG0 hg, gG3 hg, kG3 hg, gN8, kN8, gN9, kN9, gN10, kN10, gN2, kN2]
  simp only [ex, r_isUp R hg, m_bd]
  simp only [m_fget (S 3) hc (by decide), m_fget (S 5) hc (by decide), m_fget (S 9) hc (by decide), m_fget (S 23) hg (by decide), m_fget (S 31) hg (by decide), f0, f1, f2, s4, h3, h5, h9, eo, et, hx, q1, q4]
  rcases (hx ▸ and1 (x >>> (nI o &&& 31)) : fX10_isOnList S (nI o) (nI g) = 0 ∨ fX10_isOnList S (nI o) (nI g) = 1) with z | z
  · rw [z, if_neg (by decide), if_pos rfl]
    have hup := up01 R hg
    obtain ⟨d, hd, ed⟩ := R.glog g hg
    have l1 := fun {α : Type} (a b : α) => m_full (d := d) hd ed a b
    have l2 : (if r 10 = 0 then (6 : Int32) else 7) = (if r 10 = 1 then 7 else 6) := by rcases R.s2 with e | e <;> rw [e] <;> decide
    rw [m_lat (show t < 2 ^ 31 by omega)]
    simp only [l1, l2, m_n0]
    rcases hup with ⟨u1, -⟩ | ⟨u1, -⟩ <;> simp only [u1, m_10, apply_ite some, if_true, if_false]
  · rw [z, if_pos rfl, if_neg (by decide)]
end REL3
