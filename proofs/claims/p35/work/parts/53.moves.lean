/-! one number written on both sides -/
theorem upd_lin {f r : Nat → Int32} {base st a b : Nat} {v : Int32} (hst : 0 < st) (h : f b = r (base + st * b)) : upd f a v b = upd r (base + st * a) v (base + st * b) := by
  by_cases e : b = a
  · subst e; rw [upd_at, upd_at]
  · rw [upd_ne e, upd_ne (fun q => e (Nat.eq_of_mul_eq_mul_left hst (by omega))), h]
theorem upd_cp {f r : Nat → Int32} {k j b c : Nat} {v : Int32} (hk : b = k ↔ c = j) (h : f b = r c) : upd f k v b = upd r j v c := by
  by_cases e : b = k
  · rw [e, hk.mp e, upd_at, upd_at]
  · rw [upd_ne e, upd_ne (fun q => e (hk.mpr q)), h]
section MOVES
variable {B T : Nat} {S : Nat → Nat → Int32} {r : Nat → Int32}
theorem Rel.mBal (R : Rel B T S r) {a : Nat} (ha : a < 8) (v : Int32) (hv : inT T v) : Rel B T (va_up S 12 (upd (S 12) a v)) (upd r (52 + 4 * a) v) :=
  ⟨R.toRN.cg rfl rfl rfl rfl (fun j hj => upd_ne (by omega)),
   R.toRC.cg rfl rfl rfl rfl (upd_ne (by omega)) (upd_ne (by omega)) (fun j h1 h2 => upd_ne (by omega)),
   ⟨fun b hb => ⟨upd_cp (by omega) (R.acc b hb).1, by rw [upd_ne (by omega)]; exact (R.acc b hb).2.1, by rw [upd_ne (by omega)]; exact (R.acc b hb).2.2.1, by rw [upd_ne (by omega)]; exact (R.acc b hb).2.2.2⟩, fun b hb => by rw [upd_ne (by omega)]; exact R.amark b hb⟩,
   R.toRG.cg rfl rfl rfl rfl rfl (fun j h1 h2 => upd_ne (by omega)),
   R.toRLg.cg rfl rfl rfl (upd_ne (by omega)) (fun g hg => upd_ne (by omega)) (fun j h1 h2 => upd_ne (by omega)),
   R.toRBt.cg rfl (fun j h1 h2 => upd_ne (by omega)),
   R.toRZ.cg (upd_ne (by omega)) (fun j h1 h2 => upd_ne (by omega)),
   ⟨fun b hb => by
    by_cases e : b = a
    · rw [e, upd_at]; exact hv
    · rw [upd_ne (by omega)]; exact R.mbal b hb, fun b hb => by rw [upd_ne (by omega)]; exact R.mfare b hb, fun b k hb hk => by rw [upd_ne (by omega)]; exact R.mlog b k hb hk, by rw [upd_ne (by omega)]; exact R.mfine, by rw [upd_ne (by omega)]; exact R.mpause⟩⟩
theorem Rel.mWait (R : Rel B T S r) {a : Nat} (ha : a < 8) (v : Int32) : Rel B T (va_up S 14 (upd (S 14) a v)) (upd r (53 + 4 * a) v) :=
  ⟨R.toRN.cg rfl rfl rfl rfl (fun j hj => upd_ne (by omega)),
   R.toRC.cg rfl rfl rfl rfl (upd_ne (by omega)) (upd_ne (by omega)) (fun j h1 h2 => upd_ne (by omega)),
   ⟨fun b hb => ⟨by rw [upd_ne (by omega)]; exact (R.acc b hb).1, upd_cp (by omega) (R.acc b hb).2.1, by rw [upd_ne (by omega)]; exact (R.acc b hb).2.2.1, by rw [upd_ne (by omega)]; exact (R.acc b hb).2.2.2⟩, fun b hb => by rw [upd_ne (by omega)]; exact R.amark b hb⟩,
   R.toRG.cg rfl rfl rfl rfl rfl (fun j h1 h2 => upd_ne (by omega)),
   R.toRLg.cg rfl rfl rfl (upd_ne (by omega)) (fun g hg => upd_ne (by omega)) (fun j h1 h2 => upd_ne (by omega)),
   R.toRBt.cg rfl (fun j h1 h2 => upd_ne (by omega)),
   R.toRZ.cg (upd_ne (by omega)) (fun j h1 h2 => upd_ne (by omega)),
   R.toRM.cg (upd_ne (by omega)) (upd_ne (by omega)) (fun a ha => upd_ne (by omega)) (fun g hg => upd_ne (by omega)) (fun g k hg hk => upd_ne (by omega))⟩
theorem Rel.mMark (R : Rel B T S r) {a : Nat} (ha : a < 8) (v : Int32) (hv : v = 0 ∨ v = 1) : Rel B T (va_up S 16 (upd (S 16) a v)) (upd r (54 + 4 * a) v) :=
  ⟨R.toRN.cg rfl rfl rfl rfl (fun j hj => upd_ne (by omega)),
   R.toRC.cg rfl rfl rfl rfl (upd_ne (by omega)) (upd_ne (by omega)) (fun j h1 h2 => upd_ne (by omega)),
   ⟨fun b hb => ⟨by rw [upd_ne (by omega)]; exact (R.acc b hb).1, by rw [upd_ne (by omega)]; exact (R.acc b hb).2.1, upd_cp (by omega) (R.acc b hb).2.2.1, by rw [upd_ne (by omega)]; exact (R.acc b hb).2.2.2⟩, fun b hb => by
    by_cases e : b = a
    · rw [e, upd_at]; exact hv
    · rw [upd_ne (by omega)]; exact R.amark b hb⟩,
   R.toRG.cg rfl rfl rfl rfl rfl (fun j h1 h2 => upd_ne (by omega)),
   R.toRLg.cg rfl rfl rfl (upd_ne (by omega)) (fun g hg => upd_ne (by omega)) (fun j h1 h2 => upd_ne (by omega)),
   R.toRBt.cg rfl (fun j h1 h2 => upd_ne (by omega)),
   R.toRZ.cg (upd_ne (by omega)) (fun j h1 h2 => upd_ne (by omega)),
   R.toRM.cg (upd_ne (by omega)) (upd_ne (by omega)) (fun a ha => upd_ne (by omega)) (fun g hg => upd_ne (by omega)) (fun g k hg hk => upd_ne (by omega))⟩
theorem Rel.mSet (R : Rel B T S r) {a : Nat} (ha : a < 8) (v : Int32) : Rel B T (va_up S 18 (upd (S 18) a v)) (upd r (55 + 4 * a) v) :=
  ⟨R.toRN.cg rfl rfl rfl rfl (fun j hj => upd_ne (by omega)),
   R.toRC.cg rfl rfl rfl rfl (upd_ne (by omega)) (upd_ne (by omega)) (fun j h1 h2 => upd_ne (by omega)),
   ⟨fun b hb => ⟨by rw [upd_ne (by omega)]; exact (R.acc b hb).1, by rw [upd_ne (by omega)]; exact (R.acc b hb).2.1, by rw [upd_ne (by omega)]; exact (R.acc b hb).2.2.1, upd_cp (by omega) (R.acc b hb).2.2.2⟩, fun b hb => by rw [upd_ne (by omega)]; exact R.amark b hb⟩,
   R.toRG.cg rfl rfl rfl rfl rfl (fun j h1 h2 => upd_ne (by omega)),
   R.toRLg.cg rfl rfl rfl (upd_ne (by omega)) (fun g hg => upd_ne (by omega)) (fun j h1 h2 => upd_ne (by omega)),
   R.toRBt.cg rfl (fun j h1 h2 => upd_ne (by omega)),
   R.toRZ.cg (upd_ne (by omega)) (fun j h1 h2 => upd_ne (by omega)),
   R.toRM.cg (upd_ne (by omega)) (upd_ne (by omega)) (fun a ha => upd_ne (by omega)) (fun g hg => upd_ne (by omega)) (fun g k hg hk => upd_ne (by omega))⟩
theorem Rel.mBit (R : Rel B T S r) {a w : Nat} (ha : a < 8) (hw : w < 32) (v : Int32) : Rel B T (va_up S 20 (upd (S 20) (32 * a + w) v)) (upd r (248 + 128 * a + w) v) :=
  ⟨R.toRN.cg rfl rfl rfl rfl (fun j hj => upd_ne (by omega)),
   R.toRC.cg rfl rfl rfl rfl (upd_ne (by omega)) (upd_ne (by omega)) (fun j h1 h2 => upd_ne (by omega)),
   R.toRA.cg rfl rfl rfl rfl (fun j h1 h2 => upd_ne (by omega)),
   R.toRG.cg rfl rfl rfl rfl rfl (fun j h1 h2 => upd_ne (by omega)),
   R.toRLg.cg rfl rfl rfl (upd_ne (by omega)) (fun g hg => upd_ne (by omega)) (fun j h1 h2 => upd_ne (by omega)),
   fun b z hb hz => upd_cp (by omega) (R.bit b z hb hz),
   R.toRZ.cg (upd_ne (by omega)) (fun j h1 h2 => upd_ne (by omega)),
   R.toRM.cg (upd_ne (by omega)) (upd_ne (by omega)) (fun a ha => upd_ne (by omega)) (fun g hg => upd_ne (by omega)) (fun g k hg hk => upd_ne (by omega))⟩
/-- one of the counters: 1 settled, 2 their fares, 3 doubles, 4 refused, 5 unwritten -/
theorem Rel.mNum (R : Rel B T S r) {k : Nat} (hk : 1 ≤ k) (hk6 : k < 6) (v : Int32) : Rel B T (va_up S 0 (upd (S 0) (4 + k) v)) (upd r (2 + k) v) :=
  ⟨⟨by rw [upd_ne (by omega)]; exact R.eC, by rw [upd_ne (by omega)]; exact R.eA, fun j hj => upd_cp (by omega) (R.eN j hj), fun j hj => by rw [upd_ne (by omega)]; exact R.eS j hj, by rw [upd_ne (by omega)]; exact R.s2, by rw [upd_ne (by omega)]; exact R.cC, by rw [upd_ne (by omega)]; exact R.cA, by rw [upd_ne (by omega)]; exact R.cT⟩,
   R.toRC.cg rfl rfl rfl rfl (upd_ne (by omega)) (upd_ne (by omega)) (fun j h1 h2 => upd_ne (by omega)),
   R.toRA.cg rfl rfl rfl rfl (fun j h1 h2 => upd_ne (by omega)),
   R.toRG.cg rfl rfl rfl rfl rfl (fun j h1 h2 => upd_ne (by omega)),
   R.toRLg.cg rfl rfl rfl (upd_ne (by omega)) (fun g hg => upd_ne (by omega)) (fun j h1 h2 => upd_ne (by omega)),
   R.toRBt.cg rfl (fun j h1 h2 => upd_ne (by omega)),
   R.toRZ.cg (upd_ne (by omega)) (fun j h1 h2 => upd_ne (by omega)),
   R.toRM.cg (upd_ne (by omega)) (upd_ne (by omega)) (fun a ha => upd_ne (by omega)) (fun g hg => upd_ne (by omega)) (fun g k hg hk => upd_ne (by omega))⟩
theorem Rel.mMin (R : Rel B T S r) {t : Nat} (ht : t ≤ T) : Rel B T (va_up S 0 (upd (S 0) 4 (nI t))) (upd r 2 (nI t)) :=
  ⟨⟨by rw [upd_ne (by omega)]; exact R.eC, by rw [upd_ne (by omega)]; exact R.eA, fun j hj => upd_cp (by omega) (R.eN j hj), fun j hj => by rw [upd_ne (by omega)]; exact R.eS j hj, by rw [upd_ne (by omega)]; exact R.s2, by rw [upd_ne (by omega)]; exact R.cC, by rw [upd_ne (by omega)]; exact R.cA, ⟨t, ht, upd_at _ _ _⟩⟩,
   R.toRC.cg rfl rfl rfl rfl (upd_ne (by omega)) (upd_ne (by omega)) (fun j h1 h2 => upd_ne (by omega)),
   R.toRA.cg rfl rfl rfl rfl (fun j h1 h2 => upd_ne (by omega)),
   R.toRG.cg rfl rfl rfl rfl rfl (fun j h1 h2 => upd_ne (by omega)),
   R.toRLg.cg rfl rfl rfl (upd_ne (by omega)) (fun g hg => upd_ne (by omega)) (fun j h1 h2 => upd_ne (by omega)),
   R.toRBt.cg rfl (fun j h1 h2 => upd_ne (by omega)),
   R.toRZ.cg (upd_ne (by omega)) (fun j h1 h2 => upd_ne (by omega)),
   R.toRM.cg (upd_ne (by omega)) (upd_ne (by omega)) (fun a ha => upd_ne (by omega)) (fun g hg => upd_ne (by omega)) (fun g k hg hk => upd_ne (by omega))⟩
theorem Rel.mSetg (R : Rel B T S r) {k : Nat} (hk : k < 4) (v : Int32) (h1 : k = 1 → ∃ p, p ≤ 30 ∧ v = nI p) (h2 : k = 2 → v = 0 ∨ v = 1) (h3 : k = 3 → in99 v) : Rel B T (va_up S 39 (upd (S 39) k v)) (upd r (8 + k) v) :=
  ⟨⟨by rw [upd_ne (by omega)]; exact R.eC, by rw [upd_ne (by omega)]; exact R.eA, fun j hj => by rw [upd_ne (by omega)]; exact R.eN j hj, fun j hj => upd_cp (by omega) (R.eS j hj), by
    by_cases e : k = 2
    · subst e; rw [upd_at]; exact h2 rfl
    · rw [upd_ne (by omega)]; exact R.s2, by rw [upd_ne (by omega)]; exact R.cC, by rw [upd_ne (by omega)]; exact R.cA, by rw [upd_ne (by omega)]; exact R.cT⟩,
   R.toRC.cg rfl rfl rfl rfl (upd_ne (by omega)) (upd_ne (by omega)) (fun j h1 h2 => upd_ne (by omega)),
   R.toRA.cg rfl rfl rfl rfl (fun j h1 h2 => upd_ne (by omega)),
   R.toRG.cg rfl rfl rfl rfl rfl (fun j h1 h2 => upd_ne (by omega)),
   R.toRLg.cg rfl rfl rfl (upd_ne (by omega)) (fun g hg => upd_ne (by omega)) (fun j h1 h2 => upd_ne (by omega)),
   R.toRBt.cg rfl (fun j h1 h2 => upd_ne (by omega)),
   R.toRZ.cg (upd_ne (by omega)) (fun j h1 h2 => upd_ne (by omega)),
   ⟨fun b hb => by rw [upd_ne (by omega)]; exact R.mbal b hb, fun b hb => by rw [upd_ne (by omega)]; exact R.mfare b hb, fun b k hb hk => by rw [upd_ne (by omega)]; exact R.mlog b k hb hk, by
    by_cases e : k = 3
    · subst e; rw [upd_at]; exact h3 rfl
    · rw [upd_ne (by omega)]; exact R.mfine, by
    by_cases e : k = 1
    · subst e; rw [upd_at]; exact h1 rfl
    · rw [upd_ne (by omega)]; exact R.mpause⟩⟩
theorem Rel.mMoney (R : Rel B T S r) {c : Nat} (hc : c < 10) (v : Int32) : Rel B T (va_up S 5 (upd (S 5) c v)) (upd r (13 + 4 * c) v) :=
  ⟨R.toRN.cg rfl rfl rfl rfl (fun j hj => upd_ne (by omega)),
   ⟨fun b hb h => by
    rw [upd_ne (by omega)] at h
    exact ⟨by rw [upd_ne (by omega)]; exact (R.card b hb h).1, upd_cp (by omega) (R.card b hb h).2.1, by rw [upd_ne (by omega)]; exact (R.card b hb h).2.2.1, by rw [upd_ne (by omega)]; exact (R.card b hb h).2.2.2⟩,
   fun b hb h => by
    rw [upd_ne (by omega)] at h
    rw [upd_ne (by omega), upd_ne (by omega)]; exact R.cown b hb h,
   fun b hb h => by
    rw [upd_ne (by omega)] at h
    rw [upd_ne (by omega)]; exact R.ccnt b hb h,
   fun b hb h => by
    rw [upd_ne (by omega)] at h
    rw [upd_ne (by omega)]; exact R.clat b hb h⟩,
   R.toRA.cg rfl rfl rfl rfl (fun j h1 h2 => upd_ne (by omega)),
   R.toRG.cg rfl rfl rfl rfl rfl (fun j h1 h2 => upd_ne (by omega)),
   R.toRLg.cg rfl rfl rfl (upd_ne (by omega)) (fun g hg => upd_ne (by omega)) (fun j h1 h2 => upd_ne (by omega)),
   R.toRBt.cg rfl (fun j h1 h2 => upd_ne (by omega)),
   fun b hb h => by rw [upd_ne (by omega)] at h; rw [upd_ne (by omega), upd_ne (by omega)]; exact R.toRZ b hb h,
   R.toRM.cg (upd_ne (by omega)) (upd_ne (by omega)) (fun a ha => upd_ne (by omega)) (fun g hg => upd_ne (by omega)) (fun g k hg hk => upd_ne (by omega))⟩
theorem Rel.mCnt (R : Rel B T S r) {c : Nat} (hc : c < 10) (hC : nI c < r 0) {n : Nat} (hn : n ≤ B) : Rel B T (va_up S 7 (upd (S 7) c (nI n))) (upd r (14 + 4 * c) (nI n)) :=
  ⟨R.toRN.cg rfl rfl rfl rfl (fun j hj => upd_ne (by omega)),
   ⟨fun b hb h => by
    rw [upd_ne (by omega)] at h
    exact ⟨by rw [upd_ne (by omega)]; exact (R.card b hb h).1, by rw [upd_ne (by omega)]; exact (R.card b hb h).2.1, upd_cp (by omega) (R.card b hb h).2.2.1, by rw [upd_ne (by omega)]; exact (R.card b hb h).2.2.2⟩,
   fun b hb h => by
    rw [upd_ne (by omega)] at h
    rw [upd_ne (by omega), upd_ne (by omega)]; exact R.cown b hb h,
   fun b hb h => by
    rw [upd_ne (by omega)] at h
    by_cases e : b = c
    · rw [e, upd_at]; exact ⟨n, hn, rfl⟩
    · rw [upd_ne (by omega)]; exact R.ccnt b hb h,
   fun b hb h => by
    rw [upd_ne (by omega)] at h
    rw [upd_ne (by omega)]; exact R.clat b hb h⟩,
   R.toRA.cg rfl rfl rfl rfl (fun j h1 h2 => upd_ne (by omega)),
   R.toRG.cg rfl rfl rfl rfl rfl (fun j h1 h2 => upd_ne (by omega)),
   R.toRLg.cg rfl rfl rfl (upd_ne (by omega)) (fun g hg => upd_ne (by omega)) (fun j h1 h2 => upd_ne (by omega)),
   R.toRBt.cg rfl (fun j h1 h2 => upd_ne (by omega)),
   fun b hb h => by
    rw [upd_ne (by omega)] at h
    have q : b ≠ c := fun q => absurd h (Int32.not_le.mpr (q ▸ hC))
    rw [upd_ne (by omega), upd_ne (by omega)]; exact R.toRZ b hb h,
   R.toRM.cg (upd_ne (by omega)) (upd_ne (by omega)) (fun a ha => upd_ne (by omega)) (fun g hg => upd_ne (by omega)) (fun g k hg hk => upd_ne (by omega))⟩
theorem Rel.mLat (R : Rel B T S r) {c : Nat} (hc : c < 10) (hC : nI c < r 0) {t : Nat} (ht : t ≤ T) : Rel B T (va_up S 9 (upd (S 9) c (nI t))) (upd r (15 + 4 * c) (nI (t + 1))) :=
  ⟨R.toRN.cg rfl rfl rfl rfl (fun j hj => upd_ne (by omega)),
   ⟨fun b hb h => by
    rw [upd_ne (by omega)] at h
    exact ⟨by rw [upd_ne (by omega)]; exact (R.card b hb h).1, by rw [upd_ne (by omega)]; exact (R.card b hb h).2.1, by rw [upd_ne (by omega)]; exact (R.card b hb h).2.2.1, by
      by_cases e : b = c
      · rw [e, upd_at]; exact (upd_at (S 9) c (nI t)).trans (nI_pred t).symm
      · rw [upd_ne (by omega)]; exact (upd_ne e).trans (R.card b hb h).2.2.2⟩,
   fun b hb h => by
    rw [upd_ne (by omega)] at h
    rw [upd_ne (by omega), upd_ne (by omega)]; exact R.cown b hb h,
   fun b hb h => by
    rw [upd_ne (by omega)] at h
    rw [upd_ne (by omega)]; exact R.ccnt b hb h,
   fun b hb h => by
    rw [upd_ne (by omega)] at h
    by_cases e : b = c
    · rw [e, upd_at]; exact ⟨t + 1, by omega, rfl⟩
    · rw [upd_ne (by omega)]; exact R.clat b hb h⟩,
   R.toRA.cg rfl rfl rfl rfl (fun j h1 h2 => upd_ne (by omega)),
   R.toRG.cg rfl rfl rfl rfl rfl (fun j h1 h2 => upd_ne (by omega)),
   R.toRLg.cg rfl rfl rfl (upd_ne (by omega)) (fun g hg => upd_ne (by omega)) (fun j h1 h2 => upd_ne (by omega)),
   R.toRBt.cg rfl (fun j h1 h2 => upd_ne (by omega)),
   fun b hb h => by
    rw [upd_ne (by omega)] at h
    have q : b ≠ c := fun q => absurd h (Int32.not_le.mpr (q ▸ hC))
    rw [upd_ne (by omega), upd_ne (by omega)]; exact R.toRZ b hb h,
   R.toRM.cg (upd_ne (by omega)) (upd_ne (by omega)) (fun a ha => upd_ne (by omega)) (fun g hg => upd_ne (by omega)) (fun g k hg hk => upd_ne (by omega))⟩
theorem Rel.mFare (R : Rel B T S r) {g : Nat} (hg : g < 4) (v : Int32) (hv : in99 v) : Rel B T (va_up S 23 (upd (S 23) g v)) (upd r (84 + 5 * g) v) :=
  ⟨R.toRN.cg rfl rfl rfl rfl (fun j hj => upd_ne (by omega)),
   R.toRC.cg rfl rfl rfl rfl (upd_ne (by omega)) (upd_ne (by omega)) (fun j h1 h2 => upd_ne (by omega)),
   R.toRA.cg rfl rfl rfl rfl (fun j h1 h2 => upd_ne (by omega)),
   ⟨fun b hb => ⟨upd_cp (by omega) (R.gate b hb).1, by rw [upd_ne (by omega)]; exact (R.gate b hb).2.1, by rw [upd_ne (by omega)]; exact (R.gate b hb).2.2.1, by rw [upd_ne (by omega)]; exact (R.gate b hb).2.2.2⟩, fun b hb => by rw [upd_ne (by omega)]; exact R.gup b hb, fun b hb => by rw [upd_ne (by omega)]; exact R.gopen b hb, fun b hb h => by rw [upd_ne (by omega)] at h ⊢; exact R.gkept b hb h, fun b hb => by rw [upd_ne (by omega)]; exact R.glog b hb⟩,
   R.toRLg.cg rfl rfl rfl (upd_ne (by omega)) (fun g hg => upd_ne (by omega)) (fun j h1 h2 => upd_ne (by omega)),
   R.toRBt.cg rfl (fun j h1 h2 => upd_ne (by omega)),
   R.toRZ.cg (upd_ne (by omega)) (fun j h1 h2 => upd_ne (by omega)),
   ⟨fun b hb => by rw [upd_ne (by omega)]; exact R.mbal b hb, fun b hb => by
    by_cases e : b = g
    · rw [e, upd_at]; exact hv
    · rw [upd_ne (by omega)]; exact R.mfare b hb, fun b k hb hk => by rw [upd_ne (by omega)]; exact R.mlog b k hb hk, by rw [upd_ne (by omega)]; exact R.mfine, by rw [upd_ne (by omega)]; exact R.mpause⟩⟩
theorem Rel.mOpen (R : Rel B T S r) {g : Nat} (hg : g < 4) (v : Int32) (hv : v = 0 ∨ v = 1) : Rel B T (va_up S 29 (upd (S 29) g v)) (upd r (86 + 5 * g) v) :=
  ⟨R.toRN.cg rfl rfl rfl rfl (fun j hj => upd_ne (by omega)),
   R.toRC.cg rfl rfl rfl rfl (upd_ne (by omega)) (upd_ne (by omega)) (fun j h1 h2 => upd_ne (by omega)),
   R.toRA.cg rfl rfl rfl rfl (fun j h1 h2 => upd_ne (by omega)),
   ⟨fun b hb => ⟨by rw [upd_ne (by omega)]; exact (R.gate b hb).1, by rw [upd_ne (by omega)]; exact (R.gate b hb).2.1, upd_cp (by omega) (R.gate b hb).2.2.1, by rw [upd_ne (by omega)]; exact (R.gate b hb).2.2.2⟩, fun b hb => by rw [upd_ne (by omega)]; exact R.gup b hb, fun b hb => by
    by_cases e : b = g
    · rw [e, upd_at]; exact hv
    · rw [upd_ne (by omega)]; exact R.gopen b hb, fun b hb h => by rw [upd_ne (by omega)] at h ⊢; exact R.gkept b hb h, fun b hb => by rw [upd_ne (by omega)]; exact R.glog b hb⟩,
   R.toRLg.cg rfl rfl rfl (upd_ne (by omega)) (fun g hg => upd_ne (by omega)) (fun j h1 h2 => upd_ne (by omega)),
   R.toRBt.cg rfl (fun j h1 h2 => upd_ne (by omega)),
   R.toRZ.cg (upd_ne (by omega)) (fun j h1 h2 => upd_ne (by omega)),
   R.toRM.cg (upd_ne (by omega)) (upd_ne (by omega)) (fun a ha => upd_ne (by omega)) (fun g hg => upd_ne (by omega)) (fun g k hg hk => upd_ne (by omega))⟩
theorem Rel.mKept (R : Rel B T S r) {g : Nat} (hg : g < 4) (v : Int32) : Rel B T (va_up S 25 (upd (S 25) g v)) (upd r (88 + 5 * g) v) :=
  ⟨R.toRN.cg rfl rfl rfl rfl (fun j hj => upd_ne (by omega)),
   R.toRC.cg rfl rfl rfl rfl (upd_ne (by omega)) (upd_ne (by omega)) (fun j h1 h2 => upd_ne (by omega)),
   R.toRA.cg rfl rfl rfl rfl (fun j h1 h2 => upd_ne (by omega)),
   ⟨fun b hb => ⟨by rw [upd_ne (by omega)]; exact (R.gate b hb).1, by rw [upd_ne (by omega)]; exact (R.gate b hb).2.1, by rw [upd_ne (by omega)]; exact (R.gate b hb).2.2.1, by rw [upd_ne (by omega)]; exact (R.gate b hb).2.2.2⟩, fun b hb => by rw [upd_ne (by omega)]; exact R.gup b hb, fun b hb => by rw [upd_ne (by omega)]; exact R.gopen b hb, fun b hb h => by rw [upd_ne (by omega)] at h; exact upd_cp (by omega) (R.gkept b hb h), fun b hb => by rw [upd_ne (by omega)]; exact R.glog b hb⟩,
   R.toRLg.cg rfl rfl rfl (upd_ne (by omega)) (fun g hg => upd_ne (by omega)) (fun j h1 h2 => upd_ne (by omega)),
   R.toRBt.cg rfl (fun j h1 h2 => upd_ne (by omega)),
   R.toRZ.cg (upd_ne (by omega)) (fun j h1 h2 => upd_ne (by omega)),
   R.toRM.cg (upd_ne (by omega)) (upd_ne (by omega)) (fun a ha => upd_ne (by omega)) (fun g hg => upd_ne (by omega)) (fun g k hg hk => upd_ne (by omega))⟩
theorem Rel.mUp (R : Rel B T S r) {g : Nat} (hg : g < 4) (v : Int32) (hv : v = 0 ∨ v = 1) (hk : v = 0 → S 25 g = r (88 + 5 * g)) : Rel B T (va_up S 27 (upd (S 27) g v)) (upd r (85 + 5 * g) v) :=
  ⟨R.toRN.cg rfl rfl rfl rfl (fun j hj => upd_ne (by omega)),
   R.toRC.cg rfl rfl rfl rfl (upd_ne (by omega)) (upd_ne (by omega)) (fun j h1 h2 => upd_ne (by omega)),
   R.toRA.cg rfl rfl rfl rfl (fun j h1 h2 => upd_ne (by omega)),
   ⟨fun b hb => ⟨by rw [upd_ne (by omega)]; exact (R.gate b hb).1, upd_cp (by omega) (R.gate b hb).2.1, by rw [upd_ne (by omega)]; exact (R.gate b hb).2.2.1, by rw [upd_ne (by omega)]; exact (R.gate b hb).2.2.2⟩, fun b hb => by
    by_cases e : b = g
    · rw [e, upd_at]; exact hv
    · rw [upd_ne (by omega)]; exact R.gup b hb, fun b hb => by rw [upd_ne (by omega)]; exact R.gopen b hb, fun b hb h => by
    rw [show upd r (85 + 5 * g) v (88 + 5 * b) = r (88 + 5 * b) from upd_ne (by omega)]
    by_cases e : b = g
    · rw [e, upd_at] at h; rw [e]; exact hk h
    · rw [upd_ne (by omega)] at h; exact R.gkept b hb h, fun b hb => by rw [upd_ne (by omega)]; exact R.glog b hb⟩,
   R.toRLg.cg rfl rfl rfl (upd_ne (by omega)) (fun g hg => upd_ne (by omega)) (fun j h1 h2 => upd_ne (by omega)),
   R.toRBt.cg rfl (fun j h1 h2 => upd_ne (by omega)),
   R.toRZ.cg (upd_ne (by omega)) (fun j h1 h2 => upd_ne (by omega)),
   R.toRM.cg (upd_ne (by omega)) (upd_ne (by omega)) (fun a ha => upd_ne (by omega)) (fun g hg => upd_ne (by omega)) (fun g k hg hk => upd_ne (by omega))⟩
theorem Rel.mForget (R : Rel B T S r) {g : Nat} (hg : g < 4) (hu : r (85 + 5 * g) = 1) (v : Int32) : Rel B T S (upd r (88 + 5 * g) v) :=
  ⟨R.toRN.cg rfl rfl rfl rfl (fun j hj => upd_ne (by omega)),
   R.toRC.cg rfl rfl rfl rfl (upd_ne (by omega)) (upd_ne (by omega)) (fun j h1 h2 => upd_ne (by omega)),
   R.toRA.cg rfl rfl rfl rfl (fun j h1 h2 => upd_ne (by omega)),
   ⟨fun b hb => ⟨by rw [upd_ne (by omega)]; exact (R.gate b hb).1, by rw [upd_ne (by omega)]; exact (R.gate b hb).2.1, by rw [upd_ne (by omega)]; exact (R.gate b hb).2.2.1, by rw [upd_ne (by omega)]; exact (R.gate b hb).2.2.2⟩, fun b hb => by rw [upd_ne (by omega)]; exact R.gup b hb, fun b hb => by rw [upd_ne (by omega)]; exact R.gopen b hb, fun b hb h => by
    rw [upd_ne (by omega)] at h
    have e : b ≠ g := fun e => by rw [e, hu] at h; exact absurd h (by decide)
    rw [upd_ne (by omega)]; exact R.gkept b hb h, fun b hb => by rw [upd_ne (by omega)]; exact R.glog b hb⟩,
   R.toRLg.cg rfl rfl rfl (upd_ne (by omega)) (fun g hg => upd_ne (by omega)) (fun j h1 h2 => upd_ne (by omega)),
   R.toRBt.cg rfl (fun j h1 h2 => upd_ne (by omega)),
   R.toRZ.cg (upd_ne (by omega)) (fun j h1 h2 => upd_ne (by omega)),
   R.toRM.cg (upd_ne (by omega)) (upd_ne (by omega)) (fun a ha => upd_ne (by omega)) (fun g hg => upd_ne (by omega)) (fun g k hg hk => upd_ne (by omega))⟩
theorem Rel.mLa (R : Rel B T S r) {g : Nat} (hg : g < 4) {d : Nat} (hd : d < 12) (ed : r (87 + 5 * g) = nI d) (v : Int32) : Rel B T (va_up S 33 (upd (S 33) (12 * g + d) v)) (upd r (104 + 36 * g + 3 * d) v) :=
  ⟨R.toRN.cg rfl rfl rfl rfl (fun j hj => upd_ne (by omega)),
   R.toRC.cg rfl rfl rfl rfl (upd_ne (by omega)) (upd_ne (by omega)) (fun j h1 h2 => upd_ne (by omega)),
   R.toRA.cg rfl rfl rfl rfl (fun j h1 h2 => upd_ne (by omega)),
   R.toRG.cg rfl rfl rfl rfl rfl (fun j h1 h2 => upd_ne (by omega)),
   ⟨fun b k hb hk h => by
    rw [upd_ne (by omega)] at h
    have q : ¬ (b = g ∧ k = d) := fun q => by rw [q.1, q.2, ed] at h; exact absurd h (nI_nlt (Nat.le_refl _) (by omega))
    exact ⟨upd_cp (by omega) (R.log b k hb hk h).1, by rw [upd_ne (by omega)]; exact (R.log b k hb hk h).2.1, by rw [upd_ne (by omega)]; exact (R.log b k hb hk h).2.2⟩,
   fun b k hb hk h => by
    rw [upd_ne (by omega)] at h
    have q : ¬ (b = g ∧ k = d) := fun q => by rw [q.1, q.2, ed] at h; exact absurd h (nI_nlt (Nat.le_refl _) (by omega))
    rw [upd_ne (by omega), upd_ne (by omega)]; exact R.lacc b k hb hk h,
   fun b k hb hk h => by
    rw [upd_ne (by omega)] at h
    have q : ¬ (b = g ∧ k = d) := fun q => by rw [q.1, q.2, ed] at h; exact absurd h (nI_nlt (Nat.le_refl _) (by omega))
    rw [upd_ne (by omega)]; exact R.lcnt b k hb hk h⟩,
   R.toRBt.cg rfl (fun j h1 h2 => upd_ne (by omega)),
   R.toRZ.cg (upd_ne (by omega)) (fun j h1 h2 => upd_ne (by omega)),
   R.toRM.cg (upd_ne (by omega)) (upd_ne (by omega)) (fun a ha => upd_ne (by omega)) (fun g hg => upd_ne (by omega)) (fun g k hg hk => upd_ne (by omega))⟩
theorem Rel.mLc (R : Rel B T S r) {g : Nat} (hg : g < 4) {d : Nat} (hd : d < 12) (ed : r (87 + 5 * g) = nI d) (v : Int32) : Rel B T (va_up S 35 (upd (S 35) (12 * g + d) v)) (upd r (105 + 36 * g + 3 * d) v) :=
  ⟨R.toRN.cg rfl rfl rfl rfl (fun j hj => upd_ne (by omega)),
   R.toRC.cg rfl rfl rfl rfl (upd_ne (by omega)) (upd_ne (by omega)) (fun j h1 h2 => upd_ne (by omega)),
   R.toRA.cg rfl rfl rfl rfl (fun j h1 h2 => upd_ne (by omega)),
   R.toRG.cg rfl rfl rfl rfl rfl (fun j h1 h2 => upd_ne (by omega)),
   ⟨fun b k hb hk h => by
    rw [upd_ne (by omega)] at h
    have q : ¬ (b = g ∧ k = d) := fun q => by rw [q.1, q.2, ed] at h; exact absurd h (nI_nlt (Nat.le_refl _) (by omega))
    exact ⟨by rw [upd_ne (by omega)]; exact (R.log b k hb hk h).1, upd_cp (by omega) (R.log b k hb hk h).2.1, by rw [upd_ne (by omega)]; exact (R.log b k hb hk h).2.2⟩,
   fun b k hb hk h => by
    rw [upd_ne (by omega)] at h
    have q : ¬ (b = g ∧ k = d) := fun q => by rw [q.1, q.2, ed] at h; exact absurd h (nI_nlt (Nat.le_refl _) (by omega))
    rw [upd_ne (by omega), upd_ne (by omega)]; exact R.lacc b k hb hk h,
   fun b k hb hk h => by
    rw [upd_ne (by omega)] at h
    have q : ¬ (b = g ∧ k = d) := fun q => by rw [q.1, q.2, ed] at h; exact absurd h (nI_nlt (Nat.le_refl _) (by omega))
    rw [upd_ne (by omega)]; exact R.lcnt b k hb hk h⟩,
   R.toRBt.cg rfl (fun j h1 h2 => upd_ne (by omega)),
   R.toRZ.cg (upd_ne (by omega)) (fun j h1 h2 => upd_ne (by omega)),
   R.toRM.cg (upd_ne (by omega)) (upd_ne (by omega)) (fun a ha => upd_ne (by omega)) (fun g hg => upd_ne (by omega)) (fun g k hg hk => upd_ne (by omega))⟩
theorem Rel.mLf (R : Rel B T S r) {g : Nat} (hg : g < 4) {d : Nat} (hd : d < 12) (ed : r (87 + 5 * g) = nI d) (v : Int32) (hv : in99 v) : Rel B T (va_up S 37 (upd (S 37) (12 * g + d) v)) (upd r (106 + 36 * g + 3 * d) v) :=
  ⟨R.toRN.cg rfl rfl rfl rfl (fun j hj => upd_ne (by omega)),
   R.toRC.cg rfl rfl rfl rfl (upd_ne (by omega)) (upd_ne (by omega)) (fun j h1 h2 => upd_ne (by omega)),
   R.toRA.cg rfl rfl rfl rfl (fun j h1 h2 => upd_ne (by omega)),
   R.toRG.cg rfl rfl rfl rfl rfl (fun j h1 h2 => upd_ne (by omega)),
   ⟨fun b k hb hk h => by
    rw [upd_ne (by omega)] at h
    have q : ¬ (b = g ∧ k = d) := fun q => by rw [q.1, q.2, ed] at h; exact absurd h (nI_nlt (Nat.le_refl _) (by omega))
    exact ⟨by rw [upd_ne (by omega)]; exact (R.log b k hb hk h).1, by rw [upd_ne (by omega)]; exact (R.log b k hb hk h).2.1, upd_cp (by omega) (R.log b k hb hk h).2.2⟩,
   fun b k hb hk h => by
    rw [upd_ne (by omega)] at h
    have q : ¬ (b = g ∧ k = d) := fun q => by rw [q.1, q.2, ed] at h; exact absurd h (nI_nlt (Nat.le_refl _) (by omega))
    rw [upd_ne (by omega), upd_ne (by omega)]; exact R.lacc b k hb hk h,
   fun b k hb hk h => by
    rw [upd_ne (by omega)] at h
    have q : ¬ (b = g ∧ k = d) := fun q => by rw [q.1, q.2, ed] at h; exact absurd h (nI_nlt (Nat.le_refl _) (by omega))
    rw [upd_ne (by omega)]; exact R.lcnt b k hb hk h⟩,
   R.toRBt.cg rfl (fun j h1 h2 => upd_ne (by omega)),
   R.toRZ.cg (upd_ne (by omega)) (fun j h1 h2 => upd_ne (by omega)),
   ⟨fun b hb => by rw [upd_ne (by omega)]; exact R.mbal b hb, fun b hb => by rw [upd_ne (by omega)]; exact R.mfare b hb, fun b k hb hk => by
    by_cases e : b = g ∧ k = d
    · rw [e.1, e.2, upd_at]; exact hv
    · rw [upd_ne (by omega)]; exact R.mlog b k hb hk, by rw [upd_ne (by omega)]; exact R.mfine, by rw [upd_ne (by omega)]; exact R.mpause⟩⟩
theorem Rel.mSize0 (R : Rel B T S r) {g : Nat} (hg : g < 4) : Rel B T (va_up S 31 (upd (S 31) g 0)) (upd r (87 + 5 * g) 0) :=
  ⟨R.toRN.cg rfl rfl rfl rfl (fun j hj => upd_ne (by omega)),
   R.toRC.cg rfl rfl rfl rfl (upd_ne (by omega)) (upd_ne (by omega)) (fun j h1 h2 => upd_ne (by omega)),
   R.toRA.cg rfl rfl rfl rfl (fun j h1 h2 => upd_ne (by omega)),
   ⟨fun b hb => ⟨by rw [upd_ne (by omega)]; exact (R.gate b hb).1, by rw [upd_ne (by omega)]; exact (R.gate b hb).2.1, by rw [upd_ne (by omega)]; exact (R.gate b hb).2.2.1, upd_cp (by omega) (R.gate b hb).2.2.2⟩, fun b hb => by rw [upd_ne (by omega)]; exact R.gup b hb, fun b hb => by rw [upd_ne (by omega)]; exact R.gopen b hb, fun b hb h => by rw [upd_ne (by omega)] at h ⊢; exact R.gkept b hb h, fun b hb => by
    by_cases e : b = g
    · rw [e, upd_at]; exact ⟨0, by omega, rfl⟩
    · rw [upd_ne (by omega)]; exact R.glog b hb⟩,
   ⟨fun b k hb hk h => by
    have e : b ≠ g := fun e => by rw [e, upd_at] at h; exact nI_nlt (a := k) (b := 0) (by omega) (by omega) h
    rw [upd_ne (by omega)] at h
    exact ⟨by rw [upd_ne (by omega)]; exact (R.log b k hb hk h).1, by rw [upd_ne (by omega)]; exact (R.log b k hb hk h).2.1, by rw [upd_ne (by omega)]; exact (R.log b k hb hk h).2.2⟩,
   fun b k hb hk h => by
    have e : b ≠ g := fun e => by rw [e, upd_at] at h; exact nI_nlt (a := k) (b := 0) (by omega) (by omega) h
    rw [upd_ne (by omega)] at h
    rw [upd_ne (by omega), upd_ne (by omega)]; exact R.lacc b k hb hk h,
   fun b k hb hk h => by
    have e : b ≠ g := fun e => by rw [e, upd_at] at h; exact nI_nlt (a := k) (b := 0) (by omega) (by omega) h
    rw [upd_ne (by omega)] at h
    rw [upd_ne (by omega)]; exact R.lcnt b k hb hk h⟩,
   R.toRBt.cg rfl (fun j h1 h2 => upd_ne (by omega)),
   R.toRZ.cg (upd_ne (by omega)) (fun j h1 h2 => upd_ne (by omega)),
   R.toRM.cg (upd_ne (by omega)) (upd_ne (by omega)) (fun a ha => upd_ne (by omega)) (fun g hg => upd_ne (by omega)) (fun g k hg hk => upd_ne (by omega))⟩
theorem Rel.mSize1 (R : Rel B T S r) {g : Nat} (hg : g < 4) {d : Nat} (hd : d < 12) (ed : r (87 + 5 * g) = nI d) (he : S 33 (12 * g + d) = r (104 + 36 * g + 3 * d) ∧ S 35 (12 * g + d) = r (105 + 36 * g + 3 * d) ∧ S 37 (12 * g + d) = r (106 + 36 * g + 3 * d)) {a n : Nat} (ha : a < 8) (haA : nI a < r 1) (ea : r (104 + 36 * g + 3 * d) = nI a) (hn : n ≤ B) (en : r (105 + 36 * g + 3 * d) = nI n) : Rel B T (va_up S 31 (upd (S 31) g (nI (d + 1)))) (upd r (87 + 5 * g) (nI (d + 1))) :=
  ⟨R.toRN.cg rfl rfl rfl rfl (fun j hj => upd_ne (by omega)),
   R.toRC.cg rfl rfl rfl rfl (upd_ne (by omega)) (upd_ne (by omega)) (fun j h1 h2 => upd_ne (by omega)),
   R.toRA.cg rfl rfl rfl rfl (fun j h1 h2 => upd_ne (by omega)),
   ⟨fun b hb => ⟨by rw [upd_ne (by omega)]; exact (R.gate b hb).1, by rw [upd_ne (by omega)]; exact (R.gate b hb).2.1, by rw [upd_ne (by omega)]; exact (R.gate b hb).2.2.1, upd_cp (by omega) (R.gate b hb).2.2.2⟩, fun b hb => by rw [upd_ne (by omega)]; exact R.gup b hb, fun b hb => by rw [upd_ne (by omega)]; exact R.gopen b hb, fun b hb h => by rw [upd_ne (by omega)] at h ⊢; exact R.gkept b hb h, fun b hb => by
    by_cases e : b = g
    · rw [e, upd_at]; exact ⟨d + 1, by omega, rfl⟩
    · rw [upd_ne (by omega)]; exact R.glog b hb⟩,
   ⟨fun b k hb hk h => by
    by_cases q : b = g ∧ k = d
    · rw [q.1, q.2]; exact ⟨by rw [upd_ne (by omega)]; exact he.1, by rw [upd_ne (by omega)]; exact he.2.1, by rw [upd_ne (by omega)]; exact he.2.2⟩
    · have h : nI k < r (87 + 5 * b) := by
        by_cases e : b = g
        · subst e; rw [upd_at] at h; rw [ed]; have := (nI_ltI (show k < 2 ^ 31 by omega) (by omega)).mp h; exact nI_lt (by omega) (by omega)
        · rwa [upd_ne (by omega)] at h
      exact ⟨by rw [upd_ne (by omega)]; exact (R.log b k hb hk h).1, by rw [upd_ne (by omega)]; exact (R.log b k hb hk h).2.1, by rw [upd_ne (by omega)]; exact (R.log b k hb hk h).2.2⟩,
   fun b k hb hk h => by
    by_cases q : b = g ∧ k = d
    · rw [q.1, q.2]; rw [upd_ne (by omega), upd_ne (by omega)]; exact ⟨a, ha, haA, ea⟩
    · have h : nI k < r (87 + 5 * b) := by
        by_cases e : b = g
        · subst e; rw [upd_at] at h; rw [ed]; have := (nI_ltI (show k < 2 ^ 31 by omega) (by omega)).mp h; exact nI_lt (by omega) (by omega)
        · rwa [upd_ne (by omega)] at h
      rw [upd_ne (by omega), upd_ne (by omega)]; exact R.lacc b k hb hk h,
   fun b k hb hk h => by
    by_cases q : b = g ∧ k = d
    · rw [q.1, q.2]; rw [upd_ne (by omega)]; exact ⟨n, hn, en⟩
    · have h : nI k < r (87 + 5 * b) := by
        by_cases e : b = g
        · subst e; rw [upd_at] at h; rw [ed]; have := (nI_ltI (show k < 2 ^ 31 by omega) (by omega)).mp h; exact nI_lt (by omega) (by omega)
        · rwa [upd_ne (by omega)] at h
      rw [upd_ne (by omega)]; exact R.lcnt b k hb hk h⟩,
   R.toRBt.cg rfl (fun j h1 h2 => upd_ne (by omega)),
   R.toRZ.cg (upd_ne (by omega)) (fun j h1 h2 => upd_ne (by omega)),
   R.toRM.cg (upd_ne (by omega)) (upd_ne (by omega)) (fun a ha => upd_ne (by omega)) (fun g hg => upd_ne (by omega)) (fun g k hg hk => upd_ne (by omega))⟩
end MOVES
