/-! one number written on both sides -/
theorem upd_lin {f r : Nat → Int32} {base st a b : Nat} {v : Int32} (hst : 0 < st) (h : f b = r (base + st * b)) : upd f a v b = upd r (base + st * a) v (base + st * b) := by
  by_cases e : b = a
  · subst e; rw [upd_at, upd_at]
  · rw [upd_ne e, upd_ne (fun q => e (Nat.eq_of_mul_eq_mul_left hst (by omega))), h]
theorem upd_cp {f r : Nat → Int32} {k j b c : Nat} {v : Int32} (hk : b = k ↔ c = j) (h : f b = r c) : upd f k v b = upd r j v c := by
  by_cases e : b = k
  · rw [e, hk.mp e, upd_at, upd_at]
  · rw [upd_ne e, upd_ne (fun q => e (hk.mpr q)), h]
section MOVES
variable {B T : Nat} {S : Nat → Nat → Int32} {r : Nat → Int32}
theorem Rel.mBal (R : Rel B T S r) {a : Nat} (ha : a < 8) (v : Int32) : Rel B T (va_up S 12 (upd (S 12) a v)) (upd r (52 + 4 * a) v) :=
  ⟨R.toRN.cg rfl rfl rfl rfl (fun j hj => upd_ne (by omega)),
   R.toRC.cg rfl rfl rfl rfl (upd_ne (by omega)) (upd_ne (by omega)) (fun j h1 h2 => upd_ne (by omega)),
   ⟨fun b hb => ⟨upd_cp (by omega) (R.acc b hb).1, by rw [upd_ne (by omega)]; exact (R.acc b hb).2.1, by rw [upd_ne (by omega)]; exact (R.acc b hb).2.2.1, by rw [upd_ne (by omega)]; exact (R.acc b hb).2.2.2⟩, fun b hb => by rw [upd_ne (by omega)]; exact R.amark b hb⟩,
   R.toRG.cg rfl rfl rfl rfl rfl (fun j h1 h2 => upd_ne (by omega)),
   R.toRLg.cg rfl rfl rfl (upd_ne (by omega)) (fun g hg => upd_ne (by omega)) (fun j h1 h2 => upd_ne (by omega)),
   R.toRBt.cg rfl (fun j h1 h2 => upd_ne (by omega))⟩
theorem Rel.mWait (R : Rel B T S r) {a : Nat} (ha : a < 8) (v : Int32) : Rel B T (va_up S 14 (upd (S 14) a v)) (upd r (53 + 4 * a) v) :=
  ⟨R.toRN.cg rfl rfl rfl rfl (fun j hj => upd_ne (by omega)),
   R.toRC.cg rfl rfl rfl rfl (upd_ne (by omega)) (upd_ne (by omega)) (fun j h1 h2 => upd_ne (by omega)),
   ⟨fun b hb => ⟨by rw [upd_ne (by omega)]; exact (R.acc b hb).1, upd_cp (by omega) (R.acc b hb).2.1, by rw [upd_ne (by omega)]; exact (R.acc b hb).2.2.1, by rw [upd_ne (by omega)]; exact (R.acc b hb).2.2.2⟩, fun b hb => by rw [upd_ne (by omega)]; exact R.amark b hb⟩,
   R.toRG.cg rfl rfl rfl rfl rfl (fun j h1 h2 => upd_ne (by omega)),
   R.toRLg.cg rfl rfl rfl (upd_ne (by omega)) (fun g hg => upd_ne (by omega)) (fun j h1 h2 => upd_ne (by omega)),
   R.toRBt.cg rfl (fun j h1 h2 => upd_ne (by omega))⟩
theorem Rel.mMark (R : Rel B T S r) {a : Nat} (ha : a < 8) (v : Int32) (hv : v = 0 ∨ v = 1) : Rel B T (va_up S 16 (upd (S 16) a v)) (upd r (54 + 4 * a) v) :=
  ⟨R.toRN.cg rfl rfl rfl rfl (fun j hj => upd_ne (by omega)),
   R.toRC.cg rfl rfl rfl rfl (upd_ne (by omega)) (upd_ne (by omega)) (fun j h1 h2 => upd_ne (by omega)),
   ⟨fun b hb => ⟨by rw [upd_ne (by omega)]; exact (R.acc b hb).1, by rw [upd_ne (by omega)]; exact (R.acc b hb).2.1, upd_cp (by omega) (R.acc b hb).2.2.1, by rw [upd_ne (by omega)]; exact (R.acc b hb).2.2.2⟩, fun b hb => by
    by_cases e : b = a
    · rw [e, upd_at]; exact hv
    · rw [upd_ne (by omega)]; exact R.amark b hb⟩,
   R.toRG.cg rfl rfl rfl rfl rfl (fun j h1 h2 => upd_ne (by omega)),
   R.toRLg.cg rfl rfl rfl (upd_ne (by omega)) (fun g hg => upd_ne (by omega)) (fun j h1 h2 => upd_ne (by omega)),
   R.toRBt.cg rfl (fun j h1 h2 => upd_ne (by omega))⟩
theorem Rel.mSet (R : Rel B T S r) {a : Nat} (ha : a < 8) (v : Int32) : Rel B T (va_up S 18 (upd (S 18) a v)) (upd r (55 + 4 * a) v) :=
  ⟨R.toRN.cg rfl rfl rfl rfl (fun j hj => upd_ne (by omega)),
   R.toRC.cg rfl rfl rfl rfl (upd_ne (by omega)) (upd_ne (by omega)) (fun j h1 h2 => upd_ne (by omega)),
   ⟨fun b hb => ⟨by rw [upd_ne (by omega)]; exact (R.acc b hb).1, by rw [upd_ne (by omega)]; exact (R.acc b hb).2.1, by rw [upd_ne (by omega)]; exact (R.acc b hb).2.2.1, upd_cp (by omega) (R.acc b hb).2.2.2⟩, fun b hb => by rw [upd_ne (by omega)]; exact R.amark b hb⟩,
   R.toRG.cg rfl rfl rfl rfl rfl (fun j h1 h2 => upd_ne (by omega)),
   R.toRLg.cg rfl rfl rfl (upd_ne (by omega)) (fun g hg => upd_ne (by omega)) (fun j h1 h2 => upd_ne (by omega)),
   R.toRBt.cg rfl (fun j h1 h2 => upd_ne (by omega))⟩
theorem Rel.mBit (R : Rel B T S r) {a w : Nat} (ha : a < 8) (hw : w < 32) (v : Int32) : Rel B T (va_up S 20 (upd (S 20) (32 * a + w) v)) (upd r (248 + 128 * a + w) v) :=
  ⟨R.toRN.cg rfl rfl rfl rfl (fun j hj => upd_ne (by omega)),
   R.toRC.cg rfl rfl rfl rfl (upd_ne (by omega)) (upd_ne (by omega)) (fun j h1 h2 => upd_ne (by omega)),
   R.toRA.cg rfl rfl rfl rfl (fun j h1 h2 => upd_ne (by omega)),
   R.toRG.cg rfl rfl rfl rfl rfl (fun j h1 h2 => upd_ne (by omega)),
   R.toRLg.cg rfl rfl rfl (upd_ne (by omega)) (fun g hg => upd_ne (by omega)) (fun j h1 h2 => upd_ne (by omega)),
   fun b z hb hz => upd_cp (by omega) (R.bit b z hb hz)⟩
/-- one of the counters: 1 settled, 2 their fares, 3 doubles, 4 refused, 5 unwritten -/
theorem Rel.mNum (R : Rel B T S r) {k : Nat} (hk : 1 ≤ k) (hk6 : k < 6) (v : Int32) : Rel B T (va_up S 0 (upd (S 0) (4 + k) v)) (upd r (2 + k) v) :=
  ⟨⟨by rw [upd_ne (by omega)]; exact R.eC, by rw [upd_ne (by omega)]; exact R.eA, fun j hj => upd_cp (by omega) (R.eN j hj), fun j hj => by rw [upd_ne (by omega)]; exact R.eS j hj, by rw [upd_ne (by omega)]; exact R.s2, by rw [upd_ne (by omega)]; exact R.cC, by rw [upd_ne (by omega)]; exact R.cA, by rw [upd_ne (by omega)]; exact R.cT⟩,
   R.toRC.cg rfl rfl rfl rfl (upd_ne (by omega)) (upd_ne (by omega)) (fun j h1 h2 => upd_ne (by omega)),
   R.toRA.cg rfl rfl rfl rfl (fun j h1 h2 => upd_ne (by omega)),
   R.toRG.cg rfl rfl rfl rfl rfl (fun j h1 h2 => upd_ne (by omega)),
   R.toRLg.cg rfl rfl rfl (upd_ne (by omega)) (fun g hg => upd_ne (by omega)) (fun j h1 h2 => upd_ne (by omega)),
   R.toRBt.cg rfl (fun j h1 h2 => upd_ne (by omega))⟩
end MOVES
