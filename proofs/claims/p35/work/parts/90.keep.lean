
/-! THE LAW'S TRUTH, over the row model. What only looks leaves the memory's norm as it is -/
abbrev Mem : Type := Nat → Nat → Int32
theorem norm_u3 (S : Mem) (r : Nat → Int32) : norm (va_up S 3 r) = norm S := norm_cg (fun k _ h3 _ => va_up_n h3) (fun _ _ => rfl)
theorem norm_u4 (S : Mem) (r : Nat → Int32) : norm (va_up S 4 r) = norm S := norm_cg (fun k _ _ h4 => va_up_n h4) (fun _ _ => rfl)
theorem norm_u0 (S : Mem) (x : Int32) : norm (va_up S 0 (upd (S 0) 0 x)) = norm S := norm_ref S x
def Kp (M : Mem) (m : Option (Int32 × Mem)) : Prop := ∀ z S, m = some (z, S) → norm S = norm M
section KP
variable {M S : Mem} {α β : Type}
theorem kp_some {z : Int32} (h : norm S = norm M) : Kp M (some (z, S)) := fun z' S' e => by cases e; exact h
theorem kp_none : Kp M none := fun z' S' e => by cases e
theorem kp_bd {x : Option α} {f : α → Option (Int32 × Mem)} (h : ∀ a, Kp M (f a)) : Kp M (bd x f) := fun z S e => by
  obtain ⟨a, h1, h2⟩ := bd_e e
  exact h a z S h2
theorem kp_bd2 {x : Option (α × β)} {f : α → β → Option (Int32 × Mem)} (h : ∀ a b, Kp M (f a b)) : Kp M (bd2 x f) := fun z S e => by
  obtain ⟨a, b, h1, h2⟩ := bd2_e e
  exact h a b z S h2
theorem kp_bm {x : Option (Int32 × Mem)} {f : Int32 → Mem → Option (Int32 × Mem)} (hx : Kp S x) (h : ∀ a b, norm b = norm S → Kp M (f a b)) : Kp M (bd2 x f) := fun z S' e => by
  obtain ⟨a, b, h1, h2⟩ := bd2_e e
  exact h a b (hx a b h1) z S' h2
theorem kp_refused (k : Int32) : Kp S (fX12_refused S k) := fun z S' e => by
  unfold fX12_refused at e
  rw [lt_eq] at e
  by_cases c : k ≤ 0
  · rw [if_pos c] at e; cases e; exact norm_u0 S k
  · rw [if_neg c] at e; cases e; exact norm_u0 S k
theorem kp_ref {k : Int32} {f : Int32 → Mem → Option (Int32 × Mem)} (h : ∀ a b, norm b = norm S → Kp M (f a b)) : Kp M (bd2 (fX12_refused S k) f) := kp_bm (kp_refused k) h
theorem kp_lt {a : α} {f : α → Option (Int32 × Mem)} (h : Kp M (f a)) : Kp M (lt_ a f) := h
theorem kp_gd {b : Bool} {x : Option (Int32 × Mem)} (h : Kp M x) : Kp M (gd b x) := fun z S e => h z S (gd_e e).2
theorem kp_if {c : Prop} [Decidable c] {a b : Option (Int32 × Mem)} (h1 : Kp M a) (h2 : Kp M b) : Kp M (if c then a else b) := by
  by_cases q : c
  · rw [if_pos q]; exact h1
  · rw [if_neg q]; exact h2
theorem kp_to {m : Option (Int32 × Mem)} (h : Kp S m) (e : norm S = norm M) : Kp M m := fun z S' q => (h z S' q).trans e
end KP
theorem kp_about (M : Mem) (a : Int32) : Kp M (fX12_about M a) := by
  unfold fX12_about
  repeat' first | with_reducible refine kp_lt ?_ | with_reducible refine kp_if ?_ ?_ | with_reducible refine kp_ref (fun _ _ h => ?_) | with_reducible refine kp_bd (fun _ => ?_) | with_reducible refine kp_gd ?_ | exact kp_some (by assumption)
theorem kp_card (M : Mem) (a b : Int32) : Kp M (fX12_card M a b) := by
  unfold fX12_card
  repeat' first | with_reducible refine kp_lt ?_ | with_reducible refine kp_if ?_ ?_ | with_reducible refine kp_ref (fun _ _ h => ?_) | with_reducible refine kp_bd (fun _ => ?_) | with_reducible refine kp_gd ?_ | exact kp_some (by assumption)
theorem kp_account (M : Mem) (a b : Int32) : Kp M (fX12_account M a b) := by
  unfold fX12_account
  repeat' first | with_reducible refine kp_lt ?_ | with_reducible refine kp_if ?_ ?_ | with_reducible refine kp_ref (fun _ _ h => ?_) | with_reducible refine kp_bd (fun _ => ?_) | with_reducible refine kp_gd ?_ | exact kp_some (by assumption)
theorem kp_gate (M : Mem) (a b : Int32) : Kp M (fX12_gate M a b) := by
  unfold fX12_gate
  repeat' first | with_reducible refine kp_lt ?_ | with_reducible refine kp_if ?_ ?_ | with_reducible refine kp_ref (fun _ _ h => ?_) | with_reducible refine kp_bd (fun _ => ?_) | with_reducible refine kp_gd ?_ | exact kp_some (by assumption)
theorem kp_logged (M : Mem) (a b c : Int32) : Kp M (fX12_logged M a b c) := by
  unfold fX12_logged
  repeat' first | with_reducible refine kp_lt ?_ | with_reducible refine kp_if ?_ ?_ | with_reducible refine kp_ref (fun _ _ h => ?_) | with_reducible refine kp_bd (fun _ => ?_) | with_reducible refine kp_gd ?_ | exact kp_some (by assumption)
theorem kp_setting (M : Mem) (a : Int32) : Kp M (fX12_setting M a) := by
  unfold fX12_setting
  repeat' first | with_reducible refine kp_lt ?_ | with_reducible refine kp_if ?_ ?_ | with_reducible refine kp_ref (fun _ _ h => ?_) | with_reducible refine kp_bd (fun _ => ?_) | with_reducible refine kp_gd ?_ | exact kp_some (by assumption)
theorem kp_ridesL : ∀ (n : Nat) (S : Mem) (y1 y2 y3 : Int32), Kp S (fX12_rides_L47 n S y1 y2 y3)
  | 0, _, _, _, _ => kp_none
  | n + 1, S, y1, y2, y3 => by
    rw [fX12_rides_L47]
    repeat' first | with_reducible refine kp_lt ?_ | with_reducible refine kp_if ?_ ?_ | with_reducible refine kp_bd2 (fun _ _ => ?_) | with_reducible refine kp_bd (fun _ => ?_) | with_reducible refine kp_gd ?_ | exact kp_some (by first | rfl | (simp only [norm_u3])) | exact kp_to (kp_ridesL n _ _ _ _) (by simp only [norm_u3])
theorem kp_rides (M : Mem) (a b : Int32) : Kp M (fX12_rides M a b) := by
  unfold fX12_rides
  repeat' first | with_reducible refine kp_lt ?_ | with_reducible refine kp_if ?_ ?_ | with_reducible refine kp_ref (fun _ _ h => ?_) | with_reducible refine kp_bd (fun _ => ?_) | with_reducible refine kp_gd ?_ | exact kp_some (by assumption) | exact kp_to (kp_ridesL _ _ _ _ _) (by simp only [norm_u3]; assumption)
theorem kp_would (M : Mem) (a b : Int32) : Kp M (fX12_would M a b) := by
  unfold fX12_would
  repeat' first | with_reducible refine kp_lt ?_ | with_reducible refine kp_if ?_ ?_ | with_reducible refine kp_ref (fun _ _ h => ?_) | with_reducible refine kp_bd2 (fun _ _ => ?_) | with_reducible refine kp_bd (fun _ => ?_) | with_reducible refine kp_gd ?_ | exact kp_some (by first | assumption | (simp only [norm_u3]; assumption))
theorem kp_brings (M : Mem) (a b : Int32) : Kp M (fX12_brings M a b) := by
  unfold fX12_brings
  repeat' first | with_reducible refine kp_lt ?_ | with_reducible refine kp_if ?_ ?_ | with_reducible refine kp_bd2 (fun _ _ => ?_) | with_reducible refine kp_bd (fun _ => ?_) | with_reducible refine kp_gd ?_ | exact kp_some (by simp only [norm_u4])
theorem kp_ifUp (M : Mem) (a b : Int32) : Kp M (fX12_ifUp M a b) := by
  unfold fX12_ifUp
  repeat' first | with_reducible refine kp_lt ?_ | with_reducible refine kp_if ?_ ?_ | with_reducible refine kp_ref (fun _ _ h => ?_) | (with_reducible refine kp_bm (kp_brings _ _ _) (fun _ _ h => ?_)) | with_reducible refine kp_gd ?_ | exact kp_some (by first | assumption | exact h.trans (by assumption))
theorem kp_bestL : ∀ (n : Nat) (S : Mem) (y1 y2 y3 : Int32), Kp S (fX12_bestUp_L11 n S y1 y2 y3)
  | 0, _, _, _, _ => kp_none
  | n + 1, S, y1, y2, y3 => by
    rw [fX12_bestUp_L11]
    repeat' first | with_reducible refine kp_lt ?_ | with_reducible refine kp_if ?_ ?_ | (with_reducible refine kp_bm (kp_brings _ _ _) (fun _ _ h => ?_)) | with_reducible refine kp_bd (fun _ => ?_) | exact kp_some rfl | exact kp_to (kp_bestL n _ _ _ _) h
theorem kp_best (M : Mem) : Kp M (fX12_bestUp M) := by
  unfold fX12_bestUp
  exact kp_lt (kp_to (kp_bestL _ _ _ _ _) (norm_u0 M 0))
theorem kp_worstL : ∀ (n : Nat) (S : Mem) (y1 y2 : Int32), Kp S (fX12_worst_L9 n S y1 y2)
  | 0, _, _, _ => kp_none
  | n + 1, S, y1, y2 => by
    rw [fX12_worst_L9]
    repeat' first | with_reducible refine kp_lt ?_ | with_reducible refine kp_if ?_ ?_ | with_reducible refine kp_bd (fun _ => ?_) | with_reducible refine kp_gd ?_ | exact kp_some rfl | exact kp_worstL n _ _ _
theorem kp_worst (M : Mem) : Kp M (fX12_worst M) := by
  unfold fX12_worst
  exact kp_lt (kp_to (kp_worstL _ _ _ _) (norm_u0 M 0))
theorem kp_owesL : ∀ (n : Nat) (S : Mem) (y1 y2 : Int32), Kp S (fX12_owes_L40 n S y1 y2)
  | 0, _, _, _ => kp_none
  | n + 1, S, y1, y2 => by
    rw [fX12_owes_L40]
    repeat' first | with_reducible refine kp_lt ?_ | with_reducible refine kp_if ?_ ?_ | with_reducible refine kp_bd2 (fun _ _ => ?_) | with_reducible refine kp_bd (fun _ => ?_) | with_reducible refine kp_gd ?_ | exact kp_some rfl | exact kp_to (kp_owesL n _ _ _) (by simp only [norm_u3])
theorem kp_owes (M : Mem) (a : Int32) : Kp M (fX12_owes M a) := by
  unfold fX12_owes
  repeat' first | with_reducible refine kp_lt ?_ | with_reducible refine kp_if ?_ ?_ | with_reducible refine kp_ref (fun _ _ h => ?_) | with_reducible refine kp_bd (fun _ => ?_) | with_reducible refine kp_gd ?_ | exact kp_some (by assumption) | exact kp_to (kp_owesL _ _ _ _) (by simp only [norm_u3]; assumption)
theorem kp_simL : ∀ (n : Nat) (S : Mem) (y1 : Int64) (y3 : Int32) (y4 : Int64) (y6 : Int32), Kp S (fX12_simulate_L45 n S y1 y3 y4 y6)
  | 0, _, _, _, _, _ => kp_none
  | n + 1, S, y1, y3, y4, y6 => by
    rw [fX12_simulate_L45]
    repeat' first | with_reducible refine kp_lt ?_ | with_reducible refine kp_if ?_ ?_ | with_reducible refine kp_bd (fun _ => ?_) | with_reducible refine kp_gd ?_ | exact kp_some rfl | exact kp_to (kp_simL n _ _ _ _ _) (by simp only [norm_u3])
theorem kp_sim (M : Mem) (s : Int64) (a : Int32) : Kp M (fX12_simulate M s a) := by
  unfold fX12_simulate
  repeat' first | with_reducible refine kp_lt ?_ | with_reducible refine kp_if ?_ ?_ | with_reducible refine kp_ref (fun _ _ h => ?_) | with_reducible refine kp_bd (fun _ => ?_) | with_reducible refine kp_gd ?_ | exact kp_some (by assumption) | exact kp_to (kp_simL _ _ _ _ _ _) (by simp only [norm_u3]; assumption)
/-- a memory that some object's state shows; the calls that only look answer, and leave it -/
def Re (n : Nat) (M : Mem) : Prop := (∃ V, OKV n M V) ∧ norm M = M
theorem q2 {B T : Nat} {V : uV} {c : Option (Int32 × Int32 × uV)} {m : Option (Int32 × Mem)} {M : Mem} {e1 e2 c1 c2 : Int32} (h : Pair2 B T V c m e1 e2) (hk : Kp M m) (hM : norm M = M) : ∃ z, rc2 m c1 c2 = some (z, M) := by
  obtain ⟨E, z, V1, z', S', hc, hV, hm, hE, hW⟩ := h
  have e := (hk z' S' hm).trans hM
  unfold rc2
  rw [hm, m_bd2, e]
  rcases hE with ⟨-, h, -⟩ | ⟨-, h⟩ | ⟨-, h⟩
  · exact ⟨_, if_pos h⟩
  · exact ⟨_, by rw [h, if_neg (by decide), if_pos rfl]⟩
  · exact ⟨_, by rw [h, if_neg (by decide), if_neg (by decide), if_pos rfl]⟩
theorem q1 {B T : Nat} {V : uV} {c : Option (Int32 × Int32 × uV)} {m : Option (Int32 × Mem)} {M : Mem} {e1 c1 : Int32} (h : Pair1 B T V c m e1) (hk : Kp M m) (hM : norm M = M) : ∃ z, rc1 m c1 = some (z, M) := by
  obtain ⟨E, z, V1, z', S', hc, hV, hm, hE, hW⟩ := h
  have e := (hk z' S' hm).trans hM
  unfold rc1
  rw [hm, m_bd2, e]
  rcases hE with ⟨-, h, -⟩ | ⟨-, h⟩
  · exact ⟨_, if_pos h⟩
  · exact ⟨_, by rw [h, if_neg (by decide), if_pos rfl]⟩
theorem q0 {B T : Nat} {V : uV} {c : Option (Int32 × uV)} {m : Option (Int32 × Mem)} {M : Mem} (h : Pair0 B T V c m) (hk : Kp M m) (hM : norm M = M) : ∃ z, rc0 m = some (z, M) := by
  obtain ⟨z, V1, S', hc, hV, hm, hW⟩ := h
  exact ⟨z, by unfold rc0; rw [hm, m_bd2, (hk z S' hm).trans hM]⟩
section LOOKS
variable {n : Nat} {M : Mem}
theorem rc_2 (a b c : Int32) : rcall M 2 a b c = rc1 (fX12_about M a) (-9999002) := rfl
theorem rc_3 (a b c : Int32) : rcall M 3 a b c = rc2 (fX12_card M a b) (-9999001) (-9999002) := rfl
theorem rc_4 (a b c : Int32) : rcall M 4 a b c = rc2 (fX12_account M a b) (-9999001) (-9999002) := rfl
theorem rc_5 (a b c : Int32) : rcall M 5 a b c = rc2 (fX12_gate M a b) (-9999001) (-9999002) := rfl
theorem rc_6 (a b c : Int32) : rcall M 6 a b c = rc2 (fX12_logged M a b c) (-9999001) (-9999002) := rfl
theorem rc_7 (a b c : Int32) : rcall M 7 a b c = rc1 (fX12_setting M a) (-9999002) := rfl
theorem rc_20 (a b c : Int32) : rcall M 20 a b c = rc1 (fX12_would M a b) (-9999001) := rfl
theorem rc_21 (a b c : Int32) : rcall M 21 a b c = rc1 (fX12_rides M a b) (-9999001) := rfl
theorem rc_22 (a b c : Int32) : rcall M 22 a b c = rc2 (fX12_ifUp M a b) (-9999001) (-9999002) := rfl
theorem rc_23 (a b c : Int32) : rcall M 23 a b c = rc1 (fX12_owes M a) (-9999001) := rfl
theorem lo_2 (h : Re n M) (a b c : Int32) : ∃ z, rcall M 2 a b c = some (z, M) := by
  obtain ⟨⟨V, W, rfl⟩, hM⟩ := h
  rw [rc_2]; exact q1 (q_about W a) (kp_about _ a) hM
theorem lo_3 (h : Re n M) (a b c : Int32) : ∃ z, rcall M 3 a b c = some (z, M) := by
  obtain ⟨⟨V, W, rfl⟩, hM⟩ := h
  rw [rc_3]; exact q2 (q_card W a b) (kp_card _ a b) hM
theorem lo_4 (h : Re n M) (a b c : Int32) : ∃ z, rcall M 4 a b c = some (z, M) := by
  obtain ⟨⟨V, W, rfl⟩, hM⟩ := h
  rw [rc_4]; exact q2 (q_account W a b) (kp_account _ a b) hM
theorem lo_5 (h : Re n M) (a b c : Int32) : ∃ z, rcall M 5 a b c = some (z, M) := by
  obtain ⟨⟨V, W, rfl⟩, hM⟩ := h
  rw [rc_5]; exact q2 (q_gate W a b) (kp_gate _ a b) hM
theorem lo_6 (h : Re n M) (a b c : Int32) : ∃ z, rcall M 6 a b c = some (z, M) := by
  obtain ⟨⟨V, W, rfl⟩, hM⟩ := h
  rw [rc_6]; exact q2 (q_logged W a b c) (kp_logged _ a b c) hM
theorem lo_7 (h : Re n M) (a b c : Int32) : ∃ z, rcall M 7 a b c = some (z, M) := by
  obtain ⟨⟨V, W, rfl⟩, hM⟩ := h
  rw [rc_7]; exact q1 (q_setting W a) (kp_setting _ a) hM
theorem lo_20 (h : Re n M) (hn : n ≤ 850) (a b c : Int32) : ∃ z, rcall M 20 a b c = some (z, M) := by
  obtain ⟨⟨V, W, rfl⟩, hM⟩ := h
  rw [rc_20]; exact q1 (q_would W (by omega) (by omega) a b) (kp_would _ a b) hM
theorem lo_21 (h : Re n M) (hn : n ≤ 850) (a b c : Int32) : ∃ z, rcall M 21 a b c = some (z, M) := by
  obtain ⟨⟨V, W, rfl⟩, hM⟩ := h
  rw [rc_21]; exact q1 (q_rides W (by omega) (by omega) a b) (kp_rides _ a b) hM
theorem lo_22 (h : Re n M) (hn : n ≤ 850) (a b c : Int32) : ∃ z, rcall M 22 a b c = some (z, M) := by
  obtain ⟨⟨V, W, rfl⟩, hM⟩ := h
  rw [rc_22]; exact q2 (q_ifUp W (by omega) (by omega) a b) (kp_ifUp _ a b) hM
theorem lo_23 (h : Re n M) (hn : n ≤ 850) (a b c : Int32) : ∃ z, rcall M 23 a b c = some (z, M) := by
  obtain ⟨⟨V, W, rfl⟩, hM⟩ := h
  rw [rc_23]; exact q1 (q_owes W (by omega) (by omega) a) (kp_owes _ a) hM
theorem lo_sim (h : Re n M) (hn : n ≤ 850) (s : Int64) (k : Int32) : ∃ z, rsim M s k = some (z, M) := by
  obtain ⟨⟨V, W, rfl⟩, hM⟩ := h
  exact q1 (q_simulate W (by omega) (by omega) s k) (kp_sim _ s k) hM
theorem lo_best (h : Re n M) (hn : n ≤ 850) : ∃ z, rbest M = some (z, M) := by
  obtain ⟨⟨V, W, rfl⟩, hM⟩ := h
  exact q0 (q_bestUp W (by omega) (by omega)) (kp_best _) hM
theorem lo_worst (h : Re n M) : ∃ z, rworst M = some (z, M) := by
  obtain ⟨⟨V, W, rfl⟩, hM⟩ := h
  exact q0 (q_worst W) (kp_worst _) hM
end LOOKS
