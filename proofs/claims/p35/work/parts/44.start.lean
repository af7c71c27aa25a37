
/-! the law's entry: an object's world as it is made -/
def ksT (t : Nat) : List (Nat × Nat) := ks40.map (fun q => (t, q.2))
def ksB : Nat → List (Nat × Nat)
  | 0 => []
  | k + 1 => ksB k ++ ksT (k + 2)
def ksAll : List (Nat × Nat) := ((((([(18, 0)] ++ ksT 0) ++ ksT 1) ++ [(18, 1), (18, 2), (18, 3)]) ++ ((18, 4) :: (18, 5) :: ksB 14)) ++ (([(18, 6)] ++ ksT 16) ++ ksT 17))
def ad18 (x0 : Nat) (u : uT11) (o : Nat) : Nat := match o with
  | 0 => x0
  | 1 => u.2.2.1.1
  | 2 => u.2.2.1.2 1
  | 3 => u.2.2.1.2 2
  | 4 => u.2.2.2.1.1
  | 5 => u.2.2.2.1.2.1
  | _ => u.2.2.2.2.1
def adAll (x0 : Nat) (u : uT11) (t : Nat) : Nat → Nat :=
  if t = 0 then adX u.1.1 u.1.2 else if t = 1 then adX u.2.1.1 u.2.1.2 else if t < 16 then adX (u.2.2.2.1.2.2.1 (t - 2)) (u.2.2.2.1.2.2.2 (t - 2)) else if t = 16 then adX u.2.2.2.2.2.1.1 u.2.2.2.2.2.1.2 else if t = 17 then adX u.2.2.2.2.2.2.1 u.2.2.2.2.2.2.2 else ad18 x0 u
/-- the row model's own memory at the start -/
def m0 : Nat → Nat → Int32 := va_up (fun _ _ => 0) 2 (beginR (fun _ => 0))
def V0 : uV := fun t => if t < 18 then s0 else if t = 19 then m0 else fun _ _ => 0
theorem V0_st {t : Nat} (h : t < 18) : V0 t = s0 := if_pos h
def ga2 (G : UG) (A : Nat → Prop) (x0 : Nat) (u : uT11) : UG := (gD G, G.2.1, adAll x0 u, ksAll, A)
theorem stSh_cg {G g : UG} {t t' : Nat} (hI : gI G = gI g) (ha : ga G t = ga g t') (o : Nat) (f : Nat → Int32) : stSh G t o f = stSh g t' o f := by
  unfold stSh uRowC uArr
  rw [ha, hI]
def fW (GG : UG) (V : uV) : Nat × Nat → Nat × va_E := fun k => (ga GG k.1 k.2, uSh GG k.1 k.2 (V k.1 k.2))
theorem ws_blk {G GG : UG} (hI : gI GG = gI G) {t : Nat} (ht : t < 18) {h0 : Nat} {u : Nat → Nat} (ha : ga GG t = adX h0 u) : (ksT t).map (fW GG V0) = wX10 G h0 u := by
  unfold ksT wX10 uW
  rw [List.map_map]
  refine List.map_congr_left fun k hk => ?_
  obtain ⟨k1, k2⟩ := k
  obtain rfl : k1 = 0 := ks40_0 _ hk
  show (ga GG t k2, uSh GG t k2 (V0 t k2)) = (adX h0 u k2, stSh (gW G h0 (fun _ => adX h0 u) ks40) 0 k2 (s0 k2))
  rw [uSh_st ht, V0_st ht, stSh_cg (g := gW G h0 (fun _ => adX h0 u) ks40) (t' := 0) hI ha, ha]
theorem ws_blks {G GG : UG} (hI : gI GG = gI G) {b : Nat → Nat} {us : Nat → Nat → Nat} : ∀ k : Nat, k ≤ 14 → (∀ t, t < k → ga GG (t + 2) = adX (b t) (us t)) → (ksB k).map (fW GG V0) = blks G b us k
  | 0, _, _ => rfl
  | k + 1, hk, h => by
    show (ksB k ++ ksT (k + 2)).map (fW GG V0) = blks G b us k ++ wX10 G (b k) (us k)
    rw [List.map_append, ws_blks hI k (by omega) (fun t ht => h t (by omega)), ws_blk hI (by omega) (h k (by omega))]
theorem ws_swap {D : va_G} {cl : List vw_C} {A : Nat → Prop} {H : Heap} {l1 l2 : va_W} {e e' : Nat × va_E} (he : e.1 = e'.1) (h : va_at D cl e H → va_at D cl e' H) (hP : va_P D cl (l1 ++ e :: l2) H) (hD : va_D A (l1 ++ e :: l2)) : va_P D cl (l1 ++ e' :: l2) H ∧ va_D A (l1 ++ e' :: l2) := by
  have cv : ∀ (k : Nat) (q : Nat × va_E), (l1 ++ e' :: l2)[k]? = some q → ∃ q', (l1 ++ e :: l2)[k]? = some q' ∧ q'.1 = q.1 ∧ (va_at D cl q' H → va_at D cl q H) := by
    intro k q hq
    by_cases c1 : k < l1.length
    · rw [List.getElem?_append_left c1] at hq
      exact ⟨q, by rw [List.getElem?_append_left c1]; exact hq, rfl, id⟩
    · rw [List.getElem?_append_right (by omega)] at hq
      by_cases c2 : k - l1.length = 0
      · rw [c2] at hq
        cases hq
        exact ⟨e, by rw [List.getElem?_append_right (by omega), c2]; rfl, he, h⟩
      · obtain ⟨j, hj⟩ : ∃ j, k - l1.length = j + 1 := ⟨k - l1.length - 1, by omega⟩
        rw [hj] at hq
        exact ⟨q, by rw [List.getElem?_append_right (by omega), hj]; exact hq, rfl, id⟩
  refine ⟨fun k q hq => ?_, fun i j p q hp hq e => ?_, fun k q hq => ?_⟩
  · obtain ⟨q', h1, h2, h3⟩ := cv k q hq
    exact h3 (hP k q' h1)
  · obtain ⟨p', h1, h2, -⟩ := cv i p hp
    obtain ⟨q', h3, h4, -⟩ := cv j q hq
    exact hD.1 i j p' q' h1 h3 (by rw [h2, h4, e])
  · obtain ⟨q', h1, h2, h3⟩ := cv k q hq
    rw [← h2]
    exact hD.2 k q' h1
theorem ws_conv {G : UG} {A : Nat → Prop} {x0 : Nat} {u : uT11} {H : Heap} (hP : va_P (gD G) vwCl (wX11 G x0 u) H) (hD : va_D A (wX11 G x0 u)) : UH (ga2 G A x0 u) V0 H := by
  have e1 : wX11 G x0 u = (((([(x0, .inr (8, [.ref u.1.1, .ref u.2.1.1, .ref u.2.2.1.1, .ref u.2.2.2.1.1, .ref u.2.2.2.2.1]))] ++ wX10 G u.1.1 u.1.2) ++ wX10 G u.2.1.1 u.2.1.2) ++ wX2 G u.2.2.1.1 u.2.2.1.2) ++ [(u.2.2.2.1.1, .inr (3, [.ref u.2.2.2.1.2.1, .int 0, .int 0]))]) ++ (u.2.2.2.1.2.1, .inl (gO G, 14, .inr (.inr (.inr (.inr (fun i => some (u.2.2.2.1.2.2.1 i))))))) :: (blks G u.2.2.2.1.2.2.1 u.2.2.2.1.2.2.2 14 ++ wX9 G u.2.2.2.2.1 u.2.2.2.2.2) := by
    unfold wX11 wX4
    simp only [List.append_assoc, List.cons_append, List.nil_append]
  rw [e1] at hP hD
  have hI : gI (ga2 G A x0 u) = gI G := rfl
  have e2 : uW (ga2 G A x0 u) V0 = (((([(x0, .inr (8, [.ref u.1.1, .ref u.2.1.1, .ref u.2.2.1.1, .ref u.2.2.2.1.1, .ref u.2.2.2.2.1]))] ++ wX10 G u.1.1 u.1.2) ++ wX10 G u.2.1.1 u.2.1.2) ++ wX2 G u.2.2.1.1 u.2.2.1.2) ++ [(u.2.2.2.1.1, .inr (3, [.ref u.2.2.2.1.2.1, .int 0, .int 0]))]) ++ (u.2.2.2.1.2.1, .inl (gO G, 14, .inr (.inr (.inr (.inr (fun i => some (ga (ga2 G A x0 u) (i + 2) 0))))))) :: (blks G u.2.2.2.1.2.2.1 u.2.2.2.1.2.2.2 14 ++ wX9 G u.2.2.2.2.1 u.2.2.2.2.2) := by
    show ksAll.map (fW (ga2 G A x0 u) V0) = _
    unfold ksAll
    simp only [List.map_append, List.map_cons, List.map_nil]
    rw [ws_blk (t := 0) (h0 := u.1.1) (u := u.1.2) hI (by decide) rfl, ws_blk (t := 1) (h0 := u.2.1.1) (u := u.2.1.2) hI (by decide) rfl, ws_blk (t := 16) (h0 := u.2.2.2.2.2.1.1) (u := u.2.2.2.2.2.1.2) hI (by decide) rfl, ws_blk (t := 17) (h0 := u.2.2.2.2.2.2.1) (u := u.2.2.2.2.2.2.2) hI (by decide) rfl, ws_blks (b := u.2.2.2.1.2.2.1) (us := u.2.2.2.1.2.2.2) hI 14 (Nat.le_refl 14) (fun t ht => by
      show adAll x0 u (t + 2) = _
      unfold adAll
      rw [if_neg (by omega), if_neg (by omega), if_pos (by omega)]
      rfl)]
    have f0 : fW (ga2 G A x0 u) V0 (18, 0) = (x0, .inr (8, [.ref u.1.1, .ref u.2.1.1, .ref u.2.2.1.1, .ref u.2.2.2.1.1, .ref u.2.2.2.2.1])) := rfl
    have f1 : fW (ga2 G A x0 u) V0 (18, 1) = (u.2.2.1.1, .inr (1, [.ref (u.2.2.1.2 1), .int 0])) := rfl
    have f2 : fW (ga2 G A x0 u) V0 (18, 2) = (u.2.2.1.2 1, .inr (5, [.ref (u.2.2.1.2 2)])) := rfl
    have f3 : fW (ga2 G A x0 u) V0 (18, 3) = (u.2.2.1.2 2, .inl (gI G, 120, .inl fun _ => 0)) := rfl
    have f4 : fW (ga2 G A x0 u) V0 (18, 4) = (u.2.2.2.1.1, .inr (3, [.ref u.2.2.2.1.2.1, .int 0, .int 0])) := rfl
    have f5 : fW (ga2 G A x0 u) V0 (18, 5) = (u.2.2.2.1.2.1, .inl (gO G, 14, .inr (.inr (.inr (.inr (fun i => some (ga (ga2 G A x0 u) (i + 2) 0))))))) := rfl
    have f6 : fW (ga2 G A x0 u) V0 (18, 6) = (u.2.2.2.2.1, .inr (6, [.ref u.2.2.2.2.2.1.1, .ref u.2.2.2.2.2.2.1, .int 0, .int 0])) := rfl
    rw [f0, f1, f2, f3, f4, f5, f6]
    unfold wX9 wX2
    simp only [List.append_assoc, List.cons_append, List.nil_append]
  unfold UH
  rw [e2]
  refine ws_swap (e := (u.2.2.2.1.2.1, .inl (gO G, 14, .inr (.inr (.inr (.inr (fun i => some (u.2.2.2.1.2.2.1 i)))))))) rfl (fun h => ?_) hP hD
  have h8 : H[u.2.2.2.1.2.1]? = some (vp_cell (gO G) (14, .inr (.inr (.inr (.inr (fun i => some (u.2.2.2.1.2.2.1 i))))))) := h
  show H[u.2.2.2.1.2.1]? = some (vp_cell _ _)
  rw [h8, vp_cell_q, vp_cell_q, arrV_congr _ _ (fun j hj => ?_)]
  show va_rf (some (u.2.2.2.1.2.2.1 j)) = va_rf (some (adAll x0 u (j + 2) 0))
  unfold adAll
  rw [if_neg (by omega), if_neg (by omega), if_pos (by omega)]
  rfl
theorem ks_at : (∀ t, t < 18 → ∀ o, o < 40 → (t, o) ∈ ksAll) := by decide +kernel
theorem ks_mn : ∀ o, o < 7 → (18, o) ∈ ksAll := by decide +kernel
theorem ks_ex : ∀ q ∈ ksAll, q.1 < 18 → q.2 < 40 := by decide +kernel
theorem ws_all (G : UG) (A : Nat → Prop) (x0 : Nat) (u : uT11) : uAll (ga2 G A x0 u) := ⟨fun t ht => ⟨ht, ks_at t ht⟩, ks_mn, fun t o h => ks_ex (t, o) h⟩
theorem ws_int {args : Array Value} {s : State} (h : (Cond.arrayClass .int).before args s = true) : ∃ cA, ArrOfT s cA .int ∧ va_RA s cA .int := by
  obtain ⟨cA, kA, comp, h1, h2, h3⟩ := Cond.arrayClass_spec h
  exact ⟨cA, fun n z => ⟨fun k h => (by cases h), kA, h2, comp, h3⟩, h1⟩
theorem ws_obj {args : Array Value} {s : State} {C : String} (h : (Cond.arrayOver (.object C)).before args s = true) : ∃ cA, ArrOfT s cA (.object C) ∧ va_RA s cA (.object C) := by
  obtain ⟨comp, cA, kA, h1, -, h2, h3, h4⟩ := Cond.arrayOver_spec h
  exact ⟨cA, fun n z => ⟨fun k h => (by cases h), kA, h2, comp, h3⟩, kA, comp, h2, h3, h1, h4⟩
/-- the addresses of an object's world -/
def adOf (ws : va_W) : Nat → Prop := fun q => ∃ (k : Nat) (x : Nat × va_E), ws[k]? = some x ∧ x.1 = q
theorem adOf_D {A : Nat → Prop} {ws : va_W} (h : va_D A ws) : va_D (adOf ws) ws := ⟨h.1, fun k q hq => ⟨k, q, hq, rfl⟩⟩
theorem ws_two {D : va_G} {cl : List vw_C} {A : Nat → Prop} {a b : va_W} {H : Heap} (hP : va_P D cl (a ++ b) H) (hD : va_D A (a ++ b)) : (va_P D cl a H ∧ va_D (adOf a) a ∧ ∀ q, adOf a q → A q) ∧ (va_P D cl b H ∧ va_D (adOf b) b ∧ ∀ q, adOf b q → A q) ∧ ∀ q, adOf a q → adOf b q → False := by
  have la : ∀ (k : Nat) (x : Nat × va_E), a[k]? = some x → (a ++ b)[k]? = some x := fun k x h => by
    rw [List.getElem?_append_left (List.getElem?_eq_some_iff.mp h).1]; exact h
  have lb : ∀ (k : Nat) (x : Nat × va_E), b[k]? = some x → (a ++ b)[a.length + k]? = some x := fun k x h => by
    rw [List.getElem?_append_right (by omega), show a.length + k - a.length = k by omega]; exact h
  refine ⟨⟨fun k q hq => hP k q (la k q hq), ⟨fun i j p q hp hq e => hD.1 i j p q (la i p hp) (la j q hq) e, fun k q hq => ⟨k, q, hq, rfl⟩⟩, fun q h => ?_⟩, ⟨fun k q hq => hP _ q (lb k q hq), ⟨fun i j p q hp hq e => ?_, fun k q hq => ⟨k, q, hq, rfl⟩⟩, fun q h => ?_⟩, fun q h1 h2 => ?_⟩
  · obtain ⟨k, x, hx, rfl⟩ := h
    exact hD.2 k x (la k x hx)
  · have := hD.1 _ _ p q (lb i p hp) (lb j q hq) e
    omega
  · obtain ⟨k, x, hx, rfl⟩ := h
    exact hD.2 _ x (lb k x hx)
  · obtain ⟨k, x, hx, rfl⟩ := h1
    obtain ⟨j, y, hy, e⟩ := h2
    have := hD.1 _ _ x y (la k x hx) (lb j y hy) e.symm
    have := (List.getElem?_eq_some_iff.mp hx).1
    omega
