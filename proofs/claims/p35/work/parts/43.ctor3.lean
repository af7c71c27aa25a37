def wX9 (G : UG) (h0 : Nat) (u : (Nat × (Nat → Nat)) × (Nat × (Nat → Nat))) : va_W := ([(h0, .inr (6, [.ref u.1.1, .ref u.2.1, .int 0, .int 0]))] ++ wX10 G u.1.1 u.1.2) ++ wX10 G u.2.1 u.2.2
theorem dX9_init_0 : decode cX9_init 0 = .ok (.aload_n 0, 1) := by decide +kernel
theorem dX9_init_1 : decode cX9_init 1 = .ok (.invokespecial 1, 3) := by decide +kernel
theorem dX9_init_4 : decode cX9_init 4 = .ok (.aload_n 0, 1) := by decide +kernel
theorem dX9_init_5 : decode cX9_init 5 = .ok (.new 7, 3) := by decide +kernel
theorem dX9_init_8 : decode cX9_init 8 = .ok (.dup, 1) := by decide +kernel
theorem dX9_init_9 : decode cX9_init 9 = .ok (.invokespecial 9, 3) := by decide +kernel
theorem dX9_init_12 : decode cX9_init 12 = .ok (.putfield 10, 3) := by decide +kernel
theorem dX9_init_15 : decode cX9_init 15 = .ok (.aload_n 0, 1) := by decide +kernel
theorem dX9_init_16 : decode cX9_init 16 = .ok (.new 7, 3) := by decide +kernel
theorem dX9_init_19 : decode cX9_init 19 = .ok (.dup, 1) := by decide +kernel
theorem dX9_init_20 : decode cX9_init 20 = .ok (.invokespecial 9, 3) := by decide +kernel
theorem dX9_init_23 : decode cX9_init 23 = .ok (.putfield 16, 3) := by decide +kernel
theorem dX9_init_26 : decode cX9_init 26 = .ok (.return_, 1) := by decide +kernel
theorem nf_X9 : nCF yX9_init cX9_init 1 0 := ⟨gt_in 263 (by decide +kernel) (by decide +kernel), gt_in 19 (by decide +kernel) (by decide +kernel), gt_in 264 (by decide +kernel) (by decide +kernel), rfl, by decide +kernel⟩
theorem dX4_init_0 : decode cX4_init 0 = .ok (.aload_n 0, 1) := by decide +kernel
theorem dX4_init_1 : decode cX4_init 1 = .ok (.invokespecial 1, 3) := by decide +kernel
theorem dX4_init_4 : decode cX4_init 4 = .ok (.aload_n 0, 1) := by decide +kernel
theorem dX4_init_5 : decode cX4_init 5 = .ok (.bipush 14, 2) := by decide +kernel
theorem dX4_init_7 : decode cX4_init 7 = .ok (.anewarray 9, 3) := by decide +kernel
theorem dX4_init_10 : decode cX4_init 10 = .ok (.putfield 11, 3) := by decide +kernel
theorem dX4_init_13 : decode cX4_init 13 = .ok (.iconst 0, 1) := by decide +kernel
theorem dX4_init_14 : decode cX4_init 14 = .ok (.istore_n 1, 1) := by decide +kernel
theorem dX4_init_15 : decode cX4_init 15 = .ok (.iload_n 1, 1) := by decide +kernel
theorem dX4_init_16 : decode cX4_init 16 = .ok (.aload_n 0, 1) := by decide +kernel
theorem dX4_init_17 : decode cX4_init 17 = .ok (.getfield 11, 3) := by decide +kernel
theorem dX4_init_20 : decode cX4_init 20 = .ok (.arraylength, 1) := by decide +kernel
theorem dX4_init_21 : decode cX4_init 21 = .ok (.if_icmp .ge 22, 3) := by decide +kernel
theorem dX4_init_24 : decode cX4_init 24 = .ok (.aload_n 0, 1) := by decide +kernel
theorem dX4_init_25 : decode cX4_init 25 = .ok (.getfield 11, 3) := by decide +kernel
theorem dX4_init_28 : decode cX4_init 28 = .ok (.iload_n 1, 1) := by decide +kernel
theorem dX4_init_29 : decode cX4_init 29 = .ok (.new 9, 3) := by decide +kernel
theorem dX4_init_32 : decode cX4_init 32 = .ok (.dup, 1) := by decide +kernel
theorem dX4_init_33 : decode cX4_init 33 = .ok (.invokespecial 15, 3) := by decide +kernel
theorem dX4_init_36 : decode cX4_init 36 = .ok (.aastore, 1) := by decide +kernel
theorem dX4_init_37 : decode cX4_init 37 = .ok (.iinc 1 1, 3) := by decide +kernel
theorem dX4_init_40 : decode cX4_init 40 = .ok (.goto (-25), 3) := by decide +kernel
theorem dX4_init_43 : decode cX4_init 43 = .ok (.return_, 1) := by decide +kernel
theorem nf_X4 : nCF yX4_init cX4_init 2 0 := ⟨gt_in 244 (by decide +kernel) (by decide +kernel), gt_in 18 (by decide +kernel) (by decide +kernel), gt_in 245 (by decide +kernel) (by decide +kernel), rfl, by decide +kernel⟩
theorem dX11_init_0 : decode cX11_init 0 = .ok (.aload_n 0, 1) := by decide +kernel
theorem dX11_init_1 : decode cX11_init 1 = .ok (.invokespecial 1, 3) := by decide +kernel
theorem dX11_init_4 : decode cX11_init 4 = .ok (.aload_n 0, 1) := by decide +kernel
theorem dX11_init_5 : decode cX11_init 5 = .ok (.new 7, 3) := by decide +kernel
theorem dX11_init_8 : decode cX11_init 8 = .ok (.dup, 1) := by decide +kernel
theorem dX11_init_9 : decode cX11_init 9 = .ok (.invokespecial 9, 3) := by decide +kernel
theorem dX11_init_12 : decode cX11_init 12 = .ok (.putfield 10, 3) := by decide +kernel
theorem dX11_init_15 : decode cX11_init 15 = .ok (.aload_n 0, 1) := by decide +kernel
theorem dX11_init_16 : decode cX11_init 16 = .ok (.new 7, 3) := by decide +kernel
theorem dX11_init_19 : decode cX11_init 19 = .ok (.dup, 1) := by decide +kernel
theorem dX11_init_20 : decode cX11_init 20 = .ok (.invokespecial 9, 3) := by decide +kernel
theorem dX11_init_23 : decode cX11_init 23 = .ok (.putfield 16, 3) := by decide +kernel
theorem dX11_init_26 : decode cX11_init 26 = .ok (.aload_n 0, 1) := by decide +kernel
theorem dX11_init_27 : decode cX11_init 27 = .ok (.new 19, 3) := by decide +kernel
theorem dX11_init_30 : decode cX11_init 30 = .ok (.dup, 1) := by decide +kernel
theorem dX11_init_31 : decode cX11_init 31 = .ok (.invokespecial 21, 3) := by decide +kernel
theorem dX11_init_34 : decode cX11_init 34 = .ok (.putfield 22, 3) := by decide +kernel
theorem dX11_init_37 : decode cX11_init 37 = .ok (.aload_n 0, 1) := by decide +kernel
theorem dX11_init_38 : decode cX11_init 38 = .ok (.new 26, 3) := by decide +kernel
theorem dX11_init_41 : decode cX11_init 41 = .ok (.dup, 1) := by decide +kernel
theorem dX11_init_42 : decode cX11_init 42 = .ok (.invokespecial 28, 3) := by decide +kernel
theorem dX11_init_45 : decode cX11_init 45 = .ok (.putfield 29, 3) := by decide +kernel
theorem dX11_init_48 : decode cX11_init 48 = .ok (.aload_n 0, 1) := by decide +kernel
theorem dX11_init_49 : decode cX11_init 49 = .ok (.new 33, 3) := by decide +kernel
theorem dX11_init_52 : decode cX11_init 52 = .ok (.dup, 1) := by decide +kernel
theorem dX11_init_53 : decode cX11_init 53 = .ok (.invokespecial 35, 3) := by decide +kernel
theorem dX11_init_56 : decode cX11_init 56 = .ok (.putfield 36, 3) := by decide +kernel
theorem dX11_init_59 : decode cX11_init 59 = .ok (.return_, 1) := by decide +kernel
theorem nf_X11 : nCF yX11_init cX11_init 1 0 := ⟨gt_in 33 (by decide +kernel) (by decide +kernel), gt_in 10 (by decide +kernel) (by decide +kernel), gt_in 34 (by decide +kernel) (by decide +kernel), rfl, by decide +kernel⟩
set_option maxHeartbeats 4000000 in
set_option maxRecDepth 20000 in
theorem nX9 {l : Launch} {G : UG} : uN l G yX9_init cX9_init 1 4 80 1086 82 [] (.inr (6, [.null, .null, .int 0, .int 0])) (wX9 G) := by
  refine uN_of rfl rfl (fun _ => Nat.le_of_ble_eq_true rfl) (fun h0 p e s m args below meth c ls X hin hret hl M => ?_)
  have hl : lv_has ls 1 [(0, .ref h0)] := hl
  have hx := X.1.1
  have hb := X.1.2.1
  refine lv_aload_n hx hb dX9_init_0 rfl (lv_at hl 0 rfl) ?_
  refine n_obj X hl.1 (gt_in 265 (by decide +kernel) (by decide +kernel)) dX9_init_1 (Nat.le_of_ble_eq_true rfl) (Nat.le_of_ble_eq_true rfl) ?_
  refine lv_aload_n hx hb dX9_init_4 rfl (lv_at hl 0 rfl) ?_
  refine n_new (C := RX10) (T := TX10) (N := 10) (ci := 7) X M rfl iw_X10 tyX10 tyX10_ok (gt_in 266 (by decide +kernel) (by decide +kernel)) (gt_in 39 (by decide +kernel) (by decide +kernel)) (gt_in 11 (by decide +kernel) (by decide +kernel)) (fs := [.null, .null, .null, .null, .int 0, .int 0, .int 0, .int 0, .int 0, .int 0]) (fun j hj => by rcases (show j = 0 ∨ j = 1 ∨ j = 2 ∨ j = 3 ∨ j = 4 ∨ j = 5 ∨ j = 6 ∨ j = 7 ∨ j = 8 ∨ j = 9 by omega) with rfl | rfl | rfl | rfl | rfl | rfl | rfl | rfl | rfl | rfl <;> rfl) (Nat.le_of_ble_eq_true rfl) (Nat.le_of_ble_eq_true rfl) dX9_init_5 (fun q1 H hz M hlt hsq => ?_)
  refine lv_dup hx hb dX9_init_8 rfl ?_
  refine n_call X M hl.1 (nX10) hz hlt (gt_in 267 (by decide +kernel) (by decide +kernel)) nf_X10 ⟨Nat.le_of_ble_eq_true rfl, Nat.le_of_ble_eq_true rfl⟩ rfl rfl (Nat.le_of_ble_eq_true rfl) ⟨Nat.le_of_ble_eq_true rfl, Nat.le_of_ble_eq_true rfl⟩ dX9_init_9 (fun u1 H locs M => ?_)
  have M : NM G h0 ([(h0, .inr (6, [.null, .null, .int 0, .int 0]))] ++ wX10 G q1 u1) s H locs := M
  refine n_putF (C := RX9) (T := TX9) (N := 4) (ci := 6) (fs := [.null, .null, .int 0, .int 0]) X hin M iw_X9 tyX9_ok nmX9 0 rfl rfl 0 (by decide) rfl (gt_in 268 (by decide +kernel) (by decide +kernel)) rfl (ty := .object "OfflineGates$State") (by decide +kernel) rfl rfl (Nat.le_of_ble_eq_true rfl) dX9_init_12 (fun H locs M => ?_)
  have M : NM G h0 ([(h0, .inr (6, [.ref q1, .null, .int 0, .int 0]))] ++ wX10 G q1 u1) s H locs := M
  refine lv_aload_n hx hb dX9_init_15 rfl (lv_at hl 0 rfl) ?_
  refine n_new (C := RX10) (T := TX10) (N := 10) (ci := 7) X M rfl iw_X10 tyX10 tyX10_ok (gt_in 266 (by decide +kernel) (by decide +kernel)) (gt_in 39 (by decide +kernel) (by decide +kernel)) (gt_in 11 (by decide +kernel) (by decide +kernel)) (fs := [.null, .null, .null, .null, .int 0, .int 0, .int 0, .int 0, .int 0, .int 0]) (fun j hj => by rcases (show j = 0 ∨ j = 1 ∨ j = 2 ∨ j = 3 ∨ j = 4 ∨ j = 5 ∨ j = 6 ∨ j = 7 ∨ j = 8 ∨ j = 9 by omega) with rfl | rfl | rfl | rfl | rfl | rfl | rfl | rfl | rfl | rfl <;> rfl) (Nat.le_of_ble_eq_true rfl) (Nat.le_of_ble_eq_true rfl) dX9_init_16 (fun q2 H hz M hlt hsq => ?_)
  refine lv_dup hx hb dX9_init_19 rfl ?_
  refine n_call X M hl.1 (nX10) hz hlt (gt_in 267 (by decide +kernel) (by decide +kernel)) nf_X10 ⟨Nat.le_of_ble_eq_true rfl, Nat.le_of_ble_eq_true rfl⟩ rfl rfl (Nat.le_of_ble_eq_true rfl) ⟨Nat.le_of_ble_eq_true rfl, Nat.le_of_ble_eq_true rfl⟩ dX9_init_20 (fun u2 H locs M => ?_)
  have M : NM G h0 (([(h0, .inr (6, [.ref q1, .null, .int 0, .int 0]))] ++ wX10 G q1 u1) ++ wX10 G q2 u2) s H locs := M
  refine n_putF (C := RX9) (T := TX9) (N := 4) (ci := 6) (fs := [.ref q1, .null, .int 0, .int 0]) X hin M iw_X9 tyX9_ok nmX9 0 rfl rfl 1 (by decide) rfl (gt_in 269 (by decide +kernel) (by decide +kernel)) rfl (ty := .object "OfflineGates$State") (by decide +kernel) rfl rfl (Nat.le_of_ble_eq_true rfl) dX9_init_23 (fun H locs M => ?_)
  have M : NM G h0 (([(h0, .inr (6, [.ref q1, .ref q2, .int 0, .int 0]))] ++ wX10 G q1 u1) ++ wX10 G q2 u2) s H locs := M
  exact n_vret X hret M ((q1, u1), (q2, u2)) rfl dX9_init_26

def blks (G : UG) (b : Nat → Nat) (us : Nat → Nat → Nat) : Nat → va_W
  | 0 => []
  | k + 1 => blks G b us k ++ wX10 G (b k) (us k)
theorem blks_congr {G : UG} {b b' : Nat → Nat} {us us' : Nat → Nat → Nat} : ∀ (k : Nat), (∀ t, t < k → b t = b' t ∧ us t = us' t) → blks G b us k = blks G b' us' k
  | 0, _ => rfl
  | k + 1, h => by
    show blks G b us k ++ wX10 G (b k) (us k) = blks G b' us' k ++ wX10 G (b' k) (us' k)
    rw [blks_congr k (fun t ht => h t (by omega)), (h k (by omega)).1, (h k (by omega)).2]
theorem blks_len {G : UG} {b : Nat → Nat} {us : Nat → Nat → Nat} : ∀ k, (blks G b us k).length = 40 * k
  | 0 => rfl
  | k + 1 => by
    show (blks G b us k ++ wX10 G (b k) (us k)).length = _
    rw [List.length_append, blks_len k]
    have : (wX10 G (b k) (us k)).length = 40 := rfl
    omega
def hW (G : UG) (h0 qa : Nat) (b : Nat → Nat) (us : Nat → Nat → Nat) (k : Nat) : va_W := (h0, .inr (3, [.ref qa, .int 0, .int 0])) :: (qa, .inl (gO G, 14, .inr (.inr (.inr (.inr (fun i => if i < k then some (b i) else none)))))) :: blks G b us k
def wX4 (G : UG) (h0 : Nat) (u : Nat × (Nat → Nat) × (Nat → Nat → Nat)) : va_W := (h0, .inr (3, [.ref u.1, .int 0, .int 0])) :: (u.1, .inl (gO G, 14, .inr (.inr (.inr (.inr (fun i => some (u.2.1 i))))))) :: blks G u.2.1 u.2.2 14
set_option maxHeartbeats 4000000 in
set_option maxRecDepth 20000 in
theorem lpX4_init {l : Launch} {G : UG} {h0 qa : Nat} {p : Program} {e : Env} {s : State} {m : MethodId} {args : Array Value} {below : List Frame} {meth : Method} {c : Code} (X : NC p s m args meth c cX4_init 2 RX4 G h0) (hret : meth.sig.returnType = none) :
    ∀ (d k : Nat), k + d = 14 → ∀ (b : Nat → Nat) (us : Nat → Nat → Nat) (H : Heap) (locs : List Loc) (ls : Array Slot) (cells slots : Nat), cells = 1 + 40 * k → slots = 14 + 543 * k → NM G h0 (hW G h0 qa b us k) s H locs → lv_has ls 2 [(0, .ref h0), (1, .int (nI k))] →
      W p l e (nR 4 561 7616 82) s m args below meth c H locs cells slots (MQ below (nQ G h0 (wX4 G)) args s 561 7616 (nA h0)) (F0 m 15 ls []) := by
  intro d
  have hx := X.1.1
  have hb := X.1.2.1
  induction d with
  | zero =>
    intro k hk b us H locs ls cells slots hc hs M hl
    obtain rfl : k = 14 := by omega
    subst hc
    subst hs
    refine lv_iload_n hx hb dX4_init_15 rfl (lv_at hl 1 rfl) ?_
    refine lv_aload_n hx hb dX4_init_16 rfl (lv_at hl 0 rfl) ?_
    refine va_get (ref := RX4) hx hb (fun w h => X.hts h) iw_X4 X.1.2.2.2.1 X.2.1 M.1 0 rfl rfl 0 (by decide) (X.hts (gt_in 250 (by decide +kernel) (by decide +kernel))) (fun _ h => h) rfl dX4_init_17 ?_
    refine va_alen hx hb X.2.1 M.1 1 1 rfl (ty := .object "OfflineGates$State") rfl rfl dX4_init_20 ?_
    refine lv_icmp_ge (tgt := 43) hx hb dX4_init_21 (by decide) (fun c2 => ?_) (fun c2 => absurd (nI_le (Nat.le_refl 14) (by decide)) c2)
    refine n_vret' X hret ⟨(qa, b, us), ?_, ?_⟩ M.2.2.1 dX4_init_43
    · intro k q hq
      match k, hq with
      | 0, hq => exact M.1 0 q hq
      | 1, hq =>
        cases hq
        have h9 := M.1 1 _ rfl
        show H[qa]? = some (vp_cell _ _)
        have h8 : H[qa]? = some (vp_cell (gO G) (14, .inr (.inr (.inr (.inr (fun i => if i < 14 then some (b i) else none)))))) := h9
        rw [h8, vp_cell_q, vp_cell_q, arrV_congr _ _ (fun j hj => by rw [if_pos hj])]
      | k + 2, hq => exact M.1 (k + 2) q hq
    · exact ⟨fun i j p q hp hq e => by
        have cv : ∀ (i : Nat) (p : Nat × va_E), (wX4 G h0 (qa, b, us))[i]? = some p → ∃ p' : Nat × va_E, (hW G h0 qa b us 14)[i]? = some p' ∧ p'.1 = p.1 := fun i p hp => by
          match i, hp with
          | 0, hp => cases hp; exact ⟨_, rfl, rfl⟩
          | 1, hp => cases hp; exact ⟨_, rfl, rfl⟩
          | i + 2, hp => exact ⟨p, hp, rfl⟩
        obtain ⟨p', g1, g2⟩ := cv i p hp
        obtain ⟨q', g3, g4⟩ := cv j q hq
        exact M.2.1.1 i j p' q' g1 g3 (by rw [g2, g4, e]), fun k q hq => by
        match k, hq with
        | 0, hq => exact M.2.1.2 0 q hq
        | 1, hq =>
          cases hq
          have h9 := M.2.1.2 1 (qa, .inl (gO G, 14, .inr (.inr (.inr (.inr (fun i => if i < 14 then some (b i) else none)))))) rfl
          exact h9
        | k + 2, hq => exact M.2.1.2 (k + 2) q hq⟩
  | succ d ih =>
    intro k hk b us H locs ls cells slots hc hs M hl
    subst hc
    subst hs
    refine lv_iload_n hx hb dX4_init_15 rfl (lv_at hl 1 rfl) ?_
    refine lv_aload_n hx hb dX4_init_16 rfl (lv_at hl 0 rfl) ?_
    refine va_get (ref := RX4) hx hb (fun w h => X.hts h) iw_X4 X.1.2.2.2.1 X.2.1 M.1 0 rfl rfl 0 (by decide) (X.hts (gt_in 250 (by decide +kernel) (by decide +kernel))) (fun _ h => h) rfl dX4_init_17 ?_
    refine va_alen hx hb X.2.1 M.1 1 1 rfl (ty := .object "OfflineGates$State") rfl rfl dX4_init_20 ?_
    refine lv_icmp_ge (tgt := 43) hx hb dX4_init_21 (by decide) (fun c2 => absurd (show nI 14 ≤ nI k from c2) (nI_ge (by omega) (by decide))) (fun c2 => ?_)
    refine lv_aload_n hx hb dX4_init_24 rfl (lv_at hl 0 rfl) ?_
    refine va_get (ref := RX4) hx hb (fun w h => X.hts h) iw_X4 X.1.2.2.2.1 X.2.1 M.1 0 rfl rfl 0 (by decide) (X.hts (gt_in 250 (by decide +kernel) (by decide +kernel))) (fun _ h => h) rfl dX4_init_25 ?_
    refine lv_iload_n hx hb dX4_init_28 rfl (lv_at hl 1 rfl) ?_
    refine n_new (C := RX10) (T := TX10) (N := 10) (ci := 7) X M rfl iw_X10 tyX10 tyX10_ok (gt_in 247 (by decide +kernel) (by decide +kernel)) (gt_in 39 (by decide +kernel) (by decide +kernel)) (gt_in 11 (by decide +kernel) (by decide +kernel)) (fs := [.null, .null, .null, .null, .int 0, .int 0, .int 0, .int 0, .int 0, .int 0]) (fun j hj => by rcases (show j = 0 ∨ j = 1 ∨ j = 2 ∨ j = 3 ∨ j = 4 ∨ j = 5 ∨ j = 6 ∨ j = 7 ∨ j = 8 ∨ j = 9 by omega) with rfl | rfl | rfl | rfl | rfl | rfl | rfl | rfl | rfl | rfl <;> rfl) (by show 1 + 40 * k + 1 ≤ 561; omega) (by show 14 + 543 * k + 10 ≤ 7616; omega) dX4_init_29 (fun q H hz M hlt hsq => ?_)
    refine lv_dup hx hb dX4_init_32 rfl ?_
    refine n_call X M hl.1 nX10 hz hlt (gt_in 249 (by decide +kernel) (by decide +kernel)) nf_X10 ⟨Nat.le_of_ble_eq_true rfl, Nat.le_of_ble_eq_true rfl⟩ rfl rfl (Nat.le_of_ble_eq_true rfl) ⟨by show 1 + 40 * k + 1 + 39 ≤ 561; omega, by show 14 + 543 * k + 10 + 533 ≤ 7616; omega⟩ dX4_init_33 (fun u H locs M => ?_)
    obtain ⟨hP, hD, hS, hB⟩ := M
    have hlen : (hW G h0 qa b us k).length = 2 + 40 * k := by
      show (blks G b us k).length + 1 + 1 = _
      rw [blks_len]
      omega
    have hqk : ∃ vs, (hW G h0 qa b us k ++ wX10 G q u)[2 + 40 * k]? = some (q, .inr (7, vs)) := by
      rw [List.getElem?_append_right (by omega), hlen, Nat.sub_self]
      exact ⟨_, rfl⟩
    obtain ⟨vs, hqk⟩ := hqk
    refine va_astq (r := (RX10, TX10, 10)) hx hb X.2.1 hP hD hS 1 1 (2 + 40 * k) 7 rfl rfl hqk rfl (vp_in_nI (by omega) (by decide)) dX4_init_36 (fun H locs hP hD hS => ?_)
    have hw : ((hW G h0 qa b us k ++ wX10 G q u).set 1 (qa, .inl (gO G, 14, .inr (.inr (.inr (.inr (va_up (fun i => if i < k then some (b i) else none) (nI k).toNatClampNeg (some q)))))))) = hW G h0 qa (va_up b k q) (va_up us k u) (k + 1) := by
      rw [nI_clamp (by omega)]
      have e1 : va_up (fun i => if i < k then some (b i) else none) k (some q) = fun i => if i < k + 1 then some (va_up b k q i) else none := by
        funext i
        by_cases hi : i = k
        · subst hi; rw [va_up_s, va_up_s, if_pos (by omega)]
        · rw [va_up_n hi, va_up_n hi]
          by_cases h2 : i < k
          · rw [if_pos h2, if_pos (by omega)]
          · rw [if_neg h2, if_neg (by omega)]
      have e2 : blks G (va_up b k q) (va_up us k u) (k + 1) = blks G b us k ++ wX10 G q u := by
        show blks G (va_up b k q) (va_up us k u) k ++ wX10 G (va_up b k q k) (va_up us k u k) = _
        rw [va_up_s, va_up_s, blks_congr k (fun t ht => ⟨va_up_n (by omega), va_up_n (by omega)⟩)]
      show (h0, _) :: (qa, _) :: (blks G b us k ++ wX10 G q u) = (h0, _) :: (qa, _) :: blks G (va_up b k q) (va_up us k u) (k + 1)
      rw [e2, ← e1]
    rw [hw] at hP hD
    refine lv_iinc (v := nI (k + 1)) (lv' := [(1, .int (nI (k + 1))), (0, .ref h0)]) hx hb dX4_init_37 hl (k := 1) rfl (nI_1 k) (by decide) rfl (fun ls hl => ?_)
    refine lv_goto (tgt := 15) hx hb dX4_init_40 (by decide) ?_
    exact ih (k + 1) (by omega) _ _ H locs ls _ _ (by omega) (by omega) ⟨hP, hD, hS, Nat.le_trans (hD.2 0 _ rfl) (Nat.le_of_lt ((hP 0 _ rfl).lt))⟩ (lv_sub hl [1, 0] rfl)
set_option maxHeartbeats 4000000 in
set_option maxRecDepth 20000 in
theorem nX4 {l : Launch} {G : UG} : uN l G yX4_init cX4_init 2 4 561 7616 82 [] (.inr (3, [.null, .int 0, .int 0])) (wX4 G) := by
  refine uN_of rfl rfl (fun _ => Nat.le_of_ble_eq_true rfl) (fun h0 p e s m args below meth c ls X hin hret hl M => ?_)
  have hl : lv_has ls 2 [(0, .ref h0)] := hl
  have hx := X.1.1
  have hb := X.1.2.1
  refine lv_aload_n hx hb dX4_init_0 rfl (lv_at hl 0 rfl) ?_
  refine n_obj X hl.1 (gt_in 246 (by decide +kernel) (by decide +kernel)) dX4_init_1 (Nat.le_of_ble_eq_true rfl) (Nat.le_of_ble_eq_true rfl) ?_
  refine lv_aload_n hx hb dX4_init_4 rfl (lv_at hl 0 rfl) ?_
  refine lv_bipush (v := 14) hx hb dX4_init_5 (by decide) ?_
  obtain ⟨hP, hD, hS, hB⟩ := M
  refine va_newq (C := "OfflineGates$State") (N' := 14) hx hb X.1.2.2.2.1 (X.hts (gt_in 247 (by decide +kernel) (by decide +kernel))) X.2.2.1.2.2 X.2.1 hP hD hS (fun q h => Nat.le_trans hB h) (by decide) (by decide) (by decide) (Nat.le_of_ble_eq_true rfl) (Nat.le_of_ble_eq_true rfl) dX4_init_7 (fun qa cA H hK2 hP hD hS => ?_)
  have hcA : cA = gO G := by
    obtain ⟨_, _, _, _, _, h1⟩ := (hK2.2 2 (cA, .object "OfflineGates$State") rfl).2
    obtain ⟨_, _, _, _, _, h2⟩ := (X.2.1.2 1 (gO G, .object "OfflineGates$State") rfl).2
    exact Option.some.inj (h1.symm.trans h2)
  subst hcA
  have M : NM G h0 [(h0, .inr (3, [.null, .int 0, .int 0])), (qa, .inl (gO G, 14, .inr (.inr (.inr (.inr (fun _ => none))))))] s H [] := ⟨hP, hD, hS, Nat.le_of_lt ((hP 0 _ rfl).lt)⟩
  refine n_putF (C := RX4) (T := TX4) (N := 3) (ci := 3) (fs := [.null, .int 0, .int 0]) X hin M iw_X4 tyX4_ok nmX4 0 rfl rfl 0 (by decide) rfl (gt_in 250 (by decide +kernel) (by decide +kernel)) rfl (ty := .array (.object "OfflineGates$State")) (by decide +kernel) rfl rfl (Nat.le_of_ble_eq_true rfl) dX4_init_10 (fun H locs M => ?_)
  refine lv_iconst (v := 0) hx hb dX4_init_13 (by decide) ?_
  refine lv_istore_n (lv' := [(1, .int (nI 0)), (0, .ref h0)]) hx hb dX4_init_14 rfl hl (by decide) rfl (fun ls hl => ?_)
  exact lpX4_init X hret 14 0 (by omega) (fun _ => 0) (fun _ _ => 0) H locs ls _ _ rfl rfl M (lv_sub hl [1, 0] rfl)
abbrev uT11 : Type := (Nat × (Nat → Nat)) × (Nat × (Nat → Nat)) × (Nat × (Nat → Nat)) × (Nat × Nat × (Nat → Nat) × (Nat → Nat → Nat)) × (Nat × (Nat × (Nat → Nat)) × (Nat × (Nat → Nat)))
def wX11 (G : UG) (h0 : Nat) (u : uT11) : va_W := (((([(h0, .inr (8, [.ref u.1.1, .ref u.2.1.1, .ref u.2.2.1.1, .ref u.2.2.2.1.1, .ref u.2.2.2.2.1]))] ++ wX10 G u.1.1 u.1.2) ++ wX10 G u.2.1.1 u.2.1.2) ++ wX2 G u.2.2.1.1 u.2.2.1.2) ++ wX4 G u.2.2.2.1.1 u.2.2.2.1.2) ++ wX9 G u.2.2.2.2.1 u.2.2.2.2.2
set_option maxHeartbeats 4000000 in
set_option maxRecDepth 20000 in
theorem nX11 {l : Launch} {G : UG} : uN l G yX11_init cX11_init 1 5 726 9918 103 [] (.inr (8, [.null, .null, .null, .null, .null])) (wX11 G) := by
  refine uN_of rfl rfl (fun _ => Nat.le_of_ble_eq_true rfl) (fun h0 p e s m args below meth c ls X hin hret hl M => ?_)
  have hl : lv_has ls 1 [(0, .ref h0)] := hl
  have hx := X.1.1
  have hb := X.1.2.1
  refine lv_aload_n hx hb dX11_init_0 rfl (lv_at hl 0 rfl) ?_
  refine n_obj X hl.1 (gt_in 35 (by decide +kernel) (by decide +kernel)) dX11_init_1 (Nat.le_of_ble_eq_true rfl) (Nat.le_of_ble_eq_true rfl) ?_
  refine lv_aload_n hx hb dX11_init_4 rfl (lv_at hl 0 rfl) ?_
  refine n_new (C := RX10) (T := TX10) (N := 10) (ci := 7) X M rfl iw_X10 tyX10 tyX10_ok (gt_in 38 (by decide +kernel) (by decide +kernel)) (gt_in 39 (by decide +kernel) (by decide +kernel)) (gt_in 11 (by decide +kernel) (by decide +kernel)) (fs := [.null, .null, .null, .null, .int 0, .int 0, .int 0, .int 0, .int 0, .int 0]) (fun j hj => by rcases (show j = 0 ∨ j = 1 ∨ j = 2 ∨ j = 3 ∨ j = 4 ∨ j = 5 ∨ j = 6 ∨ j = 7 ∨ j = 8 ∨ j = 9 by omega) with rfl | rfl | rfl | rfl | rfl | rfl | rfl | rfl | rfl | rfl <;> rfl) (Nat.le_of_ble_eq_true rfl) (Nat.le_of_ble_eq_true rfl) dX11_init_5 (fun q1 H hz M hlt hsq => ?_)
  refine lv_dup hx hb dX11_init_8 rfl ?_
  refine n_call X M hl.1 (nX10) hz hlt (gt_in 40 (by decide +kernel) (by decide +kernel)) nf_X10 ⟨Nat.le_of_ble_eq_true rfl, Nat.le_of_ble_eq_true rfl⟩ rfl rfl (Nat.le_of_ble_eq_true rfl) ⟨Nat.le_of_ble_eq_true rfl, Nat.le_of_ble_eq_true rfl⟩ dX11_init_9 (fun u1 H locs M => ?_)
  have M : NM G h0 ([(h0, .inr (8, [.null, .null, .null, .null, .null]))] ++ wX10 G q1 u1) s H locs := M
  refine n_putF (C := RX11) (T := TX11) (N := 5) (ci := 8) (fs := [.null, .null, .null, .null, .null]) X hin M iw_X11 tyX11_ok nmX11 0 rfl rfl 0 (by decide) rfl (gt_in 281 (by decide +kernel) (by decide +kernel)) rfl (ty := .object "OfflineGates$State") (by decide +kernel) rfl rfl (Nat.le_of_ble_eq_true rfl) dX11_init_12 (fun H locs M => ?_)
  have M : NM G h0 ([(h0, .inr (8, [.ref q1, .null, .null, .null, .null]))] ++ wX10 G q1 u1) s H locs := M
  refine lv_aload_n hx hb dX11_init_15 rfl (lv_at hl 0 rfl) ?_
  refine n_new (C := RX10) (T := TX10) (N := 10) (ci := 7) X M rfl iw_X10 tyX10 tyX10_ok (gt_in 38 (by decide +kernel) (by decide +kernel)) (gt_in 39 (by decide +kernel) (by decide +kernel)) (gt_in 11 (by decide +kernel) (by decide +kernel)) (fs := [.null, .null, .null, .null, .int 0, .int 0, .int 0, .int 0, .int 0, .int 0]) (fun j hj => by rcases (show j = 0 ∨ j = 1 ∨ j = 2 ∨ j = 3 ∨ j = 4 ∨ j = 5 ∨ j = 6 ∨ j = 7 ∨ j = 8 ∨ j = 9 by omega) with rfl | rfl | rfl | rfl | rfl | rfl | rfl | rfl | rfl | rfl <;> rfl) (Nat.le_of_ble_eq_true rfl) (Nat.le_of_ble_eq_true rfl) dX11_init_16 (fun q2 H hz M hlt hsq => ?_)
  refine lv_dup hx hb dX11_init_19 rfl ?_
  refine n_call X M hl.1 (nX10) hz hlt (gt_in 40 (by decide +kernel) (by decide +kernel)) nf_X10 ⟨Nat.le_of_ble_eq_true rfl, Nat.le_of_ble_eq_true rfl⟩ rfl rfl (Nat.le_of_ble_eq_true rfl) ⟨Nat.le_of_ble_eq_true rfl, Nat.le_of_ble_eq_true rfl⟩ dX11_init_20 (fun u2 H locs M => ?_)
  have M : NM G h0 (([(h0, .inr (8, [.ref q1, .null, .null, .null, .null]))] ++ wX10 G q1 u1) ++ wX10 G q2 u2) s H locs := M
  refine n_putF (C := RX11) (T := TX11) (N := 5) (ci := 8) (fs := [.ref q1, .null, .null, .null, .null]) X hin M iw_X11 tyX11_ok nmX11 0 rfl rfl 1 (by decide) rfl (gt_in 282 (by decide +kernel) (by decide +kernel)) rfl (ty := .object "OfflineGates$State") (by decide +kernel) rfl rfl (Nat.le_of_ble_eq_true rfl) dX11_init_23 (fun H locs M => ?_)
  have M : NM G h0 (([(h0, .inr (8, [.ref q1, .ref q2, .null, .null, .null]))] ++ wX10 G q1 u1) ++ wX10 G q2 u2) s H locs := M
  refine lv_aload_n hx hb dX11_init_26 rfl (lv_at hl 0 rfl) ?_
  refine n_new (C := RX2) (T := TX2) (N := 2) (ci := 1) X M rfl iw_X2 tyX2 tyX2_ok (gt_in 226 (by decide +kernel) (by decide +kernel)) (gt_in 227 (by decide +kernel) (by decide +kernel)) (gt_in 17 (by decide +kernel) (by decide +kernel)) (fs := [.null, .int 0]) (fun j hj => by rcases (show j = 0 ∨ j = 1 by omega) with rfl | rfl <;> rfl) (Nat.le_of_ble_eq_true rfl) (Nat.le_of_ble_eq_true rfl) dX11_init_27 (fun q3 H hz M hlt hsq => ?_)
  refine lv_dup hx hb dX11_init_30 rfl ?_
  refine n_callN (host := "OfflineGates") X M hl.1 (nX2) hz hlt (List.mem_filter.mpr ⟨List.mem_of_getElem? (i := 228) (by decide +kernel), by decide +kernel⟩) nf_X2 ⟨Nat.le_of_ble_eq_true rfl, Nat.le_of_ble_eq_true rfl⟩ rfl rfl (Nat.le_of_ble_eq_true rfl) ⟨Nat.le_of_ble_eq_true rfl, Nat.le_of_ble_eq_true rfl⟩ dX11_init_31 (fun u3 H locs M => ?_)
  have M : NM G h0 ((([(h0, .inr (8, [.ref q1, .ref q2, .null, .null, .null]))] ++ wX10 G q1 u1) ++ wX10 G q2 u2) ++ wX2 G q3 u3) s H locs := M
  refine n_putF (C := RX11) (T := TX11) (N := 5) (ci := 8) (fs := [.ref q1, .ref q2, .null, .null, .null]) X hin M iw_X11 tyX11_ok nmX11 0 rfl rfl 2 (by decide) rfl (gt_in 283 (by decide +kernel) (by decide +kernel)) rfl (ty := .object "OfflineGates$DayText") (by decide +kernel) rfl rfl (Nat.le_of_ble_eq_true rfl) dX11_init_34 (fun H locs M => ?_)
  have M : NM G h0 ((([(h0, .inr (8, [.ref q1, .ref q2, .ref q3, .null, .null]))] ++ wX10 G q1 u1) ++ wX10 G q2 u2) ++ wX2 G q3 u3) s H locs := M
  refine lv_aload_n hx hb dX11_init_37 rfl (lv_at hl 0 rfl) ?_
  refine n_new (C := RX4) (T := TX4) (N := 3) (ci := 3) X M rfl iw_X4 tyX4 tyX4_ok (gt_in 241 (by decide +kernel) (by decide +kernel)) (gt_in 242 (by decide +kernel) (by decide +kernel)) (gt_in 18 (by decide +kernel) (by decide +kernel)) (fs := [.null, .int 0, .int 0]) (fun j hj => by rcases (show j = 0 ∨ j = 1 ∨ j = 2 by omega) with rfl | rfl | rfl <;> rfl) (Nat.le_of_ble_eq_true rfl) (Nat.le_of_ble_eq_true rfl) dX11_init_38 (fun q4 H hz M hlt hsq => ?_)
  refine lv_dup hx hb dX11_init_41 rfl ?_
  refine n_call X M hl.1 (nX4) hz hlt (gt_in 243 (by decide +kernel) (by decide +kernel)) nf_X4 ⟨Nat.le_of_ble_eq_true rfl, Nat.le_of_ble_eq_true rfl⟩ rfl rfl (Nat.le_of_ble_eq_true rfl) ⟨Nat.le_of_ble_eq_true rfl, Nat.le_of_ble_eq_true rfl⟩ dX11_init_42 (fun u4 H locs M => ?_)
  have M : NM G h0 (((([(h0, .inr (8, [.ref q1, .ref q2, .ref q3, .null, .null]))] ++ wX10 G q1 u1) ++ wX10 G q2 u2) ++ wX2 G q3 u3) ++ wX4 G q4 u4) s H locs := M
  refine n_putF (C := RX11) (T := TX11) (N := 5) (ci := 8) (fs := [.ref q1, .ref q2, .ref q3, .null, .null]) X hin M iw_X11 tyX11_ok nmX11 0 rfl rfl 3 (by decide) rfl (gt_in 284 (by decide +kernel) (by decide +kernel)) rfl (ty := .object "OfflineGates$History") (by decide +kernel) rfl rfl (Nat.le_of_ble_eq_true rfl) dX11_init_45 (fun H locs M => ?_)
  have M : NM G h0 (((([(h0, .inr (8, [.ref q1, .ref q2, .ref q3, .ref q4, .null]))] ++ wX10 G q1 u1) ++ wX10 G q2 u2) ++ wX2 G q3 u3) ++ wX4 G q4 u4) s H locs := M
  refine lv_aload_n hx hb dX11_init_48 rfl (lv_at hl 0 rfl) ?_
  refine n_new (C := RX9) (T := TX9) (N := 4) (ci := 6) X M rfl iw_X9 tyX9 tyX9_ok (gt_in 260 (by decide +kernel) (by decide +kernel)) (gt_in 261 (by decide +kernel) (by decide +kernel)) (gt_in 19 (by decide +kernel) (by decide +kernel)) (fs := [.null, .null, .int 0, .int 0]) (fun j hj => by rcases (show j = 0 ∨ j = 1 ∨ j = 2 ∨ j = 3 by omega) with rfl | rfl | rfl | rfl <;> rfl) (Nat.le_of_ble_eq_true rfl) (Nat.le_of_ble_eq_true rfl) dX11_init_49 (fun q5 H hz M hlt hsq => ?_)
  refine lv_dup hx hb dX11_init_52 rfl ?_
  refine n_callN (host := "OfflineGates") X M hl.1 (nX9) hz hlt (List.mem_filter.mpr ⟨List.mem_of_getElem? (i := 262) (by decide +kernel), by decide +kernel⟩) nf_X9 ⟨Nat.le_of_ble_eq_true rfl, Nat.le_of_ble_eq_true rfl⟩ rfl rfl (Nat.le_of_ble_eq_true rfl) ⟨Nat.le_of_ble_eq_true rfl, Nat.le_of_ble_eq_true rfl⟩ dX11_init_53 (fun u5 H locs M => ?_)
  have M : NM G h0 ((((([(h0, .inr (8, [.ref q1, .ref q2, .ref q3, .ref q4, .null]))] ++ wX10 G q1 u1) ++ wX10 G q2 u2) ++ wX2 G q3 u3) ++ wX4 G q4 u4) ++ wX9 G q5 u5) s H locs := M
  refine n_putF (C := RX11) (T := TX11) (N := 5) (ci := 8) (fs := [.ref q1, .ref q2, .ref q3, .ref q4, .null]) X hin M iw_X11 tyX11_ok nmX11 0 rfl rfl 4 (by decide) rfl (gt_in 285 (by decide +kernel) (by decide +kernel)) rfl (ty := .object "OfflineGates$Slots") (by decide +kernel) rfl rfl (Nat.le_of_ble_eq_true rfl) dX11_init_56 (fun H locs M => ?_)
  have M : NM G h0 ((((([(h0, .inr (8, [.ref q1, .ref q2, .ref q3, .ref q4, .ref q5]))] ++ wX10 G q1 u1) ++ wX10 G q2 u2) ++ wX2 G q3 u3) ++ wX4 G q4 u4) ++ wX9 G q5 u5) s H locs := M
  exact n_vret X hret M ((q1, u1), (q2, u2), (q3, u3), (q4, u4), (q5, u5)) rfl dX11_init_59
