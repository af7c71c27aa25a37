def ks8 : List (Nat × Nat) := [(19, 0), (19, 1), (19, 2), (19, 3), (19, 4), (19, 5), (19, 6), (19, 7)]
theorem ks8_in : ∀ o, o < 8 → ((19 : Nat), o) ∈ ks8 := by decide +kernel
theorem ks8_19 : ∀ q ∈ ks8, q.1 = 19 := by decide +kernel
def initR (j : Nat) : Int32 := if j = 8 then 10 else if j = 9 then 5 else if j = 11 then 20 else if j = 84 ∨ j = 89 ∨ j = 94 ∨ j = 99 then 2 else if j = 85 ∨ j = 90 ∨ j = 95 ∨ j = 100 then 1 else 0
def beginR (f : Nat → Int32) : Nat → Int32 := fun j => if j < 1272 then initR j else f j
theorem begin_t (r : Nat → Int32) : fX12_begin_L38 3000 r 0 = some (upd (upd (upd (upd (upd (upd (upd (upd r 84 2) 85 1) 89 2) 90 1) 94 2) 95 1) 99 2) 100 1) := rfl
theorem begin_z {α : Type} (f : Nat → Int32) (K : (Nat → Int32) → Int32 → Option α) : (gd (inb 8 1272) <| lt_ (upd f (8 : Int32).toNatClampNeg 10) fun r3 => gd (inb 9 1272) <| lt_ (upd r3 (9 : Int32).toNatClampNeg 5) fun r6 => gd (inb 11 1272) <| lt_ (upd r6 (11 : Int32).toNatClampNeg 20) fun r9 => K r9 0) = K (upd (upd (upd f 8 10) 9 5) 11 20) 0 := rfl
theorem begin_y {α : Type} (f : Nat → Int32) (k : Int32) (K : (Nat → Int32) → Int32 → Option α) (h : inb k 1272 = true) : (gd (inb k 1272) <| lt_ (upd f k.toNatClampNeg 0) fun r27 => lt_ (k + 1) fun x29 => K r27 x29) = K (upd f k.toNatClampNeg 0) (k + 1) := by rw [gd, h, if_pos rfl]; rfl
theorem begin_l : ∀ (d k n : Nat) (f : Nat → Int32), k + d = 1272 → d < n → (∀ j, j < k → f j = 0) → fX12_begin_L2 n f (nI k) = some (beginR f) := by
  intro d
  induction d with
  | zero =>
    intro k n f hk hn hf
    obtain rfl : k = 1272 := by omega
    obtain ⟨n, rfl⟩ : ∃ n', n = n' + 1 := ⟨n - 1, by omega⟩
    rw [fX12_begin_L2, if_pos (by decide)]
    rw [begin_z f (fX12_begin_L38 3000), begin_t]
    congr 1
    funext j
    simp only [upd, beginR, initR]
    by_cases hj : j < 1272
    · rw [if_pos hj]
      by_cases h1 : j = 8
      · subst h1; rfl
      by_cases h2 : j = 9
      · subst h2; rfl
      by_cases h3 : j = 11
      · subst h3; rfl
      by_cases h4 : j = 84 ∨ j = 89 ∨ j = 94 ∨ j = 99
      · rcases h4 with rfl | rfl | rfl | rfl <;> rfl
      by_cases h5 : j = 85 ∨ j = 90 ∨ j = 95 ∨ j = 100
      · rcases h5 with rfl | rfl | rfl | rfl <;> rfl
      rw [if_neg (by omega), if_neg (by omega), if_neg (by omega), if_neg (by omega), if_neg (by omega), if_neg (by omega), if_neg (by omega), if_neg (by omega), if_neg (by omega), if_neg (by omega), if_neg (by omega), if_neg (by omega), if_neg (by omega), if_neg (by omega), if_neg h4, if_neg h5]
      exact hf j hj
    · rw [if_neg hj, if_neg (by omega), if_neg (by omega), if_neg (by omega), if_neg (by omega), if_neg (by omega), if_neg (by omega), if_neg (by omega), if_neg (by omega), if_neg (by omega), if_neg (by omega), if_neg (by omega)]
  | succ d ih =>
    intro k n f hk hn hf
    obtain ⟨n, rfl⟩ : ∃ n', n = n' + 1 := ⟨n - 1, by omega⟩
    rw [fX12_begin_L2, if_neg (show ¬ (1272 : Int32) ≤ nI k from nI_ge (a := k) (b := 1272) (by omega) (by decide))]
    have hin : inb (nI k) 1272 = true := by
      have hk2 : (nI k).toInt = (k : Int) := nI_toInt (by omega)
      simp only [inb, Bool.and_eq_true, decide_eq_true_eq, hk2]
      omega
    rw [begin_y f (nI k) (fX12_begin_L2 n) hin, nI_1, nI_clamp (by omega), ih (k + 1) n _ (by omega) (by omega) (fun j hj => by
      by_cases e : j = k
      · subst e; exact pk_us
      · rw [pk_un e]; exact hf j (by omega))]
    congr 1
    funext j
    simp only [beginR]
    by_cases hj : j < 1272
    · rw [if_pos hj, if_pos hj]
    · rw [if_neg hj, if_neg hj, pk_un (by omega)]
theorem begin_eq (f : Nat → Int32) : fX12_begin f = some (beginR f) := begin_l 1272 0 3000 f (by omega) (by omega) (fun j hj => absurd hj (Nat.not_lt_zero j))
def m0 : Nat → Nat → Int32 := va_up (fun _ _ => 0) 2 (beginR (fun _ => 0))
def wX12 (G : UG) (h0 : Nat) (u : Nat → Nat) : va_W := uW (gW G h0 (fun _ => adX h0 u) ks8) (fun _ => m0)
theorem dX12_init_0 : decode cX12_init 0 = .ok (.aload_n 0, 1) := by decide +kernel
theorem dX12_init_1 : decode cX12_init 1 = .ok (.invokespecial 1, 3) := by decide +kernel
theorem dX12_init_4 : decode cX12_init 4 = .ok (.aload_n 0, 1) := by decide +kernel
theorem dX12_init_5 : decode cX12_init 5 = .ok (.bipush 120, 2) := by decide +kernel
theorem dX12_init_7 : decode cX12_init 7 = .ok (.newarray .int, 2) := by decide +kernel
theorem dX12_init_9 : decode cX12_init 9 = .ok (.putfield 7, 3) := by decide +kernel
theorem dX12_init_12 : decode cX12_init 12 = .ok (.aload_n 0, 1) := by decide +kernel
theorem dX12_init_13 : decode cX12_init 13 = .ok (.sipush 1272, 3) := by decide +kernel
theorem dX12_init_16 : decode cX12_init 16 = .ok (.newarray .int, 2) := by decide +kernel
theorem dX12_init_18 : decode cX12_init 18 = .ok (.putfield 13, 3) := by decide +kernel
theorem dX12_init_21 : decode cX12_init 21 = .ok (.aload_n 0, 1) := by decide +kernel
theorem dX12_init_22 : decode cX12_init 22 = .ok (.sipush 1272, 3) := by decide +kernel
theorem dX12_init_25 : decode cX12_init 25 = .ok (.newarray .int, 2) := by decide +kernel
theorem dX12_init_27 : decode cX12_init 27 = .ok (.putfield 16, 3) := by decide +kernel
theorem dX12_init_30 : decode cX12_init 30 = .ok (.aload_n 0, 1) := by decide +kernel
theorem dX12_init_31 : decode cX12_init 31 = .ok (.sipush 1272, 3) := by decide +kernel
theorem dX12_init_34 : decode cX12_init 34 = .ok (.newarray .int, 2) := by decide +kernel
theorem dX12_init_36 : decode cX12_init 36 = .ok (.putfield 19, 3) := by decide +kernel
theorem dX12_init_39 : decode cX12_init 39 = .ok (.aload_n 0, 1) := by decide +kernel
theorem dX12_init_40 : decode cX12_init 40 = .ok (.sipush 17808, 3) := by decide +kernel
theorem dX12_init_43 : decode cX12_init 43 = .ok (.newarray .int, 2) := by decide +kernel
theorem dX12_init_45 : decode cX12_init 45 = .ok (.putfield 22, 3) := by decide +kernel
theorem dX12_init_48 : decode cX12_init 48 = .ok (.aload_n 0, 1) := by decide +kernel
theorem dX12_init_49 : decode cX12_init 49 = .ok (.sipush 2544, 3) := by decide +kernel
theorem dX12_init_52 : decode cX12_init 52 = .ok (.newarray .int, 2) := by decide +kernel
theorem dX12_init_54 : decode cX12_init 54 = .ok (.putfield 25, 3) := by decide +kernel
theorem dX12_init_57 : decode cX12_init 57 = .ok (.aload_n 0, 1) := by decide +kernel
theorem dX12_init_58 : decode cX12_init 58 = .ok (.iconst 2, 1) := by decide +kernel
theorem dX12_init_59 : decode cX12_init 59 = .ok (.newarray .boolean, 2) := by decide +kernel
theorem dX12_init_61 : decode cX12_init 61 = .ok (.putfield 28, 3) := by decide +kernel
theorem dX12_init_64 : decode cX12_init 64 = .ok (.aload_n 0, 1) := by decide +kernel
theorem dX12_init_65 : decode cX12_init 65 = .ok (.getfield 13, 3) := by decide +kernel
theorem dX12_init_68 : decode cX12_init 68 = .ok (.invokestatic 32, 3) := by decide +kernel
theorem dX12_init_71 : decode cX12_init 71 = .ok (.return_, 1) := by decide +kernel
theorem nf_X12 : nCF yX12_init cX12_init 1 0 := ⟨gt_in 1052 (by decide +kernel) (by decide +kernel), gt_in 27 (by decide +kernel) (by decide +kernel), gt_in 1053 (by decide +kernel) (by decide +kernel), rfl, by decide +kernel⟩
set_option maxHeartbeats 4000000 in
set_option maxRecDepth 20000 in
theorem nX12 {l : Launch} {G : UG} : uN l G yX12_init cX12_init 1 2 7 24290 41 [] (.inr (9, [.int 0, .null, .int 0, .null, .null, .null, .null, .int 0, .null, .null, .int 0, .int 0])) (wX12 G) := by
  refine uN_of rfl rfl (fun _ => Nat.le_of_ble_eq_true rfl) (fun h0 p e s m args below meth c ls X hin hret hl M => ?_)
  have hl : lv_has ls 1 [(0, .ref h0)] := hl
  have hx := X.1.1
  have hb := X.1.2.1
  refine lv_aload_n hx hb dX12_init_0 rfl (lv_at hl 0 rfl) ?_
  refine n_obj X hl.1 (gt_in 1054 (by decide +kernel) (by decide +kernel)) dX12_init_1 (Nat.le_of_ble_eq_true rfl) (Nat.le_of_ble_eq_true rfl) ?_
  refine lv_aload_n hx hb dX12_init_4 rfl (lv_at hl 0 rfl) ?_
  refine lv_bipush (v := 120) hx hb dX12_init_5 (by decide) ?_
  refine n_newa (k0 := 0) (ty := .int) (N' := 120) (a0 := (120, .inl fun _ => 0)) X M rfl rfl (fun _ h => by cases h) (gt_in 71 (by decide +kernel) (by decide +kernel)) rfl (by decide) (by decide) (by decide) (Nat.le_of_ble_eq_true rfl) (Nat.le_of_ble_eq_true rfl) dX12_init_7 (fun q1 H M hq hlt => ?_)
  have M : NM G h0 [(h0, .inr (9, [.int 0, .null, .int 0, .null, .null, .null, .null, .int 0, .null, .null, .int 0, .int 0])), (q1, .inl (gI G, 120, .inl fun _ => 0))] s H [] := M
  refine n_putF (C := RX12) (T := TX12) (N := 12) (ci := 9) (fs := [.int 0, .null, .int 0, .null, .null, .null, .null, .int 0, .null, .null, .int 0, .int 0]) X hin M iw_X12 tyX12_ok nmX12 0 rfl rfl 1 (by decide) rfl (gt_in 1062 (by decide +kernel) (by decide +kernel)) rfl (ty := .array .int) (by decide +kernel) rfl rfl (Nat.le_of_ble_eq_true rfl) dX12_init_9 (fun H locs M => ?_)
  have M : NM G h0 [(h0, .inr (9, [.int 0, .ref q1, .int 0, .null, .null, .null, .null, .int 0, .null, .null, .int 0, .int 0])), (q1, .inl (gI G, 120, .inl fun _ => 0))] s H locs := M
  refine lv_aload_n hx hb dX12_init_12 rfl (lv_at hl 0 rfl) ?_
  refine lv_sipush (v := 1272) hx hb dX12_init_13 (by decide) ?_
  refine n_newa (k0 := 0) (ty := .int) (N' := 1272) (a0 := (1272, .inl fun _ => 0)) X M rfl rfl (fun _ h => by cases h) (gt_in 71 (by decide +kernel) (by decide +kernel)) rfl (by decide) (by decide) (by decide) (Nat.le_of_ble_eq_true rfl) (Nat.le_of_ble_eq_true rfl) dX12_init_16 (fun q2 H M hq hlt => ?_)
  have M : NM G h0 [(h0, .inr (9, [.int 0, .ref q1, .int 0, .null, .null, .null, .null, .int 0, .null, .null, .int 0, .int 0])), (q1, .inl (gI G, 120, .inl fun _ => 0)), (q2, .inl (gI G, 1272, .inl fun _ => 0))] s H locs := M
  refine n_putF (C := RX12) (T := TX12) (N := 12) (ci := 9) (fs := [.int 0, .ref q1, .int 0, .null, .null, .null, .null, .int 0, .null, .null, .int 0, .int 0]) X hin M iw_X12 tyX12_ok nmX12 0 rfl rfl 3 (by decide) rfl (gt_in 1064 (by decide +kernel) (by decide +kernel)) rfl (ty := .array .int) (by decide +kernel) rfl rfl (Nat.le_of_ble_eq_true rfl) dX12_init_18 (fun H locs M => ?_)
  have M : NM G h0 [(h0, .inr (9, [.int 0, .ref q1, .int 0, .ref q2, .null, .null, .null, .int 0, .null, .null, .int 0, .int 0])), (q1, .inl (gI G, 120, .inl fun _ => 0)), (q2, .inl (gI G, 1272, .inl fun _ => 0))] s H locs := M
  refine lv_aload_n hx hb dX12_init_21 rfl (lv_at hl 0 rfl) ?_
  refine lv_sipush (v := 1272) hx hb dX12_init_22 (by decide) ?_
  refine n_newa (k0 := 0) (ty := .int) (N' := 1272) (a0 := (1272, .inl fun _ => 0)) X M rfl rfl (fun _ h => by cases h) (gt_in 71 (by decide +kernel) (by decide +kernel)) rfl (by decide) (by decide) (by decide) (Nat.le_of_ble_eq_true rfl) (Nat.le_of_ble_eq_true rfl) dX12_init_25 (fun q3 H M hq hlt => ?_)
  have M : NM G h0 [(h0, .inr (9, [.int 0, .ref q1, .int 0, .ref q2, .null, .null, .null, .int 0, .null, .null, .int 0, .int 0])), (q1, .inl (gI G, 120, .inl fun _ => 0)), (q2, .inl (gI G, 1272, .inl fun _ => 0)), (q3, .inl (gI G, 1272, .inl fun _ => 0))] s H locs := M
  refine n_putF (C := RX12) (T := TX12) (N := 12) (ci := 9) (fs := [.int 0, .ref q1, .int 0, .ref q2, .null, .null, .null, .int 0, .null, .null, .int 0, .int 0]) X hin M iw_X12 tyX12_ok nmX12 0 rfl rfl 4 (by decide) rfl (gt_in 1065 (by decide +kernel) (by decide +kernel)) rfl (ty := .array .int) (by decide +kernel) rfl rfl (Nat.le_of_ble_eq_true rfl) dX12_init_27 (fun H locs M => ?_)
  have M : NM G h0 [(h0, .inr (9, [.int 0, .ref q1, .int 0, .ref q2, .ref q3, .null, .null, .int 0, .null, .null, .int 0, .int 0])), (q1, .inl (gI G, 120, .inl fun _ => 0)), (q2, .inl (gI G, 1272, .inl fun _ => 0)), (q3, .inl (gI G, 1272, .inl fun _ => 0))] s H locs := M
  refine lv_aload_n hx hb dX12_init_30 rfl (lv_at hl 0 rfl) ?_
  refine lv_sipush (v := 1272) hx hb dX12_init_31 (by decide) ?_
  refine n_newa (k0 := 0) (ty := .int) (N' := 1272) (a0 := (1272, .inl fun _ => 0)) X M rfl rfl (fun _ h => by cases h) (gt_in 71 (by decide +kernel) (by decide +kernel)) rfl (by decide) (by decide) (by decide) (Nat.le_of_ble_eq_true rfl) (Nat.le_of_ble_eq_true rfl) dX12_init_34 (fun q4 H M hq hlt => ?_)
  have M : NM G h0 [(h0, .inr (9, [.int 0, .ref q1, .int 0, .ref q2, .ref q3, .null, .null, .int 0, .null, .null, .int 0, .int 0])), (q1, .inl (gI G, 120, .inl fun _ => 0)), (q2, .inl (gI G, 1272, .inl fun _ => 0)), (q3, .inl (gI G, 1272, .inl fun _ => 0)), (q4, .inl (gI G, 1272, .inl fun _ => 0))] s H locs := M
  refine n_putF (C := RX12) (T := TX12) (N := 12) (ci := 9) (fs := [.int 0, .ref q1, .int 0, .ref q2, .ref q3, .null, .null, .int 0, .null, .null, .int 0, .int 0]) X hin M iw_X12 tyX12_ok nmX12 0 rfl rfl 5 (by decide) rfl (gt_in 1066 (by decide +kernel) (by decide +kernel)) rfl (ty := .array .int) (by decide +kernel) rfl rfl (Nat.le_of_ble_eq_true rfl) dX12_init_36 (fun H locs M => ?_)
  have M : NM G h0 [(h0, .inr (9, [.int 0, .ref q1, .int 0, .ref q2, .ref q3, .ref q4, .null, .int 0, .null, .null, .int 0, .int 0])), (q1, .inl (gI G, 120, .inl fun _ => 0)), (q2, .inl (gI G, 1272, .inl fun _ => 0)), (q3, .inl (gI G, 1272, .inl fun _ => 0)), (q4, .inl (gI G, 1272, .inl fun _ => 0))] s H locs := M
  refine lv_aload_n hx hb dX12_init_39 rfl (lv_at hl 0 rfl) ?_
  refine lv_sipush (v := 17808) hx hb dX12_init_40 (by decide) ?_
  refine n_newa (k0 := 0) (ty := .int) (N' := 17808) (a0 := (17808, .inl fun _ => 0)) X M rfl rfl (fun _ h => by cases h) (gt_in 71 (by decide +kernel) (by decide +kernel)) rfl (by decide) (by decide) (by decide) (Nat.le_of_ble_eq_true rfl) (Nat.le_of_ble_eq_true rfl) dX12_init_43 (fun q5 H M hq hlt => ?_)
  have M : NM G h0 [(h0, .inr (9, [.int 0, .ref q1, .int 0, .ref q2, .ref q3, .ref q4, .null, .int 0, .null, .null, .int 0, .int 0])), (q1, .inl (gI G, 120, .inl fun _ => 0)), (q2, .inl (gI G, 1272, .inl fun _ => 0)), (q3, .inl (gI G, 1272, .inl fun _ => 0)), (q4, .inl (gI G, 1272, .inl fun _ => 0)), (q5, .inl (gI G, 17808, .inl fun _ => 0))] s H locs := M
  refine n_putF (C := RX12) (T := TX12) (N := 12) (ci := 9) (fs := [.int 0, .ref q1, .int 0, .ref q2, .ref q3, .ref q4, .null, .int 0, .null, .null, .int 0, .int 0]) X hin M iw_X12 tyX12_ok nmX12 0 rfl rfl 6 (by decide) rfl (gt_in 1067 (by decide +kernel) (by decide +kernel)) rfl (ty := .array .int) (by decide +kernel) rfl rfl (Nat.le_of_ble_eq_true rfl) dX12_init_45 (fun H locs M => ?_)
  have M : NM G h0 [(h0, .inr (9, [.int 0, .ref q1, .int 0, .ref q2, .ref q3, .ref q4, .ref q5, .int 0, .null, .null, .int 0, .int 0])), (q1, .inl (gI G, 120, .inl fun _ => 0)), (q2, .inl (gI G, 1272, .inl fun _ => 0)), (q3, .inl (gI G, 1272, .inl fun _ => 0)), (q4, .inl (gI G, 1272, .inl fun _ => 0)), (q5, .inl (gI G, 17808, .inl fun _ => 0))] s H locs := M
  refine lv_aload_n hx hb dX12_init_48 rfl (lv_at hl 0 rfl) ?_
  refine lv_sipush (v := 2544) hx hb dX12_init_49 (by decide) ?_
  refine n_newa (k0 := 0) (ty := .int) (N' := 2544) (a0 := (2544, .inl fun _ => 0)) X M rfl rfl (fun _ h => by cases h) (gt_in 71 (by decide +kernel) (by decide +kernel)) rfl (by decide) (by decide) (by decide) (Nat.le_of_ble_eq_true rfl) (Nat.le_of_ble_eq_true rfl) dX12_init_52 (fun q6 H M hq hlt => ?_)
  have M : NM G h0 [(h0, .inr (9, [.int 0, .ref q1, .int 0, .ref q2, .ref q3, .ref q4, .ref q5, .int 0, .null, .null, .int 0, .int 0])), (q1, .inl (gI G, 120, .inl fun _ => 0)), (q2, .inl (gI G, 1272, .inl fun _ => 0)), (q3, .inl (gI G, 1272, .inl fun _ => 0)), (q4, .inl (gI G, 1272, .inl fun _ => 0)), (q5, .inl (gI G, 17808, .inl fun _ => 0)), (q6, .inl (gI G, 2544, .inl fun _ => 0))] s H locs := M
  refine n_putF (C := RX12) (T := TX12) (N := 12) (ci := 9) (fs := [.int 0, .ref q1, .int 0, .ref q2, .ref q3, .ref q4, .ref q5, .int 0, .null, .null, .int 0, .int 0]) X hin M iw_X12 tyX12_ok nmX12 0 rfl rfl 8 (by decide) rfl (gt_in 1069 (by decide +kernel) (by decide +kernel)) rfl (ty := .array .int) (by decide +kernel) rfl rfl (Nat.le_of_ble_eq_true rfl) dX12_init_54 (fun H locs M => ?_)
  have M : NM G h0 [(h0, .inr (9, [.int 0, .ref q1, .int 0, .ref q2, .ref q3, .ref q4, .ref q5, .int 0, .ref q6, .null, .int 0, .int 0])), (q1, .inl (gI G, 120, .inl fun _ => 0)), (q2, .inl (gI G, 1272, .inl fun _ => 0)), (q3, .inl (gI G, 1272, .inl fun _ => 0)), (q4, .inl (gI G, 1272, .inl fun _ => 0)), (q5, .inl (gI G, 17808, .inl fun _ => 0)), (q6, .inl (gI G, 2544, .inl fun _ => 0))] s H locs := M
  refine lv_aload_n hx hb dX12_init_57 rfl (lv_at hl 0 rfl) ?_
  refine lv_iconst (v := 2) hx hb dX12_init_58 (by decide) ?_
  refine n_newa (k0 := 1) (ty := .boolean) (N' := 2) (a0 := (2, .inl fun _ => 0)) X M rfl rfl (fun _ h => by cases h) (gt_in 1098 (by decide +kernel) (by decide +kernel)) rfl (by decide) (by decide) (by decide) (Nat.le_of_ble_eq_true rfl) (Nat.le_of_ble_eq_true rfl) dX12_init_59 (fun q7 H M hq hlt => ?_)
  have M : NM G h0 [(h0, .inr (9, [.int 0, .ref q1, .int 0, .ref q2, .ref q3, .ref q4, .ref q5, .int 0, .ref q6, .null, .int 0, .int 0])), (q1, .inl (gI G, 120, .inl fun _ => 0)), (q2, .inl (gI G, 1272, .inl fun _ => 0)), (q3, .inl (gI G, 1272, .inl fun _ => 0)), (q4, .inl (gI G, 1272, .inl fun _ => 0)), (q5, .inl (gI G, 17808, .inl fun _ => 0)), (q6, .inl (gI G, 2544, .inl fun _ => 0)), (q7, .inl (gZ G, 2, .inl fun _ => 0))] s H locs := M
  refine n_putF (C := RX12) (T := TX12) (N := 12) (ci := 9) (fs := [.int 0, .ref q1, .int 0, .ref q2, .ref q3, .ref q4, .ref q5, .int 0, .ref q6, .null, .int 0, .int 0]) X hin M iw_X12 tyX12_ok nmX12 0 rfl rfl 9 (by decide) rfl (gt_in 1070 (by decide +kernel) (by decide +kernel)) rfl (ty := .array .boolean) (by decide +kernel) rfl rfl (Nat.le_of_ble_eq_true rfl) dX12_init_61 (fun H locs M => ?_)
  have M : NM G h0 [(h0, .inr (9, [.int 0, .ref q1, .int 0, .ref q2, .ref q3, .ref q4, .ref q5, .int 0, .ref q6, .ref q7, .int 0, .int 0])), (q1, .inl (gI G, 120, .inl fun _ => 0)), (q2, .inl (gI G, 1272, .inl fun _ => 0)), (q3, .inl (gI G, 1272, .inl fun _ => 0)), (q4, .inl (gI G, 1272, .inl fun _ => 0)), (q5, .inl (gI G, 17808, .inl fun _ => 0)), (q6, .inl (gI G, 2544, .inl fun _ => 0)), (q7, .inl (gZ G, 2, .inl fun _ => 0))] s H locs := M
  refine lv_aload_n hx hb dX12_init_64 rfl (lv_at hl 0 rfl) ?_
  obtain ⟨u, hu⟩ : ∃ u : Nat → Nat, u = (fun k => [h0, q1, q2, q3, q4, q5, q6, q7].getD k 0) := ⟨_, rfl⟩
  have M1 : UM (gW G h0 (fun _ => u) ks8) (va_up (fun _ _ _ => 0) 19 (fun _ _ => 0)) s H locs := by rw [hu]; exact ⟨⟨M.1, M.2.1⟩, M.2.2.1⟩
  have hD : uMd (gW G h0 (fun _ => u) ks8) := ks8_in
  have hu0 : h0 = u 0 := by rw [hu]; rfl
  rw [hu0]
  refine gf_X12_13 X.toUC M1 hD dX12_init_65 ?_
  have M2 := um_in2 2 M1
  refine u_cSv X.toUC M2 hl.1 (kX12_begin (uArD2 hD) (begin_eq _)) cw_X12_32 ⟨Nat.le_of_ble_eq_true rfl, Nat.le_of_ble_eq_true rfl⟩ rfl rfl (Nat.le_of_ble_eq_true rfl) ⟨Nat.le_of_ble_eq_true rfl, Nat.le_of_ble_eq_true rfl⟩ dX12_init_68 (fun H locs M => ?_)
  have hU := UH_same (V' := fun _ => m0) M.1 (fun t o ho => by obtain rfl := ks8_19 _ ho; rfl)
  have ha : adX h0 u = u := adX_id hu0
  rw [← hu0]
  exact n_vret' X hret ⟨u, by unfold wX12; rw [ha]; exact ⟨hU.1, hU.2⟩⟩ M.2 dX12_init_71
