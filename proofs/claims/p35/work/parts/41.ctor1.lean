def wX6 (n : Nat) (G : UG) (h0 : Nat) (u : Nat → Nat) : va_W := [(h0, .inr (5, [.ref (u 1)])), ((u 1), .inl (gI G, n, .inl fun _ => 0))]
def wX0 (G : UG) (h0 : Nat) (u : Nat → Nat) : va_W := [(h0, .inr (0, [.int 0, .ref (u 1), .ref (u 3), .ref (u 5), .ref (u 7)])), ((u 1), .inr (5, [.ref (u 2)])), ((u 2), .inl (gI G, 10, .inl fun _ => 0)), ((u 3), .inr (5, [.ref (u 4)])), ((u 4), .inl (gI G, 10, .inl fun _ => 0)), ((u 5), .inr (5, [.ref (u 6)])), ((u 6), .inl (gI G, 10, .inl fun _ => 0)), ((u 7), .inr (5, [.ref (u 8)])), ((u 8), .inl (gI G, 10, .inl fun _ => 0))]
def wX5 (G : UG) (h0 : Nat) (u : Nat → Nat) : va_W := [(h0, .inr (4, [.int 0, .ref (u 1), .ref (u 3), .ref (u 5), .ref (u 7), .ref (u 9)])), ((u 1), .inr (5, [.ref (u 2)])), ((u 2), .inl (gI G, 8, .inl fun _ => 0)), ((u 3), .inr (5, [.ref (u 4)])), ((u 4), .inl (gI G, 8, .inl fun _ => 0)), ((u 5), .inr (5, [.ref (u 6)])), ((u 6), .inl (gI G, 8, .inl fun _ => 0)), ((u 7), .inr (5, [.ref (u 8)])), ((u 8), .inl (gI G, 8, .inl fun _ => 0)), ((u 9), .inr (5, [.ref (u 10)])), ((u 10), .inl (gI G, 256, .inl fun _ => 0))]
def wX3 (G : UG) (h0 : Nat) (u : Nat → Nat) : va_W := [(h0, .inr (2, [.ref (u 1), .ref (u 3), .ref (u 5), .ref (u 7), .ref (u 9), .ref (u 11), .ref (u 13), .ref (u 15)])), ((u 1), .inr (5, [.ref (u 2)])), ((u 2), .inl (gI G, 4, .inl fun _ => 0)), ((u 3), .inr (5, [.ref (u 4)])), ((u 4), .inl (gI G, 4, .inl fun _ => 0)), ((u 5), .inr (5, [.ref (u 6)])), ((u 6), .inl (gI G, 4, .inl fun _ => 0)), ((u 7), .inr (5, [.ref (u 8)])), ((u 8), .inl (gI G, 4, .inl fun _ => 0)), ((u 9), .inr (5, [.ref (u 10)])), ((u 10), .inl (gI G, 4, .inl fun _ => 0)), ((u 11), .inr (5, [.ref (u 12)])), ((u 12), .inl (gI G, 48, .inl fun _ => 0)), ((u 13), .inr (5, [.ref (u 14)])), ((u 14), .inl (gI G, 48, .inl fun _ => 0)), ((u 15), .inr (5, [.ref (u 16)])), ((u 16), .inl (gI G, 48, .inl fun _ => 0))]
def wX2 (G : UG) (h0 : Nat) (u : Nat → Nat) : va_W := [(h0, .inr (1, [.ref (u 1), .int 0])), ((u 1), .inr (5, [.ref (u 2)])), ((u 2), .inl (gI G, 120, .inl fun _ => 0))]
theorem dX6_init_0 : decode cX6_init 0 = .ok (.aload_n 0, 1) := by decide +kernel
theorem dX6_init_1 : decode cX6_init 1 = .ok (.invokespecial 1, 3) := by decide +kernel
theorem dX6_init_4 : decode cX6_init 4 = .ok (.aload_n 0, 1) := by decide +kernel
theorem dX6_init_5 : decode cX6_init 5 = .ok (.iload_n 1, 1) := by decide +kernel
theorem dX6_init_6 : decode cX6_init 6 = .ok (.iconst 0, 1) := by decide +kernel
theorem dX6_init_7 : decode cX6_init 7 = .ok (.invokestatic 7, 3) := by decide +kernel
theorem dX6_init_10 : decode cX6_init 10 = .ok (.newarray .int, 2) := by decide +kernel
theorem dX6_init_12 : decode cX6_init 12 = .ok (.putfield 13, 3) := by decide +kernel
theorem dX6_init_15 : decode cX6_init 15 = .ok (.return_, 1) := by decide +kernel
theorem nf_X6 : nCF yX6_init cX6_init 2 1 := ⟨gt_in 53 (by decide +kernel) (by decide +kernel), gt_in 13 (by decide +kernel) (by decide +kernel), gt_in 54 (by decide +kernel) (by decide +kernel), rfl, by decide +kernel⟩
theorem dX0_init_0 : decode cX0_init 0 = .ok (.aload_n 0, 1) := by decide +kernel
theorem dX0_init_1 : decode cX0_init 1 = .ok (.invokespecial 1, 3) := by decide +kernel
theorem dX0_init_4 : decode cX0_init 4 = .ok (.aload_n 0, 1) := by decide +kernel
theorem dX0_init_5 : decode cX0_init 5 = .ok (.new 7, 3) := by decide +kernel
theorem dX0_init_8 : decode cX0_init 8 = .ok (.dup, 1) := by decide +kernel
theorem dX0_init_9 : decode cX0_init 9 = .ok (.bipush 10, 2) := by decide +kernel
theorem dX0_init_11 : decode cX0_init 11 = .ok (.invokespecial 11, 3) := by decide +kernel
theorem dX0_init_14 : decode cX0_init 14 = .ok (.putfield 14, 3) := by decide +kernel
theorem dX0_init_17 : decode cX0_init 17 = .ok (.aload_n 0, 1) := by decide +kernel
theorem dX0_init_18 : decode cX0_init 18 = .ok (.new 7, 3) := by decide +kernel
theorem dX0_init_21 : decode cX0_init 21 = .ok (.dup, 1) := by decide +kernel
theorem dX0_init_22 : decode cX0_init 22 = .ok (.bipush 10, 2) := by decide +kernel
theorem dX0_init_24 : decode cX0_init 24 = .ok (.invokespecial 11, 3) := by decide +kernel
theorem dX0_init_27 : decode cX0_init 27 = .ok (.putfield 18, 3) := by decide +kernel
theorem dX0_init_30 : decode cX0_init 30 = .ok (.aload_n 0, 1) := by decide +kernel
theorem dX0_init_31 : decode cX0_init 31 = .ok (.new 7, 3) := by decide +kernel
theorem dX0_init_34 : decode cX0_init 34 = .ok (.dup, 1) := by decide +kernel
theorem dX0_init_35 : decode cX0_init 35 = .ok (.bipush 10, 2) := by decide +kernel
theorem dX0_init_37 : decode cX0_init 37 = .ok (.invokespecial 11, 3) := by decide +kernel
theorem dX0_init_40 : decode cX0_init 40 = .ok (.putfield 21, 3) := by decide +kernel
theorem dX0_init_43 : decode cX0_init 43 = .ok (.aload_n 0, 1) := by decide +kernel
theorem dX0_init_44 : decode cX0_init 44 = .ok (.new 7, 3) := by decide +kernel
theorem dX0_init_47 : decode cX0_init 47 = .ok (.dup, 1) := by decide +kernel
theorem dX0_init_48 : decode cX0_init 48 = .ok (.bipush 10, 2) := by decide +kernel
theorem dX0_init_50 : decode cX0_init 50 = .ok (.invokespecial 11, 3) := by decide +kernel
theorem dX0_init_53 : decode cX0_init 53 = .ok (.putfield 24, 3) := by decide +kernel
theorem dX0_init_56 : decode cX0_init 56 = .ok (.return_, 1) := by decide +kernel
theorem nf_X0 : nCF yX0_init cX0_init 1 0 := ⟨gt_in 47 (by decide +kernel) (by decide +kernel), gt_in 12 (by decide +kernel) (by decide +kernel), gt_in 48 (by decide +kernel) (by decide +kernel), rfl, by decide +kernel⟩
theorem dX5_init_0 : decode cX5_init 0 = .ok (.aload_n 0, 1) := by decide +kernel
theorem dX5_init_1 : decode cX5_init 1 = .ok (.invokespecial 3, 3) := by decide +kernel
theorem dX5_init_4 : decode cX5_init 4 = .ok (.aload_n 0, 1) := by decide +kernel
theorem dX5_init_5 : decode cX5_init 5 = .ok (.new 9, 3) := by decide +kernel
theorem dX5_init_8 : decode cX5_init 8 = .ok (.dup, 1) := by decide +kernel
theorem dX5_init_9 : decode cX5_init 9 = .ok (.bipush 8, 2) := by decide +kernel
theorem dX5_init_11 : decode cX5_init 11 = .ok (.invokespecial 13, 3) := by decide +kernel
theorem dX5_init_14 : decode cX5_init 14 = .ok (.putfield 16, 3) := by decide +kernel
theorem dX5_init_17 : decode cX5_init 17 = .ok (.aload_n 0, 1) := by decide +kernel
theorem dX5_init_18 : decode cX5_init 18 = .ok (.new 9, 3) := by decide +kernel
theorem dX5_init_21 : decode cX5_init 21 = .ok (.dup, 1) := by decide +kernel
theorem dX5_init_22 : decode cX5_init 22 = .ok (.bipush 8, 2) := by decide +kernel
theorem dX5_init_24 : decode cX5_init 24 = .ok (.invokespecial 13, 3) := by decide +kernel
theorem dX5_init_27 : decode cX5_init 27 = .ok (.putfield 20, 3) := by decide +kernel
theorem dX5_init_30 : decode cX5_init 30 = .ok (.aload_n 0, 1) := by decide +kernel
theorem dX5_init_31 : decode cX5_init 31 = .ok (.new 9, 3) := by decide +kernel
theorem dX5_init_34 : decode cX5_init 34 = .ok (.dup, 1) := by decide +kernel
theorem dX5_init_35 : decode cX5_init 35 = .ok (.bipush 8, 2) := by decide +kernel
theorem dX5_init_37 : decode cX5_init 37 = .ok (.invokespecial 13, 3) := by decide +kernel
theorem dX5_init_40 : decode cX5_init 40 = .ok (.putfield 23, 3) := by decide +kernel
theorem dX5_init_43 : decode cX5_init 43 = .ok (.aload_n 0, 1) := by decide +kernel
theorem dX5_init_44 : decode cX5_init 44 = .ok (.new 9, 3) := by decide +kernel
theorem dX5_init_47 : decode cX5_init 47 = .ok (.dup, 1) := by decide +kernel
theorem dX5_init_48 : decode cX5_init 48 = .ok (.bipush 8, 2) := by decide +kernel
theorem dX5_init_50 : decode cX5_init 50 = .ok (.invokespecial 13, 3) := by decide +kernel
theorem dX5_init_53 : decode cX5_init 53 = .ok (.putfield 26, 3) := by decide +kernel
theorem dX5_init_56 : decode cX5_init 56 = .ok (.aload_n 0, 1) := by decide +kernel
theorem dX5_init_57 : decode cX5_init 57 = .ok (.new 9, 3) := by decide +kernel
theorem dX5_init_60 : decode cX5_init 60 = .ok (.dup, 1) := by decide +kernel
theorem dX5_init_61 : decode cX5_init 61 = .ok (.sipush 256, 3) := by decide +kernel
theorem dX5_init_64 : decode cX5_init 64 = .ok (.invokespecial 13, 3) := by decide +kernel
theorem dX5_init_67 : decode cX5_init 67 = .ok (.putfield 29, 3) := by decide +kernel
theorem dX5_init_70 : decode cX5_init 70 = .ok (.return_, 1) := by decide +kernel
theorem nf_X5 : nCF yX5_init cX5_init 1 0 := ⟨gt_in 89 (by decide +kernel) (by decide +kernel), gt_in 15 (by decide +kernel) (by decide +kernel), gt_in 90 (by decide +kernel) (by decide +kernel), rfl, by decide +kernel⟩
theorem dX3_init_0 : decode cX3_init 0 = .ok (.aload_n 0, 1) := by decide +kernel
theorem dX3_init_1 : decode cX3_init 1 = .ok (.invokespecial 1, 3) := by decide +kernel
theorem dX3_init_4 : decode cX3_init 4 = .ok (.aload_n 0, 1) := by decide +kernel
theorem dX3_init_5 : decode cX3_init 5 = .ok (.new 7, 3) := by decide +kernel
theorem dX3_init_8 : decode cX3_init 8 = .ok (.dup, 1) := by decide +kernel
theorem dX3_init_9 : decode cX3_init 9 = .ok (.iconst 4, 1) := by decide +kernel
theorem dX3_init_10 : decode cX3_init 10 = .ok (.invokespecial 11, 3) := by decide +kernel
theorem dX3_init_13 : decode cX3_init 13 = .ok (.putfield 14, 3) := by decide +kernel
theorem dX3_init_16 : decode cX3_init 16 = .ok (.aload_n 0, 1) := by decide +kernel
theorem dX3_init_17 : decode cX3_init 17 = .ok (.new 7, 3) := by decide +kernel
theorem dX3_init_20 : decode cX3_init 20 = .ok (.dup, 1) := by decide +kernel
theorem dX3_init_21 : decode cX3_init 21 = .ok (.iconst 4, 1) := by decide +kernel
theorem dX3_init_22 : decode cX3_init 22 = .ok (.invokespecial 11, 3) := by decide +kernel
theorem dX3_init_25 : decode cX3_init 25 = .ok (.putfield 18, 3) := by decide +kernel
theorem dX3_init_28 : decode cX3_init 28 = .ok (.aload_n 0, 1) := by decide +kernel
theorem dX3_init_29 : decode cX3_init 29 = .ok (.new 7, 3) := by decide +kernel
theorem dX3_init_32 : decode cX3_init 32 = .ok (.dup, 1) := by decide +kernel
theorem dX3_init_33 : decode cX3_init 33 = .ok (.iconst 4, 1) := by decide +kernel
theorem dX3_init_34 : decode cX3_init 34 = .ok (.invokespecial 11, 3) := by decide +kernel
theorem dX3_init_37 : decode cX3_init 37 = .ok (.putfield 21, 3) := by decide +kernel
theorem dX3_init_40 : decode cX3_init 40 = .ok (.aload_n 0, 1) := by decide +kernel
theorem dX3_init_41 : decode cX3_init 41 = .ok (.new 7, 3) := by decide +kernel
theorem dX3_init_44 : decode cX3_init 44 = .ok (.dup, 1) := by decide +kernel
theorem dX3_init_45 : decode cX3_init 45 = .ok (.iconst 4, 1) := by decide +kernel
theorem dX3_init_46 : decode cX3_init 46 = .ok (.invokespecial 11, 3) := by decide +kernel
theorem dX3_init_49 : decode cX3_init 49 = .ok (.putfield 24, 3) := by decide +kernel
theorem dX3_init_52 : decode cX3_init 52 = .ok (.aload_n 0, 1) := by decide +kernel
theorem dX3_init_53 : decode cX3_init 53 = .ok (.new 7, 3) := by decide +kernel
theorem dX3_init_56 : decode cX3_init 56 = .ok (.dup, 1) := by decide +kernel
theorem dX3_init_57 : decode cX3_init 57 = .ok (.iconst 4, 1) := by decide +kernel
theorem dX3_init_58 : decode cX3_init 58 = .ok (.invokespecial 11, 3) := by decide +kernel
theorem dX3_init_61 : decode cX3_init 61 = .ok (.putfield 27, 3) := by decide +kernel
theorem dX3_init_64 : decode cX3_init 64 = .ok (.aload_n 0, 1) := by decide +kernel
theorem dX3_init_65 : decode cX3_init 65 = .ok (.new 7, 3) := by decide +kernel
theorem dX3_init_68 : decode cX3_init 68 = .ok (.dup, 1) := by decide +kernel
theorem dX3_init_69 : decode cX3_init 69 = .ok (.bipush 48, 2) := by decide +kernel
theorem dX3_init_71 : decode cX3_init 71 = .ok (.invokespecial 11, 3) := by decide +kernel
theorem dX3_init_74 : decode cX3_init 74 = .ok (.putfield 30, 3) := by decide +kernel
theorem dX3_init_77 : decode cX3_init 77 = .ok (.aload_n 0, 1) := by decide +kernel
theorem dX3_init_78 : decode cX3_init 78 = .ok (.new 7, 3) := by decide +kernel
theorem dX3_init_81 : decode cX3_init 81 = .ok (.dup, 1) := by decide +kernel
theorem dX3_init_82 : decode cX3_init 82 = .ok (.bipush 48, 2) := by decide +kernel
theorem dX3_init_84 : decode cX3_init 84 = .ok (.invokespecial 11, 3) := by decide +kernel
theorem dX3_init_87 : decode cX3_init 87 = .ok (.putfield 33, 3) := by decide +kernel
theorem dX3_init_90 : decode cX3_init 90 = .ok (.aload_n 0, 1) := by decide +kernel
theorem dX3_init_91 : decode cX3_init 91 = .ok (.new 7, 3) := by decide +kernel
theorem dX3_init_94 : decode cX3_init 94 = .ok (.dup, 1) := by decide +kernel
theorem dX3_init_95 : decode cX3_init 95 = .ok (.bipush 48, 2) := by decide +kernel
theorem dX3_init_97 : decode cX3_init 97 = .ok (.invokespecial 11, 3) := by decide +kernel
theorem dX3_init_100 : decode cX3_init 100 = .ok (.putfield 36, 3) := by decide +kernel
theorem dX3_init_103 : decode cX3_init 103 = .ok (.return_, 1) := by decide +kernel
theorem nf_X3 : nCF yX3_init cX3_init 1 0 := ⟨gt_in 123 (by decide +kernel) (by decide +kernel), gt_in 16 (by decide +kernel) (by decide +kernel), gt_in 124 (by decide +kernel) (by decide +kernel), rfl, by decide +kernel⟩
theorem dX2_init_0 : decode cX2_init 0 = .ok (.aload_n 0, 1) := by decide +kernel
theorem dX2_init_1 : decode cX2_init 1 = .ok (.invokespecial 3, 3) := by decide +kernel
theorem dX2_init_4 : decode cX2_init 4 = .ok (.aload_n 0, 1) := by decide +kernel
theorem dX2_init_5 : decode cX2_init 5 = .ok (.new 9, 3) := by decide +kernel
theorem dX2_init_8 : decode cX2_init 8 = .ok (.dup, 1) := by decide +kernel
theorem dX2_init_9 : decode cX2_init 9 = .ok (.bipush 120, 2) := by decide +kernel
theorem dX2_init_11 : decode cX2_init 11 = .ok (.invokespecial 11, 3) := by decide +kernel
theorem dX2_init_14 : decode cX2_init 14 = .ok (.putfield 14, 3) := by decide +kernel
theorem dX2_init_17 : decode cX2_init 17 = .ok (.return_, 1) := by decide +kernel
theorem nf_X2 : nCF yX2_init cX2_init 1 0 := ⟨gt_in 229 (by decide +kernel) (by decide +kernel), gt_in 17 (by decide +kernel) (by decide +kernel), gt_in 230 (by decide +kernel) (by decide +kernel), rfl, by decide +kernel⟩

theorem nX6 {l : Launch} {G : UG} {n : Nat} (hn : n < 100000) : uN l G yX6_init cX6_init 2 1 1 n 20 [.int (nI n)] (.inr (5, [.null])) (wX6 n G) := by
  refine uN_of rfl rfl (fun _ => Nat.le_of_ble_eq_true rfl) (fun h0 p e s m args below meth c ls X hin hret hl M => ?_)
  have hl : lv_has ls 2 [(0, .ref h0), (1, .int (nI n))] := hl
  have hx := X.1.1
  have hb := X.1.2.1
  refine lv_aload_n hx hb dX6_init_0 rfl (lv_at hl 0 rfl) ?_
  refine n_obj X hl.1 (gt_in 55 (by decide +kernel) (by decide +kernel)) dX6_init_1 (Nat.le_refl _) (Nat.le_of_ble_eq_true rfl) ?_
  refine lv_aload_n hx hb dX6_init_4 rfl (lv_at hl 0 rfl) ?_
  refine lv_iload_n hx hb dX6_init_5 rfl (lv_at hl 1 rfl) ?_
  refine lv_iconst (v := 0) hx hb dX6_init_6 (by decide) ?_
  refine va_mmax hx hb (X.1.2.2.1.trans hl.1.symm) X.1.2.2.2.1 (X.hts (gt_in 56 (by decide +kernel) (by decide +kernel))) (X.hts (gt_in 57 (by decide +kernel) (by decide +kernel))) (X.hts (gt_in 14 (by decide +kernel) (by decide +kernel))) (X.hts (gt_in 58 (by decide +kernel) (by decide +kernel))) (Nat.le_refl _) (Nat.le_of_ble_eq_true rfl) (Nat.zero_le _) (Nat.zero_le _) dX6_init_7 ?_
  refine u_topi (y := nI n) (if_neg (nI_pos (by omega))).symm ?_
  refine n_newa (k0 := 0) (ty := .int) (N' := n) (a0 := (n, .inl fun _ => 0)) X M rfl rfl (fun _ h => by cases h) (gt_in 63 (by decide +kernel) (by decide +kernel)) rfl (nI_pos (by omega)) (nI_clamp (by omega)) (by show n * 4 ≤ _; omega) (Nat.le_refl _) (by show 0 + n ≤ n; omega) dX6_init_10 (fun q H M hq hlt => ?_)
  have M : NM G h0 [(h0, .inr (5, [.null])), (q, .inl (gI G, n, .inl fun _ => 0))] s H [] := M
  refine n_putF (C := RX6) (T := TX6) (N := 1) (ci := 5) (fs := [.null]) X hin M iw_X6 tyX6_ok nmX6 0 rfl rfl 0 (by decide) rfl (gt_in 59 (by decide +kernel) (by decide +kernel)) rfl (ty := .array .int) (by decide +kernel) rfl rfl (Nat.le_of_ble_eq_true rfl) dX6_init_12 (fun H locs M => ?_)
  refine W.widen (k := 1) (n := n) (by omega) (by omega) ?_
  exact n_vret X hret M (fun _ => q) rfl dX6_init_15
set_option maxHeartbeats 4000000 in
set_option maxRecDepth 20000 in
theorem nX0 {l : Launch} {G : UG} : uN l G yX0_init cX0_init 1 2 8 44 41 [] (.inr (0, [.int 0, .null, .null, .null, .null])) (wX0 G) := by
  refine uN_of rfl rfl (fun _ => Nat.le_of_ble_eq_true rfl) (fun h0 p e s m args below meth c ls X hin hret hl M => ?_)
  have hl : lv_has ls 1 [(0, .ref h0)] := hl
  have hx := X.1.1
  have hb := X.1.2.1
  refine lv_aload_n hx hb dX0_init_0 rfl (lv_at hl 0 rfl) ?_
  refine n_obj X hl.1 (gt_in 49 (by decide +kernel) (by decide +kernel)) dX0_init_1 (Nat.le_of_ble_eq_true rfl) (Nat.le_of_ble_eq_true rfl) ?_
  refine lv_aload_n hx hb dX0_init_4 rfl (lv_at hl 0 rfl) ?_
  refine n_new (C := RX6) (T := TX6) (N := 1) (ci := 5) X M rfl iw_X6 tyX6 tyX6_ok (gt_in 50 (by decide +kernel) (by decide +kernel)) (gt_in 51 (by decide +kernel) (by decide +kernel)) (gt_in 13 (by decide +kernel) (by decide +kernel)) (fs := [.null]) (fun j hj => by obtain rfl : j = 0 := (by omega); rfl) (Nat.le_of_ble_eq_true rfl) (Nat.le_of_ble_eq_true rfl) dX0_init_5 (fun q1 H hz M hlt hsq => ?_)
  refine lv_dup hx hb dX0_init_8 rfl ?_
  refine lv_bipush (v := 10) hx hb dX0_init_9 (by decide) ?_
  refine n_call X M hl.1 (nX6 (n := 10) (by decide)) hz hlt (gt_in 52 (by decide +kernel) (by decide +kernel)) nf_X6 ⟨Nat.le_of_ble_eq_true rfl, Nat.le_of_ble_eq_true rfl⟩ rfl rfl (Nat.le_of_ble_eq_true rfl) ⟨Nat.le_of_ble_eq_true rfl, Nat.le_of_ble_eq_true rfl⟩ dX0_init_11 (fun u1 H locs M => ?_)
  have M : NM G h0 [(h0, .inr (0, [.int 0, .null, .null, .null, .null])), (q1, .inr (5, [.ref (u1 1)])), ((u1 1), .inl (gI G, 10, .inl fun _ => 0))] s H locs := M
  refine n_putF (C := RX0) (T := TX0) (N := 5) (ci := 0) (fs := [.int 0, .null, .null, .null, .null]) X hin M iw_X0 tyX0_ok nmX0 0 rfl rfl 1 (by decide) rfl (gt_in 66 (by decide +kernel) (by decide +kernel)) rfl (ty := .object "OfflineGates$Row") (by decide +kernel) rfl rfl (Nat.le_of_ble_eq_true rfl) dX0_init_14 (fun H locs M => ?_)
  have M : NM G h0 [(h0, .inr (0, [.int 0, .ref q1, .null, .null, .null])), (q1, .inr (5, [.ref (u1 1)])), ((u1 1), .inl (gI G, 10, .inl fun _ => 0))] s H locs := M
  refine lv_aload_n hx hb dX0_init_17 rfl (lv_at hl 0 rfl) ?_
  refine n_new (C := RX6) (T := TX6) (N := 1) (ci := 5) X M rfl iw_X6 tyX6 tyX6_ok (gt_in 50 (by decide +kernel) (by decide +kernel)) (gt_in 51 (by decide +kernel) (by decide +kernel)) (gt_in 13 (by decide +kernel) (by decide +kernel)) (fs := [.null]) (fun j hj => by obtain rfl : j = 0 := (by omega); rfl) (Nat.le_of_ble_eq_true rfl) (Nat.le_of_ble_eq_true rfl) dX0_init_18 (fun q2 H hz M hlt hsq => ?_)
  refine lv_dup hx hb dX0_init_21 rfl ?_
  refine lv_bipush (v := 10) hx hb dX0_init_22 (by decide) ?_
  refine n_call X M hl.1 (nX6 (n := 10) (by decide)) hz hlt (gt_in 52 (by decide +kernel) (by decide +kernel)) nf_X6 ⟨Nat.le_of_ble_eq_true rfl, Nat.le_of_ble_eq_true rfl⟩ rfl rfl (Nat.le_of_ble_eq_true rfl) ⟨Nat.le_of_ble_eq_true rfl, Nat.le_of_ble_eq_true rfl⟩ dX0_init_24 (fun u2 H locs M => ?_)
  have M : NM G h0 [(h0, .inr (0, [.int 0, .ref q1, .null, .null, .null])), (q1, .inr (5, [.ref (u1 1)])), ((u1 1), .inl (gI G, 10, .inl fun _ => 0)), (q2, .inr (5, [.ref (u2 1)])), ((u2 1), .inl (gI G, 10, .inl fun _ => 0))] s H locs := M
  refine n_putF (C := RX0) (T := TX0) (N := 5) (ci := 0) (fs := [.int 0, .ref q1, .null, .null, .null]) X hin M iw_X0 tyX0_ok nmX0 0 rfl rfl 2 (by decide) rfl (gt_in 68 (by decide +kernel) (by decide +kernel)) rfl (ty := .object "OfflineGates$Row") (by decide +kernel) rfl rfl (Nat.le_of_ble_eq_true rfl) dX0_init_27 (fun H locs M => ?_)
  have M : NM G h0 [(h0, .inr (0, [.int 0, .ref q1, .ref q2, .null, .null])), (q1, .inr (5, [.ref (u1 1)])), ((u1 1), .inl (gI G, 10, .inl fun _ => 0)), (q2, .inr (5, [.ref (u2 1)])), ((u2 1), .inl (gI G, 10, .inl fun _ => 0))] s H locs := M
  refine lv_aload_n hx hb dX0_init_30 rfl (lv_at hl 0 rfl) ?_
  refine n_new (C := RX6) (T := TX6) (N := 1) (ci := 5) X M rfl iw_X6 tyX6 tyX6_ok (gt_in 50 (by decide +kernel) (by decide +kernel)) (gt_in 51 (by decide +kernel) (by decide +kernel)) (gt_in 13 (by decide +kernel) (by decide +kernel)) (fs := [.null]) (fun j hj => by obtain rfl : j = 0 := (by omega); rfl) (Nat.le_of_ble_eq_true rfl) (Nat.le_of_ble_eq_true rfl) dX0_init_31 (fun q3 H hz M hlt hsq => ?_)
  refine lv_dup hx hb dX0_init_34 rfl ?_
  refine lv_bipush (v := 10) hx hb dX0_init_35 (by decide) ?_
  refine n_call X M hl.1 (nX6 (n := 10) (by decide)) hz hlt (gt_in 52 (by decide +kernel) (by decide +kernel)) nf_X6 ⟨Nat.le_of_ble_eq_true rfl, Nat.le_of_ble_eq_true rfl⟩ rfl rfl (Nat.le_of_ble_eq_true rfl) ⟨Nat.le_of_ble_eq_true rfl, Nat.le_of_ble_eq_true rfl⟩ dX0_init_37 (fun u3 H locs M => ?_)
  have M : NM G h0 [(h0, .inr (0, [.int 0, .ref q1, .ref q2, .null, .null])), (q1, .inr (5, [.ref (u1 1)])), ((u1 1), .inl (gI G, 10, .inl fun _ => 0)), (q2, .inr (5, [.ref (u2 1)])), ((u2 1), .inl (gI G, 10, .inl fun _ => 0)), (q3, .inr (5, [.ref (u3 1)])), ((u3 1), .inl (gI G, 10, .inl fun _ => 0))] s H locs := M
  refine n_putF (C := RX0) (T := TX0) (N := 5) (ci := 0) (fs := [.int 0, .ref q1, .ref q2, .null, .null]) X hin M iw_X0 tyX0_ok nmX0 0 rfl rfl 3 (by decide) rfl (gt_in 71 (by decide +kernel) (by decide +kernel)) rfl (ty := .object "OfflineGates$Row") (by decide +kernel) rfl rfl (Nat.le_of_ble_eq_true rfl) dX0_init_40 (fun H locs M => ?_)
  have M : NM G h0 [(h0, .inr (0, [.int 0, .ref q1, .ref q2, .ref q3, .null])), (q1, .inr (5, [.ref (u1 1)])), ((u1 1), .inl (gI G, 10, .inl fun _ => 0)), (q2, .inr (5, [.ref (u2 1)])), ((u2 1), .inl (gI G, 10, .inl fun _ => 0)), (q3, .inr (5, [.ref (u3 1)])), ((u3 1), .inl (gI G, 10, .inl fun _ => 0))] s H locs := M
  refine lv_aload_n hx hb dX0_init_43 rfl (lv_at hl 0 rfl) ?_
  refine n_new (C := RX6) (T := TX6) (N := 1) (ci := 5) X M rfl iw_X6 tyX6 tyX6_ok (gt_in 50 (by decide +kernel) (by decide +kernel)) (gt_in 51 (by decide +kernel) (by decide +kernel)) (gt_in 13 (by decide +kernel) (by decide +kernel)) (fs := [.null]) (fun j hj => by obtain rfl : j = 0 := (by omega); rfl) (Nat.le_of_ble_eq_true rfl) (Nat.le_of_ble_eq_true rfl) dX0_init_44 (fun q4 H hz M hlt hsq => ?_)
  refine lv_dup hx hb dX0_init_47 rfl ?_
  refine lv_bipush (v := 10) hx hb dX0_init_48 (by decide) ?_
  refine n_call X M hl.1 (nX6 (n := 10) (by decide)) hz hlt (gt_in 52 (by decide +kernel) (by decide +kernel)) nf_X6 ⟨Nat.le_of_ble_eq_true rfl, Nat.le_of_ble_eq_true rfl⟩ rfl rfl (Nat.le_of_ble_eq_true rfl) ⟨Nat.le_of_ble_eq_true rfl, Nat.le_of_ble_eq_true rfl⟩ dX0_init_50 (fun u4 H locs M => ?_)
  have M : NM G h0 [(h0, .inr (0, [.int 0, .ref q1, .ref q2, .ref q3, .null])), (q1, .inr (5, [.ref (u1 1)])), ((u1 1), .inl (gI G, 10, .inl fun _ => 0)), (q2, .inr (5, [.ref (u2 1)])), ((u2 1), .inl (gI G, 10, .inl fun _ => 0)), (q3, .inr (5, [.ref (u3 1)])), ((u3 1), .inl (gI G, 10, .inl fun _ => 0)), (q4, .inr (5, [.ref (u4 1)])), ((u4 1), .inl (gI G, 10, .inl fun _ => 0))] s H locs := M
  refine n_putF (C := RX0) (T := TX0) (N := 5) (ci := 0) (fs := [.int 0, .ref q1, .ref q2, .ref q3, .null]) X hin M iw_X0 tyX0_ok nmX0 0 rfl rfl 4 (by decide) rfl (gt_in 73 (by decide +kernel) (by decide +kernel)) rfl (ty := .object "OfflineGates$Row") (by decide +kernel) rfl rfl (Nat.le_of_ble_eq_true rfl) dX0_init_53 (fun H locs M => ?_)
  have M : NM G h0 [(h0, .inr (0, [.int 0, .ref q1, .ref q2, .ref q3, .ref q4])), (q1, .inr (5, [.ref (u1 1)])), ((u1 1), .inl (gI G, 10, .inl fun _ => 0)), (q2, .inr (5, [.ref (u2 1)])), ((u2 1), .inl (gI G, 10, .inl fun _ => 0)), (q3, .inr (5, [.ref (u3 1)])), ((u3 1), .inl (gI G, 10, .inl fun _ => 0)), (q4, .inr (5, [.ref (u4 1)])), ((u4 1), .inl (gI G, 10, .inl fun _ => 0))] s H locs := M
  exact n_vret X hret M (fun k => [h0, q1, (u1 1), q2, (u2 1), q3, (u3 1), q4, (u4 1)].getD k 0) rfl dX0_init_56
set_option maxHeartbeats 4000000 in
set_option maxRecDepth 20000 in
theorem nX5 {l : Launch} {G : UG} : uN l G yX5_init cX5_init 1 2 10 293 41 [] (.inr (4, [.int 0, .null, .null, .null, .null, .null])) (wX5 G) := by
  refine uN_of rfl rfl (fun _ => Nat.le_of_ble_eq_true rfl) (fun h0 p e s m args below meth c ls X hin hret hl M => ?_)
  have hl : lv_has ls 1 [(0, .ref h0)] := hl
  have hx := X.1.1
  have hb := X.1.2.1
  refine lv_aload_n hx hb dX5_init_0 rfl (lv_at hl 0 rfl) ?_
  refine n_obj X hl.1 (gt_in 91 (by decide +kernel) (by decide +kernel)) dX5_init_1 (Nat.le_of_ble_eq_true rfl) (Nat.le_of_ble_eq_true rfl) ?_
  refine lv_aload_n hx hb dX5_init_4 rfl (lv_at hl 0 rfl) ?_
  refine n_new (C := RX6) (T := TX6) (N := 1) (ci := 5) X M rfl iw_X6 tyX6 tyX6_ok (gt_in 92 (by decide +kernel) (by decide +kernel)) (gt_in 51 (by decide +kernel) (by decide +kernel)) (gt_in 13 (by decide +kernel) (by decide +kernel)) (fs := [.null]) (fun j hj => by obtain rfl : j = 0 := (by omega); rfl) (Nat.le_of_ble_eq_true rfl) (Nat.le_of_ble_eq_true rfl) dX5_init_5 (fun q1 H hz M hlt hsq => ?_)
  refine lv_dup hx hb dX5_init_8 rfl ?_
  refine lv_bipush (v := 8) hx hb dX5_init_9 (by decide) ?_
  refine n_call X M hl.1 (nX6 (n := 8) (by decide)) hz hlt (gt_in 93 (by decide +kernel) (by decide +kernel)) nf_X6 ⟨Nat.le_of_ble_eq_true rfl, Nat.le_of_ble_eq_true rfl⟩ rfl rfl (Nat.le_of_ble_eq_true rfl) ⟨Nat.le_of_ble_eq_true rfl, Nat.le_of_ble_eq_true rfl⟩ dX5_init_11 (fun u1 H locs M => ?_)
  have M : NM G h0 [(h0, .inr (4, [.int 0, .null, .null, .null, .null, .null])), (q1, .inr (5, [.ref (u1 1)])), ((u1 1), .inl (gI G, 8, .inl fun _ => 0))] s H locs := M
  refine n_putF (C := RX5) (T := TX5) (N := 6) (ci := 4) (fs := [.int 0, .null, .null, .null, .null, .null]) X hin M iw_X5 tyX5_ok nmX5 0 rfl rfl 1 (by decide) rfl (gt_in 97 (by decide +kernel) (by decide +kernel)) rfl (ty := .object "OfflineGates$Row") (by decide +kernel) rfl rfl (Nat.le_of_ble_eq_true rfl) dX5_init_14 (fun H locs M => ?_)
  have M : NM G h0 [(h0, .inr (4, [.int 0, .ref q1, .null, .null, .null, .null])), (q1, .inr (5, [.ref (u1 1)])), ((u1 1), .inl (gI G, 8, .inl fun _ => 0))] s H locs := M
  refine lv_aload_n hx hb dX5_init_17 rfl (lv_at hl 0 rfl) ?_
  refine n_new (C := RX6) (T := TX6) (N := 1) (ci := 5) X M rfl iw_X6 tyX6 tyX6_ok (gt_in 92 (by decide +kernel) (by decide +kernel)) (gt_in 51 (by decide +kernel) (by decide +kernel)) (gt_in 13 (by decide +kernel) (by decide +kernel)) (fs := [.null]) (fun j hj => by obtain rfl : j = 0 := (by omega); rfl) (Nat.le_of_ble_eq_true rfl) (Nat.le_of_ble_eq_true rfl) dX5_init_18 (fun q2 H hz M hlt hsq => ?_)
  refine lv_dup hx hb dX5_init_21 rfl ?_
  refine lv_bipush (v := 8) hx hb dX5_init_22 (by decide) ?_
  refine n_call X M hl.1 (nX6 (n := 8) (by decide)) hz hlt (gt_in 93 (by decide +kernel) (by decide +kernel)) nf_X6 ⟨Nat.le_of_ble_eq_true rfl, Nat.le_of_ble_eq_true rfl⟩ rfl rfl (Nat.le_of_ble_eq_true rfl) ⟨Nat.le_of_ble_eq_true rfl, Nat.le_of_ble_eq_true rfl⟩ dX5_init_24 (fun u2 H locs M => ?_)
  have M : NM G h0 [(h0, .inr (4, [.int 0, .ref q1, .null, .null, .null, .null])), (q1, .inr (5, [.ref (u1 1)])), ((u1 1), .inl (gI G, 8, .inl fun _ => 0)), (q2, .inr (5, [.ref (u2 1)])), ((u2 1), .inl (gI G, 8, .inl fun _ => 0))] s H locs := M
  refine n_putF (C := RX5) (T := TX5) (N := 6) (ci := 4) (fs := [.int 0, .ref q1, .null, .null, .null, .null]) X hin M iw_X5 tyX5_ok nmX5 0 rfl rfl 2 (by decide) rfl (gt_in 100 (by decide +kernel) (by decide +kernel)) rfl (ty := .object "OfflineGates$Row") (by decide +kernel) rfl rfl (Nat.le_of_ble_eq_true rfl) dX5_init_27 (fun H locs M => ?_)
  have M : NM G h0 [(h0, .inr (4, [.int 0, .ref q1, .ref q2, .null, .null, .null])), (q1, .inr (5, [.ref (u1 1)])), ((u1 1), .inl (gI G, 8, .inl fun _ => 0)), (q2, .inr (5, [.ref (u2 1)])), ((u2 1), .inl (gI G, 8, .inl fun _ => 0))] s H locs := M
  refine lv_aload_n hx hb dX5_init_30 rfl (lv_at hl 0 rfl) ?_
  refine n_new (C := RX6) (T := TX6) (N := 1) (ci := 5) X M rfl iw_X6 tyX6 tyX6_ok (gt_in 92 (by decide +kernel) (by decide +kernel)) (gt_in 51 (by decide +kernel) (by decide +kernel)) (gt_in 13 (by decide +kernel) (by decide +kernel)) (fs := [.null]) (fun j hj => by obtain rfl : j = 0 := (by omega); rfl) (Nat.le_of_ble_eq_true rfl) (Nat.le_of_ble_eq_true rfl) dX5_init_31 (fun q3 H hz M hlt hsq => ?_)
  refine lv_dup hx hb dX5_init_34 rfl ?_
  refine lv_bipush (v := 8) hx hb dX5_init_35 (by decide) ?_
  refine n_call X M hl.1 (nX6 (n := 8) (by decide)) hz hlt (gt_in 93 (by decide +kernel) (by decide +kernel)) nf_X6 ⟨Nat.le_of_ble_eq_true rfl, Nat.le_of_ble_eq_true rfl⟩ rfl rfl (Nat.le_of_ble_eq_true rfl) ⟨Nat.le_of_ble_eq_true rfl, Nat.le_of_ble_eq_true rfl⟩ dX5_init_37 (fun u3 H locs M => ?_)
  have M : NM G h0 [(h0, .inr (4, [.int 0, .ref q1, .ref q2, .null, .null, .null])), (q1, .inr (5, [.ref (u1 1)])), ((u1 1), .inl (gI G, 8, .inl fun _ => 0)), (q2, .inr (5, [.ref (u2 1)])), ((u2 1), .inl (gI G, 8, .inl fun _ => 0)), (q3, .inr (5, [.ref (u3 1)])), ((u3 1), .inl (gI G, 8, .inl fun _ => 0))] s H locs := M
  refine n_putF (C := RX5) (T := TX5) (N := 6) (ci := 4) (fs := [.int 0, .ref q1, .ref q2, .null, .null, .null]) X hin M iw_X5 tyX5_ok nmX5 0 rfl rfl 3 (by decide) rfl (gt_in 102 (by decide +kernel) (by decide +kernel)) rfl (ty := .object "OfflineGates$Row") (by decide +kernel) rfl rfl (Nat.le_of_ble_eq_true rfl) dX5_init_40 (fun H locs M => ?_)
  have M : NM G h0 [(h0, .inr (4, [.int 0, .ref q1, .ref q2, .ref q3, .null, .null])), (q1, .inr (5, [.ref (u1 1)])), ((u1 1), .inl (gI G, 8, .inl fun _ => 0)), (q2, .inr (5, [.ref (u2 1)])), ((u2 1), .inl (gI G, 8, .inl fun _ => 0)), (q3, .inr (5, [.ref (u3 1)])), ((u3 1), .inl (gI G, 8, .inl fun _ => 0))] s H locs := M
  refine lv_aload_n hx hb dX5_init_43 rfl (lv_at hl 0 rfl) ?_
  refine n_new (C := RX6) (T := TX6) (N := 1) (ci := 5) X M rfl iw_X6 tyX6 tyX6_ok (gt_in 92 (by decide +kernel) (by decide +kernel)) (gt_in 51 (by decide +kernel) (by decide +kernel)) (gt_in 13 (by decide +kernel) (by decide +kernel)) (fs := [.null]) (fun j hj => by obtain rfl : j = 0 := (by omega); rfl) (Nat.le_of_ble_eq_true rfl) (Nat.le_of_ble_eq_true rfl) dX5_init_44 (fun q4 H hz M hlt hsq => ?_)
  refine lv_dup hx hb dX5_init_47 rfl ?_
  refine lv_bipush (v := 8) hx hb dX5_init_48 (by decide) ?_
  refine n_call X M hl.1 (nX6 (n := 8) (by decide)) hz hlt (gt_in 93 (by decide +kernel) (by decide +kernel)) nf_X6 ⟨Nat.le_of_ble_eq_true rfl, Nat.le_of_ble_eq_true rfl⟩ rfl rfl (Nat.le_of_ble_eq_true rfl) ⟨Nat.le_of_ble_eq_true rfl, Nat.le_of_ble_eq_true rfl⟩ dX5_init_50 (fun u4 H locs M => ?_)
  have M : NM G h0 [(h0, .inr (4, [.int 0, .ref q1, .ref q2, .ref q3, .null, .null])), (q1, .inr (5, [.ref (u1 1)])), ((u1 1), .inl (gI G, 8, .inl fun _ => 0)), (q2, .inr (5, [.ref (u2 1)])), ((u2 1), .inl (gI G, 8, .inl fun _ => 0)), (q3, .inr (5, [.ref (u3 1)])), ((u3 1), .inl (gI G, 8, .inl fun _ => 0)), (q4, .inr (5, [.ref (u4 1)])), ((u4 1), .inl (gI G, 8, .inl fun _ => 0))] s H locs := M
  refine n_putF (C := RX5) (T := TX5) (N := 6) (ci := 4) (fs := [.int 0, .ref q1, .ref q2, .ref q3, .null, .null]) X hin M iw_X5 tyX5_ok nmX5 0 rfl rfl 4 (by decide) rfl (gt_in 104 (by decide +kernel) (by decide +kernel)) rfl (ty := .object "OfflineGates$Row") (by decide +kernel) rfl rfl (Nat.le_of_ble_eq_true rfl) dX5_init_53 (fun H locs M => ?_)
  have M : NM G h0 [(h0, .inr (4, [.int 0, .ref q1, .ref q2, .ref q3, .ref q4, .null])), (q1, .inr (5, [.ref (u1 1)])), ((u1 1), .inl (gI G, 8, .inl fun _ => 0)), (q2, .inr (5, [.ref (u2 1)])), ((u2 1), .inl (gI G, 8, .inl fun _ => 0)), (q3, .inr (5, [.ref (u3 1)])), ((u3 1), .inl (gI G, 8, .inl fun _ => 0)), (q4, .inr (5, [.ref (u4 1)])), ((u4 1), .inl (gI G, 8, .inl fun _ => 0))] s H locs := M
  refine lv_aload_n hx hb dX5_init_56 rfl (lv_at hl 0 rfl) ?_
  refine n_new (C := RX6) (T := TX6) (N := 1) (ci := 5) X M rfl iw_X6 tyX6 tyX6_ok (gt_in 92 (by decide +kernel) (by decide +kernel)) (gt_in 51 (by decide +kernel) (by decide +kernel)) (gt_in 13 (by decide +kernel) (by decide +kernel)) (fs := [.null]) (fun j hj => by obtain rfl : j = 0 := (by omega); rfl) (Nat.le_of_ble_eq_true rfl) (Nat.le_of_ble_eq_true rfl) dX5_init_57 (fun q5 H hz M hlt hsq => ?_)
  refine lv_dup hx hb dX5_init_60 rfl ?_
  refine lv_sipush (v := 256) hx hb dX5_init_61 (by decide) ?_
  refine n_call X M hl.1 (nX6 (n := 256) (by decide)) hz hlt (gt_in 93 (by decide +kernel) (by decide +kernel)) nf_X6 ⟨Nat.le_of_ble_eq_true rfl, Nat.le_of_ble_eq_true rfl⟩ rfl rfl (Nat.le_of_ble_eq_true rfl) ⟨Nat.le_of_ble_eq_true rfl, Nat.le_of_ble_eq_true rfl⟩ dX5_init_64 (fun u5 H locs M => ?_)
  have M : NM G h0 [(h0, .inr (4, [.int 0, .ref q1, .ref q2, .ref q3, .ref q4, .null])), (q1, .inr (5, [.ref (u1 1)])), ((u1 1), .inl (gI G, 8, .inl fun _ => 0)), (q2, .inr (5, [.ref (u2 1)])), ((u2 1), .inl (gI G, 8, .inl fun _ => 0)), (q3, .inr (5, [.ref (u3 1)])), ((u3 1), .inl (gI G, 8, .inl fun _ => 0)), (q4, .inr (5, [.ref (u4 1)])), ((u4 1), .inl (gI G, 8, .inl fun _ => 0)), (q5, .inr (5, [.ref (u5 1)])), ((u5 1), .inl (gI G, 256, .inl fun _ => 0))] s H locs := M
  refine n_putF (C := RX5) (T := TX5) (N := 6) (ci := 4) (fs := [.int 0, .ref q1, .ref q2, .ref q3, .ref q4, .null]) X hin M iw_X5 tyX5_ok nmX5 0 rfl rfl 5 (by decide) rfl (gt_in 106 (by decide +kernel) (by decide +kernel)) rfl (ty := .object "OfflineGates$Row") (by decide +kernel) rfl rfl (Nat.le_of_ble_eq_true rfl) dX5_init_67 (fun H locs M => ?_)
  have M : NM G h0 [(h0, .inr (4, [.int 0, .ref q1, .ref q2, .ref q3, .ref q4, .ref q5])), (q1, .inr (5, [.ref (u1 1)])), ((u1 1), .inl (gI G, 8, .inl fun _ => 0)), (q2, .inr (5, [.ref (u2 1)])), ((u2 1), .inl (gI G, 8, .inl fun _ => 0)), (q3, .inr (5, [.ref (u3 1)])), ((u3 1), .inl (gI G, 8, .inl fun _ => 0)), (q4, .inr (5, [.ref (u4 1)])), ((u4 1), .inl (gI G, 8, .inl fun _ => 0)), (q5, .inr (5, [.ref (u5 1)])), ((u5 1), .inl (gI G, 256, .inl fun _ => 0))] s H locs := M
  exact n_vret X hret M (fun k => [h0, q1, (u1 1), q2, (u2 1), q3, (u3 1), q4, (u4 1), q5, (u5 1)].getD k 0) rfl dX5_init_70
set_option maxHeartbeats 4000000 in
set_option maxRecDepth 20000 in
theorem nX3 {l : Launch} {G : UG} : uN l G yX3_init cX3_init 1 2 16 172 41 [] (.inr (2, [.null, .null, .null, .null, .null, .null, .null, .null])) (wX3 G) := by
  refine uN_of rfl rfl (fun _ => Nat.le_of_ble_eq_true rfl) (fun h0 p e s m args below meth c ls X hin hret hl M => ?_)
  have hl : lv_has ls 1 [(0, .ref h0)] := hl
  have hx := X.1.1
  have hb := X.1.2.1
  refine lv_aload_n hx hb dX3_init_0 rfl (lv_at hl 0 rfl) ?_
  refine n_obj X hl.1 (gt_in 125 (by decide +kernel) (by decide +kernel)) dX3_init_1 (Nat.le_of_ble_eq_true rfl) (Nat.le_of_ble_eq_true rfl) ?_
  refine lv_aload_n hx hb dX3_init_4 rfl (lv_at hl 0 rfl) ?_
  refine n_new (C := RX6) (T := TX6) (N := 1) (ci := 5) X M rfl iw_X6 tyX6 tyX6_ok (gt_in 126 (by decide +kernel) (by decide +kernel)) (gt_in 51 (by decide +kernel) (by decide +kernel)) (gt_in 13 (by decide +kernel) (by decide +kernel)) (fs := [.null]) (fun j hj => by obtain rfl : j = 0 := (by omega); rfl) (Nat.le_of_ble_eq_true rfl) (Nat.le_of_ble_eq_true rfl) dX3_init_5 (fun q1 H hz M hlt hsq => ?_)
  refine lv_dup hx hb dX3_init_8 rfl ?_
  refine lv_iconst (v := 4) hx hb dX3_init_9 (by decide) ?_
  refine n_call X M hl.1 (nX6 (n := 4) (by decide)) hz hlt (gt_in 127 (by decide +kernel) (by decide +kernel)) nf_X6 ⟨Nat.le_of_ble_eq_true rfl, Nat.le_of_ble_eq_true rfl⟩ rfl rfl (Nat.le_of_ble_eq_true rfl) ⟨Nat.le_of_ble_eq_true rfl, Nat.le_of_ble_eq_true rfl⟩ dX3_init_10 (fun u1 H locs M => ?_)
  have M : NM G h0 [(h0, .inr (2, [.null, .null, .null, .null, .null, .null, .null, .null])), (q1, .inr (5, [.ref (u1 1)])), ((u1 1), .inl (gI G, 4, .inl fun _ => 0))] s H locs := M
  refine n_putF (C := RX3) (T := TX3) (N := 8) (ci := 2) (fs := [.null, .null, .null, .null, .null, .null, .null, .null]) X hin M iw_X3 tyX3_ok nmX3 0 rfl rfl 0 (by decide) rfl (gt_in 128 (by decide +kernel) (by decide +kernel)) rfl (ty := .object "OfflineGates$Row") (by decide +kernel) rfl rfl (Nat.le_of_ble_eq_true rfl) dX3_init_13 (fun H locs M => ?_)
  have M : NM G h0 [(h0, .inr (2, [.ref q1, .null, .null, .null, .null, .null, .null, .null])), (q1, .inr (5, [.ref (u1 1)])), ((u1 1), .inl (gI G, 4, .inl fun _ => 0))] s H locs := M
  refine lv_aload_n hx hb dX3_init_16 rfl (lv_at hl 0 rfl) ?_
  refine n_new (C := RX6) (T := TX6) (N := 1) (ci := 5) X M rfl iw_X6 tyX6 tyX6_ok (gt_in 126 (by decide +kernel) (by decide +kernel)) (gt_in 51 (by decide +kernel) (by decide +kernel)) (gt_in 13 (by decide +kernel) (by decide +kernel)) (fs := [.null]) (fun j hj => by obtain rfl : j = 0 := (by omega); rfl) (Nat.le_of_ble_eq_true rfl) (Nat.le_of_ble_eq_true rfl) dX3_init_17 (fun q2 H hz M hlt hsq => ?_)
  refine lv_dup hx hb dX3_init_20 rfl ?_
  refine lv_iconst (v := 4) hx hb dX3_init_21 (by decide) ?_
  refine n_call X M hl.1 (nX6 (n := 4) (by decide)) hz hlt (gt_in 127 (by decide +kernel) (by decide +kernel)) nf_X6 ⟨Nat.le_of_ble_eq_true rfl, Nat.le_of_ble_eq_true rfl⟩ rfl rfl (Nat.le_of_ble_eq_true rfl) ⟨Nat.le_of_ble_eq_true rfl, Nat.le_of_ble_eq_true rfl⟩ dX3_init_22 (fun u2 H locs M => ?_)
  have M : NM G h0 [(h0, .inr (2, [.ref q1, .null, .null, .null, .null, .null, .null, .null])), (q1, .inr (5, [.ref (u1 1)])), ((u1 1), .inl (gI G, 4, .inl fun _ => 0)), (q2, .inr (5, [.ref (u2 1)])), ((u2 1), .inl (gI G, 4, .inl fun _ => 0))] s H locs := M
  refine n_putF (C := RX3) (T := TX3) (N := 8) (ci := 2) (fs := [.ref q1, .null, .null, .null, .null, .null, .null, .null]) X hin M iw_X3 tyX3_ok nmX3 0 rfl rfl 1 (by decide) rfl (gt_in 131 (by decide +kernel) (by decide +kernel)) rfl (ty := .object "OfflineGates$Row") (by decide +kernel) rfl rfl (Nat.le_of_ble_eq_true rfl) dX3_init_25 (fun H locs M => ?_)
  have M : NM G h0 [(h0, .inr (2, [.ref q1, .ref q2, .null, .null, .null, .null, .null, .null])), (q1, .inr (5, [.ref (u1 1)])), ((u1 1), .inl (gI G, 4, .inl fun _ => 0)), (q2, .inr (5, [.ref (u2 1)])), ((u2 1), .inl (gI G, 4, .inl fun _ => 0))] s H locs := M
  refine lv_aload_n hx hb dX3_init_28 rfl (lv_at hl 0 rfl) ?_
  refine n_new (C := RX6) (T := TX6) (N := 1) (ci := 5) X M rfl iw_X6 tyX6 tyX6_ok (gt_in 126 (by decide +kernel) (by decide +kernel)) (gt_in 51 (by decide +kernel) (by decide +kernel)) (gt_in 13 (by decide +kernel) (by decide +kernel)) (fs := [.null]) (fun j hj => by obtain rfl : j = 0 := (by omega); rfl) (Nat.le_of_ble_eq_true rfl) (Nat.le_of_ble_eq_true rfl) dX3_init_29 (fun q3 H hz M hlt hsq => ?_)
  refine lv_dup hx hb dX3_init_32 rfl ?_
  refine lv_iconst (v := 4) hx hb dX3_init_33 (by decide) ?_
  refine n_call X M hl.1 (nX6 (n := 4) (by decide)) hz hlt (gt_in 127 (by decide +kernel) (by decide +kernel)) nf_X6 ⟨Nat.le_of_ble_eq_true rfl, Nat.le_of_ble_eq_true rfl⟩ rfl rfl (Nat.le_of_ble_eq_true rfl) ⟨Nat.le_of_ble_eq_true rfl, Nat.le_of_ble_eq_true rfl⟩ dX3_init_34 (fun u3 H locs M => ?_)
  have M : NM G h0 [(h0, .inr (2, [.ref q1, .ref q2, .null, .null, .null, .null, .null, .null])), (q1, .inr (5, [.ref (u1 1)])), ((u1 1), .inl (gI G, 4, .inl fun _ => 0)), (q2, .inr (5, [.ref (u2 1)])), ((u2 1), .inl (gI G, 4, .inl fun _ => 0)), (q3, .inr (5, [.ref (u3 1)])), ((u3 1), .inl (gI G, 4, .inl fun _ => 0))] s H locs := M
  refine n_putF (C := RX3) (T := TX3) (N := 8) (ci := 2) (fs := [.ref q1, .ref q2, .null, .null, .null, .null, .null, .null]) X hin M iw_X3 tyX3_ok nmX3 0 rfl rfl 2 (by decide) rfl (gt_in 133 (by decide +kernel) (by decide +kernel)) rfl (ty := .object "OfflineGates$Row") (by decide +kernel) rfl rfl (Nat.le_of_ble_eq_true rfl) dX3_init_37 (fun H locs M => ?_)
  have M : NM G h0 [(h0, .inr (2, [.ref q1, .ref q2, .ref q3, .null, .null, .null, .null, .null])), (q1, .inr (5, [.ref (u1 1)])), ((u1 1), .inl (gI G, 4, .inl fun _ => 0)), (q2, .inr (5, [.ref (u2 1)])), ((u2 1), .inl (gI G, 4, .inl fun _ => 0)), (q3, .inr (5, [.ref (u3 1)])), ((u3 1), .inl (gI G, 4, .inl fun _ => 0))] s H locs := M
  refine lv_aload_n hx hb dX3_init_40 rfl (lv_at hl 0 rfl) ?_
  refine n_new (C := RX6) (T := TX6) (N := 1) (ci := 5) X M rfl iw_X6 tyX6 tyX6_ok (gt_in 126 (by decide +kernel) (by decide +kernel)) (gt_in 51 (by decide +kernel) (by decide +kernel)) (gt_in 13 (by decide +kernel) (by decide +kernel)) (fs := [.null]) (fun j hj => by obtain rfl : j = 0 := (by omega); rfl) (Nat.le_of_ble_eq_true rfl) (Nat.le_of_ble_eq_true rfl) dX3_init_41 (fun q4 H hz M hlt hsq => ?_)
  refine lv_dup hx hb dX3_init_44 rfl ?_
  refine lv_iconst (v := 4) hx hb dX3_init_45 (by decide) ?_
  refine n_call X M hl.1 (nX6 (n := 4) (by decide)) hz hlt (gt_in 127 (by decide +kernel) (by decide +kernel)) nf_X6 ⟨Nat.le_of_ble_eq_true rfl, Nat.le_of_ble_eq_true rfl⟩ rfl rfl (Nat.le_of_ble_eq_true rfl) ⟨Nat.le_of_ble_eq_true rfl, Nat.le_of_ble_eq_true rfl⟩ dX3_init_46 (fun u4 H locs M => ?_)
  have M : NM G h0 [(h0, .inr (2, [.ref q1, .ref q2, .ref q3, .null, .null, .null, .null, .null])), (q1, .inr (5, [.ref (u1 1)])), ((u1 1), .inl (gI G, 4, .inl fun _ => 0)), (q2, .inr (5, [.ref (u2 1)])), ((u2 1), .inl (gI G, 4, .inl fun _ => 0)), (q3, .inr (5, [.ref (u3 1)])), ((u3 1), .inl (gI G, 4, .inl fun _ => 0)), (q4, .inr (5, [.ref (u4 1)])), ((u4 1), .inl (gI G, 4, .inl fun _ => 0))] s H locs := M
  refine n_putF (C := RX3) (T := TX3) (N := 8) (ci := 2) (fs := [.ref q1, .ref q2, .ref q3, .null, .null, .null, .null, .null]) X hin M iw_X3 tyX3_ok nmX3 0 rfl rfl 3 (by decide) rfl (gt_in 134 (by decide +kernel) (by decide +kernel)) rfl (ty := .object "OfflineGates$Row") (by decide +kernel) rfl rfl (Nat.le_of_ble_eq_true rfl) dX3_init_49 (fun H locs M => ?_)
  have M : NM G h0 [(h0, .inr (2, [.ref q1, .ref q2, .ref q3, .ref q4, .null, .null, .null, .null])), (q1, .inr (5, [.ref (u1 1)])), ((u1 1), .inl (gI G, 4, .inl fun _ => 0)), (q2, .inr (5, [.ref (u2 1)])), ((u2 1), .inl (gI G, 4, .inl fun _ => 0)), (q3, .inr (5, [.ref (u3 1)])), ((u3 1), .inl (gI G, 4, .inl fun _ => 0)), (q4, .inr (5, [.ref (u4 1)])), ((u4 1), .inl (gI G, 4, .inl fun _ => 0))] s H locs := M
  refine lv_aload_n hx hb dX3_init_52 rfl (lv_at hl 0 rfl) ?_
  refine n_new (C := RX6) (T := TX6) (N := 1) (ci := 5) X M rfl iw_X6 tyX6 tyX6_ok (gt_in 126 (by decide +kernel) (by decide +kernel)) (gt_in 51 (by decide +kernel) (by decide +kernel)) (gt_in 13 (by decide +kernel) (by decide +kernel)) (fs := [.null]) (fun j hj => by obtain rfl : j = 0 := (by omega); rfl) (Nat.le_of_ble_eq_true rfl) (Nat.le_of_ble_eq_true rfl) dX3_init_53 (fun q5 H hz M hlt hsq => ?_)
  refine lv_dup hx hb dX3_init_56 rfl ?_
  refine lv_iconst (v := 4) hx hb dX3_init_57 (by decide) ?_
  refine n_call X M hl.1 (nX6 (n := 4) (by decide)) hz hlt (gt_in 127 (by decide +kernel) (by decide +kernel)) nf_X6 ⟨Nat.le_of_ble_eq_true rfl, Nat.le_of_ble_eq_true rfl⟩ rfl rfl (Nat.le_of_ble_eq_true rfl) ⟨Nat.le_of_ble_eq_true rfl, Nat.le_of_ble_eq_true rfl⟩ dX3_init_58 (fun u5 H locs M => ?_)
  have M : NM G h0 [(h0, .inr (2, [.ref q1, .ref q2, .ref q3, .ref q4, .null, .null, .null, .null])), (q1, .inr (5, [.ref (u1 1)])), ((u1 1), .inl (gI G, 4, .inl fun _ => 0)), (q2, .inr (5, [.ref (u2 1)])), ((u2 1), .inl (gI G, 4, .inl fun _ => 0)), (q3, .inr (5, [.ref (u3 1)])), ((u3 1), .inl (gI G, 4, .inl fun _ => 0)), (q4, .inr (5, [.ref (u4 1)])), ((u4 1), .inl (gI G, 4, .inl fun _ => 0)), (q5, .inr (5, [.ref (u5 1)])), ((u5 1), .inl (gI G, 4, .inl fun _ => 0))] s H locs := M
  refine n_putF (C := RX3) (T := TX3) (N := 8) (ci := 2) (fs := [.ref q1, .ref q2, .ref q3, .ref q4, .null, .null, .null, .null]) X hin M iw_X3 tyX3_ok nmX3 0 rfl rfl 4 (by decide) rfl (gt_in 135 (by decide +kernel) (by decide +kernel)) rfl (ty := .object "OfflineGates$Row") (by decide +kernel) rfl rfl (Nat.le_of_ble_eq_true rfl) dX3_init_61 (fun H locs M => ?_)
  have M : NM G h0 [(h0, .inr (2, [.ref q1, .ref q2, .ref q3, .ref q4, .ref q5, .null, .null, .null])), (q1, .inr (5, [.ref (u1 1)])), ((u1 1), .inl (gI G, 4, .inl fun _ => 0)), (q2, .inr (5, [.ref (u2 1)])), ((u2 1), .inl (gI G, 4, .inl fun _ => 0)), (q3, .inr (5, [.ref (u3 1)])), ((u3 1), .inl (gI G, 4, .inl fun _ => 0)), (q4, .inr (5, [.ref (u4 1)])), ((u4 1), .inl (gI G, 4, .inl fun _ => 0)), (q5, .inr (5, [.ref (u5 1)])), ((u5 1), .inl (gI G, 4, .inl fun _ => 0))] s H locs := M
  refine lv_aload_n hx hb dX3_init_64 rfl (lv_at hl 0 rfl) ?_
  refine n_new (C := RX6) (T := TX6) (N := 1) (ci := 5) X M rfl iw_X6 tyX6 tyX6_ok (gt_in 126 (by decide +kernel) (by decide +kernel)) (gt_in 51 (by decide +kernel) (by decide +kernel)) (gt_in 13 (by decide +kernel) (by decide +kernel)) (fs := [.null]) (fun j hj => by obtain rfl : j = 0 := (by omega); rfl) (Nat.le_of_ble_eq_true rfl) (Nat.le_of_ble_eq_true rfl) dX3_init_65 (fun q6 H hz M hlt hsq => ?_)
  refine lv_dup hx hb dX3_init_68 rfl ?_
  refine lv_bipush (v := 48) hx hb dX3_init_69 (by decide) ?_
  refine n_call X M hl.1 (nX6 (n := 48) (by decide)) hz hlt (gt_in 127 (by decide +kernel) (by decide +kernel)) nf_X6 ⟨Nat.le_of_ble_eq_true rfl, Nat.le_of_ble_eq_true rfl⟩ rfl rfl (Nat.le_of_ble_eq_true rfl) ⟨Nat.le_of_ble_eq_true rfl, Nat.le_of_ble_eq_true rfl⟩ dX3_init_71 (fun u6 H locs M => ?_)
  have M : NM G h0 [(h0, .inr (2, [.ref q1, .ref q2, .ref q3, .ref q4, .ref q5, .null, .null, .null])), (q1, .inr (5, [.ref (u1 1)])), ((u1 1), .inl (gI G, 4, .inl fun _ => 0)), (q2, .inr (5, [.ref (u2 1)])), ((u2 1), .inl (gI G, 4, .inl fun _ => 0)), (q3, .inr (5, [.ref (u3 1)])), ((u3 1), .inl (gI G, 4, .inl fun _ => 0)), (q4, .inr (5, [.ref (u4 1)])), ((u4 1), .inl (gI G, 4, .inl fun _ => 0)), (q5, .inr (5, [.ref (u5 1)])), ((u5 1), .inl (gI G, 4, .inl fun _ => 0)), (q6, .inr (5, [.ref (u6 1)])), ((u6 1), .inl (gI G, 48, .inl fun _ => 0))] s H locs := M
  refine n_putF (C := RX3) (T := TX3) (N := 8) (ci := 2) (fs := [.ref q1, .ref q2, .ref q3, .ref q4, .ref q5, .null, .null, .null]) X hin M iw_X3 tyX3_ok nmX3 0 rfl rfl 5 (by decide) rfl (gt_in 136 (by decide +kernel) (by decide +kernel)) rfl (ty := .object "OfflineGates$Row") (by decide +kernel) rfl rfl (Nat.le_of_ble_eq_true rfl) dX3_init_74 (fun H locs M => ?_)
  have M : NM G h0 [(h0, .inr (2, [.ref q1, .ref q2, .ref q3, .ref q4, .ref q5, .ref q6, .null, .null])), (q1, .inr (5, [.ref (u1 1)])), ((u1 1), .inl (gI G, 4, .inl fun _ => 0)), (q2, .inr (5, [.ref (u2 1)])), ((u2 1), .inl (gI G, 4, .inl fun _ => 0)), (q3, .inr (5, [.ref (u3 1)])), ((u3 1), .inl (gI G, 4, .inl fun _ => 0)), (q4, .inr (5, [.ref (u4 1)])), ((u4 1), .inl (gI G, 4, .inl fun _ => 0)), (q5, .inr (5, [.ref (u5 1)])), ((u5 1), .inl (gI G, 4, .inl fun _ => 0)), (q6, .inr (5, [.ref (u6 1)])), ((u6 1), .inl (gI G, 48, .inl fun _ => 0))] s H locs := M
  refine lv_aload_n hx hb dX3_init_77 rfl (lv_at hl 0 rfl) ?_
  refine n_new (C := RX6) (T := TX6) (N := 1) (ci := 5) X M rfl iw_X6 tyX6 tyX6_ok (gt_in 126 (by decide +kernel) (by decide +kernel)) (gt_in 51 (by decide +kernel) (by decide +kernel)) (gt_in 13 (by decide +kernel) (by decide +kernel)) (fs := [.null]) (fun j hj => by obtain rfl : j = 0 := (by omega); rfl) (Nat.le_of_ble_eq_true rfl) (Nat.le_of_ble_eq_true rfl) dX3_init_78 (fun q7 H hz M hlt hsq => ?_)
  refine lv_dup hx hb dX3_init_81 rfl ?_
  refine lv_bipush (v := 48) hx hb dX3_init_82 (by decide) ?_
  refine n_call X M hl.1 (nX6 (n := 48) (by decide)) hz hlt (gt_in 127 (by decide +kernel) (by decide +kernel)) nf_X6 ⟨Nat.le_of_ble_eq_true rfl, Nat.le_of_ble_eq_true rfl⟩ rfl rfl (Nat.le_of_ble_eq_true rfl) ⟨Nat.le_of_ble_eq_true rfl, Nat.le_of_ble_eq_true rfl⟩ dX3_init_84 (fun u7 H locs M => ?_)
  have M : NM G h0 [(h0, .inr (2, [.ref q1, .ref q2, .ref q3, .ref q4, .ref q5, .ref q6, .null, .null])), (q1, .inr (5, [.ref (u1 1)])), ((u1 1), .inl (gI G, 4, .inl fun _ => 0)), (q2, .inr (5, [.ref (u2 1)])), ((u2 1), .inl (gI G, 4, .inl fun _ => 0)), (q3, .inr (5, [.ref (u3 1)])), ((u3 1), .inl (gI G, 4, .inl fun _ => 0)), (q4, .inr (5, [.ref (u4 1)])), ((u4 1), .inl (gI G, 4, .inl fun _ => 0)), (q5, .inr (5, [.ref (u5 1)])), ((u5 1), .inl (gI G, 4, .inl fun _ => 0)), (q6, .inr (5, [.ref (u6 1)])), ((u6 1), .inl (gI G, 48, .inl fun _ => 0)), (q7, .inr (5, [.ref (u7 1)])), ((u7 1), .inl (gI G, 48, .inl fun _ => 0))] s H locs := M
  refine n_putF (C := RX3) (T := TX3) (N := 8) (ci := 2) (fs := [.ref q1, .ref q2, .ref q3, .ref q4, .ref q5, .ref q6, .null, .null]) X hin M iw_X3 tyX3_ok nmX3 0 rfl rfl 6 (by decide) rfl (gt_in 137 (by decide +kernel) (by decide +kernel)) rfl (ty := .object "OfflineGates$Row") (by decide +kernel) rfl rfl (Nat.le_of_ble_eq_true rfl) dX3_init_87 (fun H locs M => ?_)
  have M : NM G h0 [(h0, .inr (2, [.ref q1, .ref q2, .ref q3, .ref q4, .ref q5, .ref q6, .ref q7, .null])), (q1, .inr (5, [.ref (u1 1)])), ((u1 1), .inl (gI G, 4, .inl fun _ => 0)), (q2, .inr (5, [.ref (u2 1)])), ((u2 1), .inl (gI G, 4, .inl fun _ => 0)), (q3, .inr (5, [.ref (u3 1)])), ((u3 1), .inl (gI G, 4, .inl fun _ => 0)), (q4, .inr (5, [.ref (u4 1)])), ((u4 1), .inl (gI G, 4, .inl fun _ => 0)), (q5, .inr (5, [.ref (u5 1)])), ((u5 1), .inl (gI G, 4, .inl fun _ => 0)), (q6, .inr (5, [.ref (u6 1)])), ((u6 1), .inl (gI G, 48, .inl fun _ => 0)), (q7, .inr (5, [.ref (u7 1)])), ((u7 1), .inl (gI G, 48, .inl fun _ => 0))] s H locs := M
  refine lv_aload_n hx hb dX3_init_90 rfl (lv_at hl 0 rfl) ?_
  refine n_new (C := RX6) (T := TX6) (N := 1) (ci := 5) X M rfl iw_X6 tyX6 tyX6_ok (gt_in 126 (by decide +kernel) (by decide +kernel)) (gt_in 51 (by decide +kernel) (by decide +kernel)) (gt_in 13 (by decide +kernel) (by decide +kernel)) (fs := [.null]) (fun j hj => by obtain rfl : j = 0 := (by omega); rfl) (Nat.le_of_ble_eq_true rfl) (Nat.le_of_ble_eq_true rfl) dX3_init_91 (fun q8 H hz M hlt hsq => ?_)
  refine lv_dup hx hb dX3_init_94 rfl ?_
  refine lv_bipush (v := 48) hx hb dX3_init_95 (by decide) ?_
  refine n_call X M hl.1 (nX6 (n := 48) (by decide)) hz hlt (gt_in 127 (by decide +kernel) (by decide +kernel)) nf_X6 ⟨Nat.le_of_ble_eq_true rfl, Nat.le_of_ble_eq_true rfl⟩ rfl rfl (Nat.le_of_ble_eq_true rfl) ⟨Nat.le_of_ble_eq_true rfl, Nat.le_of_ble_eq_true rfl⟩ dX3_init_97 (fun u8 H locs M => ?_)
  have M : NM G h0 [(h0, .inr (2, [.ref q1, .ref q2, .ref q3, .ref q4, .ref q5, .ref q6, .ref q7, .null])), (q1, .inr (5, [.ref (u1 1)])), ((u1 1), .inl (gI G, 4, .inl fun _ => 0)), (q2, .inr (5, [.ref (u2 1)])), ((u2 1), .inl (gI G, 4, .inl fun _ => 0)), (q3, .inr (5, [.ref (u3 1)])), ((u3 1), .inl (gI G, 4, .inl fun _ => 0)), (q4, .inr (5, [.ref (u4 1)])), ((u4 1), .inl (gI G, 4, .inl fun _ => 0)), (q5, .inr (5, [.ref (u5 1)])), ((u5 1), .inl (gI G, 4, .inl fun _ => 0)), (q6, .inr (5, [.ref (u6 1)])), ((u6 1), .inl (gI G, 48, .inl fun _ => 0)), (q7, .inr (5, [.ref (u7 1)])), ((u7 1), .inl (gI G, 48, .inl fun _ => 0)), (q8, .inr (5, [.ref (u8 1)])), ((u8 1), .inl (gI G, 48, .inl fun _ => 0))] s H locs := M
  refine n_putF (C := RX3) (T := TX3) (N := 8) (ci := 2) (fs := [.ref q1, .ref q2, .ref q3, .ref q4, .ref q5, .ref q6, .ref q7, .null]) X hin M iw_X3 tyX3_ok nmX3 0 rfl rfl 7 (by decide) rfl (gt_in 138 (by decide +kernel) (by decide +kernel)) rfl (ty := .object "OfflineGates$Row") (by decide +kernel) rfl rfl (Nat.le_of_ble_eq_true rfl) dX3_init_100 (fun H locs M => ?_)
  have M : NM G h0 [(h0, .inr (2, [.ref q1, .ref q2, .ref q3, .ref q4, .ref q5, .ref q6, .ref q7, .ref q8])), (q1, .inr (5, [.ref (u1 1)])), ((u1 1), .inl (gI G, 4, .inl fun _ => 0)), (q2, .inr (5, [.ref (u2 1)])), ((u2 1), .inl (gI G, 4, .inl fun _ => 0)), (q3, .inr (5, [.ref (u3 1)])), ((u3 1), .inl (gI G, 4, .inl fun _ => 0)), (q4, .inr (5, [.ref (u4 1)])), ((u4 1), .inl (gI G, 4, .inl fun _ => 0)), (q5, .inr (5, [.ref (u5 1)])), ((u5 1), .inl (gI G, 4, .inl fun _ => 0)), (q6, .inr (5, [.ref (u6 1)])), ((u6 1), .inl (gI G, 48, .inl fun _ => 0)), (q7, .inr (5, [.ref (u7 1)])), ((u7 1), .inl (gI G, 48, .inl fun _ => 0)), (q8, .inr (5, [.ref (u8 1)])), ((u8 1), .inl (gI G, 48, .inl fun _ => 0))] s H locs := M
  exact n_vret X hret M (fun k => [h0, q1, (u1 1), q2, (u2 1), q3, (u3 1), q4, (u4 1), q5, (u5 1), q6, (u6 1), q7, (u7 1), q8, (u8 1)].getD k 0) rfl dX3_init_103
set_option maxHeartbeats 4000000 in
set_option maxRecDepth 20000 in
theorem nX2 {l : Launch} {G : UG} : uN l G yX2_init cX2_init 1 2 2 121 41 [] (.inr (1, [.null, .int 0])) (wX2 G) := by
  refine uN_of rfl rfl (fun _ => Nat.le_of_ble_eq_true rfl) (fun h0 p e s m args below meth c ls X hin hret hl M => ?_)
  have hl : lv_has ls 1 [(0, .ref h0)] := hl
  have hx := X.1.1
  have hb := X.1.2.1
  refine lv_aload_n hx hb dX2_init_0 rfl (lv_at hl 0 rfl) ?_
  refine n_obj X hl.1 (gt_in 231 (by decide +kernel) (by decide +kernel)) dX2_init_1 (Nat.le_of_ble_eq_true rfl) (Nat.le_of_ble_eq_true rfl) ?_
  refine lv_aload_n hx hb dX2_init_4 rfl (lv_at hl 0 rfl) ?_
  refine n_new (C := RX6) (T := TX6) (N := 1) (ci := 5) X M rfl iw_X6 tyX6 tyX6_ok (gt_in 232 (by decide +kernel) (by decide +kernel)) (gt_in 51 (by decide +kernel) (by decide +kernel)) (gt_in 13 (by decide +kernel) (by decide +kernel)) (fs := [.null]) (fun j hj => by obtain rfl : j = 0 := (by omega); rfl) (Nat.le_of_ble_eq_true rfl) (Nat.le_of_ble_eq_true rfl) dX2_init_5 (fun q1 H hz M hlt hsq => ?_)
  refine lv_dup hx hb dX2_init_8 rfl ?_
  refine lv_bipush (v := 120) hx hb dX2_init_9 (by decide) ?_
  refine n_call X M hl.1 (nX6 (n := 120) (by decide)) hz hlt (gt_in 233 (by decide +kernel) (by decide +kernel)) nf_X6 ⟨Nat.le_of_ble_eq_true rfl, Nat.le_of_ble_eq_true rfl⟩ rfl rfl (Nat.le_of_ble_eq_true rfl) ⟨Nat.le_of_ble_eq_true rfl, Nat.le_of_ble_eq_true rfl⟩ dX2_init_11 (fun u1 H locs M => ?_)
  have M : NM G h0 [(h0, .inr (1, [.null, .int 0])), (q1, .inr (5, [.ref (u1 1)])), ((u1 1), .inl (gI G, 120, .inl fun _ => 0))] s H locs := M
  refine n_putF (C := RX2) (T := TX2) (N := 2) (ci := 1) (fs := [.null, .int 0]) X hin M iw_X2 tyX2_ok nmX2 0 rfl rfl 0 (by decide) rfl (gt_in 234 (by decide +kernel) (by decide +kernel)) rfl (ty := .object "OfflineGates$Row") (by decide +kernel) rfl rfl (Nat.le_of_ble_eq_true rfl) dX2_init_14 (fun H locs M => ?_)
  have M : NM G h0 [(h0, .inr (1, [.ref q1, .int 0])), (q1, .inr (5, [.ref (u1 1)])), ((u1 1), .inl (gI G, 120, .inl fun _ => 0))] s H locs := M
  exact n_vret X hret M (fun k => [h0, q1, (u1 1)].getD k 0) rfl dX2_init_17
