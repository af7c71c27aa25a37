theorem dX2_length_0 : decode cX2_length 0 = .ok (.aload_n 0, 1) := by decide +kernel
theorem dX2_length_1 : decode cX2_length 1 = .ok (.getfield 20, 3) := by decide +kernel
theorem dX2_length_4 : decode cX2_length 4 = .ok (.ireturn, 1) := by decide +kernel
theorem dX2_sign_0 : decode cX2_sign 0 = .ok (.aload_n 0, 1) := by decide +kernel
theorem dX2_sign_1 : decode cX2_sign 1 = .ok (.getfield 14, 3) := by decide +kernel
theorem dX2_sign_4 : decode cX2_sign 4 = .ok (.iload_n 1, 1) := by decide +kernel
theorem dX2_sign_5 : decode cX2_sign 5 = .ok (.invokevirtual 24, 3) := by decide +kernel
theorem dX2_sign_8 : decode cX2_sign 8 = .ok (.ireturn, 1) := by decide +kernel
theorem dX2_digit_0 : decode cX2_digit 0 = .ok (.aload_n 0, 1) := by decide +kernel
theorem dX2_digit_1 : decode cX2_digit 1 = .ok (.getfield 14, 3) := by decide +kernel
theorem dX2_digit_4 : decode cX2_digit 4 = .ok (.iload_n 1, 1) := by decide +kernel
theorem dX2_digit_5 : decode cX2_digit 5 = .ok (.invokevirtual 24, 3) := by decide +kernel
theorem dX2_digit_8 : decode cX2_digit 8 = .ok (.bipush 48, 2) := by decide +kernel
theorem dX2_digit_10 : decode cX2_digit 10 = .ok (.isub, 1) := by decide +kernel
theorem dX2_digit_11 : decode cX2_digit 11 = .ok (.ireturn, 1) := by decide +kernel
theorem dX2_twoDigits_0 : decode cX2_twoDigits 0 = .ok (.bipush 10, 2) := by decide +kernel
theorem dX2_twoDigits_2 : decode cX2_twoDigits 2 = .ok (.aload_n 0, 1) := by decide +kernel
theorem dX2_twoDigits_3 : decode cX2_twoDigits 3 = .ok (.iload_n 1, 1) := by decide +kernel
theorem dX2_twoDigits_4 : decode cX2_twoDigits 4 = .ok (.invokevirtual 28, 3) := by decide +kernel
theorem dX2_twoDigits_7 : decode cX2_twoDigits 7 = .ok (.imul, 1) := by decide +kernel
theorem dX2_twoDigits_8 : decode cX2_twoDigits 8 = .ok (.aload_n 0, 1) := by decide +kernel
theorem dX2_twoDigits_9 : decode cX2_twoDigits 9 = .ok (.iload_n 1, 1) := by decide +kernel
theorem dX2_twoDigits_10 : decode cX2_twoDigits 10 = .ok (.iconst 1, 1) := by decide +kernel
theorem dX2_twoDigits_11 : decode cX2_twoDigits 11 = .ok (.iadd, 1) := by decide +kernel
theorem dX2_twoDigits_12 : decode cX2_twoDigits 12 = .ok (.invokevirtual 28, 3) := by decide +kernel
theorem dX2_twoDigits_15 : decode cX2_twoDigits 15 = .ok (.iadd, 1) := by decide +kernel
theorem dX2_twoDigits_16 : decode cX2_twoDigits 16 = .ok (.ireturn, 1) := by decide +kernel
theorem dX2_add_0 : decode cX2_add 0 = .ok (.aload_n 0, 1) := by decide +kernel
theorem dX2_add_1 : decode cX2_add 1 = .ok (.getfield 14, 3) := by decide +kernel
theorem dX2_add_4 : decode cX2_add 4 = .ok (.aload_n 0, 1) := by decide +kernel
theorem dX2_add_5 : decode cX2_add 5 = .ok (.getfield 20, 3) := by decide +kernel
theorem dX2_add_8 : decode cX2_add 8 = .ok (.iload_n 1, 1) := by decide +kernel
theorem dX2_add_9 : decode cX2_add 9 = .ok (.invokevirtual 31, 3) := by decide +kernel
theorem dX2_add_12 : decode cX2_add 12 = .ok (.aload_n 0, 1) := by decide +kernel
theorem dX2_add_13 : decode cX2_add 13 = .ok (.dup, 1) := by decide +kernel
theorem dX2_add_14 : decode cX2_add 14 = .ok (.getfield 20, 3) := by decide +kernel
theorem dX2_add_17 : decode cX2_add 17 = .ok (.iconst 1, 1) := by decide +kernel
theorem dX2_add_18 : decode cX2_add 18 = .ok (.iadd, 1) := by decide +kernel
theorem dX2_add_19 : decode cX2_add 19 = .ok (.putfield 20, 3) := by decide +kernel
theorem dX2_add_22 : decode cX2_add 22 = .ok (.aload_n 0, 1) := by decide +kernel
theorem dX2_add_23 : decode cX2_add 23 = .ok (.getfield 20, 3) := by decide +kernel
theorem dX2_add_26 : decode cX2_add 26 = .ok (.ireturn, 1) := by decide +kernel
theorem cw_X2_24 : uCW RX2 RX6 24 yX6_get cX6_get 2 (some .int) 1 := ⟨gt_in 428 (by decide +kernel) (by decide +kernel), yf_X6_get⟩
theorem yf_X2_digit : (Cond.instanceMethod yX2_digit) ∈ gtbl ∧ (Cond.selects RX2 yX2_digit yX2_digit) ∈ gtbl ∧ (Cond.initialized RX2) ∈ gtbl ∧ (Cond.code yX2_digit cX2_digit 2 (some .int)) ∈ gtbl ∧ (yX2_digit.cls = RX2 ∧ yX2_digit.cls ≠ "java/lang/invoke/MethodHandle" ∧ yX2_digit.cls ≠ "java/lang/invoke/VarHandle" ∧ (parseMethodDescriptor yX2_digit.desc).map (fun d => d.parameters.length) = some 1) := ⟨gt_in 440 (by decide +kernel) (by decide +kernel), gt_in 441 (by decide +kernel) (by decide +kernel), gt_in 17 (by decide +kernel) (by decide +kernel), gt_in 442 (by decide +kernel) (by decide +kernel), by decide +kernel⟩
theorem cw_X2_28 : uCW RX2 RX2 28 yX2_digit cX2_digit 2 (some .int) 1 := ⟨gt_in 439 (by decide +kernel) (by decide +kernel), yf_X2_digit⟩
theorem cw_X2_31 : uCW RX2 RX6 31 yX6_put cX6_put 3 none 2 := ⟨gt_in 410 (by decide +kernel) (by decide +kernel), yf_X6_put⟩
def fX2_length (S : (Nat → Nat → Int32)) : Int32 :=
  lt_ (S 1 1) fun x1 =>
  x1
set_option maxHeartbeats 4000000 in
set_option maxRecDepth 20000 in
theorem kX2_length {l : Launch} {G : UG} {V : uV} (hN : uMn G) {S : (Nat → Nat → Int32)} (hV : V 18 = S)  {r : Int32} (h : fX2_length S = r) : uMi l G yX2_length cX2_length 1 .int (uR 0 0) [.ref (ga G 18 1)] V r V := by
  refine uMi_of rfl (Nat.le_of_ble_eq_true rfl) (fun p e s m args below meth c ls X hret hl M => ?_)
  have hl : lv_has ls 1 [(0, .ref (ga G 18 1))] := hl
  have hx := X.hx
  have hb := X.hb
  unfold fX2_length at h
  refine lv_aload_n hx hb dX2_length_0 rfl (lv_at hl 0 rfl) ?_
  obtain ⟨x1, e2, h⟩ := lt_e h
  refine gf_X2_20 X M hN hV e2 dX2_length_1 ?_
  exact u_iret X hret M h (rfl) rfl dX2_length_4
def fX2_sign (S : (Nat → Nat → Int32)) (a1 : Int32) : Int32 :=
  lt_ (fget 120 (S 3) a1) fun x2 =>
  x2
set_option maxHeartbeats 4000000 in
set_option maxRecDepth 20000 in
theorem kX2_sign {l : Launch} {G : UG} {V : uV} (hN : uMn G) {S : (Nat → Nat → Int32)} (hV : V 18 = S) {a1 : Int32} {r : Int32} (h : fX2_sign S a1 = r) : uMi l G yX2_sign cX2_sign 2 .int (uR 1 21) [.ref (ga G 18 1), .int a1] V r V := by
  refine uMi_of rfl (Nat.le_of_ble_eq_true rfl) (fun p e s m args below meth c ls X hret hl M => ?_)
  have hl : lv_has ls 2 [(0, .ref (ga G 18 1)), (1, .int a1)] := hl
  have hx := X.hx
  have hb := X.hb
  unfold fX2_sign at h
  refine lv_aload_n hx hb dX2_sign_0 rfl (lv_at hl 0 rfl) ?_
  refine gf_X2_14 X M hN dX2_sign_1 ?_
  refine lv_iload_n hx hb dX2_sign_4 rfl (lv_at hl 1 rfl) ?_
  obtain ⟨x2, e1, h⟩ := lt_e h
  refine u_cVi X M hl.1 (kX6_get (uRwN hN) (congrFun hV 3) e1.symm) cw_X2_24 ⟨by decide, by decide⟩ (uR_recv X M (uRwN hN)) rfl rfl (Nat.le_of_ble_eq_true rfl) ⟨Nat.zero_le _, Nat.zero_le _⟩ dX2_sign_5 (fun H locs M n3 => ?_)
  exact u_iret X hret M h (rfl) rfl dX2_sign_8
def fX2_digit (S : (Nat → Nat → Int32)) (a1 : Int32) : Int32 :=
  lt_ (fget 120 (S 3) a1) fun x2 =>
  (x2 - 48)
set_option maxHeartbeats 4000000 in
set_option maxRecDepth 20000 in
theorem kX2_digit {l : Launch} {G : UG} {V : uV} (hN : uMn G) {S : (Nat → Nat → Int32)} (hV : V 18 = S) {a1 : Int32} {r : Int32} (h : fX2_digit S a1 = r) : uMi l G yX2_digit cX2_digit 2 .int (uR 1 21) [.ref (ga G 18 1), .int a1] V r V := by
  refine uMi_of rfl (Nat.le_of_ble_eq_true rfl) (fun p e s m args below meth c ls X hret hl M => ?_)
  have hl : lv_has ls 2 [(0, .ref (ga G 18 1)), (1, .int a1)] := hl
  have hx := X.hx
  have hb := X.hb
  unfold fX2_digit at h
  refine lv_aload_n hx hb dX2_digit_0 rfl (lv_at hl 0 rfl) ?_
  refine gf_X2_14 X M hN dX2_digit_1 ?_
  refine lv_iload_n hx hb dX2_digit_4 rfl (lv_at hl 1 rfl) ?_
  obtain ⟨x2, e1, h⟩ := lt_e h
  refine u_cVi X M hl.1 (kX6_get (uRwN hN) (congrFun hV 3) e1.symm) cw_X2_24 ⟨by decide, by decide⟩ (uR_recv X M (uRwN hN)) rfl rfl (Nat.le_of_ble_eq_true rfl) ⟨Nat.zero_le _, Nat.zero_le _⟩ dX2_digit_5 (fun H locs M n3 => ?_)
  refine lv_bipush (v := 48) hx hb dX2_digit_8 (by decide) ?_
  refine lv_isub hx hb dX2_digit_10 ?_
  exact u_iret X hret M h (rfl) rfl dX2_digit_11
def fX2_twoDigits (S : (Nat → Nat → Int32)) (a1 : Int32) : Int32 :=
  lt_ (fX2_digit S a1) fun x2 =>
  lt_ (fX2_digit S (a1 + 1)) fun x5 =>
  ((10 * x2) + x5)
set_option maxHeartbeats 4000000 in
set_option maxRecDepth 20000 in
theorem kX2_twoDigits {l : Launch} {G : UG} {V : uV} (hN : uMn G) {S : (Nat → Nat → Int32)} (hV : V 18 = S) {a1 : Int32} {r : Int32} (h : fX2_twoDigits S a1 = r) : uMi l G yX2_twoDigits cX2_twoDigits 2 .int (uR 2 42) [.ref (ga G 18 1), .int a1] V r V := by
  refine uMi_of rfl (Nat.le_of_ble_eq_true rfl) (fun p e s m args below meth c ls X hret hl M => ?_)
  have hl : lv_has ls 2 [(0, .ref (ga G 18 1)), (1, .int a1)] := hl
  have hx := X.hx
  have hb := X.hb
  unfold fX2_twoDigits at h
  refine lv_bipush (v := 10) hx hb dX2_twoDigits_0 (by decide) ?_
  refine lv_aload_n hx hb dX2_twoDigits_2 rfl (lv_at hl 0 rfl) ?_
  refine lv_iload_n hx hb dX2_twoDigits_3 rfl (lv_at hl 1 rfl) ?_
  obtain ⟨x2, e1, h⟩ := lt_e h
  refine u_cVi X M hl.1 (kX2_digit hN hV e1.symm) cw_X2_28 ⟨by decide, by decide⟩ (rc_X2 X M hN) rfl rfl (Nat.le_of_ble_eq_true rfl) ⟨Nat.zero_le _, Nat.zero_le _⟩ dX2_twoDigits_4 (fun H locs M n3 => ?_)
  refine lv_imul hx hb dX2_twoDigits_7 ?_
  refine lv_aload_n hx hb dX2_twoDigits_8 rfl (lv_at hl 0 rfl) ?_
  refine lv_iload_n hx hb dX2_twoDigits_9 rfl (lv_at hl 1 rfl) ?_
  refine lv_iconst (v := 1) hx hb dX2_twoDigits_10 (by decide) ?_
  refine lv_iadd hx hb dX2_twoDigits_11 ?_
  obtain ⟨x5, e4, h⟩ := lt_e h
  refine u_cVi X M hl.1 (kX2_digit hN hV e4.symm) cw_X2_28 ⟨by decide, by decide⟩ (rc_X2 X M hN) rfl rfl (Nat.le_of_ble_eq_true rfl) ⟨Nat.zero_le _, Nat.zero_le _⟩ dX2_twoDigits_12 (fun H locs M n6 => ?_)
  refine lv_iadd hx hb dX2_twoDigits_15 ?_
  exact u_iret X hret M h (rfl) rfl dX2_twoDigits_16
def fX2_add (S : (Nat → Nat → Int32)) (a1 : Int32) : Option (Int32 × (Nat → Nat → Int32)) :=
  lt_ (S 1 1) fun x1 =>
  lt_ (va_up S 3 (fput 120 (S 3) x1 a1)) fun S4 =>
  lt_ (S4 1 1) fun x6 =>
  lt_ (va_up S4 1 (upd (S4 1) 1 (x6 + 1))) fun S8 =>
  lt_ (S8 1 1) fun x10 =>
  some (x10, S8)
set_option maxHeartbeats 4000000 in
set_option maxRecDepth 20000 in
theorem kX2_add {l : Launch} {G : UG} {V : uV} (hN : uMn G) {S S' : (Nat → Nat → Int32)} {a1 : Int32} {r : Int32} (h : fX2_add S a1 = some (r, S')) : uMi l G yX2_add cX2_add 2 .int (uR 1 22) [.ref (ga G 18 1), .int a1] (va_up V 18 S) r (va_up V 18 S') := by
  refine uMi_of rfl (Nat.le_of_ble_eq_true rfl) (fun p e s m args below meth c ls X hret hl M => ?_)
  have hl : lv_has ls 2 [(0, .ref (ga G 18 1)), (1, .int a1)] := hl
  have hx := X.hx
  have hb := X.hb
  unfold fX2_add at h
  refine lv_aload_n hx hb dX2_add_0 rfl (lv_at hl 0 rfl) ?_
  refine gf_X2_14 X M hN dX2_add_1 ?_
  refine lv_aload_n hx hb dX2_add_4 rfl (lv_at hl 0 rfl) ?_
  obtain ⟨x1, e2, h⟩ := lt_e h
  refine gf_X2_20 X M hN (va_up_s V 18 _) e2 dX2_add_5 ?_
  refine lv_iload_n hx hb dX2_add_8 rfl (lv_at hl 1 rfl) ?_
  obtain ⟨S4, e3, h⟩ := lt_e h
  refine u_cVv X M hl.1 (kX6_putS (uRwN hN) e3) cw_X2_31 ⟨by decide, by decide⟩ (uR_recv X M (uRwN hN)) rfl rfl (Nat.le_of_ble_eq_true rfl) ⟨Nat.zero_le _, Nat.zero_le _⟩ dX2_add_9 (fun H locs M => ?_)
  refine lv_aload_n hx hb dX2_add_12 rfl (lv_at hl 0 rfl) ?_
  refine lv_dup hx hb dX2_add_13 rfl ?_
  obtain ⟨x6, e7, h⟩ := lt_e h
  refine gf_X2_20 X M hN (va_up_s V 18 _) e7 dX2_add_14 ?_
  refine lv_iconst (v := 1) hx hb dX2_add_17 (by decide) ?_
  refine lv_iadd hx hb dX2_add_18 ?_
  obtain ⟨S8, e9, h⟩ := lt_e h
  refine pf_X2_20 X M hN e9 dX2_add_19 (fun H locs M => ?_)
  refine lv_aload_n hx hb dX2_add_22 rfl (lv_at hl 0 rfl) ?_
  obtain ⟨x10, e11, h⟩ := lt_e h
  refine gf_X2_20 X M hN (va_up_s V 18 _) e11 dX2_add_23 ?_
  exact u_iret X hret M (rt2 h).1 (congrArg (va_up V 18) ((rt2 h).2)) rfl dX2_add_26
