theorem dX4_isEmpty_0 : decode cX4_isEmpty 0 = .ok (.aload_n 0, 1) := by decide +kernel
theorem dX4_isEmpty_1 : decode cX4_isEmpty 1 = .ok (.getfield 16, 3) := by decide +kernel
theorem dX4_isEmpty_4 : decode cX4_isEmpty 4 = .ok (.ifCond .ne 7, 3) := by decide +kernel
theorem dX4_isEmpty_7 : decode cX4_isEmpty 7 = .ok (.iconst 1, 1) := by decide +kernel
theorem dX4_isEmpty_8 : decode cX4_isEmpty 8 = .ok (.goto 4, 3) := by decide +kernel
theorem dX4_isEmpty_11 : decode cX4_isEmpty 11 = .ok (.iconst 0, 1) := by decide +kernel
theorem dX4_isEmpty_12 : decode cX4_isEmpty 12 = .ok (.ireturn, 1) := by decide +kernel
theorem dX4_clear_0 : decode cX4_clear 0 = .ok (.aload_n 0, 1) := by decide +kernel
theorem dX4_clear_1 : decode cX4_clear 1 = .ok (.iconst 0, 1) := by decide +kernel
theorem dX4_clear_2 : decode cX4_clear 2 = .ok (.putfield 20, 3) := by decide +kernel
theorem dX4_clear_5 : decode cX4_clear 5 = .ok (.aload_n 0, 1) := by decide +kernel
theorem dX4_clear_6 : decode cX4_clear 6 = .ok (.iconst 0, 1) := by decide +kernel
theorem dX4_clear_7 : decode cX4_clear 7 = .ok (.putfield 16, 3) := by decide +kernel
theorem dX4_clear_10 : decode cX4_clear 10 = .ok (.return_, 1) := by decide +kernel
theorem dX9_has_0 : decode cX9_has 0 = .ok (.iload_n 1, 1) := by decide +kernel
theorem dX9_has_1 : decode cX9_has 1 = .ok (.ifCond .eq 8, 3) := by decide +kernel
theorem dX9_has_4 : decode cX9_has 4 = .ok (.iload_n 1, 1) := by decide +kernel
theorem dX9_has_5 : decode cX9_has 5 = .ok (.iconst 1, 1) := by decide +kernel
theorem dX9_has_6 : decode cX9_has 6 = .ok (.if_icmp .ne 7, 3) := by decide +kernel
theorem dX9_has_9 : decode cX9_has 9 = .ok (.iconst 1, 1) := by decide +kernel
theorem dX9_has_10 : decode cX9_has 10 = .ok (.goto 4, 3) := by decide +kernel
theorem dX9_has_13 : decode cX9_has 13 = .ok (.iconst 0, 1) := by decide +kernel
theorem dX9_has_14 : decode cX9_has 14 = .ok (.ireturn, 1) := by decide +kernel
theorem dX9_isFilled_0 : decode cX9_isFilled 0 = .ok (.iload_n 1, 1) := by decide +kernel
theorem dX9_isFilled_1 : decode cX9_isFilled 1 = .ok (.ifCond .ne 10, 3) := by decide +kernel
theorem dX9_isFilled_4 : decode cX9_isFilled 4 = .ok (.aload_n 0, 1) := by decide +kernel
theorem dX9_isFilled_5 : decode cX9_isFilled 5 = .ok (.getfield 19, 3) := by decide +kernel
theorem dX9_isFilled_8 : decode cX9_isFilled 8 = .ok (.goto 7, 3) := by decide +kernel
theorem dX9_isFilled_11 : decode cX9_isFilled 11 = .ok (.aload_n 0, 1) := by decide +kernel
theorem dX9_isFilled_12 : decode cX9_isFilled 12 = .ok (.getfield 23, 3) := by decide +kernel
theorem dX9_isFilled_15 : decode cX9_isFilled 15 = .ok (.ireturn, 1) := by decide +kernel
theorem dX9_clear_0 : decode cX9_clear 0 = .ok (.aload_n 0, 1) := by decide +kernel
theorem dX9_clear_1 : decode cX9_clear 1 = .ok (.iconst 0, 1) := by decide +kernel
theorem dX9_clear_2 : decode cX9_clear 2 = .ok (.putfield 19, 3) := by decide +kernel
theorem dX9_clear_5 : decode cX9_clear 5 = .ok (.aload_n 0, 1) := by decide +kernel
theorem dX9_clear_6 : decode cX9_clear 6 = .ok (.iconst 0, 1) := by decide +kernel
theorem dX9_clear_7 : decode cX9_clear 7 = .ok (.putfield 23, 3) := by decide +kernel
theorem dX9_clear_10 : decode cX9_clear 10 = .ok (.return_, 1) := by decide +kernel
theorem dX4_push_0 : decode cX4_push 0 = .ok (.aload_n 0, 1) := by decide +kernel
theorem dX4_push_1 : decode cX4_push 1 = .ok (.getfield 20, 3) := by decide +kernel
theorem dX4_push_4 : decode cX4_push 4 = .ok (.aload_n 0, 1) := by decide +kernel
theorem dX4_push_5 : decode cX4_push 5 = .ok (.getfield 16, 3) := by decide +kernel
theorem dX4_push_8 : decode cX4_push 8 = .ok (.iadd, 1) := by decide +kernel
theorem dX4_push_9 : decode cX4_push 9 = .ok (.bipush 14, 2) := by decide +kernel
theorem dX4_push_11 : decode cX4_push 11 = .ok (.irem, 1) := by decide +kernel
theorem dX4_push_12 : decode cX4_push 12 = .ok (.istore_n 2, 1) := by decide +kernel
theorem dX4_push_13 : decode cX4_push 13 = .ok (.aload_n 0, 1) := by decide +kernel
theorem dX4_push_14 : decode cX4_push 14 = .ok (.getfield 16, 3) := by decide +kernel
theorem dX4_push_17 : decode cX4_push 17 = .ok (.bipush 14, 2) := by decide +kernel
theorem dX4_push_19 : decode cX4_push 19 = .ok (.if_icmp .ge 16, 3) := by decide +kernel
theorem dX4_push_22 : decode cX4_push 22 = .ok (.aload_n 0, 1) := by decide +kernel
theorem dX4_push_23 : decode cX4_push 23 = .ok (.dup, 1) := by decide +kernel
theorem dX4_push_24 : decode cX4_push 24 = .ok (.getfield 16, 3) := by decide +kernel
theorem dX4_push_27 : decode cX4_push 27 = .ok (.iconst 1, 1) := by decide +kernel
theorem dX4_push_28 : decode cX4_push 28 = .ok (.iadd, 1) := by decide +kernel
theorem dX4_push_29 : decode cX4_push 29 = .ok (.putfield 16, 3) := by decide +kernel
theorem dX4_push_32 : decode cX4_push 32 = .ok (.goto 16, 3) := by decide +kernel
theorem dX4_push_35 : decode cX4_push 35 = .ok (.aload_n 0, 1) := by decide +kernel
theorem dX4_push_36 : decode cX4_push 36 = .ok (.aload_n 0, 1) := by decide +kernel
theorem dX4_push_37 : decode cX4_push 37 = .ok (.getfield 20, 3) := by decide +kernel
theorem dX4_push_40 : decode cX4_push 40 = .ok (.iconst 1, 1) := by decide +kernel
theorem dX4_push_41 : decode cX4_push 41 = .ok (.iadd, 1) := by decide +kernel
theorem dX4_push_42 : decode cX4_push 42 = .ok (.bipush 14, 2) := by decide +kernel
theorem dX4_push_44 : decode cX4_push 44 = .ok (.irem, 1) := by decide +kernel
theorem dX4_push_45 : decode cX4_push 45 = .ok (.putfield 20, 3) := by decide +kernel
theorem dX4_push_48 : decode cX4_push 48 = .ok (.iload_n 2, 1) := by decide +kernel
theorem dX4_push_49 : decode cX4_push 49 = .ok (.ifCond .lt 31, 3) := by decide +kernel
theorem dX4_push_52 : decode cX4_push 52 = .ok (.iload_n 2, 1) := by decide +kernel
theorem dX4_push_53 : decode cX4_push 53 = .ok (.aload_n 0, 1) := by decide +kernel
theorem dX4_push_54 : decode cX4_push 54 = .ok (.getfield 11, 3) := by decide +kernel
theorem dX4_push_57 : decode cX4_push 57 = .ok (.arraylength, 1) := by decide +kernel
theorem dX4_push_58 : decode cX4_push 58 = .ok (.if_icmp .ge 22, 3) := by decide +kernel
theorem dX4_push_61 : decode cX4_push 61 = .ok (.aload_n 0, 1) := by decide +kernel
theorem dX4_push_62 : decode cX4_push 62 = .ok (.getfield 11, 3) := by decide +kernel
theorem dX4_push_65 : decode cX4_push 65 = .ok (.iload_n 2, 1) := by decide +kernel
theorem dX4_push_66 : decode cX4_push 66 = .ok (.aaload, 1) := by decide +kernel
theorem dX4_push_67 : decode cX4_push 67 = .ok (.ifnull 13, 3) := by decide +kernel
theorem dX4_push_70 : decode cX4_push 70 = .ok (.aload_n 0, 1) := by decide +kernel
theorem dX4_push_71 : decode cX4_push 71 = .ok (.getfield 11, 3) := by decide +kernel
theorem dX4_push_74 : decode cX4_push 74 = .ok (.iload_n 2, 1) := by decide +kernel
theorem dX4_push_75 : decode cX4_push 75 = .ok (.aaload, 1) := by decide +kernel
theorem dX4_push_76 : decode cX4_push 76 = .ok (.aload_n 1, 1) := by decide +kernel
theorem dX4_push_77 : decode cX4_push 77 = .ok (.invokevirtual 23, 3) := by decide +kernel
theorem dX4_push_80 : decode cX4_push 80 = .ok (.return_, 1) := by decide +kernel
theorem dX4_pop_0 : decode cX4_pop 0 = .ok (.aload_n 0, 1) := by decide +kernel
theorem dX4_pop_1 : decode cX4_pop 1 = .ok (.getfield 16, 3) := by decide +kernel
theorem dX4_pop_4 : decode cX4_pop 4 = .ok (.ifCond .le 58, 3) := by decide +kernel
theorem dX4_pop_7 : decode cX4_pop 7 = .ok (.aload_n 0, 1) := by decide +kernel
theorem dX4_pop_8 : decode cX4_pop 8 = .ok (.dup, 1) := by decide +kernel
theorem dX4_pop_9 : decode cX4_pop 9 = .ok (.getfield 16, 3) := by decide +kernel
theorem dX4_pop_12 : decode cX4_pop 12 = .ok (.iconst 1, 1) := by decide +kernel
theorem dX4_pop_13 : decode cX4_pop 13 = .ok (.isub, 1) := by decide +kernel
theorem dX4_pop_14 : decode cX4_pop 14 = .ok (.putfield 16, 3) := by decide +kernel
theorem dX4_pop_17 : decode cX4_pop 17 = .ok (.aload_n 0, 1) := by decide +kernel
theorem dX4_pop_18 : decode cX4_pop 18 = .ok (.getfield 20, 3) := by decide +kernel
theorem dX4_pop_21 : decode cX4_pop 21 = .ok (.aload_n 0, 1) := by decide +kernel
theorem dX4_pop_22 : decode cX4_pop 22 = .ok (.getfield 16, 3) := by decide +kernel
theorem dX4_pop_25 : decode cX4_pop 25 = .ok (.iadd, 1) := by decide +kernel
theorem dX4_pop_26 : decode cX4_pop 26 = .ok (.bipush 14, 2) := by decide +kernel
theorem dX4_pop_28 : decode cX4_pop 28 = .ok (.irem, 1) := by decide +kernel
theorem dX4_pop_29 : decode cX4_pop 29 = .ok (.istore_n 2, 1) := by decide +kernel
theorem dX4_pop_30 : decode cX4_pop 30 = .ok (.iload_n 2, 1) := by decide +kernel
theorem dX4_pop_31 : decode cX4_pop 31 = .ok (.ifCond .lt 31, 3) := by decide +kernel
theorem dX4_pop_34 : decode cX4_pop 34 = .ok (.iload_n 2, 1) := by decide +kernel
theorem dX4_pop_35 : decode cX4_pop 35 = .ok (.aload_n 0, 1) := by decide +kernel
theorem dX4_pop_36 : decode cX4_pop 36 = .ok (.getfield 11, 3) := by decide +kernel
theorem dX4_pop_39 : decode cX4_pop 39 = .ok (.arraylength, 1) := by decide +kernel
theorem dX4_pop_40 : decode cX4_pop 40 = .ok (.if_icmp .ge 22, 3) := by decide +kernel
theorem dX4_pop_43 : decode cX4_pop 43 = .ok (.aload_n 0, 1) := by decide +kernel
theorem dX4_pop_44 : decode cX4_pop 44 = .ok (.getfield 11, 3) := by decide +kernel
theorem dX4_pop_47 : decode cX4_pop 47 = .ok (.iload_n 2, 1) := by decide +kernel
theorem dX4_pop_48 : decode cX4_pop 48 = .ok (.aaload, 1) := by decide +kernel
theorem dX4_pop_49 : decode cX4_pop 49 = .ok (.ifnull 13, 3) := by decide +kernel
theorem dX4_pop_52 : decode cX4_pop 52 = .ok (.aload_n 1, 1) := by decide +kernel
theorem dX4_pop_53 : decode cX4_pop 53 = .ok (.aload_n 0, 1) := by decide +kernel
theorem dX4_pop_54 : decode cX4_pop 54 = .ok (.getfield 11, 3) := by decide +kernel
theorem dX4_pop_57 : decode cX4_pop 57 = .ok (.iload_n 2, 1) := by decide +kernel
theorem dX4_pop_58 : decode cX4_pop 58 = .ok (.aaload, 1) := by decide +kernel
theorem dX4_pop_59 : decode cX4_pop 59 = .ok (.invokevirtual 23, 3) := by decide +kernel
theorem dX4_pop_62 : decode cX4_pop 62 = .ok (.aload_n 0, 1) := by decide +kernel
theorem dX4_pop_63 : decode cX4_pop 63 = .ok (.getfield 16, 3) := by decide +kernel
theorem dX4_pop_66 : decode cX4_pop 66 = .ok (.ireturn, 1) := by decide +kernel
theorem dX9_store_0 : decode cX9_store 0 = .ok (.iload_n 1, 1) := by decide +kernel
theorem dX9_store_1 : decode cX9_store 1 = .ok (.ifCond .ne 19, 3) := by decide +kernel
theorem dX9_store_4 : decode cX9_store 4 = .ok (.aload_n 0, 1) := by decide +kernel
theorem dX9_store_5 : decode cX9_store 5 = .ok (.getfield 10, 3) := by decide +kernel
theorem dX9_store_8 : decode cX9_store 8 = .ok (.aload_n 2, 1) := by decide +kernel
theorem dX9_store_9 : decode cX9_store 9 = .ok (.invokevirtual 26, 3) := by decide +kernel
theorem dX9_store_12 : decode cX9_store 12 = .ok (.aload_n 0, 1) := by decide +kernel
theorem dX9_store_13 : decode cX9_store 13 = .ok (.iconst 1, 1) := by decide +kernel
theorem dX9_store_14 : decode cX9_store 14 = .ok (.putfield 19, 3) := by decide +kernel
theorem dX9_store_17 : decode cX9_store 17 = .ok (.goto 16, 3) := by decide +kernel
theorem dX9_store_20 : decode cX9_store 20 = .ok (.aload_n 0, 1) := by decide +kernel
theorem dX9_store_21 : decode cX9_store 21 = .ok (.getfield 16, 3) := by decide +kernel
theorem dX9_store_24 : decode cX9_store 24 = .ok (.aload_n 2, 1) := by decide +kernel
theorem dX9_store_25 : decode cX9_store 25 = .ok (.invokevirtual 26, 3) := by decide +kernel
theorem dX9_store_28 : decode cX9_store 28 = .ok (.aload_n 0, 1) := by decide +kernel
theorem dX9_store_29 : decode cX9_store 29 = .ok (.iconst 1, 1) := by decide +kernel
theorem dX9_store_30 : decode cX9_store 30 = .ok (.putfield 23, 3) := by decide +kernel
theorem dX9_store_33 : decode cX9_store 33 = .ok (.return_, 1) := by decide +kernel
theorem dX9_fetch_0 : decode cX9_fetch 0 = .ok (.aload_n 2, 1) := by decide +kernel
theorem dX9_fetch_1 : decode cX9_fetch 1 = .ok (.iload_n 1, 1) := by decide +kernel
theorem dX9_fetch_2 : decode cX9_fetch 2 = .ok (.ifCond .ne 10, 3) := by decide +kernel
theorem dX9_fetch_5 : decode cX9_fetch 5 = .ok (.aload_n 0, 1) := by decide +kernel
theorem dX9_fetch_6 : decode cX9_fetch 6 = .ok (.getfield 10, 3) := by decide +kernel
theorem dX9_fetch_9 : decode cX9_fetch 9 = .ok (.goto 7, 3) := by decide +kernel
theorem dX9_fetch_12 : decode cX9_fetch 12 = .ok (.aload_n 0, 1) := by decide +kernel
theorem dX9_fetch_13 : decode cX9_fetch 13 = .ok (.getfield 16, 3) := by decide +kernel
theorem dX9_fetch_16 : decode cX9_fetch 16 = .ok (.invokevirtual 26, 3) := by decide +kernel
theorem dX9_fetch_19 : decode cX9_fetch 19 = .ok (.return_, 1) := by decide +kernel
theorem yf_X10_copyFrom : (Cond.instanceMethod yX10_copyFrom) ∈ gtbl ∧ (Cond.selects RX10 yX10_copyFrom yX10_copyFrom) ∈ gtbl ∧ (Cond.initialized RX10) ∈ gtbl ∧ (Cond.code yX10_copyFrom cX10_copyFrom 2 none) ∈ gtbl ∧ (yX10_copyFrom.cls = RX10 ∧ yX10_copyFrom.cls ≠ "java/lang/invoke/MethodHandle" ∧ yX10_copyFrom.cls ≠ "java/lang/invoke/VarHandle" ∧ (parseMethodDescriptor yX10_copyFrom.desc).map (fun d => d.parameters.length) = some 1) := ⟨gt_in 768 (by decide +kernel) (by decide +kernel), gt_in 769 (by decide +kernel) (by decide +kernel), gt_in 11 (by decide +kernel) (by decide +kernel), gt_in 770 (by decide +kernel) (by decide +kernel), by decide +kernel⟩
theorem cw_X4_23 : uCW RX4 RX10 23 yX10_copyFrom cX10_copyFrom 2 none 1 := ⟨gt_in 767 (by decide +kernel) (by decide +kernel), yf_X10_copyFrom⟩
theorem cw_X9_26 : uCW RX9 RX10 26 yX10_copyFrom cX10_copyFrom 2 none 1 := ⟨gt_in 954 (by decide +kernel) (by decide +kernel), yf_X10_copyFrom⟩
def fX4_isEmpty (S : (Nat → Nat → Int32)) : Int32 :=
  lt_ (S 4 2) fun x1 =>
  if x1 = 0 then
    1
  else
    0
set_option maxHeartbeats 4000000 in
set_option maxRecDepth 20000 in
theorem kX4_isEmpty {l : Launch} {G : UG} {V : uV} (hN : uMn G) {S : (Nat → Nat → Int32)} (hV : V 18 = S)  {r : Int32} (h : fX4_isEmpty S = r) : uMi l G yX4_isEmpty cX4_isEmpty 1 .boolean (uR 0 0) [.ref (ga G 18 4)] V r V := by
  refine uMi_of rfl (Nat.le_of_ble_eq_true rfl) (fun p e s m args below meth c ls X hret hl M => ?_)
  have hl : lv_has ls 1 [(0, .ref (ga G 18 4))] := hl
  have hx := X.hx
  have hb := X.hb
  unfold fX4_isEmpty at h
  refine lv_aload_n hx hb dX4_isEmpty_0 rfl (lv_at hl 0 rfl) ?_
  obtain ⟨x1, e2, h⟩ := lt_e h
  refine gf_X4_16 X M hN hV e2 dX4_isEmpty_1 ?_
  refine lv_if_ne (tgt := 11) hx hb dX4_isEmpty_4 (by decide) (fun c3 => ?_) (fun c3 => ?_)
  · have h := it_f h c3
    refine lv_iconst (v := 0) hx hb dX4_isEmpty_11 (by decide) ?_
    exact u_iret X hret M h (rfl) rfl dX4_isEmpty_12
  · have h := it_t h c3
    refine lv_iconst (v := 1) hx hb dX4_isEmpty_7 (by decide) ?_
    refine lv_goto (tgt := 12) hx hb dX4_isEmpty_8 (by decide) ?_
    exact u_iret X hret M h (rfl) rfl dX4_isEmpty_12
def fX4_clear (S : (Nat → Nat → Int32)) : Option (Nat → Nat → Int32) :=
  lt_ (va_up S 4 (upd (S 4) 1 0)) fun S1 =>
  lt_ (va_up S1 4 (upd (S1 4) 2 0)) fun S3 =>
  some S3
set_option maxHeartbeats 4000000 in
set_option maxRecDepth 20000 in
theorem kX4_clear {l : Launch} {G : UG} {V : uV} (hN : uMn G) {S S' : (Nat → Nat → Int32)}  (h : fX4_clear S = some S') : uMv l G yX4_clear cX4_clear 1 (uR 0 0) [.ref (ga G 18 4)] (va_up V 18 S) (va_up V 18 S') := by
  refine uMv_of rfl (Nat.le_of_ble_eq_true rfl) (fun p e s m args below meth c ls X hret hl M => ?_)
  have hl : lv_has ls 1 [(0, .ref (ga G 18 4))] := hl
  have hx := X.hx
  have hb := X.hb
  unfold fX4_clear at h
  refine lv_aload_n hx hb dX4_clear_0 rfl (lv_at hl 0 rfl) ?_
  refine lv_iconst (v := 0) hx hb dX4_clear_1 (by decide) ?_
  obtain ⟨S1, e2, h⟩ := lt_e h
  refine pf_X4_20 X M hN e2 dX4_clear_2 (fun H locs M => ?_)
  refine lv_aload_n hx hb dX4_clear_5 rfl (lv_at hl 0 rfl) ?_
  refine lv_iconst (v := 0) hx hb dX4_clear_6 (by decide) ?_
  obtain ⟨S3, e4, h⟩ := lt_e h
  refine pf_X4_16 X M hN e4 dX4_clear_7 (fun H locs M => ?_)
  exact u_vret X hret M (congrArg (va_up V 18) (Option.some.inj h)) dX4_clear_10
def fX9_has (S : (Nat → Nat → Int32)) (a1 : Int32) : Int32 :=
  if a1 = 0 then
    1
  else
    if a1 = 1 then
      1
    else
      0
set_option maxHeartbeats 4000000 in
set_option maxRecDepth 20000 in
theorem kX9_has {l : Launch} {G : UG} {V : uV} (hN : uMn G) {S : (Nat → Nat → Int32)} (hV : V 18 = S) {a1 : Int32} {r : Int32} (h : fX9_has S a1 = r) : uMi l G yX9_has cX9_has 2 .boolean (uR 0 0) [.ref (ga G 18 6), .int a1] V r V := by
  refine uMi_of rfl (Nat.le_of_ble_eq_true rfl) (fun p e s m args below meth c ls X hret hl M => ?_)
  have hl : lv_has ls 2 [(0, .ref (ga G 18 6)), (1, .int a1)] := hl
  have hx := X.hx
  have hb := X.hb
  unfold fX9_has at h
  refine lv_iload_n hx hb dX9_has_0 rfl (lv_at hl 1 rfl) ?_
  refine lv_if_eq (tgt := 9) hx hb dX9_has_1 (by decide) (fun c1 => ?_) (fun c1 => ?_)
  · have h := it_t h c1
    refine lv_iconst (v := 1) hx hb dX9_has_9 (by decide) ?_
    refine lv_goto (tgt := 14) hx hb dX9_has_10 (by decide) ?_
    exact u_iret X hret M h (rfl) rfl dX9_has_14
  · have h := it_f h c1
    refine lv_iload_n hx hb dX9_has_4 rfl (lv_at hl 1 rfl) ?_
    refine lv_iconst (v := 1) hx hb dX9_has_5 (by decide) ?_
    refine lv_icmp_ne (tgt := 13) hx hb dX9_has_6 (by decide) (fun c2 => ?_) (fun c2 => ?_)
    · have h := it_f h c2
      refine lv_iconst (v := 0) hx hb dX9_has_13 (by decide) ?_
      exact u_iret X hret M h (rfl) rfl dX9_has_14
    · have h := it_t h c2
      refine lv_iconst (v := 1) hx hb dX9_has_9 (by decide) ?_
      refine lv_goto (tgt := 14) hx hb dX9_has_10 (by decide) ?_
      exact u_iret X hret M h (rfl) rfl dX9_has_14
def fX9_isFilled (S : (Nat → Nat → Int32)) (a1 : Int32) : Option Int32 :=
  if a1 = 0 then
    lt_ (S 6 2) fun x5 =>
    gd (isz x5) (some x5)
  else
    lt_ (S 6 3) fun x2 =>
    gd (isz x2) (some x2)
set_option maxHeartbeats 4000000 in
set_option maxRecDepth 20000 in
theorem kX9_isFilled {l : Launch} {G : UG} {V : uV} (hN : uMn G) {S : (Nat → Nat → Int32)} (hV : V 18 = S) {a1 : Int32} {r : Int32} (h : fX9_isFilled S a1 = some r) : uMi l G yX9_isFilled cX9_isFilled 2 .boolean (uR 0 0) [.ref (ga G 18 6), .int a1] V r V := by
  refine uMi_of rfl (Nat.le_of_ble_eq_true rfl) (fun p e s m args below meth c ls X hret hl M => ?_)
  have hl : lv_has ls 2 [(0, .ref (ga G 18 6)), (1, .int a1)] := hl
  have hx := X.hx
  have hb := X.hb
  unfold fX9_isFilled at h
  refine lv_iload_n hx hb dX9_isFilled_0 rfl (lv_at hl 1 rfl) ?_
  refine lv_if_ne (tgt := 11) hx hb dX9_isFilled_1 (by decide) (fun c1 => ?_) (fun c1 => ?_)
  · have h := it_f h c1
    refine lv_aload_n hx hb dX9_isFilled_11 rfl (lv_at hl 0 rfl) ?_
    obtain ⟨x2, e3, h⟩ := lt_e h
    refine gf_X9_23 X M hN hV e3 dX9_isFilled_12 ?_
    obtain ⟨z4, h⟩ := gd_e h
    exact u_iret X hret M (Option.some.inj h) (rfl) (isz_e z4) dX9_isFilled_15
  · have h := it_t h c1
    refine lv_aload_n hx hb dX9_isFilled_4 rfl (lv_at hl 0 rfl) ?_
    obtain ⟨x5, e6, h⟩ := lt_e h
    refine gf_X9_19 X M hN hV e6 dX9_isFilled_5 ?_
    refine lv_goto (tgt := 15) hx hb dX9_isFilled_8 (by decide) ?_
    obtain ⟨z7, h⟩ := gd_e h
    exact u_iret X hret M (Option.some.inj h) (rfl) (isz_e z7) dX9_isFilled_15
def fX9_clear (S : (Nat → Nat → Int32)) : Option (Nat → Nat → Int32) :=
  lt_ (va_up S 6 (upd (S 6) 2 0)) fun S1 =>
  lt_ (va_up S1 6 (upd (S1 6) 3 0)) fun S3 =>
  some S3
set_option maxHeartbeats 4000000 in
set_option maxRecDepth 20000 in
theorem kX9_clear {l : Launch} {G : UG} {V : uV} (hN : uMn G) {S S' : (Nat → Nat → Int32)}  (h : fX9_clear S = some S') : uMv l G yX9_clear cX9_clear 1 (uR 0 0) [.ref (ga G 18 6)] (va_up V 18 S) (va_up V 18 S') := by
  refine uMv_of rfl (Nat.le_of_ble_eq_true rfl) (fun p e s m args below meth c ls X hret hl M => ?_)
  have hl : lv_has ls 1 [(0, .ref (ga G 18 6))] := hl
  have hx := X.hx
  have hb := X.hb
  unfold fX9_clear at h
  refine lv_aload_n hx hb dX9_clear_0 rfl (lv_at hl 0 rfl) ?_
  refine lv_iconst (v := 0) hx hb dX9_clear_1 (by decide) ?_
  obtain ⟨S1, e2, h⟩ := lt_e h
  refine pf_X9_19 X M hN e2 rfl rfl dX9_clear_2 (fun H locs M => ?_)
  refine lv_aload_n hx hb dX9_clear_5 rfl (lv_at hl 0 rfl) ?_
  refine lv_iconst (v := 0) hx hb dX9_clear_6 (by decide) ?_
  obtain ⟨S3, e4, h⟩ := lt_e h
  refine pf_X9_23 X M hN e4 rfl rfl dX9_clear_7 (fun H locs M => ?_)
  exact u_vret X hret M (congrArg (va_up V 18) (Option.some.inj h)) dX9_clear_10
def fX4_push (V : uV) : Option uV :=
  lt_ ((V 18) 4 1) fun x1 =>
  lt_ ((V 18) 4 2) fun x3 =>
  lt_ (((x1 + x3) - (x1 + x3) / 14 * 14)) fun x5 =>
  lt_ ((V 18) 4 2) fun x7 =>
  if 14 ≤ x7 then
    lt_ ((V 18) 4 1) fun x10 =>
    lt_ (va_up (V 18) 4 (upd ((V 18) 4) 1 ((x10 + 1) - (x10 + 1) / 14 * 14))) fun S12 =>
    lt_ (va_up V 18 S12) fun V14 =>
    if x5 < 0 then
      some V14
    else
      if 14 ≤ x5 then
        some V14
      else
        gd (inb x5 14) <|
        lt_ (va_up V14 (x5.toNatClampNeg + 2) (V14 0)) fun V19 =>
        some V19
  else
    lt_ ((V 18) 4 2) fun x21 =>
    lt_ (va_up (V 18) 4 (upd ((V 18) 4) 2 (x21 + 1))) fun S23 =>
    lt_ (va_up V 18 S23) fun V25 =>
    if x5 < 0 then
      some V25
    else
      if 14 ≤ x5 then
        some V25
      else
        gd (inb x5 14) <|
        lt_ (va_up V25 (x5.toNatClampNeg + 2) (V25 0)) fun V30 =>
        some V30
set_option maxHeartbeats 4000000 in
set_option maxRecDepth 20000 in
theorem kX4_push {l : Launch} {G : UG} (hG : uAll G) {V V' : uV}  (h : fX4_push V = some V') : uMv l G yX4_push cX4_push 3 (uR 4 103) [.ref (ga G 18 4), .ref (ga G 0 0)] V V' := by
  refine uMv_of rfl (Nat.le_of_ble_eq_true rfl) (fun p e s m args below meth c ls X hret hl M => ?_)
  have hl : lv_has ls 3 [(0, .ref (ga G 18 4)), (1, .ref (ga G 0 0))] := hl
  have hx := X.hx
  have hb := X.hb
  unfold fX4_push at h
  refine lv_aload_n hx hb dX4_push_0 rfl (lv_at hl 0 rfl) ?_
  obtain ⟨x1, e2, h⟩ := lt_e h
  refine gf_X4_20 X M hG.2.1 rfl e2 dX4_push_1 ?_
  refine lv_aload_n hx hb dX4_push_4 rfl (lv_at hl 0 rfl) ?_
  obtain ⟨x3, e4, h⟩ := lt_e h
  refine gf_X4_16 X M hG.2.1 rfl e4 dX4_push_5 ?_
  refine lv_iadd hx hb dX4_push_8 ?_
  refine lv_bipush (v := 14) hx hb dX4_push_9 (by decide) ?_
  refine lv_irem hx hb dX4_push_11 (by decide) ?_
  obtain ⟨x5, e6, h⟩ := lt_e h
  refine u_topi e6 ?_
  refine lv_istore_n (lv' := [(2, .int x5), (0, .ref (ga G 18 4)), (1, .ref (ga G 0 0))]) hx hb dX4_push_12 rfl hl (by decide) rfl (fun ls hl => ?_)
  refine lv_aload_n hx hb dX4_push_13 rfl (lv_at hl 1 rfl) ?_
  obtain ⟨x7, e8, h⟩ := lt_e h
  refine gf_X4_16 X M hG.2.1 rfl e8 dX4_push_14 ?_
  refine lv_bipush (v := 14) hx hb dX4_push_17 (by decide) ?_
  refine lv_icmp_ge (tgt := 35) hx hb dX4_push_19 (by decide) (fun c9 => ?_) (fun c9 => ?_)
  · have h := it_t h c9
    refine lv_aload_n hx hb dX4_push_35 rfl (lv_at hl 1 rfl) ?_
    refine lv_aload_n hx hb dX4_push_36 rfl (lv_at hl 1 rfl) ?_
    obtain ⟨x10, e11, h⟩ := lt_e h
    refine gf_X4_20 X M hG.2.1 rfl e11 dX4_push_37 ?_
    refine lv_iconst (v := 1) hx hb dX4_push_40 (by decide) ?_
    refine lv_iadd hx hb dX4_push_41 ?_
    refine lv_bipush (v := 14) hx hb dX4_push_42 (by decide) ?_
    refine lv_irem hx hb dX4_push_44 (by decide) ?_
    obtain ⟨S12, e13, h⟩ := lt_e h
    have M := um_in 18 M
    refine pf_X4_20 X M hG.2.1 e13 dX4_push_45 (fun H locs M => ?_)
    obtain ⟨V14, e15, h⟩ := lt_e h
    rw [← e15] at M
    refine lv_iload_n hx hb dX4_push_48 rfl (lv_at hl 0 rfl) ?_
    refine lv_if_lt (tgt := 80) hx hb dX4_push_49 (by decide) (fun c16 => ?_) (fun c16 => ?_)
    · have h := it_t h c16
      exact u_vret X hret M (Option.some.inj h) dX4_push_80
    · have h := it_f h c16
      refine lv_iload_n hx hb dX4_push_52 rfl (lv_at hl 0 rfl) ?_
      refine lv_aload_n hx hb dX4_push_53 rfl (lv_at hl 1 rfl) ?_
      refine gf_X4_11 X M hG.2.1 dX4_push_54 ?_
      refine u_lenq X M (hG.2.1 5 (by decide)) (uSh_mn 5 _) rfl dX4_push_57 ?_
      refine lv_icmp_ge (tgt := 80) hx hb dX4_push_58 (by decide) (fun c17 => ?_) (fun c17 => ?_)
      · have h := it_t h c17
        exact u_vret X hret M (Option.some.inj h) dX4_push_80
      · have h := it_f h c17
        refine lv_aload_n hx hb dX4_push_61 rfl (lv_at hl 1 rfl) ?_
        refine gf_X4_11 X M hG.2.1 dX4_push_62 ?_
        refine lv_iload_n hx hb dX4_push_65 rfl (lv_at hl 0 rfl) ?_
        obtain ⟨g18, h⟩ := gd_e h
        refine u_aldq X M (hG.2.1 5 (by decide)) (uSh_mn 5 _) (inb_e g18) rfl dX4_push_66 ?_
        refine lv_ifnull hx hb dX4_push_67 ?_
        refine lv_aload_n hx hb dX4_push_70 rfl (lv_at hl 1 rfl) ?_
        refine gf_X4_11 X M hG.2.1 dX4_push_71 ?_
        refine lv_iload_n hx hb dX4_push_74 rfl (lv_at hl 0 rfl) ?_
        refine u_aldq X M (hG.2.1 5 (by decide)) (uSh_mn 5 _) (inb_e g18) rfl dX4_push_75 ?_
        refine lv_aload_n hx hb dX4_push_76 rfl (lv_at hl 2 rfl) ?_
        obtain ⟨V19, e20, h⟩ := lt_e h
        refine u_cVv X M hl.1 (kX10_copyFromV (hG.1 _ (lt18 g18)) (hG.1 0 (by decide)) (by omega) hG.2.2 e20) cw_X4_23 ⟨by decide, by decide⟩ (rc_X10 X M (hG.1 _ (lt18 g18))) rfl rfl (Nat.le_of_ble_eq_true rfl) ⟨Nat.zero_le _, Nat.zero_le _⟩ dX4_push_77 (fun H locs M => ?_)
        exact u_vret X hret M (Option.some.inj h) dX4_push_80
  · have h := it_f h c9
    refine lv_aload_n hx hb dX4_push_22 rfl (lv_at hl 1 rfl) ?_
    refine lv_dup hx hb dX4_push_23 rfl ?_
    obtain ⟨x21, e22, h⟩ := lt_e h
    refine gf_X4_16 X M hG.2.1 rfl e22 dX4_push_24 ?_
    refine lv_iconst (v := 1) hx hb dX4_push_27 (by decide) ?_
    refine lv_iadd hx hb dX4_push_28 ?_
    obtain ⟨S23, e24, h⟩ := lt_e h
    have M := um_in 18 M
    refine pf_X4_16 X M hG.2.1 e24 dX4_push_29 (fun H locs M => ?_)
    obtain ⟨V25, e26, h⟩ := lt_e h
    rw [← e26] at M
    refine lv_goto (tgt := 48) hx hb dX4_push_32 (by decide) ?_
    refine lv_iload_n hx hb dX4_push_48 rfl (lv_at hl 0 rfl) ?_
    refine lv_if_lt (tgt := 80) hx hb dX4_push_49 (by decide) (fun c27 => ?_) (fun c27 => ?_)
    · have h := it_t h c27
      exact u_vret X hret M (Option.some.inj h) dX4_push_80
    · have h := it_f h c27
      refine lv_iload_n hx hb dX4_push_52 rfl (lv_at hl 0 rfl) ?_
      refine lv_aload_n hx hb dX4_push_53 rfl (lv_at hl 1 rfl) ?_
      refine gf_X4_11 X M hG.2.1 dX4_push_54 ?_
      refine u_lenq X M (hG.2.1 5 (by decide)) (uSh_mn 5 _) rfl dX4_push_57 ?_
      refine lv_icmp_ge (tgt := 80) hx hb dX4_push_58 (by decide) (fun c28 => ?_) (fun c28 => ?_)
      · have h := it_t h c28
        exact u_vret X hret M (Option.some.inj h) dX4_push_80
      · have h := it_f h c28
        refine lv_aload_n hx hb dX4_push_61 rfl (lv_at hl 1 rfl) ?_
        refine gf_X4_11 X M hG.2.1 dX4_push_62 ?_
        refine lv_iload_n hx hb dX4_push_65 rfl (lv_at hl 0 rfl) ?_
        obtain ⟨g29, h⟩ := gd_e h
        refine u_aldq X M (hG.2.1 5 (by decide)) (uSh_mn 5 _) (inb_e g29) rfl dX4_push_66 ?_
        refine lv_ifnull hx hb dX4_push_67 ?_
        refine lv_aload_n hx hb dX4_push_70 rfl (lv_at hl 1 rfl) ?_
        refine gf_X4_11 X M hG.2.1 dX4_push_71 ?_
        refine lv_iload_n hx hb dX4_push_74 rfl (lv_at hl 0 rfl) ?_
        refine u_aldq X M (hG.2.1 5 (by decide)) (uSh_mn 5 _) (inb_e g29) rfl dX4_push_75 ?_
        refine lv_aload_n hx hb dX4_push_76 rfl (lv_at hl 2 rfl) ?_
        obtain ⟨V30, e31, h⟩ := lt_e h
        refine u_cVv X M hl.1 (kX10_copyFromV (hG.1 _ (lt18 g29)) (hG.1 0 (by decide)) (by omega) hG.2.2 e31) cw_X4_23 ⟨by decide, by decide⟩ (rc_X10 X M (hG.1 _ (lt18 g29))) rfl rfl (Nat.le_of_ble_eq_true rfl) ⟨Nat.zero_le _, Nat.zero_le _⟩ dX4_push_77 (fun H locs M => ?_)
        exact u_vret X hret M (Option.some.inj h) dX4_push_80
def fX4_pop (V : uV) : Option (Int32 × uV) :=
  lt_ ((V 18) 4 2) fun x1 =>
  if x1 ≤ 0 then
    lt_ ((V 18) 4 2) fun x4 =>
    some (x4, V)
  else
    lt_ ((V 18) 4 2) fun x6 =>
    lt_ (va_up (V 18) 4 (upd ((V 18) 4) 2 (x6 - 1))) fun S8 =>
    lt_ (va_up V 18 S8) fun V10 =>
    lt_ ((V10 18) 4 1) fun x12 =>
    lt_ ((V10 18) 4 2) fun x14 =>
    lt_ (((x12 + x14) - (x12 + x14) / 14 * 14)) fun x16 =>
    if x16 < 0 then
      lt_ ((V10 18) 4 2) fun x19 =>
      some (x19, V10)
    else
      if 14 ≤ x16 then
        lt_ ((V10 18) 4 2) fun x22 =>
        some (x22, V10)
      else
        gd (inb x16 14) <|
        lt_ (va_up V10 0 (V10 (x16.toNatClampNeg + 2))) fun V25 =>
        lt_ ((V25 18) 4 2) fun x27 =>
        some (x27, V25)
set_option maxHeartbeats 4000000 in
set_option maxRecDepth 20000 in
theorem kX4_pop {l : Launch} {G : UG} (hG : uAll G) {V V' : uV}  {r : Int32} (h : fX4_pop V = some (r, V')) : uMi l G yX4_pop cX4_pop 3 .int (uR 4 103) [.ref (ga G 18 4), .ref (ga G 0 0)] V r V' := by
  refine uMi_of rfl (Nat.le_of_ble_eq_true rfl) (fun p e s m args below meth c ls X hret hl M => ?_)
  have hl : lv_has ls 3 [(0, .ref (ga G 18 4)), (1, .ref (ga G 0 0))] := hl
  have hx := X.hx
  have hb := X.hb
  unfold fX4_pop at h
  refine lv_aload_n hx hb dX4_pop_0 rfl (lv_at hl 0 rfl) ?_
  obtain ⟨x1, e2, h⟩ := lt_e h
  refine gf_X4_16 X M hG.2.1 rfl e2 dX4_pop_1 ?_
  refine lv_if_le (tgt := 62) hx hb dX4_pop_4 (by decide) (fun c3 => ?_) (fun c3 => ?_)
  · have h := it_t h c3
    refine lv_aload_n hx hb dX4_pop_62 rfl (lv_at hl 0 rfl) ?_
    obtain ⟨x4, e5, h⟩ := lt_e h
    refine gf_X4_16 X M hG.2.1 rfl e5 dX4_pop_63 ?_
    exact u_iret X hret M (rt2 h).1 ((rt2 h).2) rfl dX4_pop_66
  · have h := it_f h c3
    refine lv_aload_n hx hb dX4_pop_7 rfl (lv_at hl 0 rfl) ?_
    refine lv_dup hx hb dX4_pop_8 rfl ?_
    obtain ⟨x6, e7, h⟩ := lt_e h
    refine gf_X4_16 X M hG.2.1 rfl e7 dX4_pop_9 ?_
    refine lv_iconst (v := 1) hx hb dX4_pop_12 (by decide) ?_
    refine lv_isub hx hb dX4_pop_13 ?_
    obtain ⟨S8, e9, h⟩ := lt_e h
    have M := um_in 18 M
    refine pf_X4_16 X M hG.2.1 e9 dX4_pop_14 (fun H locs M => ?_)
    obtain ⟨V10, e11, h⟩ := lt_e h
    rw [← e11] at M
    refine lv_aload_n hx hb dX4_pop_17 rfl (lv_at hl 0 rfl) ?_
    obtain ⟨x12, e13, h⟩ := lt_e h
    refine gf_X4_20 X M hG.2.1 rfl e13 dX4_pop_18 ?_
    refine lv_aload_n hx hb dX4_pop_21 rfl (lv_at hl 0 rfl) ?_
    obtain ⟨x14, e15, h⟩ := lt_e h
    refine gf_X4_16 X M hG.2.1 rfl e15 dX4_pop_22 ?_
    refine lv_iadd hx hb dX4_pop_25 ?_
    refine lv_bipush (v := 14) hx hb dX4_pop_26 (by decide) ?_
    refine lv_irem hx hb dX4_pop_28 (by decide) ?_
    obtain ⟨x16, e17, h⟩ := lt_e h
    refine u_topi e17 ?_
    refine lv_istore_n (lv' := [(2, .int x16), (0, .ref (ga G 18 4)), (1, .ref (ga G 0 0))]) hx hb dX4_pop_29 rfl hl (by decide) rfl (fun ls hl => ?_)
    refine lv_iload_n hx hb dX4_pop_30 rfl (lv_at hl 0 rfl) ?_
    refine lv_if_lt (tgt := 62) hx hb dX4_pop_31 (by decide) (fun c18 => ?_) (fun c18 => ?_)
    · have h := it_t h c18
      refine lv_aload_n hx hb dX4_pop_62 rfl (lv_at hl 1 rfl) ?_
      obtain ⟨x19, e20, h⟩ := lt_e h
      refine gf_X4_16 X M hG.2.1 rfl e20 dX4_pop_63 ?_
      exact u_iret X hret M (rt2 h).1 ((rt2 h).2) rfl dX4_pop_66
    · have h := it_f h c18
      refine lv_iload_n hx hb dX4_pop_34 rfl (lv_at hl 0 rfl) ?_
      refine lv_aload_n hx hb dX4_pop_35 rfl (lv_at hl 1 rfl) ?_
      refine gf_X4_11 X M hG.2.1 dX4_pop_36 ?_
      refine u_lenq X M (hG.2.1 5 (by decide)) (uSh_mn 5 _) rfl dX4_pop_39 ?_
      refine lv_icmp_ge (tgt := 62) hx hb dX4_pop_40 (by decide) (fun c21 => ?_) (fun c21 => ?_)
      · have h := it_t h c21
        refine lv_aload_n hx hb dX4_pop_62 rfl (lv_at hl 1 rfl) ?_
        obtain ⟨x22, e23, h⟩ := lt_e h
        refine gf_X4_16 X M hG.2.1 rfl e23 dX4_pop_63 ?_
        exact u_iret X hret M (rt2 h).1 ((rt2 h).2) rfl dX4_pop_66
      · have h := it_f h c21
        refine lv_aload_n hx hb dX4_pop_43 rfl (lv_at hl 1 rfl) ?_
        refine gf_X4_11 X M hG.2.1 dX4_pop_44 ?_
        refine lv_iload_n hx hb dX4_pop_47 rfl (lv_at hl 0 rfl) ?_
        obtain ⟨g24, h⟩ := gd_e h
        refine u_aldq X M (hG.2.1 5 (by decide)) (uSh_mn 5 _) (inb_e g24) rfl dX4_pop_48 ?_
        refine lv_ifnull hx hb dX4_pop_49 ?_
        refine lv_aload_n hx hb dX4_pop_52 rfl (lv_at hl 2 rfl) ?_
        refine lv_aload_n hx hb dX4_pop_53 rfl (lv_at hl 1 rfl) ?_
        refine gf_X4_11 X M hG.2.1 dX4_pop_54 ?_
        refine lv_iload_n hx hb dX4_pop_57 rfl (lv_at hl 0 rfl) ?_
        refine u_aldq X M (hG.2.1 5 (by decide)) (uSh_mn 5 _) (inb_e g24) rfl dX4_pop_58 ?_
        obtain ⟨V25, e26, h⟩ := lt_e h
        refine u_cVv X M hl.1 (kX10_copyFromV (hG.1 0 (by decide)) (hG.1 _ (lt18 g24)) (by omega) hG.2.2 e26) cw_X4_23 ⟨by decide, by decide⟩ (rc_X10 X M (hG.1 0 (by decide))) rfl rfl (Nat.le_of_ble_eq_true rfl) ⟨Nat.zero_le _, Nat.zero_le _⟩ dX4_pop_59 (fun H locs M => ?_)
        refine lv_aload_n hx hb dX4_pop_62 rfl (lv_at hl 1 rfl) ?_
        obtain ⟨x27, e28, h⟩ := lt_e h
        refine gf_X4_16 X M hG.2.1 rfl e28 dX4_pop_63 ?_
        exact u_iret X hret M (rt2 h).1 ((rt2 h).2) rfl dX4_pop_66
def fX9_store (V : uV) (a1 : Int32) : Option uV :=
  if a1 = 0 then
    lt_ (va_up V 16 (V 0)) fun V8 =>
    lt_ (va_up (V8 18) 6 (upd ((V8 18) 6) 2 1)) fun S10 =>
    lt_ (va_up V8 18 S10) fun V12 =>
    some V12
  else
    lt_ (va_up V 17 (V 0)) fun V2 =>
    lt_ (va_up (V2 18) 6 (upd ((V2 18) 6) 3 1)) fun S4 =>
    lt_ (va_up V2 18 S4) fun V6 =>
    some V6
set_option maxHeartbeats 4000000 in
set_option maxRecDepth 20000 in
theorem kX9_store {l : Launch} {G : UG} (hG : uAll G) {V V' : uV} {a1 : Int32} (h : fX9_store V a1 = some V') : uMv l G yX9_store cX9_store 3 (uR 4 103) [.ref (ga G 18 6), .int a1, .ref (ga G 0 0)] V V' := by
  refine uMv_of rfl (Nat.le_of_ble_eq_true rfl) (fun p e s m args below meth c ls X hret hl M => ?_)
  have hl : lv_has ls 3 [(0, .ref (ga G 18 6)), (1, .int a1), (2, .ref (ga G 0 0))] := hl
  have hx := X.hx
  have hb := X.hb
  unfold fX9_store at h
  refine lv_iload_n hx hb dX9_store_0 rfl (lv_at hl 1 rfl) ?_
  refine lv_if_ne (tgt := 20) hx hb dX9_store_1 (by decide) (fun c1 => ?_) (fun c1 => ?_)
  · have h := it_f h c1
    refine lv_aload_n hx hb dX9_store_20 rfl (lv_at hl 0 rfl) ?_
    refine gf_X9_16 X M hG.2.1 dX9_store_21 ?_
    refine lv_aload_n hx hb dX9_store_24 rfl (lv_at hl 2 rfl) ?_
    obtain ⟨V2, e3, h⟩ := lt_e h
    refine u_cVv X M hl.1 (kX10_copyFromV (hG.1 17 (by decide)) (hG.1 0 (by decide)) (by decide) hG.2.2 e3) cw_X9_26 ⟨by decide, by decide⟩ (rc_X10 X M (hG.1 17 (by decide))) rfl rfl (Nat.le_of_ble_eq_true rfl) ⟨Nat.zero_le _, Nat.zero_le _⟩ dX9_store_25 (fun H locs M => ?_)
    refine lv_aload_n hx hb dX9_store_28 rfl (lv_at hl 0 rfl) ?_
    refine lv_iconst (v := 1) hx hb dX9_store_29 (by decide) ?_
    obtain ⟨S4, e5, h⟩ := lt_e h
    have M := um_in 18 M
    refine pf_X9_23 X M hG.2.1 e5 rfl rfl dX9_store_30 (fun H locs M => ?_)
    obtain ⟨V6, e7, h⟩ := lt_e h
    rw [← e7] at M
    exact u_vret X hret M (Option.some.inj h) dX9_store_33
  · have h := it_t h c1
    refine lv_aload_n hx hb dX9_store_4 rfl (lv_at hl 0 rfl) ?_
    refine gf_X9_10 X M hG.2.1 dX9_store_5 ?_
    refine lv_aload_n hx hb dX9_store_8 rfl (lv_at hl 2 rfl) ?_
    obtain ⟨V8, e9, h⟩ := lt_e h
    refine u_cVv X M hl.1 (kX10_copyFromV (hG.1 16 (by decide)) (hG.1 0 (by decide)) (by decide) hG.2.2 e9) cw_X9_26 ⟨by decide, by decide⟩ (rc_X10 X M (hG.1 16 (by decide))) rfl rfl (Nat.le_of_ble_eq_true rfl) ⟨Nat.zero_le _, Nat.zero_le _⟩ dX9_store_9 (fun H locs M => ?_)
    refine lv_aload_n hx hb dX9_store_12 rfl (lv_at hl 0 rfl) ?_
    refine lv_iconst (v := 1) hx hb dX9_store_13 (by decide) ?_
    obtain ⟨S10, e11, h⟩ := lt_e h
    have M := um_in 18 M
    refine pf_X9_19 X M hG.2.1 e11 rfl rfl dX9_store_14 (fun H locs M => ?_)
    obtain ⟨V12, e13, h⟩ := lt_e h
    rw [← e13] at M
    refine lv_goto (tgt := 33) hx hb dX9_store_17 (by decide) ?_
    exact u_vret X hret M (Option.some.inj h) dX9_store_33
def fX9_fetch (V : uV) (a1 : Int32) : Option uV :=
  if a1 = 0 then
    lt_ (va_up V 0 (V 16)) fun V4 =>
    some V4
  else
    lt_ (va_up V 0 (V 17)) fun V2 =>
    some V2
set_option maxHeartbeats 4000000 in
set_option maxRecDepth 20000 in
theorem kX9_fetch {l : Launch} {G : UG} (hG : uAll G) {V V' : uV} {a1 : Int32} (h : fX9_fetch V a1 = some V') : uMv l G yX9_fetch cX9_fetch 3 (uR 4 103) [.ref (ga G 18 6), .int a1, .ref (ga G 0 0)] V V' := by
  refine uMv_of rfl (Nat.le_of_ble_eq_true rfl) (fun p e s m args below meth c ls X hret hl M => ?_)
  have hl : lv_has ls 3 [(0, .ref (ga G 18 6)), (1, .int a1), (2, .ref (ga G 0 0))] := hl
  have hx := X.hx
  have hb := X.hb
  unfold fX9_fetch at h
  refine lv_aload_n hx hb dX9_fetch_0 rfl (lv_at hl 2 rfl) ?_
  refine lv_iload_n hx hb dX9_fetch_1 rfl (lv_at hl 1 rfl) ?_
  refine lv_if_ne (tgt := 12) hx hb dX9_fetch_2 (by decide) (fun c1 => ?_) (fun c1 => ?_)
  · have h := it_f h c1
    refine lv_aload_n hx hb dX9_fetch_12 rfl (lv_at hl 0 rfl) ?_
    refine gf_X9_16 X M hG.2.1 dX9_fetch_13 ?_
    obtain ⟨V2, e3, h⟩ := lt_e h
    refine u_cVv X M hl.1 (kX10_copyFromV (hG.1 0 (by decide)) (hG.1 17 (by decide)) (by decide) hG.2.2 e3) cw_X9_26 ⟨by decide, by decide⟩ (rc_X10 X M (hG.1 0 (by decide))) rfl rfl (Nat.le_of_ble_eq_true rfl) ⟨Nat.zero_le _, Nat.zero_le _⟩ dX9_fetch_16 (fun H locs M => ?_)
    exact u_vret X hret M (Option.some.inj h) dX9_fetch_19
  · have h := it_t h c1
    refine lv_aload_n hx hb dX9_fetch_5 rfl (lv_at hl 0 rfl) ?_
    refine gf_X9_10 X M hG.2.1 dX9_fetch_6 ?_
    refine lv_goto (tgt := 16) hx hb dX9_fetch_9 (by decide) ?_
    obtain ⟨V4, e5, h⟩ := lt_e h
    refine u_cVv X M hl.1 (kX10_copyFromV (hG.1 0 (by decide)) (hG.1 16 (by decide)) (by decide) hG.2.2 e5) cw_X9_26 ⟨by decide, by decide⟩ (rc_X10 X M (hG.1 0 (by decide))) rfl rfl (Nat.le_of_ble_eq_true rfl) ⟨Nat.zero_le _, Nat.zero_le _⟩ dX9_fetch_16 (fun H locs M => ?_)
    exact u_vret X hret M (Option.some.inj h) dX9_fetch_19
