theorem dX0_copyFrom_0 : decode cX0_copyFrom 0 = .ok (.aload_n 0, 1) := by decide +kernel
theorem dX0_copyFrom_1 : decode cX0_copyFrom 1 = .ok (.aload_n 1, 1) := by decide +kernel
theorem dX0_copyFrom_2 : decode cX0_copyFrom 2 = .ok (.getfield 27, 3) := by decide +kernel
theorem dX0_copyFrom_5 : decode cX0_copyFrom 5 = .ok (.putfield 27, 3) := by decide +kernel
theorem dX0_copyFrom_8 : decode cX0_copyFrom 8 = .ok (.aload_n 0, 1) := by decide +kernel
theorem dX0_copyFrom_9 : decode cX0_copyFrom 9 = .ok (.getfield 14, 3) := by decide +kernel
theorem dX0_copyFrom_12 : decode cX0_copyFrom 12 = .ok (.aload_n 1, 1) := by decide +kernel
theorem dX0_copyFrom_13 : decode cX0_copyFrom 13 = .ok (.getfield 14, 3) := by decide +kernel
theorem dX0_copyFrom_16 : decode cX0_copyFrom 16 = .ok (.invokevirtual 31, 3) := by decide +kernel
theorem dX0_copyFrom_19 : decode cX0_copyFrom 19 = .ok (.aload_n 0, 1) := by decide +kernel
theorem dX0_copyFrom_20 : decode cX0_copyFrom 20 = .ok (.getfield 18, 3) := by decide +kernel
theorem dX0_copyFrom_23 : decode cX0_copyFrom 23 = .ok (.aload_n 1, 1) := by decide +kernel
theorem dX0_copyFrom_24 : decode cX0_copyFrom 24 = .ok (.getfield 18, 3) := by decide +kernel
theorem dX0_copyFrom_27 : decode cX0_copyFrom 27 = .ok (.invokevirtual 31, 3) := by decide +kernel
theorem dX0_copyFrom_30 : decode cX0_copyFrom 30 = .ok (.aload_n 0, 1) := by decide +kernel
theorem dX0_copyFrom_31 : decode cX0_copyFrom 31 = .ok (.getfield 21, 3) := by decide +kernel
theorem dX0_copyFrom_34 : decode cX0_copyFrom 34 = .ok (.aload_n 1, 1) := by decide +kernel
theorem dX0_copyFrom_35 : decode cX0_copyFrom 35 = .ok (.getfield 21, 3) := by decide +kernel
theorem dX0_copyFrom_38 : decode cX0_copyFrom 38 = .ok (.invokevirtual 31, 3) := by decide +kernel
theorem dX0_copyFrom_41 : decode cX0_copyFrom 41 = .ok (.aload_n 0, 1) := by decide +kernel
theorem dX0_copyFrom_42 : decode cX0_copyFrom 42 = .ok (.getfield 24, 3) := by decide +kernel
theorem dX0_copyFrom_45 : decode cX0_copyFrom 45 = .ok (.aload_n 1, 1) := by decide +kernel
theorem dX0_copyFrom_46 : decode cX0_copyFrom 46 = .ok (.getfield 24, 3) := by decide +kernel
theorem dX0_copyFrom_49 : decode cX0_copyFrom 49 = .ok (.invokevirtual 31, 3) := by decide +kernel
theorem dX0_copyFrom_52 : decode cX0_copyFrom 52 = .ok (.return_, 1) := by decide +kernel
theorem dX5_copyFrom_0 : decode cX5_copyFrom 0 = .ok (.aload_n 0, 1) := by decide +kernel
theorem dX5_copyFrom_1 : decode cX5_copyFrom 1 = .ok (.aload_n 1, 1) := by decide +kernel
theorem dX5_copyFrom_2 : decode cX5_copyFrom 2 = .ok (.getfield 32, 3) := by decide +kernel
theorem dX5_copyFrom_5 : decode cX5_copyFrom 5 = .ok (.putfield 32, 3) := by decide +kernel
theorem dX5_copyFrom_8 : decode cX5_copyFrom 8 = .ok (.aload_n 0, 1) := by decide +kernel
theorem dX5_copyFrom_9 : decode cX5_copyFrom 9 = .ok (.getfield 16, 3) := by decide +kernel
theorem dX5_copyFrom_12 : decode cX5_copyFrom 12 = .ok (.aload_n 1, 1) := by decide +kernel
theorem dX5_copyFrom_13 : decode cX5_copyFrom 13 = .ok (.getfield 16, 3) := by decide +kernel
theorem dX5_copyFrom_16 : decode cX5_copyFrom 16 = .ok (.invokevirtual 39, 3) := by decide +kernel
theorem dX5_copyFrom_19 : decode cX5_copyFrom 19 = .ok (.aload_n 0, 1) := by decide +kernel
theorem dX5_copyFrom_20 : decode cX5_copyFrom 20 = .ok (.getfield 20, 3) := by decide +kernel
theorem dX5_copyFrom_23 : decode cX5_copyFrom 23 = .ok (.aload_n 1, 1) := by decide +kernel
theorem dX5_copyFrom_24 : decode cX5_copyFrom 24 = .ok (.getfield 20, 3) := by decide +kernel
theorem dX5_copyFrom_27 : decode cX5_copyFrom 27 = .ok (.invokevirtual 39, 3) := by decide +kernel
theorem dX5_copyFrom_30 : decode cX5_copyFrom 30 = .ok (.aload_n 0, 1) := by decide +kernel
theorem dX5_copyFrom_31 : decode cX5_copyFrom 31 = .ok (.getfield 23, 3) := by decide +kernel
theorem dX5_copyFrom_34 : decode cX5_copyFrom 34 = .ok (.aload_n 1, 1) := by decide +kernel
theorem dX5_copyFrom_35 : decode cX5_copyFrom 35 = .ok (.getfield 23, 3) := by decide +kernel
theorem dX5_copyFrom_38 : decode cX5_copyFrom 38 = .ok (.invokevirtual 39, 3) := by decide +kernel
theorem dX5_copyFrom_41 : decode cX5_copyFrom 41 = .ok (.aload_n 0, 1) := by decide +kernel
theorem dX5_copyFrom_42 : decode cX5_copyFrom 42 = .ok (.getfield 26, 3) := by decide +kernel
theorem dX5_copyFrom_45 : decode cX5_copyFrom 45 = .ok (.aload_n 1, 1) := by decide +kernel
theorem dX5_copyFrom_46 : decode cX5_copyFrom 46 = .ok (.getfield 26, 3) := by decide +kernel
theorem dX5_copyFrom_49 : decode cX5_copyFrom 49 = .ok (.invokevirtual 39, 3) := by decide +kernel
theorem dX5_copyFrom_52 : decode cX5_copyFrom 52 = .ok (.aload_n 0, 1) := by decide +kernel
theorem dX5_copyFrom_53 : decode cX5_copyFrom 53 = .ok (.getfield 29, 3) := by decide +kernel
theorem dX5_copyFrom_56 : decode cX5_copyFrom 56 = .ok (.aload_n 1, 1) := by decide +kernel
theorem dX5_copyFrom_57 : decode cX5_copyFrom 57 = .ok (.getfield 29, 3) := by decide +kernel
theorem dX5_copyFrom_60 : decode cX5_copyFrom 60 = .ok (.invokevirtual 39, 3) := by decide +kernel
theorem dX5_copyFrom_63 : decode cX5_copyFrom 63 = .ok (.return_, 1) := by decide +kernel
theorem dX3_copyFrom_0 : decode cX3_copyFrom 0 = .ok (.aload_n 0, 1) := by decide +kernel
theorem dX3_copyFrom_1 : decode cX3_copyFrom 1 = .ok (.getfield 14, 3) := by decide +kernel
theorem dX3_copyFrom_4 : decode cX3_copyFrom 4 = .ok (.aload_n 1, 1) := by decide +kernel
theorem dX3_copyFrom_5 : decode cX3_copyFrom 5 = .ok (.getfield 14, 3) := by decide +kernel
theorem dX3_copyFrom_8 : decode cX3_copyFrom 8 = .ok (.invokevirtual 42, 3) := by decide +kernel
theorem dX3_copyFrom_11 : decode cX3_copyFrom 11 = .ok (.aload_n 0, 1) := by decide +kernel
theorem dX3_copyFrom_12 : decode cX3_copyFrom 12 = .ok (.getfield 21, 3) := by decide +kernel
theorem dX3_copyFrom_15 : decode cX3_copyFrom 15 = .ok (.aload_n 1, 1) := by decide +kernel
theorem dX3_copyFrom_16 : decode cX3_copyFrom 16 = .ok (.getfield 21, 3) := by decide +kernel
theorem dX3_copyFrom_19 : decode cX3_copyFrom 19 = .ok (.invokevirtual 42, 3) := by decide +kernel
theorem dX3_copyFrom_22 : decode cX3_copyFrom 22 = .ok (.aload_n 0, 1) := by decide +kernel
theorem dX3_copyFrom_23 : decode cX3_copyFrom 23 = .ok (.getfield 18, 3) := by decide +kernel
theorem dX3_copyFrom_26 : decode cX3_copyFrom 26 = .ok (.aload_n 1, 1) := by decide +kernel
theorem dX3_copyFrom_27 : decode cX3_copyFrom 27 = .ok (.getfield 18, 3) := by decide +kernel
theorem dX3_copyFrom_30 : decode cX3_copyFrom 30 = .ok (.invokevirtual 42, 3) := by decide +kernel
theorem dX3_copyFrom_33 : decode cX3_copyFrom 33 = .ok (.aload_n 0, 1) := by decide +kernel
theorem dX3_copyFrom_34 : decode cX3_copyFrom 34 = .ok (.getfield 24, 3) := by decide +kernel
theorem dX3_copyFrom_37 : decode cX3_copyFrom 37 = .ok (.aload_n 1, 1) := by decide +kernel
theorem dX3_copyFrom_38 : decode cX3_copyFrom 38 = .ok (.getfield 24, 3) := by decide +kernel
theorem dX3_copyFrom_41 : decode cX3_copyFrom 41 = .ok (.invokevirtual 42, 3) := by decide +kernel
theorem dX3_copyFrom_44 : decode cX3_copyFrom 44 = .ok (.aload_n 0, 1) := by decide +kernel
theorem dX3_copyFrom_45 : decode cX3_copyFrom 45 = .ok (.getfield 27, 3) := by decide +kernel
theorem dX3_copyFrom_48 : decode cX3_copyFrom 48 = .ok (.aload_n 1, 1) := by decide +kernel
theorem dX3_copyFrom_49 : decode cX3_copyFrom 49 = .ok (.getfield 27, 3) := by decide +kernel
theorem dX3_copyFrom_52 : decode cX3_copyFrom 52 = .ok (.invokevirtual 42, 3) := by decide +kernel
theorem dX3_copyFrom_55 : decode cX3_copyFrom 55 = .ok (.aload_n 0, 1) := by decide +kernel
theorem dX3_copyFrom_56 : decode cX3_copyFrom 56 = .ok (.getfield 30, 3) := by decide +kernel
theorem dX3_copyFrom_59 : decode cX3_copyFrom 59 = .ok (.aload_n 1, 1) := by decide +kernel
theorem dX3_copyFrom_60 : decode cX3_copyFrom 60 = .ok (.getfield 30, 3) := by decide +kernel
theorem dX3_copyFrom_63 : decode cX3_copyFrom 63 = .ok (.invokevirtual 42, 3) := by decide +kernel
theorem dX3_copyFrom_66 : decode cX3_copyFrom 66 = .ok (.aload_n 0, 1) := by decide +kernel
theorem dX3_copyFrom_67 : decode cX3_copyFrom 67 = .ok (.getfield 33, 3) := by decide +kernel
theorem dX3_copyFrom_70 : decode cX3_copyFrom 70 = .ok (.aload_n 1, 1) := by decide +kernel
theorem dX3_copyFrom_71 : decode cX3_copyFrom 71 = .ok (.getfield 33, 3) := by decide +kernel
theorem dX3_copyFrom_74 : decode cX3_copyFrom 74 = .ok (.invokevirtual 42, 3) := by decide +kernel
theorem dX3_copyFrom_77 : decode cX3_copyFrom 77 = .ok (.aload_n 0, 1) := by decide +kernel
theorem dX3_copyFrom_78 : decode cX3_copyFrom 78 = .ok (.getfield 36, 3) := by decide +kernel
theorem dX3_copyFrom_81 : decode cX3_copyFrom 81 = .ok (.aload_n 1, 1) := by decide +kernel
theorem dX3_copyFrom_82 : decode cX3_copyFrom 82 = .ok (.getfield 36, 3) := by decide +kernel
theorem dX3_copyFrom_85 : decode cX3_copyFrom 85 = .ok (.invokevirtual 42, 3) := by decide +kernel
theorem dX3_copyFrom_88 : decode cX3_copyFrom 88 = .ok (.return_, 1) := by decide +kernel
theorem dX10_copyFrom_0 : decode cX10_copyFrom 0 = .ok (.aload_n 0, 1) := by decide +kernel
theorem dX10_copyFrom_1 : decode cX10_copyFrom 1 = .ok (.getfield 12, 3) := by decide +kernel
theorem dX10_copyFrom_4 : decode cX10_copyFrom 4 = .ok (.aload_n 1, 1) := by decide +kernel
theorem dX10_copyFrom_5 : decode cX10_copyFrom 5 = .ok (.getfield 12, 3) := by decide +kernel
theorem dX10_copyFrom_8 : decode cX10_copyFrom 8 = .ok (.invokevirtual 70, 3) := by decide +kernel
theorem dX10_copyFrom_11 : decode cX10_copyFrom 11 = .ok (.aload_n 0, 1) := by decide +kernel
theorem dX10_copyFrom_12 : decode cX10_copyFrom 12 = .ok (.getfield 21, 3) := by decide +kernel
theorem dX10_copyFrom_15 : decode cX10_copyFrom 15 = .ok (.aload_n 1, 1) := by decide +kernel
theorem dX10_copyFrom_16 : decode cX10_copyFrom 16 = .ok (.getfield 21, 3) := by decide +kernel
theorem dX10_copyFrom_19 : decode cX10_copyFrom 19 = .ok (.invokevirtual 74, 3) := by decide +kernel
theorem dX10_copyFrom_22 : decode cX10_copyFrom 22 = .ok (.aload_n 0, 1) := by decide +kernel
theorem dX10_copyFrom_23 : decode cX10_copyFrom 23 = .ok (.getfield 28, 3) := by decide +kernel
theorem dX10_copyFrom_26 : decode cX10_copyFrom 26 = .ok (.aload_n 1, 1) := by decide +kernel
theorem dX10_copyFrom_27 : decode cX10_copyFrom 27 = .ok (.getfield 28, 3) := by decide +kernel
theorem dX10_copyFrom_30 : decode cX10_copyFrom 30 = .ok (.invokevirtual 77, 3) := by decide +kernel
theorem dX10_copyFrom_33 : decode cX10_copyFrom 33 = .ok (.aload_n 0, 1) := by decide +kernel
theorem dX10_copyFrom_34 : decode cX10_copyFrom 34 = .ok (.getfield 37, 3) := by decide +kernel
theorem dX10_copyFrom_37 : decode cX10_copyFrom 37 = .ok (.aload_n 1, 1) := by decide +kernel
theorem dX10_copyFrom_38 : decode cX10_copyFrom 38 = .ok (.getfield 37, 3) := by decide +kernel
theorem dX10_copyFrom_41 : decode cX10_copyFrom 41 = .ok (.invokevirtual 80, 3) := by decide +kernel
theorem dX10_copyFrom_44 : decode cX10_copyFrom 44 = .ok (.aload_n 0, 1) := by decide +kernel
theorem dX10_copyFrom_45 : decode cX10_copyFrom 45 = .ok (.aload_n 1, 1) := by decide +kernel
theorem dX10_copyFrom_46 : decode cX10_copyFrom 46 = .ok (.getfield 51, 3) := by decide +kernel
theorem dX10_copyFrom_49 : decode cX10_copyFrom 49 = .ok (.putfield 51, 3) := by decide +kernel
theorem dX10_copyFrom_52 : decode cX10_copyFrom 52 = .ok (.aload_n 0, 1) := by decide +kernel
theorem dX10_copyFrom_53 : decode cX10_copyFrom 53 = .ok (.aload_n 1, 1) := by decide +kernel
theorem dX10_copyFrom_54 : decode cX10_copyFrom 54 = .ok (.getfield 55, 3) := by decide +kernel
theorem dX10_copyFrom_57 : decode cX10_copyFrom 57 = .ok (.putfield 55, 3) := by decide +kernel
theorem dX10_copyFrom_60 : decode cX10_copyFrom 60 = .ok (.aload_n 0, 1) := by decide +kernel
theorem dX10_copyFrom_61 : decode cX10_copyFrom 61 = .ok (.aload_n 1, 1) := by decide +kernel
theorem dX10_copyFrom_62 : decode cX10_copyFrom 62 = .ok (.getfield 58, 3) := by decide +kernel
theorem dX10_copyFrom_65 : decode cX10_copyFrom 65 = .ok (.putfield 58, 3) := by decide +kernel
theorem dX10_copyFrom_68 : decode cX10_copyFrom 68 = .ok (.aload_n 0, 1) := by decide +kernel
theorem dX10_copyFrom_69 : decode cX10_copyFrom 69 = .ok (.aload_n 1, 1) := by decide +kernel
theorem dX10_copyFrom_70 : decode cX10_copyFrom 70 = .ok (.getfield 61, 3) := by decide +kernel
theorem dX10_copyFrom_73 : decode cX10_copyFrom 73 = .ok (.putfield 61, 3) := by decide +kernel
theorem dX10_copyFrom_76 : decode cX10_copyFrom 76 = .ok (.aload_n 0, 1) := by decide +kernel
theorem dX10_copyFrom_77 : decode cX10_copyFrom 77 = .ok (.aload_n 1, 1) := by decide +kernel
theorem dX10_copyFrom_78 : decode cX10_copyFrom 78 = .ok (.getfield 64, 3) := by decide +kernel
theorem dX10_copyFrom_81 : decode cX10_copyFrom 81 = .ok (.putfield 64, 3) := by decide +kernel
theorem dX10_copyFrom_84 : decode cX10_copyFrom 84 = .ok (.aload_n 0, 1) := by decide +kernel
theorem dX10_copyFrom_85 : decode cX10_copyFrom 85 = .ok (.aload_n 1, 1) := by decide +kernel
theorem dX10_copyFrom_86 : decode cX10_copyFrom 86 = .ok (.getfield 67, 3) := by decide +kernel
theorem dX10_copyFrom_89 : decode cX10_copyFrom 89 = .ok (.putfield 67, 3) := by decide +kernel
theorem dX10_copyFrom_92 : decode cX10_copyFrom 92 = .ok (.return_, 1) := by decide +kernel
theorem yf_X6_copyFrom : (Cond.instanceMethod yX6_copyFrom) ∈ gtbl ∧ (Cond.selects RX6 yX6_copyFrom yX6_copyFrom) ∈ gtbl ∧ (Cond.initialized RX6) ∈ gtbl ∧ (Cond.code yX6_copyFrom cX6_copyFrom 2 none) ∈ gtbl ∧ (yX6_copyFrom.cls = RX6 ∧ yX6_copyFrom.cls ≠ "java/lang/invoke/MethodHandle" ∧ yX6_copyFrom.cls ≠ "java/lang/invoke/VarHandle" ∧ (parseMethodDescriptor yX6_copyFrom.desc).map (fun d => d.parameters.length) = some 1) := ⟨gt_in 776 (by decide +kernel) (by decide +kernel), gt_in 777 (by decide +kernel) (by decide +kernel), gt_in 13 (by decide +kernel) (by decide +kernel), gt_in 778 (by decide +kernel) (by decide +kernel), by decide +kernel⟩
theorem cw_X0_31 : uCW RX0 RX6 31 yX6_copyFrom cX6_copyFrom 2 none 1 := ⟨gt_in 775 (by decide +kernel) (by decide +kernel), yf_X6_copyFrom⟩
theorem yf_X0_copyFrom : (Cond.instanceMethod yX0_copyFrom) ∈ gtbl ∧ (Cond.selects RX0 yX0_copyFrom yX0_copyFrom) ∈ gtbl ∧ (Cond.initialized RX0) ∈ gtbl ∧ (Cond.code yX0_copyFrom cX0_copyFrom 2 none) ∈ gtbl ∧ (yX0_copyFrom.cls = RX0 ∧ yX0_copyFrom.cls ≠ "java/lang/invoke/MethodHandle" ∧ yX0_copyFrom.cls ≠ "java/lang/invoke/VarHandle" ∧ (parseMethodDescriptor yX0_copyFrom.desc).map (fun d => d.parameters.length) = some 1) := ⟨gt_in 772 (by decide +kernel) (by decide +kernel), gt_in 773 (by decide +kernel) (by decide +kernel), gt_in 12 (by decide +kernel) (by decide +kernel), gt_in 774 (by decide +kernel) (by decide +kernel), by decide +kernel⟩
theorem cw_X10_70 : uCW RX10 RX0 70 yX0_copyFrom cX0_copyFrom 2 none 1 := ⟨gt_in 771 (by decide +kernel) (by decide +kernel), yf_X0_copyFrom⟩
theorem yf_X5_copyFrom : (Cond.instanceMethod yX5_copyFrom) ∈ gtbl ∧ (Cond.selects RX5 yX5_copyFrom yX5_copyFrom) ∈ gtbl ∧ (Cond.initialized RX5) ∈ gtbl ∧ (Cond.code yX5_copyFrom cX5_copyFrom 2 none) ∈ gtbl ∧ (yX5_copyFrom.cls = RX5 ∧ yX5_copyFrom.cls ≠ "java/lang/invoke/MethodHandle" ∧ yX5_copyFrom.cls ≠ "java/lang/invoke/VarHandle" ∧ (parseMethodDescriptor yX5_copyFrom.desc).map (fun d => d.parameters.length) = some 1) := ⟨gt_in 786 (by decide +kernel) (by decide +kernel), gt_in 787 (by decide +kernel) (by decide +kernel), gt_in 15 (by decide +kernel) (by decide +kernel), gt_in 788 (by decide +kernel) (by decide +kernel), by decide +kernel⟩
theorem cw_X10_74 : uCW RX10 RX5 74 yX5_copyFrom cX5_copyFrom 2 none 1 := ⟨gt_in 785 (by decide +kernel) (by decide +kernel), yf_X5_copyFrom⟩
theorem yf_X3_copyFrom : (Cond.instanceMethod yX3_copyFrom) ∈ gtbl ∧ (Cond.selects RX3 yX3_copyFrom yX3_copyFrom) ∈ gtbl ∧ (Cond.initialized RX3) ∈ gtbl ∧ (Cond.code yX3_copyFrom cX3_copyFrom 2 none) ∈ gtbl ∧ (yX3_copyFrom.cls = RX3 ∧ yX3_copyFrom.cls ≠ "java/lang/invoke/MethodHandle" ∧ yX3_copyFrom.cls ≠ "java/lang/invoke/VarHandle" ∧ (parseMethodDescriptor yX3_copyFrom.desc).map (fun d => d.parameters.length) = some 1) := ⟨gt_in 791 (by decide +kernel) (by decide +kernel), gt_in 792 (by decide +kernel) (by decide +kernel), gt_in 16 (by decide +kernel) (by decide +kernel), gt_in 793 (by decide +kernel) (by decide +kernel), by decide +kernel⟩
theorem cw_X10_77 : uCW RX10 RX3 77 yX3_copyFrom cX3_copyFrom 2 none 1 := ⟨gt_in 790 (by decide +kernel) (by decide +kernel), yf_X3_copyFrom⟩
theorem cw_X10_80 : uCW RX10 RX6 80 yX6_copyFrom cX6_copyFrom 2 none 1 := ⟨gt_in 795 (by decide +kernel) (by decide +kernel), yf_X6_copyFrom⟩
theorem cw_X3_42 : uCW RX3 RX6 42 yX6_copyFrom cX6_copyFrom 2 none 1 := ⟨gt_in 794 (by decide +kernel) (by decide +kernel), yf_X6_copyFrom⟩
theorem cw_X5_39 : uCW RX5 RX6 39 yX6_copyFrom cX6_copyFrom 2 none 1 := ⟨gt_in 789 (by decide +kernel) (by decide +kernel), yf_X6_copyFrom⟩
def fX0_copyFrom (S : (Nat → Nat → Int32)) (U : (Nat → Nat → Int32)) : Option (Nat → Nat → Int32) :=
  lt_ (U 1 0) fun x1 =>
  lt_ (va_up S 1 (upd (S 1) 0 x1)) fun S3 =>
  lt_ (va_up S3 3 (U 3)) fun S6 =>
  lt_ (va_up S6 5 (U 5)) fun S8 =>
  lt_ (va_up S8 7 (U 7)) fun S10 =>
  lt_ (va_up S10 9 (U 9)) fun S12 =>
  some S12
set_option maxHeartbeats 4000000 in
set_option maxRecDepth 20000 in
theorem kX0_copyFrom {l : Launch} {G : UG} {V : uV} {t : Nat} {t2 : Nat} (hS : uSt G t) (hS2 : uSt G t2) (hne : t2 ≠ t) {U : (Nat → Nat → Int32)} (hU : V t2 = U) {S S' : (Nat → Nat → Int32)}  (h : fX0_copyFrom S U = some S') : uMv l G yX0_copyFrom cX0_copyFrom 2 (uR 2 61) [.ref (ga G t 1), .ref (ga G t2 1)] (va_up V t S) (va_up V t S') := by
  refine uMv_of rfl (Nat.le_of_ble_eq_true rfl) (fun p e s m args below meth c ls X hret hl M => ?_)
  have hl : lv_has ls 2 [(0, .ref (ga G t 1)), (1, .ref (ga G t2 1))] := hl
  have hx := X.hx
  have hb := X.hb
  unfold fX0_copyFrom at h
  refine lv_aload_n hx hb dX0_copyFrom_0 rfl (lv_at hl 0 rfl) ?_
  refine lv_aload_n hx hb dX0_copyFrom_1 rfl (lv_at hl 1 rfl) ?_
  obtain ⟨x1, e2, h⟩ := lt_e h
  refine gf_X0_27 X M hS2 ((va_up_n hne).trans hU) e2 dX0_copyFrom_2 ?_
  obtain ⟨S3, e4, h⟩ := lt_e h
  refine pf_X0_27 X M hS e4 dX0_copyFrom_5 (fun H locs M => ?_)
  refine lv_aload_n hx hb dX0_copyFrom_8 rfl (lv_at hl 0 rfl) ?_
  refine gf_X0_14 X M hS dX0_copyFrom_9 ?_
  refine lv_aload_n hx hb dX0_copyFrom_12 rfl (lv_at hl 1 rfl) ?_
  refine gf_X0_14 X M hS2 dX0_copyFrom_13 ?_
  obtain ⟨S6, e5, h⟩ := lt_e h
  refine u_cVv X M hl.1 (kX6_copyFromS (uRw2 hS) (uRw2 hS2) hne hU e5) cw_X0_31 ⟨by decide, by decide⟩ (uR_recv X M (uRw2 hS)) rfl rfl (Nat.le_of_ble_eq_true rfl) ⟨Nat.zero_le _, Nat.zero_le _⟩ dX0_copyFrom_16 (fun H locs M => ?_)
  refine lv_aload_n hx hb dX0_copyFrom_19 rfl (lv_at hl 0 rfl) ?_
  refine gf_X0_18 X M hS dX0_copyFrom_20 ?_
  refine lv_aload_n hx hb dX0_copyFrom_23 rfl (lv_at hl 1 rfl) ?_
  refine gf_X0_18 X M hS2 dX0_copyFrom_24 ?_
  obtain ⟨S8, e7, h⟩ := lt_e h
  refine u_cVv X M hl.1 (kX6_copyFromS (uRw4 hS) (uRw4 hS2) hne hU e7) cw_X0_31 ⟨by decide, by decide⟩ (uR_recv X M (uRw4 hS)) rfl rfl (Nat.le_of_ble_eq_true rfl) ⟨Nat.zero_le _, Nat.zero_le _⟩ dX0_copyFrom_27 (fun H locs M => ?_)
  refine lv_aload_n hx hb dX0_copyFrom_30 rfl (lv_at hl 0 rfl) ?_
  refine gf_X0_21 X M hS dX0_copyFrom_31 ?_
  refine lv_aload_n hx hb dX0_copyFrom_34 rfl (lv_at hl 1 rfl) ?_
  refine gf_X0_21 X M hS2 dX0_copyFrom_35 ?_
  obtain ⟨S10, e9, h⟩ := lt_e h
  refine u_cVv X M hl.1 (kX6_copyFromS (uRw6 hS) (uRw6 hS2) hne hU e9) cw_X0_31 ⟨by decide, by decide⟩ (uR_recv X M (uRw6 hS)) rfl rfl (Nat.le_of_ble_eq_true rfl) ⟨Nat.zero_le _, Nat.zero_le _⟩ dX0_copyFrom_38 (fun H locs M => ?_)
  refine lv_aload_n hx hb dX0_copyFrom_41 rfl (lv_at hl 0 rfl) ?_
  refine gf_X0_24 X M hS dX0_copyFrom_42 ?_
  refine lv_aload_n hx hb dX0_copyFrom_45 rfl (lv_at hl 1 rfl) ?_
  refine gf_X0_24 X M hS2 dX0_copyFrom_46 ?_
  obtain ⟨S12, e11, h⟩ := lt_e h
  refine u_cVv X M hl.1 (kX6_copyFromS (uRw8 hS) (uRw8 hS2) hne hU e11) cw_X0_31 ⟨by decide, by decide⟩ (uR_recv X M (uRw8 hS)) rfl rfl (Nat.le_of_ble_eq_true rfl) ⟨Nat.zero_le _, Nat.zero_le _⟩ dX0_copyFrom_49 (fun H locs M => ?_)
  exact u_vret X hret M (congrArg (va_up V t) (Option.some.inj h)) dX0_copyFrom_52
def fX5_copyFrom (S : (Nat → Nat → Int32)) (U : (Nat → Nat → Int32)) : Option (Nat → Nat → Int32) :=
  lt_ (U 10 0) fun x1 =>
  lt_ (va_up S 10 (upd (S 10) 0 x1)) fun S3 =>
  lt_ (va_up S3 12 (U 12)) fun S6 =>
  lt_ (va_up S6 14 (U 14)) fun S8 =>
  lt_ (va_up S8 16 (U 16)) fun S10 =>
  lt_ (va_up S10 18 (U 18)) fun S12 =>
  lt_ (va_up S12 20 (U 20)) fun S14 =>
  some S14
set_option maxHeartbeats 4000000 in
set_option maxRecDepth 20000 in
theorem kX5_copyFrom {l : Launch} {G : UG} {V : uV} {t : Nat} {t2 : Nat} (hS : uSt G t) (hS2 : uSt G t2) (hne : t2 ≠ t) {U : (Nat → Nat → Int32)} (hU : V t2 = U) {S S' : (Nat → Nat → Int32)}  (h : fX5_copyFrom S U = some S') : uMv l G yX5_copyFrom cX5_copyFrom 2 (uR 2 61) [.ref (ga G t 10), .ref (ga G t2 10)] (va_up V t S) (va_up V t S') := by
  refine uMv_of rfl (Nat.le_of_ble_eq_true rfl) (fun p e s m args below meth c ls X hret hl M => ?_)
  have hl : lv_has ls 2 [(0, .ref (ga G t 10)), (1, .ref (ga G t2 10))] := hl
  have hx := X.hx
  have hb := X.hb
  unfold fX5_copyFrom at h
  refine lv_aload_n hx hb dX5_copyFrom_0 rfl (lv_at hl 0 rfl) ?_
  refine lv_aload_n hx hb dX5_copyFrom_1 rfl (lv_at hl 1 rfl) ?_
  obtain ⟨x1, e2, h⟩ := lt_e h
  refine gf_X5_32 X M hS2 ((va_up_n hne).trans hU) e2 dX5_copyFrom_2 ?_
  obtain ⟨S3, e4, h⟩ := lt_e h
  refine pf_X5_32 X M hS e4 dX5_copyFrom_5 (fun H locs M => ?_)
  refine lv_aload_n hx hb dX5_copyFrom_8 rfl (lv_at hl 0 rfl) ?_
  refine gf_X5_16 X M hS dX5_copyFrom_9 ?_
  refine lv_aload_n hx hb dX5_copyFrom_12 rfl (lv_at hl 1 rfl) ?_
  refine gf_X5_16 X M hS2 dX5_copyFrom_13 ?_
  obtain ⟨S6, e5, h⟩ := lt_e h
  refine u_cVv X M hl.1 (kX6_copyFromS (uRw11 hS) (uRw11 hS2) hne hU e5) cw_X5_39 ⟨by decide, by decide⟩ (uR_recv X M (uRw11 hS)) rfl rfl (Nat.le_of_ble_eq_true rfl) ⟨Nat.zero_le _, Nat.zero_le _⟩ dX5_copyFrom_16 (fun H locs M => ?_)
  refine lv_aload_n hx hb dX5_copyFrom_19 rfl (lv_at hl 0 rfl) ?_
  refine gf_X5_20 X M hS dX5_copyFrom_20 ?_
  refine lv_aload_n hx hb dX5_copyFrom_23 rfl (lv_at hl 1 rfl) ?_
  refine gf_X5_20 X M hS2 dX5_copyFrom_24 ?_
  obtain ⟨S8, e7, h⟩ := lt_e h
  refine u_cVv X M hl.1 (kX6_copyFromS (uRw13 hS) (uRw13 hS2) hne hU e7) cw_X5_39 ⟨by decide, by decide⟩ (uR_recv X M (uRw13 hS)) rfl rfl (Nat.le_of_ble_eq_true rfl) ⟨Nat.zero_le _, Nat.zero_le _⟩ dX5_copyFrom_27 (fun H locs M => ?_)
  refine lv_aload_n hx hb dX5_copyFrom_30 rfl (lv_at hl 0 rfl) ?_
  refine gf_X5_23 X M hS dX5_copyFrom_31 ?_
  refine lv_aload_n hx hb dX5_copyFrom_34 rfl (lv_at hl 1 rfl) ?_
  refine gf_X5_23 X M hS2 dX5_copyFrom_35 ?_
  obtain ⟨S10, e9, h⟩ := lt_e h
  refine u_cVv X M hl.1 (kX6_copyFromS (uRw15 hS) (uRw15 hS2) hne hU e9) cw_X5_39 ⟨by decide, by decide⟩ (uR_recv X M (uRw15 hS)) rfl rfl (Nat.le_of_ble_eq_true rfl) ⟨Nat.zero_le _, Nat.zero_le _⟩ dX5_copyFrom_38 (fun H locs M => ?_)
  refine lv_aload_n hx hb dX5_copyFrom_41 rfl (lv_at hl 0 rfl) ?_
  refine gf_X5_26 X M hS dX5_copyFrom_42 ?_
  refine lv_aload_n hx hb dX5_copyFrom_45 rfl (lv_at hl 1 rfl) ?_
  refine gf_X5_26 X M hS2 dX5_copyFrom_46 ?_
  obtain ⟨S12, e11, h⟩ := lt_e h
  refine u_cVv X M hl.1 (kX6_copyFromS (uRw17 hS) (uRw17 hS2) hne hU e11) cw_X5_39 ⟨by decide, by decide⟩ (uR_recv X M (uRw17 hS)) rfl rfl (Nat.le_of_ble_eq_true rfl) ⟨Nat.zero_le _, Nat.zero_le _⟩ dX5_copyFrom_49 (fun H locs M => ?_)
  refine lv_aload_n hx hb dX5_copyFrom_52 rfl (lv_at hl 0 rfl) ?_
  refine gf_X5_29 X M hS dX5_copyFrom_53 ?_
  refine lv_aload_n hx hb dX5_copyFrom_56 rfl (lv_at hl 1 rfl) ?_
  refine gf_X5_29 X M hS2 dX5_copyFrom_57 ?_
  obtain ⟨S14, e13, h⟩ := lt_e h
  refine u_cVv X M hl.1 (kX6_copyFromS (uRw19 hS) (uRw19 hS2) hne hU e13) cw_X5_39 ⟨by decide, by decide⟩ (uR_recv X M (uRw19 hS)) rfl rfl (Nat.le_of_ble_eq_true rfl) ⟨Nat.zero_le _, Nat.zero_le _⟩ dX5_copyFrom_60 (fun H locs M => ?_)
  exact u_vret X hret M (congrArg (va_up V t) (Option.some.inj h)) dX5_copyFrom_63
def fX3_copyFrom (S : (Nat → Nat → Int32)) (U : (Nat → Nat → Int32)) : Option (Nat → Nat → Int32) :=
  lt_ (va_up S 23 (U 23)) fun S2 =>
  lt_ (va_up S2 27 (U 27)) fun S4 =>
  lt_ (va_up S4 25 (U 25)) fun S6 =>
  lt_ (va_up S6 29 (U 29)) fun S8 =>
  lt_ (va_up S8 31 (U 31)) fun S10 =>
  lt_ (va_up S10 33 (U 33)) fun S12 =>
  lt_ (va_up S12 35 (U 35)) fun S14 =>
  lt_ (va_up S14 37 (U 37)) fun S16 =>
  some S16
set_option maxHeartbeats 4000000 in
set_option maxRecDepth 20000 in
theorem kX3_copyFrom {l : Launch} {G : UG} {V : uV} {t : Nat} {t2 : Nat} (hS : uSt G t) (hS2 : uSt G t2) (hne : t2 ≠ t) {U : (Nat → Nat → Int32)} (hU : V t2 = U) {S S' : (Nat → Nat → Int32)}  (h : fX3_copyFrom S U = some S') : uMv l G yX3_copyFrom cX3_copyFrom 2 (uR 2 61) [.ref (ga G t 21), .ref (ga G t2 21)] (va_up V t S) (va_up V t S') := by
  refine uMv_of rfl (Nat.le_of_ble_eq_true rfl) (fun p e s m args below meth c ls X hret hl M => ?_)
  have hl : lv_has ls 2 [(0, .ref (ga G t 21)), (1, .ref (ga G t2 21))] := hl
  have hx := X.hx
  have hb := X.hb
  unfold fX3_copyFrom at h
  refine lv_aload_n hx hb dX3_copyFrom_0 rfl (lv_at hl 0 rfl) ?_
  refine gf_X3_14 X M hS dX3_copyFrom_1 ?_
  refine lv_aload_n hx hb dX3_copyFrom_4 rfl (lv_at hl 1 rfl) ?_
  refine gf_X3_14 X M hS2 dX3_copyFrom_5 ?_
  obtain ⟨S2, e1, h⟩ := lt_e h
  refine u_cVv X M hl.1 (kX6_copyFromS (uRw22 hS) (uRw22 hS2) hne hU e1) cw_X3_42 ⟨by decide, by decide⟩ (uR_recv X M (uRw22 hS)) rfl rfl (Nat.le_of_ble_eq_true rfl) ⟨Nat.zero_le _, Nat.zero_le _⟩ dX3_copyFrom_8 (fun H locs M => ?_)
  refine lv_aload_n hx hb dX3_copyFrom_11 rfl (lv_at hl 0 rfl) ?_
  refine gf_X3_21 X M hS dX3_copyFrom_12 ?_
  refine lv_aload_n hx hb dX3_copyFrom_15 rfl (lv_at hl 1 rfl) ?_
  refine gf_X3_21 X M hS2 dX3_copyFrom_16 ?_
  obtain ⟨S4, e3, h⟩ := lt_e h
  refine u_cVv X M hl.1 (kX6_copyFromS (uRw26 hS) (uRw26 hS2) hne hU e3) cw_X3_42 ⟨by decide, by decide⟩ (uR_recv X M (uRw26 hS)) rfl rfl (Nat.le_of_ble_eq_true rfl) ⟨Nat.zero_le _, Nat.zero_le _⟩ dX3_copyFrom_19 (fun H locs M => ?_)
  refine lv_aload_n hx hb dX3_copyFrom_22 rfl (lv_at hl 0 rfl) ?_
  refine gf_X3_18 X M hS dX3_copyFrom_23 ?_
  refine lv_aload_n hx hb dX3_copyFrom_26 rfl (lv_at hl 1 rfl) ?_
  refine gf_X3_18 X M hS2 dX3_copyFrom_27 ?_
  obtain ⟨S6, e5, h⟩ := lt_e h
  refine u_cVv X M hl.1 (kX6_copyFromS (uRw24 hS) (uRw24 hS2) hne hU e5) cw_X3_42 ⟨by decide, by decide⟩ (uR_recv X M (uRw24 hS)) rfl rfl (Nat.le_of_ble_eq_true rfl) ⟨Nat.zero_le _, Nat.zero_le _⟩ dX3_copyFrom_30 (fun H locs M => ?_)
  refine lv_aload_n hx hb dX3_copyFrom_33 rfl (lv_at hl 0 rfl) ?_
  refine gf_X3_24 X M hS dX3_copyFrom_34 ?_
  refine lv_aload_n hx hb dX3_copyFrom_37 rfl (lv_at hl 1 rfl) ?_
  refine gf_X3_24 X M hS2 dX3_copyFrom_38 ?_
  obtain ⟨S8, e7, h⟩ := lt_e h
  refine u_cVv X M hl.1 (kX6_copyFromS (uRw28 hS) (uRw28 hS2) hne hU e7) cw_X3_42 ⟨by decide, by decide⟩ (uR_recv X M (uRw28 hS)) rfl rfl (Nat.le_of_ble_eq_true rfl) ⟨Nat.zero_le _, Nat.zero_le _⟩ dX3_copyFrom_41 (fun H locs M => ?_)
  refine lv_aload_n hx hb dX3_copyFrom_44 rfl (lv_at hl 0 rfl) ?_
  refine gf_X3_27 X M hS dX3_copyFrom_45 ?_
  refine lv_aload_n hx hb dX3_copyFrom_48 rfl (lv_at hl 1 rfl) ?_
  refine gf_X3_27 X M hS2 dX3_copyFrom_49 ?_
  obtain ⟨S10, e9, h⟩ := lt_e h
  refine u_cVv X M hl.1 (kX6_copyFromS (uRw30 hS) (uRw30 hS2) hne hU e9) cw_X3_42 ⟨by decide, by decide⟩ (uR_recv X M (uRw30 hS)) rfl rfl (Nat.le_of_ble_eq_true rfl) ⟨Nat.zero_le _, Nat.zero_le _⟩ dX3_copyFrom_52 (fun H locs M => ?_)
  refine lv_aload_n hx hb dX3_copyFrom_55 rfl (lv_at hl 0 rfl) ?_
  refine gf_X3_30 X M hS dX3_copyFrom_56 ?_
  refine lv_aload_n hx hb dX3_copyFrom_59 rfl (lv_at hl 1 rfl) ?_
  refine gf_X3_30 X M hS2 dX3_copyFrom_60 ?_
  obtain ⟨S12, e11, h⟩ := lt_e h
  refine u_cVv X M hl.1 (kX6_copyFromS (uRw32 hS) (uRw32 hS2) hne hU e11) cw_X3_42 ⟨by decide, by decide⟩ (uR_recv X M (uRw32 hS)) rfl rfl (Nat.le_of_ble_eq_true rfl) ⟨Nat.zero_le _, Nat.zero_le _⟩ dX3_copyFrom_63 (fun H locs M => ?_)
  refine lv_aload_n hx hb dX3_copyFrom_66 rfl (lv_at hl 0 rfl) ?_
  refine gf_X3_33 X M hS dX3_copyFrom_67 ?_
  refine lv_aload_n hx hb dX3_copyFrom_70 rfl (lv_at hl 1 rfl) ?_
  refine gf_X3_33 X M hS2 dX3_copyFrom_71 ?_
  obtain ⟨S14, e13, h⟩ := lt_e h
  refine u_cVv X M hl.1 (kX6_copyFromS (uRw34 hS) (uRw34 hS2) hne hU e13) cw_X3_42 ⟨by decide, by decide⟩ (uR_recv X M (uRw34 hS)) rfl rfl (Nat.le_of_ble_eq_true rfl) ⟨Nat.zero_le _, Nat.zero_le _⟩ dX3_copyFrom_74 (fun H locs M => ?_)
  refine lv_aload_n hx hb dX3_copyFrom_77 rfl (lv_at hl 0 rfl) ?_
  refine gf_X3_36 X M hS dX3_copyFrom_78 ?_
  refine lv_aload_n hx hb dX3_copyFrom_81 rfl (lv_at hl 1 rfl) ?_
  refine gf_X3_36 X M hS2 dX3_copyFrom_82 ?_
  obtain ⟨S16, e15, h⟩ := lt_e h
  refine u_cVv X M hl.1 (kX6_copyFromS (uRw36 hS) (uRw36 hS2) hne hU e15) cw_X3_42 ⟨by decide, by decide⟩ (uR_recv X M (uRw36 hS)) rfl rfl (Nat.le_of_ble_eq_true rfl) ⟨Nat.zero_le _, Nat.zero_le _⟩ dX3_copyFrom_85 (fun H locs M => ?_)
  exact u_vret X hret M (congrArg (va_up V t) (Option.some.inj h)) dX3_copyFrom_88
def fX10_copyFrom (S : (Nat → Nat → Int32)) (U : (Nat → Nat → Int32)) : Option (Nat → Nat → Int32) :=
  bd (fX0_copyFrom S U) fun S2 =>
  bd (fX5_copyFrom S2 U) fun S5 =>
  bd (fX3_copyFrom S5 U) fun S8 =>
  lt_ (va_up S8 39 (U 39)) fun S11 =>
  lt_ (U 0 4) fun x12 =>
  lt_ (va_up S11 0 (upd (S11 0) 4 x12)) fun S14 =>
  lt_ (U 0 5) fun x16 =>
  lt_ (va_up S14 0 (upd (S14 0) 5 x16)) fun S18 =>
  lt_ (U 0 6) fun x20 =>
  lt_ (va_up S18 0 (upd (S18 0) 6 x20)) fun S22 =>
  lt_ (U 0 7) fun x24 =>
  lt_ (va_up S22 0 (upd (S22 0) 7 x24)) fun S26 =>
  lt_ (U 0 8) fun x28 =>
  lt_ (va_up S26 0 (upd (S26 0) 8 x28)) fun S30 =>
  lt_ (U 0 9) fun x32 =>
  lt_ (va_up S30 0 (upd (S30 0) 9 x32)) fun S34 =>
  some S34
set_option maxHeartbeats 4000000 in
set_option maxRecDepth 20000 in
theorem kX10_copyFrom {l : Launch} {G : UG} {V : uV} {t : Nat} {t2 : Nat} (hS : uSt G t) (hS2 : uSt G t2) (hne : t2 ≠ t) {U : (Nat → Nat → Int32)} (hU : V t2 = U) {S S' : (Nat → Nat → Int32)}  (h : fX10_copyFrom S U = some S') : uMv l G yX10_copyFrom cX10_copyFrom 2 (uR 3 82) [.ref (ga G t 0), .ref (ga G t2 0)] (va_up V t S) (va_up V t S') := by
  refine uMv_of rfl (Nat.le_of_ble_eq_true rfl) (fun p e s m args below meth c ls X hret hl M => ?_)
  have hl : lv_has ls 2 [(0, .ref (ga G t 0)), (1, .ref (ga G t2 0))] := hl
  have hx := X.hx
  have hb := X.hb
  unfold fX10_copyFrom at h
  refine lv_aload_n hx hb dX10_copyFrom_0 rfl (lv_at hl 0 rfl) ?_
  refine gf_X10_12 X M hS dX10_copyFrom_1 ?_
  refine lv_aload_n hx hb dX10_copyFrom_4 rfl (lv_at hl 1 rfl) ?_
  refine gf_X10_12 X M hS2 dX10_copyFrom_5 ?_
  obtain ⟨S2, e1, h⟩ := bd_e h
  refine u_cVv X M hl.1 (kX0_copyFrom hS hS2 hne hU e1) cw_X10_70 ⟨by decide, by decide⟩ (rc_X0 X M hS) rfl rfl (Nat.le_of_ble_eq_true rfl) ⟨Nat.zero_le _, Nat.zero_le _⟩ dX10_copyFrom_8 (fun H locs M => ?_)
  refine lv_aload_n hx hb dX10_copyFrom_11 rfl (lv_at hl 0 rfl) ?_
  refine gf_X10_21 X M hS dX10_copyFrom_12 ?_
  refine lv_aload_n hx hb dX10_copyFrom_15 rfl (lv_at hl 1 rfl) ?_
  refine gf_X10_21 X M hS2 dX10_copyFrom_16 ?_
  obtain ⟨S5, e4, h⟩ := bd_e h
  refine u_cVv X M hl.1 (kX5_copyFrom hS hS2 hne hU e4) cw_X10_74 ⟨by decide, by decide⟩ (rc_X5 X M hS) rfl rfl (Nat.le_of_ble_eq_true rfl) ⟨Nat.zero_le _, Nat.zero_le _⟩ dX10_copyFrom_19 (fun H locs M => ?_)
  refine lv_aload_n hx hb dX10_copyFrom_22 rfl (lv_at hl 0 rfl) ?_
  refine gf_X10_28 X M hS dX10_copyFrom_23 ?_
  refine lv_aload_n hx hb dX10_copyFrom_26 rfl (lv_at hl 1 rfl) ?_
  refine gf_X10_28 X M hS2 dX10_copyFrom_27 ?_
  obtain ⟨S8, e7, h⟩ := bd_e h
  refine u_cVv X M hl.1 (kX3_copyFrom hS hS2 hne hU e7) cw_X10_77 ⟨by decide, by decide⟩ (rc_X3 X M hS) rfl rfl (Nat.le_of_ble_eq_true rfl) ⟨Nat.zero_le _, Nat.zero_le _⟩ dX10_copyFrom_30 (fun H locs M => ?_)
  refine lv_aload_n hx hb dX10_copyFrom_33 rfl (lv_at hl 0 rfl) ?_
  refine gf_X10_37 X M hS dX10_copyFrom_34 ?_
  refine lv_aload_n hx hb dX10_copyFrom_37 rfl (lv_at hl 1 rfl) ?_
  refine gf_X10_37 X M hS2 dX10_copyFrom_38 ?_
  obtain ⟨S11, e10, h⟩ := lt_e h
  refine u_cVv X M hl.1 (kX6_copyFromS (uRw38 hS) (uRw38 hS2) hne hU e10) cw_X10_80 ⟨by decide, by decide⟩ (uR_recv X M (uRw38 hS)) rfl rfl (Nat.le_of_ble_eq_true rfl) ⟨Nat.zero_le _, Nat.zero_le _⟩ dX10_copyFrom_41 (fun H locs M => ?_)
  refine lv_aload_n hx hb dX10_copyFrom_44 rfl (lv_at hl 0 rfl) ?_
  refine lv_aload_n hx hb dX10_copyFrom_45 rfl (lv_at hl 1 rfl) ?_
  obtain ⟨x12, e13, h⟩ := lt_e h
  refine gf_X10_51 X M hS2 ((va_up_n hne).trans hU) e13 dX10_copyFrom_46 ?_
  obtain ⟨S14, e15, h⟩ := lt_e h
  refine pf_X10_51 X M hS e15 dX10_copyFrom_49 (fun H locs M => ?_)
  refine lv_aload_n hx hb dX10_copyFrom_52 rfl (lv_at hl 0 rfl) ?_
  refine lv_aload_n hx hb dX10_copyFrom_53 rfl (lv_at hl 1 rfl) ?_
  obtain ⟨x16, e17, h⟩ := lt_e h
  refine gf_X10_55 X M hS2 ((va_up_n hne).trans hU) e17 dX10_copyFrom_54 ?_
  obtain ⟨S18, e19, h⟩ := lt_e h
  refine pf_X10_55 X M hS e19 dX10_copyFrom_57 (fun H locs M => ?_)
  refine lv_aload_n hx hb dX10_copyFrom_60 rfl (lv_at hl 0 rfl) ?_
  refine lv_aload_n hx hb dX10_copyFrom_61 rfl (lv_at hl 1 rfl) ?_
  obtain ⟨x20, e21, h⟩ := lt_e h
  refine gf_X10_58 X M hS2 ((va_up_n hne).trans hU) e21 dX10_copyFrom_62 ?_
  obtain ⟨S22, e23, h⟩ := lt_e h
  refine pf_X10_58 X M hS e23 dX10_copyFrom_65 (fun H locs M => ?_)
  refine lv_aload_n hx hb dX10_copyFrom_68 rfl (lv_at hl 0 rfl) ?_
  refine lv_aload_n hx hb dX10_copyFrom_69 rfl (lv_at hl 1 rfl) ?_
  obtain ⟨x24, e25, h⟩ := lt_e h
  refine gf_X10_61 X M hS2 ((va_up_n hne).trans hU) e25 dX10_copyFrom_70 ?_
  obtain ⟨S26, e27, h⟩ := lt_e h
  refine pf_X10_61 X M hS e27 dX10_copyFrom_73 (fun H locs M => ?_)
  refine lv_aload_n hx hb dX10_copyFrom_76 rfl (lv_at hl 0 rfl) ?_
  refine lv_aload_n hx hb dX10_copyFrom_77 rfl (lv_at hl 1 rfl) ?_
  obtain ⟨x28, e29, h⟩ := lt_e h
  refine gf_X10_64 X M hS2 ((va_up_n hne).trans hU) e29 dX10_copyFrom_78 ?_
  obtain ⟨S30, e31, h⟩ := lt_e h
  refine pf_X10_64 X M hS e31 dX10_copyFrom_81 (fun H locs M => ?_)
  refine lv_aload_n hx hb dX10_copyFrom_84 rfl (lv_at hl 0 rfl) ?_
  refine lv_aload_n hx hb dX10_copyFrom_85 rfl (lv_at hl 1 rfl) ?_
  obtain ⟨x32, e33, h⟩ := lt_e h
  refine gf_X10_67 X M hS2 ((va_up_n hne).trans hU) e33 dX10_copyFrom_86 ?_
  obtain ⟨S34, e35, h⟩ := lt_e h
  refine pf_X10_67 X M hS e35 dX10_copyFrom_89 (fun H locs M => ?_)
  exact u_vret X hret M (congrArg (va_up V t) (Option.some.inj h)) dX10_copyFrom_92

theorem st_0 {G : UG} {t : Nat} {f f' : Nat → Int32} (h4 : f 4 = f' 4) (h5 : f 5 = f' 5) (h6 : f 6 = f' 6) (h7 : f 7 = f' 7) (h8 : f 8 = f' 8) (h9 : f 9 = f' 9) : stSh G t 0 f = stSh G t 0 f' := by
  simp only [stSh, h4, h5, h6, h7, h8, h9]
theorem st_1 {G : UG} {t : Nat} {f f' : Nat → Int32} (h : f 0 = f' 0) : stSh G t 1 f = stSh G t 1 f' := by
  simp only [stSh, h]
theorem st_10 {G : UG} {t : Nat} {f f' : Nat → Int32} (h : f 0 = f' 0) : stSh G t 10 f = stSh G t 10 f' := by
  simp only [stSh, h]
theorem cpX0 (S U : Nat → Nat → Int32) : ∃ S', fX0_copyFrom S U = some S' ∧ (∀ o, (o < 1 ∨ 9 < o) → S' o = S o) ∧ S' 1 0 = U 1 0 ∧ S' 3 = U 3 ∧ S' 5 = U 5 ∧ S' 7 = U 7 ∧ S' 9 = U 9 := by
  refine ⟨_, rfl, fun o ho => ?_, rfl, rfl, rfl, rfl, rfl⟩
  rw [va_up_n (by omega), va_up_n (by omega), va_up_n (by omega), va_up_n (by omega), va_up_n (by omega)]
theorem cpX5 (S U : Nat → Nat → Int32) : ∃ S', fX5_copyFrom S U = some S' ∧ (∀ o, (o < 10 ∨ 20 < o) → S' o = S o) ∧ S' 10 0 = U 10 0 ∧ S' 12 = U 12 ∧ S' 14 = U 14 ∧ S' 16 = U 16 ∧ S' 18 = U 18 ∧ S' 20 = U 20 := by
  refine ⟨_, rfl, fun o ho => ?_, rfl, rfl, rfl, rfl, rfl, rfl⟩
  rw [va_up_n (by omega), va_up_n (by omega), va_up_n (by omega), va_up_n (by omega), va_up_n (by omega), va_up_n (by omega)]
theorem cpX3 (S U : Nat → Nat → Int32) : ∃ S', fX3_copyFrom S U = some S' ∧ (∀ o, (o < 21 ∨ 37 < o) → S' o = S o) ∧ S' 23 = U 23 ∧ S' 25 = U 25 ∧ S' 27 = U 27 ∧ S' 29 = U 29 ∧ S' 31 = U 31 ∧ S' 33 = U 33 ∧ S' 35 = U 35 ∧ S' 37 = U 37 := by
  refine ⟨_, rfl, fun o ho => ?_, rfl, rfl, rfl, rfl, rfl, rfl, rfl, rfl⟩
  rw [va_up_n (by omega), va_up_n (by omega), va_up_n (by omega), va_up_n (by omega), va_up_n (by omega), va_up_n (by omega), va_up_n (by omega), va_up_n (by omega)]
theorem cpX10a (S U : Nat → Nat → Int32) : ∃ S', (lt_ (va_up S 39 (U 39)) fun S1 => lt_ (U 0 4) fun x1 => lt_ (va_up S1 0 (upd (S1 0) 4 x1)) fun S2 => lt_ (U 0 5) fun x2 => lt_ (va_up S2 0 (upd (S2 0) 5 x2)) fun S3 => lt_ (U 0 6) fun x3 => lt_ (va_up S3 0 (upd (S3 0) 6 x3)) fun S4 => lt_ (U 0 7) fun x4 => lt_ (va_up S4 0 (upd (S4 0) 7 x4)) fun S5 => lt_ (U 0 8) fun x5 => lt_ (va_up S5 0 (upd (S5 0) 8 x5)) fun S6 => lt_ (U 0 9) fun x6 => lt_ (va_up S6 0 (upd (S6 0) 9 x6)) fun S7 => some S7) = some S' ∧ (∀ o, (o < 38 ∧ o ≠ 0) → S' o = S o) ∧ S' 39 = U 39 ∧ (∀ k, 4 ≤ k → k ≤ 9 → S' 0 k = U 0 k) := by
  refine ⟨_, rfl, fun o ho => ?_, rfl, fun k h1 h2 => ?_⟩
  · rw [va_up_n (by omega), va_up_n (by omega), va_up_n (by omega), va_up_n (by omega), va_up_n (by omega), va_up_n (by omega), va_up_n (by omega)]
  · simp only [va_up_s, upd]
    rcases (show k = 4 ∨ k = 5 ∨ k = 6 ∨ k = 7 ∨ k = 8 ∨ k = 9 by omega) with rfl | rfl | rfl | rfl | rfl | rfl <;> rfl
theorem cpX10 {G : UG} {t : Nat} (S U : Nat → Nat → Int32) : ∃ S', fX10_copyFrom S U = some S' ∧ ∀ o, o < 40 → stSh G t o (S' o) = stSh G t o (U o) := by
  obtain ⟨S1, e1, k1, a1, a3, a5, a7, a9⟩ := cpX0 S U
  obtain ⟨S2, e2, k2, b0, b2, b4, b6, b8, b20⟩ := cpX5 S1 U
  obtain ⟨S3, e3, k3, c3, c5, c7, c9, c31, c33, c35, c37⟩ := cpX3 S2 U
  obtain ⟨S4, e4, k4, d39, d0⟩ := cpX10a S3 U
  refine ⟨S4, ?_, fun o ho => ?_⟩
  · unfold fX10_copyFrom
    rw [e1, bd, Option.bind_some, e2, bd, Option.bind_some, e3, bd, Option.bind_some]
    exact e4
  · have q1 : ∀ o, o < 10 → o ≠ 0 → S4 o = S1 o := fun o h h0 => by rw [k4 o ⟨by omega, h0⟩, k3 o (by omega), k2 o (by omega)]
    have q2 : ∀ o, 10 ≤ o → o < 21 → S4 o = S2 o := fun o h h0 => by rw [k4 o ⟨by omega, by omega⟩, k3 o (by omega)]
    have q3 : ∀ o, 21 ≤ o → o < 38 → S4 o = S3 o := fun o h h0 => k4 o ⟨by omega, by omega⟩
    by_cases h0 : o = 0
    · subst h0; exact st_0 (d0 4 (by omega) (by omega)) (d0 5 (by omega) (by omega)) (d0 6 (by omega) (by omega)) (d0 7 (by omega) (by omega)) (d0 8 (by omega) (by omega)) (d0 9 (by omega) (by omega))
    by_cases h1 : o < 10
    · rw [q1 o h1 h0]
      rcases (show o = 1 ∨ o = 2 ∨ o = 3 ∨ o = 4 ∨ o = 5 ∨ o = 6 ∨ o = 7 ∨ o = 8 ∨ o = 9 by omega) with rfl | rfl | rfl | rfl | rfl | rfl | rfl | rfl | rfl
      · exact st_1 a1
      · rfl
      · rw [a3]
      · rfl
      · rw [a5]
      · rfl
      · rw [a7]
      · rfl
      · rw [a9]
    by_cases h2 : o < 21
    · rw [q2 o (by omega) h2]
      rcases (show o = 10 ∨ o = 11 ∨ o = 12 ∨ o = 13 ∨ o = 14 ∨ o = 15 ∨ o = 16 ∨ o = 17 ∨ o = 18 ∨ o = 19 ∨ o = 20 by omega) with rfl | rfl | rfl | rfl | rfl | rfl | rfl | rfl | rfl | rfl | rfl
      · exact st_10 b0
      · rfl
      · rw [b2]
      · rfl
      · rw [b4]
      · rfl
      · rw [b6]
      · rfl
      · rw [b8]
      · rfl
      · rw [b20]
    by_cases h3 : o < 38
    · rw [q3 o (by omega) h3]
      rcases (show o = 21 ∨ o = 22 ∨ o = 23 ∨ o = 24 ∨ o = 25 ∨ o = 26 ∨ o = 27 ∨ o = 28 ∨ o = 29 ∨ o = 30 ∨ o = 31 ∨ o = 32 ∨ o = 33 ∨ o = 34 ∨ o = 35 ∨ o = 36 ∨ o = 37 by omega) with rfl | rfl | rfl | rfl | rfl | rfl | rfl | rfl | rfl | rfl | rfl | rfl | rfl | rfl | rfl | rfl | rfl
      · rfl
      · rfl
      · rw [c3]
      · rfl
      · rw [c5]
      · rfl
      · rw [c7]
      · rfl
      · rw [c9]
      · rfl
      · rw [c31]
      · rfl
      · rw [c33]
      · rfl
      · rw [c35]
      · rfl
      · rw [c37]
    rcases (show o = 38 ∨ o = 39 by omega) with rfl | rfl
    · rfl
    · rw [d39]
theorem kX10_copyFromV {l : Launch} {G : UG} {t t2 : Nat} (hS : uSt G t) (hS2 : uSt G t2) (hne : t2 ≠ t) (hE : uEx G) {V V2 : uV} (e : V2 = va_up V t (V t2)) : uMv l G yX10_copyFrom cX10_copyFrom 2 (uR 3 82) [.ref (ga G t 0), .ref (ga G t2 0)] V V2 := by
  obtain ⟨S', h1, h2⟩ := cpX10 (G := G) (t := t) (V t) (V t2)
  have k := kX10_copyFrom (l := l) (V := V) hS hS2 hne rfl h1
  rw [va_up_id] at k
  refine uMv_same k (fun H h => UH_same h (fun t' o ho => ?_))
  rw [e]
  by_cases ht : t' = t
  · subst ht
    rw [va_up_s, va_up_s, uSh_st hS.1, uSh_st hS.1]
    exact h2 o (hE _ _ ho hS.1)
  · rw [va_up_n ht, va_up_n ht]
