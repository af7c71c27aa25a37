
theorem rt2 {α β : Type} {a c : α} {b d : β} (h : some (a, b) = some (c, d)) : a = c ∧ b = d := Prod.mk.inj (Option.some.inj h)
theorem ne18 {G : UG} {t : Nat} (h : uSt G t) : (18 : Nat) ≠ t := fun e => by have := h.1; omega
theorem va_up_s2 {α : Type} (V : Nat → Nat → α) (t : Nat) (B : Nat → α) (q : Nat) (f : α) : va_up V t (va_up B q f) t q = f := by rw [va_up_s, va_up_s]
section ROWS2
variable {l : Launch} {G : UG} {V : uV} {t o n : Nat} {S S1 : Nat → Nat → Int32}
theorem kX6_putS (hR : uRow G t o n) {i x : Int32} (h : S1 = va_up S (o + 1) (fput n (S (o + 1)) i x)) : uMv l G yX6_put cX6_put 3 (uR 0 0) [.ref (ga G t o), .int i, .int x] (va_up V t S) (va_up V t S1) := h ▸ kX6_put hR rfl
theorem kX6_increaseS (hR : uRow G t o n) {i x : Int32} (h : S1 = va_up S (o + 1) (finc n (S (o + 1)) i x)) : uMv l G yX6_increase cX6_increase 3 (uR 0 0) [.ref (ga G t o), .int i, .int x] (va_up V t S) (va_up V t S1) := h ▸ kX6_increase hR rfl
theorem kX6_fillS (hR : uRow G t o n) {x : Int32} (h : S1 = va_up S (o + 1) (fun _ => x)) : uMv l G yX6_fill cX6_fill 3 (uR 0 0) [.ref (ga G t o), .int x] (va_up V t S) (va_up V t S1) := h ▸ kX6_fill hR
theorem kX6_replaceS (hR : uRow G t o n) {i x r : Int32} (h1 : fget n (S (o + 1)) i = r) (h : S1 = va_up S (o + 1) (fput n (S (o + 1)) i x)) : uMi l G yX6_replace cX6_replace 4 .int (uR 1 22) [.ref (ga G t o), .int i, .int x] (va_up V t S) r (va_up V t S1) := h ▸ kX6_replace hR h1 rfl
end ROWS2
theorem dX0_clear_0 : decode cX0_clear 0 = .ok (.aload_n 0, 1) := by decide +kernel
theorem dX0_clear_1 : decode cX0_clear 1 = .ok (.iconst 0, 1) := by decide +kernel
theorem dX0_clear_2 : decode cX0_clear 2 = .ok (.putfield 27, 3) := by decide +kernel
theorem dX0_clear_5 : decode cX0_clear 5 = .ok (.return_, 1) := by decide +kernel
theorem dX0_has_0 : decode cX0_has 0 = .ok (.iload_n 1, 1) := by decide +kernel
theorem dX0_has_1 : decode cX0_has 1 = .ok (.ifCond .lt 15, 3) := by decide +kernel
theorem dX0_has_4 : decode cX0_has 4 = .ok (.iload_n 1, 1) := by decide +kernel
theorem dX0_has_5 : decode cX0_has 5 = .ok (.aload_n 0, 1) := by decide +kernel
theorem dX0_has_6 : decode cX0_has 6 = .ok (.getfield 27, 3) := by decide +kernel
theorem dX0_has_9 : decode cX0_has 9 = .ok (.if_icmp .ge 7, 3) := by decide +kernel
theorem dX0_has_12 : decode cX0_has 12 = .ok (.iconst 1, 1) := by decide +kernel
theorem dX0_has_13 : decode cX0_has 13 = .ok (.goto 4, 3) := by decide +kernel
theorem dX0_has_16 : decode cX0_has 16 = .ok (.iconst 0, 1) := by decide +kernel
theorem dX0_has_17 : decode cX0_has 17 = .ok (.ireturn, 1) := by decide +kernel
theorem dX0_isFull_0 : decode cX0_isFull 0 = .ok (.aload_n 0, 1) := by decide +kernel
theorem dX0_isFull_1 : decode cX0_isFull 1 = .ok (.getfield 27, 3) := by decide +kernel
theorem dX0_isFull_4 : decode cX0_isFull 4 = .ok (.bipush 10, 2) := by decide +kernel
theorem dX0_isFull_6 : decode cX0_isFull 6 = .ok (.if_icmp .lt 7, 3) := by decide +kernel
theorem dX0_isFull_9 : decode cX0_isFull 9 = .ok (.iconst 1, 1) := by decide +kernel
theorem dX0_isFull_10 : decode cX0_isFull 10 = .ok (.goto 4, 3) := by decide +kernel
theorem dX0_isFull_13 : decode cX0_isFull 13 = .ok (.iconst 0, 1) := by decide +kernel
theorem dX0_isFull_14 : decode cX0_isFull 14 = .ok (.ireturn, 1) := by decide +kernel
theorem dX0_make_0 : decode cX0_make 0 = .ok (.aload_n 0, 1) := by decide +kernel
theorem dX0_make_1 : decode cX0_make 1 = .ok (.getfield 27, 3) := by decide +kernel
theorem dX0_make_4 : decode cX0_make 4 = .ok (.istore 5, 2) := by decide +kernel
theorem dX0_make_6 : decode cX0_make 6 = .ok (.aload_n 0, 1) := by decide +kernel
theorem dX0_make_7 : decode cX0_make 7 = .ok (.getfield 14, 3) := by decide +kernel
theorem dX0_make_10 : decode cX0_make 10 = .ok (.iload 5, 2) := by decide +kernel
theorem dX0_make_12 : decode cX0_make 12 = .ok (.iload_n 1, 1) := by decide +kernel
theorem dX0_make_13 : decode cX0_make 13 = .ok (.invokevirtual 35, 3) := by decide +kernel
theorem dX0_make_16 : decode cX0_make 16 = .ok (.aload_n 0, 1) := by decide +kernel
theorem dX0_make_17 : decode cX0_make 17 = .ok (.getfield 18, 3) := by decide +kernel
theorem dX0_make_20 : decode cX0_make 20 = .ok (.iload 5, 2) := by decide +kernel
theorem dX0_make_22 : decode cX0_make 22 = .ok (.iload_n 2, 1) := by decide +kernel
theorem dX0_make_23 : decode cX0_make 23 = .ok (.invokevirtual 35, 3) := by decide +kernel
theorem dX0_make_26 : decode cX0_make 26 = .ok (.aload_n 0, 1) := by decide +kernel
theorem dX0_make_27 : decode cX0_make 27 = .ok (.getfield 21, 3) := by decide +kernel
theorem dX0_make_30 : decode cX0_make 30 = .ok (.iload 5, 2) := by decide +kernel
theorem dX0_make_32 : decode cX0_make 32 = .ok (.iload_n 3, 1) := by decide +kernel
theorem dX0_make_33 : decode cX0_make 33 = .ok (.invokevirtual 35, 3) := by decide +kernel
theorem dX0_make_36 : decode cX0_make 36 = .ok (.aload_n 0, 1) := by decide +kernel
theorem dX0_make_37 : decode cX0_make 37 = .ok (.getfield 24, 3) := by decide +kernel
theorem dX0_make_40 : decode cX0_make 40 = .ok (.iload 5, 2) := by decide +kernel
theorem dX0_make_42 : decode cX0_make 42 = .ok (.iload 4, 2) := by decide +kernel
theorem dX0_make_44 : decode cX0_make 44 = .ok (.invokevirtual 35, 3) := by decide +kernel
theorem dX0_make_47 : decode cX0_make 47 = .ok (.aload_n 0, 1) := by decide +kernel
theorem dX0_make_48 : decode cX0_make 48 = .ok (.dup, 1) := by decide +kernel
theorem dX0_make_49 : decode cX0_make 49 = .ok (.getfield 27, 3) := by decide +kernel
theorem dX0_make_52 : decode cX0_make 52 = .ok (.iconst 1, 1) := by decide +kernel
theorem dX0_make_53 : decode cX0_make 53 = .ok (.iadd, 1) := by decide +kernel
theorem dX0_make_54 : decode cX0_make 54 = .ok (.putfield 27, 3) := by decide +kernel
theorem dX0_make_57 : decode cX0_make 57 = .ok (.iload 5, 2) := by decide +kernel
theorem dX0_make_59 : decode cX0_make 59 = .ok (.ireturn, 1) := by decide +kernel
theorem dX0_makeTwin_0 : decode cX0_makeTwin 0 = .ok (.aload_n 0, 1) := by decide +kernel
theorem dX0_makeTwin_1 : decode cX0_makeTwin 1 = .ok (.aload_n 0, 1) := by decide +kernel
theorem dX0_makeTwin_2 : decode cX0_makeTwin 2 = .ok (.getfield 14, 3) := by decide +kernel
theorem dX0_makeTwin_5 : decode cX0_makeTwin 5 = .ok (.iload_n 1, 1) := by decide +kernel
theorem dX0_makeTwin_6 : decode cX0_makeTwin 6 = .ok (.invokevirtual 39, 3) := by decide +kernel
theorem dX0_makeTwin_9 : decode cX0_makeTwin 9 = .ok (.aload_n 0, 1) := by decide +kernel
theorem dX0_makeTwin_10 : decode cX0_makeTwin 10 = .ok (.getfield 18, 3) := by decide +kernel
theorem dX0_makeTwin_13 : decode cX0_makeTwin 13 = .ok (.iload_n 1, 1) := by decide +kernel
theorem dX0_makeTwin_14 : decode cX0_makeTwin 14 = .ok (.invokevirtual 39, 3) := by decide +kernel
theorem dX0_makeTwin_17 : decode cX0_makeTwin 17 = .ok (.aload_n 0, 1) := by decide +kernel
theorem dX0_makeTwin_18 : decode cX0_makeTwin 18 = .ok (.getfield 21, 3) := by decide +kernel
theorem dX0_makeTwin_21 : decode cX0_makeTwin 21 = .ok (.iload_n 1, 1) := by decide +kernel
theorem dX0_makeTwin_22 : decode cX0_makeTwin 22 = .ok (.invokevirtual 39, 3) := by decide +kernel
theorem dX0_makeTwin_25 : decode cX0_makeTwin 25 = .ok (.aload_n 0, 1) := by decide +kernel
theorem dX0_makeTwin_26 : decode cX0_makeTwin 26 = .ok (.getfield 24, 3) := by decide +kernel
theorem dX0_makeTwin_29 : decode cX0_makeTwin 29 = .ok (.iload_n 1, 1) := by decide +kernel
theorem dX0_makeTwin_30 : decode cX0_makeTwin 30 = .ok (.invokevirtual 39, 3) := by decide +kernel
theorem dX0_makeTwin_33 : decode cX0_makeTwin 33 = .ok (.invokevirtual 43, 3) := by decide +kernel
theorem dX0_makeTwin_36 : decode cX0_makeTwin 36 = .ok (.ireturn, 1) := by decide +kernel
theorem dX0_number_0 : decode cX0_number 0 = .ok (.iload_n 2, 1) := by decide +kernel
theorem dX0_number_1 : decode cX0_number 1 = .ok (.tableswitch 54 0 2 #[27, 36, 45], 27) := by decide +kernel
theorem dX0_number_28 : decode cX0_number 28 = .ok (.aload_n 0, 1) := by decide +kernel
theorem dX0_number_29 : decode cX0_number 29 = .ok (.getfield 14, 3) := by decide +kernel
theorem dX0_number_32 : decode cX0_number 32 = .ok (.iload_n 1, 1) := by decide +kernel
theorem dX0_number_33 : decode cX0_number 33 = .ok (.invokevirtual 39, 3) := by decide +kernel
theorem dX0_number_36 : decode cX0_number 36 = .ok (.ireturn, 1) := by decide +kernel
theorem dX0_number_37 : decode cX0_number 37 = .ok (.aload_n 0, 1) := by decide +kernel
theorem dX0_number_38 : decode cX0_number 38 = .ok (.getfield 18, 3) := by decide +kernel
theorem dX0_number_41 : decode cX0_number 41 = .ok (.iload_n 1, 1) := by decide +kernel
theorem dX0_number_42 : decode cX0_number 42 = .ok (.invokevirtual 39, 3) := by decide +kernel
theorem dX0_number_45 : decode cX0_number 45 = .ok (.ireturn, 1) := by decide +kernel
theorem dX0_number_46 : decode cX0_number 46 = .ok (.aload_n 0, 1) := by decide +kernel
theorem dX0_number_47 : decode cX0_number 47 = .ok (.getfield 21, 3) := by decide +kernel
theorem dX0_number_50 : decode cX0_number 50 = .ok (.iload_n 1, 1) := by decide +kernel
theorem dX0_number_51 : decode cX0_number 51 = .ok (.invokevirtual 39, 3) := by decide +kernel
theorem dX0_number_54 : decode cX0_number 54 = .ok (.ireturn, 1) := by decide +kernel
theorem dX0_number_55 : decode cX0_number 55 = .ok (.aload_n 0, 1) := by decide +kernel
theorem dX0_number_56 : decode cX0_number 56 = .ok (.getfield 24, 3) := by decide +kernel
theorem dX0_number_59 : decode cX0_number 59 = .ok (.iload_n 1, 1) := by decide +kernel
theorem dX0_number_60 : decode cX0_number 60 = .ok (.invokevirtual 39, 3) := by decide +kernel
theorem dX0_number_63 : decode cX0_number 63 = .ok (.ireturn, 1) := by decide +kernel
theorem dX0_countOf_0 : decode cX0_countOf 0 = .ok (.iconst 0, 1) := by decide +kernel
theorem dX0_countOf_1 : decode cX0_countOf 1 = .ok (.istore_n 2, 1) := by decide +kernel
theorem dX0_countOf_2 : decode cX0_countOf 2 = .ok (.iconst 0, 1) := by decide +kernel
theorem dX0_countOf_3 : decode cX0_countOf 3 = .ok (.istore_n 3, 1) := by decide +kernel
theorem dX0_countOf_4 : decode cX0_countOf 4 = .ok (.iload_n 3, 1) := by decide +kernel
theorem dX0_countOf_5 : decode cX0_countOf 5 = .ok (.aload_n 0, 1) := by decide +kernel
theorem dX0_countOf_6 : decode cX0_countOf 6 = .ok (.getfield 27, 3) := by decide +kernel
theorem dX0_countOf_9 : decode cX0_countOf 9 = .ok (.if_icmp .ge 24, 3) := by decide +kernel
theorem dX0_countOf_12 : decode cX0_countOf 12 = .ok (.aload_n 0, 1) := by decide +kernel
theorem dX0_countOf_13 : decode cX0_countOf 13 = .ok (.getfield 14, 3) := by decide +kernel
theorem dX0_countOf_16 : decode cX0_countOf 16 = .ok (.iload_n 3, 1) := by decide +kernel
theorem dX0_countOf_17 : decode cX0_countOf 17 = .ok (.invokevirtual 39, 3) := by decide +kernel
theorem dX0_countOf_20 : decode cX0_countOf 20 = .ok (.iload_n 1, 1) := by decide +kernel
theorem dX0_countOf_21 : decode cX0_countOf 21 = .ok (.if_icmp .ne 6, 3) := by decide +kernel
theorem dX0_countOf_24 : decode cX0_countOf 24 = .ok (.iinc 2 1, 3) := by decide +kernel
theorem dX0_countOf_27 : decode cX0_countOf 27 = .ok (.iinc 3 1, 3) := by decide +kernel
theorem dX0_countOf_30 : decode cX0_countOf 30 = .ok (.goto (-26), 3) := by decide +kernel
theorem dX0_countOf_33 : decode cX0_countOf 33 = .ok (.iload_n 2, 1) := by decide +kernel
theorem dX0_countOf_34 : decode cX0_countOf 34 = .ok (.ireturn, 1) := by decide +kernel
theorem cw_X0_35 : uCW RX0 RX6 35 yX6_put cX6_put 3 none 2 := ⟨gt_in 490 (by decide +kernel) (by decide +kernel), yf_X6_put⟩
theorem cw_X0_39 : uCW RX0 RX6 39 yX6_get cX6_get 2 (some .int) 1 := ⟨gt_in 503 (by decide +kernel) (by decide +kernel), yf_X6_get⟩
theorem yf_X0_make : (Cond.instanceMethod yX0_make) ∈ gtbl ∧ (Cond.selects RX0 yX0_make yX0_make) ∈ gtbl ∧ (Cond.initialized RX0) ∈ gtbl ∧ (Cond.code yX0_make cX0_make 6 (some .int)) ∈ gtbl ∧ (yX0_make.cls = RX0 ∧ yX0_make.cls ≠ "java/lang/invoke/MethodHandle" ∧ yX0_make.cls ≠ "java/lang/invoke/VarHandle" ∧ (parseMethodDescriptor yX0_make.desc).map (fun d => d.parameters.length) = some 4) := ⟨gt_in 487 (by decide +kernel) (by decide +kernel), gt_in 488 (by decide +kernel) (by decide +kernel), gt_in 12 (by decide +kernel) (by decide +kernel), gt_in 489 (by decide +kernel) (by decide +kernel), by decide +kernel⟩
theorem cw_X0_43 : uCW RX0 RX0 43 yX0_make cX0_make 6 (some .int) 4 := ⟨gt_in 504 (by decide +kernel) (by decide +kernel), yf_X0_make⟩
def fX0_clear (S : (Nat → Nat → Int32)) : Option (Nat → Nat → Int32) :=
  lt_ (va_up S 1 (upd (S 1) 0 0)) fun S1 =>
  some S1
set_option maxHeartbeats 4000000 in
set_option maxRecDepth 20000 in
theorem kX0_clear {l : Launch} {G : UG} {V : uV} {t : Nat} (hS : uSt G t) {S S' : (Nat → Nat → Int32)}  (h : fX0_clear S = some S') : uMv l G yX0_clear cX0_clear 1 (uR 0 0) [.ref (ga G t 1)] (va_up V t S) (va_up V t S') := by
  refine uMv_of rfl (Nat.le_of_ble_eq_true rfl) (fun p e s m args below meth c ls X hret hl M => ?_)
  have hl : lv_has ls 1 [(0, .ref (ga G t 1))] := hl
  have hx := X.hx
  have hb := X.hb
  unfold fX0_clear at h
  refine lv_aload_n hx hb dX0_clear_0 rfl (lv_at hl 0 rfl) ?_
  refine lv_iconst (v := 0) hx hb dX0_clear_1 (by decide) ?_
  obtain ⟨S1, e2, h⟩ := lt_e h
  refine pf_X0_27 X M hS e2 dX0_clear_2 (fun H locs M => ?_)
  exact u_vret X hret M (congrArg (va_up V t) (Option.some.inj h)) dX0_clear_5
def fX0_has (S : (Nat → Nat → Int32)) (a1 : Int32) : Int32 :=
  if a1 < 0 then
    0
  else
    lt_ (S 1 0) fun x2 =>
    if x2 ≤ a1 then
      0
    else
      1
set_option maxHeartbeats 4000000 in
set_option maxRecDepth 20000 in
theorem kX0_has {l : Launch} {G : UG} {V : uV} {t : Nat} (hS : uSt G t) {S : (Nat → Nat → Int32)} (hV : V t = S) {a1 : Int32} {r : Int32} (h : fX0_has S a1 = r) : uMi l G yX0_has cX0_has 2 .boolean (uR 0 0) [.ref (ga G t 1), .int a1] V r V := by
  refine uMi_of rfl (Nat.le_of_ble_eq_true rfl) (fun p e s m args below meth c ls X hret hl M => ?_)
  have hl : lv_has ls 2 [(0, .ref (ga G t 1)), (1, .int a1)] := hl
  have hx := X.hx
  have hb := X.hb
  unfold fX0_has at h
  refine lv_iload_n hx hb dX0_has_0 rfl (lv_at hl 1 rfl) ?_
  refine lv_if_lt (tgt := 16) hx hb dX0_has_1 (by decide) (fun c1 => ?_) (fun c1 => ?_)
  · have h := it_t h c1
    refine lv_iconst (v := 0) hx hb dX0_has_16 (by decide) ?_
    exact u_iret X hret M h (rfl) rfl dX0_has_17
  · have h := it_f h c1
    refine lv_iload_n hx hb dX0_has_4 rfl (lv_at hl 1 rfl) ?_
    refine lv_aload_n hx hb dX0_has_5 rfl (lv_at hl 0 rfl) ?_
    obtain ⟨x2, e3, h⟩ := lt_e h
    refine gf_X0_27 X M hS hV e3 dX0_has_6 ?_
    refine lv_icmp_ge (tgt := 16) hx hb dX0_has_9 (by decide) (fun c4 => ?_) (fun c4 => ?_)
    · have h := it_t h c4
      refine lv_iconst (v := 0) hx hb dX0_has_16 (by decide) ?_
      exact u_iret X hret M h (rfl) rfl dX0_has_17
    · have h := it_f h c4
      refine lv_iconst (v := 1) hx hb dX0_has_12 (by decide) ?_
      refine lv_goto (tgt := 17) hx hb dX0_has_13 (by decide) ?_
      exact u_iret X hret M h (rfl) rfl dX0_has_17
def fX0_isFull (S : (Nat → Nat → Int32)) : Int32 :=
  lt_ (S 1 0) fun x1 =>
  if x1 < 10 then
    0
  else
    1
set_option maxHeartbeats 4000000 in
set_option maxRecDepth 20000 in
theorem kX0_isFull {l : Launch} {G : UG} {V : uV} {t : Nat} (hS : uSt G t) {S : (Nat → Nat → Int32)} (hV : V t = S)  {r : Int32} (h : fX0_isFull S = r) : uMi l G yX0_isFull cX0_isFull 1 .boolean (uR 0 0) [.ref (ga G t 1)] V r V := by
  refine uMi_of rfl (Nat.le_of_ble_eq_true rfl) (fun p e s m args below meth c ls X hret hl M => ?_)
  have hl : lv_has ls 1 [(0, .ref (ga G t 1))] := hl
  have hx := X.hx
  have hb := X.hb
  unfold fX0_isFull at h
  refine lv_aload_n hx hb dX0_isFull_0 rfl (lv_at hl 0 rfl) ?_
  obtain ⟨x1, e2, h⟩ := lt_e h
  refine gf_X0_27 X M hS hV e2 dX0_isFull_1 ?_
  refine lv_bipush (v := 10) hx hb dX0_isFull_4 (by decide) ?_
  refine lv_icmp_lt (tgt := 13) hx hb dX0_isFull_6 (by decide) (fun c3 => ?_) (fun c3 => ?_)
  · have h := it_t h c3
    refine lv_iconst (v := 0) hx hb dX0_isFull_13 (by decide) ?_
    exact u_iret X hret M h (rfl) rfl dX0_isFull_14
  · have h := it_f h c3
    refine lv_iconst (v := 1) hx hb dX0_isFull_9 (by decide) ?_
    refine lv_goto (tgt := 14) hx hb dX0_isFull_10 (by decide) ?_
    exact u_iret X hret M h (rfl) rfl dX0_isFull_14
def fX0_make (S : (Nat → Nat → Int32)) (a1 : Int32) (a2 : Int32) (a3 : Int32) (a4 : Int32) : Option (Int32 × (Nat → Nat → Int32)) :=
  lt_ (S 1 0) fun x1 =>
  lt_ (va_up S 3 (fput 10 (S 3) x1 a1)) fun S4 =>
  lt_ (va_up S4 5 (fput 10 (S4 5) x1 a2)) fun S7 =>
  lt_ (va_up S7 7 (fput 10 (S7 7) x1 a3)) fun S10 =>
  lt_ (va_up S10 9 (fput 10 (S10 9) x1 a4)) fun S13 =>
  lt_ (S13 1 0) fun x15 =>
  lt_ (va_up S13 1 (upd (S13 1) 0 (x15 + 1))) fun S17 =>
  some (x1, S17)
set_option maxHeartbeats 4000000 in
set_option maxRecDepth 20000 in
theorem kX0_make {l : Launch} {G : UG} {V : uV} {t : Nat} (hS : uSt G t) {S S' : (Nat → Nat → Int32)} {a1 : Int32} {a2 : Int32} {a3 : Int32} {a4 : Int32} {r : Int32} (h : fX0_make S a1 a2 a3 a4 = some (r, S')) : uMi l G yX0_make cX0_make 6 .int (uR 1 22) [.ref (ga G t 1), .int a1, .int a2, .int a3, .int a4] (va_up V t S) r (va_up V t S') := by
  refine uMi_of rfl (Nat.le_of_ble_eq_true rfl) (fun p e s m args below meth c ls X hret hl M => ?_)
  have hl : lv_has ls 6 [(0, .ref (ga G t 1)), (1, .int a1), (2, .int a2), (3, .int a3), (4, .int a4)] := hl
  have hx := X.hx
  have hb := X.hb
  unfold fX0_make at h
  refine lv_aload_n hx hb dX0_make_0 rfl (lv_at hl 0 rfl) ?_
  obtain ⟨x1, e2, h⟩ := lt_e h
  refine gf_X0_27 X M hS (va_up_s V t _) e2 dX0_make_1 ?_
  refine lv_istore (lv' := [(5, .int x1), (0, .ref (ga G t 1)), (1, .int a1), (2, .int a2), (3, .int a3), (4, .int a4)]) hx hb dX0_make_4 hl (by decide) rfl (fun ls hl => ?_)
  refine lv_aload_n hx hb dX0_make_6 rfl (lv_at hl 1 rfl) ?_
  refine gf_X0_14 X M hS dX0_make_7 ?_
  refine lv_iload hx hb dX0_make_10 (lv_at hl 0 rfl) ?_
  refine lv_iload_n hx hb dX0_make_12 rfl (lv_at hl 2 rfl) ?_
  obtain ⟨S4, e3, h⟩ := lt_e h
  refine u_cVv X M hl.1 (kX6_putS (uRw2 hS) e3) cw_X0_35 ⟨by decide, by decide⟩ (uR_recv X M (uRw2 hS)) rfl rfl (Nat.le_of_ble_eq_true rfl) ⟨Nat.zero_le _, Nat.zero_le _⟩ dX0_make_13 (fun H locs M => ?_)
  refine lv_aload_n hx hb dX0_make_16 rfl (lv_at hl 1 rfl) ?_
  refine gf_X0_18 X M hS dX0_make_17 ?_
  refine lv_iload hx hb dX0_make_20 (lv_at hl 0 rfl) ?_
  refine lv_iload_n hx hb dX0_make_22 rfl (lv_at hl 3 rfl) ?_
  obtain ⟨S7, e6, h⟩ := lt_e h
  refine u_cVv X M hl.1 (kX6_putS (uRw4 hS) e6) cw_X0_35 ⟨by decide, by decide⟩ (uR_recv X M (uRw4 hS)) rfl rfl (Nat.le_of_ble_eq_true rfl) ⟨Nat.zero_le _, Nat.zero_le _⟩ dX0_make_23 (fun H locs M => ?_)
  refine lv_aload_n hx hb dX0_make_26 rfl (lv_at hl 1 rfl) ?_
  refine gf_X0_21 X M hS dX0_make_27 ?_
  refine lv_iload hx hb dX0_make_30 (lv_at hl 0 rfl) ?_
  refine lv_iload_n hx hb dX0_make_32 rfl (lv_at hl 4 rfl) ?_
  obtain ⟨S10, e9, h⟩ := lt_e h
  refine u_cVv X M hl.1 (kX6_putS (uRw6 hS) e9) cw_X0_35 ⟨by decide, by decide⟩ (uR_recv X M (uRw6 hS)) rfl rfl (Nat.le_of_ble_eq_true rfl) ⟨Nat.zero_le _, Nat.zero_le _⟩ dX0_make_33 (fun H locs M => ?_)
  refine lv_aload_n hx hb dX0_make_36 rfl (lv_at hl 1 rfl) ?_
  refine gf_X0_24 X M hS dX0_make_37 ?_
  refine lv_iload hx hb dX0_make_40 (lv_at hl 0 rfl) ?_
  refine lv_iload hx hb dX0_make_42 (lv_at hl 5 rfl) ?_
  obtain ⟨S13, e12, h⟩ := lt_e h
  refine u_cVv X M hl.1 (kX6_putS (uRw8 hS) e12) cw_X0_35 ⟨by decide, by decide⟩ (uR_recv X M (uRw8 hS)) rfl rfl (Nat.le_of_ble_eq_true rfl) ⟨Nat.zero_le _, Nat.zero_le _⟩ dX0_make_44 (fun H locs M => ?_)
  refine lv_aload_n hx hb dX0_make_47 rfl (lv_at hl 1 rfl) ?_
  refine lv_dup hx hb dX0_make_48 rfl ?_
  obtain ⟨x15, e16, h⟩ := lt_e h
  refine gf_X0_27 X M hS (va_up_s V t _) e16 dX0_make_49 ?_
  refine lv_iconst (v := 1) hx hb dX0_make_52 (by decide) ?_
  refine lv_iadd hx hb dX0_make_53 ?_
  obtain ⟨S17, e18, h⟩ := lt_e h
  refine pf_X0_27 X M hS e18 dX0_make_54 (fun H locs M => ?_)
  refine lv_iload hx hb dX0_make_57 (lv_at hl 0 rfl) ?_
  exact u_iret X hret M (rt2 h).1 (congrArg (va_up V t) ((rt2 h).2)) rfl dX0_make_59
def fX0_makeTwin (S : (Nat → Nat → Int32)) (a1 : Int32) : Option (Int32 × (Nat → Nat → Int32)) :=
  lt_ (fget 10 (S 3) a1) fun x2 =>
  lt_ (fget 10 (S 5) a1) fun x5 =>
  lt_ (fget 10 (S 7) a1) fun x8 =>
  lt_ (fget 10 (S 9) a1) fun x11 =>
  bd2 (fX0_make S x2 x5 x8 x11) fun x14 S15 =>
  some (x14, S15)
set_option maxHeartbeats 4000000 in
set_option maxRecDepth 20000 in
theorem kX0_makeTwin {l : Launch} {G : UG} {V : uV} {t : Nat} (hS : uSt G t) {S S' : (Nat → Nat → Int32)} {a1 : Int32} {r : Int32} (h : fX0_makeTwin S a1 = some (r, S')) : uMi l G yX0_makeTwin cX0_makeTwin 2 .int (uR 2 47) [.ref (ga G t 1), .int a1] (va_up V t S) r (va_up V t S') := by
  refine uMi_of rfl (Nat.le_of_ble_eq_true rfl) (fun p e s m args below meth c ls X hret hl M => ?_)
  have hl : lv_has ls 2 [(0, .ref (ga G t 1)), (1, .int a1)] := hl
  have hx := X.hx
  have hb := X.hb
  unfold fX0_makeTwin at h
  refine lv_aload_n hx hb dX0_makeTwin_0 rfl (lv_at hl 0 rfl) ?_
  refine lv_aload_n hx hb dX0_makeTwin_1 rfl (lv_at hl 0 rfl) ?_
  refine gf_X0_14 X M hS dX0_makeTwin_2 ?_
  refine lv_iload_n hx hb dX0_makeTwin_5 rfl (lv_at hl 1 rfl) ?_
  obtain ⟨x2, e1, h⟩ := lt_e h
  refine u_cVi X M hl.1 (kX6_get (uRw2 hS) (congrFun (va_up_s V t _) 3) e1.symm) cw_X0_39 ⟨by decide, by decide⟩ (uR_recv X M (uRw2 hS)) rfl rfl (Nat.le_of_ble_eq_true rfl) ⟨Nat.zero_le _, Nat.zero_le _⟩ dX0_makeTwin_6 (fun H locs M n3 => ?_)
  refine lv_aload_n hx hb dX0_makeTwin_9 rfl (lv_at hl 0 rfl) ?_
  refine gf_X0_18 X M hS dX0_makeTwin_10 ?_
  refine lv_iload_n hx hb dX0_makeTwin_13 rfl (lv_at hl 1 rfl) ?_
  obtain ⟨x5, e4, h⟩ := lt_e h
  refine u_cVi X M hl.1 (kX6_get (uRw4 hS) (congrFun (va_up_s V t _) 5) e4.symm) cw_X0_39 ⟨by decide, by decide⟩ (uR_recv X M (uRw4 hS)) rfl rfl (Nat.le_of_ble_eq_true rfl) ⟨Nat.zero_le _, Nat.zero_le _⟩ dX0_makeTwin_14 (fun H locs M n6 => ?_)
  refine lv_aload_n hx hb dX0_makeTwin_17 rfl (lv_at hl 0 rfl) ?_
  refine gf_X0_21 X M hS dX0_makeTwin_18 ?_
  refine lv_iload_n hx hb dX0_makeTwin_21 rfl (lv_at hl 1 rfl) ?_
  obtain ⟨x8, e7, h⟩ := lt_e h
  refine u_cVi X M hl.1 (kX6_get (uRw6 hS) (congrFun (va_up_s V t _) 7) e7.symm) cw_X0_39 ⟨by decide, by decide⟩ (uR_recv X M (uRw6 hS)) rfl rfl (Nat.le_of_ble_eq_true rfl) ⟨Nat.zero_le _, Nat.zero_le _⟩ dX0_makeTwin_22 (fun H locs M n9 => ?_)
  refine lv_aload_n hx hb dX0_makeTwin_25 rfl (lv_at hl 0 rfl) ?_
  refine gf_X0_24 X M hS dX0_makeTwin_26 ?_
  refine lv_iload_n hx hb dX0_makeTwin_29 rfl (lv_at hl 1 rfl) ?_
  obtain ⟨x11, e10, h⟩ := lt_e h
  refine u_cVi X M hl.1 (kX6_get (uRw8 hS) (congrFun (va_up_s V t _) 9) e10.symm) cw_X0_39 ⟨by decide, by decide⟩ (uR_recv X M (uRw8 hS)) rfl rfl (Nat.le_of_ble_eq_true rfl) ⟨Nat.zero_le _, Nat.zero_le _⟩ dX0_makeTwin_30 (fun H locs M n12 => ?_)
  obtain ⟨x14, S15, e13, h⟩ := bd2_e h
  refine u_cVi X M hl.1 (kX0_make hS e13) cw_X0_43 ⟨by decide, by decide⟩ (rc_X0 X M hS) rfl rfl (Nat.le_of_ble_eq_true rfl) ⟨Nat.zero_le _, Nat.zero_le _⟩ dX0_makeTwin_33 (fun H locs M n16 => ?_)
  exact u_iret X hret M (rt2 h).1 (congrArg (va_up V t) ((rt2 h).2)) rfl dX0_makeTwin_36
def fX0_number (S : (Nat → Nat → Int32)) (a1 : Int32) (a2 : Int32) : Int32 :=
  if a2 = 0 then
    lt_ (fget 10 (S 3) a1) fun x3 =>
    x3
  else if a2 = 1 then
    lt_ (fget 10 (S 5) a1) fun x7 =>
    x7
  else if a2 = 2 then
    lt_ (fget 10 (S 7) a1) fun x11 =>
    x11
  else 
  lt_ (fget 10 (S 9) a1) fun x14 =>
  x14
set_option maxHeartbeats 4000000 in
set_option maxRecDepth 20000 in
theorem kX0_number {l : Launch} {G : UG} {V : uV} {t : Nat} (hS : uSt G t) {S : (Nat → Nat → Int32)} (hV : V t = S) {a1 : Int32} {a2 : Int32} {r : Int32} (h : fX0_number S a1 a2 = r) : uMi l G yX0_number cX0_number 3 .int (uR 1 21) [.ref (ga G t 1), .int a1, .int a2] V r V := by
  refine uMi_of rfl (Nat.le_of_ble_eq_true rfl) (fun p e s m args below meth c ls X hret hl M => ?_)
  have hl : lv_has ls 3 [(0, .ref (ga G t 1)), (1, .int a1), (2, .int a2)] := hl
  have hx := X.hx
  have hb := X.hb
  unfold fX0_number at h
  refine lv_iload_n hx hb dX0_number_0 rfl (lv_at hl 2 rfl) ?_
  by_cases c1 : a2 = 0
  · have h := it_t h c1
    refine lv_tableIn (off := 27) (tgt := 28) hx hb dX0_number_1 (by rw [c1]; decide) (by rw [c1]; decide) (by rw [c1]; rfl) (by decide) ?_
    refine lv_aload_n hx hb dX0_number_28 rfl (lv_at hl 0 rfl) ?_
    refine gf_X0_14 X M hS dX0_number_29 ?_
    refine lv_iload_n hx hb dX0_number_32 rfl (lv_at hl 1 rfl) ?_
    obtain ⟨x3, e2, h⟩ := lt_e h
    refine u_cVi X M hl.1 (kX6_get (uRw2 hS) (congrFun hV 3) e2.symm) cw_X0_39 ⟨by decide, by decide⟩ (uR_recv X M (uRw2 hS)) rfl rfl (Nat.le_of_ble_eq_true rfl) ⟨Nat.zero_le _, Nat.zero_le _⟩ dX0_number_33 (fun H locs M n4 => ?_)
    exact u_iret X hret M h (rfl) rfl dX0_number_36
  · have h := it_f h c1
    by_cases c5 : a2 = 1
    · have h := it_t h c5
      refine lv_tableIn (off := 36) (tgt := 37) hx hb dX0_number_1 (by rw [c5]; decide) (by rw [c5]; decide) (by rw [c5]; rfl) (by decide) ?_
      refine lv_aload_n hx hb dX0_number_37 rfl (lv_at hl 0 rfl) ?_
      refine gf_X0_18 X M hS dX0_number_38 ?_
      refine lv_iload_n hx hb dX0_number_41 rfl (lv_at hl 1 rfl) ?_
      obtain ⟨x7, e6, h⟩ := lt_e h
      refine u_cVi X M hl.1 (kX6_get (uRw4 hS) (congrFun hV 5) e6.symm) cw_X0_39 ⟨by decide, by decide⟩ (uR_recv X M (uRw4 hS)) rfl rfl (Nat.le_of_ble_eq_true rfl) ⟨Nat.zero_le _, Nat.zero_le _⟩ dX0_number_42 (fun H locs M n8 => ?_)
      exact u_iret X hret M h (rfl) rfl dX0_number_45
    · have h := it_f h c5
      by_cases c9 : a2 = 2
      · have h := it_t h c9
        refine lv_tableIn (off := 45) (tgt := 46) hx hb dX0_number_1 (by rw [c9]; decide) (by rw [c9]; decide) (by rw [c9]; rfl) (by decide) ?_
        refine lv_aload_n hx hb dX0_number_46 rfl (lv_at hl 0 rfl) ?_
        refine gf_X0_21 X M hS dX0_number_47 ?_
        refine lv_iload_n hx hb dX0_number_50 rfl (lv_at hl 1 rfl) ?_
        obtain ⟨x11, e10, h⟩ := lt_e h
        refine u_cVi X M hl.1 (kX6_get (uRw6 hS) (congrFun hV 7) e10.symm) cw_X0_39 ⟨by decide, by decide⟩ (uR_recv X M (uRw6 hS)) rfl rfl (Nat.le_of_ble_eq_true rfl) ⟨Nat.zero_le _, Nat.zero_le _⟩ dX0_number_51 (fun H locs M n12 => ?_)
        exact u_iret X hret M h (rfl) rfl dX0_number_54
      · have h := it_f h c9
        have tc1 := lv_neT (a := 0) c1 (by decide)
        have tc5 := lv_neT (a := 1) c5 (by decide)
        have tc9 := lv_neT (a := 2) c9 (by decide)
        refine lv_tableOut (tgt := 55) hx hb dX0_number_1 (by omega) (by decide) ?_
        refine lv_aload_n hx hb dX0_number_55 rfl (lv_at hl 0 rfl) ?_
        refine gf_X0_24 X M hS dX0_number_56 ?_
        refine lv_iload_n hx hb dX0_number_59 rfl (lv_at hl 1 rfl) ?_
        obtain ⟨x14, e13, h⟩ := lt_e h
        refine u_cVi X M hl.1 (kX6_get (uRw8 hS) (congrFun hV 9) e13.symm) cw_X0_39 ⟨by decide, by decide⟩ (uR_recv X M (uRw8 hS)) rfl rfl (Nat.le_of_ble_eq_true rfl) ⟨Nat.zero_le _, Nat.zero_le _⟩ dX0_number_60 (fun H locs M n15 => ?_)
        exact u_iret X hret M h (rfl) rfl dX0_number_63
def fX0_countOf_L4 (S : (Nat → Nat → Int32)) (n : Nat) (y1 : Int32) (y2 : Int32) (y3 : Int32) : Option Int32 :=
  match n with
  | 0 => none
  | n + 1 =>
    lt_ (S 1 0) fun x1 =>
    if x1 ≤ y3 then
      some y2
    else
      lt_ (fget 10 (S 3) y3) fun x5 =>
      if x5 = y1 then
        lt_ (y2 + 1) fun x10 =>
        lt_ (y3 + 1) fun x12 =>
        fX0_countOf_L4 S n y1 x10 x12
      else
        lt_ (y3 + 1) fun x8 =>
        fX0_countOf_L4 S n y1 y2 x8
set_option maxHeartbeats 4000000 in
set_option maxRecDepth 20000 in
theorem lpX0_countOf_4 {l : Launch} {G : UG} {V : uV} {t : Nat} (hS : uSt G t) {S : (Nat → Nat → Int32)} (hV : V t = S) {r : Int32} {p : Program} {e : Env} {s : State} {m : MethodId} {args : Array Value} {below : List Frame} {meth : Method} {c : Code} (X : UC p s m args meth c cX0_countOf 4 RX0 G) (hret : meth.sig.returnType = some .int) : ∀ (n : Nat) (y1 : Int32) (y2 : Int32) (y3 : Int32) (H : Heap) (locs : List Loc) (ls : Array Slot), fX0_countOf_L4 S n y1 y2 y3 = some r → UM G (V) s H locs → lv_has ls 4 [(0, .ref (ga G t 1)), (1, .int y1), (2, .int y2), (3, .int y3)] → W p l e (uR 1 21) s m args below meth c H locs 0 0 (MQ below (uQi G .int r V) args s 0 0 (uA G)) (F0 m 4 ls []) := by
  intro n
  have hx := X.hx
  have hb := X.hb
  induction n with
  | zero => intro y1 y2 y3 H locs ls h M hl; rw [fX0_countOf_L4] at h; cases h
  | succ n ih =>
    intro y1 y2 y3 H locs ls h M hl
    rw [fX0_countOf_L4] at h
    refine lv_iload_n hx hb dX0_countOf_4 rfl (lv_at hl 3 rfl) ?_
    refine lv_aload_n hx hb dX0_countOf_5 rfl (lv_at hl 0 rfl) ?_
    obtain ⟨x1, e2, h⟩ := lt_e h
    refine gf_X0_27 X M hS hV e2 dX0_countOf_6 ?_
    refine lv_icmp_ge (tgt := 33) hx hb dX0_countOf_9 (by decide) (fun c3 => ?_) (fun c3 => ?_)
    · have h := it_t h c3
      refine lv_iload_n hx hb dX0_countOf_33 rfl (lv_at hl 2 rfl) ?_
      exact u_iret X hret M (Option.some.inj h) (rfl) rfl dX0_countOf_34
    · have h := it_f h c3
      refine lv_aload_n hx hb dX0_countOf_12 rfl (lv_at hl 0 rfl) ?_
      refine gf_X0_14 X M hS dX0_countOf_13 ?_
      refine lv_iload_n hx hb dX0_countOf_16 rfl (lv_at hl 3 rfl) ?_
      obtain ⟨x5, e4, h⟩ := lt_e h
      refine u_cVi X M hl.1 (kX6_get (uRw2 hS) (congrFun hV 3) e4.symm) cw_X0_39 ⟨by decide, by decide⟩ (uR_recv X M (uRw2 hS)) rfl rfl (Nat.le_of_ble_eq_true rfl) ⟨Nat.zero_le _, Nat.zero_le _⟩ dX0_countOf_17 (fun H locs M n6 => ?_)
      refine lv_iload_n hx hb dX0_countOf_20 rfl (lv_at hl 1 rfl) ?_
      refine lv_icmp_ne (tgt := 27) hx hb dX0_countOf_21 (by decide) (fun c7 => ?_) (fun c7 => ?_)
      · have h := it_f h c7
        obtain ⟨x8, e9, h⟩ := lt_e h
        refine lv_iinc (v := x8) (lv' := [(3, .int x8), (0, .ref (ga G t 1)), (1, .int y1), (2, .int y2)]) hx hb dX0_countOf_27 hl (k := 3) rfl (by rw [e9]; rfl) (by decide) rfl (fun ls hl => ?_)
        refine lv_goto (tgt := 4) hx hb dX0_countOf_30 (by decide) ?_
        exact ih _ _ _ _ _ _ h M (lv_sub hl [1, 2, 3, 0] rfl)
      · have h := it_t h c7
        obtain ⟨x10, e11, h⟩ := lt_e h
        refine lv_iinc (v := x10) (lv' := [(2, .int x10), (0, .ref (ga G t 1)), (1, .int y1), (3, .int y3)]) hx hb dX0_countOf_24 hl (k := 2) rfl (by rw [e11]; rfl) (by decide) rfl (fun ls hl => ?_)
        obtain ⟨x12, e13, h⟩ := lt_e h
        refine lv_iinc (v := x12) (lv' := [(3, .int x12), (2, .int x10), (0, .ref (ga G t 1)), (1, .int y1)]) hx hb dX0_countOf_27 hl (k := 3) rfl (by rw [e13]; rfl) (by decide) rfl (fun ls hl => ?_)
        refine lv_goto (tgt := 4) hx hb dX0_countOf_30 (by decide) ?_
        exact ih _ _ _ _ _ _ h M (lv_sub hl [2, 3, 1, 0] rfl)
def fX0_countOf (S : (Nat → Nat → Int32)) (a1 : Int32) : Option Int32 :=
  fX0_countOf_L4 S 3000 a1 0 0
set_option maxHeartbeats 4000000 in
set_option maxRecDepth 20000 in
theorem kX0_countOf {l : Launch} {G : UG} {V : uV} {t : Nat} (hS : uSt G t) {S : (Nat → Nat → Int32)} (hV : V t = S) {a1 : Int32} {r : Int32} (h : fX0_countOf S a1 = some r) : uMi l G yX0_countOf cX0_countOf 4 .int (uR 1 21) [.ref (ga G t 1), .int a1] V r V := by
  refine uMi_of rfl (Nat.le_of_ble_eq_true rfl) (fun p e s m args below meth c ls X hret hl M => ?_)
  have hl : lv_has ls 4 [(0, .ref (ga G t 1)), (1, .int a1)] := hl
  have hx := X.hx
  have hb := X.hb
  unfold fX0_countOf at h
  refine lv_iconst (v := 0) hx hb dX0_countOf_0 (by decide) ?_
  refine lv_istore_n (lv' := [(2, .int 0), (0, .ref (ga G t 1)), (1, .int a1)]) hx hb dX0_countOf_1 rfl hl (by decide) rfl (fun ls hl => ?_)
  refine lv_iconst (v := 0) hx hb dX0_countOf_2 (by decide) ?_
  refine lv_istore_n (lv' := [(3, .int 0), (2, .int 0), (0, .ref (ga G t 1)), (1, .int a1)]) hx hb dX0_countOf_3 rfl hl (by decide) rfl (fun ls hl => ?_)
  exact lpX0_countOf_4 hS hV X hret 3000 _ _ _ _ _ _ h M (lv_sub hl [2, 3, 1, 0] rfl)
