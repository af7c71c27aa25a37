theorem dX6_get_0 : decode cX6_get 0 = .ok (.iload_n 1, 1) := by decide +kernel
theorem dX6_get_1 : decode cX6_get 1 = .ok (.ifCond .lt 21, 3) := by decide +kernel
theorem dX6_get_4 : decode cX6_get 4 = .ok (.iload_n 1, 1) := by decide +kernel
theorem dX6_get_5 : decode cX6_get 5 = .ok (.aload_n 0, 1) := by decide +kernel
theorem dX6_get_6 : decode cX6_get 6 = .ok (.getfield 13, 3) := by decide +kernel
theorem dX6_get_9 : decode cX6_get 9 = .ok (.arraylength, 1) := by decide +kernel
theorem dX6_get_10 : decode cX6_get 10 = .ok (.if_icmp .ge 12, 3) := by decide +kernel
theorem dX6_get_13 : decode cX6_get 13 = .ok (.aload_n 0, 1) := by decide +kernel
theorem dX6_get_14 : decode cX6_get 14 = .ok (.getfield 13, 3) := by decide +kernel
theorem dX6_get_17 : decode cX6_get 17 = .ok (.iload_n 1, 1) := by decide +kernel
theorem dX6_get_18 : decode cX6_get 18 = .ok (.iaload, 1) := by decide +kernel
theorem dX6_get_19 : decode cX6_get 19 = .ok (.goto 4, 3) := by decide +kernel
theorem dX6_get_22 : decode cX6_get 22 = .ok (.iconst 0, 1) := by decide +kernel
theorem dX6_get_23 : decode cX6_get 23 = .ok (.ireturn, 1) := by decide +kernel
theorem dX6_put_0 : decode cX6_put 0 = .ok (.iload_n 1, 1) := by decide +kernel
theorem dX6_put_1 : decode cX6_put 1 = .ok (.ifCond .lt 19, 3) := by decide +kernel
theorem dX6_put_4 : decode cX6_put 4 = .ok (.iload_n 1, 1) := by decide +kernel
theorem dX6_put_5 : decode cX6_put 5 = .ok (.aload_n 0, 1) := by decide +kernel
theorem dX6_put_6 : decode cX6_put 6 = .ok (.getfield 13, 3) := by decide +kernel
theorem dX6_put_9 : decode cX6_put 9 = .ok (.arraylength, 1) := by decide +kernel
theorem dX6_put_10 : decode cX6_put 10 = .ok (.if_icmp .ge 10, 3) := by decide +kernel
theorem dX6_put_13 : decode cX6_put 13 = .ok (.aload_n 0, 1) := by decide +kernel
theorem dX6_put_14 : decode cX6_put 14 = .ok (.getfield 13, 3) := by decide +kernel
theorem dX6_put_17 : decode cX6_put 17 = .ok (.iload_n 1, 1) := by decide +kernel
theorem dX6_put_18 : decode cX6_put 18 = .ok (.iload_n 2, 1) := by decide +kernel
theorem dX6_put_19 : decode cX6_put 19 = .ok (.iastore, 1) := by decide +kernel
theorem dX6_put_20 : decode cX6_put 20 = .ok (.return_, 1) := by decide +kernel
theorem dX6_increase_0 : decode cX6_increase 0 = .ok (.iload_n 1, 1) := by decide +kernel
theorem dX6_increase_1 : decode cX6_increase 1 = .ok (.ifCond .lt 22, 3) := by decide +kernel
theorem dX6_increase_4 : decode cX6_increase 4 = .ok (.iload_n 1, 1) := by decide +kernel
theorem dX6_increase_5 : decode cX6_increase 5 = .ok (.aload_n 0, 1) := by decide +kernel
theorem dX6_increase_6 : decode cX6_increase 6 = .ok (.getfield 13, 3) := by decide +kernel
theorem dX6_increase_9 : decode cX6_increase 9 = .ok (.arraylength, 1) := by decide +kernel
theorem dX6_increase_10 : decode cX6_increase 10 = .ok (.if_icmp .ge 13, 3) := by decide +kernel
theorem dX6_increase_13 : decode cX6_increase 13 = .ok (.aload_n 0, 1) := by decide +kernel
theorem dX6_increase_14 : decode cX6_increase 14 = .ok (.getfield 13, 3) := by decide +kernel
theorem dX6_increase_17 : decode cX6_increase 17 = .ok (.iload_n 1, 1) := by decide +kernel
theorem dX6_increase_18 : decode cX6_increase 18 = .ok (.dup2, 1) := by decide +kernel
theorem dX6_increase_19 : decode cX6_increase 19 = .ok (.iaload, 1) := by decide +kernel
theorem dX6_increase_20 : decode cX6_increase 20 = .ok (.iload_n 2, 1) := by decide +kernel
theorem dX6_increase_21 : decode cX6_increase 21 = .ok (.iadd, 1) := by decide +kernel
theorem dX6_increase_22 : decode cX6_increase 22 = .ok (.iastore, 1) := by decide +kernel
theorem dX6_increase_23 : decode cX6_increase 23 = .ok (.return_, 1) := by decide +kernel
theorem dX6_replace_0 : decode cX6_replace 0 = .ok (.aload_n 0, 1) := by decide +kernel
theorem dX6_replace_1 : decode cX6_replace 1 = .ok (.iload_n 1, 1) := by decide +kernel
theorem dX6_replace_2 : decode cX6_replace 2 = .ok (.invokevirtual 19, 3) := by decide +kernel
theorem dX6_replace_5 : decode cX6_replace 5 = .ok (.istore_n 3, 1) := by decide +kernel
theorem dX6_replace_6 : decode cX6_replace 6 = .ok (.aload_n 0, 1) := by decide +kernel
theorem dX6_replace_7 : decode cX6_replace 7 = .ok (.iload_n 1, 1) := by decide +kernel
theorem dX6_replace_8 : decode cX6_replace 8 = .ok (.iload_n 2, 1) := by decide +kernel
theorem dX6_replace_9 : decode cX6_replace 9 = .ok (.invokevirtual 23, 3) := by decide +kernel
theorem dX6_replace_12 : decode cX6_replace 12 = .ok (.iload_n 3, 1) := by decide +kernel
theorem dX6_replace_13 : decode cX6_replace 13 = .ok (.ireturn, 1) := by decide +kernel
theorem dX6_fill_0 : decode cX6_fill 0 = .ok (.iconst 0, 1) := by decide +kernel
theorem dX6_fill_1 : decode cX6_fill 1 = .ok (.istore_n 2, 1) := by decide +kernel
theorem dX6_fill_2 : decode cX6_fill 2 = .ok (.iload_n 2, 1) := by decide +kernel
theorem dX6_fill_3 : decode cX6_fill 3 = .ok (.aload_n 0, 1) := by decide +kernel
theorem dX6_fill_4 : decode cX6_fill 4 = .ok (.getfield 13, 3) := by decide +kernel
theorem dX6_fill_7 : decode cX6_fill 7 = .ok (.arraylength, 1) := by decide +kernel
theorem dX6_fill_8 : decode cX6_fill 8 = .ok (.if_icmp .ge 16, 3) := by decide +kernel
theorem dX6_fill_11 : decode cX6_fill 11 = .ok (.aload_n 0, 1) := by decide +kernel
theorem dX6_fill_12 : decode cX6_fill 12 = .ok (.getfield 13, 3) := by decide +kernel
theorem dX6_fill_15 : decode cX6_fill 15 = .ok (.iload_n 2, 1) := by decide +kernel
theorem dX6_fill_16 : decode cX6_fill 16 = .ok (.iload_n 1, 1) := by decide +kernel
theorem dX6_fill_17 : decode cX6_fill 17 = .ok (.iastore, 1) := by decide +kernel
theorem dX6_fill_18 : decode cX6_fill 18 = .ok (.iinc 2 1, 3) := by decide +kernel
theorem dX6_fill_21 : decode cX6_fill 21 = .ok (.goto (-19), 3) := by decide +kernel
theorem dX6_fill_24 : decode cX6_fill 24 = .ok (.return_, 1) := by decide +kernel
theorem dX6_copyFrom_0 : decode cX6_copyFrom 0 = .ok (.aload_n 1, 1) := by decide +kernel
theorem dX6_copyFrom_1 : decode cX6_copyFrom 1 = .ok (.getfield 13, 3) := by decide +kernel
theorem dX6_copyFrom_4 : decode cX6_copyFrom 4 = .ok (.iconst 0, 1) := by decide +kernel
theorem dX6_copyFrom_5 : decode cX6_copyFrom 5 = .ok (.aload_n 0, 1) := by decide +kernel
theorem dX6_copyFrom_6 : decode cX6_copyFrom 6 = .ok (.getfield 13, 3) := by decide +kernel
theorem dX6_copyFrom_9 : decode cX6_copyFrom 9 = .ok (.iconst 0, 1) := by decide +kernel
theorem dX6_copyFrom_10 : decode cX6_copyFrom 10 = .ok (.aload_n 0, 1) := by decide +kernel
theorem dX6_copyFrom_11 : decode cX6_copyFrom 11 = .ok (.getfield 13, 3) := by decide +kernel
theorem dX6_copyFrom_14 : decode cX6_copyFrom 14 = .ok (.arraylength, 1) := by decide +kernel
theorem dX6_copyFrom_15 : decode cX6_copyFrom 15 = .ok (.aload_n 1, 1) := by decide +kernel
theorem dX6_copyFrom_16 : decode cX6_copyFrom 16 = .ok (.getfield 13, 3) := by decide +kernel
theorem dX6_copyFrom_19 : decode cX6_copyFrom 19 = .ok (.arraylength, 1) := by decide +kernel
theorem dX6_copyFrom_20 : decode cX6_copyFrom 20 = .ok (.invokestatic 27, 3) := by decide +kernel
theorem dX6_copyFrom_23 : decode cX6_copyFrom 23 = .ok (.invokestatic 30, 3) := by decide +kernel
theorem dX6_copyFrom_26 : decode cX6_copyFrom 26 = .ok (.return_, 1) := by decide +kernel
theorem iw_X6 : ∀ w ∈ u_ws RX6 TX6 1, w ∈ gtbl := by decide +kernel
theorem yf_X6_get : (Cond.instanceMethod yX6_get) ∈ gtbl ∧ (Cond.selects RX6 yX6_get yX6_get) ∈ gtbl ∧ (Cond.initialized RX6) ∈ gtbl ∧ (Cond.code yX6_get cX6_get 2 (some .int)) ∈ gtbl ∧ (yX6_get.cls = RX6 ∧ yX6_get.cls ≠ "java/lang/invoke/MethodHandle" ∧ yX6_get.cls ≠ "java/lang/invoke/VarHandle" ∧ (parseMethodDescriptor yX6_get.desc).map (fun d => d.parameters.length) = some 1) := ⟨gt_in 429 (by decide +kernel) (by decide +kernel), gt_in 430 (by decide +kernel) (by decide +kernel), gt_in 13 (by decide +kernel) (by decide +kernel), gt_in 431 (by decide +kernel) (by decide +kernel), by decide +kernel⟩
theorem cw_X6_19 : uCW RX6 RX6 19 yX6_get cX6_get 2 (some .int) 1 := ⟨gt_in 531 (by decide +kernel) (by decide +kernel), yf_X6_get⟩
theorem yf_X6_put : (Cond.instanceMethod yX6_put) ∈ gtbl ∧ (Cond.selects RX6 yX6_put yX6_put) ∈ gtbl ∧ (Cond.initialized RX6) ∈ gtbl ∧ (Cond.code yX6_put cX6_put 3 none) ∈ gtbl ∧ (yX6_put.cls = RX6 ∧ yX6_put.cls ≠ "java/lang/invoke/MethodHandle" ∧ yX6_put.cls ≠ "java/lang/invoke/VarHandle" ∧ (parseMethodDescriptor yX6_put.desc).map (fun d => d.parameters.length) = some 2) := ⟨gt_in 180 (by decide +kernel) (by decide +kernel), gt_in 181 (by decide +kernel) (by decide +kernel), gt_in 13 (by decide +kernel) (by decide +kernel), gt_in 182 (by decide +kernel) (by decide +kernel), by decide +kernel⟩
theorem cw_X6_23 : uCW RX6 RX6 23 yX6_put cX6_put 3 none 2 := ⟨gt_in 532 (by decide +kernel) (by decide +kernel), yf_X6_put⟩

def uRow (G : UG) (t o n : Nat) : Prop := (t, o) ∈ gk G ∧ (t, o + 1) ∈ gk G ∧ (∀ f, uSh G t o f = uRowC G t o) ∧ (∀ f, uSh G t (o + 1) f = uArr G n f) ∧ n < 2 ^ 31
def fget (n : Nat) (f : Nat → Int32) (i : Int32) : Int32 := if i < 0 then 0 else if Int32.ofNat n ≤ i then 0 else f i.toNatClampNeg
def fput (n : Nat) (f : Nat → Int32) (i x : Int32) : Nat → Int32 := if i < 0 then f else if Int32.ofNat n ≤ i then f else upd f i.toNatClampNeg x
def finc (n : Nat) (f : Nat → Int32) (i x : Int32) : Nat → Int32 := if i < 0 then f else if Int32.ofNat n ≤ i then f else upd f i.toNatClampNeg (f i.toNatClampNeg + x)
theorem r_in {i : Int32} {n : Nat} (hn : n < 2 ^ 31) (h0 : ¬ i < 0) (h1 : ¬ Int32.ofNat n ≤ i) : vp_in i n := by
  rcases pk_ix i hn with h | h | ⟨j, hj, rfl⟩
  · exact absurd h h0
  · exact absurd h h1
  · exact vp_in_nI hj hn
theorem uS_b {V : uV} {t : Nat} {S : Nat → Nat → Int32} {o : Nat} {f : Nat → Int32} : uS (va_up V t S) t o f = va_up V t (va_up S o f) := by unfold uS; rw [va_up_s, bx_uu]
section ROW
variable {p : Program} {l : Launch} {e : Env} {R : Room} {s : State} {m : MethodId} {args : Array Value} {below : List Frame} {meth : Method} {c : Code} {H : Heap} {locs : List Loc} {cells slots : Nat} {Q : State → Prop}
variable {cc : ByteArray} {pc nL : Nat} {ls : Array Slot} {rest : List Value} {G : UG} {V : uV} {t o n : Nat} {S : Nat → Nat → Int32}
theorem gf_X6_13 (X : UC p s m args meth c cc nL RX6 G) (M : UM G V s H locs) (hR : uRow G t o n) (hdg : decode cc pc = .ok (.getfield 13, 3))
    (kk : W p l e R s m args below meth c H locs cells slots Q (F0 m (pc + 3) ls (.ref (ga G t (o + 1)) :: rest))) : W p l e R s m args below meth c H locs cells slots Q (F0 m pc ls (.ref (ga G t o) :: rest)) :=
  u_get X M hR.1 (hR.2.2.1 _) (C := RX6) (T := TX6) (N := 1) rfl iw_X6 0 (by decide) rfl (gt_in 59 (by decide +kernel) (by decide +kernel)) rfl hdg kk
theorem kX6_get {f : Nat → Int32} (hR : uRow G t o n) (hV : V t (o + 1) = f) {i r : Int32} (h : fget n f i = r) : uMi l G yX6_get cX6_get 2 .int (uR 0 0) [.ref (ga G t o), .int i] V r V := by
  refine uMi_of rfl (Nat.le_of_ble_eq_true rfl) (fun p e s m args below meth c ls X hret hl M => ?_)
  have hl : lv_has ls 2 [(0, .ref (ga G t o)), (1, .int i)] := hl
  have hx := X.hx
  have hb := X.hb
  have hsh : uSh G t (o + 1) (V t (o + 1)) = uArr G n f := by rw [hR.2.2.2.1, hV]
  unfold fget at h
  refine lv_iload_n hx hb dX6_get_0 rfl (lv_at hl 1 rfl) ?_
  refine lv_if_lt (tgt := 22) hx hb dX6_get_1 (by decide) (fun c1 => ?_) (fun c1 => ?_)
  · have h := it_t h c1
    refine lv_iconst (v := 0) hx hb dX6_get_22 rfl ?_
    exact u_iret X hret M h rfl rfl dX6_get_23
  · have h := it_f h c1
    refine lv_iload_n hx hb dX6_get_4 rfl (lv_at hl 1 rfl) ?_
    refine lv_aload_n hx hb dX6_get_5 rfl (lv_at hl 0 rfl) ?_
    refine gf_X6_13 X M hR dX6_get_6 ?_
    refine u_len X M hR.2.1 hsh rfl dX6_get_9 ?_
    refine lv_icmp_ge (tgt := 22) hx hb dX6_get_10 (by decide) (fun c2 => ?_) (fun c2 => ?_)
    · have h := it_t h c2
      refine lv_iconst (v := 0) hx hb dX6_get_22 rfl ?_
      exact u_iret X hret M h rfl rfl dX6_get_23
    · have h := it_f h c2
      refine lv_aload_n hx hb dX6_get_13 rfl (lv_at hl 0 rfl) ?_
      refine gf_X6_13 X M hR dX6_get_14 ?_
      refine lv_iload_n hx hb dX6_get_17 rfl (lv_at hl 1 rfl) ?_
      refine u_ald X M hR.2.1 hsh (r_in hR.2.2.2.2 c1 c2) rfl dX6_get_18 ?_
      refine lv_goto (tgt := 23) hx hb dX6_get_19 (by decide) ?_
      exact u_iret X hret M h rfl rfl dX6_get_23
theorem kX6_put (hR : uRow G t o n) {i x : Int32} {f' : Nat → Int32} (h : fput n (S (o + 1)) i x = f') : uMv l G yX6_put cX6_put 3 (uR 0 0) [.ref (ga G t o), .int i, .int x] (va_up V t S) (va_up V t (va_up S (o + 1) f')) := by
  refine uMv_of rfl (Nat.le_of_ble_eq_true rfl) (fun p e s m args below meth c ls X hret hl M => ?_)
  have hl : lv_has ls 3 [(0, .ref (ga G t o)), (1, .int i), (2, .int x)] := hl
  have hx := X.hx
  have hb := X.hb
  have hsh : uSh G t (o + 1) ((va_up V t S) t (o + 1)) = uArr G n (S (o + 1)) := by rw [hR.2.2.2.1, va_up_s]
  unfold fput at h
  refine lv_iload_n hx hb dX6_put_0 rfl (lv_at hl 1 rfl) ?_
  refine lv_if_lt (tgt := 20) hx hb dX6_put_1 (by decide) (fun c1 => ?_) (fun c1 => ?_)
  · have h := it_t h c1
    exact u_vret X hret M (by rw [← h, va_up_id]) dX6_put_20
  · have h := it_f h c1
    refine lv_iload_n hx hb dX6_put_4 rfl (lv_at hl 1 rfl) ?_
    refine lv_aload_n hx hb dX6_put_5 rfl (lv_at hl 0 rfl) ?_
    refine gf_X6_13 X M hR dX6_put_6 ?_
    refine u_len X M hR.2.1 hsh rfl dX6_put_9 ?_
    refine lv_icmp_ge (tgt := 20) hx hb dX6_put_10 (by decide) (fun c2 => ?_) (fun c2 => ?_)
    · have h := it_t h c2
      exact u_vret X hret M (by rw [← h, va_up_id]) dX6_put_20
    · have h := it_f h c2
      refine lv_aload_n hx hb dX6_put_13 rfl (lv_at hl 0 rfl) ?_
      refine gf_X6_13 X M hR dX6_put_14 ?_
      refine lv_iload_n hx hb dX6_put_17 rfl (lv_at hl 1 rfl) ?_
      refine lv_iload_n hx hb dX6_put_18 rfl (lv_at hl 2 rfl) ?_
      refine u_ast X M hR.2.1 hsh (r_in hR.2.2.2.2 c1 c2) hR.2.2.2.1 dX6_put_19 (fun H locs M => ?_)
      exact u_vret X hret M (by rw [uS_b, h]) dX6_put_20
theorem kX6_increase (hR : uRow G t o n) {i x : Int32} {f' : Nat → Int32} (h : finc n (S (o + 1)) i x = f') : uMv l G yX6_increase cX6_increase 3 (uR 0 0) [.ref (ga G t o), .int i, .int x] (va_up V t S) (va_up V t (va_up S (o + 1) f')) := by
  refine uMv_of rfl (Nat.le_of_ble_eq_true rfl) (fun p e s m args below meth c ls X hret hl M => ?_)
  have hl : lv_has ls 3 [(0, .ref (ga G t o)), (1, .int i), (2, .int x)] := hl
  have hx := X.hx
  have hb := X.hb
  have hsh : uSh G t (o + 1) ((va_up V t S) t (o + 1)) = uArr G n (S (o + 1)) := by rw [hR.2.2.2.1, va_up_s]
  unfold finc at h
  refine lv_iload_n hx hb dX6_increase_0 rfl (lv_at hl 1 rfl) ?_
  refine lv_if_lt (tgt := 23) hx hb dX6_increase_1 (by decide) (fun c1 => ?_) (fun c1 => ?_)
  · have h := it_t h c1
    exact u_vret X hret M (by rw [← h, va_up_id]) dX6_increase_23
  · have h := it_f h c1
    refine lv_iload_n hx hb dX6_increase_4 rfl (lv_at hl 1 rfl) ?_
    refine lv_aload_n hx hb dX6_increase_5 rfl (lv_at hl 0 rfl) ?_
    refine gf_X6_13 X M hR dX6_increase_6 ?_
    refine u_len X M hR.2.1 hsh rfl dX6_increase_9 ?_
    refine lv_icmp_ge (tgt := 23) hx hb dX6_increase_10 (by decide) (fun c2 => ?_) (fun c2 => ?_)
    · have h := it_t h c2
      exact u_vret X hret M (by rw [← h, va_up_id]) dX6_increase_23
    · have h := it_f h c2
      refine lv_aload_n hx hb dX6_increase_13 rfl (lv_at hl 0 rfl) ?_
      refine gf_X6_13 X M hR dX6_increase_14 ?_
      refine lv_iload_n hx hb dX6_increase_17 rfl (lv_at hl 1 rfl) ?_
      refine lv_dup2_11 hx hb dX6_increase_18 rfl rfl ?_
      refine u_ald X M hR.2.1 hsh (r_in hR.2.2.2.2 c1 c2) rfl dX6_increase_19 ?_
      refine lv_iload_n hx hb dX6_increase_20 rfl (lv_at hl 2 rfl) ?_
      refine lv_iadd hx hb dX6_increase_21 ?_
      refine u_ast X M hR.2.1 hsh (r_in hR.2.2.2.2 c1 c2) hR.2.2.2.1 dX6_increase_22 (fun H locs M => ?_)
      exact u_vret X hret M (by rw [uS_b, h]) dX6_increase_23
theorem uR_recv {H : Heap} {own : String} (X : UC p s m args meth c cc nL own G) (M : UM G V s H locs) (hR : uRow G t o n) : ∃ cell : Cell, H[ga G t o]? = some cell ∧ cell.vm.isStatics = false ∧ s.vm.findClass RX6 = some cell.cls := u_recv X M hR.1 (hR.2.2.1 _) (C := RX6) (T := TX6) (N := 1) rfl
theorem kX6_replace (hR : uRow G t o n) {i x r : Int32} {f' : Nat → Int32} (h1 : fget n (S (o + 1)) i = r) (h2 : fput n (S (o + 1)) i x = f') : uMi l G yX6_replace cX6_replace 4 .int (uR 1 22) [.ref (ga G t o), .int i, .int x] (va_up V t S) r (va_up V t (va_up S (o + 1) f')) := by
  refine uMi_of rfl (Nat.le_of_ble_eq_true rfl) (fun p e s m args below meth c ls X hret hl M => ?_)
  have hl : lv_has ls 4 [(0, .ref (ga G t o)), (1, .int i), (2, .int x)] := hl
  have hx := X.hx
  have hb := X.hb
  refine lv_aload_n hx hb dX6_replace_0 rfl (lv_at hl 0 rfl) ?_
  refine lv_iload_n hx hb dX6_replace_1 rfl (lv_at hl 1 rfl) ?_
  refine u_cVi X M hl.1 (kX6_get hR (congrFun (va_up_s V t S) (o + 1)) h1) cw_X6_19 ⟨by decide, by decide⟩ (uR_recv X M hR) rfl rfl (by decide) ⟨Nat.zero_le _, Nat.zero_le _⟩ dX6_replace_2 (fun H locs M hn => ?_)
  refine lv_istore_n (lv' := [(3, .int r), (0, .ref (ga G t o)), (1, .int i), (2, .int x)]) hx hb dX6_replace_5 rfl hl (by decide) rfl (fun ls hl => ?_)
  refine lv_aload_n hx hb dX6_replace_6 rfl (lv_at hl 1 rfl) ?_
  refine lv_iload_n hx hb dX6_replace_7 rfl (lv_at hl 2 rfl) ?_
  refine lv_iload_n hx hb dX6_replace_8 rfl (lv_at hl 3 rfl) ?_
  refine u_cVv X M hl.1 (kX6_put hR h2) cw_X6_23 ⟨by decide, by decide⟩ (uR_recv X M hR) rfl rfl (by decide) ⟨Nat.zero_le _, Nat.zero_le _⟩ dX6_replace_9 (fun H locs M => ?_)
  refine lv_iload_n hx hb dX6_replace_12 rfl (lv_at hl 0 rfl) ?_
  exact u_iret X hret M rfl rfl rfl dX6_replace_13
end ROW

