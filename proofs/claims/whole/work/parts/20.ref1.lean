
def uAr (G : UG) (q : Nat) : Prop := (19, q) ∈ gk G ∧ ∀ f, uSh G 19 q f = uArr G 1272 f
theorem uAr_sh {G : UG} {V : uV} {q : Nat} {f : Nat → Int32} (hq : uAr G q) (h : V 19 q = f) : uSh G 19 q (V 19 q) = uArr G 1272 f := by rw [hq.2, h]
theorem uAd_sh {G : UG} {V : uV} {o : Nat} {E : (Nat → Int32) → va_E} {f : Nat → Int32} (hs : ∀ f, uSh G 19 o f = E f) (h : V 19 o = f) : uSh G 19 o (V 19 o) = E f := by rw [hs, h]
theorem uSh_md1 {G : UG} : ∀ f, uSh G 19 1 f = uArr G 120 f := fun _ => rfl
theorem uSh_md2 {G : UG} : ∀ f, uSh G 19 2 f = uArr G 1272 f := fun _ => rfl
theorem uSh_md3 {G : UG} : ∀ f, uSh G 19 3 f = uArr G 1272 f := fun _ => rfl
theorem uSh_md4 {G : UG} : ∀ f, uSh G 19 4 f = uArr G 1272 f := fun _ => rfl
theorem uSh_md5 {G : UG} : ∀ f, uSh G 19 5 f = uArr G 17808 f := fun _ => rfl
theorem uSh_md6 {G : UG} : ∀ f, uSh G 19 6 f = uArr G 2544 f := fun _ => rfl
theorem uSh_md7 {G : UG} : ∀ f, uSh G 19 7 f = .inl (gZ G, 2, .inl f) := fun _ => rfl
theorem uArD2 {G : UG} (h : uMd G) : uAr G 2 := ⟨h 2 (by decide), uSh_md2⟩
theorem uArD3 {G : UG} (h : uMd G) : uAr G 3 := ⟨h 3 (by decide), uSh_md3⟩
theorem uArD4 {G : UG} (h : uMd G) : uAr G 4 := ⟨h 4 (by decide), uSh_md4⟩
section AROWS
variable {p : Program} {l : Launch} {e : Env} {R : Room} {s : State} {m : MethodId} {args : Array Value} {below : List Frame} {meth : Method} {c : Code} {H : Heap} {locs : List Loc} {cells slots : Nat} {Q : State → Prop}
variable {cc : ByteArray} {pc nL : Nat} {ls : Array Slot} {rest : List Value} {own : String} {G : UG} {V : uV} {q o n : Nat} {B S S1 : Nat → Nat → Int32} {f f1 : Nat → Int32}
theorem u_ast_a (X : UC p s m args meth c cc nL own G) (M : UM G (va_up V 19 (va_up B q f)) s H locs) (hq : uAr G q) {i x : Int32} (hin : vp_in i 1272) (e1 : f1 = upd f i.toNatClampNeg x) (hdg : decode cc pc = .ok (.iastore, 1))
    (kk : ∀ (H1 : Heap) (locs1 : List Loc), UM G (va_up V 19 (va_up B q f1)) s H1 locs1 → W p l e R s m args below meth c H1 locs1 cells slots Q (F0 m (pc + 1) ls rest)) : W p l e R s m args below meth c H locs cells slots Q (F0 m pc ls (.int x :: .int i :: .ref (ga G 19 q) :: rest)) := by
  refine u_ast X M hq.1 (uAr_sh hq (va_up_s2 V 19 B q f)) hin hq.2 hdg (fun H locs M => kk H locs ?_)
  rw [uS_b, bx_uu, ← e1] at M
  exact M
theorem u_ast_b (X : UC p s m args meth c cc nL own G) (M : UM G (va_up V 19 S) s H locs) (hk : (19, o) ∈ gk G) (hs : ∀ f, uSh G 19 o f = uArr G n f) {i x : Int32} (hin : vp_in i n) (e1 : S1 = va_up S o (upd (S o) i.toNatClampNeg x)) (hdg : decode cc pc = .ok (.iastore, 1))
    (kk : ∀ (H1 : Heap) (locs1 : List Loc), UM G (va_up V 19 S1) s H1 locs1 → W p l e R s m args below meth c H1 locs1 cells slots Q (F0 m (pc + 1) ls rest)) : W p l e R s m args below meth c H locs cells slots Q (F0 m pc ls (.int x :: .int i :: .ref (ga G 19 o) :: rest)) := by
  refine u_ast X M hk (uAd_sh hs (congrFun (va_up_s V 19 S) o)) hin hs hdg (fun H locs M => kk H locs ?_)
  rw [uS_b, ← e1] at M
  exact M
theorem u_zast_b (X : UC p s m args meth c cc nL own G) (M : UM G (va_up V 19 S) s H locs) (hk : (19, o) ∈ gk G) (hs : ∀ f, uSh G 19 o f = .inl (gZ G, n, .inl f)) {i x : Int32} (hin : vp_in i n) (hn : vp_nar .boolean x = x) (e1 : S1 = va_up S o (upd (S o) i.toNatClampNeg x)) (hdg : decode cc pc = .ok (.bastore, 1))
    (kk : ∀ (H1 : Heap) (locs1 : List Loc), UM G (va_up V 19 S1) s H1 locs1 → W p l e R s m args below meth c H1 locs1 cells slots Q (F0 m (pc + 1) ls rest)) : W p l e R s m args below meth c H locs cells slots Q (F0 m pc ls (.int x :: .int i :: .ref (ga G 19 o) :: rest)) := by
  refine u_zast X M hk (uAd_sh hs (congrFun (va_up_s V 19 S) o)) hin hn hs hdg (fun H locs M => kk H locs ?_)
  rw [uS_b, ← e1] at M
  exact M
end AROWS
theorem dX12_in_0 : decode cX12_in 0 = .ok (.lload_n 0, 1) := by decide +kernel
theorem dX12_in_1 : decode cX12_in 1 = .ok (.lload_n 2, 1) := by decide +kernel
theorem dX12_in_2 : decode cX12_in 2 = .ok (.lcmp, 1) := by decide +kernel
theorem dX12_in_3 : decode cX12_in 3 = .ok (.ifCond .lt 14, 3) := by decide +kernel
theorem dX12_in_6 : decode cX12_in 6 = .ok (.lload_n 0, 1) := by decide +kernel
theorem dX12_in_7 : decode cX12_in 7 = .ok (.lload 4, 2) := by decide +kernel
theorem dX12_in_9 : decode cX12_in 9 = .ok (.lcmp, 1) := by decide +kernel
theorem dX12_in_10 : decode cX12_in 10 = .ok (.ifCond .gt 7, 3) := by decide +kernel
theorem dX12_in_13 : decode cX12_in 13 = .ok (.iconst 1, 1) := by decide +kernel
theorem dX12_in_14 : decode cX12_in 14 = .ok (.goto 4, 3) := by decide +kernel
theorem dX12_in_17 : decode cX12_in 17 = .ok (.iconst 0, 1) := by decide +kernel
theorem dX12_in_18 : decode cX12_in 18 = .ok (.ireturn, 1) := by decide +kernel
theorem dX12_cardAt_0 : decode cX12_cardAt 0 = .ok (.bipush 12, 2) := by decide +kernel
theorem dX12_cardAt_2 : decode cX12_cardAt 2 = .ok (.iconst 4, 1) := by decide +kernel
theorem dX12_cardAt_3 : decode cX12_cardAt 3 = .ok (.iload_n 0, 1) := by decide +kernel
theorem dX12_cardAt_4 : decode cX12_cardAt 4 = .ok (.imul, 1) := by decide +kernel
theorem dX12_cardAt_5 : decode cX12_cardAt 5 = .ok (.iadd, 1) := by decide +kernel
theorem dX12_cardAt_6 : decode cX12_cardAt 6 = .ok (.ireturn, 1) := by decide +kernel
theorem dX12_accountAt_0 : decode cX12_accountAt 0 = .ok (.bipush 52, 2) := by decide +kernel
theorem dX12_accountAt_2 : decode cX12_accountAt 2 = .ok (.iconst 4, 1) := by decide +kernel
theorem dX12_accountAt_3 : decode cX12_accountAt 3 = .ok (.iload_n 0, 1) := by decide +kernel
theorem dX12_accountAt_4 : decode cX12_accountAt 4 = .ok (.imul, 1) := by decide +kernel
theorem dX12_accountAt_5 : decode cX12_accountAt 5 = .ok (.iadd, 1) := by decide +kernel
theorem dX12_accountAt_6 : decode cX12_accountAt 6 = .ok (.ireturn, 1) := by decide +kernel
theorem dX12_gateAt_0 : decode cX12_gateAt 0 = .ok (.bipush 84, 2) := by decide +kernel
theorem dX12_gateAt_2 : decode cX12_gateAt 2 = .ok (.iconst 5, 1) := by decide +kernel
theorem dX12_gateAt_3 : decode cX12_gateAt 3 = .ok (.iload_n 0, 1) := by decide +kernel
theorem dX12_gateAt_4 : decode cX12_gateAt 4 = .ok (.imul, 1) := by decide +kernel
theorem dX12_gateAt_5 : decode cX12_gateAt 5 = .ok (.iadd, 1) := by decide +kernel
theorem dX12_gateAt_6 : decode cX12_gateAt 6 = .ok (.ireturn, 1) := by decide +kernel
theorem dX12_logAt_0 : decode cX12_logAt 0 = .ok (.bipush 104, 2) := by decide +kernel
theorem dX12_logAt_2 : decode cX12_logAt 2 = .ok (.bipush 36, 2) := by decide +kernel
theorem dX12_logAt_4 : decode cX12_logAt 4 = .ok (.iload_n 0, 1) := by decide +kernel
theorem dX12_logAt_5 : decode cX12_logAt 5 = .ok (.imul, 1) := by decide +kernel
theorem dX12_logAt_6 : decode cX12_logAt 6 = .ok (.iadd, 1) := by decide +kernel
theorem dX12_logAt_7 : decode cX12_logAt 7 = .ok (.iconst 3, 1) := by decide +kernel
theorem dX12_logAt_8 : decode cX12_logAt 8 = .ok (.iload_n 1, 1) := by decide +kernel
theorem dX12_logAt_9 : decode cX12_logAt 9 = .ok (.imul, 1) := by decide +kernel
theorem dX12_logAt_10 : decode cX12_logAt 10 = .ok (.iadd, 1) := by decide +kernel
theorem dX12_logAt_11 : decode cX12_logAt 11 = .ok (.ireturn, 1) := by decide +kernel
theorem dX12_isGate_0 : decode cX12_isGate 0 = .ok (.iload_n 0, 1) := by decide +kernel
theorem dX12_isGate_1 : decode cX12_isGate 1 = .ok (.i2l, 1) := by decide +kernel
theorem dX12_isGate_2 : decode cX12_isGate 2 = .ok (.lconst 0, 1) := by decide +kernel
theorem dX12_isGate_3 : decode cX12_isGate 3 = .ok (.ldc2_w 48, 3) := by decide +kernel
theorem dX12_isGate_6 : decode cX12_isGate 6 = .ok (.invokestatic 44, 3) := by decide +kernel
theorem dX12_isGate_9 : decode cX12_isGate 9 = .ok (.ireturn, 1) := by decide +kernel
theorem dX12_isThrough_0 : decode cX12_isThrough 0 = .ok (.iload_n 0, 1) := by decide +kernel
theorem dX12_isThrough_1 : decode cX12_isThrough 1 = .ok (.iconst 3, 1) := by decide +kernel
theorem dX12_isThrough_2 : decode cX12_isThrough 2 = .ok (.if_icmp .lt 9, 3) := by decide +kernel
theorem dX12_isThrough_5 : decode cX12_isThrough 5 = .ok (.iload_n 0, 1) := by decide +kernel
theorem dX12_isThrough_6 : decode cX12_isThrough 6 = .ok (.bipush 7, 2) := by decide +kernel
theorem dX12_isThrough_8 : decode cX12_isThrough 8 = .ok (.if_icmp .ne 7, 3) := by decide +kernel
theorem dX12_isThrough_11 : decode cX12_isThrough 11 = .ok (.iconst 1, 1) := by decide +kernel
theorem dX12_isThrough_12 : decode cX12_isThrough 12 = .ok (.goto 4, 3) := by decide +kernel
theorem dX12_isThrough_15 : decode cX12_isThrough 15 = .ok (.iconst 0, 1) := by decide +kernel
theorem dX12_isThrough_16 : decode cX12_isThrough 16 = .ok (.ireturn, 1) := by decide +kernel
theorem dX12_isSetting_0 : decode cX12_isSetting 0 = .ok (.iload_n 0, 1) := by decide +kernel
theorem dX12_isSetting_1 : decode cX12_isSetting 1 = .ok (.i2l, 1) := by decide +kernel
theorem dX12_isSetting_2 : decode cX12_isSetting 2 = .ok (.lconst 0, 1) := by decide +kernel
theorem dX12_isSetting_3 : decode cX12_isSetting 3 = .ok (.ldc2_w 48, 3) := by decide +kernel
theorem dX12_isSetting_6 : decode cX12_isSetting 6 = .ok (.invokestatic 44, 3) := by decide +kernel
theorem dX12_isSetting_9 : decode cX12_isSetting 9 = .ok (.ifCond .eq 49, 3) := by decide +kernel
theorem dX12_isSetting_12 : decode cX12_isSetting 12 = .ok (.iload_n 1, 1) := by decide +kernel
theorem dX12_isSetting_13 : decode cX12_isSetting 13 = .ok (.i2l, 1) := by decide +kernel
theorem dX12_isSetting_14 : decode cX12_isSetting 14 = .ok (.lconst 0, 1) := by decide +kernel
theorem dX12_isSetting_15 : decode cX12_isSetting 15 = .ok (.iload_n 0, 1) := by decide +kernel
theorem dX12_isSetting_16 : decode cX12_isSetting 16 = .ok (.ifCond .ne 9, 3) := by decide +kernel
theorem dX12_isSetting_19 : decode cX12_isSetting 19 = .ok (.ldc2_w 90, 3) := by decide +kernel
theorem dX12_isSetting_22 : decode cX12_isSetting 22 = .ok (.goto 26, 3) := by decide +kernel
theorem dX12_isSetting_25 : decode cX12_isSetting 25 = .ok (.iload_n 0, 1) := by decide +kernel
theorem dX12_isSetting_26 : decode cX12_isSetting 26 = .ok (.iconst 1, 1) := by decide +kernel
theorem dX12_isSetting_27 : decode cX12_isSetting 27 = .ok (.if_icmp .ne 9, 3) := by decide +kernel
theorem dX12_isSetting_30 : decode cX12_isSetting 30 = .ok (.ldc2_w 92, 3) := by decide +kernel
theorem dX12_isSetting_33 : decode cX12_isSetting 33 = .ok (.goto 15, 3) := by decide +kernel
theorem dX12_isSetting_36 : decode cX12_isSetting 36 = .ok (.iload_n 0, 1) := by decide +kernel
theorem dX12_isSetting_37 : decode cX12_isSetting 37 = .ok (.iconst 2, 1) := by decide +kernel
theorem dX12_isSetting_38 : decode cX12_isSetting 38 = .ok (.if_icmp .ne 7, 3) := by decide +kernel
theorem dX12_isSetting_41 : decode cX12_isSetting 41 = .ok (.lconst 1, 1) := by decide +kernel
theorem dX12_isSetting_42 : decode cX12_isSetting 42 = .ok (.goto 6, 3) := by decide +kernel
theorem dX12_isSetting_45 : decode cX12_isSetting 45 = .ok (.ldc2_w 94, 3) := by decide +kernel
theorem dX12_isSetting_48 : decode cX12_isSetting 48 = .ok (.invokestatic 44, 3) := by decide +kernel
theorem dX12_isSetting_51 : decode cX12_isSetting 51 = .ok (.ifCond .eq 7, 3) := by decide +kernel
theorem dX12_isSetting_54 : decode cX12_isSetting 54 = .ok (.iconst 1, 1) := by decide +kernel
theorem dX12_isSetting_55 : decode cX12_isSetting 55 = .ok (.goto 4, 3) := by decide +kernel
theorem dX12_isSetting_58 : decode cX12_isSetting 58 = .ok (.iconst 0, 1) := by decide +kernel
theorem dX12_isSetting_59 : decode cX12_isSetting 59 = .ok (.ireturn, 1) := by decide +kernel
theorem dX12_begin_0 : decode cX12_begin 0 = .ok (.iconst 0, 1) := by decide +kernel
theorem dX12_begin_1 : decode cX12_begin 1 = .ok (.istore_n 1, 1) := by decide +kernel
theorem dX12_begin_2 : decode cX12_begin 2 = .ok (.iload_n 1, 1) := by decide +kernel
theorem dX12_begin_3 : decode cX12_begin 3 = .ok (.sipush 1272, 3) := by decide +kernel
theorem dX12_begin_6 : decode cX12_begin 6 = .ok (.if_icmp .ge 13, 3) := by decide +kernel
theorem dX12_begin_9 : decode cX12_begin 9 = .ok (.aload_n 0, 1) := by decide +kernel
theorem dX12_begin_10 : decode cX12_begin 10 = .ok (.iload_n 1, 1) := by decide +kernel
theorem dX12_begin_11 : decode cX12_begin 11 = .ok (.iconst 0, 1) := by decide +kernel
theorem dX12_begin_12 : decode cX12_begin 12 = .ok (.iastore, 1) := by decide +kernel
theorem dX12_begin_13 : decode cX12_begin 13 = .ok (.iinc 1 1, 3) := by decide +kernel
theorem dX12_begin_16 : decode cX12_begin 16 = .ok (.goto (-14), 3) := by decide +kernel
theorem dX12_begin_19 : decode cX12_begin 19 = .ok (.aload_n 0, 1) := by decide +kernel
theorem dX12_begin_20 : decode cX12_begin 20 = .ok (.bipush 8, 2) := by decide +kernel
theorem dX12_begin_22 : decode cX12_begin 22 = .ok (.bipush 10, 2) := by decide +kernel
theorem dX12_begin_24 : decode cX12_begin 24 = .ok (.iastore, 1) := by decide +kernel
theorem dX12_begin_25 : decode cX12_begin 25 = .ok (.aload_n 0, 1) := by decide +kernel
theorem dX12_begin_26 : decode cX12_begin 26 = .ok (.bipush 9, 2) := by decide +kernel
theorem dX12_begin_28 : decode cX12_begin 28 = .ok (.iconst 5, 1) := by decide +kernel
theorem dX12_begin_29 : decode cX12_begin 29 = .ok (.iastore, 1) := by decide +kernel
theorem dX12_begin_30 : decode cX12_begin 30 = .ok (.aload_n 0, 1) := by decide +kernel
theorem dX12_begin_31 : decode cX12_begin 31 = .ok (.bipush 11, 2) := by decide +kernel
theorem dX12_begin_33 : decode cX12_begin 33 = .ok (.bipush 20, 2) := by decide +kernel
theorem dX12_begin_35 : decode cX12_begin 35 = .ok (.iastore, 1) := by decide +kernel
theorem dX12_begin_36 : decode cX12_begin 36 = .ok (.iconst 0, 1) := by decide +kernel
theorem dX12_begin_37 : decode cX12_begin 37 = .ok (.istore_n 1, 1) := by decide +kernel
theorem dX12_begin_38 : decode cX12_begin 38 = .ok (.iload_n 1, 1) := by decide +kernel
theorem dX12_begin_39 : decode cX12_begin 39 = .ok (.iconst 4, 1) := by decide +kernel
theorem dX12_begin_40 : decode cX12_begin 40 = .ok (.if_icmp .ge 27, 3) := by decide +kernel
theorem dX12_begin_43 : decode cX12_begin 43 = .ok (.aload_n 0, 1) := by decide +kernel
theorem dX12_begin_44 : decode cX12_begin 44 = .ok (.iload_n 1, 1) := by decide +kernel
theorem dX12_begin_45 : decode cX12_begin 45 = .ok (.invokestatic 40, 3) := by decide +kernel
theorem dX12_begin_48 : decode cX12_begin 48 = .ok (.iconst 0, 1) := by decide +kernel
theorem dX12_begin_49 : decode cX12_begin 49 = .ok (.iadd, 1) := by decide +kernel
theorem dX12_begin_50 : decode cX12_begin 50 = .ok (.iconst 2, 1) := by decide +kernel
theorem dX12_begin_51 : decode cX12_begin 51 = .ok (.iastore, 1) := by decide +kernel
theorem dX12_begin_52 : decode cX12_begin 52 = .ok (.aload_n 0, 1) := by decide +kernel
theorem dX12_begin_53 : decode cX12_begin 53 = .ok (.iload_n 1, 1) := by decide +kernel
theorem dX12_begin_54 : decode cX12_begin 54 = .ok (.invokestatic 40, 3) := by decide +kernel
theorem dX12_begin_57 : decode cX12_begin 57 = .ok (.iconst 1, 1) := by decide +kernel
theorem dX12_begin_58 : decode cX12_begin 58 = .ok (.iadd, 1) := by decide +kernel
theorem dX12_begin_59 : decode cX12_begin 59 = .ok (.iconst 1, 1) := by decide +kernel
theorem dX12_begin_60 : decode cX12_begin 60 = .ok (.iastore, 1) := by decide +kernel
theorem dX12_begin_61 : decode cX12_begin 61 = .ok (.iinc 1 1, 3) := by decide +kernel
theorem dX12_begin_64 : decode cX12_begin 64 = .ok (.goto (-26), 3) := by decide +kernel
theorem dX12_begin_67 : decode cX12_begin 67 = .ok (.return_, 1) := by decide +kernel
theorem dX12_isCard_0 : decode cX12_isCard 0 = .ok (.iload_n 1, 1) := by decide +kernel
theorem dX12_isCard_1 : decode cX12_isCard 1 = .ok (.i2l, 1) := by decide +kernel
theorem dX12_isCard_2 : decode cX12_isCard 2 = .ok (.lconst 0, 1) := by decide +kernel
theorem dX12_isCard_3 : decode cX12_isCard 3 = .ok (.aload_n 0, 1) := by decide +kernel
theorem dX12_isCard_4 : decode cX12_isCard 4 = .ok (.iconst 0, 1) := by decide +kernel
theorem dX12_isCard_5 : decode cX12_isCard 5 = .ok (.iaload, 1) := by decide +kernel
theorem dX12_isCard_6 : decode cX12_isCard 6 = .ok (.iconst 1, 1) := by decide +kernel
theorem dX12_isCard_7 : decode cX12_isCard 7 = .ok (.isub, 1) := by decide +kernel
theorem dX12_isCard_8 : decode cX12_isCard 8 = .ok (.i2l, 1) := by decide +kernel
theorem dX12_isCard_9 : decode cX12_isCard 9 = .ok (.invokestatic 44, 3) := by decide +kernel
theorem dX12_isCard_12 : decode cX12_isCard 12 = .ok (.ireturn, 1) := by decide +kernel
theorem dX12_isAccount_0 : decode cX12_isAccount 0 = .ok (.iload_n 1, 1) := by decide +kernel
theorem dX12_isAccount_1 : decode cX12_isAccount 1 = .ok (.i2l, 1) := by decide +kernel
theorem dX12_isAccount_2 : decode cX12_isAccount 2 = .ok (.lconst 0, 1) := by decide +kernel
theorem dX12_isAccount_3 : decode cX12_isAccount 3 = .ok (.aload_n 0, 1) := by decide +kernel
theorem dX12_isAccount_4 : decode cX12_isAccount 4 = .ok (.iconst 1, 1) := by decide +kernel
theorem dX12_isAccount_5 : decode cX12_isAccount 5 = .ok (.iaload, 1) := by decide +kernel
theorem dX12_isAccount_6 : decode cX12_isAccount 6 = .ok (.iconst 1, 1) := by decide +kernel
theorem dX12_isAccount_7 : decode cX12_isAccount 7 = .ok (.isub, 1) := by decide +kernel
theorem dX12_isAccount_8 : decode cX12_isAccount 8 = .ok (.i2l, 1) := by decide +kernel
theorem dX12_isAccount_9 : decode cX12_isAccount 9 = .ok (.invokestatic 44, 3) := by decide +kernel
theorem dX12_isAccount_12 : decode cX12_isAccount 12 = .ok (.ireturn, 1) := by decide +kernel
theorem dX12_isUp_0 : decode cX12_isUp 0 = .ok (.aload_n 0, 1) := by decide +kernel
theorem dX12_isUp_1 : decode cX12_isUp 1 = .ok (.iload_n 1, 1) := by decide +kernel
theorem dX12_isUp_2 : decode cX12_isUp 2 = .ok (.invokestatic 40, 3) := by decide +kernel
theorem dX12_isUp_5 : decode cX12_isUp 5 = .ok (.iconst 1, 1) := by decide +kernel
theorem dX12_isUp_6 : decode cX12_isUp 6 = .ok (.iadd, 1) := by decide +kernel
theorem dX12_isUp_7 : decode cX12_isUp 7 = .ok (.iaload, 1) := by decide +kernel
theorem dX12_isUp_8 : decode cX12_isUp 8 = .ok (.iconst 1, 1) := by decide +kernel
theorem dX12_isUp_9 : decode cX12_isUp 9 = .ok (.if_icmp .ne 7, 3) := by decide +kernel
theorem dX12_isUp_12 : decode cX12_isUp 12 = .ok (.iconst 1, 1) := by decide +kernel
theorem dX12_isUp_13 : decode cX12_isUp 13 = .ok (.goto 4, 3) := by decide +kernel
theorem dX12_isUp_16 : decode cX12_isUp 16 = .ok (.iconst 0, 1) := by decide +kernel
theorem dX12_isUp_17 : decode cX12_isUp 17 = .ok (.ireturn, 1) := by decide +kernel
theorem dX12_isBlocked_0 : decode cX12_isBlocked 0 = .ok (.aload_n 0, 1) := by decide +kernel
theorem dX12_isBlocked_1 : decode cX12_isBlocked 1 = .ok (.iload_n 1, 1) := by decide +kernel
theorem dX12_isBlocked_2 : decode cX12_isBlocked 2 = .ok (.invokestatic 50, 3) := by decide +kernel
theorem dX12_isBlocked_5 : decode cX12_isBlocked 5 = .ok (.iconst 0, 1) := by decide +kernel
theorem dX12_isBlocked_6 : decode cX12_isBlocked 6 = .ok (.iadd, 1) := by decide +kernel
theorem dX12_isBlocked_7 : decode cX12_isBlocked 7 = .ok (.iaload, 1) := by decide +kernel
theorem dX12_isBlocked_8 : decode cX12_isBlocked 8 = .ok (.ifCond .lt 15, 3) := by decide +kernel
theorem dX12_isBlocked_11 : decode cX12_isBlocked 11 = .ok (.aload_n 0, 1) := by decide +kernel
theorem dX12_isBlocked_12 : decode cX12_isBlocked 12 = .ok (.iload_n 1, 1) := by decide +kernel
theorem dX12_isBlocked_13 : decode cX12_isBlocked 13 = .ok (.invokestatic 50, 3) := by decide +kernel
theorem dX12_isBlocked_16 : decode cX12_isBlocked 16 = .ok (.iconst 2, 1) := by decide +kernel
theorem dX12_isBlocked_17 : decode cX12_isBlocked 17 = .ok (.iadd, 1) := by decide +kernel
theorem dX12_isBlocked_18 : decode cX12_isBlocked 18 = .ok (.iaload, 1) := by decide +kernel
theorem dX12_isBlocked_19 : decode cX12_isBlocked 19 = .ok (.iconst 1, 1) := by decide +kernel
theorem dX12_isBlocked_20 : decode cX12_isBlocked 20 = .ok (.if_icmp .ne 7, 3) := by decide +kernel
theorem dX12_isBlocked_23 : decode cX12_isBlocked 23 = .ok (.iconst 1, 1) := by decide +kernel
theorem dX12_isBlocked_24 : decode cX12_isBlocked 24 = .ok (.goto 4, 3) := by decide +kernel
theorem dX12_isBlocked_27 : decode cX12_isBlocked 27 = .ok (.iconst 0, 1) := by decide +kernel
theorem dX12_isBlocked_28 : decode cX12_isBlocked 28 = .ok (.ireturn, 1) := by decide +kernel
theorem dX12_blocked_0 : decode cX12_blocked 0 = .ok (.iconst 0, 1) := by decide +kernel
theorem dX12_blocked_1 : decode cX12_blocked 1 = .ok (.istore_n 1, 1) := by decide +kernel
theorem dX12_blocked_2 : decode cX12_blocked 2 = .ok (.iconst 0, 1) := by decide +kernel
theorem dX12_blocked_3 : decode cX12_blocked 3 = .ok (.istore_n 2, 1) := by decide +kernel
theorem dX12_blocked_4 : decode cX12_blocked 4 = .ok (.iload_n 2, 1) := by decide +kernel
theorem dX12_blocked_5 : decode cX12_blocked 5 = .ok (.aload_n 0, 1) := by decide +kernel
theorem dX12_blocked_6 : decode cX12_blocked 6 = .ok (.iconst 1, 1) := by decide +kernel
theorem dX12_blocked_7 : decode cX12_blocked 7 = .ok (.iaload, 1) := by decide +kernel
theorem dX12_blocked_8 : decode cX12_blocked 8 = .ok (.if_icmp .ge 27, 3) := by decide +kernel
theorem dX12_blocked_11 : decode cX12_blocked 11 = .ok (.iload_n 1, 1) := by decide +kernel
theorem dX12_blocked_12 : decode cX12_blocked 12 = .ok (.aload_n 0, 1) := by decide +kernel
theorem dX12_blocked_13 : decode cX12_blocked 13 = .ok (.iload_n 2, 1) := by decide +kernel
theorem dX12_blocked_14 : decode cX12_blocked 14 = .ok (.invokestatic 53, 3) := by decide +kernel
theorem dX12_blocked_17 : decode cX12_blocked 17 = .ok (.ifCond .eq 9, 3) := by decide +kernel
theorem dX12_blocked_20 : decode cX12_blocked 20 = .ok (.iconst 1, 1) := by decide +kernel
theorem dX12_blocked_21 : decode cX12_blocked 21 = .ok (.iload_n 2, 1) := by decide +kernel
theorem dX12_blocked_22 : decode cX12_blocked 22 = .ok (.ishl, 1) := by decide +kernel
theorem dX12_blocked_23 : decode cX12_blocked 23 = .ok (.goto 4, 3) := by decide +kernel
theorem dX12_blocked_26 : decode cX12_blocked 26 = .ok (.iconst 0, 1) := by decide +kernel
theorem dX12_blocked_27 : decode cX12_blocked 27 = .ok (.ior, 1) := by decide +kernel
theorem dX12_blocked_28 : decode cX12_blocked 28 = .ok (.istore_n 1, 1) := by decide +kernel
theorem dX12_blocked_29 : decode cX12_blocked 29 = .ok (.iinc 2 1, 3) := by decide +kernel
theorem dX12_blocked_32 : decode cX12_blocked 32 = .ok (.goto (-28), 3) := by decide +kernel
theorem dX12_blocked_35 : decode cX12_blocked 35 = .ok (.iload_n 1, 1) := by decide +kernel
theorem dX12_blocked_36 : decode cX12_blocked 36 = .ok (.ireturn, 1) := by decide +kernel
theorem dX12_list_0 : decode cX12_list 0 = .ok (.aload_n 0, 1) := by decide +kernel
theorem dX12_list_1 : decode cX12_list 1 = .ok (.iload_n 1, 1) := by decide +kernel
theorem dX12_list_2 : decode cX12_list 2 = .ok (.invokestatic 57, 3) := by decide +kernel
theorem dX12_list_5 : decode cX12_list 5 = .ok (.ifCond .eq 10, 3) := by decide +kernel
theorem dX12_list_8 : decode cX12_list 8 = .ok (.aload_n 0, 1) := by decide +kernel
theorem dX12_list_9 : decode cX12_list 9 = .ok (.invokestatic 60, 3) := by decide +kernel
theorem dX12_list_12 : decode cX12_list 12 = .ok (.goto 11, 3) := by decide +kernel
theorem dX12_list_15 : decode cX12_list 15 = .ok (.aload_n 0, 1) := by decide +kernel
theorem dX12_list_16 : decode cX12_list 16 = .ok (.iload_n 1, 1) := by decide +kernel
theorem dX12_list_17 : decode cX12_list 17 = .ok (.invokestatic 40, 3) := by decide +kernel
theorem dX12_list_20 : decode cX12_list 20 = .ok (.iconst 4, 1) := by decide +kernel
theorem dX12_list_21 : decode cX12_list 21 = .ok (.iadd, 1) := by decide +kernel
theorem dX12_list_22 : decode cX12_list 22 = .ok (.iaload, 1) := by decide +kernel
theorem dX12_list_23 : decode cX12_list 23 = .ok (.ireturn, 1) := by decide +kernel
theorem dX12_isSettled_0 : decode cX12_isSettled 0 = .ok (.aload_n 0, 1) := by decide +kernel
theorem dX12_isSettled_1 : decode cX12_isSettled 1 = .ok (.sipush 248, 3) := by decide +kernel
theorem dX12_isSettled_4 : decode cX12_isSettled 4 = .ok (.sipush 128, 3) := by decide +kernel
theorem dX12_isSettled_7 : decode cX12_isSettled 7 = .ok (.iload_n 1, 1) := by decide +kernel
theorem dX12_isSettled_8 : decode cX12_isSettled 8 = .ok (.imul, 1) := by decide +kernel
theorem dX12_isSettled_9 : decode cX12_isSettled 9 = .ok (.iadd, 1) := by decide +kernel
theorem dX12_isSettled_10 : decode cX12_isSettled 10 = .ok (.iload_n 2, 1) := by decide +kernel
theorem dX12_isSettled_11 : decode cX12_isSettled 11 = .ok (.bipush 32, 2) := by decide +kernel
theorem dX12_isSettled_13 : decode cX12_isSettled 13 = .ok (.idiv, 1) := by decide +kernel
theorem dX12_isSettled_14 : decode cX12_isSettled 14 = .ok (.sipush 128, 3) := by decide +kernel
theorem dX12_isSettled_17 : decode cX12_isSettled 17 = .ok (.irem, 1) := by decide +kernel
theorem dX12_isSettled_18 : decode cX12_isSettled 18 = .ok (.iadd, 1) := by decide +kernel
theorem dX12_isSettled_19 : decode cX12_isSettled 19 = .ok (.iaload, 1) := by decide +kernel
theorem dX12_isSettled_20 : decode cX12_isSettled 20 = .ok (.iload_n 2, 1) := by decide +kernel
theorem dX12_isSettled_21 : decode cX12_isSettled 21 = .ok (.bipush 32, 2) := by decide +kernel
theorem dX12_isSettled_23 : decode cX12_isSettled 23 = .ok (.irem, 1) := by decide +kernel
theorem dX12_isSettled_24 : decode cX12_isSettled 24 = .ok (.ishr, 1) := by decide +kernel
theorem dX12_isSettled_25 : decode cX12_isSettled 25 = .ok (.iconst 1, 1) := by decide +kernel
theorem dX12_isSettled_26 : decode cX12_isSettled 26 = .ok (.iand, 1) := by decide +kernel
theorem dX12_isSettled_27 : decode cX12_isSettled 27 = .ok (.iconst 1, 1) := by decide +kernel
theorem dX12_isSettled_28 : decode cX12_isSettled 28 = .ok (.if_icmp .ne 7, 3) := by decide +kernel
theorem dX12_isSettled_31 : decode cX12_isSettled 31 = .ok (.iconst 1, 1) := by decide +kernel
theorem dX12_isSettled_32 : decode cX12_isSettled 32 = .ok (.goto 4, 3) := by decide +kernel
theorem dX12_isSettled_35 : decode cX12_isSettled 35 = .ok (.iconst 0, 1) := by decide +kernel
theorem dX12_isSettled_36 : decode cX12_isSettled 36 = .ok (.ireturn, 1) := by decide +kernel
theorem dX12_settle_0 : decode cX12_settle 0 = .ok (.iload_n 1, 1) := by decide +kernel
theorem dX12_settle_1 : decode cX12_settle 1 = .ok (.invokestatic 50, 3) := by decide +kernel
theorem dX12_settle_4 : decode cX12_settle 4 = .ok (.istore 4, 2) := by decide +kernel
theorem dX12_settle_6 : decode cX12_settle 6 = .ok (.aload_n 0, 1) := by decide +kernel
theorem dX12_settle_7 : decode cX12_settle 7 = .ok (.iload_n 1, 1) := by decide +kernel
theorem dX12_settle_8 : decode cX12_settle 8 = .ok (.iload_n 2, 1) := by decide +kernel
theorem dX12_settle_9 : decode cX12_settle 9 = .ok (.invokestatic 64, 3) := by decide +kernel
theorem dX12_settle_12 : decode cX12_settle 12 = .ok (.ifCond .eq 32, 3) := by decide +kernel
theorem dX12_settle_15 : decode cX12_settle 15 = .ok (.aload_n 0, 1) := by decide +kernel
theorem dX12_settle_16 : decode cX12_settle 16 = .ok (.iload 4, 2) := by decide +kernel
theorem dX12_settle_18 : decode cX12_settle 18 = .ok (.iconst 0, 1) := by decide +kernel
theorem dX12_settle_19 : decode cX12_settle 19 = .ok (.iadd, 1) := by decide +kernel
theorem dX12_settle_20 : decode cX12_settle 20 = .ok (.dup2, 1) := by decide +kernel
theorem dX12_settle_21 : decode cX12_settle 21 = .ok (.iaload, 1) := by decide +kernel
theorem dX12_settle_22 : decode cX12_settle 22 = .ok (.aload_n 0, 1) := by decide +kernel
theorem dX12_settle_23 : decode cX12_settle 23 = .ok (.bipush 11, 2) := by decide +kernel
theorem dX12_settle_25 : decode cX12_settle 25 = .ok (.iaload, 1) := by decide +kernel
theorem dX12_settle_26 : decode cX12_settle 26 = .ok (.isub, 1) := by decide +kernel
theorem dX12_settle_27 : decode cX12_settle 27 = .ok (.iastore, 1) := by decide +kernel
theorem dX12_settle_28 : decode cX12_settle 28 = .ok (.aload_n 0, 1) := by decide +kernel
theorem dX12_settle_29 : decode cX12_settle 29 = .ok (.iload 4, 2) := by decide +kernel
theorem dX12_settle_31 : decode cX12_settle 31 = .ok (.iconst 2, 1) := by decide +kernel
theorem dX12_settle_32 : decode cX12_settle 32 = .ok (.iadd, 1) := by decide +kernel
theorem dX12_settle_33 : decode cX12_settle 33 = .ok (.iconst 1, 1) := by decide +kernel
theorem dX12_settle_34 : decode cX12_settle 34 = .ok (.iastore, 1) := by decide +kernel
theorem dX12_settle_35 : decode cX12_settle 35 = .ok (.aload_n 0, 1) := by decide +kernel
theorem dX12_settle_36 : decode cX12_settle 36 = .ok (.iconst 5, 1) := by decide +kernel
theorem dX12_settle_37 : decode cX12_settle 37 = .ok (.dup2, 1) := by decide +kernel
theorem dX12_settle_38 : decode cX12_settle 38 = .ok (.iaload, 1) := by decide +kernel
theorem dX12_settle_39 : decode cX12_settle 39 = .ok (.iconst 1, 1) := by decide +kernel
theorem dX12_settle_40 : decode cX12_settle 40 = .ok (.iadd, 1) := by decide +kernel
theorem dX12_settle_41 : decode cX12_settle 41 = .ok (.iastore, 1) := by decide +kernel
theorem dX12_settle_42 : decode cX12_settle 42 = .ok (.iconst 1, 1) := by decide +kernel
theorem dX12_settle_43 : decode cX12_settle 43 = .ok (.ireturn, 1) := by decide +kernel
theorem dX12_settle_44 : decode cX12_settle 44 = .ok (.aload_n 0, 1) := by decide +kernel
theorem dX12_settle_45 : decode cX12_settle 45 = .ok (.sipush 248, 3) := by decide +kernel
theorem dX12_settle_48 : decode cX12_settle 48 = .ok (.sipush 128, 3) := by decide +kernel
theorem dX12_settle_51 : decode cX12_settle 51 = .ok (.iload_n 1, 1) := by decide +kernel
theorem dX12_settle_52 : decode cX12_settle 52 = .ok (.imul, 1) := by decide +kernel
theorem dX12_settle_53 : decode cX12_settle 53 = .ok (.iadd, 1) := by decide +kernel
theorem dX12_settle_54 : decode cX12_settle 54 = .ok (.iload_n 2, 1) := by decide +kernel
theorem dX12_settle_55 : decode cX12_settle 55 = .ok (.bipush 32, 2) := by decide +kernel
theorem dX12_settle_57 : decode cX12_settle 57 = .ok (.idiv, 1) := by decide +kernel
theorem dX12_settle_58 : decode cX12_settle 58 = .ok (.sipush 128, 3) := by decide +kernel
theorem dX12_settle_61 : decode cX12_settle 61 = .ok (.irem, 1) := by decide +kernel
theorem dX12_settle_62 : decode cX12_settle 62 = .ok (.iadd, 1) := by decide +kernel
theorem dX12_settle_63 : decode cX12_settle 63 = .ok (.dup2, 1) := by decide +kernel
theorem dX12_settle_64 : decode cX12_settle 64 = .ok (.iaload, 1) := by decide +kernel
theorem dX12_settle_65 : decode cX12_settle 65 = .ok (.iconst 1, 1) := by decide +kernel
theorem dX12_settle_66 : decode cX12_settle 66 = .ok (.iload_n 2, 1) := by decide +kernel
theorem dX12_settle_67 : decode cX12_settle 67 = .ok (.bipush 32, 2) := by decide +kernel
theorem dX12_settle_69 : decode cX12_settle 69 = .ok (.irem, 1) := by decide +kernel
theorem dX12_settle_70 : decode cX12_settle 70 = .ok (.ishl, 1) := by decide +kernel
theorem dX12_settle_71 : decode cX12_settle 71 = .ok (.ior, 1) := by decide +kernel
theorem dX12_settle_72 : decode cX12_settle 72 = .ok (.iastore, 1) := by decide +kernel
theorem dX12_settle_73 : decode cX12_settle 73 = .ok (.aload_n 0, 1) := by decide +kernel
theorem dX12_settle_74 : decode cX12_settle 74 = .ok (.iload 4, 2) := by decide +kernel
theorem dX12_settle_76 : decode cX12_settle 76 = .ok (.iconst 3, 1) := by decide +kernel
theorem dX12_settle_77 : decode cX12_settle 77 = .ok (.iadd, 1) := by decide +kernel
theorem dX12_settle_78 : decode cX12_settle 78 = .ok (.dup2, 1) := by decide +kernel
theorem dX12_settle_79 : decode cX12_settle 79 = .ok (.iaload, 1) := by decide +kernel
theorem dX12_settle_80 : decode cX12_settle 80 = .ok (.iconst 1, 1) := by decide +kernel
theorem dX12_settle_81 : decode cX12_settle 81 = .ok (.iadd, 1) := by decide +kernel
theorem dX12_settle_82 : decode cX12_settle 82 = .ok (.iastore, 1) := by decide +kernel
theorem dX12_settle_83 : decode cX12_settle 83 = .ok (.aload_n 0, 1) := by decide +kernel
theorem dX12_settle_84 : decode cX12_settle 84 = .ok (.iload 4, 2) := by decide +kernel
theorem dX12_settle_86 : decode cX12_settle 86 = .ok (.iconst 0, 1) := by decide +kernel
theorem dX12_settle_87 : decode cX12_settle 87 = .ok (.iadd, 1) := by decide +kernel
theorem dX12_settle_88 : decode cX12_settle 88 = .ok (.dup2, 1) := by decide +kernel
theorem dX12_settle_89 : decode cX12_settle 89 = .ok (.iaload, 1) := by decide +kernel
theorem dX12_settle_90 : decode cX12_settle 90 = .ok (.iload_n 3, 1) := by decide +kernel
theorem dX12_settle_91 : decode cX12_settle 91 = .ok (.isub, 1) := by decide +kernel
theorem dX12_settle_92 : decode cX12_settle 92 = .ok (.iastore, 1) := by decide +kernel
theorem dX12_settle_93 : decode cX12_settle 93 = .ok (.aload_n 0, 1) := by decide +kernel
theorem dX12_settle_94 : decode cX12_settle 94 = .ok (.iconst 3, 1) := by decide +kernel
theorem dX12_settle_95 : decode cX12_settle 95 = .ok (.dup2, 1) := by decide +kernel
theorem dX12_settle_96 : decode cX12_settle 96 = .ok (.iaload, 1) := by decide +kernel
theorem dX12_settle_97 : decode cX12_settle 97 = .ok (.iconst 1, 1) := by decide +kernel
theorem dX12_settle_98 : decode cX12_settle 98 = .ok (.iadd, 1) := by decide +kernel
theorem dX12_settle_99 : decode cX12_settle 99 = .ok (.iastore, 1) := by decide +kernel
theorem dX12_settle_100 : decode cX12_settle 100 = .ok (.aload_n 0, 1) := by decide +kernel
theorem dX12_settle_101 : decode cX12_settle 101 = .ok (.iconst 4, 1) := by decide +kernel
theorem dX12_settle_102 : decode cX12_settle 102 = .ok (.dup2, 1) := by decide +kernel
theorem dX12_settle_103 : decode cX12_settle 103 = .ok (.iaload, 1) := by decide +kernel
theorem dX12_settle_104 : decode cX12_settle 104 = .ok (.iload_n 3, 1) := by decide +kernel
theorem dX12_settle_105 : decode cX12_settle 105 = .ok (.iadd, 1) := by decide +kernel
theorem dX12_settle_106 : decode cX12_settle 106 = .ok (.iastore, 1) := by decide +kernel
theorem dX12_settle_107 : decode cX12_settle 107 = .ok (.iconst 0, 1) := by decide +kernel
theorem dX12_settle_108 : decode cX12_settle 108 = .ok (.ireturn, 1) := by decide +kernel
theorem dX12_upOn_0 : decode cX12_upOn 0 = .ok (.aload_n 0, 1) := by decide +kernel
theorem dX12_upOn_1 : decode cX12_upOn 1 = .ok (.iconst 5, 1) := by decide +kernel
theorem dX12_upOn_2 : decode cX12_upOn 2 = .ok (.iaload, 1) := by decide +kernel
theorem dX12_upOn_3 : decode cX12_upOn 3 = .ok (.istore_n 2, 1) := by decide +kernel
theorem dX12_upOn_4 : decode cX12_upOn 4 = .ok (.iconst 0, 1) := by decide +kernel
theorem dX12_upOn_5 : decode cX12_upOn 5 = .ok (.istore_n 3, 1) := by decide +kernel
theorem dX12_upOn_6 : decode cX12_upOn 6 = .ok (.iload_n 3, 1) := by decide +kernel
theorem dX12_upOn_7 : decode cX12_upOn 7 = .ok (.aload_n 0, 1) := by decide +kernel
theorem dX12_upOn_8 : decode cX12_upOn 8 = .ok (.iload_n 1, 1) := by decide +kernel
theorem dX12_upOn_9 : decode cX12_upOn 9 = .ok (.invokestatic 40, 3) := by decide +kernel
theorem dX12_upOn_12 : decode cX12_upOn 12 = .ok (.iconst 3, 1) := by decide +kernel
theorem dX12_upOn_13 : decode cX12_upOn 13 = .ok (.iadd, 1) := by decide +kernel
theorem dX12_upOn_14 : decode cX12_upOn 14 = .ok (.iaload, 1) := by decide +kernel
theorem dX12_upOn_15 : decode cX12_upOn 15 = .ok (.if_icmp .ge 39, 3) := by decide +kernel
theorem dX12_upOn_18 : decode cX12_upOn 18 = .ok (.aload_n 0, 1) := by decide +kernel
theorem dX12_upOn_19 : decode cX12_upOn 19 = .ok (.aload_n 0, 1) := by decide +kernel
theorem dX12_upOn_20 : decode cX12_upOn 20 = .ok (.iload_n 1, 1) := by decide +kernel
theorem dX12_upOn_21 : decode cX12_upOn 21 = .ok (.iload_n 3, 1) := by decide +kernel
theorem dX12_upOn_22 : decode cX12_upOn 22 = .ok (.invokestatic 68, 3) := by decide +kernel
theorem dX12_upOn_25 : decode cX12_upOn 25 = .ok (.iaload, 1) := by decide +kernel
theorem dX12_upOn_26 : decode cX12_upOn 26 = .ok (.aload_n 0, 1) := by decide +kernel
theorem dX12_upOn_27 : decode cX12_upOn 27 = .ok (.iload_n 1, 1) := by decide +kernel
theorem dX12_upOn_28 : decode cX12_upOn 28 = .ok (.iload_n 3, 1) := by decide +kernel
theorem dX12_upOn_29 : decode cX12_upOn 29 = .ok (.invokestatic 68, 3) := by decide +kernel
theorem dX12_upOn_32 : decode cX12_upOn 32 = .ok (.iconst 1, 1) := by decide +kernel
theorem dX12_upOn_33 : decode cX12_upOn 33 = .ok (.iadd, 1) := by decide +kernel
theorem dX12_upOn_34 : decode cX12_upOn 34 = .ok (.iaload, 1) := by decide +kernel
theorem dX12_upOn_35 : decode cX12_upOn 35 = .ok (.aload_n 0, 1) := by decide +kernel
theorem dX12_upOn_36 : decode cX12_upOn 36 = .ok (.iload_n 1, 1) := by decide +kernel
theorem dX12_upOn_37 : decode cX12_upOn 37 = .ok (.iload_n 3, 1) := by decide +kernel
theorem dX12_upOn_38 : decode cX12_upOn 38 = .ok (.invokestatic 68, 3) := by decide +kernel
theorem dX12_upOn_41 : decode cX12_upOn 41 = .ok (.iconst 2, 1) := by decide +kernel
theorem dX12_upOn_42 : decode cX12_upOn 42 = .ok (.iadd, 1) := by decide +kernel
theorem dX12_upOn_43 : decode cX12_upOn 43 = .ok (.iaload, 1) := by decide +kernel
theorem dX12_upOn_44 : decode cX12_upOn 44 = .ok (.invokestatic 72, 3) := by decide +kernel
theorem dX12_upOn_47 : decode cX12_upOn 47 = .ok (.pop, 1) := by decide +kernel
theorem dX12_upOn_48 : decode cX12_upOn 48 = .ok (.iinc 3 1, 3) := by decide +kernel
theorem dX12_upOn_51 : decode cX12_upOn 51 = .ok (.goto (-45), 3) := by decide +kernel
theorem dX12_upOn_54 : decode cX12_upOn 54 = .ok (.aload_n 0, 1) := by decide +kernel
theorem dX12_upOn_55 : decode cX12_upOn 55 = .ok (.iload_n 1, 1) := by decide +kernel
theorem dX12_upOn_56 : decode cX12_upOn 56 = .ok (.invokestatic 40, 3) := by decide +kernel
theorem dX12_upOn_59 : decode cX12_upOn 59 = .ok (.iconst 3, 1) := by decide +kernel
theorem dX12_upOn_60 : decode cX12_upOn 60 = .ok (.iadd, 1) := by decide +kernel
theorem dX12_upOn_61 : decode cX12_upOn 61 = .ok (.iconst 0, 1) := by decide +kernel
theorem dX12_upOn_62 : decode cX12_upOn 62 = .ok (.iastore, 1) := by decide +kernel
theorem dX12_upOn_63 : decode cX12_upOn 63 = .ok (.aload_n 0, 1) := by decide +kernel
theorem dX12_upOn_64 : decode cX12_upOn 64 = .ok (.iload_n 1, 1) := by decide +kernel
theorem dX12_upOn_65 : decode cX12_upOn 65 = .ok (.invokestatic 40, 3) := by decide +kernel
theorem dX12_upOn_68 : decode cX12_upOn 68 = .ok (.iconst 1, 1) := by decide +kernel
theorem dX12_upOn_69 : decode cX12_upOn 69 = .ok (.iadd, 1) := by decide +kernel
theorem dX12_upOn_70 : decode cX12_upOn 70 = .ok (.iconst 1, 1) := by decide +kernel
theorem dX12_upOn_71 : decode cX12_upOn 71 = .ok (.iastore, 1) := by decide +kernel
theorem dX12_upOn_72 : decode cX12_upOn 72 = .ok (.aload_n 0, 1) := by decide +kernel
theorem dX12_upOn_73 : decode cX12_upOn 73 = .ok (.iload_n 1, 1) := by decide +kernel
theorem dX12_upOn_74 : decode cX12_upOn 74 = .ok (.invokestatic 40, 3) := by decide +kernel
theorem dX12_upOn_77 : decode cX12_upOn 77 = .ok (.iconst 4, 1) := by decide +kernel
theorem dX12_upOn_78 : decode cX12_upOn 78 = .ok (.iadd, 1) := by decide +kernel
theorem dX12_upOn_79 : decode cX12_upOn 79 = .ok (.iconst 0, 1) := by decide +kernel
theorem dX12_upOn_80 : decode cX12_upOn 80 = .ok (.iastore, 1) := by decide +kernel
theorem dX12_upOn_81 : decode cX12_upOn 81 = .ok (.aload_n 0, 1) := by decide +kernel
theorem dX12_upOn_82 : decode cX12_upOn 82 = .ok (.iconst 5, 1) := by decide +kernel
theorem dX12_upOn_83 : decode cX12_upOn 83 = .ok (.iaload, 1) := by decide +kernel
theorem dX12_upOn_84 : decode cX12_upOn 84 = .ok (.iload_n 2, 1) := by decide +kernel
theorem dX12_upOn_85 : decode cX12_upOn 85 = .ok (.isub, 1) := by decide +kernel
theorem dX12_upOn_86 : decode cX12_upOn 86 = .ok (.ireturn, 1) := by decide +kernel
theorem dX12_downOn_0 : decode cX12_downOn 0 = .ok (.aload_n 0, 1) := by decide +kernel
theorem dX12_downOn_1 : decode cX12_downOn 1 = .ok (.iload_n 1, 1) := by decide +kernel
theorem dX12_downOn_2 : decode cX12_downOn 2 = .ok (.invokestatic 40, 3) := by decide +kernel
theorem dX12_downOn_5 : decode cX12_downOn 5 = .ok (.iconst 4, 1) := by decide +kernel
theorem dX12_downOn_6 : decode cX12_downOn 6 = .ok (.iadd, 1) := by decide +kernel
theorem dX12_downOn_7 : decode cX12_downOn 7 = .ok (.aload_n 0, 1) := by decide +kernel
theorem dX12_downOn_8 : decode cX12_downOn 8 = .ok (.invokestatic 60, 3) := by decide +kernel
theorem dX12_downOn_11 : decode cX12_downOn 11 = .ok (.iastore, 1) := by decide +kernel
theorem dX12_downOn_12 : decode cX12_downOn 12 = .ok (.aload_n 0, 1) := by decide +kernel
theorem dX12_downOn_13 : decode cX12_downOn 13 = .ok (.iload_n 1, 1) := by decide +kernel
theorem dX12_downOn_14 : decode cX12_downOn 14 = .ok (.invokestatic 40, 3) := by decide +kernel
theorem dX12_downOn_17 : decode cX12_downOn 17 = .ok (.iconst 1, 1) := by decide +kernel
theorem dX12_downOn_18 : decode cX12_downOn 18 = .ok (.iadd, 1) := by decide +kernel
theorem dX12_downOn_19 : decode cX12_downOn 19 = .ok (.iconst 0, 1) := by decide +kernel
theorem dX12_downOn_20 : decode cX12_downOn 20 = .ok (.iastore, 1) := by decide +kernel
theorem dX12_downOn_21 : decode cX12_downOn 21 = .ok (.aload_n 0, 1) := by decide +kernel
theorem dX12_downOn_22 : decode cX12_downOn 22 = .ok (.iload_n 1, 1) := by decide +kernel
theorem dX12_downOn_23 : decode cX12_downOn 23 = .ok (.invokestatic 40, 3) := by decide +kernel
theorem dX12_downOn_26 : decode cX12_downOn 26 = .ok (.iconst 4, 1) := by decide +kernel
theorem dX12_downOn_27 : decode cX12_downOn 27 = .ok (.iadd, 1) := by decide +kernel
theorem dX12_downOn_28 : decode cX12_downOn 28 = .ok (.iaload, 1) := by decide +kernel
theorem dX12_downOn_29 : decode cX12_downOn 29 = .ok (.ireturn, 1) := by decide +kernel
theorem dX12_comesTo_0 : decode cX12_comesTo 0 = .ok (.iload_n 1, 1) := by decide +kernel
theorem dX12_comesTo_1 : decode cX12_comesTo 1 = .ok (.invokestatic 76, 3) := by decide +kernel
theorem dX12_comesTo_4 : decode cX12_comesTo 4 = .ok (.istore_n 3, 1) := by decide +kernel
theorem dX12_comesTo_5 : decode cX12_comesTo 5 = .ok (.iload_n 2, 1) := by decide +kernel
theorem dX12_comesTo_6 : decode cX12_comesTo 6 = .ok (.invokestatic 40, 3) := by decide +kernel
theorem dX12_comesTo_9 : decode cX12_comesTo 9 = .ok (.istore 4, 2) := by decide +kernel
theorem dX12_comesTo_11 : decode cX12_comesTo 11 = .ok (.aload_n 0, 1) := by decide +kernel
theorem dX12_comesTo_12 : decode cX12_comesTo 12 = .ok (.iload_n 2, 1) := by decide +kernel
theorem dX12_comesTo_13 : decode cX12_comesTo 13 = .ok (.invokestatic 79, 3) := by decide +kernel
theorem dX12_comesTo_16 : decode cX12_comesTo 16 = .ok (.aload_n 0, 1) := by decide +kernel
theorem dX12_comesTo_17 : decode cX12_comesTo 17 = .ok (.iload_n 3, 1) := by decide +kernel
theorem dX12_comesTo_18 : decode cX12_comesTo 18 = .ok (.iconst 0, 1) := by decide +kernel
theorem dX12_comesTo_19 : decode cX12_comesTo 19 = .ok (.iadd, 1) := by decide +kernel
theorem dX12_comesTo_20 : decode cX12_comesTo 20 = .ok (.iaload, 1) := by decide +kernel
theorem dX12_comesTo_21 : decode cX12_comesTo 21 = .ok (.ishr, 1) := by decide +kernel
theorem dX12_comesTo_22 : decode cX12_comesTo 22 = .ok (.iconst 1, 1) := by decide +kernel
theorem dX12_comesTo_23 : decode cX12_comesTo 23 = .ok (.iand, 1) := by decide +kernel
theorem dX12_comesTo_24 : decode cX12_comesTo 24 = .ok (.iconst 1, 1) := by decide +kernel
theorem dX12_comesTo_25 : decode cX12_comesTo 25 = .ok (.if_icmp .ne 5, 3) := by decide +kernel
theorem dX12_comesTo_28 : decode cX12_comesTo 28 = .ok (.iconst 3, 1) := by decide +kernel
theorem dX12_comesTo_29 : decode cX12_comesTo 29 = .ok (.ireturn, 1) := by decide +kernel
theorem dX12_comesTo_30 : decode cX12_comesTo 30 = .ok (.aload_n 0, 1) := by decide +kernel
theorem dX12_comesTo_31 : decode cX12_comesTo 31 = .ok (.iload_n 3, 1) := by decide +kernel
theorem dX12_comesTo_32 : decode cX12_comesTo 32 = .ok (.iconst 3, 1) := by decide +kernel
theorem dX12_comesTo_33 : decode cX12_comesTo 33 = .ok (.iadd, 1) := by decide +kernel
theorem dX12_comesTo_34 : decode cX12_comesTo 34 = .ok (.iaload, 1) := by decide +kernel
theorem dX12_comesTo_35 : decode cX12_comesTo 35 = .ok (.ifCond .le 23, 3) := by decide +kernel
theorem dX12_comesTo_38 : decode cX12_comesTo 38 = .ok (.aload_n 0, 1) := by decide +kernel
theorem dX12_comesTo_39 : decode cX12_comesTo 39 = .ok (.iconst 2, 1) := by decide +kernel
theorem dX12_comesTo_40 : decode cX12_comesTo 40 = .ok (.iaload, 1) := by decide +kernel
theorem dX12_comesTo_41 : decode cX12_comesTo 41 = .ok (.aload_n 0, 1) := by decide +kernel
theorem dX12_comesTo_42 : decode cX12_comesTo 42 = .ok (.iload_n 3, 1) := by decide +kernel
theorem dX12_comesTo_43 : decode cX12_comesTo 43 = .ok (.iconst 3, 1) := by decide +kernel
theorem dX12_comesTo_44 : decode cX12_comesTo 44 = .ok (.iadd, 1) := by decide +kernel
theorem dX12_comesTo_45 : decode cX12_comesTo 45 = .ok (.iaload, 1) := by decide +kernel
theorem dX12_comesTo_46 : decode cX12_comesTo 46 = .ok (.iconst 1, 1) := by decide +kernel
theorem dX12_comesTo_47 : decode cX12_comesTo 47 = .ok (.isub, 1) := by decide +kernel
theorem dX12_comesTo_48 : decode cX12_comesTo 48 = .ok (.isub, 1) := by decide +kernel
theorem dX12_comesTo_49 : decode cX12_comesTo 49 = .ok (.aload_n 0, 1) := by decide +kernel
theorem dX12_comesTo_50 : decode cX12_comesTo 50 = .ok (.bipush 9, 2) := by decide +kernel
theorem dX12_comesTo_52 : decode cX12_comesTo 52 = .ok (.iaload, 1) := by decide +kernel
theorem dX12_comesTo_53 : decode cX12_comesTo 53 = .ok (.if_icmp .ge 5, 3) := by decide +kernel
theorem dX12_comesTo_56 : decode cX12_comesTo 56 = .ok (.iconst 4, 1) := by decide +kernel
theorem dX12_comesTo_57 : decode cX12_comesTo 57 = .ok (.ireturn, 1) := by decide +kernel
theorem dX12_comesTo_58 : decode cX12_comesTo 58 = .ok (.aload_n 0, 1) := by decide +kernel
theorem dX12_comesTo_59 : decode cX12_comesTo 59 = .ok (.iload_n 2, 1) := by decide +kernel
theorem dX12_comesTo_60 : decode cX12_comesTo 60 = .ok (.invokestatic 57, 3) := by decide +kernel
theorem dX12_comesTo_63 : decode cX12_comesTo 63 = .ok (.ifCond .eq 7, 3) := by decide +kernel
theorem dX12_comesTo_66 : decode cX12_comesTo 66 = .ok (.iconst 0, 1) := by decide +kernel
theorem dX12_comesTo_67 : decode cX12_comesTo 67 = .ok (.goto 8, 3) := by decide +kernel
theorem dX12_comesTo_70 : decode cX12_comesTo 70 = .ok (.aload_n 0, 1) := by decide +kernel
theorem dX12_comesTo_71 : decode cX12_comesTo 71 = .ok (.bipush 8, 2) := by decide +kernel
theorem dX12_comesTo_73 : decode cX12_comesTo 73 = .ok (.iaload, 1) := by decide +kernel
theorem dX12_comesTo_74 : decode cX12_comesTo 74 = .ok (.ineg, 1) := by decide +kernel
theorem dX12_comesTo_75 : decode cX12_comesTo 75 = .ok (.istore 5, 2) := by decide +kernel
theorem dX12_comesTo_77 : decode cX12_comesTo 77 = .ok (.aload_n 0, 1) := by decide +kernel
theorem dX12_comesTo_78 : decode cX12_comesTo 78 = .ok (.iload_n 3, 1) := by decide +kernel
theorem dX12_comesTo_79 : decode cX12_comesTo 79 = .ok (.iconst 1, 1) := by decide +kernel
theorem dX12_comesTo_80 : decode cX12_comesTo 80 = .ok (.iadd, 1) := by decide +kernel
theorem dX12_comesTo_81 : decode cX12_comesTo 81 = .ok (.iaload, 1) := by decide +kernel
theorem dX12_comesTo_82 : decode cX12_comesTo 82 = .ok (.aload_n 0, 1) := by decide +kernel
theorem dX12_comesTo_83 : decode cX12_comesTo 83 = .ok (.iload 4, 2) := by decide +kernel
theorem dX12_comesTo_85 : decode cX12_comesTo 85 = .ok (.iconst 0, 1) := by decide +kernel
theorem dX12_comesTo_86 : decode cX12_comesTo 86 = .ok (.iadd, 1) := by decide +kernel
theorem dX12_comesTo_87 : decode cX12_comesTo 87 = .ok (.iaload, 1) := by decide +kernel
theorem dX12_comesTo_88 : decode cX12_comesTo 88 = .ok (.isub, 1) := by decide +kernel
theorem dX12_comesTo_89 : decode cX12_comesTo 89 = .ok (.iload 5, 2) := by decide +kernel
theorem dX12_comesTo_91 : decode cX12_comesTo 91 = .ok (.if_icmp .ge 5, 3) := by decide +kernel
theorem dX12_comesTo_94 : decode cX12_comesTo 94 = .ok (.iconst 5, 1) := by decide +kernel
theorem dX12_comesTo_95 : decode cX12_comesTo 95 = .ok (.ireturn, 1) := by decide +kernel
theorem dX12_comesTo_96 : decode cX12_comesTo 96 = .ok (.aload_n 0, 1) := by decide +kernel
theorem dX12_comesTo_97 : decode cX12_comesTo 97 = .ok (.iload_n 2, 1) := by decide +kernel
theorem dX12_comesTo_98 : decode cX12_comesTo 98 = .ok (.invokestatic 57, 3) := by decide +kernel
theorem dX12_comesTo_101 : decode cX12_comesTo 101 = .ok (.ifCond .eq 5, 3) := by decide +kernel
theorem dX12_comesTo_104 : decode cX12_comesTo 104 = .ok (.iconst 0, 1) := by decide +kernel
theorem dX12_comesTo_105 : decode cX12_comesTo 105 = .ok (.ireturn, 1) := by decide +kernel
theorem dX12_comesTo_106 : decode cX12_comesTo 106 = .ok (.aload_n 0, 1) := by decide +kernel
theorem dX12_comesTo_107 : decode cX12_comesTo 107 = .ok (.iload 4, 2) := by decide +kernel
theorem dX12_comesTo_109 : decode cX12_comesTo 109 = .ok (.iconst 3, 1) := by decide +kernel
theorem dX12_comesTo_110 : decode cX12_comesTo 110 = .ok (.iadd, 1) := by decide +kernel
theorem dX12_comesTo_111 : decode cX12_comesTo 111 = .ok (.iaload, 1) := by decide +kernel
theorem dX12_comesTo_112 : decode cX12_comesTo 112 = .ok (.bipush 12, 2) := by decide +kernel
theorem dX12_comesTo_114 : decode cX12_comesTo 114 = .ok (.if_icmp .ge 7, 3) := by decide +kernel
theorem dX12_comesTo_117 : decode cX12_comesTo 117 = .ok (.iconst 1, 1) := by decide +kernel
theorem dX12_comesTo_118 : decode cX12_comesTo 118 = .ok (.goto 18, 3) := by decide +kernel
theorem dX12_comesTo_121 : decode cX12_comesTo 121 = .ok (.aload_n 0, 1) := by decide +kernel
theorem dX12_comesTo_122 : decode cX12_comesTo 122 = .ok (.bipush 10, 2) := by decide +kernel
theorem dX12_comesTo_124 : decode cX12_comesTo 124 = .ok (.iaload, 1) := by decide +kernel
theorem dX12_comesTo_125 : decode cX12_comesTo 125 = .ok (.iconst 1, 1) := by decide +kernel
theorem dX12_comesTo_126 : decode cX12_comesTo 126 = .ok (.if_icmp .ne 8, 3) := by decide +kernel
theorem dX12_comesTo_129 : decode cX12_comesTo 129 = .ok (.bipush 7, 2) := by decide +kernel
theorem dX12_comesTo_131 : decode cX12_comesTo 131 = .ok (.goto 5, 3) := by decide +kernel
theorem dX12_comesTo_134 : decode cX12_comesTo 134 = .ok (.bipush 6, 2) := by decide +kernel
theorem dX12_comesTo_136 : decode cX12_comesTo 136 = .ok (.ireturn, 1) := by decide +kernel
theorem dX12_rideOn_0 : decode cX12_rideOn 0 = .ok (.iload_n 1, 1) := by decide +kernel
theorem dX12_rideOn_1 : decode cX12_rideOn 1 = .ok (.invokestatic 76, 3) := by decide +kernel
theorem dX12_rideOn_4 : decode cX12_rideOn 4 = .ok (.istore_n 3, 1) := by decide +kernel
theorem dX12_rideOn_5 : decode cX12_rideOn 5 = .ok (.iload_n 2, 1) := by decide +kernel
theorem dX12_rideOn_6 : decode cX12_rideOn 6 = .ok (.invokestatic 40, 3) := by decide +kernel
theorem dX12_rideOn_9 : decode cX12_rideOn 9 = .ok (.istore 4, 2) := by decide +kernel
theorem dX12_rideOn_11 : decode cX12_rideOn 11 = .ok (.aload_n 0, 1) := by decide +kernel
theorem dX12_rideOn_12 : decode cX12_rideOn 12 = .ok (.iload_n 3, 1) := by decide +kernel
theorem dX12_rideOn_13 : decode cX12_rideOn 13 = .ok (.iconst 0, 1) := by decide +kernel
theorem dX12_rideOn_14 : decode cX12_rideOn 14 = .ok (.iadd, 1) := by decide +kernel
theorem dX12_rideOn_15 : decode cX12_rideOn 15 = .ok (.iaload, 1) := by decide +kernel
theorem dX12_rideOn_16 : decode cX12_rideOn 16 = .ok (.istore 5, 2) := by decide +kernel
theorem dX12_rideOn_18 : decode cX12_rideOn 18 = .ok (.aload_n 0, 1) := by decide +kernel
theorem dX12_rideOn_19 : decode cX12_rideOn 19 = .ok (.iload 4, 2) := by decide +kernel
theorem dX12_rideOn_21 : decode cX12_rideOn 21 = .ok (.iconst 2, 1) := by decide +kernel
theorem dX12_rideOn_22 : decode cX12_rideOn 22 = .ok (.iadd, 1) := by decide +kernel
theorem dX12_rideOn_23 : decode cX12_rideOn 23 = .ok (.iaload, 1) := by decide +kernel
theorem dX12_rideOn_24 : decode cX12_rideOn 24 = .ok (.iconst 1, 1) := by decide +kernel
theorem dX12_rideOn_25 : decode cX12_rideOn 25 = .ok (.if_icmp .ne 13, 3) := by decide +kernel
theorem dX12_rideOn_28 : decode cX12_rideOn 28 = .ok (.aload_n 0, 1) := by decide +kernel
theorem dX12_rideOn_29 : decode cX12_rideOn 29 = .ok (.bipush 7, 2) := by decide +kernel
theorem dX12_rideOn_31 : decode cX12_rideOn 31 = .ok (.dup2, 1) := by decide +kernel
theorem dX12_rideOn_32 : decode cX12_rideOn 32 = .ok (.iaload, 1) := by decide +kernel
theorem dX12_rideOn_33 : decode cX12_rideOn 33 = .ok (.iconst 1, 1) := by decide +kernel
theorem dX12_rideOn_34 : decode cX12_rideOn 34 = .ok (.iadd, 1) := by decide +kernel
theorem dX12_rideOn_35 : decode cX12_rideOn 35 = .ok (.iastore, 1) := by decide +kernel
theorem dX12_rideOn_36 : decode cX12_rideOn 36 = .ok (.iconst 2, 1) := by decide +kernel
theorem dX12_rideOn_37 : decode cX12_rideOn 37 = .ok (.ireturn, 1) := by decide +kernel
theorem dX12_rideOn_38 : decode cX12_rideOn 38 = .ok (.aload_n 0, 1) := by decide +kernel
theorem dX12_rideOn_39 : decode cX12_rideOn 39 = .ok (.iload_n 2, 1) := by decide +kernel
theorem dX12_rideOn_40 : decode cX12_rideOn 40 = .ok (.invokestatic 57, 3) := by decide +kernel
theorem dX12_rideOn_43 : decode cX12_rideOn 43 = .ok (.ifCond .eq 30, 3) := by decide +kernel
theorem dX12_rideOn_46 : decode cX12_rideOn 46 = .ok (.aload_n 0, 1) := by decide +kernel
theorem dX12_rideOn_47 : decode cX12_rideOn 47 = .ok (.iload_n 3, 1) := by decide +kernel
theorem dX12_rideOn_48 : decode cX12_rideOn 48 = .ok (.iconst 1, 1) := by decide +kernel
theorem dX12_rideOn_49 : decode cX12_rideOn 49 = .ok (.iadd, 1) := by decide +kernel
theorem dX12_rideOn_50 : decode cX12_rideOn 50 = .ok (.dup2, 1) := by decide +kernel
theorem dX12_rideOn_51 : decode cX12_rideOn 51 = .ok (.iaload, 1) := by decide +kernel
theorem dX12_rideOn_52 : decode cX12_rideOn 52 = .ok (.aload_n 0, 1) := by decide +kernel
theorem dX12_rideOn_53 : decode cX12_rideOn 53 = .ok (.iload 5, 2) := by decide +kernel
theorem dX12_rideOn_55 : decode cX12_rideOn 55 = .ok (.invokestatic 50, 3) := by decide +kernel
theorem dX12_rideOn_58 : decode cX12_rideOn 58 = .ok (.iconst 1, 1) := by decide +kernel
theorem dX12_rideOn_59 : decode cX12_rideOn 59 = .ok (.iadd, 1) := by decide +kernel
theorem dX12_rideOn_60 : decode cX12_rideOn 60 = .ok (.iaload, 1) := by decide +kernel
theorem dX12_rideOn_61 : decode cX12_rideOn 61 = .ok (.iadd, 1) := by decide +kernel
theorem dX12_rideOn_62 : decode cX12_rideOn 62 = .ok (.iastore, 1) := by decide +kernel
theorem dX12_rideOn_63 : decode cX12_rideOn 63 = .ok (.aload_n 0, 1) := by decide +kernel
theorem dX12_rideOn_64 : decode cX12_rideOn 64 = .ok (.iload 5, 2) := by decide +kernel
theorem dX12_rideOn_66 : decode cX12_rideOn 66 = .ok (.invokestatic 50, 3) := by decide +kernel
theorem dX12_rideOn_69 : decode cX12_rideOn 69 = .ok (.iconst 1, 1) := by decide +kernel
theorem dX12_rideOn_70 : decode cX12_rideOn 70 = .ok (.iadd, 1) := by decide +kernel
theorem dX12_rideOn_71 : decode cX12_rideOn 71 = .ok (.iconst 0, 1) := by decide +kernel
theorem dX12_rideOn_72 : decode cX12_rideOn 72 = .ok (.iastore, 1) := by decide +kernel
theorem dX12_rideOn_73 : decode cX12_rideOn 73 = .ok (.aload_n 0, 1) := by decide +kernel
theorem dX12_rideOn_74 : decode cX12_rideOn 74 = .ok (.iload_n 1, 1) := by decide +kernel
theorem dX12_rideOn_75 : decode cX12_rideOn 75 = .ok (.iload_n 2, 1) := by decide +kernel
theorem dX12_rideOn_76 : decode cX12_rideOn 76 = .ok (.invokestatic 83, 3) := by decide +kernel
theorem dX12_rideOn_79 : decode cX12_rideOn 79 = .ok (.istore 6, 2) := by decide +kernel
theorem dX12_rideOn_81 : decode cX12_rideOn 81 = .ok (.iload 6, 2) := by decide +kernel
theorem dX12_rideOn_83 : decode cX12_rideOn 83 = .ok (.iconst 1, 1) := by decide +kernel
theorem dX12_rideOn_84 : decode cX12_rideOn 84 = .ok (.if_icmp .le 26, 3) := by decide +kernel
theorem dX12_rideOn_87 : decode cX12_rideOn 87 = .ok (.aload_n 0, 1) := by decide +kernel
theorem dX12_rideOn_88 : decode cX12_rideOn 88 = .ok (.iload 6, 2) := by decide +kernel
theorem dX12_rideOn_90 : decode cX12_rideOn 90 = .ok (.bipush 7, 2) := by decide +kernel
theorem dX12_rideOn_92 : decode cX12_rideOn 92 = .ok (.if_icmp .ne 8, 3) := by decide +kernel
theorem dX12_rideOn_95 : decode cX12_rideOn 95 = .ok (.bipush 7, 2) := by decide +kernel
theorem dX12_rideOn_97 : decode cX12_rideOn 97 = .ok (.goto 5, 3) := by decide +kernel
theorem dX12_rideOn_100 : decode cX12_rideOn 100 = .ok (.bipush 6, 2) := by decide +kernel
theorem dX12_rideOn_102 : decode cX12_rideOn 102 = .ok (.dup2, 1) := by decide +kernel
theorem dX12_rideOn_103 : decode cX12_rideOn 103 = .ok (.iaload, 1) := by decide +kernel
theorem dX12_rideOn_104 : decode cX12_rideOn 104 = .ok (.iconst 1, 1) := by decide +kernel
theorem dX12_rideOn_105 : decode cX12_rideOn 105 = .ok (.iadd, 1) := by decide +kernel
theorem dX12_rideOn_106 : decode cX12_rideOn 106 = .ok (.iastore, 1) := by decide +kernel
theorem dX12_rideOn_107 : decode cX12_rideOn 107 = .ok (.iload 6, 2) := by decide +kernel
theorem dX12_rideOn_109 : decode cX12_rideOn 109 = .ok (.ireturn, 1) := by decide +kernel
theorem dX12_rideOn_110 : decode cX12_rideOn 110 = .ok (.aload_n 0, 1) := by decide +kernel
theorem dX12_rideOn_111 : decode cX12_rideOn 111 = .ok (.iload 4, 2) := by decide +kernel
theorem dX12_rideOn_113 : decode cX12_rideOn 113 = .ok (.iconst 0, 1) := by decide +kernel
theorem dX12_rideOn_114 : decode cX12_rideOn 114 = .ok (.iadd, 1) := by decide +kernel
theorem dX12_rideOn_115 : decode cX12_rideOn 115 = .ok (.iaload, 1) := by decide +kernel
theorem dX12_rideOn_116 : decode cX12_rideOn 116 = .ok (.istore 7, 2) := by decide +kernel
theorem dX12_rideOn_118 : decode cX12_rideOn 118 = .ok (.aload_n 0, 1) := by decide +kernel
theorem dX12_rideOn_119 : decode cX12_rideOn 119 = .ok (.iload_n 3, 1) := by decide +kernel
theorem dX12_rideOn_120 : decode cX12_rideOn 120 = .ok (.iconst 1, 1) := by decide +kernel
theorem dX12_rideOn_121 : decode cX12_rideOn 121 = .ok (.iadd, 1) := by decide +kernel
theorem dX12_rideOn_122 : decode cX12_rideOn 122 = .ok (.dup2, 1) := by decide +kernel
theorem dX12_rideOn_123 : decode cX12_rideOn 123 = .ok (.iaload, 1) := by decide +kernel
theorem dX12_rideOn_124 : decode cX12_rideOn 124 = .ok (.iload 7, 2) := by decide +kernel
theorem dX12_rideOn_126 : decode cX12_rideOn 126 = .ok (.isub, 1) := by decide +kernel
theorem dX12_rideOn_127 : decode cX12_rideOn 127 = .ok (.iastore, 1) := by decide +kernel
theorem dX12_rideOn_128 : decode cX12_rideOn 128 = .ok (.aload_n 0, 1) := by decide +kernel
theorem dX12_rideOn_129 : decode cX12_rideOn 129 = .ok (.iload_n 3, 1) := by decide +kernel
theorem dX12_rideOn_130 : decode cX12_rideOn 130 = .ok (.iconst 2, 1) := by decide +kernel
theorem dX12_rideOn_131 : decode cX12_rideOn 131 = .ok (.iadd, 1) := by decide +kernel
theorem dX12_rideOn_132 : decode cX12_rideOn 132 = .ok (.dup2, 1) := by decide +kernel
theorem dX12_rideOn_133 : decode cX12_rideOn 133 = .ok (.iaload, 1) := by decide +kernel
theorem dX12_rideOn_134 : decode cX12_rideOn 134 = .ok (.iconst 1, 1) := by decide +kernel
theorem dX12_rideOn_135 : decode cX12_rideOn 135 = .ok (.iadd, 1) := by decide +kernel
theorem dX12_rideOn_136 : decode cX12_rideOn 136 = .ok (.iastore, 1) := by decide +kernel
theorem dX12_rideOn_137 : decode cX12_rideOn 137 = .ok (.aload_n 0, 1) := by decide +kernel
theorem dX12_rideOn_138 : decode cX12_rideOn 138 = .ok (.iload_n 3, 1) := by decide +kernel
theorem dX12_rideOn_139 : decode cX12_rideOn 139 = .ok (.iconst 3, 1) := by decide +kernel
theorem dX12_rideOn_140 : decode cX12_rideOn 140 = .ok (.iadd, 1) := by decide +kernel
theorem dX12_rideOn_141 : decode cX12_rideOn 141 = .ok (.aload_n 0, 1) := by decide +kernel
theorem dX12_rideOn_142 : decode cX12_rideOn 142 = .ok (.iconst 2, 1) := by decide +kernel
theorem dX12_rideOn_143 : decode cX12_rideOn 143 = .ok (.iaload, 1) := by decide +kernel
theorem dX12_rideOn_144 : decode cX12_rideOn 144 = .ok (.iconst 1, 1) := by decide +kernel
theorem dX12_rideOn_145 : decode cX12_rideOn 145 = .ok (.iadd, 1) := by decide +kernel
theorem dX12_rideOn_146 : decode cX12_rideOn 146 = .ok (.iastore, 1) := by decide +kernel
theorem dX12_rideOn_147 : decode cX12_rideOn 147 = .ok (.iload 6, 2) := by decide +kernel
theorem dX12_rideOn_149 : decode cX12_rideOn 149 = .ok (.ifCond .ne 20, 3) := by decide +kernel
theorem dX12_rideOn_152 : decode cX12_rideOn 152 = .ok (.aload_n 0, 1) := by decide +kernel
theorem dX12_rideOn_153 : decode cX12_rideOn 153 = .ok (.iload 5, 2) := by decide +kernel
theorem dX12_rideOn_155 : decode cX12_rideOn 155 = .ok (.aload_n 0, 1) := by decide +kernel
theorem dX12_rideOn_156 : decode cX12_rideOn 156 = .ok (.iload_n 3, 1) := by decide +kernel
theorem dX12_rideOn_157 : decode cX12_rideOn 157 = .ok (.iconst 2, 1) := by decide +kernel
theorem dX12_rideOn_158 : decode cX12_rideOn 158 = .ok (.iadd, 1) := by decide +kernel
theorem dX12_rideOn_159 : decode cX12_rideOn 159 = .ok (.iaload, 1) := by decide +kernel
theorem dX12_rideOn_160 : decode cX12_rideOn 160 = .ok (.iload 7, 2) := by decide +kernel
theorem dX12_rideOn_162 : decode cX12_rideOn 162 = .ok (.invokestatic 72, 3) := by decide +kernel
theorem dX12_rideOn_165 : decode cX12_rideOn 165 = .ok (.pop, 1) := by decide +kernel
theorem dX12_rideOn_166 : decode cX12_rideOn 166 = .ok (.goto 50, 3) := by decide +kernel
theorem dX12_rideOn_169 : decode cX12_rideOn 169 = .ok (.iload_n 2, 1) := by decide +kernel
theorem dX12_rideOn_170 : decode cX12_rideOn 170 = .ok (.aload_n 0, 1) := by decide +kernel
theorem dX12_rideOn_171 : decode cX12_rideOn 171 = .ok (.iload 4, 2) := by decide +kernel
theorem dX12_rideOn_173 : decode cX12_rideOn 173 = .ok (.iconst 3, 1) := by decide +kernel
theorem dX12_rideOn_174 : decode cX12_rideOn 174 = .ok (.iadd, 1) := by decide +kernel
theorem dX12_rideOn_175 : decode cX12_rideOn 175 = .ok (.iaload, 1) := by decide +kernel
theorem dX12_rideOn_176 : decode cX12_rideOn 176 = .ok (.invokestatic 68, 3) := by decide +kernel
theorem dX12_rideOn_179 : decode cX12_rideOn 179 = .ok (.istore 8, 2) := by decide +kernel
theorem dX12_rideOn_181 : decode cX12_rideOn 181 = .ok (.aload_n 0, 1) := by decide +kernel
theorem dX12_rideOn_182 : decode cX12_rideOn 182 = .ok (.iload 8, 2) := by decide +kernel
theorem dX12_rideOn_184 : decode cX12_rideOn 184 = .ok (.iload 5, 2) := by decide +kernel
theorem dX12_rideOn_186 : decode cX12_rideOn 186 = .ok (.iastore, 1) := by decide +kernel
theorem dX12_rideOn_187 : decode cX12_rideOn 187 = .ok (.aload_n 0, 1) := by decide +kernel
theorem dX12_rideOn_188 : decode cX12_rideOn 188 = .ok (.iload 8, 2) := by decide +kernel
theorem dX12_rideOn_190 : decode cX12_rideOn 190 = .ok (.iconst 1, 1) := by decide +kernel
theorem dX12_rideOn_191 : decode cX12_rideOn 191 = .ok (.iadd, 1) := by decide +kernel
theorem dX12_rideOn_192 : decode cX12_rideOn 192 = .ok (.aload_n 0, 1) := by decide +kernel
theorem dX12_rideOn_193 : decode cX12_rideOn 193 = .ok (.iload_n 3, 1) := by decide +kernel
theorem dX12_rideOn_194 : decode cX12_rideOn 194 = .ok (.iconst 2, 1) := by decide +kernel
theorem dX12_rideOn_195 : decode cX12_rideOn 195 = .ok (.iadd, 1) := by decide +kernel
theorem dX12_rideOn_196 : decode cX12_rideOn 196 = .ok (.iaload, 1) := by decide +kernel
theorem dX12_rideOn_197 : decode cX12_rideOn 197 = .ok (.iastore, 1) := by decide +kernel
theorem dX12_rideOn_198 : decode cX12_rideOn 198 = .ok (.aload_n 0, 1) := by decide +kernel
theorem dX12_rideOn_199 : decode cX12_rideOn 199 = .ok (.iload 8, 2) := by decide +kernel
theorem dX12_rideOn_201 : decode cX12_rideOn 201 = .ok (.iconst 2, 1) := by decide +kernel
theorem dX12_rideOn_202 : decode cX12_rideOn 202 = .ok (.iadd, 1) := by decide +kernel
theorem dX12_rideOn_203 : decode cX12_rideOn 203 = .ok (.iload 7, 2) := by decide +kernel
theorem dX12_rideOn_205 : decode cX12_rideOn 205 = .ok (.iastore, 1) := by decide +kernel
theorem dX12_rideOn_206 : decode cX12_rideOn 206 = .ok (.aload_n 0, 1) := by decide +kernel
theorem dX12_rideOn_207 : decode cX12_rideOn 207 = .ok (.iload 4, 2) := by decide +kernel
theorem dX12_rideOn_209 : decode cX12_rideOn 209 = .ok (.iconst 3, 1) := by decide +kernel
theorem dX12_rideOn_210 : decode cX12_rideOn 210 = .ok (.iadd, 1) := by decide +kernel
theorem dX12_rideOn_211 : decode cX12_rideOn 211 = .ok (.dup2, 1) := by decide +kernel
theorem dX12_rideOn_212 : decode cX12_rideOn 212 = .ok (.iaload, 1) := by decide +kernel
theorem dX12_rideOn_213 : decode cX12_rideOn 213 = .ok (.iconst 1, 1) := by decide +kernel
theorem dX12_rideOn_214 : decode cX12_rideOn 214 = .ok (.iadd, 1) := by decide +kernel
theorem dX12_rideOn_215 : decode cX12_rideOn 215 = .ok (.iastore, 1) := by decide +kernel
theorem dX12_rideOn_216 : decode cX12_rideOn 216 = .ok (.iload 6, 2) := by decide +kernel
theorem dX12_rideOn_218 : decode cX12_rideOn 218 = .ok (.ireturn, 1) := by decide +kernel
theorem dX12_canIssue_0 : decode cX12_canIssue 0 = .ok (.aload_n 0, 1) := by decide +kernel
theorem dX12_canIssue_1 : decode cX12_canIssue 1 = .ok (.iconst 1, 1) := by decide +kernel
theorem dX12_canIssue_2 : decode cX12_canIssue 2 = .ok (.iaload, 1) := by decide +kernel
theorem dX12_canIssue_3 : decode cX12_canIssue 3 = .ok (.bipush 8, 2) := by decide +kernel
theorem dX12_canIssue_5 : decode cX12_canIssue 5 = .ok (.if_icmp .ge 15, 3) := by decide +kernel
theorem dX12_canIssue_8 : decode cX12_canIssue 8 = .ok (.aload_n 0, 1) := by decide +kernel
theorem dX12_canIssue_9 : decode cX12_canIssue 9 = .ok (.iconst 0, 1) := by decide +kernel
theorem dX12_canIssue_10 : decode cX12_canIssue 10 = .ok (.iaload, 1) := by decide +kernel
theorem dX12_canIssue_11 : decode cX12_canIssue 11 = .ok (.bipush 10, 2) := by decide +kernel
theorem dX12_canIssue_13 : decode cX12_canIssue 13 = .ok (.if_icmp .ge 7, 3) := by decide +kernel
theorem dX12_canIssue_16 : decode cX12_canIssue 16 = .ok (.iconst 1, 1) := by decide +kernel
theorem dX12_canIssue_17 : decode cX12_canIssue 17 = .ok (.goto 4, 3) := by decide +kernel
theorem dX12_canIssue_20 : decode cX12_canIssue 20 = .ok (.iconst 0, 1) := by decide +kernel
theorem dX12_canIssue_21 : decode cX12_canIssue 21 = .ok (.ireturn, 1) := by decide +kernel
theorem dX12_issueOn_0 : decode cX12_issueOn 0 = .ok (.aload_n 0, 1) := by decide +kernel
theorem dX12_issueOn_1 : decode cX12_issueOn 1 = .ok (.iconst 0, 1) := by decide +kernel
theorem dX12_issueOn_2 : decode cX12_issueOn 2 = .ok (.iaload, 1) := by decide +kernel
theorem dX12_issueOn_3 : decode cX12_issueOn 3 = .ok (.istore_n 2, 1) := by decide +kernel
theorem dX12_issueOn_4 : decode cX12_issueOn 4 = .ok (.aload_n 0, 1) := by decide +kernel
theorem dX12_issueOn_5 : decode cX12_issueOn 5 = .ok (.iconst 1, 1) := by decide +kernel
theorem dX12_issueOn_6 : decode cX12_issueOn 6 = .ok (.iaload, 1) := by decide +kernel
theorem dX12_issueOn_7 : decode cX12_issueOn 7 = .ok (.istore_n 3, 1) := by decide +kernel
theorem dX12_issueOn_8 : decode cX12_issueOn 8 = .ok (.aload_n 0, 1) := by decide +kernel
theorem dX12_issueOn_9 : decode cX12_issueOn 9 = .ok (.iload_n 3, 1) := by decide +kernel
theorem dX12_issueOn_10 : decode cX12_issueOn 10 = .ok (.invokestatic 50, 3) := by decide +kernel
theorem dX12_issueOn_13 : decode cX12_issueOn 13 = .ok (.iconst 0, 1) := by decide +kernel
theorem dX12_issueOn_14 : decode cX12_issueOn 14 = .ok (.iadd, 1) := by decide +kernel
theorem dX12_issueOn_15 : decode cX12_issueOn 15 = .ok (.iload_n 1, 1) := by decide +kernel
theorem dX12_issueOn_16 : decode cX12_issueOn 16 = .ok (.iastore, 1) := by decide +kernel
theorem dX12_issueOn_17 : decode cX12_issueOn 17 = .ok (.aload_n 0, 1) := by decide +kernel
theorem dX12_issueOn_18 : decode cX12_issueOn 18 = .ok (.iload_n 2, 1) := by decide +kernel
theorem dX12_issueOn_19 : decode cX12_issueOn 19 = .ok (.invokestatic 76, 3) := by decide +kernel
theorem dX12_issueOn_22 : decode cX12_issueOn 22 = .ok (.iconst 0, 1) := by decide +kernel
theorem dX12_issueOn_23 : decode cX12_issueOn 23 = .ok (.iadd, 1) := by decide +kernel
theorem dX12_issueOn_24 : decode cX12_issueOn 24 = .ok (.iload_n 3, 1) := by decide +kernel
theorem dX12_issueOn_25 : decode cX12_issueOn 25 = .ok (.iastore, 1) := by decide +kernel
theorem dX12_issueOn_26 : decode cX12_issueOn 26 = .ok (.aload_n 0, 1) := by decide +kernel
theorem dX12_issueOn_27 : decode cX12_issueOn 27 = .ok (.iload_n 2, 1) := by decide +kernel
theorem dX12_issueOn_28 : decode cX12_issueOn 28 = .ok (.invokestatic 76, 3) := by decide +kernel
theorem dX12_issueOn_31 : decode cX12_issueOn 31 = .ok (.iconst 1, 1) := by decide +kernel
theorem dX12_issueOn_32 : decode cX12_issueOn 32 = .ok (.iadd, 1) := by decide +kernel
theorem dX12_issueOn_33 : decode cX12_issueOn 33 = .ok (.iload_n 1, 1) := by decide +kernel
theorem dX12_issueOn_34 : decode cX12_issueOn 34 = .ok (.iastore, 1) := by decide +kernel
theorem dX12_issueOn_35 : decode cX12_issueOn 35 = .ok (.aload_n 0, 1) := by decide +kernel
theorem dX12_issueOn_36 : decode cX12_issueOn 36 = .ok (.iconst 0, 1) := by decide +kernel
theorem dX12_issueOn_37 : decode cX12_issueOn 37 = .ok (.dup2, 1) := by decide +kernel
theorem dX12_issueOn_38 : decode cX12_issueOn 38 = .ok (.iaload, 1) := by decide +kernel
theorem dX12_issueOn_39 : decode cX12_issueOn 39 = .ok (.iconst 1, 1) := by decide +kernel
theorem dX12_issueOn_40 : decode cX12_issueOn 40 = .ok (.iadd, 1) := by decide +kernel
theorem dX12_issueOn_41 : decode cX12_issueOn 41 = .ok (.iastore, 1) := by decide +kernel
theorem dX12_issueOn_42 : decode cX12_issueOn 42 = .ok (.aload_n 0, 1) := by decide +kernel
theorem dX12_issueOn_43 : decode cX12_issueOn 43 = .ok (.iconst 1, 1) := by decide +kernel
theorem dX12_issueOn_44 : decode cX12_issueOn 44 = .ok (.dup2, 1) := by decide +kernel
theorem dX12_issueOn_45 : decode cX12_issueOn 45 = .ok (.iaload, 1) := by decide +kernel
theorem dX12_issueOn_46 : decode cX12_issueOn 46 = .ok (.iconst 1, 1) := by decide +kernel
theorem dX12_issueOn_47 : decode cX12_issueOn 47 = .ok (.iadd, 1) := by decide +kernel
theorem dX12_issueOn_48 : decode cX12_issueOn 48 = .ok (.iastore, 1) := by decide +kernel
theorem dX12_issueOn_49 : decode cX12_issueOn 49 = .ok (.iload_n 2, 1) := by decide +kernel
theorem dX12_issueOn_50 : decode cX12_issueOn 50 = .ok (.ireturn, 1) := by decide +kernel
theorem dX12_canCopy_0 : decode cX12_canCopy 0 = .ok (.aload_n 0, 1) := by decide +kernel
theorem dX12_canCopy_1 : decode cX12_canCopy 1 = .ok (.iload_n 1, 1) := by decide +kernel
theorem dX12_canCopy_2 : decode cX12_canCopy 2 = .ok (.invokestatic 87, 3) := by decide +kernel
theorem dX12_canCopy_5 : decode cX12_canCopy 5 = .ok (.ifCond .eq 15, 3) := by decide +kernel
theorem dX12_canCopy_8 : decode cX12_canCopy 8 = .ok (.aload_n 0, 1) := by decide +kernel
theorem dX12_canCopy_9 : decode cX12_canCopy 9 = .ok (.iconst 0, 1) := by decide +kernel
theorem dX12_canCopy_10 : decode cX12_canCopy 10 = .ok (.iaload, 1) := by decide +kernel
theorem dX12_canCopy_11 : decode cX12_canCopy 11 = .ok (.bipush 10, 2) := by decide +kernel
theorem dX12_canCopy_13 : decode cX12_canCopy 13 = .ok (.if_icmp .ge 7, 3) := by decide +kernel
theorem dX12_canCopy_16 : decode cX12_canCopy 16 = .ok (.iconst 1, 1) := by decide +kernel
theorem dX12_canCopy_17 : decode cX12_canCopy 17 = .ok (.goto 4, 3) := by decide +kernel
theorem dX12_canCopy_20 : decode cX12_canCopy 20 = .ok (.iconst 0, 1) := by decide +kernel
theorem dX12_canCopy_21 : decode cX12_canCopy 21 = .ok (.ireturn, 1) := by decide +kernel
theorem dX12_copyOn_0 : decode cX12_copyOn 0 = .ok (.aload_n 0, 1) := by decide +kernel
theorem dX12_copyOn_1 : decode cX12_copyOn 1 = .ok (.iconst 0, 1) := by decide +kernel
theorem dX12_copyOn_2 : decode cX12_copyOn 2 = .ok (.iaload, 1) := by decide +kernel
theorem dX12_copyOn_3 : decode cX12_copyOn 3 = .ok (.istore_n 2, 1) := by decide +kernel
theorem dX12_copyOn_4 : decode cX12_copyOn 4 = .ok (.iconst 0, 1) := by decide +kernel
theorem dX12_copyOn_5 : decode cX12_copyOn 5 = .ok (.istore_n 3, 1) := by decide +kernel
theorem dX12_copyOn_6 : decode cX12_copyOn 6 = .ok (.iload_n 3, 1) := by decide +kernel
theorem dX12_copyOn_7 : decode cX12_copyOn 7 = .ok (.iconst 4, 1) := by decide +kernel
theorem dX12_copyOn_8 : decode cX12_copyOn 8 = .ok (.if_icmp .ge 25, 3) := by decide +kernel
theorem dX12_copyOn_11 : decode cX12_copyOn 11 = .ok (.aload_n 0, 1) := by decide +kernel
theorem dX12_copyOn_12 : decode cX12_copyOn 12 = .ok (.iload_n 2, 1) := by decide +kernel
theorem dX12_copyOn_13 : decode cX12_copyOn 13 = .ok (.invokestatic 76, 3) := by decide +kernel
theorem dX12_copyOn_16 : decode cX12_copyOn 16 = .ok (.iload_n 3, 1) := by decide +kernel
theorem dX12_copyOn_17 : decode cX12_copyOn 17 = .ok (.iadd, 1) := by decide +kernel
theorem dX12_copyOn_18 : decode cX12_copyOn 18 = .ok (.aload_n 0, 1) := by decide +kernel
theorem dX12_copyOn_19 : decode cX12_copyOn 19 = .ok (.iload_n 1, 1) := by decide +kernel
theorem dX12_copyOn_20 : decode cX12_copyOn 20 = .ok (.invokestatic 76, 3) := by decide +kernel
theorem dX12_copyOn_23 : decode cX12_copyOn 23 = .ok (.iload_n 3, 1) := by decide +kernel
theorem dX12_copyOn_24 : decode cX12_copyOn 24 = .ok (.iadd, 1) := by decide +kernel
theorem dX12_copyOn_25 : decode cX12_copyOn 25 = .ok (.iaload, 1) := by decide +kernel
theorem dX12_copyOn_26 : decode cX12_copyOn 26 = .ok (.iastore, 1) := by decide +kernel
theorem dX12_copyOn_27 : decode cX12_copyOn 27 = .ok (.iinc 3 1, 3) := by decide +kernel
theorem dX12_copyOn_30 : decode cX12_copyOn 30 = .ok (.goto (-24), 3) := by decide +kernel
theorem dX12_copyOn_33 : decode cX12_copyOn 33 = .ok (.aload_n 0, 1) := by decide +kernel
theorem dX12_copyOn_34 : decode cX12_copyOn 34 = .ok (.iconst 0, 1) := by decide +kernel
theorem dX12_copyOn_35 : decode cX12_copyOn 35 = .ok (.dup2, 1) := by decide +kernel
theorem dX12_copyOn_36 : decode cX12_copyOn 36 = .ok (.iaload, 1) := by decide +kernel
theorem dX12_copyOn_37 : decode cX12_copyOn 37 = .ok (.iconst 1, 1) := by decide +kernel
theorem dX12_copyOn_38 : decode cX12_copyOn 38 = .ok (.iadd, 1) := by decide +kernel
theorem dX12_copyOn_39 : decode cX12_copyOn 39 = .ok (.iastore, 1) := by decide +kernel
theorem dX12_copyOn_40 : decode cX12_copyOn 40 = .ok (.iload_n 2, 1) := by decide +kernel
theorem dX12_copyOn_41 : decode cX12_copyOn 41 = .ok (.ireturn, 1) := by decide +kernel
theorem dX12_payOn_0 : decode cX12_payOn 0 = .ok (.aload_n 0, 1) := by decide +kernel
theorem dX12_payOn_1 : decode cX12_payOn 1 = .ok (.iload_n 1, 1) := by decide +kernel
theorem dX12_payOn_2 : decode cX12_payOn 2 = .ok (.invokestatic 50, 3) := by decide +kernel
theorem dX12_payOn_5 : decode cX12_payOn 5 = .ok (.iconst 0, 1) := by decide +kernel
theorem dX12_payOn_6 : decode cX12_payOn 6 = .ok (.iadd, 1) := by decide +kernel
theorem dX12_payOn_7 : decode cX12_payOn 7 = .ok (.dup2, 1) := by decide +kernel
theorem dX12_payOn_8 : decode cX12_payOn 8 = .ok (.iaload, 1) := by decide +kernel
theorem dX12_payOn_9 : decode cX12_payOn 9 = .ok (.iload_n 2, 1) := by decide +kernel
theorem dX12_payOn_10 : decode cX12_payOn 10 = .ok (.iadd, 1) := by decide +kernel
theorem dX12_payOn_11 : decode cX12_payOn 11 = .ok (.iastore, 1) := by decide +kernel
theorem dX12_payOn_12 : decode cX12_payOn 12 = .ok (.aload_n 0, 1) := by decide +kernel
theorem dX12_payOn_13 : decode cX12_payOn 13 = .ok (.iload_n 1, 1) := by decide +kernel
theorem dX12_payOn_14 : decode cX12_payOn 14 = .ok (.invokestatic 50, 3) := by decide +kernel
theorem dX12_payOn_17 : decode cX12_payOn 17 = .ok (.iconst 1, 1) := by decide +kernel
theorem dX12_payOn_18 : decode cX12_payOn 18 = .ok (.iadd, 1) := by decide +kernel
theorem dX12_payOn_19 : decode cX12_payOn 19 = .ok (.dup2, 1) := by decide +kernel
theorem dX12_payOn_20 : decode cX12_payOn 20 = .ok (.iaload, 1) := by decide +kernel
theorem dX12_payOn_21 : decode cX12_payOn 21 = .ok (.iload_n 2, 1) := by decide +kernel
theorem dX12_payOn_22 : decode cX12_payOn 22 = .ok (.iadd, 1) := by decide +kernel
theorem dX12_payOn_23 : decode cX12_payOn 23 = .ok (.iastore, 1) := by decide +kernel
theorem dX12_payOn_24 : decode cX12_payOn 24 = .ok (.aload_n 0, 1) := by decide +kernel
theorem dX12_payOn_25 : decode cX12_payOn 25 = .ok (.iload_n 1, 1) := by decide +kernel
theorem dX12_payOn_26 : decode cX12_payOn 26 = .ok (.invokestatic 50, 3) := by decide +kernel
theorem dX12_payOn_29 : decode cX12_payOn 29 = .ok (.iconst 0, 1) := by decide +kernel
theorem dX12_payOn_30 : decode cX12_payOn 30 = .ok (.iadd, 1) := by decide +kernel
theorem dX12_payOn_31 : decode cX12_payOn 31 = .ok (.iaload, 1) := by decide +kernel
theorem dX12_payOn_32 : decode cX12_payOn 32 = .ok (.ireturn, 1) := by decide +kernel
theorem dX12_openOn_0 : decode cX12_openOn 0 = .ok (.aload_n 0, 1) := by decide +kernel
theorem dX12_openOn_1 : decode cX12_openOn 1 = .ok (.iload_n 1, 1) := by decide +kernel
theorem dX12_openOn_2 : decode cX12_openOn 2 = .ok (.invokestatic 40, 3) := by decide +kernel
theorem dX12_openOn_5 : decode cX12_openOn 5 = .ok (.iconst 2, 1) := by decide +kernel
theorem dX12_openOn_6 : decode cX12_openOn 6 = .ok (.iadd, 1) := by decide +kernel
theorem dX12_openOn_7 : decode cX12_openOn 7 = .ok (.iconst 1, 1) := by decide +kernel
theorem dX12_openOn_8 : decode cX12_openOn 8 = .ok (.aload_n 0, 1) := by decide +kernel
theorem dX12_openOn_9 : decode cX12_openOn 9 = .ok (.iload_n 1, 1) := by decide +kernel
theorem dX12_openOn_10 : decode cX12_openOn 10 = .ok (.invokestatic 40, 3) := by decide +kernel
theorem dX12_openOn_13 : decode cX12_openOn 13 = .ok (.iconst 2, 1) := by decide +kernel
theorem dX12_openOn_14 : decode cX12_openOn 14 = .ok (.iadd, 1) := by decide +kernel
theorem dX12_openOn_15 : decode cX12_openOn 15 = .ok (.iaload, 1) := by decide +kernel
theorem dX12_openOn_16 : decode cX12_openOn 16 = .ok (.isub, 1) := by decide +kernel
theorem dX12_openOn_17 : decode cX12_openOn 17 = .ok (.iastore, 1) := by decide +kernel
theorem dX12_openOn_18 : decode cX12_openOn 18 = .ok (.aload_n 0, 1) := by decide +kernel
theorem dX12_openOn_19 : decode cX12_openOn 19 = .ok (.iload_n 1, 1) := by decide +kernel
theorem dX12_openOn_20 : decode cX12_openOn 20 = .ok (.invokestatic 40, 3) := by decide +kernel
theorem dX12_openOn_23 : decode cX12_openOn 23 = .ok (.iconst 2, 1) := by decide +kernel
theorem dX12_openOn_24 : decode cX12_openOn 24 = .ok (.iadd, 1) := by decide +kernel
theorem dX12_openOn_25 : decode cX12_openOn 25 = .ok (.iaload, 1) := by decide +kernel
theorem dX12_openOn_26 : decode cX12_openOn 26 = .ok (.ireturn, 1) := by decide +kernel
theorem dX12_runOn_0 : decode cX12_runOn 0 = .ok (.aload_n 0, 1) := by decide +kernel
theorem dX12_runOn_1 : decode cX12_runOn 1 = .ok (.iconst 2, 1) := by decide +kernel
theorem dX12_runOn_2 : decode cX12_runOn 2 = .ok (.dup2, 1) := by decide +kernel
theorem dX12_runOn_3 : decode cX12_runOn 3 = .ok (.iaload, 1) := by decide +kernel
theorem dX12_runOn_4 : decode cX12_runOn 4 = .ok (.iload_n 1, 1) := by decide +kernel
theorem dX12_runOn_5 : decode cX12_runOn 5 = .ok (.iadd, 1) := by decide +kernel
theorem dX12_runOn_6 : decode cX12_runOn 6 = .ok (.iastore, 1) := by decide +kernel
theorem dX12_runOn_7 : decode cX12_runOn 7 = .ok (.aload_n 0, 1) := by decide +kernel
theorem dX12_runOn_8 : decode cX12_runOn 8 = .ok (.iconst 2, 1) := by decide +kernel
theorem dX12_runOn_9 : decode cX12_runOn 9 = .ok (.iaload, 1) := by decide +kernel
theorem dX12_runOn_10 : decode cX12_runOn 10 = .ok (.ireturn, 1) := by decide +kernel
theorem dX12_doesLine_0 : decode cX12_doesLine 0 = .ok (.aload_n 0, 1) := by decide +kernel
theorem dX12_doesLine_1 : decode cX12_doesLine 1 = .ok (.iload_n 1, 1) := by decide +kernel
theorem dX12_doesLine_2 : decode cX12_doesLine 2 = .ok (.invokestatic 57, 3) := by decide +kernel
theorem dX12_doesLine_5 : decode cX12_doesLine 5 = .ok (.iload_n 2, 1) := by decide +kernel
theorem dX12_doesLine_6 : decode cX12_doesLine 6 = .ok (.if_icmp .eq 27, 3) := by decide +kernel
theorem dX12_doesLine_9 : decode cX12_doesLine 9 = .ok (.iload_n 2, 1) := by decide +kernel
theorem dX12_doesLine_10 : decode cX12_doesLine 10 = .ok (.ifCond .eq 11, 3) := by decide +kernel
theorem dX12_doesLine_13 : decode cX12_doesLine 13 = .ok (.aload_n 0, 1) := by decide +kernel
theorem dX12_doesLine_14 : decode cX12_doesLine 14 = .ok (.iload_n 1, 1) := by decide +kernel
theorem dX12_doesLine_15 : decode cX12_doesLine 15 = .ok (.invokestatic 113, 3) := by decide +kernel
theorem dX12_doesLine_18 : decode cX12_doesLine 18 = .ok (.goto 8, 3) := by decide +kernel
theorem dX12_doesLine_21 : decode cX12_doesLine 21 = .ok (.aload_n 0, 1) := by decide +kernel
theorem dX12_doesLine_22 : decode cX12_doesLine 22 = .ok (.iload_n 1, 1) := by decide +kernel
theorem dX12_doesLine_23 : decode cX12_doesLine 23 = .ok (.invokestatic 116, 3) := by decide +kernel
theorem dX12_doesLine_26 : decode cX12_doesLine 26 = .ok (.ifCond .lt 7, 3) := by decide +kernel
theorem dX12_doesLine_29 : decode cX12_doesLine 29 = .ok (.iconst 1, 1) := by decide +kernel
theorem dX12_doesLine_30 : decode cX12_doesLine 30 = .ok (.goto 4, 3) := by decide +kernel
theorem dX12_doesLine_33 : decode cX12_doesLine 33 = .ok (.iconst 0, 1) := by decide +kernel
theorem dX12_doesLine_34 : decode cX12_doesLine 34 = .ok (.ireturn, 1) := by decide +kernel
theorem dX12_inLogs_0 : decode cX12_inLogs 0 = .ok (.iconst 0, 1) := by decide +kernel
theorem dX12_inLogs_1 : decode cX12_inLogs 1 = .ok (.istore_n 3, 1) := by decide +kernel
theorem dX12_inLogs_2 : decode cX12_inLogs 2 = .ok (.iconst 0, 1) := by decide +kernel
theorem dX12_inLogs_3 : decode cX12_inLogs 3 = .ok (.istore 4, 2) := by decide +kernel
theorem dX12_inLogs_5 : decode cX12_inLogs 5 = .ok (.iload 4, 2) := by decide +kernel
theorem dX12_inLogs_7 : decode cX12_inLogs 7 = .ok (.iconst 4, 1) := by decide +kernel
theorem dX12_inLogs_8 : decode cX12_inLogs 8 = .ok (.if_icmp .ge 88, 3) := by decide +kernel
theorem dX12_inLogs_11 : decode cX12_inLogs 11 = .ok (.iconst 0, 1) := by decide +kernel
theorem dX12_inLogs_12 : decode cX12_inLogs 12 = .ok (.istore 5, 2) := by decide +kernel
theorem dX12_inLogs_14 : decode cX12_inLogs 14 = .ok (.iload 5, 2) := by decide +kernel
theorem dX12_inLogs_16 : decode cX12_inLogs 16 = .ok (.aload_n 0, 1) := by decide +kernel
theorem dX12_inLogs_17 : decode cX12_inLogs 17 = .ok (.iload 4, 2) := by decide +kernel
theorem dX12_inLogs_19 : decode cX12_inLogs 19 = .ok (.invokestatic 40, 3) := by decide +kernel
theorem dX12_inLogs_22 : decode cX12_inLogs 22 = .ok (.iconst 3, 1) := by decide +kernel
theorem dX12_inLogs_23 : decode cX12_inLogs 23 = .ok (.iadd, 1) := by decide +kernel
theorem dX12_inLogs_24 : decode cX12_inLogs 24 = .ok (.iaload, 1) := by decide +kernel
theorem dX12_inLogs_25 : decode cX12_inLogs 25 = .ok (.if_icmp .ge 65, 3) := by decide +kernel
theorem dX12_inLogs_28 : decode cX12_inLogs 28 = .ok (.iload_n 1, 1) := by decide +kernel
theorem dX12_inLogs_29 : decode cX12_inLogs 29 = .ok (.iconst (-1), 1) := by decide +kernel
theorem dX12_inLogs_30 : decode cX12_inLogs 30 = .ok (.if_icmp .eq 16, 3) := by decide +kernel
theorem dX12_inLogs_33 : decode cX12_inLogs 33 = .ok (.aload_n 0, 1) := by decide +kernel
theorem dX12_inLogs_34 : decode cX12_inLogs 34 = .ok (.iload 4, 2) := by decide +kernel
theorem dX12_inLogs_36 : decode cX12_inLogs 36 = .ok (.iload 5, 2) := by decide +kernel
theorem dX12_inLogs_38 : decode cX12_inLogs 38 = .ok (.invokestatic 68, 3) := by decide +kernel
theorem dX12_inLogs_41 : decode cX12_inLogs 41 = .ok (.iaload, 1) := by decide +kernel
theorem dX12_inLogs_42 : decode cX12_inLogs 42 = .ok (.iload_n 1, 1) := by decide +kernel
theorem dX12_inLogs_43 : decode cX12_inLogs 43 = .ok (.if_icmp .ne 7, 3) := by decide +kernel
theorem dX12_inLogs_46 : decode cX12_inLogs 46 = .ok (.iconst 1, 1) := by decide +kernel
theorem dX12_inLogs_47 : decode cX12_inLogs 47 = .ok (.goto 4, 3) := by decide +kernel
theorem dX12_inLogs_50 : decode cX12_inLogs 50 = .ok (.iconst 0, 1) := by decide +kernel
theorem dX12_inLogs_51 : decode cX12_inLogs 51 = .ok (.istore 6, 2) := by decide +kernel
theorem dX12_inLogs_53 : decode cX12_inLogs 53 = .ok (.iload_n 3, 1) := by decide +kernel
theorem dX12_inLogs_54 : decode cX12_inLogs 54 = .ok (.iload 6, 2) := by decide +kernel
theorem dX12_inLogs_56 : decode cX12_inLogs 56 = .ok (.ifCond .ne 7, 3) := by decide +kernel
theorem dX12_inLogs_59 : decode cX12_inLogs 59 = .ok (.iconst 0, 1) := by decide +kernel
theorem dX12_inLogs_60 : decode cX12_inLogs 60 = .ok (.goto 22, 3) := by decide +kernel
theorem dX12_inLogs_63 : decode cX12_inLogs 63 = .ok (.iload_n 2, 1) := by decide +kernel
theorem dX12_inLogs_64 : decode cX12_inLogs 64 = .ok (.ifCond .eq 17, 3) := by decide +kernel
theorem dX12_inLogs_67 : decode cX12_inLogs 67 = .ok (.aload_n 0, 1) := by decide +kernel
theorem dX12_inLogs_68 : decode cX12_inLogs 68 = .ok (.iload 4, 2) := by decide +kernel
theorem dX12_inLogs_70 : decode cX12_inLogs 70 = .ok (.iload 5, 2) := by decide +kernel
theorem dX12_inLogs_72 : decode cX12_inLogs 72 = .ok (.invokestatic 68, 3) := by decide +kernel
theorem dX12_inLogs_75 : decode cX12_inLogs 75 = .ok (.iconst 2, 1) := by decide +kernel
theorem dX12_inLogs_76 : decode cX12_inLogs 76 = .ok (.iadd, 1) := by decide +kernel
theorem dX12_inLogs_77 : decode cX12_inLogs 77 = .ok (.iaload, 1) := by decide +kernel
theorem dX12_inLogs_78 : decode cX12_inLogs 78 = .ok (.goto 4, 3) := by decide +kernel
theorem dX12_inLogs_81 : decode cX12_inLogs 81 = .ok (.iconst 1, 1) := by decide +kernel
theorem dX12_inLogs_82 : decode cX12_inLogs 82 = .ok (.iadd, 1) := by decide +kernel
theorem dX12_inLogs_83 : decode cX12_inLogs 83 = .ok (.istore_n 3, 1) := by decide +kernel
theorem dX12_inLogs_84 : decode cX12_inLogs 84 = .ok (.iinc 5 1, 3) := by decide +kernel
theorem dX12_inLogs_87 : decode cX12_inLogs 87 = .ok (.goto (-73), 3) := by decide +kernel
theorem dX12_inLogs_90 : decode cX12_inLogs 90 = .ok (.iinc 4 1, 3) := by decide +kernel
theorem dX12_inLogs_93 : decode cX12_inLogs 93 = .ok (.goto (-88), 3) := by decide +kernel
theorem dX12_inLogs_96 : decode cX12_inLogs 96 = .ok (.iload_n 3, 1) := by decide +kernel
theorem dX12_inLogs_97 : decode cX12_inLogs 97 = .ok (.ireturn, 1) := by decide +kernel
theorem dX12_cardsOf_0 : decode cX12_cardsOf 0 = .ok (.iconst 0, 1) := by decide +kernel
theorem dX12_cardsOf_1 : decode cX12_cardsOf 1 = .ok (.istore_n 2, 1) := by decide +kernel
theorem dX12_cardsOf_2 : decode cX12_cardsOf 2 = .ok (.iconst 0, 1) := by decide +kernel
theorem dX12_cardsOf_3 : decode cX12_cardsOf 3 = .ok (.istore_n 3, 1) := by decide +kernel
theorem dX12_cardsOf_4 : decode cX12_cardsOf 4 = .ok (.iload_n 3, 1) := by decide +kernel
theorem dX12_cardsOf_5 : decode cX12_cardsOf 5 = .ok (.aload_n 0, 1) := by decide +kernel
theorem dX12_cardsOf_6 : decode cX12_cardsOf 6 = .ok (.iconst 0, 1) := by decide +kernel
theorem dX12_cardsOf_7 : decode cX12_cardsOf 7 = .ok (.iaload, 1) := by decide +kernel
theorem dX12_cardsOf_8 : decode cX12_cardsOf 8 = .ok (.if_icmp .ge 29, 3) := by decide +kernel
theorem dX12_cardsOf_11 : decode cX12_cardsOf 11 = .ok (.iload_n 2, 1) := by decide +kernel
theorem dX12_cardsOf_12 : decode cX12_cardsOf 12 = .ok (.aload_n 0, 1) := by decide +kernel
theorem dX12_cardsOf_13 : decode cX12_cardsOf 13 = .ok (.iload_n 3, 1) := by decide +kernel
theorem dX12_cardsOf_14 : decode cX12_cardsOf 14 = .ok (.invokestatic 76, 3) := by decide +kernel
theorem dX12_cardsOf_17 : decode cX12_cardsOf 17 = .ok (.iconst 0, 1) := by decide +kernel
theorem dX12_cardsOf_18 : decode cX12_cardsOf 18 = .ok (.iadd, 1) := by decide +kernel
theorem dX12_cardsOf_19 : decode cX12_cardsOf 19 = .ok (.iaload, 1) := by decide +kernel
theorem dX12_cardsOf_20 : decode cX12_cardsOf 20 = .ok (.iload_n 1, 1) := by decide +kernel
theorem dX12_cardsOf_21 : decode cX12_cardsOf 21 = .ok (.if_icmp .ne 7, 3) := by decide +kernel
theorem dX12_cardsOf_24 : decode cX12_cardsOf 24 = .ok (.iconst 1, 1) := by decide +kernel
theorem dX12_cardsOf_25 : decode cX12_cardsOf 25 = .ok (.goto 4, 3) := by decide +kernel
theorem dX12_cardsOf_28 : decode cX12_cardsOf 28 = .ok (.iconst 0, 1) := by decide +kernel
theorem dX12_cardsOf_29 : decode cX12_cardsOf 29 = .ok (.iadd, 1) := by decide +kernel
theorem dX12_cardsOf_30 : decode cX12_cardsOf 30 = .ok (.istore_n 2, 1) := by decide +kernel
theorem dX12_cardsOf_31 : decode cX12_cardsOf 31 = .ok (.iinc 3 1, 3) := by decide +kernel
theorem dX12_cardsOf_34 : decode cX12_cardsOf 34 = .ok (.goto (-30), 3) := by decide +kernel
theorem dX12_cardsOf_37 : decode cX12_cardsOf 37 = .ok (.iload_n 2, 1) := by decide +kernel
theorem dX12_cardsOf_38 : decode cX12_cardsOf 38 = .ok (.ireturn, 1) := by decide +kernel
theorem dX12_canPardon_0 : decode cX12_canPardon 0 = .ok (.aload_n 0, 1) := by decide +kernel
theorem dX12_canPardon_1 : decode cX12_canPardon 1 = .ok (.iload_n 1, 1) := by decide +kernel
theorem dX12_canPardon_2 : decode cX12_canPardon 2 = .ok (.invokestatic 143, 3) := by decide +kernel
theorem dX12_canPardon_5 : decode cX12_canPardon 5 = .ok (.ifCond .eq 19, 3) := by decide +kernel
theorem dX12_canPardon_8 : decode cX12_canPardon 8 = .ok (.aload_n 0, 1) := by decide +kernel
theorem dX12_canPardon_9 : decode cX12_canPardon 9 = .ok (.iload_n 1, 1) := by decide +kernel
theorem dX12_canPardon_10 : decode cX12_canPardon 10 = .ok (.invokestatic 50, 3) := by decide +kernel
theorem dX12_canPardon_13 : decode cX12_canPardon 13 = .ok (.iconst 2, 1) := by decide +kernel
theorem dX12_canPardon_14 : decode cX12_canPardon 14 = .ok (.iadd, 1) := by decide +kernel
theorem dX12_canPardon_15 : decode cX12_canPardon 15 = .ok (.iaload, 1) := by decide +kernel
theorem dX12_canPardon_16 : decode cX12_canPardon 16 = .ok (.iconst 1, 1) := by decide +kernel
theorem dX12_canPardon_17 : decode cX12_canPardon 17 = .ok (.if_icmp .ne 7, 3) := by decide +kernel
theorem dX12_canPardon_20 : decode cX12_canPardon 20 = .ok (.iconst 1, 1) := by decide +kernel
theorem dX12_canPardon_21 : decode cX12_canPardon 21 = .ok (.goto 4, 3) := by decide +kernel
theorem dX12_canPardon_24 : decode cX12_canPardon 24 = .ok (.iconst 0, 1) := by decide +kernel
theorem dX12_canPardon_25 : decode cX12_canPardon 25 = .ok (.ireturn, 1) := by decide +kernel
theorem dX12_standing_0 : decode cX12_standing 0 = .ok (.aload_n 0, 1) := by decide +kernel
theorem dX12_standing_1 : decode cX12_standing 1 = .ok (.iload_n 1, 1) := by decide +kernel
theorem dX12_standing_2 : decode cX12_standing 2 = .ok (.invokestatic 50, 3) := by decide +kernel
theorem dX12_standing_5 : decode cX12_standing 5 = .ok (.iconst 0, 1) := by decide +kernel
theorem dX12_standing_6 : decode cX12_standing 6 = .ok (.iadd, 1) := by decide +kernel
theorem dX12_standing_7 : decode cX12_standing 7 = .ok (.iaload, 1) := by decide +kernel
theorem dX12_standing_8 : decode cX12_standing 8 = .ok (.aload_n 0, 1) := by decide +kernel
theorem dX12_standing_9 : decode cX12_standing 9 = .ok (.iload_n 1, 1) := by decide +kernel
theorem dX12_standing_10 : decode cX12_standing 10 = .ok (.iconst 1, 1) := by decide +kernel
theorem dX12_standing_11 : decode cX12_standing 11 = .ok (.invokestatic 174, 3) := by decide +kernel
theorem dX12_standing_14 : decode cX12_standing 14 = .ok (.isub, 1) := by decide +kernel
theorem dX12_standing_15 : decode cX12_standing 15 = .ok (.ireturn, 1) := by decide +kernel
theorem dX12_command_0 : decode cX12_command 0 = .ok (.bipush 10, 2) := by decide +kernel
theorem dX12_command_2 : decode cX12_command 2 = .ok (.iload_n 3, 1) := by decide +kernel
theorem dX12_command_3 : decode cX12_command 3 = .ok (.imul, 1) := by decide +kernel
theorem dX12_command_4 : decode cX12_command 4 = .ok (.iload 4, 2) := by decide +kernel
theorem dX12_command_6 : decode cX12_command 6 = .ok (.iadd, 1) := by decide +kernel
theorem dX12_command_7 : decode cX12_command 7 = .ok (.istore 5, 2) := by decide +kernel
theorem dX12_command_9 : decode cX12_command 9 = .ok (.iload_n 1, 1) := by decide +kernel
theorem dX12_command_10 : decode cX12_command 10 = .ok (.tableswitch 328 1 9 #[50, 88, 113, 155, 187, 214, 257, 283, 310], 50) := by decide +kernel
theorem dX12_command_60 : decode cX12_command 60 = .ok (.iload 4, 2) := by decide +kernel
theorem dX12_command_62 : decode cX12_command 62 = .ok (.ifCond .ne 34, 3) := by decide +kernel
theorem dX12_command_65 : decode cX12_command 65 = .ok (.aload_n 0, 1) := by decide +kernel
theorem dX12_command_66 : decode cX12_command 66 = .ok (.iload_n 2, 1) := by decide +kernel
theorem dX12_command_67 : decode cX12_command 67 = .ok (.invokestatic 87, 3) := by decide +kernel
theorem dX12_command_70 : decode cX12_command 70 = .ok (.ifCond .eq 26, 3) := by decide +kernel
theorem dX12_command_73 : decode cX12_command 73 = .ok (.iload_n 3, 1) := by decide +kernel
theorem dX12_command_74 : decode cX12_command 74 = .ok (.invokestatic 183, 3) := by decide +kernel
theorem dX12_command_77 : decode cX12_command 77 = .ok (.ifCond .eq 19, 3) := by decide +kernel
theorem dX12_command_80 : decode cX12_command 80 = .ok (.aload_n 0, 1) := by decide +kernel
theorem dX12_command_81 : decode cX12_command 81 = .ok (.iload_n 2, 1) := by decide +kernel
theorem dX12_command_82 : decode cX12_command 82 = .ok (.iload_n 3, 1) := by decide +kernel
theorem dX12_command_83 : decode cX12_command 83 = .ok (.invokestatic 140, 3) := by decide +kernel
theorem dX12_command_86 : decode cX12_command 86 = .ok (.invokestatic 202, 3) := by decide +kernel
theorem dX12_command_89 : decode cX12_command 89 = .ok (.ifCond .eq 7, 3) := by decide +kernel
theorem dX12_command_92 : decode cX12_command 92 = .ok (.iconst 1, 1) := by decide +kernel
theorem dX12_command_93 : decode cX12_command 93 = .ok (.goto 4, 3) := by decide +kernel
theorem dX12_command_96 : decode cX12_command 96 = .ok (.iconst 0, 1) := by decide +kernel
theorem dX12_command_97 : decode cX12_command 97 = .ok (.ireturn, 1) := by decide +kernel
theorem dX12_command_98 : decode cX12_command 98 = .ok (.aload_n 0, 1) := by decide +kernel
theorem dX12_command_99 : decode cX12_command 99 = .ok (.iload_n 2, 1) := by decide +kernel
theorem dX12_command_100 : decode cX12_command 100 = .ok (.invokestatic 143, 3) := by decide +kernel
theorem dX12_command_103 : decode cX12_command 103 = .ok (.ifCond .eq 8, 3) := by decide +kernel
theorem dX12_command_106 : decode cX12_command 106 = .ok (.iload 5, 2) := by decide +kernel
theorem dX12_command_108 : decode cX12_command 108 = .ok (.ifCond .ne 5, 3) := by decide +kernel
theorem dX12_command_111 : decode cX12_command 111 = .ok (.iconst 0, 1) := by decide +kernel
theorem dX12_command_112 : decode cX12_command 112 = .ok (.ireturn, 1) := by decide +kernel
theorem dX12_command_113 : decode cX12_command 113 = .ok (.aload_n 0, 1) := by decide +kernel
theorem dX12_command_114 : decode cX12_command 114 = .ok (.iload_n 2, 1) := by decide +kernel
theorem dX12_command_115 : decode cX12_command 115 = .ok (.iload 5, 2) := by decide +kernel
theorem dX12_command_117 : decode cX12_command 117 = .ok (.invokestatic 146, 3) := by decide +kernel
theorem dX12_command_120 : decode cX12_command 120 = .ok (.pop, 1) := by decide +kernel
theorem dX12_command_121 : decode cX12_command 121 = .ok (.iconst 1, 1) := by decide +kernel
theorem dX12_command_122 : decode cX12_command 122 = .ok (.ireturn, 1) := by decide +kernel
theorem dX12_command_123 : decode cX12_command 123 = .ok (.iload_n 3, 1) := by decide +kernel
theorem dX12_command_124 : decode cX12_command 124 = .ok (.ifCond .ne 39, 3) := by decide +kernel
theorem dX12_command_127 : decode cX12_command 127 = .ok (.iload 4, 2) := by decide +kernel
theorem dX12_command_129 : decode cX12_command 129 = .ok (.iconst 2, 1) := by decide +kernel
theorem dX12_command_130 : decode cX12_command 130 = .ok (.if_icmp .ge 33, 3) := by decide +kernel
theorem dX12_command_133 : decode cX12_command 133 = .ok (.iload_n 2, 1) := by decide +kernel
theorem dX12_command_134 : decode cX12_command 134 = .ok (.invokestatic 183, 3) := by decide +kernel
theorem dX12_command_137 : decode cX12_command 137 = .ok (.ifCond .eq 26, 3) := by decide +kernel
theorem dX12_command_140 : decode cX12_command 140 = .ok (.aload_n 0, 1) := by decide +kernel
theorem dX12_command_141 : decode cX12_command 141 = .ok (.iload_n 2, 1) := by decide +kernel
theorem dX12_command_142 : decode cX12_command 142 = .ok (.iload 4, 2) := by decide +kernel
theorem dX12_command_144 : decode cX12_command 144 = .ok (.iconst 1, 1) := by decide +kernel
theorem dX12_command_145 : decode cX12_command 145 = .ok (.if_icmp .ne 7, 3) := by decide +kernel
theorem dX12_command_148 : decode cX12_command 148 = .ok (.iconst 1, 1) := by decide +kernel
theorem dX12_command_149 : decode cX12_command 149 = .ok (.goto 4, 3) := by decide +kernel
theorem dX12_command_152 : decode cX12_command 152 = .ok (.iconst 0, 1) := by decide +kernel
theorem dX12_command_153 : decode cX12_command 153 = .ok (.invokestatic 149, 3) := by decide +kernel
theorem dX12_command_156 : decode cX12_command 156 = .ok (.ifCond .eq 7, 3) := by decide +kernel
theorem dX12_command_159 : decode cX12_command 159 = .ok (.iconst 1, 1) := by decide +kernel
theorem dX12_command_160 : decode cX12_command 160 = .ok (.goto 4, 3) := by decide +kernel
theorem dX12_command_163 : decode cX12_command 163 = .ok (.iconst 0, 1) := by decide +kernel
theorem dX12_command_164 : decode cX12_command 164 = .ok (.ireturn, 1) := by decide +kernel
theorem dX12_command_165 : decode cX12_command 165 = .ok (.iload_n 2, 1) := by decide +kernel
theorem dX12_command_166 : decode cX12_command 166 = .ok (.ifCond .ne 29, 3) := by decide +kernel
theorem dX12_command_169 : decode cX12_command 169 = .ok (.iload 5, 2) := by decide +kernel
theorem dX12_command_171 : decode cX12_command 171 = .ok (.i2l, 1) := by decide +kernel
theorem dX12_command_172 : decode cX12_command 172 = .ok (.lconst 1, 1) := by decide +kernel
theorem dX12_command_173 : decode cX12_command 173 = .ok (.ldc2_w 196, 3) := by decide +kernel
theorem dX12_command_176 : decode cX12_command 176 = .ok (.invokestatic 44, 3) := by decide +kernel
theorem dX12_command_179 : decode cX12_command 179 = .ok (.ifCond .eq 16, 3) := by decide +kernel
theorem dX12_command_182 : decode cX12_command 182 = .ok (.aload_n 0, 1) := by decide +kernel
theorem dX12_command_183 : decode cX12_command 183 = .ok (.iload 5, 2) := by decide +kernel
theorem dX12_command_185 : decode cX12_command 185 = .ok (.invokestatic 156, 3) := by decide +kernel
theorem dX12_command_188 : decode cX12_command 188 = .ok (.ifCond .le 7, 3) := by decide +kernel
theorem dX12_command_191 : decode cX12_command 191 = .ok (.iconst 1, 1) := by decide +kernel
theorem dX12_command_192 : decode cX12_command 192 = .ok (.goto 4, 3) := by decide +kernel
theorem dX12_command_195 : decode cX12_command 195 = .ok (.iconst 0, 1) := by decide +kernel
theorem dX12_command_196 : decode cX12_command 196 = .ok (.ireturn, 1) := by decide +kernel
theorem dX12_command_197 : decode cX12_command 197 = .ok (.iload 5, 2) := by decide +kernel
theorem dX12_command_199 : decode cX12_command 199 = .ok (.ifCond .ne 23, 3) := by decide +kernel
theorem dX12_command_202 : decode cX12_command 202 = .ok (.aload_n 0, 1) := by decide +kernel
theorem dX12_command_203 : decode cX12_command 203 = .ok (.iload_n 2, 1) := by decide +kernel
theorem dX12_command_204 : decode cX12_command 204 = .ok (.invokestatic 134, 3) := by decide +kernel
theorem dX12_command_207 : decode cX12_command 207 = .ok (.ifCond .eq 15, 3) := by decide +kernel
theorem dX12_command_210 : decode cX12_command 210 = .ok (.aload_n 0, 1) := by decide +kernel
theorem dX12_command_211 : decode cX12_command 211 = .ok (.iload_n 2, 1) := by decide +kernel
theorem dX12_command_212 : decode cX12_command 212 = .ok (.invokestatic 137, 3) := by decide +kernel
theorem dX12_command_215 : decode cX12_command 215 = .ok (.ifCond .le 7, 3) := by decide +kernel
theorem dX12_command_218 : decode cX12_command 218 = .ok (.iconst 1, 1) := by decide +kernel
theorem dX12_command_219 : decode cX12_command 219 = .ok (.goto 4, 3) := by decide +kernel
theorem dX12_command_222 : decode cX12_command 222 = .ok (.iconst 0, 1) := by decide +kernel
theorem dX12_command_223 : decode cX12_command 223 = .ok (.ireturn, 1) := by decide +kernel
theorem dX12_command_224 : decode cX12_command 224 = .ok (.iload_n 3, 1) := by decide +kernel
theorem dX12_command_225 : decode cX12_command 225 = .ok (.ifCond .ne 40, 3) := by decide +kernel
theorem dX12_command_228 : decode cX12_command 228 = .ok (.iload 4, 2) := by decide +kernel
theorem dX12_command_230 : decode cX12_command 230 = .ok (.iconst 2, 1) := by decide +kernel
theorem dX12_command_231 : decode cX12_command 231 = .ok (.if_icmp .ge 34, 3) := by decide +kernel
theorem dX12_command_234 : decode cX12_command 234 = .ok (.aload_n 0, 1) := by decide +kernel
theorem dX12_command_235 : decode cX12_command 235 = .ok (.iload_n 2, 1) := by decide +kernel
theorem dX12_command_236 : decode cX12_command 236 = .ok (.invokestatic 143, 3) := by decide +kernel
theorem dX12_command_239 : decode cX12_command 239 = .ok (.ifCond .eq 26, 3) := by decide +kernel
theorem dX12_command_242 : decode cX12_command 242 = .ok (.aload_n 0, 1) := by decide +kernel
theorem dX12_command_243 : decode cX12_command 243 = .ok (.iload_n 2, 1) := by decide +kernel
theorem dX12_command_244 : decode cX12_command 244 = .ok (.invokestatic 53, 3) := by decide +kernel
theorem dX12_command_247 : decode cX12_command 247 = .ok (.iload 4, 2) := by decide +kernel
theorem dX12_command_249 : decode cX12_command 249 = .ok (.iconst 1, 1) := by decide +kernel
theorem dX12_command_250 : decode cX12_command 250 = .ok (.if_icmp .ne 7, 3) := by decide +kernel
theorem dX12_command_253 : decode cX12_command 253 = .ok (.iconst 1, 1) := by decide +kernel
theorem dX12_command_254 : decode cX12_command 254 = .ok (.goto 4, 3) := by decide +kernel
theorem dX12_command_257 : decode cX12_command 257 = .ok (.iconst 0, 1) := by decide +kernel
theorem dX12_command_258 : decode cX12_command 258 = .ok (.if_icmp .ne 7, 3) := by decide +kernel
theorem dX12_command_261 : decode cX12_command 261 = .ok (.iconst 1, 1) := by decide +kernel
theorem dX12_command_262 : decode cX12_command 262 = .ok (.goto 4, 3) := by decide +kernel
theorem dX12_command_265 : decode cX12_command 265 = .ok (.iconst 0, 1) := by decide +kernel
theorem dX12_command_266 : decode cX12_command 266 = .ok (.ireturn, 1) := by decide +kernel
theorem dX12_command_267 : decode cX12_command 267 = .ok (.iload_n 2, 1) := by decide +kernel
theorem dX12_command_268 : decode cX12_command 268 = .ok (.invokestatic 183, 3) := by decide +kernel
theorem dX12_command_271 : decode cX12_command 271 = .ok (.ifCond .eq 20, 3) := by decide +kernel
theorem dX12_command_274 : decode cX12_command 274 = .ok (.aload_n 0, 1) := by decide +kernel
theorem dX12_command_275 : decode cX12_command 275 = .ok (.iload_n 2, 1) := by decide +kernel
theorem dX12_command_276 : decode cX12_command 276 = .ok (.invokestatic 40, 3) := by decide +kernel
theorem dX12_command_279 : decode cX12_command 279 = .ok (.iconst 3, 1) := by decide +kernel
theorem dX12_command_280 : decode cX12_command 280 = .ok (.iadd, 1) := by decide +kernel
theorem dX12_command_281 : decode cX12_command 281 = .ok (.iaload, 1) := by decide +kernel
theorem dX12_command_282 : decode cX12_command 282 = .ok (.iload 5, 2) := by decide +kernel
theorem dX12_command_284 : decode cX12_command 284 = .ok (.if_icmp .gt 7, 3) := by decide +kernel
theorem dX12_command_287 : decode cX12_command 287 = .ok (.iconst 1, 1) := by decide +kernel
theorem dX12_command_288 : decode cX12_command 288 = .ok (.goto 4, 3) := by decide +kernel
theorem dX12_command_291 : decode cX12_command 291 = .ok (.iconst 0, 1) := by decide +kernel
theorem dX12_command_292 : decode cX12_command 292 = .ok (.ireturn, 1) := by decide +kernel
theorem dX12_command_293 : decode cX12_command 293 = .ok (.aload_n 0, 1) := by decide +kernel
theorem dX12_command_294 : decode cX12_command 294 = .ok (.iload_n 2, 1) := by decide +kernel
theorem dX12_command_295 : decode cX12_command 295 = .ok (.invokestatic 87, 3) := by decide +kernel
theorem dX12_command_298 : decode cX12_command 298 = .ok (.ifCond .eq 20, 3) := by decide +kernel
theorem dX12_command_301 : decode cX12_command 301 = .ok (.aload_n 0, 1) := by decide +kernel
theorem dX12_command_302 : decode cX12_command 302 = .ok (.iload_n 2, 1) := by decide +kernel
theorem dX12_command_303 : decode cX12_command 303 = .ok (.invokestatic 76, 3) := by decide +kernel
theorem dX12_command_306 : decode cX12_command 306 = .ok (.iconst 1, 1) := by decide +kernel
theorem dX12_command_307 : decode cX12_command 307 = .ok (.iadd, 1) := by decide +kernel
theorem dX12_command_308 : decode cX12_command 308 = .ok (.iaload, 1) := by decide +kernel
theorem dX12_command_309 : decode cX12_command 309 = .ok (.iload 5, 2) := by decide +kernel
theorem dX12_command_311 : decode cX12_command 311 = .ok (.if_icmp .lt 7, 3) := by decide +kernel
theorem dX12_command_314 : decode cX12_command 314 = .ok (.iconst 1, 1) := by decide +kernel
theorem dX12_command_315 : decode cX12_command 315 = .ok (.goto 4, 3) := by decide +kernel
theorem dX12_command_318 : decode cX12_command 318 = .ok (.iconst 0, 1) := by decide +kernel
theorem dX12_command_319 : decode cX12_command 319 = .ok (.ireturn, 1) := by decide +kernel
theorem dX12_command_320 : decode cX12_command 320 = .ok (.iload_n 2, 1) := by decide +kernel
theorem dX12_command_321 : decode cX12_command 321 = .ok (.ifCond .ne 15, 3) := by decide +kernel
theorem dX12_command_324 : decode cX12_command 324 = .ok (.aload_n 0, 1) := by decide +kernel
theorem dX12_command_325 : decode cX12_command 325 = .ok (.iconst 5, 1) := by decide +kernel
theorem dX12_command_326 : decode cX12_command 326 = .ok (.iaload, 1) := by decide +kernel
theorem dX12_command_327 : decode cX12_command 327 = .ok (.iload 5, 2) := by decide +kernel
theorem dX12_command_329 : decode cX12_command 329 = .ok (.if_icmp .gt 7, 3) := by decide +kernel
theorem dX12_command_332 : decode cX12_command 332 = .ok (.iconst 1, 1) := by decide +kernel
theorem dX12_command_333 : decode cX12_command 333 = .ok (.goto 4, 3) := by decide +kernel
theorem dX12_command_336 : decode cX12_command 336 = .ok (.iconst 0, 1) := by decide +kernel
theorem dX12_command_337 : decode cX12_command 337 = .ok (.ireturn, 1) := by decide +kernel
theorem dX12_command_338 : decode cX12_command 338 = .ok (.iconst 0, 1) := by decide +kernel
theorem dX12_command_339 : decode cX12_command 339 = .ok (.ireturn, 1) := by decide +kernel
theorem dX12_turn_0 : decode cX12_turn 0 = .ok (.iload_n 1, 1) := by decide +kernel
theorem dX12_turn_1 : decode cX12_turn 1 = .ok (.bipush 16, 2) := by decide +kernel
theorem dX12_turn_3 : decode cX12_turn 3 = .ok (.idiv, 1) := by decide +kernel
theorem dX12_turn_4 : decode cX12_turn 4 = .ok (.istore_n 2, 1) := by decide +kernel
theorem dX12_turn_5 : decode cX12_turn 5 = .ok (.iload_n 1, 1) := by decide +kernel
theorem dX12_turn_6 : decode cX12_turn 6 = .ok (.bipush 16, 2) := by decide +kernel
theorem dX12_turn_8 : decode cX12_turn 8 = .ok (.irem, 1) := by decide +kernel
theorem dX12_turn_9 : decode cX12_turn 9 = .ok (.istore_n 3, 1) := by decide +kernel
theorem dX12_turn_10 : decode cX12_turn 10 = .ok (.iload_n 3, 1) := by decide +kernel
theorem dX12_turn_11 : decode cX12_turn 11 = .ok (.ifCond .ne 22, 3) := by decide +kernel
theorem dX12_turn_14 : decode cX12_turn 14 = .ok (.aload_n 0, 1) := by decide +kernel
theorem dX12_turn_15 : decode cX12_turn 15 = .ok (.invokestatic 123, 3) := by decide +kernel
theorem dX12_turn_18 : decode cX12_turn 18 = .ok (.ifCond .eq 202, 3) := by decide +kernel
theorem dX12_turn_21 : decode cX12_turn 21 = .ok (.aload_n 0, 1) := by decide +kernel
theorem dX12_turn_22 : decode cX12_turn 22 = .ok (.iload_n 2, 1) := by decide +kernel
theorem dX12_turn_23 : decode cX12_turn 23 = .ok (.bipush 40, 2) := by decide +kernel
theorem dX12_turn_25 : decode cX12_turn 25 = .ok (.irem, 1) := by decide +kernel
theorem dX12_turn_26 : decode cX12_turn 26 = .ok (.invokestatic 127, 3) := by decide +kernel
theorem dX12_turn_29 : decode cX12_turn 29 = .ok (.pop, 1) := by decide +kernel
theorem dX12_turn_30 : decode cX12_turn 30 = .ok (.goto 190, 3) := by decide +kernel
theorem dX12_turn_33 : decode cX12_turn 33 = .ok (.iload_n 3, 1) := by decide +kernel
theorem dX12_turn_34 : decode cX12_turn 34 = .ok (.iconst 1, 1) := by decide +kernel
theorem dX12_turn_35 : decode cX12_turn 35 = .ok (.if_icmp .ne 26, 3) := by decide +kernel
theorem dX12_turn_38 : decode cX12_turn 38 = .ok (.aload_n 0, 1) := by decide +kernel
theorem dX12_turn_39 : decode cX12_turn 39 = .ok (.iload_n 2, 1) := by decide +kernel
theorem dX12_turn_40 : decode cX12_turn 40 = .ok (.bipush 10, 2) := by decide +kernel
theorem dX12_turn_42 : decode cX12_turn 42 = .ok (.irem, 1) := by decide +kernel
theorem dX12_turn_43 : decode cX12_turn 43 = .ok (.invokestatic 134, 3) := by decide +kernel
theorem dX12_turn_46 : decode cX12_turn 46 = .ok (.ifCond .eq 174, 3) := by decide +kernel
theorem dX12_turn_49 : decode cX12_turn 49 = .ok (.aload_n 0, 1) := by decide +kernel
theorem dX12_turn_50 : decode cX12_turn 50 = .ok (.iload_n 2, 1) := by decide +kernel
theorem dX12_turn_51 : decode cX12_turn 51 = .ok (.bipush 10, 2) := by decide +kernel
theorem dX12_turn_53 : decode cX12_turn 53 = .ok (.irem, 1) := by decide +kernel
theorem dX12_turn_54 : decode cX12_turn 54 = .ok (.invokestatic 137, 3) := by decide +kernel
theorem dX12_turn_57 : decode cX12_turn 57 = .ok (.pop, 1) := by decide +kernel
theorem dX12_turn_58 : decode cX12_turn 58 = .ok (.goto 162, 3) := by decide +kernel
theorem dX12_turn_61 : decode cX12_turn 61 = .ok (.iload_n 3, 1) := by decide +kernel
theorem dX12_turn_62 : decode cX12_turn 62 = .ok (.iconst 4, 1) := by decide +kernel
theorem dX12_turn_63 : decode cX12_turn 63 = .ok (.if_icmp .ge 24, 3) := by decide +kernel
theorem dX12_turn_66 : decode cX12_turn 66 = .ok (.aload_n 0, 1) := by decide +kernel
theorem dX12_turn_67 : decode cX12_turn 67 = .ok (.iload_n 2, 1) := by decide +kernel
theorem dX12_turn_68 : decode cX12_turn 68 = .ok (.iconst 4, 1) := by decide +kernel
theorem dX12_turn_69 : decode cX12_turn 69 = .ok (.irem, 1) := by decide +kernel
theorem dX12_turn_70 : decode cX12_turn 70 = .ok (.iload_n 3, 1) := by decide +kernel
theorem dX12_turn_71 : decode cX12_turn 71 = .ok (.iconst 3, 1) := by decide +kernel
theorem dX12_turn_72 : decode cX12_turn 72 = .ok (.if_icmp .ne 7, 3) := by decide +kernel
theorem dX12_turn_75 : decode cX12_turn 75 = .ok (.iconst 1, 1) := by decide +kernel
theorem dX12_turn_76 : decode cX12_turn 76 = .ok (.goto 4, 3) := by decide +kernel
theorem dX12_turn_79 : decode cX12_turn 79 = .ok (.iconst 0, 1) := by decide +kernel
theorem dX12_turn_80 : decode cX12_turn 80 = .ok (.invokestatic 149, 3) := by decide +kernel
theorem dX12_turn_83 : decode cX12_turn 83 = .ok (.pop, 1) := by decide +kernel
theorem dX12_turn_84 : decode cX12_turn 84 = .ok (.goto 136, 3) := by decide +kernel
theorem dX12_turn_87 : decode cX12_turn 87 = .ok (.iload_n 3, 1) := by decide +kernel
theorem dX12_turn_88 : decode cX12_turn 88 = .ok (.iconst 4, 1) := by decide +kernel
theorem dX12_turn_89 : decode cX12_turn 89 = .ok (.if_icmp .ne 36, 3) := by decide +kernel
theorem dX12_turn_92 : decode cX12_turn 92 = .ok (.aload_n 0, 1) := by decide +kernel
theorem dX12_turn_93 : decode cX12_turn 93 = .ok (.iload_n 2, 1) := by decide +kernel
theorem dX12_turn_94 : decode cX12_turn 94 = .ok (.bipush 8, 2) := by decide +kernel
theorem dX12_turn_96 : decode cX12_turn 96 = .ok (.irem, 1) := by decide +kernel
theorem dX12_turn_97 : decode cX12_turn 97 = .ok (.invokestatic 143, 3) := by decide +kernel
theorem dX12_turn_100 : decode cX12_turn 100 = .ok (.ifCond .eq 120, 3) := by decide +kernel
theorem dX12_turn_103 : decode cX12_turn 103 = .ok (.aload_n 0, 1) := by decide +kernel
theorem dX12_turn_104 : decode cX12_turn 104 = .ok (.iload_n 2, 1) := by decide +kernel
theorem dX12_turn_105 : decode cX12_turn 105 = .ok (.bipush 8, 2) := by decide +kernel
theorem dX12_turn_107 : decode cX12_turn 107 = .ok (.irem, 1) := by decide +kernel
theorem dX12_turn_108 : decode cX12_turn 108 = .ok (.iconst 1, 1) := by decide +kernel
theorem dX12_turn_109 : decode cX12_turn 109 = .ok (.iload_n 1, 1) := by decide +kernel
theorem dX12_turn_110 : decode cX12_turn 110 = .ok (.sipush 128, 3) := by decide +kernel
theorem dX12_turn_113 : decode cX12_turn 113 = .ok (.idiv, 1) := by decide +kernel
theorem dX12_turn_114 : decode cX12_turn 114 = .ok (.bipush 30, 2) := by decide +kernel
theorem dX12_turn_116 : decode cX12_turn 116 = .ok (.irem, 1) := by decide +kernel
theorem dX12_turn_117 : decode cX12_turn 117 = .ok (.iadd, 1) := by decide +kernel
theorem dX12_turn_118 : decode cX12_turn 118 = .ok (.invokestatic 146, 3) := by decide +kernel
theorem dX12_turn_121 : decode cX12_turn 121 = .ok (.pop, 1) := by decide +kernel
theorem dX12_turn_122 : decode cX12_turn 122 = .ok (.goto 98, 3) := by decide +kernel
theorem dX12_turn_125 : decode cX12_turn 125 = .ok (.iload_n 3, 1) := by decide +kernel
theorem dX12_turn_126 : decode cX12_turn 126 = .ok (.iconst 5, 1) := by decide +kernel
theorem dX12_turn_127 : decode cX12_turn 127 = .ok (.if_icmp .ne 14, 3) := by decide +kernel
theorem dX12_turn_130 : decode cX12_turn 130 = .ok (.aload_n 0, 1) := by decide +kernel
theorem dX12_turn_131 : decode cX12_turn 131 = .ok (.iload_n 2, 1) := by decide +kernel
theorem dX12_turn_132 : decode cX12_turn 132 = .ok (.iconst 4, 1) := by decide +kernel
theorem dX12_turn_133 : decode cX12_turn 133 = .ok (.irem, 1) := by decide +kernel
theorem dX12_turn_134 : decode cX12_turn 134 = .ok (.invokestatic 153, 3) := by decide +kernel
theorem dX12_turn_137 : decode cX12_turn 137 = .ok (.pop, 1) := by decide +kernel
theorem dX12_turn_138 : decode cX12_turn 138 = .ok (.goto 82, 3) := by decide +kernel
theorem dX12_turn_141 : decode cX12_turn 141 = .ok (.iload_n 3, 1) := by decide +kernel
theorem dX12_turn_142 : decode cX12_turn 142 = .ok (.bipush 6, 2) := by decide +kernel
theorem dX12_turn_144 : decode cX12_turn 144 = .ok (.if_icmp .ne 29, 3) := by decide +kernel
theorem dX12_turn_147 : decode cX12_turn 147 = .ok (.aload_n 0, 1) := by decide +kernel
theorem dX12_turn_148 : decode cX12_turn 148 = .ok (.iload_n 2, 1) := by decide +kernel
theorem dX12_turn_149 : decode cX12_turn 149 = .ok (.bipush 8, 2) := by decide +kernel
theorem dX12_turn_151 : decode cX12_turn 151 = .ok (.irem, 1) := by decide +kernel
theorem dX12_turn_152 : decode cX12_turn 152 = .ok (.invokestatic 193, 3) := by decide +kernel
theorem dX12_turn_155 : decode cX12_turn 155 = .ok (.ifCond .eq 65, 3) := by decide +kernel
theorem dX12_turn_158 : decode cX12_turn 158 = .ok (.aload_n 0, 1) := by decide +kernel
theorem dX12_turn_159 : decode cX12_turn 159 = .ok (.iload_n 2, 1) := by decide +kernel
theorem dX12_turn_160 : decode cX12_turn 160 = .ok (.bipush 8, 2) := by decide +kernel
theorem dX12_turn_162 : decode cX12_turn 162 = .ok (.irem, 1) := by decide +kernel
theorem dX12_turn_163 : decode cX12_turn 163 = .ok (.invokestatic 50, 3) := by decide +kernel
theorem dX12_turn_166 : decode cX12_turn 166 = .ok (.iconst 2, 1) := by decide +kernel
theorem dX12_turn_167 : decode cX12_turn 167 = .ok (.iadd, 1) := by decide +kernel
theorem dX12_turn_168 : decode cX12_turn 168 = .ok (.iconst 0, 1) := by decide +kernel
theorem dX12_turn_169 : decode cX12_turn 169 = .ok (.iastore, 1) := by decide +kernel
theorem dX12_turn_170 : decode cX12_turn 170 = .ok (.goto 50, 3) := by decide +kernel
theorem dX12_turn_173 : decode cX12_turn 173 = .ok (.iload_n 3, 1) := by decide +kernel
theorem dX12_turn_174 : decode cX12_turn 174 = .ok (.bipush 9, 2) := by decide +kernel
theorem dX12_turn_176 : decode cX12_turn 176 = .ok (.if_icmp .ge 17, 3) := by decide +kernel
theorem dX12_turn_179 : decode cX12_turn 179 = .ok (.aload_n 0, 1) := by decide +kernel
theorem dX12_turn_180 : decode cX12_turn 180 = .ok (.iconst 1, 1) := by decide +kernel
theorem dX12_turn_181 : decode cX12_turn 181 = .ok (.iload_n 2, 1) := by decide +kernel
theorem dX12_turn_182 : decode cX12_turn 182 = .ok (.bipush 20, 2) := by decide +kernel
theorem dX12_turn_184 : decode cX12_turn 184 = .ok (.irem, 1) := by decide +kernel
theorem dX12_turn_185 : decode cX12_turn 185 = .ok (.iadd, 1) := by decide +kernel
theorem dX12_turn_186 : decode cX12_turn 186 = .ok (.invokestatic 156, 3) := by decide +kernel
theorem dX12_turn_189 : decode cX12_turn 189 = .ok (.pop, 1) := by decide +kernel
theorem dX12_turn_190 : decode cX12_turn 190 = .ok (.goto 30, 3) := by decide +kernel
theorem dX12_turn_193 : decode cX12_turn 193 = .ok (.aload_n 0, 1) := by decide +kernel
theorem dX12_turn_194 : decode cX12_turn 194 = .ok (.iload_n 2, 1) := by decide +kernel
theorem dX12_turn_195 : decode cX12_turn 195 = .ok (.bipush 10, 2) := by decide +kernel
theorem dX12_turn_197 : decode cX12_turn 197 = .ok (.irem, 1) := by decide +kernel
theorem dX12_turn_198 : decode cX12_turn 198 = .ok (.invokestatic 87, 3) := by decide +kernel
theorem dX12_turn_201 : decode cX12_turn 201 = .ok (.ifCond .eq 19, 3) := by decide +kernel
theorem dX12_turn_204 : decode cX12_turn 204 = .ok (.aload_n 0, 1) := by decide +kernel
theorem dX12_turn_205 : decode cX12_turn 205 = .ok (.iload_n 2, 1) := by decide +kernel
theorem dX12_turn_206 : decode cX12_turn 206 = .ok (.bipush 10, 2) := by decide +kernel
theorem dX12_turn_208 : decode cX12_turn 208 = .ok (.irem, 1) := by decide +kernel
theorem dX12_turn_209 : decode cX12_turn 209 = .ok (.iload_n 1, 1) := by decide +kernel
theorem dX12_turn_210 : decode cX12_turn 210 = .ok (.sipush 256, 3) := by decide +kernel
theorem dX12_turn_213 : decode cX12_turn 213 = .ok (.idiv, 1) := by decide +kernel
theorem dX12_turn_214 : decode cX12_turn 214 = .ok (.iconst 4, 1) := by decide +kernel
theorem dX12_turn_215 : decode cX12_turn 215 = .ok (.irem, 1) := by decide +kernel
theorem dX12_turn_216 : decode cX12_turn 216 = .ok (.invokestatic 140, 3) := by decide +kernel
theorem dX12_turn_219 : decode cX12_turn 219 = .ok (.pop, 1) := by decide +kernel
theorem dX12_turn_220 : decode cX12_turn 220 = .ok (.return_, 1) := by decide +kernel
theorem yf_X12_gateAt : (Cond.static yX12_gateAt) ∈ gtbl ∧ (Cond.initialized yX12_gateAt.cls) ∈ gtbl ∧ (Cond.code yX12_gateAt cX12_gateAt 1 (some .int)) ∈ gtbl ∧ (yX12_gateAt.cls ≠ "java/lang/invoke/MethodHandle" ∧ yX12_gateAt.cls ≠ "java/lang/invoke/VarHandle" ∧ (parseMethodDescriptor yX12_gateAt.desc).map (fun d => d.parameters.length) = some 1) := ⟨gt_in 1059 (by decide +kernel) (by decide +kernel), gt_in 27 (by decide +kernel) (by decide +kernel), gt_in 1060 (by decide +kernel) (by decide +kernel), by decide +kernel⟩
theorem cw_X12_40 : uCS RX12 40 yX12_gateAt cX12_gateAt 1 (some .int) 1 := ⟨gt_in 1058 (by decide +kernel) (by decide +kernel), yf_X12_gateAt⟩
theorem yf_X12_in : (Cond.static yX12_in) ∈ gtbl ∧ (Cond.initialized yX12_in.cls) ∈ gtbl ∧ (Cond.code yX12_in cX12_in 6 (some .boolean)) ∈ gtbl ∧ (yX12_in.cls ≠ "java/lang/invoke/MethodHandle" ∧ yX12_in.cls ≠ "java/lang/invoke/VarHandle" ∧ (parseMethodDescriptor yX12_in.desc).map (fun d => d.parameters.length) = some 3) := ⟨gt_in 1109 (by decide +kernel) (by decide +kernel), gt_in 27 (by decide +kernel) (by decide +kernel), gt_in 1110 (by decide +kernel) (by decide +kernel), by decide +kernel⟩
theorem cw_X12_44 : uCS RX12 44 yX12_in cX12_in 6 (some .boolean) 3 := ⟨gt_in 1108 (by decide +kernel) (by decide +kernel), yf_X12_in⟩
theorem yf_X12_accountAt : (Cond.static yX12_accountAt) ∈ gtbl ∧ (Cond.initialized yX12_accountAt.cls) ∈ gtbl ∧ (Cond.code yX12_accountAt cX12_accountAt 1 (some .int)) ∈ gtbl ∧ (yX12_accountAt.cls ≠ "java/lang/invoke/MethodHandle" ∧ yX12_accountAt.cls ≠ "java/lang/invoke/VarHandle" ∧ (parseMethodDescriptor yX12_accountAt.desc).map (fun d => d.parameters.length) = some 1) := ⟨gt_in 1143 (by decide +kernel) (by decide +kernel), gt_in 27 (by decide +kernel) (by decide +kernel), gt_in 1144 (by decide +kernel) (by decide +kernel), by decide +kernel⟩
theorem cw_X12_50 : uCS RX12 50 yX12_accountAt cX12_accountAt 1 (some .int) 1 := ⟨gt_in 1142 (by decide +kernel) (by decide +kernel), yf_X12_accountAt⟩
theorem yf_X12_isBlocked : (Cond.static yX12_isBlocked) ∈ gtbl ∧ (Cond.initialized yX12_isBlocked.cls) ∈ gtbl ∧ (Cond.code yX12_isBlocked cX12_isBlocked 2 (some .boolean)) ∈ gtbl ∧ (yX12_isBlocked.cls ≠ "java/lang/invoke/MethodHandle" ∧ yX12_isBlocked.cls ≠ "java/lang/invoke/VarHandle" ∧ (parseMethodDescriptor yX12_isBlocked.desc).map (fun d => d.parameters.length) = some 2) := ⟨gt_in 1177 (by decide +kernel) (by decide +kernel), gt_in 27 (by decide +kernel) (by decide +kernel), gt_in 1178 (by decide +kernel) (by decide +kernel), by decide +kernel⟩
theorem cw_X12_53 : uCS RX12 53 yX12_isBlocked cX12_isBlocked 2 (some .boolean) 2 := ⟨gt_in 1176 (by decide +kernel) (by decide +kernel), yf_X12_isBlocked⟩
theorem yf_X12_isUp : (Cond.static yX12_isUp) ∈ gtbl ∧ (Cond.initialized yX12_isUp.cls) ∈ gtbl ∧ (Cond.code yX12_isUp cX12_isUp 2 (some .boolean)) ∈ gtbl ∧ (yX12_isUp.cls ≠ "java/lang/invoke/MethodHandle" ∧ yX12_isUp.cls ≠ "java/lang/invoke/VarHandle" ∧ (parseMethodDescriptor yX12_isUp.desc).map (fun d => d.parameters.length) = some 2) := ⟨gt_in 1165 (by decide +kernel) (by decide +kernel), gt_in 27 (by decide +kernel) (by decide +kernel), gt_in 1166 (by decide +kernel) (by decide +kernel), by decide +kernel⟩
theorem cw_X12_57 : uCS RX12 57 yX12_isUp cX12_isUp 2 (some .boolean) 2 := ⟨gt_in 1164 (by decide +kernel) (by decide +kernel), yf_X12_isUp⟩
theorem yf_X12_blocked : (Cond.static yX12_blocked) ∈ gtbl ∧ (Cond.initialized yX12_blocked.cls) ∈ gtbl ∧ (Cond.code yX12_blocked cX12_blocked 3 (some .int)) ∈ gtbl ∧ (yX12_blocked.cls ≠ "java/lang/invoke/MethodHandle" ∧ yX12_blocked.cls ≠ "java/lang/invoke/VarHandle" ∧ (parseMethodDescriptor yX12_blocked.desc).map (fun d => d.parameters.length) = some 1) := ⟨gt_in 1174 (by decide +kernel) (by decide +kernel), gt_in 27 (by decide +kernel) (by decide +kernel), gt_in 1175 (by decide +kernel) (by decide +kernel), by decide +kernel⟩
theorem cw_X12_60 : uCS RX12 60 yX12_blocked cX12_blocked 3 (some .int) 1 := ⟨gt_in 1173 (by decide +kernel) (by decide +kernel), yf_X12_blocked⟩
theorem yf_X12_isSettled : (Cond.static yX12_isSettled) ∈ gtbl ∧ (Cond.initialized yX12_isSettled.cls) ∈ gtbl ∧ (Cond.code yX12_isSettled cX12_isSettled 3 (some .boolean)) ∈ gtbl ∧ (yX12_isSettled.cls ≠ "java/lang/invoke/MethodHandle" ∧ yX12_isSettled.cls ≠ "java/lang/invoke/VarHandle" ∧ (parseMethodDescriptor yX12_isSettled.desc).map (fun d => d.parameters.length) = some 3) := ⟨gt_in 1183 (by decide +kernel) (by decide +kernel), gt_in 27 (by decide +kernel) (by decide +kernel), gt_in 1184 (by decide +kernel) (by decide +kernel), by decide +kernel⟩
theorem cw_X12_64 : uCS RX12 64 yX12_isSettled cX12_isSettled 3 (some .boolean) 3 := ⟨gt_in 1182 (by decide +kernel) (by decide +kernel), yf_X12_isSettled⟩
theorem yf_X12_logAt : (Cond.static yX12_logAt) ∈ gtbl ∧ (Cond.initialized yX12_logAt.cls) ∈ gtbl ∧ (Cond.code yX12_logAt cX12_logAt 2 (some .int)) ∈ gtbl ∧ (yX12_logAt.cls ≠ "java/lang/invoke/MethodHandle" ∧ yX12_logAt.cls ≠ "java/lang/invoke/VarHandle" ∧ (parseMethodDescriptor yX12_logAt.desc).map (fun d => d.parameters.length) = some 2) := ⟨gt_in 1186 (by decide +kernel) (by decide +kernel), gt_in 27 (by decide +kernel) (by decide +kernel), gt_in 1187 (by decide +kernel) (by decide +kernel), by decide +kernel⟩
theorem cw_X12_68 : uCS RX12 68 yX12_logAt cX12_logAt 2 (some .int) 2 := ⟨gt_in 1185 (by decide +kernel) (by decide +kernel), yf_X12_logAt⟩
theorem yf_X12_settle : (Cond.static yX12_settle) ∈ gtbl ∧ (Cond.initialized yX12_settle.cls) ∈ gtbl ∧ (Cond.code yX12_settle cX12_settle 5 (some .boolean)) ∈ gtbl ∧ (yX12_settle.cls ≠ "java/lang/invoke/MethodHandle" ∧ yX12_settle.cls ≠ "java/lang/invoke/VarHandle" ∧ (parseMethodDescriptor yX12_settle.desc).map (fun d => d.parameters.length) = some 4) := ⟨gt_in 1180 (by decide +kernel) (by decide +kernel), gt_in 27 (by decide +kernel) (by decide +kernel), gt_in 1181 (by decide +kernel) (by decide +kernel), by decide +kernel⟩
theorem cw_X12_72 : uCS RX12 72 yX12_settle cX12_settle 5 (some .boolean) 4 := ⟨gt_in 1179 (by decide +kernel) (by decide +kernel), yf_X12_settle⟩
theorem yf_X12_cardAt : (Cond.static yX12_cardAt) ∈ gtbl ∧ (Cond.initialized yX12_cardAt.cls) ∈ gtbl ∧ (Cond.code yX12_cardAt cX12_cardAt 1 (some .int)) ∈ gtbl ∧ (yX12_cardAt.cls ≠ "java/lang/invoke/MethodHandle" ∧ yX12_cardAt.cls ≠ "java/lang/invoke/VarHandle" ∧ (parseMethodDescriptor yX12_cardAt.desc).map (fun d => d.parameters.length) = some 1) := ⟨gt_in 1146 (by decide +kernel) (by decide +kernel), gt_in 27 (by decide +kernel) (by decide +kernel), gt_in 1147 (by decide +kernel) (by decide +kernel), by decide +kernel⟩
theorem cw_X12_76 : uCS RX12 76 yX12_cardAt cX12_cardAt 1 (some .int) 1 := ⟨gt_in 1145 (by decide +kernel) (by decide +kernel), yf_X12_cardAt⟩
theorem yf_X12_list : (Cond.static yX12_list) ∈ gtbl ∧ (Cond.initialized yX12_list.cls) ∈ gtbl ∧ (Cond.code yX12_list cX12_list 2 (some .int)) ∈ gtbl ∧ (yX12_list.cls ≠ "java/lang/invoke/MethodHandle" ∧ yX12_list.cls ≠ "java/lang/invoke/VarHandle" ∧ (parseMethodDescriptor yX12_list.desc).map (fun d => d.parameters.length) = some 2) := ⟨gt_in 1171 (by decide +kernel) (by decide +kernel), gt_in 27 (by decide +kernel) (by decide +kernel), gt_in 1172 (by decide +kernel) (by decide +kernel), by decide +kernel⟩
theorem cw_X12_79 : uCS RX12 79 yX12_list cX12_list 2 (some .int) 2 := ⟨gt_in 1170 (by decide +kernel) (by decide +kernel), yf_X12_list⟩
theorem yf_X12_comesTo : (Cond.static yX12_comesTo) ∈ gtbl ∧ (Cond.initialized yX12_comesTo.cls) ∈ gtbl ∧ (Cond.code yX12_comesTo cX12_comesTo 6 (some .int)) ∈ gtbl ∧ (yX12_comesTo.cls ≠ "java/lang/invoke/MethodHandle" ∧ yX12_comesTo.cls ≠ "java/lang/invoke/VarHandle" ∧ (parseMethodDescriptor yX12_comesTo.desc).map (fun d => d.parameters.length) = some 3) := ⟨gt_in 1168 (by decide +kernel) (by decide +kernel), gt_in 27 (by decide +kernel) (by decide +kernel), gt_in 1169 (by decide +kernel) (by decide +kernel), by decide +kernel⟩
theorem cw_X12_83 : uCS RX12 83 yX12_comesTo cX12_comesTo 6 (some .int) 3 := ⟨gt_in 1167 (by decide +kernel) (by decide +kernel), yf_X12_comesTo⟩
theorem yf_X12_isCard : (Cond.static yX12_isCard) ∈ gtbl ∧ (Cond.initialized yX12_isCard.cls) ∈ gtbl ∧ (Cond.code yX12_isCard cX12_isCard 2 (some .boolean)) ∈ gtbl ∧ (yX12_isCard.cls ≠ "java/lang/invoke/MethodHandle" ∧ yX12_isCard.cls ≠ "java/lang/invoke/VarHandle" ∧ (parseMethodDescriptor yX12_isCard.desc).map (fun d => d.parameters.length) = some 2) := ⟨gt_in 1156 (by decide +kernel) (by decide +kernel), gt_in 27 (by decide +kernel) (by decide +kernel), gt_in 1157 (by decide +kernel) (by decide +kernel), by decide +kernel⟩
theorem cw_X12_87 : uCS RX12 87 yX12_isCard cX12_isCard 2 (some .boolean) 2 := ⟨gt_in 1155 (by decide +kernel) (by decide +kernel), yf_X12_isCard⟩
theorem yf_X12_upOn : (Cond.static yX12_upOn) ∈ gtbl ∧ (Cond.initialized yX12_upOn.cls) ∈ gtbl ∧ (Cond.code yX12_upOn cX12_upOn 4 (some .int)) ∈ gtbl ∧ (yX12_upOn.cls ≠ "java/lang/invoke/MethodHandle" ∧ yX12_upOn.cls ≠ "java/lang/invoke/VarHandle" ∧ (parseMethodDescriptor yX12_upOn.desc).map (fun d => d.parameters.length) = some 2) := ⟨gt_in 1198 (by decide +kernel) (by decide +kernel), gt_in 27 (by decide +kernel) (by decide +kernel), gt_in 1199 (by decide +kernel) (by decide +kernel), by decide +kernel⟩
theorem cw_X12_113 : uCS RX12 113 yX12_upOn cX12_upOn 4 (some .int) 2 := ⟨gt_in 1197 (by decide +kernel) (by decide +kernel), yf_X12_upOn⟩
theorem yf_X12_downOn : (Cond.static yX12_downOn) ∈ gtbl ∧ (Cond.initialized yX12_downOn.cls) ∈ gtbl ∧ (Cond.code yX12_downOn cX12_downOn 2 (some .int)) ∈ gtbl ∧ (yX12_downOn.cls ≠ "java/lang/invoke/MethodHandle" ∧ yX12_downOn.cls ≠ "java/lang/invoke/VarHandle" ∧ (parseMethodDescriptor yX12_downOn.desc).map (fun d => d.parameters.length) = some 2) := ⟨gt_in 1201 (by decide +kernel) (by decide +kernel), gt_in 27 (by decide +kernel) (by decide +kernel), gt_in 1202 (by decide +kernel) (by decide +kernel), by decide +kernel⟩
theorem cw_X12_116 : uCS RX12 116 yX12_downOn cX12_downOn 2 (some .int) 2 := ⟨gt_in 1200 (by decide +kernel) (by decide +kernel), yf_X12_downOn⟩
theorem yf_X12_canIssue : (Cond.static yX12_canIssue) ∈ gtbl ∧ (Cond.initialized yX12_canIssue.cls) ∈ gtbl ∧ (Cond.code yX12_canIssue cX12_canIssue 1 (some .boolean)) ∈ gtbl ∧ (yX12_canIssue.cls ≠ "java/lang/invoke/MethodHandle" ∧ yX12_canIssue.cls ≠ "java/lang/invoke/VarHandle" ∧ (parseMethodDescriptor yX12_canIssue.desc).map (fun d => d.parameters.length) = some 1) := ⟨gt_in 1137 (by decide +kernel) (by decide +kernel), gt_in 27 (by decide +kernel) (by decide +kernel), gt_in 1138 (by decide +kernel) (by decide +kernel), by decide +kernel⟩
theorem cw_X12_123 : uCS RX12 123 yX12_canIssue cX12_canIssue 1 (some .boolean) 1 := ⟨gt_in 1136 (by decide +kernel) (by decide +kernel), yf_X12_canIssue⟩
theorem yf_X12_issueOn : (Cond.static yX12_issueOn) ∈ gtbl ∧ (Cond.initialized yX12_issueOn.cls) ∈ gtbl ∧ (Cond.code yX12_issueOn cX12_issueOn 4 (some .int)) ∈ gtbl ∧ (yX12_issueOn.cls ≠ "java/lang/invoke/MethodHandle" ∧ yX12_issueOn.cls ≠ "java/lang/invoke/VarHandle" ∧ (parseMethodDescriptor yX12_issueOn.desc).map (fun d => d.parameters.length) = some 2) := ⟨gt_in 1140 (by decide +kernel) (by decide +kernel), gt_in 27 (by decide +kernel) (by decide +kernel), gt_in 1141 (by decide +kernel) (by decide +kernel), by decide +kernel⟩
theorem cw_X12_127 : uCS RX12 127 yX12_issueOn cX12_issueOn 4 (some .int) 2 := ⟨gt_in 1139 (by decide +kernel) (by decide +kernel), yf_X12_issueOn⟩
theorem yf_X12_canCopy : (Cond.static yX12_canCopy) ∈ gtbl ∧ (Cond.initialized yX12_canCopy.cls) ∈ gtbl ∧ (Cond.code yX12_canCopy cX12_canCopy 2 (some .boolean)) ∈ gtbl ∧ (yX12_canCopy.cls ≠ "java/lang/invoke/MethodHandle" ∧ yX12_canCopy.cls ≠ "java/lang/invoke/VarHandle" ∧ (parseMethodDescriptor yX12_canCopy.desc).map (fun d => d.parameters.length) = some 2) := ⟨gt_in 1153 (by decide +kernel) (by decide +kernel), gt_in 27 (by decide +kernel) (by decide +kernel), gt_in 1154 (by decide +kernel) (by decide +kernel), by decide +kernel⟩
theorem cw_X12_134 : uCS RX12 134 yX12_canCopy cX12_canCopy 2 (some .boolean) 2 := ⟨gt_in 1152 (by decide +kernel) (by decide +kernel), yf_X12_canCopy⟩
theorem yf_X12_copyOn : (Cond.static yX12_copyOn) ∈ gtbl ∧ (Cond.initialized yX12_copyOn.cls) ∈ gtbl ∧ (Cond.code yX12_copyOn cX12_copyOn 4 (some .int)) ∈ gtbl ∧ (yX12_copyOn.cls ≠ "java/lang/invoke/MethodHandle" ∧ yX12_copyOn.cls ≠ "java/lang/invoke/VarHandle" ∧ (parseMethodDescriptor yX12_copyOn.desc).map (fun d => d.parameters.length) = some 2) := ⟨gt_in 1159 (by decide +kernel) (by decide +kernel), gt_in 27 (by decide +kernel) (by decide +kernel), gt_in 1160 (by decide +kernel) (by decide +kernel), by decide +kernel⟩
theorem cw_X12_137 : uCS RX12 137 yX12_copyOn cX12_copyOn 4 (some .int) 2 := ⟨gt_in 1158 (by decide +kernel) (by decide +kernel), yf_X12_copyOn⟩
theorem yf_X12_rideOn : (Cond.static yX12_rideOn) ∈ gtbl ∧ (Cond.initialized yX12_rideOn.cls) ∈ gtbl ∧ (Cond.code yX12_rideOn cX12_rideOn 9 (some .int)) ∈ gtbl ∧ (yX12_rideOn.cls ≠ "java/lang/invoke/MethodHandle" ∧ yX12_rideOn.cls ≠ "java/lang/invoke/VarHandle" ∧ (parseMethodDescriptor yX12_rideOn.desc).map (fun d => d.parameters.length) = some 3) := ⟨gt_in 1162 (by decide +kernel) (by decide +kernel), gt_in 27 (by decide +kernel) (by decide +kernel), gt_in 1163 (by decide +kernel) (by decide +kernel), by decide +kernel⟩
theorem cw_X12_140 : uCS RX12 140 yX12_rideOn cX12_rideOn 9 (some .int) 3 := ⟨gt_in 1161 (by decide +kernel) (by decide +kernel), yf_X12_rideOn⟩
theorem yf_X12_isAccount : (Cond.static yX12_isAccount) ∈ gtbl ∧ (Cond.initialized yX12_isAccount.cls) ∈ gtbl ∧ (Cond.code yX12_isAccount cX12_isAccount 2 (some .boolean)) ∈ gtbl ∧ (yX12_isAccount.cls ≠ "java/lang/invoke/MethodHandle" ∧ yX12_isAccount.cls ≠ "java/lang/invoke/VarHandle" ∧ (parseMethodDescriptor yX12_isAccount.desc).map (fun d => d.parameters.length) = some 2) := ⟨gt_in 1189 (by decide +kernel) (by decide +kernel), gt_in 27 (by decide +kernel) (by decide +kernel), gt_in 1190 (by decide +kernel) (by decide +kernel), by decide +kernel⟩
theorem cw_X12_143 : uCS RX12 143 yX12_isAccount cX12_isAccount 2 (some .boolean) 2 := ⟨gt_in 1188 (by decide +kernel) (by decide +kernel), yf_X12_isAccount⟩
theorem yf_X12_payOn : (Cond.static yX12_payOn) ∈ gtbl ∧ (Cond.initialized yX12_payOn.cls) ∈ gtbl ∧ (Cond.code yX12_payOn cX12_payOn 3 (some .int)) ∈ gtbl ∧ (yX12_payOn.cls ≠ "java/lang/invoke/MethodHandle" ∧ yX12_payOn.cls ≠ "java/lang/invoke/VarHandle" ∧ (parseMethodDescriptor yX12_payOn.desc).map (fun d => d.parameters.length) = some 3) := ⟨gt_in 1192 (by decide +kernel) (by decide +kernel), gt_in 27 (by decide +kernel) (by decide +kernel), gt_in 1193 (by decide +kernel) (by decide +kernel), by decide +kernel⟩
theorem cw_X12_146 : uCS RX12 146 yX12_payOn cX12_payOn 3 (some .int) 3 := ⟨gt_in 1191 (by decide +kernel) (by decide +kernel), yf_X12_payOn⟩
theorem yf_X12_doesLine : (Cond.static yX12_doesLine) ∈ gtbl ∧ (Cond.initialized yX12_doesLine.cls) ∈ gtbl ∧ (Cond.code yX12_doesLine cX12_doesLine 3 (some .boolean)) ∈ gtbl ∧ (yX12_doesLine.cls ≠ "java/lang/invoke/MethodHandle" ∧ yX12_doesLine.cls ≠ "java/lang/invoke/VarHandle" ∧ (parseMethodDescriptor yX12_doesLine.desc).map (fun d => d.parameters.length) = some 3) := ⟨gt_in 1195 (by decide +kernel) (by decide +kernel), gt_in 27 (by decide +kernel) (by decide +kernel), gt_in 1196 (by decide +kernel) (by decide +kernel), by decide +kernel⟩
theorem cw_X12_149 : uCS RX12 149 yX12_doesLine cX12_doesLine 3 (some .boolean) 3 := ⟨gt_in 1194 (by decide +kernel) (by decide +kernel), yf_X12_doesLine⟩
theorem yf_X12_openOn : (Cond.static yX12_openOn) ∈ gtbl ∧ (Cond.initialized yX12_openOn.cls) ∈ gtbl ∧ (Cond.code yX12_openOn cX12_openOn 2 (some .int)) ∈ gtbl ∧ (yX12_openOn.cls ≠ "java/lang/invoke/MethodHandle" ∧ yX12_openOn.cls ≠ "java/lang/invoke/VarHandle" ∧ (parseMethodDescriptor yX12_openOn.desc).map (fun d => d.parameters.length) = some 2) := ⟨gt_in 1204 (by decide +kernel) (by decide +kernel), gt_in 27 (by decide +kernel) (by decide +kernel), gt_in 1205 (by decide +kernel) (by decide +kernel), by decide +kernel⟩
theorem cw_X12_153 : uCS RX12 153 yX12_openOn cX12_openOn 2 (some .int) 2 := ⟨gt_in 1203 (by decide +kernel) (by decide +kernel), yf_X12_openOn⟩
theorem yf_X12_runOn : (Cond.static yX12_runOn) ∈ gtbl ∧ (Cond.initialized yX12_runOn.cls) ∈ gtbl ∧ (Cond.code yX12_runOn cX12_runOn 2 (some .int)) ∈ gtbl ∧ (yX12_runOn.cls ≠ "java/lang/invoke/MethodHandle" ∧ yX12_runOn.cls ≠ "java/lang/invoke/VarHandle" ∧ (parseMethodDescriptor yX12_runOn.desc).map (fun d => d.parameters.length) = some 2) := ⟨gt_in 1207 (by decide +kernel) (by decide +kernel), gt_in 27 (by decide +kernel) (by decide +kernel), gt_in 1208 (by decide +kernel) (by decide +kernel), by decide +kernel⟩
theorem cw_X12_156 : uCS RX12 156 yX12_runOn cX12_runOn 2 (some .int) 2 := ⟨gt_in 1206 (by decide +kernel) (by decide +kernel), yf_X12_runOn⟩
theorem yf_X12_inLogs : (Cond.static yX12_inLogs) ∈ gtbl ∧ (Cond.initialized yX12_inLogs.cls) ∈ gtbl ∧ (Cond.code yX12_inLogs cX12_inLogs 7 (some .int)) ∈ gtbl ∧ (yX12_inLogs.cls ≠ "java/lang/invoke/MethodHandle" ∧ yX12_inLogs.cls ≠ "java/lang/invoke/VarHandle" ∧ (parseMethodDescriptor yX12_inLogs.desc).map (fun d => d.parameters.length) = some 3) := ⟨gt_in 1222 (by decide +kernel) (by decide +kernel), gt_in 27 (by decide +kernel) (by decide +kernel), gt_in 1223 (by decide +kernel) (by decide +kernel), by decide +kernel⟩
theorem cw_X12_174 : uCS RX12 174 yX12_inLogs cX12_inLogs 7 (some .int) 3 := ⟨gt_in 1221 (by decide +kernel) (by decide +kernel), yf_X12_inLogs⟩
theorem yf_X12_isGate : (Cond.static yX12_isGate) ∈ gtbl ∧ (Cond.initialized yX12_isGate.cls) ∈ gtbl ∧ (Cond.code yX12_isGate cX12_isGate 1 (some .boolean)) ∈ gtbl ∧ (yX12_isGate.cls ≠ "java/lang/invoke/MethodHandle" ∧ yX12_isGate.cls ≠ "java/lang/invoke/VarHandle" ∧ (parseMethodDescriptor yX12_isGate.desc).map (fun d => d.parameters.length) = some 1) := ⟨gt_in 1242 (by decide +kernel) (by decide +kernel), gt_in 27 (by decide +kernel) (by decide +kernel), gt_in 1243 (by decide +kernel) (by decide +kernel), by decide +kernel⟩
theorem cw_X12_183 : uCS RX12 183 yX12_isGate cX12_isGate 1 (some .boolean) 1 := ⟨gt_in 1241 (by decide +kernel) (by decide +kernel), yf_X12_isGate⟩
theorem yf_X12_canPardon : (Cond.static yX12_canPardon) ∈ gtbl ∧ (Cond.initialized yX12_canPardon.cls) ∈ gtbl ∧ (Cond.code yX12_canPardon cX12_canPardon 2 (some .boolean)) ∈ gtbl ∧ (yX12_canPardon.cls ≠ "java/lang/invoke/MethodHandle" ∧ yX12_canPardon.cls ≠ "java/lang/invoke/VarHandle" ∧ (parseMethodDescriptor yX12_canPardon.desc).map (fun d => d.parameters.length) = some 2) := ⟨gt_in 1280 (by decide +kernel) (by decide +kernel), gt_in 27 (by decide +kernel) (by decide +kernel), gt_in 1281 (by decide +kernel) (by decide +kernel), by decide +kernel⟩
theorem cw_X12_193 : uCS RX12 193 yX12_canPardon cX12_canPardon 2 (some .boolean) 2 := ⟨gt_in 1279 (by decide +kernel) (by decide +kernel), yf_X12_canPardon⟩
theorem yf_X12_isThrough : (Cond.static yX12_isThrough) ∈ gtbl ∧ (Cond.initialized yX12_isThrough.cls) ∈ gtbl ∧ (Cond.code yX12_isThrough cX12_isThrough 1 (some .boolean)) ∈ gtbl ∧ (yX12_isThrough.cls ≠ "java/lang/invoke/MethodHandle" ∧ yX12_isThrough.cls ≠ "java/lang/invoke/VarHandle" ∧ (parseMethodDescriptor yX12_isThrough.desc).map (fun d => d.parameters.length) = some 1) := ⟨gt_in 1325 (by decide +kernel) (by decide +kernel), gt_in 27 (by decide +kernel) (by decide +kernel), gt_in 1326 (by decide +kernel) (by decide +kernel), by decide +kernel⟩
theorem cw_X12_202 : uCS RX12 202 yX12_isThrough cX12_isThrough 1 (some .boolean) 1 := ⟨gt_in 1324 (by decide +kernel) (by decide +kernel), yf_X12_isThrough⟩
def fX12_in (a1 : Int64) (a2 : Int64) (a3 : Int64) : Int32 :=
  if (lg_cmp a1 a2) < 0 then
    0
  else
    if 0 < (lg_cmp a1 a3) then
      0
    else
      1
set_option maxHeartbeats 4000000 in
set_option maxRecDepth 20000 in
theorem kX12_in {l : Launch} {G : UG} {V : uV}  {a1 : Int64} {a2 : Int64} {a3 : Int64} {r : Int32} (h : fX12_in a1 a2 a3 = r) : uMi l G yX12_in cX12_in 6 .boolean (uR 0 0) [.long a1, .long a2, .long a3] V r V := by
  refine uMi_of rfl (Nat.le_of_ble_eq_true rfl) (fun p e s m args below meth c ls X hret hl M => ?_)
  have hl : lv_has ls 6 [(0, .long a1), (2, .long a2), (4, .long a3)] := hl
  have hx := X.hx
  have hb := X.hb
  unfold fX12_in at h
  refine lv_lload_n hx hb dX12_in_0 rfl (lv_at hl 0 rfl) ?_
  refine lv_lload_n hx hb dX12_in_1 rfl (lv_at hl 1 rfl) ?_
  refine W.lcmp hx hb dX12_in_2 ?_
  refine lv_if_lt (tgt := 17) hx hb dX12_in_3 (by decide) (fun c1 => ?_) (fun c1 => ?_)
  · have h := it_t h c1
    refine lv_iconst (v := 0) hx hb dX12_in_17 (by decide) ?_
    exact u_iret X hret M h (rfl) rfl dX12_in_18
  · have h := it_f h c1
    refine lv_lload_n hx hb dX12_in_6 rfl (lv_at hl 0 rfl) ?_
    refine lv_lload hx hb dX12_in_7 (lv_at hl 2 rfl) ?_
    refine W.lcmp hx hb dX12_in_9 ?_
    refine lv_if_gt (tgt := 17) hx hb dX12_in_10 (by decide) (fun c2 => ?_) (fun c2 => ?_)
    · have h := it_t h c2
      refine lv_iconst (v := 0) hx hb dX12_in_17 (by decide) ?_
      exact u_iret X hret M h (rfl) rfl dX12_in_18
    · have h := it_f h c2
      refine lv_iconst (v := 1) hx hb dX12_in_13 (by decide) ?_
      refine lv_goto (tgt := 18) hx hb dX12_in_14 (by decide) ?_
      exact u_iret X hret M h (rfl) rfl dX12_in_18
def fX12_cardAt (a1 : Int32) : Int32 :=
  (12 + (4 * a1))
set_option maxHeartbeats 4000000 in
set_option maxRecDepth 20000 in
theorem kX12_cardAt {l : Launch} {G : UG} {V : uV}  {a1 : Int32} {r : Int32} (h : fX12_cardAt a1 = r) : uMi l G yX12_cardAt cX12_cardAt 1 .int (uR 0 0) [.int a1] V r V := by
  refine uMi_of rfl (Nat.le_of_ble_eq_true rfl) (fun p e s m args below meth c ls X hret hl M => ?_)
  have hl : lv_has ls 1 [(0, .int a1)] := hl
  have hx := X.hx
  have hb := X.hb
  unfold fX12_cardAt at h
  refine lv_bipush (v := 12) hx hb dX12_cardAt_0 (by decide) ?_
  refine lv_iconst (v := 4) hx hb dX12_cardAt_2 (by decide) ?_
  refine lv_iload_n hx hb dX12_cardAt_3 rfl (lv_at hl 0 rfl) ?_
  refine lv_imul hx hb dX12_cardAt_4 ?_
  refine lv_iadd hx hb dX12_cardAt_5 ?_
  exact u_iret X hret M h (rfl) rfl dX12_cardAt_6
def fX12_accountAt (a1 : Int32) : Int32 :=
  (52 + (4 * a1))
set_option maxHeartbeats 4000000 in
set_option maxRecDepth 20000 in
theorem kX12_accountAt {l : Launch} {G : UG} {V : uV}  {a1 : Int32} {r : Int32} (h : fX12_accountAt a1 = r) : uMi l G yX12_accountAt cX12_accountAt 1 .int (uR 0 0) [.int a1] V r V := by
  refine uMi_of rfl (Nat.le_of_ble_eq_true rfl) (fun p e s m args below meth c ls X hret hl M => ?_)
  have hl : lv_has ls 1 [(0, .int a1)] := hl
  have hx := X.hx
  have hb := X.hb
  unfold fX12_accountAt at h
  refine lv_bipush (v := 52) hx hb dX12_accountAt_0 (by decide) ?_
  refine lv_iconst (v := 4) hx hb dX12_accountAt_2 (by decide) ?_
  refine lv_iload_n hx hb dX12_accountAt_3 rfl (lv_at hl 0 rfl) ?_
  refine lv_imul hx hb dX12_accountAt_4 ?_
  refine lv_iadd hx hb dX12_accountAt_5 ?_
  exact u_iret X hret M h (rfl) rfl dX12_accountAt_6
def fX12_gateAt (a1 : Int32) : Int32 :=
  (84 + (5 * a1))
set_option maxHeartbeats 4000000 in
set_option maxRecDepth 20000 in
theorem kX12_gateAt {l : Launch} {G : UG} {V : uV}  {a1 : Int32} {r : Int32} (h : fX12_gateAt a1 = r) : uMi l G yX12_gateAt cX12_gateAt 1 .int (uR 0 0) [.int a1] V r V := by
  refine uMi_of rfl (Nat.le_of_ble_eq_true rfl) (fun p e s m args below meth c ls X hret hl M => ?_)
  have hl : lv_has ls 1 [(0, .int a1)] := hl
  have hx := X.hx
  have hb := X.hb
  unfold fX12_gateAt at h
  refine lv_bipush (v := 84) hx hb dX12_gateAt_0 (by decide) ?_
  refine lv_iconst (v := 5) hx hb dX12_gateAt_2 (by decide) ?_
  refine lv_iload_n hx hb dX12_gateAt_3 rfl (lv_at hl 0 rfl) ?_
  refine lv_imul hx hb dX12_gateAt_4 ?_
  refine lv_iadd hx hb dX12_gateAt_5 ?_
  exact u_iret X hret M h (rfl) rfl dX12_gateAt_6
def fX12_logAt (a1 : Int32) (a2 : Int32) : Int32 :=
  ((104 + (36 * a1)) + (3 * a2))
set_option maxHeartbeats 4000000 in
set_option maxRecDepth 20000 in
theorem kX12_logAt {l : Launch} {G : UG} {V : uV}  {a1 : Int32} {a2 : Int32} {r : Int32} (h : fX12_logAt a1 a2 = r) : uMi l G yX12_logAt cX12_logAt 2 .int (uR 0 0) [.int a1, .int a2] V r V := by
  refine uMi_of rfl (Nat.le_of_ble_eq_true rfl) (fun p e s m args below meth c ls X hret hl M => ?_)
  have hl : lv_has ls 2 [(0, .int a1), (1, .int a2)] := hl
  have hx := X.hx
  have hb := X.hb
  unfold fX12_logAt at h
  refine lv_bipush (v := 104) hx hb dX12_logAt_0 (by decide) ?_
  refine lv_bipush (v := 36) hx hb dX12_logAt_2 (by decide) ?_
  refine lv_iload_n hx hb dX12_logAt_4 rfl (lv_at hl 0 rfl) ?_
  refine lv_imul hx hb dX12_logAt_5 ?_
  refine lv_iadd hx hb dX12_logAt_6 ?_
  refine lv_iconst (v := 3) hx hb dX12_logAt_7 (by decide) ?_
  refine lv_iload_n hx hb dX12_logAt_8 rfl (lv_at hl 1 rfl) ?_
  refine lv_imul hx hb dX12_logAt_9 ?_
  refine lv_iadd hx hb dX12_logAt_10 ?_
  exact u_iret X hret M h (rfl) rfl dX12_logAt_11
def fX12_isGate (a1 : Int32) : Int32 :=
  lt_ (fX12_in  ((a1 : Int32).toInt64) 0 3) fun x2 =>
  x2
set_option maxHeartbeats 4000000 in
set_option maxRecDepth 20000 in
theorem kX12_isGate {l : Launch} {G : UG} {V : uV}  {a1 : Int32} {r : Int32} (h : fX12_isGate a1 = r) : uMi l G yX12_isGate cX12_isGate 1 .boolean (uR 1 25) [.int a1] V r V := by
  refine uMi_of rfl (Nat.le_of_ble_eq_true rfl) (fun p e s m args below meth c ls X hret hl M => ?_)
  have hl : lv_has ls 1 [(0, .int a1)] := hl
  have hx := X.hx
  have hb := X.hb
  unfold fX12_isGate at h
  refine lv_iload_n hx hb dX12_isGate_0 rfl (lv_at hl 0 rfl) ?_
  refine lv_i2l hx hb dX12_isGate_1 rfl ?_
  refine lv_lconst (v := 0) hx hb dX12_isGate_2 rfl ?_
  refine lv_ldc2 (v := 3) hx hb X.1.2.2.2.1 (X.hts (gt_in 1228 (by decide +kernel) (by decide +kernel))) dX12_isGate_3 ?_
  obtain ⟨x2, e1, h⟩ := lt_e h
  refine u_cSi X M hl.1 (kX12_in  e1.symm) cw_X12_44 ⟨by decide, by decide⟩ rfl rfl (Nat.le_of_ble_eq_true rfl) ⟨Nat.zero_le _, Nat.zero_le _⟩ dX12_isGate_6 (fun H locs M n3 => ?_)
  exact u_iret X hret M h (rfl) n3 dX12_isGate_9
def fX12_isThrough (a1 : Int32) : Int32 :=
  if a1 < 3 then
    1
  else
    if a1 = 7 then
      1
    else
      0
set_option maxHeartbeats 4000000 in
set_option maxRecDepth 20000 in
theorem kX12_isThrough {l : Launch} {G : UG} {V : uV}  {a1 : Int32} {r : Int32} (h : fX12_isThrough a1 = r) : uMi l G yX12_isThrough cX12_isThrough 1 .boolean (uR 0 0) [.int a1] V r V := by
  refine uMi_of rfl (Nat.le_of_ble_eq_true rfl) (fun p e s m args below meth c ls X hret hl M => ?_)
  have hl : lv_has ls 1 [(0, .int a1)] := hl
  have hx := X.hx
  have hb := X.hb
  unfold fX12_isThrough at h
  refine lv_iload_n hx hb dX12_isThrough_0 rfl (lv_at hl 0 rfl) ?_
  refine lv_iconst (v := 3) hx hb dX12_isThrough_1 (by decide) ?_
  refine lv_icmp_lt (tgt := 11) hx hb dX12_isThrough_2 (by decide) (fun c1 => ?_) (fun c1 => ?_)
  · have h := it_t h c1
    refine lv_iconst (v := 1) hx hb dX12_isThrough_11 (by decide) ?_
    refine lv_goto (tgt := 16) hx hb dX12_isThrough_12 (by decide) ?_
    exact u_iret X hret M h (rfl) rfl dX12_isThrough_16
  · have h := it_f h c1
    refine lv_iload_n hx hb dX12_isThrough_5 rfl (lv_at hl 0 rfl) ?_
    refine lv_bipush (v := 7) hx hb dX12_isThrough_6 (by decide) ?_
    refine lv_icmp_ne (tgt := 15) hx hb dX12_isThrough_8 (by decide) (fun c2 => ?_) (fun c2 => ?_)
    · have h := it_f h c2
      refine lv_iconst (v := 0) hx hb dX12_isThrough_15 (by decide) ?_
      exact u_iret X hret M h (rfl) rfl dX12_isThrough_16
    · have h := it_t h c2
      refine lv_iconst (v := 1) hx hb dX12_isThrough_11 (by decide) ?_
      refine lv_goto (tgt := 16) hx hb dX12_isThrough_12 (by decide) ?_
      exact u_iret X hret M h (rfl) rfl dX12_isThrough_16
def fX12_isSetting (a1 : Int32) (a2 : Int32) : Int32 :=
  lt_ (fX12_in  ((a1 : Int32).toInt64) 0 3) fun x2 =>
  if x2 = 0 then
    0
  else
    if a1 = 0 then
      lt_ (fX12_in  ((a2 : Int32).toInt64) 0 50) fun x21 =>
      if x21 = 0 then
        0
      else
        1
    else
      if a1 = 1 then
        lt_ (fX12_in  ((a2 : Int32).toInt64) 0 30) fun x17 =>
        if x17 = 0 then
          0
        else
          1
      else
        if a1 = 2 then
          lt_ (fX12_in  ((a2 : Int32).toInt64) 0 1) fun x13 =>
          if x13 = 0 then
            0
          else
            1
        else
          lt_ (fX12_in  ((a2 : Int32).toInt64) 0 99) fun x9 =>
          if x9 = 0 then
            0
          else
            1
set_option maxHeartbeats 4000000 in
set_option maxRecDepth 20000 in
theorem kX12_isSetting {l : Launch} {G : UG} {V : uV}  {a1 : Int32} {a2 : Int32} {r : Int32} (h : fX12_isSetting a1 a2 = r) : uMi l G yX12_isSetting cX12_isSetting 2 .boolean (uR 1 25) [.int a1, .int a2] V r V := by
  refine uMi_of rfl (Nat.le_of_ble_eq_true rfl) (fun p e s m args below meth c ls X hret hl M => ?_)
  have hl : lv_has ls 2 [(0, .int a1), (1, .int a2)] := hl
  have hx := X.hx
  have hb := X.hb
  unfold fX12_isSetting at h
  refine lv_iload_n hx hb dX12_isSetting_0 rfl (lv_at hl 0 rfl) ?_
  refine lv_i2l hx hb dX12_isSetting_1 rfl ?_
  refine lv_lconst (v := 0) hx hb dX12_isSetting_2 rfl ?_
  refine lv_ldc2 (v := 3) hx hb X.1.2.2.2.1 (X.hts (gt_in 1228 (by decide +kernel) (by decide +kernel))) dX12_isSetting_3 ?_
  obtain ⟨x2, e1, h⟩ := lt_e h
  refine u_cSi X M hl.1 (kX12_in  e1.symm) cw_X12_44 ⟨by decide, by decide⟩ rfl rfl (Nat.le_of_ble_eq_true rfl) ⟨Nat.zero_le _, Nat.zero_le _⟩ dX12_isSetting_6 (fun H locs M n3 => ?_)
  refine lv_if_eq (tgt := 58) hx hb dX12_isSetting_9 (by decide) (fun c4 => ?_) (fun c4 => ?_)
  · have h := it_t h c4
    refine lv_iconst (v := 0) hx hb dX12_isSetting_58 (by decide) ?_
    exact u_iret X hret M h (rfl) rfl dX12_isSetting_59
  · have h := it_f h c4
    refine lv_iload_n hx hb dX12_isSetting_12 rfl (lv_at hl 1 rfl) ?_
    refine lv_i2l hx hb dX12_isSetting_13 rfl ?_
    refine lv_lconst (v := 0) hx hb dX12_isSetting_14 rfl ?_
    refine lv_iload_n hx hb dX12_isSetting_15 rfl (lv_at hl 0 rfl) ?_
    refine lv_if_ne (tgt := 25) hx hb dX12_isSetting_16 (by decide) (fun c5 => ?_) (fun c5 => ?_)
    · have h := it_f h c5
      refine lv_iload_n hx hb dX12_isSetting_25 rfl (lv_at hl 0 rfl) ?_
      refine lv_iconst (v := 1) hx hb dX12_isSetting_26 (by decide) ?_
      refine lv_icmp_ne (tgt := 36) hx hb dX12_isSetting_27 (by decide) (fun c6 => ?_) (fun c6 => ?_)
      · have h := it_f h c6
        refine lv_iload_n hx hb dX12_isSetting_36 rfl (lv_at hl 0 rfl) ?_
        refine lv_iconst (v := 2) hx hb dX12_isSetting_37 (by decide) ?_
        refine lv_icmp_ne (tgt := 45) hx hb dX12_isSetting_38 (by decide) (fun c7 => ?_) (fun c7 => ?_)
        · have h := it_f h c7
          refine lv_ldc2 (v := 99) hx hb X.1.2.2.2.1 (X.hts (gt_in 1258 (by decide +kernel) (by decide +kernel))) dX12_isSetting_45 ?_
          obtain ⟨x9, e8, h⟩ := lt_e h
          refine u_cSi X M hl.1 (kX12_in  e8.symm) cw_X12_44 ⟨by decide, by decide⟩ rfl rfl (Nat.le_of_ble_eq_true rfl) ⟨Nat.zero_le _, Nat.zero_le _⟩ dX12_isSetting_48 (fun H locs M n10 => ?_)
          refine lv_if_eq (tgt := 58) hx hb dX12_isSetting_51 (by decide) (fun c11 => ?_) (fun c11 => ?_)
          · have h := it_t h c11
            refine lv_iconst (v := 0) hx hb dX12_isSetting_58 (by decide) ?_
            exact u_iret X hret M h (rfl) rfl dX12_isSetting_59
          · have h := it_f h c11
            refine lv_iconst (v := 1) hx hb dX12_isSetting_54 (by decide) ?_
            refine lv_goto (tgt := 59) hx hb dX12_isSetting_55 (by decide) ?_
            exact u_iret X hret M h (rfl) rfl dX12_isSetting_59
        · have h := it_t h c7
          refine lv_lconst (v := 1) hx hb dX12_isSetting_41 rfl ?_
          refine lv_goto (tgt := 48) hx hb dX12_isSetting_42 (by decide) ?_
          obtain ⟨x13, e12, h⟩ := lt_e h
          refine u_cSi X M hl.1 (kX12_in  e12.symm) cw_X12_44 ⟨by decide, by decide⟩ rfl rfl (Nat.le_of_ble_eq_true rfl) ⟨Nat.zero_le _, Nat.zero_le _⟩ dX12_isSetting_48 (fun H locs M n14 => ?_)
          refine lv_if_eq (tgt := 58) hx hb dX12_isSetting_51 (by decide) (fun c15 => ?_) (fun c15 => ?_)
          · have h := it_t h c15
            refine lv_iconst (v := 0) hx hb dX12_isSetting_58 (by decide) ?_
            exact u_iret X hret M h (rfl) rfl dX12_isSetting_59
          · have h := it_f h c15
            refine lv_iconst (v := 1) hx hb dX12_isSetting_54 (by decide) ?_
            refine lv_goto (tgt := 59) hx hb dX12_isSetting_55 (by decide) ?_
            exact u_iret X hret M h (rfl) rfl dX12_isSetting_59
      · have h := it_t h c6
        refine lv_ldc2 (v := 30) hx hb X.1.2.2.2.1 (X.hts (gt_in 1311 (by decide +kernel) (by decide +kernel))) dX12_isSetting_30 ?_
        refine lv_goto (tgt := 48) hx hb dX12_isSetting_33 (by decide) ?_
        obtain ⟨x17, e16, h⟩ := lt_e h
        refine u_cSi X M hl.1 (kX12_in  e16.symm) cw_X12_44 ⟨by decide, by decide⟩ rfl rfl (Nat.le_of_ble_eq_true rfl) ⟨Nat.zero_le _, Nat.zero_le _⟩ dX12_isSetting_48 (fun H locs M n18 => ?_)
        refine lv_if_eq (tgt := 58) hx hb dX12_isSetting_51 (by decide) (fun c19 => ?_) (fun c19 => ?_)
        · have h := it_t h c19
          refine lv_iconst (v := 0) hx hb dX12_isSetting_58 (by decide) ?_
          exact u_iret X hret M h (rfl) rfl dX12_isSetting_59
        · have h := it_f h c19
          refine lv_iconst (v := 1) hx hb dX12_isSetting_54 (by decide) ?_
          refine lv_goto (tgt := 59) hx hb dX12_isSetting_55 (by decide) ?_
          exact u_iret X hret M h (rfl) rfl dX12_isSetting_59
    · have h := it_t h c5
      refine lv_ldc2 (v := 50) hx hb X.1.2.2.2.1 (X.hts (gt_in 1310 (by decide +kernel) (by decide +kernel))) dX12_isSetting_19 ?_
      refine lv_goto (tgt := 48) hx hb dX12_isSetting_22 (by decide) ?_
      obtain ⟨x21, e20, h⟩ := lt_e h
      refine u_cSi X M hl.1 (kX12_in  e20.symm) cw_X12_44 ⟨by decide, by decide⟩ rfl rfl (Nat.le_of_ble_eq_true rfl) ⟨Nat.zero_le _, Nat.zero_le _⟩ dX12_isSetting_48 (fun H locs M n22 => ?_)
      refine lv_if_eq (tgt := 58) hx hb dX12_isSetting_51 (by decide) (fun c23 => ?_) (fun c23 => ?_)
      · have h := it_t h c23
        refine lv_iconst (v := 0) hx hb dX12_isSetting_58 (by decide) ?_
        exact u_iret X hret M h (rfl) rfl dX12_isSetting_59
      · have h := it_f h c23
        refine lv_iconst (v := 1) hx hb dX12_isSetting_54 (by decide) ?_
        refine lv_goto (tgt := 59) hx hb dX12_isSetting_55 (by decide) ?_
        exact u_iret X hret M h (rfl) rfl dX12_isSetting_59
def fX12_begin_L38 (n : Nat) (f : (Nat → Int32)) (y1 : Int32) : Option (Nat → Int32) :=
  match n with
  | 0 => none
  | n + 1 =>
    if 4 ≤ y1 then
      some f
    else
      lt_ (fX12_gateAt  y1) fun x13 =>
      gd (inb (x13 + 0) 1272) <|
      lt_ (upd f ((x13 + 0) : Int32).toNatClampNeg 2) fun r16 =>
      lt_ (fX12_gateAt  y1) fun x19 =>
      gd (inb (x19 + 1) 1272) <|
      lt_ (upd r16 ((x19 + 1) : Int32).toNatClampNeg 1) fun r22 =>
      lt_ (y1 + 1) fun x24 =>
      fX12_begin_L38 n r22 x24
set_option maxHeartbeats 4000000 in
set_option maxRecDepth 20000 in
theorem lpX12_begin_38 {l : Launch} {G : UG} {V : uV} {q : Nat} (hq : uAr G q) {B : (Nat → Nat → Int32)} {f' : (Nat → Int32)} {p : Program} {e : Env} {s : State} {m : MethodId} {args : Array Value} {below : List Frame} {meth : Method} {c : Code} (X : UC p s m args meth c cX12_begin 2 RX12 G) (hret : meth.sig.returnType = none) : ∀ (n : Nat) (f : (Nat → Int32)) (y1 : Int32) (H : Heap) (locs : List Loc) (ls : Array Slot), fX12_begin_L38  n f y1 = some f' → UM G (va_up V 19 (va_up B q f)) s H locs → lv_has ls 2 [(0, .ref (ga G 19 q)), (1, .int y1)] → W p l e (uR 1 20) s m args below meth c H locs 0 0 (MQ below (uQv G (va_up V 19 (va_up B q f'))) args s 0 0 (uA G)) (F0 m 38 ls []) := by
  intro n
  have hx := X.hx
  have hb := X.hb
  induction n with
  | zero => intro f y1 H locs ls h M hl; rw [fX12_begin_L38] at h; cases h
  | succ n ih =>
    intro f y1 H locs ls h M hl
    rw [fX12_begin_L38] at h
    refine lv_iload_n hx hb dX12_begin_38 rfl (lv_at hl 1 rfl) ?_
    refine lv_iconst (v := 4) hx hb dX12_begin_39 (by decide) ?_
    refine lv_icmp_ge (tgt := 67) hx hb dX12_begin_40 (by decide) (fun c11 => ?_) (fun c11 => ?_)
    · have h := it_t h c11
      exact u_vret X hret M (congrArg (fun z => va_up V 19 (va_up B q z)) (Option.some.inj h)) dX12_begin_67
    · have h := it_f h c11
      refine lv_aload_n hx hb dX12_begin_43 rfl (lv_at hl 0 rfl) ?_
      refine lv_iload_n hx hb dX12_begin_44 rfl (lv_at hl 1 rfl) ?_
      obtain ⟨x13, e12, h⟩ := lt_e h
      refine u_cSi X M hl.1 (kX12_gateAt  e12.symm) cw_X12_40 ⟨by decide, by decide⟩ rfl rfl (Nat.le_of_ble_eq_true rfl) ⟨Nat.zero_le _, Nat.zero_le _⟩ dX12_begin_45 (fun H locs M n14 => ?_)
      refine lv_iconst (v := 0) hx hb dX12_begin_48 (by decide) ?_
      refine lv_iadd hx hb dX12_begin_49 ?_
      refine lv_iconst (v := 2) hx hb dX12_begin_50 (by decide) ?_
      obtain ⟨g15, h⟩ := gd_e h
      obtain ⟨r16, e17, h⟩ := lt_e h
      refine u_ast_a X M hq (inb_e g15) e17 dX12_begin_51 (fun H locs M => ?_)
      refine lv_aload_n hx hb dX12_begin_52 rfl (lv_at hl 0 rfl) ?_
      refine lv_iload_n hx hb dX12_begin_53 rfl (lv_at hl 1 rfl) ?_
      obtain ⟨x19, e18, h⟩ := lt_e h
      refine u_cSi X M hl.1 (kX12_gateAt  e18.symm) cw_X12_40 ⟨by decide, by decide⟩ rfl rfl (Nat.le_of_ble_eq_true rfl) ⟨Nat.zero_le _, Nat.zero_le _⟩ dX12_begin_54 (fun H locs M n20 => ?_)
      refine lv_iconst (v := 1) hx hb dX12_begin_57 (by decide) ?_
      refine lv_iadd hx hb dX12_begin_58 ?_
      refine lv_iconst (v := 1) hx hb dX12_begin_59 (by decide) ?_
      obtain ⟨g21, h⟩ := gd_e h
      obtain ⟨r22, e23, h⟩ := lt_e h
      refine u_ast_a X M hq (inb_e g21) e23 dX12_begin_60 (fun H locs M => ?_)
      obtain ⟨x24, e25, h⟩ := lt_e h
      refine lv_iinc (v := x24) (lv' := [(1, .int x24), (0, .ref (ga G 19 q))]) hx hb dX12_begin_61 hl (k := 1) rfl (by rw [e25]; rfl) (by decide) rfl (fun ls hl => ?_)
      refine lv_goto (tgt := 38) hx hb dX12_begin_64 (by decide) ?_
      exact ih _ _ _ _ _ h M (lv_sub hl [1, 0] rfl)
def fX12_begin_L2 (n : Nat) (f : (Nat → Int32)) (y1 : Int32) : Option (Nat → Int32) :=
  match n with
  | 0 => none
  | n + 1 =>
    if 1272 ≤ y1 then
      gd (inb 8 1272) <|
      lt_ (upd f (8 : Int32).toNatClampNeg 10) fun r3 =>
      gd (inb 9 1272) <|
      lt_ (upd r3 (9 : Int32).toNatClampNeg 5) fun r6 =>
      gd (inb 11 1272) <|
      lt_ (upd r6 (11 : Int32).toNatClampNeg 20) fun r9 =>
      fX12_begin_L38 3000 r9 0
    else
      gd (inb y1 1272) <|
      lt_ (upd f (y1 : Int32).toNatClampNeg 0) fun r27 =>
      lt_ (y1 + 1) fun x29 =>
      fX12_begin_L2 n r27 x29
set_option maxHeartbeats 4000000 in
set_option maxRecDepth 20000 in
theorem lpX12_begin_2 {l : Launch} {G : UG} {V : uV} {q : Nat} (hq : uAr G q) {B : (Nat → Nat → Int32)} {f' : (Nat → Int32)} {p : Program} {e : Env} {s : State} {m : MethodId} {args : Array Value} {below : List Frame} {meth : Method} {c : Code} (X : UC p s m args meth c cX12_begin 2 RX12 G) (hret : meth.sig.returnType = none) : ∀ (n : Nat) (f : (Nat → Int32)) (y1 : Int32) (H : Heap) (locs : List Loc) (ls : Array Slot), fX12_begin_L2  n f y1 = some f' → UM G (va_up V 19 (va_up B q f)) s H locs → lv_has ls 2 [(0, .ref (ga G 19 q)), (1, .int y1)] → W p l e (uR 1 20) s m args below meth c H locs 0 0 (MQ below (uQv G (va_up V 19 (va_up B q f'))) args s 0 0 (uA G)) (F0 m 2 ls []) := by
  intro n
  have hx := X.hx
  have hb := X.hb
  induction n with
  | zero => intro f y1 H locs ls h M hl; rw [fX12_begin_L2] at h; cases h
  | succ n ih =>
    intro f y1 H locs ls h M hl
    rw [fX12_begin_L2] at h
    refine lv_iload_n hx hb dX12_begin_2 rfl (lv_at hl 1 rfl) ?_
    refine lv_sipush (v := 1272) hx hb dX12_begin_3 (by decide) ?_
    refine lv_icmp_ge (tgt := 19) hx hb dX12_begin_6 (by decide) (fun c1 => ?_) (fun c1 => ?_)
    · have h := it_t h c1
      refine lv_aload_n hx hb dX12_begin_19 rfl (lv_at hl 0 rfl) ?_
      refine lv_bipush (v := 8) hx hb dX12_begin_20 (by decide) ?_
      refine lv_bipush (v := 10) hx hb dX12_begin_22 (by decide) ?_
      obtain ⟨g2, h⟩ := gd_e h
      obtain ⟨r3, e4, h⟩ := lt_e h
      refine u_ast_a X M hq (inb_e g2) e4 dX12_begin_24 (fun H locs M => ?_)
      refine lv_aload_n hx hb dX12_begin_25 rfl (lv_at hl 0 rfl) ?_
      refine lv_bipush (v := 9) hx hb dX12_begin_26 (by decide) ?_
      refine lv_iconst (v := 5) hx hb dX12_begin_28 (by decide) ?_
      obtain ⟨g5, h⟩ := gd_e h
      obtain ⟨r6, e7, h⟩ := lt_e h
      refine u_ast_a X M hq (inb_e g5) e7 dX12_begin_29 (fun H locs M => ?_)
      refine lv_aload_n hx hb dX12_begin_30 rfl (lv_at hl 0 rfl) ?_
      refine lv_bipush (v := 11) hx hb dX12_begin_31 (by decide) ?_
      refine lv_bipush (v := 20) hx hb dX12_begin_33 (by decide) ?_
      obtain ⟨g8, h⟩ := gd_e h
      obtain ⟨r9, e10, h⟩ := lt_e h
      refine u_ast_a X M hq (inb_e g8) e10 dX12_begin_35 (fun H locs M => ?_)
      refine lv_iconst (v := 0) hx hb dX12_begin_36 (by decide) ?_
      refine lv_istore_n (lv' := [(1, .int 0), (0, .ref (ga G 19 q))]) hx hb dX12_begin_37 rfl hl (by decide) rfl (fun ls hl => ?_)
      exact lpX12_begin_38 hq X hret 3000 _ _ _ _ _ h M (lv_sub hl [1, 0] rfl)
    · have h := it_f h c1
      refine lv_aload_n hx hb dX12_begin_9 rfl (lv_at hl 0 rfl) ?_
      refine lv_iload_n hx hb dX12_begin_10 rfl (lv_at hl 1 rfl) ?_
      refine lv_iconst (v := 0) hx hb dX12_begin_11 (by decide) ?_
      obtain ⟨g26, h⟩ := gd_e h
      obtain ⟨r27, e28, h⟩ := lt_e h
      refine u_ast_a X M hq (inb_e g26) e28 dX12_begin_12 (fun H locs M => ?_)
      obtain ⟨x29, e30, h⟩ := lt_e h
      refine lv_iinc (v := x29) (lv' := [(1, .int x29), (0, .ref (ga G 19 q))]) hx hb dX12_begin_13 hl (k := 1) rfl (by rw [e30]; rfl) (by decide) rfl (fun ls hl => ?_)
      refine lv_goto (tgt := 2) hx hb dX12_begin_16 (by decide) ?_
      exact ih _ _ _ _ _ h M (lv_sub hl [1, 0] rfl)
def fX12_begin (f : (Nat → Int32)) : Option (Nat → Int32) :=
  fX12_begin_L2 3000 f 0
set_option maxHeartbeats 4000000 in
set_option maxRecDepth 20000 in
theorem kX12_begin {l : Launch} {G : UG} {V : uV} {q : Nat} (hq : uAr G q) {B : (Nat → Nat → Int32)} {f f' : (Nat → Int32)}  (h : fX12_begin f = some f') : uMv l G yX12_begin cX12_begin 2 (uR 1 20) [.ref (ga G 19 q)] (va_up V 19 (va_up B q f)) (va_up V 19 (va_up B q f')) := by
  refine uMv_of rfl (Nat.le_of_ble_eq_true rfl) (fun p e s m args below meth c ls X hret hl M => ?_)
  have hl : lv_has ls 2 [(0, .ref (ga G 19 q))] := hl
  have hx := X.hx
  have hb := X.hb
  unfold fX12_begin at h
  refine lv_iconst (v := 0) hx hb dX12_begin_0 (by decide) ?_
  refine lv_istore_n (lv' := [(1, .int 0), (0, .ref (ga G 19 q))]) hx hb dX12_begin_1 rfl hl (by decide) rfl (fun ls hl => ?_)
  exact lpX12_begin_2 hq X hret 3000 _ _ _ _ _ h M (lv_sub hl [1, 0] rfl)
def fX12_isCard (f : (Nat → Int32)) (a2 : Int32) : Option Int32 :=
  gd (inb 0 1272) <|
  lt_ (f (0 : Int32).toNatClampNeg) fun x2 =>
  lt_ (fX12_in  ((a2 : Int32).toInt64) 0 (((x2 - 1) : Int32).toInt64)) fun x5 =>
  some x5
set_option maxHeartbeats 4000000 in
set_option maxRecDepth 20000 in
theorem kX12_isCard {l : Launch} {G : UG} {V : uV} {q : Nat} (hq : uAr G q) {f : (Nat → Int32)} (hV : V 19 q = f) {a2 : Int32} {r : Int32} (h : fX12_isCard f a2 = some r) : uMi l G yX12_isCard cX12_isCard 2 .boolean (uR 1 25) [.ref (ga G 19 q), .int a2] V r V := by
  refine uMi_of rfl (Nat.le_of_ble_eq_true rfl) (fun p e s m args below meth c ls X hret hl M => ?_)
  have hl : lv_has ls 2 [(0, .ref (ga G 19 q)), (1, .int a2)] := hl
  have hx := X.hx
  have hb := X.hb
  unfold fX12_isCard at h
  refine lv_iload_n hx hb dX12_isCard_0 rfl (lv_at hl 1 rfl) ?_
  refine lv_i2l hx hb dX12_isCard_1 rfl ?_
  refine lv_lconst (v := 0) hx hb dX12_isCard_2 rfl ?_
  refine lv_aload_n hx hb dX12_isCard_3 rfl (lv_at hl 0 rfl) ?_
  refine lv_iconst (v := 0) hx hb dX12_isCard_4 (by decide) ?_
  obtain ⟨g1, h⟩ := gd_e h
  obtain ⟨x2, e3, h⟩ := lt_e h
  refine u_ald X M hq.1 (uAr_sh hq hV) (inb_e g1) e3 dX12_isCard_5 ?_
  refine lv_iconst (v := 1) hx hb dX12_isCard_6 (by decide) ?_
  refine lv_isub hx hb dX12_isCard_7 ?_
  refine lv_i2l hx hb dX12_isCard_8 rfl ?_
  obtain ⟨x5, e4, h⟩ := lt_e h
  refine u_cSi X M hl.1 (kX12_in  e4.symm) cw_X12_44 ⟨by decide, by decide⟩ rfl rfl (Nat.le_of_ble_eq_true rfl) ⟨Nat.zero_le _, Nat.zero_le _⟩ dX12_isCard_9 (fun H locs M n6 => ?_)
  exact u_iret X hret M (Option.some.inj h) (rfl) n6 dX12_isCard_12
def fX12_isAccount (f : (Nat → Int32)) (a2 : Int32) : Option Int32 :=
  gd (inb 1 1272) <|
  lt_ (f (1 : Int32).toNatClampNeg) fun x2 =>
  lt_ (fX12_in  ((a2 : Int32).toInt64) 0 (((x2 - 1) : Int32).toInt64)) fun x5 =>
  some x5
set_option maxHeartbeats 4000000 in
set_option maxRecDepth 20000 in
theorem kX12_isAccount {l : Launch} {G : UG} {V : uV} {q : Nat} (hq : uAr G q) {f : (Nat → Int32)} (hV : V 19 q = f) {a2 : Int32} {r : Int32} (h : fX12_isAccount f a2 = some r) : uMi l G yX12_isAccount cX12_isAccount 2 .boolean (uR 1 25) [.ref (ga G 19 q), .int a2] V r V := by
  refine uMi_of rfl (Nat.le_of_ble_eq_true rfl) (fun p e s m args below meth c ls X hret hl M => ?_)
  have hl : lv_has ls 2 [(0, .ref (ga G 19 q)), (1, .int a2)] := hl
  have hx := X.hx
  have hb := X.hb
  unfold fX12_isAccount at h
  refine lv_iload_n hx hb dX12_isAccount_0 rfl (lv_at hl 1 rfl) ?_
  refine lv_i2l hx hb dX12_isAccount_1 rfl ?_
  refine lv_lconst (v := 0) hx hb dX12_isAccount_2 rfl ?_
  refine lv_aload_n hx hb dX12_isAccount_3 rfl (lv_at hl 0 rfl) ?_
  refine lv_iconst (v := 1) hx hb dX12_isAccount_4 (by decide) ?_
  obtain ⟨g1, h⟩ := gd_e h
  obtain ⟨x2, e3, h⟩ := lt_e h
  refine u_ald X M hq.1 (uAr_sh hq hV) (inb_e g1) e3 dX12_isAccount_5 ?_
  refine lv_iconst (v := 1) hx hb dX12_isAccount_6 (by decide) ?_
  refine lv_isub hx hb dX12_isAccount_7 ?_
  refine lv_i2l hx hb dX12_isAccount_8 rfl ?_
  obtain ⟨x5, e4, h⟩ := lt_e h
  refine u_cSi X M hl.1 (kX12_in  e4.symm) cw_X12_44 ⟨by decide, by decide⟩ rfl rfl (Nat.le_of_ble_eq_true rfl) ⟨Nat.zero_le _, Nat.zero_le _⟩ dX12_isAccount_9 (fun H locs M n6 => ?_)
  exact u_iret X hret M (Option.some.inj h) (rfl) n6 dX12_isAccount_12
def fX12_isUp (f : (Nat → Int32)) (a2 : Int32) : Option Int32 :=
  lt_ (fX12_gateAt  a2) fun x2 =>
  gd (inb (x2 + 1) 1272) <|
  lt_ (f ((x2 + 1) : Int32).toNatClampNeg) fun x5 =>
  if x5 = 1 then
    some 1
  else
    some 0
set_option maxHeartbeats 4000000 in
set_option maxRecDepth 20000 in
theorem kX12_isUp {l : Launch} {G : UG} {V : uV} {q : Nat} (hq : uAr G q) {f : (Nat → Int32)} (hV : V 19 q = f) {a2 : Int32} {r : Int32} (h : fX12_isUp f a2 = some r) : uMi l G yX12_isUp cX12_isUp 2 .boolean (uR 1 20) [.ref (ga G 19 q), .int a2] V r V := by
  refine uMi_of rfl (Nat.le_of_ble_eq_true rfl) (fun p e s m args below meth c ls X hret hl M => ?_)
  have hl : lv_has ls 2 [(0, .ref (ga G 19 q)), (1, .int a2)] := hl
  have hx := X.hx
  have hb := X.hb
  unfold fX12_isUp at h
  refine lv_aload_n hx hb dX12_isUp_0 rfl (lv_at hl 0 rfl) ?_
  refine lv_iload_n hx hb dX12_isUp_1 rfl (lv_at hl 1 rfl) ?_
  obtain ⟨x2, e1, h⟩ := lt_e h
  refine u_cSi X M hl.1 (kX12_gateAt  e1.symm) cw_X12_40 ⟨by decide, by decide⟩ rfl rfl (Nat.le_of_ble_eq_true rfl) ⟨Nat.zero_le _, Nat.zero_le _⟩ dX12_isUp_2 (fun H locs M n3 => ?_)
  refine lv_iconst (v := 1) hx hb dX12_isUp_5 (by decide) ?_
  refine lv_iadd hx hb dX12_isUp_6 ?_
  obtain ⟨g4, h⟩ := gd_e h
  obtain ⟨x5, e6, h⟩ := lt_e h
  refine u_ald X M hq.1 (uAr_sh hq hV) (inb_e g4) e6 dX12_isUp_7 ?_
  refine lv_iconst (v := 1) hx hb dX12_isUp_8 (by decide) ?_
  refine lv_icmp_ne (tgt := 16) hx hb dX12_isUp_9 (by decide) (fun c7 => ?_) (fun c7 => ?_)
  · have h := it_f h c7
    refine lv_iconst (v := 0) hx hb dX12_isUp_16 (by decide) ?_
    exact u_iret X hret M (Option.some.inj h) (rfl) rfl dX12_isUp_17
  · have h := it_t h c7
    refine lv_iconst (v := 1) hx hb dX12_isUp_12 (by decide) ?_
    refine lv_goto (tgt := 17) hx hb dX12_isUp_13 (by decide) ?_
    exact u_iret X hret M (Option.some.inj h) (rfl) rfl dX12_isUp_17
def fX12_isBlocked (f : (Nat → Int32)) (a2 : Int32) : Option Int32 :=
  lt_ (fX12_accountAt  a2) fun x2 =>
  gd (inb (x2 + 0) 1272) <|
  lt_ (f ((x2 + 0) : Int32).toNatClampNeg) fun x5 =>
  if x5 < 0 then
    some 1
  else
    lt_ (fX12_accountAt  a2) fun x9 =>
    gd (inb (x9 + 2) 1272) <|
    lt_ (f ((x9 + 2) : Int32).toNatClampNeg) fun x12 =>
    if x12 = 1 then
      some 1
    else
      some 0
set_option maxHeartbeats 4000000 in
set_option maxRecDepth 20000 in
theorem kX12_isBlocked {l : Launch} {G : UG} {V : uV} {q : Nat} (hq : uAr G q) {f : (Nat → Int32)} (hV : V 19 q = f) {a2 : Int32} {r : Int32} (h : fX12_isBlocked f a2 = some r) : uMi l G yX12_isBlocked cX12_isBlocked 2 .boolean (uR 1 20) [.ref (ga G 19 q), .int a2] V r V := by
  refine uMi_of rfl (Nat.le_of_ble_eq_true rfl) (fun p e s m args below meth c ls X hret hl M => ?_)
  have hl : lv_has ls 2 [(0, .ref (ga G 19 q)), (1, .int a2)] := hl
  have hx := X.hx
  have hb := X.hb
  unfold fX12_isBlocked at h
  refine lv_aload_n hx hb dX12_isBlocked_0 rfl (lv_at hl 0 rfl) ?_
  refine lv_iload_n hx hb dX12_isBlocked_1 rfl (lv_at hl 1 rfl) ?_
  obtain ⟨x2, e1, h⟩ := lt_e h
  refine u_cSi X M hl.1 (kX12_accountAt  e1.symm) cw_X12_50 ⟨by decide, by decide⟩ rfl rfl (Nat.le_of_ble_eq_true rfl) ⟨Nat.zero_le _, Nat.zero_le _⟩ dX12_isBlocked_2 (fun H locs M n3 => ?_)
  refine lv_iconst (v := 0) hx hb dX12_isBlocked_5 (by decide) ?_
  refine lv_iadd hx hb dX12_isBlocked_6 ?_
  obtain ⟨g4, h⟩ := gd_e h
  obtain ⟨x5, e6, h⟩ := lt_e h
  refine u_ald X M hq.1 (uAr_sh hq hV) (inb_e g4) e6 dX12_isBlocked_7 ?_
  refine lv_if_lt (tgt := 23) hx hb dX12_isBlocked_8 (by decide) (fun c7 => ?_) (fun c7 => ?_)
  · have h := it_t h c7
    refine lv_iconst (v := 1) hx hb dX12_isBlocked_23 (by decide) ?_
    refine lv_goto (tgt := 28) hx hb dX12_isBlocked_24 (by decide) ?_
    exact u_iret X hret M (Option.some.inj h) (rfl) rfl dX12_isBlocked_28
  · have h := it_f h c7
    refine lv_aload_n hx hb dX12_isBlocked_11 rfl (lv_at hl 0 rfl) ?_
    refine lv_iload_n hx hb dX12_isBlocked_12 rfl (lv_at hl 1 rfl) ?_
    obtain ⟨x9, e8, h⟩ := lt_e h
    refine u_cSi X M hl.1 (kX12_accountAt  e8.symm) cw_X12_50 ⟨by decide, by decide⟩ rfl rfl (Nat.le_of_ble_eq_true rfl) ⟨Nat.zero_le _, Nat.zero_le _⟩ dX12_isBlocked_13 (fun H locs M n10 => ?_)
    refine lv_iconst (v := 2) hx hb dX12_isBlocked_16 (by decide) ?_
    refine lv_iadd hx hb dX12_isBlocked_17 ?_
    obtain ⟨g11, h⟩ := gd_e h
    obtain ⟨x12, e13, h⟩ := lt_e h
    refine u_ald X M hq.1 (uAr_sh hq hV) (inb_e g11) e13 dX12_isBlocked_18 ?_
    refine lv_iconst (v := 1) hx hb dX12_isBlocked_19 (by decide) ?_
    refine lv_icmp_ne (tgt := 27) hx hb dX12_isBlocked_20 (by decide) (fun c14 => ?_) (fun c14 => ?_)
    · have h := it_f h c14
      refine lv_iconst (v := 0) hx hb dX12_isBlocked_27 (by decide) ?_
      exact u_iret X hret M (Option.some.inj h) (rfl) rfl dX12_isBlocked_28
    · have h := it_t h c14
      refine lv_iconst (v := 1) hx hb dX12_isBlocked_23 (by decide) ?_
      refine lv_goto (tgt := 28) hx hb dX12_isBlocked_24 (by decide) ?_
      exact u_iret X hret M (Option.some.inj h) (rfl) rfl dX12_isBlocked_28
def fX12_blocked_L4 (f : (Nat → Int32)) (n : Nat) (y1 : Int32) (y2 : Int32) : Option Int32 :=
  match n with
  | 0 => none
  | n + 1 =>
    gd (inb 1 1272) <|
    lt_ (f (1 : Int32).toNatClampNeg) fun x2 =>
    if x2 ≤ y2 then
      some y1
    else
      bd (fX12_isBlocked f y2) fun x6 =>
      if x6 = 0 then
        lt_ ((y1 ||| 0)) fun x9 =>
        lt_ (y2 + 1) fun x11 =>
        fX12_blocked_L4 f n x9 x11
      else
        lt_ ((y1 ||| (1 <<< (y2 &&& 31)))) fun x13 =>
        lt_ (y2 + 1) fun x15 =>
        fX12_blocked_L4 f n x13 x15
set_option maxHeartbeats 4000000 in
set_option maxRecDepth 20000 in
theorem lpX12_blocked_4 {l : Launch} {G : UG} {V : uV} {q : Nat} (hq : uAr G q) {f : (Nat → Int32)} (hV : V 19 q = f) {r : Int32} {p : Program} {e : Env} {s : State} {m : MethodId} {args : Array Value} {below : List Frame} {meth : Method} {c : Code} (X : UC p s m args meth c cX12_blocked 3 RX12 G) (hret : meth.sig.returnType = some .int) : ∀ (n : Nat) (y1 : Int32) (y2 : Int32) (H : Heap) (locs : List Loc) (ls : Array Slot), fX12_blocked_L4 f n y1 y2 = some r → UM G (V) s H locs → lv_has ls 3 [(0, .ref (ga G 19 q)), (1, .int y1), (2, .int y2)] → W p l e (uR 2 41) s m args below meth c H locs 0 0 (MQ below (uQi G .int r V) args s 0 0 (uA G)) (F0 m 4 ls []) := by
  intro n
  have hx := X.hx
  have hb := X.hb
  induction n with
  | zero => intro y1 y2 H locs ls h M hl; rw [fX12_blocked_L4] at h; cases h
  | succ n ih =>
    intro y1 y2 H locs ls h M hl
    rw [fX12_blocked_L4] at h
    refine lv_iload_n hx hb dX12_blocked_4 rfl (lv_at hl 2 rfl) ?_
    refine lv_aload_n hx hb dX12_blocked_5 rfl (lv_at hl 0 rfl) ?_
    refine lv_iconst (v := 1) hx hb dX12_blocked_6 (by decide) ?_
    obtain ⟨g1, h⟩ := gd_e h
    obtain ⟨x2, e3, h⟩ := lt_e h
    refine u_ald X M hq.1 (uAr_sh hq hV) (inb_e g1) e3 dX12_blocked_7 ?_
    refine lv_icmp_ge (tgt := 35) hx hb dX12_blocked_8 (by decide) (fun c4 => ?_) (fun c4 => ?_)
    · have h := it_t h c4
      refine lv_iload_n hx hb dX12_blocked_35 rfl (lv_at hl 1 rfl) ?_
      exact u_iret X hret M (Option.some.inj h) (rfl) rfl dX12_blocked_36
    · have h := it_f h c4
      refine lv_iload_n hx hb dX12_blocked_11 rfl (lv_at hl 1 rfl) ?_
      refine lv_aload_n hx hb dX12_blocked_12 rfl (lv_at hl 0 rfl) ?_
      refine lv_iload_n hx hb dX12_blocked_13 rfl (lv_at hl 2 rfl) ?_
      obtain ⟨x6, e5, h⟩ := bd_e h
      refine u_cSi X M hl.1 (kX12_isBlocked hq hV e5) cw_X12_53 ⟨by decide, by decide⟩ rfl rfl (Nat.le_of_ble_eq_true rfl) ⟨Nat.zero_le _, Nat.zero_le _⟩ dX12_blocked_14 (fun H locs M n7 => ?_)
      refine lv_if_eq (tgt := 26) hx hb dX12_blocked_17 (by decide) (fun c8 => ?_) (fun c8 => ?_)
      · have h := it_t h c8
        refine lv_iconst (v := 0) hx hb dX12_blocked_26 (by decide) ?_
        refine lv_ior hx hb dX12_blocked_27 ?_
        obtain ⟨x9, e10, h⟩ := lt_e h
        refine u_topi e10 ?_
        refine lv_istore_n (lv' := [(1, .int x9), (0, .ref (ga G 19 q)), (2, .int y2)]) hx hb dX12_blocked_28 rfl hl (by decide) rfl (fun ls hl => ?_)
        obtain ⟨x11, e12, h⟩ := lt_e h
        refine lv_iinc (v := x11) (lv' := [(2, .int x11), (1, .int x9), (0, .ref (ga G 19 q))]) hx hb dX12_blocked_29 hl (k := 2) rfl (by rw [e12]; rfl) (by decide) rfl (fun ls hl => ?_)
        refine lv_goto (tgt := 4) hx hb dX12_blocked_32 (by decide) ?_
        exact ih _ _ _ _ _ h M (lv_sub hl [2, 1, 0] rfl)
      · have h := it_f h c8
        refine lv_iconst (v := 1) hx hb dX12_blocked_20 (by decide) ?_
        refine lv_iload_n hx hb dX12_blocked_21 rfl (lv_at hl 2 rfl) ?_
        refine lv_ishl hx hb dX12_blocked_22 ?_
        refine lv_goto (tgt := 27) hx hb dX12_blocked_23 (by decide) ?_
        refine lv_ior hx hb dX12_blocked_27 ?_
        obtain ⟨x13, e14, h⟩ := lt_e h
        refine u_topi e14 ?_
        refine lv_istore_n (lv' := [(1, .int x13), (0, .ref (ga G 19 q)), (2, .int y2)]) hx hb dX12_blocked_28 rfl hl (by decide) rfl (fun ls hl => ?_)
        obtain ⟨x15, e16, h⟩ := lt_e h
        refine lv_iinc (v := x15) (lv' := [(2, .int x15), (1, .int x13), (0, .ref (ga G 19 q))]) hx hb dX12_blocked_29 hl (k := 2) rfl (by rw [e16]; rfl) (by decide) rfl (fun ls hl => ?_)
        refine lv_goto (tgt := 4) hx hb dX12_blocked_32 (by decide) ?_
        exact ih _ _ _ _ _ h M (lv_sub hl [2, 1, 0] rfl)
def fX12_blocked (f : (Nat → Int32)) : Option Int32 :=
  fX12_blocked_L4 f 3000 0 0
set_option maxHeartbeats 4000000 in
set_option maxRecDepth 20000 in
theorem kX12_blocked {l : Launch} {G : UG} {V : uV} {q : Nat} (hq : uAr G q) {f : (Nat → Int32)} (hV : V 19 q = f)  {r : Int32} (h : fX12_blocked f = some r) : uMi l G yX12_blocked cX12_blocked 3 .int (uR 2 41) [.ref (ga G 19 q)] V r V := by
  refine uMi_of rfl (Nat.le_of_ble_eq_true rfl) (fun p e s m args below meth c ls X hret hl M => ?_)
  have hl : lv_has ls 3 [(0, .ref (ga G 19 q))] := hl
  have hx := X.hx
  have hb := X.hb
  unfold fX12_blocked at h
  refine lv_iconst (v := 0) hx hb dX12_blocked_0 (by decide) ?_
  refine lv_istore_n (lv' := [(1, .int 0), (0, .ref (ga G 19 q))]) hx hb dX12_blocked_1 rfl hl (by decide) rfl (fun ls hl => ?_)
  refine lv_iconst (v := 0) hx hb dX12_blocked_2 (by decide) ?_
  refine lv_istore_n (lv' := [(2, .int 0), (1, .int 0), (0, .ref (ga G 19 q))]) hx hb dX12_blocked_3 rfl hl (by decide) rfl (fun ls hl => ?_)
  exact lpX12_blocked_4 hq hV X hret 3000 _ _ _ _ _ h M (lv_sub hl [2, 1, 0] rfl)
def fX12_list (f : (Nat → Int32)) (a2 : Int32) : Option Int32 :=
  bd (fX12_isUp f a2) fun x2 =>
  if x2 = 0 then
    lt_ (fX12_gateAt  a2) fun x6 =>
    gd (inb (x6 + 4) 1272) <|
    lt_ (f ((x6 + 4) : Int32).toNatClampNeg) fun x9 =>
    some x9
  else
    bd (fX12_blocked f) fun x12 =>
    some x12
set_option maxHeartbeats 4000000 in
set_option maxRecDepth 20000 in
theorem kX12_list {l : Launch} {G : UG} {V : uV} {q : Nat} (hq : uAr G q) {f : (Nat → Int32)} (hV : V 19 q = f) {a2 : Int32} {r : Int32} (h : fX12_list f a2 = some r) : uMi l G yX12_list cX12_list 2 .int (uR 3 63) [.ref (ga G 19 q), .int a2] V r V := by
  refine uMi_of rfl (Nat.le_of_ble_eq_true rfl) (fun p e s m args below meth c ls X hret hl M => ?_)
  have hl : lv_has ls 2 [(0, .ref (ga G 19 q)), (1, .int a2)] := hl
  have hx := X.hx
  have hb := X.hb
  unfold fX12_list at h
  refine lv_aload_n hx hb dX12_list_0 rfl (lv_at hl 0 rfl) ?_
  refine lv_iload_n hx hb dX12_list_1 rfl (lv_at hl 1 rfl) ?_
  obtain ⟨x2, e1, h⟩ := bd_e h
  refine u_cSi X M hl.1 (kX12_isUp hq hV e1) cw_X12_57 ⟨by decide, by decide⟩ rfl rfl (Nat.le_of_ble_eq_true rfl) ⟨Nat.zero_le _, Nat.zero_le _⟩ dX12_list_2 (fun H locs M n3 => ?_)
  refine lv_if_eq (tgt := 15) hx hb dX12_list_5 (by decide) (fun c4 => ?_) (fun c4 => ?_)
  · have h := it_t h c4
    refine lv_aload_n hx hb dX12_list_15 rfl (lv_at hl 0 rfl) ?_
    refine lv_iload_n hx hb dX12_list_16 rfl (lv_at hl 1 rfl) ?_
    obtain ⟨x6, e5, h⟩ := lt_e h
    refine u_cSi X M hl.1 (kX12_gateAt  e5.symm) cw_X12_40 ⟨by decide, by decide⟩ rfl rfl (Nat.le_of_ble_eq_true rfl) ⟨Nat.zero_le _, Nat.zero_le _⟩ dX12_list_17 (fun H locs M n7 => ?_)
    refine lv_iconst (v := 4) hx hb dX12_list_20 (by decide) ?_
    refine lv_iadd hx hb dX12_list_21 ?_
    obtain ⟨g8, h⟩ := gd_e h
    obtain ⟨x9, e10, h⟩ := lt_e h
    refine u_ald X M hq.1 (uAr_sh hq hV) (inb_e g8) e10 dX12_list_22 ?_
    exact u_iret X hret M (Option.some.inj h) (rfl) rfl dX12_list_23
  · have h := it_f h c4
    refine lv_aload_n hx hb dX12_list_8 rfl (lv_at hl 0 rfl) ?_
    obtain ⟨x12, e11, h⟩ := bd_e h
    refine u_cSi X M hl.1 (kX12_blocked hq hV e11) cw_X12_60 ⟨by decide, by decide⟩ rfl rfl (Nat.le_of_ble_eq_true rfl) ⟨Nat.zero_le _, Nat.zero_le _⟩ dX12_list_9 (fun H locs M n13 => ?_)
    refine lv_goto (tgt := 23) hx hb dX12_list_12 (by decide) ?_
    exact u_iret X hret M (Option.some.inj h) (rfl) rfl dX12_list_23
def fX12_isSettled (f : (Nat → Int32)) (a2 : Int32) (a3 : Int32) : Option Int32 :=
  gd (inb ((248 + (128 * a2)) + ((a3 / 32) - (a3 / 32) / 128 * 128)) 1272) <|
  lt_ (f (((248 + (128 * a2)) + ((a3 / 32) - (a3 / 32) / 128 * 128)) : Int32).toNatClampNeg) fun x2 =>
  if ((x2 >>> ((a3 - a3 / 32 * 32) &&& 31)) &&& 1) = 1 then
    some 1
  else
    some 0
set_option maxHeartbeats 4000000 in
set_option maxRecDepth 20000 in
theorem kX12_isSettled {l : Launch} {G : UG} {V : uV} {q : Nat} (hq : uAr G q) {f : (Nat → Int32)} (hV : V 19 q = f) {a2 : Int32} {a3 : Int32} {r : Int32} (h : fX12_isSettled f a2 a3 = some r) : uMi l G yX12_isSettled cX12_isSettled 3 .boolean (uR 0 0) [.ref (ga G 19 q), .int a2, .int a3] V r V := by
  refine uMi_of rfl (Nat.le_of_ble_eq_true rfl) (fun p e s m args below meth c ls X hret hl M => ?_)
  have hl : lv_has ls 3 [(0, .ref (ga G 19 q)), (1, .int a2), (2, .int a3)] := hl
  have hx := X.hx
  have hb := X.hb
  unfold fX12_isSettled at h
  refine lv_aload_n hx hb dX12_isSettled_0 rfl (lv_at hl 0 rfl) ?_
  refine lv_sipush (v := 248) hx hb dX12_isSettled_1 (by decide) ?_
  refine lv_sipush (v := 128) hx hb dX12_isSettled_4 (by decide) ?_
  refine lv_iload_n hx hb dX12_isSettled_7 rfl (lv_at hl 1 rfl) ?_
  refine lv_imul hx hb dX12_isSettled_8 ?_
  refine lv_iadd hx hb dX12_isSettled_9 ?_
  refine lv_iload_n hx hb dX12_isSettled_10 rfl (lv_at hl 2 rfl) ?_
  refine lv_bipush (v := 32) hx hb dX12_isSettled_11 (by decide) ?_
  refine lv_idiv hx hb dX12_isSettled_13 (by decide) ?_
  refine lv_sipush (v := 128) hx hb dX12_isSettled_14 (by decide) ?_
  refine lv_irem hx hb dX12_isSettled_17 (by decide) ?_
  refine lv_iadd hx hb dX12_isSettled_18 ?_
  obtain ⟨g1, h⟩ := gd_e h
  obtain ⟨x2, e3, h⟩ := lt_e h
  refine u_ald X M hq.1 (uAr_sh hq hV) (inb_e g1) e3 dX12_isSettled_19 ?_
  refine lv_iload_n hx hb dX12_isSettled_20 rfl (lv_at hl 2 rfl) ?_
  refine lv_bipush (v := 32) hx hb dX12_isSettled_21 (by decide) ?_
  refine lv_irem hx hb dX12_isSettled_23 (by decide) ?_
  refine lv_ishr hx hb dX12_isSettled_24 ?_
  refine lv_iconst (v := 1) hx hb dX12_isSettled_25 (by decide) ?_
  refine lv_iand hx hb dX12_isSettled_26 ?_
  refine lv_iconst (v := 1) hx hb dX12_isSettled_27 (by decide) ?_
  refine lv_icmp_ne (tgt := 35) hx hb dX12_isSettled_28 (by decide) (fun c4 => ?_) (fun c4 => ?_)
  · have h := it_f h c4
    refine lv_iconst (v := 0) hx hb dX12_isSettled_35 (by decide) ?_
    exact u_iret X hret M (Option.some.inj h) (rfl) rfl dX12_isSettled_36
  · have h := it_t h c4
    refine lv_iconst (v := 1) hx hb dX12_isSettled_31 (by decide) ?_
    refine lv_goto (tgt := 36) hx hb dX12_isSettled_32 (by decide) ?_
    exact u_iret X hret M (Option.some.inj h) (rfl) rfl dX12_isSettled_36
def fX12_settle (f : (Nat → Int32)) (a2 : Int32) (a3 : Int32) (a4 : Int32) : Option (Int32 × (Nat → Int32)) :=
  lt_ (fX12_accountAt  a2) fun x2 =>
  bd (fX12_isSettled f a2 a3) fun x5 =>
  if x5 = 0 then
    gd (inb ((248 + (128 * a2)) + ((a3 / 32) - (a3 / 32) / 128 * 128)) 1272) <|
    lt_ (f (((248 + (128 * a2)) + ((a3 / 32) - (a3 / 32) / 128 * 128)) : Int32).toNatClampNeg) fun x9 =>
    lt_ (upd f (((248 + (128 * a2)) + ((a3 / 32) - (a3 / 32) / 128 * 128)) : Int32).toNatClampNeg (x9 ||| (1 <<< ((a3 - a3 / 32 * 32) &&& 31)))) fun r11 =>
    gd (inb (x2 + 3) 1272) <|
    lt_ (r11 ((x2 + 3) : Int32).toNatClampNeg) fun x14 =>
    lt_ (upd r11 ((x2 + 3) : Int32).toNatClampNeg (x14 + 1)) fun r16 =>
    gd (inb (x2 + 0) 1272) <|
    lt_ (r16 ((x2 + 0) : Int32).toNatClampNeg) fun x19 =>
    lt_ (upd r16 ((x2 + 0) : Int32).toNatClampNeg (x19 - a4)) fun r21 =>
    gd (inb 3 1272) <|
    lt_ (r21 (3 : Int32).toNatClampNeg) fun x24 =>
    lt_ (upd r21 (3 : Int32).toNatClampNeg (x24 + 1)) fun r26 =>
    gd (inb 4 1272) <|
    lt_ (r26 (4 : Int32).toNatClampNeg) fun x29 =>
    lt_ (upd r26 (4 : Int32).toNatClampNeg (x29 + a4)) fun r31 =>
    some (0, r31)
  else
    gd (inb (x2 + 0) 1272) <|
    lt_ (f ((x2 + 0) : Int32).toNatClampNeg) fun x34 =>
    gd (inb 11 1272) <|
    lt_ (f (11 : Int32).toNatClampNeg) fun x37 =>
    lt_ (upd f ((x2 + 0) : Int32).toNatClampNeg (x34 - x37)) fun r39 =>
    gd (inb (x2 + 2) 1272) <|
    lt_ (upd r39 ((x2 + 2) : Int32).toNatClampNeg 1) fun r42 =>
    gd (inb 5 1272) <|
    lt_ (r42 (5 : Int32).toNatClampNeg) fun x45 =>
    lt_ (upd r42 (5 : Int32).toNatClampNeg (x45 + 1)) fun r47 =>
    some (1, r47)
set_option maxHeartbeats 4000000 in
set_option maxRecDepth 20000 in
theorem kX12_settle {l : Launch} {G : UG} {V : uV} {q : Nat} (hq : uAr G q) {B : (Nat → Nat → Int32)} {f f' : (Nat → Int32)} {a2 : Int32} {a3 : Int32} {a4 : Int32} {r : Int32} (h : fX12_settle f a2 a3 a4 = some (r, f')) : uMi l G yX12_settle cX12_settle 5 .boolean (uR 1 22) [.ref (ga G 19 q), .int a2, .int a3, .int a4] (va_up V 19 (va_up B q f)) r (va_up V 19 (va_up B q f')) := by
  refine uMi_of rfl (Nat.le_of_ble_eq_true rfl) (fun p e s m args below meth c ls X hret hl M => ?_)
  have hl : lv_has ls 5 [(0, .ref (ga G 19 q)), (1, .int a2), (2, .int a3), (3, .int a4)] := hl
  have hx := X.hx
  have hb := X.hb
  unfold fX12_settle at h
  refine lv_iload_n hx hb dX12_settle_0 rfl (lv_at hl 1 rfl) ?_
  obtain ⟨x2, e1, h⟩ := lt_e h
  refine u_cSi X M hl.1 (kX12_accountAt  e1.symm) cw_X12_50 ⟨by decide, by decide⟩ rfl rfl (Nat.le_of_ble_eq_true rfl) ⟨Nat.zero_le _, Nat.zero_le _⟩ dX12_settle_1 (fun H locs M n3 => ?_)
  refine lv_istore (lv' := [(4, .int x2), (0, .ref (ga G 19 q)), (1, .int a2), (2, .int a3), (3, .int a4)]) hx hb dX12_settle_4 hl (by decide) rfl (fun ls hl => ?_)
  refine lv_aload_n hx hb dX12_settle_6 rfl (lv_at hl 1 rfl) ?_
  refine lv_iload_n hx hb dX12_settle_7 rfl (lv_at hl 2 rfl) ?_
  refine lv_iload_n hx hb dX12_settle_8 rfl (lv_at hl 3 rfl) ?_
  obtain ⟨x5, e4, h⟩ := bd_e h
  refine u_cSi X M hl.1 (kX12_isSettled hq (va_up_s2 V 19 B q _) e4) cw_X12_64 ⟨by decide, by decide⟩ rfl rfl (Nat.le_of_ble_eq_true rfl) ⟨Nat.zero_le _, Nat.zero_le _⟩ dX12_settle_9 (fun H locs M n6 => ?_)
  refine lv_if_eq (tgt := 44) hx hb dX12_settle_12 (by decide) (fun c7 => ?_) (fun c7 => ?_)
  · have h := it_t h c7
    refine lv_aload_n hx hb dX12_settle_44 rfl (lv_at hl 1 rfl) ?_
    refine lv_sipush (v := 248) hx hb dX12_settle_45 (by decide) ?_
    refine lv_sipush (v := 128) hx hb dX12_settle_48 (by decide) ?_
    refine lv_iload_n hx hb dX12_settle_51 rfl (lv_at hl 2 rfl) ?_
    refine lv_imul hx hb dX12_settle_52 ?_
    refine lv_iadd hx hb dX12_settle_53 ?_
    refine lv_iload_n hx hb dX12_settle_54 rfl (lv_at hl 3 rfl) ?_
    refine lv_bipush (v := 32) hx hb dX12_settle_55 (by decide) ?_
    refine lv_idiv hx hb dX12_settle_57 (by decide) ?_
    refine lv_sipush (v := 128) hx hb dX12_settle_58 (by decide) ?_
    refine lv_irem hx hb dX12_settle_61 (by decide) ?_
    refine lv_iadd hx hb dX12_settle_62 ?_
    refine lv_dup2_11 hx hb dX12_settle_63 rfl rfl ?_
    obtain ⟨g8, h⟩ := gd_e h
    obtain ⟨x9, e10, h⟩ := lt_e h
    refine u_ald X M hq.1 (uAr_sh hq (va_up_s2 V 19 B q _)) (inb_e g8) e10 dX12_settle_64 ?_
    refine lv_iconst (v := 1) hx hb dX12_settle_65 (by decide) ?_
    refine lv_iload_n hx hb dX12_settle_66 rfl (lv_at hl 3 rfl) ?_
    refine lv_bipush (v := 32) hx hb dX12_settle_67 (by decide) ?_
    refine lv_irem hx hb dX12_settle_69 (by decide) ?_
    refine lv_ishl hx hb dX12_settle_70 ?_
    refine lv_ior hx hb dX12_settle_71 ?_
    obtain ⟨r11, e12, h⟩ := lt_e h
    refine u_ast_a X M hq (inb_e g8) e12 dX12_settle_72 (fun H locs M => ?_)
    refine lv_aload_n hx hb dX12_settle_73 rfl (lv_at hl 1 rfl) ?_
    refine lv_iload hx hb dX12_settle_74 (lv_at hl 0 rfl) ?_
    refine lv_iconst (v := 3) hx hb dX12_settle_76 (by decide) ?_
    refine lv_iadd hx hb dX12_settle_77 ?_
    refine lv_dup2_11 hx hb dX12_settle_78 rfl rfl ?_
    obtain ⟨g13, h⟩ := gd_e h
    obtain ⟨x14, e15, h⟩ := lt_e h
    refine u_ald X M hq.1 (uAr_sh hq (va_up_s2 V 19 B q _)) (inb_e g13) e15 dX12_settle_79 ?_
    refine lv_iconst (v := 1) hx hb dX12_settle_80 (by decide) ?_
    refine lv_iadd hx hb dX12_settle_81 ?_
    obtain ⟨r16, e17, h⟩ := lt_e h
    refine u_ast_a X M hq (inb_e g13) e17 dX12_settle_82 (fun H locs M => ?_)
    refine lv_aload_n hx hb dX12_settle_83 rfl (lv_at hl 1 rfl) ?_
    refine lv_iload hx hb dX12_settle_84 (lv_at hl 0 rfl) ?_
    refine lv_iconst (v := 0) hx hb dX12_settle_86 (by decide) ?_
    refine lv_iadd hx hb dX12_settle_87 ?_
    refine lv_dup2_11 hx hb dX12_settle_88 rfl rfl ?_
    obtain ⟨g18, h⟩ := gd_e h
    obtain ⟨x19, e20, h⟩ := lt_e h
    refine u_ald X M hq.1 (uAr_sh hq (va_up_s2 V 19 B q _)) (inb_e g18) e20 dX12_settle_89 ?_
    refine lv_iload_n hx hb dX12_settle_90 rfl (lv_at hl 4 rfl) ?_
    refine lv_isub hx hb dX12_settle_91 ?_
    obtain ⟨r21, e22, h⟩ := lt_e h
    refine u_ast_a X M hq (inb_e g18) e22 dX12_settle_92 (fun H locs M => ?_)
    refine lv_aload_n hx hb dX12_settle_93 rfl (lv_at hl 1 rfl) ?_
    refine lv_iconst (v := 3) hx hb dX12_settle_94 (by decide) ?_
    refine lv_dup2_11 hx hb dX12_settle_95 rfl rfl ?_
    obtain ⟨g23, h⟩ := gd_e h
    obtain ⟨x24, e25, h⟩ := lt_e h
    refine u_ald X M hq.1 (uAr_sh hq (va_up_s2 V 19 B q _)) (inb_e g23) e25 dX12_settle_96 ?_
    refine lv_iconst (v := 1) hx hb dX12_settle_97 (by decide) ?_
    refine lv_iadd hx hb dX12_settle_98 ?_
    obtain ⟨r26, e27, h⟩ := lt_e h
    refine u_ast_a X M hq (inb_e g23) e27 dX12_settle_99 (fun H locs M => ?_)
    refine lv_aload_n hx hb dX12_settle_100 rfl (lv_at hl 1 rfl) ?_
    refine lv_iconst (v := 4) hx hb dX12_settle_101 (by decide) ?_
    refine lv_dup2_11 hx hb dX12_settle_102 rfl rfl ?_
    obtain ⟨g28, h⟩ := gd_e h
    obtain ⟨x29, e30, h⟩ := lt_e h
    refine u_ald X M hq.1 (uAr_sh hq (va_up_s2 V 19 B q _)) (inb_e g28) e30 dX12_settle_103 ?_
    refine lv_iload_n hx hb dX12_settle_104 rfl (lv_at hl 4 rfl) ?_
    refine lv_iadd hx hb dX12_settle_105 ?_
    obtain ⟨r31, e32, h⟩ := lt_e h
    refine u_ast_a X M hq (inb_e g28) e32 dX12_settle_106 (fun H locs M => ?_)
    refine lv_iconst (v := 0) hx hb dX12_settle_107 (by decide) ?_
    exact u_iret X hret M (rt2 h).1 (congrArg (fun z => va_up V 19 (va_up B q z)) ((rt2 h).2)) rfl dX12_settle_108
  · have h := it_f h c7
    refine lv_aload_n hx hb dX12_settle_15 rfl (lv_at hl 1 rfl) ?_
    refine lv_iload hx hb dX12_settle_16 (lv_at hl 0 rfl) ?_
    refine lv_iconst (v := 0) hx hb dX12_settle_18 (by decide) ?_
    refine lv_iadd hx hb dX12_settle_19 ?_
    refine lv_dup2_11 hx hb dX12_settle_20 rfl rfl ?_
    obtain ⟨g33, h⟩ := gd_e h
    obtain ⟨x34, e35, h⟩ := lt_e h
    refine u_ald X M hq.1 (uAr_sh hq (va_up_s2 V 19 B q _)) (inb_e g33) e35 dX12_settle_21 ?_
    refine lv_aload_n hx hb dX12_settle_22 rfl (lv_at hl 1 rfl) ?_
    refine lv_bipush (v := 11) hx hb dX12_settle_23 (by decide) ?_
    obtain ⟨g36, h⟩ := gd_e h
    obtain ⟨x37, e38, h⟩ := lt_e h
    refine u_ald X M hq.1 (uAr_sh hq (va_up_s2 V 19 B q _)) (inb_e g36) e38 dX12_settle_25 ?_
    refine lv_isub hx hb dX12_settle_26 ?_
    obtain ⟨r39, e40, h⟩ := lt_e h
    refine u_ast_a X M hq (inb_e g33) e40 dX12_settle_27 (fun H locs M => ?_)
    refine lv_aload_n hx hb dX12_settle_28 rfl (lv_at hl 1 rfl) ?_
    refine lv_iload hx hb dX12_settle_29 (lv_at hl 0 rfl) ?_
    refine lv_iconst (v := 2) hx hb dX12_settle_31 (by decide) ?_
    refine lv_iadd hx hb dX12_settle_32 ?_
    refine lv_iconst (v := 1) hx hb dX12_settle_33 (by decide) ?_
    obtain ⟨g41, h⟩ := gd_e h
    obtain ⟨r42, e43, h⟩ := lt_e h
    refine u_ast_a X M hq (inb_e g41) e43 dX12_settle_34 (fun H locs M => ?_)
    refine lv_aload_n hx hb dX12_settle_35 rfl (lv_at hl 1 rfl) ?_
    refine lv_iconst (v := 5) hx hb dX12_settle_36 (by decide) ?_
    refine lv_dup2_11 hx hb dX12_settle_37 rfl rfl ?_
    obtain ⟨g44, h⟩ := gd_e h
    obtain ⟨x45, e46, h⟩ := lt_e h
    refine u_ald X M hq.1 (uAr_sh hq (va_up_s2 V 19 B q _)) (inb_e g44) e46 dX12_settle_38 ?_
    refine lv_iconst (v := 1) hx hb dX12_settle_39 (by decide) ?_
    refine lv_iadd hx hb dX12_settle_40 ?_
    obtain ⟨r47, e48, h⟩ := lt_e h
    refine u_ast_a X M hq (inb_e g44) e48 dX12_settle_41 (fun H locs M => ?_)
    refine lv_iconst (v := 1) hx hb dX12_settle_42 (by decide) ?_
    exact u_iret X hret M (rt2 h).1 (congrArg (fun z => va_up V 19 (va_up B q z)) ((rt2 h).2)) rfl dX12_settle_43
def fX12_upOn_L6 (n : Nat) (f : (Nat → Int32)) (y1 : Int32) (y2 : Int32) (y3 : Int32) : Option (Int32 × (Nat → Int32)) :=
  match n with
  | 0 => none
  | n + 1 =>
    lt_ (fX12_gateAt  y1) fun x5 =>
    gd (inb (x5 + 3) 1272) <|
    lt_ (f ((x5 + 3) : Int32).toNatClampNeg) fun x8 =>
    if x8 ≤ y3 then
      lt_ (fX12_gateAt  y1) fun x12 =>
      gd (inb (x12 + 3) 1272) <|
      lt_ (upd f ((x12 + 3) : Int32).toNatClampNeg 0) fun r15 =>
      lt_ (fX12_gateAt  y1) fun x18 =>
      gd (inb (x18 + 1) 1272) <|
      lt_ (upd r15 ((x18 + 1) : Int32).toNatClampNeg 1) fun r21 =>
      lt_ (fX12_gateAt  y1) fun x24 =>
      gd (inb (x24 + 4) 1272) <|
      lt_ (upd r21 ((x24 + 4) : Int32).toNatClampNeg 0) fun r27 =>
      gd (inb 5 1272) <|
      lt_ (r27 (5 : Int32).toNatClampNeg) fun x30 =>
      some ((x30 - y2), r27)
    else
      lt_ (fX12_logAt  y1 y3) fun x33 =>
      gd (inb x33 1272) <|
      lt_ (f (x33 : Int32).toNatClampNeg) fun x36 =>
      lt_ (fX12_logAt  y1 y3) fun x39 =>
      gd (inb (x39 + 1) 1272) <|
      lt_ (f ((x39 + 1) : Int32).toNatClampNeg) fun x42 =>
      lt_ (fX12_logAt  y1 y3) fun x45 =>
      gd (inb (x45 + 2) 1272) <|
      lt_ (f ((x45 + 2) : Int32).toNatClampNeg) fun x48 =>
      bd2 (fX12_settle f x36 x42 x48) fun x51 S52 =>
      lt_ (y3 + 1) fun x54 =>
      fX12_upOn_L6 n S52 y1 y2 x54
set_option maxHeartbeats 4000000 in
set_option maxRecDepth 20000 in
theorem lpX12_upOn_6 {l : Launch} {G : UG} {V : uV} {q : Nat} (hq : uAr G q) {B : (Nat → Nat → Int32)} {f' : (Nat → Int32)} {r : Int32} {p : Program} {e : Env} {s : State} {m : MethodId} {args : Array Value} {below : List Frame} {meth : Method} {c : Code} (X : UC p s m args meth c cX12_upOn 4 RX12 G) (hret : meth.sig.returnType = some .int) : ∀ (n : Nat) (f : (Nat → Int32)) (y1 : Int32) (y2 : Int32) (y3 : Int32) (H : Heap) (locs : List Loc) (ls : Array Slot), fX12_upOn_L6  n f y1 y2 y3 = some (r, f') → UM G (va_up V 19 (va_up B q f)) s H locs → lv_has ls 4 [(0, .ref (ga G 19 q)), (1, .int y1), (2, .int y2), (3, .int y3)] → W p l e (uR 2 46) s m args below meth c H locs 0 0 (MQ below (uQi G .int r (va_up V 19 (va_up B q f'))) args s 0 0 (uA G)) (F0 m 6 ls []) := by
  intro n
  have hx := X.hx
  have hb := X.hb
  induction n with
  | zero => intro f y1 y2 y3 H locs ls h M hl; rw [fX12_upOn_L6] at h; cases h
  | succ n ih =>
    intro f y1 y2 y3 H locs ls h M hl
    rw [fX12_upOn_L6] at h
    refine lv_iload_n hx hb dX12_upOn_6 rfl (lv_at hl 3 rfl) ?_
    refine lv_aload_n hx hb dX12_upOn_7 rfl (lv_at hl 0 rfl) ?_
    refine lv_iload_n hx hb dX12_upOn_8 rfl (lv_at hl 1 rfl) ?_
    obtain ⟨x5, e4, h⟩ := lt_e h
    refine u_cSi X M hl.1 (kX12_gateAt  e4.symm) cw_X12_40 ⟨by decide, by decide⟩ rfl rfl (Nat.le_of_ble_eq_true rfl) ⟨Nat.zero_le _, Nat.zero_le _⟩ dX12_upOn_9 (fun H locs M n6 => ?_)
    refine lv_iconst (v := 3) hx hb dX12_upOn_12 (by decide) ?_
    refine lv_iadd hx hb dX12_upOn_13 ?_
    obtain ⟨g7, h⟩ := gd_e h
    obtain ⟨x8, e9, h⟩ := lt_e h
    refine u_ald X M hq.1 (uAr_sh hq (va_up_s2 V 19 B q _)) (inb_e g7) e9 dX12_upOn_14 ?_
    refine lv_icmp_ge (tgt := 54) hx hb dX12_upOn_15 (by decide) (fun c10 => ?_) (fun c10 => ?_)
    · have h := it_t h c10
      refine lv_aload_n hx hb dX12_upOn_54 rfl (lv_at hl 0 rfl) ?_
      refine lv_iload_n hx hb dX12_upOn_55 rfl (lv_at hl 1 rfl) ?_
      obtain ⟨x12, e11, h⟩ := lt_e h
      refine u_cSi X M hl.1 (kX12_gateAt  e11.symm) cw_X12_40 ⟨by decide, by decide⟩ rfl rfl (Nat.le_of_ble_eq_true rfl) ⟨Nat.zero_le _, Nat.zero_le _⟩ dX12_upOn_56 (fun H locs M n13 => ?_)
      refine lv_iconst (v := 3) hx hb dX12_upOn_59 (by decide) ?_
      refine lv_iadd hx hb dX12_upOn_60 ?_
      refine lv_iconst (v := 0) hx hb dX12_upOn_61 (by decide) ?_
      obtain ⟨g14, h⟩ := gd_e h
      obtain ⟨r15, e16, h⟩ := lt_e h
      refine u_ast_a X M hq (inb_e g14) e16 dX12_upOn_62 (fun H locs M => ?_)
      refine lv_aload_n hx hb dX12_upOn_63 rfl (lv_at hl 0 rfl) ?_
      refine lv_iload_n hx hb dX12_upOn_64 rfl (lv_at hl 1 rfl) ?_
      obtain ⟨x18, e17, h⟩ := lt_e h
      refine u_cSi X M hl.1 (kX12_gateAt  e17.symm) cw_X12_40 ⟨by decide, by decide⟩ rfl rfl (Nat.le_of_ble_eq_true rfl) ⟨Nat.zero_le _, Nat.zero_le _⟩ dX12_upOn_65 (fun H locs M n19 => ?_)
      refine lv_iconst (v := 1) hx hb dX12_upOn_68 (by decide) ?_
      refine lv_iadd hx hb dX12_upOn_69 ?_
      refine lv_iconst (v := 1) hx hb dX12_upOn_70 (by decide) ?_
      obtain ⟨g20, h⟩ := gd_e h
      obtain ⟨r21, e22, h⟩ := lt_e h
      refine u_ast_a X M hq (inb_e g20) e22 dX12_upOn_71 (fun H locs M => ?_)
      refine lv_aload_n hx hb dX12_upOn_72 rfl (lv_at hl 0 rfl) ?_
      refine lv_iload_n hx hb dX12_upOn_73 rfl (lv_at hl 1 rfl) ?_
      obtain ⟨x24, e23, h⟩ := lt_e h
      refine u_cSi X M hl.1 (kX12_gateAt  e23.symm) cw_X12_40 ⟨by decide, by decide⟩ rfl rfl (Nat.le_of_ble_eq_true rfl) ⟨Nat.zero_le _, Nat.zero_le _⟩ dX12_upOn_74 (fun H locs M n25 => ?_)
      refine lv_iconst (v := 4) hx hb dX12_upOn_77 (by decide) ?_
      refine lv_iadd hx hb dX12_upOn_78 ?_
      refine lv_iconst (v := 0) hx hb dX12_upOn_79 (by decide) ?_
      obtain ⟨g26, h⟩ := gd_e h
      obtain ⟨r27, e28, h⟩ := lt_e h
      refine u_ast_a X M hq (inb_e g26) e28 dX12_upOn_80 (fun H locs M => ?_)
      refine lv_aload_n hx hb dX12_upOn_81 rfl (lv_at hl 0 rfl) ?_
      refine lv_iconst (v := 5) hx hb dX12_upOn_82 (by decide) ?_
      obtain ⟨g29, h⟩ := gd_e h
      obtain ⟨x30, e31, h⟩ := lt_e h
      refine u_ald X M hq.1 (uAr_sh hq (va_up_s2 V 19 B q _)) (inb_e g29) e31 dX12_upOn_83 ?_
      refine lv_iload_n hx hb dX12_upOn_84 rfl (lv_at hl 2 rfl) ?_
      refine lv_isub hx hb dX12_upOn_85 ?_
      exact u_iret X hret M (rt2 h).1 (congrArg (fun z => va_up V 19 (va_up B q z)) ((rt2 h).2)) rfl dX12_upOn_86
    · have h := it_f h c10
      refine lv_aload_n hx hb dX12_upOn_18 rfl (lv_at hl 0 rfl) ?_
      refine lv_aload_n hx hb dX12_upOn_19 rfl (lv_at hl 0 rfl) ?_
      refine lv_iload_n hx hb dX12_upOn_20 rfl (lv_at hl 1 rfl) ?_
      refine lv_iload_n hx hb dX12_upOn_21 rfl (lv_at hl 3 rfl) ?_
      obtain ⟨x33, e32, h⟩ := lt_e h
      refine u_cSi X M hl.1 (kX12_logAt  e32.symm) cw_X12_68 ⟨by decide, by decide⟩ rfl rfl (Nat.le_of_ble_eq_true rfl) ⟨Nat.zero_le _, Nat.zero_le _⟩ dX12_upOn_22 (fun H locs M n34 => ?_)
      obtain ⟨g35, h⟩ := gd_e h
      obtain ⟨x36, e37, h⟩ := lt_e h
      refine u_ald X M hq.1 (uAr_sh hq (va_up_s2 V 19 B q _)) (inb_e g35) e37 dX12_upOn_25 ?_
      refine lv_aload_n hx hb dX12_upOn_26 rfl (lv_at hl 0 rfl) ?_
      refine lv_iload_n hx hb dX12_upOn_27 rfl (lv_at hl 1 rfl) ?_
      refine lv_iload_n hx hb dX12_upOn_28 rfl (lv_at hl 3 rfl) ?_
      obtain ⟨x39, e38, h⟩ := lt_e h
      refine u_cSi X M hl.1 (kX12_logAt  e38.symm) cw_X12_68 ⟨by decide, by decide⟩ rfl rfl (Nat.le_of_ble_eq_true rfl) ⟨Nat.zero_le _, Nat.zero_le _⟩ dX12_upOn_29 (fun H locs M n40 => ?_)
      refine lv_iconst (v := 1) hx hb dX12_upOn_32 (by decide) ?_
      refine lv_iadd hx hb dX12_upOn_33 ?_
      obtain ⟨g41, h⟩ := gd_e h
      obtain ⟨x42, e43, h⟩ := lt_e h
      refine u_ald X M hq.1 (uAr_sh hq (va_up_s2 V 19 B q _)) (inb_e g41) e43 dX12_upOn_34 ?_
      refine lv_aload_n hx hb dX12_upOn_35 rfl (lv_at hl 0 rfl) ?_
      refine lv_iload_n hx hb dX12_upOn_36 rfl (lv_at hl 1 rfl) ?_
      refine lv_iload_n hx hb dX12_upOn_37 rfl (lv_at hl 3 rfl) ?_
      obtain ⟨x45, e44, h⟩ := lt_e h
      refine u_cSi X M hl.1 (kX12_logAt  e44.symm) cw_X12_68 ⟨by decide, by decide⟩ rfl rfl (Nat.le_of_ble_eq_true rfl) ⟨Nat.zero_le _, Nat.zero_le _⟩ dX12_upOn_38 (fun H locs M n46 => ?_)
      refine lv_iconst (v := 2) hx hb dX12_upOn_41 (by decide) ?_
      refine lv_iadd hx hb dX12_upOn_42 ?_
      obtain ⟨g47, h⟩ := gd_e h
      obtain ⟨x48, e49, h⟩ := lt_e h
      refine u_ald X M hq.1 (uAr_sh hq (va_up_s2 V 19 B q _)) (inb_e g47) e49 dX12_upOn_43 ?_
      obtain ⟨x51, S52, e50, h⟩ := bd2_e h
      refine u_cSi X M hl.1 (kX12_settle hq e50) cw_X12_72 ⟨by decide, by decide⟩ rfl rfl (Nat.le_of_ble_eq_true rfl) ⟨Nat.zero_le _, Nat.zero_le _⟩ dX12_upOn_44 (fun H locs M n53 => ?_)
      refine lv_pop hx hb dX12_upOn_47 rfl ?_
      obtain ⟨x54, e55, h⟩ := lt_e h
      refine lv_iinc (v := x54) (lv' := [(3, .int x54), (0, .ref (ga G 19 q)), (1, .int y1), (2, .int y2)]) hx hb dX12_upOn_48 hl (k := 3) rfl (by rw [e55]; rfl) (by decide) rfl (fun ls hl => ?_)
      refine lv_goto (tgt := 6) hx hb dX12_upOn_51 (by decide) ?_
      exact ih _ _ _ _ _ _ _ h M (lv_sub hl [1, 2, 3, 0] rfl)
def fX12_upOn (f : (Nat → Int32)) (a2 : Int32) : Option (Int32 × (Nat → Int32)) :=
  gd (inb 5 1272) <|
  lt_ (f (5 : Int32).toNatClampNeg) fun x2 =>
  fX12_upOn_L6 3000 f a2 x2 0
set_option maxHeartbeats 4000000 in
set_option maxRecDepth 20000 in
theorem kX12_upOn {l : Launch} {G : UG} {V : uV} {q : Nat} (hq : uAr G q) {B : (Nat → Nat → Int32)} {f f' : (Nat → Int32)} {a2 : Int32} {r : Int32} (h : fX12_upOn f a2 = some (r, f')) : uMi l G yX12_upOn cX12_upOn 4 .int (uR 2 46) [.ref (ga G 19 q), .int a2] (va_up V 19 (va_up B q f)) r (va_up V 19 (va_up B q f')) := by
  refine uMi_of rfl (Nat.le_of_ble_eq_true rfl) (fun p e s m args below meth c ls X hret hl M => ?_)
  have hl : lv_has ls 4 [(0, .ref (ga G 19 q)), (1, .int a2)] := hl
  have hx := X.hx
  have hb := X.hb
  unfold fX12_upOn at h
  refine lv_aload_n hx hb dX12_upOn_0 rfl (lv_at hl 0 rfl) ?_
  refine lv_iconst (v := 5) hx hb dX12_upOn_1 (by decide) ?_
  obtain ⟨g1, h⟩ := gd_e h
  obtain ⟨x2, e3, h⟩ := lt_e h
  refine u_ald X M hq.1 (uAr_sh hq (va_up_s2 V 19 B q _)) (inb_e g1) e3 dX12_upOn_2 ?_
  refine lv_istore_n (lv' := [(2, .int x2), (0, .ref (ga G 19 q)), (1, .int a2)]) hx hb dX12_upOn_3 rfl hl (by decide) rfl (fun ls hl => ?_)
  refine lv_iconst (v := 0) hx hb dX12_upOn_4 (by decide) ?_
  refine lv_istore_n (lv' := [(3, .int 0), (2, .int x2), (0, .ref (ga G 19 q)), (1, .int a2)]) hx hb dX12_upOn_5 rfl hl (by decide) rfl (fun ls hl => ?_)
  exact lpX12_upOn_6 hq X hret 3000 _ _ _ _ _ _ _ h M (lv_sub hl [2, 3, 1, 0] rfl)
def fX12_downOn (f : (Nat → Int32)) (a2 : Int32) : Option (Int32 × (Nat → Int32)) :=
  lt_ (fX12_gateAt  a2) fun x2 =>
  bd (fX12_blocked f) fun x5 =>
  gd (inb (x2 + 4) 1272) <|
  lt_ (upd f ((x2 + 4) : Int32).toNatClampNeg x5) fun r8 =>
  lt_ (fX12_gateAt  a2) fun x11 =>
  gd (inb (x11 + 1) 1272) <|
  lt_ (upd r8 ((x11 + 1) : Int32).toNatClampNeg 0) fun r14 =>
  lt_ (fX12_gateAt  a2) fun x17 =>
  gd (inb (x17 + 4) 1272) <|
  lt_ (r14 ((x17 + 4) : Int32).toNatClampNeg) fun x20 =>
  some (x20, r14)
set_option maxHeartbeats 4000000 in
set_option maxRecDepth 20000 in
theorem kX12_downOn {l : Launch} {G : UG} {V : uV} {q : Nat} (hq : uAr G q) {B : (Nat → Nat → Int32)} {f f' : (Nat → Int32)} {a2 : Int32} {r : Int32} (h : fX12_downOn f a2 = some (r, f')) : uMi l G yX12_downOn cX12_downOn 2 .int (uR 3 63) [.ref (ga G 19 q), .int a2] (va_up V 19 (va_up B q f)) r (va_up V 19 (va_up B q f')) := by
  refine uMi_of rfl (Nat.le_of_ble_eq_true rfl) (fun p e s m args below meth c ls X hret hl M => ?_)
  have hl : lv_has ls 2 [(0, .ref (ga G 19 q)), (1, .int a2)] := hl
  have hx := X.hx
  have hb := X.hb
  unfold fX12_downOn at h
  refine lv_aload_n hx hb dX12_downOn_0 rfl (lv_at hl 0 rfl) ?_
  refine lv_iload_n hx hb dX12_downOn_1 rfl (lv_at hl 1 rfl) ?_
  obtain ⟨x2, e1, h⟩ := lt_e h
  refine u_cSi X M hl.1 (kX12_gateAt  e1.symm) cw_X12_40 ⟨by decide, by decide⟩ rfl rfl (Nat.le_of_ble_eq_true rfl) ⟨Nat.zero_le _, Nat.zero_le _⟩ dX12_downOn_2 (fun H locs M n3 => ?_)
  refine lv_iconst (v := 4) hx hb dX12_downOn_5 (by decide) ?_
  refine lv_iadd hx hb dX12_downOn_6 ?_
  refine lv_aload_n hx hb dX12_downOn_7 rfl (lv_at hl 0 rfl) ?_
  obtain ⟨x5, e4, h⟩ := bd_e h
  refine u_cSi X M hl.1 (kX12_blocked hq (va_up_s2 V 19 B q _) e4) cw_X12_60 ⟨by decide, by decide⟩ rfl rfl (Nat.le_of_ble_eq_true rfl) ⟨Nat.zero_le _, Nat.zero_le _⟩ dX12_downOn_8 (fun H locs M n6 => ?_)
  obtain ⟨g7, h⟩ := gd_e h
  obtain ⟨r8, e9, h⟩ := lt_e h
  refine u_ast_a X M hq (inb_e g7) e9 dX12_downOn_11 (fun H locs M => ?_)
  refine lv_aload_n hx hb dX12_downOn_12 rfl (lv_at hl 0 rfl) ?_
  refine lv_iload_n hx hb dX12_downOn_13 rfl (lv_at hl 1 rfl) ?_
  obtain ⟨x11, e10, h⟩ := lt_e h
  refine u_cSi X M hl.1 (kX12_gateAt  e10.symm) cw_X12_40 ⟨by decide, by decide⟩ rfl rfl (Nat.le_of_ble_eq_true rfl) ⟨Nat.zero_le _, Nat.zero_le _⟩ dX12_downOn_14 (fun H locs M n12 => ?_)
  refine lv_iconst (v := 1) hx hb dX12_downOn_17 (by decide) ?_
  refine lv_iadd hx hb dX12_downOn_18 ?_
  refine lv_iconst (v := 0) hx hb dX12_downOn_19 (by decide) ?_
  obtain ⟨g13, h⟩ := gd_e h
  obtain ⟨r14, e15, h⟩ := lt_e h
  refine u_ast_a X M hq (inb_e g13) e15 dX12_downOn_20 (fun H locs M => ?_)
  refine lv_aload_n hx hb dX12_downOn_21 rfl (lv_at hl 0 rfl) ?_
  refine lv_iload_n hx hb dX12_downOn_22 rfl (lv_at hl 1 rfl) ?_
  obtain ⟨x17, e16, h⟩ := lt_e h
  refine u_cSi X M hl.1 (kX12_gateAt  e16.symm) cw_X12_40 ⟨by decide, by decide⟩ rfl rfl (Nat.le_of_ble_eq_true rfl) ⟨Nat.zero_le _, Nat.zero_le _⟩ dX12_downOn_23 (fun H locs M n18 => ?_)
  refine lv_iconst (v := 4) hx hb dX12_downOn_26 (by decide) ?_
  refine lv_iadd hx hb dX12_downOn_27 ?_
  obtain ⟨g19, h⟩ := gd_e h
  obtain ⟨x20, e21, h⟩ := lt_e h
  refine u_ald X M hq.1 (uAr_sh hq (va_up_s2 V 19 B q _)) (inb_e g19) e21 dX12_downOn_28 ?_
  exact u_iret X hret M (rt2 h).1 (congrArg (fun z => va_up V 19 (va_up B q z)) ((rt2 h).2)) rfl dX12_downOn_29
def fX12_comesTo (f : (Nat → Int32)) (a2 : Int32) (a3 : Int32) : Option Int32 :=
  lt_ (fX12_cardAt  a2) fun x2 =>
  lt_ (fX12_gateAt  a3) fun x5 =>
  bd (fX12_list f a3) fun x8 =>
  gd (inb (x2 + 0) 1272) <|
  lt_ (f ((x2 + 0) : Int32).toNatClampNeg) fun x11 =>
  if ((x8 >>> (x11 &&& 31)) &&& 1) = 1 then
    some 3
  else
    gd (inb (x2 + 3) 1272) <|
    lt_ (f ((x2 + 3) : Int32).toNatClampNeg) fun x15 =>
    if x15 ≤ 0 then
      bd (fX12_isUp f a3) fun x19 =>
      if x19 = 0 then
        gd (inb 8 1272) <|
        lt_ (f (8 : Int32).toNatClampNeg) fun x23 =>
        lt_ ((-x23)) fun x25 =>
        gd (inb (x2 + 1) 1272) <|
        lt_ (f ((x2 + 1) : Int32).toNatClampNeg) fun x28 =>
        gd (inb (x5 + 0) 1272) <|
        lt_ (f ((x5 + 0) : Int32).toNatClampNeg) fun x31 =>
        if x25 ≤ (x28 - x31) then
          bd (fX12_isUp f a3) fun x35 =>
          if x35 = 0 then
            gd (inb (x5 + 3) 1272) <|
            lt_ (f ((x5 + 3) : Int32).toNatClampNeg) fun x39 =>
            if 12 ≤ x39 then
              gd (inb 10 1272) <|
              lt_ (f (10 : Int32).toNatClampNeg) fun x43 =>
              if x43 = 1 then
                some 7
              else
                some 6
            else
              some 1
          else
            some 0
        else
          some 5
      else
        gd (inb (x2 + 1) 1272) <|
        lt_ (f ((x2 + 1) : Int32).toNatClampNeg) fun x47 =>
        gd (inb (x5 + 0) 1272) <|
        lt_ (f ((x5 + 0) : Int32).toNatClampNeg) fun x50 =>
        if 0 ≤ (x47 - x50) then
          bd (fX12_isUp f a3) fun x54 =>
          if x54 = 0 then
            gd (inb (x5 + 3) 1272) <|
            lt_ (f ((x5 + 3) : Int32).toNatClampNeg) fun x58 =>
            if 12 ≤ x58 then
              gd (inb 10 1272) <|
              lt_ (f (10 : Int32).toNatClampNeg) fun x62 =>
              if x62 = 1 then
                some 7
              else
                some 6
            else
              some 1
          else
            some 0
        else
          some 5
    else
      gd (inb 2 1272) <|
      lt_ (f (2 : Int32).toNatClampNeg) fun x66 =>
      lt_ (f ((x2 + 3) : Int32).toNatClampNeg) fun x68 =>
      gd (inb 9 1272) <|
      lt_ (f (9 : Int32).toNatClampNeg) fun x71 =>
      if x71 ≤ (x66 - (x68 - 1)) then
        bd (fX12_isUp f a3) fun x75 =>
        if x75 = 0 then
          gd (inb 8 1272) <|
          lt_ (f (8 : Int32).toNatClampNeg) fun x79 =>
          lt_ ((-x79)) fun x81 =>
          gd (inb (x2 + 1) 1272) <|
          lt_ (f ((x2 + 1) : Int32).toNatClampNeg) fun x84 =>
          gd (inb (x5 + 0) 1272) <|
          lt_ (f ((x5 + 0) : Int32).toNatClampNeg) fun x87 =>
          if x81 ≤ (x84 - x87) then
            bd (fX12_isUp f a3) fun x91 =>
            if x91 = 0 then
              gd (inb (x5 + 3) 1272) <|
              lt_ (f ((x5 + 3) : Int32).toNatClampNeg) fun x95 =>
              if 12 ≤ x95 then
                gd (inb 10 1272) <|
                lt_ (f (10 : Int32).toNatClampNeg) fun x99 =>
                if x99 = 1 then
                  some 7
                else
                  some 6
              else
                some 1
            else
              some 0
          else
            some 5
        else
          gd (inb (x2 + 1) 1272) <|
          lt_ (f ((x2 + 1) : Int32).toNatClampNeg) fun x103 =>
          gd (inb (x5 + 0) 1272) <|
          lt_ (f ((x5 + 0) : Int32).toNatClampNeg) fun x106 =>
          if 0 ≤ (x103 - x106) then
            bd (fX12_isUp f a3) fun x110 =>
            if x110 = 0 then
              gd (inb (x5 + 3) 1272) <|
              lt_ (f ((x5 + 3) : Int32).toNatClampNeg) fun x114 =>
              if 12 ≤ x114 then
                gd (inb 10 1272) <|
                lt_ (f (10 : Int32).toNatClampNeg) fun x118 =>
                if x118 = 1 then
                  some 7
                else
                  some 6
              else
                some 1
            else
              some 0
          else
            some 5
      else
        some 4
set_option maxHeartbeats 4000000 in
set_option maxRecDepth 20000 in
theorem kX12_comesTo {l : Launch} {G : UG} {V : uV} {q : Nat} (hq : uAr G q) {f : (Nat → Int32)} (hV : V 19 q = f) {a2 : Int32} {a3 : Int32} {r : Int32} (h : fX12_comesTo f a2 a3 = some r) : uMi l G yX12_comesTo cX12_comesTo 6 .int (uR 4 84) [.ref (ga G 19 q), .int a2, .int a3] V r V := by
  refine uMi_of rfl (Nat.le_of_ble_eq_true rfl) (fun p e s m args below meth c ls X hret hl M => ?_)
  have hl : lv_has ls 6 [(0, .ref (ga G 19 q)), (1, .int a2), (2, .int a3)] := hl
  have hx := X.hx
  have hb := X.hb
  unfold fX12_comesTo at h
  refine lv_iload_n hx hb dX12_comesTo_0 rfl (lv_at hl 1 rfl) ?_
  obtain ⟨x2, e1, h⟩ := lt_e h
  refine u_cSi X M hl.1 (kX12_cardAt  e1.symm) cw_X12_76 ⟨by decide, by decide⟩ rfl rfl (Nat.le_of_ble_eq_true rfl) ⟨Nat.zero_le _, Nat.zero_le _⟩ dX12_comesTo_1 (fun H locs M n3 => ?_)
  refine lv_istore_n (lv' := [(3, .int x2), (0, .ref (ga G 19 q)), (1, .int a2), (2, .int a3)]) hx hb dX12_comesTo_4 rfl hl (by decide) rfl (fun ls hl => ?_)
  refine lv_iload_n hx hb dX12_comesTo_5 rfl (lv_at hl 3 rfl) ?_
  obtain ⟨x5, e4, h⟩ := lt_e h
  refine u_cSi X M hl.1 (kX12_gateAt  e4.symm) cw_X12_40 ⟨by decide, by decide⟩ rfl rfl (Nat.le_of_ble_eq_true rfl) ⟨Nat.zero_le _, Nat.zero_le _⟩ dX12_comesTo_6 (fun H locs M n6 => ?_)
  refine lv_istore (lv' := [(4, .int x5), (3, .int x2), (0, .ref (ga G 19 q)), (1, .int a2), (2, .int a3)]) hx hb dX12_comesTo_9 hl (by decide) rfl (fun ls hl => ?_)
  refine lv_aload_n hx hb dX12_comesTo_11 rfl (lv_at hl 2 rfl) ?_
  refine lv_iload_n hx hb dX12_comesTo_12 rfl (lv_at hl 4 rfl) ?_
  obtain ⟨x8, e7, h⟩ := bd_e h
  refine u_cSi X M hl.1 (kX12_list hq hV e7) cw_X12_79 ⟨by decide, by decide⟩ rfl rfl (Nat.le_of_ble_eq_true rfl) ⟨Nat.zero_le _, Nat.zero_le _⟩ dX12_comesTo_13 (fun H locs M n9 => ?_)
  refine lv_aload_n hx hb dX12_comesTo_16 rfl (lv_at hl 2 rfl) ?_
  refine lv_iload_n hx hb dX12_comesTo_17 rfl (lv_at hl 1 rfl) ?_
  refine lv_iconst (v := 0) hx hb dX12_comesTo_18 (by decide) ?_
  refine lv_iadd hx hb dX12_comesTo_19 ?_
  obtain ⟨g10, h⟩ := gd_e h
  obtain ⟨x11, e12, h⟩ := lt_e h
  refine u_ald X M hq.1 (uAr_sh hq hV) (inb_e g10) e12 dX12_comesTo_20 ?_
  refine lv_ishr hx hb dX12_comesTo_21 ?_
  refine lv_iconst (v := 1) hx hb dX12_comesTo_22 (by decide) ?_
  refine lv_iand hx hb dX12_comesTo_23 ?_
  refine lv_iconst (v := 1) hx hb dX12_comesTo_24 (by decide) ?_
  refine lv_icmp_ne (tgt := 30) hx hb dX12_comesTo_25 (by decide) (fun c13 => ?_) (fun c13 => ?_)
  · have h := it_f h c13
    refine lv_aload_n hx hb dX12_comesTo_30 rfl (lv_at hl 2 rfl) ?_
    refine lv_iload_n hx hb dX12_comesTo_31 rfl (lv_at hl 1 rfl) ?_
    refine lv_iconst (v := 3) hx hb dX12_comesTo_32 (by decide) ?_
    refine lv_iadd hx hb dX12_comesTo_33 ?_
    obtain ⟨g14, h⟩ := gd_e h
    obtain ⟨x15, e16, h⟩ := lt_e h
    refine u_ald X M hq.1 (uAr_sh hq hV) (inb_e g14) e16 dX12_comesTo_34 ?_
    refine lv_if_le (tgt := 58) hx hb dX12_comesTo_35 (by decide) (fun c17 => ?_) (fun c17 => ?_)
    · have h := it_t h c17
      refine lv_aload_n hx hb dX12_comesTo_58 rfl (lv_at hl 2 rfl) ?_
      refine lv_iload_n hx hb dX12_comesTo_59 rfl (lv_at hl 4 rfl) ?_
      obtain ⟨x19, e18, h⟩ := bd_e h
      refine u_cSi X M hl.1 (kX12_isUp hq hV e18) cw_X12_57 ⟨by decide, by decide⟩ rfl rfl (Nat.le_of_ble_eq_true rfl) ⟨Nat.zero_le _, Nat.zero_le _⟩ dX12_comesTo_60 (fun H locs M n20 => ?_)
      refine lv_if_eq (tgt := 70) hx hb dX12_comesTo_63 (by decide) (fun c21 => ?_) (fun c21 => ?_)
      · have h := it_t h c21
        refine lv_aload_n hx hb dX12_comesTo_70 rfl (lv_at hl 2 rfl) ?_
        refine lv_bipush (v := 8) hx hb dX12_comesTo_71 (by decide) ?_
        obtain ⟨g22, h⟩ := gd_e h
        obtain ⟨x23, e24, h⟩ := lt_e h
        refine u_ald X M hq.1 (uAr_sh hq hV) (inb_e g22) e24 dX12_comesTo_73 ?_
        refine lv_ineg hx hb dX12_comesTo_74 ?_
        obtain ⟨x25, e26, h⟩ := lt_e h
        refine u_topi e26 ?_
        refine lv_istore (lv' := [(5, .int x25), (4, .int x5), (3, .int x2), (0, .ref (ga G 19 q)), (1, .int a2), (2, .int a3)]) hx hb dX12_comesTo_75 hl (by decide) rfl (fun ls hl => ?_)
        refine lv_aload_n hx hb dX12_comesTo_77 rfl (lv_at hl 3 rfl) ?_
        refine lv_iload_n hx hb dX12_comesTo_78 rfl (lv_at hl 2 rfl) ?_
        refine lv_iconst (v := 1) hx hb dX12_comesTo_79 (by decide) ?_
        refine lv_iadd hx hb dX12_comesTo_80 ?_
        obtain ⟨g27, h⟩ := gd_e h
        obtain ⟨x28, e29, h⟩ := lt_e h
        refine u_ald X M hq.1 (uAr_sh hq hV) (inb_e g27) e29 dX12_comesTo_81 ?_
        refine lv_aload_n hx hb dX12_comesTo_82 rfl (lv_at hl 3 rfl) ?_
        refine lv_iload hx hb dX12_comesTo_83 (lv_at hl 1 rfl) ?_
        refine lv_iconst (v := 0) hx hb dX12_comesTo_85 (by decide) ?_
        refine lv_iadd hx hb dX12_comesTo_86 ?_
        obtain ⟨g30, h⟩ := gd_e h
        obtain ⟨x31, e32, h⟩ := lt_e h
        refine u_ald X M hq.1 (uAr_sh hq hV) (inb_e g30) e32 dX12_comesTo_87 ?_
        refine lv_isub hx hb dX12_comesTo_88 ?_
        refine lv_iload hx hb dX12_comesTo_89 (lv_at hl 0 rfl) ?_
        refine lv_icmp_ge (tgt := 96) hx hb dX12_comesTo_91 (by decide) (fun c33 => ?_) (fun c33 => ?_)
        · have h := it_t h c33
          refine lv_aload_n hx hb dX12_comesTo_96 rfl (lv_at hl 3 rfl) ?_
          refine lv_iload_n hx hb dX12_comesTo_97 rfl (lv_at hl 5 rfl) ?_
          obtain ⟨x35, e34, h⟩ := bd_e h
          refine u_cSi X M hl.1 (kX12_isUp hq hV e34) cw_X12_57 ⟨by decide, by decide⟩ rfl rfl (Nat.le_of_ble_eq_true rfl) ⟨Nat.zero_le _, Nat.zero_le _⟩ dX12_comesTo_98 (fun H locs M n36 => ?_)
          refine lv_if_eq (tgt := 106) hx hb dX12_comesTo_101 (by decide) (fun c37 => ?_) (fun c37 => ?_)
          · have h := it_t h c37
            refine lv_aload_n hx hb dX12_comesTo_106 rfl (lv_at hl 3 rfl) ?_
            refine lv_iload hx hb dX12_comesTo_107 (lv_at hl 1 rfl) ?_
            refine lv_iconst (v := 3) hx hb dX12_comesTo_109 (by decide) ?_
            refine lv_iadd hx hb dX12_comesTo_110 ?_
            obtain ⟨g38, h⟩ := gd_e h
            obtain ⟨x39, e40, h⟩ := lt_e h
            refine u_ald X M hq.1 (uAr_sh hq hV) (inb_e g38) e40 dX12_comesTo_111 ?_
            refine lv_bipush (v := 12) hx hb dX12_comesTo_112 (by decide) ?_
            refine lv_icmp_ge (tgt := 121) hx hb dX12_comesTo_114 (by decide) (fun c41 => ?_) (fun c41 => ?_)
            · have h := it_t h c41
              refine lv_aload_n hx hb dX12_comesTo_121 rfl (lv_at hl 3 rfl) ?_
              refine lv_bipush (v := 10) hx hb dX12_comesTo_122 (by decide) ?_
              obtain ⟨g42, h⟩ := gd_e h
              obtain ⟨x43, e44, h⟩ := lt_e h
              refine u_ald X M hq.1 (uAr_sh hq hV) (inb_e g42) e44 dX12_comesTo_124 ?_
              refine lv_iconst (v := 1) hx hb dX12_comesTo_125 (by decide) ?_
              refine lv_icmp_ne (tgt := 134) hx hb dX12_comesTo_126 (by decide) (fun c45 => ?_) (fun c45 => ?_)
              · have h := it_f h c45
                refine lv_bipush (v := 6) hx hb dX12_comesTo_134 (by decide) ?_
                exact u_iret X hret M (Option.some.inj h) (rfl) rfl dX12_comesTo_136
              · have h := it_t h c45
                refine lv_bipush (v := 7) hx hb dX12_comesTo_129 (by decide) ?_
                refine lv_goto (tgt := 136) hx hb dX12_comesTo_131 (by decide) ?_
                exact u_iret X hret M (Option.some.inj h) (rfl) rfl dX12_comesTo_136
            · have h := it_f h c41
              refine lv_iconst (v := 1) hx hb dX12_comesTo_117 (by decide) ?_
              refine lv_goto (tgt := 136) hx hb dX12_comesTo_118 (by decide) ?_
              exact u_iret X hret M (Option.some.inj h) (rfl) rfl dX12_comesTo_136
          · have h := it_f h c37
            refine lv_iconst (v := 0) hx hb dX12_comesTo_104 (by decide) ?_
            exact u_iret X hret M (Option.some.inj h) (rfl) rfl dX12_comesTo_105
        · have h := it_f h c33
          refine lv_iconst (v := 5) hx hb dX12_comesTo_94 (by decide) ?_
          exact u_iret X hret M (Option.some.inj h) (rfl) rfl dX12_comesTo_95
      · have h := it_f h c21
        refine lv_iconst (v := 0) hx hb dX12_comesTo_66 (by decide) ?_
        refine lv_goto (tgt := 75) hx hb dX12_comesTo_67 (by decide) ?_
        refine lv_istore (lv' := [(5, .int 0), (4, .int x5), (3, .int x2), (0, .ref (ga G 19 q)), (1, .int a2), (2, .int a3)]) hx hb dX12_comesTo_75 hl (by decide) rfl (fun ls hl => ?_)
        refine lv_aload_n hx hb dX12_comesTo_77 rfl (lv_at hl 3 rfl) ?_
        refine lv_iload_n hx hb dX12_comesTo_78 rfl (lv_at hl 2 rfl) ?_
        refine lv_iconst (v := 1) hx hb dX12_comesTo_79 (by decide) ?_
        refine lv_iadd hx hb dX12_comesTo_80 ?_
        obtain ⟨g46, h⟩ := gd_e h
        obtain ⟨x47, e48, h⟩ := lt_e h
        refine u_ald X M hq.1 (uAr_sh hq hV) (inb_e g46) e48 dX12_comesTo_81 ?_
        refine lv_aload_n hx hb dX12_comesTo_82 rfl (lv_at hl 3 rfl) ?_
        refine lv_iload hx hb dX12_comesTo_83 (lv_at hl 1 rfl) ?_
        refine lv_iconst (v := 0) hx hb dX12_comesTo_85 (by decide) ?_
        refine lv_iadd hx hb dX12_comesTo_86 ?_
        obtain ⟨g49, h⟩ := gd_e h
        obtain ⟨x50, e51, h⟩ := lt_e h
        refine u_ald X M hq.1 (uAr_sh hq hV) (inb_e g49) e51 dX12_comesTo_87 ?_
        refine lv_isub hx hb dX12_comesTo_88 ?_
        refine lv_iload hx hb dX12_comesTo_89 (lv_at hl 0 rfl) ?_
        refine lv_icmp_ge (tgt := 96) hx hb dX12_comesTo_91 (by decide) (fun c52 => ?_) (fun c52 => ?_)
        · have h := it_t h c52
          refine lv_aload_n hx hb dX12_comesTo_96 rfl (lv_at hl 3 rfl) ?_
          refine lv_iload_n hx hb dX12_comesTo_97 rfl (lv_at hl 5 rfl) ?_
          obtain ⟨x54, e53, h⟩ := bd_e h
          refine u_cSi X M hl.1 (kX12_isUp hq hV e53) cw_X12_57 ⟨by decide, by decide⟩ rfl rfl (Nat.le_of_ble_eq_true rfl) ⟨Nat.zero_le _, Nat.zero_le _⟩ dX12_comesTo_98 (fun H locs M n55 => ?_)
          refine lv_if_eq (tgt := 106) hx hb dX12_comesTo_101 (by decide) (fun c56 => ?_) (fun c56 => ?_)
          · have h := it_t h c56
            refine lv_aload_n hx hb dX12_comesTo_106 rfl (lv_at hl 3 rfl) ?_
            refine lv_iload hx hb dX12_comesTo_107 (lv_at hl 1 rfl) ?_
            refine lv_iconst (v := 3) hx hb dX12_comesTo_109 (by decide) ?_
            refine lv_iadd hx hb dX12_comesTo_110 ?_
            obtain ⟨g57, h⟩ := gd_e h
            obtain ⟨x58, e59, h⟩ := lt_e h
            refine u_ald X M hq.1 (uAr_sh hq hV) (inb_e g57) e59 dX12_comesTo_111 ?_
            refine lv_bipush (v := 12) hx hb dX12_comesTo_112 (by decide) ?_
            refine lv_icmp_ge (tgt := 121) hx hb dX12_comesTo_114 (by decide) (fun c60 => ?_) (fun c60 => ?_)
            · have h := it_t h c60
              refine lv_aload_n hx hb dX12_comesTo_121 rfl (lv_at hl 3 rfl) ?_
              refine lv_bipush (v := 10) hx hb dX12_comesTo_122 (by decide) ?_
              obtain ⟨g61, h⟩ := gd_e h
              obtain ⟨x62, e63, h⟩ := lt_e h
              refine u_ald X M hq.1 (uAr_sh hq hV) (inb_e g61) e63 dX12_comesTo_124 ?_
              refine lv_iconst (v := 1) hx hb dX12_comesTo_125 (by decide) ?_
              refine lv_icmp_ne (tgt := 134) hx hb dX12_comesTo_126 (by decide) (fun c64 => ?_) (fun c64 => ?_)
              · have h := it_f h c64
                refine lv_bipush (v := 6) hx hb dX12_comesTo_134 (by decide) ?_
                exact u_iret X hret M (Option.some.inj h) (rfl) rfl dX12_comesTo_136
              · have h := it_t h c64
                refine lv_bipush (v := 7) hx hb dX12_comesTo_129 (by decide) ?_
                refine lv_goto (tgt := 136) hx hb dX12_comesTo_131 (by decide) ?_
                exact u_iret X hret M (Option.some.inj h) (rfl) rfl dX12_comesTo_136
            · have h := it_f h c60
              refine lv_iconst (v := 1) hx hb dX12_comesTo_117 (by decide) ?_
              refine lv_goto (tgt := 136) hx hb dX12_comesTo_118 (by decide) ?_
              exact u_iret X hret M (Option.some.inj h) (rfl) rfl dX12_comesTo_136
          · have h := it_f h c56
            refine lv_iconst (v := 0) hx hb dX12_comesTo_104 (by decide) ?_
            exact u_iret X hret M (Option.some.inj h) (rfl) rfl dX12_comesTo_105
        · have h := it_f h c52
          refine lv_iconst (v := 5) hx hb dX12_comesTo_94 (by decide) ?_
          exact u_iret X hret M (Option.some.inj h) (rfl) rfl dX12_comesTo_95
    · have h := it_f h c17
      refine lv_aload_n hx hb dX12_comesTo_38 rfl (lv_at hl 2 rfl) ?_
      refine lv_iconst (v := 2) hx hb dX12_comesTo_39 (by decide) ?_
      obtain ⟨g65, h⟩ := gd_e h
      obtain ⟨x66, e67, h⟩ := lt_e h
      refine u_ald X M hq.1 (uAr_sh hq hV) (inb_e g65) e67 dX12_comesTo_40 ?_
      refine lv_aload_n hx hb dX12_comesTo_41 rfl (lv_at hl 2 rfl) ?_
      refine lv_iload_n hx hb dX12_comesTo_42 rfl (lv_at hl 1 rfl) ?_
      refine lv_iconst (v := 3) hx hb dX12_comesTo_43 (by decide) ?_
      refine lv_iadd hx hb dX12_comesTo_44 ?_
      obtain ⟨x68, e69, h⟩ := lt_e h
      refine u_ald X M hq.1 (uAr_sh hq hV) (inb_e g14) e69 dX12_comesTo_45 ?_
      refine lv_iconst (v := 1) hx hb dX12_comesTo_46 (by decide) ?_
      refine lv_isub hx hb dX12_comesTo_47 ?_
      refine lv_isub hx hb dX12_comesTo_48 ?_
      refine lv_aload_n hx hb dX12_comesTo_49 rfl (lv_at hl 2 rfl) ?_
      refine lv_bipush (v := 9) hx hb dX12_comesTo_50 (by decide) ?_
      obtain ⟨g70, h⟩ := gd_e h
      obtain ⟨x71, e72, h⟩ := lt_e h
      refine u_ald X M hq.1 (uAr_sh hq hV) (inb_e g70) e72 dX12_comesTo_52 ?_
      refine lv_icmp_ge (tgt := 58) hx hb dX12_comesTo_53 (by decide) (fun c73 => ?_) (fun c73 => ?_)
      · have h := it_t h c73
        refine lv_aload_n hx hb dX12_comesTo_58 rfl (lv_at hl 2 rfl) ?_
        refine lv_iload_n hx hb dX12_comesTo_59 rfl (lv_at hl 4 rfl) ?_
        obtain ⟨x75, e74, h⟩ := bd_e h
        refine u_cSi X M hl.1 (kX12_isUp hq hV e74) cw_X12_57 ⟨by decide, by decide⟩ rfl rfl (Nat.le_of_ble_eq_true rfl) ⟨Nat.zero_le _, Nat.zero_le _⟩ dX12_comesTo_60 (fun H locs M n76 => ?_)
        refine lv_if_eq (tgt := 70) hx hb dX12_comesTo_63 (by decide) (fun c77 => ?_) (fun c77 => ?_)
        · have h := it_t h c77
          refine lv_aload_n hx hb dX12_comesTo_70 rfl (lv_at hl 2 rfl) ?_
          refine lv_bipush (v := 8) hx hb dX12_comesTo_71 (by decide) ?_
          obtain ⟨g78, h⟩ := gd_e h
          obtain ⟨x79, e80, h⟩ := lt_e h
          refine u_ald X M hq.1 (uAr_sh hq hV) (inb_e g78) e80 dX12_comesTo_73 ?_
          refine lv_ineg hx hb dX12_comesTo_74 ?_
          obtain ⟨x81, e82, h⟩ := lt_e h
          refine u_topi e82 ?_
          refine lv_istore (lv' := [(5, .int x81), (4, .int x5), (3, .int x2), (0, .ref (ga G 19 q)), (1, .int a2), (2, .int a3)]) hx hb dX12_comesTo_75 hl (by decide) rfl (fun ls hl => ?_)
          refine lv_aload_n hx hb dX12_comesTo_77 rfl (lv_at hl 3 rfl) ?_
          refine lv_iload_n hx hb dX12_comesTo_78 rfl (lv_at hl 2 rfl) ?_
          refine lv_iconst (v := 1) hx hb dX12_comesTo_79 (by decide) ?_
          refine lv_iadd hx hb dX12_comesTo_80 ?_
          obtain ⟨g83, h⟩ := gd_e h
          obtain ⟨x84, e85, h⟩ := lt_e h
          refine u_ald X M hq.1 (uAr_sh hq hV) (inb_e g83) e85 dX12_comesTo_81 ?_
          refine lv_aload_n hx hb dX12_comesTo_82 rfl (lv_at hl 3 rfl) ?_
          refine lv_iload hx hb dX12_comesTo_83 (lv_at hl 1 rfl) ?_
          refine lv_iconst (v := 0) hx hb dX12_comesTo_85 (by decide) ?_
          refine lv_iadd hx hb dX12_comesTo_86 ?_
          obtain ⟨g86, h⟩ := gd_e h
          obtain ⟨x87, e88, h⟩ := lt_e h
          refine u_ald X M hq.1 (uAr_sh hq hV) (inb_e g86) e88 dX12_comesTo_87 ?_
          refine lv_isub hx hb dX12_comesTo_88 ?_
          refine lv_iload hx hb dX12_comesTo_89 (lv_at hl 0 rfl) ?_
          refine lv_icmp_ge (tgt := 96) hx hb dX12_comesTo_91 (by decide) (fun c89 => ?_) (fun c89 => ?_)
          · have h := it_t h c89
            refine lv_aload_n hx hb dX12_comesTo_96 rfl (lv_at hl 3 rfl) ?_
            refine lv_iload_n hx hb dX12_comesTo_97 rfl (lv_at hl 5 rfl) ?_
            obtain ⟨x91, e90, h⟩ := bd_e h
            refine u_cSi X M hl.1 (kX12_isUp hq hV e90) cw_X12_57 ⟨by decide, by decide⟩ rfl rfl (Nat.le_of_ble_eq_true rfl) ⟨Nat.zero_le _, Nat.zero_le _⟩ dX12_comesTo_98 (fun H locs M n92 => ?_)
            refine lv_if_eq (tgt := 106) hx hb dX12_comesTo_101 (by decide) (fun c93 => ?_) (fun c93 => ?_)
            · have h := it_t h c93
              refine lv_aload_n hx hb dX12_comesTo_106 rfl (lv_at hl 3 rfl) ?_
              refine lv_iload hx hb dX12_comesTo_107 (lv_at hl 1 rfl) ?_
              refine lv_iconst (v := 3) hx hb dX12_comesTo_109 (by decide) ?_
              refine lv_iadd hx hb dX12_comesTo_110 ?_
              obtain ⟨g94, h⟩ := gd_e h
              obtain ⟨x95, e96, h⟩ := lt_e h
              refine u_ald X M hq.1 (uAr_sh hq hV) (inb_e g94) e96 dX12_comesTo_111 ?_
              refine lv_bipush (v := 12) hx hb dX12_comesTo_112 (by decide) ?_
              refine lv_icmp_ge (tgt := 121) hx hb dX12_comesTo_114 (by decide) (fun c97 => ?_) (fun c97 => ?_)
              · have h := it_t h c97
                refine lv_aload_n hx hb dX12_comesTo_121 rfl (lv_at hl 3 rfl) ?_
                refine lv_bipush (v := 10) hx hb dX12_comesTo_122 (by decide) ?_
                obtain ⟨g98, h⟩ := gd_e h
                obtain ⟨x99, e100, h⟩ := lt_e h
                refine u_ald X M hq.1 (uAr_sh hq hV) (inb_e g98) e100 dX12_comesTo_124 ?_
                refine lv_iconst (v := 1) hx hb dX12_comesTo_125 (by decide) ?_
                refine lv_icmp_ne (tgt := 134) hx hb dX12_comesTo_126 (by decide) (fun c101 => ?_) (fun c101 => ?_)
                · have h := it_f h c101
                  refine lv_bipush (v := 6) hx hb dX12_comesTo_134 (by decide) ?_
                  exact u_iret X hret M (Option.some.inj h) (rfl) rfl dX12_comesTo_136
                · have h := it_t h c101
                  refine lv_bipush (v := 7) hx hb dX12_comesTo_129 (by decide) ?_
                  refine lv_goto (tgt := 136) hx hb dX12_comesTo_131 (by decide) ?_
                  exact u_iret X hret M (Option.some.inj h) (rfl) rfl dX12_comesTo_136
              · have h := it_f h c97
                refine lv_iconst (v := 1) hx hb dX12_comesTo_117 (by decide) ?_
                refine lv_goto (tgt := 136) hx hb dX12_comesTo_118 (by decide) ?_
                exact u_iret X hret M (Option.some.inj h) (rfl) rfl dX12_comesTo_136
            · have h := it_f h c93
              refine lv_iconst (v := 0) hx hb dX12_comesTo_104 (by decide) ?_
              exact u_iret X hret M (Option.some.inj h) (rfl) rfl dX12_comesTo_105
          · have h := it_f h c89
            refine lv_iconst (v := 5) hx hb dX12_comesTo_94 (by decide) ?_
            exact u_iret X hret M (Option.some.inj h) (rfl) rfl dX12_comesTo_95
        · have h := it_f h c77
          refine lv_iconst (v := 0) hx hb dX12_comesTo_66 (by decide) ?_
          refine lv_goto (tgt := 75) hx hb dX12_comesTo_67 (by decide) ?_
          refine lv_istore (lv' := [(5, .int 0), (4, .int x5), (3, .int x2), (0, .ref (ga G 19 q)), (1, .int a2), (2, .int a3)]) hx hb dX12_comesTo_75 hl (by decide) rfl (fun ls hl => ?_)
          refine lv_aload_n hx hb dX12_comesTo_77 rfl (lv_at hl 3 rfl) ?_
          refine lv_iload_n hx hb dX12_comesTo_78 rfl (lv_at hl 2 rfl) ?_
          refine lv_iconst (v := 1) hx hb dX12_comesTo_79 (by decide) ?_
          refine lv_iadd hx hb dX12_comesTo_80 ?_
          obtain ⟨g102, h⟩ := gd_e h
          obtain ⟨x103, e104, h⟩ := lt_e h
          refine u_ald X M hq.1 (uAr_sh hq hV) (inb_e g102) e104 dX12_comesTo_81 ?_
          refine lv_aload_n hx hb dX12_comesTo_82 rfl (lv_at hl 3 rfl) ?_
          refine lv_iload hx hb dX12_comesTo_83 (lv_at hl 1 rfl) ?_
          refine lv_iconst (v := 0) hx hb dX12_comesTo_85 (by decide) ?_
          refine lv_iadd hx hb dX12_comesTo_86 ?_
          obtain ⟨g105, h⟩ := gd_e h
          obtain ⟨x106, e107, h⟩ := lt_e h
          refine u_ald X M hq.1 (uAr_sh hq hV) (inb_e g105) e107 dX12_comesTo_87 ?_
          refine lv_isub hx hb dX12_comesTo_88 ?_
          refine lv_iload hx hb dX12_comesTo_89 (lv_at hl 0 rfl) ?_
          refine lv_icmp_ge (tgt := 96) hx hb dX12_comesTo_91 (by decide) (fun c108 => ?_) (fun c108 => ?_)
          · have h := it_t h c108
            refine lv_aload_n hx hb dX12_comesTo_96 rfl (lv_at hl 3 rfl) ?_
            refine lv_iload_n hx hb dX12_comesTo_97 rfl (lv_at hl 5 rfl) ?_
            obtain ⟨x110, e109, h⟩ := bd_e h
            refine u_cSi X M hl.1 (kX12_isUp hq hV e109) cw_X12_57 ⟨by decide, by decide⟩ rfl rfl (Nat.le_of_ble_eq_true rfl) ⟨Nat.zero_le _, Nat.zero_le _⟩ dX12_comesTo_98 (fun H locs M n111 => ?_)
            refine lv_if_eq (tgt := 106) hx hb dX12_comesTo_101 (by decide) (fun c112 => ?_) (fun c112 => ?_)
            · have h := it_t h c112
              refine lv_aload_n hx hb dX12_comesTo_106 rfl (lv_at hl 3 rfl) ?_
              refine lv_iload hx hb dX12_comesTo_107 (lv_at hl 1 rfl) ?_
              refine lv_iconst (v := 3) hx hb dX12_comesTo_109 (by decide) ?_
              refine lv_iadd hx hb dX12_comesTo_110 ?_
              obtain ⟨g113, h⟩ := gd_e h
              obtain ⟨x114, e115, h⟩ := lt_e h
              refine u_ald X M hq.1 (uAr_sh hq hV) (inb_e g113) e115 dX12_comesTo_111 ?_
              refine lv_bipush (v := 12) hx hb dX12_comesTo_112 (by decide) ?_
              refine lv_icmp_ge (tgt := 121) hx hb dX12_comesTo_114 (by decide) (fun c116 => ?_) (fun c116 => ?_)
              · have h := it_t h c116
                refine lv_aload_n hx hb dX12_comesTo_121 rfl (lv_at hl 3 rfl) ?_
                refine lv_bipush (v := 10) hx hb dX12_comesTo_122 (by decide) ?_
                obtain ⟨g117, h⟩ := gd_e h
                obtain ⟨x118, e119, h⟩ := lt_e h
                refine u_ald X M hq.1 (uAr_sh hq hV) (inb_e g117) e119 dX12_comesTo_124 ?_
                refine lv_iconst (v := 1) hx hb dX12_comesTo_125 (by decide) ?_
                refine lv_icmp_ne (tgt := 134) hx hb dX12_comesTo_126 (by decide) (fun c120 => ?_) (fun c120 => ?_)
                · have h := it_f h c120
                  refine lv_bipush (v := 6) hx hb dX12_comesTo_134 (by decide) ?_
                  exact u_iret X hret M (Option.some.inj h) (rfl) rfl dX12_comesTo_136
                · have h := it_t h c120
                  refine lv_bipush (v := 7) hx hb dX12_comesTo_129 (by decide) ?_
                  refine lv_goto (tgt := 136) hx hb dX12_comesTo_131 (by decide) ?_
                  exact u_iret X hret M (Option.some.inj h) (rfl) rfl dX12_comesTo_136
              · have h := it_f h c116
                refine lv_iconst (v := 1) hx hb dX12_comesTo_117 (by decide) ?_
                refine lv_goto (tgt := 136) hx hb dX12_comesTo_118 (by decide) ?_
                exact u_iret X hret M (Option.some.inj h) (rfl) rfl dX12_comesTo_136
            · have h := it_f h c112
              refine lv_iconst (v := 0) hx hb dX12_comesTo_104 (by decide) ?_
              exact u_iret X hret M (Option.some.inj h) (rfl) rfl dX12_comesTo_105
          · have h := it_f h c108
            refine lv_iconst (v := 5) hx hb dX12_comesTo_94 (by decide) ?_
            exact u_iret X hret M (Option.some.inj h) (rfl) rfl dX12_comesTo_95
      · have h := it_f h c73
        refine lv_iconst (v := 4) hx hb dX12_comesTo_56 (by decide) ?_
        exact u_iret X hret M (Option.some.inj h) (rfl) rfl dX12_comesTo_57
  · have h := it_t h c13
    refine lv_iconst (v := 3) hx hb dX12_comesTo_28 (by decide) ?_
    exact u_iret X hret M (Option.some.inj h) (rfl) rfl dX12_comesTo_29
def fX12_rideOn (f : (Nat → Int32)) (a2 : Int32) (a3 : Int32) : Option (Int32 × (Nat → Int32)) :=
  lt_ (fX12_cardAt  a2) fun x2 =>
  lt_ (fX12_gateAt  a3) fun x5 =>
  gd (inb (x2 + 0) 1272) <|
  lt_ (f ((x2 + 0) : Int32).toNatClampNeg) fun x8 =>
  gd (inb (x5 + 2) 1272) <|
  lt_ (f ((x5 + 2) : Int32).toNatClampNeg) fun x11 =>
  if x11 = 1 then
    gd (inb 7 1272) <|
    lt_ (f (7 : Int32).toNatClampNeg) fun x159 =>
    lt_ (upd f (7 : Int32).toNatClampNeg (x159 + 1)) fun r161 =>
    some (2, r161)
  else
    bd (fX12_isUp f a3) fun x15 =>
    if x15 = 0 then
      bd (fX12_comesTo f a2 a3) fun x19 =>
      if x19 ≤ 1 then
        gd (inb (x5 + 0) 1272) <|
        lt_ (f ((x5 + 0) : Int32).toNatClampNeg) fun x23 =>
        gd (inb (x2 + 1) 1272) <|
        lt_ (f ((x2 + 1) : Int32).toNatClampNeg) fun x26 =>
        lt_ (upd f ((x2 + 1) : Int32).toNatClampNeg (x26 - x23)) fun r28 =>
        gd (inb (x2 + 2) 1272) <|
        lt_ (r28 ((x2 + 2) : Int32).toNatClampNeg) fun x31 =>
        lt_ (upd r28 ((x2 + 2) : Int32).toNatClampNeg (x31 + 1)) fun r33 =>
        gd (inb 2 1272) <|
        lt_ (r33 (2 : Int32).toNatClampNeg) fun x36 =>
        gd (inb (x2 + 3) 1272) <|
        lt_ (upd r33 ((x2 + 3) : Int32).toNatClampNeg (x36 + 1)) fun r39 =>
        if x19 = 0 then
          lt_ (r39 ((x2 + 2) : Int32).toNatClampNeg) fun x63 =>
          bd2 (fX12_settle r39 x8 x63 x23) fun x66 S67 =>
          some (x19, S67)
        else
          gd (inb (x5 + 3) 1272) <|
          lt_ (r39 ((x5 + 3) : Int32).toNatClampNeg) fun x43 =>
          lt_ (fX12_logAt  a3 x43) fun x46 =>
          gd (inb x46 1272) <|
          lt_ (upd r39 (x46 : Int32).toNatClampNeg x8) fun r49 =>
          lt_ (r49 ((x2 + 2) : Int32).toNatClampNeg) fun x51 =>
          gd (inb (x46 + 1) 1272) <|
          lt_ (upd r49 ((x46 + 1) : Int32).toNatClampNeg x51) fun r54 =>
          gd (inb (x46 + 2) 1272) <|
          lt_ (upd r54 ((x46 + 2) : Int32).toNatClampNeg x23) fun r57 =>
          lt_ (r57 ((x5 + 3) : Int32).toNatClampNeg) fun x59 =>
          lt_ (upd r57 ((x5 + 3) : Int32).toNatClampNeg (x59 + 1)) fun r61 =>
          some (x19, r61)
      else
        if x19 = 7 then
          gd (inb 7 1272) <|
          lt_ (f (7 : Int32).toNatClampNeg) fun x76 =>
          lt_ (upd f (7 : Int32).toNatClampNeg (x76 + 1)) fun r78 =>
          some (x19, r78)
        else
          gd (inb 6 1272) <|
          lt_ (f (6 : Int32).toNatClampNeg) fun x71 =>
          lt_ (upd f (6 : Int32).toNatClampNeg (x71 + 1)) fun r73 =>
          some (x19, r73)
    else
      gd (inb (x2 + 1) 1272) <|
      lt_ (f ((x2 + 1) : Int32).toNatClampNeg) fun x81 =>
      lt_ (fX12_accountAt  x8) fun x84 =>
      gd (inb (x84 + 1) 1272) <|
      lt_ (f ((x84 + 1) : Int32).toNatClampNeg) fun x87 =>
      lt_ (upd f ((x2 + 1) : Int32).toNatClampNeg (x81 + x87)) fun r89 =>
      lt_ (fX12_accountAt  x8) fun x92 =>
      gd (inb (x92 + 1) 1272) <|
      lt_ (upd r89 ((x92 + 1) : Int32).toNatClampNeg 0) fun r95 =>
      bd (fX12_comesTo r95 a2 a3) fun x98 =>
      if x98 ≤ 1 then
        gd (inb (x5 + 0) 1272) <|
        lt_ (r95 ((x5 + 0) : Int32).toNatClampNeg) fun x102 =>
        lt_ (r95 ((x2 + 1) : Int32).toNatClampNeg) fun x104 =>
        lt_ (upd r95 ((x2 + 1) : Int32).toNatClampNeg (x104 - x102)) fun r106 =>
        gd (inb (x2 + 2) 1272) <|
        lt_ (r106 ((x2 + 2) : Int32).toNatClampNeg) fun x109 =>
        lt_ (upd r106 ((x2 + 2) : Int32).toNatClampNeg (x109 + 1)) fun r111 =>
        gd (inb 2 1272) <|
        lt_ (r111 (2 : Int32).toNatClampNeg) fun x114 =>
        gd (inb (x2 + 3) 1272) <|
        lt_ (upd r111 ((x2 + 3) : Int32).toNatClampNeg (x114 + 1)) fun r117 =>
        if x98 = 0 then
          lt_ (r117 ((x2 + 2) : Int32).toNatClampNeg) fun x141 =>
          bd2 (fX12_settle r117 x8 x141 x102) fun x144 S145 =>
          some (x98, S145)
        else
          gd (inb (x5 + 3) 1272) <|
          lt_ (r117 ((x5 + 3) : Int32).toNatClampNeg) fun x121 =>
          lt_ (fX12_logAt  a3 x121) fun x124 =>
          gd (inb x124 1272) <|
          lt_ (upd r117 (x124 : Int32).toNatClampNeg x8) fun r127 =>
          lt_ (r127 ((x2 + 2) : Int32).toNatClampNeg) fun x129 =>
          gd (inb (x124 + 1) 1272) <|
          lt_ (upd r127 ((x124 + 1) : Int32).toNatClampNeg x129) fun r132 =>
          gd (inb (x124 + 2) 1272) <|
          lt_ (upd r132 ((x124 + 2) : Int32).toNatClampNeg x102) fun r135 =>
          lt_ (r135 ((x5 + 3) : Int32).toNatClampNeg) fun x137 =>
          lt_ (upd r135 ((x5 + 3) : Int32).toNatClampNeg (x137 + 1)) fun r139 =>
          some (x98, r139)
      else
        if x98 = 7 then
          gd (inb 7 1272) <|
          lt_ (r95 (7 : Int32).toNatClampNeg) fun x154 =>
          lt_ (upd r95 (7 : Int32).toNatClampNeg (x154 + 1)) fun r156 =>
          some (x98, r156)
        else
          gd (inb 6 1272) <|
          lt_ (r95 (6 : Int32).toNatClampNeg) fun x149 =>
          lt_ (upd r95 (6 : Int32).toNatClampNeg (x149 + 1)) fun r151 =>
          some (x98, r151)
set_option maxHeartbeats 4000000 in
set_option maxRecDepth 20000 in
theorem kX12_rideOn {l : Launch} {G : UG} {V : uV} {q : Nat} (hq : uAr G q) {B : (Nat → Nat → Int32)} {f f' : (Nat → Int32)} {a2 : Int32} {a3 : Int32} {r : Int32} (h : fX12_rideOn f a2 a3 = some (r, f')) : uMi l G yX12_rideOn cX12_rideOn 9 .int (uR 5 109) [.ref (ga G 19 q), .int a2, .int a3] (va_up V 19 (va_up B q f)) r (va_up V 19 (va_up B q f')) := by
  refine uMi_of rfl (Nat.le_of_ble_eq_true rfl) (fun p e s m args below meth c ls X hret hl M => ?_)
  have hl : lv_has ls 9 [(0, .ref (ga G 19 q)), (1, .int a2), (2, .int a3)] := hl
  have hx := X.hx
  have hb := X.hb
  unfold fX12_rideOn at h
  refine lv_iload_n hx hb dX12_rideOn_0 rfl (lv_at hl 1 rfl) ?_
  obtain ⟨x2, e1, h⟩ := lt_e h
  refine u_cSi X M hl.1 (kX12_cardAt  e1.symm) cw_X12_76 ⟨by decide, by decide⟩ rfl rfl (Nat.le_of_ble_eq_true rfl) ⟨Nat.zero_le _, Nat.zero_le _⟩ dX12_rideOn_1 (fun H locs M n3 => ?_)
  refine lv_istore_n (lv' := [(3, .int x2), (0, .ref (ga G 19 q)), (1, .int a2), (2, .int a3)]) hx hb dX12_rideOn_4 rfl hl (by decide) rfl (fun ls hl => ?_)
  refine lv_iload_n hx hb dX12_rideOn_5 rfl (lv_at hl 3 rfl) ?_
  obtain ⟨x5, e4, h⟩ := lt_e h
  refine u_cSi X M hl.1 (kX12_gateAt  e4.symm) cw_X12_40 ⟨by decide, by decide⟩ rfl rfl (Nat.le_of_ble_eq_true rfl) ⟨Nat.zero_le _, Nat.zero_le _⟩ dX12_rideOn_6 (fun H locs M n6 => ?_)
  refine lv_istore (lv' := [(4, .int x5), (3, .int x2), (0, .ref (ga G 19 q)), (1, .int a2), (2, .int a3)]) hx hb dX12_rideOn_9 hl (by decide) rfl (fun ls hl => ?_)
  refine lv_aload_n hx hb dX12_rideOn_11 rfl (lv_at hl 2 rfl) ?_
  refine lv_iload_n hx hb dX12_rideOn_12 rfl (lv_at hl 1 rfl) ?_
  refine lv_iconst (v := 0) hx hb dX12_rideOn_13 (by decide) ?_
  refine lv_iadd hx hb dX12_rideOn_14 ?_
  obtain ⟨g7, h⟩ := gd_e h
  obtain ⟨x8, e9, h⟩ := lt_e h
  refine u_ald X M hq.1 (uAr_sh hq (va_up_s2 V 19 B q _)) (inb_e g7) e9 dX12_rideOn_15 ?_
  refine lv_istore (lv' := [(5, .int x8), (4, .int x5), (3, .int x2), (0, .ref (ga G 19 q)), (1, .int a2), (2, .int a3)]) hx hb dX12_rideOn_16 hl (by decide) rfl (fun ls hl => ?_)
  refine lv_aload_n hx hb dX12_rideOn_18 rfl (lv_at hl 3 rfl) ?_
  refine lv_iload hx hb dX12_rideOn_19 (lv_at hl 1 rfl) ?_
  refine lv_iconst (v := 2) hx hb dX12_rideOn_21 (by decide) ?_
  refine lv_iadd hx hb dX12_rideOn_22 ?_
  obtain ⟨g10, h⟩ := gd_e h
  obtain ⟨x11, e12, h⟩ := lt_e h
  refine u_ald X M hq.1 (uAr_sh hq (va_up_s2 V 19 B q _)) (inb_e g10) e12 dX12_rideOn_23 ?_
  refine lv_iconst (v := 1) hx hb dX12_rideOn_24 (by decide) ?_
  refine lv_icmp_ne (tgt := 38) hx hb dX12_rideOn_25 (by decide) (fun c13 => ?_) (fun c13 => ?_)
  · have h := it_f h c13
    refine lv_aload_n hx hb dX12_rideOn_38 rfl (lv_at hl 3 rfl) ?_
    refine lv_iload_n hx hb dX12_rideOn_39 rfl (lv_at hl 5 rfl) ?_
    obtain ⟨x15, e14, h⟩ := bd_e h
    refine u_cSi X M hl.1 (kX12_isUp hq (va_up_s2 V 19 B q _) e14) cw_X12_57 ⟨by decide, by decide⟩ rfl rfl (Nat.le_of_ble_eq_true rfl) ⟨Nat.zero_le _, Nat.zero_le _⟩ dX12_rideOn_40 (fun H locs M n16 => ?_)
    refine lv_if_eq (tgt := 73) hx hb dX12_rideOn_43 (by decide) (fun c17 => ?_) (fun c17 => ?_)
    · have h := it_t h c17
      refine lv_aload_n hx hb dX12_rideOn_73 rfl (lv_at hl 3 rfl) ?_
      refine lv_iload_n hx hb dX12_rideOn_74 rfl (lv_at hl 4 rfl) ?_
      refine lv_iload_n hx hb dX12_rideOn_75 rfl (lv_at hl 5 rfl) ?_
      obtain ⟨x19, e18, h⟩ := bd_e h
      refine u_cSi X M hl.1 (kX12_comesTo hq (va_up_s2 V 19 B q _) e18) cw_X12_83 ⟨by decide, by decide⟩ rfl rfl (Nat.le_of_ble_eq_true rfl) ⟨Nat.zero_le _, Nat.zero_le _⟩ dX12_rideOn_76 (fun H locs M n20 => ?_)
      refine lv_istore (lv' := [(6, .int x19), (5, .int x8), (4, .int x5), (3, .int x2), (0, .ref (ga G 19 q)), (1, .int a2), (2, .int a3)]) hx hb dX12_rideOn_79 hl (by decide) rfl (fun ls hl => ?_)
      refine lv_iload hx hb dX12_rideOn_81 (lv_at hl 0 rfl) ?_
      refine lv_iconst (v := 1) hx hb dX12_rideOn_83 (by decide) ?_
      refine lv_icmp_le (tgt := 110) hx hb dX12_rideOn_84 (by decide) (fun c21 => ?_) (fun c21 => ?_)
      · have h := it_t h c21
        refine lv_aload_n hx hb dX12_rideOn_110 rfl (lv_at hl 4 rfl) ?_
        refine lv_iload hx hb dX12_rideOn_111 (lv_at hl 2 rfl) ?_
        refine lv_iconst (v := 0) hx hb dX12_rideOn_113 (by decide) ?_
        refine lv_iadd hx hb dX12_rideOn_114 ?_
        obtain ⟨g22, h⟩ := gd_e h
        obtain ⟨x23, e24, h⟩ := lt_e h
        refine u_ald X M hq.1 (uAr_sh hq (va_up_s2 V 19 B q _)) (inb_e g22) e24 dX12_rideOn_115 ?_
        refine lv_istore (lv' := [(7, .int x23), (6, .int x19), (5, .int x8), (4, .int x5), (3, .int x2), (0, .ref (ga G 19 q)), (1, .int a2), (2, .int a3)]) hx hb dX12_rideOn_116 hl (by decide) rfl (fun ls hl => ?_)
        refine lv_aload_n hx hb dX12_rideOn_118 rfl (lv_at hl 5 rfl) ?_
        refine lv_iload_n hx hb dX12_rideOn_119 rfl (lv_at hl 4 rfl) ?_
        refine lv_iconst (v := 1) hx hb dX12_rideOn_120 (by decide) ?_
        refine lv_iadd hx hb dX12_rideOn_121 ?_
        refine lv_dup2_11 hx hb dX12_rideOn_122 rfl rfl ?_
        obtain ⟨g25, h⟩ := gd_e h
        obtain ⟨x26, e27, h⟩ := lt_e h
        refine u_ald X M hq.1 (uAr_sh hq (va_up_s2 V 19 B q _)) (inb_e g25) e27 dX12_rideOn_123 ?_
        refine lv_iload hx hb dX12_rideOn_124 (lv_at hl 0 rfl) ?_
        refine lv_isub hx hb dX12_rideOn_126 ?_
        obtain ⟨r28, e29, h⟩ := lt_e h
        refine u_ast_a X M hq (inb_e g25) e29 dX12_rideOn_127 (fun H locs M => ?_)
        refine lv_aload_n hx hb dX12_rideOn_128 rfl (lv_at hl 5 rfl) ?_
        refine lv_iload_n hx hb dX12_rideOn_129 rfl (lv_at hl 4 rfl) ?_
        refine lv_iconst (v := 2) hx hb dX12_rideOn_130 (by decide) ?_
        refine lv_iadd hx hb dX12_rideOn_131 ?_
        refine lv_dup2_11 hx hb dX12_rideOn_132 rfl rfl ?_
        obtain ⟨g30, h⟩ := gd_e h
        obtain ⟨x31, e32, h⟩ := lt_e h
        refine u_ald X M hq.1 (uAr_sh hq (va_up_s2 V 19 B q _)) (inb_e g30) e32 dX12_rideOn_133 ?_
        refine lv_iconst (v := 1) hx hb dX12_rideOn_134 (by decide) ?_
        refine lv_iadd hx hb dX12_rideOn_135 ?_
        obtain ⟨r33, e34, h⟩ := lt_e h
        refine u_ast_a X M hq (inb_e g30) e34 dX12_rideOn_136 (fun H locs M => ?_)
        refine lv_aload_n hx hb dX12_rideOn_137 rfl (lv_at hl 5 rfl) ?_
        refine lv_iload_n hx hb dX12_rideOn_138 rfl (lv_at hl 4 rfl) ?_
        refine lv_iconst (v := 3) hx hb dX12_rideOn_139 (by decide) ?_
        refine lv_iadd hx hb dX12_rideOn_140 ?_
        refine lv_aload_n hx hb dX12_rideOn_141 rfl (lv_at hl 5 rfl) ?_
        refine lv_iconst (v := 2) hx hb dX12_rideOn_142 (by decide) ?_
        obtain ⟨g35, h⟩ := gd_e h
        obtain ⟨x36, e37, h⟩ := lt_e h
        refine u_ald X M hq.1 (uAr_sh hq (va_up_s2 V 19 B q _)) (inb_e g35) e37 dX12_rideOn_143 ?_
        refine lv_iconst (v := 1) hx hb dX12_rideOn_144 (by decide) ?_
        refine lv_iadd hx hb dX12_rideOn_145 ?_
        obtain ⟨g38, h⟩ := gd_e h
        obtain ⟨r39, e40, h⟩ := lt_e h
        refine u_ast_a X M hq (inb_e g38) e40 dX12_rideOn_146 (fun H locs M => ?_)
        refine lv_iload hx hb dX12_rideOn_147 (lv_at hl 1 rfl) ?_
        refine lv_if_ne (tgt := 169) hx hb dX12_rideOn_149 (by decide) (fun c41 => ?_) (fun c41 => ?_)
        · have h := it_f h c41
          refine lv_iload_n hx hb dX12_rideOn_169 rfl (lv_at hl 7 rfl) ?_
          refine lv_aload_n hx hb dX12_rideOn_170 rfl (lv_at hl 5 rfl) ?_
          refine lv_iload hx hb dX12_rideOn_171 (lv_at hl 3 rfl) ?_
          refine lv_iconst (v := 3) hx hb dX12_rideOn_173 (by decide) ?_
          refine lv_iadd hx hb dX12_rideOn_174 ?_
          obtain ⟨g42, h⟩ := gd_e h
          obtain ⟨x43, e44, h⟩ := lt_e h
          refine u_ald X M hq.1 (uAr_sh hq (va_up_s2 V 19 B q _)) (inb_e g42) e44 dX12_rideOn_175 ?_
          obtain ⟨x46, e45, h⟩ := lt_e h
          refine u_cSi X M hl.1 (kX12_logAt  e45.symm) cw_X12_68 ⟨by decide, by decide⟩ rfl rfl (Nat.le_of_ble_eq_true rfl) ⟨Nat.zero_le _, Nat.zero_le _⟩ dX12_rideOn_176 (fun H locs M n47 => ?_)
          refine lv_istore (lv' := [(8, .int x46), (7, .int x23), (6, .int x19), (5, .int x8), (4, .int x5), (3, .int x2), (0, .ref (ga G 19 q)), (1, .int a2), (2, .int a3)]) hx hb dX12_rideOn_179 hl (by decide) rfl (fun ls hl => ?_)
          refine lv_aload_n hx hb dX12_rideOn_181 rfl (lv_at hl 6 rfl) ?_
          refine lv_iload hx hb dX12_rideOn_182 (lv_at hl 0 rfl) ?_
          refine lv_iload hx hb dX12_rideOn_184 (lv_at hl 3 rfl) ?_
          obtain ⟨g48, h⟩ := gd_e h
          obtain ⟨r49, e50, h⟩ := lt_e h
          refine u_ast_a X M hq (inb_e g48) e50 dX12_rideOn_186 (fun H locs M => ?_)
          refine lv_aload_n hx hb dX12_rideOn_187 rfl (lv_at hl 6 rfl) ?_
          refine lv_iload hx hb dX12_rideOn_188 (lv_at hl 0 rfl) ?_
          refine lv_iconst (v := 1) hx hb dX12_rideOn_190 (by decide) ?_
          refine lv_iadd hx hb dX12_rideOn_191 ?_
          refine lv_aload_n hx hb dX12_rideOn_192 rfl (lv_at hl 6 rfl) ?_
          refine lv_iload_n hx hb dX12_rideOn_193 rfl (lv_at hl 5 rfl) ?_
          refine lv_iconst (v := 2) hx hb dX12_rideOn_194 (by decide) ?_
          refine lv_iadd hx hb dX12_rideOn_195 ?_
          obtain ⟨x51, e52, h⟩ := lt_e h
          refine u_ald X M hq.1 (uAr_sh hq (va_up_s2 V 19 B q _)) (inb_e g30) e52 dX12_rideOn_196 ?_
          obtain ⟨g53, h⟩ := gd_e h
          obtain ⟨r54, e55, h⟩ := lt_e h
          refine u_ast_a X M hq (inb_e g53) e55 dX12_rideOn_197 (fun H locs M => ?_)
          refine lv_aload_n hx hb dX12_rideOn_198 rfl (lv_at hl 6 rfl) ?_
          refine lv_iload hx hb dX12_rideOn_199 (lv_at hl 0 rfl) ?_
          refine lv_iconst (v := 2) hx hb dX12_rideOn_201 (by decide) ?_
          refine lv_iadd hx hb dX12_rideOn_202 ?_
          refine lv_iload hx hb dX12_rideOn_203 (lv_at hl 1 rfl) ?_
          obtain ⟨g56, h⟩ := gd_e h
          obtain ⟨r57, e58, h⟩ := lt_e h
          refine u_ast_a X M hq (inb_e g56) e58 dX12_rideOn_205 (fun H locs M => ?_)
          refine lv_aload_n hx hb dX12_rideOn_206 rfl (lv_at hl 6 rfl) ?_
          refine lv_iload hx hb dX12_rideOn_207 (lv_at hl 4 rfl) ?_
          refine lv_iconst (v := 3) hx hb dX12_rideOn_209 (by decide) ?_
          refine lv_iadd hx hb dX12_rideOn_210 ?_
          refine lv_dup2_11 hx hb dX12_rideOn_211 rfl rfl ?_
          obtain ⟨x59, e60, h⟩ := lt_e h
          refine u_ald X M hq.1 (uAr_sh hq (va_up_s2 V 19 B q _)) (inb_e g42) e60 dX12_rideOn_212 ?_
          refine lv_iconst (v := 1) hx hb dX12_rideOn_213 (by decide) ?_
          refine lv_iadd hx hb dX12_rideOn_214 ?_
          obtain ⟨r61, e62, h⟩ := lt_e h
          refine u_ast_a X M hq (inb_e g42) e62 dX12_rideOn_215 (fun H locs M => ?_)
          refine lv_iload hx hb dX12_rideOn_216 (lv_at hl 2 rfl) ?_
          exact u_iret X hret M (rt2 h).1 (congrArg (fun z => va_up V 19 (va_up B q z)) ((rt2 h).2)) rfl dX12_rideOn_218
        · have h := it_t h c41
          refine lv_aload_n hx hb dX12_rideOn_152 rfl (lv_at hl 5 rfl) ?_
          refine lv_iload hx hb dX12_rideOn_153 (lv_at hl 2 rfl) ?_
          refine lv_aload_n hx hb dX12_rideOn_155 rfl (lv_at hl 5 rfl) ?_
          refine lv_iload_n hx hb dX12_rideOn_156 rfl (lv_at hl 4 rfl) ?_
          refine lv_iconst (v := 2) hx hb dX12_rideOn_157 (by decide) ?_
          refine lv_iadd hx hb dX12_rideOn_158 ?_
          obtain ⟨x63, e64, h⟩ := lt_e h
          refine u_ald X M hq.1 (uAr_sh hq (va_up_s2 V 19 B q _)) (inb_e g30) e64 dX12_rideOn_159 ?_
          refine lv_iload hx hb dX12_rideOn_160 (lv_at hl 0 rfl) ?_
          obtain ⟨x66, S67, e65, h⟩ := bd2_e h
          refine u_cSi X M hl.1 (kX12_settle hq e65) cw_X12_72 ⟨by decide, by decide⟩ rfl rfl (Nat.le_of_ble_eq_true rfl) ⟨Nat.zero_le _, Nat.zero_le _⟩ dX12_rideOn_162 (fun H locs M n68 => ?_)
          refine lv_pop hx hb dX12_rideOn_165 rfl ?_
          refine lv_goto (tgt := 216) hx hb dX12_rideOn_166 (by decide) ?_
          refine lv_iload hx hb dX12_rideOn_216 (lv_at hl 1 rfl) ?_
          exact u_iret X hret M (rt2 h).1 (congrArg (fun z => va_up V 19 (va_up B q z)) ((rt2 h).2)) rfl dX12_rideOn_218
      · have h := it_f h c21
        refine lv_aload_n hx hb dX12_rideOn_87 rfl (lv_at hl 4 rfl) ?_
        refine lv_iload hx hb dX12_rideOn_88 (lv_at hl 0 rfl) ?_
        refine lv_bipush (v := 7) hx hb dX12_rideOn_90 (by decide) ?_
        refine lv_icmp_ne (tgt := 100) hx hb dX12_rideOn_92 (by decide) (fun c69 => ?_) (fun c69 => ?_)
        · have h := it_f h c69
          refine lv_bipush (v := 6) hx hb dX12_rideOn_100 (by decide) ?_
          refine lv_dup2_11 hx hb dX12_rideOn_102 rfl rfl ?_
          obtain ⟨g70, h⟩ := gd_e h
          obtain ⟨x71, e72, h⟩ := lt_e h
          refine u_ald X M hq.1 (uAr_sh hq (va_up_s2 V 19 B q _)) (inb_e g70) e72 dX12_rideOn_103 ?_
          refine lv_iconst (v := 1) hx hb dX12_rideOn_104 (by decide) ?_
          refine lv_iadd hx hb dX12_rideOn_105 ?_
          obtain ⟨r73, e74, h⟩ := lt_e h
          refine u_ast_a X M hq (inb_e g70) e74 dX12_rideOn_106 (fun H locs M => ?_)
          refine lv_iload hx hb dX12_rideOn_107 (lv_at hl 0 rfl) ?_
          exact u_iret X hret M (rt2 h).1 (congrArg (fun z => va_up V 19 (va_up B q z)) ((rt2 h).2)) rfl dX12_rideOn_109
        · have h := it_t h c69
          refine lv_bipush (v := 7) hx hb dX12_rideOn_95 (by decide) ?_
          refine lv_goto (tgt := 102) hx hb dX12_rideOn_97 (by decide) ?_
          refine lv_dup2_11 hx hb dX12_rideOn_102 rfl rfl ?_
          obtain ⟨g75, h⟩ := gd_e h
          obtain ⟨x76, e77, h⟩ := lt_e h
          refine u_ald X M hq.1 (uAr_sh hq (va_up_s2 V 19 B q _)) (inb_e g75) e77 dX12_rideOn_103 ?_
          refine lv_iconst (v := 1) hx hb dX12_rideOn_104 (by decide) ?_
          refine lv_iadd hx hb dX12_rideOn_105 ?_
          obtain ⟨r78, e79, h⟩ := lt_e h
          refine u_ast_a X M hq (inb_e g75) e79 dX12_rideOn_106 (fun H locs M => ?_)
          refine lv_iload hx hb dX12_rideOn_107 (lv_at hl 0 rfl) ?_
          exact u_iret X hret M (rt2 h).1 (congrArg (fun z => va_up V 19 (va_up B q z)) ((rt2 h).2)) rfl dX12_rideOn_109
    · have h := it_f h c17
      refine lv_aload_n hx hb dX12_rideOn_46 rfl (lv_at hl 3 rfl) ?_
      refine lv_iload_n hx hb dX12_rideOn_47 rfl (lv_at hl 2 rfl) ?_
      refine lv_iconst (v := 1) hx hb dX12_rideOn_48 (by decide) ?_
      refine lv_iadd hx hb dX12_rideOn_49 ?_
      refine lv_dup2_11 hx hb dX12_rideOn_50 rfl rfl ?_
      obtain ⟨g80, h⟩ := gd_e h
      obtain ⟨x81, e82, h⟩ := lt_e h
      refine u_ald X M hq.1 (uAr_sh hq (va_up_s2 V 19 B q _)) (inb_e g80) e82 dX12_rideOn_51 ?_
      refine lv_aload_n hx hb dX12_rideOn_52 rfl (lv_at hl 3 rfl) ?_
      refine lv_iload hx hb dX12_rideOn_53 (lv_at hl 0 rfl) ?_
      obtain ⟨x84, e83, h⟩ := lt_e h
      refine u_cSi X M hl.1 (kX12_accountAt  e83.symm) cw_X12_50 ⟨by decide, by decide⟩ rfl rfl (Nat.le_of_ble_eq_true rfl) ⟨Nat.zero_le _, Nat.zero_le _⟩ dX12_rideOn_55 (fun H locs M n85 => ?_)
      refine lv_iconst (v := 1) hx hb dX12_rideOn_58 (by decide) ?_
      refine lv_iadd hx hb dX12_rideOn_59 ?_
      obtain ⟨g86, h⟩ := gd_e h
      obtain ⟨x87, e88, h⟩ := lt_e h
      refine u_ald X M hq.1 (uAr_sh hq (va_up_s2 V 19 B q _)) (inb_e g86) e88 dX12_rideOn_60 ?_
      refine lv_iadd hx hb dX12_rideOn_61 ?_
      obtain ⟨r89, e90, h⟩ := lt_e h
      refine u_ast_a X M hq (inb_e g80) e90 dX12_rideOn_62 (fun H locs M => ?_)
      refine lv_aload_n hx hb dX12_rideOn_63 rfl (lv_at hl 3 rfl) ?_
      refine lv_iload hx hb dX12_rideOn_64 (lv_at hl 0 rfl) ?_
      obtain ⟨x92, e91, h⟩ := lt_e h
      refine u_cSi X M hl.1 (kX12_accountAt  e91.symm) cw_X12_50 ⟨by decide, by decide⟩ rfl rfl (Nat.le_of_ble_eq_true rfl) ⟨Nat.zero_le _, Nat.zero_le _⟩ dX12_rideOn_66 (fun H locs M n93 => ?_)
      refine lv_iconst (v := 1) hx hb dX12_rideOn_69 (by decide) ?_
      refine lv_iadd hx hb dX12_rideOn_70 ?_
      refine lv_iconst (v := 0) hx hb dX12_rideOn_71 (by decide) ?_
      obtain ⟨g94, h⟩ := gd_e h
      obtain ⟨r95, e96, h⟩ := lt_e h
      refine u_ast_a X M hq (inb_e g94) e96 dX12_rideOn_72 (fun H locs M => ?_)
      refine lv_aload_n hx hb dX12_rideOn_73 rfl (lv_at hl 3 rfl) ?_
      refine lv_iload_n hx hb dX12_rideOn_74 rfl (lv_at hl 4 rfl) ?_
      refine lv_iload_n hx hb dX12_rideOn_75 rfl (lv_at hl 5 rfl) ?_
      obtain ⟨x98, e97, h⟩ := bd_e h
      refine u_cSi X M hl.1 (kX12_comesTo hq (va_up_s2 V 19 B q _) e97) cw_X12_83 ⟨by decide, by decide⟩ rfl rfl (Nat.le_of_ble_eq_true rfl) ⟨Nat.zero_le _, Nat.zero_le _⟩ dX12_rideOn_76 (fun H locs M n99 => ?_)
      refine lv_istore (lv' := [(6, .int x98), (5, .int x8), (4, .int x5), (3, .int x2), (0, .ref (ga G 19 q)), (1, .int a2), (2, .int a3)]) hx hb dX12_rideOn_79 hl (by decide) rfl (fun ls hl => ?_)
      refine lv_iload hx hb dX12_rideOn_81 (lv_at hl 0 rfl) ?_
      refine lv_iconst (v := 1) hx hb dX12_rideOn_83 (by decide) ?_
      refine lv_icmp_le (tgt := 110) hx hb dX12_rideOn_84 (by decide) (fun c100 => ?_) (fun c100 => ?_)
      · have h := it_t h c100
        refine lv_aload_n hx hb dX12_rideOn_110 rfl (lv_at hl 4 rfl) ?_
        refine lv_iload hx hb dX12_rideOn_111 (lv_at hl 2 rfl) ?_
        refine lv_iconst (v := 0) hx hb dX12_rideOn_113 (by decide) ?_
        refine lv_iadd hx hb dX12_rideOn_114 ?_
        obtain ⟨g101, h⟩ := gd_e h
        obtain ⟨x102, e103, h⟩ := lt_e h
        refine u_ald X M hq.1 (uAr_sh hq (va_up_s2 V 19 B q _)) (inb_e g101) e103 dX12_rideOn_115 ?_
        refine lv_istore (lv' := [(7, .int x102), (6, .int x98), (5, .int x8), (4, .int x5), (3, .int x2), (0, .ref (ga G 19 q)), (1, .int a2), (2, .int a3)]) hx hb dX12_rideOn_116 hl (by decide) rfl (fun ls hl => ?_)
        refine lv_aload_n hx hb dX12_rideOn_118 rfl (lv_at hl 5 rfl) ?_
        refine lv_iload_n hx hb dX12_rideOn_119 rfl (lv_at hl 4 rfl) ?_
        refine lv_iconst (v := 1) hx hb dX12_rideOn_120 (by decide) ?_
        refine lv_iadd hx hb dX12_rideOn_121 ?_
        refine lv_dup2_11 hx hb dX12_rideOn_122 rfl rfl ?_
        obtain ⟨x104, e105, h⟩ := lt_e h
        refine u_ald X M hq.1 (uAr_sh hq (va_up_s2 V 19 B q _)) (inb_e g80) e105 dX12_rideOn_123 ?_
        refine lv_iload hx hb dX12_rideOn_124 (lv_at hl 0 rfl) ?_
        refine lv_isub hx hb dX12_rideOn_126 ?_
        obtain ⟨r106, e107, h⟩ := lt_e h
        refine u_ast_a X M hq (inb_e g80) e107 dX12_rideOn_127 (fun H locs M => ?_)
        refine lv_aload_n hx hb dX12_rideOn_128 rfl (lv_at hl 5 rfl) ?_
        refine lv_iload_n hx hb dX12_rideOn_129 rfl (lv_at hl 4 rfl) ?_
        refine lv_iconst (v := 2) hx hb dX12_rideOn_130 (by decide) ?_
        refine lv_iadd hx hb dX12_rideOn_131 ?_
        refine lv_dup2_11 hx hb dX12_rideOn_132 rfl rfl ?_
        obtain ⟨g108, h⟩ := gd_e h
        obtain ⟨x109, e110, h⟩ := lt_e h
        refine u_ald X M hq.1 (uAr_sh hq (va_up_s2 V 19 B q _)) (inb_e g108) e110 dX12_rideOn_133 ?_
        refine lv_iconst (v := 1) hx hb dX12_rideOn_134 (by decide) ?_
        refine lv_iadd hx hb dX12_rideOn_135 ?_
        obtain ⟨r111, e112, h⟩ := lt_e h
        refine u_ast_a X M hq (inb_e g108) e112 dX12_rideOn_136 (fun H locs M => ?_)
        refine lv_aload_n hx hb dX12_rideOn_137 rfl (lv_at hl 5 rfl) ?_
        refine lv_iload_n hx hb dX12_rideOn_138 rfl (lv_at hl 4 rfl) ?_
        refine lv_iconst (v := 3) hx hb dX12_rideOn_139 (by decide) ?_
        refine lv_iadd hx hb dX12_rideOn_140 ?_
        refine lv_aload_n hx hb dX12_rideOn_141 rfl (lv_at hl 5 rfl) ?_
        refine lv_iconst (v := 2) hx hb dX12_rideOn_142 (by decide) ?_
        obtain ⟨g113, h⟩ := gd_e h
        obtain ⟨x114, e115, h⟩ := lt_e h
        refine u_ald X M hq.1 (uAr_sh hq (va_up_s2 V 19 B q _)) (inb_e g113) e115 dX12_rideOn_143 ?_
        refine lv_iconst (v := 1) hx hb dX12_rideOn_144 (by decide) ?_
        refine lv_iadd hx hb dX12_rideOn_145 ?_
        obtain ⟨g116, h⟩ := gd_e h
        obtain ⟨r117, e118, h⟩ := lt_e h
        refine u_ast_a X M hq (inb_e g116) e118 dX12_rideOn_146 (fun H locs M => ?_)
        refine lv_iload hx hb dX12_rideOn_147 (lv_at hl 1 rfl) ?_
        refine lv_if_ne (tgt := 169) hx hb dX12_rideOn_149 (by decide) (fun c119 => ?_) (fun c119 => ?_)
        · have h := it_f h c119
          refine lv_iload_n hx hb dX12_rideOn_169 rfl (lv_at hl 7 rfl) ?_
          refine lv_aload_n hx hb dX12_rideOn_170 rfl (lv_at hl 5 rfl) ?_
          refine lv_iload hx hb dX12_rideOn_171 (lv_at hl 3 rfl) ?_
          refine lv_iconst (v := 3) hx hb dX12_rideOn_173 (by decide) ?_
          refine lv_iadd hx hb dX12_rideOn_174 ?_
          obtain ⟨g120, h⟩ := gd_e h
          obtain ⟨x121, e122, h⟩ := lt_e h
          refine u_ald X M hq.1 (uAr_sh hq (va_up_s2 V 19 B q _)) (inb_e g120) e122 dX12_rideOn_175 ?_
          obtain ⟨x124, e123, h⟩ := lt_e h
          refine u_cSi X M hl.1 (kX12_logAt  e123.symm) cw_X12_68 ⟨by decide, by decide⟩ rfl rfl (Nat.le_of_ble_eq_true rfl) ⟨Nat.zero_le _, Nat.zero_le _⟩ dX12_rideOn_176 (fun H locs M n125 => ?_)
          refine lv_istore (lv' := [(8, .int x124), (7, .int x102), (6, .int x98), (5, .int x8), (4, .int x5), (3, .int x2), (0, .ref (ga G 19 q)), (1, .int a2), (2, .int a3)]) hx hb dX12_rideOn_179 hl (by decide) rfl (fun ls hl => ?_)
          refine lv_aload_n hx hb dX12_rideOn_181 rfl (lv_at hl 6 rfl) ?_
          refine lv_iload hx hb dX12_rideOn_182 (lv_at hl 0 rfl) ?_
          refine lv_iload hx hb dX12_rideOn_184 (lv_at hl 3 rfl) ?_
          obtain ⟨g126, h⟩ := gd_e h
          obtain ⟨r127, e128, h⟩ := lt_e h
          refine u_ast_a X M hq (inb_e g126) e128 dX12_rideOn_186 (fun H locs M => ?_)
          refine lv_aload_n hx hb dX12_rideOn_187 rfl (lv_at hl 6 rfl) ?_
          refine lv_iload hx hb dX12_rideOn_188 (lv_at hl 0 rfl) ?_
          refine lv_iconst (v := 1) hx hb dX12_rideOn_190 (by decide) ?_
          refine lv_iadd hx hb dX12_rideOn_191 ?_
          refine lv_aload_n hx hb dX12_rideOn_192 rfl (lv_at hl 6 rfl) ?_
          refine lv_iload_n hx hb dX12_rideOn_193 rfl (lv_at hl 5 rfl) ?_
          refine lv_iconst (v := 2) hx hb dX12_rideOn_194 (by decide) ?_
          refine lv_iadd hx hb dX12_rideOn_195 ?_
          obtain ⟨x129, e130, h⟩ := lt_e h
          refine u_ald X M hq.1 (uAr_sh hq (va_up_s2 V 19 B q _)) (inb_e g108) e130 dX12_rideOn_196 ?_
          obtain ⟨g131, h⟩ := gd_e h
          obtain ⟨r132, e133, h⟩ := lt_e h
          refine u_ast_a X M hq (inb_e g131) e133 dX12_rideOn_197 (fun H locs M => ?_)
          refine lv_aload_n hx hb dX12_rideOn_198 rfl (lv_at hl 6 rfl) ?_
          refine lv_iload hx hb dX12_rideOn_199 (lv_at hl 0 rfl) ?_
          refine lv_iconst (v := 2) hx hb dX12_rideOn_201 (by decide) ?_
          refine lv_iadd hx hb dX12_rideOn_202 ?_
          refine lv_iload hx hb dX12_rideOn_203 (lv_at hl 1 rfl) ?_
          obtain ⟨g134, h⟩ := gd_e h
          obtain ⟨r135, e136, h⟩ := lt_e h
          refine u_ast_a X M hq (inb_e g134) e136 dX12_rideOn_205 (fun H locs M => ?_)
          refine lv_aload_n hx hb dX12_rideOn_206 rfl (lv_at hl 6 rfl) ?_
          refine lv_iload hx hb dX12_rideOn_207 (lv_at hl 4 rfl) ?_
          refine lv_iconst (v := 3) hx hb dX12_rideOn_209 (by decide) ?_
          refine lv_iadd hx hb dX12_rideOn_210 ?_
          refine lv_dup2_11 hx hb dX12_rideOn_211 rfl rfl ?_
          obtain ⟨x137, e138, h⟩ := lt_e h
          refine u_ald X M hq.1 (uAr_sh hq (va_up_s2 V 19 B q _)) (inb_e g120) e138 dX12_rideOn_212 ?_
          refine lv_iconst (v := 1) hx hb dX12_rideOn_213 (by decide) ?_
          refine lv_iadd hx hb dX12_rideOn_214 ?_
          obtain ⟨r139, e140, h⟩ := lt_e h
          refine u_ast_a X M hq (inb_e g120) e140 dX12_rideOn_215 (fun H locs M => ?_)
          refine lv_iload hx hb dX12_rideOn_216 (lv_at hl 2 rfl) ?_
          exact u_iret X hret M (rt2 h).1 (congrArg (fun z => va_up V 19 (va_up B q z)) ((rt2 h).2)) rfl dX12_rideOn_218
        · have h := it_t h c119
          refine lv_aload_n hx hb dX12_rideOn_152 rfl (lv_at hl 5 rfl) ?_
          refine lv_iload hx hb dX12_rideOn_153 (lv_at hl 2 rfl) ?_
          refine lv_aload_n hx hb dX12_rideOn_155 rfl (lv_at hl 5 rfl) ?_
          refine lv_iload_n hx hb dX12_rideOn_156 rfl (lv_at hl 4 rfl) ?_
          refine lv_iconst (v := 2) hx hb dX12_rideOn_157 (by decide) ?_
          refine lv_iadd hx hb dX12_rideOn_158 ?_
          obtain ⟨x141, e142, h⟩ := lt_e h
          refine u_ald X M hq.1 (uAr_sh hq (va_up_s2 V 19 B q _)) (inb_e g108) e142 dX12_rideOn_159 ?_
          refine lv_iload hx hb dX12_rideOn_160 (lv_at hl 0 rfl) ?_
          obtain ⟨x144, S145, e143, h⟩ := bd2_e h
          refine u_cSi X M hl.1 (kX12_settle hq e143) cw_X12_72 ⟨by decide, by decide⟩ rfl rfl (Nat.le_of_ble_eq_true rfl) ⟨Nat.zero_le _, Nat.zero_le _⟩ dX12_rideOn_162 (fun H locs M n146 => ?_)
          refine lv_pop hx hb dX12_rideOn_165 rfl ?_
          refine lv_goto (tgt := 216) hx hb dX12_rideOn_166 (by decide) ?_
          refine lv_iload hx hb dX12_rideOn_216 (lv_at hl 1 rfl) ?_
          exact u_iret X hret M (rt2 h).1 (congrArg (fun z => va_up V 19 (va_up B q z)) ((rt2 h).2)) rfl dX12_rideOn_218
      · have h := it_f h c100
        refine lv_aload_n hx hb dX12_rideOn_87 rfl (lv_at hl 4 rfl) ?_
        refine lv_iload hx hb dX12_rideOn_88 (lv_at hl 0 rfl) ?_
        refine lv_bipush (v := 7) hx hb dX12_rideOn_90 (by decide) ?_
        refine lv_icmp_ne (tgt := 100) hx hb dX12_rideOn_92 (by decide) (fun c147 => ?_) (fun c147 => ?_)
        · have h := it_f h c147
          refine lv_bipush (v := 6) hx hb dX12_rideOn_100 (by decide) ?_
          refine lv_dup2_11 hx hb dX12_rideOn_102 rfl rfl ?_
          obtain ⟨g148, h⟩ := gd_e h
          obtain ⟨x149, e150, h⟩ := lt_e h
          refine u_ald X M hq.1 (uAr_sh hq (va_up_s2 V 19 B q _)) (inb_e g148) e150 dX12_rideOn_103 ?_
          refine lv_iconst (v := 1) hx hb dX12_rideOn_104 (by decide) ?_
          refine lv_iadd hx hb dX12_rideOn_105 ?_
          obtain ⟨r151, e152, h⟩ := lt_e h
          refine u_ast_a X M hq (inb_e g148) e152 dX12_rideOn_106 (fun H locs M => ?_)
          refine lv_iload hx hb dX12_rideOn_107 (lv_at hl 0 rfl) ?_
          exact u_iret X hret M (rt2 h).1 (congrArg (fun z => va_up V 19 (va_up B q z)) ((rt2 h).2)) rfl dX12_rideOn_109
        · have h := it_t h c147
          refine lv_bipush (v := 7) hx hb dX12_rideOn_95 (by decide) ?_
          refine lv_goto (tgt := 102) hx hb dX12_rideOn_97 (by decide) ?_
          refine lv_dup2_11 hx hb dX12_rideOn_102 rfl rfl ?_
          obtain ⟨g153, h⟩ := gd_e h
          obtain ⟨x154, e155, h⟩ := lt_e h
          refine u_ald X M hq.1 (uAr_sh hq (va_up_s2 V 19 B q _)) (inb_e g153) e155 dX12_rideOn_103 ?_
          refine lv_iconst (v := 1) hx hb dX12_rideOn_104 (by decide) ?_
          refine lv_iadd hx hb dX12_rideOn_105 ?_
          obtain ⟨r156, e157, h⟩ := lt_e h
          refine u_ast_a X M hq (inb_e g153) e157 dX12_rideOn_106 (fun H locs M => ?_)
          refine lv_iload hx hb dX12_rideOn_107 (lv_at hl 0 rfl) ?_
          exact u_iret X hret M (rt2 h).1 (congrArg (fun z => va_up V 19 (va_up B q z)) ((rt2 h).2)) rfl dX12_rideOn_109
  · have h := it_t h c13
    refine lv_aload_n hx hb dX12_rideOn_28 rfl (lv_at hl 3 rfl) ?_
    refine lv_bipush (v := 7) hx hb dX12_rideOn_29 (by decide) ?_
    refine lv_dup2_11 hx hb dX12_rideOn_31 rfl rfl ?_
    obtain ⟨g158, h⟩ := gd_e h
    obtain ⟨x159, e160, h⟩ := lt_e h
    refine u_ald X M hq.1 (uAr_sh hq (va_up_s2 V 19 B q _)) (inb_e g158) e160 dX12_rideOn_32 ?_
    refine lv_iconst (v := 1) hx hb dX12_rideOn_33 (by decide) ?_
    refine lv_iadd hx hb dX12_rideOn_34 ?_
    obtain ⟨r161, e162, h⟩ := lt_e h
    refine u_ast_a X M hq (inb_e g158) e162 dX12_rideOn_35 (fun H locs M => ?_)
    refine lv_iconst (v := 2) hx hb dX12_rideOn_36 (by decide) ?_
    exact u_iret X hret M (rt2 h).1 (congrArg (fun z => va_up V 19 (va_up B q z)) ((rt2 h).2)) rfl dX12_rideOn_37
def fX12_canIssue (f : (Nat → Int32)) : Option Int32 :=
  gd (inb 1 1272) <|
  lt_ (f (1 : Int32).toNatClampNeg) fun x2 =>
  if 8 ≤ x2 then
    some 0
  else
    gd (inb 0 1272) <|
    lt_ (f (0 : Int32).toNatClampNeg) fun x6 =>
    if 10 ≤ x6 then
      some 0
    else
      some 1
set_option maxHeartbeats 4000000 in
set_option maxRecDepth 20000 in
theorem kX12_canIssue {l : Launch} {G : UG} {V : uV} {q : Nat} (hq : uAr G q) {f : (Nat → Int32)} (hV : V 19 q = f)  {r : Int32} (h : fX12_canIssue f = some r) : uMi l G yX12_canIssue cX12_canIssue 1 .boolean (uR 0 0) [.ref (ga G 19 q)] V r V := by
  refine uMi_of rfl (Nat.le_of_ble_eq_true rfl) (fun p e s m args below meth c ls X hret hl M => ?_)
  have hl : lv_has ls 1 [(0, .ref (ga G 19 q))] := hl
  have hx := X.hx
  have hb := X.hb
  unfold fX12_canIssue at h
  refine lv_aload_n hx hb dX12_canIssue_0 rfl (lv_at hl 0 rfl) ?_
  refine lv_iconst (v := 1) hx hb dX12_canIssue_1 (by decide) ?_
  obtain ⟨g1, h⟩ := gd_e h
  obtain ⟨x2, e3, h⟩ := lt_e h
  refine u_ald X M hq.1 (uAr_sh hq hV) (inb_e g1) e3 dX12_canIssue_2 ?_
  refine lv_bipush (v := 8) hx hb dX12_canIssue_3 (by decide) ?_
  refine lv_icmp_ge (tgt := 20) hx hb dX12_canIssue_5 (by decide) (fun c4 => ?_) (fun c4 => ?_)
  · have h := it_t h c4
    refine lv_iconst (v := 0) hx hb dX12_canIssue_20 (by decide) ?_
    exact u_iret X hret M (Option.some.inj h) (rfl) rfl dX12_canIssue_21
  · have h := it_f h c4
    refine lv_aload_n hx hb dX12_canIssue_8 rfl (lv_at hl 0 rfl) ?_
    refine lv_iconst (v := 0) hx hb dX12_canIssue_9 (by decide) ?_
    obtain ⟨g5, h⟩ := gd_e h
    obtain ⟨x6, e7, h⟩ := lt_e h
    refine u_ald X M hq.1 (uAr_sh hq hV) (inb_e g5) e7 dX12_canIssue_10 ?_
    refine lv_bipush (v := 10) hx hb dX12_canIssue_11 (by decide) ?_
    refine lv_icmp_ge (tgt := 20) hx hb dX12_canIssue_13 (by decide) (fun c8 => ?_) (fun c8 => ?_)
    · have h := it_t h c8
      refine lv_iconst (v := 0) hx hb dX12_canIssue_20 (by decide) ?_
      exact u_iret X hret M (Option.some.inj h) (rfl) rfl dX12_canIssue_21
    · have h := it_f h c8
      refine lv_iconst (v := 1) hx hb dX12_canIssue_16 (by decide) ?_
      refine lv_goto (tgt := 21) hx hb dX12_canIssue_17 (by decide) ?_
      exact u_iret X hret M (Option.some.inj h) (rfl) rfl dX12_canIssue_21
def fX12_issueOn (f : (Nat → Int32)) (a2 : Int32) : Option (Int32 × (Nat → Int32)) :=
  gd (inb 0 1272) <|
  lt_ (f (0 : Int32).toNatClampNeg) fun x2 =>
  gd (inb 1 1272) <|
  lt_ (f (1 : Int32).toNatClampNeg) fun x5 =>
  lt_ (fX12_accountAt  x5) fun x8 =>
  gd (inb (x8 + 0) 1272) <|
  lt_ (upd f ((x8 + 0) : Int32).toNatClampNeg a2) fun r11 =>
  lt_ (fX12_cardAt  x2) fun x14 =>
  gd (inb (x14 + 0) 1272) <|
  lt_ (upd r11 ((x14 + 0) : Int32).toNatClampNeg x5) fun r17 =>
  lt_ (fX12_cardAt  x2) fun x20 =>
  gd (inb (x20 + 1) 1272) <|
  lt_ (upd r17 ((x20 + 1) : Int32).toNatClampNeg a2) fun r23 =>
  lt_ (r23 (0 : Int32).toNatClampNeg) fun x25 =>
  lt_ (upd r23 (0 : Int32).toNatClampNeg (x25 + 1)) fun r27 =>
  lt_ (r27 (1 : Int32).toNatClampNeg) fun x29 =>
  lt_ (upd r27 (1 : Int32).toNatClampNeg (x29 + 1)) fun r31 =>
  some (x2, r31)
set_option maxHeartbeats 4000000 in
set_option maxRecDepth 20000 in
theorem kX12_issueOn {l : Launch} {G : UG} {V : uV} {q : Nat} (hq : uAr G q) {B : (Nat → Nat → Int32)} {f f' : (Nat → Int32)} {a2 : Int32} {r : Int32} (h : fX12_issueOn f a2 = some (r, f')) : uMi l G yX12_issueOn cX12_issueOn 4 .int (uR 1 20) [.ref (ga G 19 q), .int a2] (va_up V 19 (va_up B q f)) r (va_up V 19 (va_up B q f')) := by
  refine uMi_of rfl (Nat.le_of_ble_eq_true rfl) (fun p e s m args below meth c ls X hret hl M => ?_)
  have hl : lv_has ls 4 [(0, .ref (ga G 19 q)), (1, .int a2)] := hl
  have hx := X.hx
  have hb := X.hb
  unfold fX12_issueOn at h
  refine lv_aload_n hx hb dX12_issueOn_0 rfl (lv_at hl 0 rfl) ?_
  refine lv_iconst (v := 0) hx hb dX12_issueOn_1 (by decide) ?_
  obtain ⟨g1, h⟩ := gd_e h
  obtain ⟨x2, e3, h⟩ := lt_e h
  refine u_ald X M hq.1 (uAr_sh hq (va_up_s2 V 19 B q _)) (inb_e g1) e3 dX12_issueOn_2 ?_
  refine lv_istore_n (lv' := [(2, .int x2), (0, .ref (ga G 19 q)), (1, .int a2)]) hx hb dX12_issueOn_3 rfl hl (by decide) rfl (fun ls hl => ?_)
  refine lv_aload_n hx hb dX12_issueOn_4 rfl (lv_at hl 1 rfl) ?_
  refine lv_iconst (v := 1) hx hb dX12_issueOn_5 (by decide) ?_
  obtain ⟨g4, h⟩ := gd_e h
  obtain ⟨x5, e6, h⟩ := lt_e h
  refine u_ald X M hq.1 (uAr_sh hq (va_up_s2 V 19 B q _)) (inb_e g4) e6 dX12_issueOn_6 ?_
  refine lv_istore_n (lv' := [(3, .int x5), (2, .int x2), (0, .ref (ga G 19 q)), (1, .int a2)]) hx hb dX12_issueOn_7 rfl hl (by decide) rfl (fun ls hl => ?_)
  refine lv_aload_n hx hb dX12_issueOn_8 rfl (lv_at hl 2 rfl) ?_
  refine lv_iload_n hx hb dX12_issueOn_9 rfl (lv_at hl 0 rfl) ?_
  obtain ⟨x8, e7, h⟩ := lt_e h
  refine u_cSi X M hl.1 (kX12_accountAt  e7.symm) cw_X12_50 ⟨by decide, by decide⟩ rfl rfl (Nat.le_of_ble_eq_true rfl) ⟨Nat.zero_le _, Nat.zero_le _⟩ dX12_issueOn_10 (fun H locs M n9 => ?_)
  refine lv_iconst (v := 0) hx hb dX12_issueOn_13 (by decide) ?_
  refine lv_iadd hx hb dX12_issueOn_14 ?_
  refine lv_iload_n hx hb dX12_issueOn_15 rfl (lv_at hl 3 rfl) ?_
  obtain ⟨g10, h⟩ := gd_e h
  obtain ⟨r11, e12, h⟩ := lt_e h
  refine u_ast_a X M hq (inb_e g10) e12 dX12_issueOn_16 (fun H locs M => ?_)
  refine lv_aload_n hx hb dX12_issueOn_17 rfl (lv_at hl 2 rfl) ?_
  refine lv_iload_n hx hb dX12_issueOn_18 rfl (lv_at hl 1 rfl) ?_
  obtain ⟨x14, e13, h⟩ := lt_e h
  refine u_cSi X M hl.1 (kX12_cardAt  e13.symm) cw_X12_76 ⟨by decide, by decide⟩ rfl rfl (Nat.le_of_ble_eq_true rfl) ⟨Nat.zero_le _, Nat.zero_le _⟩ dX12_issueOn_19 (fun H locs M n15 => ?_)
  refine lv_iconst (v := 0) hx hb dX12_issueOn_22 (by decide) ?_
  refine lv_iadd hx hb dX12_issueOn_23 ?_
  refine lv_iload_n hx hb dX12_issueOn_24 rfl (lv_at hl 0 rfl) ?_
  obtain ⟨g16, h⟩ := gd_e h
  obtain ⟨r17, e18, h⟩ := lt_e h
  refine u_ast_a X M hq (inb_e g16) e18 dX12_issueOn_25 (fun H locs M => ?_)
  refine lv_aload_n hx hb dX12_issueOn_26 rfl (lv_at hl 2 rfl) ?_
  refine lv_iload_n hx hb dX12_issueOn_27 rfl (lv_at hl 1 rfl) ?_
  obtain ⟨x20, e19, h⟩ := lt_e h
  refine u_cSi X M hl.1 (kX12_cardAt  e19.symm) cw_X12_76 ⟨by decide, by decide⟩ rfl rfl (Nat.le_of_ble_eq_true rfl) ⟨Nat.zero_le _, Nat.zero_le _⟩ dX12_issueOn_28 (fun H locs M n21 => ?_)
  refine lv_iconst (v := 1) hx hb dX12_issueOn_31 (by decide) ?_
  refine lv_iadd hx hb dX12_issueOn_32 ?_
  refine lv_iload_n hx hb dX12_issueOn_33 rfl (lv_at hl 3 rfl) ?_
  obtain ⟨g22, h⟩ := gd_e h
  obtain ⟨r23, e24, h⟩ := lt_e h
  refine u_ast_a X M hq (inb_e g22) e24 dX12_issueOn_34 (fun H locs M => ?_)
  refine lv_aload_n hx hb dX12_issueOn_35 rfl (lv_at hl 2 rfl) ?_
  refine lv_iconst (v := 0) hx hb dX12_issueOn_36 (by decide) ?_
  refine lv_dup2_11 hx hb dX12_issueOn_37 rfl rfl ?_
  obtain ⟨x25, e26, h⟩ := lt_e h
  refine u_ald X M hq.1 (uAr_sh hq (va_up_s2 V 19 B q _)) (inb_e g1) e26 dX12_issueOn_38 ?_
  refine lv_iconst (v := 1) hx hb dX12_issueOn_39 (by decide) ?_
  refine lv_iadd hx hb dX12_issueOn_40 ?_
  obtain ⟨r27, e28, h⟩ := lt_e h
  refine u_ast_a X M hq (inb_e g1) e28 dX12_issueOn_41 (fun H locs M => ?_)
  refine lv_aload_n hx hb dX12_issueOn_42 rfl (lv_at hl 2 rfl) ?_
  refine lv_iconst (v := 1) hx hb dX12_issueOn_43 (by decide) ?_
  refine lv_dup2_11 hx hb dX12_issueOn_44 rfl rfl ?_
  obtain ⟨x29, e30, h⟩ := lt_e h
  refine u_ald X M hq.1 (uAr_sh hq (va_up_s2 V 19 B q _)) (inb_e g4) e30 dX12_issueOn_45 ?_
  refine lv_iconst (v := 1) hx hb dX12_issueOn_46 (by decide) ?_
  refine lv_iadd hx hb dX12_issueOn_47 ?_
  obtain ⟨r31, e32, h⟩ := lt_e h
  refine u_ast_a X M hq (inb_e g4) e32 dX12_issueOn_48 (fun H locs M => ?_)
  refine lv_iload_n hx hb dX12_issueOn_49 rfl (lv_at hl 1 rfl) ?_
  exact u_iret X hret M (rt2 h).1 (congrArg (fun z => va_up V 19 (va_up B q z)) ((rt2 h).2)) rfl dX12_issueOn_50
def fX12_canCopy (f : (Nat → Int32)) (a2 : Int32) : Option Int32 :=
  bd (fX12_isCard f a2) fun x2 =>
  if x2 = 0 then
    some 0
  else
    gd (inb 0 1272) <|
    lt_ (f (0 : Int32).toNatClampNeg) fun x6 =>
    if 10 ≤ x6 then
      some 0
    else
      some 1
set_option maxHeartbeats 4000000 in
set_option maxRecDepth 20000 in
theorem kX12_canCopy {l : Launch} {G : UG} {V : uV} {q : Nat} (hq : uAr G q) {f : (Nat → Int32)} (hV : V 19 q = f) {a2 : Int32} {r : Int32} (h : fX12_canCopy f a2 = some r) : uMi l G yX12_canCopy cX12_canCopy 2 .boolean (uR 2 46) [.ref (ga G 19 q), .int a2] V r V := by
  refine uMi_of rfl (Nat.le_of_ble_eq_true rfl) (fun p e s m args below meth c ls X hret hl M => ?_)
  have hl : lv_has ls 2 [(0, .ref (ga G 19 q)), (1, .int a2)] := hl
  have hx := X.hx
  have hb := X.hb
  unfold fX12_canCopy at h
  refine lv_aload_n hx hb dX12_canCopy_0 rfl (lv_at hl 0 rfl) ?_
  refine lv_iload_n hx hb dX12_canCopy_1 rfl (lv_at hl 1 rfl) ?_
  obtain ⟨x2, e1, h⟩ := bd_e h
  refine u_cSi X M hl.1 (kX12_isCard hq hV e1) cw_X12_87 ⟨by decide, by decide⟩ rfl rfl (Nat.le_of_ble_eq_true rfl) ⟨Nat.zero_le _, Nat.zero_le _⟩ dX12_canCopy_2 (fun H locs M n3 => ?_)
  refine lv_if_eq (tgt := 20) hx hb dX12_canCopy_5 (by decide) (fun c4 => ?_) (fun c4 => ?_)
  · have h := it_t h c4
    refine lv_iconst (v := 0) hx hb dX12_canCopy_20 (by decide) ?_
    exact u_iret X hret M (Option.some.inj h) (rfl) rfl dX12_canCopy_21
  · have h := it_f h c4
    refine lv_aload_n hx hb dX12_canCopy_8 rfl (lv_at hl 0 rfl) ?_
    refine lv_iconst (v := 0) hx hb dX12_canCopy_9 (by decide) ?_
    obtain ⟨g5, h⟩ := gd_e h
    obtain ⟨x6, e7, h⟩ := lt_e h
    refine u_ald X M hq.1 (uAr_sh hq hV) (inb_e g5) e7 dX12_canCopy_10 ?_
    refine lv_bipush (v := 10) hx hb dX12_canCopy_11 (by decide) ?_
    refine lv_icmp_ge (tgt := 20) hx hb dX12_canCopy_13 (by decide) (fun c8 => ?_) (fun c8 => ?_)
    · have h := it_t h c8
      refine lv_iconst (v := 0) hx hb dX12_canCopy_20 (by decide) ?_
      exact u_iret X hret M (Option.some.inj h) (rfl) rfl dX12_canCopy_21
    · have h := it_f h c8
      refine lv_iconst (v := 1) hx hb dX12_canCopy_16 (by decide) ?_
      refine lv_goto (tgt := 21) hx hb dX12_canCopy_17 (by decide) ?_
      exact u_iret X hret M (Option.some.inj h) (rfl) rfl dX12_canCopy_21
def fX12_copyOn_L6 (n : Nat) (f : (Nat → Int32)) (y1 : Int32) (y2 : Int32) (y3 : Int32) : Option (Int32 × (Nat → Int32)) :=
  match n with
  | 0 => none
  | n + 1 =>
    if 4 ≤ y3 then
      gd (inb 0 1272) <|
      lt_ (f (0 : Int32).toNatClampNeg) fun x6 =>
      lt_ (upd f (0 : Int32).toNatClampNeg (x6 + 1)) fun r8 =>
      some (y2, r8)
    else
      lt_ (fX12_cardAt  y2) fun x11 =>
      lt_ (fX12_cardAt  y1) fun x14 =>
      gd (inb (x14 + y3) 1272) <|
      lt_ (f ((x14 + y3) : Int32).toNatClampNeg) fun x17 =>
      gd (inb (x11 + y3) 1272) <|
      lt_ (upd f ((x11 + y3) : Int32).toNatClampNeg x17) fun r20 =>
      lt_ (y3 + 1) fun x22 =>
      fX12_copyOn_L6 n r20 y1 y2 x22
set_option maxHeartbeats 4000000 in
set_option maxRecDepth 20000 in
theorem lpX12_copyOn_6 {l : Launch} {G : UG} {V : uV} {q : Nat} (hq : uAr G q) {B : (Nat → Nat → Int32)} {f' : (Nat → Int32)} {r : Int32} {p : Program} {e : Env} {s : State} {m : MethodId} {args : Array Value} {below : List Frame} {meth : Method} {c : Code} (X : UC p s m args meth c cX12_copyOn 4 RX12 G) (hret : meth.sig.returnType = some .int) : ∀ (n : Nat) (f : (Nat → Int32)) (y1 : Int32) (y2 : Int32) (y3 : Int32) (H : Heap) (locs : List Loc) (ls : Array Slot), fX12_copyOn_L6  n f y1 y2 y3 = some (r, f') → UM G (va_up V 19 (va_up B q f)) s H locs → lv_has ls 4 [(0, .ref (ga G 19 q)), (1, .int y1), (2, .int y2), (3, .int y3)] → W p l e (uR 1 20) s m args below meth c H locs 0 0 (MQ below (uQi G .int r (va_up V 19 (va_up B q f'))) args s 0 0 (uA G)) (F0 m 6 ls []) := by
  intro n
  have hx := X.hx
  have hb := X.hb
  induction n with
  | zero => intro f y1 y2 y3 H locs ls h M hl; rw [fX12_copyOn_L6] at h; cases h
  | succ n ih =>
    intro f y1 y2 y3 H locs ls h M hl
    rw [fX12_copyOn_L6] at h
    refine lv_iload_n hx hb dX12_copyOn_6 rfl (lv_at hl 3 rfl) ?_
    refine lv_iconst (v := 4) hx hb dX12_copyOn_7 (by decide) ?_
    refine lv_icmp_ge (tgt := 33) hx hb dX12_copyOn_8 (by decide) (fun c4 => ?_) (fun c4 => ?_)
    · have h := it_t h c4
      refine lv_aload_n hx hb dX12_copyOn_33 rfl (lv_at hl 0 rfl) ?_
      refine lv_iconst (v := 0) hx hb dX12_copyOn_34 (by decide) ?_
      refine lv_dup2_11 hx hb dX12_copyOn_35 rfl rfl ?_
      obtain ⟨g5, h⟩ := gd_e h
      obtain ⟨x6, e7, h⟩ := lt_e h
      refine u_ald X M hq.1 (uAr_sh hq (va_up_s2 V 19 B q _)) (inb_e g5) e7 dX12_copyOn_36 ?_
      refine lv_iconst (v := 1) hx hb dX12_copyOn_37 (by decide) ?_
      refine lv_iadd hx hb dX12_copyOn_38 ?_
      obtain ⟨r8, e9, h⟩ := lt_e h
      refine u_ast_a X M hq (inb_e g5) e9 dX12_copyOn_39 (fun H locs M => ?_)
      refine lv_iload_n hx hb dX12_copyOn_40 rfl (lv_at hl 2 rfl) ?_
      exact u_iret X hret M (rt2 h).1 (congrArg (fun z => va_up V 19 (va_up B q z)) ((rt2 h).2)) rfl dX12_copyOn_41
    · have h := it_f h c4
      refine lv_aload_n hx hb dX12_copyOn_11 rfl (lv_at hl 0 rfl) ?_
      refine lv_iload_n hx hb dX12_copyOn_12 rfl (lv_at hl 2 rfl) ?_
      obtain ⟨x11, e10, h⟩ := lt_e h
      refine u_cSi X M hl.1 (kX12_cardAt  e10.symm) cw_X12_76 ⟨by decide, by decide⟩ rfl rfl (Nat.le_of_ble_eq_true rfl) ⟨Nat.zero_le _, Nat.zero_le _⟩ dX12_copyOn_13 (fun H locs M n12 => ?_)
      refine lv_iload_n hx hb dX12_copyOn_16 rfl (lv_at hl 3 rfl) ?_
      refine lv_iadd hx hb dX12_copyOn_17 ?_
      refine lv_aload_n hx hb dX12_copyOn_18 rfl (lv_at hl 0 rfl) ?_
      refine lv_iload_n hx hb dX12_copyOn_19 rfl (lv_at hl 1 rfl) ?_
      obtain ⟨x14, e13, h⟩ := lt_e h
      refine u_cSi X M hl.1 (kX12_cardAt  e13.symm) cw_X12_76 ⟨by decide, by decide⟩ rfl rfl (Nat.le_of_ble_eq_true rfl) ⟨Nat.zero_le _, Nat.zero_le _⟩ dX12_copyOn_20 (fun H locs M n15 => ?_)
      refine lv_iload_n hx hb dX12_copyOn_23 rfl (lv_at hl 3 rfl) ?_
      refine lv_iadd hx hb dX12_copyOn_24 ?_
      obtain ⟨g16, h⟩ := gd_e h
      obtain ⟨x17, e18, h⟩ := lt_e h
      refine u_ald X M hq.1 (uAr_sh hq (va_up_s2 V 19 B q _)) (inb_e g16) e18 dX12_copyOn_25 ?_
      obtain ⟨g19, h⟩ := gd_e h
      obtain ⟨r20, e21, h⟩ := lt_e h
      refine u_ast_a X M hq (inb_e g19) e21 dX12_copyOn_26 (fun H locs M => ?_)
      obtain ⟨x22, e23, h⟩ := lt_e h
      refine lv_iinc (v := x22) (lv' := [(3, .int x22), (0, .ref (ga G 19 q)), (1, .int y1), (2, .int y2)]) hx hb dX12_copyOn_27 hl (k := 3) rfl (by rw [e23]; rfl) (by decide) rfl (fun ls hl => ?_)
      refine lv_goto (tgt := 6) hx hb dX12_copyOn_30 (by decide) ?_
      exact ih _ _ _ _ _ _ _ h M (lv_sub hl [1, 2, 3, 0] rfl)
def fX12_copyOn (f : (Nat → Int32)) (a2 : Int32) : Option (Int32 × (Nat → Int32)) :=
  gd (inb 0 1272) <|
  lt_ (f (0 : Int32).toNatClampNeg) fun x2 =>
  fX12_copyOn_L6 3000 f a2 x2 0
set_option maxHeartbeats 4000000 in
set_option maxRecDepth 20000 in
theorem kX12_copyOn {l : Launch} {G : UG} {V : uV} {q : Nat} (hq : uAr G q) {B : (Nat → Nat → Int32)} {f f' : (Nat → Int32)} {a2 : Int32} {r : Int32} (h : fX12_copyOn f a2 = some (r, f')) : uMi l G yX12_copyOn cX12_copyOn 4 .int (uR 1 20) [.ref (ga G 19 q), .int a2] (va_up V 19 (va_up B q f)) r (va_up V 19 (va_up B q f')) := by
  refine uMi_of rfl (Nat.le_of_ble_eq_true rfl) (fun p e s m args below meth c ls X hret hl M => ?_)
  have hl : lv_has ls 4 [(0, .ref (ga G 19 q)), (1, .int a2)] := hl
  have hx := X.hx
  have hb := X.hb
  unfold fX12_copyOn at h
  refine lv_aload_n hx hb dX12_copyOn_0 rfl (lv_at hl 0 rfl) ?_
  refine lv_iconst (v := 0) hx hb dX12_copyOn_1 (by decide) ?_
  obtain ⟨g1, h⟩ := gd_e h
  obtain ⟨x2, e3, h⟩ := lt_e h
  refine u_ald X M hq.1 (uAr_sh hq (va_up_s2 V 19 B q _)) (inb_e g1) e3 dX12_copyOn_2 ?_
  refine lv_istore_n (lv' := [(2, .int x2), (0, .ref (ga G 19 q)), (1, .int a2)]) hx hb dX12_copyOn_3 rfl hl (by decide) rfl (fun ls hl => ?_)
  refine lv_iconst (v := 0) hx hb dX12_copyOn_4 (by decide) ?_
  refine lv_istore_n (lv' := [(3, .int 0), (2, .int x2), (0, .ref (ga G 19 q)), (1, .int a2)]) hx hb dX12_copyOn_5 rfl hl (by decide) rfl (fun ls hl => ?_)
  exact lpX12_copyOn_6 hq X hret 3000 _ _ _ _ _ _ _ h M (lv_sub hl [2, 3, 1, 0] rfl)
def fX12_payOn (f : (Nat → Int32)) (a2 : Int32) (a3 : Int32) : Option (Int32 × (Nat → Int32)) :=
  lt_ (fX12_accountAt  a2) fun x2 =>
  gd (inb (x2 + 0) 1272) <|
  lt_ (f ((x2 + 0) : Int32).toNatClampNeg) fun x5 =>
  lt_ (upd f ((x2 + 0) : Int32).toNatClampNeg (x5 + a3)) fun r7 =>
  lt_ (fX12_accountAt  a2) fun x10 =>
  gd (inb (x10 + 1) 1272) <|
  lt_ (r7 ((x10 + 1) : Int32).toNatClampNeg) fun x13 =>
  lt_ (upd r7 ((x10 + 1) : Int32).toNatClampNeg (x13 + a3)) fun r15 =>
  lt_ (fX12_accountAt  a2) fun x18 =>
  gd (inb (x18 + 0) 1272) <|
  lt_ (r15 ((x18 + 0) : Int32).toNatClampNeg) fun x21 =>
  some (x21, r15)
set_option maxHeartbeats 4000000 in
set_option maxRecDepth 20000 in
theorem kX12_payOn {l : Launch} {G : UG} {V : uV} {q : Nat} (hq : uAr G q) {B : (Nat → Nat → Int32)} {f f' : (Nat → Int32)} {a2 : Int32} {a3 : Int32} {r : Int32} (h : fX12_payOn f a2 a3 = some (r, f')) : uMi l G yX12_payOn cX12_payOn 3 .int (uR 1 20) [.ref (ga G 19 q), .int a2, .int a3] (va_up V 19 (va_up B q f)) r (va_up V 19 (va_up B q f')) := by
  refine uMi_of rfl (Nat.le_of_ble_eq_true rfl) (fun p e s m args below meth c ls X hret hl M => ?_)
  have hl : lv_has ls 3 [(0, .ref (ga G 19 q)), (1, .int a2), (2, .int a3)] := hl
  have hx := X.hx
  have hb := X.hb
  unfold fX12_payOn at h
  refine lv_aload_n hx hb dX12_payOn_0 rfl (lv_at hl 0 rfl) ?_
  refine lv_iload_n hx hb dX12_payOn_1 rfl (lv_at hl 1 rfl) ?_
  obtain ⟨x2, e1, h⟩ := lt_e h
  refine u_cSi X M hl.1 (kX12_accountAt  e1.symm) cw_X12_50 ⟨by decide, by decide⟩ rfl rfl (Nat.le_of_ble_eq_true rfl) ⟨Nat.zero_le _, Nat.zero_le _⟩ dX12_payOn_2 (fun H locs M n3 => ?_)
  refine lv_iconst (v := 0) hx hb dX12_payOn_5 (by decide) ?_
  refine lv_iadd hx hb dX12_payOn_6 ?_
  refine lv_dup2_11 hx hb dX12_payOn_7 rfl rfl ?_
  obtain ⟨g4, h⟩ := gd_e h
  obtain ⟨x5, e6, h⟩ := lt_e h
  refine u_ald X M hq.1 (uAr_sh hq (va_up_s2 V 19 B q _)) (inb_e g4) e6 dX12_payOn_8 ?_
  refine lv_iload_n hx hb dX12_payOn_9 rfl (lv_at hl 2 rfl) ?_
  refine lv_iadd hx hb dX12_payOn_10 ?_
  obtain ⟨r7, e8, h⟩ := lt_e h
  refine u_ast_a X M hq (inb_e g4) e8 dX12_payOn_11 (fun H locs M => ?_)
  refine lv_aload_n hx hb dX12_payOn_12 rfl (lv_at hl 0 rfl) ?_
  refine lv_iload_n hx hb dX12_payOn_13 rfl (lv_at hl 1 rfl) ?_
  obtain ⟨x10, e9, h⟩ := lt_e h
  refine u_cSi X M hl.1 (kX12_accountAt  e9.symm) cw_X12_50 ⟨by decide, by decide⟩ rfl rfl (Nat.le_of_ble_eq_true rfl) ⟨Nat.zero_le _, Nat.zero_le _⟩ dX12_payOn_14 (fun H locs M n11 => ?_)
  refine lv_iconst (v := 1) hx hb dX12_payOn_17 (by decide) ?_
  refine lv_iadd hx hb dX12_payOn_18 ?_
  refine lv_dup2_11 hx hb dX12_payOn_19 rfl rfl ?_
  obtain ⟨g12, h⟩ := gd_e h
  obtain ⟨x13, e14, h⟩ := lt_e h
  refine u_ald X M hq.1 (uAr_sh hq (va_up_s2 V 19 B q _)) (inb_e g12) e14 dX12_payOn_20 ?_
  refine lv_iload_n hx hb dX12_payOn_21 rfl (lv_at hl 2 rfl) ?_
  refine lv_iadd hx hb dX12_payOn_22 ?_
  obtain ⟨r15, e16, h⟩ := lt_e h
  refine u_ast_a X M hq (inb_e g12) e16 dX12_payOn_23 (fun H locs M => ?_)
  refine lv_aload_n hx hb dX12_payOn_24 rfl (lv_at hl 0 rfl) ?_
  refine lv_iload_n hx hb dX12_payOn_25 rfl (lv_at hl 1 rfl) ?_
  obtain ⟨x18, e17, h⟩ := lt_e h
  refine u_cSi X M hl.1 (kX12_accountAt  e17.symm) cw_X12_50 ⟨by decide, by decide⟩ rfl rfl (Nat.le_of_ble_eq_true rfl) ⟨Nat.zero_le _, Nat.zero_le _⟩ dX12_payOn_26 (fun H locs M n19 => ?_)
  refine lv_iconst (v := 0) hx hb dX12_payOn_29 (by decide) ?_
  refine lv_iadd hx hb dX12_payOn_30 ?_
  obtain ⟨g20, h⟩ := gd_e h
  obtain ⟨x21, e22, h⟩ := lt_e h
  refine u_ald X M hq.1 (uAr_sh hq (va_up_s2 V 19 B q _)) (inb_e g20) e22 dX12_payOn_31 ?_
  exact u_iret X hret M (rt2 h).1 (congrArg (fun z => va_up V 19 (va_up B q z)) ((rt2 h).2)) rfl dX12_payOn_32
def fX12_openOn (f : (Nat → Int32)) (a2 : Int32) : Option (Int32 × (Nat → Int32)) :=
  lt_ (fX12_gateAt  a2) fun x2 =>
  lt_ (fX12_gateAt  a2) fun x5 =>
  gd (inb (x5 + 2) 1272) <|
  lt_ (f ((x5 + 2) : Int32).toNatClampNeg) fun x8 =>
  gd (inb (x2 + 2) 1272) <|
  lt_ (upd f ((x2 + 2) : Int32).toNatClampNeg (1 - x8)) fun r11 =>
  lt_ (fX12_gateAt  a2) fun x14 =>
  gd (inb (x14 + 2) 1272) <|
  lt_ (r11 ((x14 + 2) : Int32).toNatClampNeg) fun x17 =>
  some (x17, r11)
set_option maxHeartbeats 4000000 in
set_option maxRecDepth 20000 in
theorem kX12_openOn {l : Launch} {G : UG} {V : uV} {q : Nat} (hq : uAr G q) {B : (Nat → Nat → Int32)} {f f' : (Nat → Int32)} {a2 : Int32} {r : Int32} (h : fX12_openOn f a2 = some (r, f')) : uMi l G yX12_openOn cX12_openOn 2 .int (uR 1 20) [.ref (ga G 19 q), .int a2] (va_up V 19 (va_up B q f)) r (va_up V 19 (va_up B q f')) := by
  refine uMi_of rfl (Nat.le_of_ble_eq_true rfl) (fun p e s m args below meth c ls X hret hl M => ?_)
  have hl : lv_has ls 2 [(0, .ref (ga G 19 q)), (1, .int a2)] := hl
  have hx := X.hx
  have hb := X.hb
  unfold fX12_openOn at h
  refine lv_aload_n hx hb dX12_openOn_0 rfl (lv_at hl 0 rfl) ?_
  refine lv_iload_n hx hb dX12_openOn_1 rfl (lv_at hl 1 rfl) ?_
  obtain ⟨x2, e1, h⟩ := lt_e h
  refine u_cSi X M hl.1 (kX12_gateAt  e1.symm) cw_X12_40 ⟨by decide, by decide⟩ rfl rfl (Nat.le_of_ble_eq_true rfl) ⟨Nat.zero_le _, Nat.zero_le _⟩ dX12_openOn_2 (fun H locs M n3 => ?_)
  refine lv_iconst (v := 2) hx hb dX12_openOn_5 (by decide) ?_
  refine lv_iadd hx hb dX12_openOn_6 ?_
  refine lv_iconst (v := 1) hx hb dX12_openOn_7 (by decide) ?_
  refine lv_aload_n hx hb dX12_openOn_8 rfl (lv_at hl 0 rfl) ?_
  refine lv_iload_n hx hb dX12_openOn_9 rfl (lv_at hl 1 rfl) ?_
  obtain ⟨x5, e4, h⟩ := lt_e h
  refine u_cSi X M hl.1 (kX12_gateAt  e4.symm) cw_X12_40 ⟨by decide, by decide⟩ rfl rfl (Nat.le_of_ble_eq_true rfl) ⟨Nat.zero_le _, Nat.zero_le _⟩ dX12_openOn_10 (fun H locs M n6 => ?_)
  refine lv_iconst (v := 2) hx hb dX12_openOn_13 (by decide) ?_
  refine lv_iadd hx hb dX12_openOn_14 ?_
  obtain ⟨g7, h⟩ := gd_e h
  obtain ⟨x8, e9, h⟩ := lt_e h
  refine u_ald X M hq.1 (uAr_sh hq (va_up_s2 V 19 B q _)) (inb_e g7) e9 dX12_openOn_15 ?_
  refine lv_isub hx hb dX12_openOn_16 ?_
  obtain ⟨g10, h⟩ := gd_e h
  obtain ⟨r11, e12, h⟩ := lt_e h
  refine u_ast_a X M hq (inb_e g10) e12 dX12_openOn_17 (fun H locs M => ?_)
  refine lv_aload_n hx hb dX12_openOn_18 rfl (lv_at hl 0 rfl) ?_
  refine lv_iload_n hx hb dX12_openOn_19 rfl (lv_at hl 1 rfl) ?_
  obtain ⟨x14, e13, h⟩ := lt_e h
  refine u_cSi X M hl.1 (kX12_gateAt  e13.symm) cw_X12_40 ⟨by decide, by decide⟩ rfl rfl (Nat.le_of_ble_eq_true rfl) ⟨Nat.zero_le _, Nat.zero_le _⟩ dX12_openOn_20 (fun H locs M n15 => ?_)
  refine lv_iconst (v := 2) hx hb dX12_openOn_23 (by decide) ?_
  refine lv_iadd hx hb dX12_openOn_24 ?_
  obtain ⟨g16, h⟩ := gd_e h
  obtain ⟨x17, e18, h⟩ := lt_e h
  refine u_ald X M hq.1 (uAr_sh hq (va_up_s2 V 19 B q _)) (inb_e g16) e18 dX12_openOn_25 ?_
  exact u_iret X hret M (rt2 h).1 (congrArg (fun z => va_up V 19 (va_up B q z)) ((rt2 h).2)) rfl dX12_openOn_26
def fX12_runOn (f : (Nat → Int32)) (a2 : Int32) : Option (Int32 × (Nat → Int32)) :=
  gd (inb 2 1272) <|
  lt_ (f (2 : Int32).toNatClampNeg) fun x2 =>
  lt_ (upd f (2 : Int32).toNatClampNeg (x2 + a2)) fun r4 =>
  lt_ (r4 (2 : Int32).toNatClampNeg) fun x6 =>
  some (x6, r4)
set_option maxHeartbeats 4000000 in
set_option maxRecDepth 20000 in
theorem kX12_runOn {l : Launch} {G : UG} {V : uV} {q : Nat} (hq : uAr G q) {B : (Nat → Nat → Int32)} {f f' : (Nat → Int32)} {a2 : Int32} {r : Int32} (h : fX12_runOn f a2 = some (r, f')) : uMi l G yX12_runOn cX12_runOn 2 .int (uR 0 0) [.ref (ga G 19 q), .int a2] (va_up V 19 (va_up B q f)) r (va_up V 19 (va_up B q f')) := by
  refine uMi_of rfl (Nat.le_of_ble_eq_true rfl) (fun p e s m args below meth c ls X hret hl M => ?_)
  have hl : lv_has ls 2 [(0, .ref (ga G 19 q)), (1, .int a2)] := hl
  have hx := X.hx
  have hb := X.hb
  unfold fX12_runOn at h
  refine lv_aload_n hx hb dX12_runOn_0 rfl (lv_at hl 0 rfl) ?_
  refine lv_iconst (v := 2) hx hb dX12_runOn_1 (by decide) ?_
  refine lv_dup2_11 hx hb dX12_runOn_2 rfl rfl ?_
  obtain ⟨g1, h⟩ := gd_e h
  obtain ⟨x2, e3, h⟩ := lt_e h
  refine u_ald X M hq.1 (uAr_sh hq (va_up_s2 V 19 B q _)) (inb_e g1) e3 dX12_runOn_3 ?_
  refine lv_iload_n hx hb dX12_runOn_4 rfl (lv_at hl 1 rfl) ?_
  refine lv_iadd hx hb dX12_runOn_5 ?_
  obtain ⟨r4, e5, h⟩ := lt_e h
  refine u_ast_a X M hq (inb_e g1) e5 dX12_runOn_6 (fun H locs M => ?_)
  refine lv_aload_n hx hb dX12_runOn_7 rfl (lv_at hl 0 rfl) ?_
  refine lv_iconst (v := 2) hx hb dX12_runOn_8 (by decide) ?_
  obtain ⟨x6, e7, h⟩ := lt_e h
  refine u_ald X M hq.1 (uAr_sh hq (va_up_s2 V 19 B q _)) (inb_e g1) e7 dX12_runOn_9 ?_
  exact u_iret X hret M (rt2 h).1 (congrArg (fun z => va_up V 19 (va_up B q z)) ((rt2 h).2)) rfl dX12_runOn_10
def fX12_doesLine (f : (Nat → Int32)) (a2 : Int32) (a3 : Int32) : Option (Int32 × (Nat → Int32)) :=
  bd (fX12_isUp f a2) fun x2 =>
  if x2 = a3 then
    some (0, f)
  else
    if a3 = 0 then
      bd2 (fX12_downOn f a2) fun x7 S8 =>
      if x7 < 0 then
        some (0, S8)
      else
        some (1, S8)
    else
      bd2 (fX12_upOn f a2) fun x12 S13 =>
      if x12 < 0 then
        some (0, S13)
      else
        some (1, S13)
set_option maxHeartbeats 4000000 in
set_option maxRecDepth 20000 in
theorem kX12_doesLine {l : Launch} {G : UG} {V : uV} {q : Nat} (hq : uAr G q) {B : (Nat → Nat → Int32)} {f f' : (Nat → Int32)} {a2 : Int32} {a3 : Int32} {r : Int32} (h : fX12_doesLine f a2 a3 = some (r, f')) : uMi l G yX12_doesLine cX12_doesLine 3 .boolean (uR 4 84) [.ref (ga G 19 q), .int a2, .int a3] (va_up V 19 (va_up B q f)) r (va_up V 19 (va_up B q f')) := by
  refine uMi_of rfl (Nat.le_of_ble_eq_true rfl) (fun p e s m args below meth c ls X hret hl M => ?_)
  have hl : lv_has ls 3 [(0, .ref (ga G 19 q)), (1, .int a2), (2, .int a3)] := hl
  have hx := X.hx
  have hb := X.hb
  unfold fX12_doesLine at h
  refine lv_aload_n hx hb dX12_doesLine_0 rfl (lv_at hl 0 rfl) ?_
  refine lv_iload_n hx hb dX12_doesLine_1 rfl (lv_at hl 1 rfl) ?_
  obtain ⟨x2, e1, h⟩ := bd_e h
  refine u_cSi X M hl.1 (kX12_isUp hq (va_up_s2 V 19 B q _) e1) cw_X12_57 ⟨by decide, by decide⟩ rfl rfl (Nat.le_of_ble_eq_true rfl) ⟨Nat.zero_le _, Nat.zero_le _⟩ dX12_doesLine_2 (fun H locs M n3 => ?_)
  refine lv_iload_n hx hb dX12_doesLine_5 rfl (lv_at hl 2 rfl) ?_
  refine lv_icmp_eq (tgt := 33) hx hb dX12_doesLine_6 (by decide) (fun c4 => ?_) (fun c4 => ?_)
  · have h := it_t h c4
    refine lv_iconst (v := 0) hx hb dX12_doesLine_33 (by decide) ?_
    exact u_iret X hret M (rt2 h).1 (congrArg (fun z => va_up V 19 (va_up B q z)) ((rt2 h).2)) rfl dX12_doesLine_34
  · have h := it_f h c4
    refine lv_iload_n hx hb dX12_doesLine_9 rfl (lv_at hl 2 rfl) ?_
    refine lv_if_eq (tgt := 21) hx hb dX12_doesLine_10 (by decide) (fun c5 => ?_) (fun c5 => ?_)
    · have h := it_t h c5
      refine lv_aload_n hx hb dX12_doesLine_21 rfl (lv_at hl 0 rfl) ?_
      refine lv_iload_n hx hb dX12_doesLine_22 rfl (lv_at hl 1 rfl) ?_
      obtain ⟨x7, S8, e6, h⟩ := bd2_e h
      refine u_cSi X M hl.1 (kX12_downOn hq e6) cw_X12_116 ⟨by decide, by decide⟩ rfl rfl (Nat.le_of_ble_eq_true rfl) ⟨Nat.zero_le _, Nat.zero_le _⟩ dX12_doesLine_23 (fun H locs M n9 => ?_)
      refine lv_if_lt (tgt := 33) hx hb dX12_doesLine_26 (by decide) (fun c10 => ?_) (fun c10 => ?_)
      · have h := it_t h c10
        refine lv_iconst (v := 0) hx hb dX12_doesLine_33 (by decide) ?_
        exact u_iret X hret M (rt2 h).1 (congrArg (fun z => va_up V 19 (va_up B q z)) ((rt2 h).2)) rfl dX12_doesLine_34
      · have h := it_f h c10
        refine lv_iconst (v := 1) hx hb dX12_doesLine_29 (by decide) ?_
        refine lv_goto (tgt := 34) hx hb dX12_doesLine_30 (by decide) ?_
        exact u_iret X hret M (rt2 h).1 (congrArg (fun z => va_up V 19 (va_up B q z)) ((rt2 h).2)) rfl dX12_doesLine_34
    · have h := it_f h c5
      refine lv_aload_n hx hb dX12_doesLine_13 rfl (lv_at hl 0 rfl) ?_
      refine lv_iload_n hx hb dX12_doesLine_14 rfl (lv_at hl 1 rfl) ?_
      obtain ⟨x12, S13, e11, h⟩ := bd2_e h
      refine u_cSi X M hl.1 (kX12_upOn hq e11) cw_X12_113 ⟨by decide, by decide⟩ rfl rfl (Nat.le_of_ble_eq_true rfl) ⟨Nat.zero_le _, Nat.zero_le _⟩ dX12_doesLine_15 (fun H locs M n14 => ?_)
      refine lv_goto (tgt := 26) hx hb dX12_doesLine_18 (by decide) ?_
      refine lv_if_lt (tgt := 33) hx hb dX12_doesLine_26 (by decide) (fun c15 => ?_) (fun c15 => ?_)
      · have h := it_t h c15
        refine lv_iconst (v := 0) hx hb dX12_doesLine_33 (by decide) ?_
        exact u_iret X hret M (rt2 h).1 (congrArg (fun z => va_up V 19 (va_up B q z)) ((rt2 h).2)) rfl dX12_doesLine_34
      · have h := it_f h c15
        refine lv_iconst (v := 1) hx hb dX12_doesLine_29 (by decide) ?_
        refine lv_goto (tgt := 34) hx hb dX12_doesLine_30 (by decide) ?_
        exact u_iret X hret M (rt2 h).1 (congrArg (fun z => va_up V 19 (va_up B q z)) ((rt2 h).2)) rfl dX12_doesLine_34
def fX12_inLogs_L14 (k : Int32 → Int32 → Int32 → Int32 → Int32 → Option Int32) (f : (Nat → Int32)) (n : Nat) (y1 : Int32) (y2 : Int32) (y3 : Int32) (y4 : Int32) (y5 : Int32) : Option Int32 :=
  match n with
  | 0 => none
  | n + 1 =>
    lt_ (fX12_gateAt  y4) fun x3 =>
    gd (inb (x3 + 3) 1272) <|
    lt_ (f ((x3 + 3) : Int32).toNatClampNeg) fun x6 =>
    if x6 ≤ y5 then
      k y1 y2 y3 y4 y5
    else
      if y1 = (-1) then
        if (1 : Int32) = 0 then
          lt_ ((y3 + 0)) fun x26 =>
          lt_ (y5 + 1) fun x28 =>
          fX12_inLogs_L14 k f n y1 y2 x26 y4 x28
        else
          if y2 = 0 then
            lt_ ((y3 + 1)) fun x12 =>
            lt_ (y5 + 1) fun x14 =>
            fX12_inLogs_L14 k f n y1 y2 x12 y4 x14
          else
            lt_ (fX12_logAt  y4 y5) fun x17 =>
            gd (inb (x17 + 2) 1272) <|
            lt_ (f ((x17 + 2) : Int32).toNatClampNeg) fun x20 =>
            lt_ ((y3 + x20)) fun x22 =>
            lt_ (y5 + 1) fun x24 =>
            fX12_inLogs_L14 k f n y1 y2 x22 y4 x24
      else
        lt_ (fX12_logAt  y4 y5) fun x31 =>
        gd (inb x31 1272) <|
        lt_ (f (x31 : Int32).toNatClampNeg) fun x34 =>
        if x34 = y1 then
          if (1 : Int32) = 0 then
            lt_ ((y3 + 0)) fun x73 =>
            lt_ (y5 + 1) fun x75 =>
            fX12_inLogs_L14 k f n y1 y2 x73 y4 x75
          else
            if y2 = 0 then
              lt_ ((y3 + 1)) fun x59 =>
              lt_ (y5 + 1) fun x61 =>
              fX12_inLogs_L14 k f n y1 y2 x59 y4 x61
            else
              lt_ (fX12_logAt  y4 y5) fun x64 =>
              gd (inb (x64 + 2) 1272) <|
              lt_ (f ((x64 + 2) : Int32).toNatClampNeg) fun x67 =>
              lt_ ((y3 + x67)) fun x69 =>
              lt_ (y5 + 1) fun x71 =>
              fX12_inLogs_L14 k f n y1 y2 x69 y4 x71
        else
          if (0 : Int32) = 0 then
            lt_ ((y3 + 0)) fun x53 =>
            lt_ (y5 + 1) fun x55 =>
            fX12_inLogs_L14 k f n y1 y2 x53 y4 x55
          else
            if y2 = 0 then
              lt_ ((y3 + 1)) fun x39 =>
              lt_ (y5 + 1) fun x41 =>
              fX12_inLogs_L14 k f n y1 y2 x39 y4 x41
            else
              lt_ (fX12_logAt  y4 y5) fun x44 =>
              gd (inb (x44 + 2) 1272) <|
              lt_ (f ((x44 + 2) : Int32).toNatClampNeg) fun x47 =>
              lt_ ((y3 + x47)) fun x49 =>
              lt_ (y5 + 1) fun x51 =>
              fX12_inLogs_L14 k f n y1 y2 x49 y4 x51
set_option maxHeartbeats 4000000 in
set_option maxRecDepth 20000 in
theorem lpX12_inLogs_14 {l : Launch} {G : UG} {V : uV} {q : Nat} (hq : uAr G q) {f : (Nat → Int32)} (hV : V 19 q = f) {r : Int32} {p : Program} {e : Env} {s : State} {m : MethodId} {args : Array Value} {below : List Frame} {meth : Method} {c : Code} (X : UC p s m args meth c cX12_inLogs 7 RX12 G) (hret : meth.sig.returnType = some .int) {k : Int32 → Int32 → Int32 → Int32 → Int32 → Option Int32} (kk : ∀ (y1 : Int32) (y2 : Int32) (y3 : Int32) (y4 : Int32) (y5 : Int32) (H : Heap) (locs : List Loc) (ls : Array Slot), k y1 y2 y3 y4 y5 = some r → UM G (V) s H locs → lv_has ls 7 [(0, .ref (ga G 19 q)), (1, .int y1), (2, .int y2), (3, .int y3), (4, .int y4), (5, .int y5)] → W p l e (uR 1 21) s m args below meth c H locs 0 0 (MQ below (uQi G .int r V) args s 0 0 (uA G)) (F0 m 90 ls [])) : ∀ (n : Nat) (y1 : Int32) (y2 : Int32) (y3 : Int32) (y4 : Int32) (y5 : Int32) (H : Heap) (locs : List Loc) (ls : Array Slot), fX12_inLogs_L14 k f n y1 y2 y3 y4 y5 = some r → UM G (V) s H locs → lv_has ls 7 [(0, .ref (ga G 19 q)), (1, .int y1), (2, .int y2), (3, .int y3), (4, .int y4), (5, .int y5)] → W p l e (uR 1 21) s m args below meth c H locs 0 0 (MQ below (uQi G .int r V) args s 0 0 (uA G)) (F0 m 14 ls []) := by
  intro n
  have hx := X.hx
  have hb := X.hb
  induction n with
  | zero => intro y1 y2 y3 y4 y5 H locs ls h M hl; rw [fX12_inLogs_L14] at h; cases h
  | succ n ih =>
    intro y1 y2 y3 y4 y5 H locs ls h M hl
    rw [fX12_inLogs_L14] at h
    refine lv_iload hx hb dX12_inLogs_14 (lv_at hl 5 rfl) ?_
    refine lv_aload_n hx hb dX12_inLogs_16 rfl (lv_at hl 0 rfl) ?_
    refine lv_iload hx hb dX12_inLogs_17 (lv_at hl 4 rfl) ?_
    obtain ⟨x3, e2, h⟩ := lt_e h
    refine u_cSi X M hl.1 (kX12_gateAt  e2.symm) cw_X12_40 ⟨by decide, by decide⟩ rfl rfl (Nat.le_of_ble_eq_true rfl) ⟨Nat.zero_le _, Nat.zero_le _⟩ dX12_inLogs_19 (fun H locs M n4 => ?_)
    refine lv_iconst (v := 3) hx hb dX12_inLogs_22 (by decide) ?_
    refine lv_iadd hx hb dX12_inLogs_23 ?_
    obtain ⟨g5, h⟩ := gd_e h
    obtain ⟨x6, e7, h⟩ := lt_e h
    refine u_ald X M hq.1 (uAr_sh hq hV) (inb_e g5) e7 dX12_inLogs_24 ?_
    refine lv_icmp_ge (tgt := 90) hx hb dX12_inLogs_25 (by decide) (fun c8 => ?_) (fun c8 => ?_)
    · have h := it_t h c8
      exact kk _ _ _ _ _ _ _ _ h M (lv_sub hl [0, 1, 2, 3, 4, 5] rfl)
    · have h := it_f h c8
      refine lv_iload_n hx hb dX12_inLogs_28 rfl (lv_at hl 1 rfl) ?_
      refine lv_iconst (v := (-1)) hx hb dX12_inLogs_29 (by decide) ?_
      refine lv_icmp_eq (tgt := 46) hx hb dX12_inLogs_30 (by decide) (fun c9 => ?_) (fun c9 => ?_)
      · have h := it_t h c9
        refine lv_iconst (v := 1) hx hb dX12_inLogs_46 (by decide) ?_
        refine lv_goto (tgt := 51) hx hb dX12_inLogs_47 (by decide) ?_
        refine lv_istore (lv' := [(6, .int 1), (0, .ref (ga G 19 q)), (1, .int y1), (2, .int y2), (3, .int y3), (4, .int y4), (5, .int y5)]) hx hb dX12_inLogs_51 hl (by decide) rfl (fun ls hl => ?_)
        refine lv_iload_n hx hb dX12_inLogs_53 rfl (lv_at hl 4 rfl) ?_
        refine lv_iload hx hb dX12_inLogs_54 (lv_at hl 0 rfl) ?_
        refine lv_if_ne (tgt := 63) hx hb dX12_inLogs_56 (by decide) (fun c10 => ?_) (fun c10 => ?_)
        · have h := it_f h c10
          refine lv_iload_n hx hb dX12_inLogs_63 rfl (lv_at hl 3 rfl) ?_
          refine lv_if_eq (tgt := 81) hx hb dX12_inLogs_64 (by decide) (fun c11 => ?_) (fun c11 => ?_)
          · have h := it_t h c11
            refine lv_iconst (v := 1) hx hb dX12_inLogs_81 (by decide) ?_
            refine lv_iadd hx hb dX12_inLogs_82 ?_
            obtain ⟨x12, e13, h⟩ := lt_e h
            refine u_topi e13 ?_
            refine lv_istore_n (lv' := [(3, .int x12), (6, .int 1), (0, .ref (ga G 19 q)), (1, .int y1), (2, .int y2), (4, .int y4), (5, .int y5)]) hx hb dX12_inLogs_83 rfl hl (by decide) rfl (fun ls hl => ?_)
            obtain ⟨x14, e15, h⟩ := lt_e h
            refine lv_iinc (v := x14) (lv' := [(5, .int x14), (3, .int x12), (6, .int 1), (0, .ref (ga G 19 q)), (1, .int y1), (2, .int y2), (4, .int y4)]) hx hb dX12_inLogs_84 hl (k := 6) rfl (by rw [e15]; rfl) (by decide) rfl (fun ls hl => ?_)
            refine lv_goto (tgt := 14) hx hb dX12_inLogs_87 (by decide) ?_
            exact ih _ _ _ _ _ _ _ _ h M (lv_sub hl [3, 4, 5, 1, 6, 0] rfl)
          · have h := it_f h c11
            refine lv_aload_n hx hb dX12_inLogs_67 rfl (lv_at hl 1 rfl) ?_
            refine lv_iload hx hb dX12_inLogs_68 (lv_at hl 5 rfl) ?_
            refine lv_iload hx hb dX12_inLogs_70 (lv_at hl 6 rfl) ?_
            obtain ⟨x17, e16, h⟩ := lt_e h
            refine u_cSi X M hl.1 (kX12_logAt  e16.symm) cw_X12_68 ⟨by decide, by decide⟩ rfl rfl (Nat.le_of_ble_eq_true rfl) ⟨Nat.zero_le _, Nat.zero_le _⟩ dX12_inLogs_72 (fun H locs M n18 => ?_)
            refine lv_iconst (v := 2) hx hb dX12_inLogs_75 (by decide) ?_
            refine lv_iadd hx hb dX12_inLogs_76 ?_
            obtain ⟨g19, h⟩ := gd_e h
            obtain ⟨x20, e21, h⟩ := lt_e h
            refine u_ald X M hq.1 (uAr_sh hq hV) (inb_e g19) e21 dX12_inLogs_77 ?_
            refine lv_goto (tgt := 82) hx hb dX12_inLogs_78 (by decide) ?_
            refine lv_iadd hx hb dX12_inLogs_82 ?_
            obtain ⟨x22, e23, h⟩ := lt_e h
            refine u_topi e23 ?_
            refine lv_istore_n (lv' := [(3, .int x22), (6, .int 1), (0, .ref (ga G 19 q)), (1, .int y1), (2, .int y2), (4, .int y4), (5, .int y5)]) hx hb dX12_inLogs_83 rfl hl (by decide) rfl (fun ls hl => ?_)
            obtain ⟨x24, e25, h⟩ := lt_e h
            refine lv_iinc (v := x24) (lv' := [(5, .int x24), (3, .int x22), (6, .int 1), (0, .ref (ga G 19 q)), (1, .int y1), (2, .int y2), (4, .int y4)]) hx hb dX12_inLogs_84 hl (k := 6) rfl (by rw [e25]; rfl) (by decide) rfl (fun ls hl => ?_)
            refine lv_goto (tgt := 14) hx hb dX12_inLogs_87 (by decide) ?_
            exact ih _ _ _ _ _ _ _ _ h M (lv_sub hl [3, 4, 5, 1, 6, 0] rfl)
        · have h := it_t h c10
          refine lv_iconst (v := 0) hx hb dX12_inLogs_59 (by decide) ?_
          refine lv_goto (tgt := 82) hx hb dX12_inLogs_60 (by decide) ?_
          refine lv_iadd hx hb dX12_inLogs_82 ?_
          obtain ⟨x26, e27, h⟩ := lt_e h
          refine u_topi e27 ?_
          refine lv_istore_n (lv' := [(3, .int x26), (6, .int 1), (0, .ref (ga G 19 q)), (1, .int y1), (2, .int y2), (4, .int y4), (5, .int y5)]) hx hb dX12_inLogs_83 rfl hl (by decide) rfl (fun ls hl => ?_)
          obtain ⟨x28, e29, h⟩ := lt_e h
          refine lv_iinc (v := x28) (lv' := [(5, .int x28), (3, .int x26), (6, .int 1), (0, .ref (ga G 19 q)), (1, .int y1), (2, .int y2), (4, .int y4)]) hx hb dX12_inLogs_84 hl (k := 6) rfl (by rw [e29]; rfl) (by decide) rfl (fun ls hl => ?_)
          refine lv_goto (tgt := 14) hx hb dX12_inLogs_87 (by decide) ?_
          exact ih _ _ _ _ _ _ _ _ h M (lv_sub hl [3, 4, 5, 1, 6, 0] rfl)
      · have h := it_f h c9
        refine lv_aload_n hx hb dX12_inLogs_33 rfl (lv_at hl 0 rfl) ?_
        refine lv_iload hx hb dX12_inLogs_34 (lv_at hl 4 rfl) ?_
        refine lv_iload hx hb dX12_inLogs_36 (lv_at hl 5 rfl) ?_
        obtain ⟨x31, e30, h⟩ := lt_e h
        refine u_cSi X M hl.1 (kX12_logAt  e30.symm) cw_X12_68 ⟨by decide, by decide⟩ rfl rfl (Nat.le_of_ble_eq_true rfl) ⟨Nat.zero_le _, Nat.zero_le _⟩ dX12_inLogs_38 (fun H locs M n32 => ?_)
        obtain ⟨g33, h⟩ := gd_e h
        obtain ⟨x34, e35, h⟩ := lt_e h
        refine u_ald X M hq.1 (uAr_sh hq hV) (inb_e g33) e35 dX12_inLogs_41 ?_
        refine lv_iload_n hx hb dX12_inLogs_42 rfl (lv_at hl 1 rfl) ?_
        refine lv_icmp_ne (tgt := 50) hx hb dX12_inLogs_43 (by decide) (fun c36 => ?_) (fun c36 => ?_)
        · have h := it_f h c36
          refine lv_iconst (v := 0) hx hb dX12_inLogs_50 (by decide) ?_
          refine lv_istore (lv' := [(6, .int 0), (0, .ref (ga G 19 q)), (1, .int y1), (2, .int y2), (3, .int y3), (4, .int y4), (5, .int y5)]) hx hb dX12_inLogs_51 hl (by decide) rfl (fun ls hl => ?_)
          refine lv_iload_n hx hb dX12_inLogs_53 rfl (lv_at hl 4 rfl) ?_
          refine lv_iload hx hb dX12_inLogs_54 (lv_at hl 0 rfl) ?_
          refine lv_if_ne (tgt := 63) hx hb dX12_inLogs_56 (by decide) (fun c37 => ?_) (fun c37 => ?_)
          · have h := it_f h c37
            refine lv_iload_n hx hb dX12_inLogs_63 rfl (lv_at hl 3 rfl) ?_
            refine lv_if_eq (tgt := 81) hx hb dX12_inLogs_64 (by decide) (fun c38 => ?_) (fun c38 => ?_)
            · have h := it_t h c38
              refine lv_iconst (v := 1) hx hb dX12_inLogs_81 (by decide) ?_
              refine lv_iadd hx hb dX12_inLogs_82 ?_
              obtain ⟨x39, e40, h⟩ := lt_e h
              refine u_topi e40 ?_
              refine lv_istore_n (lv' := [(3, .int x39), (6, .int 0), (0, .ref (ga G 19 q)), (1, .int y1), (2, .int y2), (4, .int y4), (5, .int y5)]) hx hb dX12_inLogs_83 rfl hl (by decide) rfl (fun ls hl => ?_)
              obtain ⟨x41, e42, h⟩ := lt_e h
              refine lv_iinc (v := x41) (lv' := [(5, .int x41), (3, .int x39), (6, .int 0), (0, .ref (ga G 19 q)), (1, .int y1), (2, .int y2), (4, .int y4)]) hx hb dX12_inLogs_84 hl (k := 6) rfl (by rw [e42]; rfl) (by decide) rfl (fun ls hl => ?_)
              refine lv_goto (tgt := 14) hx hb dX12_inLogs_87 (by decide) ?_
              exact ih _ _ _ _ _ _ _ _ h M (lv_sub hl [3, 4, 5, 1, 6, 0] rfl)
            · have h := it_f h c38
              refine lv_aload_n hx hb dX12_inLogs_67 rfl (lv_at hl 1 rfl) ?_
              refine lv_iload hx hb dX12_inLogs_68 (lv_at hl 5 rfl) ?_
              refine lv_iload hx hb dX12_inLogs_70 (lv_at hl 6 rfl) ?_
              obtain ⟨x44, e43, h⟩ := lt_e h
              refine u_cSi X M hl.1 (kX12_logAt  e43.symm) cw_X12_68 ⟨by decide, by decide⟩ rfl rfl (Nat.le_of_ble_eq_true rfl) ⟨Nat.zero_le _, Nat.zero_le _⟩ dX12_inLogs_72 (fun H locs M n45 => ?_)
              refine lv_iconst (v := 2) hx hb dX12_inLogs_75 (by decide) ?_
              refine lv_iadd hx hb dX12_inLogs_76 ?_
              obtain ⟨g46, h⟩ := gd_e h
              obtain ⟨x47, e48, h⟩ := lt_e h
              refine u_ald X M hq.1 (uAr_sh hq hV) (inb_e g46) e48 dX12_inLogs_77 ?_
              refine lv_goto (tgt := 82) hx hb dX12_inLogs_78 (by decide) ?_
              refine lv_iadd hx hb dX12_inLogs_82 ?_
              obtain ⟨x49, e50, h⟩ := lt_e h
              refine u_topi e50 ?_
              refine lv_istore_n (lv' := [(3, .int x49), (6, .int 0), (0, .ref (ga G 19 q)), (1, .int y1), (2, .int y2), (4, .int y4), (5, .int y5)]) hx hb dX12_inLogs_83 rfl hl (by decide) rfl (fun ls hl => ?_)
              obtain ⟨x51, e52, h⟩ := lt_e h
              refine lv_iinc (v := x51) (lv' := [(5, .int x51), (3, .int x49), (6, .int 0), (0, .ref (ga G 19 q)), (1, .int y1), (2, .int y2), (4, .int y4)]) hx hb dX12_inLogs_84 hl (k := 6) rfl (by rw [e52]; rfl) (by decide) rfl (fun ls hl => ?_)
              refine lv_goto (tgt := 14) hx hb dX12_inLogs_87 (by decide) ?_
              exact ih _ _ _ _ _ _ _ _ h M (lv_sub hl [3, 4, 5, 1, 6, 0] rfl)
          · have h := it_t h c37
            refine lv_iconst (v := 0) hx hb dX12_inLogs_59 (by decide) ?_
            refine lv_goto (tgt := 82) hx hb dX12_inLogs_60 (by decide) ?_
            refine lv_iadd hx hb dX12_inLogs_82 ?_
            obtain ⟨x53, e54, h⟩ := lt_e h
            refine u_topi e54 ?_
            refine lv_istore_n (lv' := [(3, .int x53), (6, .int 0), (0, .ref (ga G 19 q)), (1, .int y1), (2, .int y2), (4, .int y4), (5, .int y5)]) hx hb dX12_inLogs_83 rfl hl (by decide) rfl (fun ls hl => ?_)
            obtain ⟨x55, e56, h⟩ := lt_e h
            refine lv_iinc (v := x55) (lv' := [(5, .int x55), (3, .int x53), (6, .int 0), (0, .ref (ga G 19 q)), (1, .int y1), (2, .int y2), (4, .int y4)]) hx hb dX12_inLogs_84 hl (k := 6) rfl (by rw [e56]; rfl) (by decide) rfl (fun ls hl => ?_)
            refine lv_goto (tgt := 14) hx hb dX12_inLogs_87 (by decide) ?_
            exact ih _ _ _ _ _ _ _ _ h M (lv_sub hl [3, 4, 5, 1, 6, 0] rfl)
        · have h := it_t h c36
          refine lv_iconst (v := 1) hx hb dX12_inLogs_46 (by decide) ?_
          refine lv_goto (tgt := 51) hx hb dX12_inLogs_47 (by decide) ?_
          refine lv_istore (lv' := [(6, .int 1), (0, .ref (ga G 19 q)), (1, .int y1), (2, .int y2), (3, .int y3), (4, .int y4), (5, .int y5)]) hx hb dX12_inLogs_51 hl (by decide) rfl (fun ls hl => ?_)
          refine lv_iload_n hx hb dX12_inLogs_53 rfl (lv_at hl 4 rfl) ?_
          refine lv_iload hx hb dX12_inLogs_54 (lv_at hl 0 rfl) ?_
          refine lv_if_ne (tgt := 63) hx hb dX12_inLogs_56 (by decide) (fun c57 => ?_) (fun c57 => ?_)
          · have h := it_f h c57
            refine lv_iload_n hx hb dX12_inLogs_63 rfl (lv_at hl 3 rfl) ?_
            refine lv_if_eq (tgt := 81) hx hb dX12_inLogs_64 (by decide) (fun c58 => ?_) (fun c58 => ?_)
            · have h := it_t h c58
              refine lv_iconst (v := 1) hx hb dX12_inLogs_81 (by decide) ?_
              refine lv_iadd hx hb dX12_inLogs_82 ?_
              obtain ⟨x59, e60, h⟩ := lt_e h
              refine u_topi e60 ?_
              refine lv_istore_n (lv' := [(3, .int x59), (6, .int 1), (0, .ref (ga G 19 q)), (1, .int y1), (2, .int y2), (4, .int y4), (5, .int y5)]) hx hb dX12_inLogs_83 rfl hl (by decide) rfl (fun ls hl => ?_)
              obtain ⟨x61, e62, h⟩ := lt_e h
              refine lv_iinc (v := x61) (lv' := [(5, .int x61), (3, .int x59), (6, .int 1), (0, .ref (ga G 19 q)), (1, .int y1), (2, .int y2), (4, .int y4)]) hx hb dX12_inLogs_84 hl (k := 6) rfl (by rw [e62]; rfl) (by decide) rfl (fun ls hl => ?_)
              refine lv_goto (tgt := 14) hx hb dX12_inLogs_87 (by decide) ?_
              exact ih _ _ _ _ _ _ _ _ h M (lv_sub hl [3, 4, 5, 1, 6, 0] rfl)
            · have h := it_f h c58
              refine lv_aload_n hx hb dX12_inLogs_67 rfl (lv_at hl 1 rfl) ?_
              refine lv_iload hx hb dX12_inLogs_68 (lv_at hl 5 rfl) ?_
              refine lv_iload hx hb dX12_inLogs_70 (lv_at hl 6 rfl) ?_
              obtain ⟨x64, e63, h⟩ := lt_e h
              refine u_cSi X M hl.1 (kX12_logAt  e63.symm) cw_X12_68 ⟨by decide, by decide⟩ rfl rfl (Nat.le_of_ble_eq_true rfl) ⟨Nat.zero_le _, Nat.zero_le _⟩ dX12_inLogs_72 (fun H locs M n65 => ?_)
              refine lv_iconst (v := 2) hx hb dX12_inLogs_75 (by decide) ?_
              refine lv_iadd hx hb dX12_inLogs_76 ?_
              obtain ⟨g66, h⟩ := gd_e h
              obtain ⟨x67, e68, h⟩ := lt_e h
              refine u_ald X M hq.1 (uAr_sh hq hV) (inb_e g66) e68 dX12_inLogs_77 ?_
              refine lv_goto (tgt := 82) hx hb dX12_inLogs_78 (by decide) ?_
              refine lv_iadd hx hb dX12_inLogs_82 ?_
              obtain ⟨x69, e70, h⟩ := lt_e h
              refine u_topi e70 ?_
              refine lv_istore_n (lv' := [(3, .int x69), (6, .int 1), (0, .ref (ga G 19 q)), (1, .int y1), (2, .int y2), (4, .int y4), (5, .int y5)]) hx hb dX12_inLogs_83 rfl hl (by decide) rfl (fun ls hl => ?_)
              obtain ⟨x71, e72, h⟩ := lt_e h
              refine lv_iinc (v := x71) (lv' := [(5, .int x71), (3, .int x69), (6, .int 1), (0, .ref (ga G 19 q)), (1, .int y1), (2, .int y2), (4, .int y4)]) hx hb dX12_inLogs_84 hl (k := 6) rfl (by rw [e72]; rfl) (by decide) rfl (fun ls hl => ?_)
              refine lv_goto (tgt := 14) hx hb dX12_inLogs_87 (by decide) ?_
              exact ih _ _ _ _ _ _ _ _ h M (lv_sub hl [3, 4, 5, 1, 6, 0] rfl)
          · have h := it_t h c57
            refine lv_iconst (v := 0) hx hb dX12_inLogs_59 (by decide) ?_
            refine lv_goto (tgt := 82) hx hb dX12_inLogs_60 (by decide) ?_
            refine lv_iadd hx hb dX12_inLogs_82 ?_
            obtain ⟨x73, e74, h⟩ := lt_e h
            refine u_topi e74 ?_
            refine lv_istore_n (lv' := [(3, .int x73), (6, .int 1), (0, .ref (ga G 19 q)), (1, .int y1), (2, .int y2), (4, .int y4), (5, .int y5)]) hx hb dX12_inLogs_83 rfl hl (by decide) rfl (fun ls hl => ?_)
            obtain ⟨x75, e76, h⟩ := lt_e h
            refine lv_iinc (v := x75) (lv' := [(5, .int x75), (3, .int x73), (6, .int 1), (0, .ref (ga G 19 q)), (1, .int y1), (2, .int y2), (4, .int y4)]) hx hb dX12_inLogs_84 hl (k := 6) rfl (by rw [e76]; rfl) (by decide) rfl (fun ls hl => ?_)
            refine lv_goto (tgt := 14) hx hb dX12_inLogs_87 (by decide) ?_
            exact ih _ _ _ _ _ _ _ _ h M (lv_sub hl [3, 4, 5, 1, 6, 0] rfl)
def fX12_inLogs_L5 (f : (Nat → Int32)) (n : Nat) (y1 : Int32) (y2 : Int32) (y3 : Int32) (y4 : Int32) : Option Int32 :=
  match n with
  | 0 => none
  | n + 1 =>
    if 4 ≤ y4 then
      some y3
    else
      fX12_inLogs_L14 (fun x77 x78 x79 x80 x81 =>
          lt_ (x80 + 1) fun x82 =>
          fX12_inLogs_L5 f n x77 x78 x79 x82) f 3000 y1 y2 y3 y4 0
set_option maxHeartbeats 4000000 in
set_option maxRecDepth 20000 in
theorem lpX12_inLogs_5 {l : Launch} {G : UG} {V : uV} {q : Nat} (hq : uAr G q) {f : (Nat → Int32)} (hV : V 19 q = f) {r : Int32} {p : Program} {e : Env} {s : State} {m : MethodId} {args : Array Value} {below : List Frame} {meth : Method} {c : Code} (X : UC p s m args meth c cX12_inLogs 7 RX12 G) (hret : meth.sig.returnType = some .int) : ∀ (n : Nat) (y1 : Int32) (y2 : Int32) (y3 : Int32) (y4 : Int32) (H : Heap) (locs : List Loc) (ls : Array Slot), fX12_inLogs_L5 f n y1 y2 y3 y4 = some r → UM G (V) s H locs → lv_has ls 7 [(0, .ref (ga G 19 q)), (1, .int y1), (2, .int y2), (3, .int y3), (4, .int y4)] → W p l e (uR 1 21) s m args below meth c H locs 0 0 (MQ below (uQi G .int r V) args s 0 0 (uA G)) (F0 m 5 ls []) := by
  intro n
  have hx := X.hx
  have hb := X.hb
  induction n with
  | zero => intro y1 y2 y3 y4 H locs ls h M hl; rw [fX12_inLogs_L5] at h; cases h
  | succ n ih =>
    intro y1 y2 y3 y4 H locs ls h M hl
    rw [fX12_inLogs_L5] at h
    refine lv_iload hx hb dX12_inLogs_5 (lv_at hl 4 rfl) ?_
    refine lv_iconst (v := 4) hx hb dX12_inLogs_7 (by decide) ?_
    refine lv_icmp_ge (tgt := 96) hx hb dX12_inLogs_8 (by decide) (fun c1 => ?_) (fun c1 => ?_)
    · have h := it_t h c1
      refine lv_iload_n hx hb dX12_inLogs_96 rfl (lv_at hl 3 rfl) ?_
      exact u_iret X hret M (Option.some.inj h) (rfl) rfl dX12_inLogs_97
    · have h := it_f h c1
      refine lv_iconst (v := 0) hx hb dX12_inLogs_11 (by decide) ?_
      refine lv_istore (lv' := [(5, .int 0), (0, .ref (ga G 19 q)), (1, .int y1), (2, .int y2), (3, .int y3), (4, .int y4)]) hx hb dX12_inLogs_12 hl (by decide) rfl (fun ls hl => ?_)
      refine lpX12_inLogs_14 hq hV X hret (fun x77 x78 x79 x80 x81 H locs ls h M hl => ?_) 3000 _ _ _ _ _ _ _ _ h M (lv_sub hl [1, 2, 3, 4, 5, 0] rfl)
      obtain ⟨x82, e83, h⟩ := lt_e h
      refine lv_iinc (v := x82) (lv' := [(4, .int x82), (0, .ref (ga G 19 q)), (1, .int x77), (2, .int x78), (3, .int x79), (5, .int x81)]) hx hb dX12_inLogs_90 hl (k := 4) rfl (by rw [e83]; rfl) (by decide) rfl (fun ls hl => ?_)
      refine lv_goto (tgt := 5) hx hb dX12_inLogs_93 (by decide) ?_
      exact ih _ _ _ _ _ _ _ h M (lv_sub hl [1, 2, 3, 4, 0] rfl)
def fX12_inLogs (f : (Nat → Int32)) (a2 : Int32) (a3 : Int32) : Option Int32 :=
  fX12_inLogs_L5 f 3000 a2 a3 0 0
set_option maxHeartbeats 4000000 in
set_option maxRecDepth 20000 in
theorem kX12_inLogs {l : Launch} {G : UG} {V : uV} {q : Nat} (hq : uAr G q) {f : (Nat → Int32)} (hV : V 19 q = f) {a2 : Int32} {a3 : Int32} {r : Int32} (h : fX12_inLogs f a2 a3 = some r) : uMi l G yX12_inLogs cX12_inLogs 7 .int (uR 1 21) [.ref (ga G 19 q), .int a2, .int a3] V r V := by
  refine uMi_of rfl (Nat.le_of_ble_eq_true rfl) (fun p e s m args below meth c ls X hret hl M => ?_)
  have hl : lv_has ls 7 [(0, .ref (ga G 19 q)), (1, .int a2), (2, .int a3)] := hl
  have hx := X.hx
  have hb := X.hb
  unfold fX12_inLogs at h
  refine lv_iconst (v := 0) hx hb dX12_inLogs_0 (by decide) ?_
  refine lv_istore_n (lv' := [(3, .int 0), (0, .ref (ga G 19 q)), (1, .int a2), (2, .int a3)]) hx hb dX12_inLogs_1 rfl hl (by decide) rfl (fun ls hl => ?_)
  refine lv_iconst (v := 0) hx hb dX12_inLogs_2 (by decide) ?_
  refine lv_istore (lv' := [(4, .int 0), (3, .int 0), (0, .ref (ga G 19 q)), (1, .int a2), (2, .int a3)]) hx hb dX12_inLogs_3 hl (by decide) rfl (fun ls hl => ?_)
  exact lpX12_inLogs_5 hq hV X hret 3000 _ _ _ _ _ _ _ h M (lv_sub hl [2, 3, 4, 1, 0] rfl)
def fX12_cardsOf_L4 (f : (Nat → Int32)) (n : Nat) (y1 : Int32) (y2 : Int32) (y3 : Int32) : Option Int32 :=
  match n with
  | 0 => none
  | n + 1 =>
    gd (inb 0 1272) <|
    lt_ (f (0 : Int32).toNatClampNeg) fun x2 =>
    if x2 ≤ y3 then
      some y2
    else
      lt_ (fX12_cardAt  y3) fun x6 =>
      gd (inb (x6 + 0) 1272) <|
      lt_ (f ((x6 + 0) : Int32).toNatClampNeg) fun x9 =>
      if x9 = y1 then
        lt_ ((y2 + 1)) fun x16 =>
        lt_ (y3 + 1) fun x18 =>
        fX12_cardsOf_L4 f n y1 x16 x18
      else
        lt_ ((y2 + 0)) fun x12 =>
        lt_ (y3 + 1) fun x14 =>
        fX12_cardsOf_L4 f n y1 x12 x14
set_option maxHeartbeats 4000000 in
set_option maxRecDepth 20000 in
theorem lpX12_cardsOf_4 {l : Launch} {G : UG} {V : uV} {q : Nat} (hq : uAr G q) {f : (Nat → Int32)} (hV : V 19 q = f) {r : Int32} {p : Program} {e : Env} {s : State} {m : MethodId} {args : Array Value} {below : List Frame} {meth : Method} {c : Code} (X : UC p s m args meth c cX12_cardsOf 4 RX12 G) (hret : meth.sig.returnType = some .int) : ∀ (n : Nat) (y1 : Int32) (y2 : Int32) (y3 : Int32) (H : Heap) (locs : List Loc) (ls : Array Slot), fX12_cardsOf_L4 f n y1 y2 y3 = some r → UM G (V) s H locs → lv_has ls 4 [(0, .ref (ga G 19 q)), (1, .int y1), (2, .int y2), (3, .int y3)] → W p l e (uR 1 20) s m args below meth c H locs 0 0 (MQ below (uQi G .int r V) args s 0 0 (uA G)) (F0 m 4 ls []) := by
  intro n
  have hx := X.hx
  have hb := X.hb
  induction n with
  | zero => intro y1 y2 y3 H locs ls h M hl; rw [fX12_cardsOf_L4] at h; cases h
  | succ n ih =>
    intro y1 y2 y3 H locs ls h M hl
    rw [fX12_cardsOf_L4] at h
    refine lv_iload_n hx hb dX12_cardsOf_4 rfl (lv_at hl 3 rfl) ?_
    refine lv_aload_n hx hb dX12_cardsOf_5 rfl (lv_at hl 0 rfl) ?_
    refine lv_iconst (v := 0) hx hb dX12_cardsOf_6 (by decide) ?_
    obtain ⟨g1, h⟩ := gd_e h
    obtain ⟨x2, e3, h⟩ := lt_e h
    refine u_ald X M hq.1 (uAr_sh hq hV) (inb_e g1) e3 dX12_cardsOf_7 ?_
    refine lv_icmp_ge (tgt := 37) hx hb dX12_cardsOf_8 (by decide) (fun c4 => ?_) (fun c4 => ?_)
    · have h := it_t h c4
      refine lv_iload_n hx hb dX12_cardsOf_37 rfl (lv_at hl 2 rfl) ?_
      exact u_iret X hret M (Option.some.inj h) (rfl) rfl dX12_cardsOf_38
    · have h := it_f h c4
      refine lv_iload_n hx hb dX12_cardsOf_11 rfl (lv_at hl 2 rfl) ?_
      refine lv_aload_n hx hb dX12_cardsOf_12 rfl (lv_at hl 0 rfl) ?_
      refine lv_iload_n hx hb dX12_cardsOf_13 rfl (lv_at hl 3 rfl) ?_
      obtain ⟨x6, e5, h⟩ := lt_e h
      refine u_cSi X M hl.1 (kX12_cardAt  e5.symm) cw_X12_76 ⟨by decide, by decide⟩ rfl rfl (Nat.le_of_ble_eq_true rfl) ⟨Nat.zero_le _, Nat.zero_le _⟩ dX12_cardsOf_14 (fun H locs M n7 => ?_)
      refine lv_iconst (v := 0) hx hb dX12_cardsOf_17 (by decide) ?_
      refine lv_iadd hx hb dX12_cardsOf_18 ?_
      obtain ⟨g8, h⟩ := gd_e h
      obtain ⟨x9, e10, h⟩ := lt_e h
      refine u_ald X M hq.1 (uAr_sh hq hV) (inb_e g8) e10 dX12_cardsOf_19 ?_
      refine lv_iload_n hx hb dX12_cardsOf_20 rfl (lv_at hl 1 rfl) ?_
      refine lv_icmp_ne (tgt := 28) hx hb dX12_cardsOf_21 (by decide) (fun c11 => ?_) (fun c11 => ?_)
      · have h := it_f h c11
        refine lv_iconst (v := 0) hx hb dX12_cardsOf_28 (by decide) ?_
        refine lv_iadd hx hb dX12_cardsOf_29 ?_
        obtain ⟨x12, e13, h⟩ := lt_e h
        refine u_topi e13 ?_
        refine lv_istore_n (lv' := [(2, .int x12), (0, .ref (ga G 19 q)), (1, .int y1), (3, .int y3)]) hx hb dX12_cardsOf_30 rfl hl (by decide) rfl (fun ls hl => ?_)
        obtain ⟨x14, e15, h⟩ := lt_e h
        refine lv_iinc (v := x14) (lv' := [(3, .int x14), (2, .int x12), (0, .ref (ga G 19 q)), (1, .int y1)]) hx hb dX12_cardsOf_31 hl (k := 3) rfl (by rw [e15]; rfl) (by decide) rfl (fun ls hl => ?_)
        refine lv_goto (tgt := 4) hx hb dX12_cardsOf_34 (by decide) ?_
        exact ih _ _ _ _ _ _ h M (lv_sub hl [2, 3, 1, 0] rfl)
      · have h := it_t h c11
        refine lv_iconst (v := 1) hx hb dX12_cardsOf_24 (by decide) ?_
        refine lv_goto (tgt := 29) hx hb dX12_cardsOf_25 (by decide) ?_
        refine lv_iadd hx hb dX12_cardsOf_29 ?_
        obtain ⟨x16, e17, h⟩ := lt_e h
        refine u_topi e17 ?_
        refine lv_istore_n (lv' := [(2, .int x16), (0, .ref (ga G 19 q)), (1, .int y1), (3, .int y3)]) hx hb dX12_cardsOf_30 rfl hl (by decide) rfl (fun ls hl => ?_)
        obtain ⟨x18, e19, h⟩ := lt_e h
        refine lv_iinc (v := x18) (lv' := [(3, .int x18), (2, .int x16), (0, .ref (ga G 19 q)), (1, .int y1)]) hx hb dX12_cardsOf_31 hl (k := 3) rfl (by rw [e19]; rfl) (by decide) rfl (fun ls hl => ?_)
        refine lv_goto (tgt := 4) hx hb dX12_cardsOf_34 (by decide) ?_
        exact ih _ _ _ _ _ _ h M (lv_sub hl [2, 3, 1, 0] rfl)
def fX12_cardsOf (f : (Nat → Int32)) (a2 : Int32) : Option Int32 :=
  fX12_cardsOf_L4 f 3000 a2 0 0
set_option maxHeartbeats 4000000 in
set_option maxRecDepth 20000 in
theorem kX12_cardsOf {l : Launch} {G : UG} {V : uV} {q : Nat} (hq : uAr G q) {f : (Nat → Int32)} (hV : V 19 q = f) {a2 : Int32} {r : Int32} (h : fX12_cardsOf f a2 = some r) : uMi l G yX12_cardsOf cX12_cardsOf 4 .int (uR 1 20) [.ref (ga G 19 q), .int a2] V r V := by
  refine uMi_of rfl (Nat.le_of_ble_eq_true rfl) (fun p e s m args below meth c ls X hret hl M => ?_)
  have hl : lv_has ls 4 [(0, .ref (ga G 19 q)), (1, .int a2)] := hl
  have hx := X.hx
  have hb := X.hb
  unfold fX12_cardsOf at h
  refine lv_iconst (v := 0) hx hb dX12_cardsOf_0 (by decide) ?_
  refine lv_istore_n (lv' := [(2, .int 0), (0, .ref (ga G 19 q)), (1, .int a2)]) hx hb dX12_cardsOf_1 rfl hl (by decide) rfl (fun ls hl => ?_)
  refine lv_iconst (v := 0) hx hb dX12_cardsOf_2 (by decide) ?_
  refine lv_istore_n (lv' := [(3, .int 0), (2, .int 0), (0, .ref (ga G 19 q)), (1, .int a2)]) hx hb dX12_cardsOf_3 rfl hl (by decide) rfl (fun ls hl => ?_)
  exact lpX12_cardsOf_4 hq hV X hret 3000 _ _ _ _ _ _ h M (lv_sub hl [2, 3, 1, 0] rfl)
def fX12_canPardon (f : (Nat → Int32)) (a2 : Int32) : Option Int32 :=
  bd (fX12_isAccount f a2) fun x2 =>
  if x2 = 0 then
    some 0
  else
    lt_ (fX12_accountAt  a2) fun x6 =>
    gd (inb (x6 + 2) 1272) <|
    lt_ (f ((x6 + 2) : Int32).toNatClampNeg) fun x9 =>
    if x9 = 1 then
      some 1
    else
      some 0
set_option maxHeartbeats 4000000 in
set_option maxRecDepth 20000 in
theorem kX12_canPardon {l : Launch} {G : UG} {V : uV} {q : Nat} (hq : uAr G q) {f : (Nat → Int32)} (hV : V 19 q = f) {a2 : Int32} {r : Int32} (h : fX12_canPardon f a2 = some r) : uMi l G yX12_canPardon cX12_canPardon 2 .boolean (uR 2 46) [.ref (ga G 19 q), .int a2] V r V := by
  refine uMi_of rfl (Nat.le_of_ble_eq_true rfl) (fun p e s m args below meth c ls X hret hl M => ?_)
  have hl : lv_has ls 2 [(0, .ref (ga G 19 q)), (1, .int a2)] := hl
  have hx := X.hx
  have hb := X.hb
  unfold fX12_canPardon at h
  refine lv_aload_n hx hb dX12_canPardon_0 rfl (lv_at hl 0 rfl) ?_
  refine lv_iload_n hx hb dX12_canPardon_1 rfl (lv_at hl 1 rfl) ?_
  obtain ⟨x2, e1, h⟩ := bd_e h
  refine u_cSi X M hl.1 (kX12_isAccount hq hV e1) cw_X12_143 ⟨by decide, by decide⟩ rfl rfl (Nat.le_of_ble_eq_true rfl) ⟨Nat.zero_le _, Nat.zero_le _⟩ dX12_canPardon_2 (fun H locs M n3 => ?_)
  refine lv_if_eq (tgt := 24) hx hb dX12_canPardon_5 (by decide) (fun c4 => ?_) (fun c4 => ?_)
  · have h := it_t h c4
    refine lv_iconst (v := 0) hx hb dX12_canPardon_24 (by decide) ?_
    exact u_iret X hret M (Option.some.inj h) (rfl) rfl dX12_canPardon_25
  · have h := it_f h c4
    refine lv_aload_n hx hb dX12_canPardon_8 rfl (lv_at hl 0 rfl) ?_
    refine lv_iload_n hx hb dX12_canPardon_9 rfl (lv_at hl 1 rfl) ?_
    obtain ⟨x6, e5, h⟩ := lt_e h
    refine u_cSi X M hl.1 (kX12_accountAt  e5.symm) cw_X12_50 ⟨by decide, by decide⟩ rfl rfl (Nat.le_of_ble_eq_true rfl) ⟨Nat.zero_le _, Nat.zero_le _⟩ dX12_canPardon_10 (fun H locs M n7 => ?_)
    refine lv_iconst (v := 2) hx hb dX12_canPardon_13 (by decide) ?_
    refine lv_iadd hx hb dX12_canPardon_14 ?_
    obtain ⟨g8, h⟩ := gd_e h
    obtain ⟨x9, e10, h⟩ := lt_e h
    refine u_ald X M hq.1 (uAr_sh hq hV) (inb_e g8) e10 dX12_canPardon_15 ?_
    refine lv_iconst (v := 1) hx hb dX12_canPardon_16 (by decide) ?_
    refine lv_icmp_ne (tgt := 24) hx hb dX12_canPardon_17 (by decide) (fun c11 => ?_) (fun c11 => ?_)
    · have h := it_f h c11
      refine lv_iconst (v := 0) hx hb dX12_canPardon_24 (by decide) ?_
      exact u_iret X hret M (Option.some.inj h) (rfl) rfl dX12_canPardon_25
    · have h := it_t h c11
      refine lv_iconst (v := 1) hx hb dX12_canPardon_20 (by decide) ?_
      refine lv_goto (tgt := 25) hx hb dX12_canPardon_21 (by decide) ?_
      exact u_iret X hret M (Option.some.inj h) (rfl) rfl dX12_canPardon_25
def fX12_standing (f : (Nat → Int32)) (a2 : Int32) : Option Int32 :=
  lt_ (fX12_accountAt  a2) fun x2 =>
  gd (inb (x2 + 0) 1272) <|
  lt_ (f ((x2 + 0) : Int32).toNatClampNeg) fun x5 =>
  bd (fX12_inLogs f a2 1) fun x8 =>
  some (x5 - x8)
set_option maxHeartbeats 4000000 in
set_option maxRecDepth 20000 in
theorem kX12_standing {l : Launch} {G : UG} {V : uV} {q : Nat} (hq : uAr G q) {f : (Nat → Int32)} (hV : V 19 q = f) {a2 : Int32} {r : Int32} (h : fX12_standing f a2 = some r) : uMi l G yX12_standing cX12_standing 2 .int (uR 2 47) [.ref (ga G 19 q), .int a2] V r V := by
  refine uMi_of rfl (Nat.le_of_ble_eq_true rfl) (fun p e s m args below meth c ls X hret hl M => ?_)
  have hl : lv_has ls 2 [(0, .ref (ga G 19 q)), (1, .int a2)] := hl
  have hx := X.hx
  have hb := X.hb
  unfold fX12_standing at h
  refine lv_aload_n hx hb dX12_standing_0 rfl (lv_at hl 0 rfl) ?_
  refine lv_iload_n hx hb dX12_standing_1 rfl (lv_at hl 1 rfl) ?_
  obtain ⟨x2, e1, h⟩ := lt_e h
  refine u_cSi X M hl.1 (kX12_accountAt  e1.symm) cw_X12_50 ⟨by decide, by decide⟩ rfl rfl (Nat.le_of_ble_eq_true rfl) ⟨Nat.zero_le _, Nat.zero_le _⟩ dX12_standing_2 (fun H locs M n3 => ?_)
  refine lv_iconst (v := 0) hx hb dX12_standing_5 (by decide) ?_
  refine lv_iadd hx hb dX12_standing_6 ?_
  obtain ⟨g4, h⟩ := gd_e h
  obtain ⟨x5, e6, h⟩ := lt_e h
  refine u_ald X M hq.1 (uAr_sh hq hV) (inb_e g4) e6 dX12_standing_7 ?_
  refine lv_aload_n hx hb dX12_standing_8 rfl (lv_at hl 0 rfl) ?_
  refine lv_iload_n hx hb dX12_standing_9 rfl (lv_at hl 1 rfl) ?_
  refine lv_iconst (v := 1) hx hb dX12_standing_10 (by decide) ?_
  obtain ⟨x8, e7, h⟩ := bd_e h
  refine u_cSi X M hl.1 (kX12_inLogs hq hV e7) cw_X12_174 ⟨by decide, by decide⟩ rfl rfl (Nat.le_of_ble_eq_true rfl) ⟨Nat.zero_le _, Nat.zero_le _⟩ dX12_standing_11 (fun H locs M n9 => ?_)
  refine lv_isub hx hb dX12_standing_14 ?_
  exact u_iret X hret M (Option.some.inj h) (rfl) rfl dX12_standing_15
def fX12_command (f : (Nat → Int32)) (a2 : Int32) (a3 : Int32) (a4 : Int32) (a5 : Int32) : Option (Int32 × (Nat → Int32)) :=
  lt_ (((10 * a4) + a5)) fun x1 =>
  if a2 = 1 then
    if a5 = 0 then
      bd (fX12_isCard f a3) fun x6 =>
      if x6 = 0 then
        some (0, f)
      else
        lt_ (fX12_isGate  a4) fun x10 =>
        if x10 = 0 then
          some (0, f)
        else
          bd2 (fX12_rideOn f a3 a4) fun x14 S15 =>
          lt_ (fX12_isThrough  x14) fun x18 =>
          if x18 = 0 then
            some (0, S15)
          else
            some (1, S15)
    else
      some (0, f)
  else if a2 = 2 then
    bd (fX12_isAccount f a3) fun x23 =>
    if x23 = 0 then
      some (0, f)
    else
      if x1 = 0 then
        some (0, f)
      else
        bd2 (fX12_payOn f a3 x1) fun x28 S29 =>
        some (1, S29)
  else if a2 = 3 then
    if a4 = 0 then
      if 2 ≤ a5 then
        some (0, f)
      else
        lt_ (fX12_isGate  a3) fun x35 =>
        if x35 = 0 then
          some (0, f)
        else
          if a5 = 1 then
            bd2 (fX12_doesLine f a3 1) fun x45 S46 =>
            if x45 = 0 then
              some (0, S46)
            else
              some (1, S46)
          else
            bd2 (fX12_doesLine f a3 0) fun x40 S41 =>
            if x40 = 0 then
              some (0, S41)
            else
              some (1, S41)
    else
      some (0, f)
  else if a2 = 4 then
    if a3 = 0 then
      lt_ (fX12_in  ((x1 : Int32).toInt64) 1 60) fun x52 =>
      if x52 = 0 then
        some (0, f)
      else
        bd2 (fX12_runOn f x1) fun x56 S57 =>
        if x56 ≤ 0 then
          some (0, S57)
        else
          some (1, S57)
    else
      some (0, f)
  else if a2 = 5 then
    if x1 = 0 then
      bd (fX12_canCopy f a3) fun x63 =>
      if x63 = 0 then
        some (0, f)
      else
        bd2 (fX12_copyOn f a3) fun x67 S68 =>
        if x67 ≤ 0 then
          some (0, S68)
        else
          some (1, S68)
    else
      some (0, f)
  else if a2 = 6 then
    if a4 = 0 then
      if 2 ≤ a5 then
        some (0, f)
      else
        bd (fX12_isAccount f a3) fun x75 =>
        if x75 = 0 then
          some (0, f)
        else
          bd (fX12_isBlocked f a3) fun x79 =>
          if a5 = 1 then
            if x79 = 1 then
              some (1, f)
            else
              some (0, f)
          else
            if x79 = 0 then
              some (1, f)
            else
              some (0, f)
    else
      some (0, f)
  else if a2 = 7 then
    lt_ (fX12_isGate  a3) fun x86 =>
    if x86 = 0 then
      some (0, f)
    else
      lt_ (fX12_gateAt  a3) fun x90 =>
      gd (inb (x90 + 3) 1272) <|
      lt_ (f ((x90 + 3) : Int32).toNatClampNeg) fun x93 =>
      if x1 < x93 then
        some (0, f)
      else
        some (1, f)
  else if a2 = 8 then
    bd (fX12_isCard f a3) fun x98 =>
    if x98 = 0 then
      some (0, f)
    else
      lt_ (fX12_cardAt  a3) fun x102 =>
      gd (inb (x102 + 1) 1272) <|
      lt_ (f ((x102 + 1) : Int32).toNatClampNeg) fun x105 =>
      if x105 < x1 then
        some (0, f)
      else
        some (1, f)
  else if a2 = 9 then
    if a3 = 0 then
      gd (inb 5 1272) <|
      lt_ (f (5 : Int32).toNatClampNeg) fun x111 =>
      if x1 < x111 then
        some (0, f)
      else
        some (1, f)
    else
      some (0, f)
  else 
  some (0, f)
set_option maxHeartbeats 4000000 in
set_option maxRecDepth 20000 in
theorem kX12_command {l : Launch} {G : UG} {V : uV} {q : Nat} (hq : uAr G q) {B : (Nat → Nat → Int32)} {f f' : (Nat → Int32)} {a2 : Int32} {a3 : Int32} {a4 : Int32} {a5 : Int32} {r : Int32} (h : fX12_command f a2 a3 a4 a5 = some (r, f')) : uMi l G yX12_command cX12_command 6 .boolean (uR 6 137) [.ref (ga G 19 q), .int a2, .int a3, .int a4, .int a5] (va_up V 19 (va_up B q f)) r (va_up V 19 (va_up B q f')) := by
  refine uMi_of rfl (Nat.le_of_ble_eq_true rfl) (fun p e s m args below meth c ls X hret hl M => ?_)
  have hl : lv_has ls 6 [(0, .ref (ga G 19 q)), (1, .int a2), (2, .int a3), (3, .int a4), (4, .int a5)] := hl
  have hx := X.hx
  have hb := X.hb
  unfold fX12_command at h
  refine lv_bipush (v := 10) hx hb dX12_command_0 (by decide) ?_
  refine lv_iload_n hx hb dX12_command_2 rfl (lv_at hl 3 rfl) ?_
  refine lv_imul hx hb dX12_command_3 ?_
  refine lv_iload hx hb dX12_command_4 (lv_at hl 4 rfl) ?_
  refine lv_iadd hx hb dX12_command_6 ?_
  obtain ⟨x1, e2, h⟩ := lt_e h
  refine u_topi e2 ?_
  refine lv_istore (lv' := [(5, .int x1), (0, .ref (ga G 19 q)), (1, .int a2), (2, .int a3), (3, .int a4), (4, .int a5)]) hx hb dX12_command_7 hl (by decide) rfl (fun ls hl => ?_)
  refine lv_iload_n hx hb dX12_command_9 rfl (lv_at hl 2 rfl) ?_
  by_cases c3 : a2 = 1
  · have h := it_t h c3
    refine lv_tableIn (off := 50) (tgt := 60) hx hb dX12_command_10 (by rw [c3]; decide) (by rw [c3]; decide) (by rw [c3]; rfl) (by decide) ?_
    refine lv_iload hx hb dX12_command_60 (lv_at hl 5 rfl) ?_
    refine lv_if_ne (tgt := 96) hx hb dX12_command_62 (by decide) (fun c4 => ?_) (fun c4 => ?_)
    · have h := it_f h c4
      refine lv_iconst (v := 0) hx hb dX12_command_96 (by decide) ?_
      exact u_iret X hret M (rt2 h).1 (congrArg (fun z => va_up V 19 (va_up B q z)) ((rt2 h).2)) rfl dX12_command_97
    · have h := it_t h c4
      refine lv_aload_n hx hb dX12_command_65 rfl (lv_at hl 1 rfl) ?_
      refine lv_iload_n hx hb dX12_command_66 rfl (lv_at hl 3 rfl) ?_
      obtain ⟨x6, e5, h⟩ := bd_e h
      refine u_cSi X M hl.1 (kX12_isCard hq (va_up_s2 V 19 B q _) e5) cw_X12_87 ⟨by decide, by decide⟩ rfl rfl (Nat.le_of_ble_eq_true rfl) ⟨Nat.zero_le _, Nat.zero_le _⟩ dX12_command_67 (fun H locs M n7 => ?_)
      refine lv_if_eq (tgt := 96) hx hb dX12_command_70 (by decide) (fun c8 => ?_) (fun c8 => ?_)
      · have h := it_t h c8
        refine lv_iconst (v := 0) hx hb dX12_command_96 (by decide) ?_
        exact u_iret X hret M (rt2 h).1 (congrArg (fun z => va_up V 19 (va_up B q z)) ((rt2 h).2)) rfl dX12_command_97
      · have h := it_f h c8
        refine lv_iload_n hx hb dX12_command_73 rfl (lv_at hl 4 rfl) ?_
        obtain ⟨x10, e9, h⟩ := lt_e h
        refine u_cSi X M hl.1 (kX12_isGate  e9.symm) cw_X12_183 ⟨by decide, by decide⟩ rfl rfl (Nat.le_of_ble_eq_true rfl) ⟨Nat.zero_le _, Nat.zero_le _⟩ dX12_command_74 (fun H locs M n11 => ?_)
        refine lv_if_eq (tgt := 96) hx hb dX12_command_77 (by decide) (fun c12 => ?_) (fun c12 => ?_)
        · have h := it_t h c12
          refine lv_iconst (v := 0) hx hb dX12_command_96 (by decide) ?_
          exact u_iret X hret M (rt2 h).1 (congrArg (fun z => va_up V 19 (va_up B q z)) ((rt2 h).2)) rfl dX12_command_97
        · have h := it_f h c12
          refine lv_aload_n hx hb dX12_command_80 rfl (lv_at hl 1 rfl) ?_
          refine lv_iload_n hx hb dX12_command_81 rfl (lv_at hl 3 rfl) ?_
          refine lv_iload_n hx hb dX12_command_82 rfl (lv_at hl 4 rfl) ?_
          obtain ⟨x14, S15, e13, h⟩ := bd2_e h
          refine u_cSi X M hl.1 (kX12_rideOn hq e13) cw_X12_140 ⟨by decide, by decide⟩ rfl rfl (Nat.le_of_ble_eq_true rfl) ⟨Nat.zero_le _, Nat.zero_le _⟩ dX12_command_83 (fun H locs M n16 => ?_)
          obtain ⟨x18, e17, h⟩ := lt_e h
          refine u_cSi X M hl.1 (kX12_isThrough  e17.symm) cw_X12_202 ⟨by decide, by decide⟩ rfl rfl (Nat.le_of_ble_eq_true rfl) ⟨Nat.zero_le _, Nat.zero_le _⟩ dX12_command_86 (fun H locs M n19 => ?_)
          refine lv_if_eq (tgt := 96) hx hb dX12_command_89 (by decide) (fun c20 => ?_) (fun c20 => ?_)
          · have h := it_t h c20
            refine lv_iconst (v := 0) hx hb dX12_command_96 (by decide) ?_
            exact u_iret X hret M (rt2 h).1 (congrArg (fun z => va_up V 19 (va_up B q z)) ((rt2 h).2)) rfl dX12_command_97
          · have h := it_f h c20
            refine lv_iconst (v := 1) hx hb dX12_command_92 (by decide) ?_
            refine lv_goto (tgt := 97) hx hb dX12_command_93 (by decide) ?_
            exact u_iret X hret M (rt2 h).1 (congrArg (fun z => va_up V 19 (va_up B q z)) ((rt2 h).2)) rfl dX12_command_97
  · have h := it_f h c3
    by_cases c21 : a2 = 2
    · have h := it_t h c21
      refine lv_tableIn (off := 88) (tgt := 98) hx hb dX12_command_10 (by rw [c21]; decide) (by rw [c21]; decide) (by rw [c21]; rfl) (by decide) ?_
      refine lv_aload_n hx hb dX12_command_98 rfl (lv_at hl 1 rfl) ?_
      refine lv_iload_n hx hb dX12_command_99 rfl (lv_at hl 3 rfl) ?_
      obtain ⟨x23, e22, h⟩ := bd_e h
      refine u_cSi X M hl.1 (kX12_isAccount hq (va_up_s2 V 19 B q _) e22) cw_X12_143 ⟨by decide, by decide⟩ rfl rfl (Nat.le_of_ble_eq_true rfl) ⟨Nat.zero_le _, Nat.zero_le _⟩ dX12_command_100 (fun H locs M n24 => ?_)
      refine lv_if_eq (tgt := 111) hx hb dX12_command_103 (by decide) (fun c25 => ?_) (fun c25 => ?_)
      · have h := it_t h c25
        refine lv_iconst (v := 0) hx hb dX12_command_111 (by decide) ?_
        exact u_iret X hret M (rt2 h).1 (congrArg (fun z => va_up V 19 (va_up B q z)) ((rt2 h).2)) rfl dX12_command_112
      · have h := it_f h c25
        refine lv_iload hx hb dX12_command_106 (lv_at hl 0 rfl) ?_
        refine lv_if_ne (tgt := 113) hx hb dX12_command_108 (by decide) (fun c26 => ?_) (fun c26 => ?_)
        · have h := it_f h c26
          refine lv_aload_n hx hb dX12_command_113 rfl (lv_at hl 1 rfl) ?_
          refine lv_iload_n hx hb dX12_command_114 rfl (lv_at hl 3 rfl) ?_
          refine lv_iload hx hb dX12_command_115 (lv_at hl 0 rfl) ?_
          obtain ⟨x28, S29, e27, h⟩ := bd2_e h
          refine u_cSi X M hl.1 (kX12_payOn hq e27) cw_X12_146 ⟨by decide, by decide⟩ rfl rfl (Nat.le_of_ble_eq_true rfl) ⟨Nat.zero_le _, Nat.zero_le _⟩ dX12_command_117 (fun H locs M n30 => ?_)
          refine lv_pop hx hb dX12_command_120 rfl ?_
          refine lv_iconst (v := 1) hx hb dX12_command_121 (by decide) ?_
          exact u_iret X hret M (rt2 h).1 (congrArg (fun z => va_up V 19 (va_up B q z)) ((rt2 h).2)) rfl dX12_command_122
        · have h := it_t h c26
          refine lv_iconst (v := 0) hx hb dX12_command_111 (by decide) ?_
          exact u_iret X hret M (rt2 h).1 (congrArg (fun z => va_up V 19 (va_up B q z)) ((rt2 h).2)) rfl dX12_command_112
    · have h := it_f h c21
      by_cases c31 : a2 = 3
      · have h := it_t h c31
        refine lv_tableIn (off := 113) (tgt := 123) hx hb dX12_command_10 (by rw [c31]; decide) (by rw [c31]; decide) (by rw [c31]; rfl) (by decide) ?_
        refine lv_iload_n hx hb dX12_command_123 rfl (lv_at hl 4 rfl) ?_
        refine lv_if_ne (tgt := 163) hx hb dX12_command_124 (by decide) (fun c32 => ?_) (fun c32 => ?_)
        · have h := it_f h c32
          refine lv_iconst (v := 0) hx hb dX12_command_163 (by decide) ?_
          exact u_iret X hret M (rt2 h).1 (congrArg (fun z => va_up V 19 (va_up B q z)) ((rt2 h).2)) rfl dX12_command_164
        · have h := it_t h c32
          refine lv_iload hx hb dX12_command_127 (lv_at hl 5 rfl) ?_
          refine lv_iconst (v := 2) hx hb dX12_command_129 (by decide) ?_
          refine lv_icmp_ge (tgt := 163) hx hb dX12_command_130 (by decide) (fun c33 => ?_) (fun c33 => ?_)
          · have h := it_t h c33
            refine lv_iconst (v := 0) hx hb dX12_command_163 (by decide) ?_
            exact u_iret X hret M (rt2 h).1 (congrArg (fun z => va_up V 19 (va_up B q z)) ((rt2 h).2)) rfl dX12_command_164
          · have h := it_f h c33
            refine lv_iload_n hx hb dX12_command_133 rfl (lv_at hl 3 rfl) ?_
            obtain ⟨x35, e34, h⟩ := lt_e h
            refine u_cSi X M hl.1 (kX12_isGate  e34.symm) cw_X12_183 ⟨by decide, by decide⟩ rfl rfl (Nat.le_of_ble_eq_true rfl) ⟨Nat.zero_le _, Nat.zero_le _⟩ dX12_command_134 (fun H locs M n36 => ?_)
            refine lv_if_eq (tgt := 163) hx hb dX12_command_137 (by decide) (fun c37 => ?_) (fun c37 => ?_)
            · have h := it_t h c37
              refine lv_iconst (v := 0) hx hb dX12_command_163 (by decide) ?_
              exact u_iret X hret M (rt2 h).1 (congrArg (fun z => va_up V 19 (va_up B q z)) ((rt2 h).2)) rfl dX12_command_164
            · have h := it_f h c37
              refine lv_aload_n hx hb dX12_command_140 rfl (lv_at hl 1 rfl) ?_
              refine lv_iload_n hx hb dX12_command_141 rfl (lv_at hl 3 rfl) ?_
              refine lv_iload hx hb dX12_command_142 (lv_at hl 5 rfl) ?_
              refine lv_iconst (v := 1) hx hb dX12_command_144 (by decide) ?_
              refine lv_icmp_ne (tgt := 152) hx hb dX12_command_145 (by decide) (fun c38 => ?_) (fun c38 => ?_)
              · have h := it_f h c38
                refine lv_iconst (v := 0) hx hb dX12_command_152 (by decide) ?_
                obtain ⟨x40, S41, e39, h⟩ := bd2_e h
                refine u_cSi X M hl.1 (kX12_doesLine hq e39) cw_X12_149 ⟨by decide, by decide⟩ rfl rfl (Nat.le_of_ble_eq_true rfl) ⟨Nat.zero_le _, Nat.zero_le _⟩ dX12_command_153 (fun H locs M n42 => ?_)
                refine lv_if_eq (tgt := 163) hx hb dX12_command_156 (by decide) (fun c43 => ?_) (fun c43 => ?_)
                · have h := it_t h c43
                  refine lv_iconst (v := 0) hx hb dX12_command_163 (by decide) ?_
                  exact u_iret X hret M (rt2 h).1 (congrArg (fun z => va_up V 19 (va_up B q z)) ((rt2 h).2)) rfl dX12_command_164
                · have h := it_f h c43
                  refine lv_iconst (v := 1) hx hb dX12_command_159 (by decide) ?_
                  refine lv_goto (tgt := 164) hx hb dX12_command_160 (by decide) ?_
                  exact u_iret X hret M (rt2 h).1 (congrArg (fun z => va_up V 19 (va_up B q z)) ((rt2 h).2)) rfl dX12_command_164
              · have h := it_t h c38
                refine lv_iconst (v := 1) hx hb dX12_command_148 (by decide) ?_
                refine lv_goto (tgt := 153) hx hb dX12_command_149 (by decide) ?_
                obtain ⟨x45, S46, e44, h⟩ := bd2_e h
                refine u_cSi X M hl.1 (kX12_doesLine hq e44) cw_X12_149 ⟨by decide, by decide⟩ rfl rfl (Nat.le_of_ble_eq_true rfl) ⟨Nat.zero_le _, Nat.zero_le _⟩ dX12_command_153 (fun H locs M n47 => ?_)
                refine lv_if_eq (tgt := 163) hx hb dX12_command_156 (by decide) (fun c48 => ?_) (fun c48 => ?_)
                · have h := it_t h c48
                  refine lv_iconst (v := 0) hx hb dX12_command_163 (by decide) ?_
                  exact u_iret X hret M (rt2 h).1 (congrArg (fun z => va_up V 19 (va_up B q z)) ((rt2 h).2)) rfl dX12_command_164
                · have h := it_f h c48
                  refine lv_iconst (v := 1) hx hb dX12_command_159 (by decide) ?_
                  refine lv_goto (tgt := 164) hx hb dX12_command_160 (by decide) ?_
                  exact u_iret X hret M (rt2 h).1 (congrArg (fun z => va_up V 19 (va_up B q z)) ((rt2 h).2)) rfl dX12_command_164
      · have h := it_f h c31
        by_cases c49 : a2 = 4
        · have h := it_t h c49
          refine lv_tableIn (off := 155) (tgt := 165) hx hb dX12_command_10 (by rw [c49]; decide) (by rw [c49]; decide) (by rw [c49]; rfl) (by decide) ?_
          refine lv_iload_n hx hb dX12_command_165 rfl (lv_at hl 3 rfl) ?_
          refine lv_if_ne (tgt := 195) hx hb dX12_command_166 (by decide) (fun c50 => ?_) (fun c50 => ?_)
          · have h := it_f h c50
            refine lv_iconst (v := 0) hx hb dX12_command_195 (by decide) ?_
            exact u_iret X hret M (rt2 h).1 (congrArg (fun z => va_up V 19 (va_up B q z)) ((rt2 h).2)) rfl dX12_command_196
          · have h := it_t h c50
            refine lv_iload hx hb dX12_command_169 (lv_at hl 0 rfl) ?_
            refine lv_i2l hx hb dX12_command_171 rfl ?_
            refine lv_lconst (v := 1) hx hb dX12_command_172 rfl ?_
            refine lv_ldc2 (v := 60) hx hb X.1.2.2.2.1 (X.hts (gt_in 1302 (by decide +kernel) (by decide +kernel))) dX12_command_173 ?_
            obtain ⟨x52, e51, h⟩ := lt_e h
            refine u_cSi X M hl.1 (kX12_in  e51.symm) cw_X12_44 ⟨by decide, by decide⟩ rfl rfl (Nat.le_of_ble_eq_true rfl) ⟨Nat.zero_le _, Nat.zero_le _⟩ dX12_command_176 (fun H locs M n53 => ?_)
            refine lv_if_eq (tgt := 195) hx hb dX12_command_179 (by decide) (fun c54 => ?_) (fun c54 => ?_)
            · have h := it_t h c54
              refine lv_iconst (v := 0) hx hb dX12_command_195 (by decide) ?_
              exact u_iret X hret M (rt2 h).1 (congrArg (fun z => va_up V 19 (va_up B q z)) ((rt2 h).2)) rfl dX12_command_196
            · have h := it_f h c54
              refine lv_aload_n hx hb dX12_command_182 rfl (lv_at hl 1 rfl) ?_
              refine lv_iload hx hb dX12_command_183 (lv_at hl 0 rfl) ?_
              obtain ⟨x56, S57, e55, h⟩ := bd2_e h
              refine u_cSi X M hl.1 (kX12_runOn hq e55) cw_X12_156 ⟨by decide, by decide⟩ rfl rfl (Nat.le_of_ble_eq_true rfl) ⟨Nat.zero_le _, Nat.zero_le _⟩ dX12_command_185 (fun H locs M n58 => ?_)
              refine lv_if_le (tgt := 195) hx hb dX12_command_188 (by decide) (fun c59 => ?_) (fun c59 => ?_)
              · have h := it_t h c59
                refine lv_iconst (v := 0) hx hb dX12_command_195 (by decide) ?_
                exact u_iret X hret M (rt2 h).1 (congrArg (fun z => va_up V 19 (va_up B q z)) ((rt2 h).2)) rfl dX12_command_196
              · have h := it_f h c59
                refine lv_iconst (v := 1) hx hb dX12_command_191 (by decide) ?_
                refine lv_goto (tgt := 196) hx hb dX12_command_192 (by decide) ?_
                exact u_iret X hret M (rt2 h).1 (congrArg (fun z => va_up V 19 (va_up B q z)) ((rt2 h).2)) rfl dX12_command_196
        · have h := it_f h c49
          by_cases c60 : a2 = 5
          · have h := it_t h c60
            refine lv_tableIn (off := 187) (tgt := 197) hx hb dX12_command_10 (by rw [c60]; decide) (by rw [c60]; decide) (by rw [c60]; rfl) (by decide) ?_
            refine lv_iload hx hb dX12_command_197 (lv_at hl 0 rfl) ?_
            refine lv_if_ne (tgt := 222) hx hb dX12_command_199 (by decide) (fun c61 => ?_) (fun c61 => ?_)
            · have h := it_f h c61
              refine lv_iconst (v := 0) hx hb dX12_command_222 (by decide) ?_
              exact u_iret X hret M (rt2 h).1 (congrArg (fun z => va_up V 19 (va_up B q z)) ((rt2 h).2)) rfl dX12_command_223
            · have h := it_t h c61
              refine lv_aload_n hx hb dX12_command_202 rfl (lv_at hl 1 rfl) ?_
              refine lv_iload_n hx hb dX12_command_203 rfl (lv_at hl 3 rfl) ?_
              obtain ⟨x63, e62, h⟩ := bd_e h
              refine u_cSi X M hl.1 (kX12_canCopy hq (va_up_s2 V 19 B q _) e62) cw_X12_134 ⟨by decide, by decide⟩ rfl rfl (Nat.le_of_ble_eq_true rfl) ⟨Nat.zero_le _, Nat.zero_le _⟩ dX12_command_204 (fun H locs M n64 => ?_)
              refine lv_if_eq (tgt := 222) hx hb dX12_command_207 (by decide) (fun c65 => ?_) (fun c65 => ?_)
              · have h := it_t h c65
                refine lv_iconst (v := 0) hx hb dX12_command_222 (by decide) ?_
                exact u_iret X hret M (rt2 h).1 (congrArg (fun z => va_up V 19 (va_up B q z)) ((rt2 h).2)) rfl dX12_command_223
              · have h := it_f h c65
                refine lv_aload_n hx hb dX12_command_210 rfl (lv_at hl 1 rfl) ?_
                refine lv_iload_n hx hb dX12_command_211 rfl (lv_at hl 3 rfl) ?_
                obtain ⟨x67, S68, e66, h⟩ := bd2_e h
                refine u_cSi X M hl.1 (kX12_copyOn hq e66) cw_X12_137 ⟨by decide, by decide⟩ rfl rfl (Nat.le_of_ble_eq_true rfl) ⟨Nat.zero_le _, Nat.zero_le _⟩ dX12_command_212 (fun H locs M n69 => ?_)
                refine lv_if_le (tgt := 222) hx hb dX12_command_215 (by decide) (fun c70 => ?_) (fun c70 => ?_)
                · have h := it_t h c70
                  refine lv_iconst (v := 0) hx hb dX12_command_222 (by decide) ?_
                  exact u_iret X hret M (rt2 h).1 (congrArg (fun z => va_up V 19 (va_up B q z)) ((rt2 h).2)) rfl dX12_command_223
                · have h := it_f h c70
                  refine lv_iconst (v := 1) hx hb dX12_command_218 (by decide) ?_
                  refine lv_goto (tgt := 223) hx hb dX12_command_219 (by decide) ?_
                  exact u_iret X hret M (rt2 h).1 (congrArg (fun z => va_up V 19 (va_up B q z)) ((rt2 h).2)) rfl dX12_command_223
          · have h := it_f h c60
            by_cases c71 : a2 = 6
            · have h := it_t h c71
              refine lv_tableIn (off := 214) (tgt := 224) hx hb dX12_command_10 (by rw [c71]; decide) (by rw [c71]; decide) (by rw [c71]; rfl) (by decide) ?_
              refine lv_iload_n hx hb dX12_command_224 rfl (lv_at hl 4 rfl) ?_
              refine lv_if_ne (tgt := 265) hx hb dX12_command_225 (by decide) (fun c72 => ?_) (fun c72 => ?_)
              · have h := it_f h c72
                refine lv_iconst (v := 0) hx hb dX12_command_265 (by decide) ?_
                exact u_iret X hret M (rt2 h).1 (congrArg (fun z => va_up V 19 (va_up B q z)) ((rt2 h).2)) rfl dX12_command_266
              · have h := it_t h c72
                refine lv_iload hx hb dX12_command_228 (lv_at hl 5 rfl) ?_
                refine lv_iconst (v := 2) hx hb dX12_command_230 (by decide) ?_
                refine lv_icmp_ge (tgt := 265) hx hb dX12_command_231 (by decide) (fun c73 => ?_) (fun c73 => ?_)
                · have h := it_t h c73
                  refine lv_iconst (v := 0) hx hb dX12_command_265 (by decide) ?_
                  exact u_iret X hret M (rt2 h).1 (congrArg (fun z => va_up V 19 (va_up B q z)) ((rt2 h).2)) rfl dX12_command_266
                · have h := it_f h c73
                  refine lv_aload_n hx hb dX12_command_234 rfl (lv_at hl 1 rfl) ?_
                  refine lv_iload_n hx hb dX12_command_235 rfl (lv_at hl 3 rfl) ?_
                  obtain ⟨x75, e74, h⟩ := bd_e h
                  refine u_cSi X M hl.1 (kX12_isAccount hq (va_up_s2 V 19 B q _) e74) cw_X12_143 ⟨by decide, by decide⟩ rfl rfl (Nat.le_of_ble_eq_true rfl) ⟨Nat.zero_le _, Nat.zero_le _⟩ dX12_command_236 (fun H locs M n76 => ?_)
                  refine lv_if_eq (tgt := 265) hx hb dX12_command_239 (by decide) (fun c77 => ?_) (fun c77 => ?_)
                  · have h := it_t h c77
                    refine lv_iconst (v := 0) hx hb dX12_command_265 (by decide) ?_
                    exact u_iret X hret M (rt2 h).1 (congrArg (fun z => va_up V 19 (va_up B q z)) ((rt2 h).2)) rfl dX12_command_266
                  · have h := it_f h c77
                    refine lv_aload_n hx hb dX12_command_242 rfl (lv_at hl 1 rfl) ?_
                    refine lv_iload_n hx hb dX12_command_243 rfl (lv_at hl 3 rfl) ?_
                    obtain ⟨x79, e78, h⟩ := bd_e h
                    refine u_cSi X M hl.1 (kX12_isBlocked hq (va_up_s2 V 19 B q _) e78) cw_X12_53 ⟨by decide, by decide⟩ rfl rfl (Nat.le_of_ble_eq_true rfl) ⟨Nat.zero_le _, Nat.zero_le _⟩ dX12_command_244 (fun H locs M n80 => ?_)
                    refine lv_iload hx hb dX12_command_247 (lv_at hl 5 rfl) ?_
                    refine lv_iconst (v := 1) hx hb dX12_command_249 (by decide) ?_
                    refine lv_icmp_ne (tgt := 257) hx hb dX12_command_250 (by decide) (fun c81 => ?_) (fun c81 => ?_)
                    · have h := it_f h c81
                      refine lv_iconst (v := 0) hx hb dX12_command_257 (by decide) ?_
                      refine lv_icmp_ne (tgt := 265) hx hb dX12_command_258 (by decide) (fun c82 => ?_) (fun c82 => ?_)
                      · have h := it_f h c82
                        refine lv_iconst (v := 0) hx hb dX12_command_265 (by decide) ?_
                        exact u_iret X hret M (rt2 h).1 (congrArg (fun z => va_up V 19 (va_up B q z)) ((rt2 h).2)) rfl dX12_command_266
                      · have h := it_t h c82
                        refine lv_iconst (v := 1) hx hb dX12_command_261 (by decide) ?_
                        refine lv_goto (tgt := 266) hx hb dX12_command_262 (by decide) ?_
                        exact u_iret X hret M (rt2 h).1 (congrArg (fun z => va_up V 19 (va_up B q z)) ((rt2 h).2)) rfl dX12_command_266
                    · have h := it_t h c81
                      refine lv_iconst (v := 1) hx hb dX12_command_253 (by decide) ?_
                      refine lv_goto (tgt := 258) hx hb dX12_command_254 (by decide) ?_
                      refine lv_icmp_ne (tgt := 265) hx hb dX12_command_258 (by decide) (fun c83 => ?_) (fun c83 => ?_)
                      · have h := it_f h c83
                        refine lv_iconst (v := 0) hx hb dX12_command_265 (by decide) ?_
                        exact u_iret X hret M (rt2 h).1 (congrArg (fun z => va_up V 19 (va_up B q z)) ((rt2 h).2)) rfl dX12_command_266
                      · have h := it_t h c83
                        refine lv_iconst (v := 1) hx hb dX12_command_261 (by decide) ?_
                        refine lv_goto (tgt := 266) hx hb dX12_command_262 (by decide) ?_
                        exact u_iret X hret M (rt2 h).1 (congrArg (fun z => va_up V 19 (va_up B q z)) ((rt2 h).2)) rfl dX12_command_266
            · have h := it_f h c71
              by_cases c84 : a2 = 7
              · have h := it_t h c84
                refine lv_tableIn (off := 257) (tgt := 267) hx hb dX12_command_10 (by rw [c84]; decide) (by rw [c84]; decide) (by rw [c84]; rfl) (by decide) ?_
                refine lv_iload_n hx hb dX12_command_267 rfl (lv_at hl 3 rfl) ?_
                obtain ⟨x86, e85, h⟩ := lt_e h
                refine u_cSi X M hl.1 (kX12_isGate  e85.symm) cw_X12_183 ⟨by decide, by decide⟩ rfl rfl (Nat.le_of_ble_eq_true rfl) ⟨Nat.zero_le _, Nat.zero_le _⟩ dX12_command_268 (fun H locs M n87 => ?_)
                refine lv_if_eq (tgt := 291) hx hb dX12_command_271 (by decide) (fun c88 => ?_) (fun c88 => ?_)
                · have h := it_t h c88
                  refine lv_iconst (v := 0) hx hb dX12_command_291 (by decide) ?_
                  exact u_iret X hret M (rt2 h).1 (congrArg (fun z => va_up V 19 (va_up B q z)) ((rt2 h).2)) rfl dX12_command_292
                · have h := it_f h c88
                  refine lv_aload_n hx hb dX12_command_274 rfl (lv_at hl 1 rfl) ?_
                  refine lv_iload_n hx hb dX12_command_275 rfl (lv_at hl 3 rfl) ?_
                  obtain ⟨x90, e89, h⟩ := lt_e h
                  refine u_cSi X M hl.1 (kX12_gateAt  e89.symm) cw_X12_40 ⟨by decide, by decide⟩ rfl rfl (Nat.le_of_ble_eq_true rfl) ⟨Nat.zero_le _, Nat.zero_le _⟩ dX12_command_276 (fun H locs M n91 => ?_)
                  refine lv_iconst (v := 3) hx hb dX12_command_279 (by decide) ?_
                  refine lv_iadd hx hb dX12_command_280 ?_
                  obtain ⟨g92, h⟩ := gd_e h
                  obtain ⟨x93, e94, h⟩ := lt_e h
                  refine u_ald X M hq.1 (uAr_sh hq (va_up_s2 V 19 B q _)) (inb_e g92) e94 dX12_command_281 ?_
                  refine lv_iload hx hb dX12_command_282 (lv_at hl 0 rfl) ?_
                  refine lv_icmp_gt (tgt := 291) hx hb dX12_command_284 (by decide) (fun c95 => ?_) (fun c95 => ?_)
                  · have h := it_t h c95
                    refine lv_iconst (v := 0) hx hb dX12_command_291 (by decide) ?_
                    exact u_iret X hret M (rt2 h).1 (congrArg (fun z => va_up V 19 (va_up B q z)) ((rt2 h).2)) rfl dX12_command_292
                  · have h := it_f h c95
                    refine lv_iconst (v := 1) hx hb dX12_command_287 (by decide) ?_
                    refine lv_goto (tgt := 292) hx hb dX12_command_288 (by decide) ?_
                    exact u_iret X hret M (rt2 h).1 (congrArg (fun z => va_up V 19 (va_up B q z)) ((rt2 h).2)) rfl dX12_command_292
              · have h := it_f h c84
                by_cases c96 : a2 = 8
                · have h := it_t h c96
                  refine lv_tableIn (off := 283) (tgt := 293) hx hb dX12_command_10 (by rw [c96]; decide) (by rw [c96]; decide) (by rw [c96]; rfl) (by decide) ?_
                  refine lv_aload_n hx hb dX12_command_293 rfl (lv_at hl 1 rfl) ?_
                  refine lv_iload_n hx hb dX12_command_294 rfl (lv_at hl 3 rfl) ?_
                  obtain ⟨x98, e97, h⟩ := bd_e h
                  refine u_cSi X M hl.1 (kX12_isCard hq (va_up_s2 V 19 B q _) e97) cw_X12_87 ⟨by decide, by decide⟩ rfl rfl (Nat.le_of_ble_eq_true rfl) ⟨Nat.zero_le _, Nat.zero_le _⟩ dX12_command_295 (fun H locs M n99 => ?_)
                  refine lv_if_eq (tgt := 318) hx hb dX12_command_298 (by decide) (fun c100 => ?_) (fun c100 => ?_)
                  · have h := it_t h c100
                    refine lv_iconst (v := 0) hx hb dX12_command_318 (by decide) ?_
                    exact u_iret X hret M (rt2 h).1 (congrArg (fun z => va_up V 19 (va_up B q z)) ((rt2 h).2)) rfl dX12_command_319
                  · have h := it_f h c100
                    refine lv_aload_n hx hb dX12_command_301 rfl (lv_at hl 1 rfl) ?_
                    refine lv_iload_n hx hb dX12_command_302 rfl (lv_at hl 3 rfl) ?_
                    obtain ⟨x102, e101, h⟩ := lt_e h
                    refine u_cSi X M hl.1 (kX12_cardAt  e101.symm) cw_X12_76 ⟨by decide, by decide⟩ rfl rfl (Nat.le_of_ble_eq_true rfl) ⟨Nat.zero_le _, Nat.zero_le _⟩ dX12_command_303 (fun H locs M n103 => ?_)
                    refine lv_iconst (v := 1) hx hb dX12_command_306 (by decide) ?_
                    refine lv_iadd hx hb dX12_command_307 ?_
                    obtain ⟨g104, h⟩ := gd_e h
                    obtain ⟨x105, e106, h⟩ := lt_e h
                    refine u_ald X M hq.1 (uAr_sh hq (va_up_s2 V 19 B q _)) (inb_e g104) e106 dX12_command_308 ?_
                    refine lv_iload hx hb dX12_command_309 (lv_at hl 0 rfl) ?_
                    refine lv_icmp_lt (tgt := 318) hx hb dX12_command_311 (by decide) (fun c107 => ?_) (fun c107 => ?_)
                    · have h := it_t h c107
                      refine lv_iconst (v := 0) hx hb dX12_command_318 (by decide) ?_
                      exact u_iret X hret M (rt2 h).1 (congrArg (fun z => va_up V 19 (va_up B q z)) ((rt2 h).2)) rfl dX12_command_319
                    · have h := it_f h c107
                      refine lv_iconst (v := 1) hx hb dX12_command_314 (by decide) ?_
                      refine lv_goto (tgt := 319) hx hb dX12_command_315 (by decide) ?_
                      exact u_iret X hret M (rt2 h).1 (congrArg (fun z => va_up V 19 (va_up B q z)) ((rt2 h).2)) rfl dX12_command_319
                · have h := it_f h c96
                  by_cases c108 : a2 = 9
                  · have h := it_t h c108
                    refine lv_tableIn (off := 310) (tgt := 320) hx hb dX12_command_10 (by rw [c108]; decide) (by rw [c108]; decide) (by rw [c108]; rfl) (by decide) ?_
                    refine lv_iload_n hx hb dX12_command_320 rfl (lv_at hl 3 rfl) ?_
                    refine lv_if_ne (tgt := 336) hx hb dX12_command_321 (by decide) (fun c109 => ?_) (fun c109 => ?_)
                    · have h := it_f h c109
                      refine lv_iconst (v := 0) hx hb dX12_command_336 (by decide) ?_
                      exact u_iret X hret M (rt2 h).1 (congrArg (fun z => va_up V 19 (va_up B q z)) ((rt2 h).2)) rfl dX12_command_337
                    · have h := it_t h c109
                      refine lv_aload_n hx hb dX12_command_324 rfl (lv_at hl 1 rfl) ?_
                      refine lv_iconst (v := 5) hx hb dX12_command_325 (by decide) ?_
                      obtain ⟨g110, h⟩ := gd_e h
                      obtain ⟨x111, e112, h⟩ := lt_e h
                      refine u_ald X M hq.1 (uAr_sh hq (va_up_s2 V 19 B q _)) (inb_e g110) e112 dX12_command_326 ?_
                      refine lv_iload hx hb dX12_command_327 (lv_at hl 0 rfl) ?_
                      refine lv_icmp_gt (tgt := 336) hx hb dX12_command_329 (by decide) (fun c113 => ?_) (fun c113 => ?_)
                      · have h := it_t h c113
                        refine lv_iconst (v := 0) hx hb dX12_command_336 (by decide) ?_
                        exact u_iret X hret M (rt2 h).1 (congrArg (fun z => va_up V 19 (va_up B q z)) ((rt2 h).2)) rfl dX12_command_337
                      · have h := it_f h c113
                        refine lv_iconst (v := 1) hx hb dX12_command_332 (by decide) ?_
                        refine lv_goto (tgt := 337) hx hb dX12_command_333 (by decide) ?_
                        exact u_iret X hret M (rt2 h).1 (congrArg (fun z => va_up V 19 (va_up B q z)) ((rt2 h).2)) rfl dX12_command_337
                  · have h := it_f h c108
                    have tc3 := lv_neT (a := 1) c3 (by decide)
                    have tc21 := lv_neT (a := 2) c21 (by decide)
                    have tc31 := lv_neT (a := 3) c31 (by decide)
                    have tc49 := lv_neT (a := 4) c49 (by decide)
                    have tc60 := lv_neT (a := 5) c60 (by decide)
                    have tc71 := lv_neT (a := 6) c71 (by decide)
                    have tc84 := lv_neT (a := 7) c84 (by decide)
                    have tc96 := lv_neT (a := 8) c96 (by decide)
                    have tc108 := lv_neT (a := 9) c108 (by decide)
                    refine lv_tableOut (tgt := 338) hx hb dX12_command_10 (by omega) (by decide) ?_
                    refine lv_iconst (v := 0) hx hb dX12_command_338 (by decide) ?_
                    exact u_iret X hret M (rt2 h).1 (congrArg (fun z => va_up V 19 (va_up B q z)) ((rt2 h).2)) rfl dX12_command_339
def fX12_turn (f : (Nat → Int32)) (a2 : Int32) : Option (Nat → Int32) :=
  lt_ ((a2 / 16)) fun x1 =>
  lt_ ((a2 - a2 / 16 * 16)) fun x3 =>
  if x3 = 0 then
    bd (fX12_canIssue f) fun x64 =>
    if x64 = 0 then
      some f
    else
      bd2 (fX12_issueOn f (x1 - x1 / 40 * 40)) fun x68 S69 =>
      some S69
  else
    if x3 = 1 then
      bd (fX12_canCopy f (x1 - x1 / 10 * 10)) fun x56 =>
      if x56 = 0 then
        some f
      else
        bd2 (fX12_copyOn f (x1 - x1 / 10 * 10)) fun x60 S61 =>
        some S61
    else
      if 4 ≤ x3 then
        if x3 = 4 then
          bd (fX12_isAccount f (x1 - x1 / 8 * 8)) fun x39 =>
          if x39 = 0 then
            some f
          else
            bd2 (fX12_payOn f (x1 - x1 / 8 * 8) (1 + ((a2 / 128) - (a2 / 128) / 30 * 30))) fun x43 S44 =>
            some S44
        else
          if x3 = 5 then
            bd2 (fX12_openOn f (x1 - x1 / 4 * 4)) fun x35 S36 =>
            some S36
          else
            if x3 = 6 then
              bd (fX12_canPardon f (x1 - x1 / 8 * 8)) fun x25 =>
              if x25 = 0 then
                some f
              else
                lt_ (fX12_accountAt  (x1 - x1 / 8 * 8)) fun x29 =>
                gd (inb (x29 + 2) 1272) <|
                lt_ (upd f ((x29 + 2) : Int32).toNatClampNeg 0) fun r32 =>
                some r32
            else
              if 9 ≤ x3 then
                bd (fX12_isCard f (x1 - x1 / 10 * 10)) fun x13 =>
                if x13 = 0 then
                  some f
                else
                  bd2 (fX12_rideOn f (x1 - x1 / 10 * 10) ((a2 / 256) - (a2 / 256) / 4 * 4)) fun x17 S18 =>
                  some S18
              else
                bd2 (fX12_runOn f (1 + (x1 - x1 / 20 * 20))) fun x21 S22 =>
                some S22
      else
        if x3 = 3 then
          bd2 (fX12_doesLine f (x1 - x1 / 4 * 4) 1) fun x52 S53 =>
          some S53
        else
          bd2 (fX12_doesLine f (x1 - x1 / 4 * 4) 0) fun x48 S49 =>
          some S49
set_option maxHeartbeats 4000000 in
set_option maxRecDepth 20000 in
theorem kX12_turn {l : Launch} {G : UG} {V : uV} {q : Nat} (hq : uAr G q) {B : (Nat → Nat → Int32)} {f f' : (Nat → Int32)} {a2 : Int32} (h : fX12_turn f a2 = some f') : uMv l G yX12_turn cX12_turn 4 (uR 6 137) [.ref (ga G 19 q), .int a2] (va_up V 19 (va_up B q f)) (va_up V 19 (va_up B q f')) := by
  refine uMv_of rfl (Nat.le_of_ble_eq_true rfl) (fun p e s m args below meth c ls X hret hl M => ?_)
  have hl : lv_has ls 4 [(0, .ref (ga G 19 q)), (1, .int a2)] := hl
  have hx := X.hx
  have hb := X.hb
  unfold fX12_turn at h
  refine lv_iload_n hx hb dX12_turn_0 rfl (lv_at hl 1 rfl) ?_
  refine lv_bipush (v := 16) hx hb dX12_turn_1 (by decide) ?_
  refine lv_idiv hx hb dX12_turn_3 (by decide) ?_
  obtain ⟨x1, e2, h⟩ := lt_e h
  refine u_topi e2 ?_
  refine lv_istore_n (lv' := [(2, .int x1), (0, .ref (ga G 19 q)), (1, .int a2)]) hx hb dX12_turn_4 rfl hl (by decide) rfl (fun ls hl => ?_)
  refine lv_iload_n hx hb dX12_turn_5 rfl (lv_at hl 2 rfl) ?_
  refine lv_bipush (v := 16) hx hb dX12_turn_6 (by decide) ?_
  refine lv_irem hx hb dX12_turn_8 (by decide) ?_
  obtain ⟨x3, e4, h⟩ := lt_e h
  refine u_topi e4 ?_
  refine lv_istore_n (lv' := [(3, .int x3), (2, .int x1), (0, .ref (ga G 19 q)), (1, .int a2)]) hx hb dX12_turn_9 rfl hl (by decide) rfl (fun ls hl => ?_)
  refine lv_iload_n hx hb dX12_turn_10 rfl (lv_at hl 0 rfl) ?_
  refine lv_if_ne (tgt := 33) hx hb dX12_turn_11 (by decide) (fun c5 => ?_) (fun c5 => ?_)
  · have h := it_f h c5
    refine lv_iload_n hx hb dX12_turn_33 rfl (lv_at hl 0 rfl) ?_
    refine lv_iconst (v := 1) hx hb dX12_turn_34 (by decide) ?_
    refine lv_icmp_ne (tgt := 61) hx hb dX12_turn_35 (by decide) (fun c6 => ?_) (fun c6 => ?_)
    · have h := it_f h c6
      refine lv_iload_n hx hb dX12_turn_61 rfl (lv_at hl 0 rfl) ?_
      refine lv_iconst (v := 4) hx hb dX12_turn_62 (by decide) ?_
      refine lv_icmp_ge (tgt := 87) hx hb dX12_turn_63 (by decide) (fun c7 => ?_) (fun c7 => ?_)
      · have h := it_t h c7
        refine lv_iload_n hx hb dX12_turn_87 rfl (lv_at hl 0 rfl) ?_
        refine lv_iconst (v := 4) hx hb dX12_turn_88 (by decide) ?_
        refine lv_icmp_ne (tgt := 125) hx hb dX12_turn_89 (by decide) (fun c8 => ?_) (fun c8 => ?_)
        · have h := it_f h c8
          refine lv_iload_n hx hb dX12_turn_125 rfl (lv_at hl 0 rfl) ?_
          refine lv_iconst (v := 5) hx hb dX12_turn_126 (by decide) ?_
          refine lv_icmp_ne (tgt := 141) hx hb dX12_turn_127 (by decide) (fun c9 => ?_) (fun c9 => ?_)
          · have h := it_f h c9
            refine lv_iload_n hx hb dX12_turn_141 rfl (lv_at hl 0 rfl) ?_
            refine lv_bipush (v := 6) hx hb dX12_turn_142 (by decide) ?_
            refine lv_icmp_ne (tgt := 173) hx hb dX12_turn_144 (by decide) (fun c10 => ?_) (fun c10 => ?_)
            · have h := it_f h c10
              refine lv_iload_n hx hb dX12_turn_173 rfl (lv_at hl 0 rfl) ?_
              refine lv_bipush (v := 9) hx hb dX12_turn_174 (by decide) ?_
              refine lv_icmp_ge (tgt := 193) hx hb dX12_turn_176 (by decide) (fun c11 => ?_) (fun c11 => ?_)
              · have h := it_t h c11
                refine lv_aload_n hx hb dX12_turn_193 rfl (lv_at hl 2 rfl) ?_
                refine lv_iload_n hx hb dX12_turn_194 rfl (lv_at hl 1 rfl) ?_
                refine lv_bipush (v := 10) hx hb dX12_turn_195 (by decide) ?_
                refine lv_irem hx hb dX12_turn_197 (by decide) ?_
                obtain ⟨x13, e12, h⟩ := bd_e h
                refine u_cSi X M hl.1 (kX12_isCard hq (va_up_s2 V 19 B q _) e12) cw_X12_87 ⟨by decide, by decide⟩ rfl rfl (Nat.le_of_ble_eq_true rfl) ⟨Nat.zero_le _, Nat.zero_le _⟩ dX12_turn_198 (fun H locs M n14 => ?_)
                refine lv_if_eq (tgt := 220) hx hb dX12_turn_201 (by decide) (fun c15 => ?_) (fun c15 => ?_)
                · have h := it_t h c15
                  exact u_vret X hret M (congrArg (fun z => va_up V 19 (va_up B q z)) (Option.some.inj h)) dX12_turn_220
                · have h := it_f h c15
                  refine lv_aload_n hx hb dX12_turn_204 rfl (lv_at hl 2 rfl) ?_
                  refine lv_iload_n hx hb dX12_turn_205 rfl (lv_at hl 1 rfl) ?_
                  refine lv_bipush (v := 10) hx hb dX12_turn_206 (by decide) ?_
                  refine lv_irem hx hb dX12_turn_208 (by decide) ?_
                  refine lv_iload_n hx hb dX12_turn_209 rfl (lv_at hl 3 rfl) ?_
                  refine lv_sipush (v := 256) hx hb dX12_turn_210 (by decide) ?_
                  refine lv_idiv hx hb dX12_turn_213 (by decide) ?_
                  refine lv_iconst (v := 4) hx hb dX12_turn_214 (by decide) ?_
                  refine lv_irem hx hb dX12_turn_215 (by decide) ?_
                  obtain ⟨x17, S18, e16, h⟩ := bd2_e h
                  refine u_cSi X M hl.1 (kX12_rideOn hq e16) cw_X12_140 ⟨by decide, by decide⟩ rfl rfl (Nat.le_of_ble_eq_true rfl) ⟨Nat.zero_le _, Nat.zero_le _⟩ dX12_turn_216 (fun H locs M n19 => ?_)
                  refine lv_pop hx hb dX12_turn_219 rfl ?_
                  exact u_vret X hret M (congrArg (fun z => va_up V 19 (va_up B q z)) (Option.some.inj h)) dX12_turn_220
              · have h := it_f h c11
                refine lv_aload_n hx hb dX12_turn_179 rfl (lv_at hl 2 rfl) ?_
                refine lv_iconst (v := 1) hx hb dX12_turn_180 (by decide) ?_
                refine lv_iload_n hx hb dX12_turn_181 rfl (lv_at hl 1 rfl) ?_
                refine lv_bipush (v := 20) hx hb dX12_turn_182 (by decide) ?_
                refine lv_irem hx hb dX12_turn_184 (by decide) ?_
                refine lv_iadd hx hb dX12_turn_185 ?_
                obtain ⟨x21, S22, e20, h⟩ := bd2_e h
                refine u_cSi X M hl.1 (kX12_runOn hq e20) cw_X12_156 ⟨by decide, by decide⟩ rfl rfl (Nat.le_of_ble_eq_true rfl) ⟨Nat.zero_le _, Nat.zero_le _⟩ dX12_turn_186 (fun H locs M n23 => ?_)
                refine lv_pop hx hb dX12_turn_189 rfl ?_
                refine lv_goto (tgt := 220) hx hb dX12_turn_190 (by decide) ?_
                exact u_vret X hret M (congrArg (fun z => va_up V 19 (va_up B q z)) (Option.some.inj h)) dX12_turn_220
            · have h := it_t h c10
              refine lv_aload_n hx hb dX12_turn_147 rfl (lv_at hl 2 rfl) ?_
              refine lv_iload_n hx hb dX12_turn_148 rfl (lv_at hl 1 rfl) ?_
              refine lv_bipush (v := 8) hx hb dX12_turn_149 (by decide) ?_
              refine lv_irem hx hb dX12_turn_151 (by decide) ?_
              obtain ⟨x25, e24, h⟩ := bd_e h
              refine u_cSi X M hl.1 (kX12_canPardon hq (va_up_s2 V 19 B q _) e24) cw_X12_193 ⟨by decide, by decide⟩ rfl rfl (Nat.le_of_ble_eq_true rfl) ⟨Nat.zero_le _, Nat.zero_le _⟩ dX12_turn_152 (fun H locs M n26 => ?_)
              refine lv_if_eq (tgt := 220) hx hb dX12_turn_155 (by decide) (fun c27 => ?_) (fun c27 => ?_)
              · have h := it_t h c27
                exact u_vret X hret M (congrArg (fun z => va_up V 19 (va_up B q z)) (Option.some.inj h)) dX12_turn_220
              · have h := it_f h c27
                refine lv_aload_n hx hb dX12_turn_158 rfl (lv_at hl 2 rfl) ?_
                refine lv_iload_n hx hb dX12_turn_159 rfl (lv_at hl 1 rfl) ?_
                refine lv_bipush (v := 8) hx hb dX12_turn_160 (by decide) ?_
                refine lv_irem hx hb dX12_turn_162 (by decide) ?_
                obtain ⟨x29, e28, h⟩ := lt_e h
                refine u_cSi X M hl.1 (kX12_accountAt  e28.symm) cw_X12_50 ⟨by decide, by decide⟩ rfl rfl (Nat.le_of_ble_eq_true rfl) ⟨Nat.zero_le _, Nat.zero_le _⟩ dX12_turn_163 (fun H locs M n30 => ?_)
                refine lv_iconst (v := 2) hx hb dX12_turn_166 (by decide) ?_
                refine lv_iadd hx hb dX12_turn_167 ?_
                refine lv_iconst (v := 0) hx hb dX12_turn_168 (by decide) ?_
                obtain ⟨g31, h⟩ := gd_e h
                obtain ⟨r32, e33, h⟩ := lt_e h
                refine u_ast_a X M hq (inb_e g31) e33 dX12_turn_169 (fun H locs M => ?_)
                refine lv_goto (tgt := 220) hx hb dX12_turn_170 (by decide) ?_
                exact u_vret X hret M (congrArg (fun z => va_up V 19 (va_up B q z)) (Option.some.inj h)) dX12_turn_220
          · have h := it_t h c9
            refine lv_aload_n hx hb dX12_turn_130 rfl (lv_at hl 2 rfl) ?_
            refine lv_iload_n hx hb dX12_turn_131 rfl (lv_at hl 1 rfl) ?_
            refine lv_iconst (v := 4) hx hb dX12_turn_132 (by decide) ?_
            refine lv_irem hx hb dX12_turn_133 (by decide) ?_
            obtain ⟨x35, S36, e34, h⟩ := bd2_e h
            refine u_cSi X M hl.1 (kX12_openOn hq e34) cw_X12_153 ⟨by decide, by decide⟩ rfl rfl (Nat.le_of_ble_eq_true rfl) ⟨Nat.zero_le _, Nat.zero_le _⟩ dX12_turn_134 (fun H locs M n37 => ?_)
            refine lv_pop hx hb dX12_turn_137 rfl ?_
            refine lv_goto (tgt := 220) hx hb dX12_turn_138 (by decide) ?_
            exact u_vret X hret M (congrArg (fun z => va_up V 19 (va_up B q z)) (Option.some.inj h)) dX12_turn_220
        · have h := it_t h c8
          refine lv_aload_n hx hb dX12_turn_92 rfl (lv_at hl 2 rfl) ?_
          refine lv_iload_n hx hb dX12_turn_93 rfl (lv_at hl 1 rfl) ?_
          refine lv_bipush (v := 8) hx hb dX12_turn_94 (by decide) ?_
          refine lv_irem hx hb dX12_turn_96 (by decide) ?_
          obtain ⟨x39, e38, h⟩ := bd_e h
          refine u_cSi X M hl.1 (kX12_isAccount hq (va_up_s2 V 19 B q _) e38) cw_X12_143 ⟨by decide, by decide⟩ rfl rfl (Nat.le_of_ble_eq_true rfl) ⟨Nat.zero_le _, Nat.zero_le _⟩ dX12_turn_97 (fun H locs M n40 => ?_)
          refine lv_if_eq (tgt := 220) hx hb dX12_turn_100 (by decide) (fun c41 => ?_) (fun c41 => ?_)
          · have h := it_t h c41
            exact u_vret X hret M (congrArg (fun z => va_up V 19 (va_up B q z)) (Option.some.inj h)) dX12_turn_220
          · have h := it_f h c41
            refine lv_aload_n hx hb dX12_turn_103 rfl (lv_at hl 2 rfl) ?_
            refine lv_iload_n hx hb dX12_turn_104 rfl (lv_at hl 1 rfl) ?_
            refine lv_bipush (v := 8) hx hb dX12_turn_105 (by decide) ?_
            refine lv_irem hx hb dX12_turn_107 (by decide) ?_
            refine lv_iconst (v := 1) hx hb dX12_turn_108 (by decide) ?_
            refine lv_iload_n hx hb dX12_turn_109 rfl (lv_at hl 3 rfl) ?_
            refine lv_sipush (v := 128) hx hb dX12_turn_110 (by decide) ?_
            refine lv_idiv hx hb dX12_turn_113 (by decide) ?_
            refine lv_bipush (v := 30) hx hb dX12_turn_114 (by decide) ?_
            refine lv_irem hx hb dX12_turn_116 (by decide) ?_
            refine lv_iadd hx hb dX12_turn_117 ?_
            obtain ⟨x43, S44, e42, h⟩ := bd2_e h
            refine u_cSi X M hl.1 (kX12_payOn hq e42) cw_X12_146 ⟨by decide, by decide⟩ rfl rfl (Nat.le_of_ble_eq_true rfl) ⟨Nat.zero_le _, Nat.zero_le _⟩ dX12_turn_118 (fun H locs M n45 => ?_)
            refine lv_pop hx hb dX12_turn_121 rfl ?_
            refine lv_goto (tgt := 220) hx hb dX12_turn_122 (by decide) ?_
            exact u_vret X hret M (congrArg (fun z => va_up V 19 (va_up B q z)) (Option.some.inj h)) dX12_turn_220
      · have h := it_f h c7
        refine lv_aload_n hx hb dX12_turn_66 rfl (lv_at hl 2 rfl) ?_
        refine lv_iload_n hx hb dX12_turn_67 rfl (lv_at hl 1 rfl) ?_
        refine lv_iconst (v := 4) hx hb dX12_turn_68 (by decide) ?_
        refine lv_irem hx hb dX12_turn_69 (by decide) ?_
        refine lv_iload_n hx hb dX12_turn_70 rfl (lv_at hl 0 rfl) ?_
        refine lv_iconst (v := 3) hx hb dX12_turn_71 (by decide) ?_
        refine lv_icmp_ne (tgt := 79) hx hb dX12_turn_72 (by decide) (fun c46 => ?_) (fun c46 => ?_)
        · have h := it_f h c46
          refine lv_iconst (v := 0) hx hb dX12_turn_79 (by decide) ?_
          obtain ⟨x48, S49, e47, h⟩ := bd2_e h
          refine u_cSi X M hl.1 (kX12_doesLine hq e47) cw_X12_149 ⟨by decide, by decide⟩ rfl rfl (Nat.le_of_ble_eq_true rfl) ⟨Nat.zero_le _, Nat.zero_le _⟩ dX12_turn_80 (fun H locs M n50 => ?_)
          refine lv_pop hx hb dX12_turn_83 rfl ?_
          refine lv_goto (tgt := 220) hx hb dX12_turn_84 (by decide) ?_
          exact u_vret X hret M (congrArg (fun z => va_up V 19 (va_up B q z)) (Option.some.inj h)) dX12_turn_220
        · have h := it_t h c46
          refine lv_iconst (v := 1) hx hb dX12_turn_75 (by decide) ?_
          refine lv_goto (tgt := 80) hx hb dX12_turn_76 (by decide) ?_
          obtain ⟨x52, S53, e51, h⟩ := bd2_e h
          refine u_cSi X M hl.1 (kX12_doesLine hq e51) cw_X12_149 ⟨by decide, by decide⟩ rfl rfl (Nat.le_of_ble_eq_true rfl) ⟨Nat.zero_le _, Nat.zero_le _⟩ dX12_turn_80 (fun H locs M n54 => ?_)
          refine lv_pop hx hb dX12_turn_83 rfl ?_
          refine lv_goto (tgt := 220) hx hb dX12_turn_84 (by decide) ?_
          exact u_vret X hret M (congrArg (fun z => va_up V 19 (va_up B q z)) (Option.some.inj h)) dX12_turn_220
    · have h := it_t h c6
      refine lv_aload_n hx hb dX12_turn_38 rfl (lv_at hl 2 rfl) ?_
      refine lv_iload_n hx hb dX12_turn_39 rfl (lv_at hl 1 rfl) ?_
      refine lv_bipush (v := 10) hx hb dX12_turn_40 (by decide) ?_
      refine lv_irem hx hb dX12_turn_42 (by decide) ?_
      obtain ⟨x56, e55, h⟩ := bd_e h
      refine u_cSi X M hl.1 (kX12_canCopy hq (va_up_s2 V 19 B q _) e55) cw_X12_134 ⟨by decide, by decide⟩ rfl rfl (Nat.le_of_ble_eq_true rfl) ⟨Nat.zero_le _, Nat.zero_le _⟩ dX12_turn_43 (fun H locs M n57 => ?_)
      refine lv_if_eq (tgt := 220) hx hb dX12_turn_46 (by decide) (fun c58 => ?_) (fun c58 => ?_)
      · have h := it_t h c58
        exact u_vret X hret M (congrArg (fun z => va_up V 19 (va_up B q z)) (Option.some.inj h)) dX12_turn_220
      · have h := it_f h c58
        refine lv_aload_n hx hb dX12_turn_49 rfl (lv_at hl 2 rfl) ?_
        refine lv_iload_n hx hb dX12_turn_50 rfl (lv_at hl 1 rfl) ?_
        refine lv_bipush (v := 10) hx hb dX12_turn_51 (by decide) ?_
        refine lv_irem hx hb dX12_turn_53 (by decide) ?_
        obtain ⟨x60, S61, e59, h⟩ := bd2_e h
        refine u_cSi X M hl.1 (kX12_copyOn hq e59) cw_X12_137 ⟨by decide, by decide⟩ rfl rfl (Nat.le_of_ble_eq_true rfl) ⟨Nat.zero_le _, Nat.zero_le _⟩ dX12_turn_54 (fun H locs M n62 => ?_)
        refine lv_pop hx hb dX12_turn_57 rfl ?_
        refine lv_goto (tgt := 220) hx hb dX12_turn_58 (by decide) ?_
        exact u_vret X hret M (congrArg (fun z => va_up V 19 (va_up B q z)) (Option.some.inj h)) dX12_turn_220
  · have h := it_t h c5
    refine lv_aload_n hx hb dX12_turn_14 rfl (lv_at hl 2 rfl) ?_
    obtain ⟨x64, e63, h⟩ := bd_e h
    refine u_cSi X M hl.1 (kX12_canIssue hq (va_up_s2 V 19 B q _) e63) cw_X12_123 ⟨by decide, by decide⟩ rfl rfl (Nat.le_of_ble_eq_true rfl) ⟨Nat.zero_le _, Nat.zero_le _⟩ dX12_turn_15 (fun H locs M n65 => ?_)
    refine lv_if_eq (tgt := 220) hx hb dX12_turn_18 (by decide) (fun c66 => ?_) (fun c66 => ?_)
    · have h := it_t h c66
      exact u_vret X hret M (congrArg (fun z => va_up V 19 (va_up B q z)) (Option.some.inj h)) dX12_turn_220
    · have h := it_f h c66
      refine lv_aload_n hx hb dX12_turn_21 rfl (lv_at hl 2 rfl) ?_
      refine lv_iload_n hx hb dX12_turn_22 rfl (lv_at hl 1 rfl) ?_
      refine lv_bipush (v := 40) hx hb dX12_turn_23 (by decide) ?_
      refine lv_irem hx hb dX12_turn_25 (by decide) ?_
      obtain ⟨x68, S69, e67, h⟩ := bd2_e h
      refine u_cSi X M hl.1 (kX12_issueOn hq e67) cw_X12_127 ⟨by decide, by decide⟩ rfl rfl (Nat.le_of_ble_eq_true rfl) ⟨Nat.zero_le _, Nat.zero_le _⟩ dX12_turn_26 (fun H locs M n70 => ?_)
      refine lv_pop hx hb dX12_turn_29 rfl ?_
      refine lv_goto (tgt := 220) hx hb dX12_turn_30 (by decide) ?_
      exact u_vret X hret M (congrArg (fun z => va_up V 19 (va_up B q z)) (Option.some.inj h)) dX12_turn_220
