theorem dX12_copyState_0 : decode cX12_copyState 0 = .ok (.iconst 0, 1) := by decide +kernel
theorem dX12_copyState_1 : decode cX12_copyState 1 = .ok (.istore 4, 2) := by decide +kernel
theorem dX12_copyState_3 : decode cX12_copyState 3 = .ok (.iload 4, 2) := by decide +kernel
theorem dX12_copyState_5 : decode cX12_copyState 5 = .ok (.sipush 1272, 3) := by decide +kernel
theorem dX12_copyState_8 : decode cX12_copyState 8 = .ok (.if_icmp .ge 21, 3) := by decide +kernel
theorem dX12_copyState_11 : decode cX12_copyState 11 = .ok (.aload_n 2, 1) := by decide +kernel
theorem dX12_copyState_12 : decode cX12_copyState 12 = .ok (.iload_n 3, 1) := by decide +kernel
theorem dX12_copyState_13 : decode cX12_copyState 13 = .ok (.iload 4, 2) := by decide +kernel
theorem dX12_copyState_15 : decode cX12_copyState 15 = .ok (.iadd, 1) := by decide +kernel
theorem dX12_copyState_16 : decode cX12_copyState 16 = .ok (.aload_n 0, 1) := by decide +kernel
theorem dX12_copyState_17 : decode cX12_copyState 17 = .ok (.iload_n 1, 1) := by decide +kernel
theorem dX12_copyState_18 : decode cX12_copyState 18 = .ok (.iload 4, 2) := by decide +kernel
theorem dX12_copyState_20 : decode cX12_copyState 20 = .ok (.iadd, 1) := by decide +kernel
theorem dX12_copyState_21 : decode cX12_copyState 21 = .ok (.iaload, 1) := by decide +kernel
theorem dX12_copyState_22 : decode cX12_copyState 22 = .ok (.iastore, 1) := by decide +kernel
theorem dX12_copyState_23 : decode cX12_copyState 23 = .ok (.iinc 4 1, 3) := by decide +kernel
theorem dX12_copyState_26 : decode cX12_copyState 26 = .ok (.goto (-23), 3) := by decide +kernel
theorem dX12_copyState_29 : decode cX12_copyState 29 = .ok (.return_, 1) := by decide +kernel
def fcp (n1 : Nat) (f1 : Nat → Int32) (a : Int32) (n2 : Nat) (f2 : Nat → Int32) (b : Int32) : Option (Nat → Int32) :=
  if 0 ≤ a.toInt ∧ a.toInt + 1272 ≤ n1 ∧ 0 ≤ b.toInt ∧ b.toInt + 1272 ≤ n2 then some (va_cpy f1 f2 a.toNatClampNeg b.toNatClampNeg 1272) else none
theorem cpy_step {f g : Nat → Int32} {sp dp k : Nat} : upd (va_cpy f g sp dp k) (dp + k) (f (sp + k)) = va_cpy f g sp dp (k + 1) := by
  funext j
  by_cases h : j = dp + k
  · subst h
    rw [pk_us, pk_cpy_in (by omega) (by omega)]
    congr 1
    omega
  · rw [pk_un h]
    by_cases h2 : dp ≤ j ∧ j < dp + k
    · rw [pk_cpy_in h2.1 h2.2, pk_cpy_in h2.1 (by omega)]
    · rw [pk_cpy_out (by omega), pk_cpy_out (by omega)]
theorem cpy_0 {f g : Nat → Int32} {sp dp : Nat} : va_cpy f g sp dp 0 = g := by
  funext j
  exact pk_cpy_out (by omega)
theorem lpX12_copyState {l : Launch} {G : UG} {V : uV} (hD : uMd G) {S : Nat → Nat → Int32} {o1 o2 n1 n2 : Nat} (h1 : o1 < 8) (h2 : o2 < 8) (h12 : o1 ≠ o2) (hs1 : ∀ f, uSh G 19 o1 f = uArr G n1 f) (hs2 : ∀ f, uSh G 19 o2 f = uArr G n2 f) (hn1 : n1 < 2 ^ 31) (hn2 : n2 < 2 ^ 31) {A B : Nat} (hA : A + 1272 ≤ n1) (hB : B + 1272 ≤ n2) {p : Program} {e : Env} {s : State} {m : MethodId} {args : Array Value} {below : List Frame} {meth : Method} {c : Code} (X : UC p s m args meth c cX12_copyState 5 RX12 G) (hret : meth.sig.returnType = none) :
    ∀ (d k : Nat), k + d = 1272 → ∀ (H : Heap) (locs : List Loc) (ls : Array Slot), UM G (va_up V 19 (va_up S o2 (va_cpy (S o1) (S o2) A B k))) s H locs → lv_has ls 5 [(0, .ref (ga G 19 o1)), (1, .int (nI A)), (2, .ref (ga G 19 o2)), (3, .int (nI B)), (4, .int (nI k))] →
      W p l e (uR 0 0) s m args below meth c H locs 0 0 (MQ below (uQv G (va_up V 19 (va_up S o2 (va_cpy (S o1) (S o2) A B 1272)))) args s 0 0 (uA G)) (F0 m 3 ls []) := by
  intro d
  have hx := X.hx
  have hb := X.hb
  induction d with
  | zero =>
    intro k hk H locs ls M hl
    obtain rfl : k = 1272 := by omega
    refine lv_iload hx hb dX12_copyState_3 (lv_at hl 4 rfl) ?_
    refine lv_sipush (v := 1272) hx hb dX12_copyState_5 (by decide) ?_
    refine lv_icmp_ge (tgt := 29) hx hb dX12_copyState_8 (by decide) (fun c2 => ?_) (fun c2 => ?_)
    · exact u_vret X hret M rfl dX12_copyState_29
    · exact absurd (by decide) c2
  | succ d ih =>
    intro k hk H locs ls M hl
    refine lv_iload hx hb dX12_copyState_3 (lv_at hl 4 rfl) ?_
    refine lv_sipush (v := 1272) hx hb dX12_copyState_5 (by decide) ?_
    refine lv_icmp_ge (tgt := 29) hx hb dX12_copyState_8 (by decide) (fun c2 => ?_) (fun c2 => ?_)
    · exact absurd (show nI 1272 ≤ nI k from c2) (nI_ge (by omega) (by decide))
    · refine lv_aload_n hx hb dX12_copyState_11 rfl (lv_at hl 2 rfl) ?_
      refine lv_iload_n hx hb dX12_copyState_12 rfl (lv_at hl 3 rfl) ?_
      refine lv_iload hx hb dX12_copyState_13 (lv_at hl 4 rfl) ?_
      refine lv_iadd hx hb dX12_copyState_15 ?_
      refine u_topi (y := nI (B + k)) (nI_add B k).symm ?_
      refine lv_aload_n hx hb dX12_copyState_16 rfl (lv_at hl 0 rfl) ?_
      refine lv_iload_n hx hb dX12_copyState_17 rfl (lv_at hl 1 rfl) ?_
      refine lv_iload hx hb dX12_copyState_18 (lv_at hl 4 rfl) ?_
      refine lv_iadd hx hb dX12_copyState_20 ?_
      refine u_topi (y := nI (A + k)) (nI_add A k).symm ?_
      refine u_ald X M (hD o1 h1) (uAd_sh hs1 (f := S o1) (by rw [va_up_s, va_up_n h12])) (vp_in_nI (by omega) hn1) (x := S o1 (A + k)) (by rw [nI_clamp (by omega)]) dX12_copyState_21 ?_
      refine u_ast_b X M (hD o2 h2) hs2 (vp_in_nI (by omega) hn2) rfl dX12_copyState_22 (fun H locs M => ?_)
      rw [bx_uu, va_up_s, nI_clamp (by omega), cpy_step] at M
      refine lv_iinc (v := nI (k + 1)) (lv' := [(4, .int (nI (k + 1))), (0, .ref (ga G 19 o1)), (1, .int (nI A)), (2, .ref (ga G 19 o2)), (3, .int (nI B))]) hx hb dX12_copyState_23 hl (k := 4) rfl (nI_1 k) (by decide) rfl (fun ls hl => ?_)
      refine lv_goto (tgt := 3) hx hb dX12_copyState_26 (by decide) ?_
      exact ih (k + 1) (by omega) H locs ls M (lv_sub hl [1, 2, 3, 4, 0] rfl)
theorem toNat_of {a : Int32} {n : Nat} (h0 : 0 ≤ a.toInt) (h : a.toInt ≤ n) : ∃ A : Nat, a = nI A ∧ A ≤ n ∧ a.toNatClampNeg = A ∧ A < 2 ^ 31 := by
  have hlt : a.toInt < 2 ^ 31 := a.toInt_lt
  refine ⟨a.toInt.toNat, ?_, by omega, rfl, by omega⟩
  apply Int32.toInt_inj.mp
  rw [nI_toInt (by omega)]
  omega
theorem kX12_copyState {l : Launch} {G : UG} {V : uV} (hD : uMd G) {S : Nat → Nat → Int32} {o1 o2 n1 n2 : Nat} (h1 : o1 < 8) (h2 : o2 < 8) (h12 : o1 ≠ o2) (hs1 : ∀ f, uSh G 19 o1 f = uArr G n1 f) (hs2 : ∀ f, uSh G 19 o2 f = uArr G n2 f) (hn1 : n1 < 2 ^ 31) (hn2 : n2 < 2 ^ 31) {a b : Int32} {f' : Nat → Int32} (h : fcp n1 (S o1) a n2 (S o2) b = some f') : uMv l G yX12_copyState cX12_copyState 5 (uR 0 0) [.ref (ga G 19 o1), .int a, .ref (ga G 19 o2), .int b] (va_up V 19 S) (va_up V 19 (va_up S o2 f')) := by
  refine uMv_of rfl (Nat.le_of_ble_eq_true rfl) (fun p e s m args below meth c ls X hret hl M => ?_)
  have hl : lv_has ls 5 [(0, .ref (ga G 19 o1)), (1, .int a), (2, .ref (ga G 19 o2)), (3, .int b)] := hl
  have hx := X.hx
  have hb := X.hb
  unfold fcp at h
  split at h
  · rename_i hc
    obtain ⟨A, rfl, -, eA, hA⟩ := toNat_of (n := n1) hc.1 (by omega)
    obtain ⟨B, rfl, -, eB, hB⟩ := toNat_of (n := n2) hc.2.2.1 (by omega)
    rw [nI_toInt hA, nI_toInt hB] at hc
    rw [eA, eB] at h
    refine lv_iconst (v := 0) hx hb dX12_copyState_0 rfl ?_
    refine lv_istore (lv' := [(4, .int (nI 0)), (0, .ref (ga G 19 o1)), (1, .int (nI A)), (2, .ref (ga G 19 o2)), (3, .int (nI B))]) hx hb dX12_copyState_1 hl (by decide) rfl (fun ls hl => ?_)
    rw [← Option.some.inj h]
    exact lpX12_copyState hD h1 h2 h12 hs1 hs2 hn1 hn2 (by omega) (by omega) X hret 1272 0 (by omega) _ _ ls (by rw [cpy_0, va_up_id]; exact M) (lv_sub hl [1, 2, 3, 4, 0] rfl)
  · cases h
