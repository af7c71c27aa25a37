
def bd3 {α β γ δ : Type} (x : Option (α × β × γ)) (f : α → β → γ → Option δ) : Option δ := x.bind fun q => f q.1 q.2.1 q.2.2
theorem bd3_e {α β γ δ : Type} {x : Option (α × β × γ)} {f : α → β → γ → Option δ} {r : δ} (h : bd3 x f = some r) : ∃ a b c, x = some (a, b, c) ∧ f a b c = some r := by
  obtain ⟨⟨a, b, c⟩, h1, h2⟩ := Option.bind_eq_some_iff.mp h
  exact ⟨a, b, c, h1, h2⟩
def uHi (l : Launch) (g : UG) (y : MethodName) (bytes : ByteArray) (ml : Nat) (hh : List (Nat × Nat × Nat × Nat)) (fr lo : Nat) (As : List Value) (V : uV) (r : Int32) (V' : uV) : Prop :=
  Met l y (.codeWith y bytes ml (some .int) hh :: gtbl) (nR fr 1 6 lo) (va_Pc As (uPre g V)) (uQi g .int r V') 1 6 (uA g)
theorem uHi_of {l : Launch} {g : UG} {y : MethodName} {bytes : ByteArray} {ml : Nat} {hh : List (Nat × Nat × Nat × Nat)} {fr lo : Nat} {As : List Value} {V : uV} {r : Int32} {V' : uV} (hy : plainName y.cls = true) (hlen : (lg_sl As).length ≤ ml)
    (body : ∀ (p : Program) (e : Env) (s : State) (m : MethodId) (args : Array Value) (below : List Frame) (meth : Method) (c : Code) (ls : Array Slot), UC p s m args meth c bytes ml y.cls g → meth.sig.returnType = some .int → c.exceptionTable.toList = tableOf hh → lv_has ls ml (lv_args 0 As) → UM g V s s.heap [] →
      W p l e (nR fr 1 6 lo) s m args below meth c s.heap [] 0 0 (vx_MQ below (uQi g .int r V') (fun _ _ _ => False) args s 1 6 (uA g)) (F0 m 0 ls [])) : uHi l g y bytes ml hh fr lo As V r V' := by
  have hX : vx_Met l y (.codeWith y bytes ml (some .int) hh :: gtbl) (nR fr 1 6 lo) (va_Pc As (uPre g V)) (uQi g .int r V') (fun _ _ _ => False) 1 6 (uA g) := by
    refine vx_ofWH (cc := bytes) (maxL := ml) (ret := some .int) (hh := hh) hy rfl ?_
    intro p e s m args below meth c s₁ B hml hv
    obtain ⟨rfl, hU, hK, hXx⟩ := hv
    have hts := atoms_spec (ws := .codeWith y bytes ml (some .int) hh :: gtbl) B.pre
    have hl := lv_entry As (n := ml) hlen
    rw [lg_entry_eq]
    exact body p e s m As.toArray below meth c _ ⟨⟨B.exec, B.bytes, hml, findClass_of_methodNamed B.named, fun w h => hts w (List.mem_cons_of_mem _ h)⟩, hK, hXx, B.notSynchronized⟩ B.returns (vx_table (x := y) B (hts _ List.mem_cons_self)) hl ⟨hU, va_S.rf⟩
  intro p e ha hf hc s m args below hfr hap hP hK
  obtain ⟨n, o, h1, h2, h3, h4 | ⟨q, _, E, ce, L, h5, _⟩⟩ := hX p e ha hf hc s m args below hfr hap hP hK
  · exact ⟨n, o, h1, h2, h3, h4⟩
  · exact h5.elim
section LROWS
variable {p : Program} {l : Launch} {e : Env} {R : Room} {s : State} {m : MethodId} {args : Array Value} {below : List Frame} {meth : Method} {c : Code} {H : Heap} {locs : List Loc} {cells slots : Nat} {Q : State → Prop}
variable {cc : ByteArray} {pc nL : Nat} {ls : Array Slot} {rest : List Value} {own : String} {g : UG} {V V' : uV}
theorem u_last (X : UC p s m args meth c cc nL own g) (M : UM g V s H locs) (hk : (20, 0) ∈ gk g) {r : Int32} (hdg : decode cc pc = .ok (.lastore, 1))
    (kk : ∀ (H1 : Heap) (locs1 : List Loc), UM g (uS V 20 0 (upd (V 20 0) 0 r)) s H1 locs1 → W p l e R s m args below meth c H1 locs1 cells slots Q (F0 m (pc + 1) ls rest)) : W p l e R s m args below meth c H locs cells slots Q (F0 m pc ls (.long r.toInt64 :: .int 0 :: .ref (ga g 20 0) :: rest)) := by
  obtain ⟨j, hj, hw⟩ := uW_at (V := V) hk
  refine va_last X.hx X.hb X.2.1 M.1.1 M.1.2 M.2 j 2 hw rfl (show vp_in (nI 0) 1 from vp_in_nI (by decide) (by decide)) hdg (fun H1 locs1 h1 h2 h3 => ?_)
  have hs : uSh g 20 0 (upd (V 20 0) 0 r) = .inl (gJ g, 1, .inr (.inl (vp_updL (fun j => if j = 0 then (V 20 0 0).toInt64 else 0) (0 : Int32).toNatClampNeg r.toInt64))) := by
    show Sum.inl (gJ g, 1, Sum.inr (Sum.inl (fun j => if j = 0 then (upd (V 20 0) 0 r 0).toInt64 else 0))) = _
    have e1 : (fun j : Nat => if j = 0 then (upd (V 20 0) 0 r 0).toInt64 else 0) = vp_updL (fun j => if j = 0 then (V 20 0 0).toInt64 else 0) (0 : Int32).toNatClampNeg r.toInt64 := by
      funext j
      by_cases h : j = 0
      · subst h; rfl
      · rw [if_neg h]
        show _ = if j = 0 then _ else _
        rw [if_neg h]
        exact (if_neg h).symm
    rw [e1]
  exact kk H1 locs1 ⟨UH_set M.1.2 hj hs h1 h2, h3⟩
theorem x_cVx {y : MethodName} {bytes : ByteArray} {ml index fr lo n b : Nat} {ty : FieldType} {As st0 : List Value} {E r : Int32} {C : String} (X : UC p s m args meth c cc nL own g) (M : UM g V s H locs) (hl : ls.size = nL) (hM : uXi l g y bytes ml ty (uRx fr lo) (.ref b :: As) V E r V') (hC : uCW own C index y bytes ml (some ty) n) (hR : fr + 1 ≤ R.frames ∧ 8 + (ml + 11) + lo ≤ R.locals) (hrecv : ∃ cell : Cell, H[b]? = some cell ∧ cell.vm.isStatics = false ∧ s.vm.findClass C = some cell.cls) (hn : As.length = n) (hst : st0 = As.reverse ++ .ref b :: rest) (hw : (rest.map fun v => v.category).sum ≤ 8) (hf : cells + 1 ≤ R.cells ∧ slots + 6 ≤ R.slots) (hdg : decode cc pc = .ok (.invokevirtual index, 3))
    (kx : ∀ (K : String) (ce : Cell) (q9 : Addr) (H1 : Heap) (locs1 : List Loc), exOf E K → UM g V' s H1 locs1 → H1[q9]? = some ce → ce.vm = .none → s.vm.findClass K = some ce.cls → vx_W p l e R s m args below meth c H1 locs1 (cells + 1) (slots + 6) Q (F0 m pc ls rest) q9)
    (kk : ∀ (H1 : Heap) (locs1 : List Loc), E = 0 → UM g V' s H1 locs1 → W p l e R s m args below meth c H1 locs1 (cells + 1) (slots + 6) Q (F0 m (pc + 3) ls (.int r :: rest))) : W p l e R s m args below meth c H locs cells slots Q (F0 m pc ls st0) := by
  obtain ⟨h1, h2, h3, h4, h5, h6, h7⟩ := hC
  have hcb : CallB R s args own index y bytes ml (some ty) (.code y bytes ml (some ty) :: gtbl) (uRx fr lo) 1 6 n := callB_of (ws' := gtbl) n (Ts := gtbl) (fun w h => X.hts h) (gt_cons h5 gt_good (fun _ h => h)) rfl rfl rfl (by rw [h6]; exact X.hts h4) (X.hts h1) h7 hR
  refine vx_calli (vx_runV (As := As) (rest := rest) X.1 hM ⟨hcb, X.hts h2, X.hts h3⟩ ⟨u_blind, hrecv, fun U hU hW => ⟨rfl, u_pre X M hU hW⟩⟩ rfl hn hl hst (lv_room hw) hdg hf) M.2 (fun q _ h => h) (fun q h => h) (fun q _ h => h) ?_ ?_
  · intro K ce q9 u t H1 locs1 ht hvm hpx hBX hz hk hS hcell hv hcl
    exact kx K ce q9 H1 locs1 hBX.1 ⟨by rw [← ht]; exact hBX.2, hS⟩ hcell hv hcl
  · intro r1 u t H1 locs1 ht hvm hw hB hz hk hS
    obtain ⟨hE, rfl, -⟩ := hw
    exact kk H1 locs1 hE ⟨by rw [← ht]; exact hB, hS⟩
theorem h_iret {r v : Int32} (X : UC p s m args meth c cc nL own g) (hret : meth.sig.returnType = some .int) (M : UM g V s H locs) (hr : v = r) (hV : V = V') (hdg : decode cc pc = .ok (.ireturn, 1)) :
    W p l e R s m args below meth c H locs 1 6 (vx_MQ below (uQi g .int r V') (fun _ _ _ => False) args s 1 6 (uA g)) (F0 m pc ls [.int v]) := vx_ret (u_iret X hret M hr hV rfl hdg)
end LROWS
theorem dL_append_0 : decode cL_append 0 = .ok (.aload_n 2, 1) := by decide +kernel
theorem dL_append_1 : decode cL_append 1 = .ok (.iconst 0, 1) := by decide +kernel
theorem dL_append_2 : decode cL_append 2 = .ok (.aload_n 0, 1) := by decide +kernel
theorem dL_append_3 : decode cL_append 3 = .ok (.iload_n 1, 1) := by decide +kernel
theorem dL_append_4 : decode cL_append 4 = .ok (.invokevirtual 7, 3) := by decide +kernel
theorem dL_append_7 : decode cL_append 7 = .ok (.i2l, 1) := by decide +kernel
theorem dL_append_8 : decode cL_append 8 = .ok (.lastore, 1) := by decide +kernel
theorem dL_append_9 : decode cL_append 9 = .ok (.goto 9, 3) := by decide +kernel
theorem dL_append_12 : decode cL_append 12 = .ok (.astore_n 3, 1) := by decide +kernel
theorem dL_append_13 : decode cL_append 13 = .ok (.iconst 1, 1) := by decide +kernel
theorem dL_append_14 : decode cL_append 14 = .ok (.ireturn, 1) := by decide +kernel
theorem dL_append_15 : decode cL_append 15 = .ok (.astore_n 3, 1) := by decide +kernel
theorem dL_append_16 : decode cL_append 16 = .ok (.iconst 2, 1) := by decide +kernel
theorem dL_append_17 : decode cL_append 17 = .ok (.ireturn, 1) := by decide +kernel
theorem dL_append_18 : decode cL_append 18 = .ok (.iconst 0, 1) := by decide +kernel
theorem dL_append_19 : decode cL_append 19 = .ok (.ireturn, 1) := by decide +kernel
theorem dL_load_0 : decode cL_load 0 = .ok (.aload_n 1, 1) := by decide +kernel
theorem dL_load_1 : decode cL_load 1 = .ok (.iconst 0, 1) := by decide +kernel
theorem dL_load_2 : decode cL_load 2 = .ok (.aload_n 0, 1) := by decide +kernel
theorem dL_load_3 : decode cL_load 3 = .ok (.invokevirtual 17, 3) := by decide +kernel
theorem dL_load_6 : decode cL_load 6 = .ok (.i2l, 1) := by decide +kernel
theorem dL_load_7 : decode cL_load 7 = .ok (.lastore, 1) := by decide +kernel
theorem dL_load_8 : decode cL_load 8 = .ok (.goto 6, 3) := by decide +kernel
theorem dL_load_11 : decode cL_load 11 = .ok (.astore_n 2, 1) := by decide +kernel
theorem dL_load_12 : decode cL_load 12 = .ok (.iconst 1, 1) := by decide +kernel
theorem dL_load_13 : decode cL_load 13 = .ok (.ireturn, 1) := by decide +kernel
theorem dL_load_14 : decode cL_load 14 = .ok (.iconst 0, 1) := by decide +kernel
theorem dL_load_15 : decode cL_load 15 = .ok (.ireturn, 1) := by decide +kernel
theorem dL_about_0 : decode cL_about 0 = .ok (.aload_n 2, 1) := by decide +kernel
theorem dL_about_1 : decode cL_about 1 = .ok (.iconst 0, 1) := by decide +kernel
theorem dL_about_2 : decode cL_about 2 = .ok (.aload_n 0, 1) := by decide +kernel
theorem dL_about_3 : decode cL_about 3 = .ok (.iload_n 1, 1) := by decide +kernel
theorem dL_about_4 : decode cL_about 4 = .ok (.invokevirtual 21, 3) := by decide +kernel
theorem dL_about_7 : decode cL_about 7 = .ok (.i2l, 1) := by decide +kernel
theorem dL_about_8 : decode cL_about 8 = .ok (.lastore, 1) := by decide +kernel
theorem dL_about_9 : decode cL_about 9 = .ok (.goto 6, 3) := by decide +kernel
theorem dL_about_12 : decode cL_about 12 = .ok (.astore_n 3, 1) := by decide +kernel
theorem dL_about_13 : decode cL_about 13 = .ok (.iconst 1, 1) := by decide +kernel
theorem dL_about_14 : decode cL_about 14 = .ok (.ireturn, 1) := by decide +kernel
theorem dL_about_15 : decode cL_about 15 = .ok (.iconst 0, 1) := by decide +kernel
theorem dL_about_16 : decode cL_about 16 = .ok (.ireturn, 1) := by decide +kernel
theorem dL_card_0 : decode cL_card 0 = .ok (.aload_n 3, 1) := by decide +kernel
theorem dL_card_1 : decode cL_card 1 = .ok (.iconst 0, 1) := by decide +kernel
theorem dL_card_2 : decode cL_card 2 = .ok (.aload_n 0, 1) := by decide +kernel
theorem dL_card_3 : decode cL_card 3 = .ok (.iload_n 1, 1) := by decide +kernel
theorem dL_card_4 : decode cL_card 4 = .ok (.iload_n 2, 1) := by decide +kernel
theorem dL_card_5 : decode cL_card 5 = .ok (.invokevirtual 24, 3) := by decide +kernel
theorem dL_card_8 : decode cL_card 8 = .ok (.i2l, 1) := by decide +kernel
theorem dL_card_9 : decode cL_card 9 = .ok (.lastore, 1) := by decide +kernel
theorem dL_card_10 : decode cL_card 10 = .ok (.goto 11, 3) := by decide +kernel
theorem dL_card_13 : decode cL_card 13 = .ok (.astore 4, 2) := by decide +kernel
theorem dL_card_15 : decode cL_card 15 = .ok (.iconst 1, 1) := by decide +kernel
theorem dL_card_16 : decode cL_card 16 = .ok (.ireturn, 1) := by decide +kernel
theorem dL_card_17 : decode cL_card 17 = .ok (.astore 4, 2) := by decide +kernel
theorem dL_card_19 : decode cL_card 19 = .ok (.iconst 2, 1) := by decide +kernel
theorem dL_card_20 : decode cL_card 20 = .ok (.ireturn, 1) := by decide +kernel
theorem dL_card_21 : decode cL_card 21 = .ok (.iconst 0, 1) := by decide +kernel
theorem dL_card_22 : decode cL_card 22 = .ok (.ireturn, 1) := by decide +kernel
theorem dL_account_0 : decode cL_account 0 = .ok (.aload_n 3, 1) := by decide +kernel
theorem dL_account_1 : decode cL_account 1 = .ok (.iconst 0, 1) := by decide +kernel
theorem dL_account_2 : decode cL_account 2 = .ok (.aload_n 0, 1) := by decide +kernel
theorem dL_account_3 : decode cL_account 3 = .ok (.iload_n 1, 1) := by decide +kernel
theorem dL_account_4 : decode cL_account 4 = .ok (.iload_n 2, 1) := by decide +kernel
theorem dL_account_5 : decode cL_account 5 = .ok (.invokevirtual 30, 3) := by decide +kernel
theorem dL_account_8 : decode cL_account 8 = .ok (.i2l, 1) := by decide +kernel
theorem dL_account_9 : decode cL_account 9 = .ok (.lastore, 1) := by decide +kernel
theorem dL_account_10 : decode cL_account 10 = .ok (.goto 11, 3) := by decide +kernel
theorem dL_account_13 : decode cL_account 13 = .ok (.astore 4, 2) := by decide +kernel
theorem dL_account_15 : decode cL_account 15 = .ok (.iconst 1, 1) := by decide +kernel
theorem dL_account_16 : decode cL_account 16 = .ok (.ireturn, 1) := by decide +kernel
theorem dL_account_17 : decode cL_account 17 = .ok (.astore 4, 2) := by decide +kernel
theorem dL_account_19 : decode cL_account 19 = .ok (.iconst 2, 1) := by decide +kernel
theorem dL_account_20 : decode cL_account 20 = .ok (.ireturn, 1) := by decide +kernel
theorem dL_account_21 : decode cL_account 21 = .ok (.iconst 0, 1) := by decide +kernel
theorem dL_account_22 : decode cL_account 22 = .ok (.ireturn, 1) := by decide +kernel
theorem dL_gate_0 : decode cL_gate 0 = .ok (.aload_n 3, 1) := by decide +kernel
theorem dL_gate_1 : decode cL_gate 1 = .ok (.iconst 0, 1) := by decide +kernel
theorem dL_gate_2 : decode cL_gate 2 = .ok (.aload_n 0, 1) := by decide +kernel
theorem dL_gate_3 : decode cL_gate 3 = .ok (.iload_n 1, 1) := by decide +kernel
theorem dL_gate_4 : decode cL_gate 4 = .ok (.iload_n 2, 1) := by decide +kernel
theorem dL_gate_5 : decode cL_gate 5 = .ok (.invokevirtual 33, 3) := by decide +kernel
theorem dL_gate_8 : decode cL_gate 8 = .ok (.i2l, 1) := by decide +kernel
theorem dL_gate_9 : decode cL_gate 9 = .ok (.lastore, 1) := by decide +kernel
theorem dL_gate_10 : decode cL_gate 10 = .ok (.goto 11, 3) := by decide +kernel
theorem dL_gate_13 : decode cL_gate 13 = .ok (.astore 4, 2) := by decide +kernel
theorem dL_gate_15 : decode cL_gate 15 = .ok (.iconst 1, 1) := by decide +kernel
theorem dL_gate_16 : decode cL_gate 16 = .ok (.ireturn, 1) := by decide +kernel
theorem dL_gate_17 : decode cL_gate 17 = .ok (.astore 4, 2) := by decide +kernel
theorem dL_gate_19 : decode cL_gate 19 = .ok (.iconst 2, 1) := by decide +kernel
theorem dL_gate_20 : decode cL_gate 20 = .ok (.ireturn, 1) := by decide +kernel
theorem dL_gate_21 : decode cL_gate 21 = .ok (.iconst 0, 1) := by decide +kernel
theorem dL_gate_22 : decode cL_gate 22 = .ok (.ireturn, 1) := by decide +kernel
theorem dL_logged_0 : decode cL_logged 0 = .ok (.aload 4, 2) := by decide +kernel
theorem dL_logged_2 : decode cL_logged 2 = .ok (.iconst 0, 1) := by decide +kernel
theorem dL_logged_3 : decode cL_logged 3 = .ok (.aload_n 0, 1) := by decide +kernel
theorem dL_logged_4 : decode cL_logged 4 = .ok (.iload_n 1, 1) := by decide +kernel
theorem dL_logged_5 : decode cL_logged 5 = .ok (.iload_n 2, 1) := by decide +kernel
theorem dL_logged_6 : decode cL_logged 6 = .ok (.iload_n 3, 1) := by decide +kernel
theorem dL_logged_7 : decode cL_logged 7 = .ok (.invokevirtual 36, 3) := by decide +kernel
theorem dL_logged_10 : decode cL_logged 10 = .ok (.i2l, 1) := by decide +kernel
theorem dL_logged_11 : decode cL_logged 11 = .ok (.lastore, 1) := by decide +kernel
theorem dL_logged_12 : decode cL_logged 12 = .ok (.goto 11, 3) := by decide +kernel
theorem dL_logged_15 : decode cL_logged 15 = .ok (.astore 5, 2) := by decide +kernel
theorem dL_logged_17 : decode cL_logged 17 = .ok (.iconst 1, 1) := by decide +kernel
theorem dL_logged_18 : decode cL_logged 18 = .ok (.ireturn, 1) := by decide +kernel
theorem dL_logged_19 : decode cL_logged 19 = .ok (.astore 5, 2) := by decide +kernel
theorem dL_logged_21 : decode cL_logged 21 = .ok (.iconst 2, 1) := by decide +kernel
theorem dL_logged_22 : decode cL_logged 22 = .ok (.ireturn, 1) := by decide +kernel
theorem dL_logged_23 : decode cL_logged 23 = .ok (.iconst 0, 1) := by decide +kernel
theorem dL_logged_24 : decode cL_logged 24 = .ok (.ireturn, 1) := by decide +kernel
theorem dL_setting_0 : decode cL_setting 0 = .ok (.aload_n 2, 1) := by decide +kernel
theorem dL_setting_1 : decode cL_setting 1 = .ok (.iconst 0, 1) := by decide +kernel
theorem dL_setting_2 : decode cL_setting 2 = .ok (.aload_n 0, 1) := by decide +kernel
theorem dL_setting_3 : decode cL_setting 3 = .ok (.iload_n 1, 1) := by decide +kernel
theorem dL_setting_4 : decode cL_setting 4 = .ok (.invokevirtual 40, 3) := by decide +kernel
theorem dL_setting_7 : decode cL_setting 7 = .ok (.i2l, 1) := by decide +kernel
theorem dL_setting_8 : decode cL_setting 8 = .ok (.lastore, 1) := by decide +kernel
theorem dL_setting_9 : decode cL_setting 9 = .ok (.goto 6, 3) := by decide +kernel
theorem dL_setting_12 : decode cL_setting 12 = .ok (.astore_n 3, 1) := by decide +kernel
theorem dL_setting_13 : decode cL_setting 13 = .ok (.iconst 1, 1) := by decide +kernel
theorem dL_setting_14 : decode cL_setting 14 = .ok (.ireturn, 1) := by decide +kernel
theorem dL_setting_15 : decode cL_setting 15 = .ok (.iconst 0, 1) := by decide +kernel
theorem dL_setting_16 : decode cL_setting 16 = .ok (.ireturn, 1) := by decide +kernel
theorem dL_issue_0 : decode cL_issue 0 = .ok (.aload_n 2, 1) := by decide +kernel
theorem dL_issue_1 : decode cL_issue 1 = .ok (.iconst 0, 1) := by decide +kernel
theorem dL_issue_2 : decode cL_issue 2 = .ok (.aload_n 0, 1) := by decide +kernel
theorem dL_issue_3 : decode cL_issue 3 = .ok (.iload_n 1, 1) := by decide +kernel
theorem dL_issue_4 : decode cL_issue 4 = .ok (.invokevirtual 43, 3) := by decide +kernel
theorem dL_issue_7 : decode cL_issue 7 = .ok (.i2l, 1) := by decide +kernel
theorem dL_issue_8 : decode cL_issue 8 = .ok (.lastore, 1) := by decide +kernel
theorem dL_issue_9 : decode cL_issue 9 = .ok (.goto 9, 3) := by decide +kernel
theorem dL_issue_12 : decode cL_issue 12 = .ok (.astore_n 3, 1) := by decide +kernel
theorem dL_issue_13 : decode cL_issue 13 = .ok (.iconst 1, 1) := by decide +kernel
theorem dL_issue_14 : decode cL_issue 14 = .ok (.ireturn, 1) := by decide +kernel
theorem dL_issue_15 : decode cL_issue 15 = .ok (.astore_n 3, 1) := by decide +kernel
theorem dL_issue_16 : decode cL_issue 16 = .ok (.iconst 2, 1) := by decide +kernel
theorem dL_issue_17 : decode cL_issue 17 = .ok (.ireturn, 1) := by decide +kernel
theorem dL_issue_18 : decode cL_issue 18 = .ok (.iconst 0, 1) := by decide +kernel
theorem dL_issue_19 : decode cL_issue 19 = .ok (.ireturn, 1) := by decide +kernel
theorem dL_copy_0 : decode cL_copy 0 = .ok (.aload_n 2, 1) := by decide +kernel
theorem dL_copy_1 : decode cL_copy 1 = .ok (.iconst 0, 1) := by decide +kernel
theorem dL_copy_2 : decode cL_copy 2 = .ok (.aload_n 0, 1) := by decide +kernel
theorem dL_copy_3 : decode cL_copy 3 = .ok (.iload_n 1, 1) := by decide +kernel
theorem dL_copy_4 : decode cL_copy 4 = .ok (.invokevirtual 46, 3) := by decide +kernel
theorem dL_copy_7 : decode cL_copy 7 = .ok (.i2l, 1) := by decide +kernel
theorem dL_copy_8 : decode cL_copy 8 = .ok (.lastore, 1) := by decide +kernel
theorem dL_copy_9 : decode cL_copy 9 = .ok (.goto 9, 3) := by decide +kernel
theorem dL_copy_12 : decode cL_copy 12 = .ok (.astore_n 3, 1) := by decide +kernel
theorem dL_copy_13 : decode cL_copy 13 = .ok (.iconst 1, 1) := by decide +kernel
theorem dL_copy_14 : decode cL_copy 14 = .ok (.ireturn, 1) := by decide +kernel
theorem dL_copy_15 : decode cL_copy 15 = .ok (.astore_n 3, 1) := by decide +kernel
theorem dL_copy_16 : decode cL_copy 16 = .ok (.iconst 2, 1) := by decide +kernel
theorem dL_copy_17 : decode cL_copy 17 = .ok (.ireturn, 1) := by decide +kernel
theorem dL_copy_18 : decode cL_copy 18 = .ok (.iconst 0, 1) := by decide +kernel
theorem dL_copy_19 : decode cL_copy 19 = .ok (.ireturn, 1) := by decide +kernel
theorem dL_ride_0 : decode cL_ride 0 = .ok (.aload_n 3, 1) := by decide +kernel
theorem dL_ride_1 : decode cL_ride 1 = .ok (.iconst 0, 1) := by decide +kernel
theorem dL_ride_2 : decode cL_ride 2 = .ok (.aload_n 0, 1) := by decide +kernel
theorem dL_ride_3 : decode cL_ride 3 = .ok (.iload_n 1, 1) := by decide +kernel
theorem dL_ride_4 : decode cL_ride 4 = .ok (.iload_n 2, 1) := by decide +kernel
theorem dL_ride_5 : decode cL_ride 5 = .ok (.invokevirtual 49, 3) := by decide +kernel
theorem dL_ride_8 : decode cL_ride 8 = .ok (.i2l, 1) := by decide +kernel
theorem dL_ride_9 : decode cL_ride 9 = .ok (.lastore, 1) := by decide +kernel
theorem dL_ride_10 : decode cL_ride 10 = .ok (.goto 7, 3) := by decide +kernel
theorem dL_ride_13 : decode cL_ride 13 = .ok (.astore 4, 2) := by decide +kernel
theorem dL_ride_15 : decode cL_ride 15 = .ok (.iconst 1, 1) := by decide +kernel
theorem dL_ride_16 : decode cL_ride 16 = .ok (.ireturn, 1) := by decide +kernel
theorem dL_ride_17 : decode cL_ride 17 = .ok (.iconst 0, 1) := by decide +kernel
theorem dL_ride_18 : decode cL_ride 18 = .ok (.ireturn, 1) := by decide +kernel
theorem dL_pay_0 : decode cL_pay 0 = .ok (.aload_n 3, 1) := by decide +kernel
theorem dL_pay_1 : decode cL_pay 1 = .ok (.iconst 0, 1) := by decide +kernel
theorem dL_pay_2 : decode cL_pay 2 = .ok (.aload_n 0, 1) := by decide +kernel
theorem dL_pay_3 : decode cL_pay 3 = .ok (.iload_n 1, 1) := by decide +kernel
theorem dL_pay_4 : decode cL_pay 4 = .ok (.iload_n 2, 1) := by decide +kernel
theorem dL_pay_5 : decode cL_pay 5 = .ok (.invokevirtual 52, 3) := by decide +kernel
theorem dL_pay_8 : decode cL_pay 8 = .ok (.i2l, 1) := by decide +kernel
theorem dL_pay_9 : decode cL_pay 9 = .ok (.lastore, 1) := by decide +kernel
theorem dL_pay_10 : decode cL_pay 10 = .ok (.goto 11, 3) := by decide +kernel
theorem dL_pay_13 : decode cL_pay 13 = .ok (.astore 4, 2) := by decide +kernel
theorem dL_pay_15 : decode cL_pay 15 = .ok (.iconst 1, 1) := by decide +kernel
theorem dL_pay_16 : decode cL_pay 16 = .ok (.ireturn, 1) := by decide +kernel
theorem dL_pay_17 : decode cL_pay 17 = .ok (.astore 4, 2) := by decide +kernel
theorem dL_pay_19 : decode cL_pay 19 = .ok (.iconst 2, 1) := by decide +kernel
theorem dL_pay_20 : decode cL_pay 20 = .ok (.ireturn, 1) := by decide +kernel
theorem dL_pay_21 : decode cL_pay 21 = .ok (.iconst 0, 1) := by decide +kernel
theorem dL_pay_22 : decode cL_pay 22 = .ok (.ireturn, 1) := by decide +kernel
theorem dL_pardon_0 : decode cL_pardon 0 = .ok (.aload_n 2, 1) := by decide +kernel
theorem dL_pardon_1 : decode cL_pardon 1 = .ok (.iconst 0, 1) := by decide +kernel
theorem dL_pardon_2 : decode cL_pardon 2 = .ok (.aload_n 0, 1) := by decide +kernel
theorem dL_pardon_3 : decode cL_pardon 3 = .ok (.iload_n 1, 1) := by decide +kernel
theorem dL_pardon_4 : decode cL_pardon 4 = .ok (.invokevirtual 55, 3) := by decide +kernel
theorem dL_pardon_7 : decode cL_pardon 7 = .ok (.i2l, 1) := by decide +kernel
theorem dL_pardon_8 : decode cL_pardon 8 = .ok (.lastore, 1) := by decide +kernel
theorem dL_pardon_9 : decode cL_pardon 9 = .ok (.goto 9, 3) := by decide +kernel
theorem dL_pardon_12 : decode cL_pardon 12 = .ok (.astore_n 3, 1) := by decide +kernel
theorem dL_pardon_13 : decode cL_pardon 13 = .ok (.iconst 1, 1) := by decide +kernel
theorem dL_pardon_14 : decode cL_pardon 14 = .ok (.ireturn, 1) := by decide +kernel
theorem dL_pardon_15 : decode cL_pardon 15 = .ok (.astore_n 3, 1) := by decide +kernel
theorem dL_pardon_16 : decode cL_pardon 16 = .ok (.iconst 2, 1) := by decide +kernel
theorem dL_pardon_17 : decode cL_pardon 17 = .ok (.ireturn, 1) := by decide +kernel
theorem dL_pardon_18 : decode cL_pardon 18 = .ok (.iconst 0, 1) := by decide +kernel
theorem dL_pardon_19 : decode cL_pardon 19 = .ok (.ireturn, 1) := by decide +kernel
theorem dL_down_0 : decode cL_down 0 = .ok (.aload_n 2, 1) := by decide +kernel
theorem dL_down_1 : decode cL_down 1 = .ok (.iconst 0, 1) := by decide +kernel
theorem dL_down_2 : decode cL_down 2 = .ok (.aload_n 0, 1) := by decide +kernel
theorem dL_down_3 : decode cL_down 3 = .ok (.iload_n 1, 1) := by decide +kernel
theorem dL_down_4 : decode cL_down 4 = .ok (.invokevirtual 58, 3) := by decide +kernel
theorem dL_down_7 : decode cL_down 7 = .ok (.i2l, 1) := by decide +kernel
theorem dL_down_8 : decode cL_down 8 = .ok (.lastore, 1) := by decide +kernel
theorem dL_down_9 : decode cL_down 9 = .ok (.goto 9, 3) := by decide +kernel
theorem dL_down_12 : decode cL_down 12 = .ok (.astore_n 3, 1) := by decide +kernel
theorem dL_down_13 : decode cL_down 13 = .ok (.iconst 1, 1) := by decide +kernel
theorem dL_down_14 : decode cL_down 14 = .ok (.ireturn, 1) := by decide +kernel
theorem dL_down_15 : decode cL_down 15 = .ok (.astore_n 3, 1) := by decide +kernel
theorem dL_down_16 : decode cL_down 16 = .ok (.iconst 2, 1) := by decide +kernel
theorem dL_down_17 : decode cL_down 17 = .ok (.ireturn, 1) := by decide +kernel
theorem dL_down_18 : decode cL_down 18 = .ok (.iconst 0, 1) := by decide +kernel
theorem dL_down_19 : decode cL_down 19 = .ok (.ireturn, 1) := by decide +kernel
theorem dL_up_0 : decode cL_up 0 = .ok (.aload_n 2, 1) := by decide +kernel
theorem dL_up_1 : decode cL_up 1 = .ok (.iconst 0, 1) := by decide +kernel
theorem dL_up_2 : decode cL_up 2 = .ok (.aload_n 0, 1) := by decide +kernel
theorem dL_up_3 : decode cL_up 3 = .ok (.iload_n 1, 1) := by decide +kernel
theorem dL_up_4 : decode cL_up 4 = .ok (.invokevirtual 61, 3) := by decide +kernel
theorem dL_up_7 : decode cL_up 7 = .ok (.i2l, 1) := by decide +kernel
theorem dL_up_8 : decode cL_up 8 = .ok (.lastore, 1) := by decide +kernel
theorem dL_up_9 : decode cL_up 9 = .ok (.goto 9, 3) := by decide +kernel
theorem dL_up_12 : decode cL_up 12 = .ok (.astore_n 3, 1) := by decide +kernel
theorem dL_up_13 : decode cL_up 13 = .ok (.iconst 1, 1) := by decide +kernel
theorem dL_up_14 : decode cL_up 14 = .ok (.ireturn, 1) := by decide +kernel
theorem dL_up_15 : decode cL_up 15 = .ok (.astore_n 3, 1) := by decide +kernel
theorem dL_up_16 : decode cL_up 16 = .ok (.iconst 2, 1) := by decide +kernel
theorem dL_up_17 : decode cL_up 17 = .ok (.ireturn, 1) := by decide +kernel
theorem dL_up_18 : decode cL_up 18 = .ok (.iconst 0, 1) := by decide +kernel
theorem dL_up_19 : decode cL_up 19 = .ok (.ireturn, 1) := by decide +kernel
theorem dL_open_0 : decode cL_open 0 = .ok (.aload_n 2, 1) := by decide +kernel
theorem dL_open_1 : decode cL_open 1 = .ok (.iconst 0, 1) := by decide +kernel
theorem dL_open_2 : decode cL_open 2 = .ok (.aload_n 0, 1) := by decide +kernel
theorem dL_open_3 : decode cL_open 3 = .ok (.iload_n 1, 1) := by decide +kernel
theorem dL_open_4 : decode cL_open 4 = .ok (.invokevirtual 64, 3) := by decide +kernel
theorem dL_open_7 : decode cL_open 7 = .ok (.i2l, 1) := by decide +kernel
theorem dL_open_8 : decode cL_open 8 = .ok (.lastore, 1) := by decide +kernel
theorem dL_open_9 : decode cL_open 9 = .ok (.goto 6, 3) := by decide +kernel
theorem dL_open_12 : decode cL_open 12 = .ok (.astore_n 3, 1) := by decide +kernel
theorem dL_open_13 : decode cL_open 13 = .ok (.iconst 1, 1) := by decide +kernel
theorem dL_open_14 : decode cL_open 14 = .ok (.ireturn, 1) := by decide +kernel
theorem dL_open_15 : decode cL_open 15 = .ok (.iconst 0, 1) := by decide +kernel
theorem dL_open_16 : decode cL_open 16 = .ok (.ireturn, 1) := by decide +kernel
theorem dL_fare_0 : decode cL_fare 0 = .ok (.aload_n 3, 1) := by decide +kernel
theorem dL_fare_1 : decode cL_fare 1 = .ok (.iconst 0, 1) := by decide +kernel
theorem dL_fare_2 : decode cL_fare 2 = .ok (.aload_n 0, 1) := by decide +kernel
theorem dL_fare_3 : decode cL_fare 3 = .ok (.iload_n 1, 1) := by decide +kernel
theorem dL_fare_4 : decode cL_fare 4 = .ok (.iload_n 2, 1) := by decide +kernel
theorem dL_fare_5 : decode cL_fare 5 = .ok (.invokevirtual 67, 3) := by decide +kernel
theorem dL_fare_8 : decode cL_fare 8 = .ok (.i2l, 1) := by decide +kernel
theorem dL_fare_9 : decode cL_fare 9 = .ok (.lastore, 1) := by decide +kernel
theorem dL_fare_10 : decode cL_fare 10 = .ok (.goto 11, 3) := by decide +kernel
theorem dL_fare_13 : decode cL_fare 13 = .ok (.astore 4, 2) := by decide +kernel
theorem dL_fare_15 : decode cL_fare 15 = .ok (.iconst 1, 1) := by decide +kernel
theorem dL_fare_16 : decode cL_fare 16 = .ok (.ireturn, 1) := by decide +kernel
theorem dL_fare_17 : decode cL_fare 17 = .ok (.astore 4, 2) := by decide +kernel
theorem dL_fare_19 : decode cL_fare 19 = .ok (.iconst 2, 1) := by decide +kernel
theorem dL_fare_20 : decode cL_fare 20 = .ok (.ireturn, 1) := by decide +kernel
theorem dL_fare_21 : decode cL_fare 21 = .ok (.iconst 0, 1) := by decide +kernel
theorem dL_fare_22 : decode cL_fare 22 = .ok (.ireturn, 1) := by decide +kernel
theorem dL_run_0 : decode cL_run 0 = .ok (.aload_n 2, 1) := by decide +kernel
theorem dL_run_1 : decode cL_run 1 = .ok (.iconst 0, 1) := by decide +kernel
theorem dL_run_2 : decode cL_run 2 = .ok (.aload_n 0, 1) := by decide +kernel
theorem dL_run_3 : decode cL_run 3 = .ok (.iload_n 1, 1) := by decide +kernel
theorem dL_run_4 : decode cL_run 4 = .ok (.invokevirtual 70, 3) := by decide +kernel
theorem dL_run_7 : decode cL_run 7 = .ok (.i2l, 1) := by decide +kernel
theorem dL_run_8 : decode cL_run 8 = .ok (.lastore, 1) := by decide +kernel
theorem dL_run_9 : decode cL_run 9 = .ok (.goto 6, 3) := by decide +kernel
theorem dL_run_12 : decode cL_run 12 = .ok (.astore_n 3, 1) := by decide +kernel
theorem dL_run_13 : decode cL_run 13 = .ok (.iconst 1, 1) := by decide +kernel
theorem dL_run_14 : decode cL_run 14 = .ok (.ireturn, 1) := by decide +kernel
theorem dL_run_15 : decode cL_run 15 = .ok (.iconst 0, 1) := by decide +kernel
theorem dL_run_16 : decode cL_run 16 = .ok (.ireturn, 1) := by decide +kernel
theorem dL_set_0 : decode cL_set 0 = .ok (.aload_n 3, 1) := by decide +kernel
theorem dL_set_1 : decode cL_set 1 = .ok (.iconst 0, 1) := by decide +kernel
theorem dL_set_2 : decode cL_set 2 = .ok (.aload_n 0, 1) := by decide +kernel
theorem dL_set_3 : decode cL_set 3 = .ok (.iload_n 1, 1) := by decide +kernel
theorem dL_set_4 : decode cL_set 4 = .ok (.iload_n 2, 1) := by decide +kernel
theorem dL_set_5 : decode cL_set 5 = .ok (.invokevirtual 73, 3) := by decide +kernel
theorem dL_set_8 : decode cL_set 8 = .ok (.i2l, 1) := by decide +kernel
theorem dL_set_9 : decode cL_set 9 = .ok (.lastore, 1) := by decide +kernel
theorem dL_set_10 : decode cL_set 10 = .ok (.goto 7, 3) := by decide +kernel
theorem dL_set_13 : decode cL_set 13 = .ok (.astore 4, 2) := by decide +kernel
theorem dL_set_15 : decode cL_set 15 = .ok (.iconst 1, 1) := by decide +kernel
theorem dL_set_16 : decode cL_set 16 = .ok (.ireturn, 1) := by decide +kernel
theorem dL_set_17 : decode cL_set 17 = .ok (.iconst 0, 1) := by decide +kernel
theorem dL_set_18 : decode cL_set 18 = .ok (.ireturn, 1) := by decide +kernel
theorem dL_undo_0 : decode cL_undo 0 = .ok (.aload_n 1, 1) := by decide +kernel
theorem dL_undo_1 : decode cL_undo 1 = .ok (.iconst 0, 1) := by decide +kernel
theorem dL_undo_2 : decode cL_undo 2 = .ok (.aload_n 0, 1) := by decide +kernel
theorem dL_undo_3 : decode cL_undo 3 = .ok (.invokevirtual 76, 3) := by decide +kernel
theorem dL_undo_6 : decode cL_undo 6 = .ok (.i2l, 1) := by decide +kernel
theorem dL_undo_7 : decode cL_undo 7 = .ok (.lastore, 1) := by decide +kernel
theorem dL_undo_8 : decode cL_undo 8 = .ok (.goto 6, 3) := by decide +kernel
theorem dL_undo_11 : decode cL_undo 11 = .ok (.astore_n 2, 1) := by decide +kernel
theorem dL_undo_12 : decode cL_undo 12 = .ok (.iconst 1, 1) := by decide +kernel
theorem dL_undo_13 : decode cL_undo 13 = .ok (.ireturn, 1) := by decide +kernel
theorem dL_undo_14 : decode cL_undo 14 = .ok (.iconst 0, 1) := by decide +kernel
theorem dL_undo_15 : decode cL_undo 15 = .ok (.ireturn, 1) := by decide +kernel
theorem dL_would_0 : decode cL_would 0 = .ok (.aload_n 3, 1) := by decide +kernel
theorem dL_would_1 : decode cL_would 1 = .ok (.iconst 0, 1) := by decide +kernel
theorem dL_would_2 : decode cL_would 2 = .ok (.aload_n 0, 1) := by decide +kernel
theorem dL_would_3 : decode cL_would 3 = .ok (.iload_n 1, 1) := by decide +kernel
theorem dL_would_4 : decode cL_would 4 = .ok (.iload_n 2, 1) := by decide +kernel
theorem dL_would_5 : decode cL_would 5 = .ok (.invokevirtual 79, 3) := by decide +kernel
theorem dL_would_8 : decode cL_would 8 = .ok (.i2l, 1) := by decide +kernel
theorem dL_would_9 : decode cL_would 9 = .ok (.lastore, 1) := by decide +kernel
theorem dL_would_10 : decode cL_would 10 = .ok (.goto 7, 3) := by decide +kernel
theorem dL_would_13 : decode cL_would 13 = .ok (.astore 4, 2) := by decide +kernel
theorem dL_would_15 : decode cL_would 15 = .ok (.iconst 1, 1) := by decide +kernel
theorem dL_would_16 : decode cL_would 16 = .ok (.ireturn, 1) := by decide +kernel
theorem dL_would_17 : decode cL_would 17 = .ok (.iconst 0, 1) := by decide +kernel
theorem dL_would_18 : decode cL_would 18 = .ok (.ireturn, 1) := by decide +kernel
theorem dL_rides_0 : decode cL_rides 0 = .ok (.aload_n 3, 1) := by decide +kernel
theorem dL_rides_1 : decode cL_rides 1 = .ok (.iconst 0, 1) := by decide +kernel
theorem dL_rides_2 : decode cL_rides 2 = .ok (.aload_n 0, 1) := by decide +kernel
theorem dL_rides_3 : decode cL_rides 3 = .ok (.iload_n 1, 1) := by decide +kernel
theorem dL_rides_4 : decode cL_rides 4 = .ok (.iload_n 2, 1) := by decide +kernel
theorem dL_rides_5 : decode cL_rides 5 = .ok (.invokevirtual 82, 3) := by decide +kernel
theorem dL_rides_8 : decode cL_rides 8 = .ok (.i2l, 1) := by decide +kernel
theorem dL_rides_9 : decode cL_rides 9 = .ok (.lastore, 1) := by decide +kernel
theorem dL_rides_10 : decode cL_rides 10 = .ok (.goto 7, 3) := by decide +kernel
theorem dL_rides_13 : decode cL_rides 13 = .ok (.astore 4, 2) := by decide +kernel
theorem dL_rides_15 : decode cL_rides 15 = .ok (.iconst 1, 1) := by decide +kernel
theorem dL_rides_16 : decode cL_rides 16 = .ok (.ireturn, 1) := by decide +kernel
theorem dL_rides_17 : decode cL_rides 17 = .ok (.iconst 0, 1) := by decide +kernel
theorem dL_rides_18 : decode cL_rides 18 = .ok (.ireturn, 1) := by decide +kernel
theorem dL_ifUp_0 : decode cL_ifUp 0 = .ok (.aload_n 3, 1) := by decide +kernel
theorem dL_ifUp_1 : decode cL_ifUp 1 = .ok (.iconst 0, 1) := by decide +kernel
theorem dL_ifUp_2 : decode cL_ifUp 2 = .ok (.aload_n 0, 1) := by decide +kernel
theorem dL_ifUp_3 : decode cL_ifUp 3 = .ok (.iload_n 1, 1) := by decide +kernel
theorem dL_ifUp_4 : decode cL_ifUp 4 = .ok (.iload_n 2, 1) := by decide +kernel
theorem dL_ifUp_5 : decode cL_ifUp 5 = .ok (.invokevirtual 85, 3) := by decide +kernel
theorem dL_ifUp_8 : decode cL_ifUp 8 = .ok (.i2l, 1) := by decide +kernel
theorem dL_ifUp_9 : decode cL_ifUp 9 = .ok (.lastore, 1) := by decide +kernel
theorem dL_ifUp_10 : decode cL_ifUp 10 = .ok (.goto 11, 3) := by decide +kernel
theorem dL_ifUp_13 : decode cL_ifUp 13 = .ok (.astore 4, 2) := by decide +kernel
theorem dL_ifUp_15 : decode cL_ifUp 15 = .ok (.iconst 1, 1) := by decide +kernel
theorem dL_ifUp_16 : decode cL_ifUp 16 = .ok (.ireturn, 1) := by decide +kernel
theorem dL_ifUp_17 : decode cL_ifUp 17 = .ok (.astore 4, 2) := by decide +kernel
theorem dL_ifUp_19 : decode cL_ifUp 19 = .ok (.iconst 2, 1) := by decide +kernel
theorem dL_ifUp_20 : decode cL_ifUp 20 = .ok (.ireturn, 1) := by decide +kernel
theorem dL_ifUp_21 : decode cL_ifUp 21 = .ok (.iconst 0, 1) := by decide +kernel
theorem dL_ifUp_22 : decode cL_ifUp 22 = .ok (.ireturn, 1) := by decide +kernel
theorem dL_owes_0 : decode cL_owes 0 = .ok (.aload_n 2, 1) := by decide +kernel
theorem dL_owes_1 : decode cL_owes 1 = .ok (.iconst 0, 1) := by decide +kernel
theorem dL_owes_2 : decode cL_owes 2 = .ok (.aload_n 0, 1) := by decide +kernel
theorem dL_owes_3 : decode cL_owes 3 = .ok (.iload_n 1, 1) := by decide +kernel
theorem dL_owes_4 : decode cL_owes 4 = .ok (.invokevirtual 88, 3) := by decide +kernel
theorem dL_owes_7 : decode cL_owes 7 = .ok (.i2l, 1) := by decide +kernel
theorem dL_owes_8 : decode cL_owes 8 = .ok (.lastore, 1) := by decide +kernel
theorem dL_owes_9 : decode cL_owes 9 = .ok (.goto 6, 3) := by decide +kernel
theorem dL_owes_12 : decode cL_owes 12 = .ok (.astore_n 3, 1) := by decide +kernel
theorem dL_owes_13 : decode cL_owes 13 = .ok (.iconst 1, 1) := by decide +kernel
theorem dL_owes_14 : decode cL_owes 14 = .ok (.ireturn, 1) := by decide +kernel
theorem dL_owes_15 : decode cL_owes 15 = .ok (.iconst 0, 1) := by decide +kernel
theorem dL_owes_16 : decode cL_owes 16 = .ok (.ireturn, 1) := by decide +kernel
theorem dL_runScript_0 : decode cL_runScript 0 = .ok (.aload 4, 2) := by decide +kernel
theorem dL_runScript_2 : decode cL_runScript 2 = .ok (.iconst 0, 1) := by decide +kernel
theorem dL_runScript_3 : decode cL_runScript 3 = .ok (.aload_n 0, 1) := by decide +kernel
theorem dL_runScript_4 : decode cL_runScript 4 = .ok (.iload_n 1, 1) := by decide +kernel
theorem dL_runScript_5 : decode cL_runScript 5 = .ok (.lload_n 2, 1) := by decide +kernel
theorem dL_runScript_6 : decode cL_runScript 6 = .ok (.invokevirtual 91, 3) := by decide +kernel
theorem dL_runScript_9 : decode cL_runScript 9 = .ok (.i2l, 1) := by decide +kernel
theorem dL_runScript_10 : decode cL_runScript 10 = .ok (.lastore, 1) := by decide +kernel
theorem dL_runScript_11 : decode cL_runScript 11 = .ok (.goto 7, 3) := by decide +kernel
theorem dL_runScript_14 : decode cL_runScript 14 = .ok (.astore 5, 2) := by decide +kernel
theorem dL_runScript_16 : decode cL_runScript 16 = .ok (.iconst 1, 1) := by decide +kernel
theorem dL_runScript_17 : decode cL_runScript 17 = .ok (.ireturn, 1) := by decide +kernel
theorem dL_runScript_18 : decode cL_runScript 18 = .ok (.iconst 0, 1) := by decide +kernel
theorem dL_runScript_19 : decode cL_runScript 19 = .ok (.ireturn, 1) := by decide +kernel
theorem dL_simulate_0 : decode cL_simulate 0 = .ok (.aload 4, 2) := by decide +kernel
theorem dL_simulate_2 : decode cL_simulate 2 = .ok (.iconst 0, 1) := by decide +kernel
theorem dL_simulate_3 : decode cL_simulate 3 = .ok (.aload_n 0, 1) := by decide +kernel
theorem dL_simulate_4 : decode cL_simulate 4 = .ok (.lload_n 1, 1) := by decide +kernel
theorem dL_simulate_5 : decode cL_simulate 5 = .ok (.iload_n 3, 1) := by decide +kernel
theorem dL_simulate_6 : decode cL_simulate 6 = .ok (.invokevirtual 95, 3) := by decide +kernel
theorem dL_simulate_9 : decode cL_simulate 9 = .ok (.i2l, 1) := by decide +kernel
theorem dL_simulate_10 : decode cL_simulate 10 = .ok (.lastore, 1) := by decide +kernel
theorem dL_simulate_11 : decode cL_simulate 11 = .ok (.goto 7, 3) := by decide +kernel
theorem dL_simulate_14 : decode cL_simulate 14 = .ok (.astore 5, 2) := by decide +kernel
theorem dL_simulate_16 : decode cL_simulate 16 = .ok (.iconst 1, 1) := by decide +kernel
theorem dL_simulate_17 : decode cL_simulate 17 = .ok (.ireturn, 1) := by decide +kernel
theorem dL_simulate_18 : decode cL_simulate 18 = .ok (.iconst 0, 1) := by decide +kernel
theorem dL_simulate_19 : decode cL_simulate 19 = .ok (.ireturn, 1) := by decide +kernel
theorem dL_save_0 : decode cL_save 0 = .ok (.aload_n 2, 1) := by decide +kernel
theorem dL_save_1 : decode cL_save 1 = .ok (.iconst 0, 1) := by decide +kernel
theorem dL_save_2 : decode cL_save 2 = .ok (.aload_n 0, 1) := by decide +kernel
theorem dL_save_3 : decode cL_save 3 = .ok (.iload_n 1, 1) := by decide +kernel
theorem dL_save_4 : decode cL_save 4 = .ok (.invokevirtual 99, 3) := by decide +kernel
theorem dL_save_7 : decode cL_save 7 = .ok (.i2l, 1) := by decide +kernel
theorem dL_save_8 : decode cL_save 8 = .ok (.lastore, 1) := by decide +kernel
theorem dL_save_9 : decode cL_save 9 = .ok (.goto 6, 3) := by decide +kernel
theorem dL_save_12 : decode cL_save 12 = .ok (.astore_n 3, 1) := by decide +kernel
theorem dL_save_13 : decode cL_save 13 = .ok (.iconst 1, 1) := by decide +kernel
theorem dL_save_14 : decode cL_save 14 = .ok (.ireturn, 1) := by decide +kernel
theorem dL_save_15 : decode cL_save 15 = .ok (.iconst 0, 1) := by decide +kernel
theorem dL_save_16 : decode cL_save 16 = .ok (.ireturn, 1) := by decide +kernel
theorem dL_restore_0 : decode cL_restore 0 = .ok (.aload_n 2, 1) := by decide +kernel
theorem dL_restore_1 : decode cL_restore 1 = .ok (.iconst 0, 1) := by decide +kernel
theorem dL_restore_2 : decode cL_restore 2 = .ok (.aload_n 0, 1) := by decide +kernel
theorem dL_restore_3 : decode cL_restore 3 = .ok (.iload_n 1, 1) := by decide +kernel
theorem dL_restore_4 : decode cL_restore 4 = .ok (.invokevirtual 102, 3) := by decide +kernel
theorem dL_restore_7 : decode cL_restore 7 = .ok (.i2l, 1) := by decide +kernel
theorem dL_restore_8 : decode cL_restore 8 = .ok (.lastore, 1) := by decide +kernel
theorem dL_restore_9 : decode cL_restore 9 = .ok (.goto 9, 3) := by decide +kernel
theorem dL_restore_12 : decode cL_restore 12 = .ok (.astore_n 3, 1) := by decide +kernel
theorem dL_restore_13 : decode cL_restore 13 = .ok (.iconst 1, 1) := by decide +kernel
theorem dL_restore_14 : decode cL_restore 14 = .ok (.ireturn, 1) := by decide +kernel
theorem dL_restore_15 : decode cL_restore 15 = .ok (.astore_n 3, 1) := by decide +kernel
theorem dL_restore_16 : decode cL_restore 16 = .ok (.iconst 2, 1) := by decide +kernel
theorem dL_restore_17 : decode cL_restore 17 = .ok (.ireturn, 1) := by decide +kernel
theorem dL_restore_18 : decode cL_restore 18 = .ok (.iconst 0, 1) := by decide +kernel
theorem dL_restore_19 : decode cL_restore 19 = .ok (.ireturn, 1) := by decide +kernel
theorem yf_X11_append : (Cond.instanceMethod yX11_append) ∈ gtbl ∧ (Cond.selects RX11 yX11_append yX11_append) ∈ gtbl ∧ (Cond.initialized RX11) ∈ gtbl ∧ (Cond.code yX11_append cX11_append 2 (some .int)) ∈ gtbl ∧ (yX11_append.cls = RX11 ∧ yX11_append.cls ≠ "java/lang/invoke/MethodHandle" ∧ yX11_append.cls ≠ "java/lang/invoke/VarHandle" ∧ (parseMethodDescriptor yX11_append.desc).map (fun d => d.parameters.length) = some 1) := ⟨gt_in 457 (by decide +kernel) (by decide +kernel), gt_in 458 (by decide +kernel) (by decide +kernel), gt_in 17 (by decide +kernel) (by decide +kernel), gt_in 459 (by decide +kernel) (by decide +kernel), by decide +kernel⟩
theorem cw_L_7 : uCW RL RX11 7 yX11_append cX11_append 2 (some .int) 1 := ⟨gt_in 456 (by decide +kernel) (by decide +kernel), yf_X11_append⟩
theorem yf_X11_load : (Cond.instanceMethod yX11_load) ∈ gtbl ∧ (Cond.selects RX11 yX11_load yX11_load) ∈ gtbl ∧ (Cond.initialized RX11) ∈ gtbl ∧ (Cond.code yX11_load cX11_load 3 (some .int)) ∈ gtbl ∧ (yX11_load.cls = RX11 ∧ yX11_load.cls ≠ "java/lang/invoke/MethodHandle" ∧ yX11_load.cls ≠ "java/lang/invoke/VarHandle" ∧ (parseMethodDescriptor yX11_load.desc).map (fun d => d.parameters.length) = some 0) := ⟨gt_in 566 (by decide +kernel) (by decide +kernel), gt_in 567 (by decide +kernel) (by decide +kernel), gt_in 17 (by decide +kernel) (by decide +kernel), gt_in 568 (by decide +kernel) (by decide +kernel), by decide +kernel⟩
theorem cw_L_17 : uCW RL RX11 17 yX11_load cX11_load 3 (some .int) 0 := ⟨gt_in 565 (by decide +kernel) (by decide +kernel), yf_X11_load⟩
theorem yf_X11_about : (Cond.instanceMethod yX11_about) ∈ gtbl ∧ (Cond.selects RX11 yX11_about yX11_about) ∈ gtbl ∧ (Cond.initialized RX11) ∈ gtbl ∧ (Cond.code yX11_about cX11_about 2 (some .int)) ∈ gtbl ∧ (yX11_about.cls = RX11 ∧ yX11_about.cls ≠ "java/lang/invoke/MethodHandle" ∧ yX11_about.cls ≠ "java/lang/invoke/VarHandle" ∧ (parseMethodDescriptor yX11_about.desc).map (fun d => d.parameters.length) = some 1) := ⟨gt_in 715 (by decide +kernel) (by decide +kernel), gt_in 716 (by decide +kernel) (by decide +kernel), gt_in 17 (by decide +kernel) (by decide +kernel), gt_in 717 (by decide +kernel) (by decide +kernel), by decide +kernel⟩
theorem cw_L_21 : uCW RL RX11 21 yX11_about cX11_about 2 (some .int) 1 := ⟨gt_in 714 (by decide +kernel) (by decide +kernel), yf_X11_about⟩
theorem yf_X11_card : (Cond.instanceMethod yX11_card) ∈ gtbl ∧ (Cond.selects RX11 yX11_card yX11_card) ∈ gtbl ∧ (Cond.initialized RX11) ∈ gtbl ∧ (Cond.code yX11_card cX11_card 3 (some .int)) ∈ gtbl ∧ (yX11_card.cls = RX11 ∧ yX11_card.cls ≠ "java/lang/invoke/MethodHandle" ∧ yX11_card.cls ≠ "java/lang/invoke/VarHandle" ∧ (parseMethodDescriptor yX11_card.desc).map (fun d => d.parameters.length) = some 2) := ⟨gt_in 732 (by decide +kernel) (by decide +kernel), gt_in 733 (by decide +kernel) (by decide +kernel), gt_in 17 (by decide +kernel) (by decide +kernel), gt_in 734 (by decide +kernel) (by decide +kernel), by decide +kernel⟩
theorem cw_L_24 : uCW RL RX11 24 yX11_card cX11_card 3 (some .int) 2 := ⟨gt_in 731 (by decide +kernel) (by decide +kernel), yf_X11_card⟩
theorem yf_X11_account : (Cond.instanceMethod yX11_account) ∈ gtbl ∧ (Cond.selects RX11 yX11_account yX11_account) ∈ gtbl ∧ (Cond.initialized RX11) ∈ gtbl ∧ (Cond.code yX11_account cX11_account 3 (some .int)) ∈ gtbl ∧ (yX11_account.cls = RX11 ∧ yX11_account.cls ≠ "java/lang/invoke/MethodHandle" ∧ yX11_account.cls ≠ "java/lang/invoke/VarHandle" ∧ (parseMethodDescriptor yX11_account.desc).map (fun d => d.parameters.length) = some 2) := ⟨gt_in 763 (by decide +kernel) (by decide +kernel), gt_in 764 (by decide +kernel) (by decide +kernel), gt_in 17 (by decide +kernel) (by decide +kernel), gt_in 765 (by decide +kernel) (by decide +kernel), by decide +kernel⟩
theorem cw_L_30 : uCW RL RX11 30 yX11_account cX11_account 3 (some .int) 2 := ⟨gt_in 762 (by decide +kernel) (by decide +kernel), yf_X11_account⟩
theorem yf_X11_gate : (Cond.instanceMethod yX11_gate) ∈ gtbl ∧ (Cond.selects RX11 yX11_gate yX11_gate) ∈ gtbl ∧ (Cond.initialized RX11) ∈ gtbl ∧ (Cond.code yX11_gate cX11_gate 3 (some .int)) ∈ gtbl ∧ (yX11_gate.cls = RX11 ∧ yX11_gate.cls ≠ "java/lang/invoke/MethodHandle" ∧ yX11_gate.cls ≠ "java/lang/invoke/VarHandle" ∧ (parseMethodDescriptor yX11_gate.desc).map (fun d => d.parameters.length) = some 2) := ⟨gt_in 779 (by decide +kernel) (by decide +kernel), gt_in 780 (by decide +kernel) (by decide +kernel), gt_in 17 (by decide +kernel) (by decide +kernel), gt_in 781 (by decide +kernel) (by decide +kernel), by decide +kernel⟩
theorem cw_L_33 : uCW RL RX11 33 yX11_gate cX11_gate 3 (some .int) 2 := ⟨gt_in 778 (by decide +kernel) (by decide +kernel), yf_X11_gate⟩
theorem yf_X11_logged : (Cond.instanceMethod yX11_logged) ∈ gtbl ∧ (Cond.selects RX11 yX11_logged yX11_logged) ∈ gtbl ∧ (Cond.initialized RX11) ∈ gtbl ∧ (Cond.code yX11_logged cX11_logged 4 (some .int)) ∈ gtbl ∧ (yX11_logged.cls = RX11 ∧ yX11_logged.cls ≠ "java/lang/invoke/MethodHandle" ∧ yX11_logged.cls ≠ "java/lang/invoke/VarHandle" ∧ (parseMethodDescriptor yX11_logged.desc).map (fun d => d.parameters.length) = some 3) := ⟨gt_in 795 (by decide +kernel) (by decide +kernel), gt_in 796 (by decide +kernel) (by decide +kernel), gt_in 17 (by decide +kernel) (by decide +kernel), gt_in 797 (by decide +kernel) (by decide +kernel), by decide +kernel⟩
theorem cw_L_36 : uCW RL RX11 36 yX11_logged cX11_logged 4 (some .int) 3 := ⟨gt_in 794 (by decide +kernel) (by decide +kernel), yf_X11_logged⟩
theorem yf_X11_setting : (Cond.instanceMethod yX11_setting) ∈ gtbl ∧ (Cond.selects RX11 yX11_setting yX11_setting) ∈ gtbl ∧ (Cond.initialized RX11) ∈ gtbl ∧ (Cond.code yX11_setting cX11_setting 2 (some .int)) ∈ gtbl ∧ (yX11_setting.cls = RX11 ∧ yX11_setting.cls ≠ "java/lang/invoke/MethodHandle" ∧ yX11_setting.cls ≠ "java/lang/invoke/VarHandle" ∧ (parseMethodDescriptor yX11_setting.desc).map (fun d => d.parameters.length) = some 1) := ⟨gt_in 807 (by decide +kernel) (by decide +kernel), gt_in 808 (by decide +kernel) (by decide +kernel), gt_in 17 (by decide +kernel) (by decide +kernel), gt_in 809 (by decide +kernel) (by decide +kernel), by decide +kernel⟩
theorem cw_L_40 : uCW RL RX11 40 yX11_setting cX11_setting 2 (some .int) 1 := ⟨gt_in 806 (by decide +kernel) (by decide +kernel), yf_X11_setting⟩
theorem yf_X11_issue : (Cond.instanceMethod yX11_issue) ∈ gtbl ∧ (Cond.selects RX11 yX11_issue yX11_issue) ∈ gtbl ∧ (Cond.initialized RX11) ∈ gtbl ∧ (Cond.code yX11_issue cX11_issue 2 (some .int)) ∈ gtbl ∧ (yX11_issue.cls = RX11 ∧ yX11_issue.cls ≠ "java/lang/invoke/MethodHandle" ∧ yX11_issue.cls ≠ "java/lang/invoke/VarHandle" ∧ (parseMethodDescriptor yX11_issue.desc).map (fun d => d.parameters.length) = some 1) := ⟨gt_in 814 (by decide +kernel) (by decide +kernel), gt_in 815 (by decide +kernel) (by decide +kernel), gt_in 17 (by decide +kernel) (by decide +kernel), gt_in 816 (by decide +kernel) (by decide +kernel), by decide +kernel⟩
theorem cw_L_43 : uCW RL RX11 43 yX11_issue cX11_issue 2 (some .int) 1 := ⟨gt_in 813 (by decide +kernel) (by decide +kernel), yf_X11_issue⟩
theorem yf_X11_copy : (Cond.instanceMethod yX11_copy) ∈ gtbl ∧ (Cond.selects RX11 yX11_copy yX11_copy) ∈ gtbl ∧ (Cond.initialized RX11) ∈ gtbl ∧ (Cond.code yX11_copy cX11_copy 2 (some .int)) ∈ gtbl ∧ (yX11_copy.cls = RX11 ∧ yX11_copy.cls ≠ "java/lang/invoke/MethodHandle" ∧ yX11_copy.cls ≠ "java/lang/invoke/VarHandle" ∧ (parseMethodDescriptor yX11_copy.desc).map (fun d => d.parameters.length) = some 1) := ⟨gt_in 832 (by decide +kernel) (by decide +kernel), gt_in 833 (by decide +kernel) (by decide +kernel), gt_in 17 (by decide +kernel) (by decide +kernel), gt_in 834 (by decide +kernel) (by decide +kernel), by decide +kernel⟩
theorem cw_L_46 : uCW RL RX11 46 yX11_copy cX11_copy 2 (some .int) 1 := ⟨gt_in 831 (by decide +kernel) (by decide +kernel), yf_X11_copy⟩
theorem yf_X11_ride : (Cond.instanceMethod yX11_ride) ∈ gtbl ∧ (Cond.selects RX11 yX11_ride yX11_ride) ∈ gtbl ∧ (Cond.initialized RX11) ∈ gtbl ∧ (Cond.code yX11_ride cX11_ride 3 (some .int)) ∈ gtbl ∧ (yX11_ride.cls = RX11 ∧ yX11_ride.cls ≠ "java/lang/invoke/MethodHandle" ∧ yX11_ride.cls ≠ "java/lang/invoke/VarHandle" ∧ (parseMethodDescriptor yX11_ride.desc).map (fun d => d.parameters.length) = some 2) := ⟨gt_in 841 (by decide +kernel) (by decide +kernel), gt_in 842 (by decide +kernel) (by decide +kernel), gt_in 17 (by decide +kernel) (by decide +kernel), gt_in 843 (by decide +kernel) (by decide +kernel), by decide +kernel⟩
theorem cw_L_49 : uCW RL RX11 49 yX11_ride cX11_ride 3 (some .int) 2 := ⟨gt_in 840 (by decide +kernel) (by decide +kernel), yf_X11_ride⟩
theorem yf_X11_pay : (Cond.instanceMethod yX11_pay) ∈ gtbl ∧ (Cond.selects RX11 yX11_pay yX11_pay) ∈ gtbl ∧ (Cond.initialized RX11) ∈ gtbl ∧ (Cond.code yX11_pay cX11_pay 3 (some .int)) ∈ gtbl ∧ (yX11_pay.cls = RX11 ∧ yX11_pay.cls ≠ "java/lang/invoke/MethodHandle" ∧ yX11_pay.cls ≠ "java/lang/invoke/VarHandle" ∧ (parseMethodDescriptor yX11_pay.desc).map (fun d => d.parameters.length) = some 2) := ⟨gt_in 849 (by decide +kernel) (by decide +kernel), gt_in 850 (by decide +kernel) (by decide +kernel), gt_in 17 (by decide +kernel) (by decide +kernel), gt_in 851 (by decide +kernel) (by decide +kernel), by decide +kernel⟩
theorem cw_L_52 : uCW RL RX11 52 yX11_pay cX11_pay 3 (some .int) 2 := ⟨gt_in 848 (by decide +kernel) (by decide +kernel), yf_X11_pay⟩
theorem yf_X11_pardon : (Cond.instanceMethod yX11_pardon) ∈ gtbl ∧ (Cond.selects RX11 yX11_pardon yX11_pardon) ∈ gtbl ∧ (Cond.initialized RX11) ∈ gtbl ∧ (Cond.code yX11_pardon cX11_pardon 2 (some .int)) ∈ gtbl ∧ (yX11_pardon.cls = RX11 ∧ yX11_pardon.cls ≠ "java/lang/invoke/MethodHandle" ∧ yX11_pardon.cls ≠ "java/lang/invoke/VarHandle" ∧ (parseMethodDescriptor yX11_pardon.desc).map (fun d => d.parameters.length) = some 1) := ⟨gt_in 857 (by decide +kernel) (by decide +kernel), gt_in 858 (by decide +kernel) (by decide +kernel), gt_in 17 (by decide +kernel) (by decide +kernel), gt_in 859 (by decide +kernel) (by decide +kernel), by decide +kernel⟩
theorem cw_L_55 : uCW RL RX11 55 yX11_pardon cX11_pardon 2 (some .int) 1 := ⟨gt_in 856 (by decide +kernel) (by decide +kernel), yf_X11_pardon⟩
theorem yf_X11_down : (Cond.instanceMethod yX11_down) ∈ gtbl ∧ (Cond.selects RX11 yX11_down yX11_down) ∈ gtbl ∧ (Cond.initialized RX11) ∈ gtbl ∧ (Cond.code yX11_down cX11_down 2 (some .int)) ∈ gtbl ∧ (yX11_down.cls = RX11 ∧ yX11_down.cls ≠ "java/lang/invoke/MethodHandle" ∧ yX11_down.cls ≠ "java/lang/invoke/VarHandle" ∧ (parseMethodDescriptor yX11_down.desc).map (fun d => d.parameters.length) = some 1) := ⟨gt_in 872 (by decide +kernel) (by decide +kernel), gt_in 873 (by decide +kernel) (by decide +kernel), gt_in 17 (by decide +kernel) (by decide +kernel), gt_in 874 (by decide +kernel) (by decide +kernel), by decide +kernel⟩
theorem cw_L_58 : uCW RL RX11 58 yX11_down cX11_down 2 (some .int) 1 := ⟨gt_in 871 (by decide +kernel) (by decide +kernel), yf_X11_down⟩
theorem yf_X11_up : (Cond.instanceMethod yX11_up) ∈ gtbl ∧ (Cond.selects RX11 yX11_up yX11_up) ∈ gtbl ∧ (Cond.initialized RX11) ∈ gtbl ∧ (Cond.code yX11_up cX11_up 2 (some .int)) ∈ gtbl ∧ (yX11_up.cls = RX11 ∧ yX11_up.cls ≠ "java/lang/invoke/MethodHandle" ∧ yX11_up.cls ≠ "java/lang/invoke/VarHandle" ∧ (parseMethodDescriptor yX11_up.desc).map (fun d => d.parameters.length) = some 1) := ⟨gt_in 880 (by decide +kernel) (by decide +kernel), gt_in 881 (by decide +kernel) (by decide +kernel), gt_in 17 (by decide +kernel) (by decide +kernel), gt_in 882 (by decide +kernel) (by decide +kernel), by decide +kernel⟩
theorem cw_L_61 : uCW RL RX11 61 yX11_up cX11_up 2 (some .int) 1 := ⟨gt_in 879 (by decide +kernel) (by decide +kernel), yf_X11_up⟩
theorem yf_X11_open : (Cond.instanceMethod yX11_open) ∈ gtbl ∧ (Cond.selects RX11 yX11_open yX11_open) ∈ gtbl ∧ (Cond.initialized RX11) ∈ gtbl ∧ (Cond.code yX11_open cX11_open 2 (some .int)) ∈ gtbl ∧ (yX11_open.cls = RX11 ∧ yX11_open.cls ≠ "java/lang/invoke/MethodHandle" ∧ yX11_open.cls ≠ "java/lang/invoke/VarHandle" ∧ (parseMethodDescriptor yX11_open.desc).map (fun d => d.parameters.length) = some 1) := ⟨gt_in 888 (by decide +kernel) (by decide +kernel), gt_in 889 (by decide +kernel) (by decide +kernel), gt_in 17 (by decide +kernel) (by decide +kernel), gt_in 890 (by decide +kernel) (by decide +kernel), by decide +kernel⟩
theorem cw_L_64 : uCW RL RX11 64 yX11_open cX11_open 2 (some .int) 1 := ⟨gt_in 887 (by decide +kernel) (by decide +kernel), yf_X11_open⟩
theorem yf_X11_fare : (Cond.instanceMethod yX11_fare) ∈ gtbl ∧ (Cond.selects RX11 yX11_fare yX11_fare) ∈ gtbl ∧ (Cond.initialized RX11) ∈ gtbl ∧ (Cond.code yX11_fare cX11_fare 3 (some .int)) ∈ gtbl ∧ (yX11_fare.cls = RX11 ∧ yX11_fare.cls ≠ "java/lang/invoke/MethodHandle" ∧ yX11_fare.cls ≠ "java/lang/invoke/VarHandle" ∧ (parseMethodDescriptor yX11_fare.desc).map (fun d => d.parameters.length) = some 2) := ⟨gt_in 896 (by decide +kernel) (by decide +kernel), gt_in 897 (by decide +kernel) (by decide +kernel), gt_in 17 (by decide +kernel) (by decide +kernel), gt_in 898 (by decide +kernel) (by decide +kernel), by decide +kernel⟩
theorem cw_L_67 : uCW RL RX11 67 yX11_fare cX11_fare 3 (some .int) 2 := ⟨gt_in 895 (by decide +kernel) (by decide +kernel), yf_X11_fare⟩
theorem yf_X11_run : (Cond.instanceMethod yX11_run) ∈ gtbl ∧ (Cond.selects RX11 yX11_run yX11_run) ∈ gtbl ∧ (Cond.initialized RX11) ∈ gtbl ∧ (Cond.code yX11_run cX11_run 2 (some .int)) ∈ gtbl ∧ (yX11_run.cls = RX11 ∧ yX11_run.cls ≠ "java/lang/invoke/MethodHandle" ∧ yX11_run.cls ≠ "java/lang/invoke/VarHandle" ∧ (parseMethodDescriptor yX11_run.desc).map (fun d => d.parameters.length) = some 1) := ⟨gt_in 904 (by decide +kernel) (by decide +kernel), gt_in 905 (by decide +kernel) (by decide +kernel), gt_in 17 (by decide +kernel) (by decide +kernel), gt_in 906 (by decide +kernel) (by decide +kernel), by decide +kernel⟩
theorem cw_L_70 : uCW RL RX11 70 yX11_run cX11_run 2 (some .int) 1 := ⟨gt_in 903 (by decide +kernel) (by decide +kernel), yf_X11_run⟩
theorem yf_X11_set : (Cond.instanceMethod yX11_set) ∈ gtbl ∧ (Cond.selects RX11 yX11_set yX11_set) ∈ gtbl ∧ (Cond.initialized RX11) ∈ gtbl ∧ (Cond.code yX11_set cX11_set 3 (some .int)) ∈ gtbl ∧ (yX11_set.cls = RX11 ∧ yX11_set.cls ≠ "java/lang/invoke/MethodHandle" ∧ yX11_set.cls ≠ "java/lang/invoke/VarHandle" ∧ (parseMethodDescriptor yX11_set.desc).map (fun d => d.parameters.length) = some 2) := ⟨gt_in 911 (by decide +kernel) (by decide +kernel), gt_in 912 (by decide +kernel) (by decide +kernel), gt_in 17 (by decide +kernel) (by decide +kernel), gt_in 913 (by decide +kernel) (by decide +kernel), by decide +kernel⟩
theorem cw_L_73 : uCW RL RX11 73 yX11_set cX11_set 3 (some .int) 2 := ⟨gt_in 910 (by decide +kernel) (by decide +kernel), yf_X11_set⟩
theorem yf_X11_undo : (Cond.instanceMethod yX11_undo) ∈ gtbl ∧ (Cond.selects RX11 yX11_undo yX11_undo) ∈ gtbl ∧ (Cond.initialized RX11) ∈ gtbl ∧ (Cond.code yX11_undo cX11_undo 1 (some .int)) ∈ gtbl ∧ (yX11_undo.cls = RX11 ∧ yX11_undo.cls ≠ "java/lang/invoke/MethodHandle" ∧ yX11_undo.cls ≠ "java/lang/invoke/VarHandle" ∧ (parseMethodDescriptor yX11_undo.desc).map (fun d => d.parameters.length) = some 0) := ⟨gt_in 921 (by decide +kernel) (by decide +kernel), gt_in 922 (by decide +kernel) (by decide +kernel), gt_in 17 (by decide +kernel) (by decide +kernel), gt_in 923 (by decide +kernel) (by decide +kernel), by decide +kernel⟩
theorem cw_L_76 : uCW RL RX11 76 yX11_undo cX11_undo 1 (some .int) 0 := ⟨gt_in 920 (by decide +kernel) (by decide +kernel), yf_X11_undo⟩
theorem yf_X11_would : (Cond.instanceMethod yX11_would) ∈ gtbl ∧ (Cond.selects RX11 yX11_would yX11_would) ∈ gtbl ∧ (Cond.initialized RX11) ∈ gtbl ∧ (Cond.code yX11_would cX11_would 3 (some .int)) ∈ gtbl ∧ (yX11_would.cls = RX11 ∧ yX11_would.cls ≠ "java/lang/invoke/MethodHandle" ∧ yX11_would.cls ≠ "java/lang/invoke/VarHandle" ∧ (parseMethodDescriptor yX11_would.desc).map (fun d => d.parameters.length) = some 2) := ⟨gt_in 936 (by decide +kernel) (by decide +kernel), gt_in 937 (by decide +kernel) (by decide +kernel), gt_in 17 (by decide +kernel) (by decide +kernel), gt_in 938 (by decide +kernel) (by decide +kernel), by decide +kernel⟩
theorem cw_L_79 : uCW RL RX11 79 yX11_would cX11_would 3 (some .int) 2 := ⟨gt_in 935 (by decide +kernel) (by decide +kernel), yf_X11_would⟩
theorem yf_X11_rides : (Cond.instanceMethod yX11_rides) ∈ gtbl ∧ (Cond.selects RX11 yX11_rides yX11_rides) ∈ gtbl ∧ (Cond.initialized RX11) ∈ gtbl ∧ (Cond.code yX11_rides cX11_rides 4 (some .int)) ∈ gtbl ∧ (yX11_rides.cls = RX11 ∧ yX11_rides.cls ≠ "java/lang/invoke/MethodHandle" ∧ yX11_rides.cls ≠ "java/lang/invoke/VarHandle" ∧ (parseMethodDescriptor yX11_rides.desc).map (fun d => d.parameters.length) = some 2) := ⟨gt_in 943 (by decide +kernel) (by decide +kernel), gt_in 944 (by decide +kernel) (by decide +kernel), gt_in 17 (by decide +kernel) (by decide +kernel), gt_in 945 (by decide +kernel) (by decide +kernel), by decide +kernel⟩
theorem cw_L_82 : uCW RL RX11 82 yX11_rides cX11_rides 4 (some .int) 2 := ⟨gt_in 942 (by decide +kernel) (by decide +kernel), yf_X11_rides⟩
theorem yf_X11_ifUp : (Cond.instanceMethod yX11_ifUp) ∈ gtbl ∧ (Cond.selects RX11 yX11_ifUp yX11_ifUp) ∈ gtbl ∧ (Cond.initialized RX11) ∈ gtbl ∧ (Cond.code yX11_ifUp cX11_ifUp 3 (some .int)) ∈ gtbl ∧ (yX11_ifUp.cls = RX11 ∧ yX11_ifUp.cls ≠ "java/lang/invoke/MethodHandle" ∧ yX11_ifUp.cls ≠ "java/lang/invoke/VarHandle" ∧ (parseMethodDescriptor yX11_ifUp.desc).map (fun d => d.parameters.length) = some 2) := ⟨gt_in 951 (by decide +kernel) (by decide +kernel), gt_in 952 (by decide +kernel) (by decide +kernel), gt_in 17 (by decide +kernel) (by decide +kernel), gt_in 953 (by decide +kernel) (by decide +kernel), by decide +kernel⟩
theorem cw_L_85 : uCW RL RX11 85 yX11_ifUp cX11_ifUp 3 (some .int) 2 := ⟨gt_in 950 (by decide +kernel) (by decide +kernel), yf_X11_ifUp⟩
theorem yf_X11_owes : (Cond.instanceMethod yX11_owes) ∈ gtbl ∧ (Cond.selects RX11 yX11_owes yX11_owes) ∈ gtbl ∧ (Cond.initialized RX11) ∈ gtbl ∧ (Cond.code yX11_owes cX11_owes 3 (some .int)) ∈ gtbl ∧ (yX11_owes.cls = RX11 ∧ yX11_owes.cls ≠ "java/lang/invoke/MethodHandle" ∧ yX11_owes.cls ≠ "java/lang/invoke/VarHandle" ∧ (parseMethodDescriptor yX11_owes.desc).map (fun d => d.parameters.length) = some 1) := ⟨gt_in 958 (by decide +kernel) (by decide +kernel), gt_in 959 (by decide +kernel) (by decide +kernel), gt_in 17 (by decide +kernel) (by decide +kernel), gt_in 960 (by decide +kernel) (by decide +kernel), by decide +kernel⟩
theorem cw_L_88 : uCW RL RX11 88 yX11_owes cX11_owes 3 (some .int) 1 := ⟨gt_in 957 (by decide +kernel) (by decide +kernel), yf_X11_owes⟩
theorem yf_X11_runScript : (Cond.instanceMethod yX11_runScript) ∈ gtbl ∧ (Cond.selects RX11 yX11_runScript yX11_runScript) ∈ gtbl ∧ (Cond.initialized RX11) ∈ gtbl ∧ (Cond.code yX11_runScript cX11_runScript 5 (some .int)) ∈ gtbl ∧ (yX11_runScript.cls = RX11 ∧ yX11_runScript.cls ≠ "java/lang/invoke/MethodHandle" ∧ yX11_runScript.cls ≠ "java/lang/invoke/VarHandle" ∧ (parseMethodDescriptor yX11_runScript.desc).map (fun d => d.parameters.length) = some 2) := ⟨gt_in 966 (by decide +kernel) (by decide +kernel), gt_in 967 (by decide +kernel) (by decide +kernel), gt_in 17 (by decide +kernel) (by decide +kernel), gt_in 968 (by decide +kernel) (by decide +kernel), by decide +kernel⟩
theorem cw_L_91 : uCW RL RX11 91 yX11_runScript cX11_runScript 5 (some .int) 2 := ⟨gt_in 965 (by decide +kernel) (by decide +kernel), yf_X11_runScript⟩
theorem yf_X11_simulate : (Cond.instanceMethod yX11_simulate) ∈ gtbl ∧ (Cond.selects RX11 yX11_simulate yX11_simulate) ∈ gtbl ∧ (Cond.initialized RX11) ∈ gtbl ∧ (Cond.code yX11_simulate cX11_simulate 7 (some .int)) ∈ gtbl ∧ (yX11_simulate.cls = RX11 ∧ yX11_simulate.cls ≠ "java/lang/invoke/MethodHandle" ∧ yX11_simulate.cls ≠ "java/lang/invoke/VarHandle" ∧ (parseMethodDescriptor yX11_simulate.desc).map (fun d => d.parameters.length) = some 2) := ⟨gt_in 996 (by decide +kernel) (by decide +kernel), gt_in 997 (by decide +kernel) (by decide +kernel), gt_in 17 (by decide +kernel) (by decide +kernel), gt_in 998 (by decide +kernel) (by decide +kernel), by decide +kernel⟩
theorem cw_L_95 : uCW RL RX11 95 yX11_simulate cX11_simulate 7 (some .int) 2 := ⟨gt_in 995 (by decide +kernel) (by decide +kernel), yf_X11_simulate⟩
theorem yf_X11_save : (Cond.instanceMethod yX11_save) ∈ gtbl ∧ (Cond.selects RX11 yX11_save yX11_save) ∈ gtbl ∧ (Cond.initialized RX11) ∈ gtbl ∧ (Cond.code yX11_save cX11_save 2 (some .int)) ∈ gtbl ∧ (yX11_save.cls = RX11 ∧ yX11_save.cls ≠ "java/lang/invoke/MethodHandle" ∧ yX11_save.cls ≠ "java/lang/invoke/VarHandle" ∧ (parseMethodDescriptor yX11_save.desc).map (fun d => d.parameters.length) = some 1) := ⟨gt_in 1022 (by decide +kernel) (by decide +kernel), gt_in 1023 (by decide +kernel) (by decide +kernel), gt_in 17 (by decide +kernel) (by decide +kernel), gt_in 1024 (by decide +kernel) (by decide +kernel), by decide +kernel⟩
theorem cw_L_99 : uCW RL RX11 99 yX11_save cX11_save 2 (some .int) 1 := ⟨gt_in 1021 (by decide +kernel) (by decide +kernel), yf_X11_save⟩
theorem yf_X11_restore : (Cond.instanceMethod yX11_restore) ∈ gtbl ∧ (Cond.selects RX11 yX11_restore yX11_restore) ∈ gtbl ∧ (Cond.initialized RX11) ∈ gtbl ∧ (Cond.code yX11_restore cX11_restore 2 (some .int)) ∈ gtbl ∧ (yX11_restore.cls = RX11 ∧ yX11_restore.cls ≠ "java/lang/invoke/MethodHandle" ∧ yX11_restore.cls ≠ "java/lang/invoke/VarHandle" ∧ (parseMethodDescriptor yX11_restore.desc).map (fun d => d.parameters.length) = some 1) := ⟨gt_in 1038 (by decide +kernel) (by decide +kernel), gt_in 1039 (by decide +kernel) (by decide +kernel), gt_in 17 (by decide +kernel) (by decide +kernel), gt_in 1040 (by decide +kernel) (by decide +kernel), by decide +kernel⟩
theorem cw_L_102 : uCW RL RX11 102 yX11_restore cX11_restore 2 (some .int) 1 := ⟨gt_in 1037 (by decide +kernel) (by decide +kernel), yf_X11_restore⟩
def fL_append (V : uV) (a1 : Int32) : Option (Int32 × uV) :=
  bd3 (fX11_append V a1) fun E r V1 => if E = 0 then some (0, uS V1 20 0 (upd (V1 20 0) 0 r)) else if E = 1 then some (1, V1) else if E = 2 then some (2, V1) else none
set_option maxHeartbeats 4000000 in
set_option maxRecDepth 20000 in
theorem kL_append {l : Launch} {G : UG} (hG : uAll G) (hlt : l.stackTraces = false) {V V' : uV} {a1 : Int32} {r : Int32} (h : fL_append V a1 = some (r, V')) : uHi l G yL_append cL_append 4 [(0, 9, 12, 13), (0, 9, 15, 15)] 9 152 [.ref (ga G 18 0), .int a1, .ref (ga G 20 0)] V r V' := by
  refine uHi_of rfl (Nat.le_of_ble_eq_true rfl) (fun p e s m args below meth c ls X hret htb hl M => ?_)
  have hl : lv_has ls 4 [(0, .ref (ga G 18 0)), (1, .int a1), (2, .ref (ga G 20 0))] := hl
  have hx := X.hx
  have hb := X.hb
  unfold fL_append at h
  obtain ⟨E, r1, V1, e1, h⟩ := bd3_e h
  refine lv_aload_n hx hb dL_append_0 rfl (lv_at hl 2 rfl) ?_
  refine lv_iconst (v := 0) hx hb dL_append_1 (by decide) ?_
  refine lv_aload_n hx hb dL_append_2 rfl (lv_at hl 0 rfl) ?_
  refine lv_iload_n hx hb dL_append_3 rfl (lv_at hl 1 rfl) ?_
  refine x_cVx X M hl.1 (kX11_append hG hlt e1) cw_L_7 ⟨Nat.le_of_ble_eq_true rfl, Nat.le_of_ble_eq_true rfl⟩ (rc_X11 X M hG.2.1) rfl rfl (Nat.le_of_ble_eq_true rfl) ⟨Nat.le_refl _, Nat.le_refl _⟩ dL_append_4 (fun K ce q9 H locs hex M hcell hv hcl => ?_) (fun H locs hE M => ?_)
  · rcases hex with ⟨rfl, rfl⟩ | ⟨rfl, rfl⟩ | ⟨rfl, rfl⟩
    · have h := it_f h (by decide)
      have h := it_t h rfl
      refine vx_catch (name := "java/lang/IllegalArgumentException") X.1.2.2.2.1 [] ⟨0, 9, 12, 13⟩ [⟨0, 9, 15, 15⟩] htb (fun z hz => by cases hz) (by decide) (by decide) (X.hts (gt_in 454 (by decide +kernel) (by decide +kernel))) (va_Nw.use rfl (X.2.2.1.2.2.2.2.2.1 _ (List.mem_filter.mpr ⟨List.mem_of_getElem? (i := 468) (by decide +kernel), rfl⟩))) hcell hv hcl ?_
      refine lv_astore_n (lv' := [(3, .ref q9), (0, .ref (ga G 18 0)), (1, .int a1), (2, .ref (ga G 20 0))]) hx hb dL_append_12 rfl hl (by decide) rfl (fun ls hl => ?_)
      refine lv_iconst (v := 1) hx hb dL_append_13 (by decide) ?_
      exact h_iret X hret M (rt2 h).1 (rt2 h).2 dL_append_14
    · have h := it_f h (by decide)
      have h := it_f h (by decide)
      have h := it_t h rfl
      refine vx_catch (name := "java/lang/IllegalStateException") X.1.2.2.2.1 [⟨0, 9, 12, 13⟩] ⟨0, 9, 15, 15⟩ [] htb (fun z hz => by obtain rfl := List.mem_singleton.mp hz; exact Or.inr ⟨by decide, _, X.hts (gt_in 454 (by decide +kernel) (by decide +kernel)), X.2.2.1.2.2.2.2.2.2.1⟩) (by decide) (by decide) (X.hts (gt_in 455 (by decide +kernel) (by decide +kernel))) (va_Nw.use rfl (X.2.2.1.2.2.2.2.2.1 _ (List.mem_filter.mpr ⟨List.mem_of_getElem? (i := 543) (by decide +kernel), rfl⟩))) hcell hv hcl ?_
      refine lv_astore_n (lv' := [(3, .ref q9), (0, .ref (ga G 18 0)), (1, .int a1), (2, .ref (ga G 20 0))]) hx hb dL_append_15 rfl hl (by decide) rfl (fun ls hl => ?_)
      refine lv_iconst (v := 2) hx hb dL_append_16 (by decide) ?_
      exact h_iret X hret M (rt2 h).1 (rt2 h).2 dL_append_17
    · have h := it_f h (by decide)
      have h := it_f h (by decide)
      have h := it_f h (by decide)
      cases h
  · have h := it_t h hE
    refine lv_i2l hx hb dL_append_7 rfl ?_
    refine u_last X M hG.2.2.2.1 dL_append_8 (fun H locs M => ?_)
    refine lv_goto (tgt := 18) hx hb dL_append_9 (by decide) ?_
    refine lv_iconst (v := 0) hx hb dL_append_18 (by decide) ?_
    exact h_iret X hret M (rt2 h).1 (rt2 h).2 dL_append_19
def fL_load (V : uV) : Option (Int32 × uV) :=
  bd3 (fX11_load V ) fun E r V1 => if E = 0 then some (0, uS V1 20 0 (upd (V1 20 0) 0 r)) else if E = 2 then some (1, V1) else none
set_option maxHeartbeats 4000000 in
set_option maxRecDepth 20000 in
theorem kL_load {l : Launch} {G : UG} (hG : uAll G) (hlt : l.stackTraces = false) {V V' : uV} {r : Int32} (h : fL_load V  = some (r, V')) : uHi l G yL_load cL_load 3 [(0, 8, 11, 15)] 8 164 [.ref (ga G 18 0), .ref (ga G 20 0)] V r V' := by
  refine uHi_of rfl (Nat.le_of_ble_eq_true rfl) (fun p e s m args below meth c ls X hret htb hl M => ?_)
  have hl : lv_has ls 3 [(0, .ref (ga G 18 0)), (1, .ref (ga G 20 0))] := hl
  have hx := X.hx
  have hb := X.hb
  unfold fL_load at h
  obtain ⟨E, r1, V1, e1, h⟩ := bd3_e h
  refine lv_aload_n hx hb dL_load_0 rfl (lv_at hl 1 rfl) ?_
  refine lv_iconst (v := 0) hx hb dL_load_1 (by decide) ?_
  refine lv_aload_n hx hb dL_load_2 rfl (lv_at hl 0 rfl) ?_
  refine x_cVx X M hl.1 (kX11_load hG hlt e1) cw_L_17 ⟨Nat.le_of_ble_eq_true rfl, Nat.le_of_ble_eq_true rfl⟩ (rc_X11 X M hG.2.1) rfl rfl (Nat.le_of_ble_eq_true rfl) ⟨Nat.le_refl _, Nat.le_refl _⟩ dL_load_3 (fun K ce q9 H locs hex M hcell hv hcl => ?_) (fun H locs hE M => ?_)
  · rcases hex with ⟨rfl, rfl⟩ | ⟨rfl, rfl⟩ | ⟨rfl, rfl⟩
    · have h := it_f h (by decide)
      have h := it_f h (by decide)
      cases h
    · have h := it_f h (by decide)
      have h := it_t h rfl
      refine vx_catch (name := "java/lang/IllegalStateException") X.1.2.2.2.1 [] ⟨0, 8, 11, 15⟩ [] htb (fun z hz => by cases hz) (by decide) (by decide) (X.hts (gt_in 455 (by decide +kernel) (by decide +kernel))) (va_Nw.use rfl (X.2.2.1.2.2.2.2.2.1 _ (List.mem_filter.mpr ⟨List.mem_of_getElem? (i := 543) (by decide +kernel), rfl⟩))) hcell hv hcl ?_
      refine lv_astore_n (lv' := [(2, .ref q9), (0, .ref (ga G 18 0)), (1, .ref (ga G 20 0))]) hx hb dL_load_11 rfl hl (by decide) rfl (fun ls hl => ?_)
      refine lv_iconst (v := 1) hx hb dL_load_12 (by decide) ?_
      exact h_iret X hret M (rt2 h).1 (rt2 h).2 dL_load_13
    · have h := it_f h (by decide)
      have h := it_f h (by decide)
      cases h
  · have h := it_t h hE
    refine lv_i2l hx hb dL_load_6 rfl ?_
    refine u_last X M hG.2.2.2.1 dL_load_7 (fun H locs M => ?_)
    refine lv_goto (tgt := 14) hx hb dL_load_8 (by decide) ?_
    refine lv_iconst (v := 0) hx hb dL_load_14 (by decide) ?_
    exact h_iret X hret M (rt2 h).1 (rt2 h).2 dL_load_15
def fL_about (V : uV) (a1 : Int32) : Option (Int32 × uV) :=
  bd3 (fX11_about V a1) fun E r V1 => if E = 0 then some (0, uS V1 20 0 (upd (V1 20 0) 0 r)) else if E = 1 then some (1, V1) else none
set_option maxHeartbeats 4000000 in
set_option maxRecDepth 20000 in
theorem kL_about {l : Launch} {G : UG} (hG : uAll G) (hlt : l.stackTraces = false) {V V' : uV} {a1 : Int32} {r : Int32} (h : fL_about V a1 = some (r, V')) : uHi l G yL_about cL_about 4 [(0, 9, 12, 13)] 9 152 [.ref (ga G 18 0), .int a1, .ref (ga G 20 0)] V r V' := by
  refine uHi_of rfl (Nat.le_of_ble_eq_true rfl) (fun p e s m args below meth c ls X hret htb hl M => ?_)
  have hl : lv_has ls 4 [(0, .ref (ga G 18 0)), (1, .int a1), (2, .ref (ga G 20 0))] := hl
  have hx := X.hx
  have hb := X.hb
  unfold fL_about at h
  obtain ⟨E, r1, V1, e1, h⟩ := bd3_e h
  refine lv_aload_n hx hb dL_about_0 rfl (lv_at hl 2 rfl) ?_
  refine lv_iconst (v := 0) hx hb dL_about_1 (by decide) ?_
  refine lv_aload_n hx hb dL_about_2 rfl (lv_at hl 0 rfl) ?_
  refine lv_iload_n hx hb dL_about_3 rfl (lv_at hl 1 rfl) ?_
  refine x_cVx X M hl.1 (kX11_about hG hlt e1) cw_L_21 ⟨Nat.le_of_ble_eq_true rfl, Nat.le_of_ble_eq_true rfl⟩ (rc_X11 X M hG.2.1) rfl rfl (Nat.le_of_ble_eq_true rfl) ⟨Nat.le_refl _, Nat.le_refl _⟩ dL_about_4 (fun K ce q9 H locs hex M hcell hv hcl => ?_) (fun H locs hE M => ?_)
  · rcases hex with ⟨rfl, rfl⟩ | ⟨rfl, rfl⟩ | ⟨rfl, rfl⟩
    · have h := it_f h (by decide)
      have h := it_t h rfl
      refine vx_catch (name := "java/lang/IllegalArgumentException") X.1.2.2.2.1 [] ⟨0, 9, 12, 13⟩ [] htb (fun z hz => by cases hz) (by decide) (by decide) (X.hts (gt_in 454 (by decide +kernel) (by decide +kernel))) (va_Nw.use rfl (X.2.2.1.2.2.2.2.2.1 _ (List.mem_filter.mpr ⟨List.mem_of_getElem? (i := 468) (by decide +kernel), rfl⟩))) hcell hv hcl ?_
      refine lv_astore_n (lv' := [(3, .ref q9), (0, .ref (ga G 18 0)), (1, .int a1), (2, .ref (ga G 20 0))]) hx hb dL_about_12 rfl hl (by decide) rfl (fun ls hl => ?_)
      refine lv_iconst (v := 1) hx hb dL_about_13 (by decide) ?_
      exact h_iret X hret M (rt2 h).1 (rt2 h).2 dL_about_14
    · have h := it_f h (by decide)
      have h := it_f h (by decide)
      cases h
    · have h := it_f h (by decide)
      have h := it_f h (by decide)
      cases h
  · have h := it_t h hE
    refine lv_i2l hx hb dL_about_7 rfl ?_
    refine u_last X M hG.2.2.2.1 dL_about_8 (fun H locs M => ?_)
    refine lv_goto (tgt := 15) hx hb dL_about_9 (by decide) ?_
    refine lv_iconst (v := 0) hx hb dL_about_15 (by decide) ?_
    exact h_iret X hret M (rt2 h).1 (rt2 h).2 dL_about_16
def fL_card (V : uV) (a1 : Int32) (a2 : Int32) : Option (Int32 × uV) :=
  bd3 (fX11_card V a1 a2) fun E r V1 => if E = 0 then some (0, uS V1 20 0 (upd (V1 20 0) 0 r)) else if E = 3 then some (1, V1) else if E = 1 then some (2, V1) else none
set_option maxHeartbeats 4000000 in
set_option maxRecDepth 20000 in
theorem kL_card {l : Launch} {G : UG} (hG : uAll G) (hlt : l.stackTraces = false) {V V' : uV} {a1 : Int32} {a2 : Int32} {r : Int32} (h : fL_card V a1 a2 = some (r, V')) : uHi l G yL_card cL_card 5 [(0, 10, 13, 28), (0, 10, 17, 13)] 9 153 [.ref (ga G 18 0), .int a1, .int a2, .ref (ga G 20 0)] V r V' := by
  refine uHi_of rfl (Nat.le_of_ble_eq_true rfl) (fun p e s m args below meth c ls X hret htb hl M => ?_)
  have hl : lv_has ls 5 [(0, .ref (ga G 18 0)), (1, .int a1), (2, .int a2), (3, .ref (ga G 20 0))] := hl
  have hx := X.hx
  have hb := X.hb
  unfold fL_card at h
  obtain ⟨E, r1, V1, e1, h⟩ := bd3_e h
  refine lv_aload_n hx hb dL_card_0 rfl (lv_at hl 3 rfl) ?_
  refine lv_iconst (v := 0) hx hb dL_card_1 (by decide) ?_
  refine lv_aload_n hx hb dL_card_2 rfl (lv_at hl 0 rfl) ?_
  refine lv_iload_n hx hb dL_card_3 rfl (lv_at hl 1 rfl) ?_
  refine lv_iload_n hx hb dL_card_4 rfl (lv_at hl 2 rfl) ?_
  refine x_cVx X M hl.1 (kX11_card hG hlt e1) cw_L_24 ⟨Nat.le_of_ble_eq_true rfl, Nat.le_of_ble_eq_true rfl⟩ (rc_X11 X M hG.2.1) rfl rfl (Nat.le_of_ble_eq_true rfl) ⟨Nat.le_refl _, Nat.le_refl _⟩ dL_card_5 (fun K ce q9 H locs hex M hcell hv hcl => ?_) (fun H locs hE M => ?_)
  · rcases hex with ⟨rfl, rfl⟩ | ⟨rfl, rfl⟩ | ⟨rfl, rfl⟩
    · have h := it_f h (by decide)
      have h := it_f h (by decide)
      have h := it_t h rfl
      refine vx_catch (name := "java/lang/IllegalArgumentException") X.1.2.2.2.1 [⟨0, 10, 13, 28⟩] ⟨0, 10, 17, 13⟩ [] htb (fun z hz => by obtain rfl := List.mem_singleton.mp hz; exact Or.inr ⟨by decide, _, X.hts (gt_in 730 (by decide +kernel) (by decide +kernel)), X.2.2.1.2.2.2.2.2.2.2.1⟩) (by decide) (by decide) (X.hts (gt_in 454 (by decide +kernel) (by decide +kernel))) (va_Nw.use rfl (X.2.2.1.2.2.2.2.2.1 _ (List.mem_filter.mpr ⟨List.mem_of_getElem? (i := 468) (by decide +kernel), rfl⟩))) hcell hv hcl ?_
      refine lv_astore (lv' := [(4, .ref q9), (0, .ref (ga G 18 0)), (1, .int a1), (2, .int a2), (3, .ref (ga G 20 0))]) hx hb dL_card_17 hl (by decide) rfl (fun ls hl => ?_)
      refine lv_iconst (v := 2) hx hb dL_card_19 (by decide) ?_
      exact h_iret X hret M (rt2 h).1 (rt2 h).2 dL_card_20
    · have h := it_f h (by decide)
      have h := it_f h (by decide)
      have h := it_f h (by decide)
      cases h
    · have h := it_f h (by decide)
      have h := it_t h rfl
      refine vx_catch (name := "java/lang/IndexOutOfBoundsException") X.1.2.2.2.1 [] ⟨0, 10, 13, 28⟩ [⟨0, 10, 17, 13⟩] htb (fun z hz => by cases hz) (by decide) (by decide) (X.hts (gt_in 730 (by decide +kernel) (by decide +kernel))) (va_Nw.use rfl (X.2.2.1.2.2.2.2.2.1 _ (List.mem_filter.mpr ⟨List.mem_of_getElem? (i := 741) (by decide +kernel), rfl⟩))) hcell hv hcl ?_
      refine lv_astore (lv' := [(4, .ref q9), (0, .ref (ga G 18 0)), (1, .int a1), (2, .int a2), (3, .ref (ga G 20 0))]) hx hb dL_card_13 hl (by decide) rfl (fun ls hl => ?_)
      refine lv_iconst (v := 1) hx hb dL_card_15 (by decide) ?_
      exact h_iret X hret M (rt2 h).1 (rt2 h).2 dL_card_16
  · have h := it_t h hE
    refine lv_i2l hx hb dL_card_8 rfl ?_
    refine u_last X M hG.2.2.2.1 dL_card_9 (fun H locs M => ?_)
    refine lv_goto (tgt := 21) hx hb dL_card_10 (by decide) ?_
    refine lv_iconst (v := 0) hx hb dL_card_21 (by decide) ?_
    exact h_iret X hret M (rt2 h).1 (rt2 h).2 dL_card_22
def fL_account (V : uV) (a1 : Int32) (a2 : Int32) : Option (Int32 × uV) :=
  bd3 (fX11_account V a1 a2) fun E r V1 => if E = 0 then some (0, uS V1 20 0 (upd (V1 20 0) 0 r)) else if E = 3 then some (1, V1) else if E = 1 then some (2, V1) else none
set_option maxHeartbeats 4000000 in
set_option maxRecDepth 20000 in
theorem kL_account {l : Launch} {G : UG} (hG : uAll G) (hlt : l.stackTraces = false) {V V' : uV} {a1 : Int32} {a2 : Int32} {r : Int32} (h : fL_account V a1 a2 = some (r, V')) : uHi l G yL_account cL_account 5 [(0, 10, 13, 28), (0, 10, 17, 13)] 9 153 [.ref (ga G 18 0), .int a1, .int a2, .ref (ga G 20 0)] V r V' := by
  refine uHi_of rfl (Nat.le_of_ble_eq_true rfl) (fun p e s m args below meth c ls X hret htb hl M => ?_)
  have hl : lv_has ls 5 [(0, .ref (ga G 18 0)), (1, .int a1), (2, .int a2), (3, .ref (ga G 20 0))] := hl
  have hx := X.hx
  have hb := X.hb
  unfold fL_account at h
  obtain ⟨E, r1, V1, e1, h⟩ := bd3_e h
  refine lv_aload_n hx hb dL_account_0 rfl (lv_at hl 3 rfl) ?_
  refine lv_iconst (v := 0) hx hb dL_account_1 (by decide) ?_
  refine lv_aload_n hx hb dL_account_2 rfl (lv_at hl 0 rfl) ?_
  refine lv_iload_n hx hb dL_account_3 rfl (lv_at hl 1 rfl) ?_
  refine lv_iload_n hx hb dL_account_4 rfl (lv_at hl 2 rfl) ?_
  refine x_cVx X M hl.1 (kX11_account hG hlt e1) cw_L_30 ⟨Nat.le_of_ble_eq_true rfl, Nat.le_of_ble_eq_true rfl⟩ (rc_X11 X M hG.2.1) rfl rfl (Nat.le_of_ble_eq_true rfl) ⟨Nat.le_refl _, Nat.le_refl _⟩ dL_account_5 (fun K ce q9 H locs hex M hcell hv hcl => ?_) (fun H locs hE M => ?_)
  · rcases hex with ⟨rfl, rfl⟩ | ⟨rfl, rfl⟩ | ⟨rfl, rfl⟩
    · have h := it_f h (by decide)
      have h := it_f h (by decide)
      have h := it_t h rfl
      refine vx_catch (name := "java/lang/IllegalArgumentException") X.1.2.2.2.1 [⟨0, 10, 13, 28⟩] ⟨0, 10, 17, 13⟩ [] htb (fun z hz => by obtain rfl := List.mem_singleton.mp hz; exact Or.inr ⟨by decide, _, X.hts (gt_in 730 (by decide +kernel) (by decide +kernel)), X.2.2.1.2.2.2.2.2.2.2.1⟩) (by decide) (by decide) (X.hts (gt_in 454 (by decide +kernel) (by decide +kernel))) (va_Nw.use rfl (X.2.2.1.2.2.2.2.2.1 _ (List.mem_filter.mpr ⟨List.mem_of_getElem? (i := 468) (by decide +kernel), rfl⟩))) hcell hv hcl ?_
      refine lv_astore (lv' := [(4, .ref q9), (0, .ref (ga G 18 0)), (1, .int a1), (2, .int a2), (3, .ref (ga G 20 0))]) hx hb dL_account_17 hl (by decide) rfl (fun ls hl => ?_)
      refine lv_iconst (v := 2) hx hb dL_account_19 (by decide) ?_
      exact h_iret X hret M (rt2 h).1 (rt2 h).2 dL_account_20
    · have h := it_f h (by decide)
      have h := it_f h (by decide)
      have h := it_f h (by decide)
      cases h
    · have h := it_f h (by decide)
      have h := it_t h rfl
      refine vx_catch (name := "java/lang/IndexOutOfBoundsException") X.1.2.2.2.1 [] ⟨0, 10, 13, 28⟩ [⟨0, 10, 17, 13⟩] htb (fun z hz => by cases hz) (by decide) (by decide) (X.hts (gt_in 730 (by decide +kernel) (by decide +kernel))) (va_Nw.use rfl (X.2.2.1.2.2.2.2.2.1 _ (List.mem_filter.mpr ⟨List.mem_of_getElem? (i := 741) (by decide +kernel), rfl⟩))) hcell hv hcl ?_
      refine lv_astore (lv' := [(4, .ref q9), (0, .ref (ga G 18 0)), (1, .int a1), (2, .int a2), (3, .ref (ga G 20 0))]) hx hb dL_account_13 hl (by decide) rfl (fun ls hl => ?_)
      refine lv_iconst (v := 1) hx hb dL_account_15 (by decide) ?_
      exact h_iret X hret M (rt2 h).1 (rt2 h).2 dL_account_16
  · have h := it_t h hE
    refine lv_i2l hx hb dL_account_8 rfl ?_
    refine u_last X M hG.2.2.2.1 dL_account_9 (fun H locs M => ?_)
    refine lv_goto (tgt := 21) hx hb dL_account_10 (by decide) ?_
    refine lv_iconst (v := 0) hx hb dL_account_21 (by decide) ?_
    exact h_iret X hret M (rt2 h).1 (rt2 h).2 dL_account_22
def fL_gate (V : uV) (a1 : Int32) (a2 : Int32) : Option (Int32 × uV) :=
  bd3 (fX11_gate V a1 a2) fun E r V1 => if E = 0 then some (0, uS V1 20 0 (upd (V1 20 0) 0 r)) else if E = 3 then some (1, V1) else if E = 1 then some (2, V1) else none
set_option maxHeartbeats 4000000 in
set_option maxRecDepth 20000 in
theorem kL_gate {l : Launch} {G : UG} (hG : uAll G) (hlt : l.stackTraces = false) {V V' : uV} {a1 : Int32} {a2 : Int32} {r : Int32} (h : fL_gate V a1 a2 = some (r, V')) : uHi l G yL_gate cL_gate 5 [(0, 10, 13, 28), (0, 10, 17, 13)] 9 153 [.ref (ga G 18 0), .int a1, .int a2, .ref (ga G 20 0)] V r V' := by
  refine uHi_of rfl (Nat.le_of_ble_eq_true rfl) (fun p e s m args below meth c ls X hret htb hl M => ?_)
  have hl : lv_has ls 5 [(0, .ref (ga G 18 0)), (1, .int a1), (2, .int a2), (3, .ref (ga G 20 0))] := hl
  have hx := X.hx
  have hb := X.hb
  unfold fL_gate at h
  obtain ⟨E, r1, V1, e1, h⟩ := bd3_e h
  refine lv_aload_n hx hb dL_gate_0 rfl (lv_at hl 3 rfl) ?_
  refine lv_iconst (v := 0) hx hb dL_gate_1 (by decide) ?_
  refine lv_aload_n hx hb dL_gate_2 rfl (lv_at hl 0 rfl) ?_
  refine lv_iload_n hx hb dL_gate_3 rfl (lv_at hl 1 rfl) ?_
  refine lv_iload_n hx hb dL_gate_4 rfl (lv_at hl 2 rfl) ?_
  refine x_cVx X M hl.1 (kX11_gate hG hlt e1) cw_L_33 ⟨Nat.le_of_ble_eq_true rfl, Nat.le_of_ble_eq_true rfl⟩ (rc_X11 X M hG.2.1) rfl rfl (Nat.le_of_ble_eq_true rfl) ⟨Nat.le_refl _, Nat.le_refl _⟩ dL_gate_5 (fun K ce q9 H locs hex M hcell hv hcl => ?_) (fun H locs hE M => ?_)
  · rcases hex with ⟨rfl, rfl⟩ | ⟨rfl, rfl⟩ | ⟨rfl, rfl⟩
    · have h := it_f h (by decide)
      have h := it_f h (by decide)
      have h := it_t h rfl
      refine vx_catch (name := "java/lang/IllegalArgumentException") X.1.2.2.2.1 [⟨0, 10, 13, 28⟩] ⟨0, 10, 17, 13⟩ [] htb (fun z hz => by obtain rfl := List.mem_singleton.mp hz; exact Or.inr ⟨by decide, _, X.hts (gt_in 730 (by decide +kernel) (by decide +kernel)), X.2.2.1.2.2.2.2.2.2.2.1⟩) (by decide) (by decide) (X.hts (gt_in 454 (by decide +kernel) (by decide +kernel))) (va_Nw.use rfl (X.2.2.1.2.2.2.2.2.1 _ (List.mem_filter.mpr ⟨List.mem_of_getElem? (i := 468) (by decide +kernel), rfl⟩))) hcell hv hcl ?_
      refine lv_astore (lv' := [(4, .ref q9), (0, .ref (ga G 18 0)), (1, .int a1), (2, .int a2), (3, .ref (ga G 20 0))]) hx hb dL_gate_17 hl (by decide) rfl (fun ls hl => ?_)
      refine lv_iconst (v := 2) hx hb dL_gate_19 (by decide) ?_
      exact h_iret X hret M (rt2 h).1 (rt2 h).2 dL_gate_20
    · have h := it_f h (by decide)
      have h := it_f h (by decide)
      have h := it_f h (by decide)
      cases h
    · have h := it_f h (by decide)
      have h := it_t h rfl
      refine vx_catch (name := "java/lang/IndexOutOfBoundsException") X.1.2.2.2.1 [] ⟨0, 10, 13, 28⟩ [⟨0, 10, 17, 13⟩] htb (fun z hz => by cases hz) (by decide) (by decide) (X.hts (gt_in 730 (by decide +kernel) (by decide +kernel))) (va_Nw.use rfl (X.2.2.1.2.2.2.2.2.1 _ (List.mem_filter.mpr ⟨List.mem_of_getElem? (i := 741) (by decide +kernel), rfl⟩))) hcell hv hcl ?_
      refine lv_astore (lv' := [(4, .ref q9), (0, .ref (ga G 18 0)), (1, .int a1), (2, .int a2), (3, .ref (ga G 20 0))]) hx hb dL_gate_13 hl (by decide) rfl (fun ls hl => ?_)
      refine lv_iconst (v := 1) hx hb dL_gate_15 (by decide) ?_
      exact h_iret X hret M (rt2 h).1 (rt2 h).2 dL_gate_16
  · have h := it_t h hE
    refine lv_i2l hx hb dL_gate_8 rfl ?_
    refine u_last X M hG.2.2.2.1 dL_gate_9 (fun H locs M => ?_)
    refine lv_goto (tgt := 21) hx hb dL_gate_10 (by decide) ?_
    refine lv_iconst (v := 0) hx hb dL_gate_21 (by decide) ?_
    exact h_iret X hret M (rt2 h).1 (rt2 h).2 dL_gate_22
def fL_logged (V : uV) (a1 : Int32) (a2 : Int32) (a3 : Int32) : Option (Int32 × uV) :=
  bd3 (fX11_logged V a1 a2 a3) fun E r V1 => if E = 0 then some (0, uS V1 20 0 (upd (V1 20 0) 0 r)) else if E = 3 then some (1, V1) else if E = 1 then some (2, V1) else none
set_option maxHeartbeats 4000000 in
set_option maxRecDepth 20000 in
theorem kL_logged {l : Launch} {G : UG} (hG : uAll G) (hlt : l.stackTraces = false) {V V' : uV} {a1 : Int32} {a2 : Int32} {a3 : Int32} {r : Int32} (h : fL_logged V a1 a2 a3 = some (r, V')) : uHi l G yL_logged cL_logged 6 [(0, 12, 15, 28), (0, 12, 19, 13)] 9 154 [.ref (ga G 18 0), .int a1, .int a2, .int a3, .ref (ga G 20 0)] V r V' := by
  refine uHi_of rfl (Nat.le_of_ble_eq_true rfl) (fun p e s m args below meth c ls X hret htb hl M => ?_)
  have hl : lv_has ls 6 [(0, .ref (ga G 18 0)), (1, .int a1), (2, .int a2), (3, .int a3), (4, .ref (ga G 20 0))] := hl
  have hx := X.hx
  have hb := X.hb
  unfold fL_logged at h
  obtain ⟨E, r1, V1, e1, h⟩ := bd3_e h
  refine lv_aload hx hb dL_logged_0 (lv_at hl 4 rfl) ?_
  refine lv_iconst (v := 0) hx hb dL_logged_2 (by decide) ?_
  refine lv_aload_n hx hb dL_logged_3 rfl (lv_at hl 0 rfl) ?_
  refine lv_iload_n hx hb dL_logged_4 rfl (lv_at hl 1 rfl) ?_
  refine lv_iload_n hx hb dL_logged_5 rfl (lv_at hl 2 rfl) ?_
  refine lv_iload_n hx hb dL_logged_6 rfl (lv_at hl 3 rfl) ?_
  refine x_cVx X M hl.1 (kX11_logged hG hlt e1) cw_L_36 ⟨Nat.le_of_ble_eq_true rfl, Nat.le_of_ble_eq_true rfl⟩ (rc_X11 X M hG.2.1) rfl rfl (Nat.le_of_ble_eq_true rfl) ⟨Nat.le_refl _, Nat.le_refl _⟩ dL_logged_7 (fun K ce q9 H locs hex M hcell hv hcl => ?_) (fun H locs hE M => ?_)
  · rcases hex with ⟨rfl, rfl⟩ | ⟨rfl, rfl⟩ | ⟨rfl, rfl⟩
    · have h := it_f h (by decide)
      have h := it_f h (by decide)
      have h := it_t h rfl
      refine vx_catch (name := "java/lang/IllegalArgumentException") X.1.2.2.2.1 [⟨0, 12, 15, 28⟩] ⟨0, 12, 19, 13⟩ [] htb (fun z hz => by obtain rfl := List.mem_singleton.mp hz; exact Or.inr ⟨by decide, _, X.hts (gt_in 730 (by decide +kernel) (by decide +kernel)), X.2.2.1.2.2.2.2.2.2.2.1⟩) (by decide) (by decide) (X.hts (gt_in 454 (by decide +kernel) (by decide +kernel))) (va_Nw.use rfl (X.2.2.1.2.2.2.2.2.1 _ (List.mem_filter.mpr ⟨List.mem_of_getElem? (i := 468) (by decide +kernel), rfl⟩))) hcell hv hcl ?_
      refine lv_astore (lv' := [(5, .ref q9), (0, .ref (ga G 18 0)), (1, .int a1), (2, .int a2), (3, .int a3), (4, .ref (ga G 20 0))]) hx hb dL_logged_19 hl (by decide) rfl (fun ls hl => ?_)
      refine lv_iconst (v := 2) hx hb dL_logged_21 (by decide) ?_
      exact h_iret X hret M (rt2 h).1 (rt2 h).2 dL_logged_22
    · have h := it_f h (by decide)
      have h := it_f h (by decide)
      have h := it_f h (by decide)
      cases h
    · have h := it_f h (by decide)
      have h := it_t h rfl
      refine vx_catch (name := "java/lang/IndexOutOfBoundsException") X.1.2.2.2.1 [] ⟨0, 12, 15, 28⟩ [⟨0, 12, 19, 13⟩] htb (fun z hz => by cases hz) (by decide) (by decide) (X.hts (gt_in 730 (by decide +kernel) (by decide +kernel))) (va_Nw.use rfl (X.2.2.1.2.2.2.2.2.1 _ (List.mem_filter.mpr ⟨List.mem_of_getElem? (i := 741) (by decide +kernel), rfl⟩))) hcell hv hcl ?_
      refine lv_astore (lv' := [(5, .ref q9), (0, .ref (ga G 18 0)), (1, .int a1), (2, .int a2), (3, .int a3), (4, .ref (ga G 20 0))]) hx hb dL_logged_15 hl (by decide) rfl (fun ls hl => ?_)
      refine lv_iconst (v := 1) hx hb dL_logged_17 (by decide) ?_
      exact h_iret X hret M (rt2 h).1 (rt2 h).2 dL_logged_18
  · have h := it_t h hE
    refine lv_i2l hx hb dL_logged_10 rfl ?_
    refine u_last X M hG.2.2.2.1 dL_logged_11 (fun H locs M => ?_)
    refine lv_goto (tgt := 23) hx hb dL_logged_12 (by decide) ?_
    refine lv_iconst (v := 0) hx hb dL_logged_23 (by decide) ?_
    exact h_iret X hret M (rt2 h).1 (rt2 h).2 dL_logged_24
def fL_setting (V : uV) (a1 : Int32) : Option (Int32 × uV) :=
  bd3 (fX11_setting V a1) fun E r V1 => if E = 0 then some (0, uS V1 20 0 (upd (V1 20 0) 0 r)) else if E = 1 then some (1, V1) else none
set_option maxHeartbeats 4000000 in
set_option maxRecDepth 20000 in
theorem kL_setting {l : Launch} {G : UG} (hG : uAll G) (hlt : l.stackTraces = false) {V V' : uV} {a1 : Int32} {r : Int32} (h : fL_setting V a1 = some (r, V')) : uHi l G yL_setting cL_setting 4 [(0, 9, 12, 13)] 9 152 [.ref (ga G 18 0), .int a1, .ref (ga G 20 0)] V r V' := by
  refine uHi_of rfl (Nat.le_of_ble_eq_true rfl) (fun p e s m args below meth c ls X hret htb hl M => ?_)
  have hl : lv_has ls 4 [(0, .ref (ga G 18 0)), (1, .int a1), (2, .ref (ga G 20 0))] := hl
  have hx := X.hx
  have hb := X.hb
  unfold fL_setting at h
  obtain ⟨E, r1, V1, e1, h⟩ := bd3_e h
  refine lv_aload_n hx hb dL_setting_0 rfl (lv_at hl 2 rfl) ?_
  refine lv_iconst (v := 0) hx hb dL_setting_1 (by decide) ?_
  refine lv_aload_n hx hb dL_setting_2 rfl (lv_at hl 0 rfl) ?_
  refine lv_iload_n hx hb dL_setting_3 rfl (lv_at hl 1 rfl) ?_
  refine x_cVx X M hl.1 (kX11_setting hG hlt e1) cw_L_40 ⟨Nat.le_of_ble_eq_true rfl, Nat.le_of_ble_eq_true rfl⟩ (rc_X11 X M hG.2.1) rfl rfl (Nat.le_of_ble_eq_true rfl) ⟨Nat.le_refl _, Nat.le_refl _⟩ dL_setting_4 (fun K ce q9 H locs hex M hcell hv hcl => ?_) (fun H locs hE M => ?_)
  · rcases hex with ⟨rfl, rfl⟩ | ⟨rfl, rfl⟩ | ⟨rfl, rfl⟩
    · have h := it_f h (by decide)
      have h := it_t h rfl
      refine vx_catch (name := "java/lang/IllegalArgumentException") X.1.2.2.2.1 [] ⟨0, 9, 12, 13⟩ [] htb (fun z hz => by cases hz) (by decide) (by decide) (X.hts (gt_in 454 (by decide +kernel) (by decide +kernel))) (va_Nw.use rfl (X.2.2.1.2.2.2.2.2.1 _ (List.mem_filter.mpr ⟨List.mem_of_getElem? (i := 468) (by decide +kernel), rfl⟩))) hcell hv hcl ?_
      refine lv_astore_n (lv' := [(3, .ref q9), (0, .ref (ga G 18 0)), (1, .int a1), (2, .ref (ga G 20 0))]) hx hb dL_setting_12 rfl hl (by decide) rfl (fun ls hl => ?_)
      refine lv_iconst (v := 1) hx hb dL_setting_13 (by decide) ?_
      exact h_iret X hret M (rt2 h).1 (rt2 h).2 dL_setting_14
    · have h := it_f h (by decide)
      have h := it_f h (by decide)
      cases h
    · have h := it_f h (by decide)
      have h := it_f h (by decide)
      cases h
  · have h := it_t h hE
    refine lv_i2l hx hb dL_setting_7 rfl ?_
    refine u_last X M hG.2.2.2.1 dL_setting_8 (fun H locs M => ?_)
    refine lv_goto (tgt := 15) hx hb dL_setting_9 (by decide) ?_
    refine lv_iconst (v := 0) hx hb dL_setting_15 (by decide) ?_
    exact h_iret X hret M (rt2 h).1 (rt2 h).2 dL_setting_16
def fL_issue (V : uV) (a1 : Int32) : Option (Int32 × uV) :=
  bd3 (fX11_issue V a1) fun E r V1 => if E = 0 then some (0, uS V1 20 0 (upd (V1 20 0) 0 r)) else if E = 1 then some (1, V1) else if E = 2 then some (2, V1) else none
set_option maxHeartbeats 4000000 in
set_option maxRecDepth 20000 in
theorem kL_issue {l : Launch} {G : UG} (hG : uAll G) (hlt : l.stackTraces = false) {V V' : uV} {a1 : Int32} {r : Int32} (h : fL_issue V a1 = some (r, V')) : uHi l G yL_issue cL_issue 4 [(0, 9, 12, 13), (0, 9, 15, 15)] 9 166 [.ref (ga G 18 0), .int a1, .ref (ga G 20 0)] V r V' := by
  refine uHi_of rfl (Nat.le_of_ble_eq_true rfl) (fun p e s m args below meth c ls X hret htb hl M => ?_)
  have hl : lv_has ls 4 [(0, .ref (ga G 18 0)), (1, .int a1), (2, .ref (ga G 20 0))] := hl
  have hx := X.hx
  have hb := X.hb
  unfold fL_issue at h
  obtain ⟨E, r1, V1, e1, h⟩ := bd3_e h
  refine lv_aload_n hx hb dL_issue_0 rfl (lv_at hl 2 rfl) ?_
  refine lv_iconst (v := 0) hx hb dL_issue_1 (by decide) ?_
  refine lv_aload_n hx hb dL_issue_2 rfl (lv_at hl 0 rfl) ?_
  refine lv_iload_n hx hb dL_issue_3 rfl (lv_at hl 1 rfl) ?_
  refine x_cVx X M hl.1 (kX11_issue hG hlt e1) cw_L_43 ⟨Nat.le_of_ble_eq_true rfl, Nat.le_of_ble_eq_true rfl⟩ (rc_X11 X M hG.2.1) rfl rfl (Nat.le_of_ble_eq_true rfl) ⟨Nat.le_refl _, Nat.le_refl _⟩ dL_issue_4 (fun K ce q9 H locs hex M hcell hv hcl => ?_) (fun H locs hE M => ?_)
  · rcases hex with ⟨rfl, rfl⟩ | ⟨rfl, rfl⟩ | ⟨rfl, rfl⟩
    · have h := it_f h (by decide)
      have h := it_t h rfl
      refine vx_catch (name := "java/lang/IllegalArgumentException") X.1.2.2.2.1 [] ⟨0, 9, 12, 13⟩ [⟨0, 9, 15, 15⟩] htb (fun z hz => by cases hz) (by decide) (by decide) (X.hts (gt_in 454 (by decide +kernel) (by decide +kernel))) (va_Nw.use rfl (X.2.2.1.2.2.2.2.2.1 _ (List.mem_filter.mpr ⟨List.mem_of_getElem? (i := 468) (by decide +kernel), rfl⟩))) hcell hv hcl ?_
      refine lv_astore_n (lv' := [(3, .ref q9), (0, .ref (ga G 18 0)), (1, .int a1), (2, .ref (ga G 20 0))]) hx hb dL_issue_12 rfl hl (by decide) rfl (fun ls hl => ?_)
      refine lv_iconst (v := 1) hx hb dL_issue_13 (by decide) ?_
      exact h_iret X hret M (rt2 h).1 (rt2 h).2 dL_issue_14
    · have h := it_f h (by decide)
      have h := it_f h (by decide)
      have h := it_t h rfl
      refine vx_catch (name := "java/lang/IllegalStateException") X.1.2.2.2.1 [⟨0, 9, 12, 13⟩] ⟨0, 9, 15, 15⟩ [] htb (fun z hz => by obtain rfl := List.mem_singleton.mp hz; exact Or.inr ⟨by decide, _, X.hts (gt_in 454 (by decide +kernel) (by decide +kernel)), X.2.2.1.2.2.2.2.2.2.1⟩) (by decide) (by decide) (X.hts (gt_in 455 (by decide +kernel) (by decide +kernel))) (va_Nw.use rfl (X.2.2.1.2.2.2.2.2.1 _ (List.mem_filter.mpr ⟨List.mem_of_getElem? (i := 543) (by decide +kernel), rfl⟩))) hcell hv hcl ?_
      refine lv_astore_n (lv' := [(3, .ref q9), (0, .ref (ga G 18 0)), (1, .int a1), (2, .ref (ga G 20 0))]) hx hb dL_issue_15 rfl hl (by decide) rfl (fun ls hl => ?_)
      refine lv_iconst (v := 2) hx hb dL_issue_16 (by decide) ?_
      exact h_iret X hret M (rt2 h).1 (rt2 h).2 dL_issue_17
    · have h := it_f h (by decide)
      have h := it_f h (by decide)
      have h := it_f h (by decide)
      cases h
  · have h := it_t h hE
    refine lv_i2l hx hb dL_issue_7 rfl ?_
    refine u_last X M hG.2.2.2.1 dL_issue_8 (fun H locs M => ?_)
    refine lv_goto (tgt := 18) hx hb dL_issue_9 (by decide) ?_
    refine lv_iconst (v := 0) hx hb dL_issue_18 (by decide) ?_
    exact h_iret X hret M (rt2 h).1 (rt2 h).2 dL_issue_19
def fL_copy (V : uV) (a1 : Int32) : Option (Int32 × uV) :=
  bd3 (fX11_copy V a1) fun E r V1 => if E = 0 then some (0, uS V1 20 0 (upd (V1 20 0) 0 r)) else if E = 3 then some (1, V1) else if E = 2 then some (2, V1) else none
set_option maxHeartbeats 4000000 in
set_option maxRecDepth 20000 in
theorem kL_copy {l : Launch} {G : UG} (hG : uAll G) (hlt : l.stackTraces = false) {V V' : uV} {a1 : Int32} {r : Int32} (h : fL_copy V a1 = some (r, V')) : uHi l G yL_copy cL_copy 4 [(0, 9, 12, 28), (0, 9, 15, 15)] 8 166 [.ref (ga G 18 0), .int a1, .ref (ga G 20 0)] V r V' := by
  refine uHi_of rfl (Nat.le_of_ble_eq_true rfl) (fun p e s m args below meth c ls X hret htb hl M => ?_)
  have hl : lv_has ls 4 [(0, .ref (ga G 18 0)), (1, .int a1), (2, .ref (ga G 20 0))] := hl
  have hx := X.hx
  have hb := X.hb
  unfold fL_copy at h
  obtain ⟨E, r1, V1, e1, h⟩ := bd3_e h
  refine lv_aload_n hx hb dL_copy_0 rfl (lv_at hl 2 rfl) ?_
  refine lv_iconst (v := 0) hx hb dL_copy_1 (by decide) ?_
  refine lv_aload_n hx hb dL_copy_2 rfl (lv_at hl 0 rfl) ?_
  refine lv_iload_n hx hb dL_copy_3 rfl (lv_at hl 1 rfl) ?_
  refine x_cVx X M hl.1 (kX11_copy hG hlt e1) cw_L_46 ⟨Nat.le_of_ble_eq_true rfl, Nat.le_of_ble_eq_true rfl⟩ (rc_X11 X M hG.2.1) rfl rfl (Nat.le_of_ble_eq_true rfl) ⟨Nat.le_refl _, Nat.le_refl _⟩ dL_copy_4 (fun K ce q9 H locs hex M hcell hv hcl => ?_) (fun H locs hE M => ?_)
  · rcases hex with ⟨rfl, rfl⟩ | ⟨rfl, rfl⟩ | ⟨rfl, rfl⟩
    · have h := it_f h (by decide)
      have h := it_f h (by decide)
      have h := it_f h (by decide)
      cases h
    · have h := it_f h (by decide)
      have h := it_f h (by decide)
      have h := it_t h rfl
      refine vx_catch (name := "java/lang/IllegalStateException") X.1.2.2.2.1 [⟨0, 9, 12, 28⟩] ⟨0, 9, 15, 15⟩ [] htb (fun z hz => by obtain rfl := List.mem_singleton.mp hz; exact Or.inr ⟨by decide, _, X.hts (gt_in 730 (by decide +kernel) (by decide +kernel)), X.2.2.1.2.2.2.2.2.2.2.2⟩) (by decide) (by decide) (X.hts (gt_in 455 (by decide +kernel) (by decide +kernel))) (va_Nw.use rfl (X.2.2.1.2.2.2.2.2.1 _ (List.mem_filter.mpr ⟨List.mem_of_getElem? (i := 543) (by decide +kernel), rfl⟩))) hcell hv hcl ?_
      refine lv_astore_n (lv' := [(3, .ref q9), (0, .ref (ga G 18 0)), (1, .int a1), (2, .ref (ga G 20 0))]) hx hb dL_copy_15 rfl hl (by decide) rfl (fun ls hl => ?_)
      refine lv_iconst (v := 2) hx hb dL_copy_16 (by decide) ?_
      exact h_iret X hret M (rt2 h).1 (rt2 h).2 dL_copy_17
    · have h := it_f h (by decide)
      have h := it_t h rfl
      refine vx_catch (name := "java/lang/IndexOutOfBoundsException") X.1.2.2.2.1 [] ⟨0, 9, 12, 28⟩ [⟨0, 9, 15, 15⟩] htb (fun z hz => by cases hz) (by decide) (by decide) (X.hts (gt_in 730 (by decide +kernel) (by decide +kernel))) (va_Nw.use rfl (X.2.2.1.2.2.2.2.2.1 _ (List.mem_filter.mpr ⟨List.mem_of_getElem? (i := 741) (by decide +kernel), rfl⟩))) hcell hv hcl ?_
      refine lv_astore_n (lv' := [(3, .ref q9), (0, .ref (ga G 18 0)), (1, .int a1), (2, .ref (ga G 20 0))]) hx hb dL_copy_12 rfl hl (by decide) rfl (fun ls hl => ?_)
      refine lv_iconst (v := 1) hx hb dL_copy_13 (by decide) ?_
      exact h_iret X hret M (rt2 h).1 (rt2 h).2 dL_copy_14
  · have h := it_t h hE
    refine lv_i2l hx hb dL_copy_7 rfl ?_
    refine u_last X M hG.2.2.2.1 dL_copy_8 (fun H locs M => ?_)
    refine lv_goto (tgt := 18) hx hb dL_copy_9 (by decide) ?_
    refine lv_iconst (v := 0) hx hb dL_copy_18 (by decide) ?_
    exact h_iret X hret M (rt2 h).1 (rt2 h).2 dL_copy_19
def fL_ride (V : uV) (a1 : Int32) (a2 : Int32) : Option (Int32 × uV) :=
  bd3 (fX11_ride V a1 a2) fun E r V1 => if E = 0 then some (0, uS V1 20 0 (upd (V1 20 0) 0 r)) else if E = 3 then some (1, V1) else none
set_option maxHeartbeats 4000000 in
set_option maxRecDepth 20000 in
theorem kL_ride {l : Launch} {G : UG} (hG : uAll G) (hlt : l.stackTraces = false) {V V' : uV} {a1 : Int32} {a2 : Int32} {r : Int32} (h : fL_ride V a1 a2 = some (r, V')) : uHi l G yL_ride cL_ride 5 [(0, 10, 13, 28)] 8 167 [.ref (ga G 18 0), .int a1, .int a2, .ref (ga G 20 0)] V r V' := by
  refine uHi_of rfl (Nat.le_of_ble_eq_true rfl) (fun p e s m args below meth c ls X hret htb hl M => ?_)
  have hl : lv_has ls 5 [(0, .ref (ga G 18 0)), (1, .int a1), (2, .int a2), (3, .ref (ga G 20 0))] := hl
  have hx := X.hx
  have hb := X.hb
  unfold fL_ride at h
  obtain ⟨E, r1, V1, e1, h⟩ := bd3_e h
  refine lv_aload_n hx hb dL_ride_0 rfl (lv_at hl 3 rfl) ?_
  refine lv_iconst (v := 0) hx hb dL_ride_1 (by decide) ?_
  refine lv_aload_n hx hb dL_ride_2 rfl (lv_at hl 0 rfl) ?_
  refine lv_iload_n hx hb dL_ride_3 rfl (lv_at hl 1 rfl) ?_
  refine lv_iload_n hx hb dL_ride_4 rfl (lv_at hl 2 rfl) ?_
  refine x_cVx X M hl.1 (kX11_ride hG hlt e1) cw_L_49 ⟨Nat.le_of_ble_eq_true rfl, Nat.le_of_ble_eq_true rfl⟩ (rc_X11 X M hG.2.1) rfl rfl (Nat.le_of_ble_eq_true rfl) ⟨Nat.le_refl _, Nat.le_refl _⟩ dL_ride_5 (fun K ce q9 H locs hex M hcell hv hcl => ?_) (fun H locs hE M => ?_)
  · rcases hex with ⟨rfl, rfl⟩ | ⟨rfl, rfl⟩ | ⟨rfl, rfl⟩
    · have h := it_f h (by decide)
      have h := it_f h (by decide)
      cases h
    · have h := it_f h (by decide)
      have h := it_f h (by decide)
      cases h
    · have h := it_f h (by decide)
      have h := it_t h rfl
      refine vx_catch (name := "java/lang/IndexOutOfBoundsException") X.1.2.2.2.1 [] ⟨0, 10, 13, 28⟩ [] htb (fun z hz => by cases hz) (by decide) (by decide) (X.hts (gt_in 730 (by decide +kernel) (by decide +kernel))) (va_Nw.use rfl (X.2.2.1.2.2.2.2.2.1 _ (List.mem_filter.mpr ⟨List.mem_of_getElem? (i := 741) (by decide +kernel), rfl⟩))) hcell hv hcl ?_
      refine lv_astore (lv' := [(4, .ref q9), (0, .ref (ga G 18 0)), (1, .int a1), (2, .int a2), (3, .ref (ga G 20 0))]) hx hb dL_ride_13 hl (by decide) rfl (fun ls hl => ?_)
      refine lv_iconst (v := 1) hx hb dL_ride_15 (by decide) ?_
      exact h_iret X hret M (rt2 h).1 (rt2 h).2 dL_ride_16
  · have h := it_t h hE
    refine lv_i2l hx hb dL_ride_8 rfl ?_
    refine u_last X M hG.2.2.2.1 dL_ride_9 (fun H locs M => ?_)
    refine lv_goto (tgt := 17) hx hb dL_ride_10 (by decide) ?_
    refine lv_iconst (v := 0) hx hb dL_ride_17 (by decide) ?_
    exact h_iret X hret M (rt2 h).1 (rt2 h).2 dL_ride_18
def fL_pay (V : uV) (a1 : Int32) (a2 : Int32) : Option (Int32 × uV) :=
  bd3 (fX11_pay V a1 a2) fun E r V1 => if E = 0 then some (0, uS V1 20 0 (upd (V1 20 0) 0 r)) else if E = 3 then some (1, V1) else if E = 1 then some (2, V1) else none
set_option maxHeartbeats 4000000 in
set_option maxRecDepth 20000 in
theorem kL_pay {l : Launch} {G : UG} (hG : uAll G) (hlt : l.stackTraces = false) {V V' : uV} {a1 : Int32} {a2 : Int32} {r : Int32} (h : fL_pay V a1 a2 = some (r, V')) : uHi l G yL_pay cL_pay 5 [(0, 10, 13, 28), (0, 10, 17, 13)] 9 167 [.ref (ga G 18 0), .int a1, .int a2, .ref (ga G 20 0)] V r V' := by
  refine uHi_of rfl (Nat.le_of_ble_eq_true rfl) (fun p e s m args below meth c ls X hret htb hl M => ?_)
  have hl : lv_has ls 5 [(0, .ref (ga G 18 0)), (1, .int a1), (2, .int a2), (3, .ref (ga G 20 0))] := hl
  have hx := X.hx
  have hb := X.hb
  unfold fL_pay at h
  obtain ⟨E, r1, V1, e1, h⟩ := bd3_e h
  refine lv_aload_n hx hb dL_pay_0 rfl (lv_at hl 3 rfl) ?_
  refine lv_iconst (v := 0) hx hb dL_pay_1 (by decide) ?_
  refine lv_aload_n hx hb dL_pay_2 rfl (lv_at hl 0 rfl) ?_
  refine lv_iload_n hx hb dL_pay_3 rfl (lv_at hl 1 rfl) ?_
  refine lv_iload_n hx hb dL_pay_4 rfl (lv_at hl 2 rfl) ?_
  refine x_cVx X M hl.1 (kX11_pay hG hlt e1) cw_L_52 ⟨Nat.le_of_ble_eq_true rfl, Nat.le_of_ble_eq_true rfl⟩ (rc_X11 X M hG.2.1) rfl rfl (Nat.le_of_ble_eq_true rfl) ⟨Nat.le_refl _, Nat.le_refl _⟩ dL_pay_5 (fun K ce q9 H locs hex M hcell hv hcl => ?_) (fun H locs hE M => ?_)
  · rcases hex with ⟨rfl, rfl⟩ | ⟨rfl, rfl⟩ | ⟨rfl, rfl⟩
    · have h := it_f h (by decide)
      have h := it_f h (by decide)
      have h := it_t h rfl
      refine vx_catch (name := "java/lang/IllegalArgumentException") X.1.2.2.2.1 [⟨0, 10, 13, 28⟩] ⟨0, 10, 17, 13⟩ [] htb (fun z hz => by obtain rfl := List.mem_singleton.mp hz; exact Or.inr ⟨by decide, _, X.hts (gt_in 730 (by decide +kernel) (by decide +kernel)), X.2.2.1.2.2.2.2.2.2.2.1⟩) (by decide) (by decide) (X.hts (gt_in 454 (by decide +kernel) (by decide +kernel))) (va_Nw.use rfl (X.2.2.1.2.2.2.2.2.1 _ (List.mem_filter.mpr ⟨List.mem_of_getElem? (i := 468) (by decide +kernel), rfl⟩))) hcell hv hcl ?_
      refine lv_astore (lv' := [(4, .ref q9), (0, .ref (ga G 18 0)), (1, .int a1), (2, .int a2), (3, .ref (ga G 20 0))]) hx hb dL_pay_17 hl (by decide) rfl (fun ls hl => ?_)
      refine lv_iconst (v := 2) hx hb dL_pay_19 (by decide) ?_
      exact h_iret X hret M (rt2 h).1 (rt2 h).2 dL_pay_20
    · have h := it_f h (by decide)
      have h := it_f h (by decide)
      have h := it_f h (by decide)
      cases h
    · have h := it_f h (by decide)
      have h := it_t h rfl
      refine vx_catch (name := "java/lang/IndexOutOfBoundsException") X.1.2.2.2.1 [] ⟨0, 10, 13, 28⟩ [⟨0, 10, 17, 13⟩] htb (fun z hz => by cases hz) (by decide) (by decide) (X.hts (gt_in 730 (by decide +kernel) (by decide +kernel))) (va_Nw.use rfl (X.2.2.1.2.2.2.2.2.1 _ (List.mem_filter.mpr ⟨List.mem_of_getElem? (i := 741) (by decide +kernel), rfl⟩))) hcell hv hcl ?_
      refine lv_astore (lv' := [(4, .ref q9), (0, .ref (ga G 18 0)), (1, .int a1), (2, .int a2), (3, .ref (ga G 20 0))]) hx hb dL_pay_13 hl (by decide) rfl (fun ls hl => ?_)
      refine lv_iconst (v := 1) hx hb dL_pay_15 (by decide) ?_
      exact h_iret X hret M (rt2 h).1 (rt2 h).2 dL_pay_16
  · have h := it_t h hE
    refine lv_i2l hx hb dL_pay_8 rfl ?_
    refine u_last X M hG.2.2.2.1 dL_pay_9 (fun H locs M => ?_)
    refine lv_goto (tgt := 21) hx hb dL_pay_10 (by decide) ?_
    refine lv_iconst (v := 0) hx hb dL_pay_21 (by decide) ?_
    exact h_iret X hret M (rt2 h).1 (rt2 h).2 dL_pay_22
def fL_pardon (V : uV) (a1 : Int32) : Option (Int32 × uV) :=
  bd3 (fX11_pardon V a1) fun E r V1 => if E = 0 then some (0, uS V1 20 0 (upd (V1 20 0) 0 r)) else if E = 3 then some (1, V1) else if E = 2 then some (2, V1) else none
set_option maxHeartbeats 4000000 in
set_option maxRecDepth 20000 in
theorem kL_pardon {l : Launch} {G : UG} (hG : uAll G) (hlt : l.stackTraces = false) {V V' : uV} {a1 : Int32} {r : Int32} (h : fL_pardon V a1 = some (r, V')) : uHi l G yL_pardon cL_pardon 4 [(0, 9, 12, 28), (0, 9, 15, 15)] 8 166 [.ref (ga G 18 0), .int a1, .ref (ga G 20 0)] V r V' := by
  refine uHi_of rfl (Nat.le_of_ble_eq_true rfl) (fun p e s m args below meth c ls X hret htb hl M => ?_)
  have hl : lv_has ls 4 [(0, .ref (ga G 18 0)), (1, .int a1), (2, .ref (ga G 20 0))] := hl
  have hx := X.hx
  have hb := X.hb
  unfold fL_pardon at h
  obtain ⟨E, r1, V1, e1, h⟩ := bd3_e h
  refine lv_aload_n hx hb dL_pardon_0 rfl (lv_at hl 2 rfl) ?_
  refine lv_iconst (v := 0) hx hb dL_pardon_1 (by decide) ?_
  refine lv_aload_n hx hb dL_pardon_2 rfl (lv_at hl 0 rfl) ?_
  refine lv_iload_n hx hb dL_pardon_3 rfl (lv_at hl 1 rfl) ?_
  refine x_cVx X M hl.1 (kX11_pardon hG hlt e1) cw_L_55 ⟨Nat.le_of_ble_eq_true rfl, Nat.le_of_ble_eq_true rfl⟩ (rc_X11 X M hG.2.1) rfl rfl (Nat.le_of_ble_eq_true rfl) ⟨Nat.le_refl _, Nat.le_refl _⟩ dL_pardon_4 (fun K ce q9 H locs hex M hcell hv hcl => ?_) (fun H locs hE M => ?_)
  · rcases hex with ⟨rfl, rfl⟩ | ⟨rfl, rfl⟩ | ⟨rfl, rfl⟩
    · have h := it_f h (by decide)
      have h := it_f h (by decide)
      have h := it_f h (by decide)
      cases h
    · have h := it_f h (by decide)
      have h := it_f h (by decide)
      have h := it_t h rfl
      refine vx_catch (name := "java/lang/IllegalStateException") X.1.2.2.2.1 [⟨0, 9, 12, 28⟩] ⟨0, 9, 15, 15⟩ [] htb (fun z hz => by obtain rfl := List.mem_singleton.mp hz; exact Or.inr ⟨by decide, _, X.hts (gt_in 730 (by decide +kernel) (by decide +kernel)), X.2.2.1.2.2.2.2.2.2.2.2⟩) (by decide) (by decide) (X.hts (gt_in 455 (by decide +kernel) (by decide +kernel))) (va_Nw.use rfl (X.2.2.1.2.2.2.2.2.1 _ (List.mem_filter.mpr ⟨List.mem_of_getElem? (i := 543) (by decide +kernel), rfl⟩))) hcell hv hcl ?_
      refine lv_astore_n (lv' := [(3, .ref q9), (0, .ref (ga G 18 0)), (1, .int a1), (2, .ref (ga G 20 0))]) hx hb dL_pardon_15 rfl hl (by decide) rfl (fun ls hl => ?_)
      refine lv_iconst (v := 2) hx hb dL_pardon_16 (by decide) ?_
      exact h_iret X hret M (rt2 h).1 (rt2 h).2 dL_pardon_17
    · have h := it_f h (by decide)
      have h := it_t h rfl
      refine vx_catch (name := "java/lang/IndexOutOfBoundsException") X.1.2.2.2.1 [] ⟨0, 9, 12, 28⟩ [⟨0, 9, 15, 15⟩] htb (fun z hz => by cases hz) (by decide) (by decide) (X.hts (gt_in 730 (by decide +kernel) (by decide +kernel))) (va_Nw.use rfl (X.2.2.1.2.2.2.2.2.1 _ (List.mem_filter.mpr ⟨List.mem_of_getElem? (i := 741) (by decide +kernel), rfl⟩))) hcell hv hcl ?_
      refine lv_astore_n (lv' := [(3, .ref q9), (0, .ref (ga G 18 0)), (1, .int a1), (2, .ref (ga G 20 0))]) hx hb dL_pardon_12 rfl hl (by decide) rfl (fun ls hl => ?_)
      refine lv_iconst (v := 1) hx hb dL_pardon_13 (by decide) ?_
      exact h_iret X hret M (rt2 h).1 (rt2 h).2 dL_pardon_14
  · have h := it_t h hE
    refine lv_i2l hx hb dL_pardon_7 rfl ?_
    refine u_last X M hG.2.2.2.1 dL_pardon_8 (fun H locs M => ?_)
    refine lv_goto (tgt := 18) hx hb dL_pardon_9 (by decide) ?_
    refine lv_iconst (v := 0) hx hb dL_pardon_18 (by decide) ?_
    exact h_iret X hret M (rt2 h).1 (rt2 h).2 dL_pardon_19
def fL_down (V : uV) (a1 : Int32) : Option (Int32 × uV) :=
  bd3 (fX11_down V a1) fun E r V1 => if E = 0 then some (0, uS V1 20 0 (upd (V1 20 0) 0 r)) else if E = 3 then some (1, V1) else if E = 2 then some (2, V1) else none
set_option maxHeartbeats 4000000 in
set_option maxRecDepth 20000 in
theorem kL_down {l : Launch} {G : UG} (hG : uAll G) (hlt : l.stackTraces = false) {V V' : uV} {a1 : Int32} {r : Int32} (h : fL_down V a1 = some (r, V')) : uHi l G yL_down cL_down 4 [(0, 9, 12, 28), (0, 9, 15, 15)] 8 166 [.ref (ga G 18 0), .int a1, .ref (ga G 20 0)] V r V' := by
  refine uHi_of rfl (Nat.le_of_ble_eq_true rfl) (fun p e s m args below meth c ls X hret htb hl M => ?_)
  have hl : lv_has ls 4 [(0, .ref (ga G 18 0)), (1, .int a1), (2, .ref (ga G 20 0))] := hl
  have hx := X.hx
  have hb := X.hb
  unfold fL_down at h
  obtain ⟨E, r1, V1, e1, h⟩ := bd3_e h
  refine lv_aload_n hx hb dL_down_0 rfl (lv_at hl 2 rfl) ?_
  refine lv_iconst (v := 0) hx hb dL_down_1 (by decide) ?_
  refine lv_aload_n hx hb dL_down_2 rfl (lv_at hl 0 rfl) ?_
  refine lv_iload_n hx hb dL_down_3 rfl (lv_at hl 1 rfl) ?_
  refine x_cVx X M hl.1 (kX11_down hG hlt e1) cw_L_58 ⟨Nat.le_of_ble_eq_true rfl, Nat.le_of_ble_eq_true rfl⟩ (rc_X11 X M hG.2.1) rfl rfl (Nat.le_of_ble_eq_true rfl) ⟨Nat.le_refl _, Nat.le_refl _⟩ dL_down_4 (fun K ce q9 H locs hex M hcell hv hcl => ?_) (fun H locs hE M => ?_)
  · rcases hex with ⟨rfl, rfl⟩ | ⟨rfl, rfl⟩ | ⟨rfl, rfl⟩
    · have h := it_f h (by decide)
      have h := it_f h (by decide)
      have h := it_f h (by decide)
      cases h
    · have h := it_f h (by decide)
      have h := it_f h (by decide)
      have h := it_t h rfl
      refine vx_catch (name := "java/lang/IllegalStateException") X.1.2.2.2.1 [⟨0, 9, 12, 28⟩] ⟨0, 9, 15, 15⟩ [] htb (fun z hz => by obtain rfl := List.mem_singleton.mp hz; exact Or.inr ⟨by decide, _, X.hts (gt_in 730 (by decide +kernel) (by decide +kernel)), X.2.2.1.2.2.2.2.2.2.2.2⟩) (by decide) (by decide) (X.hts (gt_in 455 (by decide +kernel) (by decide +kernel))) (va_Nw.use rfl (X.2.2.1.2.2.2.2.2.1 _ (List.mem_filter.mpr ⟨List.mem_of_getElem? (i := 543) (by decide +kernel), rfl⟩))) hcell hv hcl ?_
      refine lv_astore_n (lv' := [(3, .ref q9), (0, .ref (ga G 18 0)), (1, .int a1), (2, .ref (ga G 20 0))]) hx hb dL_down_15 rfl hl (by decide) rfl (fun ls hl => ?_)
      refine lv_iconst (v := 2) hx hb dL_down_16 (by decide) ?_
      exact h_iret X hret M (rt2 h).1 (rt2 h).2 dL_down_17
    · have h := it_f h (by decide)
      have h := it_t h rfl
      refine vx_catch (name := "java/lang/IndexOutOfBoundsException") X.1.2.2.2.1 [] ⟨0, 9, 12, 28⟩ [⟨0, 9, 15, 15⟩] htb (fun z hz => by cases hz) (by decide) (by decide) (X.hts (gt_in 730 (by decide +kernel) (by decide +kernel))) (va_Nw.use rfl (X.2.2.1.2.2.2.2.2.1 _ (List.mem_filter.mpr ⟨List.mem_of_getElem? (i := 741) (by decide +kernel), rfl⟩))) hcell hv hcl ?_
      refine lv_astore_n (lv' := [(3, .ref q9), (0, .ref (ga G 18 0)), (1, .int a1), (2, .ref (ga G 20 0))]) hx hb dL_down_12 rfl hl (by decide) rfl (fun ls hl => ?_)
      refine lv_iconst (v := 1) hx hb dL_down_13 (by decide) ?_
      exact h_iret X hret M (rt2 h).1 (rt2 h).2 dL_down_14
  · have h := it_t h hE
    refine lv_i2l hx hb dL_down_7 rfl ?_
    refine u_last X M hG.2.2.2.1 dL_down_8 (fun H locs M => ?_)
    refine lv_goto (tgt := 18) hx hb dL_down_9 (by decide) ?_
    refine lv_iconst (v := 0) hx hb dL_down_18 (by decide) ?_
    exact h_iret X hret M (rt2 h).1 (rt2 h).2 dL_down_19
def fL_up (V : uV) (a1 : Int32) : Option (Int32 × uV) :=
  bd3 (fX11_up V a1) fun E r V1 => if E = 0 then some (0, uS V1 20 0 (upd (V1 20 0) 0 r)) else if E = 3 then some (1, V1) else if E = 2 then some (2, V1) else none
set_option maxHeartbeats 4000000 in
set_option maxRecDepth 20000 in
theorem kL_up {l : Launch} {G : UG} (hG : uAll G) (hlt : l.stackTraces = false) {V V' : uV} {a1 : Int32} {r : Int32} (h : fL_up V a1 = some (r, V')) : uHi l G yL_up cL_up 4 [(0, 9, 12, 28), (0, 9, 15, 15)] 8 166 [.ref (ga G 18 0), .int a1, .ref (ga G 20 0)] V r V' := by
  refine uHi_of rfl (Nat.le_of_ble_eq_true rfl) (fun p e s m args below meth c ls X hret htb hl M => ?_)
  have hl : lv_has ls 4 [(0, .ref (ga G 18 0)), (1, .int a1), (2, .ref (ga G 20 0))] := hl
  have hx := X.hx
  have hb := X.hb
  unfold fL_up at h
  obtain ⟨E, r1, V1, e1, h⟩ := bd3_e h
  refine lv_aload_n hx hb dL_up_0 rfl (lv_at hl 2 rfl) ?_
  refine lv_iconst (v := 0) hx hb dL_up_1 (by decide) ?_
  refine lv_aload_n hx hb dL_up_2 rfl (lv_at hl 0 rfl) ?_
  refine lv_iload_n hx hb dL_up_3 rfl (lv_at hl 1 rfl) ?_
  refine x_cVx X M hl.1 (kX11_up hG hlt e1) cw_L_61 ⟨Nat.le_of_ble_eq_true rfl, Nat.le_of_ble_eq_true rfl⟩ (rc_X11 X M hG.2.1) rfl rfl (Nat.le_of_ble_eq_true rfl) ⟨Nat.le_refl _, Nat.le_refl _⟩ dL_up_4 (fun K ce q9 H locs hex M hcell hv hcl => ?_) (fun H locs hE M => ?_)
  · rcases hex with ⟨rfl, rfl⟩ | ⟨rfl, rfl⟩ | ⟨rfl, rfl⟩
    · have h := it_f h (by decide)
      have h := it_f h (by decide)
      have h := it_f h (by decide)
      cases h
    · have h := it_f h (by decide)
      have h := it_f h (by decide)
      have h := it_t h rfl
      refine vx_catch (name := "java/lang/IllegalStateException") X.1.2.2.2.1 [⟨0, 9, 12, 28⟩] ⟨0, 9, 15, 15⟩ [] htb (fun z hz => by obtain rfl := List.mem_singleton.mp hz; exact Or.inr ⟨by decide, _, X.hts (gt_in 730 (by decide +kernel) (by decide +kernel)), X.2.2.1.2.2.2.2.2.2.2.2⟩) (by decide) (by decide) (X.hts (gt_in 455 (by decide +kernel) (by decide +kernel))) (va_Nw.use rfl (X.2.2.1.2.2.2.2.2.1 _ (List.mem_filter.mpr ⟨List.mem_of_getElem? (i := 543) (by decide +kernel), rfl⟩))) hcell hv hcl ?_
      refine lv_astore_n (lv' := [(3, .ref q9), (0, .ref (ga G 18 0)), (1, .int a1), (2, .ref (ga G 20 0))]) hx hb dL_up_15 rfl hl (by decide) rfl (fun ls hl => ?_)
      refine lv_iconst (v := 2) hx hb dL_up_16 (by decide) ?_
      exact h_iret X hret M (rt2 h).1 (rt2 h).2 dL_up_17
    · have h := it_f h (by decide)
      have h := it_t h rfl
      refine vx_catch (name := "java/lang/IndexOutOfBoundsException") X.1.2.2.2.1 [] ⟨0, 9, 12, 28⟩ [⟨0, 9, 15, 15⟩] htb (fun z hz => by cases hz) (by decide) (by decide) (X.hts (gt_in 730 (by decide +kernel) (by decide +kernel))) (va_Nw.use rfl (X.2.2.1.2.2.2.2.2.1 _ (List.mem_filter.mpr ⟨List.mem_of_getElem? (i := 741) (by decide +kernel), rfl⟩))) hcell hv hcl ?_
      refine lv_astore_n (lv' := [(3, .ref q9), (0, .ref (ga G 18 0)), (1, .int a1), (2, .ref (ga G 20 0))]) hx hb dL_up_12 rfl hl (by decide) rfl (fun ls hl => ?_)
      refine lv_iconst (v := 1) hx hb dL_up_13 (by decide) ?_
      exact h_iret X hret M (rt2 h).1 (rt2 h).2 dL_up_14
  · have h := it_t h hE
    refine lv_i2l hx hb dL_up_7 rfl ?_
    refine u_last X M hG.2.2.2.1 dL_up_8 (fun H locs M => ?_)
    refine lv_goto (tgt := 18) hx hb dL_up_9 (by decide) ?_
    refine lv_iconst (v := 0) hx hb dL_up_18 (by decide) ?_
    exact h_iret X hret M (rt2 h).1 (rt2 h).2 dL_up_19
def fL_open (V : uV) (a1 : Int32) : Option (Int32 × uV) :=
  bd3 (fX11_open V a1) fun E r V1 => if E = 0 then some (0, uS V1 20 0 (upd (V1 20 0) 0 r)) else if E = 3 then some (1, V1) else none
set_option maxHeartbeats 4000000 in
set_option maxRecDepth 20000 in
theorem kL_open {l : Launch} {G : UG} (hG : uAll G) (hlt : l.stackTraces = false) {V V' : uV} {a1 : Int32} {r : Int32} (h : fL_open V a1 = some (r, V')) : uHi l G yL_open cL_open 4 [(0, 9, 12, 28)] 8 166 [.ref (ga G 18 0), .int a1, .ref (ga G 20 0)] V r V' := by
  refine uHi_of rfl (Nat.le_of_ble_eq_true rfl) (fun p e s m args below meth c ls X hret htb hl M => ?_)
  have hl : lv_has ls 4 [(0, .ref (ga G 18 0)), (1, .int a1), (2, .ref (ga G 20 0))] := hl
  have hx := X.hx
  have hb := X.hb
  unfold fL_open at h
  obtain ⟨E, r1, V1, e1, h⟩ := bd3_e h
  refine lv_aload_n hx hb dL_open_0 rfl (lv_at hl 2 rfl) ?_
  refine lv_iconst (v := 0) hx hb dL_open_1 (by decide) ?_
  refine lv_aload_n hx hb dL_open_2 rfl (lv_at hl 0 rfl) ?_
  refine lv_iload_n hx hb dL_open_3 rfl (lv_at hl 1 rfl) ?_
  refine x_cVx X M hl.1 (kX11_open hG hlt e1) cw_L_64 ⟨Nat.le_of_ble_eq_true rfl, Nat.le_of_ble_eq_true rfl⟩ (rc_X11 X M hG.2.1) rfl rfl (Nat.le_of_ble_eq_true rfl) ⟨Nat.le_refl _, Nat.le_refl _⟩ dL_open_4 (fun K ce q9 H locs hex M hcell hv hcl => ?_) (fun H locs hE M => ?_)
  · rcases hex with ⟨rfl, rfl⟩ | ⟨rfl, rfl⟩ | ⟨rfl, rfl⟩
    · have h := it_f h (by decide)
      have h := it_f h (by decide)
      cases h
    · have h := it_f h (by decide)
      have h := it_f h (by decide)
      cases h
    · have h := it_f h (by decide)
      have h := it_t h rfl
      refine vx_catch (name := "java/lang/IndexOutOfBoundsException") X.1.2.2.2.1 [] ⟨0, 9, 12, 28⟩ [] htb (fun z hz => by cases hz) (by decide) (by decide) (X.hts (gt_in 730 (by decide +kernel) (by decide +kernel))) (va_Nw.use rfl (X.2.2.1.2.2.2.2.2.1 _ (List.mem_filter.mpr ⟨List.mem_of_getElem? (i := 741) (by decide +kernel), rfl⟩))) hcell hv hcl ?_
      refine lv_astore_n (lv' := [(3, .ref q9), (0, .ref (ga G 18 0)), (1, .int a1), (2, .ref (ga G 20 0))]) hx hb dL_open_12 rfl hl (by decide) rfl (fun ls hl => ?_)
      refine lv_iconst (v := 1) hx hb dL_open_13 (by decide) ?_
      exact h_iret X hret M (rt2 h).1 (rt2 h).2 dL_open_14
  · have h := it_t h hE
    refine lv_i2l hx hb dL_open_7 rfl ?_
    refine u_last X M hG.2.2.2.1 dL_open_8 (fun H locs M => ?_)
    refine lv_goto (tgt := 15) hx hb dL_open_9 (by decide) ?_
    refine lv_iconst (v := 0) hx hb dL_open_15 (by decide) ?_
    exact h_iret X hret M (rt2 h).1 (rt2 h).2 dL_open_16
def fL_fare (V : uV) (a1 : Int32) (a2 : Int32) : Option (Int32 × uV) :=
  bd3 (fX11_fare V a1 a2) fun E r V1 => if E = 0 then some (0, uS V1 20 0 (upd (V1 20 0) 0 r)) else if E = 3 then some (1, V1) else if E = 1 then some (2, V1) else none
set_option maxHeartbeats 4000000 in
set_option maxRecDepth 20000 in
theorem kL_fare {l : Launch} {G : UG} (hG : uAll G) (hlt : l.stackTraces = false) {V V' : uV} {a1 : Int32} {a2 : Int32} {r : Int32} (h : fL_fare V a1 a2 = some (r, V')) : uHi l G yL_fare cL_fare 5 [(0, 10, 13, 28), (0, 10, 17, 13)] 9 167 [.ref (ga G 18 0), .int a1, .int a2, .ref (ga G 20 0)] V r V' := by
  refine uHi_of rfl (Nat.le_of_ble_eq_true rfl) (fun p e s m args below meth c ls X hret htb hl M => ?_)
  have hl : lv_has ls 5 [(0, .ref (ga G 18 0)), (1, .int a1), (2, .int a2), (3, .ref (ga G 20 0))] := hl
  have hx := X.hx
  have hb := X.hb
  unfold fL_fare at h
  obtain ⟨E, r1, V1, e1, h⟩ := bd3_e h
  refine lv_aload_n hx hb dL_fare_0 rfl (lv_at hl 3 rfl) ?_
  refine lv_iconst (v := 0) hx hb dL_fare_1 (by decide) ?_
  refine lv_aload_n hx hb dL_fare_2 rfl (lv_at hl 0 rfl) ?_
  refine lv_iload_n hx hb dL_fare_3 rfl (lv_at hl 1 rfl) ?_
  refine lv_iload_n hx hb dL_fare_4 rfl (lv_at hl 2 rfl) ?_
  refine x_cVx X M hl.1 (kX11_fare hG hlt e1) cw_L_67 ⟨Nat.le_of_ble_eq_true rfl, Nat.le_of_ble_eq_true rfl⟩ (rc_X11 X M hG.2.1) rfl rfl (Nat.le_of_ble_eq_true rfl) ⟨Nat.le_refl _, Nat.le_refl _⟩ dL_fare_5 (fun K ce q9 H locs hex M hcell hv hcl => ?_) (fun H locs hE M => ?_)
  · rcases hex with ⟨rfl, rfl⟩ | ⟨rfl, rfl⟩ | ⟨rfl, rfl⟩
    · have h := it_f h (by decide)
      have h := it_f h (by decide)
      have h := it_t h rfl
      refine vx_catch (name := "java/lang/IllegalArgumentException") X.1.2.2.2.1 [⟨0, 10, 13, 28⟩] ⟨0, 10, 17, 13⟩ [] htb (fun z hz => by obtain rfl := List.mem_singleton.mp hz; exact Or.inr ⟨by decide, _, X.hts (gt_in 730 (by decide +kernel) (by decide +kernel)), X.2.2.1.2.2.2.2.2.2.2.1⟩) (by decide) (by decide) (X.hts (gt_in 454 (by decide +kernel) (by decide +kernel))) (va_Nw.use rfl (X.2.2.1.2.2.2.2.2.1 _ (List.mem_filter.mpr ⟨List.mem_of_getElem? (i := 468) (by decide +kernel), rfl⟩))) hcell hv hcl ?_
      refine lv_astore (lv' := [(4, .ref q9), (0, .ref (ga G 18 0)), (1, .int a1), (2, .int a2), (3, .ref (ga G 20 0))]) hx hb dL_fare_17 hl (by decide) rfl (fun ls hl => ?_)
      refine lv_iconst (v := 2) hx hb dL_fare_19 (by decide) ?_
      exact h_iret X hret M (rt2 h).1 (rt2 h).2 dL_fare_20
    · have h := it_f h (by decide)
      have h := it_f h (by decide)
      have h := it_f h (by decide)
      cases h
    · have h := it_f h (by decide)
      have h := it_t h rfl
      refine vx_catch (name := "java/lang/IndexOutOfBoundsException") X.1.2.2.2.1 [] ⟨0, 10, 13, 28⟩ [⟨0, 10, 17, 13⟩] htb (fun z hz => by cases hz) (by decide) (by decide) (X.hts (gt_in 730 (by decide +kernel) (by decide +kernel))) (va_Nw.use rfl (X.2.2.1.2.2.2.2.2.1 _ (List.mem_filter.mpr ⟨List.mem_of_getElem? (i := 741) (by decide +kernel), rfl⟩))) hcell hv hcl ?_
      refine lv_astore (lv' := [(4, .ref q9), (0, .ref (ga G 18 0)), (1, .int a1), (2, .int a2), (3, .ref (ga G 20 0))]) hx hb dL_fare_13 hl (by decide) rfl (fun ls hl => ?_)
      refine lv_iconst (v := 1) hx hb dL_fare_15 (by decide) ?_
      exact h_iret X hret M (rt2 h).1 (rt2 h).2 dL_fare_16
  · have h := it_t h hE
    refine lv_i2l hx hb dL_fare_8 rfl ?_
    refine u_last X M hG.2.2.2.1 dL_fare_9 (fun H locs M => ?_)
    refine lv_goto (tgt := 21) hx hb dL_fare_10 (by decide) ?_
    refine lv_iconst (v := 0) hx hb dL_fare_21 (by decide) ?_
    exact h_iret X hret M (rt2 h).1 (rt2 h).2 dL_fare_22
def fL_run (V : uV) (a1 : Int32) : Option (Int32 × uV) :=
  bd3 (fX11_run V a1) fun E r V1 => if E = 0 then some (0, uS V1 20 0 (upd (V1 20 0) 0 r)) else if E = 1 then some (1, V1) else none
set_option maxHeartbeats 4000000 in
set_option maxRecDepth 20000 in
theorem kL_run {l : Launch} {G : UG} (hG : uAll G) (hlt : l.stackTraces = false) {V V' : uV} {a1 : Int32} {r : Int32} (h : fL_run V a1 = some (r, V')) : uHi l G yL_run cL_run 4 [(0, 9, 12, 13)] 9 166 [.ref (ga G 18 0), .int a1, .ref (ga G 20 0)] V r V' := by
  refine uHi_of rfl (Nat.le_of_ble_eq_true rfl) (fun p e s m args below meth c ls X hret htb hl M => ?_)
  have hl : lv_has ls 4 [(0, .ref (ga G 18 0)), (1, .int a1), (2, .ref (ga G 20 0))] := hl
  have hx := X.hx
  have hb := X.hb
  unfold fL_run at h
  obtain ⟨E, r1, V1, e1, h⟩ := bd3_e h
  refine lv_aload_n hx hb dL_run_0 rfl (lv_at hl 2 rfl) ?_
  refine lv_iconst (v := 0) hx hb dL_run_1 (by decide) ?_
  refine lv_aload_n hx hb dL_run_2 rfl (lv_at hl 0 rfl) ?_
  refine lv_iload_n hx hb dL_run_3 rfl (lv_at hl 1 rfl) ?_
  refine x_cVx X M hl.1 (kX11_run hG hlt e1) cw_L_70 ⟨Nat.le_of_ble_eq_true rfl, Nat.le_of_ble_eq_true rfl⟩ (rc_X11 X M hG.2.1) rfl rfl (Nat.le_of_ble_eq_true rfl) ⟨Nat.le_refl _, Nat.le_refl _⟩ dL_run_4 (fun K ce q9 H locs hex M hcell hv hcl => ?_) (fun H locs hE M => ?_)
  · rcases hex with ⟨rfl, rfl⟩ | ⟨rfl, rfl⟩ | ⟨rfl, rfl⟩
    · have h := it_f h (by decide)
      have h := it_t h rfl
      refine vx_catch (name := "java/lang/IllegalArgumentException") X.1.2.2.2.1 [] ⟨0, 9, 12, 13⟩ [] htb (fun z hz => by cases hz) (by decide) (by decide) (X.hts (gt_in 454 (by decide +kernel) (by decide +kernel))) (va_Nw.use rfl (X.2.2.1.2.2.2.2.2.1 _ (List.mem_filter.mpr ⟨List.mem_of_getElem? (i := 468) (by decide +kernel), rfl⟩))) hcell hv hcl ?_
      refine lv_astore_n (lv' := [(3, .ref q9), (0, .ref (ga G 18 0)), (1, .int a1), (2, .ref (ga G 20 0))]) hx hb dL_run_12 rfl hl (by decide) rfl (fun ls hl => ?_)
      refine lv_iconst (v := 1) hx hb dL_run_13 (by decide) ?_
      exact h_iret X hret M (rt2 h).1 (rt2 h).2 dL_run_14
    · have h := it_f h (by decide)
      have h := it_f h (by decide)
      cases h
    · have h := it_f h (by decide)
      have h := it_f h (by decide)
      cases h
  · have h := it_t h hE
    refine lv_i2l hx hb dL_run_7 rfl ?_
    refine u_last X M hG.2.2.2.1 dL_run_8 (fun H locs M => ?_)
    refine lv_goto (tgt := 15) hx hb dL_run_9 (by decide) ?_
    refine lv_iconst (v := 0) hx hb dL_run_15 (by decide) ?_
    exact h_iret X hret M (rt2 h).1 (rt2 h).2 dL_run_16
def fL_set (V : uV) (a1 : Int32) (a2 : Int32) : Option (Int32 × uV) :=
  bd3 (fX11_set V a1 a2) fun E r V1 => if E = 0 then some (0, uS V1 20 0 (upd (V1 20 0) 0 r)) else if E = 1 then some (1, V1) else none
set_option maxHeartbeats 4000000 in
set_option maxRecDepth 20000 in
theorem kL_set {l : Launch} {G : UG} (hG : uAll G) (hlt : l.stackTraces = false) {V V' : uV} {a1 : Int32} {a2 : Int32} {r : Int32} (h : fL_set V a1 a2 = some (r, V')) : uHi l G yL_set cL_set 5 [(0, 10, 13, 13)] 9 167 [.ref (ga G 18 0), .int a1, .int a2, .ref (ga G 20 0)] V r V' := by
  refine uHi_of rfl (Nat.le_of_ble_eq_true rfl) (fun p e s m args below meth c ls X hret htb hl M => ?_)
  have hl : lv_has ls 5 [(0, .ref (ga G 18 0)), (1, .int a1), (2, .int a2), (3, .ref (ga G 20 0))] := hl
  have hx := X.hx
  have hb := X.hb
  unfold fL_set at h
  obtain ⟨E, r1, V1, e1, h⟩ := bd3_e h
  refine lv_aload_n hx hb dL_set_0 rfl (lv_at hl 3 rfl) ?_
  refine lv_iconst (v := 0) hx hb dL_set_1 (by decide) ?_
  refine lv_aload_n hx hb dL_set_2 rfl (lv_at hl 0 rfl) ?_
  refine lv_iload_n hx hb dL_set_3 rfl (lv_at hl 1 rfl) ?_
  refine lv_iload_n hx hb dL_set_4 rfl (lv_at hl 2 rfl) ?_
  refine x_cVx X M hl.1 (kX11_set hG hlt e1) cw_L_73 ⟨Nat.le_of_ble_eq_true rfl, Nat.le_of_ble_eq_true rfl⟩ (rc_X11 X M hG.2.1) rfl rfl (Nat.le_of_ble_eq_true rfl) ⟨Nat.le_refl _, Nat.le_refl _⟩ dL_set_5 (fun K ce q9 H locs hex M hcell hv hcl => ?_) (fun H locs hE M => ?_)
  · rcases hex with ⟨rfl, rfl⟩ | ⟨rfl, rfl⟩ | ⟨rfl, rfl⟩
    · have h := it_f h (by decide)
      have h := it_t h rfl
      refine vx_catch (name := "java/lang/IllegalArgumentException") X.1.2.2.2.1 [] ⟨0, 10, 13, 13⟩ [] htb (fun z hz => by cases hz) (by decide) (by decide) (X.hts (gt_in 454 (by decide +kernel) (by decide +kernel))) (va_Nw.use rfl (X.2.2.1.2.2.2.2.2.1 _ (List.mem_filter.mpr ⟨List.mem_of_getElem? (i := 468) (by decide +kernel), rfl⟩))) hcell hv hcl ?_
      refine lv_astore (lv' := [(4, .ref q9), (0, .ref (ga G 18 0)), (1, .int a1), (2, .int a2), (3, .ref (ga G 20 0))]) hx hb dL_set_13 hl (by decide) rfl (fun ls hl => ?_)
      refine lv_iconst (v := 1) hx hb dL_set_15 (by decide) ?_
      exact h_iret X hret M (rt2 h).1 (rt2 h).2 dL_set_16
    · have h := it_f h (by decide)
      have h := it_f h (by decide)
      cases h
    · have h := it_f h (by decide)
      have h := it_f h (by decide)
      cases h
  · have h := it_t h hE
    refine lv_i2l hx hb dL_set_8 rfl ?_
    refine u_last X M hG.2.2.2.1 dL_set_9 (fun H locs M => ?_)
    refine lv_goto (tgt := 17) hx hb dL_set_10 (by decide) ?_
    refine lv_iconst (v := 0) hx hb dL_set_17 (by decide) ?_
    exact h_iret X hret M (rt2 h).1 (rt2 h).2 dL_set_18
def fL_undo (V : uV) : Option (Int32 × uV) :=
  bd3 (fX11_undo V ) fun E r V1 => if E = 0 then some (0, uS V1 20 0 (upd (V1 20 0) 0 r)) else if E = 2 then some (1, V1) else none
set_option maxHeartbeats 4000000 in
set_option maxRecDepth 20000 in
theorem kL_undo {l : Launch} {G : UG} (hG : uAll G) (hlt : l.stackTraces = false) {V V' : uV} {r : Int32} (h : fL_undo V  = some (r, V')) : uHi l G yL_undo cL_undo 3 [(0, 8, 11, 15)] 8 145 [.ref (ga G 18 0), .ref (ga G 20 0)] V r V' := by
  refine uHi_of rfl (Nat.le_of_ble_eq_true rfl) (fun p e s m args below meth c ls X hret htb hl M => ?_)
  have hl : lv_has ls 3 [(0, .ref (ga G 18 0)), (1, .ref (ga G 20 0))] := hl
  have hx := X.hx
  have hb := X.hb
  unfold fL_undo at h
  obtain ⟨E, r1, V1, e1, h⟩ := bd3_e h
  refine lv_aload_n hx hb dL_undo_0 rfl (lv_at hl 1 rfl) ?_
  refine lv_iconst (v := 0) hx hb dL_undo_1 (by decide) ?_
  refine lv_aload_n hx hb dL_undo_2 rfl (lv_at hl 0 rfl) ?_
  refine x_cVx X M hl.1 (kX11_undo hG hlt e1) cw_L_76 ⟨Nat.le_of_ble_eq_true rfl, Nat.le_of_ble_eq_true rfl⟩ (rc_X11 X M hG.2.1) rfl rfl (Nat.le_of_ble_eq_true rfl) ⟨Nat.le_refl _, Nat.le_refl _⟩ dL_undo_3 (fun K ce q9 H locs hex M hcell hv hcl => ?_) (fun H locs hE M => ?_)
  · rcases hex with ⟨rfl, rfl⟩ | ⟨rfl, rfl⟩ | ⟨rfl, rfl⟩
    · have h := it_f h (by decide)
      have h := it_f h (by decide)
      cases h
    · have h := it_f h (by decide)
      have h := it_t h rfl
      refine vx_catch (name := "java/lang/IllegalStateException") X.1.2.2.2.1 [] ⟨0, 8, 11, 15⟩ [] htb (fun z hz => by cases hz) (by decide) (by decide) (X.hts (gt_in 455 (by decide +kernel) (by decide +kernel))) (va_Nw.use rfl (X.2.2.1.2.2.2.2.2.1 _ (List.mem_filter.mpr ⟨List.mem_of_getElem? (i := 543) (by decide +kernel), rfl⟩))) hcell hv hcl ?_
      refine lv_astore_n (lv' := [(2, .ref q9), (0, .ref (ga G 18 0)), (1, .ref (ga G 20 0))]) hx hb dL_undo_11 rfl hl (by decide) rfl (fun ls hl => ?_)
      refine lv_iconst (v := 1) hx hb dL_undo_12 (by decide) ?_
      exact h_iret X hret M (rt2 h).1 (rt2 h).2 dL_undo_13
    · have h := it_f h (by decide)
      have h := it_f h (by decide)
      cases h
  · have h := it_t h hE
    refine lv_i2l hx hb dL_undo_6 rfl ?_
    refine u_last X M hG.2.2.2.1 dL_undo_7 (fun H locs M => ?_)
    refine lv_goto (tgt := 14) hx hb dL_undo_8 (by decide) ?_
    refine lv_iconst (v := 0) hx hb dL_undo_14 (by decide) ?_
    exact h_iret X hret M (rt2 h).1 (rt2 h).2 dL_undo_15
def fL_would (V : uV) (a1 : Int32) (a2 : Int32) : Option (Int32 × uV) :=
  bd3 (fX11_would V a1 a2) fun E r V1 => if E = 0 then some (0, uS V1 20 0 (upd (V1 20 0) 0 r)) else if E = 3 then some (1, V1) else none
set_option maxHeartbeats 4000000 in
set_option maxRecDepth 20000 in
theorem kL_would {l : Launch} {G : UG} (hG : uAll G) (hlt : l.stackTraces = false) {V V' : uV} {a1 : Int32} {a2 : Int32} {r : Int32} (h : fL_would V a1 a2 = some (r, V')) : uHi l G yL_would cL_would 5 [(0, 10, 13, 28)] 8 141 [.ref (ga G 18 0), .int a1, .int a2, .ref (ga G 20 0)] V r V' := by
  refine uHi_of rfl (Nat.le_of_ble_eq_true rfl) (fun p e s m args below meth c ls X hret htb hl M => ?_)
  have hl : lv_has ls 5 [(0, .ref (ga G 18 0)), (1, .int a1), (2, .int a2), (3, .ref (ga G 20 0))] := hl
  have hx := X.hx
  have hb := X.hb
  unfold fL_would at h
  obtain ⟨E, r1, V1, e1, h⟩ := bd3_e h
  refine lv_aload_n hx hb dL_would_0 rfl (lv_at hl 3 rfl) ?_
  refine lv_iconst (v := 0) hx hb dL_would_1 (by decide) ?_
  refine lv_aload_n hx hb dL_would_2 rfl (lv_at hl 0 rfl) ?_
  refine lv_iload_n hx hb dL_would_3 rfl (lv_at hl 1 rfl) ?_
  refine lv_iload_n hx hb dL_would_4 rfl (lv_at hl 2 rfl) ?_
  refine x_cVx X M hl.1 (kX11_would hG hlt e1) cw_L_79 ⟨Nat.le_of_ble_eq_true rfl, Nat.le_of_ble_eq_true rfl⟩ (rc_X11 X M hG.2.1) rfl rfl (Nat.le_of_ble_eq_true rfl) ⟨Nat.le_refl _, Nat.le_refl _⟩ dL_would_5 (fun K ce q9 H locs hex M hcell hv hcl => ?_) (fun H locs hE M => ?_)
  · rcases hex with ⟨rfl, rfl⟩ | ⟨rfl, rfl⟩ | ⟨rfl, rfl⟩
    · have h := it_f h (by decide)
      have h := it_f h (by decide)
      cases h
    · have h := it_f h (by decide)
      have h := it_f h (by decide)
      cases h
    · have h := it_f h (by decide)
      have h := it_t h rfl
      refine vx_catch (name := "java/lang/IndexOutOfBoundsException") X.1.2.2.2.1 [] ⟨0, 10, 13, 28⟩ [] htb (fun z hz => by cases hz) (by decide) (by decide) (X.hts (gt_in 730 (by decide +kernel) (by decide +kernel))) (va_Nw.use rfl (X.2.2.1.2.2.2.2.2.1 _ (List.mem_filter.mpr ⟨List.mem_of_getElem? (i := 741) (by decide +kernel), rfl⟩))) hcell hv hcl ?_
      refine lv_astore (lv' := [(4, .ref q9), (0, .ref (ga G 18 0)), (1, .int a1), (2, .int a2), (3, .ref (ga G 20 0))]) hx hb dL_would_13 hl (by decide) rfl (fun ls hl => ?_)
      refine lv_iconst (v := 1) hx hb dL_would_15 (by decide) ?_
      exact h_iret X hret M (rt2 h).1 (rt2 h).2 dL_would_16
  · have h := it_t h hE
    refine lv_i2l hx hb dL_would_8 rfl ?_
    refine u_last X M hG.2.2.2.1 dL_would_9 (fun H locs M => ?_)
    refine lv_goto (tgt := 17) hx hb dL_would_10 (by decide) ?_
    refine lv_iconst (v := 0) hx hb dL_would_17 (by decide) ?_
    exact h_iret X hret M (rt2 h).1 (rt2 h).2 dL_would_18
def fL_rides (V : uV) (a1 : Int32) (a2 : Int32) : Option (Int32 × uV) :=
  bd3 (fX11_rides V a1 a2) fun E r V1 => if E = 0 then some (0, uS V1 20 0 (upd (V1 20 0) 0 r)) else if E = 3 then some (1, V1) else none
set_option maxHeartbeats 4000000 in
set_option maxRecDepth 20000 in
theorem kL_rides {l : Launch} {G : UG} (hG : uAll G) (hlt : l.stackTraces = false) {V V' : uV} {a1 : Int32} {a2 : Int32} {r : Int32} (h : fL_rides V a1 a2 = some (r, V')) : uHi l G yL_rides cL_rides 5 [(0, 10, 13, 28)] 8 142 [.ref (ga G 18 0), .int a1, .int a2, .ref (ga G 20 0)] V r V' := by
  refine uHi_of rfl (Nat.le_of_ble_eq_true rfl) (fun p e s m args below meth c ls X hret htb hl M => ?_)
  have hl : lv_has ls 5 [(0, .ref (ga G 18 0)), (1, .int a1), (2, .int a2), (3, .ref (ga G 20 0))] := hl
  have hx := X.hx
  have hb := X.hb
  unfold fL_rides at h
  obtain ⟨E, r1, V1, e1, h⟩ := bd3_e h
  refine lv_aload_n hx hb dL_rides_0 rfl (lv_at hl 3 rfl) ?_
  refine lv_iconst (v := 0) hx hb dL_rides_1 (by decide) ?_
  refine lv_aload_n hx hb dL_rides_2 rfl (lv_at hl 0 rfl) ?_
  refine lv_iload_n hx hb dL_rides_3 rfl (lv_at hl 1 rfl) ?_
  refine lv_iload_n hx hb dL_rides_4 rfl (lv_at hl 2 rfl) ?_
  refine x_cVx X M hl.1 (kX11_rides hG hlt e1) cw_L_82 ⟨Nat.le_of_ble_eq_true rfl, Nat.le_of_ble_eq_true rfl⟩ (rc_X11 X M hG.2.1) rfl rfl (Nat.le_of_ble_eq_true rfl) ⟨Nat.le_refl _, Nat.le_refl _⟩ dL_rides_5 (fun K ce q9 H locs hex M hcell hv hcl => ?_) (fun H locs hE M => ?_)
  · rcases hex with ⟨rfl, rfl⟩ | ⟨rfl, rfl⟩ | ⟨rfl, rfl⟩
    · have h := it_f h (by decide)
      have h := it_f h (by decide)
      cases h
    · have h := it_f h (by decide)
      have h := it_f h (by decide)
      cases h
    · have h := it_f h (by decide)
      have h := it_t h rfl
      refine vx_catch (name := "java/lang/IndexOutOfBoundsException") X.1.2.2.2.1 [] ⟨0, 10, 13, 28⟩ [] htb (fun z hz => by cases hz) (by decide) (by decide) (X.hts (gt_in 730 (by decide +kernel) (by decide +kernel))) (va_Nw.use rfl (X.2.2.1.2.2.2.2.2.1 _ (List.mem_filter.mpr ⟨List.mem_of_getElem? (i := 741) (by decide +kernel), rfl⟩))) hcell hv hcl ?_
      refine lv_astore (lv' := [(4, .ref q9), (0, .ref (ga G 18 0)), (1, .int a1), (2, .int a2), (3, .ref (ga G 20 0))]) hx hb dL_rides_13 hl (by decide) rfl (fun ls hl => ?_)
      refine lv_iconst (v := 1) hx hb dL_rides_15 (by decide) ?_
      exact h_iret X hret M (rt2 h).1 (rt2 h).2 dL_rides_16
  · have h := it_t h hE
    refine lv_i2l hx hb dL_rides_8 rfl ?_
    refine u_last X M hG.2.2.2.1 dL_rides_9 (fun H locs M => ?_)
    refine lv_goto (tgt := 17) hx hb dL_rides_10 (by decide) ?_
    refine lv_iconst (v := 0) hx hb dL_rides_17 (by decide) ?_
    exact h_iret X hret M (rt2 h).1 (rt2 h).2 dL_rides_18
def fL_ifUp (V : uV) (a1 : Int32) (a2 : Int32) : Option (Int32 × uV) :=
  bd3 (fX11_ifUp V a1 a2) fun E r V1 => if E = 0 then some (0, uS V1 20 0 (upd (V1 20 0) 0 r)) else if E = 3 then some (1, V1) else if E = 1 then some (2, V1) else none
set_option maxHeartbeats 4000000 in
set_option maxRecDepth 20000 in
theorem kL_ifUp {l : Launch} {G : UG} (hG : uAll G) (hlt : l.stackTraces = false) {V V' : uV} {a1 : Int32} {a2 : Int32} {r : Int32} (h : fL_ifUp V a1 a2 = some (r, V')) : uHi l G yL_ifUp cL_ifUp 5 [(0, 10, 13, 28), (0, 10, 17, 13)] 9 161 [.ref (ga G 18 0), .int a1, .int a2, .ref (ga G 20 0)] V r V' := by
  refine uHi_of rfl (Nat.le_of_ble_eq_true rfl) (fun p e s m args below meth c ls X hret htb hl M => ?_)
  have hl : lv_has ls 5 [(0, .ref (ga G 18 0)), (1, .int a1), (2, .int a2), (3, .ref (ga G 20 0))] := hl
  have hx := X.hx
  have hb := X.hb
  unfold fL_ifUp at h
  obtain ⟨E, r1, V1, e1, h⟩ := bd3_e h
  refine lv_aload_n hx hb dL_ifUp_0 rfl (lv_at hl 3 rfl) ?_
  refine lv_iconst (v := 0) hx hb dL_ifUp_1 (by decide) ?_
  refine lv_aload_n hx hb dL_ifUp_2 rfl (lv_at hl 0 rfl) ?_
  refine lv_iload_n hx hb dL_ifUp_3 rfl (lv_at hl 1 rfl) ?_
  refine lv_iload_n hx hb dL_ifUp_4 rfl (lv_at hl 2 rfl) ?_
  refine x_cVx X M hl.1 (kX11_ifUp hG hlt e1) cw_L_85 ⟨Nat.le_of_ble_eq_true rfl, Nat.le_of_ble_eq_true rfl⟩ (rc_X11 X M hG.2.1) rfl rfl (Nat.le_of_ble_eq_true rfl) ⟨Nat.le_refl _, Nat.le_refl _⟩ dL_ifUp_5 (fun K ce q9 H locs hex M hcell hv hcl => ?_) (fun H locs hE M => ?_)
  · rcases hex with ⟨rfl, rfl⟩ | ⟨rfl, rfl⟩ | ⟨rfl, rfl⟩
    · have h := it_f h (by decide)
      have h := it_f h (by decide)
      have h := it_t h rfl
      refine vx_catch (name := "java/lang/IllegalArgumentException") X.1.2.2.2.1 [⟨0, 10, 13, 28⟩] ⟨0, 10, 17, 13⟩ [] htb (fun z hz => by obtain rfl := List.mem_singleton.mp hz; exact Or.inr ⟨by decide, _, X.hts (gt_in 730 (by decide +kernel) (by decide +kernel)), X.2.2.1.2.2.2.2.2.2.2.1⟩) (by decide) (by decide) (X.hts (gt_in 454 (by decide +kernel) (by decide +kernel))) (va_Nw.use rfl (X.2.2.1.2.2.2.2.2.1 _ (List.mem_filter.mpr ⟨List.mem_of_getElem? (i := 468) (by decide +kernel), rfl⟩))) hcell hv hcl ?_
      refine lv_astore (lv' := [(4, .ref q9), (0, .ref (ga G 18 0)), (1, .int a1), (2, .int a2), (3, .ref (ga G 20 0))]) hx hb dL_ifUp_17 hl (by decide) rfl (fun ls hl => ?_)
      refine lv_iconst (v := 2) hx hb dL_ifUp_19 (by decide) ?_
      exact h_iret X hret M (rt2 h).1 (rt2 h).2 dL_ifUp_20
    · have h := it_f h (by decide)
      have h := it_f h (by decide)
      have h := it_f h (by decide)
      cases h
    · have h := it_f h (by decide)
      have h := it_t h rfl
      refine vx_catch (name := "java/lang/IndexOutOfBoundsException") X.1.2.2.2.1 [] ⟨0, 10, 13, 28⟩ [⟨0, 10, 17, 13⟩] htb (fun z hz => by cases hz) (by decide) (by decide) (X.hts (gt_in 730 (by decide +kernel) (by decide +kernel))) (va_Nw.use rfl (X.2.2.1.2.2.2.2.2.1 _ (List.mem_filter.mpr ⟨List.mem_of_getElem? (i := 741) (by decide +kernel), rfl⟩))) hcell hv hcl ?_
      refine lv_astore (lv' := [(4, .ref q9), (0, .ref (ga G 18 0)), (1, .int a1), (2, .int a2), (3, .ref (ga G 20 0))]) hx hb dL_ifUp_13 hl (by decide) rfl (fun ls hl => ?_)
      refine lv_iconst (v := 1) hx hb dL_ifUp_15 (by decide) ?_
      exact h_iret X hret M (rt2 h).1 (rt2 h).2 dL_ifUp_16
  · have h := it_t h hE
    refine lv_i2l hx hb dL_ifUp_8 rfl ?_
    refine u_last X M hG.2.2.2.1 dL_ifUp_9 (fun H locs M => ?_)
    refine lv_goto (tgt := 21) hx hb dL_ifUp_10 (by decide) ?_
    refine lv_iconst (v := 0) hx hb dL_ifUp_21 (by decide) ?_
    exact h_iret X hret M (rt2 h).1 (rt2 h).2 dL_ifUp_22
def fL_owes (V : uV) (a1 : Int32) : Option (Int32 × uV) :=
  bd3 (fX11_owes V a1) fun E r V1 => if E = 0 then some (0, uS V1 20 0 (upd (V1 20 0) 0 r)) else if E = 3 then some (1, V1) else none
set_option maxHeartbeats 4000000 in
set_option maxRecDepth 20000 in
theorem kL_owes {l : Launch} {G : UG} (hG : uAll G) (hlt : l.stackTraces = false) {V V' : uV} {a1 : Int32} {r : Int32} (h : fL_owes V a1 = some (r, V')) : uHi l G yL_owes cL_owes 4 [(0, 9, 12, 28)] 8 139 [.ref (ga G 18 0), .int a1, .ref (ga G 20 0)] V r V' := by
  refine uHi_of rfl (Nat.le_of_ble_eq_true rfl) (fun p e s m args below meth c ls X hret htb hl M => ?_)
  have hl : lv_has ls 4 [(0, .ref (ga G 18 0)), (1, .int a1), (2, .ref (ga G 20 0))] := hl
  have hx := X.hx
  have hb := X.hb
  unfold fL_owes at h
  obtain ⟨E, r1, V1, e1, h⟩ := bd3_e h
  refine lv_aload_n hx hb dL_owes_0 rfl (lv_at hl 2 rfl) ?_
  refine lv_iconst (v := 0) hx hb dL_owes_1 (by decide) ?_
  refine lv_aload_n hx hb dL_owes_2 rfl (lv_at hl 0 rfl) ?_
  refine lv_iload_n hx hb dL_owes_3 rfl (lv_at hl 1 rfl) ?_
  refine x_cVx X M hl.1 (kX11_owes hG hlt e1) cw_L_88 ⟨Nat.le_of_ble_eq_true rfl, Nat.le_of_ble_eq_true rfl⟩ (rc_X11 X M hG.2.1) rfl rfl (Nat.le_of_ble_eq_true rfl) ⟨Nat.le_refl _, Nat.le_refl _⟩ dL_owes_4 (fun K ce q9 H locs hex M hcell hv hcl => ?_) (fun H locs hE M => ?_)
  · rcases hex with ⟨rfl, rfl⟩ | ⟨rfl, rfl⟩ | ⟨rfl, rfl⟩
    · have h := it_f h (by decide)
      have h := it_f h (by decide)
      cases h
    · have h := it_f h (by decide)
      have h := it_f h (by decide)
      cases h
    · have h := it_f h (by decide)
      have h := it_t h rfl
      refine vx_catch (name := "java/lang/IndexOutOfBoundsException") X.1.2.2.2.1 [] ⟨0, 9, 12, 28⟩ [] htb (fun z hz => by cases hz) (by decide) (by decide) (X.hts (gt_in 730 (by decide +kernel) (by decide +kernel))) (va_Nw.use rfl (X.2.2.1.2.2.2.2.2.1 _ (List.mem_filter.mpr ⟨List.mem_of_getElem? (i := 741) (by decide +kernel), rfl⟩))) hcell hv hcl ?_
      refine lv_astore_n (lv' := [(3, .ref q9), (0, .ref (ga G 18 0)), (1, .int a1), (2, .ref (ga G 20 0))]) hx hb dL_owes_12 rfl hl (by decide) rfl (fun ls hl => ?_)
      refine lv_iconst (v := 1) hx hb dL_owes_13 (by decide) ?_
      exact h_iret X hret M (rt2 h).1 (rt2 h).2 dL_owes_14
  · have h := it_t h hE
    refine lv_i2l hx hb dL_owes_7 rfl ?_
    refine u_last X M hG.2.2.2.1 dL_owes_8 (fun H locs M => ?_)
    refine lv_goto (tgt := 15) hx hb dL_owes_9 (by decide) ?_
    refine lv_iconst (v := 0) hx hb dL_owes_15 (by decide) ?_
    exact h_iret X hret M (rt2 h).1 (rt2 h).2 dL_owes_16
def fL_runScript (V : uV) (a1 : Int32) (a2 : Int64) : Option (Int32 × uV) :=
  bd3 (fX11_runScript V a1 a2) fun E r V1 => if E = 0 then some (0, uS V1 20 0 (upd (V1 20 0) 0 r)) else if E = 1 then some (1, V1) else none
set_option maxHeartbeats 4000000 in
set_option maxRecDepth 20000 in
theorem kL_runScript {l : Launch} {G : UG} (hG : uAll G) (hlt : l.stackTraces = false) {V V' : uV} {a1 : Int32} {a2 : Int64} {r : Int32} (h : fL_runScript V a1 a2 = some (r, V')) : uHi l G yL_runScript cL_runScript 6 [(0, 11, 14, 13)] 9 168 [.ref (ga G 18 0), .int a1, .long a2, .ref (ga G 20 0)] V r V' := by
  refine uHi_of rfl (Nat.le_of_ble_eq_true rfl) (fun p e s m args below meth c ls X hret htb hl M => ?_)
  have hl : lv_has ls 6 [(0, .ref (ga G 18 0)), (1, .int a1), (2, .long a2), (4, .ref (ga G 20 0))] := hl
  have hx := X.hx
  have hb := X.hb
  unfold fL_runScript at h
  obtain ⟨E, r1, V1, e1, h⟩ := bd3_e h
  refine lv_aload hx hb dL_runScript_0 (lv_at hl 3 rfl) ?_
  refine lv_iconst (v := 0) hx hb dL_runScript_2 (by decide) ?_
  refine lv_aload_n hx hb dL_runScript_3 rfl (lv_at hl 0 rfl) ?_
  refine lv_iload_n hx hb dL_runScript_4 rfl (lv_at hl 1 rfl) ?_
  refine lv_lload_n hx hb dL_runScript_5 rfl (lv_at hl 2 rfl) ?_
  refine x_cVx X M hl.1 (kX11_runScript hG hlt e1) cw_L_91 ⟨Nat.le_of_ble_eq_true rfl, Nat.le_of_ble_eq_true rfl⟩ (rc_X11 X M hG.2.1) rfl rfl (Nat.le_of_ble_eq_true rfl) ⟨Nat.le_refl _, Nat.le_refl _⟩ dL_runScript_6 (fun K ce q9 H locs hex M hcell hv hcl => ?_) (fun H locs hE M => ?_)
  · rcases hex with ⟨rfl, rfl⟩ | ⟨rfl, rfl⟩ | ⟨rfl, rfl⟩
    · have h := it_f h (by decide)
      have h := it_t h rfl
      refine vx_catch (name := "java/lang/IllegalArgumentException") X.1.2.2.2.1 [] ⟨0, 11, 14, 13⟩ [] htb (fun z hz => by cases hz) (by decide) (by decide) (X.hts (gt_in 454 (by decide +kernel) (by decide +kernel))) (va_Nw.use rfl (X.2.2.1.2.2.2.2.2.1 _ (List.mem_filter.mpr ⟨List.mem_of_getElem? (i := 468) (by decide +kernel), rfl⟩))) hcell hv hcl ?_
      refine lv_astore (lv' := [(5, .ref q9), (0, .ref (ga G 18 0)), (1, .int a1), (2, .long a2), (4, .ref (ga G 20 0))]) hx hb dL_runScript_14 hl (by decide) rfl (fun ls hl => ?_)
      refine lv_iconst (v := 1) hx hb dL_runScript_16 (by decide) ?_
      exact h_iret X hret M (rt2 h).1 (rt2 h).2 dL_runScript_17
    · have h := it_f h (by decide)
      have h := it_f h (by decide)
      cases h
    · have h := it_f h (by decide)
      have h := it_f h (by decide)
      cases h
  · have h := it_t h hE
    refine lv_i2l hx hb dL_runScript_9 rfl ?_
    refine u_last X M hG.2.2.2.1 dL_runScript_10 (fun H locs M => ?_)
    refine lv_goto (tgt := 18) hx hb dL_runScript_11 (by decide) ?_
    refine lv_iconst (v := 0) hx hb dL_runScript_18 (by decide) ?_
    exact h_iret X hret M (rt2 h).1 (rt2 h).2 dL_runScript_19
def fL_simulate (V : uV) (a1 : Int64) (a2 : Int32) : Option (Int32 × uV) :=
  bd3 (fX11_simulate V a1 a2) fun E r V1 => if E = 0 then some (0, uS V1 20 0 (upd (V1 20 0) 0 r)) else if E = 1 then some (1, V1) else none
set_option maxHeartbeats 4000000 in
set_option maxRecDepth 20000 in
theorem kL_simulate {l : Launch} {G : UG} (hG : uAll G) (hlt : l.stackTraces = false) {V V' : uV} {a1 : Int64} {a2 : Int32} {r : Int32} (h : fL_simulate V a1 a2 = some (r, V')) : uHi l G yL_simulate cL_simulate 6 [(0, 11, 14, 13)] 9 167 [.ref (ga G 18 0), .long a1, .int a2, .ref (ga G 20 0)] V r V' := by
  refine uHi_of rfl (Nat.le_of_ble_eq_true rfl) (fun p e s m args below meth c ls X hret htb hl M => ?_)
  have hl : lv_has ls 6 [(0, .ref (ga G 18 0)), (1, .long a1), (3, .int a2), (4, .ref (ga G 20 0))] := hl
  have hx := X.hx
  have hb := X.hb
  unfold fL_simulate at h
  obtain ⟨E, r1, V1, e1, h⟩ := bd3_e h
  refine lv_aload hx hb dL_simulate_0 (lv_at hl 3 rfl) ?_
  refine lv_iconst (v := 0) hx hb dL_simulate_2 (by decide) ?_
  refine lv_aload_n hx hb dL_simulate_3 rfl (lv_at hl 0 rfl) ?_
  refine lv_lload_n hx hb dL_simulate_4 rfl (lv_at hl 1 rfl) ?_
  refine lv_iload_n hx hb dL_simulate_5 rfl (lv_at hl 2 rfl) ?_
  refine x_cVx X M hl.1 (kX11_simulate hG hlt e1) cw_L_95 ⟨Nat.le_of_ble_eq_true rfl, Nat.le_of_ble_eq_true rfl⟩ (rc_X11 X M hG.2.1) rfl rfl (Nat.le_of_ble_eq_true rfl) ⟨Nat.le_refl _, Nat.le_refl _⟩ dL_simulate_6 (fun K ce q9 H locs hex M hcell hv hcl => ?_) (fun H locs hE M => ?_)
  · rcases hex with ⟨rfl, rfl⟩ | ⟨rfl, rfl⟩ | ⟨rfl, rfl⟩
    · have h := it_f h (by decide)
      have h := it_t h rfl
      refine vx_catch (name := "java/lang/IllegalArgumentException") X.1.2.2.2.1 [] ⟨0, 11, 14, 13⟩ [] htb (fun z hz => by cases hz) (by decide) (by decide) (X.hts (gt_in 454 (by decide +kernel) (by decide +kernel))) (va_Nw.use rfl (X.2.2.1.2.2.2.2.2.1 _ (List.mem_filter.mpr ⟨List.mem_of_getElem? (i := 468) (by decide +kernel), rfl⟩))) hcell hv hcl ?_
      refine lv_astore (lv' := [(5, .ref q9), (0, .ref (ga G 18 0)), (1, .long a1), (3, .int a2), (4, .ref (ga G 20 0))]) hx hb dL_simulate_14 hl (by decide) rfl (fun ls hl => ?_)
      refine lv_iconst (v := 1) hx hb dL_simulate_16 (by decide) ?_
      exact h_iret X hret M (rt2 h).1 (rt2 h).2 dL_simulate_17
    · have h := it_f h (by decide)
      have h := it_f h (by decide)
      cases h
    · have h := it_f h (by decide)
      have h := it_f h (by decide)
      cases h
  · have h := it_t h hE
    refine lv_i2l hx hb dL_simulate_9 rfl ?_
    refine u_last X M hG.2.2.2.1 dL_simulate_10 (fun H locs M => ?_)
    refine lv_goto (tgt := 18) hx hb dL_simulate_11 (by decide) ?_
    refine lv_iconst (v := 0) hx hb dL_simulate_18 (by decide) ?_
    exact h_iret X hret M (rt2 h).1 (rt2 h).2 dL_simulate_19
def fL_save (V : uV) (a1 : Int32) : Option (Int32 × uV) :=
  bd3 (fX11_save V a1) fun E r V1 => if E = 0 then some (0, uS V1 20 0 (upd (V1 20 0) 0 r)) else if E = 3 then some (1, V1) else none
set_option maxHeartbeats 4000000 in
set_option maxRecDepth 20000 in
theorem kL_save {l : Launch} {G : UG} (hG : uAll G) (hlt : l.stackTraces = false) {V V' : uV} {a1 : Int32} {r : Int32} (h : fL_save V a1 = some (r, V')) : uHi l G yL_save cL_save 4 [(0, 9, 12, 28)] 8 146 [.ref (ga G 18 0), .int a1, .ref (ga G 20 0)] V r V' := by
  refine uHi_of rfl (Nat.le_of_ble_eq_true rfl) (fun p e s m args below meth c ls X hret htb hl M => ?_)
  have hl : lv_has ls 4 [(0, .ref (ga G 18 0)), (1, .int a1), (2, .ref (ga G 20 0))] := hl
  have hx := X.hx
  have hb := X.hb
  unfold fL_save at h
  obtain ⟨E, r1, V1, e1, h⟩ := bd3_e h
  refine lv_aload_n hx hb dL_save_0 rfl (lv_at hl 2 rfl) ?_
  refine lv_iconst (v := 0) hx hb dL_save_1 (by decide) ?_
  refine lv_aload_n hx hb dL_save_2 rfl (lv_at hl 0 rfl) ?_
  refine lv_iload_n hx hb dL_save_3 rfl (lv_at hl 1 rfl) ?_
  refine x_cVx X M hl.1 (kX11_save hG hlt e1) cw_L_99 ⟨Nat.le_of_ble_eq_true rfl, Nat.le_of_ble_eq_true rfl⟩ (rc_X11 X M hG.2.1) rfl rfl (Nat.le_of_ble_eq_true rfl) ⟨Nat.le_refl _, Nat.le_refl _⟩ dL_save_4 (fun K ce q9 H locs hex M hcell hv hcl => ?_) (fun H locs hE M => ?_)
  · rcases hex with ⟨rfl, rfl⟩ | ⟨rfl, rfl⟩ | ⟨rfl, rfl⟩
    · have h := it_f h (by decide)
      have h := it_f h (by decide)
      cases h
    · have h := it_f h (by decide)
      have h := it_f h (by decide)
      cases h
    · have h := it_f h (by decide)
      have h := it_t h rfl
      refine vx_catch (name := "java/lang/IndexOutOfBoundsException") X.1.2.2.2.1 [] ⟨0, 9, 12, 28⟩ [] htb (fun z hz => by cases hz) (by decide) (by decide) (X.hts (gt_in 730 (by decide +kernel) (by decide +kernel))) (va_Nw.use rfl (X.2.2.1.2.2.2.2.2.1 _ (List.mem_filter.mpr ⟨List.mem_of_getElem? (i := 741) (by decide +kernel), rfl⟩))) hcell hv hcl ?_
      refine lv_astore_n (lv' := [(3, .ref q9), (0, .ref (ga G 18 0)), (1, .int a1), (2, .ref (ga G 20 0))]) hx hb dL_save_12 rfl hl (by decide) rfl (fun ls hl => ?_)
      refine lv_iconst (v := 1) hx hb dL_save_13 (by decide) ?_
      exact h_iret X hret M (rt2 h).1 (rt2 h).2 dL_save_14
  · have h := it_t h hE
    refine lv_i2l hx hb dL_save_7 rfl ?_
    refine u_last X M hG.2.2.2.1 dL_save_8 (fun H locs M => ?_)
    refine lv_goto (tgt := 15) hx hb dL_save_9 (by decide) ?_
    refine lv_iconst (v := 0) hx hb dL_save_15 (by decide) ?_
    exact h_iret X hret M (rt2 h).1 (rt2 h).2 dL_save_16
def fL_restore (V : uV) (a1 : Int32) : Option (Int32 × uV) :=
  bd3 (fX11_restore V a1) fun E r V1 => if E = 0 then some (0, uS V1 20 0 (upd (V1 20 0) 0 r)) else if E = 3 then some (1, V1) else if E = 2 then some (2, V1) else none
set_option maxHeartbeats 4000000 in
set_option maxRecDepth 20000 in
theorem kL_restore {l : Launch} {G : UG} (hG : uAll G) (hlt : l.stackTraces = false) {V V' : uV} {a1 : Int32} {r : Int32} (h : fL_restore V a1 = some (r, V')) : uHi l G yL_restore cL_restore 4 [(0, 9, 12, 28), (0, 9, 15, 15)] 8 146 [.ref (ga G 18 0), .int a1, .ref (ga G 20 0)] V r V' := by
  refine uHi_of rfl (Nat.le_of_ble_eq_true rfl) (fun p e s m args below meth c ls X hret htb hl M => ?_)
  have hl : lv_has ls 4 [(0, .ref (ga G 18 0)), (1, .int a1), (2, .ref (ga G 20 0))] := hl
  have hx := X.hx
  have hb := X.hb
  unfold fL_restore at h
  obtain ⟨E, r1, V1, e1, h⟩ := bd3_e h
  refine lv_aload_n hx hb dL_restore_0 rfl (lv_at hl 2 rfl) ?_
  refine lv_iconst (v := 0) hx hb dL_restore_1 (by decide) ?_
  refine lv_aload_n hx hb dL_restore_2 rfl (lv_at hl 0 rfl) ?_
  refine lv_iload_n hx hb dL_restore_3 rfl (lv_at hl 1 rfl) ?_
  refine x_cVx X M hl.1 (kX11_restore hG hlt e1) cw_L_102 ⟨Nat.le_of_ble_eq_true rfl, Nat.le_of_ble_eq_true rfl⟩ (rc_X11 X M hG.2.1) rfl rfl (Nat.le_of_ble_eq_true rfl) ⟨Nat.le_refl _, Nat.le_refl _⟩ dL_restore_4 (fun K ce q9 H locs hex M hcell hv hcl => ?_) (fun H locs hE M => ?_)
  · rcases hex with ⟨rfl, rfl⟩ | ⟨rfl, rfl⟩ | ⟨rfl, rfl⟩
    · have h := it_f h (by decide)
      have h := it_f h (by decide)
      have h := it_f h (by decide)
      cases h
    · have h := it_f h (by decide)
      have h := it_f h (by decide)
      have h := it_t h rfl
      refine vx_catch (name := "java/lang/IllegalStateException") X.1.2.2.2.1 [⟨0, 9, 12, 28⟩] ⟨0, 9, 15, 15⟩ [] htb (fun z hz => by obtain rfl := List.mem_singleton.mp hz; exact Or.inr ⟨by decide, _, X.hts (gt_in 730 (by decide +kernel) (by decide +kernel)), X.2.2.1.2.2.2.2.2.2.2.2⟩) (by decide) (by decide) (X.hts (gt_in 455 (by decide +kernel) (by decide +kernel))) (va_Nw.use rfl (X.2.2.1.2.2.2.2.2.1 _ (List.mem_filter.mpr ⟨List.mem_of_getElem? (i := 543) (by decide +kernel), rfl⟩))) hcell hv hcl ?_
      refine lv_astore_n (lv' := [(3, .ref q9), (0, .ref (ga G 18 0)), (1, .int a1), (2, .ref (ga G 20 0))]) hx hb dL_restore_15 rfl hl (by decide) rfl (fun ls hl => ?_)
      refine lv_iconst (v := 2) hx hb dL_restore_16 (by decide) ?_
      exact h_iret X hret M (rt2 h).1 (rt2 h).2 dL_restore_17
    · have h := it_f h (by decide)
      have h := it_t h rfl
      refine vx_catch (name := "java/lang/IndexOutOfBoundsException") X.1.2.2.2.1 [] ⟨0, 9, 12, 28⟩ [⟨0, 9, 15, 15⟩] htb (fun z hz => by cases hz) (by decide) (by decide) (X.hts (gt_in 730 (by decide +kernel) (by decide +kernel))) (va_Nw.use rfl (X.2.2.1.2.2.2.2.2.1 _ (List.mem_filter.mpr ⟨List.mem_of_getElem? (i := 741) (by decide +kernel), rfl⟩))) hcell hv hcl ?_
      refine lv_astore_n (lv' := [(3, .ref q9), (0, .ref (ga G 18 0)), (1, .int a1), (2, .ref (ga G 20 0))]) hx hb dL_restore_12 rfl hl (by decide) rfl (fun ls hl => ?_)
      refine lv_iconst (v := 1) hx hb dL_restore_13 (by decide) ?_
      exact h_iret X hret M (rt2 h).1 (rt2 h).2 dL_restore_14
  · have h := it_t h hE
    refine lv_i2l hx hb dL_restore_7 rfl ?_
    refine u_last X M hG.2.2.2.1 dL_restore_8 (fun H locs M => ?_)
    refine lv_goto (tgt := 18) hx hb dL_restore_9 (by decide) ?_
    refine lv_iconst (v := 0) hx hb dL_restore_18 (by decide) ?_
    exact h_iret X hret M (rt2 h).1 (rt2 h).2 dL_restore_19
