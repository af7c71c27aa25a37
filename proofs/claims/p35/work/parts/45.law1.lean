
def bd3 {α β γ δ : Type} (x : Option (α × β × γ)) (f : α → β → γ → Option δ) : Option δ := x.bind fun q => f q.1 q.2.1 q.2.2
theorem bd3_e {α β γ δ : Type} {x : Option (α × β × γ)} {f : α → β → γ → Option δ} {r : δ} (h : bd3 x f = some r) : ∃ a b c, x = some (a, b, c) ∧ f a b c = some r := by
  obtain ⟨⟨a, b, c⟩, h1, h2⟩ := Option.bind_eq_some_iff.mp h
  exact ⟨a, b, c, h1, h2⟩
/-- the ghost beside a call: the row model's own call, its scratch rows cleared -/
def norm (M : Nat → Nat → Int32) : Nat → Nat → Int32 := va_up (va_up (va_up M 0 (upd (M 0) 0 0)) 3 (fun _ => 0)) 4 (fun _ => 0)
def gh3 (c : Option (Int32 × Int32 × uV)) (m : Option (Int32 × (Nat → Nat → Int32))) : Option (Int32 × Int32 × uV) := bd3 c fun E r V1 => bd2 m fun _ S => some (E, r, va_up V1 19 (norm S))
theorem gh3_e {c : Option (Int32 × Int32 × uV)} {m : Option (Int32 × (Nat → Nat → Int32))} {E r : Int32} {V' : uV} (h : gh3 c m = some (E, r, V')) : ∃ V1 S, c = some (E, r, V1) ∧ V' = va_up V1 19 S := by
  obtain ⟨E1, r1, V1, h1, h2⟩ := bd3_e h
  obtain ⟨z, S, h3, h4⟩ := bd2_e h2
  cases h4
  exact ⟨V1, _, h1, rfl⟩
def uNo (G : UG) : Prop := ∀ t o, (t, o) ∈ gk G → t ≠ 19
theorem UH_gh {g : UG} (hN : uNo g) {V1 : uV} {S : Nat → Nat → Int32} {H : Heap} (h : UH g V1 H) : UH g (va_up V1 19 S) H := UH_same h (fun t o ho => by rw [va_up_n (hN t o ho)])
theorem uXi_gh {l : Launch} {g : UG} (hN : uNo g) {y : MethodName} {bytes : ByteArray} {ml : Nat} {ty : FieldType} {rm : Room} {As : List Value} {V : uV} {E r : Int32} {V1 V' : uV} {S : Nat → Nat → Int32} (h : uXi l g y bytes ml ty rm As V E r V1) (e : V' = va_up V1 19 S) : uXi l g y bytes ml ty rm As V E r V' := by
  intro p e0 ha hf hc s m args below hfr hap hP hK
  obtain ⟨n, o, h1, h2, h3, h4 | ⟨q, hq, E0, ce, L, ⟨u, h5, h6, h7⟩, h8⟩⟩ := h p e0 ha hf hc s m args below hfr hap hP hK
  · obtain ⟨⟨⟨r1, u, q1, q2, q3⟩, q4⟩, q5⟩ := h4
    exact ⟨n, o, h1, h2, h3, Or.inl ⟨⟨⟨r1, u, q1, q2, by rw [e]; exact UH_gh hN q3⟩, q4⟩, q5⟩⟩
  · exact ⟨n, o, h1, h2, h3, Or.inr ⟨q, hq, E0, ce, L, ⟨u, h5, ⟨h6.1, by rw [e]; exact UH_gh hN h6.2⟩, h7⟩, h8⟩⟩
def uHi (l : Launch) (g : UG) (y : MethodName) (bytes : ByteArray) (ml : Nat) (hh : List (Nat × Nat × Nat × Nat)) (fr lo : Nat) (As : List Value) (V : uV) (r : Int32) (V' : uV) : Prop :=
  Met l y (.codeWith y bytes ml (some .int) hh :: gtbl) (nR fr 1 6 lo) (va_Pc As (uPre g V)) (uQi g .int r V') 1 6 (uA g)
theorem uHi_of {l : Launch} {g : UG} {y : MethodName} {bytes : ByteArray} {ml : Nat} {hh : List (Nat × Nat × Nat × Nat)} {fr lo : Nat} {As : List Value} {V : uV} {r : Int32} {V' : uV} (hy : plainName y.cls = true) (hlen : (lg_sl As).length ≤ ml)
    (body : ∀ (p : Program) (e : Env) (s : State) (m : MethodId) (args : Array Value) (below : List Frame) (meth : Method) (c : Code) (ls : Array Slot), UC p s m args meth c bytes ml y.cls g → meth.sig.returnType = some .int → c.exceptionTable.toList = tableOf hh → lv_has ls ml (lv_args 0 As) → UM g V s s.heap [] →
      W p l e (nR fr 1 6 lo) s m args below meth c s.heap [] 0 0 (vx_MQ below (uQi g .int r V') (fun _ _ _ => False) args s 1 6 (uA g)) (F0 m 0 ls [])) : uHi l g y bytes ml hh fr lo As V r V' := by
  have hX : vx_Met l y (.codeWith y bytes ml (some .int) hh :: gtbl) (nR fr 1 6 lo) (va_Pc As (uPre g V)) (uQi g .int r V') (fun _ _ _ => False) 1 6 (uA g) := by
    refine vx_ofWH (cc := bytes) (maxL := ml) (ret := some .int) (hh := hh) hy rfl ?_
    intro p e s m args below meth c s₁ B hml hv
    obtain ⟨rfl, hU, hK, hXx⟩ := hv
    have hts := atoms_spec (ws := .codeWith y bytes ml (some .int) hh :: gtbl) B.pre
    have hl := lv_entry As (n := ml) hlen
    rw [lg_entry_eq]
    exact body p e s m As.toArray below meth c _ ⟨⟨B.exec, B.bytes, hml, findClass_of_methodNamed B.named, fun w h => hts w (List.mem_cons_of_mem _ h)⟩, hK, hXx, B.notSynchronized⟩ B.returns (vx_table (x := y) B (hts _ List.mem_cons_self)) hl ⟨hU, va_S.rf⟩
  intro p e ha hf hc s m args below hfr hap hP hK
  obtain ⟨n, o, h1, h2, h3, h4 | ⟨q, _, E, ce, L, h5, _⟩⟩ := hX p e ha hf hc s m args below hfr hap hP hK
  · exact ⟨n, o, h1, h2, h3, h4⟩
  · exact h5.elim
section LROWS
variable {p : Program} {l : Launch} {e : Env} {R : Room} {s : State} {m : MethodId} {args : Array Value} {below : List Frame} {meth : Method} {c : Code} {H : Heap} {locs : List Loc} {cells slots : Nat} {Q : State → Prop}
variable {cc : ByteArray} {pc nL : Nat} {ls : Array Slot} {rest : List Value} {own : String} {g : UG} {V V' : uV}
theorem x_cVx {y : MethodName} {bytes : ByteArray} {ml index fr lo n b : Nat} {ty : FieldType} {As st0 : List Value} {E r : Int32} {C : String} (X : UC p s m args meth c cc nL own g) (M : UM g V s H locs) (hl : ls.size = nL) (hM : uXi l g y bytes ml ty (uRx fr lo) (.ref b :: As) V E r V') (hC : uCW own C index y bytes ml (some ty) n) (hR : fr + 1 ≤ R.frames ∧ 8 + (ml + 11) + lo ≤ R.locals) (hrecv : ∃ cell : Cell, H[b]? = some cell ∧ cell.vm.isStatics = false ∧ s.vm.findClass C = some cell.cls) (hn : As.length = n) (hst : st0 = As.reverse ++ .ref b :: rest) (hw : (rest.map fun v => v.category).sum ≤ 8) (hf : cells + 1 ≤ R.cells ∧ slots + 6 ≤ R.slots) (hdg : decode cc pc = .ok (.invokevirtual index, 3))
    (kx : ∀ (K : String) (ce : Cell) (q9 : Addr) (H1 : Heap) (locs1 : List Loc), exOf E K → UM g V' s H1 locs1 → H1[q9]? = some ce → ce.vm = .none → s.vm.findClass K = some ce.cls → vx_W p l e R s m args below meth c H1 locs1 (cells + 1) (slots + 6) Q (F0 m pc ls rest) q9)
    (kk : ∀ (H1 : Heap) (locs1 : List Loc), E = 0 → UM g V' s H1 locs1 → W p l e R s m args below meth c H1 locs1 (cells + 1) (slots + 6) Q (F0 m (pc + 3) ls (.int r :: rest))) : W p l e R s m args below meth c H locs cells slots Q (F0 m pc ls st0) := by
  obtain ⟨h1, h2, h3, h4, h5, h6, h7⟩ := hC
  have hcb : CallB R s args own index y bytes ml (some ty) (.code y bytes ml (some ty) :: gtbl) (uRx fr lo) 1 6 n := callB_of (ws' := gtbl) n (Ts := gtbl) (fun w h => X.hts h) (gt_cons h5 gt_good (fun _ h => h)) rfl rfl rfl (by rw [h6]; exact X.hts h4) (X.hts h1) h7 hR
  refine vx_calli (vx_runV (As := As) (rest := rest) X.1 hM ⟨hcb, X.hts h2, X.hts h3⟩ ⟨u_blind, hrecv, fun U hU hW => ⟨rfl, u_pre X M hU hW⟩⟩ rfl hn hl hst (lv_room hw) hdg hf) M.2 (fun q _ h => h) (fun q h => h) (fun q _ h => h) ?_ ?_
  · intro K ce q9 u t H1 locs1 ht hvm hpx hBX hz hk hS hcell hv hcl
    exact kx K ce q9 H1 locs1 hBX.1 ⟨by rw [← ht]; exact hBX.2, hS⟩ hcell hv hcl
  · intro r1 u t H1 locs1 ht hvm hw hB hz hk hS
    obtain ⟨hE, rfl, -⟩ := hw
    exact kk H1 locs1 hE ⟨by rw [← ht]; exact hB, hS⟩
theorem h_iret {r v : Int32} (X : UC p s m args meth c cc nL own g) (hret : meth.sig.returnType = some .int) (M : UM g V s H locs) (hr : v = r) (hV : V = V') (hdg : decode cc pc = .ok (.ireturn, 1)) :
    W p l e R s m args below meth c H locs 1 6 (vx_MQ below (uQi g .int r V') (fun _ _ _ => False) args s 1 6 (uA g)) (F0 m pc ls [.int v]) := vx_ret (u_iret X hret M hr hV rfl hdg)
end LROWS
theorem dL_tryScript_0 : decode cL_tryScript 0 = .ok (.aload_n 0, 1) := by decide +kernel
theorem dL_tryScript_1 : decode cL_tryScript 1 = .ok (.iload_n 1, 1) := by decide +kernel
theorem dL_tryScript_2 : decode cL_tryScript 2 = .ok (.lload_n 2, 1) := by decide +kernel
theorem dL_tryScript_3 : decode cL_tryScript 3 = .ok (.invokevirtual 7, 3) := by decide +kernel
theorem dL_tryScript_6 : decode cL_tryScript 6 = .ok (.ireturn, 1) := by decide +kernel
theorem dL_tryScript_7 : decode cL_tryScript 7 = .ok (.astore 4, 2) := by decide +kernel
theorem dL_tryScript_9 : decode cL_tryScript 9 = .ok (.ldc 15, 2) := by decide +kernel
theorem dL_tryScript_11 : decode cL_tryScript 11 = .ok (.ireturn, 1) := by decide +kernel
theorem dL_trySimulate_0 : decode cL_trySimulate 0 = .ok (.aload_n 0, 1) := by decide +kernel
theorem dL_trySimulate_1 : decode cL_trySimulate 1 = .ok (.lload_n 1, 1) := by decide +kernel
theorem dL_trySimulate_2 : decode cL_trySimulate 2 = .ok (.iload_n 3, 1) := by decide +kernel
theorem dL_trySimulate_3 : decode cL_trySimulate 3 = .ok (.invokevirtual 16, 3) := by decide +kernel
theorem dL_trySimulate_6 : decode cL_trySimulate 6 = .ok (.ireturn, 1) := by decide +kernel
theorem dL_trySimulate_7 : decode cL_trySimulate 7 = .ok (.astore 4, 2) := by decide +kernel
theorem dL_trySimulate_9 : decode cL_trySimulate 9 = .ok (.ldc 15, 2) := by decide +kernel
theorem dL_trySimulate_11 : decode cL_trySimulate 11 = .ok (.ireturn, 1) := by decide +kernel
theorem dL_tryAppend_0 : decode cL_tryAppend 0 = .ok (.aload_n 0, 1) := by decide +kernel
theorem dL_tryAppend_1 : decode cL_tryAppend 1 = .ok (.iload_n 1, 1) := by decide +kernel
theorem dL_tryAppend_2 : decode cL_tryAppend 2 = .ok (.invokevirtual 20, 3) := by decide +kernel
theorem dL_tryAppend_5 : decode cL_tryAppend 5 = .ok (.ireturn, 1) := by decide +kernel
theorem dL_tryAppend_6 : decode cL_tryAppend 6 = .ok (.astore_n 2, 1) := by decide +kernel
theorem dL_tryAppend_7 : decode cL_tryAppend 7 = .ok (.ldc 15, 2) := by decide +kernel
theorem dL_tryAppend_9 : decode cL_tryAppend 9 = .ok (.ireturn, 1) := by decide +kernel
theorem dL_tryAppend_10 : decode cL_tryAppend 10 = .ok (.astore_n 2, 1) := by decide +kernel
theorem dL_tryAppend_11 : decode cL_tryAppend 11 = .ok (.ldc 26, 2) := by decide +kernel
theorem dL_tryAppend_13 : decode cL_tryAppend 13 = .ok (.ireturn, 1) := by decide +kernel
theorem dL_tryAbout_0 : decode cL_tryAbout 0 = .ok (.aload_n 0, 1) := by decide +kernel
theorem dL_tryAbout_1 : decode cL_tryAbout 1 = .ok (.iload_n 1, 1) := by decide +kernel
theorem dL_tryAbout_2 : decode cL_tryAbout 2 = .ok (.invokevirtual 31, 3) := by decide +kernel
theorem dL_tryAbout_5 : decode cL_tryAbout 5 = .ok (.ireturn, 1) := by decide +kernel
theorem dL_tryAbout_6 : decode cL_tryAbout 6 = .ok (.astore_n 2, 1) := by decide +kernel
theorem dL_tryAbout_7 : decode cL_tryAbout 7 = .ok (.ldc 15, 2) := by decide +kernel
theorem dL_tryAbout_9 : decode cL_tryAbout 9 = .ok (.ireturn, 1) := by decide +kernel
theorem dL_tryCard_0 : decode cL_tryCard 0 = .ok (.aload_n 0, 1) := by decide +kernel
theorem dL_tryCard_1 : decode cL_tryCard 1 = .ok (.iload_n 1, 1) := by decide +kernel
theorem dL_tryCard_2 : decode cL_tryCard 2 = .ok (.iload_n 2, 1) := by decide +kernel
theorem dL_tryCard_3 : decode cL_tryCard 3 = .ok (.invokevirtual 34, 3) := by decide +kernel
theorem dL_tryCard_6 : decode cL_tryCard 6 = .ok (.ireturn, 1) := by decide +kernel
theorem dL_tryCard_7 : decode cL_tryCard 7 = .ok (.astore_n 3, 1) := by decide +kernel
theorem dL_tryCard_8 : decode cL_tryCard 8 = .ok (.ldc 40, 2) := by decide +kernel
theorem dL_tryCard_10 : decode cL_tryCard 10 = .ok (.ireturn, 1) := by decide +kernel
theorem dL_tryCard_11 : decode cL_tryCard 11 = .ok (.astore_n 3, 1) := by decide +kernel
theorem dL_tryCard_12 : decode cL_tryCard 12 = .ok (.ldc 15, 2) := by decide +kernel
theorem dL_tryCard_14 : decode cL_tryCard 14 = .ok (.ireturn, 1) := by decide +kernel
theorem dL_tryAccount_0 : decode cL_tryAccount 0 = .ok (.aload_n 0, 1) := by decide +kernel
theorem dL_tryAccount_1 : decode cL_tryAccount 1 = .ok (.iload_n 1, 1) := by decide +kernel
theorem dL_tryAccount_2 : decode cL_tryAccount 2 = .ok (.iload_n 2, 1) := by decide +kernel
theorem dL_tryAccount_3 : decode cL_tryAccount 3 = .ok (.invokevirtual 41, 3) := by decide +kernel
theorem dL_tryAccount_6 : decode cL_tryAccount 6 = .ok (.ireturn, 1) := by decide +kernel
theorem dL_tryAccount_7 : decode cL_tryAccount 7 = .ok (.astore_n 3, 1) := by decide +kernel
theorem dL_tryAccount_8 : decode cL_tryAccount 8 = .ok (.ldc 40, 2) := by decide +kernel
theorem dL_tryAccount_10 : decode cL_tryAccount 10 = .ok (.ireturn, 1) := by decide +kernel
theorem dL_tryAccount_11 : decode cL_tryAccount 11 = .ok (.astore_n 3, 1) := by decide +kernel
theorem dL_tryAccount_12 : decode cL_tryAccount 12 = .ok (.ldc 15, 2) := by decide +kernel
theorem dL_tryAccount_14 : decode cL_tryAccount 14 = .ok (.ireturn, 1) := by decide +kernel
theorem dL_tryGate_0 : decode cL_tryGate 0 = .ok (.aload_n 0, 1) := by decide +kernel
theorem dL_tryGate_1 : decode cL_tryGate 1 = .ok (.iload_n 1, 1) := by decide +kernel
theorem dL_tryGate_2 : decode cL_tryGate 2 = .ok (.iload_n 2, 1) := by decide +kernel
theorem dL_tryGate_3 : decode cL_tryGate 3 = .ok (.invokevirtual 44, 3) := by decide +kernel
theorem dL_tryGate_6 : decode cL_tryGate 6 = .ok (.ireturn, 1) := by decide +kernel
theorem dL_tryGate_7 : decode cL_tryGate 7 = .ok (.astore_n 3, 1) := by decide +kernel
theorem dL_tryGate_8 : decode cL_tryGate 8 = .ok (.ldc 40, 2) := by decide +kernel
theorem dL_tryGate_10 : decode cL_tryGate 10 = .ok (.ireturn, 1) := by decide +kernel
theorem dL_tryGate_11 : decode cL_tryGate 11 = .ok (.astore_n 3, 1) := by decide +kernel
theorem dL_tryGate_12 : decode cL_tryGate 12 = .ok (.ldc 15, 2) := by decide +kernel
theorem dL_tryGate_14 : decode cL_tryGate 14 = .ok (.ireturn, 1) := by decide +kernel
theorem dL_tryLogged_0 : decode cL_tryLogged 0 = .ok (.aload_n 0, 1) := by decide +kernel
theorem dL_tryLogged_1 : decode cL_tryLogged 1 = .ok (.iload_n 1, 1) := by decide +kernel
theorem dL_tryLogged_2 : decode cL_tryLogged 2 = .ok (.iload_n 2, 1) := by decide +kernel
theorem dL_tryLogged_3 : decode cL_tryLogged 3 = .ok (.iload_n 3, 1) := by decide +kernel
theorem dL_tryLogged_4 : decode cL_tryLogged 4 = .ok (.invokevirtual 47, 3) := by decide +kernel
theorem dL_tryLogged_7 : decode cL_tryLogged 7 = .ok (.ireturn, 1) := by decide +kernel
theorem dL_tryLogged_8 : decode cL_tryLogged 8 = .ok (.astore 4, 2) := by decide +kernel
theorem dL_tryLogged_10 : decode cL_tryLogged 10 = .ok (.ldc 40, 2) := by decide +kernel
theorem dL_tryLogged_12 : decode cL_tryLogged 12 = .ok (.ireturn, 1) := by decide +kernel
theorem dL_tryLogged_13 : decode cL_tryLogged 13 = .ok (.astore 4, 2) := by decide +kernel
theorem dL_tryLogged_15 : decode cL_tryLogged 15 = .ok (.ldc 15, 2) := by decide +kernel
theorem dL_tryLogged_17 : decode cL_tryLogged 17 = .ok (.ireturn, 1) := by decide +kernel
theorem dL_trySetting_0 : decode cL_trySetting 0 = .ok (.aload_n 0, 1) := by decide +kernel
theorem dL_trySetting_1 : decode cL_trySetting 1 = .ok (.iload_n 1, 1) := by decide +kernel
theorem dL_trySetting_2 : decode cL_trySetting 2 = .ok (.invokevirtual 51, 3) := by decide +kernel
theorem dL_trySetting_5 : decode cL_trySetting 5 = .ok (.ireturn, 1) := by decide +kernel
theorem dL_trySetting_6 : decode cL_trySetting 6 = .ok (.astore_n 2, 1) := by decide +kernel
theorem dL_trySetting_7 : decode cL_trySetting 7 = .ok (.ldc 15, 2) := by decide +kernel
theorem dL_trySetting_9 : decode cL_trySetting 9 = .ok (.ireturn, 1) := by decide +kernel
theorem dL_tryIssue_0 : decode cL_tryIssue 0 = .ok (.aload_n 0, 1) := by decide +kernel
theorem dL_tryIssue_1 : decode cL_tryIssue 1 = .ok (.iload_n 1, 1) := by decide +kernel
theorem dL_tryIssue_2 : decode cL_tryIssue 2 = .ok (.invokevirtual 54, 3) := by decide +kernel
theorem dL_tryIssue_5 : decode cL_tryIssue 5 = .ok (.ireturn, 1) := by decide +kernel
theorem dL_tryIssue_6 : decode cL_tryIssue 6 = .ok (.astore_n 2, 1) := by decide +kernel
theorem dL_tryIssue_7 : decode cL_tryIssue 7 = .ok (.ldc 15, 2) := by decide +kernel
theorem dL_tryIssue_9 : decode cL_tryIssue 9 = .ok (.ireturn, 1) := by decide +kernel
theorem dL_tryIssue_10 : decode cL_tryIssue 10 = .ok (.astore_n 2, 1) := by decide +kernel
theorem dL_tryIssue_11 : decode cL_tryIssue 11 = .ok (.ldc 26, 2) := by decide +kernel
theorem dL_tryIssue_13 : decode cL_tryIssue 13 = .ok (.ireturn, 1) := by decide +kernel
theorem dL_tryCopy_0 : decode cL_tryCopy 0 = .ok (.aload_n 0, 1) := by decide +kernel
theorem dL_tryCopy_1 : decode cL_tryCopy 1 = .ok (.iload_n 1, 1) := by decide +kernel
theorem dL_tryCopy_2 : decode cL_tryCopy 2 = .ok (.invokevirtual 57, 3) := by decide +kernel
theorem dL_tryCopy_5 : decode cL_tryCopy 5 = .ok (.ireturn, 1) := by decide +kernel
theorem dL_tryCopy_6 : decode cL_tryCopy 6 = .ok (.astore_n 2, 1) := by decide +kernel
theorem dL_tryCopy_7 : decode cL_tryCopy 7 = .ok (.ldc 40, 2) := by decide +kernel
theorem dL_tryCopy_9 : decode cL_tryCopy 9 = .ok (.ireturn, 1) := by decide +kernel
theorem dL_tryCopy_10 : decode cL_tryCopy 10 = .ok (.astore_n 2, 1) := by decide +kernel
theorem dL_tryCopy_11 : decode cL_tryCopy 11 = .ok (.ldc 26, 2) := by decide +kernel
theorem dL_tryCopy_13 : decode cL_tryCopy 13 = .ok (.ireturn, 1) := by decide +kernel
theorem dL_tryRide_0 : decode cL_tryRide 0 = .ok (.aload_n 0, 1) := by decide +kernel
theorem dL_tryRide_1 : decode cL_tryRide 1 = .ok (.iload_n 1, 1) := by decide +kernel
theorem dL_tryRide_2 : decode cL_tryRide 2 = .ok (.iload_n 2, 1) := by decide +kernel
theorem dL_tryRide_3 : decode cL_tryRide 3 = .ok (.invokevirtual 60, 3) := by decide +kernel
theorem dL_tryRide_6 : decode cL_tryRide 6 = .ok (.ireturn, 1) := by decide +kernel
theorem dL_tryRide_7 : decode cL_tryRide 7 = .ok (.astore_n 3, 1) := by decide +kernel
theorem dL_tryRide_8 : decode cL_tryRide 8 = .ok (.ldc 40, 2) := by decide +kernel
theorem dL_tryRide_10 : decode cL_tryRide 10 = .ok (.ireturn, 1) := by decide +kernel
theorem dL_tryPay_0 : decode cL_tryPay 0 = .ok (.aload_n 0, 1) := by decide +kernel
theorem dL_tryPay_1 : decode cL_tryPay 1 = .ok (.iload_n 1, 1) := by decide +kernel
theorem dL_tryPay_2 : decode cL_tryPay 2 = .ok (.iload_n 2, 1) := by decide +kernel
theorem dL_tryPay_3 : decode cL_tryPay 3 = .ok (.invokevirtual 63, 3) := by decide +kernel
theorem dL_tryPay_6 : decode cL_tryPay 6 = .ok (.ireturn, 1) := by decide +kernel
theorem dL_tryPay_7 : decode cL_tryPay 7 = .ok (.astore_n 3, 1) := by decide +kernel
theorem dL_tryPay_8 : decode cL_tryPay 8 = .ok (.ldc 40, 2) := by decide +kernel
theorem dL_tryPay_10 : decode cL_tryPay 10 = .ok (.ireturn, 1) := by decide +kernel
theorem dL_tryPay_11 : decode cL_tryPay 11 = .ok (.astore_n 3, 1) := by decide +kernel
theorem dL_tryPay_12 : decode cL_tryPay 12 = .ok (.ldc 15, 2) := by decide +kernel
theorem dL_tryPay_14 : decode cL_tryPay 14 = .ok (.ireturn, 1) := by decide +kernel
theorem dL_tryPardon_0 : decode cL_tryPardon 0 = .ok (.aload_n 0, 1) := by decide +kernel
theorem dL_tryPardon_1 : decode cL_tryPardon 1 = .ok (.iload_n 1, 1) := by decide +kernel
theorem dL_tryPardon_2 : decode cL_tryPardon 2 = .ok (.invokevirtual 66, 3) := by decide +kernel
theorem dL_tryPardon_5 : decode cL_tryPardon 5 = .ok (.ireturn, 1) := by decide +kernel
theorem dL_tryPardon_6 : decode cL_tryPardon 6 = .ok (.astore_n 2, 1) := by decide +kernel
theorem dL_tryPardon_7 : decode cL_tryPardon 7 = .ok (.ldc 40, 2) := by decide +kernel
theorem dL_tryPardon_9 : decode cL_tryPardon 9 = .ok (.ireturn, 1) := by decide +kernel
theorem dL_tryPardon_10 : decode cL_tryPardon 10 = .ok (.astore_n 2, 1) := by decide +kernel
theorem dL_tryPardon_11 : decode cL_tryPardon 11 = .ok (.ldc 26, 2) := by decide +kernel
theorem dL_tryPardon_13 : decode cL_tryPardon 13 = .ok (.ireturn, 1) := by decide +kernel
theorem dL_tryDown_0 : decode cL_tryDown 0 = .ok (.aload_n 0, 1) := by decide +kernel
theorem dL_tryDown_1 : decode cL_tryDown 1 = .ok (.iload_n 1, 1) := by decide +kernel
theorem dL_tryDown_2 : decode cL_tryDown 2 = .ok (.invokevirtual 69, 3) := by decide +kernel
theorem dL_tryDown_5 : decode cL_tryDown 5 = .ok (.ireturn, 1) := by decide +kernel
theorem dL_tryDown_6 : decode cL_tryDown 6 = .ok (.astore_n 2, 1) := by decide +kernel
theorem dL_tryDown_7 : decode cL_tryDown 7 = .ok (.ldc 40, 2) := by decide +kernel
theorem dL_tryDown_9 : decode cL_tryDown 9 = .ok (.ireturn, 1) := by decide +kernel
theorem dL_tryDown_10 : decode cL_tryDown 10 = .ok (.astore_n 2, 1) := by decide +kernel
theorem dL_tryDown_11 : decode cL_tryDown 11 = .ok (.ldc 26, 2) := by decide +kernel
theorem dL_tryDown_13 : decode cL_tryDown 13 = .ok (.ireturn, 1) := by decide +kernel
theorem dL_tryUp_0 : decode cL_tryUp 0 = .ok (.aload_n 0, 1) := by decide +kernel
theorem dL_tryUp_1 : decode cL_tryUp 1 = .ok (.iload_n 1, 1) := by decide +kernel
theorem dL_tryUp_2 : decode cL_tryUp 2 = .ok (.invokevirtual 72, 3) := by decide +kernel
theorem dL_tryUp_5 : decode cL_tryUp 5 = .ok (.ireturn, 1) := by decide +kernel
theorem dL_tryUp_6 : decode cL_tryUp 6 = .ok (.astore_n 2, 1) := by decide +kernel
theorem dL_tryUp_7 : decode cL_tryUp 7 = .ok (.ldc 40, 2) := by decide +kernel
theorem dL_tryUp_9 : decode cL_tryUp 9 = .ok (.ireturn, 1) := by decide +kernel
theorem dL_tryUp_10 : decode cL_tryUp 10 = .ok (.astore_n 2, 1) := by decide +kernel
theorem dL_tryUp_11 : decode cL_tryUp 11 = .ok (.ldc 26, 2) := by decide +kernel
theorem dL_tryUp_13 : decode cL_tryUp 13 = .ok (.ireturn, 1) := by decide +kernel
theorem dL_tryOpen_0 : decode cL_tryOpen 0 = .ok (.aload_n 0, 1) := by decide +kernel
theorem dL_tryOpen_1 : decode cL_tryOpen 1 = .ok (.iload_n 1, 1) := by decide +kernel
theorem dL_tryOpen_2 : decode cL_tryOpen 2 = .ok (.invokevirtual 75, 3) := by decide +kernel
theorem dL_tryOpen_5 : decode cL_tryOpen 5 = .ok (.ireturn, 1) := by decide +kernel
theorem dL_tryOpen_6 : decode cL_tryOpen 6 = .ok (.astore_n 2, 1) := by decide +kernel
theorem dL_tryOpen_7 : decode cL_tryOpen 7 = .ok (.ldc 40, 2) := by decide +kernel
theorem dL_tryOpen_9 : decode cL_tryOpen 9 = .ok (.ireturn, 1) := by decide +kernel
theorem dL_tryFare_0 : decode cL_tryFare 0 = .ok (.aload_n 0, 1) := by decide +kernel
theorem dL_tryFare_1 : decode cL_tryFare 1 = .ok (.iload_n 1, 1) := by decide +kernel
theorem dL_tryFare_2 : decode cL_tryFare 2 = .ok (.iload_n 2, 1) := by decide +kernel
theorem dL_tryFare_3 : decode cL_tryFare 3 = .ok (.invokevirtual 78, 3) := by decide +kernel
theorem dL_tryFare_6 : decode cL_tryFare 6 = .ok (.ireturn, 1) := by decide +kernel
theorem dL_tryFare_7 : decode cL_tryFare 7 = .ok (.astore_n 3, 1) := by decide +kernel
theorem dL_tryFare_8 : decode cL_tryFare 8 = .ok (.ldc 40, 2) := by decide +kernel
theorem dL_tryFare_10 : decode cL_tryFare 10 = .ok (.ireturn, 1) := by decide +kernel
theorem dL_tryFare_11 : decode cL_tryFare 11 = .ok (.astore_n 3, 1) := by decide +kernel
theorem dL_tryFare_12 : decode cL_tryFare 12 = .ok (.ldc 15, 2) := by decide +kernel
theorem dL_tryFare_14 : decode cL_tryFare 14 = .ok (.ireturn, 1) := by decide +kernel
theorem dL_tryRun_0 : decode cL_tryRun 0 = .ok (.aload_n 0, 1) := by decide +kernel
theorem dL_tryRun_1 : decode cL_tryRun 1 = .ok (.iload_n 1, 1) := by decide +kernel
theorem dL_tryRun_2 : decode cL_tryRun 2 = .ok (.invokevirtual 81, 3) := by decide +kernel
theorem dL_tryRun_5 : decode cL_tryRun 5 = .ok (.ireturn, 1) := by decide +kernel
theorem dL_tryRun_6 : decode cL_tryRun 6 = .ok (.astore_n 2, 1) := by decide +kernel
theorem dL_tryRun_7 : decode cL_tryRun 7 = .ok (.ldc 15, 2) := by decide +kernel
theorem dL_tryRun_9 : decode cL_tryRun 9 = .ok (.ireturn, 1) := by decide +kernel
theorem dL_tryLay_0 : decode cL_tryLay 0 = .ok (.aload_n 0, 1) := by decide +kernel
theorem dL_tryLay_1 : decode cL_tryLay 1 = .ok (.iload_n 1, 1) := by decide +kernel
theorem dL_tryLay_2 : decode cL_tryLay 2 = .ok (.iload_n 2, 1) := by decide +kernel
theorem dL_tryLay_3 : decode cL_tryLay 3 = .ok (.invokevirtual 84, 3) := by decide +kernel
theorem dL_tryLay_6 : decode cL_tryLay 6 = .ok (.ireturn, 1) := by decide +kernel
theorem dL_tryLay_7 : decode cL_tryLay 7 = .ok (.astore_n 3, 1) := by decide +kernel
theorem dL_tryLay_8 : decode cL_tryLay 8 = .ok (.ldc 15, 2) := by decide +kernel
theorem dL_tryLay_10 : decode cL_tryLay 10 = .ok (.ireturn, 1) := by decide +kernel
theorem dL_tryUndo_0 : decode cL_tryUndo 0 = .ok (.aload_n 0, 1) := by decide +kernel
theorem dL_tryUndo_1 : decode cL_tryUndo 1 = .ok (.invokevirtual 87, 3) := by decide +kernel
theorem dL_tryUndo_4 : decode cL_tryUndo 4 = .ok (.ireturn, 1) := by decide +kernel
theorem dL_tryUndo_5 : decode cL_tryUndo 5 = .ok (.astore_n 1, 1) := by decide +kernel
theorem dL_tryUndo_6 : decode cL_tryUndo 6 = .ok (.ldc 26, 2) := by decide +kernel
theorem dL_tryUndo_8 : decode cL_tryUndo 8 = .ok (.ireturn, 1) := by decide +kernel
theorem dL_tryWould_0 : decode cL_tryWould 0 = .ok (.aload_n 0, 1) := by decide +kernel
theorem dL_tryWould_1 : decode cL_tryWould 1 = .ok (.iload_n 1, 1) := by decide +kernel
theorem dL_tryWould_2 : decode cL_tryWould 2 = .ok (.iload_n 2, 1) := by decide +kernel
theorem dL_tryWould_3 : decode cL_tryWould 3 = .ok (.invokevirtual 90, 3) := by decide +kernel
theorem dL_tryWould_6 : decode cL_tryWould 6 = .ok (.ireturn, 1) := by decide +kernel
theorem dL_tryWould_7 : decode cL_tryWould 7 = .ok (.astore_n 3, 1) := by decide +kernel
theorem dL_tryWould_8 : decode cL_tryWould 8 = .ok (.ldc 40, 2) := by decide +kernel
theorem dL_tryWould_10 : decode cL_tryWould 10 = .ok (.ireturn, 1) := by decide +kernel
theorem dL_tryRides_0 : decode cL_tryRides 0 = .ok (.aload_n 0, 1) := by decide +kernel
theorem dL_tryRides_1 : decode cL_tryRides 1 = .ok (.iload_n 1, 1) := by decide +kernel
theorem dL_tryRides_2 : decode cL_tryRides 2 = .ok (.iload_n 2, 1) := by decide +kernel
theorem dL_tryRides_3 : decode cL_tryRides 3 = .ok (.invokevirtual 93, 3) := by decide +kernel
theorem dL_tryRides_6 : decode cL_tryRides 6 = .ok (.ireturn, 1) := by decide +kernel
theorem dL_tryRides_7 : decode cL_tryRides 7 = .ok (.astore_n 3, 1) := by decide +kernel
theorem dL_tryRides_8 : decode cL_tryRides 8 = .ok (.ldc 40, 2) := by decide +kernel
theorem dL_tryRides_10 : decode cL_tryRides 10 = .ok (.ireturn, 1) := by decide +kernel
theorem dL_tryBrings_0 : decode cL_tryBrings 0 = .ok (.aload_n 0, 1) := by decide +kernel
theorem dL_tryBrings_1 : decode cL_tryBrings 1 = .ok (.iload_n 1, 1) := by decide +kernel
theorem dL_tryBrings_2 : decode cL_tryBrings 2 = .ok (.iload_n 2, 1) := by decide +kernel
theorem dL_tryBrings_3 : decode cL_tryBrings 3 = .ok (.invokevirtual 96, 3) := by decide +kernel
theorem dL_tryBrings_6 : decode cL_tryBrings 6 = .ok (.ireturn, 1) := by decide +kernel
theorem dL_tryBrings_7 : decode cL_tryBrings 7 = .ok (.astore_n 3, 1) := by decide +kernel
theorem dL_tryBrings_8 : decode cL_tryBrings 8 = .ok (.ldc 40, 2) := by decide +kernel
theorem dL_tryBrings_10 : decode cL_tryBrings 10 = .ok (.ireturn, 1) := by decide +kernel
theorem dL_tryBrings_11 : decode cL_tryBrings 11 = .ok (.astore_n 3, 1) := by decide +kernel
theorem dL_tryBrings_12 : decode cL_tryBrings 12 = .ok (.ldc 15, 2) := by decide +kernel
theorem dL_tryBrings_14 : decode cL_tryBrings 14 = .ok (.ireturn, 1) := by decide +kernel
theorem dL_tryOwes_0 : decode cL_tryOwes 0 = .ok (.aload_n 0, 1) := by decide +kernel
theorem dL_tryOwes_1 : decode cL_tryOwes 1 = .ok (.iload_n 1, 1) := by decide +kernel
theorem dL_tryOwes_2 : decode cL_tryOwes 2 = .ok (.invokevirtual 99, 3) := by decide +kernel
theorem dL_tryOwes_5 : decode cL_tryOwes 5 = .ok (.ireturn, 1) := by decide +kernel
theorem dL_tryOwes_6 : decode cL_tryOwes 6 = .ok (.astore_n 2, 1) := by decide +kernel
theorem dL_tryOwes_7 : decode cL_tryOwes 7 = .ok (.ldc 40, 2) := by decide +kernel
theorem dL_tryOwes_9 : decode cL_tryOwes 9 = .ok (.ireturn, 1) := by decide +kernel
theorem dL_tryKeep_0 : decode cL_tryKeep 0 = .ok (.aload_n 0, 1) := by decide +kernel
theorem dL_tryKeep_1 : decode cL_tryKeep 1 = .ok (.iload_n 1, 1) := by decide +kernel
theorem dL_tryKeep_2 : decode cL_tryKeep 2 = .ok (.invokevirtual 102, 3) := by decide +kernel
theorem dL_tryKeep_5 : decode cL_tryKeep 5 = .ok (.ireturn, 1) := by decide +kernel
theorem dL_tryKeep_6 : decode cL_tryKeep 6 = .ok (.astore_n 2, 1) := by decide +kernel
theorem dL_tryKeep_7 : decode cL_tryKeep 7 = .ok (.ldc 40, 2) := by decide +kernel
theorem dL_tryKeep_9 : decode cL_tryKeep 9 = .ok (.ireturn, 1) := by decide +kernel
theorem dL_tryBack_0 : decode cL_tryBack 0 = .ok (.aload_n 0, 1) := by decide +kernel
theorem dL_tryBack_1 : decode cL_tryBack 1 = .ok (.iload_n 1, 1) := by decide +kernel
theorem dL_tryBack_2 : decode cL_tryBack 2 = .ok (.invokevirtual 105, 3) := by decide +kernel
theorem dL_tryBack_5 : decode cL_tryBack 5 = .ok (.ireturn, 1) := by decide +kernel
theorem dL_tryBack_6 : decode cL_tryBack 6 = .ok (.astore_n 2, 1) := by decide +kernel
theorem dL_tryBack_7 : decode cL_tryBack 7 = .ok (.ldc 40, 2) := by decide +kernel
theorem dL_tryBack_9 : decode cL_tryBack 9 = .ok (.ireturn, 1) := by decide +kernel
theorem dL_tryBack_10 : decode cL_tryBack 10 = .ok (.astore_n 2, 1) := by decide +kernel
theorem dL_tryBack_11 : decode cL_tryBack 11 = .ok (.ldc 26, 2) := by decide +kernel
theorem dL_tryBack_13 : decode cL_tryBack 13 = .ok (.ireturn, 1) := by decide +kernel
theorem yf_X11_runScript : (Cond.instanceMethod yX11_runScript) ∈ gtbl ∧ (Cond.selects RX11 yX11_runScript yX11_runScript) ∈ gtbl ∧ (Cond.initialized RX11) ∈ gtbl ∧ (Cond.code yX11_runScript cX11_runScript 5 (some .int)) ∈ gtbl ∧ (yX11_runScript.cls = RX11 ∧ yX11_runScript.cls ≠ "java/lang/invoke/MethodHandle" ∧ yX11_runScript.cls ≠ "java/lang/invoke/VarHandle" ∧ (parseMethodDescriptor yX11_runScript.desc).map (fun d => d.parameters.length) = some 2) := ⟨gt_in 985 (by decide +kernel) (by decide +kernel), gt_in 986 (by decide +kernel) (by decide +kernel), gt_in 10 (by decide +kernel) (by decide +kernel), gt_in 987 (by decide +kernel) (by decide +kernel), by decide +kernel⟩
theorem cw_L_7 : uCW RL RX11 7 yX11_runScript cX11_runScript 5 (some .int) 2 := ⟨gt_in 984 (by decide +kernel) (by decide +kernel), yf_X11_runScript⟩
theorem yf_X11_simulate : (Cond.instanceMethod yX11_simulate) ∈ gtbl ∧ (Cond.selects RX11 yX11_simulate yX11_simulate) ∈ gtbl ∧ (Cond.initialized RX11) ∈ gtbl ∧ (Cond.code yX11_simulate cX11_simulate 7 (some .int)) ∈ gtbl ∧ (yX11_simulate.cls = RX11 ∧ yX11_simulate.cls ≠ "java/lang/invoke/MethodHandle" ∧ yX11_simulate.cls ≠ "java/lang/invoke/VarHandle" ∧ (parseMethodDescriptor yX11_simulate.desc).map (fun d => d.parameters.length) = some 2) := ⟨gt_in 1016 (by decide +kernel) (by decide +kernel), gt_in 1017 (by decide +kernel) (by decide +kernel), gt_in 10 (by decide +kernel) (by decide +kernel), gt_in 1018 (by decide +kernel) (by decide +kernel), by decide +kernel⟩
theorem cw_L_16 : uCW RL RX11 16 yX11_simulate cX11_simulate 7 (some .int) 2 := ⟨gt_in 1015 (by decide +kernel) (by decide +kernel), yf_X11_simulate⟩
theorem yf_X11_append : (Cond.instanceMethod yX11_append) ∈ gtbl ∧ (Cond.selects RX11 yX11_append yX11_append) ∈ gtbl ∧ (Cond.initialized RX11) ∈ gtbl ∧ (Cond.code yX11_append cX11_append 2 (some .int)) ∈ gtbl ∧ (yX11_append.cls = RX11 ∧ yX11_append.cls ≠ "java/lang/invoke/MethodHandle" ∧ yX11_append.cls ≠ "java/lang/invoke/VarHandle" ∧ (parseMethodDescriptor yX11_append.desc).map (fun d => d.parameters.length) = some 1) := ⟨gt_in 306 (by decide +kernel) (by decide +kernel), gt_in 307 (by decide +kernel) (by decide +kernel), gt_in 10 (by decide +kernel) (by decide +kernel), gt_in 308 (by decide +kernel) (by decide +kernel), by decide +kernel⟩
theorem cw_L_20 : uCW RL RX11 20 yX11_append cX11_append 2 (some .int) 1 := ⟨gt_in 305 (by decide +kernel) (by decide +kernel), yf_X11_append⟩
theorem yf_X11_about : (Cond.instanceMethod yX11_about) ∈ gtbl ∧ (Cond.selects RX11 yX11_about yX11_about) ∈ gtbl ∧ (Cond.initialized RX11) ∈ gtbl ∧ (Cond.code yX11_about cX11_about 2 (some .int)) ∈ gtbl ∧ (yX11_about.cls = RX11 ∧ yX11_about.cls ≠ "java/lang/invoke/MethodHandle" ∧ yX11_about.cls ≠ "java/lang/invoke/VarHandle" ∧ (parseMethodDescriptor yX11_about.desc).map (fun d => d.parameters.length) = some 1) := ⟨gt_in 647 (by decide +kernel) (by decide +kernel), gt_in 648 (by decide +kernel) (by decide +kernel), gt_in 10 (by decide +kernel) (by decide +kernel), gt_in 649 (by decide +kernel) (by decide +kernel), by decide +kernel⟩
theorem cw_L_31 : uCW RL RX11 31 yX11_about cX11_about 2 (some .int) 1 := ⟨gt_in 646 (by decide +kernel) (by decide +kernel), yf_X11_about⟩
theorem yf_X11_card : (Cond.instanceMethod yX11_card) ∈ gtbl ∧ (Cond.selects RX11 yX11_card yX11_card) ∈ gtbl ∧ (Cond.initialized RX11) ∈ gtbl ∧ (Cond.code yX11_card cX11_card 3 (some .int)) ∈ gtbl ∧ (yX11_card.cls = RX11 ∧ yX11_card.cls ≠ "java/lang/invoke/MethodHandle" ∧ yX11_card.cls ≠ "java/lang/invoke/VarHandle" ∧ (parseMethodDescriptor yX11_card.desc).map (fun d => d.parameters.length) = some 2) := ⟨gt_in 671 (by decide +kernel) (by decide +kernel), gt_in 672 (by decide +kernel) (by decide +kernel), gt_in 10 (by decide +kernel) (by decide +kernel), gt_in 673 (by decide +kernel) (by decide +kernel), by decide +kernel⟩
theorem cw_L_34 : uCW RL RX11 34 yX11_card cX11_card 3 (some .int) 2 := ⟨gt_in 670 (by decide +kernel) (by decide +kernel), yf_X11_card⟩
theorem yf_X11_account : (Cond.instanceMethod yX11_account) ∈ gtbl ∧ (Cond.selects RX11 yX11_account yX11_account) ∈ gtbl ∧ (Cond.initialized RX11) ∈ gtbl ∧ (Cond.code yX11_account cX11_account 3 (some .int)) ∈ gtbl ∧ (yX11_account.cls = RX11 ∧ yX11_account.cls ≠ "java/lang/invoke/MethodHandle" ∧ yX11_account.cls ≠ "java/lang/invoke/VarHandle" ∧ (parseMethodDescriptor yX11_account.desc).map (fun d => d.parameters.length) = some 2) := ⟨gt_in 703 (by decide +kernel) (by decide +kernel), gt_in 704 (by decide +kernel) (by decide +kernel), gt_in 10 (by decide +kernel) (by decide +kernel), gt_in 705 (by decide +kernel) (by decide +kernel), by decide +kernel⟩
theorem cw_L_41 : uCW RL RX11 41 yX11_account cX11_account 3 (some .int) 2 := ⟨gt_in 702 (by decide +kernel) (by decide +kernel), yf_X11_account⟩
theorem yf_X11_gate : (Cond.instanceMethod yX11_gate) ∈ gtbl ∧ (Cond.selects RX11 yX11_gate yX11_gate) ∈ gtbl ∧ (Cond.initialized RX11) ∈ gtbl ∧ (Cond.code yX11_gate cX11_gate 3 (some .int)) ∈ gtbl ∧ (yX11_gate.cls = RX11 ∧ yX11_gate.cls ≠ "java/lang/invoke/MethodHandle" ∧ yX11_gate.cls ≠ "java/lang/invoke/VarHandle" ∧ (parseMethodDescriptor yX11_gate.desc).map (fun d => d.parameters.length) = some 2) := ⟨gt_in 719 (by decide +kernel) (by decide +kernel), gt_in 720 (by decide +kernel) (by decide +kernel), gt_in 10 (by decide +kernel) (by decide +kernel), gt_in 721 (by decide +kernel) (by decide +kernel), by decide +kernel⟩
theorem cw_L_44 : uCW RL RX11 44 yX11_gate cX11_gate 3 (some .int) 2 := ⟨gt_in 718 (by decide +kernel) (by decide +kernel), yf_X11_gate⟩
theorem yf_X11_logged : (Cond.instanceMethod yX11_logged) ∈ gtbl ∧ (Cond.selects RX11 yX11_logged yX11_logged) ∈ gtbl ∧ (Cond.initialized RX11) ∈ gtbl ∧ (Cond.code yX11_logged cX11_logged 4 (some .int)) ∈ gtbl ∧ (yX11_logged.cls = RX11 ∧ yX11_logged.cls ≠ "java/lang/invoke/MethodHandle" ∧ yX11_logged.cls ≠ "java/lang/invoke/VarHandle" ∧ (parseMethodDescriptor yX11_logged.desc).map (fun d => d.parameters.length) = some 3) := ⟨gt_in 735 (by decide +kernel) (by decide +kernel), gt_in 736 (by decide +kernel) (by decide +kernel), gt_in 10 (by decide +kernel) (by decide +kernel), gt_in 737 (by decide +kernel) (by decide +kernel), by decide +kernel⟩
theorem cw_L_47 : uCW RL RX11 47 yX11_logged cX11_logged 4 (some .int) 3 := ⟨gt_in 734 (by decide +kernel) (by decide +kernel), yf_X11_logged⟩
theorem yf_X11_setting : (Cond.instanceMethod yX11_setting) ∈ gtbl ∧ (Cond.selects RX11 yX11_setting yX11_setting) ∈ gtbl ∧ (Cond.initialized RX11) ∈ gtbl ∧ (Cond.code yX11_setting cX11_setting 2 (some .int)) ∈ gtbl ∧ (yX11_setting.cls = RX11 ∧ yX11_setting.cls ≠ "java/lang/invoke/MethodHandle" ∧ yX11_setting.cls ≠ "java/lang/invoke/VarHandle" ∧ (parseMethodDescriptor yX11_setting.desc).map (fun d => d.parameters.length) = some 1) := ⟨gt_in 747 (by decide +kernel) (by decide +kernel), gt_in 748 (by decide +kernel) (by decide +kernel), gt_in 10 (by decide +kernel) (by decide +kernel), gt_in 749 (by decide +kernel) (by decide +kernel), by decide +kernel⟩
theorem cw_L_51 : uCW RL RX11 51 yX11_setting cX11_setting 2 (some .int) 1 := ⟨gt_in 746 (by decide +kernel) (by decide +kernel), yf_X11_setting⟩
theorem yf_X11_issue : (Cond.instanceMethod yX11_issue) ∈ gtbl ∧ (Cond.selects RX11 yX11_issue yX11_issue) ∈ gtbl ∧ (Cond.initialized RX11) ∈ gtbl ∧ (Cond.code yX11_issue cX11_issue 2 (some .int)) ∈ gtbl ∧ (yX11_issue.cls = RX11 ∧ yX11_issue.cls ≠ "java/lang/invoke/MethodHandle" ∧ yX11_issue.cls ≠ "java/lang/invoke/VarHandle" ∧ (parseMethodDescriptor yX11_issue.desc).map (fun d => d.parameters.length) = some 1) := ⟨gt_in 755 (by decide +kernel) (by decide +kernel), gt_in 756 (by decide +kernel) (by decide +kernel), gt_in 10 (by decide +kernel) (by decide +kernel), gt_in 757 (by decide +kernel) (by decide +kernel), by decide +kernel⟩
theorem cw_L_54 : uCW RL RX11 54 yX11_issue cX11_issue 2 (some .int) 1 := ⟨gt_in 754 (by decide +kernel) (by decide +kernel), yf_X11_issue⟩
theorem yf_X11_copy : (Cond.instanceMethod yX11_copy) ∈ gtbl ∧ (Cond.selects RX11 yX11_copy yX11_copy) ∈ gtbl ∧ (Cond.initialized RX11) ∈ gtbl ∧ (Cond.code yX11_copy cX11_copy 2 (some .int)) ∈ gtbl ∧ (yX11_copy.cls = RX11 ∧ yX11_copy.cls ≠ "java/lang/invoke/MethodHandle" ∧ yX11_copy.cls ≠ "java/lang/invoke/VarHandle" ∧ (parseMethodDescriptor yX11_copy.desc).map (fun d => d.parameters.length) = some 1) := ⟨gt_in 801 (by decide +kernel) (by decide +kernel), gt_in 802 (by decide +kernel) (by decide +kernel), gt_in 10 (by decide +kernel) (by decide +kernel), gt_in 803 (by decide +kernel) (by decide +kernel), by decide +kernel⟩
theorem cw_L_57 : uCW RL RX11 57 yX11_copy cX11_copy 2 (some .int) 1 := ⟨gt_in 800 (by decide +kernel) (by decide +kernel), yf_X11_copy⟩
theorem yf_X11_ride : (Cond.instanceMethod yX11_ride) ∈ gtbl ∧ (Cond.selects RX11 yX11_ride yX11_ride) ∈ gtbl ∧ (Cond.initialized RX11) ∈ gtbl ∧ (Cond.code yX11_ride cX11_ride 3 (some .int)) ∈ gtbl ∧ (yX11_ride.cls = RX11 ∧ yX11_ride.cls ≠ "java/lang/invoke/MethodHandle" ∧ yX11_ride.cls ≠ "java/lang/invoke/VarHandle" ∧ (parseMethodDescriptor yX11_ride.desc).map (fun d => d.parameters.length) = some 2) := ⟨gt_in 810 (by decide +kernel) (by decide +kernel), gt_in 811 (by decide +kernel) (by decide +kernel), gt_in 10 (by decide +kernel) (by decide +kernel), gt_in 812 (by decide +kernel) (by decide +kernel), by decide +kernel⟩
theorem cw_L_60 : uCW RL RX11 60 yX11_ride cX11_ride 3 (some .int) 2 := ⟨gt_in 809 (by decide +kernel) (by decide +kernel), yf_X11_ride⟩
theorem yf_X11_pay : (Cond.instanceMethod yX11_pay) ∈ gtbl ∧ (Cond.selects RX11 yX11_pay yX11_pay) ∈ gtbl ∧ (Cond.initialized RX11) ∈ gtbl ∧ (Cond.code yX11_pay cX11_pay 3 (some .int)) ∈ gtbl ∧ (yX11_pay.cls = RX11 ∧ yX11_pay.cls ≠ "java/lang/invoke/MethodHandle" ∧ yX11_pay.cls ≠ "java/lang/invoke/VarHandle" ∧ (parseMethodDescriptor yX11_pay.desc).map (fun d => d.parameters.length) = some 2) := ⟨gt_in 818 (by decide +kernel) (by decide +kernel), gt_in 819 (by decide +kernel) (by decide +kernel), gt_in 10 (by decide +kernel) (by decide +kernel), gt_in 820 (by decide +kernel) (by decide +kernel), by decide +kernel⟩
theorem cw_L_63 : uCW RL RX11 63 yX11_pay cX11_pay 3 (some .int) 2 := ⟨gt_in 817 (by decide +kernel) (by decide +kernel), yf_X11_pay⟩
theorem yf_X11_pardon : (Cond.instanceMethod yX11_pardon) ∈ gtbl ∧ (Cond.selects RX11 yX11_pardon yX11_pardon) ∈ gtbl ∧ (Cond.initialized RX11) ∈ gtbl ∧ (Cond.code yX11_pardon cX11_pardon 2 (some .int)) ∈ gtbl ∧ (yX11_pardon.cls = RX11 ∧ yX11_pardon.cls ≠ "java/lang/invoke/MethodHandle" ∧ yX11_pardon.cls ≠ "java/lang/invoke/VarHandle" ∧ (parseMethodDescriptor yX11_pardon.desc).map (fun d => d.parameters.length) = some 1) := ⟨gt_in 826 (by decide +kernel) (by decide +kernel), gt_in 827 (by decide +kernel) (by decide +kernel), gt_in 10 (by decide +kernel) (by decide +kernel), gt_in 828 (by decide +kernel) (by decide +kernel), by decide +kernel⟩
theorem cw_L_66 : uCW RL RX11 66 yX11_pardon cX11_pardon 2 (some .int) 1 := ⟨gt_in 825 (by decide +kernel) (by decide +kernel), yf_X11_pardon⟩
theorem yf_X11_down : (Cond.instanceMethod yX11_down) ∈ gtbl ∧ (Cond.selects RX11 yX11_down yX11_down) ∈ gtbl ∧ (Cond.initialized RX11) ∈ gtbl ∧ (Cond.code yX11_down cX11_down 2 (some .int)) ∈ gtbl ∧ (yX11_down.cls = RX11 ∧ yX11_down.cls ≠ "java/lang/invoke/MethodHandle" ∧ yX11_down.cls ≠ "java/lang/invoke/VarHandle" ∧ (parseMethodDescriptor yX11_down.desc).map (fun d => d.parameters.length) = some 1) := ⟨gt_in 841 (by decide +kernel) (by decide +kernel), gt_in 842 (by decide +kernel) (by decide +kernel), gt_in 10 (by decide +kernel) (by decide +kernel), gt_in 843 (by decide +kernel) (by decide +kernel), by decide +kernel⟩
theorem cw_L_69 : uCW RL RX11 69 yX11_down cX11_down 2 (some .int) 1 := ⟨gt_in 840 (by decide +kernel) (by decide +kernel), yf_X11_down⟩
theorem yf_X11_up : (Cond.instanceMethod yX11_up) ∈ gtbl ∧ (Cond.selects RX11 yX11_up yX11_up) ∈ gtbl ∧ (Cond.initialized RX11) ∈ gtbl ∧ (Cond.code yX11_up cX11_up 2 (some .int)) ∈ gtbl ∧ (yX11_up.cls = RX11 ∧ yX11_up.cls ≠ "java/lang/invoke/MethodHandle" ∧ yX11_up.cls ≠ "java/lang/invoke/VarHandle" ∧ (parseMethodDescriptor yX11_up.desc).map (fun d => d.parameters.length) = some 1) := ⟨gt_in 850 (by decide +kernel) (by decide +kernel), gt_in 851 (by decide +kernel) (by decide +kernel), gt_in 10 (by decide +kernel) (by decide +kernel), gt_in 852 (by decide +kernel) (by decide +kernel), by decide +kernel⟩
theorem cw_L_72 : uCW RL RX11 72 yX11_up cX11_up 2 (some .int) 1 := ⟨gt_in 849 (by decide +kernel) (by decide +kernel), yf_X11_up⟩
theorem yf_X11_open : (Cond.instanceMethod yX11_open) ∈ gtbl ∧ (Cond.selects RX11 yX11_open yX11_open) ∈ gtbl ∧ (Cond.initialized RX11) ∈ gtbl ∧ (Cond.code yX11_open cX11_open 2 (some .int)) ∈ gtbl ∧ (yX11_open.cls = RX11 ∧ yX11_open.cls ≠ "java/lang/invoke/MethodHandle" ∧ yX11_open.cls ≠ "java/lang/invoke/VarHandle" ∧ (parseMethodDescriptor yX11_open.desc).map (fun d => d.parameters.length) = some 1) := ⟨gt_in 858 (by decide +kernel) (by decide +kernel), gt_in 859 (by decide +kernel) (by decide +kernel), gt_in 10 (by decide +kernel) (by decide +kernel), gt_in 860 (by decide +kernel) (by decide +kernel), by decide +kernel⟩
theorem cw_L_75 : uCW RL RX11 75 yX11_open cX11_open 2 (some .int) 1 := ⟨gt_in 857 (by decide +kernel) (by decide +kernel), yf_X11_open⟩
theorem yf_X11_fare : (Cond.instanceMethod yX11_fare) ∈ gtbl ∧ (Cond.selects RX11 yX11_fare yX11_fare) ∈ gtbl ∧ (Cond.initialized RX11) ∈ gtbl ∧ (Cond.code yX11_fare cX11_fare 3 (some .int)) ∈ gtbl ∧ (yX11_fare.cls = RX11 ∧ yX11_fare.cls ≠ "java/lang/invoke/MethodHandle" ∧ yX11_fare.cls ≠ "java/lang/invoke/VarHandle" ∧ (parseMethodDescriptor yX11_fare.desc).map (fun d => d.parameters.length) = some 2) := ⟨gt_in 866 (by decide +kernel) (by decide +kernel), gt_in 867 (by decide +kernel) (by decide +kernel), gt_in 10 (by decide +kernel) (by decide +kernel), gt_in 868 (by decide +kernel) (by decide +kernel), by decide +kernel⟩
theorem cw_L_78 : uCW RL RX11 78 yX11_fare cX11_fare 3 (some .int) 2 := ⟨gt_in 865 (by decide +kernel) (by decide +kernel), yf_X11_fare⟩
theorem yf_X11_run : (Cond.instanceMethod yX11_run) ∈ gtbl ∧ (Cond.selects RX11 yX11_run yX11_run) ∈ gtbl ∧ (Cond.initialized RX11) ∈ gtbl ∧ (Cond.code yX11_run cX11_run 2 (some .int)) ∈ gtbl ∧ (yX11_run.cls = RX11 ∧ yX11_run.cls ≠ "java/lang/invoke/MethodHandle" ∧ yX11_run.cls ≠ "java/lang/invoke/VarHandle" ∧ (parseMethodDescriptor yX11_run.desc).map (fun d => d.parameters.length) = some 1) := ⟨gt_in 874 (by decide +kernel) (by decide +kernel), gt_in 875 (by decide +kernel) (by decide +kernel), gt_in 10 (by decide +kernel) (by decide +kernel), gt_in 876 (by decide +kernel) (by decide +kernel), by decide +kernel⟩
theorem cw_L_81 : uCW RL RX11 81 yX11_run cX11_run 2 (some .int) 1 := ⟨gt_in 873 (by decide +kernel) (by decide +kernel), yf_X11_run⟩
theorem yf_X11_set : (Cond.instanceMethod yX11_set) ∈ gtbl ∧ (Cond.selects RX11 yX11_set yX11_set) ∈ gtbl ∧ (Cond.initialized RX11) ∈ gtbl ∧ (Cond.code yX11_set cX11_set 3 (some .int)) ∈ gtbl ∧ (yX11_set.cls = RX11 ∧ yX11_set.cls ≠ "java/lang/invoke/MethodHandle" ∧ yX11_set.cls ≠ "java/lang/invoke/VarHandle" ∧ (parseMethodDescriptor yX11_set.desc).map (fun d => d.parameters.length) = some 2) := ⟨gt_in 881 (by decide +kernel) (by decide +kernel), gt_in 882 (by decide +kernel) (by decide +kernel), gt_in 10 (by decide +kernel) (by decide +kernel), gt_in 883 (by decide +kernel) (by decide +kernel), by decide +kernel⟩
theorem cw_L_84 : uCW RL RX11 84 yX11_set cX11_set 3 (some .int) 2 := ⟨gt_in 880 (by decide +kernel) (by decide +kernel), yf_X11_set⟩
theorem yf_X11_undo : (Cond.instanceMethod yX11_undo) ∈ gtbl ∧ (Cond.selects RX11 yX11_undo yX11_undo) ∈ gtbl ∧ (Cond.initialized RX11) ∈ gtbl ∧ (Cond.code yX11_undo cX11_undo 1 (some .int)) ∈ gtbl ∧ (yX11_undo.cls = RX11 ∧ yX11_undo.cls ≠ "java/lang/invoke/MethodHandle" ∧ yX11_undo.cls ≠ "java/lang/invoke/VarHandle" ∧ (parseMethodDescriptor yX11_undo.desc).map (fun d => d.parameters.length) = some 0) := ⟨gt_in 891 (by decide +kernel) (by decide +kernel), gt_in 892 (by decide +kernel) (by decide +kernel), gt_in 10 (by decide +kernel) (by decide +kernel), gt_in 893 (by decide +kernel) (by decide +kernel), by decide +kernel⟩
theorem cw_L_87 : uCW RL RX11 87 yX11_undo cX11_undo 1 (some .int) 0 := ⟨gt_in 890 (by decide +kernel) (by decide +kernel), yf_X11_undo⟩
theorem yf_X11_would : (Cond.instanceMethod yX11_would) ∈ gtbl ∧ (Cond.selects RX11 yX11_would yX11_would) ∈ gtbl ∧ (Cond.initialized RX11) ∈ gtbl ∧ (Cond.code yX11_would cX11_would 3 (some .int)) ∈ gtbl ∧ (yX11_would.cls = RX11 ∧ yX11_would.cls ≠ "java/lang/invoke/MethodHandle" ∧ yX11_would.cls ≠ "java/lang/invoke/VarHandle" ∧ (parseMethodDescriptor yX11_would.desc).map (fun d => d.parameters.length) = some 2) := ⟨gt_in 906 (by decide +kernel) (by decide +kernel), gt_in 907 (by decide +kernel) (by decide +kernel), gt_in 10 (by decide +kernel) (by decide +kernel), gt_in 908 (by decide +kernel) (by decide +kernel), by decide +kernel⟩
theorem cw_L_90 : uCW RL RX11 90 yX11_would cX11_would 3 (some .int) 2 := ⟨gt_in 905 (by decide +kernel) (by decide +kernel), yf_X11_would⟩
theorem yf_X11_rides : (Cond.instanceMethod yX11_rides) ∈ gtbl ∧ (Cond.selects RX11 yX11_rides yX11_rides) ∈ gtbl ∧ (Cond.initialized RX11) ∈ gtbl ∧ (Cond.code yX11_rides cX11_rides 4 (some .int)) ∈ gtbl ∧ (yX11_rides.cls = RX11 ∧ yX11_rides.cls ≠ "java/lang/invoke/MethodHandle" ∧ yX11_rides.cls ≠ "java/lang/invoke/VarHandle" ∧ (parseMethodDescriptor yX11_rides.desc).map (fun d => d.parameters.length) = some 2) := ⟨gt_in 914 (by decide +kernel) (by decide +kernel), gt_in 915 (by decide +kernel) (by decide +kernel), gt_in 10 (by decide +kernel) (by decide +kernel), gt_in 916 (by decide +kernel) (by decide +kernel), by decide +kernel⟩
theorem cw_L_93 : uCW RL RX11 93 yX11_rides cX11_rides 4 (some .int) 2 := ⟨gt_in 913 (by decide +kernel) (by decide +kernel), yf_X11_rides⟩
theorem yf_X11_ifUp : (Cond.instanceMethod yX11_ifUp) ∈ gtbl ∧ (Cond.selects RX11 yX11_ifUp yX11_ifUp) ∈ gtbl ∧ (Cond.initialized RX11) ∈ gtbl ∧ (Cond.code yX11_ifUp cX11_ifUp 3 (some .int)) ∈ gtbl ∧ (yX11_ifUp.cls = RX11 ∧ yX11_ifUp.cls ≠ "java/lang/invoke/MethodHandle" ∧ yX11_ifUp.cls ≠ "java/lang/invoke/VarHandle" ∧ (parseMethodDescriptor yX11_ifUp.desc).map (fun d => d.parameters.length) = some 2) := ⟨gt_in 922 (by decide +kernel) (by decide +kernel), gt_in 923 (by decide +kernel) (by decide +kernel), gt_in 10 (by decide +kernel) (by decide +kernel), gt_in 924 (by decide +kernel) (by decide +kernel), by decide +kernel⟩
theorem cw_L_96 : uCW RL RX11 96 yX11_ifUp cX11_ifUp 3 (some .int) 2 := ⟨gt_in 921 (by decide +kernel) (by decide +kernel), yf_X11_ifUp⟩
theorem yf_X11_owes : (Cond.instanceMethod yX11_owes) ∈ gtbl ∧ (Cond.selects RX11 yX11_owes yX11_owes) ∈ gtbl ∧ (Cond.initialized RX11) ∈ gtbl ∧ (Cond.code yX11_owes cX11_owes 3 (some .int)) ∈ gtbl ∧ (yX11_owes.cls = RX11 ∧ yX11_owes.cls ≠ "java/lang/invoke/MethodHandle" ∧ yX11_owes.cls ≠ "java/lang/invoke/VarHandle" ∧ (parseMethodDescriptor yX11_owes.desc).map (fun d => d.parameters.length) = some 1) := ⟨gt_in 935 (by decide +kernel) (by decide +kernel), gt_in 936 (by decide +kernel) (by decide +kernel), gt_in 10 (by decide +kernel) (by decide +kernel), gt_in 937 (by decide +kernel) (by decide +kernel), by decide +kernel⟩
theorem cw_L_99 : uCW RL RX11 99 yX11_owes cX11_owes 3 (some .int) 1 := ⟨gt_in 934 (by decide +kernel) (by decide +kernel), yf_X11_owes⟩
theorem yf_X11_save : (Cond.instanceMethod yX11_save) ∈ gtbl ∧ (Cond.selects RX11 yX11_save yX11_save) ∈ gtbl ∧ (Cond.initialized RX11) ∈ gtbl ∧ (Cond.code yX11_save cX11_save 2 (some .int)) ∈ gtbl ∧ (yX11_save.cls = RX11 ∧ yX11_save.cls ≠ "java/lang/invoke/MethodHandle" ∧ yX11_save.cls ≠ "java/lang/invoke/VarHandle" ∧ (parseMethodDescriptor yX11_save.desc).map (fun d => d.parameters.length) = some 1) := ⟨gt_in 943 (by decide +kernel) (by decide +kernel), gt_in 944 (by decide +kernel) (by decide +kernel), gt_in 10 (by decide +kernel) (by decide +kernel), gt_in 945 (by decide +kernel) (by decide +kernel), by decide +kernel⟩
theorem cw_L_102 : uCW RL RX11 102 yX11_save cX11_save 2 (some .int) 1 := ⟨gt_in 942 (by decide +kernel) (by decide +kernel), yf_X11_save⟩
theorem yf_X11_restore : (Cond.instanceMethod yX11_restore) ∈ gtbl ∧ (Cond.selects RX11 yX11_restore yX11_restore) ∈ gtbl ∧ (Cond.initialized RX11) ∈ gtbl ∧ (Cond.code yX11_restore cX11_restore 2 (some .int)) ∈ gtbl ∧ (yX11_restore.cls = RX11 ∧ yX11_restore.cls ≠ "java/lang/invoke/MethodHandle" ∧ yX11_restore.cls ≠ "java/lang/invoke/VarHandle" ∧ (parseMethodDescriptor yX11_restore.desc).map (fun d => d.parameters.length) = some 1) := ⟨gt_in 959 (by decide +kernel) (by decide +kernel), gt_in 960 (by decide +kernel) (by decide +kernel), gt_in 10 (by decide +kernel) (by decide +kernel), gt_in 961 (by decide +kernel) (by decide +kernel), by decide +kernel⟩
theorem cw_L_105 : uCW RL RX11 105 yX11_restore cX11_restore 2 (some .int) 1 := ⟨gt_in 958 (by decide +kernel) (by decide +kernel), yf_X11_restore⟩
def fL_tryScript (V : uV) (a1 : Int32) (a2 : Int64) : Option (Int32 × uV) :=
  bd3 (gh3 (fX11_runScript V a1 a2) (some ((0 : Int32), V 19))) fun E r V1 => if E = 0 then some (r, V1) else if E = 1 then some (-9999002, V1) else none
set_option maxHeartbeats 4000000 in
set_option maxRecDepth 20000 in
theorem kL_tryScript {l : Launch} {G : UG} (hG : uAll G) (hN : uNo G) (hlt : l.stackTraces = false) {V V' : uV} {a1 : Int32} {a2 : Int64} {r : Int32} (h : fL_tryScript V a1 a2 = some (r, V')) : uHi l G yL_tryScript cL_tryScript 5 [(0, 6, 7, 13)] 9 168 [.ref (ga G 18 0), .int a1, .long a2] V r V' := by
  refine uHi_of rfl (Nat.le_of_ble_eq_true rfl) (fun p e s m args below meth c ls X hret htb hl M => ?_)
  have hl : lv_has ls 5 [(0, .ref (ga G 18 0)), (1, .int a1), (2, .long a2)] := hl
  have hx := X.hx
  have hb := X.hb
  unfold fL_tryScript at h
  obtain ⟨E, r0, V1, e1, h⟩ := bd3_e h
  refine lv_aload_n hx hb dL_tryScript_0 rfl (lv_at hl 0 rfl) ?_
  refine lv_iload_n hx hb dL_tryScript_1 rfl (lv_at hl 1 rfl) ?_
  refine lv_lload_n hx hb dL_tryScript_2 rfl (lv_at hl 2 rfl) ?_
  obtain ⟨V9, S9, e1, e9⟩ := gh3_e e1
  refine x_cVx X M hl.1 (uXi_gh hN (kX11_runScript hG hlt e1) e9) cw_L_7 ⟨Nat.le_of_ble_eq_true rfl, Nat.le_of_ble_eq_true rfl⟩ (rc_X11 X M hG.2.1) rfl rfl (Nat.le_of_ble_eq_true rfl) ⟨Nat.le_refl _, Nat.le_refl _⟩ dL_tryScript_3 (fun K ce q9 H locs hex M hcell hv hcl => ?_) (fun H locs hE M => ?_)
  · rcases hex with ⟨rfl, rfl⟩ | ⟨rfl, rfl⟩ | ⟨rfl, rfl⟩
    · have h := it_f h (by decide)
      have h := it_t h rfl
      refine vx_catch (name := "java/lang/IllegalArgumentException") X.1.2.2.2.1 [] ⟨0, 6, 7, 13⟩ [] htb (fun z hz => by cases hz) (by decide) (by decide) (X.hts (gt_in 303 (by decide +kernel) (by decide +kernel))) (va_Nw.use rfl (X.2.2.1.2.2.2.2.2.1 _ (List.mem_filter.mpr ⟨List.mem_of_getElem? (i := 317) (by decide +kernel), rfl⟩))) hcell hv hcl ?_
      refine lv_astore (lv' := [(4, .ref q9), (0, .ref (ga G 18 0)), (1, .int a1), (2, .long a2)]) hx hb dL_tryScript_7 hl (by decide) rfl (fun ls hl => ?_)
      refine lv_ldc (v := -9999002) hx hb X.1.2.2.2.1 (X.hts (gt_in 411 (by decide +kernel) (by decide +kernel))) dL_tryScript_9 ?_
      exact h_iret X hret M (rt2 h).1 (rt2 h).2 dL_tryScript_11
    · have h := it_f h (by decide)
      have h := it_f h (by decide)
      cases h
    · have h := it_f h (by decide)
      have h := it_f h (by decide)
      cases h
  · have h := it_t h hE
    exact h_iret X hret M (rt2 h).1 (rt2 h).2 dL_tryScript_6
def fL_trySimulate (V : uV) (a1 : Int64) (a2 : Int32) : Option (Int32 × uV) :=
  bd3 (gh3 (fX11_simulate V a1 a2) (fX12_simulate (V 19) a1 a2)) fun E r V1 => if E = 0 then some (r, V1) else if E = 1 then some (-9999002, V1) else none
set_option maxHeartbeats 4000000 in
set_option maxRecDepth 20000 in
theorem kL_trySimulate {l : Launch} {G : UG} (hG : uAll G) (hN : uNo G) (hlt : l.stackTraces = false) {V V' : uV} {a1 : Int64} {a2 : Int32} {r : Int32} (h : fL_trySimulate V a1 a2 = some (r, V')) : uHi l G yL_trySimulate cL_trySimulate 5 [(0, 6, 7, 13)] 9 167 [.ref (ga G 18 0), .long a1, .int a2] V r V' := by
  refine uHi_of rfl (Nat.le_of_ble_eq_true rfl) (fun p e s m args below meth c ls X hret htb hl M => ?_)
  have hl : lv_has ls 5 [(0, .ref (ga G 18 0)), (1, .long a1), (3, .int a2)] := hl
  have hx := X.hx
  have hb := X.hb
  unfold fL_trySimulate at h
  obtain ⟨E, r0, V1, e1, h⟩ := bd3_e h
  refine lv_aload_n hx hb dL_trySimulate_0 rfl (lv_at hl 0 rfl) ?_
  refine lv_lload_n hx hb dL_trySimulate_1 rfl (lv_at hl 1 rfl) ?_
  refine lv_iload_n hx hb dL_trySimulate_2 rfl (lv_at hl 2 rfl) ?_
  obtain ⟨V9, S9, e1, e9⟩ := gh3_e e1
  refine x_cVx X M hl.1 (uXi_gh hN (kX11_simulate hG hlt e1) e9) cw_L_16 ⟨Nat.le_of_ble_eq_true rfl, Nat.le_of_ble_eq_true rfl⟩ (rc_X11 X M hG.2.1) rfl rfl (Nat.le_of_ble_eq_true rfl) ⟨Nat.le_refl _, Nat.le_refl _⟩ dL_trySimulate_3 (fun K ce q9 H locs hex M hcell hv hcl => ?_) (fun H locs hE M => ?_)
  · rcases hex with ⟨rfl, rfl⟩ | ⟨rfl, rfl⟩ | ⟨rfl, rfl⟩
    · have h := it_f h (by decide)
      have h := it_t h rfl
      refine vx_catch (name := "java/lang/IllegalArgumentException") X.1.2.2.2.1 [] ⟨0, 6, 7, 13⟩ [] htb (fun z hz => by cases hz) (by decide) (by decide) (X.hts (gt_in 303 (by decide +kernel) (by decide +kernel))) (va_Nw.use rfl (X.2.2.1.2.2.2.2.2.1 _ (List.mem_filter.mpr ⟨List.mem_of_getElem? (i := 317) (by decide +kernel), rfl⟩))) hcell hv hcl ?_
      refine lv_astore (lv' := [(4, .ref q9), (0, .ref (ga G 18 0)), (1, .long a1), (3, .int a2)]) hx hb dL_trySimulate_7 hl (by decide) rfl (fun ls hl => ?_)
      refine lv_ldc (v := -9999002) hx hb X.1.2.2.2.1 (X.hts (gt_in 411 (by decide +kernel) (by decide +kernel))) dL_trySimulate_9 ?_
      exact h_iret X hret M (rt2 h).1 (rt2 h).2 dL_trySimulate_11
    · have h := it_f h (by decide)
      have h := it_f h (by decide)
      cases h
    · have h := it_f h (by decide)
      have h := it_f h (by decide)
      cases h
  · have h := it_t h hE
    exact h_iret X hret M (rt2 h).1 (rt2 h).2 dL_trySimulate_6
def fL_tryAppend (V : uV) (a1 : Int32) : Option (Int32 × uV) :=
  bd3 (gh3 (fX11_append V a1) (some ((0 : Int32), V 19))) fun E r V1 => if E = 0 then some (r, V1) else if E = 1 then some (-9999002, V1) else if E = 2 then some (-9999003, V1) else none
set_option maxHeartbeats 4000000 in
set_option maxRecDepth 20000 in
theorem kL_tryAppend {l : Launch} {G : UG} (hG : uAll G) (hN : uNo G) (hlt : l.stackTraces = false) {V V' : uV} {a1 : Int32} {r : Int32} (h : fL_tryAppend V a1 = some (r, V')) : uHi l G yL_tryAppend cL_tryAppend 3 [(0, 5, 6, 13), (0, 5, 10, 24)] 9 152 [.ref (ga G 18 0), .int a1] V r V' := by
  refine uHi_of rfl (Nat.le_of_ble_eq_true rfl) (fun p e s m args below meth c ls X hret htb hl M => ?_)
  have hl : lv_has ls 3 [(0, .ref (ga G 18 0)), (1, .int a1)] := hl
  have hx := X.hx
  have hb := X.hb
  unfold fL_tryAppend at h
  obtain ⟨E, r0, V1, e1, h⟩ := bd3_e h
  refine lv_aload_n hx hb dL_tryAppend_0 rfl (lv_at hl 0 rfl) ?_
  refine lv_iload_n hx hb dL_tryAppend_1 rfl (lv_at hl 1 rfl) ?_
  obtain ⟨V9, S9, e1, e9⟩ := gh3_e e1
  refine x_cVx X M hl.1 (uXi_gh hN (kX11_append hG hlt e1) e9) cw_L_20 ⟨Nat.le_of_ble_eq_true rfl, Nat.le_of_ble_eq_true rfl⟩ (rc_X11 X M hG.2.1) rfl rfl (Nat.le_of_ble_eq_true rfl) ⟨Nat.le_refl _, Nat.le_refl _⟩ dL_tryAppend_2 (fun K ce q9 H locs hex M hcell hv hcl => ?_) (fun H locs hE M => ?_)
  · rcases hex with ⟨rfl, rfl⟩ | ⟨rfl, rfl⟩ | ⟨rfl, rfl⟩
    · have h := it_f h (by decide)
      have h := it_t h rfl
      refine vx_catch (name := "java/lang/IllegalArgumentException") X.1.2.2.2.1 [] ⟨0, 5, 6, 13⟩ [⟨0, 5, 10, 24⟩] htb (fun z hz => by cases hz) (by decide) (by decide) (X.hts (gt_in 303 (by decide +kernel) (by decide +kernel))) (va_Nw.use rfl (X.2.2.1.2.2.2.2.2.1 _ (List.mem_filter.mpr ⟨List.mem_of_getElem? (i := 317) (by decide +kernel), rfl⟩))) hcell hv hcl ?_
      refine lv_astore_n (lv' := [(2, .ref q9), (0, .ref (ga G 18 0)), (1, .int a1)]) hx hb dL_tryAppend_6 rfl hl (by decide) rfl (fun ls hl => ?_)
      refine lv_ldc (v := -9999002) hx hb X.1.2.2.2.1 (X.hts (gt_in 411 (by decide +kernel) (by decide +kernel))) dL_tryAppend_7 ?_
      exact h_iret X hret M (rt2 h).1 (rt2 h).2 dL_tryAppend_9
    · have h := it_f h (by decide)
      have h := it_f h (by decide)
      have h := it_t h rfl
      refine vx_catch (name := "java/lang/IllegalStateException") X.1.2.2.2.1 [⟨0, 5, 6, 13⟩] ⟨0, 5, 10, 24⟩ [] htb (fun z hz => by obtain rfl := List.mem_singleton.mp hz; exact Or.inr ⟨by decide, _, X.hts (gt_in 303 (by decide +kernel) (by decide +kernel)), X.2.2.1.2.2.2.2.2.2.1⟩) (by decide) (by decide) (X.hts (gt_in 304 (by decide +kernel) (by decide +kernel))) (va_Nw.use rfl (X.2.2.1.2.2.2.2.2.1 _ (List.mem_filter.mpr ⟨List.mem_of_getElem? (i := 392) (by decide +kernel), rfl⟩))) hcell hv hcl ?_
      refine lv_astore_n (lv' := [(2, .ref q9), (0, .ref (ga G 18 0)), (1, .int a1)]) hx hb dL_tryAppend_10 rfl hl (by decide) rfl (fun ls hl => ?_)
      refine lv_ldc (v := -9999003) hx hb X.1.2.2.2.1 (X.hts (gt_in 412 (by decide +kernel) (by decide +kernel))) dL_tryAppend_11 ?_
      exact h_iret X hret M (rt2 h).1 (rt2 h).2 dL_tryAppend_13
    · have h := it_f h (by decide)
      have h := it_f h (by decide)
      have h := it_f h (by decide)
      cases h
  · have h := it_t h hE
    exact h_iret X hret M (rt2 h).1 (rt2 h).2 dL_tryAppend_5
def fL_tryAbout (V : uV) (a1 : Int32) : Option (Int32 × uV) :=
  bd3 (gh3 (fX11_about V a1) (fX12_about (V 19) a1)) fun E r V1 => if E = 0 then some (r, V1) else if E = 1 then some (-9999002, V1) else none
set_option maxHeartbeats 4000000 in
set_option maxRecDepth 20000 in
theorem kL_tryAbout {l : Launch} {G : UG} (hG : uAll G) (hN : uNo G) (hlt : l.stackTraces = false) {V V' : uV} {a1 : Int32} {r : Int32} (h : fL_tryAbout V a1 = some (r, V')) : uHi l G yL_tryAbout cL_tryAbout 3 [(0, 5, 6, 13)] 9 152 [.ref (ga G 18 0), .int a1] V r V' := by
  refine uHi_of rfl (Nat.le_of_ble_eq_true rfl) (fun p e s m args below meth c ls X hret htb hl M => ?_)
  have hl : lv_has ls 3 [(0, .ref (ga G 18 0)), (1, .int a1)] := hl
  have hx := X.hx
  have hb := X.hb
  unfold fL_tryAbout at h
  obtain ⟨E, r0, V1, e1, h⟩ := bd3_e h
  refine lv_aload_n hx hb dL_tryAbout_0 rfl (lv_at hl 0 rfl) ?_
  refine lv_iload_n hx hb dL_tryAbout_1 rfl (lv_at hl 1 rfl) ?_
  obtain ⟨V9, S9, e1, e9⟩ := gh3_e e1
  refine x_cVx X M hl.1 (uXi_gh hN (kX11_about hG hlt e1) e9) cw_L_31 ⟨Nat.le_of_ble_eq_true rfl, Nat.le_of_ble_eq_true rfl⟩ (rc_X11 X M hG.2.1) rfl rfl (Nat.le_of_ble_eq_true rfl) ⟨Nat.le_refl _, Nat.le_refl _⟩ dL_tryAbout_2 (fun K ce q9 H locs hex M hcell hv hcl => ?_) (fun H locs hE M => ?_)
  · rcases hex with ⟨rfl, rfl⟩ | ⟨rfl, rfl⟩ | ⟨rfl, rfl⟩
    · have h := it_f h (by decide)
      have h := it_t h rfl
      refine vx_catch (name := "java/lang/IllegalArgumentException") X.1.2.2.2.1 [] ⟨0, 5, 6, 13⟩ [] htb (fun z hz => by cases hz) (by decide) (by decide) (X.hts (gt_in 303 (by decide +kernel) (by decide +kernel))) (va_Nw.use rfl (X.2.2.1.2.2.2.2.2.1 _ (List.mem_filter.mpr ⟨List.mem_of_getElem? (i := 317) (by decide +kernel), rfl⟩))) hcell hv hcl ?_
      refine lv_astore_n (lv' := [(2, .ref q9), (0, .ref (ga G 18 0)), (1, .int a1)]) hx hb dL_tryAbout_6 rfl hl (by decide) rfl (fun ls hl => ?_)
      refine lv_ldc (v := -9999002) hx hb X.1.2.2.2.1 (X.hts (gt_in 411 (by decide +kernel) (by decide +kernel))) dL_tryAbout_7 ?_
      exact h_iret X hret M (rt2 h).1 (rt2 h).2 dL_tryAbout_9
    · have h := it_f h (by decide)
      have h := it_f h (by decide)
      cases h
    · have h := it_f h (by decide)
      have h := it_f h (by decide)
      cases h
  · have h := it_t h hE
    exact h_iret X hret M (rt2 h).1 (rt2 h).2 dL_tryAbout_5
def fL_tryCard (V : uV) (a1 : Int32) (a2 : Int32) : Option (Int32 × uV) :=
  bd3 (gh3 (fX11_card V a1 a2) (fX12_card (V 19) a1 a2)) fun E r V1 => if E = 0 then some (r, V1) else if E = 3 then some (-9999001, V1) else if E = 1 then some (-9999002, V1) else none
set_option maxHeartbeats 4000000 in
set_option maxRecDepth 20000 in
theorem kL_tryCard {l : Launch} {G : UG} (hG : uAll G) (hN : uNo G) (hlt : l.stackTraces = false) {V V' : uV} {a1 : Int32} {a2 : Int32} {r : Int32} (h : fL_tryCard V a1 a2 = some (r, V')) : uHi l G yL_tryCard cL_tryCard 4 [(0, 6, 7, 38), (0, 6, 11, 13)] 9 153 [.ref (ga G 18 0), .int a1, .int a2] V r V' := by
  refine uHi_of rfl (Nat.le_of_ble_eq_true rfl) (fun p e s m args below meth c ls X hret htb hl M => ?_)
  have hl : lv_has ls 4 [(0, .ref (ga G 18 0)), (1, .int a1), (2, .int a2)] := hl
  have hx := X.hx
  have hb := X.hb
  unfold fL_tryCard at h
  obtain ⟨E, r0, V1, e1, h⟩ := bd3_e h
  refine lv_aload_n hx hb dL_tryCard_0 rfl (lv_at hl 0 rfl) ?_
  refine lv_iload_n hx hb dL_tryCard_1 rfl (lv_at hl 1 rfl) ?_
  refine lv_iload_n hx hb dL_tryCard_2 rfl (lv_at hl 2 rfl) ?_
  obtain ⟨V9, S9, e1, e9⟩ := gh3_e e1
  refine x_cVx X M hl.1 (uXi_gh hN (kX11_card hG hlt e1) e9) cw_L_34 ⟨Nat.le_of_ble_eq_true rfl, Nat.le_of_ble_eq_true rfl⟩ (rc_X11 X M hG.2.1) rfl rfl (Nat.le_of_ble_eq_true rfl) ⟨Nat.le_refl _, Nat.le_refl _⟩ dL_tryCard_3 (fun K ce q9 H locs hex M hcell hv hcl => ?_) (fun H locs hE M => ?_)
  · rcases hex with ⟨rfl, rfl⟩ | ⟨rfl, rfl⟩ | ⟨rfl, rfl⟩
    · have h := it_f h (by decide)
      have h := it_f h (by decide)
      have h := it_t h rfl
      refine vx_catch (name := "java/lang/IllegalArgumentException") X.1.2.2.2.1 [⟨0, 6, 7, 38⟩] ⟨0, 6, 11, 13⟩ [] htb (fun z hz => by obtain rfl := List.mem_singleton.mp hz; exact Or.inr ⟨by decide, _, X.hts (gt_in 669 (by decide +kernel) (by decide +kernel)), X.2.2.1.2.2.2.2.2.2.2.1⟩) (by decide) (by decide) (X.hts (gt_in 303 (by decide +kernel) (by decide +kernel))) (va_Nw.use rfl (X.2.2.1.2.2.2.2.2.1 _ (List.mem_filter.mpr ⟨List.mem_of_getElem? (i := 317) (by decide +kernel), rfl⟩))) hcell hv hcl ?_
      refine lv_astore_n (lv' := [(3, .ref q9), (0, .ref (ga G 18 0)), (1, .int a1), (2, .int a2)]) hx hb dL_tryCard_11 rfl hl (by decide) rfl (fun ls hl => ?_)
      refine lv_ldc (v := -9999002) hx hb X.1.2.2.2.1 (X.hts (gt_in 411 (by decide +kernel) (by decide +kernel))) dL_tryCard_12 ?_
      exact h_iret X hret M (rt2 h).1 (rt2 h).2 dL_tryCard_14
    · have h := it_f h (by decide)
      have h := it_f h (by decide)
      have h := it_f h (by decide)
      cases h
    · have h := it_f h (by decide)
      have h := it_t h rfl
      refine vx_catch (name := "java/lang/IndexOutOfBoundsException") X.1.2.2.2.1 [] ⟨0, 6, 7, 38⟩ [⟨0, 6, 11, 13⟩] htb (fun z hz => by cases hz) (by decide) (by decide) (X.hts (gt_in 669 (by decide +kernel) (by decide +kernel))) (va_Nw.use rfl (X.2.2.1.2.2.2.2.2.1 _ (List.mem_filter.mpr ⟨List.mem_of_getElem? (i := 680) (by decide +kernel), rfl⟩))) hcell hv hcl ?_
      refine lv_astore_n (lv' := [(3, .ref q9), (0, .ref (ga G 18 0)), (1, .int a1), (2, .int a2)]) hx hb dL_tryCard_7 rfl hl (by decide) rfl (fun ls hl => ?_)
      refine lv_ldc (v := -9999001) hx hb X.1.2.2.2.1 (X.hts (gt_in 698 (by decide +kernel) (by decide +kernel))) dL_tryCard_8 ?_
      exact h_iret X hret M (rt2 h).1 (rt2 h).2 dL_tryCard_10
  · have h := it_t h hE
    exact h_iret X hret M (rt2 h).1 (rt2 h).2 dL_tryCard_6
def fL_tryAccount (V : uV) (a1 : Int32) (a2 : Int32) : Option (Int32 × uV) :=
  bd3 (gh3 (fX11_account V a1 a2) (fX12_account (V 19) a1 a2)) fun E r V1 => if E = 0 then some (r, V1) else if E = 3 then some (-9999001, V1) else if E = 1 then some (-9999002, V1) else none
set_option maxHeartbeats 4000000 in
set_option maxRecDepth 20000 in
theorem kL_tryAccount {l : Launch} {G : UG} (hG : uAll G) (hN : uNo G) (hlt : l.stackTraces = false) {V V' : uV} {a1 : Int32} {a2 : Int32} {r : Int32} (h : fL_tryAccount V a1 a2 = some (r, V')) : uHi l G yL_tryAccount cL_tryAccount 4 [(0, 6, 7, 38), (0, 6, 11, 13)] 9 153 [.ref (ga G 18 0), .int a1, .int a2] V r V' := by
  refine uHi_of rfl (Nat.le_of_ble_eq_true rfl) (fun p e s m args below meth c ls X hret htb hl M => ?_)
  have hl : lv_has ls 4 [(0, .ref (ga G 18 0)), (1, .int a1), (2, .int a2)] := hl
  have hx := X.hx
  have hb := X.hb
  unfold fL_tryAccount at h
  obtain ⟨E, r0, V1, e1, h⟩ := bd3_e h
  refine lv_aload_n hx hb dL_tryAccount_0 rfl (lv_at hl 0 rfl) ?_
  refine lv_iload_n hx hb dL_tryAccount_1 rfl (lv_at hl 1 rfl) ?_
  refine lv_iload_n hx hb dL_tryAccount_2 rfl (lv_at hl 2 rfl) ?_
  obtain ⟨V9, S9, e1, e9⟩ := gh3_e e1
  refine x_cVx X M hl.1 (uXi_gh hN (kX11_account hG hlt e1) e9) cw_L_41 ⟨Nat.le_of_ble_eq_true rfl, Nat.le_of_ble_eq_true rfl⟩ (rc_X11 X M hG.2.1) rfl rfl (Nat.le_of_ble_eq_true rfl) ⟨Nat.le_refl _, Nat.le_refl _⟩ dL_tryAccount_3 (fun K ce q9 H locs hex M hcell hv hcl => ?_) (fun H locs hE M => ?_)
  · rcases hex with ⟨rfl, rfl⟩ | ⟨rfl, rfl⟩ | ⟨rfl, rfl⟩
    · have h := it_f h (by decide)
      have h := it_f h (by decide)
      have h := it_t h rfl
      refine vx_catch (name := "java/lang/IllegalArgumentException") X.1.2.2.2.1 [⟨0, 6, 7, 38⟩] ⟨0, 6, 11, 13⟩ [] htb (fun z hz => by obtain rfl := List.mem_singleton.mp hz; exact Or.inr ⟨by decide, _, X.hts (gt_in 669 (by decide +kernel) (by decide +kernel)), X.2.2.1.2.2.2.2.2.2.2.1⟩) (by decide) (by decide) (X.hts (gt_in 303 (by decide +kernel) (by decide +kernel))) (va_Nw.use rfl (X.2.2.1.2.2.2.2.2.1 _ (List.mem_filter.mpr ⟨List.mem_of_getElem? (i := 317) (by decide +kernel), rfl⟩))) hcell hv hcl ?_
      refine lv_astore_n (lv' := [(3, .ref q9), (0, .ref (ga G 18 0)), (1, .int a1), (2, .int a2)]) hx hb dL_tryAccount_11 rfl hl (by decide) rfl (fun ls hl => ?_)
      refine lv_ldc (v := -9999002) hx hb X.1.2.2.2.1 (X.hts (gt_in 411 (by decide +kernel) (by decide +kernel))) dL_tryAccount_12 ?_
      exact h_iret X hret M (rt2 h).1 (rt2 h).2 dL_tryAccount_14
    · have h := it_f h (by decide)
      have h := it_f h (by decide)
      have h := it_f h (by decide)
      cases h
    · have h := it_f h (by decide)
      have h := it_t h rfl
      refine vx_catch (name := "java/lang/IndexOutOfBoundsException") X.1.2.2.2.1 [] ⟨0, 6, 7, 38⟩ [⟨0, 6, 11, 13⟩] htb (fun z hz => by cases hz) (by decide) (by decide) (X.hts (gt_in 669 (by decide +kernel) (by decide +kernel))) (va_Nw.use rfl (X.2.2.1.2.2.2.2.2.1 _ (List.mem_filter.mpr ⟨List.mem_of_getElem? (i := 680) (by decide +kernel), rfl⟩))) hcell hv hcl ?_
      refine lv_astore_n (lv' := [(3, .ref q9), (0, .ref (ga G 18 0)), (1, .int a1), (2, .int a2)]) hx hb dL_tryAccount_7 rfl hl (by decide) rfl (fun ls hl => ?_)
      refine lv_ldc (v := -9999001) hx hb X.1.2.2.2.1 (X.hts (gt_in 698 (by decide +kernel) (by decide +kernel))) dL_tryAccount_8 ?_
      exact h_iret X hret M (rt2 h).1 (rt2 h).2 dL_tryAccount_10
  · have h := it_t h hE
    exact h_iret X hret M (rt2 h).1 (rt2 h).2 dL_tryAccount_6
def fL_tryGate (V : uV) (a1 : Int32) (a2 : Int32) : Option (Int32 × uV) :=
  bd3 (gh3 (fX11_gate V a1 a2) (fX12_gate (V 19) a1 a2)) fun E r V1 => if E = 0 then some (r, V1) else if E = 3 then some (-9999001, V1) else if E = 1 then some (-9999002, V1) else none
set_option maxHeartbeats 4000000 in
set_option maxRecDepth 20000 in
theorem kL_tryGate {l : Launch} {G : UG} (hG : uAll G) (hN : uNo G) (hlt : l.stackTraces = false) {V V' : uV} {a1 : Int32} {a2 : Int32} {r : Int32} (h : fL_tryGate V a1 a2 = some (r, V')) : uHi l G yL_tryGate cL_tryGate 4 [(0, 6, 7, 38), (0, 6, 11, 13)] 9 153 [.ref (ga G 18 0), .int a1, .int a2] V r V' := by
  refine uHi_of rfl (Nat.le_of_ble_eq_true rfl) (fun p e s m args below meth c ls X hret htb hl M => ?_)
  have hl : lv_has ls 4 [(0, .ref (ga G 18 0)), (1, .int a1), (2, .int a2)] := hl
  have hx := X.hx
  have hb := X.hb
  unfold fL_tryGate at h
  obtain ⟨E, r0, V1, e1, h⟩ := bd3_e h
  refine lv_aload_n hx hb dL_tryGate_0 rfl (lv_at hl 0 rfl) ?_
  refine lv_iload_n hx hb dL_tryGate_1 rfl (lv_at hl 1 rfl) ?_
  refine lv_iload_n hx hb dL_tryGate_2 rfl (lv_at hl 2 rfl) ?_
  obtain ⟨V9, S9, e1, e9⟩ := gh3_e e1
  refine x_cVx X M hl.1 (uXi_gh hN (kX11_gate hG hlt e1) e9) cw_L_44 ⟨Nat.le_of_ble_eq_true rfl, Nat.le_of_ble_eq_true rfl⟩ (rc_X11 X M hG.2.1) rfl rfl (Nat.le_of_ble_eq_true rfl) ⟨Nat.le_refl _, Nat.le_refl _⟩ dL_tryGate_3 (fun K ce q9 H locs hex M hcell hv hcl => ?_) (fun H locs hE M => ?_)
  · rcases hex with ⟨rfl, rfl⟩ | ⟨rfl, rfl⟩ | ⟨rfl, rfl⟩
    · have h := it_f h (by decide)
      have h := it_f h (by decide)
      have h := it_t h rfl
      refine vx_catch (name := "java/lang/IllegalArgumentException") X.1.2.2.2.1 [⟨0, 6, 7, 38⟩] ⟨0, 6, 11, 13⟩ [] htb (fun z hz => by obtain rfl := List.mem_singleton.mp hz; exact Or.inr ⟨by decide, _, X.hts (gt_in 669 (by decide +kernel) (by decide +kernel)), X.2.2.1.2.2.2.2.2.2.2.1⟩) (by decide) (by decide) (X.hts (gt_in 303 (by decide +kernel) (by decide +kernel))) (va_Nw.use rfl (X.2.2.1.2.2.2.2.2.1 _ (List.mem_filter.mpr ⟨List.mem_of_getElem? (i := 317) (by decide +kernel), rfl⟩))) hcell hv hcl ?_
      refine lv_astore_n (lv' := [(3, .ref q9), (0, .ref (ga G 18 0)), (1, .int a1), (2, .int a2)]) hx hb dL_tryGate_11 rfl hl (by decide) rfl (fun ls hl => ?_)
      refine lv_ldc (v := -9999002) hx hb X.1.2.2.2.1 (X.hts (gt_in 411 (by decide +kernel) (by decide +kernel))) dL_tryGate_12 ?_
      exact h_iret X hret M (rt2 h).1 (rt2 h).2 dL_tryGate_14
    · have h := it_f h (by decide)
      have h := it_f h (by decide)
      have h := it_f h (by decide)
      cases h
    · have h := it_f h (by decide)
      have h := it_t h rfl
      refine vx_catch (name := "java/lang/IndexOutOfBoundsException") X.1.2.2.2.1 [] ⟨0, 6, 7, 38⟩ [⟨0, 6, 11, 13⟩] htb (fun z hz => by cases hz) (by decide) (by decide) (X.hts (gt_in 669 (by decide +kernel) (by decide +kernel))) (va_Nw.use rfl (X.2.2.1.2.2.2.2.2.1 _ (List.mem_filter.mpr ⟨List.mem_of_getElem? (i := 680) (by decide +kernel), rfl⟩))) hcell hv hcl ?_
      refine lv_astore_n (lv' := [(3, .ref q9), (0, .ref (ga G 18 0)), (1, .int a1), (2, .int a2)]) hx hb dL_tryGate_7 rfl hl (by decide) rfl (fun ls hl => ?_)
      refine lv_ldc (v := -9999001) hx hb X.1.2.2.2.1 (X.hts (gt_in 698 (by decide +kernel) (by decide +kernel))) dL_tryGate_8 ?_
      exact h_iret X hret M (rt2 h).1 (rt2 h).2 dL_tryGate_10
  · have h := it_t h hE
    exact h_iret X hret M (rt2 h).1 (rt2 h).2 dL_tryGate_6
def fL_tryLogged (V : uV) (a1 : Int32) (a2 : Int32) (a3 : Int32) : Option (Int32 × uV) :=
  bd3 (gh3 (fX11_logged V a1 a2 a3) (fX12_logged (V 19) a1 a2 a3)) fun E r V1 => if E = 0 then some (r, V1) else if E = 3 then some (-9999001, V1) else if E = 1 then some (-9999002, V1) else none
set_option maxHeartbeats 4000000 in
set_option maxRecDepth 20000 in
theorem kL_tryLogged {l : Launch} {G : UG} (hG : uAll G) (hN : uNo G) (hlt : l.stackTraces = false) {V V' : uV} {a1 : Int32} {a2 : Int32} {a3 : Int32} {r : Int32} (h : fL_tryLogged V a1 a2 a3 = some (r, V')) : uHi l G yL_tryLogged cL_tryLogged 5 [(0, 7, 8, 38), (0, 7, 13, 13)] 9 154 [.ref (ga G 18 0), .int a1, .int a2, .int a3] V r V' := by
  refine uHi_of rfl (Nat.le_of_ble_eq_true rfl) (fun p e s m args below meth c ls X hret htb hl M => ?_)
  have hl : lv_has ls 5 [(0, .ref (ga G 18 0)), (1, .int a1), (2, .int a2), (3, .int a3)] := hl
  have hx := X.hx
  have hb := X.hb
  unfold fL_tryLogged at h
  obtain ⟨E, r0, V1, e1, h⟩ := bd3_e h
  refine lv_aload_n hx hb dL_tryLogged_0 rfl (lv_at hl 0 rfl) ?_
  refine lv_iload_n hx hb dL_tryLogged_1 rfl (lv_at hl 1 rfl) ?_
  refine lv_iload_n hx hb dL_tryLogged_2 rfl (lv_at hl 2 rfl) ?_
  refine lv_iload_n hx hb dL_tryLogged_3 rfl (lv_at hl 3 rfl) ?_
  obtain ⟨V9, S9, e1, e9⟩ := gh3_e e1
  refine x_cVx X M hl.1 (uXi_gh hN (kX11_logged hG hlt e1) e9) cw_L_47 ⟨Nat.le_of_ble_eq_true rfl, Nat.le_of_ble_eq_true rfl⟩ (rc_X11 X M hG.2.1) rfl rfl (Nat.le_of_ble_eq_true rfl) ⟨Nat.le_refl _, Nat.le_refl _⟩ dL_tryLogged_4 (fun K ce q9 H locs hex M hcell hv hcl => ?_) (fun H locs hE M => ?_)
  · rcases hex with ⟨rfl, rfl⟩ | ⟨rfl, rfl⟩ | ⟨rfl, rfl⟩
    · have h := it_f h (by decide)
      have h := it_f h (by decide)
      have h := it_t h rfl
      refine vx_catch (name := "java/lang/IllegalArgumentException") X.1.2.2.2.1 [⟨0, 7, 8, 38⟩] ⟨0, 7, 13, 13⟩ [] htb (fun z hz => by obtain rfl := List.mem_singleton.mp hz; exact Or.inr ⟨by decide, _, X.hts (gt_in 669 (by decide +kernel) (by decide +kernel)), X.2.2.1.2.2.2.2.2.2.2.1⟩) (by decide) (by decide) (X.hts (gt_in 303 (by decide +kernel) (by decide +kernel))) (va_Nw.use rfl (X.2.2.1.2.2.2.2.2.1 _ (List.mem_filter.mpr ⟨List.mem_of_getElem? (i := 317) (by decide +kernel), rfl⟩))) hcell hv hcl ?_
      refine lv_astore (lv' := [(4, .ref q9), (0, .ref (ga G 18 0)), (1, .int a1), (2, .int a2), (3, .int a3)]) hx hb dL_tryLogged_13 hl (by decide) rfl (fun ls hl => ?_)
      refine lv_ldc (v := -9999002) hx hb X.1.2.2.2.1 (X.hts (gt_in 411 (by decide +kernel) (by decide +kernel))) dL_tryLogged_15 ?_
      exact h_iret X hret M (rt2 h).1 (rt2 h).2 dL_tryLogged_17
    · have h := it_f h (by decide)
      have h := it_f h (by decide)
      have h := it_f h (by decide)
      cases h
    · have h := it_f h (by decide)
      have h := it_t h rfl
      refine vx_catch (name := "java/lang/IndexOutOfBoundsException") X.1.2.2.2.1 [] ⟨0, 7, 8, 38⟩ [⟨0, 7, 13, 13⟩] htb (fun z hz => by cases hz) (by decide) (by decide) (X.hts (gt_in 669 (by decide +kernel) (by decide +kernel))) (va_Nw.use rfl (X.2.2.1.2.2.2.2.2.1 _ (List.mem_filter.mpr ⟨List.mem_of_getElem? (i := 680) (by decide +kernel), rfl⟩))) hcell hv hcl ?_
      refine lv_astore (lv' := [(4, .ref q9), (0, .ref (ga G 18 0)), (1, .int a1), (2, .int a2), (3, .int a3)]) hx hb dL_tryLogged_8 hl (by decide) rfl (fun ls hl => ?_)
      refine lv_ldc (v := -9999001) hx hb X.1.2.2.2.1 (X.hts (gt_in 698 (by decide +kernel) (by decide +kernel))) dL_tryLogged_10 ?_
      exact h_iret X hret M (rt2 h).1 (rt2 h).2 dL_tryLogged_12
  · have h := it_t h hE
    exact h_iret X hret M (rt2 h).1 (rt2 h).2 dL_tryLogged_7
def fL_trySetting (V : uV) (a1 : Int32) : Option (Int32 × uV) :=
  bd3 (gh3 (fX11_setting V a1) (fX12_setting (V 19) a1)) fun E r V1 => if E = 0 then some (r, V1) else if E = 1 then some (-9999002, V1) else none
set_option maxHeartbeats 4000000 in
set_option maxRecDepth 20000 in
theorem kL_trySetting {l : Launch} {G : UG} (hG : uAll G) (hN : uNo G) (hlt : l.stackTraces = false) {V V' : uV} {a1 : Int32} {r : Int32} (h : fL_trySetting V a1 = some (r, V')) : uHi l G yL_trySetting cL_trySetting 3 [(0, 5, 6, 13)] 9 152 [.ref (ga G 18 0), .int a1] V r V' := by
  refine uHi_of rfl (Nat.le_of_ble_eq_true rfl) (fun p e s m args below meth c ls X hret htb hl M => ?_)
  have hl : lv_has ls 3 [(0, .ref (ga G 18 0)), (1, .int a1)] := hl
  have hx := X.hx
  have hb := X.hb
  unfold fL_trySetting at h
  obtain ⟨E, r0, V1, e1, h⟩ := bd3_e h
  refine lv_aload_n hx hb dL_trySetting_0 rfl (lv_at hl 0 rfl) ?_
  refine lv_iload_n hx hb dL_trySetting_1 rfl (lv_at hl 1 rfl) ?_
  obtain ⟨V9, S9, e1, e9⟩ := gh3_e e1
  refine x_cVx X M hl.1 (uXi_gh hN (kX11_setting hG hlt e1) e9) cw_L_51 ⟨Nat.le_of_ble_eq_true rfl, Nat.le_of_ble_eq_true rfl⟩ (rc_X11 X M hG.2.1) rfl rfl (Nat.le_of_ble_eq_true rfl) ⟨Nat.le_refl _, Nat.le_refl _⟩ dL_trySetting_2 (fun K ce q9 H locs hex M hcell hv hcl => ?_) (fun H locs hE M => ?_)
  · rcases hex with ⟨rfl, rfl⟩ | ⟨rfl, rfl⟩ | ⟨rfl, rfl⟩
    · have h := it_f h (by decide)
      have h := it_t h rfl
      refine vx_catch (name := "java/lang/IllegalArgumentException") X.1.2.2.2.1 [] ⟨0, 5, 6, 13⟩ [] htb (fun z hz => by cases hz) (by decide) (by decide) (X.hts (gt_in 303 (by decide +kernel) (by decide +kernel))) (va_Nw.use rfl (X.2.2.1.2.2.2.2.2.1 _ (List.mem_filter.mpr ⟨List.mem_of_getElem? (i := 317) (by decide +kernel), rfl⟩))) hcell hv hcl ?_
      refine lv_astore_n (lv' := [(2, .ref q9), (0, .ref (ga G 18 0)), (1, .int a1)]) hx hb dL_trySetting_6 rfl hl (by decide) rfl (fun ls hl => ?_)
      refine lv_ldc (v := -9999002) hx hb X.1.2.2.2.1 (X.hts (gt_in 411 (by decide +kernel) (by decide +kernel))) dL_trySetting_7 ?_
      exact h_iret X hret M (rt2 h).1 (rt2 h).2 dL_trySetting_9
    · have h := it_f h (by decide)
      have h := it_f h (by decide)
      cases h
    · have h := it_f h (by decide)
      have h := it_f h (by decide)
      cases h
  · have h := it_t h hE
    exact h_iret X hret M (rt2 h).1 (rt2 h).2 dL_trySetting_5
def fL_tryIssue (V : uV) (a1 : Int32) : Option (Int32 × uV) :=
  bd3 (gh3 (fX11_issue V a1) (fX12_issue (V 19) a1)) fun E r V1 => if E = 0 then some (r, V1) else if E = 1 then some (-9999002, V1) else if E = 2 then some (-9999003, V1) else none
set_option maxHeartbeats 4000000 in
set_option maxRecDepth 20000 in
theorem kL_tryIssue {l : Launch} {G : UG} (hG : uAll G) (hN : uNo G) (hlt : l.stackTraces = false) {V V' : uV} {a1 : Int32} {r : Int32} (h : fL_tryIssue V a1 = some (r, V')) : uHi l G yL_tryIssue cL_tryIssue 3 [(0, 5, 6, 13), (0, 5, 10, 24)] 9 166 [.ref (ga G 18 0), .int a1] V r V' := by
  refine uHi_of rfl (Nat.le_of_ble_eq_true rfl) (fun p e s m args below meth c ls X hret htb hl M => ?_)
  have hl : lv_has ls 3 [(0, .ref (ga G 18 0)), (1, .int a1)] := hl
  have hx := X.hx
  have hb := X.hb
  unfold fL_tryIssue at h
  obtain ⟨E, r0, V1, e1, h⟩ := bd3_e h
  refine lv_aload_n hx hb dL_tryIssue_0 rfl (lv_at hl 0 rfl) ?_
  refine lv_iload_n hx hb dL_tryIssue_1 rfl (lv_at hl 1 rfl) ?_
  obtain ⟨V9, S9, e1, e9⟩ := gh3_e e1
  refine x_cVx X M hl.1 (uXi_gh hN (kX11_issue hG hlt e1) e9) cw_L_54 ⟨Nat.le_of_ble_eq_true rfl, Nat.le_of_ble_eq_true rfl⟩ (rc_X11 X M hG.2.1) rfl rfl (Nat.le_of_ble_eq_true rfl) ⟨Nat.le_refl _, Nat.le_refl _⟩ dL_tryIssue_2 (fun K ce q9 H locs hex M hcell hv hcl => ?_) (fun H locs hE M => ?_)
  · rcases hex with ⟨rfl, rfl⟩ | ⟨rfl, rfl⟩ | ⟨rfl, rfl⟩
    · have h := it_f h (by decide)
      have h := it_t h rfl
      refine vx_catch (name := "java/lang/IllegalArgumentException") X.1.2.2.2.1 [] ⟨0, 5, 6, 13⟩ [⟨0, 5, 10, 24⟩] htb (fun z hz => by cases hz) (by decide) (by decide) (X.hts (gt_in 303 (by decide +kernel) (by decide +kernel))) (va_Nw.use rfl (X.2.2.1.2.2.2.2.2.1 _ (List.mem_filter.mpr ⟨List.mem_of_getElem? (i := 317) (by decide +kernel), rfl⟩))) hcell hv hcl ?_
      refine lv_astore_n (lv' := [(2, .ref q9), (0, .ref (ga G 18 0)), (1, .int a1)]) hx hb dL_tryIssue_6 rfl hl (by decide) rfl (fun ls hl => ?_)
      refine lv_ldc (v := -9999002) hx hb X.1.2.2.2.1 (X.hts (gt_in 411 (by decide +kernel) (by decide +kernel))) dL_tryIssue_7 ?_
      exact h_iret X hret M (rt2 h).1 (rt2 h).2 dL_tryIssue_9
    · have h := it_f h (by decide)
      have h := it_f h (by decide)
      have h := it_t h rfl
      refine vx_catch (name := "java/lang/IllegalStateException") X.1.2.2.2.1 [⟨0, 5, 6, 13⟩] ⟨0, 5, 10, 24⟩ [] htb (fun z hz => by obtain rfl := List.mem_singleton.mp hz; exact Or.inr ⟨by decide, _, X.hts (gt_in 303 (by decide +kernel) (by decide +kernel)), X.2.2.1.2.2.2.2.2.2.1⟩) (by decide) (by decide) (X.hts (gt_in 304 (by decide +kernel) (by decide +kernel))) (va_Nw.use rfl (X.2.2.1.2.2.2.2.2.1 _ (List.mem_filter.mpr ⟨List.mem_of_getElem? (i := 392) (by decide +kernel), rfl⟩))) hcell hv hcl ?_
      refine lv_astore_n (lv' := [(2, .ref q9), (0, .ref (ga G 18 0)), (1, .int a1)]) hx hb dL_tryIssue_10 rfl hl (by decide) rfl (fun ls hl => ?_)
      refine lv_ldc (v := -9999003) hx hb X.1.2.2.2.1 (X.hts (gt_in 412 (by decide +kernel) (by decide +kernel))) dL_tryIssue_11 ?_
      exact h_iret X hret M (rt2 h).1 (rt2 h).2 dL_tryIssue_13
    · have h := it_f h (by decide)
      have h := it_f h (by decide)
      have h := it_f h (by decide)
      cases h
  · have h := it_t h hE
    exact h_iret X hret M (rt2 h).1 (rt2 h).2 dL_tryIssue_5
def fL_tryCopy (V : uV) (a1 : Int32) : Option (Int32 × uV) :=
  bd3 (gh3 (fX11_copy V a1) (fX12_copy (V 19) a1)) fun E r V1 => if E = 0 then some (r, V1) else if E = 3 then some (-9999001, V1) else if E = 2 then some (-9999003, V1) else none
set_option maxHeartbeats 4000000 in
set_option maxRecDepth 20000 in
theorem kL_tryCopy {l : Launch} {G : UG} (hG : uAll G) (hN : uNo G) (hlt : l.stackTraces = false) {V V' : uV} {a1 : Int32} {r : Int32} (h : fL_tryCopy V a1 = some (r, V')) : uHi l G yL_tryCopy cL_tryCopy 3 [(0, 5, 6, 38), (0, 5, 10, 24)] 8 166 [.ref (ga G 18 0), .int a1] V r V' := by
  refine uHi_of rfl (Nat.le_of_ble_eq_true rfl) (fun p e s m args below meth c ls X hret htb hl M => ?_)
  have hl : lv_has ls 3 [(0, .ref (ga G 18 0)), (1, .int a1)] := hl
  have hx := X.hx
  have hb := X.hb
  unfold fL_tryCopy at h
  obtain ⟨E, r0, V1, e1, h⟩ := bd3_e h
  refine lv_aload_n hx hb dL_tryCopy_0 rfl (lv_at hl 0 rfl) ?_
  refine lv_iload_n hx hb dL_tryCopy_1 rfl (lv_at hl 1 rfl) ?_
  obtain ⟨V9, S9, e1, e9⟩ := gh3_e e1
  refine x_cVx X M hl.1 (uXi_gh hN (kX11_copy hG hlt e1) e9) cw_L_57 ⟨Nat.le_of_ble_eq_true rfl, Nat.le_of_ble_eq_true rfl⟩ (rc_X11 X M hG.2.1) rfl rfl (Nat.le_of_ble_eq_true rfl) ⟨Nat.le_refl _, Nat.le_refl _⟩ dL_tryCopy_2 (fun K ce q9 H locs hex M hcell hv hcl => ?_) (fun H locs hE M => ?_)
  · rcases hex with ⟨rfl, rfl⟩ | ⟨rfl, rfl⟩ | ⟨rfl, rfl⟩
    · have h := it_f h (by decide)
      have h := it_f h (by decide)
      have h := it_f h (by decide)
      cases h
    · have h := it_f h (by decide)
      have h := it_f h (by decide)
      have h := it_t h rfl
      refine vx_catch (name := "java/lang/IllegalStateException") X.1.2.2.2.1 [⟨0, 5, 6, 38⟩] ⟨0, 5, 10, 24⟩ [] htb (fun z hz => by obtain rfl := List.mem_singleton.mp hz; exact Or.inr ⟨by decide, _, X.hts (gt_in 669 (by decide +kernel) (by decide +kernel)), X.2.2.1.2.2.2.2.2.2.2.2⟩) (by decide) (by decide) (X.hts (gt_in 304 (by decide +kernel) (by decide +kernel))) (va_Nw.use rfl (X.2.2.1.2.2.2.2.2.1 _ (List.mem_filter.mpr ⟨List.mem_of_getElem? (i := 392) (by decide +kernel), rfl⟩))) hcell hv hcl ?_
      refine lv_astore_n (lv' := [(2, .ref q9), (0, .ref (ga G 18 0)), (1, .int a1)]) hx hb dL_tryCopy_10 rfl hl (by decide) rfl (fun ls hl => ?_)
      refine lv_ldc (v := -9999003) hx hb X.1.2.2.2.1 (X.hts (gt_in 412 (by decide +kernel) (by decide +kernel))) dL_tryCopy_11 ?_
      exact h_iret X hret M (rt2 h).1 (rt2 h).2 dL_tryCopy_13
    · have h := it_f h (by decide)
      have h := it_t h rfl
      refine vx_catch (name := "java/lang/IndexOutOfBoundsException") X.1.2.2.2.1 [] ⟨0, 5, 6, 38⟩ [⟨0, 5, 10, 24⟩] htb (fun z hz => by cases hz) (by decide) (by decide) (X.hts (gt_in 669 (by decide +kernel) (by decide +kernel))) (va_Nw.use rfl (X.2.2.1.2.2.2.2.2.1 _ (List.mem_filter.mpr ⟨List.mem_of_getElem? (i := 680) (by decide +kernel), rfl⟩))) hcell hv hcl ?_
      refine lv_astore_n (lv' := [(2, .ref q9), (0, .ref (ga G 18 0)), (1, .int a1)]) hx hb dL_tryCopy_6 rfl hl (by decide) rfl (fun ls hl => ?_)
      refine lv_ldc (v := -9999001) hx hb X.1.2.2.2.1 (X.hts (gt_in 698 (by decide +kernel) (by decide +kernel))) dL_tryCopy_7 ?_
      exact h_iret X hret M (rt2 h).1 (rt2 h).2 dL_tryCopy_9
  · have h := it_t h hE
    exact h_iret X hret M (rt2 h).1 (rt2 h).2 dL_tryCopy_5
def fL_tryRide (V : uV) (a1 : Int32) (a2 : Int32) : Option (Int32 × uV) :=
  bd3 (gh3 (fX11_ride V a1 a2) (fX12_ride (V 19) a1 a2)) fun E r V1 => if E = 0 then some (r, V1) else if E = 3 then some (-9999001, V1) else none
set_option maxHeartbeats 4000000 in
set_option maxRecDepth 20000 in
theorem kL_tryRide {l : Launch} {G : UG} (hG : uAll G) (hN : uNo G) (hlt : l.stackTraces = false) {V V' : uV} {a1 : Int32} {a2 : Int32} {r : Int32} (h : fL_tryRide V a1 a2 = some (r, V')) : uHi l G yL_tryRide cL_tryRide 4 [(0, 6, 7, 38)] 8 167 [.ref (ga G 18 0), .int a1, .int a2] V r V' := by
  refine uHi_of rfl (Nat.le_of_ble_eq_true rfl) (fun p e s m args below meth c ls X hret htb hl M => ?_)
  have hl : lv_has ls 4 [(0, .ref (ga G 18 0)), (1, .int a1), (2, .int a2)] := hl
  have hx := X.hx
  have hb := X.hb
  unfold fL_tryRide at h
  obtain ⟨E, r0, V1, e1, h⟩ := bd3_e h
  refine lv_aload_n hx hb dL_tryRide_0 rfl (lv_at hl 0 rfl) ?_
  refine lv_iload_n hx hb dL_tryRide_1 rfl (lv_at hl 1 rfl) ?_
  refine lv_iload_n hx hb dL_tryRide_2 rfl (lv_at hl 2 rfl) ?_
  obtain ⟨V9, S9, e1, e9⟩ := gh3_e e1
  refine x_cVx X M hl.1 (uXi_gh hN (kX11_ride hG hlt e1) e9) cw_L_60 ⟨Nat.le_of_ble_eq_true rfl, Nat.le_of_ble_eq_true rfl⟩ (rc_X11 X M hG.2.1) rfl rfl (Nat.le_of_ble_eq_true rfl) ⟨Nat.le_refl _, Nat.le_refl _⟩ dL_tryRide_3 (fun K ce q9 H locs hex M hcell hv hcl => ?_) (fun H locs hE M => ?_)
  · rcases hex with ⟨rfl, rfl⟩ | ⟨rfl, rfl⟩ | ⟨rfl, rfl⟩
    · have h := it_f h (by decide)
      have h := it_f h (by decide)
      cases h
    · have h := it_f h (by decide)
      have h := it_f h (by decide)
      cases h
    · have h := it_f h (by decide)
      have h := it_t h rfl
      refine vx_catch (name := "java/lang/IndexOutOfBoundsException") X.1.2.2.2.1 [] ⟨0, 6, 7, 38⟩ [] htb (fun z hz => by cases hz) (by decide) (by decide) (X.hts (gt_in 669 (by decide +kernel) (by decide +kernel))) (va_Nw.use rfl (X.2.2.1.2.2.2.2.2.1 _ (List.mem_filter.mpr ⟨List.mem_of_getElem? (i := 680) (by decide +kernel), rfl⟩))) hcell hv hcl ?_
      refine lv_astore_n (lv' := [(3, .ref q9), (0, .ref (ga G 18 0)), (1, .int a1), (2, .int a2)]) hx hb dL_tryRide_7 rfl hl (by decide) rfl (fun ls hl => ?_)
      refine lv_ldc (v := -9999001) hx hb X.1.2.2.2.1 (X.hts (gt_in 698 (by decide +kernel) (by decide +kernel))) dL_tryRide_8 ?_
      exact h_iret X hret M (rt2 h).1 (rt2 h).2 dL_tryRide_10
  · have h := it_t h hE
    exact h_iret X hret M (rt2 h).1 (rt2 h).2 dL_tryRide_6
def fL_tryPay (V : uV) (a1 : Int32) (a2 : Int32) : Option (Int32 × uV) :=
  bd3 (gh3 (fX11_pay V a1 a2) (fX12_pay (V 19) a1 a2)) fun E r V1 => if E = 0 then some (r, V1) else if E = 3 then some (-9999001, V1) else if E = 1 then some (-9999002, V1) else none
set_option maxHeartbeats 4000000 in
set_option maxRecDepth 20000 in
theorem kL_tryPay {l : Launch} {G : UG} (hG : uAll G) (hN : uNo G) (hlt : l.stackTraces = false) {V V' : uV} {a1 : Int32} {a2 : Int32} {r : Int32} (h : fL_tryPay V a1 a2 = some (r, V')) : uHi l G yL_tryPay cL_tryPay 4 [(0, 6, 7, 38), (0, 6, 11, 13)] 9 167 [.ref (ga G 18 0), .int a1, .int a2] V r V' := by
  refine uHi_of rfl (Nat.le_of_ble_eq_true rfl) (fun p e s m args below meth c ls X hret htb hl M => ?_)
  have hl : lv_has ls 4 [(0, .ref (ga G 18 0)), (1, .int a1), (2, .int a2)] := hl
  have hx := X.hx
  have hb := X.hb
  unfold fL_tryPay at h
  obtain ⟨E, r0, V1, e1, h⟩ := bd3_e h
  refine lv_aload_n hx hb dL_tryPay_0 rfl (lv_at hl 0 rfl) ?_
  refine lv_iload_n hx hb dL_tryPay_1 rfl (lv_at hl 1 rfl) ?_
  refine lv_iload_n hx hb dL_tryPay_2 rfl (lv_at hl 2 rfl) ?_
  obtain ⟨V9, S9, e1, e9⟩ := gh3_e e1
  refine x_cVx X M hl.1 (uXi_gh hN (kX11_pay hG hlt e1) e9) cw_L_63 ⟨Nat.le_of_ble_eq_true rfl, Nat.le_of_ble_eq_true rfl⟩ (rc_X11 X M hG.2.1) rfl rfl (Nat.le_of_ble_eq_true rfl) ⟨Nat.le_refl _, Nat.le_refl _⟩ dL_tryPay_3 (fun K ce q9 H locs hex M hcell hv hcl => ?_) (fun H locs hE M => ?_)
  · rcases hex with ⟨rfl, rfl⟩ | ⟨rfl, rfl⟩ | ⟨rfl, rfl⟩
    · have h := it_f h (by decide)
      have h := it_f h (by decide)
      have h := it_t h rfl
      refine vx_catch (name := "java/lang/IllegalArgumentException") X.1.2.2.2.1 [⟨0, 6, 7, 38⟩] ⟨0, 6, 11, 13⟩ [] htb (fun z hz => by obtain rfl := List.mem_singleton.mp hz; exact Or.inr ⟨by decide, _, X.hts (gt_in 669 (by decide +kernel) (by decide +kernel)), X.2.2.1.2.2.2.2.2.2.2.1⟩) (by decide) (by decide) (X.hts (gt_in 303 (by decide +kernel) (by decide +kernel))) (va_Nw.use rfl (X.2.2.1.2.2.2.2.2.1 _ (List.mem_filter.mpr ⟨List.mem_of_getElem? (i := 317) (by decide +kernel), rfl⟩))) hcell hv hcl ?_
      refine lv_astore_n (lv' := [(3, .ref q9), (0, .ref (ga G 18 0)), (1, .int a1), (2, .int a2)]) hx hb dL_tryPay_11 rfl hl (by decide) rfl (fun ls hl => ?_)
      refine lv_ldc (v := -9999002) hx hb X.1.2.2.2.1 (X.hts (gt_in 411 (by decide +kernel) (by decide +kernel))) dL_tryPay_12 ?_
      exact h_iret X hret M (rt2 h).1 (rt2 h).2 dL_tryPay_14
    · have h := it_f h (by decide)
      have h := it_f h (by decide)
      have h := it_f h (by decide)
      cases h
    · have h := it_f h (by decide)
      have h := it_t h rfl
      refine vx_catch (name := "java/lang/IndexOutOfBoundsException") X.1.2.2.2.1 [] ⟨0, 6, 7, 38⟩ [⟨0, 6, 11, 13⟩] htb (fun z hz => by cases hz) (by decide) (by decide) (X.hts (gt_in 669 (by decide +kernel) (by decide +kernel))) (va_Nw.use rfl (X.2.2.1.2.2.2.2.2.1 _ (List.mem_filter.mpr ⟨List.mem_of_getElem? (i := 680) (by decide +kernel), rfl⟩))) hcell hv hcl ?_
      refine lv_astore_n (lv' := [(3, .ref q9), (0, .ref (ga G 18 0)), (1, .int a1), (2, .int a2)]) hx hb dL_tryPay_7 rfl hl (by decide) rfl (fun ls hl => ?_)
      refine lv_ldc (v := -9999001) hx hb X.1.2.2.2.1 (X.hts (gt_in 698 (by decide +kernel) (by decide +kernel))) dL_tryPay_8 ?_
      exact h_iret X hret M (rt2 h).1 (rt2 h).2 dL_tryPay_10
  · have h := it_t h hE
    exact h_iret X hret M (rt2 h).1 (rt2 h).2 dL_tryPay_6
def fL_tryPardon (V : uV) (a1 : Int32) : Option (Int32 × uV) :=
  bd3 (gh3 (fX11_pardon V a1) (fX12_pardon (V 19) a1)) fun E r V1 => if E = 0 then some (r, V1) else if E = 3 then some (-9999001, V1) else if E = 2 then some (-9999003, V1) else none
set_option maxHeartbeats 4000000 in
set_option maxRecDepth 20000 in
theorem kL_tryPardon {l : Launch} {G : UG} (hG : uAll G) (hN : uNo G) (hlt : l.stackTraces = false) {V V' : uV} {a1 : Int32} {r : Int32} (h : fL_tryPardon V a1 = some (r, V')) : uHi l G yL_tryPardon cL_tryPardon 3 [(0, 5, 6, 38), (0, 5, 10, 24)] 8 166 [.ref (ga G 18 0), .int a1] V r V' := by
  refine uHi_of rfl (Nat.le_of_ble_eq_true rfl) (fun p e s m args below meth c ls X hret htb hl M => ?_)
  have hl : lv_has ls 3 [(0, .ref (ga G 18 0)), (1, .int a1)] := hl
  have hx := X.hx
  have hb := X.hb
  unfold fL_tryPardon at h
  obtain ⟨E, r0, V1, e1, h⟩ := bd3_e h
  refine lv_aload_n hx hb dL_tryPardon_0 rfl (lv_at hl 0 rfl) ?_
  refine lv_iload_n hx hb dL_tryPardon_1 rfl (lv_at hl 1 rfl) ?_
  obtain ⟨V9, S9, e1, e9⟩ := gh3_e e1
  refine x_cVx X M hl.1 (uXi_gh hN (kX11_pardon hG hlt e1) e9) cw_L_66 ⟨Nat.le_of_ble_eq_true rfl, Nat.le_of_ble_eq_true rfl⟩ (rc_X11 X M hG.2.1) rfl rfl (Nat.le_of_ble_eq_true rfl) ⟨Nat.le_refl _, Nat.le_refl _⟩ dL_tryPardon_2 (fun K ce q9 H locs hex M hcell hv hcl => ?_) (fun H locs hE M => ?_)
  · rcases hex with ⟨rfl, rfl⟩ | ⟨rfl, rfl⟩ | ⟨rfl, rfl⟩
    · have h := it_f h (by decide)
      have h := it_f h (by decide)
      have h := it_f h (by decide)
      cases h
    · have h := it_f h (by decide)
      have h := it_f h (by decide)
      have h := it_t h rfl
      refine vx_catch (name := "java/lang/IllegalStateException") X.1.2.2.2.1 [⟨0, 5, 6, 38⟩] ⟨0, 5, 10, 24⟩ [] htb (fun z hz => by obtain rfl := List.mem_singleton.mp hz; exact Or.inr ⟨by decide, _, X.hts (gt_in 669 (by decide +kernel) (by decide +kernel)), X.2.2.1.2.2.2.2.2.2.2.2⟩) (by decide) (by decide) (X.hts (gt_in 304 (by decide +kernel) (by decide +kernel))) (va_Nw.use rfl (X.2.2.1.2.2.2.2.2.1 _ (List.mem_filter.mpr ⟨List.mem_of_getElem? (i := 392) (by decide +kernel), rfl⟩))) hcell hv hcl ?_
      refine lv_astore_n (lv' := [(2, .ref q9), (0, .ref (ga G 18 0)), (1, .int a1)]) hx hb dL_tryPardon_10 rfl hl (by decide) rfl (fun ls hl => ?_)
      refine lv_ldc (v := -9999003) hx hb X.1.2.2.2.1 (X.hts (gt_in 412 (by decide +kernel) (by decide +kernel))) dL_tryPardon_11 ?_
      exact h_iret X hret M (rt2 h).1 (rt2 h).2 dL_tryPardon_13
    · have h := it_f h (by decide)
      have h := it_t h rfl
      refine vx_catch (name := "java/lang/IndexOutOfBoundsException") X.1.2.2.2.1 [] ⟨0, 5, 6, 38⟩ [⟨0, 5, 10, 24⟩] htb (fun z hz => by cases hz) (by decide) (by decide) (X.hts (gt_in 669 (by decide +kernel) (by decide +kernel))) (va_Nw.use rfl (X.2.2.1.2.2.2.2.2.1 _ (List.mem_filter.mpr ⟨List.mem_of_getElem? (i := 680) (by decide +kernel), rfl⟩))) hcell hv hcl ?_
      refine lv_astore_n (lv' := [(2, .ref q9), (0, .ref (ga G 18 0)), (1, .int a1)]) hx hb dL_tryPardon_6 rfl hl (by decide) rfl (fun ls hl => ?_)
      refine lv_ldc (v := -9999001) hx hb X.1.2.2.2.1 (X.hts (gt_in 698 (by decide +kernel) (by decide +kernel))) dL_tryPardon_7 ?_
      exact h_iret X hret M (rt2 h).1 (rt2 h).2 dL_tryPardon_9
  · have h := it_t h hE
    exact h_iret X hret M (rt2 h).1 (rt2 h).2 dL_tryPardon_5
def fL_tryDown (V : uV) (a1 : Int32) : Option (Int32 × uV) :=
  bd3 (gh3 (fX11_down V a1) (fX12_down (V 19) a1)) fun E r V1 => if E = 0 then some (r, V1) else if E = 3 then some (-9999001, V1) else if E = 2 then some (-9999003, V1) else none
set_option maxHeartbeats 4000000 in
set_option maxRecDepth 20000 in
theorem kL_tryDown {l : Launch} {G : UG} (hG : uAll G) (hN : uNo G) (hlt : l.stackTraces = false) {V V' : uV} {a1 : Int32} {r : Int32} (h : fL_tryDown V a1 = some (r, V')) : uHi l G yL_tryDown cL_tryDown 3 [(0, 5, 6, 38), (0, 5, 10, 24)] 8 166 [.ref (ga G 18 0), .int a1] V r V' := by
  refine uHi_of rfl (Nat.le_of_ble_eq_true rfl) (fun p e s m args below meth c ls X hret htb hl M => ?_)
  have hl : lv_has ls 3 [(0, .ref (ga G 18 0)), (1, .int a1)] := hl
  have hx := X.hx
  have hb := X.hb
  unfold fL_tryDown at h
  obtain ⟨E, r0, V1, e1, h⟩ := bd3_e h
  refine lv_aload_n hx hb dL_tryDown_0 rfl (lv_at hl 0 rfl) ?_
  refine lv_iload_n hx hb dL_tryDown_1 rfl (lv_at hl 1 rfl) ?_
  obtain ⟨V9, S9, e1, e9⟩ := gh3_e e1
  refine x_cVx X M hl.1 (uXi_gh hN (kX11_down hG hlt e1) e9) cw_L_69 ⟨Nat.le_of_ble_eq_true rfl, Nat.le_of_ble_eq_true rfl⟩ (rc_X11 X M hG.2.1) rfl rfl (Nat.le_of_ble_eq_true rfl) ⟨Nat.le_refl _, Nat.le_refl _⟩ dL_tryDown_2 (fun K ce q9 H locs hex M hcell hv hcl => ?_) (fun H locs hE M => ?_)
  · rcases hex with ⟨rfl, rfl⟩ | ⟨rfl, rfl⟩ | ⟨rfl, rfl⟩
    · have h := it_f h (by decide)
      have h := it_f h (by decide)
      have h := it_f h (by decide)
      cases h
    · have h := it_f h (by decide)
      have h := it_f h (by decide)
      have h := it_t h rfl
      refine vx_catch (name := "java/lang/IllegalStateException") X.1.2.2.2.1 [⟨0, 5, 6, 38⟩] ⟨0, 5, 10, 24⟩ [] htb (fun z hz => by obtain rfl := List.mem_singleton.mp hz; exact Or.inr ⟨by decide, _, X.hts (gt_in 669 (by decide +kernel) (by decide +kernel)), X.2.2.1.2.2.2.2.2.2.2.2⟩) (by decide) (by decide) (X.hts (gt_in 304 (by decide +kernel) (by decide +kernel))) (va_Nw.use rfl (X.2.2.1.2.2.2.2.2.1 _ (List.mem_filter.mpr ⟨List.mem_of_getElem? (i := 392) (by decide +kernel), rfl⟩))) hcell hv hcl ?_
      refine lv_astore_n (lv' := [(2, .ref q9), (0, .ref (ga G 18 0)), (1, .int a1)]) hx hb dL_tryDown_10 rfl hl (by decide) rfl (fun ls hl => ?_)
      refine lv_ldc (v := -9999003) hx hb X.1.2.2.2.1 (X.hts (gt_in 412 (by decide +kernel) (by decide +kernel))) dL_tryDown_11 ?_
      exact h_iret X hret M (rt2 h).1 (rt2 h).2 dL_tryDown_13
    · have h := it_f h (by decide)
      have h := it_t h rfl
      refine vx_catch (name := "java/lang/IndexOutOfBoundsException") X.1.2.2.2.1 [] ⟨0, 5, 6, 38⟩ [⟨0, 5, 10, 24⟩] htb (fun z hz => by cases hz) (by decide) (by decide) (X.hts (gt_in 669 (by decide +kernel) (by decide +kernel))) (va_Nw.use rfl (X.2.2.1.2.2.2.2.2.1 _ (List.mem_filter.mpr ⟨List.mem_of_getElem? (i := 680) (by decide +kernel), rfl⟩))) hcell hv hcl ?_
      refine lv_astore_n (lv' := [(2, .ref q9), (0, .ref (ga G 18 0)), (1, .int a1)]) hx hb dL_tryDown_6 rfl hl (by decide) rfl (fun ls hl => ?_)
      refine lv_ldc (v := -9999001) hx hb X.1.2.2.2.1 (X.hts (gt_in 698 (by decide +kernel) (by decide +kernel))) dL_tryDown_7 ?_
      exact h_iret X hret M (rt2 h).1 (rt2 h).2 dL_tryDown_9
  · have h := it_t h hE
    exact h_iret X hret M (rt2 h).1 (rt2 h).2 dL_tryDown_5
def fL_tryUp (V : uV) (a1 : Int32) : Option (Int32 × uV) :=
  bd3 (gh3 (fX11_up V a1) (fX12_up (V 19) a1)) fun E r V1 => if E = 0 then some (r, V1) else if E = 3 then some (-9999001, V1) else if E = 2 then some (-9999003, V1) else none
set_option maxHeartbeats 4000000 in
set_option maxRecDepth 20000 in
theorem kL_tryUp {l : Launch} {G : UG} (hG : uAll G) (hN : uNo G) (hlt : l.stackTraces = false) {V V' : uV} {a1 : Int32} {r : Int32} (h : fL_tryUp V a1 = some (r, V')) : uHi l G yL_tryUp cL_tryUp 3 [(0, 5, 6, 38), (0, 5, 10, 24)] 8 166 [.ref (ga G 18 0), .int a1] V r V' := by
  refine uHi_of rfl (Nat.le_of_ble_eq_true rfl) (fun p e s m args below meth c ls X hret htb hl M => ?_)
  have hl : lv_has ls 3 [(0, .ref (ga G 18 0)), (1, .int a1)] := hl
  have hx := X.hx
  have hb := X.hb
  unfold fL_tryUp at h
  obtain ⟨E, r0, V1, e1, h⟩ := bd3_e h
  refine lv_aload_n hx hb dL_tryUp_0 rfl (lv_at hl 0 rfl) ?_
  refine lv_iload_n hx hb dL_tryUp_1 rfl (lv_at hl 1 rfl) ?_
  obtain ⟨V9, S9, e1, e9⟩ := gh3_e e1
  refine x_cVx X M hl.1 (uXi_gh hN (kX11_up hG hlt e1) e9) cw_L_72 ⟨Nat.le_of_ble_eq_true rfl, Nat.le_of_ble_eq_true rfl⟩ (rc_X11 X M hG.2.1) rfl rfl (Nat.le_of_ble_eq_true rfl) ⟨Nat.le_refl _, Nat.le_refl _⟩ dL_tryUp_2 (fun K ce q9 H locs hex M hcell hv hcl => ?_) (fun H locs hE M => ?_)
  · rcases hex with ⟨rfl, rfl⟩ | ⟨rfl, rfl⟩ | ⟨rfl, rfl⟩
    · have h := it_f h (by decide)
      have h := it_f h (by decide)
      have h := it_f h (by decide)
      cases h
    · have h := it_f h (by decide)
      have h := it_f h (by decide)
      have h := it_t h rfl
      refine vx_catch (name := "java/lang/IllegalStateException") X.1.2.2.2.1 [⟨0, 5, 6, 38⟩] ⟨0, 5, 10, 24⟩ [] htb (fun z hz => by obtain rfl := List.mem_singleton.mp hz; exact Or.inr ⟨by decide, _, X.hts (gt_in 669 (by decide +kernel) (by decide +kernel)), X.2.2.1.2.2.2.2.2.2.2.2⟩) (by decide) (by decide) (X.hts (gt_in 304 (by decide +kernel) (by decide +kernel))) (va_Nw.use rfl (X.2.2.1.2.2.2.2.2.1 _ (List.mem_filter.mpr ⟨List.mem_of_getElem? (i := 392) (by decide +kernel), rfl⟩))) hcell hv hcl ?_
      refine lv_astore_n (lv' := [(2, .ref q9), (0, .ref (ga G 18 0)), (1, .int a1)]) hx hb dL_tryUp_10 rfl hl (by decide) rfl (fun ls hl => ?_)
      refine lv_ldc (v := -9999003) hx hb X.1.2.2.2.1 (X.hts (gt_in 412 (by decide +kernel) (by decide +kernel))) dL_tryUp_11 ?_
      exact h_iret X hret M (rt2 h).1 (rt2 h).2 dL_tryUp_13
    · have h := it_f h (by decide)
      have h := it_t h rfl
      refine vx_catch (name := "java/lang/IndexOutOfBoundsException") X.1.2.2.2.1 [] ⟨0, 5, 6, 38⟩ [⟨0, 5, 10, 24⟩] htb (fun z hz => by cases hz) (by decide) (by decide) (X.hts (gt_in 669 (by decide +kernel) (by decide +kernel))) (va_Nw.use rfl (X.2.2.1.2.2.2.2.2.1 _ (List.mem_filter.mpr ⟨List.mem_of_getElem? (i := 680) (by decide +kernel), rfl⟩))) hcell hv hcl ?_
      refine lv_astore_n (lv' := [(2, .ref q9), (0, .ref (ga G 18 0)), (1, .int a1)]) hx hb dL_tryUp_6 rfl hl (by decide) rfl (fun ls hl => ?_)
      refine lv_ldc (v := -9999001) hx hb X.1.2.2.2.1 (X.hts (gt_in 698 (by decide +kernel) (by decide +kernel))) dL_tryUp_7 ?_
      exact h_iret X hret M (rt2 h).1 (rt2 h).2 dL_tryUp_9
  · have h := it_t h hE
    exact h_iret X hret M (rt2 h).1 (rt2 h).2 dL_tryUp_5
def fL_tryOpen (V : uV) (a1 : Int32) : Option (Int32 × uV) :=
  bd3 (gh3 (fX11_open V a1) (fX12_open (V 19) a1)) fun E r V1 => if E = 0 then some (r, V1) else if E = 3 then some (-9999001, V1) else none
set_option maxHeartbeats 4000000 in
set_option maxRecDepth 20000 in
theorem kL_tryOpen {l : Launch} {G : UG} (hG : uAll G) (hN : uNo G) (hlt : l.stackTraces = false) {V V' : uV} {a1 : Int32} {r : Int32} (h : fL_tryOpen V a1 = some (r, V')) : uHi l G yL_tryOpen cL_tryOpen 3 [(0, 5, 6, 38)] 8 166 [.ref (ga G 18 0), .int a1] V r V' := by
  refine uHi_of rfl (Nat.le_of_ble_eq_true rfl) (fun p e s m args below meth c ls X hret htb hl M => ?_)
  have hl : lv_has ls 3 [(0, .ref (ga G 18 0)), (1, .int a1)] := hl
  have hx := X.hx
  have hb := X.hb
  unfold fL_tryOpen at h
  obtain ⟨E, r0, V1, e1, h⟩ := bd3_e h
  refine lv_aload_n hx hb dL_tryOpen_0 rfl (lv_at hl 0 rfl) ?_
  refine lv_iload_n hx hb dL_tryOpen_1 rfl (lv_at hl 1 rfl) ?_
  obtain ⟨V9, S9, e1, e9⟩ := gh3_e e1
  refine x_cVx X M hl.1 (uXi_gh hN (kX11_open hG hlt e1) e9) cw_L_75 ⟨Nat.le_of_ble_eq_true rfl, Nat.le_of_ble_eq_true rfl⟩ (rc_X11 X M hG.2.1) rfl rfl (Nat.le_of_ble_eq_true rfl) ⟨Nat.le_refl _, Nat.le_refl _⟩ dL_tryOpen_2 (fun K ce q9 H locs hex M hcell hv hcl => ?_) (fun H locs hE M => ?_)
  · rcases hex with ⟨rfl, rfl⟩ | ⟨rfl, rfl⟩ | ⟨rfl, rfl⟩
    · have h := it_f h (by decide)
      have h := it_f h (by decide)
      cases h
    · have h := it_f h (by decide)
      have h := it_f h (by decide)
      cases h
    · have h := it_f h (by decide)
      have h := it_t h rfl
      refine vx_catch (name := "java/lang/IndexOutOfBoundsException") X.1.2.2.2.1 [] ⟨0, 5, 6, 38⟩ [] htb (fun z hz => by cases hz) (by decide) (by decide) (X.hts (gt_in 669 (by decide +kernel) (by decide +kernel))) (va_Nw.use rfl (X.2.2.1.2.2.2.2.2.1 _ (List.mem_filter.mpr ⟨List.mem_of_getElem? (i := 680) (by decide +kernel), rfl⟩))) hcell hv hcl ?_
      refine lv_astore_n (lv' := [(2, .ref q9), (0, .ref (ga G 18 0)), (1, .int a1)]) hx hb dL_tryOpen_6 rfl hl (by decide) rfl (fun ls hl => ?_)
      refine lv_ldc (v := -9999001) hx hb X.1.2.2.2.1 (X.hts (gt_in 698 (by decide +kernel) (by decide +kernel))) dL_tryOpen_7 ?_
      exact h_iret X hret M (rt2 h).1 (rt2 h).2 dL_tryOpen_9
  · have h := it_t h hE
    exact h_iret X hret M (rt2 h).1 (rt2 h).2 dL_tryOpen_5
def fL_tryFare (V : uV) (a1 : Int32) (a2 : Int32) : Option (Int32 × uV) :=
  bd3 (gh3 (fX11_fare V a1 a2) (fX12_fare (V 19) a1 a2)) fun E r V1 => if E = 0 then some (r, V1) else if E = 3 then some (-9999001, V1) else if E = 1 then some (-9999002, V1) else none
set_option maxHeartbeats 4000000 in
set_option maxRecDepth 20000 in
theorem kL_tryFare {l : Launch} {G : UG} (hG : uAll G) (hN : uNo G) (hlt : l.stackTraces = false) {V V' : uV} {a1 : Int32} {a2 : Int32} {r : Int32} (h : fL_tryFare V a1 a2 = some (r, V')) : uHi l G yL_tryFare cL_tryFare 4 [(0, 6, 7, 38), (0, 6, 11, 13)] 9 167 [.ref (ga G 18 0), .int a1, .int a2] V r V' := by
  refine uHi_of rfl (Nat.le_of_ble_eq_true rfl) (fun p e s m args below meth c ls X hret htb hl M => ?_)
  have hl : lv_has ls 4 [(0, .ref (ga G 18 0)), (1, .int a1), (2, .int a2)] := hl
  have hx := X.hx
  have hb := X.hb
  unfold fL_tryFare at h
  obtain ⟨E, r0, V1, e1, h⟩ := bd3_e h
  refine lv_aload_n hx hb dL_tryFare_0 rfl (lv_at hl 0 rfl) ?_
  refine lv_iload_n hx hb dL_tryFare_1 rfl (lv_at hl 1 rfl) ?_
  refine lv_iload_n hx hb dL_tryFare_2 rfl (lv_at hl 2 rfl) ?_
  obtain ⟨V9, S9, e1, e9⟩ := gh3_e e1
  refine x_cVx X M hl.1 (uXi_gh hN (kX11_fare hG hlt e1) e9) cw_L_78 ⟨Nat.le_of_ble_eq_true rfl, Nat.le_of_ble_eq_true rfl⟩ (rc_X11 X M hG.2.1) rfl rfl (Nat.le_of_ble_eq_true rfl) ⟨Nat.le_refl _, Nat.le_refl _⟩ dL_tryFare_3 (fun K ce q9 H locs hex M hcell hv hcl => ?_) (fun H locs hE M => ?_)
  · rcases hex with ⟨rfl, rfl⟩ | ⟨rfl, rfl⟩ | ⟨rfl, rfl⟩
    · have h := it_f h (by decide)
      have h := it_f h (by decide)
      have h := it_t h rfl
      refine vx_catch (name := "java/lang/IllegalArgumentException") X.1.2.2.2.1 [⟨0, 6, 7, 38⟩] ⟨0, 6, 11, 13⟩ [] htb (fun z hz => by obtain rfl := List.mem_singleton.mp hz; exact Or.inr ⟨by decide, _, X.hts (gt_in 669 (by decide +kernel) (by decide +kernel)), X.2.2.1.2.2.2.2.2.2.2.1⟩) (by decide) (by decide) (X.hts (gt_in 303 (by decide +kernel) (by decide +kernel))) (va_Nw.use rfl (X.2.2.1.2.2.2.2.2.1 _ (List.mem_filter.mpr ⟨List.mem_of_getElem? (i := 317) (by decide +kernel), rfl⟩))) hcell hv hcl ?_
      refine lv_astore_n (lv' := [(3, .ref q9), (0, .ref (ga G 18 0)), (1, .int a1), (2, .int a2)]) hx hb dL_tryFare_11 rfl hl (by decide) rfl (fun ls hl => ?_)
      refine lv_ldc (v := -9999002) hx hb X.1.2.2.2.1 (X.hts (gt_in 411 (by decide +kernel) (by decide +kernel))) dL_tryFare_12 ?_
      exact h_iret X hret M (rt2 h).1 (rt2 h).2 dL_tryFare_14
    · have h := it_f h (by decide)
      have h := it_f h (by decide)
      have h := it_f h (by decide)
      cases h
    · have h := it_f h (by decide)
      have h := it_t h rfl
      refine vx_catch (name := "java/lang/IndexOutOfBoundsException") X.1.2.2.2.1 [] ⟨0, 6, 7, 38⟩ [⟨0, 6, 11, 13⟩] htb (fun z hz => by cases hz) (by decide) (by decide) (X.hts (gt_in 669 (by decide +kernel) (by decide +kernel))) (va_Nw.use rfl (X.2.2.1.2.2.2.2.2.1 _ (List.mem_filter.mpr ⟨List.mem_of_getElem? (i := 680) (by decide +kernel), rfl⟩))) hcell hv hcl ?_
      refine lv_astore_n (lv' := [(3, .ref q9), (0, .ref (ga G 18 0)), (1, .int a1), (2, .int a2)]) hx hb dL_tryFare_7 rfl hl (by decide) rfl (fun ls hl => ?_)
      refine lv_ldc (v := -9999001) hx hb X.1.2.2.2.1 (X.hts (gt_in 698 (by decide +kernel) (by decide +kernel))) dL_tryFare_8 ?_
      exact h_iret X hret M (rt2 h).1 (rt2 h).2 dL_tryFare_10
  · have h := it_t h hE
    exact h_iret X hret M (rt2 h).1 (rt2 h).2 dL_tryFare_6
def fL_tryRun (V : uV) (a1 : Int32) : Option (Int32 × uV) :=
  bd3 (gh3 (fX11_run V a1) (fX12_run (V 19) a1)) fun E r V1 => if E = 0 then some (r, V1) else if E = 1 then some (-9999002, V1) else none
set_option maxHeartbeats 4000000 in
set_option maxRecDepth 20000 in
theorem kL_tryRun {l : Launch} {G : UG} (hG : uAll G) (hN : uNo G) (hlt : l.stackTraces = false) {V V' : uV} {a1 : Int32} {r : Int32} (h : fL_tryRun V a1 = some (r, V')) : uHi l G yL_tryRun cL_tryRun 3 [(0, 5, 6, 13)] 9 166 [.ref (ga G 18 0), .int a1] V r V' := by
  refine uHi_of rfl (Nat.le_of_ble_eq_true rfl) (fun p e s m args below meth c ls X hret htb hl M => ?_)
  have hl : lv_has ls 3 [(0, .ref (ga G 18 0)), (1, .int a1)] := hl
  have hx := X.hx
  have hb := X.hb
  unfold fL_tryRun at h
  obtain ⟨E, r0, V1, e1, h⟩ := bd3_e h
  refine lv_aload_n hx hb dL_tryRun_0 rfl (lv_at hl 0 rfl) ?_
  refine lv_iload_n hx hb dL_tryRun_1 rfl (lv_at hl 1 rfl) ?_
  obtain ⟨V9, S9, e1, e9⟩ := gh3_e e1
  refine x_cVx X M hl.1 (uXi_gh hN (kX11_run hG hlt e1) e9) cw_L_81 ⟨Nat.le_of_ble_eq_true rfl, Nat.le_of_ble_eq_true rfl⟩ (rc_X11 X M hG.2.1) rfl rfl (Nat.le_of_ble_eq_true rfl) ⟨Nat.le_refl _, Nat.le_refl _⟩ dL_tryRun_2 (fun K ce q9 H locs hex M hcell hv hcl => ?_) (fun H locs hE M => ?_)
  · rcases hex with ⟨rfl, rfl⟩ | ⟨rfl, rfl⟩ | ⟨rfl, rfl⟩
    · have h := it_f h (by decide)
      have h := it_t h rfl
      refine vx_catch (name := "java/lang/IllegalArgumentException") X.1.2.2.2.1 [] ⟨0, 5, 6, 13⟩ [] htb (fun z hz => by cases hz) (by decide) (by decide) (X.hts (gt_in 303 (by decide +kernel) (by decide +kernel))) (va_Nw.use rfl (X.2.2.1.2.2.2.2.2.1 _ (List.mem_filter.mpr ⟨List.mem_of_getElem? (i := 317) (by decide +kernel), rfl⟩))) hcell hv hcl ?_
      refine lv_astore_n (lv' := [(2, .ref q9), (0, .ref (ga G 18 0)), (1, .int a1)]) hx hb dL_tryRun_6 rfl hl (by decide) rfl (fun ls hl => ?_)
      refine lv_ldc (v := -9999002) hx hb X.1.2.2.2.1 (X.hts (gt_in 411 (by decide +kernel) (by decide +kernel))) dL_tryRun_7 ?_
      exact h_iret X hret M (rt2 h).1 (rt2 h).2 dL_tryRun_9
    · have h := it_f h (by decide)
      have h := it_f h (by decide)
      cases h
    · have h := it_f h (by decide)
      have h := it_f h (by decide)
      cases h
  · have h := it_t h hE
    exact h_iret X hret M (rt2 h).1 (rt2 h).2 dL_tryRun_5
def fL_tryLay (V : uV) (a1 : Int32) (a2 : Int32) : Option (Int32 × uV) :=
  bd3 (gh3 (fX11_set V a1 a2) (fX12_set (V 19) a1 a2)) fun E r V1 => if E = 0 then some (r, V1) else if E = 1 then some (-9999002, V1) else none
set_option maxHeartbeats 4000000 in
set_option maxRecDepth 20000 in
theorem kL_tryLay {l : Launch} {G : UG} (hG : uAll G) (hN : uNo G) (hlt : l.stackTraces = false) {V V' : uV} {a1 : Int32} {a2 : Int32} {r : Int32} (h : fL_tryLay V a1 a2 = some (r, V')) : uHi l G yL_tryLay cL_tryLay 4 [(0, 6, 7, 13)] 9 167 [.ref (ga G 18 0), .int a1, .int a2] V r V' := by
  refine uHi_of rfl (Nat.le_of_ble_eq_true rfl) (fun p e s m args below meth c ls X hret htb hl M => ?_)
  have hl : lv_has ls 4 [(0, .ref (ga G 18 0)), (1, .int a1), (2, .int a2)] := hl
  have hx := X.hx
  have hb := X.hb
  unfold fL_tryLay at h
  obtain ⟨E, r0, V1, e1, h⟩ := bd3_e h
  refine lv_aload_n hx hb dL_tryLay_0 rfl (lv_at hl 0 rfl) ?_
  refine lv_iload_n hx hb dL_tryLay_1 rfl (lv_at hl 1 rfl) ?_
  refine lv_iload_n hx hb dL_tryLay_2 rfl (lv_at hl 2 rfl) ?_
  obtain ⟨V9, S9, e1, e9⟩ := gh3_e e1
  refine x_cVx X M hl.1 (uXi_gh hN (kX11_set hG hlt e1) e9) cw_L_84 ⟨Nat.le_of_ble_eq_true rfl, Nat.le_of_ble_eq_true rfl⟩ (rc_X11 X M hG.2.1) rfl rfl (Nat.le_of_ble_eq_true rfl) ⟨Nat.le_refl _, Nat.le_refl _⟩ dL_tryLay_3 (fun K ce q9 H locs hex M hcell hv hcl => ?_) (fun H locs hE M => ?_)
  · rcases hex with ⟨rfl, rfl⟩ | ⟨rfl, rfl⟩ | ⟨rfl, rfl⟩
    · have h := it_f h (by decide)
      have h := it_t h rfl
      refine vx_catch (name := "java/lang/IllegalArgumentException") X.1.2.2.2.1 [] ⟨0, 6, 7, 13⟩ [] htb (fun z hz => by cases hz) (by decide) (by decide) (X.hts (gt_in 303 (by decide +kernel) (by decide +kernel))) (va_Nw.use rfl (X.2.2.1.2.2.2.2.2.1 _ (List.mem_filter.mpr ⟨List.mem_of_getElem? (i := 317) (by decide +kernel), rfl⟩))) hcell hv hcl ?_
      refine lv_astore_n (lv' := [(3, .ref q9), (0, .ref (ga G 18 0)), (1, .int a1), (2, .int a2)]) hx hb dL_tryLay_7 rfl hl (by decide) rfl (fun ls hl => ?_)
      refine lv_ldc (v := -9999002) hx hb X.1.2.2.2.1 (X.hts (gt_in 411 (by decide +kernel) (by decide +kernel))) dL_tryLay_8 ?_
      exact h_iret X hret M (rt2 h).1 (rt2 h).2 dL_tryLay_10
    · have h := it_f h (by decide)
      have h := it_f h (by decide)
      cases h
    · have h := it_f h (by decide)
      have h := it_f h (by decide)
      cases h
  · have h := it_t h hE
    exact h_iret X hret M (rt2 h).1 (rt2 h).2 dL_tryLay_6
def fL_tryUndo (V : uV) : Option (Int32 × uV) :=
  bd3 (gh3 (fX11_undo V ) (fX12_undo (V 19) )) fun E r V1 => if E = 0 then some (r, V1) else if E = 2 then some (-9999003, V1) else none
set_option maxHeartbeats 4000000 in
set_option maxRecDepth 20000 in
theorem kL_tryUndo {l : Launch} {G : UG} (hG : uAll G) (hN : uNo G) (hlt : l.stackTraces = false) {V V' : uV} {r : Int32} (h : fL_tryUndo V  = some (r, V')) : uHi l G yL_tryUndo cL_tryUndo 2 [(0, 4, 5, 24)] 8 145 [.ref (ga G 18 0)] V r V' := by
  refine uHi_of rfl (Nat.le_of_ble_eq_true rfl) (fun p e s m args below meth c ls X hret htb hl M => ?_)
  have hl : lv_has ls 2 [(0, .ref (ga G 18 0))] := hl
  have hx := X.hx
  have hb := X.hb
  unfold fL_tryUndo at h
  obtain ⟨E, r0, V1, e1, h⟩ := bd3_e h
  refine lv_aload_n hx hb dL_tryUndo_0 rfl (lv_at hl 0 rfl) ?_
  obtain ⟨V9, S9, e1, e9⟩ := gh3_e e1
  refine x_cVx X M hl.1 (uXi_gh hN (kX11_undo hG hlt e1) e9) cw_L_87 ⟨Nat.le_of_ble_eq_true rfl, Nat.le_of_ble_eq_true rfl⟩ (rc_X11 X M hG.2.1) rfl rfl (Nat.le_of_ble_eq_true rfl) ⟨Nat.le_refl _, Nat.le_refl _⟩ dL_tryUndo_1 (fun K ce q9 H locs hex M hcell hv hcl => ?_) (fun H locs hE M => ?_)
  · rcases hex with ⟨rfl, rfl⟩ | ⟨rfl, rfl⟩ | ⟨rfl, rfl⟩
    · have h := it_f h (by decide)
      have h := it_f h (by decide)
      cases h
    · have h := it_f h (by decide)
      have h := it_t h rfl
      refine vx_catch (name := "java/lang/IllegalStateException") X.1.2.2.2.1 [] ⟨0, 4, 5, 24⟩ [] htb (fun z hz => by cases hz) (by decide) (by decide) (X.hts (gt_in 304 (by decide +kernel) (by decide +kernel))) (va_Nw.use rfl (X.2.2.1.2.2.2.2.2.1 _ (List.mem_filter.mpr ⟨List.mem_of_getElem? (i := 392) (by decide +kernel), rfl⟩))) hcell hv hcl ?_
      refine lv_astore_n (lv' := [(1, .ref q9), (0, .ref (ga G 18 0))]) hx hb dL_tryUndo_5 rfl hl (by decide) rfl (fun ls hl => ?_)
      refine lv_ldc (v := -9999003) hx hb X.1.2.2.2.1 (X.hts (gt_in 412 (by decide +kernel) (by decide +kernel))) dL_tryUndo_6 ?_
      exact h_iret X hret M (rt2 h).1 (rt2 h).2 dL_tryUndo_8
    · have h := it_f h (by decide)
      have h := it_f h (by decide)
      cases h
  · have h := it_t h hE
    exact h_iret X hret M (rt2 h).1 (rt2 h).2 dL_tryUndo_4
def fL_tryWould (V : uV) (a1 : Int32) (a2 : Int32) : Option (Int32 × uV) :=
  bd3 (gh3 (fX11_would V a1 a2) (fX12_would (V 19) a1 a2)) fun E r V1 => if E = 0 then some (r, V1) else if E = 3 then some (-9999001, V1) else none
set_option maxHeartbeats 4000000 in
set_option maxRecDepth 20000 in
theorem kL_tryWould {l : Launch} {G : UG} (hG : uAll G) (hN : uNo G) (hlt : l.stackTraces = false) {V V' : uV} {a1 : Int32} {a2 : Int32} {r : Int32} (h : fL_tryWould V a1 a2 = some (r, V')) : uHi l G yL_tryWould cL_tryWould 4 [(0, 6, 7, 38)] 8 141 [.ref (ga G 18 0), .int a1, .int a2] V r V' := by
  refine uHi_of rfl (Nat.le_of_ble_eq_true rfl) (fun p e s m args below meth c ls X hret htb hl M => ?_)
  have hl : lv_has ls 4 [(0, .ref (ga G 18 0)), (1, .int a1), (2, .int a2)] := hl
  have hx := X.hx
  have hb := X.hb
  unfold fL_tryWould at h
  obtain ⟨E, r0, V1, e1, h⟩ := bd3_e h
  refine lv_aload_n hx hb dL_tryWould_0 rfl (lv_at hl 0 rfl) ?_
  refine lv_iload_n hx hb dL_tryWould_1 rfl (lv_at hl 1 rfl) ?_
  refine lv_iload_n hx hb dL_tryWould_2 rfl (lv_at hl 2 rfl) ?_
  obtain ⟨V9, S9, e1, e9⟩ := gh3_e e1
  refine x_cVx X M hl.1 (uXi_gh hN (kX11_would hG hlt e1) e9) cw_L_90 ⟨Nat.le_of_ble_eq_true rfl, Nat.le_of_ble_eq_true rfl⟩ (rc_X11 X M hG.2.1) rfl rfl (Nat.le_of_ble_eq_true rfl) ⟨Nat.le_refl _, Nat.le_refl _⟩ dL_tryWould_3 (fun K ce q9 H locs hex M hcell hv hcl => ?_) (fun H locs hE M => ?_)
  · rcases hex with ⟨rfl, rfl⟩ | ⟨rfl, rfl⟩ | ⟨rfl, rfl⟩
    · have h := it_f h (by decide)
      have h := it_f h (by decide)
      cases h
    · have h := it_f h (by decide)
      have h := it_f h (by decide)
      cases h
    · have h := it_f h (by decide)
      have h := it_t h rfl
      refine vx_catch (name := "java/lang/IndexOutOfBoundsException") X.1.2.2.2.1 [] ⟨0, 6, 7, 38⟩ [] htb (fun z hz => by cases hz) (by decide) (by decide) (X.hts (gt_in 669 (by decide +kernel) (by decide +kernel))) (va_Nw.use rfl (X.2.2.1.2.2.2.2.2.1 _ (List.mem_filter.mpr ⟨List.mem_of_getElem? (i := 680) (by decide +kernel), rfl⟩))) hcell hv hcl ?_
      refine lv_astore_n (lv' := [(3, .ref q9), (0, .ref (ga G 18 0)), (1, .int a1), (2, .int a2)]) hx hb dL_tryWould_7 rfl hl (by decide) rfl (fun ls hl => ?_)
      refine lv_ldc (v := -9999001) hx hb X.1.2.2.2.1 (X.hts (gt_in 698 (by decide +kernel) (by decide +kernel))) dL_tryWould_8 ?_
      exact h_iret X hret M (rt2 h).1 (rt2 h).2 dL_tryWould_10
  · have h := it_t h hE
    exact h_iret X hret M (rt2 h).1 (rt2 h).2 dL_tryWould_6
def fL_tryRides (V : uV) (a1 : Int32) (a2 : Int32) : Option (Int32 × uV) :=
  bd3 (gh3 (fX11_rides V a1 a2) (fX12_rides (V 19) a1 a2)) fun E r V1 => if E = 0 then some (r, V1) else if E = 3 then some (-9999001, V1) else none
set_option maxHeartbeats 4000000 in
set_option maxRecDepth 20000 in
theorem kL_tryRides {l : Launch} {G : UG} (hG : uAll G) (hN : uNo G) (hlt : l.stackTraces = false) {V V' : uV} {a1 : Int32} {a2 : Int32} {r : Int32} (h : fL_tryRides V a1 a2 = some (r, V')) : uHi l G yL_tryRides cL_tryRides 4 [(0, 6, 7, 38)] 8 142 [.ref (ga G 18 0), .int a1, .int a2] V r V' := by
  refine uHi_of rfl (Nat.le_of_ble_eq_true rfl) (fun p e s m args below meth c ls X hret htb hl M => ?_)
  have hl : lv_has ls 4 [(0, .ref (ga G 18 0)), (1, .int a1), (2, .int a2)] := hl
  have hx := X.hx
  have hb := X.hb
  unfold fL_tryRides at h
  obtain ⟨E, r0, V1, e1, h⟩ := bd3_e h
  refine lv_aload_n hx hb dL_tryRides_0 rfl (lv_at hl 0 rfl) ?_
  refine lv_iload_n hx hb dL_tryRides_1 rfl (lv_at hl 1 rfl) ?_
  refine lv_iload_n hx hb dL_tryRides_2 rfl (lv_at hl 2 rfl) ?_
  obtain ⟨V9, S9, e1, e9⟩ := gh3_e e1
  refine x_cVx X M hl.1 (uXi_gh hN (kX11_rides hG hlt e1) e9) cw_L_93 ⟨Nat.le_of_ble_eq_true rfl, Nat.le_of_ble_eq_true rfl⟩ (rc_X11 X M hG.2.1) rfl rfl (Nat.le_of_ble_eq_true rfl) ⟨Nat.le_refl _, Nat.le_refl _⟩ dL_tryRides_3 (fun K ce q9 H locs hex M hcell hv hcl => ?_) (fun H locs hE M => ?_)
  · rcases hex with ⟨rfl, rfl⟩ | ⟨rfl, rfl⟩ | ⟨rfl, rfl⟩
    · have h := it_f h (by decide)
      have h := it_f h (by decide)
      cases h
    · have h := it_f h (by decide)
      have h := it_f h (by decide)
      cases h
    · have h := it_f h (by decide)
      have h := it_t h rfl
      refine vx_catch (name := "java/lang/IndexOutOfBoundsException") X.1.2.2.2.1 [] ⟨0, 6, 7, 38⟩ [] htb (fun z hz => by cases hz) (by decide) (by decide) (X.hts (gt_in 669 (by decide +kernel) (by decide +kernel))) (va_Nw.use rfl (X.2.2.1.2.2.2.2.2.1 _ (List.mem_filter.mpr ⟨List.mem_of_getElem? (i := 680) (by decide +kernel), rfl⟩))) hcell hv hcl ?_
      refine lv_astore_n (lv' := [(3, .ref q9), (0, .ref (ga G 18 0)), (1, .int a1), (2, .int a2)]) hx hb dL_tryRides_7 rfl hl (by decide) rfl (fun ls hl => ?_)
      refine lv_ldc (v := -9999001) hx hb X.1.2.2.2.1 (X.hts (gt_in 698 (by decide +kernel) (by decide +kernel))) dL_tryRides_8 ?_
      exact h_iret X hret M (rt2 h).1 (rt2 h).2 dL_tryRides_10
  · have h := it_t h hE
    exact h_iret X hret M (rt2 h).1 (rt2 h).2 dL_tryRides_6
def fL_tryBrings (V : uV) (a1 : Int32) (a2 : Int32) : Option (Int32 × uV) :=
  bd3 (gh3 (fX11_ifUp V a1 a2) (fX12_ifUp (V 19) a1 a2)) fun E r V1 => if E = 0 then some (r, V1) else if E = 3 then some (-9999001, V1) else if E = 1 then some (-9999002, V1) else none
set_option maxHeartbeats 4000000 in
set_option maxRecDepth 20000 in
theorem kL_tryBrings {l : Launch} {G : UG} (hG : uAll G) (hN : uNo G) (hlt : l.stackTraces = false) {V V' : uV} {a1 : Int32} {a2 : Int32} {r : Int32} (h : fL_tryBrings V a1 a2 = some (r, V')) : uHi l G yL_tryBrings cL_tryBrings 4 [(0, 6, 7, 38), (0, 6, 11, 13)] 9 161 [.ref (ga G 18 0), .int a1, .int a2] V r V' := by
  refine uHi_of rfl (Nat.le_of_ble_eq_true rfl) (fun p e s m args below meth c ls X hret htb hl M => ?_)
  have hl : lv_has ls 4 [(0, .ref (ga G 18 0)), (1, .int a1), (2, .int a2)] := hl
  have hx := X.hx
  have hb := X.hb
  unfold fL_tryBrings at h
  obtain ⟨E, r0, V1, e1, h⟩ := bd3_e h
  refine lv_aload_n hx hb dL_tryBrings_0 rfl (lv_at hl 0 rfl) ?_
  refine lv_iload_n hx hb dL_tryBrings_1 rfl (lv_at hl 1 rfl) ?_
  refine lv_iload_n hx hb dL_tryBrings_2 rfl (lv_at hl 2 rfl) ?_
  obtain ⟨V9, S9, e1, e9⟩ := gh3_e e1
  refine x_cVx X M hl.1 (uXi_gh hN (kX11_ifUp hG hlt e1) e9) cw_L_96 ⟨Nat.le_of_ble_eq_true rfl, Nat.le_of_ble_eq_true rfl⟩ (rc_X11 X M hG.2.1) rfl rfl (Nat.le_of_ble_eq_true rfl) ⟨Nat.le_refl _, Nat.le_refl _⟩ dL_tryBrings_3 (fun K ce q9 H locs hex M hcell hv hcl => ?_) (fun H locs hE M => ?_)
  · rcases hex with ⟨rfl, rfl⟩ | ⟨rfl, rfl⟩ | ⟨rfl, rfl⟩
    · have h := it_f h (by decide)
      have h := it_f h (by decide)
      have h := it_t h rfl
      refine vx_catch (name := "java/lang/IllegalArgumentException") X.1.2.2.2.1 [⟨0, 6, 7, 38⟩] ⟨0, 6, 11, 13⟩ [] htb (fun z hz => by obtain rfl := List.mem_singleton.mp hz; exact Or.inr ⟨by decide, _, X.hts (gt_in 669 (by decide +kernel) (by decide +kernel)), X.2.2.1.2.2.2.2.2.2.2.1⟩) (by decide) (by decide) (X.hts (gt_in 303 (by decide +kernel) (by decide +kernel))) (va_Nw.use rfl (X.2.2.1.2.2.2.2.2.1 _ (List.mem_filter.mpr ⟨List.mem_of_getElem? (i := 317) (by decide +kernel), rfl⟩))) hcell hv hcl ?_
      refine lv_astore_n (lv' := [(3, .ref q9), (0, .ref (ga G 18 0)), (1, .int a1), (2, .int a2)]) hx hb dL_tryBrings_11 rfl hl (by decide) rfl (fun ls hl => ?_)
      refine lv_ldc (v := -9999002) hx hb X.1.2.2.2.1 (X.hts (gt_in 411 (by decide +kernel) (by decide +kernel))) dL_tryBrings_12 ?_
      exact h_iret X hret M (rt2 h).1 (rt2 h).2 dL_tryBrings_14
    · have h := it_f h (by decide)
      have h := it_f h (by decide)
      have h := it_f h (by decide)
      cases h
    · have h := it_f h (by decide)
      have h := it_t h rfl
      refine vx_catch (name := "java/lang/IndexOutOfBoundsException") X.1.2.2.2.1 [] ⟨0, 6, 7, 38⟩ [⟨0, 6, 11, 13⟩] htb (fun z hz => by cases hz) (by decide) (by decide) (X.hts (gt_in 669 (by decide +kernel) (by decide +kernel))) (va_Nw.use rfl (X.2.2.1.2.2.2.2.2.1 _ (List.mem_filter.mpr ⟨List.mem_of_getElem? (i := 680) (by decide +kernel), rfl⟩))) hcell hv hcl ?_
      refine lv_astore_n (lv' := [(3, .ref q9), (0, .ref (ga G 18 0)), (1, .int a1), (2, .int a2)]) hx hb dL_tryBrings_7 rfl hl (by decide) rfl (fun ls hl => ?_)
      refine lv_ldc (v := -9999001) hx hb X.1.2.2.2.1 (X.hts (gt_in 698 (by decide +kernel) (by decide +kernel))) dL_tryBrings_8 ?_
      exact h_iret X hret M (rt2 h).1 (rt2 h).2 dL_tryBrings_10
  · have h := it_t h hE
    exact h_iret X hret M (rt2 h).1 (rt2 h).2 dL_tryBrings_6
def fL_tryOwes (V : uV) (a1 : Int32) : Option (Int32 × uV) :=
  bd3 (gh3 (fX11_owes V a1) (fX12_owes (V 19) a1)) fun E r V1 => if E = 0 then some (r, V1) else if E = 3 then some (-9999001, V1) else none
set_option maxHeartbeats 4000000 in
set_option maxRecDepth 20000 in
theorem kL_tryOwes {l : Launch} {G : UG} (hG : uAll G) (hN : uNo G) (hlt : l.stackTraces = false) {V V' : uV} {a1 : Int32} {r : Int32} (h : fL_tryOwes V a1 = some (r, V')) : uHi l G yL_tryOwes cL_tryOwes 3 [(0, 5, 6, 38)] 8 139 [.ref (ga G 18 0), .int a1] V r V' := by
  refine uHi_of rfl (Nat.le_of_ble_eq_true rfl) (fun p e s m args below meth c ls X hret htb hl M => ?_)
  have hl : lv_has ls 3 [(0, .ref (ga G 18 0)), (1, .int a1)] := hl
  have hx := X.hx
  have hb := X.hb
  unfold fL_tryOwes at h
  obtain ⟨E, r0, V1, e1, h⟩ := bd3_e h
  refine lv_aload_n hx hb dL_tryOwes_0 rfl (lv_at hl 0 rfl) ?_
  refine lv_iload_n hx hb dL_tryOwes_1 rfl (lv_at hl 1 rfl) ?_
  obtain ⟨V9, S9, e1, e9⟩ := gh3_e e1
  refine x_cVx X M hl.1 (uXi_gh hN (kX11_owes hG hlt e1) e9) cw_L_99 ⟨Nat.le_of_ble_eq_true rfl, Nat.le_of_ble_eq_true rfl⟩ (rc_X11 X M hG.2.1) rfl rfl (Nat.le_of_ble_eq_true rfl) ⟨Nat.le_refl _, Nat.le_refl _⟩ dL_tryOwes_2 (fun K ce q9 H locs hex M hcell hv hcl => ?_) (fun H locs hE M => ?_)
  · rcases hex with ⟨rfl, rfl⟩ | ⟨rfl, rfl⟩ | ⟨rfl, rfl⟩
    · have h := it_f h (by decide)
      have h := it_f h (by decide)
      cases h
    · have h := it_f h (by decide)
      have h := it_f h (by decide)
      cases h
    · have h := it_f h (by decide)
      have h := it_t h rfl
      refine vx_catch (name := "java/lang/IndexOutOfBoundsException") X.1.2.2.2.1 [] ⟨0, 5, 6, 38⟩ [] htb (fun z hz => by cases hz) (by decide) (by decide) (X.hts (gt_in 669 (by decide +kernel) (by decide +kernel))) (va_Nw.use rfl (X.2.2.1.2.2.2.2.2.1 _ (List.mem_filter.mpr ⟨List.mem_of_getElem? (i := 680) (by decide +kernel), rfl⟩))) hcell hv hcl ?_
      refine lv_astore_n (lv' := [(2, .ref q9), (0, .ref (ga G 18 0)), (1, .int a1)]) hx hb dL_tryOwes_6 rfl hl (by decide) rfl (fun ls hl => ?_)
      refine lv_ldc (v := -9999001) hx hb X.1.2.2.2.1 (X.hts (gt_in 698 (by decide +kernel) (by decide +kernel))) dL_tryOwes_7 ?_
      exact h_iret X hret M (rt2 h).1 (rt2 h).2 dL_tryOwes_9
  · have h := it_t h hE
    exact h_iret X hret M (rt2 h).1 (rt2 h).2 dL_tryOwes_5
def fL_tryKeep (V : uV) (a1 : Int32) : Option (Int32 × uV) :=
  bd3 (gh3 (fX11_save V a1) (fX12_save (V 19) a1)) fun E r V1 => if E = 0 then some (r, V1) else if E = 3 then some (-9999001, V1) else none
set_option maxHeartbeats 4000000 in
set_option maxRecDepth 20000 in
theorem kL_tryKeep {l : Launch} {G : UG} (hG : uAll G) (hN : uNo G) (hlt : l.stackTraces = false) {V V' : uV} {a1 : Int32} {r : Int32} (h : fL_tryKeep V a1 = some (r, V')) : uHi l G yL_tryKeep cL_tryKeep 3 [(0, 5, 6, 38)] 8 146 [.ref (ga G 18 0), .int a1] V r V' := by
  refine uHi_of rfl (Nat.le_of_ble_eq_true rfl) (fun p e s m args below meth c ls X hret htb hl M => ?_)
  have hl : lv_has ls 3 [(0, .ref (ga G 18 0)), (1, .int a1)] := hl
  have hx := X.hx
  have hb := X.hb
  unfold fL_tryKeep at h
  obtain ⟨E, r0, V1, e1, h⟩ := bd3_e h
  refine lv_aload_n hx hb dL_tryKeep_0 rfl (lv_at hl 0 rfl) ?_
  refine lv_iload_n hx hb dL_tryKeep_1 rfl (lv_at hl 1 rfl) ?_
  obtain ⟨V9, S9, e1, e9⟩ := gh3_e e1
  refine x_cVx X M hl.1 (uXi_gh hN (kX11_save hG hlt e1) e9) cw_L_102 ⟨Nat.le_of_ble_eq_true rfl, Nat.le_of_ble_eq_true rfl⟩ (rc_X11 X M hG.2.1) rfl rfl (Nat.le_of_ble_eq_true rfl) ⟨Nat.le_refl _, Nat.le_refl _⟩ dL_tryKeep_2 (fun K ce q9 H locs hex M hcell hv hcl => ?_) (fun H locs hE M => ?_)
  · rcases hex with ⟨rfl, rfl⟩ | ⟨rfl, rfl⟩ | ⟨rfl, rfl⟩
    · have h := it_f h (by decide)
      have h := it_f h (by decide)
      cases h
    · have h := it_f h (by decide)
      have h := it_f h (by decide)
      cases h
    · have h := it_f h (by decide)
      have h := it_t h rfl
      refine vx_catch (name := "java/lang/IndexOutOfBoundsException") X.1.2.2.2.1 [] ⟨0, 5, 6, 38⟩ [] htb (fun z hz => by cases hz) (by decide) (by decide) (X.hts (gt_in 669 (by decide +kernel) (by decide +kernel))) (va_Nw.use rfl (X.2.2.1.2.2.2.2.2.1 _ (List.mem_filter.mpr ⟨List.mem_of_getElem? (i := 680) (by decide +kernel), rfl⟩))) hcell hv hcl ?_
      refine lv_astore_n (lv' := [(2, .ref q9), (0, .ref (ga G 18 0)), (1, .int a1)]) hx hb dL_tryKeep_6 rfl hl (by decide) rfl (fun ls hl => ?_)
      refine lv_ldc (v := -9999001) hx hb X.1.2.2.2.1 (X.hts (gt_in 698 (by decide +kernel) (by decide +kernel))) dL_tryKeep_7 ?_
      exact h_iret X hret M (rt2 h).1 (rt2 h).2 dL_tryKeep_9
  · have h := it_t h hE
    exact h_iret X hret M (rt2 h).1 (rt2 h).2 dL_tryKeep_5
def fL_tryBack (V : uV) (a1 : Int32) : Option (Int32 × uV) :=
  bd3 (gh3 (fX11_restore V a1) (fX12_restore (V 19) a1)) fun E r V1 => if E = 0 then some (r, V1) else if E = 3 then some (-9999001, V1) else if E = 2 then some (-9999003, V1) else none
set_option maxHeartbeats 4000000 in
set_option maxRecDepth 20000 in
theorem kL_tryBack {l : Launch} {G : UG} (hG : uAll G) (hN : uNo G) (hlt : l.stackTraces = false) {V V' : uV} {a1 : Int32} {r : Int32} (h : fL_tryBack V a1 = some (r, V')) : uHi l G yL_tryBack cL_tryBack 3 [(0, 5, 6, 38), (0, 5, 10, 24)] 8 146 [.ref (ga G 18 0), .int a1] V r V' := by
  refine uHi_of rfl (Nat.le_of_ble_eq_true rfl) (fun p e s m args below meth c ls X hret htb hl M => ?_)
  have hl : lv_has ls 3 [(0, .ref (ga G 18 0)), (1, .int a1)] := hl
  have hx := X.hx
  have hb := X.hb
  unfold fL_tryBack at h
  obtain ⟨E, r0, V1, e1, h⟩ := bd3_e h
  refine lv_aload_n hx hb dL_tryBack_0 rfl (lv_at hl 0 rfl) ?_
  refine lv_iload_n hx hb dL_tryBack_1 rfl (lv_at hl 1 rfl) ?_
  obtain ⟨V9, S9, e1, e9⟩ := gh3_e e1
  refine x_cVx X M hl.1 (uXi_gh hN (kX11_restore hG hlt e1) e9) cw_L_105 ⟨Nat.le_of_ble_eq_true rfl, Nat.le_of_ble_eq_true rfl⟩ (rc_X11 X M hG.2.1) rfl rfl (Nat.le_of_ble_eq_true rfl) ⟨Nat.le_refl _, Nat.le_refl _⟩ dL_tryBack_2 (fun K ce q9 H locs hex M hcell hv hcl => ?_) (fun H locs hE M => ?_)
  · rcases hex with ⟨rfl, rfl⟩ | ⟨rfl, rfl⟩ | ⟨rfl, rfl⟩
    · have h := it_f h (by decide)
      have h := it_f h (by decide)
      have h := it_f h (by decide)
      cases h
    · have h := it_f h (by decide)
      have h := it_f h (by decide)
      have h := it_t h rfl
      refine vx_catch (name := "java/lang/IllegalStateException") X.1.2.2.2.1 [⟨0, 5, 6, 38⟩] ⟨0, 5, 10, 24⟩ [] htb (fun z hz => by obtain rfl := List.mem_singleton.mp hz; exact Or.inr ⟨by decide, _, X.hts (gt_in 669 (by decide +kernel) (by decide +kernel)), X.2.2.1.2.2.2.2.2.2.2.2⟩) (by decide) (by decide) (X.hts (gt_in 304 (by decide +kernel) (by decide +kernel))) (va_Nw.use rfl (X.2.2.1.2.2.2.2.2.1 _ (List.mem_filter.mpr ⟨List.mem_of_getElem? (i := 392) (by decide +kernel), rfl⟩))) hcell hv hcl ?_
      refine lv_astore_n (lv' := [(2, .ref q9), (0, .ref (ga G 18 0)), (1, .int a1)]) hx hb dL_tryBack_10 rfl hl (by decide) rfl (fun ls hl => ?_)
      refine lv_ldc (v := -9999003) hx hb X.1.2.2.2.1 (X.hts (gt_in 412 (by decide +kernel) (by decide +kernel))) dL_tryBack_11 ?_
      exact h_iret X hret M (rt2 h).1 (rt2 h).2 dL_tryBack_13
    · have h := it_f h (by decide)
      have h := it_t h rfl
      refine vx_catch (name := "java/lang/IndexOutOfBoundsException") X.1.2.2.2.1 [] ⟨0, 5, 6, 38⟩ [⟨0, 5, 10, 24⟩] htb (fun z hz => by cases hz) (by decide) (by decide) (X.hts (gt_in 669 (by decide +kernel) (by decide +kernel))) (va_Nw.use rfl (X.2.2.1.2.2.2.2.2.1 _ (List.mem_filter.mpr ⟨List.mem_of_getElem? (i := 680) (by decide +kernel), rfl⟩))) hcell hv hcl ?_
      refine lv_astore_n (lv' := [(2, .ref q9), (0, .ref (ga G 18 0)), (1, .int a1)]) hx hb dL_tryBack_6 rfl hl (by decide) rfl (fun ls hl => ?_)
      refine lv_ldc (v := -9999001) hx hb X.1.2.2.2.1 (X.hts (gt_in 698 (by decide +kernel) (by decide +kernel))) dL_tryBack_7 ?_
      exact h_iret X hret M (rt2 h).1 (rt2 h).2 dL_tryBack_9
  · have h := it_t h hE
    exact h_iret X hret M (rt2 h).1 (rt2 h).2 dL_tryBack_5
