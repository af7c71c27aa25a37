
def th_ {α : Type} (b : Bool) (x y : α) : α := if b then y else x
theorem th_t {α : Type} {b : Bool} {x y r : α} (h : th_ b x y = r) (hb : b = true) : y = r := by subst hb; exact h
theorem th_f {α : Type} {b : Bool} {x y r : α} (h : th_ b x y = r) (hb : b = false) : x = r := by subst hb; exact h
theorem rt3 {α β γ : Type} {a d : α} {b e : β} {c f : γ} (h : some (a, b, c) = some (d, e, f)) : a = d ∧ b = e ∧ c = f := by cases h; exact ⟨rfl, rfl, rfl⟩
theorem lt18 {i : Int32} (h : inb i 14 = true) : i.toNatClampNeg + 2 < 18 := by
  simp only [inb, Bool.and_eq_true, decide_eq_true_eq] at h
  have : i.toNatClampNeg = i.toInt.toNat := rfl
  omega
/-! methods that may throw: E = 0 no, 1 IllegalArgument, 2 IllegalState, 3 IndexOutOfBounds -/
def exOf (E : Int32) (C : String) : Prop := (E = 1 ∧ C = "java/lang/IllegalArgumentException") ∨ (E = 2 ∧ C = "java/lang/IllegalStateException") ∨ (E = 3 ∧ C = "java/lang/IndexOutOfBoundsException")
abbrev uRx (fr lo : Nat) : Room := { frames := fr, cells := 1, slots := 6, locals := lo }
abbrev xQi (g : UG) (E : Int32) (ty : FieldType) (r : Int32) (V' : uV) : Array Value → State → Outcome → State → Prop := va_Qi (fun (r' : Int32) (_ : Unit) => E = 0 ∧ r' = r ∧ narrow ty (.int r') = .int r') (fun _ t => UH g V' t.heap) (uA g)
abbrev xQv (g : UG) (E : Int32) (V' : uV) : Array Value → State → Outcome → State → Prop := va_Qv (fun (_ : Unit) => E = 0) (fun _ t => UH g V' t.heap) (uA g)
abbrev xX (g : UG) (E : Int32) (V' : uV) : String → State → State → Prop := vx_X (fun (_ : Unit) => True) (fun C _ t => exOf E C ∧ UH g V' t.heap) (uA g)
def uXi (l : Launch) (g : UG) (y : MethodName) (bytes : ByteArray) (ml : Nat) (ty : FieldType) (rm : Room) (As : List Value) (V : uV) (E r : Int32) (V' : uV) : Prop :=
  vx_Met l y (.code y bytes ml (some ty) :: gtbl) rm (va_Pc As (uPre g V)) (xQi g E ty r V') (xX g E V') 1 6 (uA g)
def uXv (l : Launch) (g : UG) (y : MethodName) (bytes : ByteArray) (ml : Nat) (rm : Room) (As : List Value) (V : uV) (E : Int32) (V' : uV) : Prop :=
  vx_Met l y (.code y bytes ml none :: gtbl) rm (va_Pc As (uPre g V)) (xQv g E V') (xX g E V') 1 6 (uA g)
theorem uXi_of {l : Launch} {g : UG} {y : MethodName} {bytes : ByteArray} {ml : Nat} {ty : FieldType} {fr lo : Nat} {As : List Value} {V : uV} {E r : Int32} {V' : uV} (hy : plainName y.cls = true) (hlen : (lg_sl As).length ≤ ml)
    (body : ∀ (p : Program) (e : Env) (s : State) (m : MethodId) (args : Array Value) (below : List Frame) (meth : Method) (c : Code) (ls : Array Slot), UC p s m args meth c bytes ml y.cls g → meth.sig.returnType = some ty → (∀ x ∈ c.exceptionTable.toList, False) → lv_has ls ml (lv_args 0 As) → UM g V s s.heap [] →
      W p l e (uRx fr lo) s m args below meth c s.heap [] 0 0 (vx_MQ below (xQi g E ty r V') (xX g E V') args s 1 6 (uA g)) (F0 m 0 ls [])) : uXi l g y bytes ml ty (uRx fr lo) As V E r V' := by
  refine vx_ofW (cc := bytes) (maxL := ml) (ret := some ty) hy rfl ?_
  intro p e s m args below meth c s₁ B hml ht hv
  obtain ⟨rfl, hU, hK, hX⟩ := hv
  have hts := atoms_spec (ws := .code y bytes ml (some ty) :: gtbl) B.pre
  have hl := lv_entry As (n := ml) hlen
  rw [lg_entry_eq]
  exact body p e s m As.toArray below meth c _ ⟨⟨B.exec, B.bytes, hml, findClass_of_methodNamed B.named, fun w h => hts w (List.mem_cons_of_mem _ h)⟩, hK, hX, B.notSynchronized⟩ B.returns ht hl ⟨hU, va_S.rf⟩
theorem uXv_of {l : Launch} {g : UG} {y : MethodName} {bytes : ByteArray} {ml : Nat} {fr lo : Nat} {As : List Value} {V : uV} {E : Int32} {V' : uV} (hy : plainName y.cls = true) (hlen : (lg_sl As).length ≤ ml)
    (body : ∀ (p : Program) (e : Env) (s : State) (m : MethodId) (args : Array Value) (below : List Frame) (meth : Method) (c : Code) (ls : Array Slot), UC p s m args meth c bytes ml y.cls g → meth.sig.returnType = none → (∀ x ∈ c.exceptionTable.toList, False) → lv_has ls ml (lv_args 0 As) → UM g V s s.heap [] →
      W p l e (uRx fr lo) s m args below meth c s.heap [] 0 0 (vx_MQ below (xQv g E V') (xX g E V') args s 1 6 (uA g)) (F0 m 0 ls [])) : uXv l g y bytes ml (uRx fr lo) As V E V' := by
  refine vx_ofW (cc := bytes) (maxL := ml) (ret := none) hy rfl ?_
  intro p e s m args below meth c s₁ B hml ht hv
  obtain ⟨rfl, hU, hK, hX⟩ := hv
  have hts := atoms_spec (ws := .code y bytes ml none :: gtbl) B.pre
  have hl := lv_entry As (n := ml) hlen
  rw [lg_entry_eq]
  exact body p e s m As.toArray below meth c _ ⟨⟨B.exec, B.bytes, hml, findClass_of_methodNamed B.named, fun w h => hts w (List.mem_cons_of_mem _ h)⟩, hK, hX, B.notSynchronized⟩ B.returns ht hl ⟨hU, va_S.rf⟩
theorem uMv_same {l : Launch} {g : UG} {y : MethodName} {bytes : ByteArray} {ml : Nat} {rm : Room} {As : List Value} {V V1 V2 : uV} (h : uMv l g y bytes ml rm As V V1) (hs : ∀ H, UH g V1 H → UH g V2 H) : uMv l g y bytes ml rm As V V2 := by
  intro p e ha hf hc s m args below hfr hap hP hK
  obtain ⟨n, o, h1, h2, h3, ⟨⟨⟨u, q1, q2, q3⟩, q4⟩, q5⟩⟩ := h p e ha hf hc s m args below hfr hap hP hK
  exact ⟨n, o, h1, h2, h3, ⟨⟨⟨u, q1, q2, hs _ q3⟩, q4⟩, q5⟩⟩
section XROWS
variable {p : Program} {l : Launch} {e : Env} {R : Room} {s : State} {m : MethodId} {args : Array Value} {below : List Frame} {meth : Method} {c : Code} {H : Heap} {locs : List Loc} {cells slots : Nat} {Q : State → Prop}
variable {cc : ByteArray} {pc nL : Nat} {ls : Array Slot} {rest : List Value} {own : String} {g G : UG} {V V' : uV} {t t2 o n : Nat} {S S1 U : Nat → Nat → Int32}
theorem x_iret {ty : FieldType} {E r : Int32} (X : UC p s m args meth c cc nL own g) (hret : meth.sig.returnType = some ty) (M : UM g V s H locs) {v : Int32} (hE : 0 = E) (hr : v = r) (hV : V = V') (hn : narrow ty (.int v) = .int v) (hdg : decode cc pc = .ok (.ireturn, 1)) :
    W p l e R s m args below meth c H locs 0 0 (vx_MQ below (xQi g E ty r V') (xX g E V') args s 1 6 (uA g)) (F0 m pc ls [.int v]) := by
  subst hV
  refine vx_ret (W.widen (k := 1) (n := 6) (by omega) (by omega) ?_)
  exact W.zret X.hx X.hb hret hn (fun t ht hW => ⟨⟨v, (), rfl, ⟨hE.symm, hr, hn⟩, by show UH g V t.heap; rw [ht]; exact M.1⟩, M.2.F ht⟩) M.2.2.2 hdg X.2.2.2
theorem x_outS {Qc : Array Value → State → Outcome → State → Prop} {y : MethodName} {bytes : ByteArray} {ml index fr lo fr' lo' : Nat} {As st0 : List Value} {E0 E : Int32} (X : UC p s m args meth c cc nL own g) (M : UM g V s H locs) (htb : ∀ x ∈ c.exceptionTable.toList, False) (hl : ls.size = nL) (h0 : E0 ≠ 0) (hM : uXv l g y bytes ml (uRx fr lo) As V E0 V) (hC : uCS own index y bytes ml none n) (hR : fr + 1 ≤ fr' ∧ 8 + (ml + 11) + lo ≤ lo') (hn : As.length = n) (hst : st0 = As.reverse ++ rest) (hw : (rest.map fun v => v.category).sum ≤ 8) (hdg : decode cc pc = .ok (.invokestatic index, 3)) (hE : E0 = E) (hV : V = V') :
    W p l e (uRx fr' lo') s m args below meth c H locs 0 0 (vx_MQ below Qc (xX g E V') args s 1 6 (uA g)) (F0 m pc ls st0) := by
  subst hV
  subst hE
  obtain ⟨g1, g2, g4, g5, g7⟩ := hC
  have hcs : CallB (uRx fr' lo') s args own index y bytes ml none (.code y bytes ml none :: gtbl) (uRx fr lo) 1 6 n ∧ (Cond.static y).before args s = true := ⟨callB_of (ws' := gtbl) n (Ts := gtbl) (fun w h => X.hts h) (gt_cons g5 gt_good (fun _ h => h)) rfl rfl rfl (X.hts g4) (X.hts g1) g7 hR, X.hts g2⟩
  refine vx_callv (vx_runS (As := As) (rest := rest) X.1 hM hcs ⟨u_blind, fun U hU hW => ⟨rfl, u_pre X M hU hW⟩⟩ rfl hn hl hst (lv_room hw) hdg ⟨Nat.le_refl _, Nat.le_refl _⟩) M.2 (fun q _ h => h) (fun q h => h) (fun q _ h => h) ?_ ?_
  · intro C ce q9 u t H1 locs1 ht hvm hpx hBX hz hk hS hcell hv hcl
    refine vx_out (fun x hx => (htb x hx).elim) X.2.2.2 hcell hv hcl (fun t' ht' hvm' => ⟨(), trivial, ⟨hBX.1, ?_⟩, hS.F ht'⟩) hS.2.2 (by omega) (by omega)
    rw [ht', ← ht]
    exact hBX.2
  · intro u t H1 locs1 ht hvm hw hB hz hk hS
    exact absurd hw h0
theorem atS_ok (X : UC p s m args meth c cc nL own g) {L : List Cond} (h : L.all (fun w => decide (w ∈ lw_tbl) && (goodWord w || isDC w)) = true) : ∀ w ∈ L, w.before args s = true := by
  intro w hw
  have h1 := List.all_eq_true.mp h w hw
  simp only [Bool.and_eq_true, Bool.or_eq_true, decide_eq_true_eq] at h1
  rcases h1.2 with h2 | h2
  · exact X.hts (List.mem_filter.mpr ⟨h1.1, h2⟩)
  · exact va_Nw.use (isDC_on h2) (X.2.2.1.2.2.2.2.2.1 w (List.mem_filter.mpr ⟨h1.1, h2⟩))
theorem kX6_copyFromS (hR : uRow G t o n) (hR2 : uRow G t2 o n) (hne : t2 ≠ t) (hU : V t2 = U) (h : S1 = va_up S (o + 1) (U (o + 1))) : uMv l G yX6_copyFrom cX6_copyFrom 2 (uR 1 40) [.ref (ga G t o), .ref (ga G t2 o)] (va_up V t S) (va_up V t S1) := by
  have k := kX6_copyFrom (l := l) (V := va_up V t S) hR hR2
  rw [uS_b, va_up_n hne, hU, ← h] at k
  exact k
end XROWS
def nmX : List String := ["java/lang/RuntimeException", "java/lang/Exception"]

theorem dX11_needArgument_0 : decode cX11_needArgument 0 = .ok (.iload_n 0, 1) := by decide +kernel
theorem dX11_needArgument_1 : decode cX11_needArgument 1 = .ok (.ifCond .ne 14, 3) := by decide +kernel
theorem dX11_needArgument_4 : decode cX11_needArgument 4 = .ok (.new 277, 3) := by decide +kernel
theorem dX11_needArgument_7 : decode cX11_needArgument 7 = .ok (.dup, 1) := by decide +kernel
theorem dX11_needArgument_8 : decode cX11_needArgument 8 = .ok (.ldc_w 279, 3) := by decide +kernel
theorem dX11_needArgument_11 : decode cX11_needArgument 11 = .ok (.invokespecial 281, 3) := by decide +kernel
theorem dX11_needArgument_14 : decode cX11_needArgument 14 = .ok (.athrow, 1) := by decide +kernel
theorem dX11_needArgument_15 : decode cX11_needArgument 15 = .ok (.return_, 1) := by decide +kernel
theorem dX11_needThere_0 : decode cX11_needThere 0 = .ok (.iload_n 0, 1) := by decide +kernel
theorem dX11_needThere_1 : decode cX11_needThere 1 = .ok (.ifCond .ne 14, 3) := by decide +kernel
theorem dX11_needThere_4 : decode cX11_needThere 4 = .ok (.new 284, 3) := by decide +kernel
theorem dX11_needThere_7 : decode cX11_needThere 7 = .ok (.dup, 1) := by decide +kernel
theorem dX11_needThere_8 : decode cX11_needThere 8 = .ok (.ldc_w 286, 3) := by decide +kernel
theorem dX11_needThere_11 : decode cX11_needThere 11 = .ok (.invokespecial 288, 3) := by decide +kernel
theorem dX11_needThere_14 : decode cX11_needThere 14 = .ok (.athrow, 1) := by decide +kernel
theorem dX11_needThere_15 : decode cX11_needThere 15 = .ok (.return_, 1) := by decide +kernel
theorem dX11_needState_0 : decode cX11_needState 0 = .ok (.iload_n 0, 1) := by decide +kernel
theorem dX11_needState_1 : decode cX11_needState 1 = .ok (.ifCond .ne 14, 3) := by decide +kernel
theorem dX11_needState_4 : decode cX11_needState 4 = .ok (.new 289, 3) := by decide +kernel
theorem dX11_needState_7 : decode cX11_needState 7 = .ok (.dup, 1) := by decide +kernel
theorem dX11_needState_8 : decode cX11_needState 8 = .ok (.ldc_w 291, 3) := by decide +kernel
theorem dX11_needState_11 : decode cX11_needState 11 = .ok (.invokespecial 293, 3) := by decide +kernel
theorem dX11_needState_14 : decode cX11_needState 14 = .ok (.athrow, 1) := by decide +kernel
theorem dX11_needState_15 : decode cX11_needState 15 = .ok (.return_, 1) := by decide +kernel
theorem dX11_needRange_0 : decode cX11_needRange 0 = .ok (.iload_n 0, 1) := by decide +kernel
theorem dX11_needRange_1 : decode cX11_needRange 1 = .ok (.iload_n 1, 1) := by decide +kernel
theorem dX11_needRange_2 : decode cX11_needRange 2 = .ok (.if_icmp .lt 12, 3) := by decide +kernel
theorem dX11_needRange_5 : decode cX11_needRange 5 = .ok (.iload_n 0, 1) := by decide +kernel
theorem dX11_needRange_6 : decode cX11_needRange 6 = .ok (.iload_n 2, 1) := by decide +kernel
theorem dX11_needRange_7 : decode cX11_needRange 7 = .ok (.if_icmp .gt 7, 3) := by decide +kernel
theorem dX11_needRange_10 : decode cX11_needRange 10 = .ok (.iconst 1, 1) := by decide +kernel
theorem dX11_needRange_11 : decode cX11_needRange 11 = .ok (.goto 4, 3) := by decide +kernel
theorem dX11_needRange_14 : decode cX11_needRange 14 = .ok (.iconst 0, 1) := by decide +kernel
theorem dX11_needRange_15 : decode cX11_needRange 15 = .ok (.invokestatic 230, 3) := by decide +kernel
theorem dX11_needRange_18 : decode cX11_needRange 18 = .ok (.return_, 1) := by decide +kernel
theorem yf_X11_needArgument : (Cond.static yX11_needArgument) ∈ gtbl ∧ (Cond.initialized yX11_needArgument.cls) ∈ gtbl ∧ (Cond.code yX11_needArgument cX11_needArgument 1 none) ∈ gtbl ∧ (yX11_needArgument.cls ≠ "java/lang/invoke/MethodHandle" ∧ yX11_needArgument.cls ≠ "java/lang/invoke/VarHandle" ∧ (parseMethodDescriptor yX11_needArgument.desc).map (fun d => d.parameters.length) = some 1) := ⟨gt_in 313 (by decide +kernel) (by decide +kernel), gt_in 10 (by decide +kernel) (by decide +kernel), gt_in 314 (by decide +kernel) (by decide +kernel), by decide +kernel⟩
theorem cw_X11_230 : uCS RX11 230 yX11_needArgument cX11_needArgument 1 none 1 := ⟨gt_in 312 (by decide +kernel) (by decide +kernel), yf_X11_needArgument⟩

theorem kX11_needArgument_x {l : Launch} {G : UG} {V : uV} (hlt : l.stackTraces = false) {a1 : Int32} (hc : ¬ ¬ a1 = 0) : uXv l G yX11_needArgument cX11_needArgument 1 (uRx 6 82) [.int a1] V 1 V := by
  refine uXv_of rfl (Nat.le_of_ble_eq_true rfl) (fun p e s m args below meth c ls X hret htb hl M => ?_)
  have hl : lv_has ls 1 [(0, .int a1)] := hl
  have hx := X.hx
  have hb := X.hb
  refine lv_iload_n hx hb dX11_needArgument_0 rfl (lv_at hl 0 rfl) ?_
  refine lv_if_ne (tgt := 15) hx hb dX11_needArgument_1 (by decide) (fun c1 => absurd c1 hc) (fun c1 => ?_)
  obtain ⟨h1, h2, ⟨a3, h3⟩, -, -, h6, -⟩ := X.2.2.1
  exact vx_throwSW (own := RX11) (cls := "java/lang/IllegalArgumentException") (text := "out of range") (names := nmX) (ik := 277) (is := 279) (ic := 281) (sa := a3) hx hb hlt X.1.2.2.2.1 (by decide +kernel) (by decide +kernel) (X.hts (gt_in 315 (by decide +kernel) (by decide +kernel))) (X.hts (gt_in 23 (by decide +kernel) (by decide +kernel))) h3 (atS_ok X (by decide +kernel)) (by decide +kernel) h1 h2 M.2 (X.1.2.2.1 ▸ hl.1) dX11_needArgument_4 dX11_needArgument_7 dX11_needArgument_8 dX11_needArgument_11 dX11_needArgument_14 (fun x hx => (htb x hx).elim) (by decide) (by decide) (by decide) (by decide) X.2.2.2
    (fun t hvm hz hk => ⟨(), trivial, ⟨Or.inl ⟨rfl, rfl⟩, ⟨M.1.1.kept (fun k q hq => hk q.1 (M.1.1 k q hq).lt), M.1.2⟩⟩, ⟨Nat.le_trans M.2.1 hz, fun q h8 h9 => (hk q (Nat.lt_of_lt_of_le h8 M.2.1)).trans (M.2.2.1 q h8 h9)⟩⟩) M.2.2.2 (Nat.le_refl _) (Nat.le_refl _)
theorem kX11_needArgument_ok {l : Launch} {G : UG} {V : uV} {a1 : Int32} (hc : ¬ a1 = 0) : uMv l G yX11_needArgument cX11_needArgument 1 (uR 6 82) [.int a1] V V := by
  refine uMv_of rfl (Nat.le_of_ble_eq_true rfl) (fun p e s m args below meth c ls X hret hl M => ?_)
  have hl : lv_has ls 1 [(0, .int a1)] := hl
  have hx := X.hx
  have hb := X.hb
  refine lv_iload_n hx hb dX11_needArgument_0 rfl (lv_at hl 0 rfl) ?_
  refine lv_if_ne (tgt := 15) hx hb dX11_needArgument_1 (by decide) (fun c1 => ?_) (fun c1 => absurd c1 hc)
  exact u_vret X hret M rfl dX11_needArgument_15


theorem kX11_needThere_x {l : Launch} {G : UG} {V : uV} (hlt : l.stackTraces = false) {a1 : Int32} (hc : ¬ ¬ a1 = 0) : uXv l G yX11_needThere cX11_needThere 1 (uRx 6 82) [.int a1] V 3 V := by
  refine uXv_of rfl (Nat.le_of_ble_eq_true rfl) (fun p e s m args below meth c ls X hret htb hl M => ?_)
  have hl : lv_has ls 1 [(0, .int a1)] := hl
  have hx := X.hx
  have hb := X.hb
  refine lv_iload_n hx hb dX11_needThere_0 rfl (lv_at hl 0 rfl) ?_
  refine lv_if_ne (tgt := 15) hx hb dX11_needThere_1 (by decide) (fun c1 => absurd c1 hc) (fun c1 => ?_)
  obtain ⟨h1, h2, -, ⟨a3, h3⟩, -, h6, -⟩ := X.2.2.1
  exact vx_throwSW (own := RX11) (cls := "java/lang/IndexOutOfBoundsException") (text := "does not exist") (names := nmX) (ik := 284) (is := 286) (ic := 288) (sa := a3) hx hb hlt X.1.2.2.2.1 (by decide +kernel) (by decide +kernel) (X.hts (gt_in 678 (by decide +kernel) (by decide +kernel))) (X.hts (gt_in 26 (by decide +kernel) (by decide +kernel))) h3 (atS_ok X (by decide +kernel)) (by decide +kernel) h1 h2 M.2 (X.1.2.2.1 ▸ hl.1) dX11_needThere_4 dX11_needThere_7 dX11_needThere_8 dX11_needThere_11 dX11_needThere_14 (fun x hx => (htb x hx).elim) (by decide) (by decide) (by decide) (by decide) X.2.2.2
    (fun t hvm hz hk => ⟨(), trivial, ⟨Or.inr (Or.inr ⟨rfl, rfl⟩), ⟨M.1.1.kept (fun k q hq => hk q.1 (M.1.1 k q hq).lt), M.1.2⟩⟩, ⟨Nat.le_trans M.2.1 hz, fun q h8 h9 => (hk q (Nat.lt_of_lt_of_le h8 M.2.1)).trans (M.2.2.1 q h8 h9)⟩⟩) M.2.2.2 (Nat.le_refl _) (Nat.le_refl _)
theorem kX11_needThere_ok {l : Launch} {G : UG} {V : uV} {a1 : Int32} (hc : ¬ a1 = 0) : uMv l G yX11_needThere cX11_needThere 1 (uR 6 82) [.int a1] V V := by
  refine uMv_of rfl (Nat.le_of_ble_eq_true rfl) (fun p e s m args below meth c ls X hret hl M => ?_)
  have hl : lv_has ls 1 [(0, .int a1)] := hl
  have hx := X.hx
  have hb := X.hb
  refine lv_iload_n hx hb dX11_needThere_0 rfl (lv_at hl 0 rfl) ?_
  refine lv_if_ne (tgt := 15) hx hb dX11_needThere_1 (by decide) (fun c1 => ?_) (fun c1 => absurd c1 hc)
  exact u_vret X hret M rfl dX11_needThere_15


theorem kX11_needState_x {l : Launch} {G : UG} {V : uV} (hlt : l.stackTraces = false) {a1 : Int32} (hc : ¬ ¬ a1 = 0) : uXv l G yX11_needState cX11_needState 1 (uRx 6 82) [.int a1] V 2 V := by
  refine uXv_of rfl (Nat.le_of_ble_eq_true rfl) (fun p e s m args below meth c ls X hret htb hl M => ?_)
  have hl : lv_has ls 1 [(0, .int a1)] := hl
  have hx := X.hx
  have hb := X.hb
  refine lv_iload_n hx hb dX11_needState_0 rfl (lv_at hl 0 rfl) ?_
  refine lv_if_ne (tgt := 15) hx hb dX11_needState_1 (by decide) (fun c1 => absurd c1 hc) (fun c1 => ?_)
  obtain ⟨h1, h2, -, -, ⟨a3, h3⟩, h6, -⟩ := X.2.2.1
  exact vx_throwSW (own := RX11) (cls := "java/lang/IllegalStateException") (text := "not now") (names := nmX) (ik := 289) (is := 291) (ic := 293) (sa := a3) hx hb hlt X.1.2.2.2.1 (by decide +kernel) (by decide +kernel) (X.hts (gt_in 390 (by decide +kernel) (by decide +kernel))) (X.hts (gt_in 24 (by decide +kernel) (by decide +kernel))) h3 (atS_ok X (by decide +kernel)) (by decide +kernel) h1 h2 M.2 (X.1.2.2.1 ▸ hl.1) dX11_needState_4 dX11_needState_7 dX11_needState_8 dX11_needState_11 dX11_needState_14 (fun x hx => (htb x hx).elim) (by decide) (by decide) (by decide) (by decide) X.2.2.2
    (fun t hvm hz hk => ⟨(), trivial, ⟨Or.inr (Or.inl ⟨rfl, rfl⟩), ⟨M.1.1.kept (fun k q hq => hk q.1 (M.1.1 k q hq).lt), M.1.2⟩⟩, ⟨Nat.le_trans M.2.1 hz, fun q h8 h9 => (hk q (Nat.lt_of_lt_of_le h8 M.2.1)).trans (M.2.2.1 q h8 h9)⟩⟩) M.2.2.2 (Nat.le_refl _) (Nat.le_refl _)
theorem kX11_needState_ok {l : Launch} {G : UG} {V : uV} {a1 : Int32} (hc : ¬ a1 = 0) : uMv l G yX11_needState cX11_needState 1 (uR 6 82) [.int a1] V V := by
  refine uMv_of rfl (Nat.le_of_ble_eq_true rfl) (fun p e s m args below meth c ls X hret hl M => ?_)
  have hl : lv_has ls 1 [(0, .int a1)] := hl
  have hx := X.hx
  have hb := X.hb
  refine lv_iload_n hx hb dX11_needState_0 rfl (lv_at hl 0 rfl) ?_
  refine lv_if_ne (tgt := 15) hx hb dX11_needState_1 (by decide) (fun c1 => ?_) (fun c1 => absurd c1 hc)
  exact u_vret X hret M rfl dX11_needState_15


theorem kX11_needRange_ok {l : Launch} {G : UG} {V : uV} {a1 a2 a3 : Int32} (hc : a2 ≤ a1 ∧ a1 ≤ a3) : uMv l G yX11_needRange cX11_needRange 3 (uR 7 109) [.int a1, .int a2, .int a3] V V := by
  refine uMv_of rfl (Nat.le_of_ble_eq_true rfl) (fun p e s m args below meth c ls X hret hl M => ?_)
  have hl : lv_has ls 3 [(0, .int a1), (1, .int a2), (2, .int a3)] := hl
  have hx := X.hx
  have hb := X.hb
  refine lv_iload_n hx hb dX11_needRange_0 rfl (lv_at hl 0 rfl) ?_
  refine lv_iload_n hx hb dX11_needRange_1 rfl (lv_at hl 1 rfl) ?_
  refine lv_icmp_lt (tgt := 14) hx hb dX11_needRange_2 (by decide) (fun c1 => absurd c1 (Int32.not_lt.mpr hc.1)) (fun c1 => ?_)
  refine lv_iload_n hx hb dX11_needRange_5 rfl (lv_at hl 0 rfl) ?_
  refine lv_iload_n hx hb dX11_needRange_6 rfl (lv_at hl 2 rfl) ?_
  refine lv_icmp_gt (tgt := 14) hx hb dX11_needRange_7 (by decide) (fun c2 => absurd c2 (Int32.not_lt.mpr hc.2)) (fun c2 => ?_)
  refine lv_iconst (v := 1) hx hb dX11_needRange_10 (by decide) ?_
  refine lv_goto (tgt := 15) hx hb dX11_needRange_11 (by decide) ?_
  refine u_cSv X M hl.1 (kX11_needArgument_ok (by decide)) cw_X11_230 ⟨by decide, by decide⟩ rfl rfl (Nat.le_of_ble_eq_true rfl) ⟨Nat.zero_le _, Nat.zero_le _⟩ dX11_needRange_15 (fun H locs M => ?_)
  exact u_vret X hret M rfl dX11_needRange_18
theorem kX11_needRange_x {l : Launch} {G : UG} {V : uV} (hlt : l.stackTraces = false) {a1 a2 a3 : Int32} (hc : ¬ (a2 ≤ a1 ∧ a1 ≤ a3)) : uXv l G yX11_needRange cX11_needRange 3 (uRx 7 109) [.int a1, .int a2, .int a3] V 1 V := by
  refine uXv_of rfl (Nat.le_of_ble_eq_true rfl) (fun p e s m args below meth c ls X hret htb hl M => ?_)
  have hl : lv_has ls 3 [(0, .int a1), (1, .int a2), (2, .int a3)] := hl
  have hx := X.hx
  have hb := X.hb
  refine lv_iload_n hx hb dX11_needRange_0 rfl (lv_at hl 0 rfl) ?_
  refine lv_iload_n hx hb dX11_needRange_1 rfl (lv_at hl 1 rfl) ?_
  refine lv_icmp_lt (tgt := 14) hx hb dX11_needRange_2 (by decide) (fun c1 => ?_) (fun c1 => ?_)
  · refine lv_iconst (v := 0) hx hb dX11_needRange_14 (by decide) ?_
    exact x_outS X M htb hl.1 (by decide) (kX11_needArgument_x hlt (by decide)) cw_X11_230 ⟨by decide, by decide⟩ rfl rfl (Nat.le_of_ble_eq_true rfl) dX11_needRange_15 rfl rfl
  refine lv_iload_n hx hb dX11_needRange_5 rfl (lv_at hl 0 rfl) ?_
  refine lv_iload_n hx hb dX11_needRange_6 rfl (lv_at hl 2 rfl) ?_
  refine lv_icmp_gt (tgt := 14) hx hb dX11_needRange_7 (by decide) (fun c2 => ?_) (fun c2 => ?_)
  · refine lv_iconst (v := 0) hx hb dX11_needRange_14 (by decide) ?_
    exact x_outS X M htb hl.1 (by decide) (kX11_needArgument_x hlt (by decide)) cw_X11_230 ⟨by decide, by decide⟩ rfl rfl (Nat.le_of_ble_eq_true rfl) dX11_needRange_15 rfl rfl
  · exact absurd ⟨Int32.not_lt.mp c1, Int32.not_lt.mp c2⟩ hc
