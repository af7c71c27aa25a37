
/-! constructors: the object is the newest cell; nothing below it changes -/
def gW (G : UG) (B : Nat) (ad : Nat → Nat → Nat) (ks : List (Nat × Nat)) : UG := (gD G, G.2.1, ad, ks, fun q => B ≤ q)
def isNest (w : Cond) : Bool := match w with
  | .methodLinkNest _ _ _ _ => true
  | _ => false
def nstbl : List Cond := lw_tbl.filter isNest
theorem isNest_on {w : Cond} (h : isNest w = true) : w.onTables = true := by cases w <;> first | rfl | cases h
theorem isNest_warm {w : Cond} (h : isNest w = true) {s U : State} (hW : s.WarmedH U.vm) (hz : va_Nw w s) : va_Nw w U := by
  cases w <;> first | exact va_Nw.warmM hW hz | cases h
def nX (G : UG) (B : Nat) (U : State) : Prop := uX (gW G B (fun _ _ => 0) []) U ∧ (∀ w ∈ nstbl, va_Nw w U) ∧ va_AO "OfflineGates$State" U
abbrev nA (B : Nat) : Nat → Prop := fun q => B ≤ q
abbrev nR (fr mc ms lo : Nat) : Room := { frames := fr, cells := mc, slots := ms, locals := lo }
abbrev nQ {S : Type} (G : UG) (h0 : Nat) (w1 : Nat → S → va_W) : Array Value → State → Outcome → State → Prop := va_Qv (fun (_ : S) => True) (fun u t => va_P (gD G) vwCl (w1 h0 u) t.heap ∧ va_D (nA h0) (w1 h0 u)) (nA h0)
def nPre (G : UG) (h0 : Nat) (e0 : va_E) (U : State) : Prop := U.heap.size = h0 + 1 ∧ va_P (gD G) vwCl [(h0, e0)] U.heap ∧ va_K (gD G) vwCl (gT G) U ∧ nX G h0 U
def uN (l : Launch) (G : UG) (y : MethodName) (bytes : ByteArray) (ml fr mc ms lo : Nat) (As : List Value) (e0 : va_E) {S : Type} (w1 : Nat → S → va_W) : Prop :=
  ∀ h0 : Nat, Met l y (.code y bytes ml none :: gtbl) (nR fr mc ms lo) (va_Pc (.ref h0 :: As) (nPre G h0 e0)) (nQ G h0 w1) mc ms (nA h0)
/-- what a constructor's body stands on -/
def NC (p : Program) (s : State) (m : MethodId) (args : Array Value) (meth : Method) (c : Code) (cc : ByteArray) (nL : Nat) (own : String) (G : UG) (B : Nat) : Prop :=
  CallFix p m c cc nL s args gtbl own ∧ va_K (gD G) vwCl (gT G) s ∧ nX G B s ∧ meth.locks = false
def NM (G : UG) (B : Nat) (ws : va_W) (s : State) (H : Heap) (locs : List Loc) : Prop := va_P (gD G) vwCl ws H ∧ va_D (nA B) ws ∧ va_S (nA B) s.heap H locs ∧ B ≤ H.size
theorem nX.narrow {G : UG} {B B' : Nat} {U : State} (h : nX G B U) (hB : B ≤ B') : nX G B' U := by
  obtain ⟨⟨h1, h2, h3⟩, h4⟩ := h
  exact ⟨⟨h1.narrow (fun q hq => Nat.le_trans hB hq), h2.narrow (fun q hq => Nat.le_trans hB hq), h3⟩, h4⟩
theorem nX.moved {G : UG} {B : Nat} {s U : State} {locs : List Loc} (h : nX G B s) (hS : va_S (nA B) s.heap U.heap locs) (hW : s.WarmedH U.vm) : nX G B U := ⟨uX.moved (locs := locs) h.1 hS hW, fun w hw => isNest_warm (List.mem_filter.mp hw).2 hW (h.2.1 w hw), h.2.2.moved hW.alike⟩
theorem uN_of {l : Launch} {G : UG} {y : MethodName} {bytes : ByteArray} {ml fr mc ms lo : Nat} {As : List Value} {e0 : va_E} {S : Type} {w1 : Nat → S → va_W} (hy : plainName y.cls = true) (hy2 : y.name = "<init>") (hlen : ∀ h0, (lg_sl (.ref h0 :: As)).length ≤ ml)
    (body : ∀ (h0 : Nat) (p : Program) (e : Env) (s : State) (m : MethodId) (args : Array Value) (below : List Frame) (meth : Method) (c : Code) (ls : Array Slot), NC p s m args meth c bytes ml y.cls G h0 → meth.name = "<init>" → meth.sig.returnType = none → lv_has ls ml (lv_args 0 (.ref h0 :: As)) → NM G h0 [(h0, e0)] s s.heap [] →
      W p l e (nR fr mc ms lo) s m args below meth c s.heap [] 0 0 (MQ below (nQ G h0 w1) args s mc ms (nA h0)) (F0 m 0 ls [])) : uN l G y bytes ml fr mc ms lo As e0 w1 := by
  intro h0
  refine Met.ofW (cc := bytes) (maxL := ml) (ret := none) hy rfl ?_
  intro p e s m args below meth c s₁ B hml hv
  obtain ⟨rfl, hsz, hP, hK, hX⟩ := hv
  have hts := atoms_spec (ws := .code y bytes ml none :: gtbl) B.pre
  have hl := lv_entry (.ref h0 :: As) (n := ml) (hlen h0)
  rw [lg_entry_eq]
  have hn : meth.name = "<init>" := by rw [(name_of_methodNamed B.named B.method).1]; exact hy2
  exact body h0 p e s m (.ref h0 :: As).toArray below meth c _ ⟨⟨B.exec, B.bytes, hml, findClass_of_methodNamed B.named, fun w h => hts w (List.mem_cons_of_mem _ h)⟩, hK, hX, B.notSynchronized⟩ hn B.returns hl ⟨hP, ⟨fun i j p q hi hj _ => by
    have a1 : i < 1 := (List.getElem?_eq_some_iff.mp hi).1
    have a2 : j < 1 := (List.getElem?_eq_some_iff.mp hj).1
    omega, fun k q hk => by
    have a1 : k < 1 := (List.getElem?_eq_some_iff.mp hk).1
    obtain rfl : k = 0 := by omega
    cases hk
    exact Nat.le_refl _⟩, va_S.rf, by omega⟩
section NROWS
variable {p : Program} {l : Launch} {e : Env} {R : Room} {s : State} {m : MethodId} {args : Array Value} {below : List Frame} {meth : Method} {c : Code} {H : Heap} {locs : List Loc} {cells slots : Nat} {Q : State → Prop}
variable {cc : ByteArray} {pc nL B : Nat} {ls : Array Slot} {rest : List Value} {own : String} {G : UG} {ws : va_W}
theorem NC.hts (X : NC p s m args meth c cc nL own G B) {w : Cond} (h : w ∈ gtbl) : w.before args s = true := X.1.2.2.2.2 w h
theorem n_obj {idx : Nat} (X : NC p s m args meth c cc nL own G B) (hl : ls.size = nL) (hm : Cond.methodLink own idx Lib.objectInit ∈ gtbl) {a : Nat} (hdg : decode cc pc = .ok (.invokespecial idx, 3)) (hf : 1 ≤ R.frames) (hlo : 12 + (rest.map fun v => v.category).sum ≤ R.locals)
    (kk : W p l e R s m args below meth c H locs cells slots Q (F0 m (pc + 3) ls rest)) : W p l e R s m args below meth c H locs cells slots Q (F0 m pc ls (.ref a :: rest)) :=
  W.objInit X.1.1 X.1.2.1 X.1.2.2.2.1 (X.hts hm) (X.hts (gt_in 36 (by decide +kernel) (by decide +kernel))) (X.hts (gt_in 37 (by decide +kernel) (by decide +kernel))) rfl (hl.trans X.1.2.2.1.symm) rfl hdg hf (by show 2 * 0 + _ + 12 ≤ _; omega) kk
theorem n_new {C : String} {T : u_T} {N ci index : Nat} (X : NC p s m args meth c cc nL own G B) (M : NM G B ws s H locs) (hc : vwCl[ci]? = some (C, T, N)) (hin : ∀ w ∈ u_ws C T N, w ∈ gtbl) (ty : Nat → FieldType) (hty : ∀ k, k < N → parseFieldDescriptor (T k).2.2.1 = some (ty k)) (hcl : Cond.classLink own index C ∈ gtbl) (hinst : Cond.instantiable C N ∈ gtbl) (hini : Cond.initialized C ∈ gtbl) {fs : List Value} (hfs : ∀ j, j < N → defaultValue (ty j) = vp_V fs j) (hcells : cells + 1 ≤ R.cells) (hslots : slots + N ≤ R.slots) (hdg : decode cc pc = .ok (.new index, 3))
    (kk : ∀ (q : Nat) (H1 : Heap), H1.size = q + 1 → NM G B (ws ++ [(q, .inr (ci, fs))]) s H1 locs → (∀ (k : Nat) (x : Nat × va_E), ws[k]? = some x → x.1 < q) → s.heap.size ≤ q → W p l e R s m args below meth c H1 locs (cells + 1) (slots + N) Q (F0 m (pc + 3) ls (.ref q :: rest))) : W p l e R s m args below meth c H locs cells slots Q (F0 m pc ls rest) := by
  obtain ⟨hP, hD, hS, hB⟩ := M
  have hKn := X.2.1.1 ci _ hc
  refine W.newcK X.1.1 X.1.2.1 X.1.2.2.2.1 (X.hts hcl) (X.hts hinst) (X.hts hini) rfl hdg hcells hslots hKn.2.1 rfl fun H1 kC hkC e1 z1 o1 => ?_
  have hk : ∀ (k : Nat) (x : Nat × va_E), ws[k]? = some x → H1[x.1]? = H[x.1]? := fun k x hx => o1 x.1 ((hP k x hx).lt)
  refine kk H.size H1 z1 ⟨(hP.kept hk).app (fun k x hx => ?_), hD.push hP rfl hB, ⟨Nat.le_trans hS.1 (by omega), fun x h1 h2 => (o1 x (Nat.lt_of_lt_of_le h1 hS.1)).trans (hS.2.1 x h1 h2), hS.2.2⟩, by omega⟩ (fun k x hx => (hP k x hx).lt) hS.1
  have hz : k < 1 := (List.getElem?_eq_some_iff.mp hx).1
  rw [show k = 0 by omega] at hx
  cases hx
  exact ⟨_, hc, (u_born ty (fun w h => X.hts h) hin hKn hkC e1 hty).to hfs⟩
theorem n_newa {atype : ArrayType} {ty : FieldType} {k0 : Nat} {cA : ClassId} (X : NC p s m args meth c cc nL own G B) (M : NM G B ws s H locs) (hty : newarray.typeOf atype = ty) (hT : (gT G)[k0]? = some (cA, ty)) (hob : ∀ C, ty ≠ .object C) (harr : Cond.arrayClass ty ∈ gtbl) {n : Int32} {N' : Nat} {a0 : vp_A} (ha : vp_cell cA a0 = arrV cA N' (fun _ => defaultValue ty)) (hn : ¬ n < 0) (hN : n.toNatClampNeg = N') (hbytes : N' * componentBytes ty ≤ 536870912) (hcells : cells + 1 ≤ R.cells) (hslots : slots + N' ≤ R.slots) (hdg : decode cc pc = .ok (.newarray atype, 2))
    (kk : ∀ (q : Nat) (H1 : Heap), NM G B (ws ++ [(q, .inl (cA, a0))]) s H1 locs → s.heap.size ≤ q → (∀ (k : Nat) (x : Nat × va_E), ws[k]? = some x → x.1 < q) → W p l e R s m args below meth c H1 locs (cells + 1) (slots + N') Q (F0 m (pc + 2) ls (.ref q :: rest))) : W p l e R s m args below meth c H locs cells slots Q (F0 m pc ls (.int n :: rest)) := by
  obtain ⟨hP, hD, hS, hB⟩ := M
  subst hty
  refine va_newaK X.1.1 X.1.2.1 (X.hts harr) rfl hdg rfl hn hN hbytes hcells hslots rfl fun H1 cA' e1 z1 o1 hAr hNm => ?_
  have hcA : cA' = cA := by
    have h2 := (X.2.1.2 k0 _ hT).2
    cases hq : newarray.typeOf atype with
    | object C => exact absurd hq (hob C)
    | _ => rw [hq] at h2 hNm; exact Option.some.inj (hNm.symm.trans h2)
  subst hcA
  have hk : ∀ (k : Nat) (x : Nat × va_E), ws[k]? = some x → H1[x.1]? = H[x.1]? := fun k x hx => o1 x.1 ((hP k x hx).lt)
  refine kk H.size H1 ⟨(hP.kept hk).app (fun k x hx => ?_), hD.push hP rfl hB, ⟨Nat.le_trans hS.1 (by omega), fun x h1 h2 => (o1 x (Nat.lt_of_lt_of_le h1 hS.1)).trans (hS.2.1 x h1 h2), hS.2.2⟩, by omega⟩ hS.1 (fun k x hx => (hP k x hx).lt)
  have hz : k < 1 := (List.getElem?_eq_some_iff.mp hx).1
  rw [show k = 0 by omega] at hx
  cases hx
  show H1[H.size]? = some (vp_cell _ _)
  rw [ha]
  exact e1
theorem n_blind {As : List Value} {h0 : Nat} {e0 : va_E} : FrameBlind (va_Pc As (nPre G h0 e0)) := fun a U fr mk q => by
  obtain ⟨q0, qz, qH, qK, ⟨q1, q2, q3, q4, q5, q6, q7, q8, q9⟩, r1, r2⟩ := q
  exact ⟨q0, qz, qH, va_K.moved (u := U) (U := U.calling fr mk a) (Vm.Alike.refl U.vm) qK, ⟨vx_Zq.moved (u := U) (U := U.calling fr mk a) (Vm.Alike.refl U.vm) q1, vx_Zq.moved (u := U) (U := U.calling fr mk a) (Vm.Alike.refl U.vm) q2, q3.imp fun _ h => h.same rfl, q4.imp fun _ h => h.same rfl, q5.imp fun _ h => h.same rfl, fun w hw => va_Nw.same (isDC_on (List.mem_filter.mp hw).2) (u := U) (U := U.calling fr mk a) rfl (q6 w hw), va_Nc.moved (u := U) (U := U.calling fr mk a) (Vm.Alike.refl U.vm) q7, va_Nc.moved (u := U) (U := U.calling fr mk a) (Vm.Alike.refl U.vm) q8, va_Nc.moved (u := U) (U := U.calling fr mk a) (Vm.Alike.refl U.vm) q9⟩, fun w hw => va_Nw.same (isNest_on (List.mem_filter.mp hw).2) (u := U) (U := U.calling fr mk a) rfl (r1 w hw), va_AO.moved (u := U) (U := U.calling fr mk a) (Vm.Alike.refl U.vm) r2⟩
/-- the newest object's constructor is called -/
theorem n_fin {mc ms q : Nat} {a' : Array Value} {st0 : List Value} {e0 : va_E} {S : Type} {w1 : Nat → S → va_W} (M : NM G B (ws ++ [(q, e0)]) s H locs) (hr : va_Run p l e R s m args below meth c H locs cells slots mc ms (F0 m pc ls st0) rest (nQ G q w1 a') (nA q)) (hlt : ∀ (k : Nat) (x : Nat × va_E), ws[k]? = some x → x.1 < q)
    (kk : ∀ (u : S) (H1 : Heap) (locs1 : List Loc), NM G B (ws ++ w1 q u) s H1 locs1 → W p l e R s m args below meth c H1 locs1 (cells + mc) (slots + ms) Q (F0 m (pc + 3) ls rest)) : W p l e R s m args below meth c H locs cells slots Q (F0 m pc ls st0) := by
  obtain ⟨hP, hD, hS, hB⟩ := M
  have hPw : va_P (gD G) vwCl ws H := fun k x hx => hP k x (by rw [List.getElem?_append_left ((List.getElem?_eq_some_iff.mp hx).1)]; exact hx)
  have hBq : B ≤ q := hD.2 ws.length (q, e0) (by rw [List.getElem?_append_right (by omega), Nat.sub_self]; rfl)
  refine va_callv hr hS (fun x _ h => Nat.le_trans hBq h) (fun x h => Nat.le_trans hBq h) (fun u t H1 locs1 ht hvm _ hBt hz1 hk1 hS1 => ?_)
  rw [ht] at hBt
  refine kk u H1 locs1 ⟨va_P.app (hPw.kept (fun k x hx => hk1 x.1 ((hPw k x hx).lt) (fun h => absurd (hlt k x hx) (Nat.not_lt.mpr h)))) hBt.1, va_D.app ⟨fun i j p q hi hj e => hD.1 i j p q (by rw [List.getElem?_append_left ((List.getElem?_eq_some_iff.mp hi).1)]; exact hi) (by rw [List.getElem?_append_left ((List.getElem?_eq_some_iff.mp hj).1)]; exact hj) e, fun k x hx => hD.2 k x (by rw [List.getElem?_append_left ((List.getElem?_eq_some_iff.mp hx).1)]; exact hx)⟩ (hBt.2.weaken (fun _ _ _ h => Nat.le_trans hBq h)) (fun i j x y hx hy e => ?_), hS1, Nat.le_trans hB hz1⟩
  have h1 := hlt i x hx
  have h2 : q ≤ y.1 := hBt.2.2 j y hy
  omega
theorem n_pre {q : Nat} {e0 : va_E} (X : NC p s m args meth c cc nL own G B) (M : NM G B (ws ++ [(q, e0)]) s H locs) (hsz : H.size = q + 1) {U : State} (hU : U.heap = H) (hW : s.WarmedH U.vm) : nPre G q e0 U := by
  obtain ⟨hP, hD, hS, hB⟩ := M
  have hP1 : va_P (gD G) vwCl [(q, e0)] H := fun k x hx => hP (ws.length + k) x (by rw [List.getElem?_append_right (by omega), show ws.length + k - ws.length = k by omega]; exact hx)
  have hBq : B ≤ q := hD.2 ws.length (q, e0) (by rw [List.getElem?_append_right (by omega), Nat.sub_self]; rfl)
  exact ⟨by rw [hU]; exact hsz, by rw [hU]; exact hP1, va_K.moved hW.alike X.2.1, nX.narrow (nX.moved (locs := locs) X.2.2.1 (by rw [hU]; exact hS) hW) hBq⟩
abbrev nCF (y : MethodName) (bytes : ByteArray) (ml n : Nat) : Prop := Cond.instanceMethod y ∈ gtbl ∧ Cond.initialized y.cls ∈ gtbl ∧ Cond.code y bytes ml none ∈ gtbl ∧ y.name = "<init>" ∧ y.cls ≠ "java/lang/invoke/MethodHandle" ∧ y.cls ≠ "java/lang/invoke/VarHandle" ∧ (parseMethodDescriptor y.desc).map (fun d => d.parameters.length) = some n
theorem n_call {y : MethodName} {bytes : ByteArray} {ml fr mc ms lo index n q : Nat} {As st0 : List Value} {e0 : va_E} {S : Type} {w1 : Nat → S → va_W} (X : NC p s m args meth c cc nL own G B) (M : NM G B (ws ++ [(q, e0)]) s H locs) (hl : ls.size = nL) (hM : uN l G y bytes ml fr mc ms lo As e0 w1) (hsz : H.size = q + 1) (hlt : ∀ (k : Nat) (x : Nat × va_E), ws[k]? = some x → x.1 < q)
    (hC : Cond.methodLink own index y ∈ gtbl) (hC2 : nCF y bytes ml n) (hR : fr + 1 ≤ R.frames ∧ 8 + (ml + 11) + lo ≤ R.locals) (hn : As.length = n) (hst : st0 = As.reverse ++ .ref q :: rest) (hw : (rest.map fun v => v.category).sum ≤ 8) (hf : cells + mc ≤ R.cells ∧ slots + ms ≤ R.slots) (hdg : decode cc pc = .ok (.invokespecial index, 3))
    (kk : ∀ (u : S) (H1 : Heap) (locs1 : List Loc), NM G B (ws ++ w1 q u) s H1 locs1 → W p l e R s m args below meth c H1 locs1 (cells + mc) (slots + ms) Q (F0 m (pc + 3) ls rest)) : W p l e R s m args below meth c H locs cells slots Q (F0 m pc ls st0) := by
  obtain ⟨g2, g4, g5, g6, g7⟩ := hC2
  have hcb : CallB R s args own index y bytes ml none (.code y bytes ml none :: gtbl) (nR fr mc ms lo) mc ms n := callB_of (ws' := gtbl) n (Ts := gtbl) (fun w h => X.hts h) (gt_cons g5 gt_good (fun _ h => h)) rfl rfl rfl (X.hts g4) (X.hts hC) g7 hR
  exact n_fin M (va_runI (As := As) (rest := rest) X.1 (hM q) ⟨hcb, g6, X.hts g2⟩ ⟨n_blind, fun U hU hW => ⟨rfl, n_pre X M hsz hU hW⟩⟩ rfl hn hl hst (lv_room hw) hdg hf) hlt kk
theorem n_callN {y : MethodName} {bytes : ByteArray} {host : String} {ml fr mc ms lo index n q : Nat} {As st0 : List Value} {e0 : va_E} {S : Type} {w1 : Nat → S → va_W} (X : NC p s m args meth c cc nL own G B) (M : NM G B (ws ++ [(q, e0)]) s H locs) (hl : ls.size = nL) (hM : uN l G y bytes ml fr mc ms lo As e0 w1) (hsz : H.size = q + 1) (hlt : ∀ (k : Nat) (x : Nat × va_E), ws[k]? = some x → x.1 < q)
    (hC : Cond.methodLinkNest own index y host ∈ nstbl) (hC2 : nCF y bytes ml n) (hR : fr + 1 ≤ R.frames ∧ 8 + (ml + 11) + lo ≤ R.locals) (hn : As.length = n) (hst : st0 = As.reverse ++ .ref q :: rest) (hw : (rest.map fun v => v.category).sum ≤ 8) (hf : cells + mc ≤ R.cells ∧ slots + ms ≤ R.slots) (hdg : decode cc pc = .ok (.invokespecial index, 3))
    (kk : ∀ (u : S) (H1 : Heap) (locs1 : List Loc), NM G B (ws ++ w1 q u) s H1 locs1 → W p l e R s m args below meth c H1 locs1 (cells + mc) (slots + ms) Q (F0 m (pc + 3) ls rest)) : W p l e R s m args below meth c H locs cells slots Q (F0 m pc ls st0) := by
  obtain ⟨g2, g4, g5, g6, g7⟩ := hC2
  have hcb := va_cnB (R := R) (own := own) (host := host) (index := index) (ret := none) (ws := .code y bytes ml none :: gtbl) (ws' := gtbl) (rm := nR fr mc ms lo) n (Ts := gtbl) (fun w h => X.hts h) (gt_cons g5 gt_good (fun _ h => h)) rfl rfl rfl (X.2.2.1.2.1 _ hC) (X.hts g4) g7 hR
  exact n_fin M (va_runIN (As := As) (rest := rest) X.1 (hM q) ⟨hcb, g6, X.hts g2⟩ ⟨n_blind, fun U hU hW => ⟨rfl, n_pre X M hsz hU hW⟩⟩ rfl hn hl hst (lv_room hw) hdg hf) hlt kk

theorem n_putF {C : String} {T : u_T} {N ci index a : Nat} {ty0 : Nat → FieldType} (X : NC p s m args meth c cc nL C G B) (hnm9 : meth.name = "<init>") (M : NM G B ws s H locs) (hin : ∀ w ∈ u_ws C T N, w ∈ gtbl) (hty : ∀ k, k < N → parseFieldDescriptor (T k).2.2.1 = some (ty0 k)) (hnm : ∀ a, a < N → ∀ b, b < N → a ≠ b → (T a).2.1 ≠ (T b).2.1) (q0 : Nat) {fs : List Value} (he : ws[q0]? = some (a, .inr (ci, fs))) (hc : vwCl[ci]? = some (C, T, N)) (k : Nat) (hk : k < N) (hT : (T k).1 = C) (hl : (Cond.fieldLink C index C (T k).2.1 (T k).2.2.1) ∈ gtbl) (hfin : (T k).2.2.2 = true) {ty : FieldType} {v : Nat} (hd : parseFieldDescriptor (T k).2.2.1 = some ty) (hn : narrow ty (.ref v) = .ref v) (hfit : fits ty (.ref v) = true) (hlt : k < fs.length) (hdg : decode cc pc = .ok (.putfield index, 3))
    (kk : ∀ (H1 : Heap) (locs1 : List Loc), NM G B (ws.set q0 (a, .inr (ci, fs.set k (.ref v)))) s H1 locs1 → W p l e R s m args below meth c H1 locs1 cells slots Q (F0 m (pc + 3) ls rest)) : W p l e R s m args below meth c H locs cells slots Q (F0 m pc ls (.ref v :: .ref a :: rest)) := by
  obtain ⟨hP, hD, hS, hB⟩ := M
  exact va_putF X.1.1 X.1.2.1 (fun w h => X.hts h) hin ty0 hty hnm X.1.2.2.2.1 X.2.1 hP hD hS q0 he hc k hk (X.hts hl) (fun x h => by rw [hT] at h; exact h) hfin hnm9 hT hd hn hfit hlt hdg (fun H1 locs1 h1 h2 h3 => kk H1 locs1 ⟨h1, h2, h3, Nat.le_trans ((hD.2 q0 _ he)) (Nat.le_of_lt ((h1 q0 (a, .inr (ci, fs.set k (.ref v))) (by rw [List.getElem?_set, if_pos rfl, if_pos ((List.getElem?_eq_some_iff.mp he).1)])).lt))⟩)
theorem n_vret {S : Type} {h0 mc ms : Nat} {w1 : Nat → S → va_W} (X : NC p s m args meth c cc nL own G h0) (hret : meth.sig.returnType = none) (M : NM G h0 ws s H locs) (u : S) (hw : ws = w1 h0 u) (hdg : decode cc pc = .ok (.return_, 1)) :
    W p l e R s m args below meth c H locs mc ms (MQ below (nQ G h0 w1) args s mc ms (nA h0)) (F0 m pc ls []) := by
  subst hw
  exact W.vret X.1.1 X.1.2.1 hret (fun t ht hW => ⟨⟨u, rfl, trivial, by show va_P _ _ _ t.heap ∧ _; rw [ht]; exact ⟨M.1, M.2.1⟩⟩, M.2.2.1.F ht⟩) M.2.2.1.2.2 hdg X.2.2.2
end NROWS
