
/-! the law's own methods, over worlds that show the model's memory: rows for two objects, for pure calls, for joins -/
noncomputable def gdp {α : Type} (p : Prop) (x : Option α) : Option α := @ite _ p (Classical.propDecidable p) x none
theorem gdp_e {α : Type} {p : Prop} {x : Option α} {r : α} (h : gdp p x = some r) : p ∧ x = some r := by
  unfold gdp at h
  by_cases c : p
  · rw [if_pos c] at h; exact ⟨c, h⟩
  · rw [if_neg c] at h; cases h
theorem gdp_i {α : Type} {p : Prop} {x : Option α} (h : p) : gdp p x = x := if_pos h
def uqA (A : Nat → Prop) (g : UG) (n : Nat) (M : Nat → Nat → Int32) (U : State) : Prop := UQ g n M U.heap ∧ va_K (gD g) vwCl (gT g) U ∧ uX (gA g A) U
abbrev oQ2 (A : Nat → Prop) (g1 g2 : UG) (ty : FieldType) (r : Int32) (n : Nat) (M : Nat → Nat → Int32) : Array Value → State → Outcome → State → Prop := va_Qi (fun (r' : Int32) (_ : Unit) => r' = r ∧ narrow ty (.int r') = .int r') (fun _ t => UQ g1 n M t.heap ∧ UQ g2 n M t.heap) A
def uG2 (l : Launch) (A : Nat → Prop) (g1 g2 : UG) (y : MethodName) (bytes : ByteArray) (ml : Nat) (ty : FieldType) (fr mc ms lo : Nat) (As : List Value) (n : Nat) (M : Nat → Nat → Int32) (r : Int32) (n' : Nat) (M' : Nat → Nat → Int32) : Prop :=
  Met l y (.code y bytes ml (some ty) :: gtbl) (nR fr mc ms lo) (va_Pc As (fun U => uqA A g1 n M U ∧ uqA A g2 n M U)) (oQ2 A g1 g2 ty r n' M') mc ms A
abbrev oQp (ty : FieldType) (r : Int32) : Array Value → State → Outcome → State → Prop := va_Qi (fun (r' : Int32) (_ : Unit) => r' = r ∧ narrow ty (.int r') = .int r') (fun _ _ => True) (fun _ => False)
section PROWS
variable {p : Program} {l : Launch} {e : Env} {R : Room} {s : State} {m : MethodId} {args : Array Value} {below : List Frame} {meth : Method} {c : Code} {H : Heap} {locs : List Loc} {cells slots : Nat} {Q : State → Prop}
variable {cc : ByteArray} {pc nL : Nat} {ls : Array Slot} {rest : List Value} {own : String} {g : UG} {A : Nat → Prop} {F : Heap → Prop} {n n' : Nat} {M M' : Nat → Nat → Int32}
theorem w_join {f0 : JFrame} {J : Nat} {v a b : Int32} {c0 : Prop} [Decidable c0] (hv : v = if c0 then a else b) (h : (c0 → W p l e R s m args below meth c H locs cells slots Q (F0 m J ls (.int a :: rest))) → (¬ c0 → W p l e R s m args below meth c H locs cells slots Q (F0 m J ls (.int b :: rest))) → W p l e R s m args below meth c H locs cells slots Q f0) (K : W p l e R s m args below meth c H locs cells slots Q (F0 m J ls (.int v :: rest))) : W p l e R s m args below meth c H locs cells slots Q f0 :=
  h (fun q => by rw [if_pos q] at hv; exact hv ▸ K) (fun q => by rw [if_neg q] at hv; exact hv ▸ K)
theorem WO.pass {H1 : Heap} {locs1 : List Loc} (hF : Stb g F) (Z : WO A F g n M s H locs) (hS : va_S A s.heap H1 locs1) (hk : ∀ q : Nat, q < H.size → H1[q]? = H[q]?) : WO A F g n M s H1 locs1 :=
  ⟨Z.1.keep (fun q h _ => hk q h), hF H H1 Z.2.1 (fun q h _ => hk q h), hS⟩
theorem WO.up (Z : WO A F g n M s H locs) (h : n ≤ n') : WO A F g n' M s H locs := ⟨Z.1.up h, Z.2⟩
theorem o_cP {y : MethodName} {bytes : ByteArray} {ml index fr lo k : Nat} {ty : FieldType} {As st0 : List Value} {r : Int32} {B : State → Prop} (X : UC p s m args meth c cc nL own g) (hS : va_S A s.heap H locs) (hl : ls.size = nL) (hM : Met l y (.code y bytes ml (some ty) :: gtbl) (uR fr lo) (va_Pc As B) (oQp ty r) 0 0 (fun _ => False)) (hbl : FrameBlind (va_Pc As B)) (hB : ∀ U : State, U.heap = H → s.WarmedH U.vm → B U) (hC : uCS own index y bytes ml (some ty) k) (hR : fr + 1 ≤ R.frames ∧ 8 + (ml + 11) + lo ≤ R.locals) (hn : As.length = k) (hst : st0 = As.reverse ++ rest) (hw : (rest.map fun v => v.category).sum ≤ 8) (hf : cells ≤ R.cells ∧ slots ≤ R.slots) (hdg : decode cc pc = .ok (.invokestatic index, 3))
    (kk : ∀ (H1 : Heap) (locs1 : List Loc), va_S A s.heap H1 locs1 → (∀ q : Nat, q < H.size → H1[q]? = H[q]?) → narrow ty (.int r) = .int r → W p l e R s m args below meth c H1 locs1 cells slots Q (F0 m (pc + 3) ls (.int r :: rest))) : W p l e R s m args below meth c H locs cells slots Q (F0 m pc ls st0) := by
  refine va_calli (va_runS (As := As) (rest := rest) X.1 hM (u_cs X hC hR) ⟨hbl, fun U hU hW => ⟨rfl, hB U hU hW⟩⟩ rfl hn hl hst (lv_room hw) hdg ⟨hf.1, hf.2⟩) hS (fun q _ h => h.elim) (fun q h => h.elim) (fun r1 u t H1 locs1 ht hvm hw hB hz1 hk1 hS => ?_)
  obtain ⟨rfl, hw2⟩ := hw
  exact kk H1 locs1 hS (fun q h => hk1 q h (fun x => x)) hw2
theorem o_iret2 {g1 g2 : UG} {ty : FieldType} {r v : Int32} (X : UC p s m args meth c cc nL own (gA g1 A)) (hret : meth.sig.returnType = some ty) (Z : WO A (UQ g2 n M) g1 n M s H locs) (hr : v = r) (hn : narrow ty (.int v) = .int v) (hdg : decode cc pc = .ok (.ireturn, 1)) :
    W p l e R s m args below meth c H locs cells slots (MQ below (oQ2 A g1 g2 ty r n M) args s cells slots A) (F0 m pc ls [.int v]) :=
  W.zret X.hx X.hb hret hn (fun t ht hW => ⟨⟨v, (), rfl, ⟨hr, hn⟩, by show UQ g1 n M t.heap ∧ UQ g2 n M t.heap; rw [ht]; exact ⟨Z.1, Z.2.1⟩⟩, Z.2.2.F ht⟩) Z.2.2.2.2 hdg X.2.2.2
theorem uG2_body {l : Launch} {g1 g2 : UG} {y : MethodName} {bytes : ByteArray} {ml : Nat} {ty : FieldType} {fr mc ms lo : Nat} {As : List Value} {n n' : Nat} {M M' : Nat → Nat → Int32} {r : Int32} (hy : plainName y.cls = true) (hlen : (lg_sl As).length ≤ ml)
    (body : ∀ (p : Program) (e : Env) (s : State) (m : MethodId) (args : Array Value) (below : List Frame) (meth : Method) (c : Code) (ls : Array Slot), UC p s m args meth c bytes ml y.cls (gA g1 A) → UC p s m args meth c bytes ml y.cls (gA g2 A) → meth.sig.returnType = some ty → lv_has ls ml (lv_args 0 As) → WO A (UQ g2 n M) g1 n M s s.heap [] →
      W p l e (nR fr mc ms lo) s m args below meth c s.heap [] 0 0 (MQ below (oQ2 A g1 g2 ty r n' M') args s mc ms A) (F0 m 0 ls [])) : uG2 l A g1 g2 y bytes ml ty fr mc ms lo As n M r n' M' := by
  refine Met.ofW (cc := bytes) (maxL := ml) (ret := some ty) hy rfl ?_
  intro p e s m args below meth c s₁ B hml hv
  obtain ⟨rfl, ⟨hU1, hK1, hX1⟩, hU2, hK2, hX2⟩ := hv
  have hts := atoms_spec (ws := .code y bytes ml (some ty) :: gtbl) B.pre
  have hl := lv_entry As (n := ml) hlen
  rw [lg_entry_eq]
  have hcf : CallFix p m c bytes ml s As.toArray gtbl y.cls := ⟨B.exec, B.bytes, hml, findClass_of_methodNamed B.named, fun w h => hts w (List.mem_cons_of_mem _ h)⟩
  exact body p e s m As.toArray below meth c _ ⟨hcf, hK1, hX1, B.notSynchronized⟩ ⟨hcf, hK2, hX2, B.notSynchronized⟩ B.returns hl ⟨hU1, hU2, va_S.rf⟩
theorem o_blind2 {g1 g2 : UG} {As : List Value} : FrameBlind (va_Pc As (fun U => uqA A g1 n M U ∧ uqA A g2 n M U)) := fun a U fr mk q => by
  obtain ⟨q0, q1, q2⟩ := q
  have b1 := o_blind (g := gA g1 A) (n := n) (M := M) (As := As)
  have b2 := o_blind (g := gA g2 A) (n := n) (M := M) (As := As)
  have z : ∀ {g' : UG}, uqA A g' n M U → UQ g' n M U.heap ∧ va_K (gD (gA g' A)) vwCl (gT (gA g' A)) (U.calling fr mk a) ∧ uX (gA g' A) (U.calling fr mk a) := fun {g'} h => by
    obtain ⟨qH, qK, q1, q2, q3, q4, q5, q6, q7, q8, q9⟩ := h
    exact ⟨qH, va_K.moved (u := U) (U := U.calling fr mk a) (Vm.Alike.refl U.vm) qK, vx_Zq.moved (u := U) (U := U.calling fr mk a) (Vm.Alike.refl U.vm) q1, vx_Zq.moved (u := U) (U := U.calling fr mk a) (Vm.Alike.refl U.vm) q2, q3.imp fun _ h => h.same rfl, q4.imp fun _ h => h.same rfl, q5.imp fun _ h => h.same rfl, fun w hw => va_Nw.same (isDC_on (List.mem_filter.mp hw).2) (u := U) (U := U.calling fr mk a) rfl (q6 w hw), va_Nc.moved (u := U) (U := U.calling fr mk a) (Vm.Alike.refl U.vm) q7, va_Nc.moved (u := U) (U := U.calling fr mk a) (Vm.Alike.refl U.vm) q8, va_Nc.moved (u := U) (U := U.calling fr mk a) (Vm.Alike.refl U.vm) q9⟩
  exact ⟨q0, z q1, z q2⟩
theorem o_c2 {g1 g2 : UG} {y : MethodName} {bytes : ByteArray} {ml index fr mc ms lo k : Nat} {ty : FieldType} {As st0 : List Value} {r : Int32} (X1 : UC p s m args meth c cc nL own (gA g1 A)) (X2 : UC p s m args meth c cc nL own (gA g2 A)) (Z : WO A (UQ g2 n M) g1 n M s H locs) (hl : ls.size = nL) (hM : uG2 l A g1 g2 y bytes ml ty fr mc ms lo As n M r n M) (hC : uCS own index y bytes ml (some ty) k) (hR : fr + 1 ≤ R.frames ∧ 8 + (ml + 11) + lo ≤ R.locals) (hn : As.length = k) (hst : st0 = As.reverse ++ rest) (hw : (rest.map fun v => v.category).sum ≤ 8) (hf : cells + mc ≤ R.cells ∧ slots + ms ≤ R.slots) (hdg : decode cc pc = .ok (.invokestatic index, 3))
    (kk : ∀ (H1 : Heap) (locs1 : List Loc), WO A (UQ g2 n M) g1 n M s H1 locs1 → narrow ty (.int r) = .int r → W p l e R s m args below meth c H1 locs1 (cells + mc) (slots + ms) Q (F0 m (pc + 3) ls (.int r :: rest))) : W p l e R s m args below meth c H locs cells slots Q (F0 m pc ls st0) := by
  refine va_calli (va_runS (As := As) (rest := rest) X1.1 hM (o_cb X1 hC hR) ⟨o_blind2, fun U hU hW => ⟨rfl, ⟨by rw [hU]; exact Z.1, va_K.moved hW.alike X1.2.1, uX.moved (locs := locs) X1.2.2.1 (by rw [hU]; exact Z.2.2) hW⟩, by rw [hU]; exact Z.2.1, va_K.moved hW.alike X2.2.1, uX.moved (locs := locs) X2.2.2.1 (by rw [hU]; exact Z.2.2) hW⟩⟩ rfl hn hl hst (lv_room hw) hdg ⟨hf.1, hf.2⟩) Z.2.2 (fun q _ h => h) (fun q h => h) (fun r1 u t H1 locs1 ht hvm hw hB hz1 hk1 hS => ?_)
  obtain ⟨rfl, hw2⟩ := hw
  rw [ht] at hB
  exact kk H1 locs1 ⟨hB.1, hB.2, hS⟩ hw2
end PROWS
