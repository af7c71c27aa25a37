/-! rows over the universal world -/
def uCW (own C : String) (index : Nat) (y : MethodName) (bytes : ByteArray) (ml : Nat) (ret : Option FieldType) (n : Nat) : Prop :=
  (Cond.methodLink own index y) ∈ gtbl ∧ (Cond.instanceMethod y) ∈ gtbl ∧ (Cond.selects C y y) ∈ gtbl ∧ (Cond.initialized C) ∈ gtbl ∧ (Cond.code y bytes ml ret) ∈ gtbl ∧ (y.cls = C ∧ y.cls ≠ "java/lang/invoke/MethodHandle" ∧ y.cls ≠ "java/lang/invoke/VarHandle" ∧ (parseMethodDescriptor y.desc).map (fun d => d.parameters.length) = some n)
def uCS (own : String) (index : Nat) (y : MethodName) (bytes : ByteArray) (ml : Nat) (ret : Option FieldType) (n : Nat) : Prop :=
  (Cond.methodLink own index y) ∈ gtbl ∧ (Cond.static y) ∈ gtbl ∧ (Cond.initialized y.cls) ∈ gtbl ∧ (Cond.code y bytes ml ret) ∈ gtbl ∧ (y.cls ≠ "java/lang/invoke/MethodHandle" ∧ y.cls ≠ "java/lang/invoke/VarHandle" ∧ (parseMethodDescriptor y.desc).map (fun d => d.parameters.length) = some n)
section UROWS
variable {p : Program} {l : Launch} {e : Env} {R : Room} {s : State} {m : MethodId} {args : Array Value} {below : List Frame} {meth : Method} {c : Code} {H : Heap} {locs : List Loc} {cells slots : Nat} {Q : State → Prop}
variable {cc : ByteArray} {pc nL : Nat} {ls : Array Slot} {rest : List Value} {own : String} {g : UG} {V : uV} {t o : Nat}
theorem u_get (X : UC p s m args meth c cc nL own g) (M : UM g V s H locs) (hk : (t, o) ∈ gk g) {ci : Nat} {fs : List Value} (hs : uSh g t o (V t o) = .inr (ci, fs)) {C : String} {T : u_T} {N index : Nat} (hc : vwCl[ci]? = some (C, T, N)) (hin : ∀ w ∈ u_ws C T N, w ∈ gtbl) (k : Nat) (hkN : k < N) (hT : (T k).1 = C) (hl : (Cond.fieldLink own index C (T k).2.1 (T k).2.2.1) ∈ gtbl) {v : Value} (hv : fs[k]? = some v) (hdg : decode cc pc = .ok (.getfield index, 3))
    (kk : W p l e R s m args below meth c H locs cells slots Q (F0 m (pc + 3) ls (v :: rest))) : W p l e R s m args below meth c H locs cells slots Q (F0 m pc ls (.ref (ga g t o) :: rest)) := by
  obtain ⟨i, -, hw⟩ := uW_at (V := V) hk
  rw [hs] at hw
  exact va_get X.hx X.hb (fun w h => X.hts h) hin X.1.2.2.2.1 X.2.1 M.1.1 i hw hc k hkN (X.hts hl) (fun x h => by rw [hT] at h; exact h) hv hdg kk
theorem u_put (X : UC p s m args meth c cc nL own g) (M : UM g V s H locs) (hk : (t, o) ∈ gk g) {ci : Nat} {fs : List Value} (hs : uSh g t o (V t o) = .inr (ci, fs)) {C : String} {T : u_T} {N index : Nat} (hc : vwCl[ci]? = some (C, T, N)) (hin : ∀ w ∈ u_ws C T N, w ∈ gtbl) (ty0 : Nat → FieldType) (hty : ∀ k, k < N → parseFieldDescriptor (T k).2.2.1 = some (ty0 k)) (hnm : ∀ a, a < N → ∀ b, b < N → a ≠ b → (T a).2.1 ≠ (T b).2.1) (k : Nat) (hkN : k < N) (hT : (T k).1 = C) (hl : (Cond.fieldLink own index C (T k).2.1 (T k).2.2.1) ∈ gtbl) (hfin : (T k).2.2.2 = false) {x : Int32} {ty : FieldType} (hd : parseFieldDescriptor (T k).2.2.1 = some ty) (hn : narrow ty (.int x) = .int x) (hfit : fits ty (.int x) = true) (hlt : k < fs.length) {f' : Nat → Int32} (hs' : uSh g t o f' = .inr (ci, fs.set k (.int x))) (hdg : decode cc pc = .ok (.putfield index, 3))
    (kk : ∀ (H1 : Heap) (locs1 : List Loc), UM g (uS V t o f') s H1 locs1 → W p l e R s m args below meth c H1 locs1 cells slots Q (F0 m (pc + 3) ls rest)) : W p l e R s m args below meth c H locs cells slots Q (F0 m pc ls (.int x :: .ref (ga g t o) :: rest)) := by
  obtain ⟨i, hi, hw⟩ := uW_at (V := V) hk
  rw [hs] at hw
  exact va_put X.hx X.hb (fun w h => X.hts h) hin ty0 hty hnm X.1.2.2.2.1 X.2.1 M.1.1 M.1.2 M.2 i hw hc k hkN (X.hts hl) (fun x h => by rw [hT] at h; exact h) hfin hd hn hfit hlt hdg (fun H1 locs1 h1 h2 h3 => kk H1 locs1 ⟨UH_set M.1.2 hi hs' h1 h2, h3⟩)
theorem u_ald (X : UC p s m args meth c cc nL own g) (M : UM g V s H locs) (hk : (t, o) ∈ gk g) {n : Nat} {f : Nat → Int32} (hs : uSh g t o (V t o) = uArr g n f) {i x : Int32} (hin : vp_in i n) (hx : x = f i.toNatClampNeg) (hdg : decode cc pc = .ok (.iaload, 1))
    (kk : W p l e R s m args below meth c H locs cells slots Q (F0 m (pc + 1) ls (.int x :: rest))) : W p l e R s m args below meth c H locs cells slots Q (F0 m pc ls (.int i :: .ref (ga g t o) :: rest)) := by
  obtain ⟨j, -, hw⟩ := uW_at (V := V) hk
  rw [hs] at hw
  subst hx
  exact va_iald X.hx X.hb X.2.1 M.1.1 j 0 hw rfl hin hdg kk
theorem u_ast (X : UC p s m args meth c cc nL own g) (M : UM g V s H locs) (hk : (t, o) ∈ gk g) {n : Nat} {f : Nat → Int32} (hs : uSh g t o (V t o) = uArr g n f) {i x : Int32} (hin : vp_in i n) (hs' : ∀ f', uSh g t o f' = uArr g n f') (hdg : decode cc pc = .ok (.iastore, 1))
    (kk : ∀ (H1 : Heap) (locs1 : List Loc), UM g (uS V t o (upd f i.toNatClampNeg x)) s H1 locs1 → W p l e R s m args below meth c H1 locs1 cells slots Q (F0 m (pc + 1) ls rest)) : W p l e R s m args below meth c H locs cells slots Q (F0 m pc ls (.int x :: .int i :: .ref (ga g t o) :: rest)) := by
  obtain ⟨j, hj, hw⟩ := uW_at (V := V) hk
  rw [hs] at hw
  exact va_iast X.hx X.hb X.2.1 M.1.1 M.1.2 M.2 j 0 hw rfl hin hdg (fun H1 locs1 h1 h2 h3 => kk H1 locs1 ⟨UH_set M.1.2 hj (hs' _) h1 h2, h3⟩)
theorem u_len (X : UC p s m args meth c cc nL own g) (M : UM g V s H locs) (hk : (t, o) ∈ gk g) {n : Nat} {f : Nat → Int32} (hs : uSh g t o (V t o) = uArr g n f) {v : Int32} (hv : Int32.ofNat n = v) (hdg : decode cc pc = .ok (.arraylength, 1))
    (kk : W p l e R s m args below meth c H locs cells slots Q (F0 m (pc + 1) ls (.int v :: rest))) : W p l e R s m args below meth c H locs cells slots Q (F0 m pc ls (.ref (ga g t o) :: rest)) := by
  obtain ⟨j, -, hw⟩ := uW_at (V := V) hk
  rw [hs] at hw
  exact va_alen X.hx X.hb X.2.1 M.1.1 j 0 hw (ty := .int) rfl hv hdg kk
theorem u_aldq (X : UC p s m args meth c cc nL own g) (M : UM g V s H locs) (hk : (t, o) ∈ gk g) {n : Nat} {f : Nat → Option Nat} (hs : uSh g t o (V t o) = .inl (gO g, n, .inr (.inr (.inr (.inr f))))) {i : Int32} (hin : vp_in i n) {a : Nat} (ha : f i.toNatClampNeg = some a) (hdg : decode cc pc = .ok (.aaload, 1))
    (kk : W p l e R s m args below meth c H locs cells slots Q (F0 m (pc + 1) ls (.ref a :: rest))) : W p l e R s m args below meth c H locs cells slots Q (F0 m pc ls (.int i :: .ref (ga g t o) :: rest)) := by
  obtain ⟨j, -, hw⟩ := uW_at (V := V) hk
  rw [hs] at hw
  refine va_aldq X.hx X.hb X.2.1 M.1.1 j 1 hw rfl hin hdg ?_
  rw [ha]
  exact kk
theorem u_lenq (X : UC p s m args meth c cc nL own g) (M : UM g V s H locs) (hk : (t, o) ∈ gk g) {n : Nat} {f : Nat → Option Nat} (hs : uSh g t o (V t o) = .inl (gO g, n, .inr (.inr (.inr (.inr f))))) {v : Int32} (hv : Int32.ofNat n = v) (hdg : decode cc pc = .ok (.arraylength, 1))
    (kk : W p l e R s m args below meth c H locs cells slots Q (F0 m (pc + 1) ls (.int v :: rest))) : W p l e R s m args below meth c H locs cells slots Q (F0 m pc ls (.ref (ga g t o) :: rest)) := by
  obtain ⟨j, -, hw⟩ := uW_at (V := V) hk
  rw [hs] at hw
  exact va_alen X.hx X.hb X.2.1 M.1.1 j 1 hw (ty := .object "OfflineGates$State") rfl hv hdg kk
theorem u_recv (X : UC p s m args meth c cc nL own g) (M : UM g V s H locs) (hk : (t, o) ∈ gk g) {ci : Nat} {fs : List Value} (hs : uSh g t o (V t o) = .inr (ci, fs)) {C : String} {T : u_T} {N : Nat} (hc : vwCl[ci]? = some (C, T, N)) : ∃ cell : Cell, H[ga g t o]? = some cell ∧ cell.vm.isStatics = false ∧ s.vm.findClass C = some cell.cls := by
  obtain ⟨i, -, hw⟩ := uW_at (V := V) hk
  rw [hs] at hw
  exact va_recv X.2.1 M.1.1 hc hw
theorem u_pre (X : UC p s m args meth c cc nL own g) (M : UM g V s H locs) {U : State} (hU : U.heap = H) (hW : s.WarmedH U.vm) : uPre g V U := by
  subst hU
  exact ⟨M.1, va_K.moved hW.alike X.2.1, X.2.2.1.moved M.2 hW⟩
theorem u_blind {As : List Value} : FrameBlind (va_Pc As (uPre g V)) := fun a U fr mk q => by
  obtain ⟨q0, qH, qK, q1, q2, q3, q4, q5, q6, q7, q8, q9⟩ := q
  exact ⟨q0, qH, va_K.moved (u := U) (U := U.calling fr mk a) (Vm.Alike.refl U.vm) qK, vx_Zq.moved (u := U) (U := U.calling fr mk a) (Vm.Alike.refl U.vm) q1, vx_Zq.moved (u := U) (U := U.calling fr mk a) (Vm.Alike.refl U.vm) q2, q3.imp fun _ h => h.same rfl, q4.imp fun _ h => h.same rfl, q5.imp fun _ h => h.same rfl, fun w hw => va_Nw.same (isDC_on (List.mem_filter.mp hw).2) (u := U) (U := U.calling fr mk a) rfl (q6 w hw), va_Nc.moved (u := U) (U := U.calling fr mk a) (Vm.Alike.refl U.vm) q7, va_Nc.moved (u := U) (U := U.calling fr mk a) (Vm.Alike.refl U.vm) q8, va_Nc.moved (u := U) (U := U.calling fr mk a) (Vm.Alike.refl U.vm) q9⟩
theorem u_iret {ty : FieldType} {r : Int32} {V' : uV} (X : UC p s m args meth c cc nL own g) (hret : meth.sig.returnType = some ty) (M : UM g V s H locs) {v : Int32} (hr : v = r) (hV : V = V') (hn : narrow ty (.int v) = .int v) (hdg : decode cc pc = .ok (.ireturn, 1)) :
    W p l e R s m args below meth c H locs cells slots (MQ below (uQi g ty r V') args s cells slots (uA g)) (F0 m pc ls [.int v]) := by
  subst hV
  exact W.zret X.hx X.hb hret hn (fun t ht hW => ⟨⟨v, (), rfl, ⟨hr, hn⟩, by show UH g V t.heap; rw [ht]; exact M.1⟩, M.2.F ht⟩) M.2.2.2 hdg X.2.2.2
theorem u_vret {V' : uV} (X : UC p s m args meth c cc nL own g) (hret : meth.sig.returnType = none) (M : UM g V s H locs) (hV : V = V') (hdg : decode cc pc = .ok (.return_, 1)) :
    W p l e R s m args below meth c H locs cells slots (MQ below (uQv g V') args s cells slots (uA g)) (F0 m pc ls []) := by
  subst hV
  exact W.vret X.hx X.hb hret (fun t ht hW => ⟨⟨(), rfl, trivial, by show UH g V t.heap; rw [ht]; exact M.1⟩, M.2.F ht⟩) M.2.2.2 hdg X.2.2.2
variable {y : MethodName} {bytes : ByteArray} {ml n index fr lo : Nat} {ty : FieldType} {As : List Value} {V' : uV} {r : Int32} {C : String} {b : Nat} {st0 : List Value}
theorem u_cw {ret : Option FieldType} (X : UC p s m args meth c cc nL own g) (h : uCW own C index y bytes ml ret n) (hR : fr + 1 ≤ R.frames ∧ 8 + (ml + 11) + lo ≤ R.locals) : CallW R s args own C index y bytes ml ret (.code y bytes ml ret :: gtbl) (uR fr lo) 0 0 n := by
  obtain ⟨h1, h2, h3, h4, h5, h6, h7⟩ := h
  have hb : CallB R s args own index y bytes ml ret (.code y bytes ml ret :: gtbl) (uR fr lo) 0 0 n := callB_of (ws' := gtbl) n (Ts := gtbl) (fun w h => X.hts h) (gt_cons h5 gt_good (fun _ h => h)) rfl rfl rfl (by rw [h6]; exact X.hts h4) (X.hts h1) h7 hR
  exact ⟨hb, X.hts h2, X.hts h3⟩
theorem u_cs {ret : Option FieldType} (X : UC p s m args meth c cc nL own g) (h : uCS own index y bytes ml ret n) (hR : fr + 1 ≤ R.frames ∧ 8 + (ml + 11) + lo ≤ R.locals) : CallB R s args own index y bytes ml ret (.code y bytes ml ret :: gtbl) (uR fr lo) 0 0 n ∧ (Cond.static y).before args s = true := by
  obtain ⟨h1, h2, h4, h5, h7⟩ := h
  exact ⟨callB_of (ws' := gtbl) n (Ts := gtbl) (fun w h => X.hts h) (gt_cons h5 gt_good (fun _ h => h)) rfl rfl rfl (X.hts h4) (X.hts h1) h7 hR, X.hts h2⟩
/-- a call of an object's method that answers an int -/
theorem u_cVi (X : UC p s m args meth c cc nL own g) (M : UM g V s H locs) (hl : ls.size = nL) (hM : uMi l g y bytes ml ty (uR fr lo) (.ref b :: As) V r V') (hC : uCW own C index y bytes ml (some ty) n) (hR : fr + 1 ≤ R.frames ∧ 8 + (ml + 11) + lo ≤ R.locals) (hrecv : ∃ cell : Cell, H[b]? = some cell ∧ cell.vm.isStatics = false ∧ s.vm.findClass C = some cell.cls) (hn : As.length = n) (hst : st0 = As.reverse ++ .ref b :: rest) (hw : (rest.map fun v => v.category).sum ≤ 8) (hf : cells ≤ R.cells ∧ slots ≤ R.slots) (hdg : decode cc pc = .ok (.invokevirtual index, 3))
    (kk : ∀ (H1 : Heap) (locs1 : List Loc), UM g V' s H1 locs1 → narrow ty (.int r) = .int r → W p l e R s m args below meth c H1 locs1 cells slots Q (F0 m (pc + 3) ls (.int r :: rest))) : W p l e R s m args below meth c H locs cells slots Q (F0 m pc ls st0) := by
  refine va_calli (va_runV (As := As) (rest := rest) X.1 hM (u_cw X hC hR) ⟨u_blind, hrecv, fun U hU hW => ⟨rfl, u_pre X M hU hW⟩⟩ rfl hn hl hst (lv_room hw) hdg ⟨hf.1, hf.2⟩) M.2 (fun q _ h => h) (fun q h => h) (fun r1 u t H1 locs1 ht hvm hw hB hz1 hk1 hS => ?_)
  obtain ⟨rfl, hw2⟩ := hw
  rw [ht] at hB
  exact kk H1 locs1 ⟨hB, hS⟩ hw2
theorem u_cVv (X : UC p s m args meth c cc nL own g) (M : UM g V s H locs) (hl : ls.size = nL) (hM : uMv l g y bytes ml (uR fr lo) (.ref b :: As) V V') (hC : uCW own C index y bytes ml none n) (hR : fr + 1 ≤ R.frames ∧ 8 + (ml + 11) + lo ≤ R.locals) (hrecv : ∃ cell : Cell, H[b]? = some cell ∧ cell.vm.isStatics = false ∧ s.vm.findClass C = some cell.cls) (hn : As.length = n) (hst : st0 = As.reverse ++ .ref b :: rest) (hw : (rest.map fun v => v.category).sum ≤ 8) (hf : cells ≤ R.cells ∧ slots ≤ R.slots) (hdg : decode cc pc = .ok (.invokevirtual index, 3))
    (kk : ∀ (H1 : Heap) (locs1 : List Loc), UM g V' s H1 locs1 → W p l e R s m args below meth c H1 locs1 cells slots Q (F0 m (pc + 3) ls rest)) : W p l e R s m args below meth c H locs cells slots Q (F0 m pc ls st0) := by
  refine va_callv (va_runV (As := As) (rest := rest) X.1 hM (u_cw X hC hR) ⟨u_blind, hrecv, fun U hU hW => ⟨rfl, u_pre X M hU hW⟩⟩ rfl hn hl hst (lv_room hw) hdg ⟨hf.1, hf.2⟩) M.2 (fun q _ h => h) (fun q h => h) (fun u t H1 locs1 ht hvm hw hB hz1 hk1 hS => ?_)
  rw [ht] at hB
  exact kk H1 locs1 ⟨hB, hS⟩
theorem u_cSi (X : UC p s m args meth c cc nL own g) (M : UM g V s H locs) (hl : ls.size = nL) (hM : uMi l g y bytes ml ty (uR fr lo) As V r V') (hC : uCS own index y bytes ml (some ty) n) (hR : fr + 1 ≤ R.frames ∧ 8 + (ml + 11) + lo ≤ R.locals) (hn : As.length = n) (hst : st0 = As.reverse ++ rest) (hw : (rest.map fun v => v.category).sum ≤ 8) (hf : cells ≤ R.cells ∧ slots ≤ R.slots) (hdg : decode cc pc = .ok (.invokestatic index, 3))
    (kk : ∀ (H1 : Heap) (locs1 : List Loc), UM g V' s H1 locs1 → narrow ty (.int r) = .int r → W p l e R s m args below meth c H1 locs1 cells slots Q (F0 m (pc + 3) ls (.int r :: rest))) : W p l e R s m args below meth c H locs cells slots Q (F0 m pc ls st0) := by
  refine va_calli (va_runS (As := As) (rest := rest) X.1 hM (u_cs X hC hR) ⟨u_blind, fun U hU hW => ⟨rfl, u_pre X M hU hW⟩⟩ rfl hn hl hst (lv_room hw) hdg ⟨hf.1, hf.2⟩) M.2 (fun q _ h => h) (fun q h => h) (fun r1 u t H1 locs1 ht hvm hw hB hz1 hk1 hS => ?_)
  obtain ⟨rfl, hw2⟩ := hw
  rw [ht] at hB
  exact kk H1 locs1 ⟨hB, hS⟩ hw2
theorem u_cSv (X : UC p s m args meth c cc nL own g) (M : UM g V s H locs) (hl : ls.size = nL) (hM : uMv l g y bytes ml (uR fr lo) As V V') (hC : uCS own index y bytes ml none n) (hR : fr + 1 ≤ R.frames ∧ 8 + (ml + 11) + lo ≤ R.locals) (hn : As.length = n) (hst : st0 = As.reverse ++ rest) (hw : (rest.map fun v => v.category).sum ≤ 8) (hf : cells ≤ R.cells ∧ slots ≤ R.slots) (hdg : decode cc pc = .ok (.invokestatic index, 3))
    (kk : ∀ (H1 : Heap) (locs1 : List Loc), UM g V' s H1 locs1 → W p l e R s m args below meth c H1 locs1 cells slots Q (F0 m (pc + 3) ls rest)) : W p l e R s m args below meth c H locs cells slots Q (F0 m pc ls st0) := by
  refine va_callv (va_runS (As := As) (rest := rest) X.1 hM (u_cs X hC hR) ⟨u_blind, fun U hU hW => ⟨rfl, u_pre X M hU hW⟩⟩ rfl hn hl hst (lv_room hw) hdg ⟨hf.1, hf.2⟩) M.2 (fun q _ h => h) (fun q h => h) (fun u t H1 locs1 ht hvm hw hB hz1 hk1 hS => ?_)
  rw [ht] at hB
  exact kk H1 locs1 ⟨hB, hS⟩
end UROWS
/-! how the pure functions are taken apart, step by step -/
theorem it_t {α : Type} {c : Prop} [Decidable c] {A B r : α} (h : (if c then A else B) = r) (hc : c) : A = r := (if_pos hc).symm.trans h
theorem it_f {α : Type} {c : Prop} [Decidable c] {A B r : α} (h : (if c then A else B) = r) (hc : ¬ c) : B = r := (if_neg hc).symm.trans h
def lt_ {α β : Type} (a : α) (f : α → β) : β := f a
theorem lt_e {α β : Type} {a : α} {f : α → β} {r : β} (h : lt_ a f = r) : ∃ x, x = a ∧ f x = r := ⟨a, rfl, h⟩
def gd {α : Type} (b : Bool) (x : Option α) : Option α := if b then x else none
theorem gd_e {α : Type} {b : Bool} {x : Option α} {r : α} (h : gd b x = some r) : b = true ∧ x = some r := by
  cases b
  · cases h
  · exact ⟨rfl, h⟩
def inb (i : Int32) (n : Nat) : Bool := decide (0 ≤ i.toInt) && decide (i.toInt < n)
theorem inb_e {i : Int32} {n : Nat} (h : inb i n = true) : vp_in i n := by
  simp only [inb, Bool.and_eq_true, decide_eq_true_eq] at h
  exact vp_in_iff.mpr h
def bd {α β : Type} (x : Option α) (f : α → Option β) : Option β := x.bind f
theorem bd_e {α β : Type} {x : Option α} {f : α → Option β} {r : β} (h : bd x f = some r) : ∃ a, x = some a ∧ f a = some r := Option.bind_eq_some_iff.mp h
def bd2 {α β γ : Type} (x : Option (α × β)) (f : α → β → Option γ) : Option γ := x.bind fun q => f q.1 q.2
theorem bd2_e {α β γ : Type} {x : Option (α × β)} {f : α → β → Option γ} {r : γ} (h : bd2 x f = some r) : ∃ a b, x = some (a, b) ∧ f a b = some r := by
  obtain ⟨⟨a, b⟩, h1, h2⟩ := Option.bind_eq_some_iff.mp h
  exact ⟨a, b, h1, h2⟩
def isz (x : Int32) : Bool := decide (x = 0) || decide (x = 1)
theorem isz_e {x : Int32} (h : isz x = true) : narrow .boolean (.int x) = .int x := by
  simp only [isz, Bool.or_eq_true, decide_eq_true_eq] at h
  rcases h with rfl | rfl <;> rfl
