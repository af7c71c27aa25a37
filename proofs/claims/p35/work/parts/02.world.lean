/-! the words that every contract has: all good words of the tables -/
def gtbl : List Cond := lw_tbl.filter goodWord
theorem gt_in {w : Cond} (i : Nat) (h : lw_tbl[i]? = some w) (hg : goodWord w = true) : w ∈ gtbl := List.mem_filter.mpr ⟨List.mem_of_getElem? h, hg⟩
theorem gt_good : GoodIn gtbl gtbl := fun _ h => ⟨h, good_of_word (List.mem_filter.mp h).2⟩
theorem gt_cons {big : List Cond} {w : Cond} {ws : List Cond} (h1 : w ∈ gtbl) (hb : GoodIn big ws) (hs : ∀ x ∈ gtbl, x ∈ big) : GoodIn big (w :: ws) := fun x hx => (List.mem_cons.mp hx).elim (fun e => by rw [e]; exact ⟨hs _ h1, good_of_word (List.mem_filter.mp h1).2⟩) (hb x)
/-! the universal world: block t, object o, int i -/
abbrev uV : Type := Nat → Nat → Nat → Int32
abbrev UG : Type := va_G × (ClassId × ClassId) × (Nat → Nat → Nat) × List (Nat × Nat) × (Nat → Prop)
def gD (g : UG) : va_G := g.1
def gI (g : UG) : ClassId := g.2.1.1
def gO (g : UG) : ClassId := g.2.1.2
def ga (g : UG) : Nat → Nat → Nat := g.2.2.1
def gk (g : UG) : List (Nat × Nat) := g.2.2.2.1
def gB (g : UG) : Nat → Prop := g.2.2.2.2
def gT (g : UG) : List (ClassId × FieldType) := [(gI g, .int), (gO g, .object "OfflineGates$State")]
def uA (g : UG) : Nat → Prop := gB g
def uRowC (g : UG) (t o : Nat) : va_E := .inr (5, [.ref (ga g t (o + 1))])
def uArr (g : UG) (n : Nat) (f : Nat → Int32) : va_E := .inl (gI g, n, .inl f)
def stSh (g : UG) (t o : Nat) (f : Nat → Int32) : va_E := match o with
  | 0 => .inr (7, [.ref (ga g t 1), .ref (ga g t 10), .ref (ga g t 21), .ref (ga g t 38), .int (f 4), .int (f 5), .int (f 6), .int (f 7), .int (f 8), .int (f 9)])
  | 1 => .inr (0, [.int (f 0), .ref (ga g t 2), .ref (ga g t 4), .ref (ga g t 6), .ref (ga g t 8)])
  | 2 => uRowC g t 2
  | 3 => uArr g 10 f
  | 4 => uRowC g t 4
  | 5 => uArr g 10 f
  | 6 => uRowC g t 6
  | 7 => uArr g 10 f
  | 8 => uRowC g t 8
  | 9 => uArr g 10 f
  | 10 => .inr (4, [.int (f 0), .ref (ga g t 11), .ref (ga g t 13), .ref (ga g t 15), .ref (ga g t 17), .ref (ga g t 19)])
  | 11 => uRowC g t 11
  | 12 => uArr g 8 f
  | 13 => uRowC g t 13
  | 14 => uArr g 8 f
  | 15 => uRowC g t 15
  | 16 => uArr g 8 f
  | 17 => uRowC g t 17
  | 18 => uArr g 8 f
  | 19 => uRowC g t 19
  | 20 => uArr g 256 f
  | 21 => .inr (2, [.ref (ga g t 22), .ref (ga g t 24), .ref (ga g t 26), .ref (ga g t 28), .ref (ga g t 30), .ref (ga g t 32), .ref (ga g t 34), .ref (ga g t 36)])
  | 22 => uRowC g t 22
  | 23 => uArr g 4 f
  | 24 => uRowC g t 24
  | 25 => uArr g 4 f
  | 26 => uRowC g t 26
  | 27 => uArr g 4 f
  | 28 => uRowC g t 28
  | 29 => uArr g 4 f
  | 30 => uRowC g t 30
  | 31 => uArr g 4 f
  | 32 => uRowC g t 32
  | 33 => uArr g 48 f
  | 34 => uRowC g t 34
  | 35 => uArr g 48 f
  | 36 => uRowC g t 36
  | 37 => uArr g 48 f
  | 38 => uRowC g t 38
  | _ => uArr g 4 f
def mnSh (g : UG) (o : Nat) (f : Nat → Int32) : va_E := match o with
  | 0 => .inr (8, [.ref (ga g 0 0), .ref (ga g 1 0), .ref (ga g 18 1), .ref (ga g 18 4), .ref (ga g 18 6)])
  | 1 => .inr (1, [.ref (ga g 18 2), .int (f 1)])
  | 2 => uRowC g 18 2
  | 3 => uArr g 120 f
  | 4 => .inr (3, [.ref (ga g 18 5), .int (f 1), .int (f 2)])
  | 5 => .inl (gO g, 14, .inr (.inr (.inr (.inr (fun i => some (ga g (i + 2) 0))))))
  | _ => .inr (6, [.ref (ga g 16 0), .ref (ga g 17 0), .int (f 2), .int (f 3)])
def uSh (g : UG) (t o : Nat) (f : Nat → Int32) : va_E := if t < 18 then stSh g t o f else mnSh g o f
theorem uSh_st {g : UG} {t : Nat} (h : t < 18) (o : Nat) (f : Nat → Int32) : uSh g t o f = stSh g t o f := if_pos h
theorem uSh_mn {g : UG} (o : Nat) (f : Nat → Int32) : uSh g 18 o f = mnSh g o f := rfl
def uW (g : UG) (V : uV) : va_W := (gk g).map fun k => (ga g k.1 k.2, uSh g k.1 k.2 (V k.1 k.2))
def UH (g : UG) (V : uV) (H : Heap) : Prop := va_P (gD g) vwCl (uW g V) H ∧ va_D (uA g) (uW g V)
theorem uW_at {g : UG} {V : uV} {t o : Nat} (hk : (t, o) ∈ gk g) : ∃ i : Nat, (gk g)[i]? = some (t, o) ∧ (uW g V)[i]? = some (ga g t o, uSh g t o (V t o)) := by
  obtain ⟨i, hi⟩ := List.getElem?_of_mem hk
  exact ⟨i, hi, by unfold uW; rw [List.getElem?_map, hi]; rfl⟩
/-- block t's object o holds f -/
def uS (V : uV) (t o : Nat) (f : Nat → Int32) : uV := va_up V t (va_up (V t) o f)
theorem va_up_s {α : Type} (f : Nat → α) (k : Nat) (v : α) : va_up f k v k = v := if_pos rfl
theorem va_up_n {α : Type} {f : Nat → α} {k j : Nat} {v : α} (h : j ≠ k) : va_up f k v j = f j := if_neg h
theorem va_up_id {α : Type} (f : Nat → α) (k : Nat) : va_up f k (f k) = f := by
  funext j
  by_cases h : j = k
  · subst h; exact va_up_s _ _ _
  · exact va_up_n h
theorem lm_set {α β : Type} (ks : List α) (G G' : α → β) (i : Nat) (k : α) (hi : ks[i]? = some k) (h : ∀ (j : Nat) (k' : α), i ≠ j → ks[j]? = some k' → G' k' = G k') : (ks.map G).set i (G' k) = ks.map G' := by
  apply List.ext_getElem?
  intro j
  rw [List.getElem?_set, List.getElem?_map, List.getElem?_map]
  by_cases hij : i = j
  · subst hij
    have hlt : i < (ks.map G).length := by rw [List.length_map]; exact (List.getElem?_eq_some_iff.mp hi).1
    rw [if_pos rfl, if_pos hlt, hi]; rfl
  · rw [if_neg hij]
    cases hj : ks[j]? with
    | none => rfl
    | some k' => show some (G k') = some (G' k'); rw [h j k' hij hj]
theorem uW_set {g : UG} {V : uV} {A : Nat → Prop} (hD : va_D A (uW g V)) {t o i : Nat} (hi : (gk g)[i]? = some (t, o)) (f : Nat → Int32) : (uW g V).set i (ga g t o, uSh g t o f) = uW g (uS V t o f) := by
  have hat : ∀ (j : Nat) (k : Nat × Nat), (gk g)[j]? = some k → (uW g V)[j]? = some (ga g k.1 k.2, uSh g k.1 k.2 (V k.1 k.2)) := fun j k h => by unfold uW; rw [List.getElem?_map, h]; rfl
  have e := lm_set (gk g) (fun k => (ga g k.1 k.2, uSh g k.1 k.2 (V k.1 k.2))) (fun k => (ga g k.1 k.2, uSh g k.1 k.2 (uS V t o f k.1 k.2))) i (t, o) hi (fun j k hij hj => by
    have hne : ¬ (k.1 = t ∧ k.2 = o) := by
      rintro ⟨e1, e2⟩
      exact hij (hD.1 i j _ _ (hat i _ hi) (hat j _ hj) (by simp only [e1, e2]))
    have e3 : uS V t o f k.1 k.2 = V k.1 k.2 := by
      unfold uS
      by_cases e1 : k.1 = t
      · have e2 : k.2 ≠ o := fun e2 => hne ⟨e1, e2⟩
        rw [e1, va_up_s, va_up_n e2]
      · rw [va_up_n e1]
    show (_, _) = (_, _)
    rw [e3])
  have e4 : uS V t o f t o = f := by unfold uS; rw [va_up_s, va_up_s]
  have e5 : (ga g t o, uSh g t o (uS V t o f t o)) = (ga g t o, uSh g t o f) := by rw [e4]
  exact (congrArg (fun z => (uW g V).set i z) e5.symm).trans e
theorem UH_set {g : UG} {V : uV} {H1 : Heap} {t o i : Nat} {f : Nat → Int32} {A : Nat → Prop} (hD : va_D A (uW g V)) (hi : (gk g)[i]? = some (t, o)) {e : va_E} (he : uSh g t o f = e) (h : va_P (gD g) vwCl ((uW g V).set i (ga g t o, e)) H1) (h2 : va_D (uA g) ((uW g V).set i (ga g t o, e))) : UH g (uS V t o f) H1 := by
  subst he
  rw [uW_set hD hi] at h h2
  exact ⟨h, h2⟩
/-- only what the shapes show of V matters -/
theorem UH_same {g : UG} {V V' : uV} {H : Heap} (h : UH g V H) (e : ∀ t o, (t, o) ∈ gk g → uSh g t o (V t o) = uSh g t o (V' t o)) : UH g V' H := by
  have : uW g V = uW g V' := by
    unfold uW
    exact List.map_congr_left fun k hk => by rw [e k.1 k.2 hk]
  unfold UH
  rw [← this]
  exact h
/-- what throws stand on -/
def isDC (w : Cond) : Bool := match w with
  | .declares _ => true
  | .castable _ _ => true
  | _ => false
def ntbl : List Cond := lw_tbl.filter isDC
theorem isDC_on {w : Cond} (h : isDC w = true) : w.onTables = true := by cases w <;> first | rfl | cases h
theorem isDC_warm {w : Cond} (h : isDC w = true) {s U : State} (hW : s.WarmedH U.vm) (hz : va_Nw w s) : va_Nw w U := by
  cases w <;> first | exact va_Nw.warmD hW hz | exact va_Nw.warmC hW hz | cases h
def uX (g : UG) (U : State) : Prop := vx_Zq Bundle.tN "UNASSIGNED_STACK" Bundle.steD (uA g) U U.heap ∧ vx_Zq Bundle.tN "SUPPRESSED_SENTINEL" Bundle.listD (uA g) U U.heap ∧ (∃ a, vk_R "OfflineGates" 279 "out of range" a U) ∧ (∃ a, vk_R "OfflineGates" 286 "does not exist" a U) ∧ (∃ a, vk_R "OfflineGates" 291 "not now" a U) ∧ (∀ w ∈ ntbl, va_Nw w U) ∧ va_Nc "java/lang/IllegalStateException" "java/lang/IllegalArgumentException" U ∧ va_Nc "java/lang/IllegalArgumentException" "java/lang/IndexOutOfBoundsException" U ∧ va_Nc "java/lang/IllegalStateException" "java/lang/IndexOutOfBoundsException" U
theorem uX.moved {g : UG} {s U : State} {locs : List Loc} (h : uX g s) (hS : va_S (uA g) s.heap U.heap locs) (hW : s.WarmedH U.vm) : uX g U := by
  obtain ⟨h1, h2, ⟨a3, h3⟩, ⟨a4, h4⟩, ⟨a5, h5⟩, h6, h7, h8, h9⟩ := h
  exact ⟨(vx_Zq.moved hW.alike h1).kept (fun a ha hn => hS.2.1 a ha hn), (vx_Zq.moved hW.alike h2).kept (fun a ha hn => hS.2.1 a ha hn), ⟨a3, h3.warm hW⟩, ⟨a4, h4.warm hW⟩, ⟨a5, h5.warm hW⟩, fun w hw => isDC_warm (List.mem_filter.mp hw).2 hW (h6 w hw), h7.moved hW.alike, h8.moved hW.alike, h9.moved hW.alike⟩
def UM (g : UG) (V : uV) (s : State) (H : Heap) (locs : List Loc) : Prop := UH g V H ∧ va_S (uA g) s.heap H locs
theorem UM.mk' {g : UG} {V : uV} {s : State} {H : Heap} {locs : List Loc} (h : UH g V H) (hS : va_S (uA g) s.heap H locs) : UM g V s H locs := ⟨h, hS⟩
theorem um_in {g : UG} {V : uV} {s : State} {H : Heap} {locs : List Loc} (t : Nat) (h : UM g V s H locs) : UM g (va_up V t (V t)) s H locs := by rw [va_up_id]; exact h
theorem um_in2 {g : UG} {V : uV} {t : Nat} {S : Nat → Nat → Int32} {s : State} {H : Heap} {locs : List Loc} (o : Nat) (h : UM g (va_up V t S) s H locs) : UM g (va_up V t (va_up S o (S o))) s H locs := by rw [va_up_id]; exact h
def uPre (g : UG) (V : uV) (U : State) : Prop := UH g V U.heap ∧ va_K (gD g) vwCl (gT g) U ∧ uX g U
abbrev uR (fr lo : Nat) : Room := { frames := fr, cells := 0, slots := 0, locals := lo }
abbrev uQi (g : UG) (ty : FieldType) (r : Int32) (V' : uV) : Array Value → State → Outcome → State → Prop := va_Qi (fun (r' : Int32) (_ : Unit) => r' = r ∧ narrow ty (.int r') = .int r') (fun _ t => UH g V' t.heap) (uA g)
abbrev uQv (g : UG) (V' : uV) : Array Value → State → Outcome → State → Prop := va_Qv (fun (_ : Unit) => True) (fun _ t => UH g V' t.heap) (uA g)
/-- a method that answers an int (of type ty), over the universal world -/
def uMi (l : Launch) (g : UG) (y : MethodName) (bytes : ByteArray) (ml : Nat) (ty : FieldType) (rm : Room) (As : List Value) (V : uV) (r : Int32) (V' : uV) : Prop :=
  Met l y (.code y bytes ml (some ty) :: gtbl) rm (va_Pc As (uPre g V)) (uQi g ty r V') 0 0 (uA g)
def uMv (l : Launch) (g : UG) (y : MethodName) (bytes : ByteArray) (ml : Nat) (rm : Room) (As : List Value) (V : uV) (V' : uV) : Prop :=
  Met l y (.code y bytes ml none :: gtbl) rm (va_Pc As (uPre g V)) (uQv g V') 0 0 (uA g)
/-- what a body stands on -/
def UC (p : Program) (s : State) (m : MethodId) (args : Array Value) (meth : Method) (c : Code) (cc : ByteArray) (nL : Nat) (own : String) (g : UG) : Prop :=
  CallFix p m c cc nL s args gtbl own ∧ va_K (gD g) vwCl (gT g) s ∧ uX g s ∧ meth.locks = false
theorem UC.hx {p : Program} {s : State} {m : MethodId} {args : Array Value} {meth : Method} {c : Code} {cc : ByteArray} {nL : Nat} {own : String} {g : UG} (X : UC p s m args meth c cc nL own g) : p.tables.exec = Jvm.exec := X.1.1
theorem UC.hb {p : Program} {s : State} {m : MethodId} {args : Array Value} {meth : Method} {c : Code} {cc : ByteArray} {nL : Nat} {own : String} {g : UG} (X : UC p s m args meth c cc nL own g) : c.code = cc := X.1.2.1
theorem UC.hts {p : Program} {s : State} {m : MethodId} {args : Array Value} {meth : Method} {c : Code} {cc : ByteArray} {nL : Nat} {own : String} {g : UG} (X : UC p s m args meth c cc nL own g) {w : Cond} (h : w ∈ gtbl) : w.before args s = true := X.1.2.2.2.2 w h
theorem uMi_of {l : Launch} {g : UG} {y : MethodName} {bytes : ByteArray} {ml : Nat} {ty : FieldType} {fr lo : Nat} {As : List Value} {V : uV} {r : Int32} {V' : uV} (hy : plainName y.cls = true) (hlen : (lg_sl As).length ≤ ml)
    (body : ∀ (p : Program) (e : Env) (s : State) (m : MethodId) (args : Array Value) (below : List Frame) (meth : Method) (c : Code) (ls : Array Slot), UC p s m args meth c bytes ml y.cls g → meth.sig.returnType = some ty → lv_has ls ml (lv_args 0 As) → UM g V s s.heap [] →
      W p l e (uR fr lo) s m args below meth c s.heap [] 0 0 (MQ below (uQi g ty r V') args s 0 0 (uA g)) (F0 m 0 ls [])) : uMi l g y bytes ml ty (uR fr lo) As V r V' := by
  refine Met.ofW (cc := bytes) (maxL := ml) (ret := some ty) hy rfl ?_
  intro p e s m args below meth c s₁ B hml hv
  obtain ⟨rfl, hU, hK, hX⟩ := hv
  have hts := atoms_spec (ws := .code y bytes ml (some ty) :: gtbl) B.pre
  have hl := lv_entry As (n := ml) hlen
  rw [lg_entry_eq]
  exact body p e s m As.toArray below meth c _ ⟨⟨B.exec, B.bytes, hml, findClass_of_methodNamed B.named, fun w h => hts w (List.mem_cons_of_mem _ h)⟩, hK, hX, B.notSynchronized⟩ B.returns hl ⟨hU, va_S.rf⟩
theorem uMv_of {l : Launch} {g : UG} {y : MethodName} {bytes : ByteArray} {ml : Nat} {fr lo : Nat} {As : List Value} {V : uV} {V' : uV} (hy : plainName y.cls = true) (hlen : (lg_sl As).length ≤ ml)
    (body : ∀ (p : Program) (e : Env) (s : State) (m : MethodId) (args : Array Value) (below : List Frame) (meth : Method) (c : Code) (ls : Array Slot), UC p s m args meth c bytes ml y.cls g → meth.sig.returnType = none → lv_has ls ml (lv_args 0 As) → UM g V s s.heap [] →
      W p l e (uR fr lo) s m args below meth c s.heap [] 0 0 (MQ below (uQv g V') args s 0 0 (uA g)) (F0 m 0 ls [])) : uMv l g y bytes ml (uR fr lo) As V V' := by
  refine Met.ofW (cc := bytes) (maxL := ml) (ret := none) hy rfl ?_
  intro p e s m args below meth c s₁ B hml hv
  obtain ⟨rfl, hU, hK, hX⟩ := hv
  have hts := atoms_spec (ws := .code y bytes ml none :: gtbl) B.pre
  have hl := lv_entry As (n := ml) hlen
  rw [lg_entry_eq]
  exact body p e s m As.toArray below meth c _ ⟨⟨B.exec, B.bytes, hml, findClass_of_methodNamed B.named, fun w h => hts w (List.mem_cons_of_mem _ h)⟩, hK, hX, B.notSynchronized⟩ B.returns hl ⟨hU, va_S.rf⟩
